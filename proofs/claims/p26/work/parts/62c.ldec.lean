/-! ===== 62c.ldec: the law's rows ===== -/
theorem dL_isWish_114 : decode cL_isWish 114 = .ok (.iinc 9 1, 3) := by decide +kernel
theorem dL_isWish_117 : decode cL_isWish 117 = .ok (.goto (-33), 3) := by decide +kernel
theorem dL_isWish_120 : decode cL_isWish 120 = .ok (.iload 4, 2) := by decide +kernel
theorem dL_isWish_122 : decode cL_isWish 122 = .ok (.ifCond .lt 48, 3) := by decide +kernel
theorem dL_isWish_125 : decode cL_isWish 125 = .ok (.aload_n 0, 1) := by decide +kernel
theorem dL_isWish_126 : decode cL_isWish 126 = .ok (.iload 4, 2) := by decide +kernel
theorem dL_isWish_128 : decode cL_isWish 128 = .ok (.iconst 1, 1) := by decide +kernel
theorem dL_isWish_129 : decode cL_isWish 129 = .ok (.invokevirtual 47, 3) := by decide +kernel
theorem dL_isWish_132 : decode cL_isWish 132 = .ok (.istore 9, 2) := by decide +kernel
theorem dL_isWish_134 : decode cL_isWish 134 = .ok (.aload_n 0, 1) := by decide +kernel
theorem dL_isWish_135 : decode cL_isWish 135 = .ok (.iload_n 1, 1) := by decide +kernel
theorem dL_isWish_136 : decode cL_isWish 136 = .ok (.iload_n 2, 1) := by decide +kernel
theorem dL_isWish_137 : decode cL_isWish 137 = .ok (.bipush (-9), 2) := by decide +kernel
theorem dL_isWish_139 : decode cL_isWish 139 = .ok (.invokevirtual 86, 3) := by decide +kernel
theorem dL_isWish_142 : decode cL_isWish 142 = .ok (.istore 10, 2) := by decide +kernel
theorem dL_isWish_144 : decode cL_isWish 144 = .ok (.iload 9, 2) := by decide +kernel
theorem dL_isWish_146 : decode cL_isWish 146 = .ok (.iconst 1, 1) := by decide +kernel
theorem dL_isWish_147 : decode cL_isWish 147 = .ok (.if_icmp .lt 21, 3) := by decide +kernel
theorem dL_isWish_150 : decode cL_isWish 150 = .ok (.iload 10, 2) := by decide +kernel
theorem dL_isWish_152 : decode cL_isWish 152 = .ok (.ifCond .lt 16, 3) := by decide +kernel
theorem dL_isWish_155 : decode cL_isWish 155 = .ok (.iload 10, 2) := by decide +kernel
theorem dL_isWish_157 : decode cL_isWish 157 = .ok (.iload_n 3, 1) := by decide +kernel
theorem dL_isWish_158 : decode cL_isWish 158 = .ok (.if_icmp .ge 10, 3) := by decide +kernel
theorem dL_isWish_161 : decode cL_isWish 161 = .ok (.aload_n 0, 1) := by decide +kernel
theorem dL_isWish_162 : decode cL_isWish 162 = .ok (.invokevirtual 56, 3) := by decide +kernel
theorem dL_isWish_165 : decode cL_isWish 165 = .ok (.ifCond .ge 5, 3) := by decide +kernel
theorem dL_isWish_168 : decode cL_isWish 168 = .ok (.iconst 0, 1) := by decide +kernel
theorem dL_isWish_169 : decode cL_isWish 169 = .ok (.ireturn, 1) := by decide +kernel
theorem dL_isWish_170 : decode cL_isWish 170 = .ok (.bipush 20, 2) := by decide +kernel
theorem dL_isWish_172 : decode cL_isWish 172 = .ok (.newarray .int, 2) := by decide +kernel
theorem dL_isWish_174 : decode cL_isWish 174 = .ok (.astore 9, 2) := by decide +kernel
theorem dL_isWish_176 : decode cL_isWish 176 = .ok (.iconst 0, 1) := by decide +kernel
theorem dL_isWish_177 : decode cL_isWish 177 = .ok (.istore 10, 2) := by decide +kernel
theorem dL_isWish_179 : decode cL_isWish 179 = .ok (.iload 10, 2) := by decide +kernel
theorem dL_isWish_181 : decode cL_isWish 181 = .ok (.bipush 20, 2) := by decide +kernel
theorem dL_isWish_183 : decode cL_isWish 183 = .ok (.if_icmp .ge 22, 3) := by decide +kernel
theorem dL_isWish_186 : decode cL_isWish 186 = .ok (.aload 9, 2) := by decide +kernel
theorem dL_isWish_188 : decode cL_isWish 188 = .ok (.iload 10, 2) := by decide +kernel
theorem dL_isWish_190 : decode cL_isWish 190 = .ok (.aload_n 0, 1) := by decide +kernel
theorem dL_isWish_191 : decode cL_isWish 191 = .ok (.iload 10, 2) := by decide +kernel
theorem dL_isWish_193 : decode cL_isWish 193 = .ok (.bipush 6, 2) := by decide +kernel
theorem dL_isWish_195 : decode cL_isWish 195 = .ok (.invokevirtual 65, 3) := by decide +kernel
theorem dL_isWish_198 : decode cL_isWish 198 = .ok (.iastore, 1) := by decide +kernel
theorem dL_isWish_199 : decode cL_isWish 199 = .ok (.iinc 10 1, 3) := by decide +kernel
theorem dL_isWish_202 : decode cL_isWish 202 = .ok (.goto (-23), 3) := by decide +kernel
theorem dL_isWish_205 : decode cL_isWish 205 = .ok (.iload 8, 2) := by decide +kernel
theorem dL_isWish_207 : decode cL_isWish 207 = .ok (.iload_n 3, 1) := by decide +kernel
theorem dL_isWish_208 : decode cL_isWish 208 = .ok (.if_icmp .ne 56, 3) := by decide +kernel
theorem dL_isWish_211 : decode cL_isWish 211 = .ok (.aload_n 0, 1) := by decide +kernel
theorem dL_isWish_212 : decode cL_isWish 212 = .ok (.iload_n 1, 1) := by decide +kernel
theorem dL_isWish_213 : decode cL_isWish 213 = .ok (.iload_n 2, 1) := by decide +kernel
theorem dL_isWish_214 : decode cL_isWish 214 = .ok (.invokevirtual 50, 3) := by decide +kernel
theorem dL_isWish_217 : decode cL_isWish 217 = .ok (.iload_n 3, 1) := by decide +kernel
theorem dL_isWish_218 : decode cL_isWish 218 = .ok (.if_icmp .ne 46, 3) := by decide +kernel
theorem dL_isWish_221 : decode cL_isWish 221 = .ok (.aload_n 0, 1) := by decide +kernel
theorem dL_isWish_222 : decode cL_isWish 222 = .ok (.iconst 2, 1) := by decide +kernel
theorem dL_isWish_223 : decode cL_isWish 223 = .ok (.invokevirtual 69, 3) := by decide +kernel
theorem dL_isWish_226 : decode cL_isWish 226 = .ok (.iload 5, 2) := by decide +kernel
theorem dL_isWish_228 : decode cL_isWish 228 = .ok (.iload_n 3, 1) := by decide +kernel
theorem dL_isWish_229 : decode cL_isWish 229 = .ok (.iadd, 1) := by decide +kernel
theorem dL_isWish_230 : decode cL_isWish 230 = .ok (.if_icmp .ne 34, 3) := by decide +kernel
theorem dL_isWish_233 : decode cL_isWish 233 = .ok (.aload_n 0, 1) := by decide +kernel
theorem dL_isWish_234 : decode cL_isWish 234 = .ok (.iload_n 1, 1) := by decide +kernel
theorem dL_isWish_235 : decode cL_isWish 235 = .ok (.iconst 0, 1) := by decide +kernel
theorem dL_isWish_236 : decode cL_isWish 236 = .ok (.invokevirtual 65, 3) := by decide +kernel
theorem dL_isWish_239 : decode cL_isWish 239 = .ok (.iload_n 2, 1) := by decide +kernel
theorem dL_isWish_240 : decode cL_isWish 240 = .ok (.if_icmp .lt 24, 3) := by decide +kernel
theorem dL_isWish_243 : decode cL_isWish 243 = .ok (.iload 6, 2) := by decide +kernel
theorem dL_isWish_245 : decode cL_isWish 245 = .ok (.iload_n 2, 1) := by decide +kernel
theorem dL_isWish_246 : decode cL_isWish 246 = .ok (.if_icmp .lt 14, 3) := by decide +kernel
theorem dL_isWish_249 : decode cL_isWish 249 = .ok (.aload_n 0, 1) := by decide +kernel
theorem dL_isWish_250 : decode cL_isWish 250 = .ok (.iload_n 1, 1) := by decide +kernel
theorem dL_isWish_251 : decode cL_isWish 251 = .ok (.iconst 0, 1) := by decide +kernel
theorem dL_isWish_252 : decode cL_isWish 252 = .ok (.invokevirtual 65, 3) := by decide +kernel
theorem dL_isWish_255 : decode cL_isWish 255 = .ok (.iload 6, 2) := by decide +kernel
theorem dL_isWish_257 : decode cL_isWish 257 = .ok (.if_icmp .ne 7, 3) := by decide +kernel
theorem dL_isWish_260 : decode cL_isWish 260 = .ok (.iconst 1, 1) := by decide +kernel
theorem dL_isWish_261 : decode cL_isWish 261 = .ok (.goto 4, 3) := by decide +kernel
theorem dL_isWish_264 : decode cL_isWish 264 = .ok (.iconst 0, 1) := by decide +kernel
theorem dL_isWish_265 : decode cL_isWish 265 = .ok (.istore 10, 2) := by decide +kernel
theorem dL_isWish_267 : decode cL_isWish 267 = .ok (.iconst 0, 1) := by decide +kernel
theorem dL_isWish_268 : decode cL_isWish 268 = .ok (.istore 11, 2) := by decide +kernel
theorem dL_isWish_270 : decode cL_isWish 270 = .ok (.iload 11, 2) := by decide +kernel
theorem dL_isWish_272 : decode cL_isWish 272 = .ok (.bipush 20, 2) := by decide +kernel
theorem dL_isWish_274 : decode cL_isWish 274 = .ok (.if_icmp .ge 43, 3) := by decide +kernel
theorem dL_isWish_277 : decode cL_isWish 277 = .ok (.iload 10, 2) := by decide +kernel
theorem dL_isWish_279 : decode cL_isWish 279 = .ok (.ifCond .eq 29, 3) := by decide +kernel
theorem dL_isWish_282 : decode cL_isWish 282 = .ok (.aload_n 0, 1) := by decide +kernel
theorem dL_isWish_283 : decode cL_isWish 283 = .ok (.iload 11, 2) := by decide +kernel
theorem dL_isWish_285 : decode cL_isWish 285 = .ok (.bipush 6, 2) := by decide +kernel
theorem dL_isWish_287 : decode cL_isWish 287 = .ok (.invokevirtual 65, 3) := by decide +kernel
theorem dL_isWish_290 : decode cL_isWish 290 = .ok (.aload 9, 2) := by decide +kernel
theorem dL_isWish_292 : decode cL_isWish 292 = .ok (.iload 11, 2) := by decide +kernel
theorem dL_isWish_294 : decode cL_isWish 294 = .ok (.iaload, 1) := by decide +kernel
theorem dL_isWish_295 : decode cL_isWish 295 = .ok (.aload 7, 2) := by decide +kernel
theorem dL_isWish_297 : decode cL_isWish 297 = .ok (.iload 11, 2) := by decide +kernel
theorem dL_isWish_299 : decode cL_isWish 299 = .ok (.iaload, 1) := by decide +kernel
theorem dL_isWish_300 : decode cL_isWish 300 = .ok (.iadd, 1) := by decide +kernel
theorem dL_isWish_301 : decode cL_isWish 301 = .ok (.if_icmp .ne 7, 3) := by decide +kernel
theorem dL_isWish_304 : decode cL_isWish 304 = .ok (.iconst 1, 1) := by decide +kernel
theorem dL_isWish_305 : decode cL_isWish 305 = .ok (.goto 4, 3) := by decide +kernel
theorem dL_isWish_308 : decode cL_isWish 308 = .ok (.iconst 0, 1) := by decide +kernel
theorem dL_isWish_309 : decode cL_isWish 309 = .ok (.istore 10, 2) := by decide +kernel
theorem dL_isWish_311 : decode cL_isWish 311 = .ok (.iinc 11 1, 3) := by decide +kernel
theorem dL_isWish_314 : decode cL_isWish 314 = .ok (.goto (-44), 3) := by decide +kernel
theorem dL_isWish_317 : decode cL_isWish 317 = .ok (.iload 10, 2) := by decide +kernel
theorem dL_isWish_319 : decode cL_isWish 319 = .ok (.ifCond .eq 35, 3) := by decide +kernel
theorem dL_isWish_322 : decode cL_isWish 322 = .ok (.aload_n 0, 1) := by decide +kernel
theorem dL_isWish_323 : decode cL_isWish 323 = .ok (.iload_n 1, 1) := by decide +kernel
theorem dL_isWish_324 : decode cL_isWish 324 = .ok (.iload_n 2, 1) := by decide +kernel
theorem dL_isWish_325 : decode cL_isWish 325 = .ok (.bipush (-9), 2) := by decide +kernel
theorem dL_isWish_327 : decode cL_isWish 327 = .ok (.invokevirtual 86, 3) := by decide +kernel
theorem dL_isWish_330 : decode cL_isWish 330 = .ok (.ifCond .ne 24, 3) := by decide +kernel
theorem dL_isWish_333 : decode cL_isWish 333 = .ok (.aload_n 0, 1) := by decide +kernel
theorem dL_isWish_334 : decode cL_isWish 334 = .ok (.invokevirtual 56, 3) := by decide +kernel
theorem dL_isWish_337 : decode cL_isWish 337 = .ok (.ifCond .lt 17, 3) := by decide +kernel
theorem dL_isWish_340 : decode cL_isWish 340 = .ok (.aload_n 0, 1) := by decide +kernel
theorem dL_isWish_341 : decode cL_isWish 341 = .ok (.iconst 2, 1) := by decide +kernel
theorem dL_isWish_342 : decode cL_isWish 342 = .ok (.invokevirtual 69, 3) := by decide +kernel
theorem dL_isWish_345 : decode cL_isWish 345 = .ok (.iload 5, 2) := by decide +kernel
theorem dL_isWish_347 : decode cL_isWish 347 = .ok (.if_icmp .ne 7, 3) := by decide +kernel
theorem dL_isWish_350 : decode cL_isWish 350 = .ok (.iconst 1, 1) := by decide +kernel
theorem dL_isWish_351 : decode cL_isWish 351 = .ok (.goto 4, 3) := by decide +kernel
theorem dL_isWish_354 : decode cL_isWish 354 = .ok (.iconst 0, 1) := by decide +kernel
theorem dL_isWish_355 : decode cL_isWish 355 = .ok (.ireturn, 1) := by decide +kernel
theorem dL_canHave_0 : decode cL_canHave 0 = .ok (.aload_n 0, 1) := by decide +kernel
theorem dL_canHave_1 : decode cL_canHave 1 = .ok (.iload_n 1, 1) := by decide +kernel
theorem dL_canHave_2 : decode cL_canHave 2 = .ok (.invokevirtual 92, 3) := by decide +kernel
theorem dL_canHave_5 : decode cL_canHave 5 = .ok (.istore_n 2, 1) := by decide +kernel
theorem dL_canHave_6 : decode cL_canHave 6 = .ok (.iload_n 2, 1) := by decide +kernel
theorem dL_canHave_7 : decode cL_canHave 7 = .ok (.ifCond .lt 57, 3) := by decide +kernel
theorem dL_canHave_10 : decode cL_canHave 10 = .ok (.iload_n 2, 1) := by decide +kernel
theorem dL_canHave_11 : decode cL_canHave 11 = .ok (.sipush 999, 3) := by decide +kernel
theorem dL_canHave_14 : decode cL_canHave 14 = .ok (.if_icmp .gt 50, 3) := by decide +kernel
theorem dL_canHave_17 : decode cL_canHave 17 = .ok (.iload_n 2, 1) := by decide +kernel
theorem dL_canHave_18 : decode cL_canHave 18 = .ok (.ifCond .eq 14, 3) := by decide +kernel
theorem dL_canHave_21 : decode cL_canHave 21 = .ok (.aload_n 0, 1) := by decide +kernel
theorem dL_canHave_22 : decode cL_canHave 22 = .ok (.iload_n 1, 1) := by decide +kernel
theorem dL_canHave_23 : decode cL_canHave 23 = .ok (.iload_n 2, 1) := by decide +kernel
theorem dL_canHave_24 : decode cL_canHave 24 = .ok (.bipush (-9), 2) := by decide +kernel
theorem dL_canHave_26 : decode cL_canHave 26 = .ok (.invokevirtual 86, 3) := by decide +kernel
theorem dL_canHave_29 : decode cL_canHave 29 = .ok (.ifCond .ne 35, 3) := by decide +kernel
theorem dL_canHave_32 : decode cL_canHave 32 = .ok (.iload_n 2, 1) := by decide +kernel
theorem dL_canHave_33 : decode cL_canHave 33 = .ok (.aload_n 0, 1) := by decide +kernel
theorem dL_canHave_34 : decode cL_canHave 34 = .ok (.iload_n 1, 1) := by decide +kernel
theorem dL_canHave_35 : decode cL_canHave 35 = .ok (.iconst 0, 1) := by decide +kernel
theorem dL_canHave_36 : decode cL_canHave 36 = .ok (.invokevirtual 65, 3) := by decide +kernel
theorem dL_canHave_39 : decode cL_canHave 39 = .ok (.sipush 999, 3) := by decide +kernel
theorem dL_canHave_42 : decode cL_canHave 42 = .ok (.if_icmp .le 9, 3) := by decide +kernel
theorem dL_canHave_45 : decode cL_canHave 45 = .ok (.sipush 999, 3) := by decide +kernel
theorem dL_canHave_48 : decode cL_canHave 48 = .ok (.goto 9, 3) := by decide +kernel
theorem dL_canHave_51 : decode cL_canHave 51 = .ok (.aload_n 0, 1) := by decide +kernel
theorem dL_canHave_52 : decode cL_canHave 52 = .ok (.iload_n 1, 1) := by decide +kernel
theorem dL_canHave_53 : decode cL_canHave 53 = .ok (.iconst 0, 1) := by decide +kernel
theorem dL_canHave_54 : decode cL_canHave 54 = .ok (.invokevirtual 65, 3) := by decide +kernel
theorem dL_canHave_57 : decode cL_canHave 57 = .ok (.if_icmp .lt 7, 3) := by decide +kernel
theorem dL_canHave_60 : decode cL_canHave 60 = .ok (.iconst 1, 1) := by decide +kernel
theorem dL_canHave_61 : decode cL_canHave 61 = .ok (.goto 4, 3) := by decide +kernel
theorem dL_canHave_64 : decode cL_canHave 64 = .ok (.iconst 0, 1) := by decide +kernel
theorem dL_canHave_65 : decode cL_canHave 65 = .ok (.istore_n 3, 1) := by decide +kernel
theorem dL_canHave_66 : decode cL_canHave 66 = .ok (.iload_n 3, 1) := by decide +kernel
theorem dL_canHave_67 : decode cL_canHave 67 = .ok (.ifCond .eq 27, 3) := by decide +kernel
theorem dL_canHave_70 : decode cL_canHave 70 = .ok (.iload_n 2, 1) := by decide +kernel
theorem dL_canHave_71 : decode cL_canHave 71 = .ok (.sipush 999, 3) := by decide +kernel
theorem dL_canHave_74 : decode cL_canHave 74 = .ok (.if_icmp .eq 16, 3) := by decide +kernel
theorem dL_canHave_77 : decode cL_canHave 77 = .ok (.aload_n 0, 1) := by decide +kernel
theorem dL_canHave_78 : decode cL_canHave 78 = .ok (.iload_n 1, 1) := by decide +kernel
theorem dL_canHave_79 : decode cL_canHave 79 = .ok (.iload_n 2, 1) := by decide +kernel
theorem dL_canHave_80 : decode cL_canHave 80 = .ok (.iconst 1, 1) := by decide +kernel
theorem dL_canHave_81 : decode cL_canHave 81 = .ok (.iadd, 1) := by decide +kernel
theorem dL_canHave_82 : decode cL_canHave 82 = .ok (.bipush (-9), 2) := by decide +kernel
theorem dL_canHave_84 : decode cL_canHave 84 = .ok (.invokevirtual 86, 3) := by decide +kernel
theorem dL_canHave_87 : decode cL_canHave 87 = .ok (.ifCond .eq 7, 3) := by decide +kernel
theorem dL_canHave_90 : decode cL_canHave 90 = .ok (.iconst 1, 1) := by decide +kernel
theorem dL_canHave_91 : decode cL_canHave 91 = .ok (.goto 4, 3) := by decide +kernel
theorem dL_canHave_94 : decode cL_canHave 94 = .ok (.iconst 0, 1) := by decide +kernel
theorem dL_canHave_95 : decode cL_canHave 95 = .ok (.ireturn, 1) := by decide +kernel
theorem dL_areAlike_0 : decode cL_areAlike 0 = .ok (.aload_n 0, 1) := by decide +kernel
theorem dL_areAlike_1 : decode cL_areAlike 1 = .ok (.invokevirtual 72, 3) := by decide +kernel
theorem dL_areAlike_4 : decode cL_areAlike 4 = .ok (.aload_n 1, 1) := by decide +kernel
theorem dL_areAlike_5 : decode cL_areAlike 5 = .ok (.invokevirtual 72, 3) := by decide +kernel
theorem dL_areAlike_8 : decode cL_areAlike 8 = .ok (.fcmp .l, 1) := by decide +kernel
theorem dL_areAlike_9 : decode cL_areAlike 9 = .ok (.ifCond .ne 20, 3) := by decide +kernel
theorem dL_areAlike_12 : decode cL_areAlike 12 = .ok (.aload_n 0, 1) := by decide +kernel
theorem dL_areAlike_13 : decode cL_areAlike 13 = .ok (.iconst 0, 1) := by decide +kernel
theorem dL_areAlike_14 : decode cL_areAlike 14 = .ok (.invokevirtual 92, 3) := by decide +kernel
theorem dL_areAlike_17 : decode cL_areAlike 17 = .ok (.aload_n 1, 1) := by decide +kernel
theorem dL_areAlike_18 : decode cL_areAlike 18 = .ok (.iconst 0, 1) := by decide +kernel
theorem dL_areAlike_19 : decode cL_areAlike 19 = .ok (.invokevirtual 92, 3) := by decide +kernel
theorem dL_areAlike_22 : decode cL_areAlike 22 = .ok (.if_icmp .ne 7, 3) := by decide +kernel
theorem dL_areAlike_25 : decode cL_areAlike 25 = .ok (.iconst 1, 1) := by decide +kernel
theorem dL_areAlike_26 : decode cL_areAlike 26 = .ok (.goto 4, 3) := by decide +kernel
theorem dL_areAlike_29 : decode cL_areAlike 29 = .ok (.iconst 0, 1) := by decide +kernel
theorem dL_areAlike_30 : decode cL_areAlike 30 = .ok (.istore_n 2, 1) := by decide +kernel
theorem dL_areAlike_31 : decode cL_areAlike 31 = .ok (.iconst 0, 1) := by decide +kernel
theorem dL_areAlike_32 : decode cL_areAlike 32 = .ok (.istore_n 3, 1) := by decide +kernel
theorem dL_areAlike_33 : decode cL_areAlike 33 = .ok (.iload_n 3, 1) := by decide +kernel
theorem dL_areAlike_34 : decode cL_areAlike 34 = .ok (.bipush 6, 2) := by decide +kernel
theorem dL_areAlike_36 : decode cL_areAlike 36 = .ok (.if_icmp .ge 32, 3) := by decide +kernel
theorem dL_areAlike_39 : decode cL_areAlike 39 = .ok (.iload_n 2, 1) := by decide +kernel
theorem dL_areAlike_40 : decode cL_areAlike 40 = .ok (.ifCond .eq 20, 3) := by decide +kernel
theorem dL_areAlike_43 : decode cL_areAlike 43 = .ok (.aload_n 0, 1) := by decide +kernel
theorem dL_areAlike_44 : decode cL_areAlike 44 = .ok (.iload_n 3, 1) := by decide +kernel
theorem dL_areAlike_45 : decode cL_areAlike 45 = .ok (.invokevirtual 69, 3) := by decide +kernel
theorem dL_areAlike_48 : decode cL_areAlike 48 = .ok (.aload_n 1, 1) := by decide +kernel
theorem dL_areAlike_49 : decode cL_areAlike 49 = .ok (.iload_n 3, 1) := by decide +kernel
theorem dL_areAlike_50 : decode cL_areAlike 50 = .ok (.invokevirtual 69, 3) := by decide +kernel
theorem dL_areAlike_53 : decode cL_areAlike 53 = .ok (.if_icmp .ne 7, 3) := by decide +kernel
theorem dL_areAlike_56 : decode cL_areAlike 56 = .ok (.iconst 1, 1) := by decide +kernel
theorem dL_areAlike_57 : decode cL_areAlike 57 = .ok (.goto 4, 3) := by decide +kernel
theorem dL_areAlike_60 : decode cL_areAlike 60 = .ok (.iconst 0, 1) := by decide +kernel
theorem dL_areAlike_61 : decode cL_areAlike 61 = .ok (.istore_n 2, 1) := by decide +kernel
theorem dL_areAlike_62 : decode cL_areAlike 62 = .ok (.iinc 3 1, 3) := by decide +kernel
theorem dL_areAlike_65 : decode cL_areAlike 65 = .ok (.goto (-32), 3) := by decide +kernel
theorem dL_areAlike_68 : decode cL_areAlike 68 = .ok (.iconst 0, 1) := by decide +kernel
theorem dL_areAlike_69 : decode cL_areAlike 69 = .ok (.istore_n 3, 1) := by decide +kernel
theorem dL_areAlike_70 : decode cL_areAlike 70 = .ok (.iload_n 3, 1) := by decide +kernel
theorem dL_areAlike_71 : decode cL_areAlike 71 = .ok (.bipush 20, 2) := by decide +kernel
theorem dL_areAlike_73 : decode cL_areAlike 73 = .ok (.if_icmp .ge 52, 3) := by decide +kernel
theorem dL_areAlike_76 : decode cL_areAlike 76 = .ok (.iconst 0, 1) := by decide +kernel
theorem dL_areAlike_77 : decode cL_areAlike 77 = .ok (.istore 4, 2) := by decide +kernel
theorem dL_areAlike_79 : decode cL_areAlike 79 = .ok (.iload 4, 2) := by decide +kernel
theorem dL_areAlike_81 : decode cL_areAlike 81 = .ok (.bipush 11, 2) := by decide +kernel
theorem dL_areAlike_83 : decode cL_areAlike 83 = .ok (.if_icmp .ge 36, 3) := by decide +kernel
theorem dL_areAlike_86 : decode cL_areAlike 86 = .ok (.iload_n 2, 1) := by decide +kernel
theorem dL_areAlike_87 : decode cL_areAlike 87 = .ok (.ifCond .eq 24, 3) := by decide +kernel
theorem dL_areAlike_90 : decode cL_areAlike 90 = .ok (.aload_n 0, 1) := by decide +kernel
theorem dL_areAlike_91 : decode cL_areAlike 91 = .ok (.iload_n 3, 1) := by decide +kernel
theorem dL_areAlike_92 : decode cL_areAlike 92 = .ok (.iload 4, 2) := by decide +kernel
theorem dL_areAlike_94 : decode cL_areAlike 94 = .ok (.invokevirtual 65, 3) := by decide +kernel
theorem dL_areAlike_97 : decode cL_areAlike 97 = .ok (.aload_n 1, 1) := by decide +kernel
theorem dL_areAlike_98 : decode cL_areAlike 98 = .ok (.iload_n 3, 1) := by decide +kernel
theorem dL_areAlike_99 : decode cL_areAlike 99 = .ok (.iload 4, 2) := by decide +kernel
theorem dL_areAlike_101 : decode cL_areAlike 101 = .ok (.invokevirtual 65, 3) := by decide +kernel
theorem dL_areAlike_104 : decode cL_areAlike 104 = .ok (.if_icmp .ne 7, 3) := by decide +kernel
theorem dL_areAlike_107 : decode cL_areAlike 107 = .ok (.iconst 1, 1) := by decide +kernel
theorem dL_areAlike_108 : decode cL_areAlike 108 = .ok (.goto 4, 3) := by decide +kernel
theorem dL_areAlike_111 : decode cL_areAlike 111 = .ok (.iconst 0, 1) := by decide +kernel
theorem dL_areAlike_112 : decode cL_areAlike 112 = .ok (.istore_n 2, 1) := by decide +kernel
theorem dL_areAlike_113 : decode cL_areAlike 113 = .ok (.iinc 4 1, 3) := by decide +kernel
theorem dL_areAlike_116 : decode cL_areAlike 116 = .ok (.goto (-37), 3) := by decide +kernel
theorem dL_areAlike_119 : decode cL_areAlike 119 = .ok (.iinc 3 1, 3) := by decide +kernel
theorem dL_areAlike_122 : decode cL_areAlike 122 = .ok (.goto (-52), 3) := by decide +kernel
theorem dL_areAlike_125 : decode cL_areAlike 125 = .ok (.iload_n 2, 1) := by decide +kernel
theorem dL_areAlike_126 : decode cL_areAlike 126 = .ok (.ireturn, 1) := by decide +kernel
theorem dL_law_0 : decode cL_law 0 = .ok (.new 10, 3) := by decide +kernel
theorem dL_law_3 : decode cL_law 3 = .ok (.dup, 1) := by decide +kernel
theorem dL_law_4 : decode cL_law 4 = .ok (.invokespecial 95, 3) := by decide +kernel
theorem dL_law_7 : decode cL_law 7 = .ok (.astore_n 1, 1) := by decide +kernel
theorem dL_law_8 : decode cL_law 8 = .ok (.new 10, 3) := by decide +kernel
theorem dL_law_11 : decode cL_law 11 = .ok (.dup, 1) := by decide +kernel
theorem dL_law_12 : decode cL_law 12 = .ok (.invokespecial 95, 3) := by decide +kernel
theorem dL_law_15 : decode cL_law 15 = .ok (.astore_n 2, 1) := by decide +kernel
theorem dL_law_16 : decode cL_law 16 = .ok (.iconst 0, 1) := by decide +kernel
theorem dL_law_17 : decode cL_law 17 = .ok (.istore_n 3, 1) := by decide +kernel
theorem dL_law_18 : decode cL_law 18 = .ok (.iload_n 3, 1) := by decide +kernel
theorem dL_law_19 : decode cL_law 19 = .ok (.bipush 40, 2) := by decide +kernel
theorem dL_law_21 : decode cL_law 21 = .ok (.if_icmp .ge 140, 3) := by decide +kernel
theorem dL_law_24 : decode cL_law 24 = .ok (.aload_n 0, 1) := by decide +kernel
theorem dL_law_25 : decode cL_law 25 = .ok (.iconst 2, 1) := by decide +kernel
theorem dL_law_26 : decode cL_law 26 = .ok (.iload_n 3, 1) := by decide +kernel
theorem dL_law_27 : decode cL_law 27 = .ok (.imul, 1) := by decide +kernel
theorem dL_law_28 : decode cL_law 28 = .ok (.invokestatic 96, 3) := by decide +kernel
theorem dL_law_31 : decode cL_law 31 = .ok (.istore 4, 2) := by decide +kernel
theorem dL_law_33 : decode cL_law 33 = .ok (.aload_n 0, 1) := by decide +kernel
theorem dL_law_34 : decode cL_law 34 = .ok (.iconst 2, 1) := by decide +kernel
theorem dL_law_35 : decode cL_law 35 = .ok (.iload_n 3, 1) := by decide +kernel
theorem dL_law_36 : decode cL_law 36 = .ok (.imul, 1) := by decide +kernel
theorem dL_law_37 : decode cL_law 37 = .ok (.iconst 1, 1) := by decide +kernel
theorem dL_law_38 : decode cL_law 38 = .ok (.iadd, 1) := by decide +kernel
theorem dL_law_39 : decode cL_law 39 = .ok (.invokestatic 96, 3) := by decide +kernel
theorem dL_law_42 : decode cL_law 42 = .ok (.istore 5, 2) := by decide +kernel
theorem dL_law_44 : decode cL_law 44 = .ok (.iload 4, 2) := by decide +kernel
theorem dL_law_46 : decode cL_law 46 = .ok (.bipush 22, 2) := by decide +kernel
theorem dL_law_48 : decode cL_law 48 = .ok (.invokestatic 19, 3) := by decide +kernel
theorem dL_law_51 : decode cL_law 51 = .ok (.bipush 19, 2) := by decide +kernel
theorem dL_law_53 : decode cL_law 53 = .ok (.if_icmp .eq 22, 3) := by decide +kernel
theorem dL_law_56 : decode cL_law 56 = .ok (.aload_n 1, 1) := by decide +kernel
theorem dL_law_57 : decode cL_law 57 = .ok (.iload 4, 2) := by decide +kernel
theorem dL_law_59 : decode cL_law 59 = .ok (.iload 5, 2) := by decide +kernel
theorem dL_law_61 : decode cL_law 61 = .ok (.invokestatic 100, 3) := by decide +kernel
theorem dL_law_64 : decode cL_law 64 = .ok (.aload_n 2, 1) := by decide +kernel
theorem dL_law_65 : decode cL_law 65 = .ok (.iload 4, 2) := by decide +kernel
theorem dL_law_67 : decode cL_law 67 = .ok (.iload 5, 2) := by decide +kernel
theorem dL_law_69 : decode cL_law 69 = .ok (.invokestatic 100, 3) := by decide +kernel
theorem dL_law_72 : decode cL_law 72 = .ok (.if_icmp .ne 26, 3) := by decide +kernel
theorem dL_law_75 : decode cL_law 75 = .ok (.aload_n 1, 1) := by decide +kernel
theorem dL_law_76 : decode cL_law 76 = .ok (.invokestatic 103, 3) := by decide +kernel
theorem dL_law_79 : decode cL_law 79 = .ok (.ifCond .eq 19, 3) := by decide +kernel
theorem dL_law_82 : decode cL_law 82 = .ok (.aload_n 1, 1) := by decide +kernel
theorem dL_law_83 : decode cL_law 83 = .ok (.iload 5, 2) := by decide +kernel
theorem dL_law_85 : decode cL_law 85 = .ok (.iconst 4, 1) := by decide +kernel
theorem dL_law_86 : decode cL_law 86 = .ok (.ishr, 1) := by decide +kernel
theorem dL_law_87 : decode cL_law 87 = .ok (.bipush 20, 2) := by decide +kernel
theorem dL_law_89 : decode cL_law 89 = .ok (.invokestatic 19, 3) := by decide +kernel
theorem dL_law_92 : decode cL_law 92 = .ok (.invokestatic 107, 3) := by decide +kernel
theorem dL_law_95 : decode cL_law 95 = .ok (.ifCond .ne 5, 3) := by decide +kernel
theorem dL_law_98 : decode cL_law 98 = .ok (.iconst 0, 1) := by decide +kernel
theorem dL_law_99 : decode cL_law 99 = .ok (.ireturn, 1) := by decide +kernel
theorem dL_law_100 : decode cL_law 100 = .ok (.iload_n 3, 1) := by decide +kernel
theorem dL_law_101 : decode cL_law 101 = .ok (.iconst 5, 1) := by decide +kernel
theorem dL_law_102 : decode cL_law 102 = .ok (.irem, 1) := by decide +kernel
theorem dL_law_103 : decode cL_law 103 = .ok (.iconst 4, 1) := by decide +kernel
theorem dL_law_104 : decode cL_law 104 = .ok (.if_icmp .ne 51, 3) := by decide +kernel
theorem dL_law_107 : decode cL_law 107 = .ok (.aload_n 1, 1) := by decide +kernel
theorem dL_law_108 : decode cL_law 108 = .ok (.iload 5, 2) := by decide +kernel
theorem dL_law_110 : decode cL_law 110 = .ok (.bipush 7, 2) := by decide +kernel
theorem dL_law_112 : decode cL_law 112 = .ok (.ishr, 1) := by decide +kernel
theorem dL_law_113 : decode cL_law 113 = .ok (.bipush 12, 2) := by decide +kernel
theorem dL_law_115 : decode cL_law 115 = .ok (.invokestatic 19, 3) := by decide +kernel
theorem dL_law_118 : decode cL_law 118 = .ok (.iconst 1, 1) := by decide +kernel
theorem dL_law_119 : decode cL_law 119 = .ok (.iload 5, 2) := by decide +kernel
theorem dL_law_121 : decode cL_law 121 = .ok (.bipush 11, 2) := by decide +kernel
theorem dL_law_123 : decode cL_law 123 = .ok (.ishr, 1) := by decide +kernel
theorem dL_law_124 : decode cL_law 124 = .ok (.bipush 80, 2) := by decide +kernel
theorem dL_law_126 : decode cL_law 126 = .ok (.invokestatic 19, 3) := by decide +kernel
theorem dL_law_129 : decode cL_law 129 = .ok (.iadd, 1) := by decide +kernel
theorem dL_law_130 : decode cL_law 130 = .ok (.invokestatic 111, 3) := by decide +kernel
theorem dL_law_133 : decode cL_law 133 = .ok (.ifCond .eq 20, 3) := by decide +kernel
theorem dL_law_136 : decode cL_law 136 = .ok (.aload_n 1, 1) := by decide +kernel
theorem dL_law_137 : decode cL_law 137 = .ok (.iload 4, 2) := by decide +kernel
theorem dL_law_139 : decode cL_law 139 = .ok (.bipush 9, 2) := by decide +kernel
theorem dL_law_141 : decode cL_law 141 = .ok (.ishr, 1) := by decide +kernel
theorem dL_law_142 : decode cL_law 142 = .ok (.bipush 12, 2) := by decide +kernel
theorem dL_law_144 : decode cL_law 144 = .ok (.invokestatic 19, 3) := by decide +kernel
theorem dL_law_147 : decode cL_law 147 = .ok (.invokestatic 115, 3) := by decide +kernel
theorem dL_law_150 : decode cL_law 150 = .ok (.ifCond .ne 5, 3) := by decide +kernel
theorem dL_law_153 : decode cL_law 153 = .ok (.iconst 0, 1) := by decide +kernel
theorem dL_law_154 : decode cL_law 154 = .ok (.ireturn, 1) := by decide +kernel
theorem dL_law_155 : decode cL_law 155 = .ok (.iinc 3 1, 3) := by decide +kernel
theorem dL_law_158 : decode cL_law 158 = .ok (.goto (-140), 3) := by decide +kernel
theorem dL_law_161 : decode cL_law 161 = .ok (.aload_n 1, 1) := by decide +kernel
theorem dL_law_162 : decode cL_law 162 = .ok (.aload_n 2, 1) := by decide +kernel
theorem dL_law_163 : decode cL_law 163 = .ok (.invokestatic 117, 3) := by decide +kernel
theorem dL_law_166 : decode cL_law 166 = .ok (.ireturn, 1) := by decide +kernel
