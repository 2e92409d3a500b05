/-! ===== 63b.lwords: the words of the law's calls, by their places ===== -/
set_option maxRecDepth 20000 in
theorem lwm_280 : (Cond.methodLink RX2 63 yX2_tellFault) ∈ lw_tbl := List.mem_of_getElem? (i := 280) (by decide +kernel)
set_option maxRecDepth 20000 in
theorem lwm_282 : (Cond.instanceMethod yX2_tellFault) ∈ lw_tbl := List.mem_of_getElem? (i := 282) (by decide +kernel)
set_option maxRecDepth 20000 in
theorem lwm_283 : (Cond.code yX2_tellFault cX2_tellFault 3 none) ∈ lw_tbl := List.mem_of_getElem? (i := 283) (by decide +kernel)
set_option maxRecDepth 20000 in
theorem lwm_284 : (Cond.methodLinkNest RX2 73 yX6_isThing RX6) ∈ lw_tbl := List.mem_of_getElem? (i := 284) (by decide +kernel)
set_option maxRecDepth 20000 in
theorem lwm_285 : (Cond.static yX6_isThing) ∈ lw_tbl := List.mem_of_getElem? (i := 285) (by decide +kernel)
set_option maxRecDepth 20000 in
theorem lwm_286 : (Cond.code yX6_isThing cX6_isThing 1 (some .boolean)) ∈ lw_tbl := List.mem_of_getElem? (i := 286) (by decide +kernel)
set_option maxRecDepth 20000 in
theorem lwm_287 : (Cond.methodLink RX2 38 yX2_readNumber) ∈ lw_tbl := List.mem_of_getElem? (i := 287) (by decide +kernel)
set_option maxRecDepth 20000 in
theorem lwm_289 : (Cond.instanceMethod yX2_readNumber) ∈ lw_tbl := List.mem_of_getElem? (i := 289) (by decide +kernel)
set_option maxRecDepth 20000 in
theorem lwm_290 : (Cond.code yX2_readNumber cX2_readNumber 5 (some .int)) ∈ lw_tbl := List.mem_of_getElem? (i := 290) (by decide +kernel)
set_option maxRecDepth 20000 in
theorem lwm_291 : (Cond.methodLink RX2 76 yX2_isDigit) ∈ lw_tbl := List.mem_of_getElem? (i := 291) (by decide +kernel)
set_option maxRecDepth 20000 in
theorem lwm_293 : (Cond.instanceMethod yX2_isDigit) ∈ lw_tbl := List.mem_of_getElem? (i := 293) (by decide +kernel)
set_option maxRecDepth 20000 in
theorem lwm_294 : (Cond.code yX2_isDigit cX2_isDigit 4 (some .boolean)) ∈ lw_tbl := List.mem_of_getElem? (i := 294) (by decide +kernel)
set_option maxRecDepth 20000 in
theorem lwm_295 : (Cond.methodLink RX2 44 yX2_readSign) ∈ lw_tbl := List.mem_of_getElem? (i := 295) (by decide +kernel)
set_option maxRecDepth 20000 in
theorem lwm_297 : (Cond.instanceMethod yX2_readSign) ∈ lw_tbl := List.mem_of_getElem? (i := 297) (by decide +kernel)
set_option maxRecDepth 20000 in
theorem lwm_298 : (Cond.code yX2_readSign cX2_readSign 4 none) ∈ lw_tbl := List.mem_of_getElem? (i := 298) (by decide +kernel)
set_option maxRecDepth 20000 in
theorem lwm_299 : (Cond.methodLink RX2 48 yX2_readIngredient) ∈ lw_tbl := List.mem_of_getElem? (i := 299) (by decide +kernel)
set_option maxRecDepth 20000 in
theorem lwm_301 : (Cond.instanceMethod yX2_readIngredient) ∈ lw_tbl := List.mem_of_getElem? (i := 301) (by decide +kernel)
set_option maxRecDepth 20000 in
theorem lwm_302 : (Cond.code yX2_readIngredient cX2_readIngredient 5 none) ∈ lw_tbl := List.mem_of_getElem? (i := 302) (by decide +kernel)
set_option maxRecDepth 20000 in
theorem lwm_303 : (Cond.methodLink RX2 59 yX2_isListed) ∈ lw_tbl := List.mem_of_getElem? (i := 303) (by decide +kernel)
set_option maxRecDepth 20000 in
theorem lwm_305 : (Cond.instanceMethod yX2_isListed) ∈ lw_tbl := List.mem_of_getElem? (i := 305) (by decide +kernel)
set_option maxRecDepth 20000 in
theorem lwm_306 : (Cond.code yX2_isListed cX2_isListed 3 (some .boolean)) ∈ lw_tbl := List.mem_of_getElem? (i := 306) (by decide +kernel)
set_option maxRecDepth 20000 in
theorem lwm_307 : (Cond.methodLinkNest RX2 67 yX6_put RX6) ∈ lw_tbl := List.mem_of_getElem? (i := 307) (by decide +kernel)
set_option maxRecDepth 20000 in
theorem lwm_308 : (Cond.methodLink RX2 52 yX2_isMore) ∈ lw_tbl := List.mem_of_getElem? (i := 308) (by decide +kernel)
set_option maxRecDepth 20000 in
theorem lwm_310 : (Cond.instanceMethod yX2_isMore) ∈ lw_tbl := List.mem_of_getElem? (i := 310) (by decide +kernel)
set_option maxRecDepth 20000 in
theorem lwm_311 : (Cond.code yX2_isMore cX2_isMore 3 (some .boolean)) ∈ lw_tbl := List.mem_of_getElem? (i := 311) (by decide +kernel)
set_option maxRecDepth 20000 in
theorem lwm_312 : (Cond.methodLink RX6 73 yX0_copyFrom) ∈ lw_tbl := List.mem_of_getElem? (i := 312) (by decide +kernel)
set_option maxRecDepth 20000 in
theorem lwm_313 : (Cond.instanceMethod yX0_copyFrom) ∈ lw_tbl := List.mem_of_getElem? (i := 313) (by decide +kernel)
set_option maxRecDepth 20000 in
theorem lwm_314 : (Cond.selects RX0 yX0_copyFrom yX0_copyFrom) ∈ lw_tbl := List.mem_of_getElem? (i := 314) (by decide +kernel)
set_option maxRecDepth 20000 in
theorem lwm_315 : (Cond.code yX0_copyFrom cX0_copyFrom 2 none) ∈ lw_tbl := List.mem_of_getElem? (i := 315) (by decide +kernel)
set_option maxRecDepth 20000 in
theorem lwm_316 : (Cond.methodLinkNest RX0 42 yX6_copy RX6) ∈ lw_tbl := List.mem_of_getElem? (i := 316) (by decide +kernel)
set_option maxRecDepth 20000 in
theorem lwm_317 : (Cond.static yX6_copy) ∈ lw_tbl := List.mem_of_getElem? (i := 317) (by decide +kernel)
set_option maxRecDepth 20000 in
theorem lwm_318 : (Cond.code yX6_copy cX6_copy 2 none) ∈ lw_tbl := List.mem_of_getElem? (i := 318) (by decide +kernel)
set_option maxRecDepth 20000 in
theorem lwm_319 : (Cond.methodLink RX6 231 Lib.Math.min.name) ∈ lw_tbl := List.mem_of_getElem? (i := 319) (by decide +kernel)
set_option maxRecDepth 20000 in
theorem lwm_320 : (Cond.static Lib.Math.min.name) ∈ lw_tbl := List.mem_of_getElem? (i := 320) (by decide +kernel)
set_option maxRecDepth 20000 in
theorem lwm_321 : (Cond.code Lib.Math.min.name Lib.Math.min.code 2 (some .int)) ∈ lw_tbl := List.mem_of_getElem? (i := 321) (by decide +kernel)
set_option maxRecDepth 20000 in
theorem lwm_322 : (Cond.methodLink RX6 257 arraycopyName) ∈ lw_tbl := List.mem_of_getElem? (i := 322) (by decide +kernel)
set_option maxRecDepth 20000 in
theorem lwm_323 : (Cond.static arraycopyName) ∈ lw_tbl := List.mem_of_getElem? (i := 323) (by decide +kernel)
set_option maxRecDepth 20000 in
theorem lwm_324 : (Cond.native arraycopyName) ∈ lw_tbl := List.mem_of_getElem? (i := 324) (by decide +kernel)
set_option maxRecDepth 20000 in
theorem lwm_325 : (Cond.methodLink RX6 77 yX0_lay) ∈ lw_tbl := List.mem_of_getElem? (i := 325) (by decide +kernel)
set_option maxRecDepth 20000 in
theorem lwm_326 : (Cond.instanceMethod yX0_lay) ∈ lw_tbl := List.mem_of_getElem? (i := 326) (by decide +kernel)
set_option maxRecDepth 20000 in
theorem lwm_327 : (Cond.selects RX0 yX0_lay yX0_lay) ∈ lw_tbl := List.mem_of_getElem? (i := 327) (by decide +kernel)
set_option maxRecDepth 20000 in
theorem lwm_328 : (Cond.code yX0_lay cX0_lay 4 none) ∈ lw_tbl := List.mem_of_getElem? (i := 328) (by decide +kernel)
set_option maxRecDepth 20000 in
theorem lwm_329 : (Cond.methodLinkNest RX0 82 yX6_put RX6) ∈ lw_tbl := List.mem_of_getElem? (i := 329) (by decide +kernel)
set_option maxRecDepth 20000 in
theorem lwm_330 : (Cond.methodLinkNest RX0 46 yX6_at RX6) ∈ lw_tbl := List.mem_of_getElem? (i := 330) (by decide +kernel)
set_option maxRecDepth 20000 in
theorem lwm_331 : (Cond.methodLink RX6 81 yX0_findRanks) ∈ lw_tbl := List.mem_of_getElem? (i := 331) (by decide +kernel)
set_option maxRecDepth 20000 in
theorem lwm_332 : (Cond.instanceMethod yX0_findRanks) ∈ lw_tbl := List.mem_of_getElem? (i := 332) (by decide +kernel)
set_option maxRecDepth 20000 in
theorem lwm_333 : (Cond.selects RX0 yX0_findRanks yX0_findRanks) ∈ lw_tbl := List.mem_of_getElem? (i := 333) (by decide +kernel)
set_option maxRecDepth 20000 in
theorem lwm_334 : (Cond.code yX0_findRanks cX0_findRanks 5 (some .boolean)) ∈ lw_tbl := List.mem_of_getElem? (i := 334) (by decide +kernel)
set_option maxRecDepth 20000 in
theorem lwm_335 : (Cond.methodLink RX0 60 yX0_isMade) ∈ lw_tbl := List.mem_of_getElem? (i := 335) (by decide +kernel)
set_option maxRecDepth 20000 in
theorem lwm_336 : (Cond.instanceMethod yX0_isMade) ∈ lw_tbl := List.mem_of_getElem? (i := 336) (by decide +kernel)
set_option maxRecDepth 20000 in
theorem lwm_337 : (Cond.selects RX0 yX0_isMade yX0_isMade) ∈ lw_tbl := List.mem_of_getElem? (i := 337) (by decide +kernel)
set_option maxRecDepth 20000 in
theorem lwm_338 : (Cond.code yX0_isMade cX0_isMade 2 (some .boolean)) ∈ lw_tbl := List.mem_of_getElem? (i := 338) (by decide +kernel)
set_option maxRecDepth 20000 in
theorem lwm_339 : (Cond.methodLink RX0 100 yX0_needsOf) ∈ lw_tbl := List.mem_of_getElem? (i := 339) (by decide +kernel)
set_option maxRecDepth 20000 in
theorem lwm_341 : (Cond.instanceMethod yX0_needsOf) ∈ lw_tbl := List.mem_of_getElem? (i := 341) (by decide +kernel)
set_option maxRecDepth 20000 in
theorem lwm_342 : (Cond.code yX0_needsOf cX0_needsOf 8 (some .int)) ∈ lw_tbl := List.mem_of_getElem? (i := 342) (by decide +kernel)
set_option maxRecDepth 20000 in
theorem lwm_343 : (Cond.methodLink RX0 110 yX0_ingredientsOf) ∈ lw_tbl := List.mem_of_getElem? (i := 343) (by decide +kernel)
set_option maxRecDepth 20000 in
theorem lwm_344 : (Cond.instanceMethod yX0_ingredientsOf) ∈ lw_tbl := List.mem_of_getElem? (i := 344) (by decide +kernel)
set_option maxRecDepth 20000 in
theorem lwm_345 : (Cond.selects RX0 yX0_ingredientsOf yX0_ingredientsOf) ∈ lw_tbl := List.mem_of_getElem? (i := 345) (by decide +kernel)
set_option maxRecDepth 20000 in
theorem lwm_346 : (Cond.code yX0_ingredientsOf cX0_ingredientsOf 2 (some .int)) ∈ lw_tbl := List.mem_of_getElem? (i := 346) (by decide +kernel)
set_option maxRecDepth 20000 in
theorem lwm_347 : (Cond.methodLink RX0 113 yX0_ingredientAt) ∈ lw_tbl := List.mem_of_getElem? (i := 347) (by decide +kernel)
set_option maxRecDepth 20000 in
theorem lwm_348 : (Cond.instanceMethod yX0_ingredientAt) ∈ lw_tbl := List.mem_of_getElem? (i := 348) (by decide +kernel)
set_option maxRecDepth 20000 in
theorem lwm_349 : (Cond.selects RX0 yX0_ingredientAt yX0_ingredientAt) ∈ lw_tbl := List.mem_of_getElem? (i := 349) (by decide +kernel)
set_option maxRecDepth 20000 in
theorem lwm_350 : (Cond.code yX0_ingredientAt cX0_ingredientAt 3 (some .int)) ∈ lw_tbl := List.mem_of_getElem? (i := 350) (by decide +kernel)
set_option maxRecDepth 20000 in
theorem lwm_351 : (Cond.methodLink RX0 91 yX0_substitutesOf) ∈ lw_tbl := List.mem_of_getElem? (i := 351) (by decide +kernel)
set_option maxRecDepth 20000 in
theorem lwm_352 : (Cond.instanceMethod yX0_substitutesOf) ∈ lw_tbl := List.mem_of_getElem? (i := 352) (by decide +kernel)
set_option maxRecDepth 20000 in
theorem lwm_353 : (Cond.selects RX0 yX0_substitutesOf yX0_substitutesOf) ∈ lw_tbl := List.mem_of_getElem? (i := 353) (by decide +kernel)
set_option maxRecDepth 20000 in
theorem lwm_354 : (Cond.code yX0_substitutesOf cX0_substitutesOf 2 (some .int)) ∈ lw_tbl := List.mem_of_getElem? (i := 354) (by decide +kernel)
set_option maxRecDepth 20000 in
theorem lwm_355 : (Cond.methodLink RX0 94 yX0_substituteAt) ∈ lw_tbl := List.mem_of_getElem? (i := 355) (by decide +kernel)
set_option maxRecDepth 20000 in
theorem lwm_356 : (Cond.instanceMethod yX0_substituteAt) ∈ lw_tbl := List.mem_of_getElem? (i := 356) (by decide +kernel)
set_option maxRecDepth 20000 in
theorem lwm_357 : (Cond.selects RX0 yX0_substituteAt yX0_substituteAt) ∈ lw_tbl := List.mem_of_getElem? (i := 357) (by decide +kernel)
set_option maxRecDepth 20000 in
theorem lwm_358 : (Cond.code yX0_substituteAt cX0_substituteAt 3 (some .int)) ∈ lw_tbl := List.mem_of_getElem? (i := 358) (by decide +kernel)
set_option maxRecDepth 20000 in
theorem lwm_359 : (Cond.methodLink RX0 103 yX0_greatestRankIn) ∈ lw_tbl := List.mem_of_getElem? (i := 359) (by decide +kernel)
set_option maxRecDepth 20000 in
theorem lwm_361 : (Cond.instanceMethod yX0_greatestRankIn) ∈ lw_tbl := List.mem_of_getElem? (i := 361) (by decide +kernel)
set_option maxRecDepth 20000 in
theorem lwm_362 : (Cond.code yX0_greatestRankIn cX0_greatestRankIn 4 (some .int)) ∈ lw_tbl := List.mem_of_getElem? (i := 362) (by decide +kernel)
set_option maxRecDepth 20000 in
theorem lwm_363 : (Cond.methodLinkNest RX0 106 yX6_hasBit RX6) ∈ lw_tbl := List.mem_of_getElem? (i := 363) (by decide +kernel)
set_option maxRecDepth 20000 in
theorem lwm_364 : (Cond.static yX6_hasBit) ∈ lw_tbl := List.mem_of_getElem? (i := 364) (by decide +kernel)
set_option maxRecDepth 20000 in
theorem lwm_365 : (Cond.code yX6_hasBit cX6_hasBit 2 (some .boolean)) ∈ lw_tbl := List.mem_of_getElem? (i := 365) (by decide +kernel)
set_option maxRecDepth 20000 in
theorem lwm_366 : (Cond.methodLink RX0 64 yX0_rankOf) ∈ lw_tbl := List.mem_of_getElem? (i := 366) (by decide +kernel)
set_option maxRecDepth 20000 in
theorem lwm_367 : (Cond.instanceMethod yX0_rankOf) ∈ lw_tbl := List.mem_of_getElem? (i := 367) (by decide +kernel)
set_option maxRecDepth 20000 in
theorem lwm_368 : (Cond.selects RX0 yX0_rankOf yX0_rankOf) ∈ lw_tbl := List.mem_of_getElem? (i := 368) (by decide +kernel)
set_option maxRecDepth 20000 in
theorem lwm_369 : (Cond.code yX0_rankOf cX0_rankOf 2 (some .int)) ∈ lw_tbl := List.mem_of_getElem? (i := 369) (by decide +kernel)
set_option maxRecDepth 20000 in
theorem lwm_370 : (Cond.methodLink RX0 67 Lib.Math.max.name) ∈ lw_tbl := List.mem_of_getElem? (i := 370) (by decide +kernel)
set_option maxRecDepth 20000 in
theorem lwm_371 : (Cond.static Lib.Math.max.name) ∈ lw_tbl := List.mem_of_getElem? (i := 371) (by decide +kernel)
set_option maxRecDepth 20000 in
theorem lwm_372 : (Cond.code Lib.Math.max.name Lib.Math.max.code 2 (some .int)) ∈ lw_tbl := List.mem_of_getElem? (i := 372) (by decide +kernel)
set_option maxRecDepth 20000 in
theorem lwm_373 : (Cond.methodLink RX6 85 yX1_remember) ∈ lw_tbl := List.mem_of_getElem? (i := 373) (by decide +kernel)
set_option maxRecDepth 20000 in
theorem lwm_374 : (Cond.instanceMethod yX1_remember) ∈ lw_tbl := List.mem_of_getElem? (i := 374) (by decide +kernel)
set_option maxRecDepth 20000 in
theorem lwm_375 : (Cond.selects RX1 yX1_remember yX1_remember) ∈ lw_tbl := List.mem_of_getElem? (i := 375) (by decide +kernel)
set_option maxRecDepth 20000 in
theorem lwm_376 : (Cond.code yX1_remember cX1_remember 4 none) ∈ lw_tbl := List.mem_of_getElem? (i := 376) (by decide +kernel)
set_option maxRecDepth 20000 in
theorem lwm_377 : (Cond.methodLink RX1 21 yX1_placeOf) ∈ lw_tbl := List.mem_of_getElem? (i := 377) (by decide +kernel)
set_option maxRecDepth 20000 in
theorem lwm_379 : (Cond.instanceMethod yX1_placeOf) ∈ lw_tbl := List.mem_of_getElem? (i := 379) (by decide +kernel)
set_option maxRecDepth 20000 in
theorem lwm_380 : (Cond.code yX1_placeOf cX1_placeOf 2 (some .int)) ∈ lw_tbl := List.mem_of_getElem? (i := 380) (by decide +kernel)
set_option maxRecDepth 20000 in
theorem lwm_381 : (Cond.methodLink RX1 42 yJ9_floorMod_7cf53) ∈ lw_tbl := List.mem_of_getElem? (i := 381) (by decide +kernel)
set_option maxRecDepth 20000 in
theorem lwm_382 : (Cond.static yJ9_floorMod_7cf53) ∈ lw_tbl := List.mem_of_getElem? (i := 382) (by decide +kernel)
set_option maxRecDepth 20000 in
theorem lwm_383 : (Cond.code yJ9_floorMod_7cf53 cJ9_floorMod_7cf53 3 (some .int)) ∈ lw_tbl := List.mem_of_getElem? (i := 383) (by decide +kernel)
set_option maxRecDepth 20000 in
theorem lwm_384 : (Cond.methodLinkNest RX1 28 yX6_roomAt RX6) ∈ lw_tbl := List.mem_of_getElem? (i := 384) (by decide +kernel)
set_option maxRecDepth 20000 in
theorem lwm_385 : (Cond.static yX6_roomAt) ∈ lw_tbl := List.mem_of_getElem? (i := 385) (by decide +kernel)
set_option maxRecDepth 20000 in
theorem lwm_386 : (Cond.code yX6_roomAt cX6_roomAt 4 (some (.object "ThingMaker$State"))) ∈ lw_tbl := List.mem_of_getElem? (i := 386) (by decide +kernel)
set_option maxRecDepth 20000 in
theorem lwm_387 : (Cond.methodLink RX6 247 yX6_stateAt) ∈ lw_tbl := List.mem_of_getElem? (i := 387) (by decide +kernel)
set_option maxRecDepth 20000 in
theorem lwm_388 : (Cond.static yX6_stateAt) ∈ lw_tbl := List.mem_of_getElem? (i := 388) (by decide +kernel)
set_option maxRecDepth 20000 in
theorem lwm_389 : (Cond.code yX6_stateAt cX6_stateAt 2 (some (.object "ThingMaker$State"))) ∈ lw_tbl := List.mem_of_getElem? (i := 389) (by decide +kernel)
set_option maxRecDepth 20000 in
theorem lwm_390 : (Cond.instantiable RX3 2) ∈ lw_tbl := List.mem_of_getElem? (i := 390) (by decide +kernel)
set_option maxRecDepth 20000 in
theorem lwm_391 : (Cond.methodLinkNest RX6 256 yX3_init RX6) ∈ lw_tbl := List.mem_of_getElem? (i := 391) (by decide +kernel)
set_option maxRecDepth 20000 in
theorem lwm_392 : (Cond.instanceMethod yX3_init) ∈ lw_tbl := List.mem_of_getElem? (i := 392) (by decide +kernel)
set_option maxRecDepth 20000 in
theorem lwm_393 : (Cond.code yX3_init cX3_init 1 none) ∈ lw_tbl := List.mem_of_getElem? (i := 393) (by decide +kernel)
set_option maxRecDepth 20000 in
theorem lwm_394 : (Cond.methodLink RX3 1 objectInit) ∈ lw_tbl := List.mem_of_getElem? (i := 394) (by decide +kernel)
set_option maxRecDepth 20000 in
theorem lwm_395 : (Cond.classLink RX3 7 RX0) ∈ lw_tbl := List.mem_of_getElem? (i := 395) (by decide +kernel)
set_option maxRecDepth 20000 in
theorem lwm_396 : (Cond.methodLink RX3 9 yX0_init) ∈ lw_tbl := List.mem_of_getElem? (i := 396) (by decide +kernel)
set_option maxRecDepth 20000 in
theorem lwm_397 : (Cond.classLink RX3 16 RX4) ∈ lw_tbl := List.mem_of_getElem? (i := 397) (by decide +kernel)
set_option maxRecDepth 20000 in
theorem lwm_398 : (Cond.methodLinkNest RX3 18 yX4_init RX6) ∈ lw_tbl := List.mem_of_getElem? (i := 398) (by decide +kernel)
set_option maxRecDepth 20000 in
theorem lwm_399 : (Cond.fieldLink RX3 10 "ThingMaker$State" "book" "LThingMaker$Book;") ∈ lw_tbl := List.mem_of_getElem? (i := 399) (by decide +kernel)
set_option maxRecDepth 20000 in
theorem lwm_400 : (Cond.fieldLink RX3 19 "ThingMaker$State" "stock" "LThingMaker$Stock;") ∈ lw_tbl := List.mem_of_getElem? (i := 400) (by decide +kernel)
set_option maxRecDepth 20000 in
theorem lwm_406 : (Cond.methodLink RX1 32 yX3_hold) ∈ lw_tbl := List.mem_of_getElem? (i := 406) (by decide +kernel)
set_option maxRecDepth 20000 in
theorem lwm_407 : (Cond.instanceMethod yX3_hold) ∈ lw_tbl := List.mem_of_getElem? (i := 407) (by decide +kernel)
set_option maxRecDepth 20000 in
theorem lwm_408 : (Cond.selects RX3 yX3_hold yX3_hold) ∈ lw_tbl := List.mem_of_getElem? (i := 408) (by decide +kernel)
set_option maxRecDepth 20000 in
theorem lwm_409 : (Cond.code yX3_hold cX3_hold 3 none) ∈ lw_tbl := List.mem_of_getElem? (i := 409) (by decide +kernel)
set_option maxRecDepth 20000 in
theorem lwm_410 : (Cond.methodLink RX3 23 yX0_copyFrom) ∈ lw_tbl := List.mem_of_getElem? (i := 410) (by decide +kernel)
set_option maxRecDepth 20000 in
theorem lwm_411 : (Cond.methodLink RX3 27 yX4_copyFrom) ∈ lw_tbl := List.mem_of_getElem? (i := 411) (by decide +kernel)
set_option maxRecDepth 20000 in
theorem lwm_412 : (Cond.instanceMethod yX4_copyFrom) ∈ lw_tbl := List.mem_of_getElem? (i := 412) (by decide +kernel)
set_option maxRecDepth 20000 in
theorem lwm_413 : (Cond.selects RX4 yX4_copyFrom yX4_copyFrom) ∈ lw_tbl := List.mem_of_getElem? (i := 413) (by decide +kernel)
set_option maxRecDepth 20000 in
theorem lwm_414 : (Cond.code yX4_copyFrom cX4_copyFrom 2 none) ∈ lw_tbl := List.mem_of_getElem? (i := 414) (by decide +kernel)
set_option maxRecDepth 20000 in
theorem lwm_415 : (Cond.methodLinkNest RX4 30 yX6_copy RX6) ∈ lw_tbl := List.mem_of_getElem? (i := 415) (by decide +kernel)
set_option maxRecDepth 20000 in
theorem lwm_416 : (Cond.methodLink RX6 92 yX0_rankOf) ∈ lw_tbl := List.mem_of_getElem? (i := 416) (by decide +kernel)
set_option maxRecDepth 20000 in
theorem lwm_417 : (Cond.methodLink RL 35 yX6_forget) ∈ lw_tbl := List.mem_of_getElem? (i := 417) (by decide +kernel)
set_option maxRecDepth 20000 in
theorem lwm_418 : (Cond.instanceMethod yX6_forget) ∈ lw_tbl := List.mem_of_getElem? (i := 418) (by decide +kernel)
set_option maxRecDepth 20000 in
theorem lwm_419 : (Cond.selects RX6 yX6_forget yX6_forget) ∈ lw_tbl := List.mem_of_getElem? (i := 419) (by decide +kernel)
set_option maxRecDepth 20000 in
theorem lwm_420 : (Cond.code yX6_forget cX6_forget 3 (some .int)) ∈ lw_tbl := List.mem_of_getElem? (i := 420) (by decide +kernel)
set_option maxRecDepth 20000 in
theorem lwm_421 : (Cond.methodLink RX6 96 yX6_isThing) ∈ lw_tbl := List.mem_of_getElem? (i := 421) (by decide +kernel)
set_option maxRecDepth 20000 in
theorem lwm_422 : (Cond.methodLink RX6 100 yX0_isMade) ∈ lw_tbl := List.mem_of_getElem? (i := 422) (by decide +kernel)
set_option maxRecDepth 20000 in
theorem lwm_423 : (Cond.methodLink RX6 103 yX0_yieldOf) ∈ lw_tbl := List.mem_of_getElem? (i := 423) (by decide +kernel)
set_option maxRecDepth 20000 in
theorem lwm_424 : (Cond.instanceMethod yX0_yieldOf) ∈ lw_tbl := List.mem_of_getElem? (i := 424) (by decide +kernel)
set_option maxRecDepth 20000 in
theorem lwm_425 : (Cond.selects RX0 yX0_yieldOf yX0_yieldOf) ∈ lw_tbl := List.mem_of_getElem? (i := 425) (by decide +kernel)
set_option maxRecDepth 20000 in
theorem lwm_426 : (Cond.code yX0_yieldOf cX0_yieldOf 2 (some .int)) ∈ lw_tbl := List.mem_of_getElem? (i := 426) (by decide +kernel)
set_option maxRecDepth 20000 in
theorem lwm_427 : (Cond.methodLink RX6 106 yX0_strike) ∈ lw_tbl := List.mem_of_getElem? (i := 427) (by decide +kernel)
set_option maxRecDepth 20000 in
theorem lwm_428 : (Cond.instanceMethod yX0_strike) ∈ lw_tbl := List.mem_of_getElem? (i := 428) (by decide +kernel)
set_option maxRecDepth 20000 in
theorem lwm_429 : (Cond.selects RX0 yX0_strike yX0_strike) ∈ lw_tbl := List.mem_of_getElem? (i := 429) (by decide +kernel)
set_option maxRecDepth 20000 in
theorem lwm_430 : (Cond.code yX0_strike cX0_strike 2 none) ∈ lw_tbl := List.mem_of_getElem? (i := 430) (by decide +kernel)
set_option maxRecDepth 20000 in
theorem lwm_431 : (Cond.methodLink RL 38 yX6_allow) ∈ lw_tbl := List.mem_of_getElem? (i := 431) (by decide +kernel)
set_option maxRecDepth 20000 in
theorem lwm_432 : (Cond.instanceMethod yX6_allow) ∈ lw_tbl := List.mem_of_getElem? (i := 432) (by decide +kernel)
set_option maxRecDepth 20000 in
theorem lwm_433 : (Cond.selects RX6 yX6_allow yX6_allow) ∈ lw_tbl := List.mem_of_getElem? (i := 433) (by decide +kernel)
set_option maxRecDepth 20000 in
theorem lwm_434 : (Cond.code yX6_allow cX6_allow 3 (some .int)) ∈ lw_tbl := List.mem_of_getElem? (i := 434) (by decide +kernel)
set_option maxRecDepth 20000 in
theorem lwm_435 : (Cond.methodLink RX6 110 yX0_hasSubstitute) ∈ lw_tbl := List.mem_of_getElem? (i := 435) (by decide +kernel)
set_option maxRecDepth 20000 in
theorem lwm_436 : (Cond.instanceMethod yX0_hasSubstitute) ∈ lw_tbl := List.mem_of_getElem? (i := 436) (by decide +kernel)
set_option maxRecDepth 20000 in
theorem lwm_437 : (Cond.selects RX0 yX0_hasSubstitute yX0_hasSubstitute) ∈ lw_tbl := List.mem_of_getElem? (i := 437) (by decide +kernel)
set_option maxRecDepth 20000 in
theorem lwm_438 : (Cond.code yX0_hasSubstitute cX0_hasSubstitute 5 (some .boolean)) ∈ lw_tbl := List.mem_of_getElem? (i := 438) (by decide +kernel)
set_option maxRecDepth 20000 in
theorem lwm_439 : (Cond.methodLink RX6 114 yX0_substitutesOf) ∈ lw_tbl := List.mem_of_getElem? (i := 439) (by decide +kernel)
set_option maxRecDepth 20000 in
theorem lwm_440 : (Cond.methodLink RX6 117 yX0_addSubstitute) ∈ lw_tbl := List.mem_of_getElem? (i := 440) (by decide +kernel)
set_option maxRecDepth 20000 in
theorem lwm_441 : (Cond.instanceMethod yX0_addSubstitute) ∈ lw_tbl := List.mem_of_getElem? (i := 441) (by decide +kernel)
set_option maxRecDepth 20000 in
theorem lwm_442 : (Cond.selects RX0 yX0_addSubstitute yX0_addSubstitute) ∈ lw_tbl := List.mem_of_getElem? (i := 442) (by decide +kernel)
set_option maxRecDepth 20000 in
theorem lwm_443 : (Cond.code yX0_addSubstitute cX0_addSubstitute 4 none) ∈ lw_tbl := List.mem_of_getElem? (i := 443) (by decide +kernel)
set_option maxRecDepth 20000 in
theorem lwm_444 : (Cond.methodLink RL 41 yX6_forbid) ∈ lw_tbl := List.mem_of_getElem? (i := 444) (by decide +kernel)
set_option maxRecDepth 20000 in
theorem lwm_445 : (Cond.instanceMethod yX6_forbid) ∈ lw_tbl := List.mem_of_getElem? (i := 445) (by decide +kernel)
set_option maxRecDepth 20000 in
theorem lwm_446 : (Cond.selects RX6 yX6_forbid yX6_forbid) ∈ lw_tbl := List.mem_of_getElem? (i := 446) (by decide +kernel)
set_option maxRecDepth 20000 in
theorem lwm_447 : (Cond.code yX6_forbid cX6_forbid 4 (some .int)) ∈ lw_tbl := List.mem_of_getElem? (i := 447) (by decide +kernel)
set_option maxRecDepth 20000 in
theorem lwm_448 : (Cond.methodLink RX6 121 yX0_substituteAt) ∈ lw_tbl := List.mem_of_getElem? (i := 448) (by decide +kernel)
set_option maxRecDepth 20000 in
theorem lwm_449 : (Cond.methodLink RX6 125 yX0_removeSubstitute) ∈ lw_tbl := List.mem_of_getElem? (i := 449) (by decide +kernel)
set_option maxRecDepth 20000 in
theorem lwm_450 : (Cond.instanceMethod yX0_removeSubstitute) ∈ lw_tbl := List.mem_of_getElem? (i := 450) (by decide +kernel)
set_option maxRecDepth 20000 in
theorem lwm_451 : (Cond.selects RX0 yX0_removeSubstitute yX0_removeSubstitute) ∈ lw_tbl := List.mem_of_getElem? (i := 451) (by decide +kernel)
set_option maxRecDepth 20000 in
theorem lwm_452 : (Cond.code yX0_removeSubstitute cX0_removeSubstitute 5 none) ∈ lw_tbl := List.mem_of_getElem? (i := 452) (by decide +kernel)
set_option maxRecDepth 20000 in
theorem lwm_453 : (Cond.methodLink RL 44 yX6_vessel) ∈ lw_tbl := List.mem_of_getElem? (i := 453) (by decide +kernel)
set_option maxRecDepth 20000 in
theorem lwm_454 : (Cond.instanceMethod yX6_vessel) ∈ lw_tbl := List.mem_of_getElem? (i := 454) (by decide +kernel)
set_option maxRecDepth 20000 in
theorem lwm_455 : (Cond.selects RX6 yX6_vessel yX6_vessel) ∈ lw_tbl := List.mem_of_getElem? (i := 455) (by decide +kernel)
set_option maxRecDepth 20000 in
theorem lwm_456 : (Cond.code yX6_vessel cX6_vessel 5 (some .int)) ∈ lw_tbl := List.mem_of_getElem? (i := 456) (by decide +kernel)
set_option maxRecDepth 20000 in
theorem lwm_457 : (Cond.methodLink RX6 128 yX0_vesselOf) ∈ lw_tbl := List.mem_of_getElem? (i := 457) (by decide +kernel)
set_option maxRecDepth 20000 in
theorem lwm_458 : (Cond.instanceMethod yX0_vesselOf) ∈ lw_tbl := List.mem_of_getElem? (i := 458) (by decide +kernel)
set_option maxRecDepth 20000 in
theorem lwm_459 : (Cond.selects RX0 yX0_vesselOf yX0_vesselOf) ∈ lw_tbl := List.mem_of_getElem? (i := 459) (by decide +kernel)
set_option maxRecDepth 20000 in
theorem lwm_460 : (Cond.code yX0_vesselOf cX0_vesselOf 2 (some .int)) ∈ lw_tbl := List.mem_of_getElem? (i := 460) (by decide +kernel)
set_option maxRecDepth 20000 in
theorem lwm_461 : (Cond.methodLink RX6 131 yX0_isVessel) ∈ lw_tbl := List.mem_of_getElem? (i := 461) (by decide +kernel)
set_option maxRecDepth 20000 in
theorem lwm_462 : (Cond.instanceMethod yX0_isVessel) ∈ lw_tbl := List.mem_of_getElem? (i := 462) (by decide +kernel)
set_option maxRecDepth 20000 in
theorem lwm_463 : (Cond.selects RX0 yX0_isVessel yX0_isVessel) ∈ lw_tbl := List.mem_of_getElem? (i := 463) (by decide +kernel)
set_option maxRecDepth 20000 in
theorem lwm_464 : (Cond.code yX0_isVessel cX0_isVessel 3 (some .boolean)) ∈ lw_tbl := List.mem_of_getElem? (i := 464) (by decide +kernel)
set_option maxRecDepth 20000 in
theorem lwm_465 : (Cond.methodLink RX0 97 yX0_vesselOf) ∈ lw_tbl := List.mem_of_getElem? (i := 465) (by decide +kernel)
set_option maxRecDepth 20000 in
theorem lwm_466 : (Cond.methodLink RX6 134 yX0_setVessel) ∈ lw_tbl := List.mem_of_getElem? (i := 466) (by decide +kernel)
set_option maxRecDepth 20000 in
theorem lwm_467 : (Cond.instanceMethod yX0_setVessel) ∈ lw_tbl := List.mem_of_getElem? (i := 467) (by decide +kernel)
set_option maxRecDepth 20000 in
theorem lwm_468 : (Cond.selects RX0 yX0_setVessel yX0_setVessel) ∈ lw_tbl := List.mem_of_getElem? (i := 468) (by decide +kernel)
set_option maxRecDepth 20000 in
theorem lwm_469 : (Cond.code yX0_setVessel cX0_setVessel 3 none) ∈ lw_tbl := List.mem_of_getElem? (i := 469) (by decide +kernel)
set_option maxRecDepth 20000 in
theorem lwm_470 : (Cond.methodLink RL 47 yX6_bring) ∈ lw_tbl := List.mem_of_getElem? (i := 470) (by decide +kernel)
set_option maxRecDepth 20000 in
theorem lwm_471 : (Cond.instanceMethod yX6_bring) ∈ lw_tbl := List.mem_of_getElem? (i := 471) (by decide +kernel)
set_option maxRecDepth 20000 in
theorem lwm_472 : (Cond.selects RX6 yX6_bring yX6_bring) ∈ lw_tbl := List.mem_of_getElem? (i := 472) (by decide +kernel)
set_option maxRecDepth 20000 in
theorem lwm_473 : (Cond.code yX6_bring cX6_bring 5 (some .int)) ∈ lw_tbl := List.mem_of_getElem? (i := 473) (by decide +kernel)
set_option maxRecDepth 20000 in
theorem lwm_474 : (Cond.methodLink RX6 140 yX6_at) ∈ lw_tbl := List.mem_of_getElem? (i := 474) (by decide +kernel)
set_option maxRecDepth 20000 in
theorem lwm_475 : (Cond.methodLink RX6 144 Lib.Math.max.name) ∈ lw_tbl := List.mem_of_getElem? (i := 475) (by decide +kernel)
set_option maxRecDepth 20000 in
theorem lwm_476 : (Cond.constant RX6 149 (99999)) ∈ lw_tbl := List.mem_of_getElem? (i := 476) (by decide +kernel)
set_option maxRecDepth 20000 in
theorem lwm_477 : (Cond.methodLink RX6 150 yX6_add) ∈ lw_tbl := List.mem_of_getElem? (i := 477) (by decide +kernel)
set_option maxRecDepth 20000 in
theorem lwm_478 : (Cond.static yX6_add) ∈ lw_tbl := List.mem_of_getElem? (i := 478) (by decide +kernel)
set_option maxRecDepth 20000 in
theorem lwm_479 : (Cond.code yX6_add cX6_add 3 none) ∈ lw_tbl := List.mem_of_getElem? (i := 479) (by decide +kernel)
set_option maxRecDepth 20000 in
theorem lwm_480 : (Cond.methodLink RL 50 yX6_wish) ∈ lw_tbl := List.mem_of_getElem? (i := 480) (by decide +kernel)
set_option maxRecDepth 20000 in
theorem lwm_481 : (Cond.instanceMethod yX6_wish) ∈ lw_tbl := List.mem_of_getElem? (i := 481) (by decide +kernel)
