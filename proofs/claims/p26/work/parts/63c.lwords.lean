/-! ===== 63c.lwords: the words of the law's calls, by their places ===== -/
set_option maxRecDepth 20000 in
theorem lwm_482 : (Cond.selects RX6 yX6_wish yX6_wish) ∈ lw_tbl := List.mem_of_getElem? (i := 482) (by decide +kernel)
set_option maxRecDepth 20000 in
theorem lwm_483 : (Cond.code yX6_wish cX6_wish 3 (some .int)) ∈ lw_tbl := List.mem_of_getElem? (i := 483) (by decide +kernel)
set_option maxRecDepth 20000 in
theorem lwm_484 : (Cond.methodLink RX6 157 yX6_isWished) ∈ lw_tbl := List.mem_of_getElem? (i := 484) (by decide +kernel)
set_option maxRecDepth 20000 in
theorem lwm_485 : (Cond.static yX6_isWished) ∈ lw_tbl := List.mem_of_getElem? (i := 485) (by decide +kernel)
set_option maxRecDepth 20000 in
theorem lwm_486 : (Cond.code yX6_isWished cX6_isWished 1 (some .boolean)) ∈ lw_tbl := List.mem_of_getElem? (i := 486) (by decide +kernel)
set_option maxRecDepth 20000 in
theorem lwm_487 : (Cond.methodLink RX6 160 yX5_begin) ∈ lw_tbl := List.mem_of_getElem? (i := 487) (by decide +kernel)
set_option maxRecDepth 20000 in
theorem lwm_488 : (Cond.instanceMethod yX5_begin) ∈ lw_tbl := List.mem_of_getElem? (i := 488) (by decide +kernel)
set_option maxRecDepth 20000 in
theorem lwm_489 : (Cond.selects RX5 yX5_begin yX5_begin) ∈ lw_tbl := List.mem_of_getElem? (i := 489) (by decide +kernel)
set_option maxRecDepth 20000 in
theorem lwm_490 : (Cond.code yX5_begin cX5_begin 3 none) ∈ lw_tbl := List.mem_of_getElem? (i := 490) (by decide +kernel)
set_option maxRecDepth 20000 in
theorem lwm_491 : (Cond.methodLink RX5 18 yX4_copyFrom) ∈ lw_tbl := List.mem_of_getElem? (i := 491) (by decide +kernel)
set_option maxRecDepth 20000 in
theorem lwm_492 : (Cond.methodLink RX6 164 yX5_fulfil) ∈ lw_tbl := List.mem_of_getElem? (i := 492) (by decide +kernel)
set_option maxRecDepth 20000 in
theorem lwm_493 : (Cond.instanceMethod yX5_fulfil) ∈ lw_tbl := List.mem_of_getElem? (i := 493) (by decide +kernel)
set_option maxRecDepth 20000 in
theorem lwm_494 : (Cond.selects RX5 yX5_fulfil yX5_fulfil) ∈ lw_tbl := List.mem_of_getElem? (i := 494) (by decide +kernel)
set_option maxRecDepth 20000 in
theorem lwm_495 : (Cond.code yX5_fulfil cX5_fulfil 5 (some .boolean)) ∈ lw_tbl := List.mem_of_getElem? (i := 495) (by decide +kernel)
set_option maxRecDepth 20000 in
theorem lwm_496 : (Cond.methodLinkNest RX5 44 yX6_at RX6) ∈ lw_tbl := List.mem_of_getElem? (i := 496) (by decide +kernel)
set_option maxRecDepth 20000 in
theorem lwm_497 : (Cond.methodLink RX5 49 yX5_provide) ∈ lw_tbl := List.mem_of_getElem? (i := 497) (by decide +kernel)
set_option maxRecDepth 20000 in
theorem lwm_499 : (Cond.instanceMethod yX5_provide) ∈ lw_tbl := List.mem_of_getElem? (i := 499) (by decide +kernel)
set_option maxRecDepth 20000 in
theorem lwm_500 : (Cond.code yX5_provide cX5_provide 5 none) ∈ lw_tbl := List.mem_of_getElem? (i := 500) (by decide +kernel)
set_option maxRecDepth 20000 in
theorem lwm_501 : (Cond.methodLink RX5 56 yX0_isMade) ∈ lw_tbl := List.mem_of_getElem? (i := 501) (by decide +kernel)
set_option maxRecDepth 20000 in
theorem lwm_502 : (Cond.methodLink RX5 62 yX0_yieldOf) ∈ lw_tbl := List.mem_of_getElem? (i := 502) (by decide +kernel)
set_option maxRecDepth 20000 in
theorem lwm_503 : (Cond.methodLinkNest RX5 66 yX6_divideUp RX6) ∈ lw_tbl := List.mem_of_getElem? (i := 503) (by decide +kernel)
set_option maxRecDepth 20000 in
theorem lwm_504 : (Cond.static yX6_divideUp) ∈ lw_tbl := List.mem_of_getElem? (i := 504) (by decide +kernel)
set_option maxRecDepth 20000 in
theorem lwm_505 : (Cond.code yX6_divideUp cX6_divideUp 2 (some .int)) ∈ lw_tbl := List.mem_of_getElem? (i := 505) (by decide +kernel)
set_option maxRecDepth 20000 in
theorem lwm_506 : (Cond.methodLink RX5 53 yX5_run) ∈ lw_tbl := List.mem_of_getElem? (i := 506) (by decide +kernel)
set_option maxRecDepth 20000 in
theorem lwm_508 : (Cond.instanceMethod yX5_run) ∈ lw_tbl := List.mem_of_getElem? (i := 508) (by decide +kernel)
set_option maxRecDepth 20000 in
theorem lwm_509 : (Cond.code yX5_run cX5_run 7 none) ∈ lw_tbl := List.mem_of_getElem? (i := 509) (by decide +kernel)
set_option maxRecDepth 20000 in
theorem lwm_510 : (Cond.methodLink RX5 74 yX0_ingredientsOf) ∈ lw_tbl := List.mem_of_getElem? (i := 510) (by decide +kernel)
set_option maxRecDepth 20000 in
theorem lwm_511 : (Cond.methodLink RX5 77 yX0_ingredientAt) ∈ lw_tbl := List.mem_of_getElem? (i := 511) (by decide +kernel)
set_option maxRecDepth 20000 in
theorem lwm_512 : (Cond.methodLink RX5 80 yX0_amountAt) ∈ lw_tbl := List.mem_of_getElem? (i := 512) (by decide +kernel)
set_option maxRecDepth 20000 in
theorem lwm_513 : (Cond.instanceMethod yX0_amountAt) ∈ lw_tbl := List.mem_of_getElem? (i := 513) (by decide +kernel)
set_option maxRecDepth 20000 in
theorem lwm_514 : (Cond.selects RX0 yX0_amountAt yX0_amountAt) ∈ lw_tbl := List.mem_of_getElem? (i := 514) (by decide +kernel)
set_option maxRecDepth 20000 in
theorem lwm_515 : (Cond.code yX0_amountAt cX0_amountAt 3 (some .int)) ∈ lw_tbl := List.mem_of_getElem? (i := 515) (by decide +kernel)
set_option maxRecDepth 20000 in
theorem lwm_516 : (Cond.methodLink RX5 83 yX5_take) ∈ lw_tbl := List.mem_of_getElem? (i := 516) (by decide +kernel)
set_option maxRecDepth 20000 in
theorem lwm_518 : (Cond.instanceMethod yX5_take) ∈ lw_tbl := List.mem_of_getElem? (i := 518) (by decide +kernel)
set_option maxRecDepth 20000 in
theorem lwm_519 : (Cond.code yX5_take cX5_take 8 none) ∈ lw_tbl := List.mem_of_getElem? (i := 519) (by decide +kernel)
set_option maxRecDepth 20000 in
theorem lwm_520 : (Cond.methodLink RX5 94 yX5_useUp) ∈ lw_tbl := List.mem_of_getElem? (i := 520) (by decide +kernel)
set_option maxRecDepth 20000 in
theorem lwm_522 : (Cond.instanceMethod yX5_useUp) ∈ lw_tbl := List.mem_of_getElem? (i := 522) (by decide +kernel)
set_option maxRecDepth 20000 in
theorem lwm_523 : (Cond.code yX5_useUp cX5_useUp 6 (some .int)) ∈ lw_tbl := List.mem_of_getElem? (i := 523) (by decide +kernel)
set_option maxRecDepth 20000 in
theorem lwm_524 : (Cond.methodLink RX5 108 Lib.Math.min.name) ∈ lw_tbl := List.mem_of_getElem? (i := 524) (by decide +kernel)
set_option maxRecDepth 20000 in
theorem lwm_525 : (Cond.methodLinkNest RX5 40 yX6_add RX6) ∈ lw_tbl := List.mem_of_getElem? (i := 525) (by decide +kernel)
set_option maxRecDepth 20000 in
theorem lwm_526 : (Cond.methodLink RX5 116 yX0_vesselOf) ∈ lw_tbl := List.mem_of_getElem? (i := 526) (by decide +kernel)
set_option maxRecDepth 20000 in
theorem lwm_527 : (Cond.methodLink RX5 89 yX5_comeIn) ∈ lw_tbl := List.mem_of_getElem? (i := 527) (by decide +kernel)
set_option maxRecDepth 20000 in
theorem lwm_529 : (Cond.instanceMethod yX5_comeIn) ∈ lw_tbl := List.mem_of_getElem? (i := 529) (by decide +kernel)
set_option maxRecDepth 20000 in
theorem lwm_530 : (Cond.code yX5_comeIn cX5_comeIn 4 none) ∈ lw_tbl := List.mem_of_getElem? (i := 530) (by decide +kernel)
set_option maxRecDepth 20000 in
theorem lwm_531 : (Cond.constant RX5 48 (99999)) ∈ lw_tbl := List.mem_of_getElem? (i := 531) (by decide +kernel)
set_option maxRecDepth 20000 in
theorem lwm_532 : (Cond.methodLink RX5 98 yX0_substitutesOf) ∈ lw_tbl := List.mem_of_getElem? (i := 532) (by decide +kernel)
set_option maxRecDepth 20000 in
theorem lwm_533 : (Cond.methodLink RX5 101 yX0_substituteAt) ∈ lw_tbl := List.mem_of_getElem? (i := 533) (by decide +kernel)
set_option maxRecDepth 20000 in
theorem lwm_534 : (Cond.methodLink RX5 104 yX5_standIn) ∈ lw_tbl := List.mem_of_getElem? (i := 534) (by decide +kernel)
set_option maxRecDepth 20000 in
theorem lwm_536 : (Cond.instanceMethod yX5_standIn) ∈ lw_tbl := List.mem_of_getElem? (i := 536) (by decide +kernel)
set_option maxRecDepth 20000 in
theorem lwm_537 : (Cond.code yX5_standIn cX5_standIn 5 (some .int)) ∈ lw_tbl := List.mem_of_getElem? (i := 537) (by decide +kernel)
set_option maxRecDepth 20000 in
theorem lwm_538 : (Cond.methodLink RX5 70 yX5_collect) ∈ lw_tbl := List.mem_of_getElem? (i := 538) (by decide +kernel)
set_option maxRecDepth 20000 in
theorem lwm_540 : (Cond.instanceMethod yX5_collect) ∈ lw_tbl := List.mem_of_getElem? (i := 540) (by decide +kernel)
set_option maxRecDepth 20000 in
theorem lwm_541 : (Cond.code yX5_collect cX5_collect 3 none) ∈ lw_tbl := List.mem_of_getElem? (i := 541) (by decide +kernel)
set_option maxRecDepth 20000 in
theorem lwm_542 : (Cond.methodLink RX6 168 yX6_acceptWorks) ∈ lw_tbl := List.mem_of_getElem? (i := 542) (by decide +kernel)
set_option maxRecDepth 20000 in
theorem lwm_544 : (Cond.instanceMethod yX6_acceptWorks) ∈ lw_tbl := List.mem_of_getElem? (i := 544) (by decide +kernel)
set_option maxRecDepth 20000 in
theorem lwm_545 : (Cond.code yX6_acceptWorks cX6_acceptWorks 1 (some .int)) ∈ lw_tbl := List.mem_of_getElem? (i := 545) (by decide +kernel)
set_option maxRecDepth 20000 in
theorem lwm_546 : (Cond.methodLink RX6 253 yX4_copyFrom) ∈ lw_tbl := List.mem_of_getElem? (i := 546) (by decide +kernel)
set_option maxRecDepth 20000 in
theorem lwm_547 : (Cond.methodLink RX6 226 yX5_gathered) ∈ lw_tbl := List.mem_of_getElem? (i := 547) (by decide +kernel)
set_option maxRecDepth 20000 in
theorem lwm_548 : (Cond.instanceMethod yX5_gathered) ∈ lw_tbl := List.mem_of_getElem? (i := 548) (by decide +kernel)
set_option maxRecDepth 20000 in
theorem lwm_549 : (Cond.selects RX5 yX5_gathered yX5_gathered) ∈ lw_tbl := List.mem_of_getElem? (i := 549) (by decide +kernel)
set_option maxRecDepth 20000 in
theorem lwm_550 : (Cond.code yX5_gathered cX5_gathered 1 (some .int)) ∈ lw_tbl := List.mem_of_getElem? (i := 550) (by decide +kernel)
set_option maxRecDepth 20000 in
theorem lwm_551 : (Cond.methodLink RL 53 yX6_make) ∈ lw_tbl := List.mem_of_getElem? (i := 551) (by decide +kernel)
set_option maxRecDepth 20000 in
theorem lwm_552 : (Cond.instanceMethod yX6_make) ∈ lw_tbl := List.mem_of_getElem? (i := 552) (by decide +kernel)
set_option maxRecDepth 20000 in
theorem lwm_553 : (Cond.selects RX6 yX6_make yX6_make) ∈ lw_tbl := List.mem_of_getElem? (i := 553) (by decide +kernel)
set_option maxRecDepth 20000 in
theorem lwm_554 : (Cond.code yX6_make cX6_make 3 (some .int)) ∈ lw_tbl := List.mem_of_getElem? (i := 554) (by decide +kernel)
set_option maxRecDepth 20000 in
theorem lwm_555 : (Cond.methodLink RX6 172 yX5_runAll) ∈ lw_tbl := List.mem_of_getElem? (i := 555) (by decide +kernel)
set_option maxRecDepth 20000 in
theorem lwm_556 : (Cond.instanceMethod yX5_runAll) ∈ lw_tbl := List.mem_of_getElem? (i := 556) (by decide +kernel)
set_option maxRecDepth 20000 in
theorem lwm_557 : (Cond.selects RX5 yX5_runAll yX5_runAll) ∈ lw_tbl := List.mem_of_getElem? (i := 557) (by decide +kernel)
set_option maxRecDepth 20000 in
theorem lwm_558 : (Cond.code yX5_runAll cX5_runAll 4 (some .boolean)) ∈ lw_tbl := List.mem_of_getElem? (i := 558) (by decide +kernel)
set_option maxRecDepth 20000 in
theorem lwm_559 : (Cond.methodLink RL 56 yX6_undo) ∈ lw_tbl := List.mem_of_getElem? (i := 559) (by decide +kernel)
set_option maxRecDepth 20000 in
theorem lwm_560 : (Cond.instanceMethod yX6_undo) ∈ lw_tbl := List.mem_of_getElem? (i := 560) (by decide +kernel)
set_option maxRecDepth 20000 in
theorem lwm_561 : (Cond.selects RX6 yX6_undo yX6_undo) ∈ lw_tbl := List.mem_of_getElem? (i := 561) (by decide +kernel)
set_option maxRecDepth 20000 in
theorem lwm_562 : (Cond.code yX6_undo cX6_undo 1 (some .int)) ∈ lw_tbl := List.mem_of_getElem? (i := 562) (by decide +kernel)
set_option maxRecDepth 20000 in
theorem lwm_563 : (Cond.methodLink RX6 175 yX1_size) ∈ lw_tbl := List.mem_of_getElem? (i := 563) (by decide +kernel)
set_option maxRecDepth 20000 in
theorem lwm_564 : (Cond.instanceMethod yX1_size) ∈ lw_tbl := List.mem_of_getElem? (i := 564) (by decide +kernel)
set_option maxRecDepth 20000 in
theorem lwm_565 : (Cond.selects RX1 yX1_size yX1_size) ∈ lw_tbl := List.mem_of_getElem? (i := 565) (by decide +kernel)
set_option maxRecDepth 20000 in
theorem lwm_566 : (Cond.code yX1_size cX1_size 1 (some .int)) ∈ lw_tbl := List.mem_of_getElem? (i := 566) (by decide +kernel)
set_option maxRecDepth 20000 in
theorem lwm_567 : (Cond.methodLink RX6 178 yX1_restore) ∈ lw_tbl := List.mem_of_getElem? (i := 567) (by decide +kernel)
set_option maxRecDepth 20000 in
theorem lwm_568 : (Cond.instanceMethod yX1_restore) ∈ lw_tbl := List.mem_of_getElem? (i := 568) (by decide +kernel)
set_option maxRecDepth 20000 in
theorem lwm_569 : (Cond.selects RX1 yX1_restore yX1_restore) ∈ lw_tbl := List.mem_of_getElem? (i := 569) (by decide +kernel)
set_option maxRecDepth 20000 in
theorem lwm_570 : (Cond.code yX1_restore cX1_restore 4 none) ∈ lw_tbl := List.mem_of_getElem? (i := 570) (by decide +kernel)
set_option maxRecDepth 20000 in
theorem lwm_571 : (Cond.methodLinkNest RX1 36 yX6_stateAt RX6) ∈ lw_tbl := List.mem_of_getElem? (i := 571) (by decide +kernel)
set_option maxRecDepth 20000 in
theorem lwm_572 : (Cond.methodLink RX1 39 yX3_layOut) ∈ lw_tbl := List.mem_of_getElem? (i := 572) (by decide +kernel)
set_option maxRecDepth 20000 in
theorem lwm_573 : (Cond.instanceMethod yX3_layOut) ∈ lw_tbl := List.mem_of_getElem? (i := 573) (by decide +kernel)
set_option maxRecDepth 20000 in
theorem lwm_574 : (Cond.selects RX3 yX3_layOut yX3_layOut) ∈ lw_tbl := List.mem_of_getElem? (i := 574) (by decide +kernel)
set_option maxRecDepth 20000 in
theorem lwm_575 : (Cond.code yX3_layOut cX3_layOut 3 none) ∈ lw_tbl := List.mem_of_getElem? (i := 575) (by decide +kernel)
set_option maxRecDepth 20000 in
theorem lwm_576 : (Cond.methodLink RL 59 yX6_keep) ∈ lw_tbl := List.mem_of_getElem? (i := 576) (by decide +kernel)
set_option maxRecDepth 20000 in
theorem lwm_577 : (Cond.instanceMethod yX6_keep) ∈ lw_tbl := List.mem_of_getElem? (i := 577) (by decide +kernel)
set_option maxRecDepth 20000 in
theorem lwm_578 : (Cond.selects RX6 yX6_keep yX6_keep) ∈ lw_tbl := List.mem_of_getElem? (i := 578) (by decide +kernel)
set_option maxRecDepth 20000 in
theorem lwm_579 : (Cond.code yX6_keep cX6_keep 2 (some .int)) ∈ lw_tbl := List.mem_of_getElem? (i := 579) (by decide +kernel)
set_option maxRecDepth 20000 in
theorem lwm_580 : (Cond.methodLink RX6 240 yX6_roomAt) ∈ lw_tbl := List.mem_of_getElem? (i := 580) (by decide +kernel)
set_option maxRecDepth 20000 in
theorem lwm_581 : (Cond.methodLink RX6 244 yX3_hold) ∈ lw_tbl := List.mem_of_getElem? (i := 581) (by decide +kernel)
set_option maxRecDepth 20000 in
theorem lwm_582 : (Cond.methodLink RX6 184 yX0_recipes) ∈ lw_tbl := List.mem_of_getElem? (i := 582) (by decide +kernel)
set_option maxRecDepth 20000 in
theorem lwm_583 : (Cond.instanceMethod yX0_recipes) ∈ lw_tbl := List.mem_of_getElem? (i := 583) (by decide +kernel)
set_option maxRecDepth 20000 in
theorem lwm_584 : (Cond.selects RX0 yX0_recipes yX0_recipes) ∈ lw_tbl := List.mem_of_getElem? (i := 584) (by decide +kernel)
set_option maxRecDepth 20000 in
theorem lwm_585 : (Cond.code yX0_recipes cX0_recipes 1 (some .int)) ∈ lw_tbl := List.mem_of_getElem? (i := 585) (by decide +kernel)
set_option maxRecDepth 20000 in
theorem lwm_586 : (Cond.methodLink RX0 50 yX0_madeThings) ∈ lw_tbl := List.mem_of_getElem? (i := 586) (by decide +kernel)
set_option maxRecDepth 20000 in
theorem lwm_587 : (Cond.instanceMethod yX0_madeThings) ∈ lw_tbl := List.mem_of_getElem? (i := 587) (by decide +kernel)
set_option maxRecDepth 20000 in
theorem lwm_588 : (Cond.selects RX0 yX0_madeThings yX0_madeThings) ∈ lw_tbl := List.mem_of_getElem? (i := 588) (by decide +kernel)
set_option maxRecDepth 20000 in
theorem lwm_589 : (Cond.code yX0_madeThings cX0_madeThings 3 (some .int)) ∈ lw_tbl := List.mem_of_getElem? (i := 589) (by decide +kernel)
set_option maxRecDepth 20000 in
theorem lwm_590 : (Cond.methodLink RX0 54 yJ6_bitCount_0f7a4) ∈ lw_tbl := List.mem_of_getElem? (i := 590) (by decide +kernel)
set_option maxRecDepth 20000 in
theorem lwm_591 : (Cond.static yJ6_bitCount_0f7a4) ∈ lw_tbl := List.mem_of_getElem? (i := 591) (by decide +kernel)
set_option maxRecDepth 20000 in
theorem lwm_592 : (Cond.code yJ6_bitCount_0f7a4 cJ6_bitCount_0f7a4 1 (some .int)) ∈ lw_tbl := List.mem_of_getElem? (i := 592) (by decide +kernel)
set_option maxRecDepth 20000 in
theorem lwm_593 : (Cond.constant RJ6 265 (1431655765)) ∈ lw_tbl := List.mem_of_getElem? (i := 593) (by decide +kernel)
set_option maxRecDepth 20000 in
theorem lwm_594 : (Cond.constant RJ6 266 (858993459)) ∈ lw_tbl := List.mem_of_getElem? (i := 594) (by decide +kernel)
set_option maxRecDepth 20000 in
theorem lwm_595 : (Cond.constant RJ6 267 (252645135)) ∈ lw_tbl := List.mem_of_getElem? (i := 595) (by decide +kernel)
set_option maxRecDepth 20000 in
theorem lwm_596 : (Cond.methodLink RL 62 yX6_back) ∈ lw_tbl := List.mem_of_getElem? (i := 596) (by decide +kernel)
set_option maxRecDepth 20000 in
theorem lwm_597 : (Cond.instanceMethod yX6_back) ∈ lw_tbl := List.mem_of_getElem? (i := 597) (by decide +kernel)
set_option maxRecDepth 20000 in
theorem lwm_598 : (Cond.selects RX6 yX6_back yX6_back) ∈ lw_tbl := List.mem_of_getElem? (i := 598) (by decide +kernel)
set_option maxRecDepth 20000 in
theorem lwm_599 : (Cond.code yX6_back cX6_back 3 (some .int)) ∈ lw_tbl := List.mem_of_getElem? (i := 599) (by decide +kernel)
set_option maxRecDepth 20000 in
theorem lwm_600 : (Cond.methodLink RX6 250 yX3_layOut) ∈ lw_tbl := List.mem_of_getElem? (i := 600) (by decide +kernel)
set_option maxRecDepth 20000 in
theorem lwm_601 : (Cond.methodLink RL 103 yL_areAccounts) ∈ lw_tbl := List.mem_of_getElem? (i := 601) (by decide +kernel)
set_option maxRecDepth 20000 in
theorem lwm_602 : (Cond.static yL_areAccounts) ∈ lw_tbl := List.mem_of_getElem? (i := 602) (by decide +kernel)
set_option maxRecDepth 20000 in
theorem lwm_603 : (Cond.code yL_areAccounts cL_areAccounts 12 (some .boolean)) ∈ lw_tbl := List.mem_of_getElem? (i := 603) (by decide +kernel)
set_option maxRecDepth 20000 in
theorem lwm_604 : (Cond.methodLink RL 65 yX6_thing) ∈ lw_tbl := List.mem_of_getElem? (i := 604) (by decide +kernel)
set_option maxRecDepth 20000 in
theorem lwm_605 : (Cond.instanceMethod yX6_thing) ∈ lw_tbl := List.mem_of_getElem? (i := 605) (by decide +kernel)
set_option maxRecDepth 20000 in
theorem lwm_606 : (Cond.selects RX6 yX6_thing yX6_thing) ∈ lw_tbl := List.mem_of_getElem? (i := 606) (by decide +kernel)
set_option maxRecDepth 20000 in
theorem lwm_607 : (Cond.code yX6_thing cX6_thing 3 (some .int)) ∈ lw_tbl := List.mem_of_getElem? (i := 607) (by decide +kernel)
set_option maxRecDepth 20000 in
theorem lwm_608 : (Cond.methodLink RX6 203 yX0_ingredientsOf) ∈ lw_tbl := List.mem_of_getElem? (i := 608) (by decide +kernel)
set_option maxRecDepth 20000 in
theorem lwm_609 : (Cond.constant RL 68 (99999)) ∈ lw_tbl := List.mem_of_getElem? (i := 609) (by decide +kernel)
set_option maxRecDepth 20000 in
theorem lwm_610 : (Cond.methodLink RL 69 yX6_told) ∈ lw_tbl := List.mem_of_getElem? (i := 610) (by decide +kernel)
set_option maxRecDepth 20000 in
theorem lwm_611 : (Cond.instanceMethod yX6_told) ∈ lw_tbl := List.mem_of_getElem? (i := 611) (by decide +kernel)
set_option maxRecDepth 20000 in
theorem lwm_612 : (Cond.selects RX6 yX6_told yX6_told) ∈ lw_tbl := List.mem_of_getElem? (i := 612) (by decide +kernel)
set_option maxRecDepth 20000 in
theorem lwm_613 : (Cond.code yX6_told cX6_told 2 (some .int)) ∈ lw_tbl := List.mem_of_getElem? (i := 613) (by decide +kernel)
set_option maxRecDepth 20000 in
theorem lwm_614 : (Cond.methodLink RX6 187 yX6_sum) ∈ lw_tbl := List.mem_of_getElem? (i := 614) (by decide +kernel)
set_option maxRecDepth 20000 in
theorem lwm_615 : (Cond.static yX6_sum) ∈ lw_tbl := List.mem_of_getElem? (i := 615) (by decide +kernel)
set_option maxRecDepth 20000 in
theorem lwm_616 : (Cond.code yX6_sum cX6_sum 3 (some .int)) ∈ lw_tbl := List.mem_of_getElem? (i := 616) (by decide +kernel)
set_option maxRecDepth 20000 in
theorem lwm_617 : (Cond.methodLink RX6 197 yX0_greatestRank) ∈ lw_tbl := List.mem_of_getElem? (i := 617) (by decide +kernel)
set_option maxRecDepth 20000 in
theorem lwm_618 : (Cond.instanceMethod yX0_greatestRank) ∈ lw_tbl := List.mem_of_getElem? (i := 618) (by decide +kernel)
set_option maxRecDepth 20000 in
theorem lwm_619 : (Cond.selects RX0 yX0_greatestRank yX0_greatestRank) ∈ lw_tbl := List.mem_of_getElem? (i := 619) (by decide +kernel)
set_option maxRecDepth 20000 in
theorem lwm_620 : (Cond.code yX0_greatestRank cX0_greatestRank 3 (some .int)) ∈ lw_tbl := List.mem_of_getElem? (i := 620) (by decide +kernel)
set_option maxRecDepth 20000 in
theorem lwm_621 : (Cond.methodLink RX6 200 yX0_madeThings) ∈ lw_tbl := List.mem_of_getElem? (i := 621) (by decide +kernel)
set_option maxRecDepth 20000 in
theorem lwm_622 : (Cond.methodLink RL 72 yX6_share) ∈ lw_tbl := List.mem_of_getElem? (i := 622) (by decide +kernel)
set_option maxRecDepth 20000 in
theorem lwm_623 : (Cond.instanceMethod yX6_share) ∈ lw_tbl := List.mem_of_getElem? (i := 623) (by decide +kernel)
set_option maxRecDepth 20000 in
theorem lwm_624 : (Cond.selects RX6 yX6_share yX6_share) ∈ lw_tbl := List.mem_of_getElem? (i := 624) (by decide +kernel)
set_option maxRecDepth 20000 in
theorem lwm_625 : (Cond.code yX6_share cX6_share 3 (some .float)) ∈ lw_tbl := List.mem_of_getElem? (i := 625) (by decide +kernel)
set_option maxRecDepth 20000 in
theorem lwm_626 : (Cond.methodLink RL 107 yL_isRanked) ∈ lw_tbl := List.mem_of_getElem? (i := 626) (by decide +kernel)
set_option maxRecDepth 20000 in
theorem lwm_627 : (Cond.static yL_isRanked) ∈ lw_tbl := List.mem_of_getElem? (i := 627) (by decide +kernel)
set_option maxRecDepth 20000 in
theorem lwm_628 : (Cond.code yL_isRanked cL_isRanked 8 (some .boolean)) ∈ lw_tbl := List.mem_of_getElem? (i := 628) (by decide +kernel)
set_option maxRecDepth 20000 in
theorem lwm_629 : (Cond.methodLink RL 76 yX6_ingredient) ∈ lw_tbl := List.mem_of_getElem? (i := 629) (by decide +kernel)
set_option maxRecDepth 20000 in
theorem lwm_630 : (Cond.instanceMethod yX6_ingredient) ∈ lw_tbl := List.mem_of_getElem? (i := 630) (by decide +kernel)
set_option maxRecDepth 20000 in
theorem lwm_631 : (Cond.selects RX6 yX6_ingredient yX6_ingredient) ∈ lw_tbl := List.mem_of_getElem? (i := 631) (by decide +kernel)
set_option maxRecDepth 20000 in
theorem lwm_632 : (Cond.code yX6_ingredient cX6_ingredient 4 (some .int)) ∈ lw_tbl := List.mem_of_getElem? (i := 632) (by decide +kernel)
set_option maxRecDepth 20000 in
theorem lwm_633 : (Cond.methodLink RX6 214 yX0_ingredientAt) ∈ lw_tbl := List.mem_of_getElem? (i := 633) (by decide +kernel)
set_option maxRecDepth 20000 in
theorem lwm_634 : (Cond.methodLink RX6 217 yX0_amountAt) ∈ lw_tbl := List.mem_of_getElem? (i := 634) (by decide +kernel)
set_option maxRecDepth 20000 in
theorem lwm_635 : (Cond.methodLink RL 80 yX6_isNeeded) ∈ lw_tbl := List.mem_of_getElem? (i := 635) (by decide +kernel)
set_option maxRecDepth 20000 in
theorem lwm_636 : (Cond.instanceMethod yX6_isNeeded) ∈ lw_tbl := List.mem_of_getElem? (i := 636) (by decide +kernel)
set_option maxRecDepth 20000 in
theorem lwm_637 : (Cond.selects RX6 yX6_isNeeded yX6_isNeeded) ∈ lw_tbl := List.mem_of_getElem? (i := 637) (by decide +kernel)
set_option maxRecDepth 20000 in
theorem lwm_638 : (Cond.code yX6_isNeeded cX6_isNeeded 3 (some .int)) ∈ lw_tbl := List.mem_of_getElem? (i := 638) (by decide +kernel)
set_option maxRecDepth 20000 in
theorem lwm_639 : (Cond.methodLink RX6 220 yX0_allNeedsOf) ∈ lw_tbl := List.mem_of_getElem? (i := 639) (by decide +kernel)
set_option maxRecDepth 20000 in
theorem lwm_640 : (Cond.instanceMethod yX0_allNeedsOf) ∈ lw_tbl := List.mem_of_getElem? (i := 640) (by decide +kernel)
set_option maxRecDepth 20000 in
theorem lwm_641 : (Cond.selects RX0 yX0_allNeedsOf yX0_allNeedsOf) ∈ lw_tbl := List.mem_of_getElem? (i := 641) (by decide +kernel)
set_option maxRecDepth 20000 in
theorem lwm_642 : (Cond.code yX0_allNeedsOf cX0_allNeedsOf 6 (some .int)) ∈ lw_tbl := List.mem_of_getElem? (i := 642) (by decide +kernel)
set_option maxRecDepth 20000 in
theorem lwm_643 : (Cond.methodLink RX6 223 yX6_hasBit) ∈ lw_tbl := List.mem_of_getElem? (i := 643) (by decide +kernel)
set_option maxRecDepth 20000 in
theorem lwm_644 : (Cond.methodLink RL 83 yX6_substitute) ∈ lw_tbl := List.mem_of_getElem? (i := 644) (by decide +kernel)
set_option maxRecDepth 20000 in
theorem lwm_645 : (Cond.instanceMethod yX6_substitute) ∈ lw_tbl := List.mem_of_getElem? (i := 645) (by decide +kernel)
set_option maxRecDepth 20000 in
theorem lwm_646 : (Cond.selects RX6 yX6_substitute yX6_substitute) ∈ lw_tbl := List.mem_of_getElem? (i := 646) (by decide +kernel)
set_option maxRecDepth 20000 in
theorem lwm_647 : (Cond.code yX6_substitute cX6_substitute 3 (some .int)) ∈ lw_tbl := List.mem_of_getElem? (i := 647) (by decide +kernel)
set_option maxRecDepth 20000 in
theorem lwm_648 : (Cond.methodLink RL 111 yL_isWish) ∈ lw_tbl := List.mem_of_getElem? (i := 648) (by decide +kernel)
set_option maxRecDepth 20000 in
theorem lwm_649 : (Cond.static yL_isWish) ∈ lw_tbl := List.mem_of_getElem? (i := 649) (by decide +kernel)
set_option maxRecDepth 20000 in
theorem lwm_650 : (Cond.code yL_isWish cL_isWish 12 (some .boolean)) ∈ lw_tbl := List.mem_of_getElem? (i := 650) (by decide +kernel)
set_option maxRecDepth 20000 in
theorem lwm_651 : (Cond.methodLink RL 86 yX6_gather) ∈ lw_tbl := List.mem_of_getElem? (i := 651) (by decide +kernel)
set_option maxRecDepth 20000 in
theorem lwm_652 : (Cond.instanceMethod yX6_gather) ∈ lw_tbl := List.mem_of_getElem? (i := 652) (by decide +kernel)
set_option maxRecDepth 20000 in
theorem lwm_653 : (Cond.selects RX6 yX6_gather yX6_gather) ∈ lw_tbl := List.mem_of_getElem? (i := 653) (by decide +kernel)
set_option maxRecDepth 20000 in
theorem lwm_654 : (Cond.code yX6_gather cX6_gather 4 (some .int)) ∈ lw_tbl := List.mem_of_getElem? (i := 654) (by decide +kernel)
set_option maxRecDepth 20000 in
theorem lwm_655 : (Cond.methodLink RL 89 yX6_bestGift) ∈ lw_tbl := List.mem_of_getElem? (i := 655) (by decide +kernel)
set_option maxRecDepth 20000 in
theorem lwm_656 : (Cond.instanceMethod yX6_bestGift) ∈ lw_tbl := List.mem_of_getElem? (i := 656) (by decide +kernel)
set_option maxRecDepth 20000 in
theorem lwm_657 : (Cond.selects RX6 yX6_bestGift yX6_bestGift) ∈ lw_tbl := List.mem_of_getElem? (i := 657) (by decide +kernel)
set_option maxRecDepth 20000 in
theorem lwm_658 : (Cond.code yX6_bestGift cX6_bestGift 6 (some .int)) ∈ lw_tbl := List.mem_of_getElem? (i := 658) (by decide +kernel)
set_option maxRecDepth 20000 in
theorem lwm_659 : (Cond.methodLink RX6 237 yX5_receive) ∈ lw_tbl := List.mem_of_getElem? (i := 659) (by decide +kernel)
set_option maxRecDepth 20000 in
theorem lwm_660 : (Cond.instanceMethod yX5_receive) ∈ lw_tbl := List.mem_of_getElem? (i := 660) (by decide +kernel)
set_option maxRecDepth 20000 in
theorem lwm_661 : (Cond.selects RX5 yX5_receive yX5_receive) ∈ lw_tbl := List.mem_of_getElem? (i := 661) (by decide +kernel)
set_option maxRecDepth 20000 in
theorem lwm_662 : (Cond.code yX5_receive cX5_receive 2 (some .boolean)) ∈ lw_tbl := List.mem_of_getElem? (i := 662) (by decide +kernel)
set_option maxRecDepth 20000 in
theorem lwm_663 : (Cond.methodLink RL 115 yL_canHave) ∈ lw_tbl := List.mem_of_getElem? (i := 663) (by decide +kernel)
set_option maxRecDepth 20000 in
theorem lwm_664 : (Cond.static yL_canHave) ∈ lw_tbl := List.mem_of_getElem? (i := 664) (by decide +kernel)
set_option maxRecDepth 20000 in
theorem lwm_665 : (Cond.code yL_canHave cL_canHave 4 (some .boolean)) ∈ lw_tbl := List.mem_of_getElem? (i := 665) (by decide +kernel)
set_option maxRecDepth 20000 in
theorem lwm_666 : (Cond.methodLink RL 92 yX6_canHave) ∈ lw_tbl := List.mem_of_getElem? (i := 666) (by decide +kernel)
set_option maxRecDepth 20000 in
theorem lwm_667 : (Cond.instanceMethod yX6_canHave) ∈ lw_tbl := List.mem_of_getElem? (i := 667) (by decide +kernel)
set_option maxRecDepth 20000 in
theorem lwm_668 : (Cond.selects RX6 yX6_canHave yX6_canHave) ∈ lw_tbl := List.mem_of_getElem? (i := 668) (by decide +kernel)
set_option maxRecDepth 20000 in
theorem lwm_669 : (Cond.code yX6_canHave cX6_canHave 6 (some .int)) ∈ lw_tbl := List.mem_of_getElem? (i := 669) (by decide +kernel)
set_option maxRecDepth 20000 in
theorem lwm_670 : (Cond.methodLink RX6 234 yX6_divideUp) ∈ lw_tbl := List.mem_of_getElem? (i := 670) (by decide +kernel)
set_option maxRecDepth 20000 in
theorem lwm_671 : (Cond.methodLink RL 117 yL_areAlike) ∈ lw_tbl := List.mem_of_getElem? (i := 671) (by decide +kernel)
set_option maxRecDepth 20000 in
theorem lwm_672 : (Cond.static yL_areAlike) ∈ lw_tbl := List.mem_of_getElem? (i := 672) (by decide +kernel)
set_option maxRecDepth 20000 in
theorem lwm_673 : (Cond.code yL_areAlike cL_areAlike 5 (some .boolean)) ∈ lw_tbl := List.mem_of_getElem? (i := 673) (by decide +kernel)
