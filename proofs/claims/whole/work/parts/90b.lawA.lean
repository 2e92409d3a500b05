set_option maxRecDepth 20000 in
theorem lwm_536 : (Cond.methodLink RX5 116 yX0_vesselOf) ∈ lw_tbl := List.mem_of_getElem? (i := 536) (by decide +kernel)
set_option maxRecDepth 20000 in
theorem lwm_537 : (Cond.methodLink RX5 89 yX5_comeIn) ∈ lw_tbl := List.mem_of_getElem? (i := 537) (by decide +kernel)
set_option maxRecDepth 20000 in
theorem lwm_539 : (Cond.instanceMethod yX5_comeIn) ∈ lw_tbl := List.mem_of_getElem? (i := 539) (by decide +kernel)
set_option maxRecDepth 20000 in
theorem lwm_540 : (Cond.code yX5_comeIn cX5_comeIn 4 none) ∈ lw_tbl := List.mem_of_getElem? (i := 540) (by decide +kernel)
set_option maxRecDepth 20000 in
theorem lwm_541 : (Cond.constant RX5 48 (99999)) ∈ lw_tbl := List.mem_of_getElem? (i := 541) (by decide +kernel)
set_option maxRecDepth 20000 in
theorem lwm_542 : (Cond.methodLink RX5 98 yX0_substitutesOf) ∈ lw_tbl := List.mem_of_getElem? (i := 542) (by decide +kernel)
set_option maxRecDepth 20000 in
theorem lwm_543 : (Cond.methodLink RX5 101 yX0_substituteAt) ∈ lw_tbl := List.mem_of_getElem? (i := 543) (by decide +kernel)
set_option maxRecDepth 20000 in
theorem lwm_544 : (Cond.methodLink RX5 104 yX5_standIn) ∈ lw_tbl := List.mem_of_getElem? (i := 544) (by decide +kernel)
set_option maxRecDepth 20000 in
theorem lwm_546 : (Cond.instanceMethod yX5_standIn) ∈ lw_tbl := List.mem_of_getElem? (i := 546) (by decide +kernel)
set_option maxRecDepth 20000 in
theorem lwm_547 : (Cond.code yX5_standIn cX5_standIn 5 (some .int)) ∈ lw_tbl := List.mem_of_getElem? (i := 547) (by decide +kernel)
set_option maxRecDepth 20000 in
theorem lwm_548 : (Cond.methodLink RX5 70 yX5_collect) ∈ lw_tbl := List.mem_of_getElem? (i := 548) (by decide +kernel)
set_option maxRecDepth 20000 in
theorem lwm_550 : (Cond.instanceMethod yX5_collect) ∈ lw_tbl := List.mem_of_getElem? (i := 550) (by decide +kernel)
set_option maxRecDepth 20000 in
theorem lwm_551 : (Cond.code yX5_collect cX5_collect 3 none) ∈ lw_tbl := List.mem_of_getElem? (i := 551) (by decide +kernel)
set_option maxRecDepth 20000 in
theorem lwm_552 : (Cond.methodLink RX6 168 yX6_acceptWorks) ∈ lw_tbl := List.mem_of_getElem? (i := 552) (by decide +kernel)
set_option maxRecDepth 20000 in
theorem lwm_554 : (Cond.instanceMethod yX6_acceptWorks) ∈ lw_tbl := List.mem_of_getElem? (i := 554) (by decide +kernel)
set_option maxRecDepth 20000 in
theorem lwm_555 : (Cond.code yX6_acceptWorks cX6_acceptWorks 1 (some .int)) ∈ lw_tbl := List.mem_of_getElem? (i := 555) (by decide +kernel)
set_option maxRecDepth 20000 in
theorem lwm_556 : (Cond.methodLink RX6 253 yX4_copyFrom) ∈ lw_tbl := List.mem_of_getElem? (i := 556) (by decide +kernel)
set_option maxRecDepth 20000 in
theorem lwm_557 : (Cond.methodLink RX6 226 yX5_gathered) ∈ lw_tbl := List.mem_of_getElem? (i := 557) (by decide +kernel)
set_option maxRecDepth 20000 in
theorem lwm_558 : (Cond.instanceMethod yX5_gathered) ∈ lw_tbl := List.mem_of_getElem? (i := 558) (by decide +kernel)
set_option maxRecDepth 20000 in
theorem lwm_559 : (Cond.selects RX5 yX5_gathered yX5_gathered) ∈ lw_tbl := List.mem_of_getElem? (i := 559) (by decide +kernel)
set_option maxRecDepth 20000 in
theorem lwm_560 : (Cond.code yX5_gathered cX5_gathered 1 (some .int)) ∈ lw_tbl := List.mem_of_getElem? (i := 560) (by decide +kernel)
set_option maxRecDepth 20000 in
theorem lwm_561 : (Cond.methodLink RL 44 yX6_make) ∈ lw_tbl := List.mem_of_getElem? (i := 561) (by decide +kernel)
set_option maxRecDepth 20000 in
theorem lwm_562 : (Cond.instanceMethod yX6_make) ∈ lw_tbl := List.mem_of_getElem? (i := 562) (by decide +kernel)
set_option maxRecDepth 20000 in
theorem lwm_563 : (Cond.selects RX6 yX6_make yX6_make) ∈ lw_tbl := List.mem_of_getElem? (i := 563) (by decide +kernel)
set_option maxRecDepth 20000 in
theorem lwm_564 : (Cond.code yX6_make cX6_make 3 (some .int)) ∈ lw_tbl := List.mem_of_getElem? (i := 564) (by decide +kernel)
set_option maxRecDepth 20000 in
theorem lwm_565 : (Cond.methodLink RX6 172 yX5_runAll) ∈ lw_tbl := List.mem_of_getElem? (i := 565) (by decide +kernel)
set_option maxRecDepth 20000 in
theorem lwm_566 : (Cond.instanceMethod yX5_runAll) ∈ lw_tbl := List.mem_of_getElem? (i := 566) (by decide +kernel)
set_option maxRecDepth 20000 in
theorem lwm_567 : (Cond.selects RX5 yX5_runAll yX5_runAll) ∈ lw_tbl := List.mem_of_getElem? (i := 567) (by decide +kernel)
set_option maxRecDepth 20000 in
theorem lwm_568 : (Cond.code yX5_runAll cX5_runAll 4 (some .boolean)) ∈ lw_tbl := List.mem_of_getElem? (i := 568) (by decide +kernel)
set_option maxRecDepth 20000 in
theorem lwm_569 : (Cond.methodLink RL 48 yX6_undo) ∈ lw_tbl := List.mem_of_getElem? (i := 569) (by decide +kernel)
set_option maxRecDepth 20000 in
theorem lwm_570 : (Cond.instanceMethod yX6_undo) ∈ lw_tbl := List.mem_of_getElem? (i := 570) (by decide +kernel)
set_option maxRecDepth 20000 in
theorem lwm_571 : (Cond.selects RX6 yX6_undo yX6_undo) ∈ lw_tbl := List.mem_of_getElem? (i := 571) (by decide +kernel)
set_option maxRecDepth 20000 in
theorem lwm_572 : (Cond.code yX6_undo cX6_undo 1 (some .int)) ∈ lw_tbl := List.mem_of_getElem? (i := 572) (by decide +kernel)
set_option maxRecDepth 20000 in
theorem lwm_573 : (Cond.methodLink RX6 175 yX1_size) ∈ lw_tbl := List.mem_of_getElem? (i := 573) (by decide +kernel)
set_option maxRecDepth 20000 in
theorem lwm_574 : (Cond.instanceMethod yX1_size) ∈ lw_tbl := List.mem_of_getElem? (i := 574) (by decide +kernel)
set_option maxRecDepth 20000 in
theorem lwm_575 : (Cond.selects RX1 yX1_size yX1_size) ∈ lw_tbl := List.mem_of_getElem? (i := 575) (by decide +kernel)
set_option maxRecDepth 20000 in
theorem lwm_576 : (Cond.code yX1_size cX1_size 1 (some .int)) ∈ lw_tbl := List.mem_of_getElem? (i := 576) (by decide +kernel)
set_option maxRecDepth 20000 in
theorem lwm_577 : (Cond.methodLink RX6 178 yX1_restore) ∈ lw_tbl := List.mem_of_getElem? (i := 577) (by decide +kernel)
set_option maxRecDepth 20000 in
theorem lwm_578 : (Cond.instanceMethod yX1_restore) ∈ lw_tbl := List.mem_of_getElem? (i := 578) (by decide +kernel)
set_option maxRecDepth 20000 in
theorem lwm_579 : (Cond.selects RX1 yX1_restore yX1_restore) ∈ lw_tbl := List.mem_of_getElem? (i := 579) (by decide +kernel)
set_option maxRecDepth 20000 in
theorem lwm_580 : (Cond.code yX1_restore cX1_restore 4 none) ∈ lw_tbl := List.mem_of_getElem? (i := 580) (by decide +kernel)
set_option maxRecDepth 20000 in
theorem lwm_582 : (Cond.methodLink RX1 39 yX3_layOut) ∈ lw_tbl := List.mem_of_getElem? (i := 582) (by decide +kernel)
set_option maxRecDepth 20000 in
theorem lwm_583 : (Cond.instanceMethod yX3_layOut) ∈ lw_tbl := List.mem_of_getElem? (i := 583) (by decide +kernel)
set_option maxRecDepth 20000 in
theorem lwm_584 : (Cond.selects RX3 yX3_layOut yX3_layOut) ∈ lw_tbl := List.mem_of_getElem? (i := 584) (by decide +kernel)
set_option maxRecDepth 20000 in
theorem lwm_585 : (Cond.code yX3_layOut cX3_layOut 3 none) ∈ lw_tbl := List.mem_of_getElem? (i := 585) (by decide +kernel)
set_option maxRecDepth 20000 in
theorem lwm_586 : (Cond.methodLink RL 52 yX6_write) ∈ lw_tbl := List.mem_of_getElem? (i := 586) (by decide +kernel)
set_option maxRecDepth 20000 in
theorem lwm_587 : (Cond.instanceMethod yX6_write) ∈ lw_tbl := List.mem_of_getElem? (i := 587) (by decide +kernel)
set_option maxRecDepth 20000 in
theorem lwm_588 : (Cond.selects RX6 yX6_write yX6_write) ∈ lw_tbl := List.mem_of_getElem? (i := 588) (by decide +kernel)
set_option maxRecDepth 20000 in
theorem lwm_589 : (Cond.code yX6_write cX6_write 2 (some .int)) ∈ lw_tbl := List.mem_of_getElem? (i := 589) (by decide +kernel)
set_option maxRecDepth 20000 in
theorem lwm_590 : (Cond.methodLink RX6 181 yX6_put) ∈ lw_tbl := List.mem_of_getElem? (i := 590) (by decide +kernel)
set_option maxRecDepth 20000 in
theorem lwm_591 : (Cond.methodLink RL 56 yX6_wipe) ∈ lw_tbl := List.mem_of_getElem? (i := 591) (by decide +kernel)
set_option maxRecDepth 20000 in
theorem lwm_592 : (Cond.instanceMethod yX6_wipe) ∈ lw_tbl := List.mem_of_getElem? (i := 592) (by decide +kernel)
set_option maxRecDepth 20000 in
theorem lwm_593 : (Cond.selects RX6 yX6_wipe yX6_wipe) ∈ lw_tbl := List.mem_of_getElem? (i := 593) (by decide +kernel)
set_option maxRecDepth 20000 in
theorem lwm_594 : (Cond.code yX6_wipe cX6_wipe 2 (some .int)) ∈ lw_tbl := List.mem_of_getElem? (i := 594) (by decide +kernel)
set_option maxRecDepth 20000 in
theorem lwm_595 : (Cond.methodLink RL 60 yX6_fault) ∈ lw_tbl := List.mem_of_getElem? (i := 595) (by decide +kernel)
set_option maxRecDepth 20000 in
theorem lwm_596 : (Cond.instanceMethod yX6_fault) ∈ lw_tbl := List.mem_of_getElem? (i := 596) (by decide +kernel)
set_option maxRecDepth 20000 in
theorem lwm_597 : (Cond.selects RX6 yX6_fault yX6_fault) ∈ lw_tbl := List.mem_of_getElem? (i := 597) (by decide +kernel)
set_option maxRecDepth 20000 in
theorem lwm_598 : (Cond.code yX6_fault cX6_fault 2 (some .int)) ∈ lw_tbl := List.mem_of_getElem? (i := 598) (by decide +kernel)
set_option maxRecDepth 20000 in
theorem lwm_599 : (Cond.methodLink RL 64 yX6_told) ∈ lw_tbl := List.mem_of_getElem? (i := 599) (by decide +kernel)
set_option maxRecDepth 20000 in
theorem lwm_600 : (Cond.instanceMethod yX6_told) ∈ lw_tbl := List.mem_of_getElem? (i := 600) (by decide +kernel)
set_option maxRecDepth 20000 in
theorem lwm_601 : (Cond.selects RX6 yX6_told yX6_told) ∈ lw_tbl := List.mem_of_getElem? (i := 601) (by decide +kernel)
set_option maxRecDepth 20000 in
theorem lwm_602 : (Cond.code yX6_told cX6_told 2 (some .int)) ∈ lw_tbl := List.mem_of_getElem? (i := 602) (by decide +kernel)
set_option maxRecDepth 20000 in
theorem lwm_603 : (Cond.methodLink RX6 184 yX0_recipes) ∈ lw_tbl := List.mem_of_getElem? (i := 603) (by decide +kernel)
set_option maxRecDepth 20000 in
theorem lwm_604 : (Cond.instanceMethod yX0_recipes) ∈ lw_tbl := List.mem_of_getElem? (i := 604) (by decide +kernel)
set_option maxRecDepth 20000 in
theorem lwm_605 : (Cond.selects RX0 yX0_recipes yX0_recipes) ∈ lw_tbl := List.mem_of_getElem? (i := 605) (by decide +kernel)
set_option maxRecDepth 20000 in
theorem lwm_606 : (Cond.code yX0_recipes cX0_recipes 1 (some .int)) ∈ lw_tbl := List.mem_of_getElem? (i := 606) (by decide +kernel)
set_option maxRecDepth 20000 in
theorem lwm_607 : (Cond.methodLink RX0 50 yX0_madeThings) ∈ lw_tbl := List.mem_of_getElem? (i := 607) (by decide +kernel)
set_option maxRecDepth 20000 in
theorem lwm_608 : (Cond.instanceMethod yX0_madeThings) ∈ lw_tbl := List.mem_of_getElem? (i := 608) (by decide +kernel)
set_option maxRecDepth 20000 in
theorem lwm_609 : (Cond.selects RX0 yX0_madeThings yX0_madeThings) ∈ lw_tbl := List.mem_of_getElem? (i := 609) (by decide +kernel)
set_option maxRecDepth 20000 in
theorem lwm_610 : (Cond.code yX0_madeThings cX0_madeThings 3 (some .int)) ∈ lw_tbl := List.mem_of_getElem? (i := 610) (by decide +kernel)
set_option maxRecDepth 20000 in
theorem lwm_611 : (Cond.methodLink RX0 54 yJ6_bitCount_0f7a4) ∈ lw_tbl := List.mem_of_getElem? (i := 611) (by decide +kernel)
set_option maxRecDepth 20000 in
theorem lwm_612 : (Cond.static yJ6_bitCount_0f7a4) ∈ lw_tbl := List.mem_of_getElem? (i := 612) (by decide +kernel)
set_option maxRecDepth 20000 in
theorem lwm_613 : (Cond.code yJ6_bitCount_0f7a4 cJ6_bitCount_0f7a4 1 (some .int)) ∈ lw_tbl := List.mem_of_getElem? (i := 613) (by decide +kernel)
set_option maxRecDepth 20000 in
theorem lwm_614 : (Cond.constant RJ6 265 (1431655765)) ∈ lw_tbl := List.mem_of_getElem? (i := 614) (by decide +kernel)
set_option maxRecDepth 20000 in
theorem lwm_615 : (Cond.constant RJ6 266 (858993459)) ∈ lw_tbl := List.mem_of_getElem? (i := 615) (by decide +kernel)
set_option maxRecDepth 20000 in
theorem lwm_616 : (Cond.constant RJ6 267 (252645135)) ∈ lw_tbl := List.mem_of_getElem? (i := 616) (by decide +kernel)
set_option maxRecDepth 20000 in
theorem lwm_617 : (Cond.methodLink RX6 187 yX6_sum) ∈ lw_tbl := List.mem_of_getElem? (i := 617) (by decide +kernel)
set_option maxRecDepth 20000 in
theorem lwm_618 : (Cond.static yX6_sum) ∈ lw_tbl := List.mem_of_getElem? (i := 618) (by decide +kernel)
set_option maxRecDepth 20000 in
theorem lwm_619 : (Cond.code yX6_sum cX6_sum 3 (some .int)) ∈ lw_tbl := List.mem_of_getElem? (i := 619) (by decide +kernel)
set_option maxRecDepth 20000 in
theorem lwm_620 : (Cond.methodLink RX6 197 yX0_greatestRank) ∈ lw_tbl := List.mem_of_getElem? (i := 620) (by decide +kernel)
set_option maxRecDepth 20000 in
theorem lwm_621 : (Cond.instanceMethod yX0_greatestRank) ∈ lw_tbl := List.mem_of_getElem? (i := 621) (by decide +kernel)
set_option maxRecDepth 20000 in
theorem lwm_622 : (Cond.selects RX0 yX0_greatestRank yX0_greatestRank) ∈ lw_tbl := List.mem_of_getElem? (i := 622) (by decide +kernel)
set_option maxRecDepth 20000 in
theorem lwm_623 : (Cond.code yX0_greatestRank cX0_greatestRank 3 (some .int)) ∈ lw_tbl := List.mem_of_getElem? (i := 623) (by decide +kernel)
set_option maxRecDepth 20000 in
theorem lwm_624 : (Cond.methodLink RX6 200 yX0_madeThings) ∈ lw_tbl := List.mem_of_getElem? (i := 624) (by decide +kernel)
set_option maxRecDepth 20000 in
theorem lwm_625 : (Cond.methodLink RL 68 yX6_thing) ∈ lw_tbl := List.mem_of_getElem? (i := 625) (by decide +kernel)
set_option maxRecDepth 20000 in
theorem lwm_626 : (Cond.instanceMethod yX6_thing) ∈ lw_tbl := List.mem_of_getElem? (i := 626) (by decide +kernel)
set_option maxRecDepth 20000 in
theorem lwm_627 : (Cond.selects RX6 yX6_thing yX6_thing) ∈ lw_tbl := List.mem_of_getElem? (i := 627) (by decide +kernel)
set_option maxRecDepth 20000 in
theorem lwm_628 : (Cond.code yX6_thing cX6_thing 3 (some .int)) ∈ lw_tbl := List.mem_of_getElem? (i := 628) (by decide +kernel)
set_option maxRecDepth 20000 in
theorem lwm_629 : (Cond.methodLink RX6 203 yX0_ingredientsOf) ∈ lw_tbl := List.mem_of_getElem? (i := 629) (by decide +kernel)
set_option maxRecDepth 20000 in
theorem lwm_630 : (Cond.methodLink RL 72 yX6_ingredient) ∈ lw_tbl := List.mem_of_getElem? (i := 630) (by decide +kernel)
set_option maxRecDepth 20000 in
theorem lwm_631 : (Cond.instanceMethod yX6_ingredient) ∈ lw_tbl := List.mem_of_getElem? (i := 631) (by decide +kernel)
set_option maxRecDepth 20000 in
theorem lwm_632 : (Cond.selects RX6 yX6_ingredient yX6_ingredient) ∈ lw_tbl := List.mem_of_getElem? (i := 632) (by decide +kernel)
set_option maxRecDepth 20000 in
theorem lwm_633 : (Cond.code yX6_ingredient cX6_ingredient 4 (some .int)) ∈ lw_tbl := List.mem_of_getElem? (i := 633) (by decide +kernel)
set_option maxRecDepth 20000 in
theorem lwm_634 : (Cond.methodLink RX6 214 yX0_ingredientAt) ∈ lw_tbl := List.mem_of_getElem? (i := 634) (by decide +kernel)
set_option maxRecDepth 20000 in
theorem lwm_635 : (Cond.methodLink RX6 217 yX0_amountAt) ∈ lw_tbl := List.mem_of_getElem? (i := 635) (by decide +kernel)
set_option maxRecDepth 20000 in
theorem lwm_636 : (Cond.methodLink RL 77 yX6_substitute) ∈ lw_tbl := List.mem_of_getElem? (i := 636) (by decide +kernel)
set_option maxRecDepth 20000 in
theorem lwm_637 : (Cond.instanceMethod yX6_substitute) ∈ lw_tbl := List.mem_of_getElem? (i := 637) (by decide +kernel)
set_option maxRecDepth 20000 in
theorem lwm_638 : (Cond.selects RX6 yX6_substitute yX6_substitute) ∈ lw_tbl := List.mem_of_getElem? (i := 638) (by decide +kernel)
set_option maxRecDepth 20000 in
theorem lwm_639 : (Cond.code yX6_substitute cX6_substitute 3 (some .int)) ∈ lw_tbl := List.mem_of_getElem? (i := 639) (by decide +kernel)
set_option maxRecDepth 20000 in
theorem lwm_640 : (Cond.methodLink RL 81 yX6_isNeeded) ∈ lw_tbl := List.mem_of_getElem? (i := 640) (by decide +kernel)
set_option maxRecDepth 20000 in
theorem lwm_641 : (Cond.instanceMethod yX6_isNeeded) ∈ lw_tbl := List.mem_of_getElem? (i := 641) (by decide +kernel)
set_option maxRecDepth 20000 in
theorem lwm_642 : (Cond.selects RX6 yX6_isNeeded yX6_isNeeded) ∈ lw_tbl := List.mem_of_getElem? (i := 642) (by decide +kernel)
set_option maxRecDepth 20000 in
theorem lwm_643 : (Cond.code yX6_isNeeded cX6_isNeeded 3 (some .int)) ∈ lw_tbl := List.mem_of_getElem? (i := 643) (by decide +kernel)
set_option maxRecDepth 20000 in
theorem lwm_644 : (Cond.methodLink RX6 220 yX0_allNeedsOf) ∈ lw_tbl := List.mem_of_getElem? (i := 644) (by decide +kernel)
set_option maxRecDepth 20000 in
theorem lwm_645 : (Cond.instanceMethod yX0_allNeedsOf) ∈ lw_tbl := List.mem_of_getElem? (i := 645) (by decide +kernel)
set_option maxRecDepth 20000 in
theorem lwm_646 : (Cond.selects RX0 yX0_allNeedsOf yX0_allNeedsOf) ∈ lw_tbl := List.mem_of_getElem? (i := 646) (by decide +kernel)
set_option maxRecDepth 20000 in
theorem lwm_647 : (Cond.code yX0_allNeedsOf cX0_allNeedsOf 6 (some .int)) ∈ lw_tbl := List.mem_of_getElem? (i := 647) (by decide +kernel)
set_option maxRecDepth 20000 in
theorem lwm_648 : (Cond.methodLink RX6 223 yX6_hasBit) ∈ lw_tbl := List.mem_of_getElem? (i := 648) (by decide +kernel)
set_option maxRecDepth 20000 in
theorem lwm_649 : (Cond.methodLink RL 85 yX6_share) ∈ lw_tbl := List.mem_of_getElem? (i := 649) (by decide +kernel)
set_option maxRecDepth 20000 in
theorem lwm_650 : (Cond.instanceMethod yX6_share) ∈ lw_tbl := List.mem_of_getElem? (i := 650) (by decide +kernel)
set_option maxRecDepth 20000 in
theorem lwm_651 : (Cond.selects RX6 yX6_share yX6_share) ∈ lw_tbl := List.mem_of_getElem? (i := 651) (by decide +kernel)
set_option maxRecDepth 20000 in
theorem lwm_652 : (Cond.code yX6_share cX6_share 3 (some .float)) ∈ lw_tbl := List.mem_of_getElem? (i := 652) (by decide +kernel)
set_option maxRecDepth 20000 in
theorem lwm_653 : (Cond.methodLink RL 90 yX6_gather) ∈ lw_tbl := List.mem_of_getElem? (i := 653) (by decide +kernel)
set_option maxRecDepth 20000 in
theorem lwm_654 : (Cond.instanceMethod yX6_gather) ∈ lw_tbl := List.mem_of_getElem? (i := 654) (by decide +kernel)
set_option maxRecDepth 20000 in
theorem lwm_655 : (Cond.selects RX6 yX6_gather yX6_gather) ∈ lw_tbl := List.mem_of_getElem? (i := 655) (by decide +kernel)
set_option maxRecDepth 20000 in
theorem lwm_656 : (Cond.code yX6_gather cX6_gather 4 (some .int)) ∈ lw_tbl := List.mem_of_getElem? (i := 656) (by decide +kernel)
set_option maxRecDepth 20000 in
theorem lwm_657 : (Cond.methodLink RL 94 yX6_canHave) ∈ lw_tbl := List.mem_of_getElem? (i := 657) (by decide +kernel)
set_option maxRecDepth 20000 in
theorem lwm_658 : (Cond.instanceMethod yX6_canHave) ∈ lw_tbl := List.mem_of_getElem? (i := 658) (by decide +kernel)
set_option maxRecDepth 20000 in
theorem lwm_659 : (Cond.selects RX6 yX6_canHave yX6_canHave) ∈ lw_tbl := List.mem_of_getElem? (i := 659) (by decide +kernel)
set_option maxRecDepth 20000 in
theorem lwm_660 : (Cond.code yX6_canHave cX6_canHave 6 (some .int)) ∈ lw_tbl := List.mem_of_getElem? (i := 660) (by decide +kernel)
set_option maxRecDepth 20000 in
theorem lwm_661 : (Cond.methodLink RX6 234 yX6_divideUp) ∈ lw_tbl := List.mem_of_getElem? (i := 661) (by decide +kernel)
set_option maxRecDepth 20000 in
theorem lwm_662 : (Cond.methodLink RL 98 yX6_bestGift) ∈ lw_tbl := List.mem_of_getElem? (i := 662) (by decide +kernel)
set_option maxRecDepth 20000 in
theorem lwm_663 : (Cond.instanceMethod yX6_bestGift) ∈ lw_tbl := List.mem_of_getElem? (i := 663) (by decide +kernel)
set_option maxRecDepth 20000 in
theorem lwm_664 : (Cond.selects RX6 yX6_bestGift yX6_bestGift) ∈ lw_tbl := List.mem_of_getElem? (i := 664) (by decide +kernel)
set_option maxRecDepth 20000 in
theorem lwm_665 : (Cond.code yX6_bestGift cX6_bestGift 6 (some .int)) ∈ lw_tbl := List.mem_of_getElem? (i := 665) (by decide +kernel)
set_option maxRecDepth 20000 in
theorem lwm_666 : (Cond.methodLink RX6 237 yX5_receive) ∈ lw_tbl := List.mem_of_getElem? (i := 666) (by decide +kernel)
set_option maxRecDepth 20000 in
theorem lwm_667 : (Cond.instanceMethod yX5_receive) ∈ lw_tbl := List.mem_of_getElem? (i := 667) (by decide +kernel)
set_option maxRecDepth 20000 in
theorem lwm_668 : (Cond.selects RX5 yX5_receive yX5_receive) ∈ lw_tbl := List.mem_of_getElem? (i := 668) (by decide +kernel)
set_option maxRecDepth 20000 in
theorem lwm_669 : (Cond.code yX5_receive cX5_receive 2 (some .boolean)) ∈ lw_tbl := List.mem_of_getElem? (i := 669) (by decide +kernel)
set_option maxRecDepth 20000 in
theorem lwm_670 : (Cond.methodLink RL 102 yX6_keep) ∈ lw_tbl := List.mem_of_getElem? (i := 670) (by decide +kernel)
set_option maxRecDepth 20000 in
theorem lwm_671 : (Cond.instanceMethod yX6_keep) ∈ lw_tbl := List.mem_of_getElem? (i := 671) (by decide +kernel)
set_option maxRecDepth 20000 in
theorem lwm_672 : (Cond.selects RX6 yX6_keep yX6_keep) ∈ lw_tbl := List.mem_of_getElem? (i := 672) (by decide +kernel)
set_option maxRecDepth 20000 in
theorem lwm_673 : (Cond.code yX6_keep cX6_keep 2 (some .int)) ∈ lw_tbl := List.mem_of_getElem? (i := 673) (by decide +kernel)
set_option maxRecDepth 20000 in
theorem lwm_674 : (Cond.methodLink RX6 240 yX6_roomAt) ∈ lw_tbl := List.mem_of_getElem? (i := 674) (by decide +kernel)
set_option maxRecDepth 20000 in
theorem lwm_675 : (Cond.methodLink RX6 244 yX3_hold) ∈ lw_tbl := List.mem_of_getElem? (i := 675) (by decide +kernel)
set_option maxRecDepth 20000 in
theorem lwm_676 : (Cond.methodLink RL 106 yX6_back) ∈ lw_tbl := List.mem_of_getElem? (i := 676) (by decide +kernel)
set_option maxRecDepth 20000 in
theorem lwm_677 : (Cond.instanceMethod yX6_back) ∈ lw_tbl := List.mem_of_getElem? (i := 677) (by decide +kernel)
set_option maxRecDepth 20000 in
theorem lwm_678 : (Cond.selects RX6 yX6_back yX6_back) ∈ lw_tbl := List.mem_of_getElem? (i := 678) (by decide +kernel)
set_option maxRecDepth 20000 in
theorem lwm_679 : (Cond.code yX6_back cX6_back 3 (some .int)) ∈ lw_tbl := List.mem_of_getElem? (i := 679) (by decide +kernel)
set_option maxRecDepth 20000 in
theorem lwm_680 : (Cond.methodLink RX6 250 yX3_layOut) ∈ lw_tbl := List.mem_of_getElem? (i := 680) (by decide +kernel)
set_option maxRecDepth 20000 in
theorem lwm_681 : (Cond.classLink RL 10 RX7) ∈ lw_tbl := List.mem_of_getElem? (i := 681) (by decide +kernel)
set_option maxRecDepth 20000 in
theorem lwm_682 : (Cond.instantiable RX7 29) ∈ lw_tbl := List.mem_of_getElem? (i := 682) (by decide +kernel)
set_option maxRecDepth 20000 in
theorem lwm_683 : (Cond.methodLink RL 12 yX7_init) ∈ lw_tbl := List.mem_of_getElem? (i := 683) (by decide +kernel)
set_option maxRecDepth 20000 in
theorem lwm_684 : (Cond.instanceMethod yX7_init) ∈ lw_tbl := List.mem_of_getElem? (i := 684) (by decide +kernel)
set_option maxRecDepth 20000 in
theorem lwm_685 : (Cond.code yX7_init cX7_init 2 none) ∈ lw_tbl := List.mem_of_getElem? (i := 685) (by decide +kernel)
set_option maxRecDepth 20000 in
theorem lwm_686 : (Cond.methodLink RX7 1 objectInit) ∈ lw_tbl := List.mem_of_getElem? (i := 686) (by decide +kernel)
set_option maxRecDepth 20000 in
theorem lwm_687 : (Cond.methodLink RX7 54 yX7_put) ∈ lw_tbl := List.mem_of_getElem? (i := 687) (by decide +kernel)
set_option maxRecDepth 20000 in
theorem lwm_689 : (Cond.instanceMethod yX7_put) ∈ lw_tbl := List.mem_of_getElem? (i := 689) (by decide +kernel)
set_option maxRecDepth 20000 in
theorem lwm_690 : (Cond.code yX7_put cX7_put 4 none) ∈ lw_tbl := List.mem_of_getElem? (i := 690) (by decide +kernel)
set_option maxRecDepth 20000 in
theorem lwm_691 : (Cond.fieldLink RX7 7 "ThingMakerModel" "w" "[I") ∈ lw_tbl := List.mem_of_getElem? (i := 691) (by decide +kernel)
set_option maxRecDepth 20000 in
theorem lwm_692 : (Cond.fieldLink RX7 13 "ThingMakerModel" "past" "[I") ∈ lw_tbl := List.mem_of_getElem? (i := 692) (by decide +kernel)
set_option maxRecDepth 20000 in
theorem lwm_693 : (Cond.fieldLink RX7 58 "ThingMakerModel" "pastMany" "I") ∈ lw_tbl := List.mem_of_getElem? (i := 693) (by decide +kernel)
set_option maxRecDepth 20000 in
theorem lwm_694 : (Cond.fieldLink RX7 16 "ThingMakerModel" "images" "[I") ∈ lw_tbl := List.mem_of_getElem? (i := 694) (by decide +kernel)
set_option maxRecDepth 20000 in
theorem lwm_695 : (Cond.fieldLink RX7 222 "ThingMakerModel" "filled" "I") ∈ lw_tbl := List.mem_of_getElem? (i := 695) (by decide +kernel)
set_option maxRecDepth 20000 in
theorem lwm_696 : (Cond.fieldLink RX7 19 "ThingMakerModel" "text" "[I") ∈ lw_tbl := List.mem_of_getElem? (i := 696) (by decide +kernel)
set_option maxRecDepth 20000 in
theorem lwm_697 : (Cond.fieldLink RX7 181 "ThingMakerModel" "length" "I") ∈ lw_tbl := List.mem_of_getElem? (i := 697) (by decide +kernel)
set_option maxRecDepth 20000 in
theorem lwm_698 : (Cond.fieldLink RX7 22 "ThingMakerModel" "faultKind" "I") ∈ lw_tbl := List.mem_of_getElem? (i := 698) (by decide +kernel)
set_option maxRecDepth 20000 in
theorem lwm_699 : (Cond.fieldLink RX7 26 "ThingMakerModel" "faultPlace" "I") ∈ lw_tbl := List.mem_of_getElem? (i := 699) (by decide +kernel)
set_option maxRecDepth 20000 in
theorem lwm_700 : (Cond.fieldLink RX7 29 "ThingMakerModel" "rank" "[I") ∈ lw_tbl := List.mem_of_getElem? (i := 700) (by decide +kernel)
set_option maxRecDepth 20000 in
theorem lwm_701 : (Cond.fieldLink RX7 32 "ThingMakerModel" "what" "[I") ∈ lw_tbl := List.mem_of_getElem? (i := 701) (by decide +kernel)
set_option maxRecDepth 20000 in
theorem lwm_702 : (Cond.fieldLink RX7 35 "ThingMakerModel" "many" "[I") ∈ lw_tbl := List.mem_of_getElem? (i := 702) (by decide +kernel)
set_option maxRecDepth 20000 in
theorem lwm_703 : (Cond.fieldLink RX7 38 "ThingMakerModel" "next" "[I") ∈ lw_tbl := List.mem_of_getElem? (i := 703) (by decide +kernel)
set_option maxRecDepth 20000 in
theorem lwm_704 : (Cond.fieldLink RX7 41 "ThingMakerModel" "uses" "[I") ∈ lw_tbl := List.mem_of_getElem? (i := 704) (by decide +kernel)
set_option maxRecDepth 20000 in
theorem lwm_705 : (Cond.fieldLink RX7 91 "ThingMakerModel" "depth" "I") ∈ lw_tbl := List.mem_of_getElem? (i := 705) (by decide +kernel)
set_option maxRecDepth 20000 in
theorem lwm_706 : (Cond.fieldLink RX7 88 "ThingMakerModel" "batches" "I") ∈ lw_tbl := List.mem_of_getElem? (i := 706) (by decide +kernel)
set_option maxRecDepth 20000 in
theorem lwm_707 : (Cond.fieldLink RX7 80 "ThingMakerModel" "fails" "Z") ∈ lw_tbl := List.mem_of_getElem? (i := 707) (by decide +kernel)
set_option maxRecDepth 20000 in
theorem lwm_708 : (Cond.fieldLink RX7 44 "ThingMakerModel" "held" "[I") ∈ lw_tbl := List.mem_of_getElem? (i := 708) (by decide +kernel)
set_option maxRecDepth 20000 in
theorem lwm_709 : (Cond.fieldLink RX7 175 "ThingMakerModel" "readThing" "I") ∈ lw_tbl := List.mem_of_getElem? (i := 709) (by decide +kernel)
set_option maxRecDepth 20000 in
theorem lwm_710 : (Cond.fieldLink RX7 163 "ThingMakerModel" "readYield" "I") ∈ lw_tbl := List.mem_of_getElem? (i := 710) (by decide +kernel)
set_option maxRecDepth 20000 in
theorem lwm_711 : (Cond.fieldLink RX7 169 "ThingMakerModel" "readMany" "I") ∈ lw_tbl := List.mem_of_getElem? (i := 711) (by decide +kernel)
set_option maxRecDepth 20000 in
theorem lwm_712 : (Cond.fieldLink RX7 47 "ThingMakerModel" "readParts" "[I") ∈ lw_tbl := List.mem_of_getElem? (i := 712) (by decide +kernel)
set_option maxRecDepth 20000 in
theorem lwm_713 : (Cond.fieldLink RX7 141 "ThingMakerModel" "wrongKind" "I") ∈ lw_tbl := List.mem_of_getElem? (i := 713) (by decide +kernel)
set_option maxRecDepth 20000 in
theorem lwm_714 : (Cond.fieldLink RX7 144 "ThingMakerModel" "wrongPlace" "I") ∈ lw_tbl := List.mem_of_getElem? (i := 714) (by decide +kernel)
set_option maxRecDepth 20000 in
theorem lwm_715 : (Cond.fieldLink RX7 147 "ThingMakerModel" "stage" "I") ∈ lw_tbl := List.mem_of_getElem? (i := 715) (by decide +kernel)
set_option maxRecDepth 20000 in
theorem lwm_716 : (Cond.fieldLink RX7 154 "ThingMakerModel" "value" "I") ∈ lw_tbl := List.mem_of_getElem? (i := 716) (by decide +kernel)
set_option maxRecDepth 20000 in
theorem lwm_717 : (Cond.fieldLink RX7 166 "ThingMakerModel" "digits" "I") ∈ lw_tbl := List.mem_of_getElem? (i := 717) (by decide +kernel)
set_option maxRecDepth 20000 in
theorem lwm_718 : (Cond.fieldLink RX7 157 "ThingMakerModel" "digitsAt" "I") ∈ lw_tbl := List.mem_of_getElem? (i := 718) (by decide +kernel)
set_option maxRecDepth 20000 in
theorem lwm_719 : (Cond.fieldLink RX7 50 "ThingMakerModel" "reached" "[Z") ∈ lw_tbl := List.mem_of_getElem? (i := 719) (by decide +kernel)
set_option maxRecDepth 20000 in
theorem lwm_779 : (Cond.arrayClass .boolean) ∈ lw_tbl := List.mem_of_getElem? (i := 779) (by decide +kernel)
set_option maxRecDepth 20000 in
theorem lwm_780 : (Cond.methodLink RL 43 yX7_wish) ∈ lw_tbl := List.mem_of_getElem? (i := 780) (by decide +kernel)
set_option maxRecDepth 20000 in
theorem lwm_781 : (Cond.instanceMethod yX7_wish) ∈ lw_tbl := List.mem_of_getElem? (i := 781) (by decide +kernel)
set_option maxRecDepth 20000 in
theorem lwm_782 : (Cond.selects RX7 yX7_wish yX7_wish) ∈ lw_tbl := List.mem_of_getElem? (i := 782) (by decide +kernel)
set_option maxRecDepth 20000 in
theorem lwm_783 : (Cond.code yX7_wish cX7_wish 3 (some .int)) ∈ lw_tbl := List.mem_of_getElem? (i := 783) (by decide +kernel)
set_option maxRecDepth 20000 in
theorem lwm_784 : (Cond.methodLink RX7 128 yX7_isThing) ∈ lw_tbl := List.mem_of_getElem? (i := 784) (by decide +kernel)
set_option maxRecDepth 20000 in
theorem lwm_785 : (Cond.static yX7_isThing) ∈ lw_tbl := List.mem_of_getElem? (i := 785) (by decide +kernel)
set_option maxRecDepth 20000 in
theorem lwm_786 : (Cond.code yX7_isThing cX7_isThing 1 (some .boolean)) ∈ lw_tbl := List.mem_of_getElem? (i := 786) (by decide +kernel)
set_option maxRecDepth 20000 in
theorem lwm_787 : (Cond.methodLink RX7 61 yX7_isIn) ∈ lw_tbl := List.mem_of_getElem? (i := 787) (by decide +kernel)
set_option maxRecDepth 20000 in
theorem lwm_788 : (Cond.static yX7_isIn) ∈ lw_tbl := List.mem_of_getElem? (i := 788) (by decide +kernel)
set_option maxRecDepth 20000 in
theorem lwm_789 : (Cond.code yX7_isIn cX7_isIn 3 (some .boolean)) ∈ lw_tbl := List.mem_of_getElem? (i := 789) (by decide +kernel)
set_option maxRecDepth 20000 in
theorem lwm_790 : (Cond.methodLink RX7 131 yX7_hold) ∈ lw_tbl := List.mem_of_getElem? (i := 790) (by decide +kernel)
set_option maxRecDepth 20000 in
theorem lwm_792 : (Cond.instanceMethod yX7_hold) ∈ lw_tbl := List.mem_of_getElem? (i := 792) (by decide +kernel)
set_option maxRecDepth 20000 in
theorem lwm_793 : (Cond.code yX7_hold cX7_hold 2 none) ∈ lw_tbl := List.mem_of_getElem? (i := 793) (by decide +kernel)
set_option maxRecDepth 20000 in
theorem lwm_794 : (Cond.methodLink RX7 134 yX7_wishNow) ∈ lw_tbl := List.mem_of_getElem? (i := 794) (by decide +kernel)
set_option maxRecDepth 20000 in
theorem lwm_796 : (Cond.instanceMethod yX7_wishNow) ∈ lw_tbl := List.mem_of_getElem? (i := 796) (by decide +kernel)
set_option maxRecDepth 20000 in
theorem lwm_797 : (Cond.code yX7_wishNow cX7_wishNow 4 none) ∈ lw_tbl := List.mem_of_getElem? (i := 797) (by decide +kernel)
set_option maxRecDepth 20000 in
theorem lwm_798 : (Cond.methodLink RX7 116 yX7_beginMaking) ∈ lw_tbl := List.mem_of_getElem? (i := 798) (by decide +kernel)
set_option maxRecDepth 20000 in
theorem lwm_800 : (Cond.instanceMethod yX7_beginMaking) ∈ lw_tbl := List.mem_of_getElem? (i := 800) (by decide +kernel)
set_option maxRecDepth 20000 in
theorem lwm_801 : (Cond.code yX7_beginMaking cX7_beginMaking 1 none) ∈ lw_tbl := List.mem_of_getElem? (i := 801) (by decide +kernel)
set_option maxRecDepth 20000 in
theorem lwm_802 : (Cond.methodLink RX7 65 yX7_of) ∈ lw_tbl := List.mem_of_getElem? (i := 802) (by decide +kernel)
set_option maxRecDepth 20000 in
theorem lwm_804 : (Cond.instanceMethod yX7_of) ∈ lw_tbl := List.mem_of_getElem? (i := 804) (by decide +kernel)
set_option maxRecDepth 20000 in
theorem lwm_805 : (Cond.code yX7_of cX7_of 3 (some .int)) ∈ lw_tbl := List.mem_of_getElem? (i := 805) (by decide +kernel)
set_option maxRecDepth 20000 in
theorem lwm_806 : (Cond.methodLink RX7 72 yX7_isMade) ∈ lw_tbl := List.mem_of_getElem? (i := 806) (by decide +kernel)
set_option maxRecDepth 20000 in
theorem lwm_808 : (Cond.instanceMethod yX7_isMade) ∈ lw_tbl := List.mem_of_getElem? (i := 808) (by decide +kernel)
set_option maxRecDepth 20000 in
theorem lwm_809 : (Cond.code yX7_isMade cX7_isMade 2 (some .boolean)) ∈ lw_tbl := List.mem_of_getElem? (i := 809) (by decide +kernel)
set_option maxRecDepth 20000 in
theorem lwm_810 : (Cond.methodLink RX7 101 yX7_batchesFor) ∈ lw_tbl := List.mem_of_getElem? (i := 810) (by decide +kernel)
set_option maxRecDepth 20000 in
theorem lwm_812 : (Cond.instanceMethod yX7_batchesFor) ∈ lw_tbl := List.mem_of_getElem? (i := 812) (by decide +kernel)
set_option maxRecDepth 20000 in
theorem lwm_813 : (Cond.code yX7_batchesFor cX7_batchesFor 3 (some .int)) ∈ lw_tbl := List.mem_of_getElem? (i := 813) (by decide +kernel)
set_option maxRecDepth 20000 in
theorem lwm_814 : (Cond.methodLink RX7 104 yX7_begin) ∈ lw_tbl := List.mem_of_getElem? (i := 814) (by decide +kernel)
set_option maxRecDepth 20000 in
theorem lwm_816 : (Cond.instanceMethod yX7_begin) ∈ lw_tbl := List.mem_of_getElem? (i := 816) (by decide +kernel)
set_option maxRecDepth 20000 in
theorem lwm_817 : (Cond.code yX7_begin cX7_begin 4 none) ∈ lw_tbl := List.mem_of_getElem? (i := 817) (by decide +kernel)
set_option maxRecDepth 20000 in
theorem lwm_818 : (Cond.methodLink RX7 119 yX7_makeBegun) ∈ lw_tbl := List.mem_of_getElem? (i := 818) (by decide +kernel)
set_option maxRecDepth 20000 in
theorem lwm_820 : (Cond.instanceMethod yX7_makeBegun) ∈ lw_tbl := List.mem_of_getElem? (i := 820) (by decide +kernel)
set_option maxRecDepth 20000 in
theorem lwm_821 : (Cond.code yX7_makeBegun cX7_makeBegun 3 none) ∈ lw_tbl := List.mem_of_getElem? (i := 821) (by decide +kernel)
set_option maxRecDepth 20000 in
theorem lwm_822 : (Cond.methodLink RX7 69 yX7_ingredientOf) ∈ lw_tbl := List.mem_of_getElem? (i := 822) (by decide +kernel)
set_option maxRecDepth 20000 in
theorem lwm_824 : (Cond.instanceMethod yX7_ingredientOf) ∈ lw_tbl := List.mem_of_getElem? (i := 824) (by decide +kernel)
set_option maxRecDepth 20000 in
theorem lwm_825 : (Cond.code yX7_ingredientOf cX7_ingredientOf 3 (some .int)) ∈ lw_tbl := List.mem_of_getElem? (i := 825) (by decide +kernel)
set_option maxRecDepth 20000 in
theorem lwm_826 : (Cond.methodLink RX7 110 yX7_amountOf) ∈ lw_tbl := List.mem_of_getElem? (i := 826) (by decide +kernel)
set_option maxRecDepth 20000 in
theorem lwm_828 : (Cond.instanceMethod yX7_amountOf) ∈ lw_tbl := List.mem_of_getElem? (i := 828) (by decide +kernel)
set_option maxRecDepth 20000 in
theorem lwm_829 : (Cond.code yX7_amountOf cX7_amountOf 3 (some .int)) ∈ lw_tbl := List.mem_of_getElem? (i := 829) (by decide +kernel)
set_option maxRecDepth 20000 in
theorem lwm_830 : (Cond.methodLink RX7 113 yX7_take) ∈ lw_tbl := List.mem_of_getElem? (i := 830) (by decide +kernel)
set_option maxRecDepth 20000 in
theorem lwm_832 : (Cond.instanceMethod yX7_take) ∈ lw_tbl := List.mem_of_getElem? (i := 832) (by decide +kernel)
set_option maxRecDepth 20000 in
theorem lwm_833 : (Cond.code yX7_take cX7_take 7 none) ∈ lw_tbl := List.mem_of_getElem? (i := 833) (by decide +kernel)
set_option maxRecDepth 20000 in
theorem lwm_834 : (Cond.methodLink RX7 98 yX7_fromStore) ∈ lw_tbl := List.mem_of_getElem? (i := 834) (by decide +kernel)
set_option maxRecDepth 20000 in
theorem lwm_836 : (Cond.instanceMethod yX7_fromStore) ∈ lw_tbl := List.mem_of_getElem? (i := 836) (by decide +kernel)
set_option maxRecDepth 20000 in
theorem lwm_837 : (Cond.code yX7_fromStore cX7_fromStore 4 (some .int)) ∈ lw_tbl := List.mem_of_getElem? (i := 837) (by decide +kernel)
set_option maxRecDepth 20000 in
theorem lwm_838 : (Cond.methodLink RX7 94 yX7_useUp) ∈ lw_tbl := List.mem_of_getElem? (i := 838) (by decide +kernel)
set_option maxRecDepth 20000 in
theorem lwm_840 : (Cond.instanceMethod yX7_useUp) ∈ lw_tbl := List.mem_of_getElem? (i := 840) (by decide +kernel)
set_option maxRecDepth 20000 in
theorem lwm_841 : (Cond.code yX7_useUp cX7_useUp 3 none) ∈ lw_tbl := List.mem_of_getElem? (i := 841) (by decide +kernel)
set_option maxRecDepth 20000 in
theorem lwm_842 : (Cond.methodLink RX7 85 yX7_come) ∈ lw_tbl := List.mem_of_getElem? (i := 842) (by decide +kernel)
set_option maxRecDepth 20000 in
theorem lwm_844 : (Cond.instanceMethod yX7_come) ∈ lw_tbl := List.mem_of_getElem? (i := 844) (by decide +kernel)
set_option maxRecDepth 20000 in
theorem lwm_845 : (Cond.code yX7_come cX7_come 4 none) ∈ lw_tbl := List.mem_of_getElem? (i := 845) (by decide +kernel)
set_option maxRecDepth 20000 in
theorem lwm_846 : (Cond.constant RX7 84 (99999)) ∈ lw_tbl := List.mem_of_getElem? (i := 846) (by decide +kernel)
set_option maxRecDepth 20000 in
theorem lwm_847 : (Cond.methodLink RX7 107 yX7_gatherNow) ∈ lw_tbl := List.mem_of_getElem? (i := 847) (by decide +kernel)
set_option maxRecDepth 20000 in
theorem lwm_849 : (Cond.instanceMethod yX7_gatherNow) ∈ lw_tbl := List.mem_of_getElem? (i := 849) (by decide +kernel)
set_option maxRecDepth 20000 in
theorem lwm_850 : (Cond.code yX7_gatherNow cX7_gatherNow 3 none) ∈ lw_tbl := List.mem_of_getElem? (i := 850) (by decide +kernel)
set_option maxRecDepth 20000 in
theorem lwm_851 : (Cond.methodLink RX7 137 yX7_endMaking) ∈ lw_tbl := List.mem_of_getElem? (i := 851) (by decide +kernel)
set_option maxRecDepth 20000 in
theorem lwm_853 : (Cond.instanceMethod yX7_endMaking) ∈ lw_tbl := List.mem_of_getElem? (i := 853) (by decide +kernel)
set_option maxRecDepth 20000 in
theorem lwm_854 : (Cond.code yX7_endMaking cX7_endMaking 4 (some .int)) ∈ lw_tbl := List.mem_of_getElem? (i := 854) (by decide +kernel)
set_option maxRecDepth 20000 in
theorem lwm_855 : (Cond.methodLink RX7 122 yX7_restore) ∈ lw_tbl := List.mem_of_getElem? (i := 855) (by decide +kernel)
set_option maxRecDepth 20000 in
theorem lwm_857 : (Cond.instanceMethod yX7_restore) ∈ lw_tbl := List.mem_of_getElem? (i := 857) (by decide +kernel)
set_option maxRecDepth 20000 in
theorem lwm_858 : (Cond.code yX7_restore cX7_restore 2 none) ∈ lw_tbl := List.mem_of_getElem? (i := 858) (by decide +kernel)
set_option maxRecDepth 20000 in
theorem lwm_859 : (Cond.methodLink RX7 125 yX7_remember) ∈ lw_tbl := List.mem_of_getElem? (i := 859) (by decide +kernel)
set_option maxRecDepth 20000 in
theorem lwm_861 : (Cond.instanceMethod yX7_remember) ∈ lw_tbl := List.mem_of_getElem? (i := 861) (by decide +kernel)
set_option maxRecDepth 20000 in
theorem lwm_862 : (Cond.code yX7_remember cX7_remember 2 none) ∈ lw_tbl := List.mem_of_getElem? (i := 862) (by decide +kernel)
set_option maxRecDepth 20000 in
theorem lwm_863 : (Cond.methodLink RL 47 yX7_make) ∈ lw_tbl := List.mem_of_getElem? (i := 863) (by decide +kernel)
set_option maxRecDepth 20000 in
theorem lwm_864 : (Cond.instanceMethod yX7_make) ∈ lw_tbl := List.mem_of_getElem? (i := 864) (by decide +kernel)
set_option maxRecDepth 20000 in
theorem lwm_865 : (Cond.selects RX7 yX7_make yX7_make) ∈ lw_tbl := List.mem_of_getElem? (i := 865) (by decide +kernel)
set_option maxRecDepth 20000 in
theorem lwm_866 : (Cond.code yX7_make cX7_make 3 (some .int)) ∈ lw_tbl := List.mem_of_getElem? (i := 866) (by decide +kernel)
set_option maxRecDepth 20000 in
theorem lwm_867 : (Cond.methodLink RL 17 yX7_recipe) ∈ lw_tbl := List.mem_of_getElem? (i := 867) (by decide +kernel)
set_option maxRecDepth 20000 in
theorem lwm_868 : (Cond.instanceMethod yX7_recipe) ∈ lw_tbl := List.mem_of_getElem? (i := 868) (by decide +kernel)
set_option maxRecDepth 20000 in
theorem lwm_869 : (Cond.selects RX7 yX7_recipe yX7_recipe) ∈ lw_tbl := List.mem_of_getElem? (i := 869) (by decide +kernel)
set_option maxRecDepth 20000 in
theorem lwm_870 : (Cond.code yX7_recipe cX7_recipe 2 (some .int)) ∈ lw_tbl := List.mem_of_getElem? (i := 870) (by decide +kernel)
set_option maxRecDepth 20000 in
theorem lwm_871 : (Cond.methodLink RX7 191 yX7_readText) ∈ lw_tbl := List.mem_of_getElem? (i := 871) (by decide +kernel)
set_option maxRecDepth 20000 in
theorem lwm_873 : (Cond.instanceMethod yX7_readText) ∈ lw_tbl := List.mem_of_getElem? (i := 873) (by decide +kernel)
set_option maxRecDepth 20000 in
theorem lwm_874 : (Cond.code yX7_readText cX7_readText 2 none) ∈ lw_tbl := List.mem_of_getElem? (i := 874) (by decide +kernel)
set_option maxRecDepth 20000 in
theorem lwm_875 : (Cond.methodLink RX7 160 yX7_mark) ∈ lw_tbl := List.mem_of_getElem? (i := 875) (by decide +kernel)
set_option maxRecDepth 20000 in
theorem lwm_877 : (Cond.instanceMethod yX7_mark) ∈ lw_tbl := List.mem_of_getElem? (i := 877) (by decide +kernel)
set_option maxRecDepth 20000 in
theorem lwm_878 : (Cond.code yX7_mark cX7_mark 3 none) ∈ lw_tbl := List.mem_of_getElem? (i := 878) (by decide +kernel)
set_option maxRecDepth 20000 in
theorem lwm_879 : (Cond.methodLink RX7 184 yX7_readDigit) ∈ lw_tbl := List.mem_of_getElem? (i := 879) (by decide +kernel)
set_option maxRecDepth 20000 in
theorem lwm_881 : (Cond.instanceMethod yX7_readDigit) ∈ lw_tbl := List.mem_of_getElem? (i := 881) (by decide +kernel)
set_option maxRecDepth 20000 in
theorem lwm_882 : (Cond.code yX7_readDigit cX7_readDigit 2 none) ∈ lw_tbl := List.mem_of_getElem? (i := 882) (by decide +kernel)
set_option maxRecDepth 20000 in
theorem lwm_883 : (Cond.methodLink RX7 150 yX7_isNumber) ∈ lw_tbl := List.mem_of_getElem? (i := 883) (by decide +kernel)
set_option maxRecDepth 20000 in
theorem lwm_885 : (Cond.instanceMethod yX7_isNumber) ∈ lw_tbl := List.mem_of_getElem? (i := 885) (by decide +kernel)
set_option maxRecDepth 20000 in
theorem lwm_886 : (Cond.code yX7_isNumber cX7_isNumber 1 (some .boolean)) ∈ lw_tbl := List.mem_of_getElem? (i := 886) (by decide +kernel)
set_option maxRecDepth 20000 in
theorem lwm_887 : (Cond.methodLink RX7 188 yX7_readOther) ∈ lw_tbl := List.mem_of_getElem? (i := 887) (by decide +kernel)
set_option maxRecDepth 20000 in
theorem lwm_889 : (Cond.instanceMethod yX7_readOther) ∈ lw_tbl := List.mem_of_getElem? (i := 889) (by decide +kernel)
set_option maxRecDepth 20000 in
theorem lwm_890 : (Cond.code yX7_readOther cX7_readOther 4 none) ∈ lw_tbl := List.mem_of_getElem? (i := 890) (by decide +kernel)
set_option maxRecDepth 20000 in
theorem lwm_891 : (Cond.methodLink RX7 172 yX7_endsWell) ∈ lw_tbl := List.mem_of_getElem? (i := 891) (by decide +kernel)
set_option maxRecDepth 20000 in
theorem lwm_893 : (Cond.instanceMethod yX7_endsWell) ∈ lw_tbl := List.mem_of_getElem? (i := 893) (by decide +kernel)
set_option maxRecDepth 20000 in
theorem lwm_894 : (Cond.code yX7_endsWell cX7_endsWell 1 (some .boolean)) ∈ lw_tbl := List.mem_of_getElem? (i := 894) (by decide +kernel)
set_option maxRecDepth 20000 in
theorem lwm_895 : (Cond.methodLink RX7 178 yX7_readIngredient) ∈ lw_tbl := List.mem_of_getElem? (i := 895) (by decide +kernel)
set_option maxRecDepth 20000 in
theorem lwm_897 : (Cond.instanceMethod yX7_readIngredient) ∈ lw_tbl := List.mem_of_getElem? (i := 897) (by decide +kernel)
set_option maxRecDepth 20000 in
theorem lwm_898 : (Cond.code yX7_readIngredient cX7_readIngredient 6 none) ∈ lw_tbl := List.mem_of_getElem? (i := 898) (by decide +kernel)
set_option maxRecDepth 20000 in
theorem lwm_899 : (Cond.methodLink RX7 194 yX7_areRanks) ∈ lw_tbl := List.mem_of_getElem? (i := 899) (by decide +kernel)
set_option maxRecDepth 20000 in
theorem lwm_901 : (Cond.instanceMethod yX7_areRanks) ∈ lw_tbl := List.mem_of_getElem? (i := 901) (by decide +kernel)
set_option maxRecDepth 20000 in
theorem lwm_902 : (Cond.code yX7_areRanks cX7_areRanks 3 (some .boolean)) ∈ lw_tbl := List.mem_of_getElem? (i := 902) (by decide +kernel)
set_option maxRecDepth 20000 in
theorem lwm_903 : (Cond.methodLink RX7 76 yX7_rankBy) ∈ lw_tbl := List.mem_of_getElem? (i := 903) (by decide +kernel)
set_option maxRecDepth 20000 in
theorem lwm_905 : (Cond.instanceMethod yX7_rankBy) ∈ lw_tbl := List.mem_of_getElem? (i := 905) (by decide +kernel)
set_option maxRecDepth 20000 in
theorem lwm_906 : (Cond.code yX7_rankBy cX7_rankBy 7 (some .int)) ∈ lw_tbl := List.mem_of_getElem? (i := 906) (by decide +kernel)
set_option maxRecDepth 20000 in
theorem lwm_907 : (Cond.methodLink RL 22 yX7_forget) ∈ lw_tbl := List.mem_of_getElem? (i := 907) (by decide +kernel)
set_option maxRecDepth 20000 in
theorem lwm_908 : (Cond.instanceMethod yX7_forget) ∈ lw_tbl := List.mem_of_getElem? (i := 908) (by decide +kernel)
set_option maxRecDepth 20000 in
theorem lwm_909 : (Cond.selects RX7 yX7_forget yX7_forget) ∈ lw_tbl := List.mem_of_getElem? (i := 909) (by decide +kernel)
set_option maxRecDepth 20000 in
theorem lwm_910 : (Cond.code yX7_forget cX7_forget 3 (some .int)) ∈ lw_tbl := List.mem_of_getElem? (i := 910) (by decide +kernel)
set_option maxRecDepth 20000 in
theorem lwm_911 : (Cond.methodLink RL 27 yX7_allow) ∈ lw_tbl := List.mem_of_getElem? (i := 911) (by decide +kernel)
set_option maxRecDepth 20000 in
theorem lwm_912 : (Cond.instanceMethod yX7_allow) ∈ lw_tbl := List.mem_of_getElem? (i := 912) (by decide +kernel)
set_option maxRecDepth 20000 in
theorem lwm_913 : (Cond.selects RX7 yX7_allow yX7_allow) ∈ lw_tbl := List.mem_of_getElem? (i := 913) (by decide +kernel)
set_option maxRecDepth 20000 in
theorem lwm_914 : (Cond.code yX7_allow cX7_allow 5 (some .int)) ∈ lw_tbl := List.mem_of_getElem? (i := 914) (by decide +kernel)
set_option maxRecDepth 20000 in
theorem lwm_915 : (Cond.methodLink RL 31 yX7_forbid) ∈ lw_tbl := List.mem_of_getElem? (i := 915) (by decide +kernel)
set_option maxRecDepth 20000 in
theorem lwm_916 : (Cond.instanceMethod yX7_forbid) ∈ lw_tbl := List.mem_of_getElem? (i := 916) (by decide +kernel)
set_option maxRecDepth 20000 in
theorem lwm_917 : (Cond.selects RX7 yX7_forbid yX7_forbid) ∈ lw_tbl := List.mem_of_getElem? (i := 917) (by decide +kernel)
set_option maxRecDepth 20000 in
theorem lwm_918 : (Cond.code yX7_forbid cX7_forbid 5 (some .int)) ∈ lw_tbl := List.mem_of_getElem? (i := 918) (by decide +kernel)
set_option maxRecDepth 20000 in
theorem lwm_919 : (Cond.methodLink RL 35 yX7_vessel) ∈ lw_tbl := List.mem_of_getElem? (i := 919) (by decide +kernel)
set_option maxRecDepth 20000 in
theorem lwm_920 : (Cond.instanceMethod yX7_vessel) ∈ lw_tbl := List.mem_of_getElem? (i := 920) (by decide +kernel)
set_option maxRecDepth 20000 in
theorem lwm_921 : (Cond.selects RX7 yX7_vessel yX7_vessel) ∈ lw_tbl := List.mem_of_getElem? (i := 921) (by decide +kernel)
set_option maxRecDepth 20000 in
theorem lwm_922 : (Cond.code yX7_vessel cX7_vessel 4 (some .int)) ∈ lw_tbl := List.mem_of_getElem? (i := 922) (by decide +kernel)
set_option maxRecDepth 20000 in
theorem lwm_923 : (Cond.methodLink RX7 197 yX7_isVessel) ∈ lw_tbl := List.mem_of_getElem? (i := 923) (by decide +kernel)
set_option maxRecDepth 20000 in
theorem lwm_925 : (Cond.instanceMethod yX7_isVessel) ∈ lw_tbl := List.mem_of_getElem? (i := 925) (by decide +kernel)
set_option maxRecDepth 20000 in
theorem lwm_926 : (Cond.code yX7_isVessel cX7_isVessel 3 (some .boolean)) ∈ lw_tbl := List.mem_of_getElem? (i := 926) (by decide +kernel)
set_option maxRecDepth 20000 in
theorem lwm_927 : (Cond.methodLink RL 39 yX7_bring) ∈ lw_tbl := List.mem_of_getElem? (i := 927) (by decide +kernel)
set_option maxRecDepth 20000 in
theorem lwm_928 : (Cond.instanceMethod yX7_bring) ∈ lw_tbl := List.mem_of_getElem? (i := 928) (by decide +kernel)
set_option maxRecDepth 20000 in
theorem lwm_929 : (Cond.selects RX7 yX7_bring yX7_bring) ∈ lw_tbl := List.mem_of_getElem? (i := 929) (by decide +kernel)
set_option maxRecDepth 20000 in
theorem lwm_930 : (Cond.code yX7_bring cX7_bring 4 (some .int)) ∈ lw_tbl := List.mem_of_getElem? (i := 930) (by decide +kernel)
set_option maxRecDepth 20000 in
theorem lwm_931 : (Cond.methodLink RL 51 yX7_undo) ∈ lw_tbl := List.mem_of_getElem? (i := 931) (by decide +kernel)
set_option maxRecDepth 20000 in
theorem lwm_932 : (Cond.instanceMethod yX7_undo) ∈ lw_tbl := List.mem_of_getElem? (i := 932) (by decide +kernel)
set_option maxRecDepth 20000 in
theorem lwm_933 : (Cond.selects RX7 yX7_undo yX7_undo) ∈ lw_tbl := List.mem_of_getElem? (i := 933) (by decide +kernel)
set_option maxRecDepth 20000 in
theorem lwm_934 : (Cond.code yX7_undo cX7_undo 2 (some .int)) ∈ lw_tbl := List.mem_of_getElem? (i := 934) (by decide +kernel)
set_option maxRecDepth 20000 in
theorem lwm_935 : (Cond.methodLink RL 55 yX7_write) ∈ lw_tbl := List.mem_of_getElem? (i := 935) (by decide +kernel)
set_option maxRecDepth 20000 in
theorem lwm_936 : (Cond.instanceMethod yX7_write) ∈ lw_tbl := List.mem_of_getElem? (i := 936) (by decide +kernel)
set_option maxRecDepth 20000 in
theorem lwm_937 : (Cond.selects RX7 yX7_write yX7_write) ∈ lw_tbl := List.mem_of_getElem? (i := 937) (by decide +kernel)
set_option maxRecDepth 20000 in
theorem lwm_938 : (Cond.code yX7_write cX7_write 2 (some .int)) ∈ lw_tbl := List.mem_of_getElem? (i := 938) (by decide +kernel)
set_option maxRecDepth 20000 in
theorem lwm_939 : (Cond.methodLink RL 59 yX7_wipe) ∈ lw_tbl := List.mem_of_getElem? (i := 939) (by decide +kernel)
set_option maxRecDepth 20000 in
theorem lwm_940 : (Cond.instanceMethod yX7_wipe) ∈ lw_tbl := List.mem_of_getElem? (i := 940) (by decide +kernel)
set_option maxRecDepth 20000 in
theorem lwm_941 : (Cond.selects RX7 yX7_wipe yX7_wipe) ∈ lw_tbl := List.mem_of_getElem? (i := 941) (by decide +kernel)
set_option maxRecDepth 20000 in
theorem lwm_942 : (Cond.code yX7_wipe cX7_wipe 2 (some .int)) ∈ lw_tbl := List.mem_of_getElem? (i := 942) (by decide +kernel)
set_option maxRecDepth 20000 in
theorem lwm_943 : (Cond.methodLink RL 63 yX7_fault) ∈ lw_tbl := List.mem_of_getElem? (i := 943) (by decide +kernel)
set_option maxRecDepth 20000 in
theorem lwm_944 : (Cond.instanceMethod yX7_fault) ∈ lw_tbl := List.mem_of_getElem? (i := 944) (by decide +kernel)
set_option maxRecDepth 20000 in
theorem lwm_945 : (Cond.selects RX7 yX7_fault yX7_fault) ∈ lw_tbl := List.mem_of_getElem? (i := 945) (by decide +kernel)
set_option maxRecDepth 20000 in
theorem lwm_946 : (Cond.code yX7_fault cX7_fault 2 (some .int)) ∈ lw_tbl := List.mem_of_getElem? (i := 946) (by decide +kernel)
set_option maxRecDepth 20000 in
theorem lwm_947 : (Cond.methodLink RL 67 yX7_told) ∈ lw_tbl := List.mem_of_getElem? (i := 947) (by decide +kernel)
set_option maxRecDepth 20000 in
theorem lwm_948 : (Cond.instanceMethod yX7_told) ∈ lw_tbl := List.mem_of_getElem? (i := 948) (by decide +kernel)
set_option maxRecDepth 20000 in
theorem lwm_949 : (Cond.selects RX7 yX7_told yX7_told) ∈ lw_tbl := List.mem_of_getElem? (i := 949) (by decide +kernel)
set_option maxRecDepth 20000 in
theorem lwm_950 : (Cond.code yX7_told cX7_told 2 (some .int)) ∈ lw_tbl := List.mem_of_getElem? (i := 950) (by decide +kernel)
set_option maxRecDepth 20000 in
theorem lwm_951 : (Cond.methodLink RX7 200 yX7_recipes) ∈ lw_tbl := List.mem_of_getElem? (i := 951) (by decide +kernel)
set_option maxRecDepth 20000 in
theorem lwm_953 : (Cond.instanceMethod yX7_recipes) ∈ lw_tbl := List.mem_of_getElem? (i := 953) (by decide +kernel)
set_option maxRecDepth 20000 in
theorem lwm_954 : (Cond.code yX7_recipes cX7_recipes 3 (some .int)) ∈ lw_tbl := List.mem_of_getElem? (i := 954) (by decide +kernel)
set_option maxRecDepth 20000 in
theorem lwm_955 : (Cond.methodLink RX7 203 yX7_stored) ∈ lw_tbl := List.mem_of_getElem? (i := 955) (by decide +kernel)
set_option maxRecDepth 20000 in
theorem lwm_957 : (Cond.instanceMethod yX7_stored) ∈ lw_tbl := List.mem_of_getElem? (i := 957) (by decide +kernel)
set_option maxRecDepth 20000 in
theorem lwm_958 : (Cond.code yX7_stored cX7_stored 3 (some .int)) ∈ lw_tbl := List.mem_of_getElem? (i := 958) (by decide +kernel)
set_option maxRecDepth 20000 in
theorem lwm_959 : (Cond.methodLink RX7 206 yX7_greatestRank) ∈ lw_tbl := List.mem_of_getElem? (i := 959) (by decide +kernel)
set_option maxRecDepth 20000 in
theorem lwm_961 : (Cond.instanceMethod yX7_greatestRank) ∈ lw_tbl := List.mem_of_getElem? (i := 961) (by decide +kernel)
set_option maxRecDepth 20000 in
theorem lwm_962 : (Cond.code yX7_greatestRank cX7_greatestRank 4 (some .int)) ∈ lw_tbl := List.mem_of_getElem? (i := 962) (by decide +kernel)
set_option maxRecDepth 20000 in
theorem lwm_963 : (Cond.methodLink RX7 209 yX7_madeThings) ∈ lw_tbl := List.mem_of_getElem? (i := 963) (by decide +kernel)
set_option maxRecDepth 20000 in
theorem lwm_965 : (Cond.instanceMethod yX7_madeThings) ∈ lw_tbl := List.mem_of_getElem? (i := 965) (by decide +kernel)
set_option maxRecDepth 20000 in
theorem lwm_966 : (Cond.code yX7_madeThings cX7_madeThings 3 (some .int)) ∈ lw_tbl := List.mem_of_getElem? (i := 966) (by decide +kernel)
set_option maxRecDepth 20000 in
theorem lwm_967 : (Cond.methodLink RL 71 yX7_thing) ∈ lw_tbl := List.mem_of_getElem? (i := 967) (by decide +kernel)
set_option maxRecDepth 20000 in
theorem lwm_968 : (Cond.instanceMethod yX7_thing) ∈ lw_tbl := List.mem_of_getElem? (i := 968) (by decide +kernel)
set_option maxRecDepth 20000 in
theorem lwm_969 : (Cond.selects RX7 yX7_thing yX7_thing) ∈ lw_tbl := List.mem_of_getElem? (i := 969) (by decide +kernel)
set_option maxRecDepth 20000 in
theorem lwm_970 : (Cond.code yX7_thing cX7_thing 4 (some .int)) ∈ lw_tbl := List.mem_of_getElem? (i := 970) (by decide +kernel)
set_option maxRecDepth 20000 in
theorem lwm_971 : (Cond.methodLink RL 76 yX7_ingredient) ∈ lw_tbl := List.mem_of_getElem? (i := 971) (by decide +kernel)
set_option maxRecDepth 20000 in
theorem lwm_972 : (Cond.instanceMethod yX7_ingredient) ∈ lw_tbl := List.mem_of_getElem? (i := 972) (by decide +kernel)
set_option maxRecDepth 20000 in
theorem lwm_973 : (Cond.selects RX7 yX7_ingredient yX7_ingredient) ∈ lw_tbl := List.mem_of_getElem? (i := 973) (by decide +kernel)
set_option maxRecDepth 20000 in
theorem lwm_974 : (Cond.code yX7_ingredient cX7_ingredient 4 (some .int)) ∈ lw_tbl := List.mem_of_getElem? (i := 974) (by decide +kernel)
set_option maxRecDepth 20000 in
theorem lwm_975 : (Cond.methodLink RL 80 yX7_substitute) ∈ lw_tbl := List.mem_of_getElem? (i := 975) (by decide +kernel)
set_option maxRecDepth 20000 in
theorem lwm_976 : (Cond.instanceMethod yX7_substitute) ∈ lw_tbl := List.mem_of_getElem? (i := 976) (by decide +kernel)
set_option maxRecDepth 20000 in
theorem lwm_977 : (Cond.selects RX7 yX7_substitute yX7_substitute) ∈ lw_tbl := List.mem_of_getElem? (i := 977) (by decide +kernel)
set_option maxRecDepth 20000 in
theorem lwm_978 : (Cond.code yX7_substitute cX7_substitute 3 (some .int)) ∈ lw_tbl := List.mem_of_getElem? (i := 978) (by decide +kernel)
set_option maxRecDepth 20000 in
theorem lwm_979 : (Cond.methodLink RL 84 yX7_isNeeded) ∈ lw_tbl := List.mem_of_getElem? (i := 979) (by decide +kernel)
set_option maxRecDepth 20000 in
theorem lwm_980 : (Cond.instanceMethod yX7_isNeeded) ∈ lw_tbl := List.mem_of_getElem? (i := 980) (by decide +kernel)
set_option maxRecDepth 20000 in
theorem lwm_981 : (Cond.selects RX7 yX7_isNeeded yX7_isNeeded) ∈ lw_tbl := List.mem_of_getElem? (i := 981) (by decide +kernel)
set_option maxRecDepth 20000 in
theorem lwm_982 : (Cond.code yX7_isNeeded cX7_isNeeded 5 (some .int)) ∈ lw_tbl := List.mem_of_getElem? (i := 982) (by decide +kernel)
set_option maxRecDepth 20000 in
theorem lwm_983 : (Cond.methodLink RX7 212 yX7_reach) ∈ lw_tbl := List.mem_of_getElem? (i := 983) (by decide +kernel)
set_option maxRecDepth 20000 in
theorem lwm_985 : (Cond.instanceMethod yX7_reach) ∈ lw_tbl := List.mem_of_getElem? (i := 985) (by decide +kernel)
set_option maxRecDepth 20000 in
theorem lwm_986 : (Cond.code yX7_reach cX7_reach 5 none) ∈ lw_tbl := List.mem_of_getElem? (i := 986) (by decide +kernel)
set_option maxRecDepth 20000 in
theorem lwm_987 : (Cond.methodLink RL 89 yX7_share) ∈ lw_tbl := List.mem_of_getElem? (i := 987) (by decide +kernel)
set_option maxRecDepth 20000 in
theorem lwm_988 : (Cond.instanceMethod yX7_share) ∈ lw_tbl := List.mem_of_getElem? (i := 988) (by decide +kernel)
set_option maxRecDepth 20000 in
theorem lwm_989 : (Cond.selects RX7 yX7_share yX7_share) ∈ lw_tbl := List.mem_of_getElem? (i := 989) (by decide +kernel)
set_option maxRecDepth 20000 in
theorem lwm_990 : (Cond.code yX7_share cX7_share 3 (some .float)) ∈ lw_tbl := List.mem_of_getElem? (i := 990) (by decide +kernel)
set_option maxRecDepth 20000 in
theorem lwm_991 : (Cond.methodLink RL 93 yX7_gather) ∈ lw_tbl := List.mem_of_getElem? (i := 991) (by decide +kernel)
set_option maxRecDepth 20000 in
theorem lwm_992 : (Cond.instanceMethod yX7_gather) ∈ lw_tbl := List.mem_of_getElem? (i := 992) (by decide +kernel)
set_option maxRecDepth 20000 in
theorem lwm_993 : (Cond.selects RX7 yX7_gather yX7_gather) ∈ lw_tbl := List.mem_of_getElem? (i := 993) (by decide +kernel)
set_option maxRecDepth 20000 in
theorem lwm_994 : (Cond.code yX7_gather cX7_gather 4 (some .int)) ∈ lw_tbl := List.mem_of_getElem? (i := 994) (by decide +kernel)
set_option maxRecDepth 20000 in
theorem lwm_995 : (Cond.methodLink RX7 215 yX7_tryWish) ∈ lw_tbl := List.mem_of_getElem? (i := 995) (by decide +kernel)
set_option maxRecDepth 20000 in
theorem lwm_997 : (Cond.instanceMethod yX7_tryWish) ∈ lw_tbl := List.mem_of_getElem? (i := 997) (by decide +kernel)
set_option maxRecDepth 20000 in
theorem lwm_998 : (Cond.code yX7_tryWish cX7_tryWish 6 (some .int)) ∈ lw_tbl := List.mem_of_getElem? (i := 998) (by decide +kernel)
set_option maxRecDepth 20000 in
theorem lwm_999 : (Cond.methodLink RL 97 yX7_canHave) ∈ lw_tbl := List.mem_of_getElem? (i := 999) (by decide +kernel)
set_option maxRecDepth 20000 in
theorem lwm_1000 : (Cond.instanceMethod yX7_canHave) ∈ lw_tbl := List.mem_of_getElem? (i := 1000) (by decide +kernel)
set_option maxRecDepth 20000 in
theorem lwm_1001 : (Cond.selects RX7 yX7_canHave yX7_canHave) ∈ lw_tbl := List.mem_of_getElem? (i := 1001) (by decide +kernel)
set_option maxRecDepth 20000 in
theorem lwm_1002 : (Cond.code yX7_canHave cX7_canHave 3 (some .int)) ∈ lw_tbl := List.mem_of_getElem? (i := 1002) (by decide +kernel)
set_option maxRecDepth 20000 in
theorem lwm_1003 : (Cond.methodLink RL 101 yX7_bestGift) ∈ lw_tbl := List.mem_of_getElem? (i := 1003) (by decide +kernel)
set_option maxRecDepth 20000 in
theorem lwm_1004 : (Cond.instanceMethod yX7_bestGift) ∈ lw_tbl := List.mem_of_getElem? (i := 1004) (by decide +kernel)
set_option maxRecDepth 20000 in
theorem lwm_1005 : (Cond.selects RX7 yX7_bestGift yX7_bestGift) ∈ lw_tbl := List.mem_of_getElem? (i := 1005) (by decide +kernel)
set_option maxRecDepth 20000 in
theorem lwm_1006 : (Cond.code yX7_bestGift cX7_bestGift 7 (some .int)) ∈ lw_tbl := List.mem_of_getElem? (i := 1006) (by decide +kernel)
set_option maxRecDepth 20000 in
theorem lwm_1007 : (Cond.methodLink RL 105 yX7_keep) ∈ lw_tbl := List.mem_of_getElem? (i := 1007) (by decide +kernel)
set_option maxRecDepth 20000 in
theorem lwm_1008 : (Cond.instanceMethod yX7_keep) ∈ lw_tbl := List.mem_of_getElem? (i := 1008) (by decide +kernel)
set_option maxRecDepth 20000 in
theorem lwm_1009 : (Cond.selects RX7 yX7_keep yX7_keep) ∈ lw_tbl := List.mem_of_getElem? (i := 1009) (by decide +kernel)
set_option maxRecDepth 20000 in
theorem lwm_1010 : (Cond.code yX7_keep cX7_keep 3 (some .int)) ∈ lw_tbl := List.mem_of_getElem? (i := 1010) (by decide +kernel)
set_option maxRecDepth 20000 in
theorem lwm_1011 : (Cond.methodLink RX7 219 yX7_isImage) ∈ lw_tbl := List.mem_of_getElem? (i := 1011) (by decide +kernel)
set_option maxRecDepth 20000 in
theorem lwm_1012 : (Cond.static yX7_isImage) ∈ lw_tbl := List.mem_of_getElem? (i := 1012) (by decide +kernel)
set_option maxRecDepth 20000 in
theorem lwm_1013 : (Cond.code yX7_isImage cX7_isImage 1 (some .boolean)) ∈ lw_tbl := List.mem_of_getElem? (i := 1013) (by decide +kernel)
set_option maxRecDepth 20000 in
theorem lwm_1014 : (Cond.methodLink RL 109 yX7_back) ∈ lw_tbl := List.mem_of_getElem? (i := 1014) (by decide +kernel)
set_option maxRecDepth 20000 in
theorem lwm_1015 : (Cond.instanceMethod yX7_back) ∈ lw_tbl := List.mem_of_getElem? (i := 1015) (by decide +kernel)
set_option maxRecDepth 20000 in
theorem lwm_1016 : (Cond.selects RX7 yX7_back yX7_back) ∈ lw_tbl := List.mem_of_getElem? (i := 1016) (by decide +kernel)
set_option maxRecDepth 20000 in
theorem lwm_1017 : (Cond.code yX7_back cX7_back 3 (some .int)) ∈ lw_tbl := List.mem_of_getElem? (i := 1017) (by decide +kernel)
