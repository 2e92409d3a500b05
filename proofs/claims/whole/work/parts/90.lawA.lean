/-! ===== 90.lawA: the words of the calls, by their places ===== -/
set_option maxRecDepth 20000 in
theorem lwm_0 : (Cond.selects RX2 yX2_readLetter yX2_readLetter) ∈ lw_tbl := List.mem_of_getElem? (i := 0) (by decide +kernel)
set_option maxRecDepth 20000 in
theorem lwm_1 : (Cond.selects RX2 yX2_skipBlanks yX2_skipBlanks) ∈ lw_tbl := List.mem_of_getElem? (i := 1) (by decide +kernel)
set_option maxRecDepth 20000 in
theorem lwm_2 : (Cond.selects RX2 yX2_tellFault yX2_tellFault) ∈ lw_tbl := List.mem_of_getElem? (i := 2) (by decide +kernel)
set_option maxRecDepth 20000 in
theorem lwm_3 : (Cond.selects RX2 yX2_readNumber yX2_readNumber) ∈ lw_tbl := List.mem_of_getElem? (i := 3) (by decide +kernel)
set_option maxRecDepth 20000 in
theorem lwm_4 : (Cond.selects RX2 yX2_isDigit yX2_isDigit) ∈ lw_tbl := List.mem_of_getElem? (i := 4) (by decide +kernel)
set_option maxRecDepth 20000 in
theorem lwm_5 : (Cond.selects RX2 yX2_readSign yX2_readSign) ∈ lw_tbl := List.mem_of_getElem? (i := 5) (by decide +kernel)
set_option maxRecDepth 20000 in
theorem lwm_6 : (Cond.selects RX2 yX2_readIngredient yX2_readIngredient) ∈ lw_tbl := List.mem_of_getElem? (i := 6) (by decide +kernel)
set_option maxRecDepth 20000 in
theorem lwm_7 : (Cond.selects RX2 yX2_isListed yX2_isListed) ∈ lw_tbl := List.mem_of_getElem? (i := 7) (by decide +kernel)
set_option maxRecDepth 20000 in
theorem lwm_8 : (Cond.selects RX2 yX2_isMore yX2_isMore) ∈ lw_tbl := List.mem_of_getElem? (i := 8) (by decide +kernel)
set_option maxRecDepth 20000 in
theorem lwm_9 : (Cond.selects RX0 yX0_needsOf yX0_needsOf) ∈ lw_tbl := List.mem_of_getElem? (i := 9) (by decide +kernel)
set_option maxRecDepth 20000 in
theorem lwm_10 : (Cond.selects RX0 yX0_greatestRankIn yX0_greatestRankIn) ∈ lw_tbl := List.mem_of_getElem? (i := 10) (by decide +kernel)
set_option maxRecDepth 20000 in
theorem lwm_11 : (Cond.selects RX1 yX1_placeOf yX1_placeOf) ∈ lw_tbl := List.mem_of_getElem? (i := 11) (by decide +kernel)
set_option maxRecDepth 20000 in
theorem lwm_12 : (Cond.selects RX5 yX5_provide yX5_provide) ∈ lw_tbl := List.mem_of_getElem? (i := 12) (by decide +kernel)
set_option maxRecDepth 20000 in
theorem lwm_13 : (Cond.selects RX5 yX5_run yX5_run) ∈ lw_tbl := List.mem_of_getElem? (i := 13) (by decide +kernel)
set_option maxRecDepth 20000 in
theorem lwm_14 : (Cond.selects RX5 yX5_take yX5_take) ∈ lw_tbl := List.mem_of_getElem? (i := 14) (by decide +kernel)
set_option maxRecDepth 20000 in
theorem lwm_15 : (Cond.selects RX5 yX5_useUp yX5_useUp) ∈ lw_tbl := List.mem_of_getElem? (i := 15) (by decide +kernel)
set_option maxRecDepth 20000 in
theorem lwm_16 : (Cond.selects RX5 yX5_comeIn yX5_comeIn) ∈ lw_tbl := List.mem_of_getElem? (i := 16) (by decide +kernel)
set_option maxRecDepth 20000 in
theorem lwm_17 : (Cond.selects RX5 yX5_standIn yX5_standIn) ∈ lw_tbl := List.mem_of_getElem? (i := 17) (by decide +kernel)
set_option maxRecDepth 20000 in
theorem lwm_18 : (Cond.selects RX5 yX5_collect yX5_collect) ∈ lw_tbl := List.mem_of_getElem? (i := 18) (by decide +kernel)
set_option maxRecDepth 20000 in
theorem lwm_19 : (Cond.selects RX6 yX6_acceptWorks yX6_acceptWorks) ∈ lw_tbl := List.mem_of_getElem? (i := 19) (by decide +kernel)
set_option maxRecDepth 20000 in
theorem lwm_20 : (Cond.selects RX7 yX7_put yX7_put) ∈ lw_tbl := List.mem_of_getElem? (i := 20) (by decide +kernel)
set_option maxRecDepth 20000 in
theorem lwm_21 : (Cond.selects RX7 yX7_hold yX7_hold) ∈ lw_tbl := List.mem_of_getElem? (i := 21) (by decide +kernel)
set_option maxRecDepth 20000 in
theorem lwm_22 : (Cond.selects RX7 yX7_wishNow yX7_wishNow) ∈ lw_tbl := List.mem_of_getElem? (i := 22) (by decide +kernel)
set_option maxRecDepth 20000 in
theorem lwm_23 : (Cond.selects RX7 yX7_beginMaking yX7_beginMaking) ∈ lw_tbl := List.mem_of_getElem? (i := 23) (by decide +kernel)
set_option maxRecDepth 20000 in
theorem lwm_24 : (Cond.selects RX7 yX7_of yX7_of) ∈ lw_tbl := List.mem_of_getElem? (i := 24) (by decide +kernel)
set_option maxRecDepth 20000 in
theorem lwm_25 : (Cond.selects RX7 yX7_isMade yX7_isMade) ∈ lw_tbl := List.mem_of_getElem? (i := 25) (by decide +kernel)
set_option maxRecDepth 20000 in
theorem lwm_26 : (Cond.selects RX7 yX7_batchesFor yX7_batchesFor) ∈ lw_tbl := List.mem_of_getElem? (i := 26) (by decide +kernel)
set_option maxRecDepth 20000 in
theorem lwm_27 : (Cond.selects RX7 yX7_begin yX7_begin) ∈ lw_tbl := List.mem_of_getElem? (i := 27) (by decide +kernel)
set_option maxRecDepth 20000 in
theorem lwm_28 : (Cond.selects RX7 yX7_makeBegun yX7_makeBegun) ∈ lw_tbl := List.mem_of_getElem? (i := 28) (by decide +kernel)
set_option maxRecDepth 20000 in
theorem lwm_29 : (Cond.selects RX7 yX7_ingredientOf yX7_ingredientOf) ∈ lw_tbl := List.mem_of_getElem? (i := 29) (by decide +kernel)
set_option maxRecDepth 20000 in
theorem lwm_30 : (Cond.selects RX7 yX7_amountOf yX7_amountOf) ∈ lw_tbl := List.mem_of_getElem? (i := 30) (by decide +kernel)
set_option maxRecDepth 20000 in
theorem lwm_31 : (Cond.selects RX7 yX7_take yX7_take) ∈ lw_tbl := List.mem_of_getElem? (i := 31) (by decide +kernel)
set_option maxRecDepth 20000 in
theorem lwm_32 : (Cond.selects RX7 yX7_fromStore yX7_fromStore) ∈ lw_tbl := List.mem_of_getElem? (i := 32) (by decide +kernel)
set_option maxRecDepth 20000 in
theorem lwm_33 : (Cond.selects RX7 yX7_useUp yX7_useUp) ∈ lw_tbl := List.mem_of_getElem? (i := 33) (by decide +kernel)
set_option maxRecDepth 20000 in
theorem lwm_34 : (Cond.selects RX7 yX7_come yX7_come) ∈ lw_tbl := List.mem_of_getElem? (i := 34) (by decide +kernel)
set_option maxRecDepth 20000 in
theorem lwm_35 : (Cond.selects RX7 yX7_gatherNow yX7_gatherNow) ∈ lw_tbl := List.mem_of_getElem? (i := 35) (by decide +kernel)
set_option maxRecDepth 20000 in
theorem lwm_36 : (Cond.selects RX7 yX7_endMaking yX7_endMaking) ∈ lw_tbl := List.mem_of_getElem? (i := 36) (by decide +kernel)
set_option maxRecDepth 20000 in
theorem lwm_37 : (Cond.selects RX7 yX7_restore yX7_restore) ∈ lw_tbl := List.mem_of_getElem? (i := 37) (by decide +kernel)
set_option maxRecDepth 20000 in
theorem lwm_38 : (Cond.selects RX7 yX7_remember yX7_remember) ∈ lw_tbl := List.mem_of_getElem? (i := 38) (by decide +kernel)
set_option maxRecDepth 20000 in
theorem lwm_39 : (Cond.selects RX7 yX7_readText yX7_readText) ∈ lw_tbl := List.mem_of_getElem? (i := 39) (by decide +kernel)
set_option maxRecDepth 20000 in
theorem lwm_40 : (Cond.selects RX7 yX7_mark yX7_mark) ∈ lw_tbl := List.mem_of_getElem? (i := 40) (by decide +kernel)
set_option maxRecDepth 20000 in
theorem lwm_41 : (Cond.selects RX7 yX7_readDigit yX7_readDigit) ∈ lw_tbl := List.mem_of_getElem? (i := 41) (by decide +kernel)
set_option maxRecDepth 20000 in
theorem lwm_42 : (Cond.selects RX7 yX7_isNumber yX7_isNumber) ∈ lw_tbl := List.mem_of_getElem? (i := 42) (by decide +kernel)
set_option maxRecDepth 20000 in
theorem lwm_43 : (Cond.selects RX7 yX7_readOther yX7_readOther) ∈ lw_tbl := List.mem_of_getElem? (i := 43) (by decide +kernel)
set_option maxRecDepth 20000 in
theorem lwm_44 : (Cond.selects RX7 yX7_endsWell yX7_endsWell) ∈ lw_tbl := List.mem_of_getElem? (i := 44) (by decide +kernel)
set_option maxRecDepth 20000 in
theorem lwm_45 : (Cond.selects RX7 yX7_readIngredient yX7_readIngredient) ∈ lw_tbl := List.mem_of_getElem? (i := 45) (by decide +kernel)
set_option maxRecDepth 20000 in
theorem lwm_46 : (Cond.selects RX7 yX7_areRanks yX7_areRanks) ∈ lw_tbl := List.mem_of_getElem? (i := 46) (by decide +kernel)
set_option maxRecDepth 20000 in
theorem lwm_47 : (Cond.selects RX7 yX7_rankBy yX7_rankBy) ∈ lw_tbl := List.mem_of_getElem? (i := 47) (by decide +kernel)
set_option maxRecDepth 20000 in
theorem lwm_48 : (Cond.selects RX7 yX7_isVessel yX7_isVessel) ∈ lw_tbl := List.mem_of_getElem? (i := 48) (by decide +kernel)
set_option maxRecDepth 20000 in
theorem lwm_49 : (Cond.selects RX7 yX7_recipes yX7_recipes) ∈ lw_tbl := List.mem_of_getElem? (i := 49) (by decide +kernel)
set_option maxRecDepth 20000 in
theorem lwm_50 : (Cond.selects RX7 yX7_stored yX7_stored) ∈ lw_tbl := List.mem_of_getElem? (i := 50) (by decide +kernel)
set_option maxRecDepth 20000 in
theorem lwm_51 : (Cond.selects RX7 yX7_greatestRank yX7_greatestRank) ∈ lw_tbl := List.mem_of_getElem? (i := 51) (by decide +kernel)
set_option maxRecDepth 20000 in
theorem lwm_52 : (Cond.selects RX7 yX7_madeThings yX7_madeThings) ∈ lw_tbl := List.mem_of_getElem? (i := 52) (by decide +kernel)
set_option maxRecDepth 20000 in
theorem lwm_53 : (Cond.selects RX7 yX7_reach yX7_reach) ∈ lw_tbl := List.mem_of_getElem? (i := 53) (by decide +kernel)
set_option maxRecDepth 20000 in
theorem lwm_54 : (Cond.selects RX7 yX7_tryWish yX7_tryWish) ∈ lw_tbl := List.mem_of_getElem? (i := 54) (by decide +kernel)
set_option maxRecDepth 20000 in
theorem lwm_56 : (Cond.initialized RX6) ∈ lw_tbl := List.mem_of_getElem? (i := 56) (by decide +kernel)
set_option maxRecDepth 20000 in
theorem lwm_57 : (Cond.initialized RX0) ∈ lw_tbl := List.mem_of_getElem? (i := 57) (by decide +kernel)
set_option maxRecDepth 20000 in
theorem lwm_58 : (Cond.initialized RJ7) ∈ lw_tbl := List.mem_of_getElem? (i := 58) (by decide +kernel)
set_option maxRecDepth 20000 in
theorem lwm_59 : (Cond.initialized RX4) ∈ lw_tbl := List.mem_of_getElem? (i := 59) (by decide +kernel)
set_option maxRecDepth 20000 in
theorem lwm_60 : (Cond.initialized RX5) ∈ lw_tbl := List.mem_of_getElem? (i := 60) (by decide +kernel)
set_option maxRecDepth 20000 in
theorem lwm_61 : (Cond.initialized RX1) ∈ lw_tbl := List.mem_of_getElem? (i := 61) (by decide +kernel)
set_option maxRecDepth 20000 in
theorem lwm_62 : (Cond.initialized RX2) ∈ lw_tbl := List.mem_of_getElem? (i := 62) (by decide +kernel)
set_option maxRecDepth 20000 in
theorem lwm_63 : (Cond.initialized RX7) ∈ lw_tbl := List.mem_of_getElem? (i := 63) (by decide +kernel)
set_option maxRecDepth 20000 in
theorem lwm_64 : (Cond.initialized "java/lang/Math") ∈ lw_tbl := List.mem_of_getElem? (i := 64) (by decide +kernel)
set_option maxRecDepth 20000 in
theorem lwm_65 : (Cond.initialized "java/lang/System") ∈ lw_tbl := List.mem_of_getElem? (i := 65) (by decide +kernel)
set_option maxRecDepth 20000 in
theorem lwm_66 : (Cond.initialized RX3) ∈ lw_tbl := List.mem_of_getElem? (i := 66) (by decide +kernel)
set_option maxRecDepth 20000 in
theorem lwm_67 : (Cond.initialized RJ6) ∈ lw_tbl := List.mem_of_getElem? (i := 67) (by decide +kernel)
set_option maxRecDepth 20000 in
theorem lwm_68 : (Cond.classLink RL 7 RX6) ∈ lw_tbl := List.mem_of_getElem? (i := 68) (by decide +kernel)
set_option maxRecDepth 20000 in
theorem lwm_69 : (Cond.instantiable RX6 11) ∈ lw_tbl := List.mem_of_getElem? (i := 69) (by decide +kernel)
set_option maxRecDepth 20000 in
theorem lwm_70 : (Cond.methodLink RL 9 yX6_init) ∈ lw_tbl := List.mem_of_getElem? (i := 70) (by decide +kernel)
set_option maxRecDepth 20000 in
theorem lwm_71 : (Cond.instanceMethod yX6_init) ∈ lw_tbl := List.mem_of_getElem? (i := 71) (by decide +kernel)
set_option maxRecDepth 20000 in
theorem lwm_72 : (Cond.code yX6_init cX6_init 1 none) ∈ lw_tbl := List.mem_of_getElem? (i := 72) (by decide +kernel)
set_option maxRecDepth 20000 in
theorem lwm_73 : (Cond.methodLink RX6 1 objectInit) ∈ lw_tbl := List.mem_of_getElem? (i := 73) (by decide +kernel)
set_option maxRecDepth 20000 in
theorem lwm_74 : (Cond.instanceMethod objectInit) ∈ lw_tbl := List.mem_of_getElem? (i := 74) (by decide +kernel)
set_option maxRecDepth 20000 in
theorem lwm_75 : (Cond.code objectInit ⟨#[0xb1]⟩ 1 none) ∈ lw_tbl := List.mem_of_getElem? (i := 75) (by decide +kernel)
set_option maxRecDepth 20000 in
theorem lwm_76 : (Cond.classLink RX6 7 RX0) ∈ lw_tbl := List.mem_of_getElem? (i := 76) (by decide +kernel)
set_option maxRecDepth 20000 in
theorem lwm_77 : (Cond.instantiable RX0 8) ∈ lw_tbl := List.mem_of_getElem? (i := 77) (by decide +kernel)
set_option maxRecDepth 20000 in
theorem lwm_78 : (Cond.methodLink RX6 9 yX0_init) ∈ lw_tbl := List.mem_of_getElem? (i := 78) (by decide +kernel)
set_option maxRecDepth 20000 in
theorem lwm_79 : (Cond.instanceMethod yX0_init) ∈ lw_tbl := List.mem_of_getElem? (i := 79) (by decide +kernel)
set_option maxRecDepth 20000 in
theorem lwm_80 : (Cond.code yX0_init cX0_init 1 none) ∈ lw_tbl := List.mem_of_getElem? (i := 80) (by decide +kernel)
set_option maxRecDepth 20000 in
theorem lwm_81 : (Cond.methodLink RX0 3 objectInit) ∈ lw_tbl := List.mem_of_getElem? (i := 81) (by decide +kernel)
set_option maxRecDepth 20000 in
theorem lwm_82 : (Cond.methodLink RX0 36 yJ7_fill_53178) ∈ lw_tbl := List.mem_of_getElem? (i := 82) (by decide +kernel)
set_option maxRecDepth 20000 in
theorem lwm_83 : (Cond.static yJ7_fill_53178) ∈ lw_tbl := List.mem_of_getElem? (i := 83) (by decide +kernel)
set_option maxRecDepth 20000 in
theorem lwm_84 : (Cond.code yJ7_fill_53178 cJ7_fill_53178 4 none) ∈ lw_tbl := List.mem_of_getElem? (i := 84) (by decide +kernel)
set_option maxRecDepth 20000 in
theorem lwm_85 : (Cond.fieldLink RX0 9 "ThingMaker$Book" "yields" "[I") ∈ lw_tbl := List.mem_of_getElem? (i := 85) (by decide +kernel)
set_option maxRecDepth 20000 in
theorem lwm_86 : (Cond.fieldLink RX0 15 "ThingMaker$Book" "ingredientCounts" "[I") ∈ lw_tbl := List.mem_of_getElem? (i := 86) (by decide +kernel)
set_option maxRecDepth 20000 in
theorem lwm_87 : (Cond.fieldLink RX0 18 "ThingMaker$Book" "ingredients" "[I") ∈ lw_tbl := List.mem_of_getElem? (i := 87) (by decide +kernel)
set_option maxRecDepth 20000 in
theorem lwm_88 : (Cond.fieldLink RX0 21 "ThingMaker$Book" "amounts" "[I") ∈ lw_tbl := List.mem_of_getElem? (i := 88) (by decide +kernel)
set_option maxRecDepth 20000 in
theorem lwm_89 : (Cond.fieldLink RX0 24 "ThingMaker$Book" "substituteCounts" "[I") ∈ lw_tbl := List.mem_of_getElem? (i := 89) (by decide +kernel)
set_option maxRecDepth 20000 in
theorem lwm_90 : (Cond.fieldLink RX0 27 "ThingMaker$Book" "substitutes" "[I") ∈ lw_tbl := List.mem_of_getElem? (i := 90) (by decide +kernel)
set_option maxRecDepth 20000 in
theorem lwm_91 : (Cond.fieldLink RX0 30 "ThingMaker$Book" "vessels" "[I") ∈ lw_tbl := List.mem_of_getElem? (i := 91) (by decide +kernel)
set_option maxRecDepth 20000 in
theorem lwm_92 : (Cond.fieldLink RX0 33 "ThingMaker$Book" "ranks" "[I") ∈ lw_tbl := List.mem_of_getElem? (i := 92) (by decide +kernel)
set_option maxRecDepth 20000 in
theorem lwm_110 : (Cond.arrayClass .int) ∈ lw_tbl := List.mem_of_getElem? (i := 110) (by decide +kernel)
set_option maxRecDepth 20000 in
theorem lwm_111 : (Cond.classLink RX6 19 RX4) ∈ lw_tbl := List.mem_of_getElem? (i := 111) (by decide +kernel)
set_option maxRecDepth 20000 in
theorem lwm_112 : (Cond.instantiable RX4 7) ∈ lw_tbl := List.mem_of_getElem? (i := 112) (by decide +kernel)
set_option maxRecDepth 20000 in
theorem lwm_114 : (Cond.instanceMethod yX4_init) ∈ lw_tbl := List.mem_of_getElem? (i := 114) (by decide +kernel)
set_option maxRecDepth 20000 in
theorem lwm_115 : (Cond.code yX4_init cX4_init 1 none) ∈ lw_tbl := List.mem_of_getElem? (i := 115) (by decide +kernel)
set_option maxRecDepth 20000 in
theorem lwm_116 : (Cond.methodLink RX4 3 objectInit) ∈ lw_tbl := List.mem_of_getElem? (i := 116) (by decide +kernel)
set_option maxRecDepth 20000 in
theorem lwm_117 : (Cond.fieldLink RX4 9 "ThingMaker$Stock" "amounts" "[I") ∈ lw_tbl := List.mem_of_getElem? (i := 117) (by decide +kernel)
set_option maxRecDepth 20000 in
theorem lwm_120 : (Cond.fieldLink RX4 15 "ThingMaker$Stock" "gathered" "[I") ∈ lw_tbl := List.mem_of_getElem? (i := 120) (by decide +kernel)
set_option maxRecDepth 20000 in
theorem lwm_123 : (Cond.fieldLink RX4 18 "ThingMaker$Stock" "made" "[I") ∈ lw_tbl := List.mem_of_getElem? (i := 123) (by decide +kernel)
set_option maxRecDepth 20000 in
theorem lwm_126 : (Cond.fieldLink RX4 21 "ThingMaker$Stock" "used" "[I") ∈ lw_tbl := List.mem_of_getElem? (i := 126) (by decide +kernel)
set_option maxRecDepth 20000 in
theorem lwm_129 : (Cond.fieldLink RX4 24 "ThingMaker$Stock" "returned" "[I") ∈ lw_tbl := List.mem_of_getElem? (i := 129) (by decide +kernel)
set_option maxRecDepth 20000 in
theorem lwm_132 : (Cond.fieldLink RX4 27 "ThingMaker$Stock" "brought" "[I") ∈ lw_tbl := List.mem_of_getElem? (i := 132) (by decide +kernel)
set_option maxRecDepth 20000 in
theorem lwm_134 : (Cond.fieldLink RX4 34 "ThingMaker$Stock" "batches" "I") ∈ lw_tbl := List.mem_of_getElem? (i := 134) (by decide +kernel)
set_option maxRecDepth 20000 in
theorem lwm_152 : (Cond.classLink RX6 26 RX5) ∈ lw_tbl := List.mem_of_getElem? (i := 152) (by decide +kernel)
set_option maxRecDepth 20000 in
theorem lwm_153 : (Cond.instantiable RX5 5) ∈ lw_tbl := List.mem_of_getElem? (i := 153) (by decide +kernel)
set_option maxRecDepth 20000 in
theorem lwm_155 : (Cond.instanceMethod yX5_init) ∈ lw_tbl := List.mem_of_getElem? (i := 155) (by decide +kernel)
set_option maxRecDepth 20000 in
theorem lwm_156 : (Cond.code yX5_init cX5_init 1 none) ∈ lw_tbl := List.mem_of_getElem? (i := 156) (by decide +kernel)
set_option maxRecDepth 20000 in
theorem lwm_157 : (Cond.methodLink RX5 3 objectInit) ∈ lw_tbl := List.mem_of_getElem? (i := 157) (by decide +kernel)
set_option maxRecDepth 20000 in
theorem lwm_158 : (Cond.classLink RX5 9 RX4) ∈ lw_tbl := List.mem_of_getElem? (i := 158) (by decide +kernel)
set_option maxRecDepth 20000 in
theorem lwm_160 : (Cond.fieldLink RX5 12 "ThingMaker$Works" "bench" "LThingMaker$Stock;") ∈ lw_tbl := List.mem_of_getElem? (i := 160) (by decide +kernel)
set_option maxRecDepth 20000 in
theorem lwm_162 : (Cond.fieldLink RX5 22 "ThingMaker$Works" "mayGather" "Z") ∈ lw_tbl := List.mem_of_getElem? (i := 162) (by decide +kernel)
set_option maxRecDepth 20000 in
theorem lwm_163 : (Cond.fieldLink RX5 26 "ThingMaker$Works" "failed" "Z") ∈ lw_tbl := List.mem_of_getElem? (i := 163) (by decide +kernel)
set_option maxRecDepth 20000 in
theorem lwm_164 : (Cond.fieldLink RX5 29 "ThingMaker$Works" "batches" "I") ∈ lw_tbl := List.mem_of_getElem? (i := 164) (by decide +kernel)
set_option maxRecDepth 20000 in
theorem lwm_165 : (Cond.fieldLink RX5 33 "ThingMaker$Works" "gathered" "I") ∈ lw_tbl := List.mem_of_getElem? (i := 165) (by decide +kernel)
set_option maxRecDepth 20000 in
theorem lwm_177 : (Cond.classLink RX6 33 RX1) ∈ lw_tbl := List.mem_of_getElem? (i := 177) (by decide +kernel)
set_option maxRecDepth 20000 in
theorem lwm_178 : (Cond.instantiable RX1 3) ∈ lw_tbl := List.mem_of_getElem? (i := 178) (by decide +kernel)
set_option maxRecDepth 20000 in
theorem lwm_180 : (Cond.instanceMethod yX1_init) ∈ lw_tbl := List.mem_of_getElem? (i := 180) (by decide +kernel)
set_option maxRecDepth 20000 in
theorem lwm_181 : (Cond.code yX1_init cX1_init 1 none) ∈ lw_tbl := List.mem_of_getElem? (i := 181) (by decide +kernel)
set_option maxRecDepth 20000 in
theorem lwm_182 : (Cond.methodLink RX1 3 objectInit) ∈ lw_tbl := List.mem_of_getElem? (i := 182) (by decide +kernel)
set_option maxRecDepth 20000 in
theorem lwm_183 : (Cond.classLink RX1 9 RX3) ∈ lw_tbl := List.mem_of_getElem? (i := 183) (by decide +kernel)
set_option maxRecDepth 20000 in
theorem lwm_185 : (Cond.fieldLink RX1 11 "ThingMaker$History" "states" "[LThingMaker$State;") ∈ lw_tbl := List.mem_of_getElem? (i := 185) (by decide +kernel)
set_option maxRecDepth 20000 in
theorem lwm_186 : (Cond.fieldLink RX1 25 "ThingMaker$History" "oldest" "I") ∈ lw_tbl := List.mem_of_getElem? (i := 186) (by decide +kernel)
set_option maxRecDepth 20000 in
theorem lwm_187 : (Cond.fieldLink RX1 17 "ThingMaker$History" "size" "I") ∈ lw_tbl := List.mem_of_getElem? (i := 187) (by decide +kernel)
set_option maxRecDepth 20000 in
theorem lwm_195 : (Cond.classLink RX6 40 RX3) ∈ lw_tbl := List.mem_of_getElem? (i := 195) (by decide +kernel)
set_option maxRecDepth 20000 in
theorem lwm_196 : (Cond.classLink RX6 46 RX2) ∈ lw_tbl := List.mem_of_getElem? (i := 196) (by decide +kernel)
set_option maxRecDepth 20000 in
theorem lwm_197 : (Cond.instantiable RX2 8) ∈ lw_tbl := List.mem_of_getElem? (i := 197) (by decide +kernel)
set_option maxRecDepth 20000 in
theorem lwm_199 : (Cond.instanceMethod yX2_init) ∈ lw_tbl := List.mem_of_getElem? (i := 199) (by decide +kernel)
set_option maxRecDepth 20000 in
theorem lwm_200 : (Cond.code yX2_init cX2_init 1 none) ∈ lw_tbl := List.mem_of_getElem? (i := 200) (by decide +kernel)
set_option maxRecDepth 20000 in
theorem lwm_201 : (Cond.methodLink RX2 3 objectInit) ∈ lw_tbl := List.mem_of_getElem? (i := 201) (by decide +kernel)
set_option maxRecDepth 20000 in
theorem lwm_202 : (Cond.fieldLink RX2 9 "ThingMaker$RecipeReader" "ingredients" "[I") ∈ lw_tbl := List.mem_of_getElem? (i := 202) (by decide +kernel)
set_option maxRecDepth 20000 in
theorem lwm_204 : (Cond.fieldLink RX2 15 "ThingMaker$RecipeReader" "amounts" "[I") ∈ lw_tbl := List.mem_of_getElem? (i := 204) (by decide +kernel)
set_option maxRecDepth 20000 in
theorem lwm_206 : (Cond.fieldLink RX2 35 "ThingMaker$RecipeReader" "made" "I") ∈ lw_tbl := List.mem_of_getElem? (i := 206) (by decide +kernel)
set_option maxRecDepth 20000 in
theorem lwm_209 : (Cond.fieldLink RX2 41 "ThingMaker$RecipeReader" "yielded" "I") ∈ lw_tbl := List.mem_of_getElem? (i := 209) (by decide +kernel)
set_option maxRecDepth 20000 in
theorem lwm_211 : (Cond.fieldLink RX2 22 "ThingMaker$RecipeReader" "count" "I") ∈ lw_tbl := List.mem_of_getElem? (i := 211) (by decide +kernel)
set_option maxRecDepth 20000 in
theorem lwm_213 : (Cond.fieldLink RX2 25 "ThingMaker$RecipeReader" "faultKind" "I") ∈ lw_tbl := List.mem_of_getElem? (i := 213) (by decide +kernel)
set_option maxRecDepth 20000 in
theorem lwm_215 : (Cond.fieldLink RX2 28 "ThingMaker$RecipeReader" "faultPlace" "I") ∈ lw_tbl := List.mem_of_getElem? (i := 215) (by decide +kernel)
set_option maxRecDepth 20000 in
theorem lwm_217 : (Cond.fieldLink RX2 18 "ThingMaker$RecipeReader" "place" "I") ∈ lw_tbl := List.mem_of_getElem? (i := 217) (by decide +kernel)
set_option maxRecDepth 20000 in
theorem lwm_235 : (Cond.fieldLink RX6 10 "ThingMaker" "book" "LThingMaker$Book;") ∈ lw_tbl := List.mem_of_getElem? (i := 235) (by decide +kernel)
set_option maxRecDepth 20000 in
theorem lwm_236 : (Cond.fieldLink RX6 16 "ThingMaker" "draft" "LThingMaker$Book;") ∈ lw_tbl := List.mem_of_getElem? (i := 236) (by decide +kernel)
set_option maxRecDepth 20000 in
theorem lwm_237 : (Cond.fieldLink RX6 22 "ThingMaker" "stock" "LThingMaker$Stock;") ∈ lw_tbl := List.mem_of_getElem? (i := 237) (by decide +kernel)
set_option maxRecDepth 20000 in
theorem lwm_238 : (Cond.fieldLink RX6 29 "ThingMaker" "works" "LThingMaker$Works;") ∈ lw_tbl := List.mem_of_getElem? (i := 238) (by decide +kernel)
set_option maxRecDepth 20000 in
theorem lwm_239 : (Cond.fieldLink RX6 36 "ThingMaker" "history" "LThingMaker$History;") ∈ lw_tbl := List.mem_of_getElem? (i := 239) (by decide +kernel)
set_option maxRecDepth 20000 in
theorem lwm_240 : (Cond.fieldLink RX6 42 "ThingMaker" "images" "[LThingMaker$State;") ∈ lw_tbl := List.mem_of_getElem? (i := 240) (by decide +kernel)
set_option maxRecDepth 20000 in
theorem lwm_241 : (Cond.fieldLink RX6 49 "ThingMaker" "reader" "LThingMaker$RecipeReader;") ∈ lw_tbl := List.mem_of_getElem? (i := 241) (by decide +kernel)
set_option maxRecDepth 20000 in
theorem lwm_242 : (Cond.fieldLink RX6 53 "ThingMaker" "text" "[I") ∈ lw_tbl := List.mem_of_getElem? (i := 242) (by decide +kernel)
set_option maxRecDepth 20000 in
theorem lwm_243 : (Cond.fieldLink RX6 57 "ThingMaker" "length" "I") ∈ lw_tbl := List.mem_of_getElem? (i := 243) (by decide +kernel)
set_option maxRecDepth 20000 in
theorem lwm_244 : (Cond.fieldLink RX6 61 "ThingMaker" "faultKind" "I") ∈ lw_tbl := List.mem_of_getElem? (i := 244) (by decide +kernel)
set_option maxRecDepth 20000 in
theorem lwm_245 : (Cond.fieldLink RX6 64 "ThingMaker" "faultPlace" "I") ∈ lw_tbl := List.mem_of_getElem? (i := 245) (by decide +kernel)
set_option maxRecDepth 20000 in
theorem lwm_269 : (Cond.methodLink RL 13 yX6_recipe) ∈ lw_tbl := List.mem_of_getElem? (i := 269) (by decide +kernel)
set_option maxRecDepth 20000 in
theorem lwm_270 : (Cond.instanceMethod yX6_recipe) ∈ lw_tbl := List.mem_of_getElem? (i := 270) (by decide +kernel)
set_option maxRecDepth 20000 in
theorem lwm_271 : (Cond.selects RX6 yX6_recipe yX6_recipe) ∈ lw_tbl := List.mem_of_getElem? (i := 271) (by decide +kernel)
set_option maxRecDepth 20000 in
theorem lwm_272 : (Cond.code yX6_recipe cX6_recipe 1 (some .int)) ∈ lw_tbl := List.mem_of_getElem? (i := 272) (by decide +kernel)
set_option maxRecDepth 20000 in
theorem lwm_273 : (Cond.methodLink RX6 67 yX2_read) ∈ lw_tbl := List.mem_of_getElem? (i := 273) (by decide +kernel)
set_option maxRecDepth 20000 in
theorem lwm_274 : (Cond.instanceMethod yX2_read) ∈ lw_tbl := List.mem_of_getElem? (i := 274) (by decide +kernel)
set_option maxRecDepth 20000 in
theorem lwm_275 : (Cond.selects RX2 yX2_read yX2_read) ∈ lw_tbl := List.mem_of_getElem? (i := 275) (by decide +kernel)
set_option maxRecDepth 20000 in
theorem lwm_276 : (Cond.code yX2_read cX2_read 4 none) ∈ lw_tbl := List.mem_of_getElem? (i := 276) (by decide +kernel)
set_option maxRecDepth 20000 in
theorem lwm_277 : (Cond.methodLink RX2 31 yX2_readLetter) ∈ lw_tbl := List.mem_of_getElem? (i := 277) (by decide +kernel)
set_option maxRecDepth 20000 in
theorem lwm_279 : (Cond.instanceMethod yX2_readLetter) ∈ lw_tbl := List.mem_of_getElem? (i := 279) (by decide +kernel)
set_option maxRecDepth 20000 in
theorem lwm_280 : (Cond.code yX2_readLetter cX2_readLetter 4 (some .int)) ∈ lw_tbl := List.mem_of_getElem? (i := 280) (by decide +kernel)
set_option maxRecDepth 20000 in
theorem lwm_281 : (Cond.methodLink RX2 56 yX2_skipBlanks) ∈ lw_tbl := List.mem_of_getElem? (i := 281) (by decide +kernel)
set_option maxRecDepth 20000 in
theorem lwm_283 : (Cond.instanceMethod yX2_skipBlanks) ∈ lw_tbl := List.mem_of_getElem? (i := 283) (by decide +kernel)
set_option maxRecDepth 20000 in
theorem lwm_284 : (Cond.code yX2_skipBlanks cX2_skipBlanks 3 none) ∈ lw_tbl := List.mem_of_getElem? (i := 284) (by decide +kernel)
set_option maxRecDepth 20000 in
theorem lwm_286 : (Cond.static yX6_at) ∈ lw_tbl := List.mem_of_getElem? (i := 286) (by decide +kernel)
set_option maxRecDepth 20000 in
theorem lwm_287 : (Cond.code yX6_at cX6_at 2 (some .int)) ∈ lw_tbl := List.mem_of_getElem? (i := 287) (by decide +kernel)
set_option maxRecDepth 20000 in
theorem lwm_288 : (Cond.methodLink RX2 63 yX2_tellFault) ∈ lw_tbl := List.mem_of_getElem? (i := 288) (by decide +kernel)
set_option maxRecDepth 20000 in
theorem lwm_290 : (Cond.instanceMethod yX2_tellFault) ∈ lw_tbl := List.mem_of_getElem? (i := 290) (by decide +kernel)
set_option maxRecDepth 20000 in
theorem lwm_291 : (Cond.code yX2_tellFault cX2_tellFault 3 none) ∈ lw_tbl := List.mem_of_getElem? (i := 291) (by decide +kernel)
set_option maxRecDepth 20000 in
theorem lwm_293 : (Cond.static yX6_isThing) ∈ lw_tbl := List.mem_of_getElem? (i := 293) (by decide +kernel)
set_option maxRecDepth 20000 in
theorem lwm_294 : (Cond.code yX6_isThing cX6_isThing 1 (some .boolean)) ∈ lw_tbl := List.mem_of_getElem? (i := 294) (by decide +kernel)
set_option maxRecDepth 20000 in
theorem lwm_295 : (Cond.methodLink RX2 38 yX2_readNumber) ∈ lw_tbl := List.mem_of_getElem? (i := 295) (by decide +kernel)
set_option maxRecDepth 20000 in
theorem lwm_297 : (Cond.instanceMethod yX2_readNumber) ∈ lw_tbl := List.mem_of_getElem? (i := 297) (by decide +kernel)
set_option maxRecDepth 20000 in
theorem lwm_298 : (Cond.code yX2_readNumber cX2_readNumber 5 (some .int)) ∈ lw_tbl := List.mem_of_getElem? (i := 298) (by decide +kernel)
set_option maxRecDepth 20000 in
theorem lwm_299 : (Cond.methodLink RX2 76 yX2_isDigit) ∈ lw_tbl := List.mem_of_getElem? (i := 299) (by decide +kernel)
set_option maxRecDepth 20000 in
theorem lwm_301 : (Cond.instanceMethod yX2_isDigit) ∈ lw_tbl := List.mem_of_getElem? (i := 301) (by decide +kernel)
set_option maxRecDepth 20000 in
theorem lwm_302 : (Cond.code yX2_isDigit cX2_isDigit 4 (some .boolean)) ∈ lw_tbl := List.mem_of_getElem? (i := 302) (by decide +kernel)
set_option maxRecDepth 20000 in
theorem lwm_303 : (Cond.methodLink RX2 44 yX2_readSign) ∈ lw_tbl := List.mem_of_getElem? (i := 303) (by decide +kernel)
set_option maxRecDepth 20000 in
theorem lwm_305 : (Cond.instanceMethod yX2_readSign) ∈ lw_tbl := List.mem_of_getElem? (i := 305) (by decide +kernel)
set_option maxRecDepth 20000 in
theorem lwm_306 : (Cond.code yX2_readSign cX2_readSign 4 none) ∈ lw_tbl := List.mem_of_getElem? (i := 306) (by decide +kernel)
set_option maxRecDepth 20000 in
theorem lwm_307 : (Cond.methodLink RX2 48 yX2_readIngredient) ∈ lw_tbl := List.mem_of_getElem? (i := 307) (by decide +kernel)
set_option maxRecDepth 20000 in
theorem lwm_309 : (Cond.instanceMethod yX2_readIngredient) ∈ lw_tbl := List.mem_of_getElem? (i := 309) (by decide +kernel)
set_option maxRecDepth 20000 in
theorem lwm_310 : (Cond.code yX2_readIngredient cX2_readIngredient 5 none) ∈ lw_tbl := List.mem_of_getElem? (i := 310) (by decide +kernel)
set_option maxRecDepth 20000 in
theorem lwm_311 : (Cond.methodLink RX2 59 yX2_isListed) ∈ lw_tbl := List.mem_of_getElem? (i := 311) (by decide +kernel)
set_option maxRecDepth 20000 in
theorem lwm_313 : (Cond.instanceMethod yX2_isListed) ∈ lw_tbl := List.mem_of_getElem? (i := 313) (by decide +kernel)
set_option maxRecDepth 20000 in
theorem lwm_314 : (Cond.code yX2_isListed cX2_isListed 3 (some .boolean)) ∈ lw_tbl := List.mem_of_getElem? (i := 314) (by decide +kernel)
set_option maxRecDepth 20000 in
theorem lwm_316 : (Cond.static yX6_put) ∈ lw_tbl := List.mem_of_getElem? (i := 316) (by decide +kernel)
set_option maxRecDepth 20000 in
theorem lwm_317 : (Cond.code yX6_put cX6_put 3 none) ∈ lw_tbl := List.mem_of_getElem? (i := 317) (by decide +kernel)
set_option maxRecDepth 20000 in
theorem lwm_318 : (Cond.methodLink RX2 52 yX2_isMore) ∈ lw_tbl := List.mem_of_getElem? (i := 318) (by decide +kernel)
set_option maxRecDepth 20000 in
theorem lwm_320 : (Cond.instanceMethod yX2_isMore) ∈ lw_tbl := List.mem_of_getElem? (i := 320) (by decide +kernel)
set_option maxRecDepth 20000 in
theorem lwm_321 : (Cond.code yX2_isMore cX2_isMore 3 (some .boolean)) ∈ lw_tbl := List.mem_of_getElem? (i := 321) (by decide +kernel)
set_option maxRecDepth 20000 in
theorem lwm_322 : (Cond.methodLink RX6 73 yX0_copyFrom) ∈ lw_tbl := List.mem_of_getElem? (i := 322) (by decide +kernel)
set_option maxRecDepth 20000 in
theorem lwm_323 : (Cond.instanceMethod yX0_copyFrom) ∈ lw_tbl := List.mem_of_getElem? (i := 323) (by decide +kernel)
set_option maxRecDepth 20000 in
theorem lwm_324 : (Cond.selects RX0 yX0_copyFrom yX0_copyFrom) ∈ lw_tbl := List.mem_of_getElem? (i := 324) (by decide +kernel)
set_option maxRecDepth 20000 in
theorem lwm_325 : (Cond.code yX0_copyFrom cX0_copyFrom 2 none) ∈ lw_tbl := List.mem_of_getElem? (i := 325) (by decide +kernel)
set_option maxRecDepth 20000 in
theorem lwm_327 : (Cond.static yX6_copy) ∈ lw_tbl := List.mem_of_getElem? (i := 327) (by decide +kernel)
set_option maxRecDepth 20000 in
theorem lwm_328 : (Cond.code yX6_copy cX6_copy 2 none) ∈ lw_tbl := List.mem_of_getElem? (i := 328) (by decide +kernel)
set_option maxRecDepth 20000 in
theorem lwm_329 : (Cond.methodLink RX6 231 Lib.Math.min.name) ∈ lw_tbl := List.mem_of_getElem? (i := 329) (by decide +kernel)
set_option maxRecDepth 20000 in
theorem lwm_330 : (Cond.static Lib.Math.min.name) ∈ lw_tbl := List.mem_of_getElem? (i := 330) (by decide +kernel)
set_option maxRecDepth 20000 in
theorem lwm_331 : (Cond.code Lib.Math.min.name Lib.Math.min.code 2 (some .int)) ∈ lw_tbl := List.mem_of_getElem? (i := 331) (by decide +kernel)
set_option maxRecDepth 20000 in
theorem lwm_332 : (Cond.methodLink RX6 257 arraycopyName) ∈ lw_tbl := List.mem_of_getElem? (i := 332) (by decide +kernel)
set_option maxRecDepth 20000 in
theorem lwm_333 : (Cond.static arraycopyName) ∈ lw_tbl := List.mem_of_getElem? (i := 333) (by decide +kernel)
set_option maxRecDepth 20000 in
theorem lwm_334 : (Cond.native arraycopyName) ∈ lw_tbl := List.mem_of_getElem? (i := 334) (by decide +kernel)
set_option maxRecDepth 20000 in
theorem lwm_335 : (Cond.methodLink RX6 77 yX0_lay) ∈ lw_tbl := List.mem_of_getElem? (i := 335) (by decide +kernel)
set_option maxRecDepth 20000 in
theorem lwm_336 : (Cond.instanceMethod yX0_lay) ∈ lw_tbl := List.mem_of_getElem? (i := 336) (by decide +kernel)
set_option maxRecDepth 20000 in
theorem lwm_337 : (Cond.selects RX0 yX0_lay yX0_lay) ∈ lw_tbl := List.mem_of_getElem? (i := 337) (by decide +kernel)
set_option maxRecDepth 20000 in
theorem lwm_338 : (Cond.code yX0_lay cX0_lay 4 none) ∈ lw_tbl := List.mem_of_getElem? (i := 338) (by decide +kernel)
set_option maxRecDepth 20000 in
theorem lwm_341 : (Cond.methodLink RX6 81 yX0_findRanks) ∈ lw_tbl := List.mem_of_getElem? (i := 341) (by decide +kernel)
set_option maxRecDepth 20000 in
theorem lwm_342 : (Cond.instanceMethod yX0_findRanks) ∈ lw_tbl := List.mem_of_getElem? (i := 342) (by decide +kernel)
set_option maxRecDepth 20000 in
theorem lwm_343 : (Cond.selects RX0 yX0_findRanks yX0_findRanks) ∈ lw_tbl := List.mem_of_getElem? (i := 343) (by decide +kernel)
set_option maxRecDepth 20000 in
theorem lwm_344 : (Cond.code yX0_findRanks cX0_findRanks 5 (some .boolean)) ∈ lw_tbl := List.mem_of_getElem? (i := 344) (by decide +kernel)
set_option maxRecDepth 20000 in
theorem lwm_345 : (Cond.methodLink RX0 60 yX0_isMade) ∈ lw_tbl := List.mem_of_getElem? (i := 345) (by decide +kernel)
set_option maxRecDepth 20000 in
theorem lwm_346 : (Cond.instanceMethod yX0_isMade) ∈ lw_tbl := List.mem_of_getElem? (i := 346) (by decide +kernel)
set_option maxRecDepth 20000 in
theorem lwm_347 : (Cond.selects RX0 yX0_isMade yX0_isMade) ∈ lw_tbl := List.mem_of_getElem? (i := 347) (by decide +kernel)
set_option maxRecDepth 20000 in
theorem lwm_348 : (Cond.code yX0_isMade cX0_isMade 2 (some .boolean)) ∈ lw_tbl := List.mem_of_getElem? (i := 348) (by decide +kernel)
set_option maxRecDepth 20000 in
theorem lwm_349 : (Cond.methodLink RX0 100 yX0_needsOf) ∈ lw_tbl := List.mem_of_getElem? (i := 349) (by decide +kernel)
set_option maxRecDepth 20000 in
theorem lwm_351 : (Cond.instanceMethod yX0_needsOf) ∈ lw_tbl := List.mem_of_getElem? (i := 351) (by decide +kernel)
set_option maxRecDepth 20000 in
theorem lwm_352 : (Cond.code yX0_needsOf cX0_needsOf 8 (some .int)) ∈ lw_tbl := List.mem_of_getElem? (i := 352) (by decide +kernel)
set_option maxRecDepth 20000 in
theorem lwm_353 : (Cond.methodLink RX0 110 yX0_ingredientsOf) ∈ lw_tbl := List.mem_of_getElem? (i := 353) (by decide +kernel)
set_option maxRecDepth 20000 in
theorem lwm_354 : (Cond.instanceMethod yX0_ingredientsOf) ∈ lw_tbl := List.mem_of_getElem? (i := 354) (by decide +kernel)
set_option maxRecDepth 20000 in
theorem lwm_355 : (Cond.selects RX0 yX0_ingredientsOf yX0_ingredientsOf) ∈ lw_tbl := List.mem_of_getElem? (i := 355) (by decide +kernel)
set_option maxRecDepth 20000 in
theorem lwm_356 : (Cond.code yX0_ingredientsOf cX0_ingredientsOf 2 (some .int)) ∈ lw_tbl := List.mem_of_getElem? (i := 356) (by decide +kernel)
set_option maxRecDepth 20000 in
theorem lwm_357 : (Cond.methodLink RX0 113 yX0_ingredientAt) ∈ lw_tbl := List.mem_of_getElem? (i := 357) (by decide +kernel)
set_option maxRecDepth 20000 in
theorem lwm_358 : (Cond.instanceMethod yX0_ingredientAt) ∈ lw_tbl := List.mem_of_getElem? (i := 358) (by decide +kernel)
set_option maxRecDepth 20000 in
theorem lwm_359 : (Cond.selects RX0 yX0_ingredientAt yX0_ingredientAt) ∈ lw_tbl := List.mem_of_getElem? (i := 359) (by decide +kernel)
set_option maxRecDepth 20000 in
theorem lwm_360 : (Cond.code yX0_ingredientAt cX0_ingredientAt 3 (some .int)) ∈ lw_tbl := List.mem_of_getElem? (i := 360) (by decide +kernel)
set_option maxRecDepth 20000 in
theorem lwm_361 : (Cond.methodLink RX0 91 yX0_substitutesOf) ∈ lw_tbl := List.mem_of_getElem? (i := 361) (by decide +kernel)
set_option maxRecDepth 20000 in
theorem lwm_362 : (Cond.instanceMethod yX0_substitutesOf) ∈ lw_tbl := List.mem_of_getElem? (i := 362) (by decide +kernel)
set_option maxRecDepth 20000 in
theorem lwm_363 : (Cond.selects RX0 yX0_substitutesOf yX0_substitutesOf) ∈ lw_tbl := List.mem_of_getElem? (i := 363) (by decide +kernel)
set_option maxRecDepth 20000 in
theorem lwm_364 : (Cond.code yX0_substitutesOf cX0_substitutesOf 2 (some .int)) ∈ lw_tbl := List.mem_of_getElem? (i := 364) (by decide +kernel)
set_option maxRecDepth 20000 in
theorem lwm_365 : (Cond.methodLink RX0 94 yX0_substituteAt) ∈ lw_tbl := List.mem_of_getElem? (i := 365) (by decide +kernel)
set_option maxRecDepth 20000 in
theorem lwm_366 : (Cond.instanceMethod yX0_substituteAt) ∈ lw_tbl := List.mem_of_getElem? (i := 366) (by decide +kernel)
set_option maxRecDepth 20000 in
theorem lwm_367 : (Cond.selects RX0 yX0_substituteAt yX0_substituteAt) ∈ lw_tbl := List.mem_of_getElem? (i := 367) (by decide +kernel)
set_option maxRecDepth 20000 in
theorem lwm_368 : (Cond.code yX0_substituteAt cX0_substituteAt 3 (some .int)) ∈ lw_tbl := List.mem_of_getElem? (i := 368) (by decide +kernel)
set_option maxRecDepth 20000 in
theorem lwm_369 : (Cond.methodLink RX0 103 yX0_greatestRankIn) ∈ lw_tbl := List.mem_of_getElem? (i := 369) (by decide +kernel)
set_option maxRecDepth 20000 in
theorem lwm_371 : (Cond.instanceMethod yX0_greatestRankIn) ∈ lw_tbl := List.mem_of_getElem? (i := 371) (by decide +kernel)
set_option maxRecDepth 20000 in
theorem lwm_372 : (Cond.code yX0_greatestRankIn cX0_greatestRankIn 4 (some .int)) ∈ lw_tbl := List.mem_of_getElem? (i := 372) (by decide +kernel)
set_option maxRecDepth 20000 in
theorem lwm_374 : (Cond.static yX6_hasBit) ∈ lw_tbl := List.mem_of_getElem? (i := 374) (by decide +kernel)
set_option maxRecDepth 20000 in
theorem lwm_375 : (Cond.code yX6_hasBit cX6_hasBit 2 (some .boolean)) ∈ lw_tbl := List.mem_of_getElem? (i := 375) (by decide +kernel)
set_option maxRecDepth 20000 in
theorem lwm_376 : (Cond.methodLink RX0 64 yX0_rankOf) ∈ lw_tbl := List.mem_of_getElem? (i := 376) (by decide +kernel)
set_option maxRecDepth 20000 in
theorem lwm_377 : (Cond.instanceMethod yX0_rankOf) ∈ lw_tbl := List.mem_of_getElem? (i := 377) (by decide +kernel)
set_option maxRecDepth 20000 in
theorem lwm_378 : (Cond.selects RX0 yX0_rankOf yX0_rankOf) ∈ lw_tbl := List.mem_of_getElem? (i := 378) (by decide +kernel)
set_option maxRecDepth 20000 in
theorem lwm_379 : (Cond.code yX0_rankOf cX0_rankOf 2 (some .int)) ∈ lw_tbl := List.mem_of_getElem? (i := 379) (by decide +kernel)
set_option maxRecDepth 20000 in
theorem lwm_380 : (Cond.methodLink RX0 67 Lib.Math.max.name) ∈ lw_tbl := List.mem_of_getElem? (i := 380) (by decide +kernel)
set_option maxRecDepth 20000 in
theorem lwm_381 : (Cond.static Lib.Math.max.name) ∈ lw_tbl := List.mem_of_getElem? (i := 381) (by decide +kernel)
set_option maxRecDepth 20000 in
theorem lwm_382 : (Cond.code Lib.Math.max.name Lib.Math.max.code 2 (some .int)) ∈ lw_tbl := List.mem_of_getElem? (i := 382) (by decide +kernel)
set_option maxRecDepth 20000 in
theorem lwm_383 : (Cond.methodLink RX6 85 yX1_remember) ∈ lw_tbl := List.mem_of_getElem? (i := 383) (by decide +kernel)
set_option maxRecDepth 20000 in
theorem lwm_384 : (Cond.instanceMethod yX1_remember) ∈ lw_tbl := List.mem_of_getElem? (i := 384) (by decide +kernel)
set_option maxRecDepth 20000 in
theorem lwm_385 : (Cond.selects RX1 yX1_remember yX1_remember) ∈ lw_tbl := List.mem_of_getElem? (i := 385) (by decide +kernel)
set_option maxRecDepth 20000 in
theorem lwm_386 : (Cond.code yX1_remember cX1_remember 4 none) ∈ lw_tbl := List.mem_of_getElem? (i := 386) (by decide +kernel)
set_option maxRecDepth 20000 in
theorem lwm_387 : (Cond.methodLink RX1 21 yX1_placeOf) ∈ lw_tbl := List.mem_of_getElem? (i := 387) (by decide +kernel)
set_option maxRecDepth 20000 in
theorem lwm_389 : (Cond.instanceMethod yX1_placeOf) ∈ lw_tbl := List.mem_of_getElem? (i := 389) (by decide +kernel)
set_option maxRecDepth 20000 in
theorem lwm_390 : (Cond.code yX1_placeOf cX1_placeOf 2 (some .int)) ∈ lw_tbl := List.mem_of_getElem? (i := 390) (by decide +kernel)
set_option maxRecDepth 20000 in
theorem lwm_391 : (Cond.methodLink RX1 42 yJ9_floorMod_7cf53) ∈ lw_tbl := List.mem_of_getElem? (i := 391) (by decide +kernel)
set_option maxRecDepth 20000 in
theorem lwm_392 : (Cond.static yJ9_floorMod_7cf53) ∈ lw_tbl := List.mem_of_getElem? (i := 392) (by decide +kernel)
set_option maxRecDepth 20000 in
theorem lwm_393 : (Cond.code yJ9_floorMod_7cf53 cJ9_floorMod_7cf53 3 (some .int)) ∈ lw_tbl := List.mem_of_getElem? (i := 393) (by decide +kernel)
set_option maxRecDepth 20000 in
theorem lwm_395 : (Cond.static yX6_roomAt) ∈ lw_tbl := List.mem_of_getElem? (i := 395) (by decide +kernel)
set_option maxRecDepth 20000 in
theorem lwm_396 : (Cond.code yX6_roomAt cX6_roomAt 4 (some (.object "ThingMaker$State"))) ∈ lw_tbl := List.mem_of_getElem? (i := 396) (by decide +kernel)
set_option maxRecDepth 20000 in
theorem lwm_397 : (Cond.methodLink RX6 247 yX6_stateAt) ∈ lw_tbl := List.mem_of_getElem? (i := 397) (by decide +kernel)
set_option maxRecDepth 20000 in
theorem lwm_398 : (Cond.static yX6_stateAt) ∈ lw_tbl := List.mem_of_getElem? (i := 398) (by decide +kernel)
set_option maxRecDepth 20000 in
theorem lwm_399 : (Cond.code yX6_stateAt cX6_stateAt 2 (some (.object "ThingMaker$State"))) ∈ lw_tbl := List.mem_of_getElem? (i := 399) (by decide +kernel)
set_option maxRecDepth 20000 in
theorem lwm_400 : (Cond.instantiable RX3 2) ∈ lw_tbl := List.mem_of_getElem? (i := 400) (by decide +kernel)
set_option maxRecDepth 20000 in
theorem lwm_402 : (Cond.instanceMethod yX3_init) ∈ lw_tbl := List.mem_of_getElem? (i := 402) (by decide +kernel)
set_option maxRecDepth 20000 in
theorem lwm_403 : (Cond.code yX3_init cX3_init 1 none) ∈ lw_tbl := List.mem_of_getElem? (i := 403) (by decide +kernel)
set_option maxRecDepth 20000 in
theorem lwm_404 : (Cond.methodLink RX3 1 objectInit) ∈ lw_tbl := List.mem_of_getElem? (i := 404) (by decide +kernel)
set_option maxRecDepth 20000 in
theorem lwm_405 : (Cond.classLink RX3 7 RX0) ∈ lw_tbl := List.mem_of_getElem? (i := 405) (by decide +kernel)
set_option maxRecDepth 20000 in
theorem lwm_406 : (Cond.methodLink RX3 9 yX0_init) ∈ lw_tbl := List.mem_of_getElem? (i := 406) (by decide +kernel)
set_option maxRecDepth 20000 in
theorem lwm_407 : (Cond.classLink RX3 16 RX4) ∈ lw_tbl := List.mem_of_getElem? (i := 407) (by decide +kernel)
set_option maxRecDepth 20000 in
theorem lwm_409 : (Cond.fieldLink RX3 10 "ThingMaker$State" "book" "LThingMaker$Book;") ∈ lw_tbl := List.mem_of_getElem? (i := 409) (by decide +kernel)
set_option maxRecDepth 20000 in
theorem lwm_410 : (Cond.fieldLink RX3 19 "ThingMaker$State" "stock" "LThingMaker$Stock;") ∈ lw_tbl := List.mem_of_getElem? (i := 410) (by decide +kernel)
set_option maxRecDepth 20000 in
theorem lwm_416 : (Cond.methodLink RX1 32 yX3_hold) ∈ lw_tbl := List.mem_of_getElem? (i := 416) (by decide +kernel)
set_option maxRecDepth 20000 in
theorem lwm_417 : (Cond.instanceMethod yX3_hold) ∈ lw_tbl := List.mem_of_getElem? (i := 417) (by decide +kernel)
set_option maxRecDepth 20000 in
theorem lwm_418 : (Cond.selects RX3 yX3_hold yX3_hold) ∈ lw_tbl := List.mem_of_getElem? (i := 418) (by decide +kernel)
set_option maxRecDepth 20000 in
theorem lwm_419 : (Cond.code yX3_hold cX3_hold 3 none) ∈ lw_tbl := List.mem_of_getElem? (i := 419) (by decide +kernel)
set_option maxRecDepth 20000 in
theorem lwm_420 : (Cond.methodLink RX3 23 yX0_copyFrom) ∈ lw_tbl := List.mem_of_getElem? (i := 420) (by decide +kernel)
set_option maxRecDepth 20000 in
theorem lwm_421 : (Cond.methodLink RX3 27 yX4_copyFrom) ∈ lw_tbl := List.mem_of_getElem? (i := 421) (by decide +kernel)
set_option maxRecDepth 20000 in
theorem lwm_422 : (Cond.instanceMethod yX4_copyFrom) ∈ lw_tbl := List.mem_of_getElem? (i := 422) (by decide +kernel)
set_option maxRecDepth 20000 in
theorem lwm_423 : (Cond.selects RX4 yX4_copyFrom yX4_copyFrom) ∈ lw_tbl := List.mem_of_getElem? (i := 423) (by decide +kernel)
set_option maxRecDepth 20000 in
theorem lwm_424 : (Cond.code yX4_copyFrom cX4_copyFrom 2 none) ∈ lw_tbl := List.mem_of_getElem? (i := 424) (by decide +kernel)
set_option maxRecDepth 20000 in
theorem lwm_426 : (Cond.methodLink RX6 92 yX0_rankOf) ∈ lw_tbl := List.mem_of_getElem? (i := 426) (by decide +kernel)
set_option maxRecDepth 20000 in
theorem lwm_427 : (Cond.methodLink RL 18 yX6_forget) ∈ lw_tbl := List.mem_of_getElem? (i := 427) (by decide +kernel)
set_option maxRecDepth 20000 in
theorem lwm_428 : (Cond.instanceMethod yX6_forget) ∈ lw_tbl := List.mem_of_getElem? (i := 428) (by decide +kernel)
set_option maxRecDepth 20000 in
theorem lwm_429 : (Cond.selects RX6 yX6_forget yX6_forget) ∈ lw_tbl := List.mem_of_getElem? (i := 429) (by decide +kernel)
set_option maxRecDepth 20000 in
theorem lwm_430 : (Cond.code yX6_forget cX6_forget 3 (some .int)) ∈ lw_tbl := List.mem_of_getElem? (i := 430) (by decide +kernel)
set_option maxRecDepth 20000 in
theorem lwm_431 : (Cond.methodLink RX6 96 yX6_isThing) ∈ lw_tbl := List.mem_of_getElem? (i := 431) (by decide +kernel)
set_option maxRecDepth 20000 in
theorem lwm_432 : (Cond.methodLink RX6 100 yX0_isMade) ∈ lw_tbl := List.mem_of_getElem? (i := 432) (by decide +kernel)
set_option maxRecDepth 20000 in
theorem lwm_433 : (Cond.methodLink RX6 103 yX0_yieldOf) ∈ lw_tbl := List.mem_of_getElem? (i := 433) (by decide +kernel)
set_option maxRecDepth 20000 in
theorem lwm_434 : (Cond.instanceMethod yX0_yieldOf) ∈ lw_tbl := List.mem_of_getElem? (i := 434) (by decide +kernel)
set_option maxRecDepth 20000 in
theorem lwm_435 : (Cond.selects RX0 yX0_yieldOf yX0_yieldOf) ∈ lw_tbl := List.mem_of_getElem? (i := 435) (by decide +kernel)
set_option maxRecDepth 20000 in
theorem lwm_436 : (Cond.code yX0_yieldOf cX0_yieldOf 2 (some .int)) ∈ lw_tbl := List.mem_of_getElem? (i := 436) (by decide +kernel)
set_option maxRecDepth 20000 in
theorem lwm_437 : (Cond.methodLink RX6 106 yX0_strike) ∈ lw_tbl := List.mem_of_getElem? (i := 437) (by decide +kernel)
set_option maxRecDepth 20000 in
theorem lwm_438 : (Cond.instanceMethod yX0_strike) ∈ lw_tbl := List.mem_of_getElem? (i := 438) (by decide +kernel)
set_option maxRecDepth 20000 in
theorem lwm_439 : (Cond.selects RX0 yX0_strike yX0_strike) ∈ lw_tbl := List.mem_of_getElem? (i := 439) (by decide +kernel)
set_option maxRecDepth 20000 in
theorem lwm_440 : (Cond.code yX0_strike cX0_strike 2 none) ∈ lw_tbl := List.mem_of_getElem? (i := 440) (by decide +kernel)
set_option maxRecDepth 20000 in
theorem lwm_441 : (Cond.methodLink RL 23 yX6_allow) ∈ lw_tbl := List.mem_of_getElem? (i := 441) (by decide +kernel)
set_option maxRecDepth 20000 in
theorem lwm_442 : (Cond.instanceMethod yX6_allow) ∈ lw_tbl := List.mem_of_getElem? (i := 442) (by decide +kernel)
set_option maxRecDepth 20000 in
theorem lwm_443 : (Cond.selects RX6 yX6_allow yX6_allow) ∈ lw_tbl := List.mem_of_getElem? (i := 443) (by decide +kernel)
set_option maxRecDepth 20000 in
theorem lwm_444 : (Cond.code yX6_allow cX6_allow 3 (some .int)) ∈ lw_tbl := List.mem_of_getElem? (i := 444) (by decide +kernel)
set_option maxRecDepth 20000 in
theorem lwm_445 : (Cond.methodLink RX6 110 yX0_hasSubstitute) ∈ lw_tbl := List.mem_of_getElem? (i := 445) (by decide +kernel)
set_option maxRecDepth 20000 in
theorem lwm_446 : (Cond.instanceMethod yX0_hasSubstitute) ∈ lw_tbl := List.mem_of_getElem? (i := 446) (by decide +kernel)
set_option maxRecDepth 20000 in
theorem lwm_447 : (Cond.selects RX0 yX0_hasSubstitute yX0_hasSubstitute) ∈ lw_tbl := List.mem_of_getElem? (i := 447) (by decide +kernel)
set_option maxRecDepth 20000 in
theorem lwm_448 : (Cond.code yX0_hasSubstitute cX0_hasSubstitute 5 (some .boolean)) ∈ lw_tbl := List.mem_of_getElem? (i := 448) (by decide +kernel)
set_option maxRecDepth 20000 in
theorem lwm_449 : (Cond.methodLink RX6 114 yX0_substitutesOf) ∈ lw_tbl := List.mem_of_getElem? (i := 449) (by decide +kernel)
set_option maxRecDepth 20000 in
theorem lwm_450 : (Cond.methodLink RX6 117 yX0_addSubstitute) ∈ lw_tbl := List.mem_of_getElem? (i := 450) (by decide +kernel)
set_option maxRecDepth 20000 in
theorem lwm_451 : (Cond.instanceMethod yX0_addSubstitute) ∈ lw_tbl := List.mem_of_getElem? (i := 451) (by decide +kernel)
set_option maxRecDepth 20000 in
theorem lwm_452 : (Cond.selects RX0 yX0_addSubstitute yX0_addSubstitute) ∈ lw_tbl := List.mem_of_getElem? (i := 452) (by decide +kernel)
set_option maxRecDepth 20000 in
theorem lwm_453 : (Cond.code yX0_addSubstitute cX0_addSubstitute 4 none) ∈ lw_tbl := List.mem_of_getElem? (i := 453) (by decide +kernel)
set_option maxRecDepth 20000 in
theorem lwm_454 : (Cond.methodLink RL 28 yX6_forbid) ∈ lw_tbl := List.mem_of_getElem? (i := 454) (by decide +kernel)
set_option maxRecDepth 20000 in
theorem lwm_455 : (Cond.instanceMethod yX6_forbid) ∈ lw_tbl := List.mem_of_getElem? (i := 455) (by decide +kernel)
set_option maxRecDepth 20000 in
theorem lwm_456 : (Cond.selects RX6 yX6_forbid yX6_forbid) ∈ lw_tbl := List.mem_of_getElem? (i := 456) (by decide +kernel)
set_option maxRecDepth 20000 in
theorem lwm_457 : (Cond.code yX6_forbid cX6_forbid 4 (some .int)) ∈ lw_tbl := List.mem_of_getElem? (i := 457) (by decide +kernel)
set_option maxRecDepth 20000 in
theorem lwm_458 : (Cond.methodLink RX6 121 yX0_substituteAt) ∈ lw_tbl := List.mem_of_getElem? (i := 458) (by decide +kernel)
set_option maxRecDepth 20000 in
theorem lwm_459 : (Cond.methodLink RX6 125 yX0_removeSubstitute) ∈ lw_tbl := List.mem_of_getElem? (i := 459) (by decide +kernel)
set_option maxRecDepth 20000 in
theorem lwm_460 : (Cond.instanceMethod yX0_removeSubstitute) ∈ lw_tbl := List.mem_of_getElem? (i := 460) (by decide +kernel)
set_option maxRecDepth 20000 in
theorem lwm_461 : (Cond.selects RX0 yX0_removeSubstitute yX0_removeSubstitute) ∈ lw_tbl := List.mem_of_getElem? (i := 461) (by decide +kernel)
set_option maxRecDepth 20000 in
theorem lwm_462 : (Cond.code yX0_removeSubstitute cX0_removeSubstitute 5 none) ∈ lw_tbl := List.mem_of_getElem? (i := 462) (by decide +kernel)
set_option maxRecDepth 20000 in
theorem lwm_463 : (Cond.methodLink RL 32 yX6_vessel) ∈ lw_tbl := List.mem_of_getElem? (i := 463) (by decide +kernel)
set_option maxRecDepth 20000 in
theorem lwm_464 : (Cond.instanceMethod yX6_vessel) ∈ lw_tbl := List.mem_of_getElem? (i := 464) (by decide +kernel)
set_option maxRecDepth 20000 in
theorem lwm_465 : (Cond.selects RX6 yX6_vessel yX6_vessel) ∈ lw_tbl := List.mem_of_getElem? (i := 465) (by decide +kernel)
set_option maxRecDepth 20000 in
theorem lwm_466 : (Cond.code yX6_vessel cX6_vessel 5 (some .int)) ∈ lw_tbl := List.mem_of_getElem? (i := 466) (by decide +kernel)
set_option maxRecDepth 20000 in
theorem lwm_467 : (Cond.methodLink RX6 128 yX0_vesselOf) ∈ lw_tbl := List.mem_of_getElem? (i := 467) (by decide +kernel)
set_option maxRecDepth 20000 in
theorem lwm_468 : (Cond.instanceMethod yX0_vesselOf) ∈ lw_tbl := List.mem_of_getElem? (i := 468) (by decide +kernel)
set_option maxRecDepth 20000 in
theorem lwm_469 : (Cond.selects RX0 yX0_vesselOf yX0_vesselOf) ∈ lw_tbl := List.mem_of_getElem? (i := 469) (by decide +kernel)
set_option maxRecDepth 20000 in
theorem lwm_470 : (Cond.code yX0_vesselOf cX0_vesselOf 2 (some .int)) ∈ lw_tbl := List.mem_of_getElem? (i := 470) (by decide +kernel)
set_option maxRecDepth 20000 in
theorem lwm_471 : (Cond.methodLink RX6 131 yX0_isVessel) ∈ lw_tbl := List.mem_of_getElem? (i := 471) (by decide +kernel)
set_option maxRecDepth 20000 in
theorem lwm_472 : (Cond.instanceMethod yX0_isVessel) ∈ lw_tbl := List.mem_of_getElem? (i := 472) (by decide +kernel)
set_option maxRecDepth 20000 in
theorem lwm_473 : (Cond.selects RX0 yX0_isVessel yX0_isVessel) ∈ lw_tbl := List.mem_of_getElem? (i := 473) (by decide +kernel)
set_option maxRecDepth 20000 in
theorem lwm_474 : (Cond.code yX0_isVessel cX0_isVessel 3 (some .boolean)) ∈ lw_tbl := List.mem_of_getElem? (i := 474) (by decide +kernel)
set_option maxRecDepth 20000 in
theorem lwm_475 : (Cond.methodLink RX0 97 yX0_vesselOf) ∈ lw_tbl := List.mem_of_getElem? (i := 475) (by decide +kernel)
set_option maxRecDepth 20000 in
theorem lwm_476 : (Cond.methodLink RX6 134 yX0_setVessel) ∈ lw_tbl := List.mem_of_getElem? (i := 476) (by decide +kernel)
set_option maxRecDepth 20000 in
theorem lwm_477 : (Cond.instanceMethod yX0_setVessel) ∈ lw_tbl := List.mem_of_getElem? (i := 477) (by decide +kernel)
set_option maxRecDepth 20000 in
theorem lwm_478 : (Cond.selects RX0 yX0_setVessel yX0_setVessel) ∈ lw_tbl := List.mem_of_getElem? (i := 478) (by decide +kernel)
set_option maxRecDepth 20000 in
theorem lwm_479 : (Cond.code yX0_setVessel cX0_setVessel 3 none) ∈ lw_tbl := List.mem_of_getElem? (i := 479) (by decide +kernel)
set_option maxRecDepth 20000 in
theorem lwm_480 : (Cond.methodLink RL 36 yX6_bring) ∈ lw_tbl := List.mem_of_getElem? (i := 480) (by decide +kernel)
set_option maxRecDepth 20000 in
theorem lwm_481 : (Cond.instanceMethod yX6_bring) ∈ lw_tbl := List.mem_of_getElem? (i := 481) (by decide +kernel)
set_option maxRecDepth 20000 in
theorem lwm_482 : (Cond.selects RX6 yX6_bring yX6_bring) ∈ lw_tbl := List.mem_of_getElem? (i := 482) (by decide +kernel)
set_option maxRecDepth 20000 in
theorem lwm_483 : (Cond.code yX6_bring cX6_bring 5 (some .int)) ∈ lw_tbl := List.mem_of_getElem? (i := 483) (by decide +kernel)
set_option maxRecDepth 20000 in
theorem lwm_484 : (Cond.methodLink RX6 140 yX6_at) ∈ lw_tbl := List.mem_of_getElem? (i := 484) (by decide +kernel)
set_option maxRecDepth 20000 in
theorem lwm_485 : (Cond.methodLink RX6 144 Lib.Math.max.name) ∈ lw_tbl := List.mem_of_getElem? (i := 485) (by decide +kernel)
set_option maxRecDepth 20000 in
theorem lwm_486 : (Cond.constant RX6 149 (99999)) ∈ lw_tbl := List.mem_of_getElem? (i := 486) (by decide +kernel)
set_option maxRecDepth 20000 in
theorem lwm_487 : (Cond.methodLink RX6 150 yX6_add) ∈ lw_tbl := List.mem_of_getElem? (i := 487) (by decide +kernel)
set_option maxRecDepth 20000 in
theorem lwm_488 : (Cond.static yX6_add) ∈ lw_tbl := List.mem_of_getElem? (i := 488) (by decide +kernel)
set_option maxRecDepth 20000 in
theorem lwm_489 : (Cond.code yX6_add cX6_add 3 none) ∈ lw_tbl := List.mem_of_getElem? (i := 489) (by decide +kernel)
set_option maxRecDepth 20000 in
theorem lwm_490 : (Cond.methodLink RL 40 yX6_wish) ∈ lw_tbl := List.mem_of_getElem? (i := 490) (by decide +kernel)
set_option maxRecDepth 20000 in
theorem lwm_491 : (Cond.instanceMethod yX6_wish) ∈ lw_tbl := List.mem_of_getElem? (i := 491) (by decide +kernel)
set_option maxRecDepth 20000 in
theorem lwm_492 : (Cond.selects RX6 yX6_wish yX6_wish) ∈ lw_tbl := List.mem_of_getElem? (i := 492) (by decide +kernel)
set_option maxRecDepth 20000 in
theorem lwm_493 : (Cond.code yX6_wish cX6_wish 3 (some .int)) ∈ lw_tbl := List.mem_of_getElem? (i := 493) (by decide +kernel)
set_option maxRecDepth 20000 in
theorem lwm_494 : (Cond.methodLink RX6 157 yX6_isWished) ∈ lw_tbl := List.mem_of_getElem? (i := 494) (by decide +kernel)
set_option maxRecDepth 20000 in
theorem lwm_495 : (Cond.static yX6_isWished) ∈ lw_tbl := List.mem_of_getElem? (i := 495) (by decide +kernel)
set_option maxRecDepth 20000 in
theorem lwm_496 : (Cond.code yX6_isWished cX6_isWished 1 (some .boolean)) ∈ lw_tbl := List.mem_of_getElem? (i := 496) (by decide +kernel)
set_option maxRecDepth 20000 in
theorem lwm_497 : (Cond.methodLink RX6 160 yX5_begin) ∈ lw_tbl := List.mem_of_getElem? (i := 497) (by decide +kernel)
set_option maxRecDepth 20000 in
theorem lwm_498 : (Cond.instanceMethod yX5_begin) ∈ lw_tbl := List.mem_of_getElem? (i := 498) (by decide +kernel)
set_option maxRecDepth 20000 in
theorem lwm_499 : (Cond.selects RX5 yX5_begin yX5_begin) ∈ lw_tbl := List.mem_of_getElem? (i := 499) (by decide +kernel)
set_option maxRecDepth 20000 in
theorem lwm_500 : (Cond.code yX5_begin cX5_begin 3 none) ∈ lw_tbl := List.mem_of_getElem? (i := 500) (by decide +kernel)
set_option maxRecDepth 20000 in
theorem lwm_501 : (Cond.methodLink RX5 18 yX4_copyFrom) ∈ lw_tbl := List.mem_of_getElem? (i := 501) (by decide +kernel)
set_option maxRecDepth 20000 in
theorem lwm_502 : (Cond.methodLink RX6 164 yX5_fulfil) ∈ lw_tbl := List.mem_of_getElem? (i := 502) (by decide +kernel)
set_option maxRecDepth 20000 in
theorem lwm_503 : (Cond.instanceMethod yX5_fulfil) ∈ lw_tbl := List.mem_of_getElem? (i := 503) (by decide +kernel)
set_option maxRecDepth 20000 in
theorem lwm_504 : (Cond.selects RX5 yX5_fulfil yX5_fulfil) ∈ lw_tbl := List.mem_of_getElem? (i := 504) (by decide +kernel)
set_option maxRecDepth 20000 in
theorem lwm_505 : (Cond.code yX5_fulfil cX5_fulfil 5 (some .boolean)) ∈ lw_tbl := List.mem_of_getElem? (i := 505) (by decide +kernel)
set_option maxRecDepth 20000 in
theorem lwm_507 : (Cond.methodLink RX5 49 yX5_provide) ∈ lw_tbl := List.mem_of_getElem? (i := 507) (by decide +kernel)
set_option maxRecDepth 20000 in
theorem lwm_509 : (Cond.instanceMethod yX5_provide) ∈ lw_tbl := List.mem_of_getElem? (i := 509) (by decide +kernel)
set_option maxRecDepth 20000 in
theorem lwm_510 : (Cond.code yX5_provide cX5_provide 5 none) ∈ lw_tbl := List.mem_of_getElem? (i := 510) (by decide +kernel)
set_option maxRecDepth 20000 in
theorem lwm_511 : (Cond.methodLink RX5 56 yX0_isMade) ∈ lw_tbl := List.mem_of_getElem? (i := 511) (by decide +kernel)
set_option maxRecDepth 20000 in
theorem lwm_512 : (Cond.methodLink RX5 62 yX0_yieldOf) ∈ lw_tbl := List.mem_of_getElem? (i := 512) (by decide +kernel)
set_option maxRecDepth 20000 in
theorem lwm_514 : (Cond.static yX6_divideUp) ∈ lw_tbl := List.mem_of_getElem? (i := 514) (by decide +kernel)
set_option maxRecDepth 20000 in
theorem lwm_515 : (Cond.code yX6_divideUp cX6_divideUp 2 (some .int)) ∈ lw_tbl := List.mem_of_getElem? (i := 515) (by decide +kernel)
set_option maxRecDepth 20000 in
theorem lwm_516 : (Cond.methodLink RX5 53 yX5_run) ∈ lw_tbl := List.mem_of_getElem? (i := 516) (by decide +kernel)
set_option maxRecDepth 20000 in
theorem lwm_518 : (Cond.instanceMethod yX5_run) ∈ lw_tbl := List.mem_of_getElem? (i := 518) (by decide +kernel)
set_option maxRecDepth 20000 in
theorem lwm_519 : (Cond.code yX5_run cX5_run 7 none) ∈ lw_tbl := List.mem_of_getElem? (i := 519) (by decide +kernel)
set_option maxRecDepth 20000 in
theorem lwm_520 : (Cond.methodLink RX5 74 yX0_ingredientsOf) ∈ lw_tbl := List.mem_of_getElem? (i := 520) (by decide +kernel)
set_option maxRecDepth 20000 in
theorem lwm_521 : (Cond.methodLink RX5 77 yX0_ingredientAt) ∈ lw_tbl := List.mem_of_getElem? (i := 521) (by decide +kernel)
set_option maxRecDepth 20000 in
theorem lwm_522 : (Cond.methodLink RX5 80 yX0_amountAt) ∈ lw_tbl := List.mem_of_getElem? (i := 522) (by decide +kernel)
set_option maxRecDepth 20000 in
theorem lwm_523 : (Cond.instanceMethod yX0_amountAt) ∈ lw_tbl := List.mem_of_getElem? (i := 523) (by decide +kernel)
set_option maxRecDepth 20000 in
theorem lwm_524 : (Cond.selects RX0 yX0_amountAt yX0_amountAt) ∈ lw_tbl := List.mem_of_getElem? (i := 524) (by decide +kernel)
set_option maxRecDepth 20000 in
theorem lwm_525 : (Cond.code yX0_amountAt cX0_amountAt 3 (some .int)) ∈ lw_tbl := List.mem_of_getElem? (i := 525) (by decide +kernel)
set_option maxRecDepth 20000 in
theorem lwm_526 : (Cond.methodLink RX5 83 yX5_take) ∈ lw_tbl := List.mem_of_getElem? (i := 526) (by decide +kernel)
set_option maxRecDepth 20000 in
theorem lwm_528 : (Cond.instanceMethod yX5_take) ∈ lw_tbl := List.mem_of_getElem? (i := 528) (by decide +kernel)
set_option maxRecDepth 20000 in
theorem lwm_529 : (Cond.code yX5_take cX5_take 8 none) ∈ lw_tbl := List.mem_of_getElem? (i := 529) (by decide +kernel)
set_option maxRecDepth 20000 in
theorem lwm_530 : (Cond.methodLink RX5 94 yX5_useUp) ∈ lw_tbl := List.mem_of_getElem? (i := 530) (by decide +kernel)
set_option maxRecDepth 20000 in
theorem lwm_532 : (Cond.instanceMethod yX5_useUp) ∈ lw_tbl := List.mem_of_getElem? (i := 532) (by decide +kernel)
set_option maxRecDepth 20000 in
theorem lwm_533 : (Cond.code yX5_useUp cX5_useUp 6 (some .int)) ∈ lw_tbl := List.mem_of_getElem? (i := 533) (by decide +kernel)
set_option maxRecDepth 20000 in
theorem lwm_534 : (Cond.methodLink RX5 108 Lib.Math.min.name) ∈ lw_tbl := List.mem_of_getElem? (i := 534) (by decide +kernel)
