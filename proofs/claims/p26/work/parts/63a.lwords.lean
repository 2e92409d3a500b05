/-! ===== 63a.lwords: the words of the law's calls, by their places ===== -/
set_option maxRecDepth 20000 in
theorem lwm_0 : (Cond.selects RX2 yX2_readLetter yX2_readLetter) ∈ lw_tbl := List.mem_of_getElem? (i := 0) (by decide +kernel)
set_option maxRecDepth 20000 in
theorem lwm_1 : (Cond.selects RX2 yX2_skipBlanks yX2_skipBlanks) ∈ lw_tbl := List.mem_of_getElem? (i := 1) (by decide +kernel)
set_option maxRecDepth 20000 in
theorem lwm_2 : (Cond.selects RX2 yX2_tellFault yX2_tellFault) ∈ lw_tbl := List.mem_of_getElem? (i := 2) (by decide +kernel)
set_option maxRecDepth 20000 in
theorem lwm_3 : (Cond.selects RX2 yX2_readNumber yX2_readNumber) ∈ lw_tbl := List.mem_of_getElem? (i := 3) (by decide +kernel)
set_option maxRecDepth 20000 in
theorem lwm_4 : (Cond.selects RX2 yX2_isDigit yX2_isDigit) ∈ lw_tbl := List.mem_of_getElem? (i := 4) (by decide +kernel)
set_option maxRecDepth 20000 in
theorem lwm_5 : (Cond.selects RX2 yX2_readSign yX2_readSign) ∈ lw_tbl := List.mem_of_getElem? (i := 5) (by decide +kernel)
set_option maxRecDepth 20000 in
theorem lwm_6 : (Cond.selects RX2 yX2_readIngredient yX2_readIngredient) ∈ lw_tbl := List.mem_of_getElem? (i := 6) (by decide +kernel)
set_option maxRecDepth 20000 in
theorem lwm_7 : (Cond.selects RX2 yX2_isListed yX2_isListed) ∈ lw_tbl := List.mem_of_getElem? (i := 7) (by decide +kernel)
set_option maxRecDepth 20000 in
theorem lwm_8 : (Cond.selects RX2 yX2_isMore yX2_isMore) ∈ lw_tbl := List.mem_of_getElem? (i := 8) (by decide +kernel)
set_option maxRecDepth 20000 in
theorem lwm_9 : (Cond.selects RX0 yX0_needsOf yX0_needsOf) ∈ lw_tbl := List.mem_of_getElem? (i := 9) (by decide +kernel)
set_option maxRecDepth 20000 in
theorem lwm_10 : (Cond.selects RX0 yX0_greatestRankIn yX0_greatestRankIn) ∈ lw_tbl := List.mem_of_getElem? (i := 10) (by decide +kernel)
set_option maxRecDepth 20000 in
theorem lwm_11 : (Cond.selects RX1 yX1_placeOf yX1_placeOf) ∈ lw_tbl := List.mem_of_getElem? (i := 11) (by decide +kernel)
set_option maxRecDepth 20000 in
theorem lwm_12 : (Cond.selects RX5 yX5_provide yX5_provide) ∈ lw_tbl := List.mem_of_getElem? (i := 12) (by decide +kernel)
set_option maxRecDepth 20000 in
theorem lwm_13 : (Cond.selects RX5 yX5_run yX5_run) ∈ lw_tbl := List.mem_of_getElem? (i := 13) (by decide +kernel)
set_option maxRecDepth 20000 in
theorem lwm_14 : (Cond.selects RX5 yX5_take yX5_take) ∈ lw_tbl := List.mem_of_getElem? (i := 14) (by decide +kernel)
set_option maxRecDepth 20000 in
theorem lwm_15 : (Cond.selects RX5 yX5_useUp yX5_useUp) ∈ lw_tbl := List.mem_of_getElem? (i := 15) (by decide +kernel)
set_option maxRecDepth 20000 in
theorem lwm_16 : (Cond.selects RX5 yX5_comeIn yX5_comeIn) ∈ lw_tbl := List.mem_of_getElem? (i := 16) (by decide +kernel)
set_option maxRecDepth 20000 in
theorem lwm_17 : (Cond.selects RX5 yX5_standIn yX5_standIn) ∈ lw_tbl := List.mem_of_getElem? (i := 17) (by decide +kernel)
set_option maxRecDepth 20000 in
theorem lwm_18 : (Cond.selects RX5 yX5_collect yX5_collect) ∈ lw_tbl := List.mem_of_getElem? (i := 18) (by decide +kernel)
set_option maxRecDepth 20000 in
theorem lwm_19 : (Cond.selects RX6 yX6_acceptWorks yX6_acceptWorks) ∈ lw_tbl := List.mem_of_getElem? (i := 19) (by decide +kernel)
set_option maxRecDepth 20000 in
theorem lwm_20 : (Cond.initialized RL) ∈ lw_tbl := List.mem_of_getElem? (i := 20) (by decide +kernel)
set_option maxRecDepth 20000 in
theorem lwm_21 : (Cond.initialized RX6) ∈ lw_tbl := List.mem_of_getElem? (i := 21) (by decide +kernel)
set_option maxRecDepth 20000 in
theorem lwm_22 : (Cond.initialized RX0) ∈ lw_tbl := List.mem_of_getElem? (i := 22) (by decide +kernel)
set_option maxRecDepth 20000 in
theorem lwm_23 : (Cond.initialized RJ7) ∈ lw_tbl := List.mem_of_getElem? (i := 23) (by decide +kernel)
set_option maxRecDepth 20000 in
theorem lwm_24 : (Cond.initialized RX4) ∈ lw_tbl := List.mem_of_getElem? (i := 24) (by decide +kernel)
set_option maxRecDepth 20000 in
theorem lwm_25 : (Cond.initialized RX5) ∈ lw_tbl := List.mem_of_getElem? (i := 25) (by decide +kernel)
set_option maxRecDepth 20000 in
theorem lwm_26 : (Cond.initialized RX1) ∈ lw_tbl := List.mem_of_getElem? (i := 26) (by decide +kernel)
set_option maxRecDepth 20000 in
theorem lwm_27 : (Cond.initialized RX2) ∈ lw_tbl := List.mem_of_getElem? (i := 27) (by decide +kernel)
set_option maxRecDepth 20000 in
theorem lwm_28 : (Cond.initialized "java/lang/Math") ∈ lw_tbl := List.mem_of_getElem? (i := 28) (by decide +kernel)
set_option maxRecDepth 20000 in
theorem lwm_29 : (Cond.initialized "java/lang/System") ∈ lw_tbl := List.mem_of_getElem? (i := 29) (by decide +kernel)
set_option maxRecDepth 20000 in
theorem lwm_30 : (Cond.initialized RX3) ∈ lw_tbl := List.mem_of_getElem? (i := 30) (by decide +kernel)
set_option maxRecDepth 20000 in
theorem lwm_31 : (Cond.initialized RJ6) ∈ lw_tbl := List.mem_of_getElem? (i := 31) (by decide +kernel)
set_option maxRecDepth 20000 in
theorem lwm_32 : (Cond.classLink RL 10 RX6) ∈ lw_tbl := List.mem_of_getElem? (i := 32) (by decide +kernel)
set_option maxRecDepth 20000 in
theorem lwm_33 : (Cond.instantiable RX6 11) ∈ lw_tbl := List.mem_of_getElem? (i := 33) (by decide +kernel)
set_option maxRecDepth 20000 in
theorem lwm_34 : (Cond.methodLink RL 95 yX6_init) ∈ lw_tbl := List.mem_of_getElem? (i := 34) (by decide +kernel)
set_option maxRecDepth 20000 in
theorem lwm_35 : (Cond.instanceMethod yX6_init) ∈ lw_tbl := List.mem_of_getElem? (i := 35) (by decide +kernel)
set_option maxRecDepth 20000 in
theorem lwm_36 : (Cond.code yX6_init cX6_init 1 none) ∈ lw_tbl := List.mem_of_getElem? (i := 36) (by decide +kernel)
set_option maxRecDepth 20000 in
theorem lwm_37 : (Cond.methodLink RX6 1 objectInit) ∈ lw_tbl := List.mem_of_getElem? (i := 37) (by decide +kernel)
set_option maxRecDepth 20000 in
theorem lwm_38 : (Cond.instanceMethod objectInit) ∈ lw_tbl := List.mem_of_getElem? (i := 38) (by decide +kernel)
set_option maxRecDepth 20000 in
theorem lwm_39 : (Cond.code objectInit ⟨#[0xb1]⟩ 1 none) ∈ lw_tbl := List.mem_of_getElem? (i := 39) (by decide +kernel)
set_option maxRecDepth 20000 in
theorem lwm_40 : (Cond.classLink RX6 7 RX0) ∈ lw_tbl := List.mem_of_getElem? (i := 40) (by decide +kernel)
set_option maxRecDepth 20000 in
theorem lwm_41 : (Cond.instantiable RX0 8) ∈ lw_tbl := List.mem_of_getElem? (i := 41) (by decide +kernel)
set_option maxRecDepth 20000 in
theorem lwm_42 : (Cond.methodLink RX6 9 yX0_init) ∈ lw_tbl := List.mem_of_getElem? (i := 42) (by decide +kernel)
set_option maxRecDepth 20000 in
theorem lwm_43 : (Cond.instanceMethod yX0_init) ∈ lw_tbl := List.mem_of_getElem? (i := 43) (by decide +kernel)
set_option maxRecDepth 20000 in
theorem lwm_44 : (Cond.code yX0_init cX0_init 1 none) ∈ lw_tbl := List.mem_of_getElem? (i := 44) (by decide +kernel)
set_option maxRecDepth 20000 in
theorem lwm_45 : (Cond.methodLink RX0 3 objectInit) ∈ lw_tbl := List.mem_of_getElem? (i := 45) (by decide +kernel)
set_option maxRecDepth 20000 in
theorem lwm_46 : (Cond.methodLink RX0 36 yJ7_fill_53178) ∈ lw_tbl := List.mem_of_getElem? (i := 46) (by decide +kernel)
set_option maxRecDepth 20000 in
theorem lwm_47 : (Cond.static yJ7_fill_53178) ∈ lw_tbl := List.mem_of_getElem? (i := 47) (by decide +kernel)
set_option maxRecDepth 20000 in
theorem lwm_48 : (Cond.code yJ7_fill_53178 cJ7_fill_53178 4 none) ∈ lw_tbl := List.mem_of_getElem? (i := 48) (by decide +kernel)
set_option maxRecDepth 20000 in
theorem lwm_49 : (Cond.fieldLink RX0 9 "ThingMaker$Book" "yields" "[I") ∈ lw_tbl := List.mem_of_getElem? (i := 49) (by decide +kernel)
set_option maxRecDepth 20000 in
theorem lwm_50 : (Cond.fieldLink RX0 15 "ThingMaker$Book" "ingredientCounts" "[I") ∈ lw_tbl := List.mem_of_getElem? (i := 50) (by decide +kernel)
set_option maxRecDepth 20000 in
theorem lwm_51 : (Cond.fieldLink RX0 18 "ThingMaker$Book" "ingredients" "[I") ∈ lw_tbl := List.mem_of_getElem? (i := 51) (by decide +kernel)
set_option maxRecDepth 20000 in
theorem lwm_52 : (Cond.fieldLink RX0 21 "ThingMaker$Book" "amounts" "[I") ∈ lw_tbl := List.mem_of_getElem? (i := 52) (by decide +kernel)
set_option maxRecDepth 20000 in
theorem lwm_53 : (Cond.fieldLink RX0 24 "ThingMaker$Book" "substituteCounts" "[I") ∈ lw_tbl := List.mem_of_getElem? (i := 53) (by decide +kernel)
set_option maxRecDepth 20000 in
theorem lwm_54 : (Cond.fieldLink RX0 27 "ThingMaker$Book" "substitutes" "[I") ∈ lw_tbl := List.mem_of_getElem? (i := 54) (by decide +kernel)
set_option maxRecDepth 20000 in
theorem lwm_55 : (Cond.fieldLink RX0 30 "ThingMaker$Book" "vessels" "[I") ∈ lw_tbl := List.mem_of_getElem? (i := 55) (by decide +kernel)
set_option maxRecDepth 20000 in
theorem lwm_56 : (Cond.fieldLink RX0 33 "ThingMaker$Book" "ranks" "[I") ∈ lw_tbl := List.mem_of_getElem? (i := 56) (by decide +kernel)
set_option maxRecDepth 20000 in
theorem lwm_74 : (Cond.arrayClass .int) ∈ lw_tbl := List.mem_of_getElem? (i := 74) (by decide +kernel)
set_option maxRecDepth 20000 in
theorem lwm_75 : (Cond.classLink RX6 19 RX4) ∈ lw_tbl := List.mem_of_getElem? (i := 75) (by decide +kernel)
set_option maxRecDepth 20000 in
theorem lwm_76 : (Cond.instantiable RX4 7) ∈ lw_tbl := List.mem_of_getElem? (i := 76) (by decide +kernel)
set_option maxRecDepth 20000 in
theorem lwm_77 : (Cond.methodLinkNest RX6 21 yX4_init RX6) ∈ lw_tbl := List.mem_of_getElem? (i := 77) (by decide +kernel)
set_option maxRecDepth 20000 in
theorem lwm_78 : (Cond.instanceMethod yX4_init) ∈ lw_tbl := List.mem_of_getElem? (i := 78) (by decide +kernel)
set_option maxRecDepth 20000 in
theorem lwm_79 : (Cond.code yX4_init cX4_init 1 none) ∈ lw_tbl := List.mem_of_getElem? (i := 79) (by decide +kernel)
set_option maxRecDepth 20000 in
theorem lwm_80 : (Cond.methodLink RX4 3 objectInit) ∈ lw_tbl := List.mem_of_getElem? (i := 80) (by decide +kernel)
set_option maxRecDepth 20000 in
theorem lwm_81 : (Cond.fieldLink RX4 9 "ThingMaker$Stock" "amounts" "[I") ∈ lw_tbl := List.mem_of_getElem? (i := 81) (by decide +kernel)
set_option maxRecDepth 20000 in
theorem lwm_82 : (Cond.fieldLinkNest RX5 36 RX4 "amounts" "[I" RX6) ∈ lw_tbl := List.mem_of_getElem? (i := 82) (by decide +kernel)
set_option maxRecDepth 20000 in
theorem lwm_83 : (Cond.fieldLinkNest RX6 137 RX4 "amounts" "[I" RX6) ∈ lw_tbl := List.mem_of_getElem? (i := 83) (by decide +kernel)
set_option maxRecDepth 20000 in
theorem lwm_84 : (Cond.fieldLink RX4 15 "ThingMaker$Stock" "gathered" "[I") ∈ lw_tbl := List.mem_of_getElem? (i := 84) (by decide +kernel)
set_option maxRecDepth 20000 in
theorem lwm_85 : (Cond.fieldLinkNest RX5 122 RX4 "gathered" "[I" RX6) ∈ lw_tbl := List.mem_of_getElem? (i := 85) (by decide +kernel)
set_option maxRecDepth 20000 in
theorem lwm_86 : (Cond.fieldLinkNest RX6 191 RX4 "gathered" "[I" RX6) ∈ lw_tbl := List.mem_of_getElem? (i := 86) (by decide +kernel)
set_option maxRecDepth 20000 in
theorem lwm_87 : (Cond.fieldLink RX4 18 "ThingMaker$Stock" "made" "[I") ∈ lw_tbl := List.mem_of_getElem? (i := 87) (by decide +kernel)
set_option maxRecDepth 20000 in
theorem lwm_88 : (Cond.fieldLinkNest RX5 86 RX4 "made" "[I" RX6) ∈ lw_tbl := List.mem_of_getElem? (i := 88) (by decide +kernel)
set_option maxRecDepth 20000 in
theorem lwm_89 : (Cond.fieldLinkNest RX6 206 RX4 "made" "[I" RX6) ∈ lw_tbl := List.mem_of_getElem? (i := 89) (by decide +kernel)
set_option maxRecDepth 20000 in
theorem lwm_90 : (Cond.fieldLink RX4 21 "ThingMaker$Stock" "used" "[I") ∈ lw_tbl := List.mem_of_getElem? (i := 90) (by decide +kernel)
set_option maxRecDepth 20000 in
theorem lwm_91 : (Cond.fieldLinkNest RX5 113 RX4 "used" "[I" RX6) ∈ lw_tbl := List.mem_of_getElem? (i := 91) (by decide +kernel)
set_option maxRecDepth 20000 in
theorem lwm_92 : (Cond.fieldLinkNest RX6 208 RX4 "used" "[I" RX6) ∈ lw_tbl := List.mem_of_getElem? (i := 92) (by decide +kernel)
set_option maxRecDepth 20000 in
theorem lwm_93 : (Cond.fieldLink RX4 24 "ThingMaker$Stock" "returned" "[I") ∈ lw_tbl := List.mem_of_getElem? (i := 93) (by decide +kernel)
set_option maxRecDepth 20000 in
theorem lwm_94 : (Cond.fieldLinkNest RX5 119 RX4 "returned" "[I" RX6) ∈ lw_tbl := List.mem_of_getElem? (i := 94) (by decide +kernel)
set_option maxRecDepth 20000 in
theorem lwm_95 : (Cond.fieldLinkNest RX6 211 RX4 "returned" "[I" RX6) ∈ lw_tbl := List.mem_of_getElem? (i := 95) (by decide +kernel)
set_option maxRecDepth 20000 in
theorem lwm_96 : (Cond.fieldLink RX4 27 "ThingMaker$Stock" "brought" "[I") ∈ lw_tbl := List.mem_of_getElem? (i := 96) (by decide +kernel)
set_option maxRecDepth 20000 in
theorem lwm_97 : (Cond.fieldLinkNest RX6 154 RX4 "brought" "[I" RX6) ∈ lw_tbl := List.mem_of_getElem? (i := 97) (by decide +kernel)
set_option maxRecDepth 20000 in
theorem lwm_98 : (Cond.fieldLink RX4 34 "ThingMaker$Stock" "batches" "I") ∈ lw_tbl := List.mem_of_getElem? (i := 98) (by decide +kernel)
set_option maxRecDepth 20000 in
theorem lwm_99 : (Cond.fieldLinkNest RX5 93 RX4 "batches" "I" RX6) ∈ lw_tbl := List.mem_of_getElem? (i := 99) (by decide +kernel)
set_option maxRecDepth 20000 in
theorem lwm_100 : (Cond.fieldLinkNest RX6 194 RX4 "batches" "I" RX6) ∈ lw_tbl := List.mem_of_getElem? (i := 100) (by decide +kernel)
set_option maxRecDepth 20000 in
theorem lwm_116 : (Cond.classLink RX6 26 RX5) ∈ lw_tbl := List.mem_of_getElem? (i := 116) (by decide +kernel)
set_option maxRecDepth 20000 in
theorem lwm_117 : (Cond.instantiable RX5 5) ∈ lw_tbl := List.mem_of_getElem? (i := 117) (by decide +kernel)
set_option maxRecDepth 20000 in
theorem lwm_118 : (Cond.methodLinkNest RX6 28 yX5_init RX6) ∈ lw_tbl := List.mem_of_getElem? (i := 118) (by decide +kernel)
set_option maxRecDepth 20000 in
theorem lwm_119 : (Cond.instanceMethod yX5_init) ∈ lw_tbl := List.mem_of_getElem? (i := 119) (by decide +kernel)
set_option maxRecDepth 20000 in
theorem lwm_120 : (Cond.code yX5_init cX5_init 1 none) ∈ lw_tbl := List.mem_of_getElem? (i := 120) (by decide +kernel)
set_option maxRecDepth 20000 in
theorem lwm_121 : (Cond.methodLink RX5 3 objectInit) ∈ lw_tbl := List.mem_of_getElem? (i := 121) (by decide +kernel)
set_option maxRecDepth 20000 in
theorem lwm_122 : (Cond.classLink RX5 9 RX4) ∈ lw_tbl := List.mem_of_getElem? (i := 122) (by decide +kernel)
set_option maxRecDepth 20000 in
theorem lwm_123 : (Cond.methodLinkNest RX5 11 yX4_init RX6) ∈ lw_tbl := List.mem_of_getElem? (i := 123) (by decide +kernel)
set_option maxRecDepth 20000 in
theorem lwm_124 : (Cond.fieldLink RX5 12 "ThingMaker$Works" "bench" "LThingMaker$Stock;") ∈ lw_tbl := List.mem_of_getElem? (i := 124) (by decide +kernel)
set_option maxRecDepth 20000 in
theorem lwm_125 : (Cond.fieldLinkNest RX6 228 RX5 "bench" "LThingMaker$Stock;" RX6) ∈ lw_tbl := List.mem_of_getElem? (i := 125) (by decide +kernel)
set_option maxRecDepth 20000 in
theorem lwm_126 : (Cond.fieldLink RX5 22 "ThingMaker$Works" "mayGather" "Z") ∈ lw_tbl := List.mem_of_getElem? (i := 126) (by decide +kernel)
set_option maxRecDepth 20000 in
theorem lwm_127 : (Cond.fieldLink RX5 26 "ThingMaker$Works" "failed" "Z") ∈ lw_tbl := List.mem_of_getElem? (i := 127) (by decide +kernel)
set_option maxRecDepth 20000 in
theorem lwm_128 : (Cond.fieldLink RX5 29 "ThingMaker$Works" "batches" "I") ∈ lw_tbl := List.mem_of_getElem? (i := 128) (by decide +kernel)
set_option maxRecDepth 20000 in
theorem lwm_129 : (Cond.fieldLink RX5 33 "ThingMaker$Works" "gathered" "I") ∈ lw_tbl := List.mem_of_getElem? (i := 129) (by decide +kernel)
set_option maxRecDepth 20000 in
theorem lwm_141 : (Cond.classLink RX6 33 RX1) ∈ lw_tbl := List.mem_of_getElem? (i := 141) (by decide +kernel)
set_option maxRecDepth 20000 in
theorem lwm_142 : (Cond.instantiable RX1 3) ∈ lw_tbl := List.mem_of_getElem? (i := 142) (by decide +kernel)
set_option maxRecDepth 20000 in
theorem lwm_143 : (Cond.methodLinkNest RX6 35 yX1_init RX6) ∈ lw_tbl := List.mem_of_getElem? (i := 143) (by decide +kernel)
set_option maxRecDepth 20000 in
theorem lwm_144 : (Cond.instanceMethod yX1_init) ∈ lw_tbl := List.mem_of_getElem? (i := 144) (by decide +kernel)
set_option maxRecDepth 20000 in
theorem lwm_145 : (Cond.code yX1_init cX1_init 1 none) ∈ lw_tbl := List.mem_of_getElem? (i := 145) (by decide +kernel)
set_option maxRecDepth 20000 in
theorem lwm_146 : (Cond.methodLink RX1 3 objectInit) ∈ lw_tbl := List.mem_of_getElem? (i := 146) (by decide +kernel)
set_option maxRecDepth 20000 in
theorem lwm_147 : (Cond.classLink RX1 9 RX3) ∈ lw_tbl := List.mem_of_getElem? (i := 147) (by decide +kernel)
set_option maxRecDepth 20000 in
theorem lwm_149 : (Cond.fieldLink RX1 11 "ThingMaker$History" "states" "[LThingMaker$State;") ∈ lw_tbl := List.mem_of_getElem? (i := 149) (by decide +kernel)
set_option maxRecDepth 20000 in
theorem lwm_150 : (Cond.fieldLink RX1 25 "ThingMaker$History" "oldest" "I") ∈ lw_tbl := List.mem_of_getElem? (i := 150) (by decide +kernel)
set_option maxRecDepth 20000 in
theorem lwm_151 : (Cond.fieldLink RX1 17 "ThingMaker$History" "size" "I") ∈ lw_tbl := List.mem_of_getElem? (i := 151) (by decide +kernel)
set_option maxRecDepth 20000 in
theorem lwm_159 : (Cond.classLink RX6 40 RX3) ∈ lw_tbl := List.mem_of_getElem? (i := 159) (by decide +kernel)
set_option maxRecDepth 20000 in
theorem lwm_160 : (Cond.classLink RX6 46 RX2) ∈ lw_tbl := List.mem_of_getElem? (i := 160) (by decide +kernel)
set_option maxRecDepth 20000 in
theorem lwm_161 : (Cond.instantiable RX2 8) ∈ lw_tbl := List.mem_of_getElem? (i := 161) (by decide +kernel)
set_option maxRecDepth 20000 in
theorem lwm_162 : (Cond.methodLinkNest RX6 48 yX2_init RX6) ∈ lw_tbl := List.mem_of_getElem? (i := 162) (by decide +kernel)
set_option maxRecDepth 20000 in
theorem lwm_163 : (Cond.instanceMethod yX2_init) ∈ lw_tbl := List.mem_of_getElem? (i := 163) (by decide +kernel)
set_option maxRecDepth 20000 in
theorem lwm_164 : (Cond.code yX2_init cX2_init 1 none) ∈ lw_tbl := List.mem_of_getElem? (i := 164) (by decide +kernel)
set_option maxRecDepth 20000 in
theorem lwm_165 : (Cond.methodLink RX2 3 objectInit) ∈ lw_tbl := List.mem_of_getElem? (i := 165) (by decide +kernel)
set_option maxRecDepth 20000 in
theorem lwm_166 : (Cond.fieldLink RX2 9 "ThingMaker$RecipeReader" "ingredients" "[I") ∈ lw_tbl := List.mem_of_getElem? (i := 166) (by decide +kernel)
set_option maxRecDepth 20000 in
theorem lwm_167 : (Cond.fieldLinkNest RX0 89 RX2 "ingredients" "[I" RX6) ∈ lw_tbl := List.mem_of_getElem? (i := 167) (by decide +kernel)
set_option maxRecDepth 20000 in
theorem lwm_168 : (Cond.fieldLink RX2 15 "ThingMaker$RecipeReader" "amounts" "[I") ∈ lw_tbl := List.mem_of_getElem? (i := 168) (by decide +kernel)
set_option maxRecDepth 20000 in
theorem lwm_169 : (Cond.fieldLinkNest RX0 90 RX2 "amounts" "[I" RX6) ∈ lw_tbl := List.mem_of_getElem? (i := 169) (by decide +kernel)
set_option maxRecDepth 20000 in
theorem lwm_170 : (Cond.fieldLink RX2 35 "ThingMaker$RecipeReader" "made" "I") ∈ lw_tbl := List.mem_of_getElem? (i := 170) (by decide +kernel)
set_option maxRecDepth 20000 in
theorem lwm_171 : (Cond.fieldLinkNest RX6 89 RX2 "made" "I" RX6) ∈ lw_tbl := List.mem_of_getElem? (i := 171) (by decide +kernel)
set_option maxRecDepth 20000 in
theorem lwm_172 : (Cond.fieldLinkNest RX0 73 RX2 "made" "I" RX6) ∈ lw_tbl := List.mem_of_getElem? (i := 172) (by decide +kernel)
set_option maxRecDepth 20000 in
theorem lwm_173 : (Cond.fieldLink RX2 41 "ThingMaker$RecipeReader" "yielded" "I") ∈ lw_tbl := List.mem_of_getElem? (i := 173) (by decide +kernel)
set_option maxRecDepth 20000 in
theorem lwm_174 : (Cond.fieldLinkNest RX0 79 RX2 "yielded" "I" RX6) ∈ lw_tbl := List.mem_of_getElem? (i := 174) (by decide +kernel)
set_option maxRecDepth 20000 in
theorem lwm_175 : (Cond.fieldLink RX2 22 "ThingMaker$RecipeReader" "count" "I") ∈ lw_tbl := List.mem_of_getElem? (i := 175) (by decide +kernel)
set_option maxRecDepth 20000 in
theorem lwm_176 : (Cond.fieldLinkNest RX0 86 RX2 "count" "I" RX6) ∈ lw_tbl := List.mem_of_getElem? (i := 176) (by decide +kernel)
set_option maxRecDepth 20000 in
theorem lwm_177 : (Cond.fieldLink RX2 25 "ThingMaker$RecipeReader" "faultKind" "I") ∈ lw_tbl := List.mem_of_getElem? (i := 177) (by decide +kernel)
set_option maxRecDepth 20000 in
theorem lwm_178 : (Cond.fieldLinkNest RX6 71 RX2 "faultKind" "I" RX6) ∈ lw_tbl := List.mem_of_getElem? (i := 178) (by decide +kernel)
set_option maxRecDepth 20000 in
theorem lwm_179 : (Cond.fieldLink RX2 28 "ThingMaker$RecipeReader" "faultPlace" "I") ∈ lw_tbl := List.mem_of_getElem? (i := 179) (by decide +kernel)
set_option maxRecDepth 20000 in
theorem lwm_180 : (Cond.fieldLinkNest RX6 72 RX2 "faultPlace" "I" RX6) ∈ lw_tbl := List.mem_of_getElem? (i := 180) (by decide +kernel)
set_option maxRecDepth 20000 in
theorem lwm_181 : (Cond.fieldLink RX2 18 "ThingMaker$RecipeReader" "place" "I") ∈ lw_tbl := List.mem_of_getElem? (i := 181) (by decide +kernel)
set_option maxRecDepth 20000 in
theorem lwm_199 : (Cond.fieldLink RX6 10 "ThingMaker" "book" "LThingMaker$Book;") ∈ lw_tbl := List.mem_of_getElem? (i := 199) (by decide +kernel)
set_option maxRecDepth 20000 in
theorem lwm_200 : (Cond.fieldLink RX6 16 "ThingMaker" "draft" "LThingMaker$Book;") ∈ lw_tbl := List.mem_of_getElem? (i := 200) (by decide +kernel)
set_option maxRecDepth 20000 in
theorem lwm_201 : (Cond.fieldLink RX6 22 "ThingMaker" "stock" "LThingMaker$Stock;") ∈ lw_tbl := List.mem_of_getElem? (i := 201) (by decide +kernel)
set_option maxRecDepth 20000 in
theorem lwm_202 : (Cond.fieldLink RX6 29 "ThingMaker" "works" "LThingMaker$Works;") ∈ lw_tbl := List.mem_of_getElem? (i := 202) (by decide +kernel)
set_option maxRecDepth 20000 in
theorem lwm_203 : (Cond.fieldLink RX6 36 "ThingMaker" "history" "LThingMaker$History;") ∈ lw_tbl := List.mem_of_getElem? (i := 203) (by decide +kernel)
set_option maxRecDepth 20000 in
theorem lwm_204 : (Cond.fieldLink RX6 42 "ThingMaker" "images" "[LThingMaker$State;") ∈ lw_tbl := List.mem_of_getElem? (i := 204) (by decide +kernel)
set_option maxRecDepth 20000 in
theorem lwm_205 : (Cond.fieldLink RX6 49 "ThingMaker" "reader" "LThingMaker$RecipeReader;") ∈ lw_tbl := List.mem_of_getElem? (i := 205) (by decide +kernel)
set_option maxRecDepth 20000 in
theorem lwm_206 : (Cond.fieldLink RX6 53 "ThingMaker" "text" "[I") ∈ lw_tbl := List.mem_of_getElem? (i := 206) (by decide +kernel)
set_option maxRecDepth 20000 in
theorem lwm_207 : (Cond.fieldLink RX6 57 "ThingMaker" "length" "I") ∈ lw_tbl := List.mem_of_getElem? (i := 207) (by decide +kernel)
set_option maxRecDepth 20000 in
theorem lwm_208 : (Cond.fieldLink RX6 61 "ThingMaker" "faultKind" "I") ∈ lw_tbl := List.mem_of_getElem? (i := 208) (by decide +kernel)
set_option maxRecDepth 20000 in
theorem lwm_209 : (Cond.fieldLink RX6 64 "ThingMaker" "faultPlace" "I") ∈ lw_tbl := List.mem_of_getElem? (i := 209) (by decide +kernel)
set_option maxRecDepth 20000 in
theorem lwm_233 : (Cond.methodLink RL 96 yL_cell) ∈ lw_tbl := List.mem_of_getElem? (i := 233) (by decide +kernel)
set_option maxRecDepth 20000 in
theorem lwm_234 : (Cond.static yL_cell) ∈ lw_tbl := List.mem_of_getElem? (i := 234) (by decide +kernel)
set_option maxRecDepth 20000 in
theorem lwm_235 : (Cond.code yL_cell cL_cell 2 (some .int)) ∈ lw_tbl := List.mem_of_getElem? (i := 235) (by decide +kernel)
set_option maxRecDepth 20000 in
theorem lwm_236 : (Cond.constant RL 7 (747796405)) ∈ lw_tbl := List.mem_of_getElem? (i := 236) (by decide +kernel)
set_option maxRecDepth 20000 in
theorem lwm_237 : (Cond.methodLink RL 19 yL_low) ∈ lw_tbl := List.mem_of_getElem? (i := 237) (by decide +kernel)
set_option maxRecDepth 20000 in
theorem lwm_238 : (Cond.static yL_low) ∈ lw_tbl := List.mem_of_getElem? (i := 238) (by decide +kernel)
set_option maxRecDepth 20000 in
theorem lwm_239 : (Cond.code yL_low cL_low 2 (some .int)) ∈ lw_tbl := List.mem_of_getElem? (i := 239) (by decide +kernel)
set_option maxRecDepth 20000 in
theorem lwm_240 : (Cond.constant RL 8 (2147483647)) ∈ lw_tbl := List.mem_of_getElem? (i := 240) (by decide +kernel)
set_option maxRecDepth 20000 in
theorem lwm_241 : (Cond.methodLink RL 100 yL_change) ∈ lw_tbl := List.mem_of_getElem? (i := 241) (by decide +kernel)
set_option maxRecDepth 20000 in
theorem lwm_242 : (Cond.static yL_change) ∈ lw_tbl := List.mem_of_getElem? (i := 242) (by decide +kernel)
set_option maxRecDepth 20000 in
theorem lwm_243 : (Cond.code yL_change cL_change 4 (some .int)) ∈ lw_tbl := List.mem_of_getElem? (i := 243) (by decide +kernel)
set_option maxRecDepth 20000 in
theorem lwm_244 : (Cond.methodLink RL 32 yL_recipe) ∈ lw_tbl := List.mem_of_getElem? (i := 244) (by decide +kernel)
set_option maxRecDepth 20000 in
theorem lwm_245 : (Cond.static yL_recipe) ∈ lw_tbl := List.mem_of_getElem? (i := 245) (by decide +kernel)
set_option maxRecDepth 20000 in
theorem lwm_246 : (Cond.code yL_recipe cL_recipe 7 (some .int)) ∈ lw_tbl := List.mem_of_getElem? (i := 246) (by decide +kernel)
set_option maxRecDepth 20000 in
theorem lwm_247 : (Cond.methodLink RL 15 yX6_wipe) ∈ lw_tbl := List.mem_of_getElem? (i := 247) (by decide +kernel)
set_option maxRecDepth 20000 in
theorem lwm_248 : (Cond.instanceMethod yX6_wipe) ∈ lw_tbl := List.mem_of_getElem? (i := 248) (by decide +kernel)
set_option maxRecDepth 20000 in
theorem lwm_249 : (Cond.selects RX6 yX6_wipe yX6_wipe) ∈ lw_tbl := List.mem_of_getElem? (i := 249) (by decide +kernel)
set_option maxRecDepth 20000 in
theorem lwm_250 : (Cond.code yX6_wipe cX6_wipe 2 (some .int)) ∈ lw_tbl := List.mem_of_getElem? (i := 250) (by decide +kernel)
set_option maxRecDepth 20000 in
theorem lwm_251 : (Cond.methodLink RL 9 yX6_write) ∈ lw_tbl := List.mem_of_getElem? (i := 251) (by decide +kernel)
set_option maxRecDepth 20000 in
theorem lwm_252 : (Cond.instanceMethod yX6_write) ∈ lw_tbl := List.mem_of_getElem? (i := 252) (by decide +kernel)
set_option maxRecDepth 20000 in
theorem lwm_253 : (Cond.selects RX6 yX6_write yX6_write) ∈ lw_tbl := List.mem_of_getElem? (i := 253) (by decide +kernel)
set_option maxRecDepth 20000 in
theorem lwm_254 : (Cond.code yX6_write cX6_write 2 (some .int)) ∈ lw_tbl := List.mem_of_getElem? (i := 254) (by decide +kernel)
set_option maxRecDepth 20000 in
theorem lwm_255 : (Cond.methodLink RX6 181 yX6_put) ∈ lw_tbl := List.mem_of_getElem? (i := 255) (by decide +kernel)
set_option maxRecDepth 20000 in
theorem lwm_256 : (Cond.static yX6_put) ∈ lw_tbl := List.mem_of_getElem? (i := 256) (by decide +kernel)
set_option maxRecDepth 20000 in
theorem lwm_257 : (Cond.code yX6_put cX6_put 3 none) ∈ lw_tbl := List.mem_of_getElem? (i := 257) (by decide +kernel)
set_option maxRecDepth 20000 in
theorem lwm_258 : (Cond.methodLink RL 25 yL_number) ∈ lw_tbl := List.mem_of_getElem? (i := 258) (by decide +kernel)
set_option maxRecDepth 20000 in
theorem lwm_259 : (Cond.static yL_number) ∈ lw_tbl := List.mem_of_getElem? (i := 259) (by decide +kernel)
set_option maxRecDepth 20000 in
theorem lwm_260 : (Cond.code yL_number cL_number 3 (some .int)) ∈ lw_tbl := List.mem_of_getElem? (i := 260) (by decide +kernel)
set_option maxRecDepth 20000 in
theorem lwm_261 : (Cond.methodLink RL 29 yX6_recipe) ∈ lw_tbl := List.mem_of_getElem? (i := 261) (by decide +kernel)
set_option maxRecDepth 20000 in
theorem lwm_262 : (Cond.instanceMethod yX6_recipe) ∈ lw_tbl := List.mem_of_getElem? (i := 262) (by decide +kernel)
set_option maxRecDepth 20000 in
theorem lwm_263 : (Cond.selects RX6 yX6_recipe yX6_recipe) ∈ lw_tbl := List.mem_of_getElem? (i := 263) (by decide +kernel)
set_option maxRecDepth 20000 in
theorem lwm_264 : (Cond.code yX6_recipe cX6_recipe 1 (some .int)) ∈ lw_tbl := List.mem_of_getElem? (i := 264) (by decide +kernel)
set_option maxRecDepth 20000 in
theorem lwm_265 : (Cond.methodLink RX6 67 yX2_read) ∈ lw_tbl := List.mem_of_getElem? (i := 265) (by decide +kernel)
set_option maxRecDepth 20000 in
theorem lwm_266 : (Cond.instanceMethod yX2_read) ∈ lw_tbl := List.mem_of_getElem? (i := 266) (by decide +kernel)
set_option maxRecDepth 20000 in
theorem lwm_267 : (Cond.selects RX2 yX2_read yX2_read) ∈ lw_tbl := List.mem_of_getElem? (i := 267) (by decide +kernel)
set_option maxRecDepth 20000 in
theorem lwm_268 : (Cond.code yX2_read cX2_read 4 none) ∈ lw_tbl := List.mem_of_getElem? (i := 268) (by decide +kernel)
set_option maxRecDepth 20000 in
theorem lwm_269 : (Cond.methodLink RX2 31 yX2_readLetter) ∈ lw_tbl := List.mem_of_getElem? (i := 269) (by decide +kernel)
set_option maxRecDepth 20000 in
theorem lwm_271 : (Cond.instanceMethod yX2_readLetter) ∈ lw_tbl := List.mem_of_getElem? (i := 271) (by decide +kernel)
set_option maxRecDepth 20000 in
theorem lwm_272 : (Cond.code yX2_readLetter cX2_readLetter 4 (some .int)) ∈ lw_tbl := List.mem_of_getElem? (i := 272) (by decide +kernel)
set_option maxRecDepth 20000 in
theorem lwm_273 : (Cond.methodLink RX2 56 yX2_skipBlanks) ∈ lw_tbl := List.mem_of_getElem? (i := 273) (by decide +kernel)
set_option maxRecDepth 20000 in
theorem lwm_275 : (Cond.instanceMethod yX2_skipBlanks) ∈ lw_tbl := List.mem_of_getElem? (i := 275) (by decide +kernel)
set_option maxRecDepth 20000 in
theorem lwm_276 : (Cond.code yX2_skipBlanks cX2_skipBlanks 3 none) ∈ lw_tbl := List.mem_of_getElem? (i := 276) (by decide +kernel)
set_option maxRecDepth 20000 in
theorem lwm_277 : (Cond.methodLinkNest RX2 70 yX6_at RX6) ∈ lw_tbl := List.mem_of_getElem? (i := 277) (by decide +kernel)
set_option maxRecDepth 20000 in
theorem lwm_278 : (Cond.static yX6_at) ∈ lw_tbl := List.mem_of_getElem? (i := 278) (by decide +kernel)
set_option maxRecDepth 20000 in
theorem lwm_279 : (Cond.code yX6_at cX6_at 2 (some .int)) ∈ lw_tbl := List.mem_of_getElem? (i := 279) (by decide +kernel)
