/-! ===== 94z.lawK: the words of the nest, of the classes and of the arrays ===== -/
set_option maxRecDepth 20000 in
theorem lwm_113 : (Cond.methodLinkNest RX6 21 yX4_init RX6) ∈ lw_tbl := List.mem_of_getElem? (i := 113) (by decide +kernel)
set_option maxRecDepth 20000 in
theorem lwm_118 : (Cond.fieldLinkNest RX5 36 RX4 "amounts" "[I" RX6) ∈ lw_tbl := List.mem_of_getElem? (i := 118) (by decide +kernel)
set_option maxRecDepth 20000 in
theorem lwm_119 : (Cond.fieldLinkNest RX6 137 RX4 "amounts" "[I" RX6) ∈ lw_tbl := List.mem_of_getElem? (i := 119) (by decide +kernel)
set_option maxRecDepth 20000 in
theorem lwm_121 : (Cond.fieldLinkNest RX5 122 RX4 "gathered" "[I" RX6) ∈ lw_tbl := List.mem_of_getElem? (i := 121) (by decide +kernel)
set_option maxRecDepth 20000 in
theorem lwm_122 : (Cond.fieldLinkNest RX6 191 RX4 "gathered" "[I" RX6) ∈ lw_tbl := List.mem_of_getElem? (i := 122) (by decide +kernel)
set_option maxRecDepth 20000 in
theorem lwm_124 : (Cond.fieldLinkNest RX5 86 RX4 "made" "[I" RX6) ∈ lw_tbl := List.mem_of_getElem? (i := 124) (by decide +kernel)
set_option maxRecDepth 20000 in
theorem lwm_125 : (Cond.fieldLinkNest RX6 206 RX4 "made" "[I" RX6) ∈ lw_tbl := List.mem_of_getElem? (i := 125) (by decide +kernel)
set_option maxRecDepth 20000 in
theorem lwm_127 : (Cond.fieldLinkNest RX5 113 RX4 "used" "[I" RX6) ∈ lw_tbl := List.mem_of_getElem? (i := 127) (by decide +kernel)
set_option maxRecDepth 20000 in
theorem lwm_128 : (Cond.fieldLinkNest RX6 208 RX4 "used" "[I" RX6) ∈ lw_tbl := List.mem_of_getElem? (i := 128) (by decide +kernel)
set_option maxRecDepth 20000 in
theorem lwm_130 : (Cond.fieldLinkNest RX5 119 RX4 "returned" "[I" RX6) ∈ lw_tbl := List.mem_of_getElem? (i := 130) (by decide +kernel)
set_option maxRecDepth 20000 in
theorem lwm_131 : (Cond.fieldLinkNest RX6 211 RX4 "returned" "[I" RX6) ∈ lw_tbl := List.mem_of_getElem? (i := 131) (by decide +kernel)
set_option maxRecDepth 20000 in
theorem lwm_133 : (Cond.fieldLinkNest RX6 154 RX4 "brought" "[I" RX6) ∈ lw_tbl := List.mem_of_getElem? (i := 133) (by decide +kernel)
set_option maxRecDepth 20000 in
theorem lwm_135 : (Cond.fieldLinkNest RX5 93 RX4 "batches" "I" RX6) ∈ lw_tbl := List.mem_of_getElem? (i := 135) (by decide +kernel)
set_option maxRecDepth 20000 in
theorem lwm_136 : (Cond.fieldLinkNest RX6 194 RX4 "batches" "I" RX6) ∈ lw_tbl := List.mem_of_getElem? (i := 136) (by decide +kernel)
set_option maxRecDepth 20000 in
theorem lwm_154 : (Cond.methodLinkNest RX6 28 yX5_init RX6) ∈ lw_tbl := List.mem_of_getElem? (i := 154) (by decide +kernel)
set_option maxRecDepth 20000 in
theorem lwm_159 : (Cond.methodLinkNest RX5 11 yX4_init RX6) ∈ lw_tbl := List.mem_of_getElem? (i := 159) (by decide +kernel)
set_option maxRecDepth 20000 in
theorem lwm_161 : (Cond.fieldLinkNest RX6 228 RX5 "bench" "LThingMaker$Stock;" RX6) ∈ lw_tbl := List.mem_of_getElem? (i := 161) (by decide +kernel)
set_option maxRecDepth 20000 in
theorem lwm_179 : (Cond.methodLinkNest RX6 35 yX1_init RX6) ∈ lw_tbl := List.mem_of_getElem? (i := 179) (by decide +kernel)
set_option maxRecDepth 20000 in
theorem lwm_198 : (Cond.methodLinkNest RX6 48 yX2_init RX6) ∈ lw_tbl := List.mem_of_getElem? (i := 198) (by decide +kernel)
set_option maxRecDepth 20000 in
theorem lwm_203 : (Cond.fieldLinkNest RX0 89 RX2 "ingredients" "[I" RX6) ∈ lw_tbl := List.mem_of_getElem? (i := 203) (by decide +kernel)
set_option maxRecDepth 20000 in
theorem lwm_205 : (Cond.fieldLinkNest RX0 90 RX2 "amounts" "[I" RX6) ∈ lw_tbl := List.mem_of_getElem? (i := 205) (by decide +kernel)
set_option maxRecDepth 20000 in
theorem lwm_207 : (Cond.fieldLinkNest RX6 89 RX2 "made" "I" RX6) ∈ lw_tbl := List.mem_of_getElem? (i := 207) (by decide +kernel)
set_option maxRecDepth 20000 in
theorem lwm_208 : (Cond.fieldLinkNest RX0 73 RX2 "made" "I" RX6) ∈ lw_tbl := List.mem_of_getElem? (i := 208) (by decide +kernel)
set_option maxRecDepth 20000 in
theorem lwm_210 : (Cond.fieldLinkNest RX0 79 RX2 "yielded" "I" RX6) ∈ lw_tbl := List.mem_of_getElem? (i := 210) (by decide +kernel)
set_option maxRecDepth 20000 in
theorem lwm_212 : (Cond.fieldLinkNest RX0 86 RX2 "count" "I" RX6) ∈ lw_tbl := List.mem_of_getElem? (i := 212) (by decide +kernel)
set_option maxRecDepth 20000 in
theorem lwm_214 : (Cond.fieldLinkNest RX6 71 RX2 "faultKind" "I" RX6) ∈ lw_tbl := List.mem_of_getElem? (i := 214) (by decide +kernel)
set_option maxRecDepth 20000 in
theorem lwm_216 : (Cond.fieldLinkNest RX6 72 RX2 "faultPlace" "I" RX6) ∈ lw_tbl := List.mem_of_getElem? (i := 216) (by decide +kernel)
set_option maxRecDepth 20000 in
theorem lwm_285 : (Cond.methodLinkNest RX2 70 yX6_at RX6) ∈ lw_tbl := List.mem_of_getElem? (i := 285) (by decide +kernel)
set_option maxRecDepth 20000 in
theorem lwm_292 : (Cond.methodLinkNest RX2 73 yX6_isThing RX6) ∈ lw_tbl := List.mem_of_getElem? (i := 292) (by decide +kernel)
set_option maxRecDepth 20000 in
theorem lwm_315 : (Cond.methodLinkNest RX2 67 yX6_put RX6) ∈ lw_tbl := List.mem_of_getElem? (i := 315) (by decide +kernel)
set_option maxRecDepth 20000 in
theorem lwm_326 : (Cond.methodLinkNest RX0 42 yX6_copy RX6) ∈ lw_tbl := List.mem_of_getElem? (i := 326) (by decide +kernel)
set_option maxRecDepth 20000 in
theorem lwm_339 : (Cond.methodLinkNest RX0 82 yX6_put RX6) ∈ lw_tbl := List.mem_of_getElem? (i := 339) (by decide +kernel)
set_option maxRecDepth 20000 in
theorem lwm_340 : (Cond.methodLinkNest RX0 46 yX6_at RX6) ∈ lw_tbl := List.mem_of_getElem? (i := 340) (by decide +kernel)
set_option maxRecDepth 20000 in
theorem lwm_373 : (Cond.methodLinkNest RX0 106 yX6_hasBit RX6) ∈ lw_tbl := List.mem_of_getElem? (i := 373) (by decide +kernel)
set_option maxRecDepth 20000 in
theorem lwm_394 : (Cond.methodLinkNest RX1 28 yX6_roomAt RX6) ∈ lw_tbl := List.mem_of_getElem? (i := 394) (by decide +kernel)
set_option maxRecDepth 20000 in
theorem lwm_401 : (Cond.methodLinkNest RX6 256 yX3_init RX6) ∈ lw_tbl := List.mem_of_getElem? (i := 401) (by decide +kernel)
set_option maxRecDepth 20000 in
theorem lwm_408 : (Cond.methodLinkNest RX3 18 yX4_init RX6) ∈ lw_tbl := List.mem_of_getElem? (i := 408) (by decide +kernel)
set_option maxRecDepth 20000 in
theorem lwm_425 : (Cond.methodLinkNest RX4 30 yX6_copy RX6) ∈ lw_tbl := List.mem_of_getElem? (i := 425) (by decide +kernel)
set_option maxRecDepth 20000 in
theorem lwm_506 : (Cond.methodLinkNest RX5 44 yX6_at RX6) ∈ lw_tbl := List.mem_of_getElem? (i := 506) (by decide +kernel)
set_option maxRecDepth 20000 in
theorem lwm_513 : (Cond.methodLinkNest RX5 66 yX6_divideUp RX6) ∈ lw_tbl := List.mem_of_getElem? (i := 513) (by decide +kernel)
set_option maxRecDepth 20000 in
theorem lwm_535 : (Cond.methodLinkNest RX5 40 yX6_add RX6) ∈ lw_tbl := List.mem_of_getElem? (i := 535) (by decide +kernel)
set_option maxRecDepth 20000 in
theorem lwm_581 : (Cond.methodLinkNest RX1 36 yX6_stateAt RX6) ∈ lw_tbl := List.mem_of_getElem? (i := 581) (by decide +kernel)
set_option maxRecDepth 20000 in
theorem lwAI : (Cond.arrayClass .int) ∈ lw_tbl := List.mem_of_getElem? (i := 110) (by decide +kernel)
set_option maxRecDepth 20000 in
theorem lwAB : (Cond.arrayClass .boolean) ∈ lw_tbl := List.mem_of_getElem? (i := 779) (by decide +kernel)
set_option maxRecDepth 20000 in
theorem lwAO : (Cond.arrayOver (.object RX3)) ∈ lw_tbl := List.mem_of_getElem? (i := 184) (by decide +kernel)
theorem lw_NM : ∀ q ∈ zNM, Cond.methodLinkNest q.1 q.2.1 q.2.2.1 q.2.2.2 ∈ lw_tbl := (List.forall_mem_cons.mpr ⟨lwm_113, (List.forall_mem_cons.mpr ⟨lwm_401, (List.forall_mem_cons.mpr ⟨lwm_154, (List.forall_mem_cons.mpr ⟨lwm_179, (List.forall_mem_cons.mpr ⟨lwm_198, (List.forall_mem_cons.mpr ⟨lwm_373, (List.forall_mem_cons.mpr ⟨lwm_326, (List.forall_mem_cons.mpr ⟨lwm_340, (List.forall_mem_cons.mpr ⟨lwm_339, (List.forall_mem_cons.mpr ⟨lwm_394, (List.forall_mem_cons.mpr ⟨lwm_581, (List.forall_mem_cons.mpr ⟨lwm_315, (List.forall_mem_cons.mpr ⟨lwm_285, (List.forall_mem_cons.mpr ⟨lwm_292, (List.forall_mem_cons.mpr ⟨lwm_408, (List.forall_mem_cons.mpr ⟨lwm_425, (List.forall_mem_cons.mpr ⟨lwm_159, (List.forall_mem_cons.mpr ⟨lwm_535, (List.forall_mem_cons.mpr ⟨lwm_506, (List.forall_mem_cons.mpr ⟨lwm_513, (fun _ h => absurd h List.not_mem_nil)⟩)⟩)⟩)⟩)⟩)⟩)⟩)⟩)⟩)⟩)⟩)⟩)⟩)⟩)⟩)⟩)⟩)⟩)⟩)⟩)
theorem lw_NF : ∀ q ∈ zNF, Cond.fieldLinkNest q.1 q.2.1 q.2.2.1 q.2.2.2.1 q.2.2.2.2.1 q.2.2.2.2.2 ∈ lw_tbl := (List.forall_mem_cons.mpr ⟨lwm_119, (List.forall_mem_cons.mpr ⟨lwm_133, (List.forall_mem_cons.mpr ⟨lwm_122, (List.forall_mem_cons.mpr ⟨lwm_136, (List.forall_mem_cons.mpr ⟨lwm_125, (List.forall_mem_cons.mpr ⟨lwm_128, (List.forall_mem_cons.mpr ⟨lwm_131, (List.forall_mem_cons.mpr ⟨lwm_161, (List.forall_mem_cons.mpr ⟨lwm_214, (List.forall_mem_cons.mpr ⟨lwm_216, (List.forall_mem_cons.mpr ⟨lwm_207, (List.forall_mem_cons.mpr ⟨lwm_208, (List.forall_mem_cons.mpr ⟨lwm_210, (List.forall_mem_cons.mpr ⟨lwm_212, (List.forall_mem_cons.mpr ⟨lwm_203, (List.forall_mem_cons.mpr ⟨lwm_205, (List.forall_mem_cons.mpr ⟨lwm_127, (List.forall_mem_cons.mpr ⟨lwm_130, (List.forall_mem_cons.mpr ⟨lwm_121, (List.forall_mem_cons.mpr ⟨lwm_118, (List.forall_mem_cons.mpr ⟨lwm_124, (List.forall_mem_cons.mpr ⟨lwm_135, (fun _ h => absurd h List.not_mem_nil)⟩)⟩)⟩)⟩)⟩)⟩)⟩)⟩)⟩)⟩)⟩)⟩)⟩)⟩)⟩)⟩)⟩)⟩)⟩)⟩)⟩)⟩)
theorem lw_in0 : Cond.instantiable RX0 8 ∈ lw_tbl := lwm_77
theorem lw_in1 : Cond.instantiable RX1 3 ∈ lw_tbl := lwm_178
theorem lw_in2 : Cond.instantiable RX2 8 ∈ lw_tbl := lwm_197
theorem lw_in3 : Cond.instantiable RX3 2 ∈ lw_tbl := lwm_400
theorem lw_in4 : Cond.instantiable RX4 7 ∈ lw_tbl := lwm_112
theorem lw_in5 : Cond.instantiable RX5 5 ∈ lw_tbl := lwm_153
theorem lw_in6 : Cond.instantiable RX6 11 ∈ lw_tbl := lwm_69
theorem lw_in7 : Cond.instantiable RX7 29 ∈ lw_tbl := lwm_682
