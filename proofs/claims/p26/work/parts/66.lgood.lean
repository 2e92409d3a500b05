/-! ===== 66.lgood: the law's own calls ===== -/
set_option maxRecDepth 20000 in
theorem lwg_X6_init : GoodIn lw_tbl wsX6_init := goodIn_sub lwl_wsX6_init (by decide +kernel)
set_option maxRecDepth 20000 in
theorem gL_law_X6_init : GoodIn lw_tbl wsX6_init := lwg_X6_init
set_option maxRecDepth 20000 in
theorem lwg_L_cell : GoodIn lw_tbl wsL_cell := goodIn_sub lwl_wsL_cell (by decide +kernel)
set_option maxRecDepth 20000 in
theorem gL_law_L_cell : GoodIn lw_tbl (va_wsS RL 96 yL_cell wsL_cell) := goodIn_app (goodIn_sub (List.forall_mem_cons.mpr ⟨lwm_233, List.forall_mem_cons.mpr ⟨lwm_234, List.forall_mem_cons.mpr ⟨lwm_20, fun _ h => absurd h List.not_mem_nil⟩⟩⟩) (by decide +kernel)) lwg_L_cell
set_option maxRecDepth 20000 in
theorem lwg_L_low : GoodIn lw_tbl wsL_low := goodIn_sub lwl_wsL_low (by decide +kernel)
set_option maxRecDepth 20000 in
theorem gL_law_L_low : GoodIn lw_tbl (va_wsS RL 19 yL_low wsL_low) := goodIn_app (goodIn_sub (List.forall_mem_cons.mpr ⟨lwm_237, List.forall_mem_cons.mpr ⟨lwm_238, List.forall_mem_cons.mpr ⟨lwm_20, fun _ h => absurd h List.not_mem_nil⟩⟩⟩) (by decide +kernel)) lwg_L_low
set_option maxRecDepth 20000 in
theorem lwg_L_change : GoodIn lw_tbl wsL_change := goodIn_sub lwl_wsL_change (by decide +kernel)
set_option maxRecDepth 20000 in
theorem gL_law_L_change : GoodIn lw_tbl (va_wsS RL 100 yL_change wsL_change) := goodIn_app (goodIn_sub (List.forall_mem_cons.mpr ⟨lwm_241, List.forall_mem_cons.mpr ⟨lwm_242, List.forall_mem_cons.mpr ⟨lwm_20, fun _ h => absurd h List.not_mem_nil⟩⟩⟩) (by decide +kernel)) lwg_L_change
set_option maxRecDepth 20000 in
theorem lwg_L_areAccounts : GoodIn lw_tbl wsL_areAccounts := goodIn_sub lwl_wsL_areAccounts (by decide +kernel)
set_option maxRecDepth 20000 in
theorem gL_law_L_areAccounts : GoodIn lw_tbl (va_wsS RL 103 yL_areAccounts wsL_areAccounts) := goodIn_app (goodIn_sub (List.forall_mem_cons.mpr ⟨lwm_601, List.forall_mem_cons.mpr ⟨lwm_602, List.forall_mem_cons.mpr ⟨lwm_20, fun _ h => absurd h List.not_mem_nil⟩⟩⟩) (by decide +kernel)) lwg_L_areAccounts
set_option maxRecDepth 20000 in
theorem lwg_L_isRanked : GoodIn lw_tbl wsL_isRanked := goodIn_sub lwl_wsL_isRanked (by decide +kernel)
set_option maxRecDepth 20000 in
theorem gL_law_L_isRanked : GoodIn lw_tbl (va_wsS RL 107 yL_isRanked wsL_isRanked) := goodIn_app (goodIn_sub (List.forall_mem_cons.mpr ⟨lwm_626, List.forall_mem_cons.mpr ⟨lwm_627, List.forall_mem_cons.mpr ⟨lwm_20, fun _ h => absurd h List.not_mem_nil⟩⟩⟩) (by decide +kernel)) lwg_L_isRanked
set_option maxRecDepth 20000 in
theorem lwg_L_isWish : GoodIn lw_tbl wsL_isWish := goodIn_sub lwl_wsL_isWish (by decide +kernel)
set_option maxRecDepth 20000 in
theorem gL_law_L_isWish : GoodIn lw_tbl (va_wsS RL 111 yL_isWish wsL_isWish) := goodIn_app (goodIn_sub (List.forall_mem_cons.mpr ⟨lwm_648, List.forall_mem_cons.mpr ⟨lwm_649, List.forall_mem_cons.mpr ⟨lwm_20, fun _ h => absurd h List.not_mem_nil⟩⟩⟩) (by decide +kernel)) lwg_L_isWish
set_option maxRecDepth 20000 in
theorem lwg_L_canHave : GoodIn lw_tbl wsL_canHave := goodIn_sub lwl_wsL_canHave (by decide +kernel)
set_option maxRecDepth 20000 in
theorem gL_law_L_canHave : GoodIn lw_tbl (va_wsS RL 115 yL_canHave wsL_canHave) := goodIn_app (goodIn_sub (List.forall_mem_cons.mpr ⟨lwm_663, List.forall_mem_cons.mpr ⟨lwm_664, List.forall_mem_cons.mpr ⟨lwm_20, fun _ h => absurd h List.not_mem_nil⟩⟩⟩) (by decide +kernel)) lwg_L_canHave
set_option maxRecDepth 20000 in
theorem lwg_L_areAlike : GoodIn lw_tbl wsL_areAlike := goodIn_sub lwl_wsL_areAlike (by decide +kernel)
set_option maxRecDepth 20000 in
theorem gL_law_L_areAlike : GoodIn lw_tbl (va_wsS RL 117 yL_areAlike wsL_areAlike) := goodIn_app (goodIn_sub (List.forall_mem_cons.mpr ⟨lwm_671, List.forall_mem_cons.mpr ⟨lwm_672, List.forall_mem_cons.mpr ⟨lwm_20, fun _ h => absurd h List.not_mem_nil⟩⟩⟩) (by decide +kernel)) lwg_L_areAlike
set_option maxRecDepth 20000 in
theorem lwAI : (Cond.arrayClass .int) ∈ lw_tbl := List.mem_of_getElem? (i := 74) (by decide +kernel)
set_option maxRecDepth 20000 in
theorem lwAO : (Cond.arrayOver (.object RX3)) ∈ lw_tbl := List.mem_of_getElem? (i := 148) (by decide +kernel)
theorem lw_NM : ∀ q ∈ zNM, Cond.methodLinkNest q.1 q.2.1 q.2.2.1 q.2.2.2 ∈ lw_tbl := (List.forall_mem_cons.mpr ⟨lwm_77, (List.forall_mem_cons.mpr ⟨lwm_391, (List.forall_mem_cons.mpr ⟨lwm_118, (List.forall_mem_cons.mpr ⟨lwm_143, (List.forall_mem_cons.mpr ⟨lwm_162, (List.forall_mem_cons.mpr ⟨lwm_363, (List.forall_mem_cons.mpr ⟨lwm_316, (List.forall_mem_cons.mpr ⟨lwm_330, (List.forall_mem_cons.mpr ⟨lwm_329, (List.forall_mem_cons.mpr ⟨lwm_384, (List.forall_mem_cons.mpr ⟨lwm_571, (List.forall_mem_cons.mpr ⟨lwm_307, (List.forall_mem_cons.mpr ⟨lwm_277, (List.forall_mem_cons.mpr ⟨lwm_284, (List.forall_mem_cons.mpr ⟨lwm_398, (List.forall_mem_cons.mpr ⟨lwm_415, (List.forall_mem_cons.mpr ⟨lwm_123, (List.forall_mem_cons.mpr ⟨lwm_525, (List.forall_mem_cons.mpr ⟨lwm_496, (List.forall_mem_cons.mpr ⟨lwm_503, (fun _ h => absurd h List.not_mem_nil)⟩)⟩)⟩)⟩)⟩)⟩)⟩)⟩)⟩)⟩)⟩)⟩)⟩)⟩)⟩)⟩)⟩)⟩)⟩)⟩)
theorem lw_NF : ∀ q ∈ zNF, Cond.fieldLinkNest q.1 q.2.1 q.2.2.1 q.2.2.2.1 q.2.2.2.2.1 q.2.2.2.2.2 ∈ lw_tbl := (List.forall_mem_cons.mpr ⟨lwm_83, (List.forall_mem_cons.mpr ⟨lwm_97, (List.forall_mem_cons.mpr ⟨lwm_86, (List.forall_mem_cons.mpr ⟨lwm_100, (List.forall_mem_cons.mpr ⟨lwm_89, (List.forall_mem_cons.mpr ⟨lwm_92, (List.forall_mem_cons.mpr ⟨lwm_95, (List.forall_mem_cons.mpr ⟨lwm_125, (List.forall_mem_cons.mpr ⟨lwm_178, (List.forall_mem_cons.mpr ⟨lwm_180, (List.forall_mem_cons.mpr ⟨lwm_171, (List.forall_mem_cons.mpr ⟨lwm_172, (List.forall_mem_cons.mpr ⟨lwm_174, (List.forall_mem_cons.mpr ⟨lwm_176, (List.forall_mem_cons.mpr ⟨lwm_167, (List.forall_mem_cons.mpr ⟨lwm_169, (List.forall_mem_cons.mpr ⟨lwm_91, (List.forall_mem_cons.mpr ⟨lwm_94, (List.forall_mem_cons.mpr ⟨lwm_85, (List.forall_mem_cons.mpr ⟨lwm_82, (List.forall_mem_cons.mpr ⟨lwm_88, (List.forall_mem_cons.mpr ⟨lwm_99, (fun _ h => absurd h List.not_mem_nil)⟩)⟩)⟩)⟩)⟩)⟩)⟩)⟩)⟩)⟩)⟩)⟩)⟩)⟩)⟩)⟩)⟩)⟩)⟩)⟩)⟩)⟩)
theorem lw_in0 : Cond.instantiable RX0 8 ∈ lw_tbl := lwm_41
theorem lw_in1 : Cond.instantiable RX1 3 ∈ lw_tbl := lwm_142
theorem lw_in2 : Cond.instantiable RX2 8 ∈ lw_tbl := lwm_161
theorem lw_in3 : Cond.instantiable RX3 2 ∈ lw_tbl := lwm_390
theorem lw_in4 : Cond.instantiable RX4 7 ∈ lw_tbl := lwm_76
theorem lw_in5 : Cond.instantiable RX5 5 ∈ lw_tbl := lwm_117
theorem lw_in6 : Cond.instantiable RX6 11 ∈ lw_tbl := lwm_33
