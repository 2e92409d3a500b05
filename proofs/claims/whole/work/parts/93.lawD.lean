set_option maxRecDepth 20000 in
theorem lwg_X6_init : GoodIn lw_tbl wsX6_init := goodIn_sub lwl_wsX6_init (by decide +kernel)
set_option maxRecDepth 20000 in
theorem gL_law_X6_init : GoodIn lw_tbl wsX6_init := lwg_X6_init
set_option maxRecDepth 20000 in
theorem lwg_X7_init : GoodIn lw_tbl wsX7_init := goodIn_sub lwl_wsX7_init (by decide +kernel)
set_option maxRecDepth 20000 in
theorem gL_law_X7_init : GoodIn lw_tbl wsX7_init := lwg_X7_init
set_option maxRecDepth 20000 in
theorem lwg_X6_recipe : GoodIn lw_tbl wsX6_recipe := goodIn_sub lwl_wsX6_recipe (by decide +kernel)
set_option maxRecDepth 20000 in
theorem gL_law_X6_recipe : GoodIn lw_tbl (wsV RL 13 RX6 yX6_recipe wsX6_recipe) := goodIn_app (goodIn_sub (List.forall_mem_cons.mpr ⟨lwm_269, List.forall_mem_cons.mpr ⟨lwm_270, List.forall_mem_cons.mpr ⟨lwm_271, List.forall_mem_cons.mpr ⟨lwm_56, fun _ h => absurd h List.not_mem_nil⟩⟩⟩⟩) (by decide +kernel)) lwg_X6_recipe
set_option maxRecDepth 20000 in
theorem lwg_X7_recipe : GoodIn lw_tbl wsX7_recipe := goodIn_sub lwl_wsX7_recipe (by decide +kernel)
set_option maxRecDepth 20000 in
theorem gL_law_X7_recipe : GoodIn lw_tbl (wsV RL 17 RX7 yX7_recipe wsX7_recipe) := goodIn_app (goodIn_sub (List.forall_mem_cons.mpr ⟨lwm_867, List.forall_mem_cons.mpr ⟨lwm_868, List.forall_mem_cons.mpr ⟨lwm_869, List.forall_mem_cons.mpr ⟨lwm_63, fun _ h => absurd h List.not_mem_nil⟩⟩⟩⟩) (by decide +kernel)) lwg_X7_recipe
set_option maxRecDepth 20000 in
theorem lwg_X6_forget : GoodIn lw_tbl wsX6_forget := goodIn_sub lwl_wsX6_forget (by decide +kernel)
set_option maxRecDepth 20000 in
theorem gL_law_X6_forget : GoodIn lw_tbl (wsV RL 18 RX6 yX6_forget wsX6_forget) := goodIn_app (goodIn_sub (List.forall_mem_cons.mpr ⟨lwm_427, List.forall_mem_cons.mpr ⟨lwm_428, List.forall_mem_cons.mpr ⟨lwm_429, List.forall_mem_cons.mpr ⟨lwm_56, fun _ h => absurd h List.not_mem_nil⟩⟩⟩⟩) (by decide +kernel)) lwg_X6_forget
set_option maxRecDepth 20000 in
theorem lwg_X7_forget : GoodIn lw_tbl wsX7_forget := goodIn_sub lwl_wsX7_forget (by decide +kernel)
set_option maxRecDepth 20000 in
theorem gL_law_X7_forget : GoodIn lw_tbl (wsV RL 22 RX7 yX7_forget wsX7_forget) := goodIn_app (goodIn_sub (List.forall_mem_cons.mpr ⟨lwm_907, List.forall_mem_cons.mpr ⟨lwm_908, List.forall_mem_cons.mpr ⟨lwm_909, List.forall_mem_cons.mpr ⟨lwm_63, fun _ h => absurd h List.not_mem_nil⟩⟩⟩⟩) (by decide +kernel)) lwg_X7_forget
set_option maxRecDepth 20000 in
theorem lwg_X6_allow : GoodIn lw_tbl wsX6_allow := goodIn_sub lwl_wsX6_allow (by decide +kernel)
set_option maxRecDepth 20000 in
theorem gL_law_X6_allow : GoodIn lw_tbl (wsV RL 23 RX6 yX6_allow wsX6_allow) := goodIn_app (goodIn_sub (List.forall_mem_cons.mpr ⟨lwm_441, List.forall_mem_cons.mpr ⟨lwm_442, List.forall_mem_cons.mpr ⟨lwm_443, List.forall_mem_cons.mpr ⟨lwm_56, fun _ h => absurd h List.not_mem_nil⟩⟩⟩⟩) (by decide +kernel)) lwg_X6_allow
set_option maxRecDepth 20000 in
theorem lwg_X7_allow : GoodIn lw_tbl wsX7_allow := goodIn_sub lwl_wsX7_allow (by decide +kernel)
set_option maxRecDepth 20000 in
theorem gL_law_X7_allow : GoodIn lw_tbl (wsV RL 27 RX7 yX7_allow wsX7_allow) := goodIn_app (goodIn_sub (List.forall_mem_cons.mpr ⟨lwm_911, List.forall_mem_cons.mpr ⟨lwm_912, List.forall_mem_cons.mpr ⟨lwm_913, List.forall_mem_cons.mpr ⟨lwm_63, fun _ h => absurd h List.not_mem_nil⟩⟩⟩⟩) (by decide +kernel)) lwg_X7_allow
set_option maxRecDepth 20000 in
theorem lwg_X6_forbid : GoodIn lw_tbl wsX6_forbid := goodIn_sub lwl_wsX6_forbid (by decide +kernel)
set_option maxRecDepth 20000 in
theorem gL_law_X6_forbid : GoodIn lw_tbl (wsV RL 28 RX6 yX6_forbid wsX6_forbid) := goodIn_app (goodIn_sub (List.forall_mem_cons.mpr ⟨lwm_454, List.forall_mem_cons.mpr ⟨lwm_455, List.forall_mem_cons.mpr ⟨lwm_456, List.forall_mem_cons.mpr ⟨lwm_56, fun _ h => absurd h List.not_mem_nil⟩⟩⟩⟩) (by decide +kernel)) lwg_X6_forbid
set_option maxRecDepth 20000 in
theorem lwg_X7_forbid : GoodIn lw_tbl wsX7_forbid := goodIn_sub lwl_wsX7_forbid (by decide +kernel)
set_option maxRecDepth 20000 in
theorem gL_law_X7_forbid : GoodIn lw_tbl (wsV RL 31 RX7 yX7_forbid wsX7_forbid) := goodIn_app (goodIn_sub (List.forall_mem_cons.mpr ⟨lwm_915, List.forall_mem_cons.mpr ⟨lwm_916, List.forall_mem_cons.mpr ⟨lwm_917, List.forall_mem_cons.mpr ⟨lwm_63, fun _ h => absurd h List.not_mem_nil⟩⟩⟩⟩) (by decide +kernel)) lwg_X7_forbid
set_option maxRecDepth 20000 in
theorem lwg_X6_vessel : GoodIn lw_tbl wsX6_vessel := goodIn_sub lwl_wsX6_vessel (by decide +kernel)
set_option maxRecDepth 20000 in
theorem gL_law_X6_vessel : GoodIn lw_tbl (wsV RL 32 RX6 yX6_vessel wsX6_vessel) := goodIn_app (goodIn_sub (List.forall_mem_cons.mpr ⟨lwm_463, List.forall_mem_cons.mpr ⟨lwm_464, List.forall_mem_cons.mpr ⟨lwm_465, List.forall_mem_cons.mpr ⟨lwm_56, fun _ h => absurd h List.not_mem_nil⟩⟩⟩⟩) (by decide +kernel)) lwg_X6_vessel
set_option maxRecDepth 20000 in
theorem lwg_X7_vessel : GoodIn lw_tbl wsX7_vessel := goodIn_sub lwl_wsX7_vessel (by decide +kernel)
set_option maxRecDepth 20000 in
theorem gL_law_X7_vessel : GoodIn lw_tbl (wsV RL 35 RX7 yX7_vessel wsX7_vessel) := goodIn_app (goodIn_sub (List.forall_mem_cons.mpr ⟨lwm_919, List.forall_mem_cons.mpr ⟨lwm_920, List.forall_mem_cons.mpr ⟨lwm_921, List.forall_mem_cons.mpr ⟨lwm_63, fun _ h => absurd h List.not_mem_nil⟩⟩⟩⟩) (by decide +kernel)) lwg_X7_vessel
set_option maxRecDepth 20000 in
theorem lwg_X6_bring : GoodIn lw_tbl wsX6_bring := goodIn_sub lwl_wsX6_bring (by decide +kernel)
set_option maxRecDepth 20000 in
theorem gL_law_X6_bring : GoodIn lw_tbl (wsV RL 36 RX6 yX6_bring wsX6_bring) := goodIn_app (goodIn_sub (List.forall_mem_cons.mpr ⟨lwm_480, List.forall_mem_cons.mpr ⟨lwm_481, List.forall_mem_cons.mpr ⟨lwm_482, List.forall_mem_cons.mpr ⟨lwm_56, fun _ h => absurd h List.not_mem_nil⟩⟩⟩⟩) (by decide +kernel)) lwg_X6_bring
set_option maxRecDepth 20000 in
theorem lwg_X7_bring : GoodIn lw_tbl wsX7_bring := goodIn_sub lwl_wsX7_bring (by decide +kernel)
set_option maxRecDepth 20000 in
theorem gL_law_X7_bring : GoodIn lw_tbl (wsV RL 39 RX7 yX7_bring wsX7_bring) := goodIn_app (goodIn_sub (List.forall_mem_cons.mpr ⟨lwm_927, List.forall_mem_cons.mpr ⟨lwm_928, List.forall_mem_cons.mpr ⟨lwm_929, List.forall_mem_cons.mpr ⟨lwm_63, fun _ h => absurd h List.not_mem_nil⟩⟩⟩⟩) (by decide +kernel)) lwg_X7_bring
set_option maxRecDepth 20000 in
theorem lwg_X6_wish : GoodIn lw_tbl wsX6_wish := goodIn_sub lwl_wsX6_wish (by decide +kernel)
set_option maxRecDepth 20000 in
theorem gL_law_X6_wish : GoodIn lw_tbl (wsV RL 40 RX6 yX6_wish wsX6_wish) := goodIn_app (goodIn_sub (List.forall_mem_cons.mpr ⟨lwm_490, List.forall_mem_cons.mpr ⟨lwm_491, List.forall_mem_cons.mpr ⟨lwm_492, List.forall_mem_cons.mpr ⟨lwm_56, fun _ h => absurd h List.not_mem_nil⟩⟩⟩⟩) (by decide +kernel)) lwg_X6_wish
set_option maxRecDepth 20000 in
theorem lwg_X7_wish : GoodIn lw_tbl wsX7_wish := goodIn_sub lwl_wsX7_wish (by decide +kernel)
set_option maxRecDepth 20000 in
theorem gL_law_X7_wish : GoodIn lw_tbl (wsV RL 43 RX7 yX7_wish wsX7_wish) := goodIn_app (goodIn_sub (List.forall_mem_cons.mpr ⟨lwm_780, List.forall_mem_cons.mpr ⟨lwm_781, List.forall_mem_cons.mpr ⟨lwm_782, List.forall_mem_cons.mpr ⟨lwm_63, fun _ h => absurd h List.not_mem_nil⟩⟩⟩⟩) (by decide +kernel)) lwg_X7_wish
set_option maxRecDepth 20000 in
theorem lwg_X6_make : GoodIn lw_tbl wsX6_make := goodIn_sub lwl_wsX6_make (by decide +kernel)
set_option maxRecDepth 20000 in
theorem gL_law_X6_make : GoodIn lw_tbl (wsV RL 44 RX6 yX6_make wsX6_make) := goodIn_app (goodIn_sub (List.forall_mem_cons.mpr ⟨lwm_561, List.forall_mem_cons.mpr ⟨lwm_562, List.forall_mem_cons.mpr ⟨lwm_563, List.forall_mem_cons.mpr ⟨lwm_56, fun _ h => absurd h List.not_mem_nil⟩⟩⟩⟩) (by decide +kernel)) lwg_X6_make
set_option maxRecDepth 20000 in
theorem lwg_X7_make : GoodIn lw_tbl wsX7_make := goodIn_sub lwl_wsX7_make (by decide +kernel)
set_option maxRecDepth 20000 in
theorem gL_law_X7_make : GoodIn lw_tbl (wsV RL 47 RX7 yX7_make wsX7_make) := goodIn_app (goodIn_sub (List.forall_mem_cons.mpr ⟨lwm_863, List.forall_mem_cons.mpr ⟨lwm_864, List.forall_mem_cons.mpr ⟨lwm_865, List.forall_mem_cons.mpr ⟨lwm_63, fun _ h => absurd h List.not_mem_nil⟩⟩⟩⟩) (by decide +kernel)) lwg_X7_make
set_option maxRecDepth 20000 in
theorem lwg_X6_undo : GoodIn lw_tbl wsX6_undo := goodIn_sub lwl_wsX6_undo (by decide +kernel)
set_option maxRecDepth 20000 in
theorem gL_law_X6_undo : GoodIn lw_tbl (wsV RL 48 RX6 yX6_undo wsX6_undo) := goodIn_app (goodIn_sub (List.forall_mem_cons.mpr ⟨lwm_569, List.forall_mem_cons.mpr ⟨lwm_570, List.forall_mem_cons.mpr ⟨lwm_571, List.forall_mem_cons.mpr ⟨lwm_56, fun _ h => absurd h List.not_mem_nil⟩⟩⟩⟩) (by decide +kernel)) lwg_X6_undo
set_option maxRecDepth 20000 in
theorem lwg_X7_undo : GoodIn lw_tbl wsX7_undo := goodIn_sub lwl_wsX7_undo (by decide +kernel)
set_option maxRecDepth 20000 in
theorem gL_law_X7_undo : GoodIn lw_tbl (wsV RL 51 RX7 yX7_undo wsX7_undo) := goodIn_app (goodIn_sub (List.forall_mem_cons.mpr ⟨lwm_931, List.forall_mem_cons.mpr ⟨lwm_932, List.forall_mem_cons.mpr ⟨lwm_933, List.forall_mem_cons.mpr ⟨lwm_63, fun _ h => absurd h List.not_mem_nil⟩⟩⟩⟩) (by decide +kernel)) lwg_X7_undo
set_option maxRecDepth 20000 in
theorem lwg_X6_write : GoodIn lw_tbl wsX6_write := goodIn_sub lwl_wsX6_write (by decide +kernel)
set_option maxRecDepth 20000 in
theorem gL_law_X6_write : GoodIn lw_tbl (wsV RL 52 RX6 yX6_write wsX6_write) := goodIn_app (goodIn_sub (List.forall_mem_cons.mpr ⟨lwm_586, List.forall_mem_cons.mpr ⟨lwm_587, List.forall_mem_cons.mpr ⟨lwm_588, List.forall_mem_cons.mpr ⟨lwm_56, fun _ h => absurd h List.not_mem_nil⟩⟩⟩⟩) (by decide +kernel)) lwg_X6_write
set_option maxRecDepth 20000 in
theorem lwg_X7_write : GoodIn lw_tbl wsX7_write := goodIn_sub lwl_wsX7_write (by decide +kernel)
set_option maxRecDepth 20000 in
theorem gL_law_X7_write : GoodIn lw_tbl (wsV RL 55 RX7 yX7_write wsX7_write) := goodIn_app (goodIn_sub (List.forall_mem_cons.mpr ⟨lwm_935, List.forall_mem_cons.mpr ⟨lwm_936, List.forall_mem_cons.mpr ⟨lwm_937, List.forall_mem_cons.mpr ⟨lwm_63, fun _ h => absurd h List.not_mem_nil⟩⟩⟩⟩) (by decide +kernel)) lwg_X7_write
set_option maxRecDepth 20000 in
theorem lwg_X6_wipe : GoodIn lw_tbl wsX6_wipe := goodIn_sub lwl_wsX6_wipe (by decide +kernel)
set_option maxRecDepth 20000 in
theorem gL_law_X6_wipe : GoodIn lw_tbl (wsV RL 56 RX6 yX6_wipe wsX6_wipe) := goodIn_app (goodIn_sub (List.forall_mem_cons.mpr ⟨lwm_591, List.forall_mem_cons.mpr ⟨lwm_592, List.forall_mem_cons.mpr ⟨lwm_593, List.forall_mem_cons.mpr ⟨lwm_56, fun _ h => absurd h List.not_mem_nil⟩⟩⟩⟩) (by decide +kernel)) lwg_X6_wipe
set_option maxRecDepth 20000 in
theorem lwg_X7_wipe : GoodIn lw_tbl wsX7_wipe := goodIn_sub lwl_wsX7_wipe (by decide +kernel)
set_option maxRecDepth 20000 in
theorem gL_law_X7_wipe : GoodIn lw_tbl (wsV RL 59 RX7 yX7_wipe wsX7_wipe) := goodIn_app (goodIn_sub (List.forall_mem_cons.mpr ⟨lwm_939, List.forall_mem_cons.mpr ⟨lwm_940, List.forall_mem_cons.mpr ⟨lwm_941, List.forall_mem_cons.mpr ⟨lwm_63, fun _ h => absurd h List.not_mem_nil⟩⟩⟩⟩) (by decide +kernel)) lwg_X7_wipe
set_option maxRecDepth 20000 in
theorem lwg_X6_fault : GoodIn lw_tbl wsX6_fault := goodIn_sub lwl_wsX6_fault (by decide +kernel)
set_option maxRecDepth 20000 in
theorem gL_law_X6_fault : GoodIn lw_tbl (wsV RL 60 RX6 yX6_fault wsX6_fault) := goodIn_app (goodIn_sub (List.forall_mem_cons.mpr ⟨lwm_595, List.forall_mem_cons.mpr ⟨lwm_596, List.forall_mem_cons.mpr ⟨lwm_597, List.forall_mem_cons.mpr ⟨lwm_56, fun _ h => absurd h List.not_mem_nil⟩⟩⟩⟩) (by decide +kernel)) lwg_X6_fault
set_option maxRecDepth 20000 in
theorem lwg_X7_fault : GoodIn lw_tbl wsX7_fault := goodIn_sub lwl_wsX7_fault (by decide +kernel)
set_option maxRecDepth 20000 in
theorem gL_law_X7_fault : GoodIn lw_tbl (wsV RL 63 RX7 yX7_fault wsX7_fault) := goodIn_app (goodIn_sub (List.forall_mem_cons.mpr ⟨lwm_943, List.forall_mem_cons.mpr ⟨lwm_944, List.forall_mem_cons.mpr ⟨lwm_945, List.forall_mem_cons.mpr ⟨lwm_63, fun _ h => absurd h List.not_mem_nil⟩⟩⟩⟩) (by decide +kernel)) lwg_X7_fault
set_option maxRecDepth 20000 in
theorem lwg_X6_told : GoodIn lw_tbl wsX6_told := goodIn_sub lwl_wsX6_told (by decide +kernel)
set_option maxRecDepth 20000 in
theorem gL_law_X6_told : GoodIn lw_tbl (wsV RL 64 RX6 yX6_told wsX6_told) := goodIn_app (goodIn_sub (List.forall_mem_cons.mpr ⟨lwm_599, List.forall_mem_cons.mpr ⟨lwm_600, List.forall_mem_cons.mpr ⟨lwm_601, List.forall_mem_cons.mpr ⟨lwm_56, fun _ h => absurd h List.not_mem_nil⟩⟩⟩⟩) (by decide +kernel)) lwg_X6_told
set_option maxRecDepth 20000 in
theorem lwg_X7_told : GoodIn lw_tbl wsX7_told := goodIn_sub lwl_wsX7_told (by decide +kernel)
set_option maxRecDepth 20000 in
theorem gL_law_X7_told : GoodIn lw_tbl (wsV RL 67 RX7 yX7_told wsX7_told) := goodIn_app (goodIn_sub (List.forall_mem_cons.mpr ⟨lwm_947, List.forall_mem_cons.mpr ⟨lwm_948, List.forall_mem_cons.mpr ⟨lwm_949, List.forall_mem_cons.mpr ⟨lwm_63, fun _ h => absurd h List.not_mem_nil⟩⟩⟩⟩) (by decide +kernel)) lwg_X7_told
set_option maxRecDepth 20000 in
theorem lwg_X6_thing : GoodIn lw_tbl wsX6_thing := goodIn_sub lwl_wsX6_thing (by decide +kernel)
set_option maxRecDepth 20000 in
theorem gL_law_X6_thing : GoodIn lw_tbl (wsV RL 68 RX6 yX6_thing wsX6_thing) := goodIn_app (goodIn_sub (List.forall_mem_cons.mpr ⟨lwm_625, List.forall_mem_cons.mpr ⟨lwm_626, List.forall_mem_cons.mpr ⟨lwm_627, List.forall_mem_cons.mpr ⟨lwm_56, fun _ h => absurd h List.not_mem_nil⟩⟩⟩⟩) (by decide +kernel)) lwg_X6_thing
set_option maxRecDepth 20000 in
theorem lwg_X7_thing : GoodIn lw_tbl wsX7_thing := goodIn_sub lwl_wsX7_thing (by decide +kernel)
set_option maxRecDepth 20000 in
theorem gL_law_X7_thing : GoodIn lw_tbl (wsV RL 71 RX7 yX7_thing wsX7_thing) := goodIn_app (goodIn_sub (List.forall_mem_cons.mpr ⟨lwm_967, List.forall_mem_cons.mpr ⟨lwm_968, List.forall_mem_cons.mpr ⟨lwm_969, List.forall_mem_cons.mpr ⟨lwm_63, fun _ h => absurd h List.not_mem_nil⟩⟩⟩⟩) (by decide +kernel)) lwg_X7_thing
set_option maxRecDepth 20000 in
theorem lwg_X6_ingredient : GoodIn lw_tbl wsX6_ingredient := goodIn_sub lwl_wsX6_ingredient (by decide +kernel)
set_option maxRecDepth 20000 in
theorem gL_law_X6_ingredient : GoodIn lw_tbl (wsV RL 72 RX6 yX6_ingredient wsX6_ingredient) := goodIn_app (goodIn_sub (List.forall_mem_cons.mpr ⟨lwm_630, List.forall_mem_cons.mpr ⟨lwm_631, List.forall_mem_cons.mpr ⟨lwm_632, List.forall_mem_cons.mpr ⟨lwm_56, fun _ h => absurd h List.not_mem_nil⟩⟩⟩⟩) (by decide +kernel)) lwg_X6_ingredient
set_option maxRecDepth 20000 in
theorem lwg_X7_ingredient : GoodIn lw_tbl wsX7_ingredient := goodIn_sub lwl_wsX7_ingredient (by decide +kernel)
set_option maxRecDepth 20000 in
theorem gL_law_X7_ingredient : GoodIn lw_tbl (wsV RL 76 RX7 yX7_ingredient wsX7_ingredient) := goodIn_app (goodIn_sub (List.forall_mem_cons.mpr ⟨lwm_971, List.forall_mem_cons.mpr ⟨lwm_972, List.forall_mem_cons.mpr ⟨lwm_973, List.forall_mem_cons.mpr ⟨lwm_63, fun _ h => absurd h List.not_mem_nil⟩⟩⟩⟩) (by decide +kernel)) lwg_X7_ingredient
set_option maxRecDepth 20000 in
theorem lwg_X6_substitute : GoodIn lw_tbl wsX6_substitute := goodIn_sub lwl_wsX6_substitute (by decide +kernel)
set_option maxRecDepth 20000 in
theorem gL_law_X6_substitute : GoodIn lw_tbl (wsV RL 77 RX6 yX6_substitute wsX6_substitute) := goodIn_app (goodIn_sub (List.forall_mem_cons.mpr ⟨lwm_636, List.forall_mem_cons.mpr ⟨lwm_637, List.forall_mem_cons.mpr ⟨lwm_638, List.forall_mem_cons.mpr ⟨lwm_56, fun _ h => absurd h List.not_mem_nil⟩⟩⟩⟩) (by decide +kernel)) lwg_X6_substitute
set_option maxRecDepth 20000 in
theorem lwg_X7_substitute : GoodIn lw_tbl wsX7_substitute := goodIn_sub lwl_wsX7_substitute (by decide +kernel)
set_option maxRecDepth 20000 in
theorem gL_law_X7_substitute : GoodIn lw_tbl (wsV RL 80 RX7 yX7_substitute wsX7_substitute) := goodIn_app (goodIn_sub (List.forall_mem_cons.mpr ⟨lwm_975, List.forall_mem_cons.mpr ⟨lwm_976, List.forall_mem_cons.mpr ⟨lwm_977, List.forall_mem_cons.mpr ⟨lwm_63, fun _ h => absurd h List.not_mem_nil⟩⟩⟩⟩) (by decide +kernel)) lwg_X7_substitute
set_option maxRecDepth 20000 in
theorem lwg_X6_isNeeded : GoodIn lw_tbl wsX6_isNeeded := goodIn_sub lwl_wsX6_isNeeded (by decide +kernel)
set_option maxRecDepth 20000 in
theorem gL_law_X6_isNeeded : GoodIn lw_tbl (wsV RL 81 RX6 yX6_isNeeded wsX6_isNeeded) := goodIn_app (goodIn_sub (List.forall_mem_cons.mpr ⟨lwm_640, List.forall_mem_cons.mpr ⟨lwm_641, List.forall_mem_cons.mpr ⟨lwm_642, List.forall_mem_cons.mpr ⟨lwm_56, fun _ h => absurd h List.not_mem_nil⟩⟩⟩⟩) (by decide +kernel)) lwg_X6_isNeeded
set_option maxRecDepth 20000 in
theorem lwg_X7_isNeeded : GoodIn lw_tbl wsX7_isNeeded := goodIn_sub lwl_wsX7_isNeeded (by decide +kernel)
set_option maxRecDepth 20000 in
theorem gL_law_X7_isNeeded : GoodIn lw_tbl (wsV RL 84 RX7 yX7_isNeeded wsX7_isNeeded) := goodIn_app (goodIn_sub (List.forall_mem_cons.mpr ⟨lwm_979, List.forall_mem_cons.mpr ⟨lwm_980, List.forall_mem_cons.mpr ⟨lwm_981, List.forall_mem_cons.mpr ⟨lwm_63, fun _ h => absurd h List.not_mem_nil⟩⟩⟩⟩) (by decide +kernel)) lwg_X7_isNeeded
set_option maxRecDepth 20000 in
theorem lwg_X6_share : GoodIn lw_tbl wsX6_share := goodIn_sub lwl_wsX6_share (by decide +kernel)
set_option maxRecDepth 20000 in
theorem gL_law_X6_share : GoodIn lw_tbl (wsV RL 85 RX6 yX6_share wsX6_share) := goodIn_app (goodIn_sub (List.forall_mem_cons.mpr ⟨lwm_649, List.forall_mem_cons.mpr ⟨lwm_650, List.forall_mem_cons.mpr ⟨lwm_651, List.forall_mem_cons.mpr ⟨lwm_56, fun _ h => absurd h List.not_mem_nil⟩⟩⟩⟩) (by decide +kernel)) lwg_X6_share
set_option maxRecDepth 20000 in
theorem lwg_X7_share : GoodIn lw_tbl wsX7_share := goodIn_sub lwl_wsX7_share (by decide +kernel)
set_option maxRecDepth 20000 in
theorem gL_law_X7_share : GoodIn lw_tbl (wsV RL 89 RX7 yX7_share wsX7_share) := goodIn_app (goodIn_sub (List.forall_mem_cons.mpr ⟨lwm_987, List.forall_mem_cons.mpr ⟨lwm_988, List.forall_mem_cons.mpr ⟨lwm_989, List.forall_mem_cons.mpr ⟨lwm_63, fun _ h => absurd h List.not_mem_nil⟩⟩⟩⟩) (by decide +kernel)) lwg_X7_share
set_option maxRecDepth 20000 in
theorem lwg_X6_gather : GoodIn lw_tbl wsX6_gather := goodIn_sub lwl_wsX6_gather (by decide +kernel)
set_option maxRecDepth 20000 in
theorem gL_law_X6_gather : GoodIn lw_tbl (wsV RL 90 RX6 yX6_gather wsX6_gather) := goodIn_app (goodIn_sub (List.forall_mem_cons.mpr ⟨lwm_653, List.forall_mem_cons.mpr ⟨lwm_654, List.forall_mem_cons.mpr ⟨lwm_655, List.forall_mem_cons.mpr ⟨lwm_56, fun _ h => absurd h List.not_mem_nil⟩⟩⟩⟩) (by decide +kernel)) lwg_X6_gather
set_option maxRecDepth 20000 in
theorem lwg_X7_gather : GoodIn lw_tbl wsX7_gather := goodIn_sub lwl_wsX7_gather (by decide +kernel)
set_option maxRecDepth 20000 in
theorem gL_law_X7_gather : GoodIn lw_tbl (wsV RL 93 RX7 yX7_gather wsX7_gather) := goodIn_app (goodIn_sub (List.forall_mem_cons.mpr ⟨lwm_991, List.forall_mem_cons.mpr ⟨lwm_992, List.forall_mem_cons.mpr ⟨lwm_993, List.forall_mem_cons.mpr ⟨lwm_63, fun _ h => absurd h List.not_mem_nil⟩⟩⟩⟩) (by decide +kernel)) lwg_X7_gather
set_option maxRecDepth 20000 in
theorem lwg_X6_canHave : GoodIn lw_tbl wsX6_canHave := goodIn_sub lwl_wsX6_canHave (by decide +kernel)
set_option maxRecDepth 20000 in
theorem gL_law_X6_canHave : GoodIn lw_tbl (wsV RL 94 RX6 yX6_canHave wsX6_canHave) := goodIn_app (goodIn_sub (List.forall_mem_cons.mpr ⟨lwm_657, List.forall_mem_cons.mpr ⟨lwm_658, List.forall_mem_cons.mpr ⟨lwm_659, List.forall_mem_cons.mpr ⟨lwm_56, fun _ h => absurd h List.not_mem_nil⟩⟩⟩⟩) (by decide +kernel)) lwg_X6_canHave
set_option maxRecDepth 20000 in
theorem lwg_X7_canHave : GoodIn lw_tbl wsX7_canHave := goodIn_sub lwl_wsX7_canHave (by decide +kernel)
set_option maxRecDepth 20000 in
theorem gL_law_X7_canHave : GoodIn lw_tbl (wsV RL 97 RX7 yX7_canHave wsX7_canHave) := goodIn_app (goodIn_sub (List.forall_mem_cons.mpr ⟨lwm_999, List.forall_mem_cons.mpr ⟨lwm_1000, List.forall_mem_cons.mpr ⟨lwm_1001, List.forall_mem_cons.mpr ⟨lwm_63, fun _ h => absurd h List.not_mem_nil⟩⟩⟩⟩) (by decide +kernel)) lwg_X7_canHave
set_option maxRecDepth 20000 in
theorem lwg_X6_bestGift : GoodIn lw_tbl wsX6_bestGift := goodIn_sub lwl_wsX6_bestGift (by decide +kernel)
set_option maxRecDepth 20000 in
theorem gL_law_X6_bestGift : GoodIn lw_tbl (wsV RL 98 RX6 yX6_bestGift wsX6_bestGift) := goodIn_app (goodIn_sub (List.forall_mem_cons.mpr ⟨lwm_662, List.forall_mem_cons.mpr ⟨lwm_663, List.forall_mem_cons.mpr ⟨lwm_664, List.forall_mem_cons.mpr ⟨lwm_56, fun _ h => absurd h List.not_mem_nil⟩⟩⟩⟩) (by decide +kernel)) lwg_X6_bestGift
set_option maxRecDepth 20000 in
theorem lwg_X7_bestGift : GoodIn lw_tbl wsX7_bestGift := goodIn_sub lwl_wsX7_bestGift (by decide +kernel)
set_option maxRecDepth 20000 in
theorem gL_law_X7_bestGift : GoodIn lw_tbl (wsV RL 101 RX7 yX7_bestGift wsX7_bestGift) := goodIn_app (goodIn_sub (List.forall_mem_cons.mpr ⟨lwm_1003, List.forall_mem_cons.mpr ⟨lwm_1004, List.forall_mem_cons.mpr ⟨lwm_1005, List.forall_mem_cons.mpr ⟨lwm_63, fun _ h => absurd h List.not_mem_nil⟩⟩⟩⟩) (by decide +kernel)) lwg_X7_bestGift
set_option maxRecDepth 20000 in
theorem lwg_X6_keep : GoodIn lw_tbl wsX6_keep := goodIn_sub lwl_wsX6_keep (by decide +kernel)
set_option maxRecDepth 20000 in
theorem gL_law_X6_keep : GoodIn lw_tbl (wsV RL 102 RX6 yX6_keep wsX6_keep) := goodIn_app (goodIn_sub (List.forall_mem_cons.mpr ⟨lwm_670, List.forall_mem_cons.mpr ⟨lwm_671, List.forall_mem_cons.mpr ⟨lwm_672, List.forall_mem_cons.mpr ⟨lwm_56, fun _ h => absurd h List.not_mem_nil⟩⟩⟩⟩) (by decide +kernel)) lwg_X6_keep
set_option maxRecDepth 20000 in
theorem lwg_X7_keep : GoodIn lw_tbl wsX7_keep := goodIn_sub lwl_wsX7_keep (by decide +kernel)
set_option maxRecDepth 20000 in
theorem gL_law_X7_keep : GoodIn lw_tbl (wsV RL 105 RX7 yX7_keep wsX7_keep) := goodIn_app (goodIn_sub (List.forall_mem_cons.mpr ⟨lwm_1007, List.forall_mem_cons.mpr ⟨lwm_1008, List.forall_mem_cons.mpr ⟨lwm_1009, List.forall_mem_cons.mpr ⟨lwm_63, fun _ h => absurd h List.not_mem_nil⟩⟩⟩⟩) (by decide +kernel)) lwg_X7_keep
set_option maxRecDepth 20000 in
theorem lwg_X6_back : GoodIn lw_tbl wsX6_back := goodIn_sub lwl_wsX6_back (by decide +kernel)
set_option maxRecDepth 20000 in
theorem gL_law_X6_back : GoodIn lw_tbl (wsV RL 106 RX6 yX6_back wsX6_back) := goodIn_app (goodIn_sub (List.forall_mem_cons.mpr ⟨lwm_676, List.forall_mem_cons.mpr ⟨lwm_677, List.forall_mem_cons.mpr ⟨lwm_678, List.forall_mem_cons.mpr ⟨lwm_56, fun _ h => absurd h List.not_mem_nil⟩⟩⟩⟩) (by decide +kernel)) lwg_X6_back
set_option maxRecDepth 20000 in
theorem lwg_X7_back : GoodIn lw_tbl wsX7_back := goodIn_sub lwl_wsX7_back (by decide +kernel)
set_option maxRecDepth 20000 in
theorem gL_law_X7_back : GoodIn lw_tbl (wsV RL 109 RX7 yX7_back wsX7_back) := goodIn_app (goodIn_sub (List.forall_mem_cons.mpr ⟨lwm_1014, List.forall_mem_cons.mpr ⟨lwm_1015, List.forall_mem_cons.mpr ⟨lwm_1016, List.forall_mem_cons.mpr ⟨lwm_63, fun _ h => absurd h List.not_mem_nil⟩⟩⟩⟩) (by decide +kernel)) lwg_X7_back
