/-! ===== 11.help: the class's own helpers, by program ===== -/
def cAt (n : Nat) (f : Nat → Int32) (i : Int32) : Int32 := if i < 0 then 0 else if nI n ≤ i then 0 else f i.toNatClampNeg
def cPut (n : Nat) (f : Nat → Int32) (i v : Int32) : Nat → Int32 := if i < 0 then f else if nI n ≤ i then f else upd f i.toNatClampNeg v
def cAdd (n : Nat) (f : Nat → Int32) (i v : Int32) : Nat → Int32 := if i < 0 then f else if nI n ≤ i then f else upd f i.toNatClampNeg (f i.toNatClampNeg + v)
def cSum (f : Nat → Int32) : Nat → Int32
  | 0 => 0
  | n + 1 => cSum f n + f n
def cIsThing (t : Int32) : Int32 := if t < 0 then 0 else if 20 ≤ t then 0 else 1
def cIsWished (n : Int32) : Int32 := if n < 1 then 0 else if 999 < n then 0 else 1
def cHasBit (s k : Int32) : Int32 := if (s >>> (k &&& 31)) &&& 1 = 0 then 0 else 1
def cDivUp (n d : Int32) : Int32 := if 1 ≤ d then (n + d - 1) / d else 0
def cCopy (n : Nat) (f g : Nat → Int32) : Nat → Int32 := fun k => if k < n then f k else g k
theorem va_up_same {α : Type} (F : Nat → α) (a : Nat) : va_up F a (F a) = F := by
  funext j
  by_cases h : j = a
  · subst h
    simp [va_up]
  · simp [va_up, h]
theorem zu_up (F : Nat → Nat → Int32) (i k : Nat) (x : Int32) : zu F i k x = va_up F i (upd (F i) k x) := rfl
theorem zend {i n : Nat} (hi : i ≤ n) (hn : n < 2 ^ 31) (c : nI n ≤ nI i) : i = n := by
  rcases Nat.lt_or_ge i n with h | h
  · exact absurd c (nI_ge h hn)
  · omega
theorem zlt {i n : Nat} (hi : i ≤ n) (hn : n < 2 ^ 31) (c : ¬ nI n ≤ nI i) : i < n := by
  rcases Nat.lt_or_ge i n with h | h
  · exact h
  · exact absurd (nI_le h (by omega)) c
theorem zin {i : Int32} {n : Nat} (hn : n < 2 ^ 31) (h0 : ¬ i < 0) (h1 : ¬ nI n ≤ i) : vp_in i n := by
  rcases pk_ix i hn with h | h | ⟨j, hj, rfl⟩
  · exact absurd h h0
  · exact absurd h h1
  · exact vp_in_nI hj hn
theorem cCopy_cpy {n : Nat} (hn : n < 2 ^ 31) (f g : Nat → Int32) : va_cpy f g (0 : Int32).toNatClampNeg (0 : Int32).toNatClampNeg (nI n).toNatClampNeg = cCopy n f g := by
  funext k
  have h0 : (0 : Int32).toNatClampNeg = 0 := by decide
  simp [va_cpy, cCopy, h0, nI_clamp hn]

theorem q_X0_init : zCal yX0_init wsX0_init 0 none := ⟨⟨cX0_init, 1, _, rfl, by decide⟩, by decide, by decide, by decide +kernel⟩

theorem q_X0_copyFrom : zCal yX0_copyFrom wsX0_copyFrom 1 none := ⟨⟨cX0_copyFrom, 2, _, rfl, by decide⟩, by decide, by decide, by decide +kernel⟩

theorem q_X0_isMade : zCal yX0_isMade wsX0_isMade 1 (some .boolean) := ⟨⟨cX0_isMade, 2, _, rfl, by decide⟩, by decide, by decide, by decide +kernel⟩

theorem q_X0_yieldOf : zCal yX0_yieldOf wsX0_yieldOf 1 (some .int) := ⟨⟨cX0_yieldOf, 2, _, rfl, by decide⟩, by decide, by decide, by decide +kernel⟩

theorem q_X0_ingredientsOf : zCal yX0_ingredientsOf wsX0_ingredientsOf 1 (some .int) := ⟨⟨cX0_ingredientsOf, 2, _, rfl, by decide⟩, by decide, by decide, by decide +kernel⟩

theorem q_X0_ingredientAt : zCal yX0_ingredientAt wsX0_ingredientAt 2 (some .int) := ⟨⟨cX0_ingredientAt, 3, _, rfl, by decide⟩, by decide, by decide, by decide +kernel⟩

theorem q_X0_amountAt : zCal yX0_amountAt wsX0_amountAt 2 (some .int) := ⟨⟨cX0_amountAt, 3, _, rfl, by decide⟩, by decide, by decide, by decide +kernel⟩

theorem q_X0_substitutesOf : zCal yX0_substitutesOf wsX0_substitutesOf 1 (some .int) := ⟨⟨cX0_substitutesOf, 2, _, rfl, by decide⟩, by decide, by decide, by decide +kernel⟩

theorem q_X0_substituteAt : zCal yX0_substituteAt wsX0_substituteAt 2 (some .int) := ⟨⟨cX0_substituteAt, 3, _, rfl, by decide⟩, by decide, by decide, by decide +kernel⟩

theorem q_X0_vesselOf : zCal yX0_vesselOf wsX0_vesselOf 1 (some .int) := ⟨⟨cX0_vesselOf, 2, _, rfl, by decide⟩, by decide, by decide, by decide +kernel⟩

theorem q_X0_rankOf : zCal yX0_rankOf wsX0_rankOf 1 (some .int) := ⟨⟨cX0_rankOf, 2, _, rfl, by decide⟩, by decide, by decide, by decide +kernel⟩

theorem q_X0_recipes : zCal yX0_recipes wsX0_recipes 0 (some .int) := ⟨⟨cX0_recipes, 1, _, rfl, by decide⟩, by decide, by decide, by decide +kernel⟩

theorem q_X0_madeThings : zCal yX0_madeThings wsX0_madeThings 0 (some .int) := ⟨⟨cX0_madeThings, 3, _, rfl, by decide⟩, by decide, by decide, by decide +kernel⟩

theorem q_X0_greatestRank : zCal yX0_greatestRank wsX0_greatestRank 0 (some .int) := ⟨⟨cX0_greatestRank, 3, _, rfl, by decide⟩, by decide, by decide, by decide +kernel⟩

theorem q_X0_lay : zCal yX0_lay wsX0_lay 1 none := ⟨⟨cX0_lay, 4, _, rfl, by decide⟩, by decide, by decide, by decide +kernel⟩

theorem q_X0_strike : zCal yX0_strike wsX0_strike 1 none := ⟨⟨cX0_strike, 2, _, rfl, by decide⟩, by decide, by decide, by decide +kernel⟩

theorem q_X0_hasSubstitute : zCal yX0_hasSubstitute wsX0_hasSubstitute 2 (some .boolean) := ⟨⟨cX0_hasSubstitute, 5, _, rfl, by decide⟩, by decide, by decide, by decide +kernel⟩

theorem q_X0_addSubstitute : zCal yX0_addSubstitute wsX0_addSubstitute 2 none := ⟨⟨cX0_addSubstitute, 4, _, rfl, by decide⟩, by decide, by decide, by decide +kernel⟩

theorem q_X0_removeSubstitute : zCal yX0_removeSubstitute wsX0_removeSubstitute 2 none := ⟨⟨cX0_removeSubstitute, 5, _, rfl, by decide⟩, by decide, by decide, by decide +kernel⟩

theorem q_X0_setVessel : zCal yX0_setVessel wsX0_setVessel 2 none := ⟨⟨cX0_setVessel, 3, _, rfl, by decide⟩, by decide, by decide, by decide +kernel⟩

theorem q_X0_isVessel : zCal yX0_isVessel wsX0_isVessel 1 (some .boolean) := ⟨⟨cX0_isVessel, 3, _, rfl, by decide⟩, by decide, by decide, by decide +kernel⟩

theorem q_X0_findRanks : zCal yX0_findRanks wsX0_findRanks 0 (some .boolean) := ⟨⟨cX0_findRanks, 5, _, rfl, by decide⟩, by decide, by decide, by decide +kernel⟩

theorem q_X0_greatestRankIn : zCal yX0_greatestRankIn wsX0_greatestRankIn 1 (some .int) := ⟨⟨cX0_greatestRankIn, 4, _, rfl, by decide⟩, by decide, by decide, by decide +kernel⟩

theorem q_X0_needsOf : zCal yX0_needsOf wsX0_needsOf 1 (some .int) := ⟨⟨cX0_needsOf, 8, _, rfl, by decide⟩, by decide, by decide, by decide +kernel⟩

theorem q_X0_allNeedsOf : zCal yX0_allNeedsOf wsX0_allNeedsOf 1 (some .int) := ⟨⟨cX0_allNeedsOf, 6, _, rfl, by decide⟩, by decide, by decide, by decide +kernel⟩

theorem q_X1_init : zCal yX1_init wsX1_init 0 none := ⟨⟨cX1_init, 1, _, rfl, by decide⟩, by decide, by decide, by decide +kernel⟩

theorem q_X1_size : zCal yX1_size wsX1_size 0 (some .int) := ⟨⟨cX1_size, 1, _, rfl, by decide⟩, by decide, by decide, by decide +kernel⟩

theorem q_X1_remember : zCal yX1_remember wsX1_remember 2 none := ⟨⟨cX1_remember, 4, _, rfl, by decide⟩, by decide, by decide, by decide +kernel⟩

theorem q_X1_restore : zCal yX1_restore wsX1_restore 2 none := ⟨⟨cX1_restore, 4, _, rfl, by decide⟩, by decide, by decide, by decide +kernel⟩

theorem q_X1_placeOf : zCal yX1_placeOf wsX1_placeOf 1 (some .int) := ⟨⟨cX1_placeOf, 2, _, rfl, by decide⟩, by decide, by decide, by decide +kernel⟩

theorem q_X2_init : zCal yX2_init wsX2_init 0 none := ⟨⟨cX2_init, 1, _, rfl, by decide⟩, by decide, by decide, by decide +kernel⟩

theorem q_X2_read : zCal yX2_read wsX2_read 2 none := ⟨⟨cX2_read, 4, _, rfl, by decide⟩, by decide, by decide, by decide +kernel⟩

theorem q_X2_isMore : zCal yX2_isMore wsX2_isMore 2 (some .boolean) := ⟨⟨cX2_isMore, 3, _, rfl, by decide⟩, by decide, by decide, by decide +kernel⟩

theorem q_X2_readIngredient : zCal yX2_readIngredient wsX2_readIngredient 2 none := ⟨⟨cX2_readIngredient, 5, _, rfl, by decide⟩, by decide, by decide, by decide +kernel⟩

theorem q_X2_isListed : zCal yX2_isListed wsX2_isListed 1 (some .boolean) := ⟨⟨cX2_isListed, 3, _, rfl, by decide⟩, by decide, by decide, by decide +kernel⟩

theorem q_X2_readLetter : zCal yX2_readLetter wsX2_readLetter 2 (some .int) := ⟨⟨cX2_readLetter, 4, _, rfl, by decide⟩, by decide, by decide, by decide +kernel⟩

theorem q_X2_readSign : zCal yX2_readSign wsX2_readSign 3 none := ⟨⟨cX2_readSign, 4, _, rfl, by decide⟩, by decide, by decide, by decide +kernel⟩

theorem q_X2_readNumber : zCal yX2_readNumber wsX2_readNumber 2 (some .int) := ⟨⟨cX2_readNumber, 5, _, rfl, by decide⟩, by decide, by decide, by decide +kernel⟩

theorem q_X2_isDigit : zCal yX2_isDigit wsX2_isDigit 3 (some .boolean) := ⟨⟨cX2_isDigit, 4, _, rfl, by decide⟩, by decide, by decide, by decide +kernel⟩

theorem q_X2_skipBlanks : zCal yX2_skipBlanks wsX2_skipBlanks 2 none := ⟨⟨cX2_skipBlanks, 3, _, rfl, by decide⟩, by decide, by decide, by decide +kernel⟩

theorem q_X2_tellFault : zCal yX2_tellFault wsX2_tellFault 2 none := ⟨⟨cX2_tellFault, 3, _, rfl, by decide⟩, by decide, by decide, by decide +kernel⟩

theorem q_X3_init : zCal yX3_init wsX3_init 0 none := ⟨⟨cX3_init, 1, _, rfl, by decide⟩, by decide, by decide, by decide +kernel⟩

theorem q_X3_hold : zCal yX3_hold wsX3_hold 2 none := ⟨⟨cX3_hold, 3, _, rfl, by decide⟩, by decide, by decide, by decide +kernel⟩

theorem q_X3_layOut : zCal yX3_layOut wsX3_layOut 2 none := ⟨⟨cX3_layOut, 3, _, rfl, by decide⟩, by decide, by decide, by decide +kernel⟩

theorem q_X4_init : zCal yX4_init wsX4_init 0 none := ⟨⟨cX4_init, 1, _, rfl, by decide⟩, by decide, by decide, by decide +kernel⟩

theorem q_X4_copyFrom : zCal yX4_copyFrom wsX4_copyFrom 1 none := ⟨⟨cX4_copyFrom, 2, _, rfl, by decide⟩, by decide, by decide, by decide +kernel⟩

theorem q_X5_init : zCal yX5_init wsX5_init 0 none := ⟨⟨cX5_init, 1, _, rfl, by decide⟩, by decide, by decide, by decide +kernel⟩

theorem q_X5_begin : zCal yX5_begin wsX5_begin 2 none := ⟨⟨cX5_begin, 3, _, rfl, by decide⟩, by decide, by decide, by decide +kernel⟩

theorem q_X5_gathered : zCal yX5_gathered wsX5_gathered 0 (some .int) := ⟨⟨cX5_gathered, 1, _, rfl, by decide⟩, by decide, by decide, by decide +kernel⟩

theorem q_X5_receive : zCal yX5_receive wsX5_receive 1 (some .boolean) := ⟨⟨cX5_receive, 2, _, rfl, by decide⟩, by decide, by decide, by decide +kernel⟩

theorem q_X5_fulfil : zCal yX5_fulfil wsX5_fulfil 3 (some .boolean) := ⟨⟨cX5_fulfil, 5, _, rfl, by decide⟩, by decide, by decide, by decide +kernel⟩

theorem q_X5_runAll : zCal yX5_runAll wsX5_runAll 3 (some .boolean) := ⟨⟨cX5_runAll, 4, _, rfl, by decide⟩, by decide, by decide, by decide +kernel⟩

theorem q_X5_provide : zCal yX5_provide wsX5_provide 4 none := ⟨⟨cX5_provide, 5, _, rfl, by decide⟩, by decide, by decide, by decide +kernel⟩

theorem q_X5_run : zCal yX5_run wsX5_run 4 none := ⟨⟨cX5_run, 7, _, rfl, by decide⟩, by decide, by decide, by decide +kernel⟩

theorem q_X5_take : zCal yX5_take wsX5_take 4 none := ⟨⟨cX5_take, 8, _, rfl, by decide⟩, by decide, by decide, by decide +kernel⟩

theorem q_X5_standIn : zCal yX5_standIn wsX5_standIn 2 (some .int) := ⟨⟨cX5_standIn, 5, _, rfl, by decide⟩, by decide, by decide, by decide +kernel⟩

theorem q_X5_useUp : zCal yX5_useUp wsX5_useUp 3 (some .int) := ⟨⟨cX5_useUp, 6, _, rfl, by decide⟩, by decide, by decide, by decide +kernel⟩

theorem q_X5_collect : zCal yX5_collect wsX5_collect 2 none := ⟨⟨cX5_collect, 3, _, rfl, by decide⟩, by decide, by decide, by decide +kernel⟩

theorem q_X5_comeIn : zCal yX5_comeIn wsX5_comeIn 3 none := ⟨⟨cX5_comeIn, 4, _, rfl, by decide⟩, by decide, by decide, by decide +kernel⟩

theorem q_X6_init : zCal yX6_init wsX6_init 0 none := ⟨⟨cX6_init, 1, _, rfl, by decide⟩, by decide, by decide, by decide +kernel⟩

theorem q_X6_recipe : zCal yX6_recipe wsX6_recipe 0 (some .int) := ⟨⟨cX6_recipe, 1, _, rfl, by decide⟩, by decide, by decide, by decide +kernel⟩

theorem q_X6_forget : zCal yX6_forget wsX6_forget 1 (some .int) := ⟨⟨cX6_forget, 3, _, rfl, by decide⟩, by decide, by decide, by decide +kernel⟩

theorem q_X6_allow : zCal yX6_allow wsX6_allow 2 (some .int) := ⟨⟨cX6_allow, 3, _, rfl, by decide⟩, by decide, by decide, by decide +kernel⟩

theorem q_X6_forbid : zCal yX6_forbid wsX6_forbid 2 (some .int) := ⟨⟨cX6_forbid, 4, _, rfl, by decide⟩, by decide, by decide, by decide +kernel⟩

theorem q_X6_vessel : zCal yX6_vessel wsX6_vessel 2 (some .int) := ⟨⟨cX6_vessel, 5, _, rfl, by decide⟩, by decide, by decide, by decide +kernel⟩

theorem q_X6_bring : zCal yX6_bring wsX6_bring 2 (some .int) := ⟨⟨cX6_bring, 5, _, rfl, by decide⟩, by decide, by decide, by decide +kernel⟩

theorem q_X6_wish : zCal yX6_wish wsX6_wish 2 (some .int) := ⟨⟨cX6_wish, 3, _, rfl, by decide⟩, by decide, by decide, by decide +kernel⟩

theorem q_X6_make : zCal yX6_make wsX6_make 2 (some .int) := ⟨⟨cX6_make, 3, _, rfl, by decide⟩, by decide, by decide, by decide +kernel⟩

theorem q_X6_undo : zCal yX6_undo wsX6_undo 0 (some .int) := ⟨⟨cX6_undo, 1, _, rfl, by decide⟩, by decide, by decide, by decide +kernel⟩

theorem q_X6_write : zCal yX6_write wsX6_write 1 (some .int) := ⟨⟨cX6_write, 2, _, rfl, by decide⟩, by decide, by decide, by decide +kernel⟩

theorem q_X6_wipe : zCal yX6_wipe wsX6_wipe 0 (some .int) := ⟨⟨cX6_wipe, 2, _, rfl, by decide⟩, by decide, by decide, by decide +kernel⟩

theorem q_X6_told : zCal yX6_told wsX6_told 1 (some .int) := ⟨⟨cX6_told, 2, _, rfl, by decide⟩, by decide, by decide, by decide +kernel⟩

theorem q_X6_thing : zCal yX6_thing wsX6_thing 2 (some .int) := ⟨⟨cX6_thing, 3, _, rfl, by decide⟩, by decide, by decide, by decide +kernel⟩

theorem q_X6_ingredient : zCal yX6_ingredient wsX6_ingredient 3 (some .int) := ⟨⟨cX6_ingredient, 4, _, rfl, by decide⟩, by decide, by decide, by decide +kernel⟩

theorem q_X6_substitute : zCal yX6_substitute wsX6_substitute 2 (some .int) := ⟨⟨cX6_substitute, 3, _, rfl, by decide⟩, by decide, by decide, by decide +kernel⟩

theorem q_X6_isNeeded : zCal yX6_isNeeded wsX6_isNeeded 2 (some .int) := ⟨⟨cX6_isNeeded, 3, _, rfl, by decide⟩, by decide, by decide, by decide +kernel⟩

theorem q_X6_share : zCal yX6_share wsX6_share 0 (some .float) := ⟨⟨cX6_share, 3, _, rfl, by decide⟩, by decide, by decide, by decide +kernel⟩

theorem q_X6_gather : zCal yX6_gather wsX6_gather 3 (some .int) := ⟨⟨cX6_gather, 4, _, rfl, by decide⟩, by decide, by decide, by decide +kernel⟩

theorem q_X6_canHave : zCal yX6_canHave wsX6_canHave 1 (some .int) := ⟨⟨cX6_canHave, 6, _, rfl, by decide⟩, by decide, by decide, by decide +kernel⟩

theorem q_X6_bestGift : zCal yX6_bestGift wsX6_bestGift 2 (some .int) := ⟨⟨cX6_bestGift, 6, _, rfl, by decide⟩, by decide, by decide, by decide +kernel⟩

theorem q_X6_keep : zCal yX6_keep wsX6_keep 1 (some .int) := ⟨⟨cX6_keep, 2, _, rfl, by decide⟩, by decide, by decide, by decide +kernel⟩

theorem q_X6_back : zCal yX6_back wsX6_back 1 (some .int) := ⟨⟨cX6_back, 3, _, rfl, by decide⟩, by decide, by decide, by decide +kernel⟩

theorem q_X6_acceptWorks : zCal yX6_acceptWorks wsX6_acceptWorks 0 (some .int) := ⟨⟨cX6_acceptWorks, 1, _, rfl, by decide⟩, by decide, by decide, by decide +kernel⟩

theorem q_X6_isThing : zCal yX6_isThing wsX6_isThing 1 (some .boolean) := ⟨⟨cX6_isThing, 1, _, rfl, by decide⟩, by decide, by decide, by decide +kernel⟩

theorem q_X6_isWished : zCal yX6_isWished wsX6_isWished 1 (some .boolean) := ⟨⟨cX6_isWished, 1, _, rfl, by decide⟩, by decide, by decide, by decide +kernel⟩

theorem q_X6_hasBit : zCal yX6_hasBit wsX6_hasBit 2 (some .boolean) := ⟨⟨cX6_hasBit, 2, _, rfl, by decide⟩, by decide, by decide, by decide +kernel⟩

theorem q_X6_divideUp : zCal yX6_divideUp wsX6_divideUp 2 (some .int) := ⟨⟨cX6_divideUp, 2, _, rfl, by decide⟩, by decide, by decide, by decide +kernel⟩

theorem q_X6_at : zCal yX6_at wsX6_at 2 (some .int) := ⟨⟨cX6_at, 2, _, rfl, by decide⟩, by decide, by decide, by decide +kernel⟩

theorem q_X6_put : zCal yX6_put wsX6_put 3 none := ⟨⟨cX6_put, 3, _, rfl, by decide⟩, by decide, by decide, by decide +kernel⟩

theorem q_X6_add : zCal yX6_add wsX6_add 3 none := ⟨⟨cX6_add, 3, _, rfl, by decide⟩, by decide, by decide, by decide +kernel⟩

theorem q_X6_sum : zCal yX6_sum wsX6_sum 1 (some .int) := ⟨⟨cX6_sum, 3, _, rfl, by decide⟩, by decide, by decide, by decide +kernel⟩

theorem q_X6_stateAt : zCal yX6_stateAt wsX6_stateAt 2 (some (.object "ThingMaker$State")) := ⟨⟨cX6_stateAt, 2, _, rfl, by decide⟩, by decide, by decide, by decide +kernel⟩

theorem q_X6_roomAt : zCal yX6_roomAt wsX6_roomAt 2 (some (.object "ThingMaker$State")) := ⟨⟨cX6_roomAt, 4, _, rfl, by decide⟩, by decide, by decide, by decide +kernel⟩

theorem q_X6_copy : zCal yX6_copy wsX6_copy 2 none := ⟨⟨cX6_copy, 2, _, rfl, by decide⟩, by decide, by decide, by decide +kernel⟩

theorem q_J6_bitCount_0f7a4 : zCal yJ6_bitCount_0f7a4 wsJ6_bitCount_0f7a4 1 (some .int) := ⟨⟨cJ6_bitCount_0f7a4, 1, _, rfl, by decide⟩, by decide, by decide, by decide +kernel⟩

theorem q_J9_floorMod_7cf53 : zCal yJ9_floorMod_7cf53 wsJ9_floorMod_7cf53 2 (some .int) := ⟨⟨cJ9_floorMod_7cf53, 3, _, rfl, by decide⟩, by decide, by decide, by decide +kernel⟩

theorem q_J9_max_7cf53 : zCal yJ9_max_7cf53 wsJ9_max_7cf53 2 (some .int) := ⟨⟨cJ9_max_7cf53, 2, _, rfl, by decide⟩, by decide, by decide, by decide +kernel⟩

theorem q_J9_min_7cf53 : zCal yJ9_min_7cf53 wsJ9_min_7cf53 2 (some .int) := ⟨⟨cJ9_min_7cf53, 2, _, rfl, by decide⟩, by decide, by decide, by decide +kernel⟩

theorem q_J7_fill_53178 : zCal yJ7_fill_53178 wsJ7_fill_53178 2 none := ⟨⟨cJ7_fill_53178, 4, _, rfl, by decide⟩, by decide, by decide, by decide +kernel⟩

theorem fX0_0 : zFd RX0 TX0 8 0 0 (.array .int) := ⟨rfl, rfl, by decide, rfl, by decide +kernel, rfl, tyX0_ok, nmX0⟩

theorem fX0_1 : zFd RX0 TX0 8 0 1 (.array .int) := ⟨rfl, rfl, by decide, rfl, by decide +kernel, rfl, tyX0_ok, nmX0⟩

theorem fX0_2 : zFd RX0 TX0 8 0 2 (.array .int) := ⟨rfl, rfl, by decide, rfl, by decide +kernel, rfl, tyX0_ok, nmX0⟩

theorem fX0_3 : zFd RX0 TX0 8 0 3 (.array .int) := ⟨rfl, rfl, by decide, rfl, by decide +kernel, rfl, tyX0_ok, nmX0⟩

theorem fX0_4 : zFd RX0 TX0 8 0 4 (.array .int) := ⟨rfl, rfl, by decide, rfl, by decide +kernel, rfl, tyX0_ok, nmX0⟩

theorem fX0_5 : zFd RX0 TX0 8 0 5 (.array .int) := ⟨rfl, rfl, by decide, rfl, by decide +kernel, rfl, tyX0_ok, nmX0⟩

theorem fX0_6 : zFd RX0 TX0 8 0 6 (.array .int) := ⟨rfl, rfl, by decide, rfl, by decide +kernel, rfl, tyX0_ok, nmX0⟩

theorem fX0_7 : zFd RX0 TX0 8 0 7 (.array .int) := ⟨rfl, rfl, by decide, rfl, by decide +kernel, rfl, tyX0_ok, nmX0⟩

theorem fX1_0 : zFd RX1 TX1 3 1 0 (.array (.object "ThingMaker$State")) := ⟨rfl, rfl, by decide, rfl, by decide +kernel, rfl, tyX1_ok, nmX1⟩

theorem fX1_1 : zFd RX1 TX1 3 1 1 .int := ⟨rfl, rfl, by decide, rfl, by decide +kernel, rfl, tyX1_ok, nmX1⟩

theorem fX1_2 : zFd RX1 TX1 3 1 2 .int := ⟨rfl, rfl, by decide, rfl, by decide +kernel, rfl, tyX1_ok, nmX1⟩

theorem fX2_0 : zFd RX2 TX2 8 2 0 (.array .int) := ⟨rfl, rfl, by decide, rfl, by decide +kernel, rfl, tyX2_ok, nmX2⟩

theorem fX2_1 : zFd RX2 TX2 8 2 1 (.array .int) := ⟨rfl, rfl, by decide, rfl, by decide +kernel, rfl, tyX2_ok, nmX2⟩

theorem fX2_2 : zFd RX2 TX2 8 2 2 .int := ⟨rfl, rfl, by decide, rfl, by decide +kernel, rfl, tyX2_ok, nmX2⟩

theorem fX2_3 : zFd RX2 TX2 8 2 3 .int := ⟨rfl, rfl, by decide, rfl, by decide +kernel, rfl, tyX2_ok, nmX2⟩

theorem fX2_4 : zFd RX2 TX2 8 2 4 .int := ⟨rfl, rfl, by decide, rfl, by decide +kernel, rfl, tyX2_ok, nmX2⟩

theorem fX2_5 : zFd RX2 TX2 8 2 5 .int := ⟨rfl, rfl, by decide, rfl, by decide +kernel, rfl, tyX2_ok, nmX2⟩

theorem fX2_6 : zFd RX2 TX2 8 2 6 .int := ⟨rfl, rfl, by decide, rfl, by decide +kernel, rfl, tyX2_ok, nmX2⟩

theorem fX2_7 : zFd RX2 TX2 8 2 7 .int := ⟨rfl, rfl, by decide, rfl, by decide +kernel, rfl, tyX2_ok, nmX2⟩

theorem fX3_0 : zFd RX3 TX3 2 3 0 (.object "ThingMaker$Book") := ⟨rfl, rfl, by decide, rfl, by decide +kernel, rfl, tyX3_ok, nmX3⟩

theorem fX3_1 : zFd RX3 TX3 2 3 1 (.object "ThingMaker$Stock") := ⟨rfl, rfl, by decide, rfl, by decide +kernel, rfl, tyX3_ok, nmX3⟩

theorem fX4_0 : zFd RX4 TX4 7 4 0 (.array .int) := ⟨rfl, rfl, by decide, rfl, by decide +kernel, rfl, tyX4_ok, nmX4⟩

theorem fX4_1 : zFd RX4 TX4 7 4 1 (.array .int) := ⟨rfl, rfl, by decide, rfl, by decide +kernel, rfl, tyX4_ok, nmX4⟩

theorem fX4_2 : zFd RX4 TX4 7 4 2 (.array .int) := ⟨rfl, rfl, by decide, rfl, by decide +kernel, rfl, tyX4_ok, nmX4⟩

theorem fX4_3 : zFd RX4 TX4 7 4 3 (.array .int) := ⟨rfl, rfl, by decide, rfl, by decide +kernel, rfl, tyX4_ok, nmX4⟩

theorem fX4_4 : zFd RX4 TX4 7 4 4 (.array .int) := ⟨rfl, rfl, by decide, rfl, by decide +kernel, rfl, tyX4_ok, nmX4⟩

theorem fX4_5 : zFd RX4 TX4 7 4 5 (.array .int) := ⟨rfl, rfl, by decide, rfl, by decide +kernel, rfl, tyX4_ok, nmX4⟩

theorem fX4_6 : zFd RX4 TX4 7 4 6 .int := ⟨rfl, rfl, by decide, rfl, by decide +kernel, rfl, tyX4_ok, nmX4⟩

theorem fX5_0 : zFd RX5 TX5 5 5 0 (.object "ThingMaker$Stock") := ⟨rfl, rfl, by decide, rfl, by decide +kernel, rfl, tyX5_ok, nmX5⟩

theorem fX5_1 : zFd RX5 TX5 5 5 1 .boolean := ⟨rfl, rfl, by decide, rfl, by decide +kernel, rfl, tyX5_ok, nmX5⟩

theorem fX5_2 : zFd RX5 TX5 5 5 2 .boolean := ⟨rfl, rfl, by decide, rfl, by decide +kernel, rfl, tyX5_ok, nmX5⟩

theorem fX5_3 : zFd RX5 TX5 5 5 3 .int := ⟨rfl, rfl, by decide, rfl, by decide +kernel, rfl, tyX5_ok, nmX5⟩

theorem fX5_4 : zFd RX5 TX5 5 5 4 .int := ⟨rfl, rfl, by decide, rfl, by decide +kernel, rfl, tyX5_ok, nmX5⟩

theorem fX6_0 : zFd RX6 TX6 11 6 0 (.object "ThingMaker$Book") := ⟨rfl, rfl, by decide, rfl, by decide +kernel, rfl, tyX6_ok, nmX6⟩

theorem fX6_1 : zFd RX6 TX6 11 6 1 (.object "ThingMaker$Book") := ⟨rfl, rfl, by decide, rfl, by decide +kernel, rfl, tyX6_ok, nmX6⟩

theorem fX6_2 : zFd RX6 TX6 11 6 2 (.object "ThingMaker$Stock") := ⟨rfl, rfl, by decide, rfl, by decide +kernel, rfl, tyX6_ok, nmX6⟩

theorem fX6_3 : zFd RX6 TX6 11 6 3 (.object "ThingMaker$Works") := ⟨rfl, rfl, by decide, rfl, by decide +kernel, rfl, tyX6_ok, nmX6⟩

theorem fX6_4 : zFd RX6 TX6 11 6 4 (.object "ThingMaker$History") := ⟨rfl, rfl, by decide, rfl, by decide +kernel, rfl, tyX6_ok, nmX6⟩

theorem fX6_5 : zFd RX6 TX6 11 6 5 (.array (.object "ThingMaker$State")) := ⟨rfl, rfl, by decide, rfl, by decide +kernel, rfl, tyX6_ok, nmX6⟩

theorem fX6_6 : zFd RX6 TX6 11 6 6 (.object "ThingMaker$RecipeReader") := ⟨rfl, rfl, by decide, rfl, by decide +kernel, rfl, tyX6_ok, nmX6⟩

theorem fX6_7 : zFd RX6 TX6 11 6 7 (.array .int) := ⟨rfl, rfl, by decide, rfl, by decide +kernel, rfl, tyX6_ok, nmX6⟩

theorem fX6_8 : zFd RX6 TX6 11 6 8 .int := ⟨rfl, rfl, by decide, rfl, by decide +kernel, rfl, tyX6_ok, nmX6⟩

theorem fX6_9 : zFd RX6 TX6 11 6 9 .int := ⟨rfl, rfl, by decide, rfl, by decide +kernel, rfl, tyX6_ok, nmX6⟩

theorem fX6_10 : zFd RX6 TX6 11 6 10 .int := ⟨rfl, rfl, by decide, rfl, by decide +kernel, rfl, tyX6_ok, nmX6⟩

abbrev mX6_isThing : ZM := (cX6_isThing, RX6, wsX6_isThing, 1, 0, 0, (some .boolean), 1, yX6_isThing.name)
set_option maxHeartbeats 4000000 in
set_option maxRecDepth 100000 in
theorem c_X6_isThing {sh : zSh} {F : Nat → Nat → Int32} {P : Nat → Nat → Option Nat} {t : Int32}  : zMet yX6_isThing wsX6_isThing (1) (0) (0) [.int t] sh F P (some (.int (cIsThing t))) sh F P := by
  refine zMet.of (by decide) rfl (Nat.le_of_ble_eq_true rfl) (by simp [Value.category]) ?_
  intro X ρ
  show AW mX6_isThing X (zMQ mX6_isThing X (some (.int (cIsThing t))) sh F P) 0 [some (.int t)] [] ρ sh F P 0 0
  refine aw_iload_0 dX6_isThing_0 ?_
  refine aw_if_lt (tgt := 14) dX6_isThing_1 (by decide) (fun c1 => ?_) (fun c1 => ?_)
  · refine aw_iconst (v := 0) dX6_isThing_14 (by decide) ?_
    exact aw_zreturn rfl dX6_isThing_15 ⟨Nat.zero_le _, Nat.zero_le _⟩ (by decide) (by first | rfl | simp [cIsThing, c1]) rfl rfl rfl
  · refine aw_iload_0 dX6_isThing_4 ?_
    refine aw_bipush (v := 20) dX6_isThing_5 (by decide) ?_
    refine aw_icmp_ge (tgt := 14) dX6_isThing_7 (by decide) (fun c7 => ?_) (fun c7 => ?_)
    · refine aw_iconst (v := 0) dX6_isThing_14 (by decide) ?_
      exact aw_zreturn rfl dX6_isThing_15 ⟨Nat.zero_le _, Nat.zero_le _⟩ (by decide) (by first | rfl | simp [cIsThing, c1, c7]) rfl rfl rfl
    · refine aw_iconst (v := 1) dX6_isThing_10 (by decide) ?_
      refine aw_goto (tgt := 15) dX6_isThing_11 (by decide) ?_
      exact aw_zreturn rfl dX6_isThing_15 ⟨Nat.zero_le _, Nat.zero_le _⟩ (by decide) (by first | rfl | simp [cIsThing, c1, c7]) rfl rfl rfl

abbrev mX6_isWished : ZM := (cX6_isWished, RX6, wsX6_isWished, 1, 0, 0, (some .boolean), 1, yX6_isWished.name)
set_option maxHeartbeats 4000000 in
set_option maxRecDepth 100000 in
theorem c_X6_isWished {sh : zSh} {F : Nat → Nat → Int32} {P : Nat → Nat → Option Nat} {t : Int32}  : zMet yX6_isWished wsX6_isWished (1) (0) (0) [.int t] sh F P (some (.int (cIsWished t))) sh F P := by
  refine zMet.of (by decide) rfl (Nat.le_of_ble_eq_true rfl) (by simp [Value.category]) ?_
  intro X ρ
  show AW mX6_isWished X (zMQ mX6_isWished X (some (.int (cIsWished t))) sh F P) 0 [some (.int t)] [] ρ sh F P 0 0
  refine aw_iload_0 dX6_isWished_0 ?_
  refine aw_iconst (v := 1) dX6_isWished_1 (by decide) ?_
  refine aw_icmp_lt (tgt := 16) dX6_isWished_2 (by decide) (fun c2 => ?_) (fun c2 => ?_)
  · refine aw_iconst (v := 0) dX6_isWished_16 (by decide) ?_
    exact aw_zreturn rfl dX6_isWished_17 ⟨Nat.zero_le _, Nat.zero_le _⟩ (by decide) (by first | rfl | simp [cIsWished, c2]) rfl rfl rfl
  · refine aw_iload_0 dX6_isWished_5 ?_
    refine aw_sipush (v := 999) dX6_isWished_6 (by decide) ?_
    refine aw_icmp_gt (tgt := 16) dX6_isWished_9 (by decide) (fun c9 => ?_) (fun c9 => ?_)
    · refine aw_iconst (v := 0) dX6_isWished_16 (by decide) ?_
      exact aw_zreturn rfl dX6_isWished_17 ⟨Nat.zero_le _, Nat.zero_le _⟩ (by decide) (by first | rfl | simp [cIsWished, c2, c9]) rfl rfl rfl
    · refine aw_iconst (v := 1) dX6_isWished_12 (by decide) ?_
      refine aw_goto (tgt := 17) dX6_isWished_13 (by decide) ?_
      exact aw_zreturn rfl dX6_isWished_17 ⟨Nat.zero_le _, Nat.zero_le _⟩ (by decide) (by first | rfl | simp [cIsWished, c2, c9]) rfl rfl rfl

abbrev mX6_hasBit : ZM := (cX6_hasBit, RX6, wsX6_hasBit, 1, 0, 0, (some .boolean), 2, yX6_hasBit.name)
set_option maxHeartbeats 4000000 in
set_option maxRecDepth 100000 in
theorem c_X6_hasBit {sh : zSh} {F : Nat → Nat → Int32} {P : Nat → Nat → Option Nat} {t u : Int32}  : zMet yX6_hasBit wsX6_hasBit (1) (0) (0) [.int t, .int u] sh F P (some (.int (cHasBit t u))) sh F P := by
  refine zMet.of (by decide) rfl (Nat.le_of_ble_eq_true rfl) (by simp [Value.category]) ?_
  intro X ρ
  show AW mX6_hasBit X (zMQ mX6_hasBit X (some (.int (cHasBit t u))) sh F P) 0 [some (.int t), some (.int u)] [] ρ sh F P 0 0
  refine aw_iload_0 dX6_hasBit_0 ?_
  refine aw_iload_1 dX6_hasBit_1 ?_
  refine aw_ishr dX6_hasBit_2 ?_
  refine aw_iconst (v := 1) dX6_hasBit_3 (by decide) ?_
  refine aw_iand dX6_hasBit_4 ?_
  refine aw_if_eq (tgt := 12) dX6_hasBit_5 (by decide) (fun c5 => ?_) (fun c5 => ?_)
  · refine aw_iconst (v := 0) dX6_hasBit_12 (by decide) ?_
    exact aw_zreturn rfl dX6_hasBit_13 ⟨Nat.zero_le _, Nat.zero_le _⟩ (by decide) (by first | rfl | simp [cHasBit, c5]) rfl rfl rfl
  · refine aw_iconst (v := 1) dX6_hasBit_8 (by decide) ?_
    refine aw_goto (tgt := 13) dX6_hasBit_9 (by decide) ?_
    exact aw_zreturn rfl dX6_hasBit_13 ⟨Nat.zero_le _, Nat.zero_le _⟩ (by decide) (by first | rfl | simp [cHasBit, c5]) rfl rfl rfl

abbrev mX6_divideUp : ZM := (cX6_divideUp, RX6, wsX6_divideUp, 1, 0, 0, (some .int), 2, yX6_divideUp.name)
set_option maxHeartbeats 4000000 in
set_option maxRecDepth 100000 in
theorem c_X6_divideUp {sh : zSh} {F : Nat → Nat → Int32} {P : Nat → Nat → Option Nat} {t u : Int32}  : zMet yX6_divideUp wsX6_divideUp (1) (0) (0) [.int t, .int u] sh F P (some (.int (cDivUp t u))) sh F P := by
  refine zMet.of (by decide) rfl (Nat.le_of_ble_eq_true rfl) (by simp [Value.category]) ?_
  intro X ρ
  show AW mX6_divideUp X (zMQ mX6_divideUp X (some (.int (cDivUp t u))) sh F P) 0 [some (.int t), some (.int u)] [] ρ sh F P 0 0
  refine aw_iload_1 dX6_divideUp_0 ?_
  refine aw_iconst (v := 1) dX6_divideUp_1 (by decide) ?_
  refine aw_icmp_ge (tgt := 9) dX6_divideUp_2 (by decide) (fun c2 => ?_) (fun c2 => ?_)
  · refine aw_iload_0 dX6_divideUp_9 ?_
    refine aw_iload_1 dX6_divideUp_10 ?_
    refine aw_iadd dX6_divideUp_11 ?_
    refine aw_iconst (v := 1) dX6_divideUp_12 (by decide) ?_
    refine aw_isub dX6_divideUp_13 ?_
    refine aw_iload_1 dX6_divideUp_14 ?_
    refine aw_idiv (by intro h; subst h; exact absurd c2 (by decide)) dX6_divideUp_15 ?_
    exact aw_ireturn rfl dX6_divideUp_16 ⟨Nat.zero_le _, Nat.zero_le _⟩ (by first | rfl | simp [cDivUp, c2]) rfl rfl rfl
  · refine aw_iconst (v := 0) dX6_divideUp_5 (by decide) ?_
    refine aw_goto (tgt := 16) dX6_divideUp_6 (by decide) ?_
    exact aw_ireturn rfl dX6_divideUp_16 ⟨Nat.zero_le _, Nat.zero_le _⟩ (by first | rfl | simp [cDivUp, c2]) rfl rfl rfl

abbrev mX6_at : ZM := (cX6_at, RX6, wsX6_at, 1, 0, 0, (some .int), 2, yX6_at.name)
set_option maxHeartbeats 4000000 in
set_option maxRecDepth 100000 in
theorem c_X6_at {sh : zSh} {F : Nat → Nat → Int32} {P : Nat → Nat → Option Nat} {a n : Nat} {i : Int32} (ha : sh a = some (.inr (0, n))) (hn : n < 2 ^ 31) : zMet yX6_at wsX6_at (1) (0) (0) [.ref a, .int i] sh F P (some (.int (cAt n (F a) i))) sh F P := by
  refine zMet.of (by decide) rfl (Nat.le_of_ble_eq_true rfl) (by simp [Value.category]) ?_
  intro X ρ
  show AW mX6_at X (zMQ mX6_at X (some (.int (cAt n (F a) i))) sh F P) 0 [some (.ref a), some (.int i)] [] ρ sh F P 0 0
  refine aw_iload_1 dX6_at_0 ?_
  refine aw_if_lt (tgt := 16) dX6_at_1 (by decide) (fun c1 => ?_) (fun c1 => ?_)
  · refine aw_iconst (v := 0) dX6_at_16 (by decide) ?_
    exact aw_ireturn rfl dX6_at_17 ⟨Nat.zero_le _, Nat.zero_le _⟩ (by first | rfl | simp [cAt, c1]) rfl rfl rfl
  · refine aw_iload_1 dX6_at_4 ?_
    refine aw_aload_0 dX6_at_5 ?_
    refine aw_alen (t := 0) (v := nI _) (by decide) (by assumption) rfl dX6_at_6 ?_
    refine aw_icmp_ge (tgt := 16) dX6_at_7 (by decide) (fun c7 => ?_) (fun c7 => ?_)
    · refine aw_iconst (v := 0) dX6_at_16 (by decide) ?_
      exact aw_ireturn rfl dX6_at_17 ⟨Nat.zero_le _, Nat.zero_le _⟩ (by first | rfl | simp [cAt, c1, c7]) rfl rfl rfl
    · refine aw_aload_0 dX6_at_10 ?_
      refine aw_iload_1 dX6_at_11 ?_
      refine aw_iaload (by assumption) (zin hn c1 c7) dX6_at_12 ?_
      refine aw_goto (tgt := 17) dX6_at_13 (by decide) ?_
      exact aw_ireturn rfl dX6_at_17 ⟨Nat.zero_le _, Nat.zero_le _⟩ (by first | rfl | simp [cAt, c1, c7]) rfl rfl rfl

abbrev mX6_put : ZM := (cX6_put, RX6, wsX6_put, 1, 0, 0, none, 3, yX6_put.name)
set_option maxHeartbeats 4000000 in
set_option maxRecDepth 100000 in
theorem c_X6_put {sh : zSh} {F : Nat → Nat → Int32} {P : Nat → Nat → Option Nat} {a n : Nat} {i v : Int32} (ha : sh a = some (.inr (0, n))) (hn : n < 2 ^ 31) : zMet yX6_put wsX6_put (1) (0) (0) [.ref a, .int i, .int v] sh F P (none) sh (va_up F a (cPut n (F a) i v)) P := by
  refine zMet.of (by decide) rfl (Nat.le_of_ble_eq_true rfl) (by simp [Value.category]) ?_
  intro X ρ
  show AW mX6_put X (zMQ mX6_put X (none) sh (va_up F a (cPut n (F a) i v)) P) 0 [some (.ref a), some (.int i), some (.int v)] [] ρ sh F P 0 0
  refine aw_iload_1 dX6_put_0 ?_
  refine aw_if_lt (tgt := 14) dX6_put_1 (by decide) (fun c1 => ?_) (fun c1 => ?_)
  · exact aw_return rfl dX6_put_14 ⟨Nat.zero_le _, Nat.zero_le _⟩ rfl rfl (by first | rfl | simp [cPut, va_up_same, zu_up, c1]) rfl
  · refine aw_iload_1 dX6_put_4 ?_
    refine aw_aload_0 dX6_put_5 ?_
    refine aw_alen (t := 0) (v := nI _) (by decide) (by assumption) rfl dX6_put_6 ?_
    refine aw_icmp_ge (tgt := 14) dX6_put_7 (by decide) (fun c7 => ?_) (fun c7 => ?_)
    · exact aw_return rfl dX6_put_14 ⟨Nat.zero_le _, Nat.zero_le _⟩ rfl rfl (by first | rfl | simp [cPut, va_up_same, zu_up, c1, c7]) rfl
    · refine aw_aload_0 dX6_put_10 ?_
      refine aw_iload_1 dX6_put_11 ?_
      refine aw_iload_2 dX6_put_12 ?_
      refine aw_iastore (by assumption) (zin hn c1 c7) dX6_put_13 ?_
      exact aw_return rfl dX6_put_14 ⟨Nat.zero_le _, Nat.zero_le _⟩ rfl rfl (by first | rfl | simp [cPut, va_up_same, zu_up, c1, c7]) rfl

abbrev mX6_add : ZM := (cX6_add, RX6, wsX6_add, 1, 0, 0, none, 3, yX6_add.name)
set_option maxHeartbeats 4000000 in
set_option maxRecDepth 100000 in
theorem c_X6_add {sh : zSh} {F : Nat → Nat → Int32} {P : Nat → Nat → Option Nat} {a n : Nat} {i v : Int32} (ha : sh a = some (.inr (0, n))) (hn : n < 2 ^ 31) : zMet yX6_add wsX6_add (1) (0) (0) [.ref a, .int i, .int v] sh F P (none) sh (va_up F a (cAdd n (F a) i v)) P := by
  refine zMet.of (by decide) rfl (Nat.le_of_ble_eq_true rfl) (by simp [Value.category]) ?_
  intro X ρ
  show AW mX6_add X (zMQ mX6_add X (none) sh (va_up F a (cAdd n (F a) i v)) P) 0 [some (.ref a), some (.int i), some (.int v)] [] ρ sh F P 0 0
  refine aw_iload_1 dX6_add_0 ?_
  refine aw_if_lt (tgt := 17) dX6_add_1 (by decide) (fun c1 => ?_) (fun c1 => ?_)
  · exact aw_return rfl dX6_add_17 ⟨Nat.zero_le _, Nat.zero_le _⟩ rfl rfl (by first | rfl | simp [cAdd, va_up_same, zu_up, c1]) rfl
  · refine aw_iload_1 dX6_add_4 ?_
    refine aw_aload_0 dX6_add_5 ?_
    refine aw_alen (t := 0) (v := nI _) (by decide) (by assumption) rfl dX6_add_6 ?_
    refine aw_icmp_ge (tgt := 17) dX6_add_7 (by decide) (fun c7 => ?_) (fun c7 => ?_)
    · exact aw_return rfl dX6_add_17 ⟨Nat.zero_le _, Nat.zero_le _⟩ rfl rfl (by first | rfl | simp [cAdd, va_up_same, zu_up, c1, c7]) rfl
    · refine aw_aload_0 dX6_add_10 ?_
      refine aw_iload_1 dX6_add_11 ?_
      refine aw_dup2 rfl rfl dX6_add_12 ?_
      refine aw_iaload (by assumption) (zin hn c1 c7) dX6_add_13 ?_
      refine aw_iload_2 dX6_add_14 ?_
      refine aw_iadd dX6_add_15 ?_
      refine aw_iastore (by assumption) (zin hn c1 c7) dX6_add_16 ?_
      exact aw_return rfl dX6_add_17 ⟨Nat.zero_le _, Nat.zero_le _⟩ rfl rfl (by first | rfl | simp [cAdd, va_up_same, zu_up, c1, c7]) rfl

abbrev mX6_sum : ZM := (cX6_sum, RX6, wsX6_sum, 1, 0, 0, (some .int), 3, yX6_sum.name)
set_option maxHeartbeats 4000000 in
set_option maxRecDepth 100000 in
theorem c_X6_sum {sh : zSh} {F : Nat → Nat → Int32} {P : Nat → Nat → Option Nat} {a n : Nat} (ha : sh a = some (.inr (0, n))) (hn : n < 2 ^ 31) : zMet yX6_sum wsX6_sum (1) (0) (0) [.ref a] sh F P (some (.int (cSum (F a) n))) sh F P := by
  refine zMet.of (by decide) rfl (Nat.le_of_ble_eq_true rfl) (by simp [Value.category]) ?_
  intro X ρ
  show AW mX6_sum X (zMQ mX6_sum X (some (.int (cSum (F a) n))) sh F P) 0 [some (.ref a), none, none] [] ρ sh F P 0 0
  have L4 : ∀ (m i : Nat), i ≤ n → n - i = m → AW mX6_sum X (zMQ mX6_sum X (some (.int (cSum (F a) n))) sh F P) 4 [some (.ref a), some (.int (cSum (F a) i)), some (.int (nI i))] [] ρ sh F P 0 0 := by
    intro m
    induction m using Nat.strongRecOn with
    | _ m ih =>
    intro i hi hm
    refine aw_iload_2 dX6_sum_4 ?_
    refine aw_aload_0 dX6_sum_5 ?_
    refine aw_alen (t := 0) (v := nI _) (by decide) (by assumption) rfl dX6_sum_6 ?_
    refine aw_icmp_ge (tgt := 22) dX6_sum_7 (by decide) (fun c7 => ?_) (fun c7 => ?_)
    · refine aw_iload_1 dX6_sum_22 ?_
      exact aw_ireturn rfl dX6_sum_23 ⟨Nat.zero_le _, Nat.zero_le _⟩ (by rw [zend hi hn c7]) rfl rfl rfl
    · have hlt : i < n := zlt hi hn c7
      refine aw_iload_1 dX6_sum_10 ?_
      refine aw_aload_0 dX6_sum_11 ?_
      refine aw_iload_2 dX6_sum_12 ?_
      refine aw_iaload (by assumption) (vp_in_nI hlt hn) dX6_sum_13 ?_
      refine aw_iadd dX6_sum_14 ?_
      refine aw_istore_1 dX6_sum_15 ?_
      refine aw_iinc_2 (v := 1) (by decide) dX6_sum_16 ?_
      refine aw_goto (tgt := 4) dX6_sum_19 (by decide) ?_
      rw [nI_1, nI_clamp (by omega)]
      exact ih (n - (i + 1)) (by omega) (i + 1) (by omega) rfl
  refine aw_iconst (v := 0) dX6_sum_0 (by decide) ?_
  refine aw_istore_1 dX6_sum_1 ?_
  refine aw_iconst (v := 0) dX6_sum_2 (by decide) ?_
  refine aw_istore_2 dX6_sum_3 ?_
  exact L4 _ 0 (Nat.zero_le _) rfl

abbrev mX6_copy : ZM := (cX6_copy, RX6, wsX6_copy, 2, 0, 0, none, 2, yX6_copy.name)
set_option maxHeartbeats 4000000 in
set_option maxRecDepth 100000 in
theorem c_X6_copy {sh : zSh} {F : Nat → Nat → Int32} {P : Nat → Nat → Option Nat} {a b n : Nat} (ha : sh a = some (.inr (0, n))) (hb : sh b = some (.inr (0, n))) (hn : n < 2 ^ 31) : zMet yX6_copy wsX6_copy (2) (0) (0) [.ref a, .ref b] sh F P (none) sh (va_up F b (cCopy n (F a) (F b))) P := by
  refine zMet.of (by decide) rfl (Nat.le_of_ble_eq_true rfl) (by simp [Value.category]) ?_
  intro X ρ
  show AW mX6_copy X (zMQ mX6_copy X (none) sh (va_up F b (cCopy n (F a) (F b))) P) 0 [some (.ref a), some (.ref b)] [] ρ sh F P 0 0
  refine aw_aload_0 dX6_copy_0 ?_
  refine aw_iconst (v := 0) dX6_copy_1 (by decide) ?_
  refine aw_aload_1 dX6_copy_2 ?_
  refine aw_iconst (v := 0) dX6_copy_3 (by decide) ?_
  refine aw_aload_0 dX6_copy_4 ?_
  refine aw_alen (t := 0) (v := nI _) (by decide) (by assumption) rfl dX6_copy_5 ?_
  refine aw_aload_1 dX6_copy_6 ?_
  refine aw_alen (t := 0) (v := nI _) (by decide) (by assumption) rfl dX6_copy_7 ?_
  refine aw_min (by decide +kernel) (by decide +kernel) (by decide +kernel) (by decide +kernel) (Nat.le_of_ble_eq_true rfl) ⟨Nat.zero_le _, Nat.zero_le _⟩ dX6_copy_8 ?_
  have hz : (if nI n < nI n then nI n else nI n) = nI n := by simp
  rw [hz]
  refine aw_copy (by decide +kernel) (by decide +kernel) (by decide +kernel) (by decide +kernel) ha hb (by decide) (by decide) (nI_pos hn) (by rw [nI_clamp hn]; show 0 + n ≤ n; omega) (by rw [nI_clamp hn]; show 0 + n ≤ n; omega) (Nat.le_of_ble_eq_true rfl) dX6_copy_11 ?_
  exact aw_return rfl dX6_copy_14 ⟨Nat.zero_le _, Nat.zero_le _⟩ rfl rfl (by rw [cCopy_cpy hn]) rfl

