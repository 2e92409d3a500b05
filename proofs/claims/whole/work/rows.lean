section
-- ===== PART A: goes FIRST, ahead of the names: the tables' words, and 'selects' of the private methods out of them =====
/-- a private method of a class that the tables say can be made, by its rows of tables_1 -/
def lw_okq (q : MethodName × Nat) : Prop := (q.1.cls ≠ "java/lang/invoke/MethodHandle" ∧ q.1.cls ≠ "java/lang/invoke/VarHandle") ∧ Cond.instantiable q.1.cls q.2 ∈ tables_1 ∧ Cond.privateMethod q.1 ∈ tables_1 ∧ Cond.instanceMethod q.1 ∈ tables_1
theorem lw_p0 : lw_okq (⟨"ThingMaker$RecipeReader", "readLetter", "([II)I"⟩, 8) := ⟨⟨by decide +kernel, by decide +kernel⟩, List.mem_of_getElem? (i := 142) (by decide +kernel), List.mem_of_getElem? (i := 223) (by decide +kernel), List.mem_of_getElem? (i := 224) (by decide +kernel)⟩
theorem lw_p1 : lw_okq (⟨"ThingMaker$RecipeReader", "skipBlanks", "([II)V"⟩, 8) := ⟨⟨by decide +kernel, by decide +kernel⟩, List.mem_of_getElem? (i := 142) (by decide +kernel), List.mem_of_getElem? (i := 227) (by decide +kernel), List.mem_of_getElem? (i := 228) (by decide +kernel)⟩
theorem lw_p2 : lw_okq (⟨"ThingMaker$RecipeReader", "tellFault", "(II)V"⟩, 8) := ⟨⟨by decide +kernel, by decide +kernel⟩, List.mem_of_getElem? (i := 142) (by decide +kernel), List.mem_of_getElem? (i := 234) (by decide +kernel), List.mem_of_getElem? (i := 235) (by decide +kernel)⟩
theorem lw_p3 : lw_okq (⟨"ThingMaker$RecipeReader", "readNumber", "([II)I"⟩, 8) := ⟨⟨by decide +kernel, by decide +kernel⟩, List.mem_of_getElem? (i := 142) (by decide +kernel), List.mem_of_getElem? (i := 241) (by decide +kernel), List.mem_of_getElem? (i := 242) (by decide +kernel)⟩
theorem lw_p4 : lw_okq (⟨"ThingMaker$RecipeReader", "isDigit", "([III)Z"⟩, 8) := ⟨⟨by decide +kernel, by decide +kernel⟩, List.mem_of_getElem? (i := 142) (by decide +kernel), List.mem_of_getElem? (i := 245) (by decide +kernel), List.mem_of_getElem? (i := 246) (by decide +kernel)⟩
theorem lw_p5 : lw_okq (⟨"ThingMaker$RecipeReader", "readSign", "([III)V"⟩, 8) := ⟨⟨by decide +kernel, by decide +kernel⟩, List.mem_of_getElem? (i := 142) (by decide +kernel), List.mem_of_getElem? (i := 249) (by decide +kernel), List.mem_of_getElem? (i := 250) (by decide +kernel)⟩
theorem lw_p6 : lw_okq (⟨"ThingMaker$RecipeReader", "readIngredient", "([II)V"⟩, 8) := ⟨⟨by decide +kernel, by decide +kernel⟩, List.mem_of_getElem? (i := 142) (by decide +kernel), List.mem_of_getElem? (i := 253) (by decide +kernel), List.mem_of_getElem? (i := 254) (by decide +kernel)⟩
theorem lw_p7 : lw_okq (⟨"ThingMaker$RecipeReader", "isListed", "(I)Z"⟩, 8) := ⟨⟨by decide +kernel, by decide +kernel⟩, List.mem_of_getElem? (i := 142) (by decide +kernel), List.mem_of_getElem? (i := 257) (by decide +kernel), List.mem_of_getElem? (i := 258) (by decide +kernel)⟩
theorem lw_p8 : lw_okq (⟨"ThingMaker$RecipeReader", "isMore", "([II)Z"⟩, 8) := ⟨⟨by decide +kernel, by decide +kernel⟩, List.mem_of_getElem? (i := 142) (by decide +kernel), List.mem_of_getElem? (i := 264) (by decide +kernel), List.mem_of_getElem? (i := 265) (by decide +kernel)⟩
theorem lw_p9 : lw_okq (⟨"ThingMaker$Book", "needsOf", "(I)I"⟩, 8) := ⟨⟨by decide +kernel, by decide +kernel⟩, List.mem_of_getElem? (i := 22) (by decide +kernel), List.mem_of_getElem? (i := 295) (by decide +kernel), List.mem_of_getElem? (i := 296) (by decide +kernel)⟩
theorem lw_p10 : lw_okq (⟨"ThingMaker$Book", "greatestRankIn", "(I)I"⟩, 8) := ⟨⟨by decide +kernel, by decide +kernel⟩, List.mem_of_getElem? (i := 22) (by decide +kernel), List.mem_of_getElem? (i := 315) (by decide +kernel), List.mem_of_getElem? (i := 316) (by decide +kernel)⟩
theorem lw_p11 : lw_okq (⟨"ThingMaker$History", "placeOf", "(I)I"⟩, 3) := ⟨⟨by decide +kernel, by decide +kernel⟩, List.mem_of_getElem? (i := 123) (by decide +kernel), List.mem_of_getElem? (i := 333) (by decide +kernel), List.mem_of_getElem? (i := 334) (by decide +kernel)⟩
theorem lw_p12 : lw_okq (⟨"ThingMaker$Works", "provide", "(LThingMaker$Book;III)V"⟩, 5) := ⟨⟨by decide +kernel, by decide +kernel⟩, List.mem_of_getElem? (i := 98) (by decide +kernel), List.mem_of_getElem? (i := 453) (by decide +kernel), List.mem_of_getElem? (i := 454) (by decide +kernel)⟩
theorem lw_p13 : lw_okq (⟨"ThingMaker$Works", "run", "(LThingMaker$Book;III)V"⟩, 5) := ⟨⟨by decide +kernel, by decide +kernel⟩, List.mem_of_getElem? (i := 98) (by decide +kernel), List.mem_of_getElem? (i := 462) (by decide +kernel), List.mem_of_getElem? (i := 463) (by decide +kernel)⟩
theorem lw_p14 : lw_okq (⟨"ThingMaker$Works", "take", "(LThingMaker$Book;III)V"⟩, 5) := ⟨⟨by decide +kernel, by decide +kernel⟩, List.mem_of_getElem? (i := 98) (by decide +kernel), List.mem_of_getElem? (i := 472) (by decide +kernel), List.mem_of_getElem? (i := 473) (by decide +kernel)⟩
theorem lw_p15 : lw_okq (⟨"ThingMaker$Works", "useUp", "(LThingMaker$Book;II)I"⟩, 5) := ⟨⟨by decide +kernel, by decide +kernel⟩, List.mem_of_getElem? (i := 98) (by decide +kernel), List.mem_of_getElem? (i := 476) (by decide +kernel), List.mem_of_getElem? (i := 477) (by decide +kernel)⟩
def lw_privs_1 : List (MethodName × Nat) := [(⟨"ThingMaker$RecipeReader", "readLetter", "([II)I"⟩, 8), (⟨"ThingMaker$RecipeReader", "skipBlanks", "([II)V"⟩, 8), (⟨"ThingMaker$RecipeReader", "tellFault", "(II)V"⟩, 8), (⟨"ThingMaker$RecipeReader", "readNumber", "([II)I"⟩, 8), (⟨"ThingMaker$RecipeReader", "isDigit", "([III)Z"⟩, 8), (⟨"ThingMaker$RecipeReader", "readSign", "([III)V"⟩, 8), (⟨"ThingMaker$RecipeReader", "readIngredient", "([II)V"⟩, 8), (⟨"ThingMaker$RecipeReader", "isListed", "(I)Z"⟩, 8), (⟨"ThingMaker$RecipeReader", "isMore", "([II)Z"⟩, 8), (⟨"ThingMaker$Book", "needsOf", "(I)I"⟩, 8), (⟨"ThingMaker$Book", "greatestRankIn", "(I)I"⟩, 8), (⟨"ThingMaker$History", "placeOf", "(I)I"⟩, 3), (⟨"ThingMaker$Works", "provide", "(LThingMaker$Book;III)V"⟩, 5), (⟨"ThingMaker$Works", "run", "(LThingMaker$Book;III)V"⟩, 5), (⟨"ThingMaker$Works", "take", "(LThingMaker$Book;III)V"⟩, 5), (⟨"ThingMaker$Works", "useUp", "(LThingMaker$Book;II)I"⟩, 5)]
theorem lw_r1 : ∀ q ∈ lw_privs_1, lw_okq q := List.forall_mem_cons.mpr ⟨lw_p0, List.forall_mem_cons.mpr ⟨lw_p1, List.forall_mem_cons.mpr ⟨lw_p2, List.forall_mem_cons.mpr ⟨lw_p3, List.forall_mem_cons.mpr ⟨lw_p4, List.forall_mem_cons.mpr ⟨lw_p5, List.forall_mem_cons.mpr ⟨lw_p6, List.forall_mem_cons.mpr ⟨lw_p7, List.forall_mem_cons.mpr ⟨lw_p8, List.forall_mem_cons.mpr ⟨lw_p9, List.forall_mem_cons.mpr ⟨lw_p10, List.forall_mem_cons.mpr ⟨lw_p11, List.forall_mem_cons.mpr ⟨lw_p12, List.forall_mem_cons.mpr ⟨lw_p13, List.forall_mem_cons.mpr ⟨lw_p14, List.forall_mem_cons.mpr ⟨lw_p15, fun _ h => absurd h List.not_mem_nil⟩⟩⟩⟩⟩⟩⟩⟩⟩⟩⟩⟩⟩⟩⟩⟩
theorem lw_p16 : lw_okq (⟨"ThingMaker$Works", "comeIn", "(II[I)V"⟩, 5) := ⟨⟨by decide +kernel, by decide +kernel⟩, List.mem_of_getElem? (i := 98) (by decide +kernel), List.mem_of_getElem? (i := 483) (by decide +kernel), List.mem_of_getElem? (i := 484) (by decide +kernel)⟩
theorem lw_p17 : lw_okq (⟨"ThingMaker$Works", "standIn", "(LThingMaker$Book;I)I"⟩, 5) := ⟨⟨by decide +kernel, by decide +kernel⟩, List.mem_of_getElem? (i := 98) (by decide +kernel), List.mem_of_getElem? (i := 490) (by decide +kernel), List.mem_of_getElem? (i := 491) (by decide +kernel)⟩
theorem lw_p18 : lw_okq (⟨"ThingMaker$Works", "collect", "(II)V"⟩, 5) := ⟨⟨by decide +kernel, by decide +kernel⟩, List.mem_of_getElem? (i := 98) (by decide +kernel), List.mem_of_getElem? (i := 494) (by decide +kernel), List.mem_of_getElem? (i := 495) (by decide +kernel)⟩
theorem lw_p19 : lw_okq (⟨"ThingMaker", "acceptWorks", "()I"⟩, 11) := ⟨⟨by decide +kernel, by decide +kernel⟩, List.mem_of_getElem? (i := 14) (by decide +kernel), List.mem_of_getElem? (i := 498) (by decide +kernel), List.mem_of_getElem? (i := 499) (by decide +kernel)⟩
theorem lw_p20 : lw_okq (⟨"ThingMakerModel", "put", "(III)V"⟩, 29) := ⟨⟨by decide +kernel, by decide +kernel⟩, List.mem_of_getElem? (i := 627) (by decide +kernel), List.mem_of_getElem? (i := 633) (by decide +kernel), List.mem_of_getElem? (i := 634) (by decide +kernel)⟩
theorem lw_p21 : lw_okq (⟨"ThingMakerModel", "hold", "()V"⟩, 29) := ⟨⟨by decide +kernel, by decide +kernel⟩, List.mem_of_getElem? (i := 627) (by decide +kernel), List.mem_of_getElem? (i := 736) (by decide +kernel), List.mem_of_getElem? (i := 737) (by decide +kernel)⟩
theorem lw_p22 : lw_okq (⟨"ThingMakerModel", "wishNow", "(II)V"⟩, 29) := ⟨⟨by decide +kernel, by decide +kernel⟩, List.mem_of_getElem? (i := 627) (by decide +kernel), List.mem_of_getElem? (i := 740) (by decide +kernel), List.mem_of_getElem? (i := 741) (by decide +kernel)⟩
theorem lw_p23 : lw_okq (⟨"ThingMakerModel", "beginMaking", "()V"⟩, 29) := ⟨⟨by decide +kernel, by decide +kernel⟩, List.mem_of_getElem? (i := 627) (by decide +kernel), List.mem_of_getElem? (i := 744) (by decide +kernel), List.mem_of_getElem? (i := 745) (by decide +kernel)⟩
theorem lw_p24 : lw_okq (⟨"ThingMakerModel", "of", "(II)I"⟩, 29) := ⟨⟨by decide +kernel, by decide +kernel⟩, List.mem_of_getElem? (i := 627) (by decide +kernel), List.mem_of_getElem? (i := 748) (by decide +kernel), List.mem_of_getElem? (i := 749) (by decide +kernel)⟩
theorem lw_p25 : lw_okq (⟨"ThingMakerModel", "isMade", "(I)Z"⟩, 29) := ⟨⟨by decide +kernel, by decide +kernel⟩, List.mem_of_getElem? (i := 627) (by decide +kernel), List.mem_of_getElem? (i := 752) (by decide +kernel), List.mem_of_getElem? (i := 753) (by decide +kernel)⟩
theorem lw_p26 : lw_okq (⟨"ThingMakerModel", "batchesFor", "(II)I"⟩, 29) := ⟨⟨by decide +kernel, by decide +kernel⟩, List.mem_of_getElem? (i := 627) (by decide +kernel), List.mem_of_getElem? (i := 756) (by decide +kernel), List.mem_of_getElem? (i := 757) (by decide +kernel)⟩
theorem lw_p27 : lw_okq (⟨"ThingMakerModel", "begin", "(III)V"⟩, 29) := ⟨⟨by decide +kernel, by decide +kernel⟩, List.mem_of_getElem? (i := 627) (by decide +kernel), List.mem_of_getElem? (i := 760) (by decide +kernel), List.mem_of_getElem? (i := 761) (by decide +kernel)⟩
theorem lw_p28 : lw_okq (⟨"ThingMakerModel", "makeBegun", "()V"⟩, 29) := ⟨⟨by decide +kernel, by decide +kernel⟩, List.mem_of_getElem? (i := 627) (by decide +kernel), List.mem_of_getElem? (i := 764) (by decide +kernel), List.mem_of_getElem? (i := 765) (by decide +kernel)⟩
theorem lw_p29 : lw_okq (⟨"ThingMakerModel", "ingredientOf", "(II)I"⟩, 29) := ⟨⟨by decide +kernel, by decide +kernel⟩, List.mem_of_getElem? (i := 627) (by decide +kernel), List.mem_of_getElem? (i := 768) (by decide +kernel), List.mem_of_getElem? (i := 769) (by decide +kernel)⟩
theorem lw_p30 : lw_okq (⟨"ThingMakerModel", "amountOf", "(II)I"⟩, 29) := ⟨⟨by decide +kernel, by decide +kernel⟩, List.mem_of_getElem? (i := 627) (by decide +kernel), List.mem_of_getElem? (i := 772) (by decide +kernel), List.mem_of_getElem? (i := 773) (by decide +kernel)⟩
theorem lw_p31 : lw_okq (⟨"ThingMakerModel", "take", "(II)V"⟩, 29) := ⟨⟨by decide +kernel, by decide +kernel⟩, List.mem_of_getElem? (i := 627) (by decide +kernel), List.mem_of_getElem? (i := 776) (by decide +kernel), List.mem_of_getElem? (i := 777) (by decide +kernel)⟩
def lw_privs_2 : List (MethodName × Nat) := [(⟨"ThingMaker$Works", "comeIn", "(II[I)V"⟩, 5), (⟨"ThingMaker$Works", "standIn", "(LThingMaker$Book;I)I"⟩, 5), (⟨"ThingMaker$Works", "collect", "(II)V"⟩, 5), (⟨"ThingMaker", "acceptWorks", "()I"⟩, 11), (⟨"ThingMakerModel", "put", "(III)V"⟩, 29), (⟨"ThingMakerModel", "hold", "()V"⟩, 29), (⟨"ThingMakerModel", "wishNow", "(II)V"⟩, 29), (⟨"ThingMakerModel", "beginMaking", "()V"⟩, 29), (⟨"ThingMakerModel", "of", "(II)I"⟩, 29), (⟨"ThingMakerModel", "isMade", "(I)Z"⟩, 29), (⟨"ThingMakerModel", "batchesFor", "(II)I"⟩, 29), (⟨"ThingMakerModel", "begin", "(III)V"⟩, 29), (⟨"ThingMakerModel", "makeBegun", "()V"⟩, 29), (⟨"ThingMakerModel", "ingredientOf", "(II)I"⟩, 29), (⟨"ThingMakerModel", "amountOf", "(II)I"⟩, 29), (⟨"ThingMakerModel", "take", "(II)V"⟩, 29)]
theorem lw_r2 : ∀ q ∈ lw_privs_2, lw_okq q := List.forall_mem_cons.mpr ⟨lw_p16, List.forall_mem_cons.mpr ⟨lw_p17, List.forall_mem_cons.mpr ⟨lw_p18, List.forall_mem_cons.mpr ⟨lw_p19, List.forall_mem_cons.mpr ⟨lw_p20, List.forall_mem_cons.mpr ⟨lw_p21, List.forall_mem_cons.mpr ⟨lw_p22, List.forall_mem_cons.mpr ⟨lw_p23, List.forall_mem_cons.mpr ⟨lw_p24, List.forall_mem_cons.mpr ⟨lw_p25, List.forall_mem_cons.mpr ⟨lw_p26, List.forall_mem_cons.mpr ⟨lw_p27, List.forall_mem_cons.mpr ⟨lw_p28, List.forall_mem_cons.mpr ⟨lw_p29, List.forall_mem_cons.mpr ⟨lw_p30, List.forall_mem_cons.mpr ⟨lw_p31, fun _ h => absurd h List.not_mem_nil⟩⟩⟩⟩⟩⟩⟩⟩⟩⟩⟩⟩⟩⟩⟩⟩
theorem lw_p32 : lw_okq (⟨"ThingMakerModel", "fromStore", "(II)I"⟩, 29) := ⟨⟨by decide +kernel, by decide +kernel⟩, List.mem_of_getElem? (i := 627) (by decide +kernel), List.mem_of_getElem? (i := 780) (by decide +kernel), List.mem_of_getElem? (i := 781) (by decide +kernel)⟩
theorem lw_p33 : lw_okq (⟨"ThingMakerModel", "useUp", "(II)V"⟩, 29) := ⟨⟨by decide +kernel, by decide +kernel⟩, List.mem_of_getElem? (i := 627) (by decide +kernel), List.mem_of_getElem? (i := 784) (by decide +kernel), List.mem_of_getElem? (i := 785) (by decide +kernel)⟩
theorem lw_p34 : lw_okq (⟨"ThingMakerModel", "come", "(III)V"⟩, 29) := ⟨⟨by decide +kernel, by decide +kernel⟩, List.mem_of_getElem? (i := 627) (by decide +kernel), List.mem_of_getElem? (i := 788) (by decide +kernel), List.mem_of_getElem? (i := 789) (by decide +kernel)⟩
theorem lw_p35 : lw_okq (⟨"ThingMakerModel", "gatherNow", "(II)V"⟩, 29) := ⟨⟨by decide +kernel, by decide +kernel⟩, List.mem_of_getElem? (i := 627) (by decide +kernel), List.mem_of_getElem? (i := 793) (by decide +kernel), List.mem_of_getElem? (i := 794) (by decide +kernel)⟩
theorem lw_p36 : lw_okq (⟨"ThingMakerModel", "endMaking", "()I"⟩, 29) := ⟨⟨by decide +kernel, by decide +kernel⟩, List.mem_of_getElem? (i := 627) (by decide +kernel), List.mem_of_getElem? (i := 797) (by decide +kernel), List.mem_of_getElem? (i := 798) (by decide +kernel)⟩
theorem lw_p37 : lw_okq (⟨"ThingMakerModel", "restore", "()V"⟩, 29) := ⟨⟨by decide +kernel, by decide +kernel⟩, List.mem_of_getElem? (i := 627) (by decide +kernel), List.mem_of_getElem? (i := 801) (by decide +kernel), List.mem_of_getElem? (i := 802) (by decide +kernel)⟩
theorem lw_p38 : lw_okq (⟨"ThingMakerModel", "remember", "()V"⟩, 29) := ⟨⟨by decide +kernel, by decide +kernel⟩, List.mem_of_getElem? (i := 627) (by decide +kernel), List.mem_of_getElem? (i := 805) (by decide +kernel), List.mem_of_getElem? (i := 806) (by decide +kernel)⟩
theorem lw_p39 : lw_okq (⟨"ThingMakerModel", "readText", "()V"⟩, 29) := ⟨⟨by decide +kernel, by decide +kernel⟩, List.mem_of_getElem? (i := 627) (by decide +kernel), List.mem_of_getElem? (i := 817) (by decide +kernel), List.mem_of_getElem? (i := 818) (by decide +kernel)⟩
theorem lw_p40 : lw_okq (⟨"ThingMakerModel", "mark", "(II)V"⟩, 29) := ⟨⟨by decide +kernel, by decide +kernel⟩, List.mem_of_getElem? (i := 627) (by decide +kernel), List.mem_of_getElem? (i := 821) (by decide +kernel), List.mem_of_getElem? (i := 822) (by decide +kernel)⟩
theorem lw_p41 : lw_okq (⟨"ThingMakerModel", "readDigit", "(I)V"⟩, 29) := ⟨⟨by decide +kernel, by decide +kernel⟩, List.mem_of_getElem? (i := 627) (by decide +kernel), List.mem_of_getElem? (i := 825) (by decide +kernel), List.mem_of_getElem? (i := 826) (by decide +kernel)⟩
theorem lw_p42 : lw_okq (⟨"ThingMakerModel", "isNumber", "()Z"⟩, 29) := ⟨⟨by decide +kernel, by decide +kernel⟩, List.mem_of_getElem? (i := 627) (by decide +kernel), List.mem_of_getElem? (i := 829) (by decide +kernel), List.mem_of_getElem? (i := 830) (by decide +kernel)⟩
theorem lw_p43 : lw_okq (⟨"ThingMakerModel", "readOther", "(I)V"⟩, 29) := ⟨⟨by decide +kernel, by decide +kernel⟩, List.mem_of_getElem? (i := 627) (by decide +kernel), List.mem_of_getElem? (i := 833) (by decide +kernel), List.mem_of_getElem? (i := 834) (by decide +kernel)⟩
theorem lw_p44 : lw_okq (⟨"ThingMakerModel", "endsWell", "()Z"⟩, 29) := ⟨⟨by decide +kernel, by decide +kernel⟩, List.mem_of_getElem? (i := 627) (by decide +kernel), List.mem_of_getElem? (i := 837) (by decide +kernel), List.mem_of_getElem? (i := 838) (by decide +kernel)⟩
theorem lw_p45 : lw_okq (⟨"ThingMakerModel", "readIngredient", "(III)V"⟩, 29) := ⟨⟨by decide +kernel, by decide +kernel⟩, List.mem_of_getElem? (i := 627) (by decide +kernel), List.mem_of_getElem? (i := 841) (by decide +kernel), List.mem_of_getElem? (i := 842) (by decide +kernel)⟩
theorem lw_p46 : lw_okq (⟨"ThingMakerModel", "areRanks", "()Z"⟩, 29) := ⟨⟨by decide +kernel, by decide +kernel⟩, List.mem_of_getElem? (i := 627) (by decide +kernel), List.mem_of_getElem? (i := 845) (by decide +kernel), List.mem_of_getElem? (i := 846) (by decide +kernel)⟩
theorem lw_p47 : lw_okq (⟨"ThingMakerModel", "rankBy", "(I)I"⟩, 29) := ⟨⟨by decide +kernel, by decide +kernel⟩, List.mem_of_getElem? (i := 627) (by decide +kernel), List.mem_of_getElem? (i := 849) (by decide +kernel), List.mem_of_getElem? (i := 850) (by decide +kernel)⟩
def lw_privs_3 : List (MethodName × Nat) := [(⟨"ThingMakerModel", "fromStore", "(II)I"⟩, 29), (⟨"ThingMakerModel", "useUp", "(II)V"⟩, 29), (⟨"ThingMakerModel", "come", "(III)V"⟩, 29), (⟨"ThingMakerModel", "gatherNow", "(II)V"⟩, 29), (⟨"ThingMakerModel", "endMaking", "()I"⟩, 29), (⟨"ThingMakerModel", "restore", "()V"⟩, 29), (⟨"ThingMakerModel", "remember", "()V"⟩, 29), (⟨"ThingMakerModel", "readText", "()V"⟩, 29), (⟨"ThingMakerModel", "mark", "(II)V"⟩, 29), (⟨"ThingMakerModel", "readDigit", "(I)V"⟩, 29), (⟨"ThingMakerModel", "isNumber", "()Z"⟩, 29), (⟨"ThingMakerModel", "readOther", "(I)V"⟩, 29), (⟨"ThingMakerModel", "endsWell", "()Z"⟩, 29), (⟨"ThingMakerModel", "readIngredient", "(III)V"⟩, 29), (⟨"ThingMakerModel", "areRanks", "()Z"⟩, 29), (⟨"ThingMakerModel", "rankBy", "(I)I"⟩, 29)]
theorem lw_r3 : ∀ q ∈ lw_privs_3, lw_okq q := List.forall_mem_cons.mpr ⟨lw_p32, List.forall_mem_cons.mpr ⟨lw_p33, List.forall_mem_cons.mpr ⟨lw_p34, List.forall_mem_cons.mpr ⟨lw_p35, List.forall_mem_cons.mpr ⟨lw_p36, List.forall_mem_cons.mpr ⟨lw_p37, List.forall_mem_cons.mpr ⟨lw_p38, List.forall_mem_cons.mpr ⟨lw_p39, List.forall_mem_cons.mpr ⟨lw_p40, List.forall_mem_cons.mpr ⟨lw_p41, List.forall_mem_cons.mpr ⟨lw_p42, List.forall_mem_cons.mpr ⟨lw_p43, List.forall_mem_cons.mpr ⟨lw_p44, List.forall_mem_cons.mpr ⟨lw_p45, List.forall_mem_cons.mpr ⟨lw_p46, List.forall_mem_cons.mpr ⟨lw_p47, fun _ h => absurd h List.not_mem_nil⟩⟩⟩⟩⟩⟩⟩⟩⟩⟩⟩⟩⟩⟩⟩⟩
theorem lw_p48 : lw_okq (⟨"ThingMakerModel", "isVessel", "(I)Z"⟩, 29) := ⟨⟨by decide +kernel, by decide +kernel⟩, List.mem_of_getElem? (i := 627) (by decide +kernel), List.mem_of_getElem? (i := 869) (by decide +kernel), List.mem_of_getElem? (i := 870) (by decide +kernel)⟩
theorem lw_p49 : lw_okq (⟨"ThingMakerModel", "recipes", "()I"⟩, 29) := ⟨⟨by decide +kernel, by decide +kernel⟩, List.mem_of_getElem? (i := 627) (by decide +kernel), List.mem_of_getElem? (i := 897) (by decide +kernel), List.mem_of_getElem? (i := 898) (by decide +kernel)⟩
theorem lw_p50 : lw_okq (⟨"ThingMakerModel", "stored", "()I"⟩, 29) := ⟨⟨by decide +kernel, by decide +kernel⟩, List.mem_of_getElem? (i := 627) (by decide +kernel), List.mem_of_getElem? (i := 901) (by decide +kernel), List.mem_of_getElem? (i := 902) (by decide +kernel)⟩
theorem lw_p51 : lw_okq (⟨"ThingMakerModel", "greatestRank", "()I"⟩, 29) := ⟨⟨by decide +kernel, by decide +kernel⟩, List.mem_of_getElem? (i := 627) (by decide +kernel), List.mem_of_getElem? (i := 905) (by decide +kernel), List.mem_of_getElem? (i := 906) (by decide +kernel)⟩
theorem lw_p52 : lw_okq (⟨"ThingMakerModel", "madeThings", "()I"⟩, 29) := ⟨⟨by decide +kernel, by decide +kernel⟩, List.mem_of_getElem? (i := 627) (by decide +kernel), List.mem_of_getElem? (i := 909) (by decide +kernel), List.mem_of_getElem? (i := 910) (by decide +kernel)⟩
theorem lw_p53 : lw_okq (⟨"ThingMakerModel", "reach", "(I)V"⟩, 29) := ⟨⟨by decide +kernel, by decide +kernel⟩, List.mem_of_getElem? (i := 627) (by decide +kernel), List.mem_of_getElem? (i := 929) (by decide +kernel), List.mem_of_getElem? (i := 930) (by decide +kernel)⟩
theorem lw_p54 : lw_okq (⟨"ThingMakerModel", "tryWish", "(III)I"⟩, 29) := ⟨⟨by decide +kernel, by decide +kernel⟩, List.mem_of_getElem? (i := 627) (by decide +kernel), List.mem_of_getElem? (i := 941) (by decide +kernel), List.mem_of_getElem? (i := 942) (by decide +kernel)⟩
def lw_privs_4 : List (MethodName × Nat) := [(⟨"ThingMakerModel", "isVessel", "(I)Z"⟩, 29), (⟨"ThingMakerModel", "recipes", "()I"⟩, 29), (⟨"ThingMakerModel", "stored", "()I"⟩, 29), (⟨"ThingMakerModel", "greatestRank", "()I"⟩, 29), (⟨"ThingMakerModel", "madeThings", "()I"⟩, 29), (⟨"ThingMakerModel", "reach", "(I)V"⟩, 29), (⟨"ThingMakerModel", "tryWish", "(III)I"⟩, 29)]
theorem lw_r4 : ∀ q ∈ lw_privs_4, lw_okq q := List.forall_mem_cons.mpr ⟨lw_p48, List.forall_mem_cons.mpr ⟨lw_p49, List.forall_mem_cons.mpr ⟨lw_p50, List.forall_mem_cons.mpr ⟨lw_p51, List.forall_mem_cons.mpr ⟨lw_p52, List.forall_mem_cons.mpr ⟨lw_p53, List.forall_mem_cons.mpr ⟨lw_p54, fun _ h => absurd h List.not_mem_nil⟩⟩⟩⟩⟩⟩⟩
def lw_privs : List (MethodName × Nat) := lw_privs_1 ++ (lw_privs_2 ++ (lw_privs_3 ++ (lw_privs_4)))
def lw_tbl : List Cond := k2_sels lw_privs ++ tables_1
theorem lw_privs_ok : ∀ q ∈ lw_privs, lw_okq q := by
  show ∀ q ∈ lw_privs_1 ++ (lw_privs_2 ++ (lw_privs_3 ++ (lw_privs_4))), lw_okq q
  exact List.forall_mem_append.mpr ⟨lw_r1, List.forall_mem_append.mpr ⟨lw_r2, List.forall_mem_append.mpr ⟨lw_r3, lw_r4⟩⟩⟩
/-- the streams that the claim lets the run draw from -/
abbrev lw_cs : List Choice := [Jvm.Choice.named "NaN.bits"]
theorem lw_bits : nanBits ∈ lw_cs := by first | decide | exact List.mem_cons_self | simp [lw_cs, nanBits]
-- ===== end of PART A; then your names; then what follows =====
end
section
/-! ===== BEGIN words of one list among another's, by their places ===== -/
theorem goodIn_r {big : List Cond} (ws : List Cond) (ps : List Nat) (hp : ws = ps.filterMap (fun i => big[i]?)) (h : ws.all goodWord = true) : GoodIn big ws := by
  intro w hw
  have h1 := List.all_eq_true.mp h w hw
  rw [hp] at hw
  obtain ⟨i, -, hi⟩ := List.mem_filterMap.mp hw
  have hm : w ∈ big := by first | exact List.mem_of_getElem? hi | exact List.getElem?_mem hi
  exact ⟨hm, good_of_word h1⟩
theorem goodIn_app {big a b : List Cond} (ha : GoodIn big a) (hb : GoodIn big b) : GoodIn big (a ++ b) := fun w h => (List.mem_append.mp h).elim (ha w) (hb w)
theorem goodIn_ca {big a b : List Cond} {c : Cond} (ha : GoodIn big (c :: a)) (hb : GoodIn big b) : GoodIn big (c :: (a ++ b)) := fun w h => (List.mem_cons.mp h).elim (fun e => ha w (List.mem_cons.mpr (Or.inl e))) (fun h => (List.mem_append.mp h).elim (fun h => ha w (List.mem_cons.mpr (Or.inr h))) (hb w))
theorem goodIn_sub {big ws : List Cond} (hm : ∀ w ∈ ws, w ∈ big) (h : ws.all goodWord = true) : GoodIn big ws := fun w hw => ⟨hm w hw, good_of_word (List.all_eq_true.mp h w hw)⟩
/-! ===== END ===== -/

/-! ===== BEGIN printed: names, fields, word lists, decode rows ===== -/
def RX0 : String := "ThingMaker$Book"
def TX0 : u_T := fun k => match k with
  | 0 => ("ThingMaker$Book", "yields", "[I", true)
  | 1 => ("ThingMaker$Book", "ingredientCounts", "[I", true)
  | 2 => ("ThingMaker$Book", "ingredients", "[I", true)
  | 3 => ("ThingMaker$Book", "amounts", "[I", true)
  | 4 => ("ThingMaker$Book", "substituteCounts", "[I", true)
  | 5 => ("ThingMaker$Book", "substitutes", "[I", true)
  | 6 => ("ThingMaker$Book", "vessels", "[I", true)
  | _ => ("ThingMaker$Book", "ranks", "[I", true)
def tyX0 : Nat → FieldType := fun k => match k with
  | 0 => .array .int
  | 1 => .array .int
  | 2 => .array .int
  | 3 => .array .int
  | 4 => .array .int
  | 5 => .array .int
  | 6 => .array .int
  | _ => .array .int
abbrev wsX00 : List Cond := u_ws RX0 TX0 8
theorem nmX0 : ∀ a, a < 8 → ∀ b, b < 8 → a ≠ b → (TX0 a).2.1 ≠ (TX0 b).2.1 := by decide +kernel
theorem tyX0_ok : ∀ k, k < 8 → parseFieldDescriptor (TX0 k).2.2.1 = some (tyX0 k) := by decide +kernel
abbrev cX0_init : ByteArray := prog_2_method_1_code
def yX0_init : MethodName := ⟨RX0, "<init>", "()V"⟩
abbrev cX0_copyFrom : ByteArray := prog_2_method_2_code
def yX0_copyFrom : MethodName := ⟨RX0, "copyFrom", "(LThingMaker$Book;)V"⟩
abbrev cX0_isMade : ByteArray := prog_2_method_3_code
def yX0_isMade : MethodName := ⟨RX0, "isMade", "(I)Z"⟩
abbrev cX0_yieldOf : ByteArray := prog_2_method_4_code
def yX0_yieldOf : MethodName := ⟨RX0, "yieldOf", "(I)I"⟩
abbrev cX0_ingredientsOf : ByteArray := prog_2_method_5_code
def yX0_ingredientsOf : MethodName := ⟨RX0, "ingredientsOf", "(I)I"⟩
abbrev cX0_ingredientAt : ByteArray := prog_2_method_6_code
def yX0_ingredientAt : MethodName := ⟨RX0, "ingredientAt", "(II)I"⟩
abbrev cX0_amountAt : ByteArray := prog_2_method_7_code
def yX0_amountAt : MethodName := ⟨RX0, "amountAt", "(II)I"⟩
abbrev cX0_substitutesOf : ByteArray := prog_2_method_8_code
def yX0_substitutesOf : MethodName := ⟨RX0, "substitutesOf", "(I)I"⟩
abbrev cX0_substituteAt : ByteArray := prog_2_method_9_code
def yX0_substituteAt : MethodName := ⟨RX0, "substituteAt", "(II)I"⟩
abbrev cX0_vesselOf : ByteArray := prog_2_method_10_code
def yX0_vesselOf : MethodName := ⟨RX0, "vesselOf", "(I)I"⟩
abbrev cX0_rankOf : ByteArray := prog_2_method_11_code
def yX0_rankOf : MethodName := ⟨RX0, "rankOf", "(I)I"⟩
abbrev cX0_recipes : ByteArray := prog_2_method_12_code
def yX0_recipes : MethodName := ⟨RX0, "recipes", "()I"⟩
abbrev cX0_madeThings : ByteArray := prog_2_method_13_code
def yX0_madeThings : MethodName := ⟨RX0, "madeThings", "()I"⟩
abbrev cX0_greatestRank : ByteArray := prog_2_method_14_code
def yX0_greatestRank : MethodName := ⟨RX0, "greatestRank", "()I"⟩
abbrev cX0_lay : ByteArray := prog_2_method_15_code
def yX0_lay : MethodName := ⟨RX0, "lay", "(LThingMaker$RecipeReader;)V"⟩
abbrev cX0_strike : ByteArray := prog_2_method_16_code
def yX0_strike : MethodName := ⟨RX0, "strike", "(I)V"⟩
abbrev cX0_hasSubstitute : ByteArray := prog_2_method_17_code
def yX0_hasSubstitute : MethodName := ⟨RX0, "hasSubstitute", "(II)Z"⟩
abbrev cX0_addSubstitute : ByteArray := prog_2_method_18_code
def yX0_addSubstitute : MethodName := ⟨RX0, "addSubstitute", "(II)V"⟩
abbrev cX0_removeSubstitute : ByteArray := prog_2_method_19_code
def yX0_removeSubstitute : MethodName := ⟨RX0, "removeSubstitute", "(II)V"⟩
abbrev cX0_setVessel : ByteArray := prog_2_method_20_code
def yX0_setVessel : MethodName := ⟨RX0, "setVessel", "(II)V"⟩
abbrev cX0_isVessel : ByteArray := prog_2_method_21_code
def yX0_isVessel : MethodName := ⟨RX0, "isVessel", "(I)Z"⟩
abbrev cX0_findRanks : ByteArray := prog_2_method_22_code
def yX0_findRanks : MethodName := ⟨RX0, "findRanks", "()Z"⟩
abbrev cX0_greatestRankIn : ByteArray := prog_2_method_23_code
def yX0_greatestRankIn : MethodName := ⟨RX0, "greatestRankIn", "(I)I"⟩
abbrev cX0_needsOf : ByteArray := prog_2_method_24_code
def yX0_needsOf : MethodName := ⟨RX0, "needsOf", "(I)I"⟩
abbrev cX0_allNeedsOf : ByteArray := prog_2_method_25_code
def yX0_allNeedsOf : MethodName := ⟨RX0, "allNeedsOf", "(I)I"⟩
def RX1 : String := "ThingMaker$History"
def TX1 : u_T := fun k => match k with
  | 0 => ("ThingMaker$History", "states", "[LThingMaker$State;", true)
  | 1 => ("ThingMaker$History", "oldest", "I", false)
  | _ => ("ThingMaker$History", "size", "I", false)
def tyX1 : Nat → FieldType := fun k => match k with
  | 0 => .array (.object "ThingMaker$State")
  | 1 => .int
  | _ => .int
abbrev wsX10 : List Cond := u_ws RX1 TX1 3
theorem nmX1 : ∀ a, a < 3 → ∀ b, b < 3 → a ≠ b → (TX1 a).2.1 ≠ (TX1 b).2.1 := by decide +kernel
theorem tyX1_ok : ∀ k, k < 3 → parseFieldDescriptor (TX1 k).2.2.1 = some (tyX1 k) := by decide +kernel
abbrev cX1_init : ByteArray := prog_3_method_1_code
def yX1_init : MethodName := ⟨RX1, "<init>", "()V"⟩
abbrev cX1_size : ByteArray := prog_3_method_2_code
def yX1_size : MethodName := ⟨RX1, "size", "()I"⟩
abbrev cX1_remember : ByteArray := prog_3_method_3_code
def yX1_remember : MethodName := ⟨RX1, "remember", "(LThingMaker$Book;LThingMaker$Stock;)V"⟩
abbrev cX1_restore : ByteArray := prog_3_method_4_code
def yX1_restore : MethodName := ⟨RX1, "restore", "(LThingMaker$Book;LThingMaker$Stock;)V"⟩
abbrev cX1_placeOf : ByteArray := prog_3_method_5_code
def yX1_placeOf : MethodName := ⟨RX1, "placeOf", "(I)I"⟩
def RX2 : String := "ThingMaker$RecipeReader"
def TX2 : u_T := fun k => match k with
  | 0 => ("ThingMaker$RecipeReader", "ingredients", "[I", true)
  | 1 => ("ThingMaker$RecipeReader", "amounts", "[I", true)
  | 2 => ("ThingMaker$RecipeReader", "made", "I", false)
  | 3 => ("ThingMaker$RecipeReader", "yielded", "I", false)
  | 4 => ("ThingMaker$RecipeReader", "count", "I", false)
  | 5 => ("ThingMaker$RecipeReader", "faultKind", "I", false)
  | 6 => ("ThingMaker$RecipeReader", "faultPlace", "I", false)
  | _ => ("ThingMaker$RecipeReader", "place", "I", false)
def tyX2 : Nat → FieldType := fun k => match k with
  | 0 => .array .int
  | 1 => .array .int
  | 2 => .int
  | 3 => .int
  | 4 => .int
  | 5 => .int
  | 6 => .int
  | _ => .int
abbrev wsX20 : List Cond := u_ws RX2 TX2 8
theorem nmX2 : ∀ a, a < 8 → ∀ b, b < 8 → a ≠ b → (TX2 a).2.1 ≠ (TX2 b).2.1 := by decide +kernel
theorem tyX2_ok : ∀ k, k < 8 → parseFieldDescriptor (TX2 k).2.2.1 = some (tyX2 k) := by decide +kernel
abbrev cX2_init : ByteArray := prog_4_method_1_code
def yX2_init : MethodName := ⟨RX2, "<init>", "()V"⟩
abbrev cX2_read : ByteArray := prog_4_method_2_code
def yX2_read : MethodName := ⟨RX2, "read", "([II)V"⟩
abbrev cX2_isMore : ByteArray := prog_4_method_3_code
def yX2_isMore : MethodName := ⟨RX2, "isMore", "([II)Z"⟩
abbrev cX2_readIngredient : ByteArray := prog_4_method_4_code
def yX2_readIngredient : MethodName := ⟨RX2, "readIngredient", "([II)V"⟩
abbrev cX2_isListed : ByteArray := prog_4_method_5_code
def yX2_isListed : MethodName := ⟨RX2, "isListed", "(I)Z"⟩
abbrev cX2_readLetter : ByteArray := prog_4_method_6_code
def yX2_readLetter : MethodName := ⟨RX2, "readLetter", "([II)I"⟩
abbrev cX2_readSign : ByteArray := prog_4_method_7_code
def yX2_readSign : MethodName := ⟨RX2, "readSign", "([III)V"⟩
abbrev cX2_readNumber : ByteArray := prog_4_method_8_code
def yX2_readNumber : MethodName := ⟨RX2, "readNumber", "([II)I"⟩
abbrev cX2_isDigit : ByteArray := prog_4_method_9_code
def yX2_isDigit : MethodName := ⟨RX2, "isDigit", "([III)Z"⟩
abbrev cX2_skipBlanks : ByteArray := prog_4_method_10_code
def yX2_skipBlanks : MethodName := ⟨RX2, "skipBlanks", "([II)V"⟩
abbrev cX2_tellFault : ByteArray := prog_4_method_11_code
def yX2_tellFault : MethodName := ⟨RX2, "tellFault", "(II)V"⟩
def RX3 : String := "ThingMaker$State"
def TX3 : u_T := fun k => match k with
  | 0 => ("ThingMaker$State", "book", "LThingMaker$Book;", true)
  | _ => ("ThingMaker$State", "stock", "LThingMaker$Stock;", true)
def tyX3 : Nat → FieldType := fun k => match k with
  | 0 => .object "ThingMaker$Book"
  | _ => .object "ThingMaker$Stock"
abbrev wsX30 : List Cond := u_ws RX3 TX3 2
theorem nmX3 : ∀ a, a < 2 → ∀ b, b < 2 → a ≠ b → (TX3 a).2.1 ≠ (TX3 b).2.1 := by decide +kernel
theorem tyX3_ok : ∀ k, k < 2 → parseFieldDescriptor (TX3 k).2.2.1 = some (tyX3 k) := by decide +kernel
abbrev cX3_init : ByteArray := prog_5_method_1_code
def yX3_init : MethodName := ⟨RX3, "<init>", "()V"⟩
abbrev cX3_hold : ByteArray := prog_5_method_2_code
def yX3_hold : MethodName := ⟨RX3, "hold", "(LThingMaker$Book;LThingMaker$Stock;)V"⟩
abbrev cX3_layOut : ByteArray := prog_5_method_3_code
def yX3_layOut : MethodName := ⟨RX3, "layOut", "(LThingMaker$Book;LThingMaker$Stock;)V"⟩
def RX4 : String := "ThingMaker$Stock"
def TX4 : u_T := fun k => match k with
  | 0 => ("ThingMaker$Stock", "amounts", "[I", true)
  | 1 => ("ThingMaker$Stock", "gathered", "[I", true)
  | 2 => ("ThingMaker$Stock", "made", "[I", true)
  | 3 => ("ThingMaker$Stock", "used", "[I", true)
  | 4 => ("ThingMaker$Stock", "returned", "[I", true)
  | 5 => ("ThingMaker$Stock", "brought", "[I", true)
  | _ => ("ThingMaker$Stock", "batches", "I", false)
def tyX4 : Nat → FieldType := fun k => match k with
  | 0 => .array .int
  | 1 => .array .int
  | 2 => .array .int
  | 3 => .array .int
  | 4 => .array .int
  | 5 => .array .int
  | _ => .int
abbrev wsX40 : List Cond := u_ws RX4 TX4 7
theorem nmX4 : ∀ a, a < 7 → ∀ b, b < 7 → a ≠ b → (TX4 a).2.1 ≠ (TX4 b).2.1 := by decide +kernel
theorem tyX4_ok : ∀ k, k < 7 → parseFieldDescriptor (TX4 k).2.2.1 = some (tyX4 k) := by decide +kernel
abbrev cX4_init : ByteArray := prog_6_method_1_code
def yX4_init : MethodName := ⟨RX4, "<init>", "()V"⟩
abbrev cX4_copyFrom : ByteArray := prog_6_method_2_code
def yX4_copyFrom : MethodName := ⟨RX4, "copyFrom", "(LThingMaker$Stock;)V"⟩
def RX5 : String := "ThingMaker$Works"
def TX5 : u_T := fun k => match k with
  | 0 => ("ThingMaker$Works", "bench", "LThingMaker$Stock;", true)
  | 1 => ("ThingMaker$Works", "mayGather", "Z", false)
  | 2 => ("ThingMaker$Works", "failed", "Z", false)
  | 3 => ("ThingMaker$Works", "batches", "I", false)
  | _ => ("ThingMaker$Works", "gathered", "I", false)
def tyX5 : Nat → FieldType := fun k => match k with
  | 0 => .object "ThingMaker$Stock"
  | 1 => .boolean
  | 2 => .boolean
  | 3 => .int
  | _ => .int
abbrev wsX50 : List Cond := u_ws RX5 TX5 5
theorem nmX5 : ∀ a, a < 5 → ∀ b, b < 5 → a ≠ b → (TX5 a).2.1 ≠ (TX5 b).2.1 := by decide +kernel
theorem tyX5_ok : ∀ k, k < 5 → parseFieldDescriptor (TX5 k).2.2.1 = some (tyX5 k) := by decide +kernel
abbrev cX5_init : ByteArray := prog_7_method_1_code
def yX5_init : MethodName := ⟨RX5, "<init>", "()V"⟩
abbrev cX5_begin : ByteArray := prog_7_method_2_code
def yX5_begin : MethodName := ⟨RX5, "begin", "(LThingMaker$Stock;Z)V"⟩
abbrev cX5_gathered : ByteArray := prog_7_method_3_code
def yX5_gathered : MethodName := ⟨RX5, "gathered", "()I"⟩
abbrev cX5_receive : ByteArray := prog_7_method_4_code
def yX5_receive : MethodName := ⟨RX5, "receive", "(I)Z"⟩
abbrev cX5_fulfil : ByteArray := prog_7_method_5_code
def yX5_fulfil : MethodName := ⟨RX5, "fulfil", "(LThingMaker$Book;II)Z"⟩
abbrev cX5_runAll : ByteArray := prog_7_method_6_code
def yX5_runAll : MethodName := ⟨RX5, "runAll", "(LThingMaker$Book;II)Z"⟩
abbrev cX5_provide : ByteArray := prog_7_method_7_code
def yX5_provide : MethodName := ⟨RX5, "provide", "(LThingMaker$Book;III)V"⟩
abbrev cX5_run : ByteArray := prog_7_method_8_code
def yX5_run : MethodName := ⟨RX5, "run", "(LThingMaker$Book;III)V"⟩
abbrev cX5_take : ByteArray := prog_7_method_9_code
def yX5_take : MethodName := ⟨RX5, "take", "(LThingMaker$Book;III)V"⟩
abbrev cX5_standIn : ByteArray := prog_7_method_10_code
def yX5_standIn : MethodName := ⟨RX5, "standIn", "(LThingMaker$Book;I)I"⟩
abbrev cX5_useUp : ByteArray := prog_7_method_11_code
def yX5_useUp : MethodName := ⟨RX5, "useUp", "(LThingMaker$Book;II)I"⟩
abbrev cX5_collect : ByteArray := prog_7_method_12_code
def yX5_collect : MethodName := ⟨RX5, "collect", "(II)V"⟩
abbrev cX5_comeIn : ByteArray := prog_7_method_13_code
def yX5_comeIn : MethodName := ⟨RX5, "comeIn", "(II[I)V"⟩
def RX6 : String := "ThingMaker"
def TX6 : u_T := fun k => match k with
  | 0 => ("ThingMaker", "book", "LThingMaker$Book;", true)
  | 1 => ("ThingMaker", "draft", "LThingMaker$Book;", true)
  | 2 => ("ThingMaker", "stock", "LThingMaker$Stock;", true)
  | 3 => ("ThingMaker", "works", "LThingMaker$Works;", true)
  | 4 => ("ThingMaker", "history", "LThingMaker$History;", true)
  | 5 => ("ThingMaker", "images", "[LThingMaker$State;", true)
  | 6 => ("ThingMaker", "reader", "LThingMaker$RecipeReader;", true)
  | 7 => ("ThingMaker", "text", "[I", true)
  | 8 => ("ThingMaker", "length", "I", false)
  | 9 => ("ThingMaker", "faultKind", "I", false)
  | _ => ("ThingMaker", "faultPlace", "I", false)
def tyX6 : Nat → FieldType := fun k => match k with
  | 0 => .object "ThingMaker$Book"
  | 1 => .object "ThingMaker$Book"
  | 2 => .object "ThingMaker$Stock"
  | 3 => .object "ThingMaker$Works"
  | 4 => .object "ThingMaker$History"
  | 5 => .array (.object "ThingMaker$State")
  | 6 => .object "ThingMaker$RecipeReader"
  | 7 => .array .int
  | 8 => .int
  | 9 => .int
  | _ => .int
abbrev wsX60 : List Cond := u_ws RX6 TX6 11
theorem nmX6 : ∀ a, a < 11 → ∀ b, b < 11 → a ≠ b → (TX6 a).2.1 ≠ (TX6 b).2.1 := by decide +kernel
theorem tyX6_ok : ∀ k, k < 11 → parseFieldDescriptor (TX6 k).2.2.1 = some (tyX6 k) := by decide +kernel
abbrev cX6_init : ByteArray := prog_1_method_1_code
def yX6_init : MethodName := ⟨RX6, "<init>", "()V"⟩
abbrev cX6_recipe : ByteArray := prog_1_method_2_code
def yX6_recipe : MethodName := ⟨RX6, "recipe", "()I"⟩
abbrev cX6_forget : ByteArray := prog_1_method_3_code
def yX6_forget : MethodName := ⟨RX6, "forget", "(I)I"⟩
abbrev cX6_allow : ByteArray := prog_1_method_4_code
def yX6_allow : MethodName := ⟨RX6, "allow", "(II)I"⟩
abbrev cX6_forbid : ByteArray := prog_1_method_5_code
def yX6_forbid : MethodName := ⟨RX6, "forbid", "(II)I"⟩
abbrev cX6_vessel : ByteArray := prog_1_method_6_code
def yX6_vessel : MethodName := ⟨RX6, "vessel", "(II)I"⟩
abbrev cX6_bring : ByteArray := prog_1_method_7_code
def yX6_bring : MethodName := ⟨RX6, "bring", "(II)I"⟩
abbrev cX6_wish : ByteArray := prog_1_method_8_code
def yX6_wish : MethodName := ⟨RX6, "wish", "(II)I"⟩
abbrev cX6_make : ByteArray := prog_1_method_9_code
def yX6_make : MethodName := ⟨RX6, "make", "(II)I"⟩
abbrev cX6_undo : ByteArray := prog_1_method_10_code
def yX6_undo : MethodName := ⟨RX6, "undo", "()I"⟩
abbrev cX6_write : ByteArray := prog_1_method_11_code
def yX6_write : MethodName := ⟨RX6, "write", "(I)I"⟩
abbrev cX6_wipe : ByteArray := prog_1_method_12_code
def yX6_wipe : MethodName := ⟨RX6, "wipe", "()I"⟩
abbrev cX6_fault : ByteArray := prog_1_method_13_code
def yX6_fault : MethodName := ⟨RX6, "fault", "(I)I"⟩
abbrev cX6_told : ByteArray := prog_1_method_14_code
def yX6_told : MethodName := ⟨RX6, "told", "(I)I"⟩
abbrev cX6_thing : ByteArray := prog_1_method_15_code
def yX6_thing : MethodName := ⟨RX6, "thing", "(II)I"⟩
abbrev cX6_ingredient : ByteArray := prog_1_method_16_code
def yX6_ingredient : MethodName := ⟨RX6, "ingredient", "(III)I"⟩
abbrev cX6_substitute : ByteArray := prog_1_method_17_code
def yX6_substitute : MethodName := ⟨RX6, "substitute", "(II)I"⟩
abbrev cX6_isNeeded : ByteArray := prog_1_method_18_code
def yX6_isNeeded : MethodName := ⟨RX6, "isNeeded", "(II)I"⟩
abbrev cX6_share : ByteArray := prog_1_method_19_code
def yX6_share : MethodName := ⟨RX6, "share", "()F"⟩
abbrev cX6_gather : ByteArray := prog_1_method_20_code
def yX6_gather : MethodName := ⟨RX6, "gather", "(III)I"⟩
abbrev cX6_canHave : ByteArray := prog_1_method_21_code
def yX6_canHave : MethodName := ⟨RX6, "canHave", "(I)I"⟩
abbrev cX6_bestGift : ByteArray := prog_1_method_22_code
def yX6_bestGift : MethodName := ⟨RX6, "bestGift", "(II)I"⟩
abbrev cX6_keep : ByteArray := prog_1_method_23_code
def yX6_keep : MethodName := ⟨RX6, "keep", "(I)I"⟩
abbrev cX6_back : ByteArray := prog_1_method_24_code
def yX6_back : MethodName := ⟨RX6, "back", "(I)I"⟩
abbrev cX6_acceptWorks : ByteArray := prog_1_method_25_code
def yX6_acceptWorks : MethodName := ⟨RX6, "acceptWorks", "()I"⟩
abbrev cX6_isThing : ByteArray := prog_1_method_26_code
def yX6_isThing : MethodName := ⟨RX6, "isThing", "(I)Z"⟩
abbrev cX6_isWished : ByteArray := prog_1_method_27_code
def yX6_isWished : MethodName := ⟨RX6, "isWished", "(I)Z"⟩
abbrev cX6_hasBit : ByteArray := prog_1_method_28_code
def yX6_hasBit : MethodName := ⟨RX6, "hasBit", "(II)Z"⟩
abbrev cX6_divideUp : ByteArray := prog_1_method_29_code
def yX6_divideUp : MethodName := ⟨RX6, "divideUp", "(II)I"⟩
abbrev cX6_at : ByteArray := prog_1_method_30_code
def yX6_at : MethodName := ⟨RX6, "at", "([II)I"⟩
abbrev cX6_put : ByteArray := prog_1_method_31_code
def yX6_put : MethodName := ⟨RX6, "put", "([III)V"⟩
abbrev cX6_add : ByteArray := prog_1_method_32_code
def yX6_add : MethodName := ⟨RX6, "add", "([III)V"⟩
abbrev cX6_sum : ByteArray := prog_1_method_33_code
def yX6_sum : MethodName := ⟨RX6, "sum", "([I)I"⟩
abbrev cX6_stateAt : ByteArray := prog_1_method_34_code
def yX6_stateAt : MethodName := ⟨RX6, "stateAt", "([LThingMaker$State;I)LThingMaker$State;"⟩
abbrev cX6_roomAt : ByteArray := prog_1_method_35_code
def yX6_roomAt : MethodName := ⟨RX6, "roomAt", "([LThingMaker$State;I)LThingMaker$State;"⟩
abbrev cX6_copy : ByteArray := prog_1_method_36_code
def yX6_copy : MethodName := ⟨RX6, "copy", "([I[I)V"⟩
def RX7 : String := "ThingMakerModel"
def TX7 : u_T := fun k => match k with
  | 0 => ("ThingMakerModel", "w", "[I", true)
  | 1 => ("ThingMakerModel", "past", "[I", true)
  | 2 => ("ThingMakerModel", "pastMany", "I", false)
  | 3 => ("ThingMakerModel", "images", "[I", true)
  | 4 => ("ThingMakerModel", "filled", "I", false)
  | 5 => ("ThingMakerModel", "text", "[I", true)
  | 6 => ("ThingMakerModel", "length", "I", false)
  | 7 => ("ThingMakerModel", "faultKind", "I", false)
  | 8 => ("ThingMakerModel", "faultPlace", "I", false)
  | 9 => ("ThingMakerModel", "rank", "[I", true)
  | 10 => ("ThingMakerModel", "what", "[I", true)
  | 11 => ("ThingMakerModel", "many", "[I", true)
  | 12 => ("ThingMakerModel", "next", "[I", true)
  | 13 => ("ThingMakerModel", "uses", "[I", true)
  | 14 => ("ThingMakerModel", "depth", "I", false)
  | 15 => ("ThingMakerModel", "batches", "I", false)
  | 16 => ("ThingMakerModel", "fails", "Z", false)
  | 17 => ("ThingMakerModel", "held", "[I", true)
  | 18 => ("ThingMakerModel", "readThing", "I", false)
  | 19 => ("ThingMakerModel", "readYield", "I", false)
  | 20 => ("ThingMakerModel", "readMany", "I", false)
  | 21 => ("ThingMakerModel", "readParts", "[I", true)
  | 22 => ("ThingMakerModel", "wrongKind", "I", false)
  | 23 => ("ThingMakerModel", "wrongPlace", "I", false)
  | 24 => ("ThingMakerModel", "stage", "I", false)
  | 25 => ("ThingMakerModel", "value", "I", false)
  | 26 => ("ThingMakerModel", "digits", "I", false)
  | 27 => ("ThingMakerModel", "digitsAt", "I", false)
  | _ => ("ThingMakerModel", "reached", "[Z", true)
def tyX7 : Nat → FieldType := fun k => match k with
  | 0 => .array .int
  | 1 => .array .int
  | 2 => .int
  | 3 => .array .int
  | 4 => .int
  | 5 => .array .int
  | 6 => .int
  | 7 => .int
  | 8 => .int
  | 9 => .array .int
  | 10 => .array .int
  | 11 => .array .int
  | 12 => .array .int
  | 13 => .array .int
  | 14 => .int
  | 15 => .int
  | 16 => .boolean
  | 17 => .array .int
  | 18 => .int
  | 19 => .int
  | 20 => .int
  | 21 => .array .int
  | 22 => .int
  | 23 => .int
  | 24 => .int
  | 25 => .int
  | 26 => .int
  | 27 => .int
  | _ => .array .boolean
abbrev wsX70 : List Cond := u_ws RX7 TX7 29
theorem nmX7 : ∀ a, a < 29 → ∀ b, b < 29 → a ≠ b → (TX7 a).2.1 ≠ (TX7 b).2.1 := by decide +kernel
theorem tyX7_ok : ∀ k, k < 29 → parseFieldDescriptor (TX7 k).2.2.1 = some (tyX7 k) := by decide +kernel
abbrev cX7_init : ByteArray := prog_9_method_1_code
def yX7_init : MethodName := ⟨RX7, "<init>", "()V"⟩
abbrev cX7_isIn : ByteArray := prog_9_method_3_code
def yX7_isIn : MethodName := ⟨RX7, "isIn", "(III)Z"⟩
abbrev cX7_remember : ByteArray := prog_9_method_4_code
def yX7_remember : MethodName := ⟨RX7, "remember", "()V"⟩
abbrev cX7_of : ByteArray := prog_9_method_5_code
def yX7_of : MethodName := ⟨RX7, "of", "(II)I"⟩
abbrev cX7_put : ByteArray := prog_9_method_6_code
def yX7_put : MethodName := ⟨RX7, "put", "(III)V"⟩
abbrev cX7_isThing : ByteArray := prog_9_method_7_code
def yX7_isThing : MethodName := ⟨RX7, "isThing", "(I)Z"⟩
abbrev cX7_isMade : ByteArray := prog_9_method_8_code
def yX7_isMade : MethodName := ⟨RX7, "isMade", "(I)Z"⟩
abbrev cX7_ingredientOf : ByteArray := prog_9_method_9_code
def yX7_ingredientOf : MethodName := ⟨RX7, "ingredientOf", "(II)I"⟩
abbrev cX7_amountOf : ByteArray := prog_9_method_10_code
def yX7_amountOf : MethodName := ⟨RX7, "amountOf", "(II)I"⟩
abbrev cX7_rankBy : ByteArray := prog_9_method_11_code
def yX7_rankBy : MethodName := ⟨RX7, "rankBy", "(I)I"⟩
abbrev cX7_areRanks : ByteArray := prog_9_method_12_code
def yX7_areRanks : MethodName := ⟨RX7, "areRanks", "()Z"⟩
abbrev cX7_come : ByteArray := prog_9_method_13_code
def yX7_come : MethodName := ⟨RX7, "come", "(III)V"⟩
abbrev cX7_useUp : ByteArray := prog_9_method_14_code
def yX7_useUp : MethodName := ⟨RX7, "useUp", "(II)V"⟩
abbrev cX7_gatherNow : ByteArray := prog_9_method_15_code
def yX7_gatherNow : MethodName := ⟨RX7, "gatherNow", "(II)V"⟩
abbrev cX7_begin : ByteArray := prog_9_method_16_code
def yX7_begin : MethodName := ⟨RX7, "begin", "(III)V"⟩
abbrev cX7_batchesFor : ByteArray := prog_9_method_17_code
def yX7_batchesFor : MethodName := ⟨RX7, "batchesFor", "(II)I"⟩
abbrev cX7_fromStore : ByteArray := prog_9_method_18_code
def yX7_fromStore : MethodName := ⟨RX7, "fromStore", "(II)I"⟩
abbrev cX7_take : ByteArray := prog_9_method_19_code
def yX7_take : MethodName := ⟨RX7, "take", "(II)V"⟩
abbrev cX7_makeBegun : ByteArray := prog_9_method_20_code
def yX7_makeBegun : MethodName := ⟨RX7, "makeBegun", "()V"⟩
abbrev cX7_beginMaking : ByteArray := prog_9_method_21_code
def yX7_beginMaking : MethodName := ⟨RX7, "beginMaking", "()V"⟩
abbrev cX7_wishNow : ByteArray := prog_9_method_22_code
def yX7_wishNow : MethodName := ⟨RX7, "wishNow", "(II)V"⟩
abbrev cX7_hold : ByteArray := prog_9_method_23_code
def yX7_hold : MethodName := ⟨RX7, "hold", "()V"⟩
abbrev cX7_restore : ByteArray := prog_9_method_24_code
def yX7_restore : MethodName := ⟨RX7, "restore", "()V"⟩
abbrev cX7_endMaking : ByteArray := prog_9_method_25_code
def yX7_endMaking : MethodName := ⟨RX7, "endMaking", "()I"⟩
abbrev cX7_wish : ByteArray := prog_9_method_26_code
def yX7_wish : MethodName := ⟨RX7, "wish", "(II)I"⟩
abbrev cX7_make : ByteArray := prog_9_method_27_code
def yX7_make : MethodName := ⟨RX7, "make", "(II)I"⟩
abbrev cX7_mark : ByteArray := prog_9_method_28_code
def yX7_mark : MethodName := ⟨RX7, "mark", "(II)V"⟩
abbrev cX7_isNumber : ByteArray := prog_9_method_29_code
def yX7_isNumber : MethodName := ⟨RX7, "isNumber", "()Z"⟩
abbrev cX7_endsWell : ByteArray := prog_9_method_30_code
def yX7_endsWell : MethodName := ⟨RX7, "endsWell", "()Z"⟩
abbrev cX7_readDigit : ByteArray := prog_9_method_31_code
def yX7_readDigit : MethodName := ⟨RX7, "readDigit", "(I)V"⟩
abbrev cX7_readIngredient : ByteArray := prog_9_method_32_code
def yX7_readIngredient : MethodName := ⟨RX7, "readIngredient", "(III)V"⟩
abbrev cX7_readOther : ByteArray := prog_9_method_33_code
def yX7_readOther : MethodName := ⟨RX7, "readOther", "(I)V"⟩
abbrev cX7_readText : ByteArray := prog_9_method_34_code
def yX7_readText : MethodName := ⟨RX7, "readText", "()V"⟩
abbrev cX7_recipe : ByteArray := prog_9_method_35_code
def yX7_recipe : MethodName := ⟨RX7, "recipe", "()I"⟩
abbrev cX7_forget : ByteArray := prog_9_method_36_code
def yX7_forget : MethodName := ⟨RX7, "forget", "(I)I"⟩
abbrev cX7_allow : ByteArray := prog_9_method_37_code
def yX7_allow : MethodName := ⟨RX7, "allow", "(II)I"⟩
abbrev cX7_forbid : ByteArray := prog_9_method_38_code
def yX7_forbid : MethodName := ⟨RX7, "forbid", "(II)I"⟩
abbrev cX7_isVessel : ByteArray := prog_9_method_39_code
def yX7_isVessel : MethodName := ⟨RX7, "isVessel", "(I)Z"⟩
abbrev cX7_vessel : ByteArray := prog_9_method_40_code
def yX7_vessel : MethodName := ⟨RX7, "vessel", "(II)I"⟩
abbrev cX7_bring : ByteArray := prog_9_method_41_code
def yX7_bring : MethodName := ⟨RX7, "bring", "(II)I"⟩
abbrev cX7_undo : ByteArray := prog_9_method_42_code
def yX7_undo : MethodName := ⟨RX7, "undo", "()I"⟩
abbrev cX7_write : ByteArray := prog_9_method_43_code
def yX7_write : MethodName := ⟨RX7, "write", "(I)I"⟩
abbrev cX7_wipe : ByteArray := prog_9_method_44_code
def yX7_wipe : MethodName := ⟨RX7, "wipe", "()I"⟩
abbrev cX7_fault : ByteArray := prog_9_method_45_code
def yX7_fault : MethodName := ⟨RX7, "fault", "(I)I"⟩
abbrev cX7_recipes : ByteArray := prog_9_method_46_code
def yX7_recipes : MethodName := ⟨RX7, "recipes", "()I"⟩
abbrev cX7_stored : ByteArray := prog_9_method_47_code
def yX7_stored : MethodName := ⟨RX7, "stored", "()I"⟩
abbrev cX7_greatestRank : ByteArray := prog_9_method_48_code
def yX7_greatestRank : MethodName := ⟨RX7, "greatestRank", "()I"⟩
abbrev cX7_madeThings : ByteArray := prog_9_method_49_code
def yX7_madeThings : MethodName := ⟨RX7, "madeThings", "()I"⟩
abbrev cX7_told : ByteArray := prog_9_method_50_code
def yX7_told : MethodName := ⟨RX7, "told", "(I)I"⟩
abbrev cX7_thing : ByteArray := prog_9_method_51_code
def yX7_thing : MethodName := ⟨RX7, "thing", "(II)I"⟩
abbrev cX7_ingredient : ByteArray := prog_9_method_52_code
def yX7_ingredient : MethodName := ⟨RX7, "ingredient", "(III)I"⟩
abbrev cX7_substitute : ByteArray := prog_9_method_53_code
def yX7_substitute : MethodName := ⟨RX7, "substitute", "(II)I"⟩
abbrev cX7_reach : ByteArray := prog_9_method_54_code
def yX7_reach : MethodName := ⟨RX7, "reach", "(I)V"⟩
abbrev cX7_isNeeded : ByteArray := prog_9_method_55_code
def yX7_isNeeded : MethodName := ⟨RX7, "isNeeded", "(II)I"⟩
abbrev cX7_share : ByteArray := prog_9_method_56_code
def yX7_share : MethodName := ⟨RX7, "share", "()F"⟩
abbrev cX7_tryWish : ByteArray := prog_9_method_57_code
def yX7_tryWish : MethodName := ⟨RX7, "tryWish", "(III)I"⟩
abbrev cX7_gather : ByteArray := prog_9_method_58_code
def yX7_gather : MethodName := ⟨RX7, "gather", "(III)I"⟩
abbrev cX7_canHave : ByteArray := prog_9_method_59_code
def yX7_canHave : MethodName := ⟨RX7, "canHave", "(I)I"⟩
abbrev cX7_bestGift : ByteArray := prog_9_method_60_code
def yX7_bestGift : MethodName := ⟨RX7, "bestGift", "(II)I"⟩
abbrev cX7_isImage : ByteArray := prog_9_method_61_code
def yX7_isImage : MethodName := ⟨RX7, "isImage", "(I)Z"⟩
abbrev cX7_keep : ByteArray := prog_9_method_62_code
def yX7_keep : MethodName := ⟨RX7, "keep", "(I)I"⟩
abbrev cX7_back : ByteArray := prog_9_method_63_code
def yX7_back : MethodName := ⟨RX7, "back", "(I)I"⟩
def RJ6 : String := "java/lang/Integer"
def TJ6 : u_T := fun k => match k with
  | _ => ("", "", "", false)
def tyJ6 : Nat → FieldType := fun k => match k with
  | _ => .int
abbrev wsJ60 : List Cond := u_ws RJ6 TJ6 0
theorem nmJ6 : ∀ a, a < 0 → ∀ b, b < 0 → a ≠ b → (TJ6 a).2.1 ≠ (TJ6 b).2.1 := by decide +kernel
theorem tyJ6_ok : ∀ k, k < 0 → parseFieldDescriptor (TJ6 k).2.2.1 = some (tyJ6 k) := by decide +kernel
abbrev cJ6_bitCount_0f7a4 : ByteArray := prog_10_method_49_code
def yJ6_bitCount_0f7a4 : MethodName := ⟨RJ6, "bitCount", "(I)I"⟩
def RJ9 : String := "java/lang/Math"
def TJ9 : u_T := fun k => match k with
  | _ => ("", "", "", false)
def tyJ9 : Nat → FieldType := fun k => match k with
  | _ => .int
abbrev wsJ90 : List Cond := u_ws RJ9 TJ9 0
theorem nmJ9 : ∀ a, a < 0 → ∀ b, b < 0 → a ≠ b → (TJ9 a).2.1 ≠ (TJ9 b).2.1 := by decide +kernel
theorem tyJ9_ok : ∀ k, k < 0 → parseFieldDescriptor (TJ9 k).2.2.1 = some (tyJ9 k) := by decide +kernel
abbrev cJ9_floorMod_7cf53 : ByteArray := prog_11_method_50_code
def yJ9_floorMod_7cf53 : MethodName := ⟨RJ9, "floorMod", "(II)I"⟩
abbrev cJ9_max_7cf53 : ByteArray := prog_11_method_65_code
def yJ9_max_7cf53 : MethodName := ⟨RJ9, "max", "(II)I"⟩
abbrev cJ9_min_7cf53 : ByteArray := prog_11_method_69_code
def yJ9_min_7cf53 : MethodName := ⟨RJ9, "min", "(II)I"⟩
def RJ10 : String := "java/lang/System"
def TJ10 : u_T := fun k => match k with
  | _ => ("", "", "", false)
def tyJ10 : Nat → FieldType := fun k => match k with
  | _ => .int
abbrev wsJ100 : List Cond := u_ws RJ10 TJ10 0
theorem nmJ10 : ∀ a, a < 0 → ∀ b, b < 0 → a ≠ b → (TJ10 a).2.1 ≠ (TJ10 b).2.1 := by decide +kernel
theorem tyJ10_ok : ∀ k, k < 0 → parseFieldDescriptor (TJ10 k).2.2.1 = some (tyJ10 k) := by decide +kernel
def RJ7 : String := "java/util/Arrays"
def TJ7 : u_T := fun k => match k with
  | _ => ("", "", "", false)
def tyJ7 : Nat → FieldType := fun k => match k with
  | _ => .int
abbrev wsJ70 : List Cond := u_ws RJ7 TJ7 0
theorem nmJ7 : ∀ a, a < 0 → ∀ b, b < 0 → a ≠ b → (TJ7 a).2.1 ≠ (TJ7 b).2.1 := by decide +kernel
theorem tyJ7_ok : ∀ k, k < 0 → parseFieldDescriptor (TJ7 k).2.2.1 = some (tyJ7 k) := by decide +kernel
abbrev cJ7_fill_53178 : ByteArray := prog_13_method_103_code
def yJ7_fill_53178 : MethodName := ⟨RJ7, "fill", "([II)V"⟩
def RL : String := "ThingMakerLaw"
abbrev cL_law : ByteArray := code
def yL_law : MethodName := ⟨RL, "law", "([I)Z"⟩
def wsJ7_fill_53178 : List Cond := .code yJ7_fill_53178 cJ7_fill_53178 4 none :: ([])
def wsX0_init : List Cond := .code yX0_init cX0_init 1 none :: ([.methodLink RX0 3 objectInit, .instanceMethod objectInit, .code objectInit ⟨#[0xb1]⟩ 1 none, .arrayClass .int, .fieldLink RX0 9 "ThingMaker$Book" "yields" "[I", .fieldLink RX0 15 "ThingMaker$Book" "ingredientCounts" "[I", .fieldLink RX0 18 "ThingMaker$Book" "ingredients" "[I", .fieldLink RX0 21 "ThingMaker$Book" "amounts" "[I", .fieldLink RX0 24 "ThingMaker$Book" "substituteCounts" "[I", .fieldLink RX0 27 "ThingMaker$Book" "substitutes" "[I", .fieldLink RX0 30 "ThingMaker$Book" "vessels" "[I", .fieldLink RX0 33 "ThingMaker$Book" "ranks" "[I", .methodLink RX0 36 yJ7_fill_53178, .static yJ7_fill_53178, .initialized RJ7, .code yJ7_fill_53178 cJ7_fill_53178 4 none] ++ wsX00)
def wsX6_copy : List Cond := .code yX6_copy cX6_copy 2 none :: ([.methodLink RX6 231 Lib.Math.min.name, .static Lib.Math.min.name, .initialized "java/lang/Math", .code Lib.Math.min.name Lib.Math.min.code 2 (some .int), .methodLink RX6 257 arraycopyName, .native arraycopyName, .static arraycopyName, .initialized "java/lang/System"])
def wsX0_copyFrom : List Cond := .code yX0_copyFrom cX0_copyFrom 2 none :: ([.fieldLink RX0 9 "ThingMaker$Book" "yields" "[I", .fieldLink RX0 15 "ThingMaker$Book" "ingredientCounts" "[I", .fieldLink RX0 18 "ThingMaker$Book" "ingredients" "[I", .fieldLink RX0 21 "ThingMaker$Book" "amounts" "[I", .fieldLink RX0 24 "ThingMaker$Book" "substituteCounts" "[I", .fieldLink RX0 27 "ThingMaker$Book" "substitutes" "[I", .fieldLink RX0 30 "ThingMaker$Book" "vessels" "[I", .fieldLink RX0 33 "ThingMaker$Book" "ranks" "[I", .static yX6_copy, .initialized RX6, .code yX6_copy cX6_copy 2 none, .methodLink RX6 231 Lib.Math.min.name, .static Lib.Math.min.name, .initialized "java/lang/Math", .code Lib.Math.min.name Lib.Math.min.code 2 (some .int), .methodLink RX6 257 arraycopyName, .native arraycopyName, .static arraycopyName, .initialized "java/lang/System"] ++ wsX00)
def wsX6_at : List Cond := .code yX6_at cX6_at 2 (some .int) :: ([])
def wsX0_isMade : List Cond := .code yX0_isMade cX0_isMade 2 (some .boolean) :: ([.fieldLink RX0 9 "ThingMaker$Book" "yields" "[I", .static yX6_at, .initialized RX6, .code yX6_at cX6_at 2 (some .int)] ++ wsX00)
def wsX0_yieldOf : List Cond := .code yX0_yieldOf cX0_yieldOf 2 (some .int) :: ([.fieldLink RX0 9 "ThingMaker$Book" "yields" "[I", .static yX6_at, .initialized RX6, .code yX6_at cX6_at 2 (some .int)] ++ wsX00)
def wsX0_ingredientsOf : List Cond := .code yX0_ingredientsOf cX0_ingredientsOf 2 (some .int) :: ([.fieldLink RX0 15 "ThingMaker$Book" "ingredientCounts" "[I", .static yX6_at, .initialized RX6, .code yX6_at cX6_at 2 (some .int)] ++ wsX00)
def wsX0_ingredientAt : List Cond := .code yX0_ingredientAt cX0_ingredientAt 3 (some .int) :: ([.fieldLink RX0 18 "ThingMaker$Book" "ingredients" "[I", .static yX6_at, .initialized RX6, .code yX6_at cX6_at 2 (some .int)] ++ wsX00)
def wsX0_amountAt : List Cond := .code yX0_amountAt cX0_amountAt 3 (some .int) :: ([.fieldLink RX0 21 "ThingMaker$Book" "amounts" "[I", .static yX6_at, .initialized RX6, .code yX6_at cX6_at 2 (some .int)] ++ wsX00)
def wsX0_substitutesOf : List Cond := .code yX0_substitutesOf cX0_substitutesOf 2 (some .int) :: ([.fieldLink RX0 24 "ThingMaker$Book" "substituteCounts" "[I", .static yX6_at, .initialized RX6, .code yX6_at cX6_at 2 (some .int)] ++ wsX00)
def wsX0_substituteAt : List Cond := .code yX0_substituteAt cX0_substituteAt 3 (some .int) :: ([.fieldLink RX0 27 "ThingMaker$Book" "substitutes" "[I", .static yX6_at, .initialized RX6, .code yX6_at cX6_at 2 (some .int)] ++ wsX00)
def wsX0_vesselOf : List Cond := .code yX0_vesselOf cX0_vesselOf 2 (some .int) :: ([.fieldLink RX0 30 "ThingMaker$Book" "vessels" "[I", .static yX6_at, .initialized RX6, .code yX6_at cX6_at 2 (some .int)] ++ wsX00)
def wsX0_rankOf : List Cond := .code yX0_rankOf cX0_rankOf 2 (some .int) :: ([.fieldLink RX0 33 "ThingMaker$Book" "ranks" "[I", .static yX6_at, .initialized RX6, .code yX6_at cX6_at 2 (some .int)] ++ wsX00)
def wsX0_madeThings : List Cond := .code yX0_madeThings cX0_madeThings 3 (some .int) :: ([.methodLink RX0 60 yX0_isMade, .instanceMethod yX0_isMade, .selects RX0 yX0_isMade yX0_isMade, .initialized RX0, .code yX0_isMade cX0_isMade 2 (some .boolean), .fieldLink RX0 9 "ThingMaker$Book" "yields" "[I", .static yX6_at, .initialized RX6, .code yX6_at cX6_at 2 (some .int)] ++ wsX00)
def wsJ6_bitCount_0f7a4 : List Cond := .code yJ6_bitCount_0f7a4 cJ6_bitCount_0f7a4 1 (some .int) :: ([.constant RJ6 265 (1431655765), .constant RJ6 266 (858993459), .constant RJ6 267 (252645135)])
def wsX0_recipes : List Cond := .code yX0_recipes cX0_recipes 1 (some .int) :: ([.methodLink RX0 50 yX0_madeThings, .instanceMethod yX0_madeThings, .selects RX0 yX0_madeThings yX0_madeThings, .initialized RX0, .code yX0_madeThings cX0_madeThings 3 (some .int), .methodLink RX0 60 yX0_isMade, .instanceMethod yX0_isMade, .selects RX0 yX0_isMade yX0_isMade, .code yX0_isMade cX0_isMade 2 (some .boolean), .fieldLink RX0 9 "ThingMaker$Book" "yields" "[I", .static yX6_at, .initialized RX6, .code yX6_at cX6_at 2 (some .int), .methodLink RX0 54 yJ6_bitCount_0f7a4, .static yJ6_bitCount_0f7a4, .initialized RJ6, .code yJ6_bitCount_0f7a4 cJ6_bitCount_0f7a4 1 (some .int), .constant RJ6 265 (1431655765), .constant RJ6 266 (858993459), .constant RJ6 267 (252645135)] ++ wsX00)
def wsX0_greatestRank : List Cond := .code yX0_greatestRank cX0_greatestRank 3 (some .int) :: ([.methodLink RX0 67 Lib.Math.max.name, .static Lib.Math.max.name, .initialized "java/lang/Math", .code Lib.Math.max.name Lib.Math.max.code 2 (some .int), .methodLink RX0 64 yX0_rankOf, .instanceMethod yX0_rankOf, .selects RX0 yX0_rankOf yX0_rankOf, .initialized RX0, .code yX0_rankOf cX0_rankOf 2 (some .int), .fieldLink RX0 33 "ThingMaker$Book" "ranks" "[I", .static yX6_at, .initialized RX6, .code yX6_at cX6_at 2 (some .int)] ++ wsX00)
def wsX6_put : List Cond := .code yX6_put cX6_put 3 none :: ([])
def wsX0_lay : List Cond := .code yX0_lay cX0_lay 4 none :: ([.fieldLink RX0 9 "ThingMaker$Book" "yields" "[I", .fieldLink RX0 15 "ThingMaker$Book" "ingredientCounts" "[I", .fieldLink RX0 18 "ThingMaker$Book" "ingredients" "[I", .fieldLink RX0 21 "ThingMaker$Book" "amounts" "[I", .static yX6_put, .initialized RX6, .code yX6_put cX6_put 3 none, .static yX6_at, .code yX6_at cX6_at 2 (some .int)] ++ wsX00 ++ wsX20)
def wsX0_strike : List Cond := .code yX0_strike cX0_strike 2 none :: ([.fieldLink RX0 9 "ThingMaker$Book" "yields" "[I", .fieldLink RX0 15 "ThingMaker$Book" "ingredientCounts" "[I", .static yX6_put, .initialized RX6, .code yX6_put cX6_put 3 none] ++ wsX00)
def wsX0_hasSubstitute : List Cond := .code yX0_hasSubstitute cX0_hasSubstitute 5 (some .boolean) :: ([.methodLink RX0 91 yX0_substitutesOf, .instanceMethod yX0_substitutesOf, .selects RX0 yX0_substitutesOf yX0_substitutesOf, .initialized RX0, .code yX0_substitutesOf cX0_substitutesOf 2 (some .int), .fieldLink RX0 24 "ThingMaker$Book" "substituteCounts" "[I", .static yX6_at, .initialized RX6, .code yX6_at cX6_at 2 (some .int), .methodLink RX0 94 yX0_substituteAt, .instanceMethod yX0_substituteAt, .selects RX0 yX0_substituteAt yX0_substituteAt, .code yX0_substituteAt cX0_substituteAt 3 (some .int), .fieldLink RX0 27 "ThingMaker$Book" "substitutes" "[I"] ++ wsX00)
def wsX0_addSubstitute : List Cond := .code yX0_addSubstitute cX0_addSubstitute 4 none :: ([.fieldLink RX0 27 "ThingMaker$Book" "substitutes" "[I", .fieldLink RX0 24 "ThingMaker$Book" "substituteCounts" "[I", .methodLink RX0 91 yX0_substitutesOf, .instanceMethod yX0_substitutesOf, .selects RX0 yX0_substitutesOf yX0_substitutesOf, .initialized RX0, .code yX0_substitutesOf cX0_substitutesOf 2 (some .int), .static yX6_at, .initialized RX6, .code yX6_at cX6_at 2 (some .int), .static yX6_put, .code yX6_put cX6_put 3 none] ++ wsX00)
def wsX0_removeSubstitute : List Cond := .code yX0_removeSubstitute cX0_removeSubstitute 5 none :: ([.fieldLink RX0 27 "ThingMaker$Book" "substitutes" "[I", .fieldLink RX0 24 "ThingMaker$Book" "substituteCounts" "[I", .methodLink RX0 91 yX0_substitutesOf, .instanceMethod yX0_substitutesOf, .selects RX0 yX0_substitutesOf yX0_substitutesOf, .initialized RX0, .code yX0_substitutesOf cX0_substitutesOf 2 (some .int), .static yX6_at, .initialized RX6, .code yX6_at cX6_at 2 (some .int), .methodLink RX0 94 yX0_substituteAt, .instanceMethod yX0_substituteAt, .selects RX0 yX0_substituteAt yX0_substituteAt, .code yX0_substituteAt cX0_substituteAt 3 (some .int), .static yX6_put, .code yX6_put cX6_put 3 none] ++ wsX00)
def wsX0_setVessel : List Cond := .code yX0_setVessel cX0_setVessel 3 none :: ([.fieldLink RX0 30 "ThingMaker$Book" "vessels" "[I", .static yX6_put, .initialized RX6, .code yX6_put cX6_put 3 none] ++ wsX00)
def wsX0_isVessel : List Cond := .code yX0_isVessel cX0_isVessel 3 (some .boolean) :: ([.methodLink RX0 97 yX0_vesselOf, .instanceMethod yX0_vesselOf, .selects RX0 yX0_vesselOf yX0_vesselOf, .initialized RX0, .code yX0_vesselOf cX0_vesselOf 2 (some .int), .fieldLink RX0 30 "ThingMaker$Book" "vessels" "[I", .static yX6_at, .initialized RX6, .code yX6_at cX6_at 2 (some .int)] ++ wsX00)
def wsX0_needsOf : List Cond := .code yX0_needsOf cX0_needsOf 8 (some .int) :: ([.methodLink RX0 110 yX0_ingredientsOf, .instanceMethod yX0_ingredientsOf, .selects RX0 yX0_ingredientsOf yX0_ingredientsOf, .initialized RX0, .code yX0_ingredientsOf cX0_ingredientsOf 2 (some .int), .fieldLink RX0 15 "ThingMaker$Book" "ingredientCounts" "[I", .static yX6_at, .initialized RX6, .code yX6_at cX6_at 2 (some .int), .methodLink RX0 113 yX0_ingredientAt, .instanceMethod yX0_ingredientAt, .selects RX0 yX0_ingredientAt yX0_ingredientAt, .code yX0_ingredientAt cX0_ingredientAt 3 (some .int), .fieldLink RX0 18 "ThingMaker$Book" "ingredients" "[I", .methodLink RX0 91 yX0_substitutesOf, .instanceMethod yX0_substitutesOf, .selects RX0 yX0_substitutesOf yX0_substitutesOf, .code yX0_substitutesOf cX0_substitutesOf 2 (some .int), .fieldLink RX0 24 "ThingMaker$Book" "substituteCounts" "[I", .methodLink RX0 94 yX0_substituteAt, .instanceMethod yX0_substituteAt, .selects RX0 yX0_substituteAt yX0_substituteAt, .code yX0_substituteAt cX0_substituteAt 3 (some .int), .fieldLink RX0 27 "ThingMaker$Book" "substitutes" "[I"] ++ wsX00)
def wsX6_hasBit : List Cond := .code yX6_hasBit cX6_hasBit 2 (some .boolean) :: ([])
def wsX0_greatestRankIn : List Cond := .code yX0_greatestRankIn cX0_greatestRankIn 4 (some .int) :: ([.methodLink RX0 67 Lib.Math.max.name, .static Lib.Math.max.name, .initialized "java/lang/Math", .code Lib.Math.max.name Lib.Math.max.code 2 (some .int), .static yX6_hasBit, .initialized RX6, .code yX6_hasBit cX6_hasBit 2 (some .boolean), .methodLink RX0 64 yX0_rankOf, .instanceMethod yX0_rankOf, .selects RX0 yX0_rankOf yX0_rankOf, .initialized RX0, .code yX0_rankOf cX0_rankOf 2 (some .int), .fieldLink RX0 33 "ThingMaker$Book" "ranks" "[I", .static yX6_at, .code yX6_at cX6_at 2 (some .int)] ++ wsX00)
def wsX0_findRanks_r1 : List Cond := [Cond.fieldLink RX0 33 "ThingMaker$Book" "ranks" "[I", Cond.methodLink RX0 36 yJ7_fill_53178, Cond.static yJ7_fill_53178, Cond.initialized RJ7, Cond.code yJ7_fill_53178 cJ7_fill_53178 4 none, Cond.methodLink RX0 60 yX0_isMade, Cond.instanceMethod yX0_isMade, Cond.selects RX0 yX0_isMade yX0_isMade, Cond.initialized RX0, Cond.code yX0_isMade cX0_isMade 2 (some .boolean), Cond.fieldLink RX0 9 "ThingMaker$Book" "yields" "[I", Cond.static yX6_at, Cond.initialized RX6, Cond.code yX6_at cX6_at 2 (some .int), Cond.methodLink RX0 100 yX0_needsOf, Cond.instanceMethod yX0_needsOf, Cond.selects RX0 yX0_needsOf yX0_needsOf, Cond.code yX0_needsOf cX0_needsOf 8 (some .int), Cond.methodLink RX0 110 yX0_ingredientsOf, Cond.instanceMethod yX0_ingredientsOf, Cond.selects RX0 yX0_ingredientsOf yX0_ingredientsOf, Cond.code yX0_ingredientsOf cX0_ingredientsOf 2 (some .int), Cond.fieldLink RX0 15 "ThingMaker$Book" "ingredientCounts" "[I", Cond.methodLink RX0 113 yX0_ingredientAt]
def wsX0_findRanks_r2 : List Cond := [Cond.instanceMethod yX0_ingredientAt, Cond.selects RX0 yX0_ingredientAt yX0_ingredientAt, Cond.code yX0_ingredientAt cX0_ingredientAt 3 (some .int), Cond.fieldLink RX0 18 "ThingMaker$Book" "ingredients" "[I", Cond.methodLink RX0 91 yX0_substitutesOf, Cond.instanceMethod yX0_substitutesOf, Cond.selects RX0 yX0_substitutesOf yX0_substitutesOf, Cond.code yX0_substitutesOf cX0_substitutesOf 2 (some .int), Cond.fieldLink RX0 24 "ThingMaker$Book" "substituteCounts" "[I", Cond.methodLink RX0 94 yX0_substituteAt, Cond.instanceMethod yX0_substituteAt, Cond.selects RX0 yX0_substituteAt yX0_substituteAt, Cond.code yX0_substituteAt cX0_substituteAt 3 (some .int), Cond.fieldLink RX0 27 "ThingMaker$Book" "substitutes" "[I", Cond.methodLink RX0 103 yX0_greatestRankIn, Cond.instanceMethod yX0_greatestRankIn, Cond.selects RX0 yX0_greatestRankIn yX0_greatestRankIn, Cond.code yX0_greatestRankIn cX0_greatestRankIn 4 (some .int), Cond.methodLink RX0 67 Lib.Math.max.name, Cond.static Lib.Math.max.name, Cond.initialized "java/lang/Math", Cond.code Lib.Math.max.name Lib.Math.max.code 2 (some .int), Cond.static yX6_hasBit, Cond.code yX6_hasBit cX6_hasBit 2 (some .boolean)]
def wsX0_findRanks_r3 : List Cond := [Cond.methodLink RX0 64 yX0_rankOf, Cond.instanceMethod yX0_rankOf, Cond.selects RX0 yX0_rankOf yX0_rankOf, Cond.code yX0_rankOf cX0_rankOf 2 (some .int), Cond.static yX6_put, Cond.code yX6_put cX6_put 3 none]
def wsX0_findRanks : List Cond := .code yX0_findRanks cX0_findRanks 5 (some .boolean) :: ((wsX0_findRanks_r1 ++ (wsX0_findRanks_r2 ++ wsX0_findRanks_r3)) ++ wsX00)
def wsX0_allNeedsOf_r1 : List Cond := [Cond.methodLink RX0 100 yX0_needsOf, Cond.instanceMethod yX0_needsOf, Cond.selects RX0 yX0_needsOf yX0_needsOf, Cond.initialized RX0, Cond.code yX0_needsOf cX0_needsOf 8 (some .int), Cond.methodLink RX0 110 yX0_ingredientsOf, Cond.instanceMethod yX0_ingredientsOf, Cond.selects RX0 yX0_ingredientsOf yX0_ingredientsOf, Cond.code yX0_ingredientsOf cX0_ingredientsOf 2 (some .int), Cond.fieldLink RX0 15 "ThingMaker$Book" "ingredientCounts" "[I", Cond.static yX6_at, Cond.initialized RX6, Cond.code yX6_at cX6_at 2 (some .int), Cond.methodLink RX0 113 yX0_ingredientAt, Cond.instanceMethod yX0_ingredientAt, Cond.selects RX0 yX0_ingredientAt yX0_ingredientAt, Cond.code yX0_ingredientAt cX0_ingredientAt 3 (some .int), Cond.fieldLink RX0 18 "ThingMaker$Book" "ingredients" "[I", Cond.methodLink RX0 91 yX0_substitutesOf, Cond.instanceMethod yX0_substitutesOf, Cond.selects RX0 yX0_substitutesOf yX0_substitutesOf, Cond.code yX0_substitutesOf cX0_substitutesOf 2 (some .int), Cond.fieldLink RX0 24 "ThingMaker$Book" "substituteCounts" "[I", Cond.methodLink RX0 94 yX0_substituteAt]
def wsX0_allNeedsOf_r2 : List Cond := [Cond.instanceMethod yX0_substituteAt, Cond.selects RX0 yX0_substituteAt yX0_substituteAt, Cond.code yX0_substituteAt cX0_substituteAt 3 (some .int), Cond.fieldLink RX0 27 "ThingMaker$Book" "substitutes" "[I", Cond.static yX6_hasBit, Cond.code yX6_hasBit cX6_hasBit 2 (some .boolean)]
def wsX0_allNeedsOf : List Cond := .code yX0_allNeedsOf cX0_allNeedsOf 6 (some .int) :: ((wsX0_allNeedsOf_r1 ++ wsX0_allNeedsOf_r2) ++ wsX00)
def wsX1_init : List Cond := .code yX1_init cX1_init 1 none :: ([.methodLink RX1 3 objectInit, .instanceMethod objectInit, .code objectInit ⟨#[0xb1]⟩ 1 none, .classLink RX1 9 RX3, .fieldLink RX1 11 "ThingMaker$History" "states" "[LThingMaker$State;"] ++ wsX10)
def wsX1_size : List Cond := .code yX1_size cX1_size 1 (some .int) :: ([.fieldLink RX1 17 "ThingMaker$History" "size" "I"] ++ wsX10)
def wsJ9_floorMod_7cf53 : List Cond := .code yJ9_floorMod_7cf53 cJ9_floorMod_7cf53 3 (some .int) :: ([])
def wsX1_placeOf : List Cond := .code yX1_placeOf cX1_placeOf 2 (some .int) :: ([.fieldLink RX1 25 "ThingMaker$History" "oldest" "I", .methodLink RX1 42 yJ9_floorMod_7cf53, .static yJ9_floorMod_7cf53, .initialized RJ9, .code yJ9_floorMod_7cf53 cJ9_floorMod_7cf53 3 (some .int)] ++ wsX10)
def wsX6_stateAt : List Cond := .code yX6_stateAt cX6_stateAt 2 (some (.object "ThingMaker$State")) :: ([])
def wsX4_init : List Cond := .code yX4_init cX4_init 1 none :: ([.methodLink RX4 3 objectInit, .instanceMethod objectInit, .code objectInit ⟨#[0xb1]⟩ 1 none, .arrayClass .int, .fieldLink RX4 9 "ThingMaker$Stock" "amounts" "[I", .fieldLink RX4 15 "ThingMaker$Stock" "gathered" "[I", .fieldLink RX4 18 "ThingMaker$Stock" "made" "[I", .fieldLink RX4 21 "ThingMaker$Stock" "used" "[I", .fieldLink RX4 24 "ThingMaker$Stock" "returned" "[I", .fieldLink RX4 27 "ThingMaker$Stock" "brought" "[I"] ++ wsX40)
def wsX3_init_r1 : List Cond := [Cond.methodLink RX3 1 objectInit, Cond.instanceMethod objectInit, Cond.code objectInit ⟨#[0xb1]⟩ 1 none, Cond.classLink RX3 7 RX0, Cond.instantiable RX0 8, Cond.initialized RX0, Cond.fieldLink RX3 10 "ThingMaker$State" "book" "LThingMaker$Book;", Cond.classLink RX3 16 RX4, Cond.instantiable RX4 7, Cond.initialized RX4, Cond.fieldLink RX3 19 "ThingMaker$State" "stock" "LThingMaker$Stock;", Cond.methodLink RX3 9 yX0_init, Cond.instanceMethod yX0_init, Cond.code yX0_init cX0_init 1 none, Cond.methodLink RX0 3 objectInit, Cond.arrayClass .int, Cond.fieldLink RX0 9 "ThingMaker$Book" "yields" "[I", Cond.fieldLink RX0 15 "ThingMaker$Book" "ingredientCounts" "[I", Cond.fieldLink RX0 18 "ThingMaker$Book" "ingredients" "[I", Cond.fieldLink RX0 21 "ThingMaker$Book" "amounts" "[I", Cond.fieldLink RX0 24 "ThingMaker$Book" "substituteCounts" "[I", Cond.fieldLink RX0 27 "ThingMaker$Book" "substitutes" "[I", Cond.fieldLink RX0 30 "ThingMaker$Book" "vessels" "[I", Cond.fieldLink RX0 33 "ThingMaker$Book" "ranks" "[I"]
def wsX3_init_r2 : List Cond := [Cond.methodLink RX0 36 yJ7_fill_53178, Cond.static yJ7_fill_53178, Cond.initialized RJ7, Cond.code yJ7_fill_53178 cJ7_fill_53178 4 none, Cond.instanceMethod yX4_init, Cond.code yX4_init cX4_init 1 none, Cond.methodLink RX4 3 objectInit, Cond.fieldLink RX4 9 "ThingMaker$Stock" "amounts" "[I", Cond.fieldLink RX4 15 "ThingMaker$Stock" "gathered" "[I", Cond.fieldLink RX4 18 "ThingMaker$Stock" "made" "[I", Cond.fieldLink RX4 21 "ThingMaker$Stock" "used" "[I", Cond.fieldLink RX4 24 "ThingMaker$Stock" "returned" "[I", Cond.fieldLink RX4 27 "ThingMaker$Stock" "brought" "[I"]
def wsX3_init : List Cond := .code yX3_init cX3_init 1 none :: ((wsX3_init_r1 ++ wsX3_init_r2) ++ wsX00 ++ wsX30 ++ wsX40)
def wsX6_roomAt_r1 : List Cond := [Cond.classLink RX6 40 RX3, Cond.instantiable RX3 2, Cond.initialized RX3, Cond.methodLink RX6 247 yX6_stateAt, Cond.static yX6_stateAt, Cond.initialized RX6, Cond.code yX6_stateAt cX6_stateAt 2 (some (.object "ThingMaker$State")), Cond.instanceMethod yX3_init, Cond.code yX3_init cX3_init 1 none, Cond.methodLink RX3 1 objectInit, Cond.instanceMethod objectInit, Cond.code objectInit ⟨#[0xb1]⟩ 1 none, Cond.classLink RX3 7 RX0, Cond.instantiable RX0 8, Cond.initialized RX0, Cond.fieldLink RX3 10 "ThingMaker$State" "book" "LThingMaker$Book;", Cond.classLink RX3 16 RX4, Cond.instantiable RX4 7, Cond.initialized RX4, Cond.fieldLink RX3 19 "ThingMaker$State" "stock" "LThingMaker$Stock;", Cond.methodLink RX3 9 yX0_init, Cond.instanceMethod yX0_init, Cond.code yX0_init cX0_init 1 none, Cond.methodLink RX0 3 objectInit]
def wsX6_roomAt_r2 : List Cond := [Cond.arrayClass .int, Cond.fieldLink RX0 9 "ThingMaker$Book" "yields" "[I", Cond.fieldLink RX0 15 "ThingMaker$Book" "ingredientCounts" "[I", Cond.fieldLink RX0 18 "ThingMaker$Book" "ingredients" "[I", Cond.fieldLink RX0 21 "ThingMaker$Book" "amounts" "[I", Cond.fieldLink RX0 24 "ThingMaker$Book" "substituteCounts" "[I", Cond.fieldLink RX0 27 "ThingMaker$Book" "substitutes" "[I", Cond.fieldLink RX0 30 "ThingMaker$Book" "vessels" "[I", Cond.fieldLink RX0 33 "ThingMaker$Book" "ranks" "[I", Cond.methodLink RX0 36 yJ7_fill_53178, Cond.static yJ7_fill_53178, Cond.initialized RJ7, Cond.code yJ7_fill_53178 cJ7_fill_53178 4 none, Cond.instanceMethod yX4_init, Cond.code yX4_init cX4_init 1 none, Cond.methodLink RX4 3 objectInit, Cond.fieldLink RX4 9 "ThingMaker$Stock" "amounts" "[I", Cond.fieldLink RX4 15 "ThingMaker$Stock" "gathered" "[I", Cond.fieldLink RX4 18 "ThingMaker$Stock" "made" "[I", Cond.fieldLink RX4 21 "ThingMaker$Stock" "used" "[I", Cond.fieldLink RX4 24 "ThingMaker$Stock" "returned" "[I", Cond.fieldLink RX4 27 "ThingMaker$Stock" "brought" "[I"]
def wsX6_roomAt : List Cond := .code yX6_roomAt cX6_roomAt 4 (some (.object "ThingMaker$State")) :: ((wsX6_roomAt_r1 ++ wsX6_roomAt_r2) ++ wsX30 ++ wsX00 ++ wsX40)
def wsX4_copyFrom : List Cond := .code yX4_copyFrom cX4_copyFrom 2 none :: ([.fieldLink RX4 9 "ThingMaker$Stock" "amounts" "[I", .fieldLink RX4 15 "ThingMaker$Stock" "gathered" "[I", .fieldLink RX4 18 "ThingMaker$Stock" "made" "[I", .fieldLink RX4 21 "ThingMaker$Stock" "used" "[I", .fieldLink RX4 24 "ThingMaker$Stock" "returned" "[I", .fieldLink RX4 27 "ThingMaker$Stock" "brought" "[I", .fieldLink RX4 34 "ThingMaker$Stock" "batches" "I", .static yX6_copy, .initialized RX6, .code yX6_copy cX6_copy 2 none, .methodLink RX6 231 Lib.Math.min.name, .static Lib.Math.min.name, .initialized "java/lang/Math", .code Lib.Math.min.name Lib.Math.min.code 2 (some .int), .methodLink RX6 257 arraycopyName, .native arraycopyName, .static arraycopyName, .initialized "java/lang/System"] ++ wsX40)
def wsX3_hold_r1 : List Cond := [Cond.fieldLink RX3 10 "ThingMaker$State" "book" "LThingMaker$Book;", Cond.fieldLink RX3 19 "ThingMaker$State" "stock" "LThingMaker$Stock;", Cond.methodLink RX3 23 yX0_copyFrom, Cond.instanceMethod yX0_copyFrom, Cond.selects RX0 yX0_copyFrom yX0_copyFrom, Cond.initialized RX0, Cond.code yX0_copyFrom cX0_copyFrom 2 none, Cond.fieldLink RX0 9 "ThingMaker$Book" "yields" "[I", Cond.fieldLink RX0 15 "ThingMaker$Book" "ingredientCounts" "[I", Cond.fieldLink RX0 18 "ThingMaker$Book" "ingredients" "[I", Cond.fieldLink RX0 21 "ThingMaker$Book" "amounts" "[I", Cond.fieldLink RX0 24 "ThingMaker$Book" "substituteCounts" "[I", Cond.fieldLink RX0 27 "ThingMaker$Book" "substitutes" "[I", Cond.fieldLink RX0 30 "ThingMaker$Book" "vessels" "[I", Cond.fieldLink RX0 33 "ThingMaker$Book" "ranks" "[I", Cond.static yX6_copy, Cond.initialized RX6, Cond.code yX6_copy cX6_copy 2 none, Cond.methodLink RX6 231 Lib.Math.min.name, Cond.static Lib.Math.min.name, Cond.initialized "java/lang/Math", Cond.code Lib.Math.min.name Lib.Math.min.code 2 (some .int), Cond.methodLink RX6 257 arraycopyName, Cond.native arraycopyName]
def wsX3_hold_r2 : List Cond := [Cond.static arraycopyName, Cond.initialized "java/lang/System", Cond.methodLink RX3 27 yX4_copyFrom, Cond.instanceMethod yX4_copyFrom, Cond.selects RX4 yX4_copyFrom yX4_copyFrom, Cond.initialized RX4, Cond.code yX4_copyFrom cX4_copyFrom 2 none, Cond.fieldLink RX4 9 "ThingMaker$Stock" "amounts" "[I", Cond.fieldLink RX4 15 "ThingMaker$Stock" "gathered" "[I", Cond.fieldLink RX4 18 "ThingMaker$Stock" "made" "[I", Cond.fieldLink RX4 21 "ThingMaker$Stock" "used" "[I", Cond.fieldLink RX4 24 "ThingMaker$Stock" "returned" "[I", Cond.fieldLink RX4 27 "ThingMaker$Stock" "brought" "[I", Cond.fieldLink RX4 34 "ThingMaker$Stock" "batches" "I"]
def wsX3_hold : List Cond := .code yX3_hold cX3_hold 3 none :: ((wsX3_hold_r1 ++ wsX3_hold_r2) ++ wsX30 ++ wsX00 ++ wsX40)
def wsX1_remember_r1 : List Cond := [Cond.fieldLink RX1 17 "ThingMaker$History" "size" "I", Cond.fieldLink RX1 25 "ThingMaker$History" "oldest" "I", Cond.fieldLink RX1 11 "ThingMaker$History" "states" "[LThingMaker$State;", Cond.methodLink RX1 21 yX1_placeOf, Cond.instanceMethod yX1_placeOf, Cond.selects RX1 yX1_placeOf yX1_placeOf, Cond.initialized RX1, Cond.code yX1_placeOf cX1_placeOf 2 (some .int), Cond.methodLink RX1 42 yJ9_floorMod_7cf53, Cond.static yJ9_floorMod_7cf53, Cond.initialized RJ9, Cond.code yJ9_floorMod_7cf53 cJ9_floorMod_7cf53 3 (some .int), Cond.static yX6_roomAt, Cond.initialized RX6, Cond.code yX6_roomAt cX6_roomAt 4 (some (.object "ThingMaker$State")), Cond.classLink RX6 40 RX3, Cond.instantiable RX3 2, Cond.initialized RX3, Cond.methodLink RX6 247 yX6_stateAt, Cond.static yX6_stateAt, Cond.code yX6_stateAt cX6_stateAt 2 (some (.object "ThingMaker$State")), Cond.instanceMethod yX3_init, Cond.code yX3_init cX3_init 1 none, Cond.methodLink RX3 1 objectInit]
def wsX1_remember_r2 : List Cond := [Cond.instanceMethod objectInit, Cond.code objectInit ⟨#[0xb1]⟩ 1 none, Cond.classLink RX3 7 RX0, Cond.instantiable RX0 8, Cond.initialized RX0, Cond.fieldLink RX3 10 "ThingMaker$State" "book" "LThingMaker$Book;", Cond.classLink RX3 16 RX4, Cond.instantiable RX4 7, Cond.initialized RX4, Cond.fieldLink RX3 19 "ThingMaker$State" "stock" "LThingMaker$Stock;", Cond.methodLink RX3 9 yX0_init, Cond.instanceMethod yX0_init, Cond.code yX0_init cX0_init 1 none, Cond.methodLink RX0 3 objectInit, Cond.arrayClass .int, Cond.fieldLink RX0 9 "ThingMaker$Book" "yields" "[I", Cond.fieldLink RX0 15 "ThingMaker$Book" "ingredientCounts" "[I", Cond.fieldLink RX0 18 "ThingMaker$Book" "ingredients" "[I", Cond.fieldLink RX0 21 "ThingMaker$Book" "amounts" "[I", Cond.fieldLink RX0 24 "ThingMaker$Book" "substituteCounts" "[I", Cond.fieldLink RX0 27 "ThingMaker$Book" "substitutes" "[I", Cond.fieldLink RX0 30 "ThingMaker$Book" "vessels" "[I", Cond.fieldLink RX0 33 "ThingMaker$Book" "ranks" "[I", Cond.methodLink RX0 36 yJ7_fill_53178]
def wsX1_remember_r3 : List Cond := [Cond.static yJ7_fill_53178, Cond.initialized RJ7, Cond.code yJ7_fill_53178 cJ7_fill_53178 4 none, Cond.instanceMethod yX4_init, Cond.code yX4_init cX4_init 1 none, Cond.methodLink RX4 3 objectInit, Cond.fieldLink RX4 9 "ThingMaker$Stock" "amounts" "[I", Cond.fieldLink RX4 15 "ThingMaker$Stock" "gathered" "[I", Cond.fieldLink RX4 18 "ThingMaker$Stock" "made" "[I", Cond.fieldLink RX4 21 "ThingMaker$Stock" "used" "[I", Cond.fieldLink RX4 24 "ThingMaker$Stock" "returned" "[I", Cond.fieldLink RX4 27 "ThingMaker$Stock" "brought" "[I", Cond.methodLink RX1 32 yX3_hold, Cond.instanceMethod yX3_hold, Cond.selects RX3 yX3_hold yX3_hold, Cond.code yX3_hold cX3_hold 3 none, Cond.methodLink RX3 23 yX0_copyFrom, Cond.instanceMethod yX0_copyFrom, Cond.selects RX0 yX0_copyFrom yX0_copyFrom, Cond.code yX0_copyFrom cX0_copyFrom 2 none, Cond.static yX6_copy, Cond.code yX6_copy cX6_copy 2 none, Cond.methodLink RX6 231 Lib.Math.min.name, Cond.static Lib.Math.min.name]
def wsX1_remember_r4 : List Cond := [Cond.initialized "java/lang/Math", Cond.code Lib.Math.min.name Lib.Math.min.code 2 (some .int), Cond.methodLink RX6 257 arraycopyName, Cond.native arraycopyName, Cond.static arraycopyName, Cond.initialized "java/lang/System", Cond.methodLink RX3 27 yX4_copyFrom, Cond.instanceMethod yX4_copyFrom, Cond.selects RX4 yX4_copyFrom yX4_copyFrom, Cond.code yX4_copyFrom cX4_copyFrom 2 none, Cond.fieldLink RX4 34 "ThingMaker$Stock" "batches" "I"]
def wsX1_remember : List Cond := .code yX1_remember cX1_remember 4 none :: ((wsX1_remember_r1 ++ (wsX1_remember_r2 ++ (wsX1_remember_r3 ++ wsX1_remember_r4))) ++ wsX10 ++ wsX30 ++ wsX00 ++ wsX40)
def wsX3_layOut_r1 : List Cond := [Cond.fieldLink RX3 10 "ThingMaker$State" "book" "LThingMaker$Book;", Cond.fieldLink RX3 19 "ThingMaker$State" "stock" "LThingMaker$Stock;", Cond.methodLink RX3 23 yX0_copyFrom, Cond.instanceMethod yX0_copyFrom, Cond.selects RX0 yX0_copyFrom yX0_copyFrom, Cond.initialized RX0, Cond.code yX0_copyFrom cX0_copyFrom 2 none, Cond.fieldLink RX0 9 "ThingMaker$Book" "yields" "[I", Cond.fieldLink RX0 15 "ThingMaker$Book" "ingredientCounts" "[I", Cond.fieldLink RX0 18 "ThingMaker$Book" "ingredients" "[I", Cond.fieldLink RX0 21 "ThingMaker$Book" "amounts" "[I", Cond.fieldLink RX0 24 "ThingMaker$Book" "substituteCounts" "[I", Cond.fieldLink RX0 27 "ThingMaker$Book" "substitutes" "[I", Cond.fieldLink RX0 30 "ThingMaker$Book" "vessels" "[I", Cond.fieldLink RX0 33 "ThingMaker$Book" "ranks" "[I", Cond.static yX6_copy, Cond.initialized RX6, Cond.code yX6_copy cX6_copy 2 none, Cond.methodLink RX6 231 Lib.Math.min.name, Cond.static Lib.Math.min.name, Cond.initialized "java/lang/Math", Cond.code Lib.Math.min.name Lib.Math.min.code 2 (some .int), Cond.methodLink RX6 257 arraycopyName, Cond.native arraycopyName]
def wsX3_layOut_r2 : List Cond := [Cond.static arraycopyName, Cond.initialized "java/lang/System", Cond.methodLink RX3 27 yX4_copyFrom, Cond.instanceMethod yX4_copyFrom, Cond.selects RX4 yX4_copyFrom yX4_copyFrom, Cond.initialized RX4, Cond.code yX4_copyFrom cX4_copyFrom 2 none, Cond.fieldLink RX4 9 "ThingMaker$Stock" "amounts" "[I", Cond.fieldLink RX4 15 "ThingMaker$Stock" "gathered" "[I", Cond.fieldLink RX4 18 "ThingMaker$Stock" "made" "[I", Cond.fieldLink RX4 21 "ThingMaker$Stock" "used" "[I", Cond.fieldLink RX4 24 "ThingMaker$Stock" "returned" "[I", Cond.fieldLink RX4 27 "ThingMaker$Stock" "brought" "[I", Cond.fieldLink RX4 34 "ThingMaker$Stock" "batches" "I"]
def wsX3_layOut : List Cond := .code yX3_layOut cX3_layOut 3 none :: ((wsX3_layOut_r1 ++ wsX3_layOut_r2) ++ wsX30 ++ wsX00 ++ wsX40)
def wsX1_restore_r1 : List Cond := [Cond.fieldLink RX1 17 "ThingMaker$History" "size" "I", Cond.fieldLink RX1 11 "ThingMaker$History" "states" "[LThingMaker$State;", Cond.methodLink RX1 21 yX1_placeOf, Cond.instanceMethod yX1_placeOf, Cond.selects RX1 yX1_placeOf yX1_placeOf, Cond.initialized RX1, Cond.code yX1_placeOf cX1_placeOf 2 (some .int), Cond.fieldLink RX1 25 "ThingMaker$History" "oldest" "I", Cond.methodLink RX1 42 yJ9_floorMod_7cf53, Cond.static yJ9_floorMod_7cf53, Cond.initialized RJ9, Cond.code yJ9_floorMod_7cf53 cJ9_floorMod_7cf53 3 (some .int), Cond.static yX6_stateAt, Cond.initialized RX6, Cond.code yX6_stateAt cX6_stateAt 2 (some (.object "ThingMaker$State")), Cond.methodLink RX1 39 yX3_layOut, Cond.instanceMethod yX3_layOut, Cond.selects RX3 yX3_layOut yX3_layOut, Cond.initialized RX3, Cond.code yX3_layOut cX3_layOut 3 none, Cond.fieldLink RX3 10 "ThingMaker$State" "book" "LThingMaker$Book;", Cond.fieldLink RX3 19 "ThingMaker$State" "stock" "LThingMaker$Stock;", Cond.methodLink RX3 23 yX0_copyFrom, Cond.instanceMethod yX0_copyFrom]
def wsX1_restore_r2 : List Cond := [Cond.selects RX0 yX0_copyFrom yX0_copyFrom, Cond.initialized RX0, Cond.code yX0_copyFrom cX0_copyFrom 2 none, Cond.fieldLink RX0 9 "ThingMaker$Book" "yields" "[I", Cond.fieldLink RX0 15 "ThingMaker$Book" "ingredientCounts" "[I", Cond.fieldLink RX0 18 "ThingMaker$Book" "ingredients" "[I", Cond.fieldLink RX0 21 "ThingMaker$Book" "amounts" "[I", Cond.fieldLink RX0 24 "ThingMaker$Book" "substituteCounts" "[I", Cond.fieldLink RX0 27 "ThingMaker$Book" "substitutes" "[I", Cond.fieldLink RX0 30 "ThingMaker$Book" "vessels" "[I", Cond.fieldLink RX0 33 "ThingMaker$Book" "ranks" "[I", Cond.static yX6_copy, Cond.code yX6_copy cX6_copy 2 none, Cond.methodLink RX6 231 Lib.Math.min.name, Cond.static Lib.Math.min.name, Cond.initialized "java/lang/Math", Cond.code Lib.Math.min.name Lib.Math.min.code 2 (some .int), Cond.methodLink RX6 257 arraycopyName, Cond.native arraycopyName, Cond.static arraycopyName, Cond.initialized "java/lang/System", Cond.methodLink RX3 27 yX4_copyFrom, Cond.instanceMethod yX4_copyFrom, Cond.selects RX4 yX4_copyFrom yX4_copyFrom]
def wsX1_restore_r3 : List Cond := [Cond.initialized RX4, Cond.code yX4_copyFrom cX4_copyFrom 2 none, Cond.fieldLink RX4 9 "ThingMaker$Stock" "amounts" "[I", Cond.fieldLink RX4 15 "ThingMaker$Stock" "gathered" "[I", Cond.fieldLink RX4 18 "ThingMaker$Stock" "made" "[I", Cond.fieldLink RX4 21 "ThingMaker$Stock" "used" "[I", Cond.fieldLink RX4 24 "ThingMaker$Stock" "returned" "[I", Cond.fieldLink RX4 27 "ThingMaker$Stock" "brought" "[I", Cond.fieldLink RX4 34 "ThingMaker$Stock" "batches" "I"]
def wsX1_restore : List Cond := .code yX1_restore cX1_restore 4 none :: ((wsX1_restore_r1 ++ (wsX1_restore_r2 ++ wsX1_restore_r3)) ++ wsX10 ++ wsX30 ++ wsX00 ++ wsX40)
def wsX2_init : List Cond := .code yX2_init cX2_init 1 none :: ([.methodLink RX2 3 objectInit, .instanceMethod objectInit, .code objectInit ⟨#[0xb1]⟩ 1 none, .arrayClass .int, .fieldLink RX2 9 "ThingMaker$RecipeReader" "ingredients" "[I", .fieldLink RX2 15 "ThingMaker$RecipeReader" "amounts" "[I"] ++ wsX20)
def wsX2_skipBlanks : List Cond := .code yX2_skipBlanks cX2_skipBlanks 3 none :: ([.fieldLink RX2 18 "ThingMaker$RecipeReader" "place" "I", .static yX6_at, .initialized RX6, .code yX6_at cX6_at 2 (some .int)] ++ wsX20)
def wsX2_tellFault : List Cond := .code yX2_tellFault cX2_tellFault 3 none :: ([.fieldLink RX2 25 "ThingMaker$RecipeReader" "faultKind" "I", .fieldLink RX2 28 "ThingMaker$RecipeReader" "faultPlace" "I"] ++ wsX20)
def wsX6_isThing : List Cond := .code yX6_isThing cX6_isThing 1 (some .boolean) :: ([])
def wsX2_readLetter : List Cond := .code yX2_readLetter cX2_readLetter 4 (some .int) :: ([.fieldLink RX2 18 "ThingMaker$RecipeReader" "place" "I", .methodLink RX2 56 yX2_skipBlanks, .instanceMethod yX2_skipBlanks, .selects RX2 yX2_skipBlanks yX2_skipBlanks, .initialized RX2, .code yX2_skipBlanks cX2_skipBlanks 3 none, .static yX6_at, .initialized RX6, .code yX6_at cX6_at 2 (some .int), .methodLink RX2 63 yX2_tellFault, .instanceMethod yX2_tellFault, .selects RX2 yX2_tellFault yX2_tellFault, .code yX2_tellFault cX2_tellFault 3 none, .fieldLink RX2 25 "ThingMaker$RecipeReader" "faultKind" "I", .fieldLink RX2 28 "ThingMaker$RecipeReader" "faultPlace" "I", .static yX6_isThing, .code yX6_isThing cX6_isThing 1 (some .boolean)] ++ wsX20)
def wsX2_isDigit : List Cond := .code yX2_isDigit cX2_isDigit 4 (some .boolean) :: ([.static yX6_at, .initialized RX6, .code yX6_at cX6_at 2 (some .int)])
def wsX2_readNumber : List Cond := .code yX2_readNumber cX2_readNumber 5 (some .int) :: ([.fieldLink RX2 18 "ThingMaker$RecipeReader" "place" "I", .methodLink RX2 56 yX2_skipBlanks, .instanceMethod yX2_skipBlanks, .selects RX2 yX2_skipBlanks yX2_skipBlanks, .initialized RX2, .code yX2_skipBlanks cX2_skipBlanks 3 none, .static yX6_at, .initialized RX6, .code yX6_at cX6_at 2 (some .int), .methodLink RX2 76 yX2_isDigit, .instanceMethod yX2_isDigit, .selects RX2 yX2_isDigit yX2_isDigit, .code yX2_isDigit cX2_isDigit 4 (some .boolean), .methodLink RX2 63 yX2_tellFault, .instanceMethod yX2_tellFault, .selects RX2 yX2_tellFault yX2_tellFault, .code yX2_tellFault cX2_tellFault 3 none, .fieldLink RX2 25 "ThingMaker$RecipeReader" "faultKind" "I", .fieldLink RX2 28 "ThingMaker$RecipeReader" "faultPlace" "I"] ++ wsX20)
def wsX2_readSign : List Cond := .code yX2_readSign cX2_readSign 4 none :: ([.fieldLink RX2 18 "ThingMaker$RecipeReader" "place" "I", .methodLink RX2 56 yX2_skipBlanks, .instanceMethod yX2_skipBlanks, .selects RX2 yX2_skipBlanks yX2_skipBlanks, .initialized RX2, .code yX2_skipBlanks cX2_skipBlanks 3 none, .static yX6_at, .initialized RX6, .code yX6_at cX6_at 2 (some .int), .methodLink RX2 63 yX2_tellFault, .instanceMethod yX2_tellFault, .selects RX2 yX2_tellFault yX2_tellFault, .code yX2_tellFault cX2_tellFault 3 none, .fieldLink RX2 25 "ThingMaker$RecipeReader" "faultKind" "I", .fieldLink RX2 28 "ThingMaker$RecipeReader" "faultPlace" "I"] ++ wsX20)
def wsX2_isListed : List Cond := .code yX2_isListed cX2_isListed 3 (some .boolean) :: ([.fieldLink RX2 22 "ThingMaker$RecipeReader" "count" "I", .fieldLink RX2 9 "ThingMaker$RecipeReader" "ingredients" "[I", .static yX6_at, .initialized RX6, .code yX6_at cX6_at 2 (some .int)] ++ wsX20)
def wsX2_readIngredient_r1 : List Cond := [Cond.fieldLink RX2 25 "ThingMaker$RecipeReader" "faultKind" "I", Cond.fieldLink RX2 22 "ThingMaker$RecipeReader" "count" "I", Cond.fieldLink RX2 18 "ThingMaker$RecipeReader" "place" "I", Cond.fieldLink RX2 9 "ThingMaker$RecipeReader" "ingredients" "[I", Cond.fieldLink RX2 15 "ThingMaker$RecipeReader" "amounts" "[I", Cond.methodLink RX2 38 yX2_readNumber, Cond.instanceMethod yX2_readNumber, Cond.selects RX2 yX2_readNumber yX2_readNumber, Cond.initialized RX2, Cond.code yX2_readNumber cX2_readNumber 5 (some .int), Cond.methodLink RX2 56 yX2_skipBlanks, Cond.instanceMethod yX2_skipBlanks, Cond.selects RX2 yX2_skipBlanks yX2_skipBlanks, Cond.code yX2_skipBlanks cX2_skipBlanks 3 none, Cond.static yX6_at, Cond.initialized RX6, Cond.code yX6_at cX6_at 2 (some .int), Cond.methodLink RX2 76 yX2_isDigit, Cond.instanceMethod yX2_isDigit, Cond.selects RX2 yX2_isDigit yX2_isDigit, Cond.code yX2_isDigit cX2_isDigit 4 (some .boolean), Cond.methodLink RX2 63 yX2_tellFault, Cond.instanceMethod yX2_tellFault, Cond.selects RX2 yX2_tellFault yX2_tellFault]
def wsX2_readIngredient_r2 : List Cond := [Cond.code yX2_tellFault cX2_tellFault 3 none, Cond.fieldLink RX2 28 "ThingMaker$RecipeReader" "faultPlace" "I", Cond.methodLink RX2 31 yX2_readLetter, Cond.instanceMethod yX2_readLetter, Cond.selects RX2 yX2_readLetter yX2_readLetter, Cond.code yX2_readLetter cX2_readLetter 4 (some .int), Cond.static yX6_isThing, Cond.code yX6_isThing cX6_isThing 1 (some .boolean), Cond.methodLink RX2 59 yX2_isListed, Cond.instanceMethod yX2_isListed, Cond.selects RX2 yX2_isListed yX2_isListed, Cond.code yX2_isListed cX2_isListed 3 (some .boolean), Cond.static yX6_put, Cond.code yX6_put cX6_put 3 none]
def wsX2_readIngredient : List Cond := .code yX2_readIngredient cX2_readIngredient 5 none :: ((wsX2_readIngredient_r1 ++ wsX2_readIngredient_r2) ++ wsX20)
def wsX2_isMore : List Cond := .code yX2_isMore cX2_isMore 3 (some .boolean) :: ([.fieldLink RX2 25 "ThingMaker$RecipeReader" "faultKind" "I", .fieldLink RX2 18 "ThingMaker$RecipeReader" "place" "I", .methodLink RX2 56 yX2_skipBlanks, .instanceMethod yX2_skipBlanks, .selects RX2 yX2_skipBlanks yX2_skipBlanks, .initialized RX2, .code yX2_skipBlanks cX2_skipBlanks 3 none, .static yX6_at, .initialized RX6, .code yX6_at cX6_at 2 (some .int)] ++ wsX20)
def wsX2_read_r1 : List Cond := [Cond.fieldLink RX2 18 "ThingMaker$RecipeReader" "place" "I", Cond.fieldLink RX2 22 "ThingMaker$RecipeReader" "count" "I", Cond.fieldLink RX2 25 "ThingMaker$RecipeReader" "faultKind" "I", Cond.fieldLink RX2 28 "ThingMaker$RecipeReader" "faultPlace" "I", Cond.fieldLink RX2 35 "ThingMaker$RecipeReader" "made" "I", Cond.fieldLink RX2 41 "ThingMaker$RecipeReader" "yielded" "I", Cond.methodLink RX2 31 yX2_readLetter, Cond.instanceMethod yX2_readLetter, Cond.selects RX2 yX2_readLetter yX2_readLetter, Cond.initialized RX2, Cond.code yX2_readLetter cX2_readLetter 4 (some .int), Cond.methodLink RX2 56 yX2_skipBlanks, Cond.instanceMethod yX2_skipBlanks, Cond.selects RX2 yX2_skipBlanks yX2_skipBlanks, Cond.code yX2_skipBlanks cX2_skipBlanks 3 none, Cond.static yX6_at, Cond.initialized RX6, Cond.code yX6_at cX6_at 2 (some .int), Cond.methodLink RX2 63 yX2_tellFault, Cond.instanceMethod yX2_tellFault, Cond.selects RX2 yX2_tellFault yX2_tellFault, Cond.code yX2_tellFault cX2_tellFault 3 none, Cond.static yX6_isThing, Cond.code yX6_isThing cX6_isThing 1 (some .boolean)]
def wsX2_read_r2 : List Cond := [Cond.methodLink RX2 38 yX2_readNumber, Cond.instanceMethod yX2_readNumber, Cond.selects RX2 yX2_readNumber yX2_readNumber, Cond.code yX2_readNumber cX2_readNumber 5 (some .int), Cond.methodLink RX2 76 yX2_isDigit, Cond.instanceMethod yX2_isDigit, Cond.selects RX2 yX2_isDigit yX2_isDigit, Cond.code yX2_isDigit cX2_isDigit 4 (some .boolean), Cond.methodLink RX2 44 yX2_readSign, Cond.instanceMethod yX2_readSign, Cond.selects RX2 yX2_readSign yX2_readSign, Cond.code yX2_readSign cX2_readSign 4 none, Cond.methodLink RX2 48 yX2_readIngredient, Cond.instanceMethod yX2_readIngredient, Cond.selects RX2 yX2_readIngredient yX2_readIngredient, Cond.code yX2_readIngredient cX2_readIngredient 5 none, Cond.fieldLink RX2 9 "ThingMaker$RecipeReader" "ingredients" "[I", Cond.fieldLink RX2 15 "ThingMaker$RecipeReader" "amounts" "[I", Cond.methodLink RX2 59 yX2_isListed, Cond.instanceMethod yX2_isListed, Cond.selects RX2 yX2_isListed yX2_isListed, Cond.code yX2_isListed cX2_isListed 3 (some .boolean), Cond.static yX6_put, Cond.code yX6_put cX6_put 3 none]
def wsX2_read_r3 : List Cond := [Cond.methodLink RX2 52 yX2_isMore, Cond.instanceMethod yX2_isMore, Cond.selects RX2 yX2_isMore yX2_isMore, Cond.code yX2_isMore cX2_isMore 3 (some .boolean)]
def wsX2_read : List Cond := .code yX2_read cX2_read 4 none :: ((wsX2_read_r1 ++ (wsX2_read_r2 ++ wsX2_read_r3)) ++ wsX20)
def wsX5_init : List Cond := .code yX5_init cX5_init 1 none :: ([.methodLink RX5 3 objectInit, .instanceMethod objectInit, .code objectInit ⟨#[0xb1]⟩ 1 none, .classLink RX5 9 RX4, .instantiable RX4 7, .initialized RX4, .fieldLink RX5 12 "ThingMaker$Works" "bench" "LThingMaker$Stock;", .instanceMethod yX4_init, .code yX4_init cX4_init 1 none, .methodLink RX4 3 objectInit, .arrayClass .int, .fieldLink RX4 9 "ThingMaker$Stock" "amounts" "[I", .fieldLink RX4 15 "ThingMaker$Stock" "gathered" "[I", .fieldLink RX4 18 "ThingMaker$Stock" "made" "[I", .fieldLink RX4 21 "ThingMaker$Stock" "used" "[I", .fieldLink RX4 24 "ThingMaker$Stock" "returned" "[I", .fieldLink RX4 27 "ThingMaker$Stock" "brought" "[I"] ++ wsX40 ++ wsX50)
def wsX5_begin_r1 : List Cond := [Cond.fieldLink RX5 12 "ThingMaker$Works" "bench" "LThingMaker$Stock;", Cond.fieldLink RX5 22 "ThingMaker$Works" "mayGather" "Z", Cond.fieldLink RX5 26 "ThingMaker$Works" "failed" "Z", Cond.fieldLink RX5 29 "ThingMaker$Works" "batches" "I", Cond.fieldLink RX5 33 "ThingMaker$Works" "gathered" "I", Cond.methodLink RX5 18 yX4_copyFrom, Cond.instanceMethod yX4_copyFrom, Cond.selects RX4 yX4_copyFrom yX4_copyFrom, Cond.initialized RX4, Cond.code yX4_copyFrom cX4_copyFrom 2 none, Cond.fieldLink RX4 9 "ThingMaker$Stock" "amounts" "[I", Cond.fieldLink RX4 15 "ThingMaker$Stock" "gathered" "[I", Cond.fieldLink RX4 18 "ThingMaker$Stock" "made" "[I", Cond.fieldLink RX4 21 "ThingMaker$Stock" "used" "[I", Cond.fieldLink RX4 24 "ThingMaker$Stock" "returned" "[I", Cond.fieldLink RX4 27 "ThingMaker$Stock" "brought" "[I", Cond.fieldLink RX4 34 "ThingMaker$Stock" "batches" "I", Cond.static yX6_copy, Cond.initialized RX6, Cond.code yX6_copy cX6_copy 2 none, Cond.methodLink RX6 231 Lib.Math.min.name, Cond.static Lib.Math.min.name, Cond.initialized "java/lang/Math", Cond.code Lib.Math.min.name Lib.Math.min.code 2 (some .int)]
def wsX5_begin_r2 : List Cond := [Cond.methodLink RX6 257 arraycopyName, Cond.native arraycopyName, Cond.static arraycopyName, Cond.initialized "java/lang/System"]
def wsX5_begin : List Cond := .code yX5_begin cX5_begin 3 none :: ((wsX5_begin_r1 ++ wsX5_begin_r2) ++ wsX50 ++ wsX40)
def wsX5_gathered : List Cond := .code yX5_gathered cX5_gathered 1 (some .int) :: ([.fieldLink RX5 33 "ThingMaker$Works" "gathered" "I"] ++ wsX50)
def wsX6_add : List Cond := .code yX6_add cX6_add 3 none :: ([])
def wsX5_receive : List Cond := .code yX5_receive cX5_receive 2 (some .boolean) :: ([.fieldLink RX5 12 "ThingMaker$Works" "bench" "LThingMaker$Stock;", .constant RX5 48 (99999), .static yX6_add, .initialized RX6, .code yX6_add cX6_add 3 none, .static yX6_at, .code yX6_at cX6_at 2 (some .int)] ++ wsX50 ++ wsX40)
def wsX6_divideUp : List Cond := .code yX6_divideUp cX6_divideUp 2 (some .int) :: ([])
def wsX5_comeIn : List Cond := .code yX5_comeIn cX5_comeIn 4 none :: ([.fieldLink RX5 12 "ThingMaker$Works" "bench" "LThingMaker$Stock;", .constant RX5 48 (99999), .fieldLink RX5 26 "ThingMaker$Works" "failed" "Z", .static yX6_add, .initialized RX6, .code yX6_add cX6_add 3 none, .static yX6_at, .code yX6_at cX6_at 2 (some .int)] ++ wsX50 ++ wsX40)
def wsX5_collect : List Cond := .code yX5_collect cX5_collect 3 none :: ([.fieldLink RX5 22 "ThingMaker$Works" "mayGather" "Z", .fieldLink RX5 26 "ThingMaker$Works" "failed" "Z", .fieldLink RX5 33 "ThingMaker$Works" "gathered" "I", .fieldLink RX5 12 "ThingMaker$Works" "bench" "LThingMaker$Stock;", .methodLink RX5 89 yX5_comeIn, .instanceMethod yX5_comeIn, .selects RX5 yX5_comeIn yX5_comeIn, .initialized RX5, .code yX5_comeIn cX5_comeIn 4 none, .constant RX5 48 (99999), .static yX6_add, .initialized RX6, .code yX6_add cX6_add 3 none, .static yX6_at, .code yX6_at cX6_at 2 (some .int)] ++ wsX50 ++ wsX40)
def wsX5_useUp : List Cond := .code yX5_useUp cX5_useUp 6 (some .int) :: ([.fieldLink RX5 12 "ThingMaker$Works" "bench" "LThingMaker$Stock;", .methodLink RX5 108 Lib.Math.min.name, .static Lib.Math.min.name, .initialized "java/lang/Math", .code Lib.Math.min.name Lib.Math.min.code 2 (some .int), .static yX6_at, .initialized RX6, .code yX6_at cX6_at 2 (some .int), .static yX6_add, .code yX6_add cX6_add 3 none, .methodLink RX5 116 yX0_vesselOf, .instanceMethod yX0_vesselOf, .selects RX0 yX0_vesselOf yX0_vesselOf, .initialized RX0, .code yX0_vesselOf cX0_vesselOf 2 (some .int), .fieldLink RX0 30 "ThingMaker$Book" "vessels" "[I", .methodLink RX5 89 yX5_comeIn, .instanceMethod yX5_comeIn, .selects RX5 yX5_comeIn yX5_comeIn, .initialized RX5, .code yX5_comeIn cX5_comeIn 4 none, .constant RX5 48 (99999), .fieldLink RX5 26 "ThingMaker$Works" "failed" "Z"] ++ wsX50 ++ wsX40 ++ wsX00)
def wsX5_standIn : List Cond := .code yX5_standIn cX5_standIn 5 (some .int) :: ([.methodLink RX5 56 yX0_isMade, .instanceMethod yX0_isMade, .selects RX0 yX0_isMade yX0_isMade, .initialized RX0, .code yX0_isMade cX0_isMade 2 (some .boolean), .fieldLink RX0 9 "ThingMaker$Book" "yields" "[I", .static yX6_at, .initialized RX6, .code yX6_at cX6_at 2 (some .int), .methodLink RX5 98 yX0_substitutesOf, .instanceMethod yX0_substitutesOf, .selects RX0 yX0_substitutesOf yX0_substitutesOf, .code yX0_substitutesOf cX0_substitutesOf 2 (some .int), .fieldLink RX0 24 "ThingMaker$Book" "substituteCounts" "[I", .methodLink RX5 101 yX0_substituteAt, .instanceMethod yX0_substituteAt, .selects RX0 yX0_substituteAt yX0_substituteAt, .code yX0_substituteAt cX0_substituteAt 3 (some .int), .fieldLink RX0 27 "ThingMaker$Book" "substitutes" "[I"] ++ wsX00)
def wsX5_provide_r1 : List Cond := [Cond.methodLink RX5 56 yX0_isMade, Cond.instanceMethod yX0_isMade, Cond.selects RX0 yX0_isMade yX0_isMade, Cond.initialized RX0, Cond.code yX0_isMade cX0_isMade 2 (some .boolean), Cond.fieldLink RX0 9 "ThingMaker$Book" "yields" "[I", Cond.static yX6_at, Cond.initialized RX6, Cond.code yX6_at cX6_at 2 (some .int), Cond.methodLink RX5 62 yX0_yieldOf, Cond.instanceMethod yX0_yieldOf, Cond.selects RX0 yX0_yieldOf yX0_yieldOf, Cond.code yX0_yieldOf cX0_yieldOf 2 (some .int), Cond.static yX6_divideUp, Cond.code yX6_divideUp cX6_divideUp 2 (some .int), Cond.methodLink RX5 53 yX5_run, Cond.instanceMethod yX5_run, Cond.selects RX5 yX5_run yX5_run, Cond.initialized RX5, Cond.methodLink RX5 70 yX5_collect, Cond.instanceMethod yX5_collect, Cond.selects RX5 yX5_collect yX5_collect, Cond.code yX5_collect cX5_collect 3 none, Cond.fieldLink RX5 22 "ThingMaker$Works" "mayGather" "Z"]
def wsX5_provide_r2 : List Cond := [Cond.fieldLink RX5 26 "ThingMaker$Works" "failed" "Z", Cond.fieldLink RX5 33 "ThingMaker$Works" "gathered" "I", Cond.fieldLink RX5 12 "ThingMaker$Works" "bench" "LThingMaker$Stock;", Cond.methodLink RX5 89 yX5_comeIn, Cond.instanceMethod yX5_comeIn, Cond.selects RX5 yX5_comeIn yX5_comeIn, Cond.code yX5_comeIn cX5_comeIn 4 none, Cond.constant RX5 48 (99999), Cond.static yX6_add, Cond.code yX6_add cX6_add 3 none, Cond.code yX5_run cX5_run 7 none, Cond.fieldLink RX5 29 "ThingMaker$Works" "batches" "I", Cond.methodLink RX5 74 yX0_ingredientsOf, Cond.instanceMethod yX0_ingredientsOf, Cond.selects RX0 yX0_ingredientsOf yX0_ingredientsOf, Cond.code yX0_ingredientsOf cX0_ingredientsOf 2 (some .int), Cond.fieldLink RX0 15 "ThingMaker$Book" "ingredientCounts" "[I", Cond.methodLink RX5 77 yX0_ingredientAt, Cond.instanceMethod yX0_ingredientAt, Cond.selects RX0 yX0_ingredientAt yX0_ingredientAt, Cond.code yX0_ingredientAt cX0_ingredientAt 3 (some .int), Cond.fieldLink RX0 18 "ThingMaker$Book" "ingredients" "[I", Cond.methodLink RX5 80 yX0_amountAt, Cond.instanceMethod yX0_amountAt]
def wsX5_provide_r3 : List Cond := [Cond.selects RX0 yX0_amountAt yX0_amountAt, Cond.code yX0_amountAt cX0_amountAt 3 (some .int), Cond.fieldLink RX0 21 "ThingMaker$Book" "amounts" "[I", Cond.methodLink RX5 83 yX5_take, Cond.instanceMethod yX5_take, Cond.selects RX5 yX5_take yX5_take, Cond.code yX5_take cX5_take 8 none, Cond.methodLink RX5 94 yX5_useUp, Cond.instanceMethod yX5_useUp, Cond.selects RX5 yX5_useUp yX5_useUp, Cond.code yX5_useUp cX5_useUp 6 (some .int), Cond.methodLink RX5 108 Lib.Math.min.name, Cond.static Lib.Math.min.name, Cond.initialized "java/lang/Math", Cond.code Lib.Math.min.name Lib.Math.min.code 2 (some .int), Cond.methodLink RX5 116 yX0_vesselOf, Cond.instanceMethod yX0_vesselOf, Cond.selects RX0 yX0_vesselOf yX0_vesselOf, Cond.code yX0_vesselOf cX0_vesselOf 2 (some .int), Cond.fieldLink RX0 30 "ThingMaker$Book" "vessels" "[I", Cond.methodLink RX5 98 yX0_substitutesOf, Cond.instanceMethod yX0_substitutesOf, Cond.selects RX0 yX0_substitutesOf yX0_substitutesOf, Cond.code yX0_substitutesOf cX0_substitutesOf 2 (some .int)]
def wsX5_provide_r4 : List Cond := [Cond.fieldLink RX0 24 "ThingMaker$Book" "substituteCounts" "[I", Cond.methodLink RX5 101 yX0_substituteAt, Cond.instanceMethod yX0_substituteAt, Cond.selects RX0 yX0_substituteAt yX0_substituteAt, Cond.code yX0_substituteAt cX0_substituteAt 3 (some .int), Cond.fieldLink RX0 27 "ThingMaker$Book" "substitutes" "[I", Cond.methodLink RX5 104 yX5_standIn, Cond.instanceMethod yX5_standIn, Cond.selects RX5 yX5_standIn yX5_standIn, Cond.code yX5_standIn cX5_standIn 5 (some .int), Cond.methodLink RX5 49 yX5_provide, Cond.instanceMethod yX5_provide, Cond.selects RX5 yX5_provide yX5_provide]
def wsX5_provide : List Cond := .code yX5_provide cX5_provide 5 none :: ((wsX5_provide_r1 ++ (wsX5_provide_r2 ++ (wsX5_provide_r3 ++ wsX5_provide_r4))) ++ wsX00 ++ wsX50 ++ wsX40)
def wsX5_run_r1 : List Cond := [Cond.fieldLink RX5 29 "ThingMaker$Works" "batches" "I", Cond.fieldLink RX5 26 "ThingMaker$Works" "failed" "Z", Cond.fieldLink RX5 12 "ThingMaker$Works" "bench" "LThingMaker$Stock;", Cond.methodLink RX5 74 yX0_ingredientsOf, Cond.instanceMethod yX0_ingredientsOf, Cond.selects RX0 yX0_ingredientsOf yX0_ingredientsOf, Cond.initialized RX0, Cond.code yX0_ingredientsOf cX0_ingredientsOf 2 (some .int), Cond.fieldLink RX0 15 "ThingMaker$Book" "ingredientCounts" "[I", Cond.static yX6_at, Cond.initialized RX6, Cond.code yX6_at cX6_at 2 (some .int), Cond.methodLink RX5 77 yX0_ingredientAt, Cond.instanceMethod yX0_ingredientAt, Cond.selects RX0 yX0_ingredientAt yX0_ingredientAt, Cond.code yX0_ingredientAt cX0_ingredientAt 3 (some .int), Cond.fieldLink RX0 18 "ThingMaker$Book" "ingredients" "[I", Cond.methodLink RX5 80 yX0_amountAt, Cond.instanceMethod yX0_amountAt, Cond.selects RX0 yX0_amountAt yX0_amountAt, Cond.code yX0_amountAt cX0_amountAt 3 (some .int), Cond.fieldLink RX0 21 "ThingMaker$Book" "amounts" "[I", Cond.methodLink RX5 83 yX5_take, Cond.instanceMethod yX5_take]
def wsX5_run_r2 : List Cond := [Cond.selects RX5 yX5_take yX5_take, Cond.initialized RX5, Cond.methodLink RX5 62 yX0_yieldOf, Cond.instanceMethod yX0_yieldOf, Cond.selects RX0 yX0_yieldOf yX0_yieldOf, Cond.code yX0_yieldOf cX0_yieldOf 2 (some .int), Cond.fieldLink RX0 9 "ThingMaker$Book" "yields" "[I", Cond.methodLink RX5 89 yX5_comeIn, Cond.instanceMethod yX5_comeIn, Cond.selects RX5 yX5_comeIn yX5_comeIn, Cond.code yX5_comeIn cX5_comeIn 4 none, Cond.constant RX5 48 (99999), Cond.static yX6_add, Cond.code yX6_add cX6_add 3 none, Cond.code yX5_provide cX5_provide 5 none, Cond.methodLink RX5 56 yX0_isMade, Cond.instanceMethod yX0_isMade, Cond.selects RX0 yX0_isMade yX0_isMade, Cond.code yX0_isMade cX0_isMade 2 (some .boolean), Cond.static yX6_divideUp, Cond.code yX6_divideUp cX6_divideUp 2 (some .int), Cond.methodLink RX5 53 yX5_run, Cond.instanceMethod yX5_run, Cond.selects RX5 yX5_run yX5_run]
def wsX5_run_r3 : List Cond := [Cond.methodLink RX5 70 yX5_collect, Cond.instanceMethod yX5_collect, Cond.selects RX5 yX5_collect yX5_collect, Cond.code yX5_collect cX5_collect 3 none, Cond.fieldLink RX5 22 "ThingMaker$Works" "mayGather" "Z", Cond.fieldLink RX5 33 "ThingMaker$Works" "gathered" "I", Cond.code yX5_take cX5_take 8 none, Cond.methodLink RX5 94 yX5_useUp, Cond.instanceMethod yX5_useUp, Cond.selects RX5 yX5_useUp yX5_useUp, Cond.code yX5_useUp cX5_useUp 6 (some .int), Cond.methodLink RX5 108 Lib.Math.min.name, Cond.static Lib.Math.min.name, Cond.initialized "java/lang/Math", Cond.code Lib.Math.min.name Lib.Math.min.code 2 (some .int), Cond.methodLink RX5 116 yX0_vesselOf, Cond.instanceMethod yX0_vesselOf, Cond.selects RX0 yX0_vesselOf yX0_vesselOf, Cond.code yX0_vesselOf cX0_vesselOf 2 (some .int), Cond.fieldLink RX0 30 "ThingMaker$Book" "vessels" "[I", Cond.methodLink RX5 98 yX0_substitutesOf, Cond.instanceMethod yX0_substitutesOf, Cond.selects RX0 yX0_substitutesOf yX0_substitutesOf, Cond.code yX0_substitutesOf cX0_substitutesOf 2 (some .int)]
def wsX5_run_r4 : List Cond := [Cond.fieldLink RX0 24 "ThingMaker$Book" "substituteCounts" "[I", Cond.methodLink RX5 101 yX0_substituteAt, Cond.instanceMethod yX0_substituteAt, Cond.selects RX0 yX0_substituteAt yX0_substituteAt, Cond.code yX0_substituteAt cX0_substituteAt 3 (some .int), Cond.fieldLink RX0 27 "ThingMaker$Book" "substitutes" "[I", Cond.methodLink RX5 104 yX5_standIn, Cond.instanceMethod yX5_standIn, Cond.selects RX5 yX5_standIn yX5_standIn, Cond.code yX5_standIn cX5_standIn 5 (some .int), Cond.methodLink RX5 49 yX5_provide, Cond.instanceMethod yX5_provide, Cond.selects RX5 yX5_provide yX5_provide]
def wsX5_run : List Cond := .code yX5_run cX5_run 7 none :: ((wsX5_run_r1 ++ (wsX5_run_r2 ++ (wsX5_run_r3 ++ wsX5_run_r4))) ++ wsX00 ++ wsX50 ++ wsX40)
def wsX5_take_r1 : List Cond := [Cond.fieldLink RX5 26 "ThingMaker$Works" "failed" "Z", Cond.methodLink RX5 94 yX5_useUp, Cond.instanceMethod yX5_useUp, Cond.selects RX5 yX5_useUp yX5_useUp, Cond.initialized RX5, Cond.code yX5_useUp cX5_useUp 6 (some .int), Cond.fieldLink RX5 12 "ThingMaker$Works" "bench" "LThingMaker$Stock;", Cond.methodLink RX5 108 Lib.Math.min.name, Cond.static Lib.Math.min.name, Cond.initialized "java/lang/Math", Cond.code Lib.Math.min.name Lib.Math.min.code 2 (some .int), Cond.static yX6_at, Cond.initialized RX6, Cond.code yX6_at cX6_at 2 (some .int), Cond.static yX6_add, Cond.code yX6_add cX6_add 3 none, Cond.methodLink RX5 116 yX0_vesselOf, Cond.instanceMethod yX0_vesselOf, Cond.selects RX0 yX0_vesselOf yX0_vesselOf, Cond.initialized RX0, Cond.code yX0_vesselOf cX0_vesselOf 2 (some .int), Cond.fieldLink RX0 30 "ThingMaker$Book" "vessels" "[I", Cond.methodLink RX5 89 yX5_comeIn, Cond.instanceMethod yX5_comeIn]
def wsX5_take_r2 : List Cond := [Cond.selects RX5 yX5_comeIn yX5_comeIn, Cond.code yX5_comeIn cX5_comeIn 4 none, Cond.constant RX5 48 (99999), Cond.methodLink RX5 98 yX0_substitutesOf, Cond.instanceMethod yX0_substitutesOf, Cond.selects RX0 yX0_substitutesOf yX0_substitutesOf, Cond.code yX0_substitutesOf cX0_substitutesOf 2 (some .int), Cond.fieldLink RX0 24 "ThingMaker$Book" "substituteCounts" "[I", Cond.methodLink RX5 101 yX0_substituteAt, Cond.instanceMethod yX0_substituteAt, Cond.selects RX0 yX0_substituteAt yX0_substituteAt, Cond.code yX0_substituteAt cX0_substituteAt 3 (some .int), Cond.fieldLink RX0 27 "ThingMaker$Book" "substitutes" "[I", Cond.methodLink RX5 104 yX5_standIn, Cond.instanceMethod yX5_standIn, Cond.selects RX5 yX5_standIn yX5_standIn, Cond.code yX5_standIn cX5_standIn 5 (some .int), Cond.methodLink RX5 56 yX0_isMade, Cond.instanceMethod yX0_isMade, Cond.selects RX0 yX0_isMade yX0_isMade, Cond.code yX0_isMade cX0_isMade 2 (some .boolean), Cond.fieldLink RX0 9 "ThingMaker$Book" "yields" "[I", Cond.methodLink RX5 49 yX5_provide, Cond.instanceMethod yX5_provide]
def wsX5_take_r3 : List Cond := [Cond.selects RX5 yX5_provide yX5_provide, Cond.code yX5_provide cX5_provide 5 none, Cond.methodLink RX5 62 yX0_yieldOf, Cond.instanceMethod yX0_yieldOf, Cond.selects RX0 yX0_yieldOf yX0_yieldOf, Cond.code yX0_yieldOf cX0_yieldOf 2 (some .int), Cond.static yX6_divideUp, Cond.code yX6_divideUp cX6_divideUp 2 (some .int), Cond.methodLink RX5 53 yX5_run, Cond.instanceMethod yX5_run, Cond.selects RX5 yX5_run yX5_run, Cond.methodLink RX5 70 yX5_collect, Cond.instanceMethod yX5_collect, Cond.selects RX5 yX5_collect yX5_collect, Cond.code yX5_collect cX5_collect 3 none, Cond.fieldLink RX5 22 "ThingMaker$Works" "mayGather" "Z", Cond.fieldLink RX5 33 "ThingMaker$Works" "gathered" "I", Cond.code yX5_run cX5_run 7 none, Cond.fieldLink RX5 29 "ThingMaker$Works" "batches" "I", Cond.methodLink RX5 74 yX0_ingredientsOf, Cond.instanceMethod yX0_ingredientsOf, Cond.selects RX0 yX0_ingredientsOf yX0_ingredientsOf, Cond.code yX0_ingredientsOf cX0_ingredientsOf 2 (some .int), Cond.fieldLink RX0 15 "ThingMaker$Book" "ingredientCounts" "[I"]
def wsX5_take_r4 : List Cond := [Cond.methodLink RX5 77 yX0_ingredientAt, Cond.instanceMethod yX0_ingredientAt, Cond.selects RX0 yX0_ingredientAt yX0_ingredientAt, Cond.code yX0_ingredientAt cX0_ingredientAt 3 (some .int), Cond.fieldLink RX0 18 "ThingMaker$Book" "ingredients" "[I", Cond.methodLink RX5 80 yX0_amountAt, Cond.instanceMethod yX0_amountAt, Cond.selects RX0 yX0_amountAt yX0_amountAt, Cond.code yX0_amountAt cX0_amountAt 3 (some .int), Cond.fieldLink RX0 21 "ThingMaker$Book" "amounts" "[I", Cond.methodLink RX5 83 yX5_take, Cond.instanceMethod yX5_take, Cond.selects RX5 yX5_take yX5_take]
def wsX5_take : List Cond := .code yX5_take cX5_take 8 none :: ((wsX5_take_r1 ++ (wsX5_take_r2 ++ (wsX5_take_r3 ++ wsX5_take_r4))) ++ wsX00 ++ wsX50 ++ wsX40)
def wsX5_fulfil_r1 : List Cond := [Cond.fieldLink RX5 12 "ThingMaker$Works" "bench" "LThingMaker$Stock;", Cond.fieldLink RX5 26 "ThingMaker$Works" "failed" "Z", Cond.static yX6_at, Cond.initialized RX6, Cond.code yX6_at cX6_at 2 (some .int), Cond.methodLink RX5 49 yX5_provide, Cond.instanceMethod yX5_provide, Cond.selects RX5 yX5_provide yX5_provide, Cond.initialized RX5, Cond.code yX5_provide cX5_provide 5 none, Cond.methodLink RX5 56 yX0_isMade, Cond.instanceMethod yX0_isMade, Cond.selects RX0 yX0_isMade yX0_isMade, Cond.initialized RX0, Cond.code yX0_isMade cX0_isMade 2 (some .boolean), Cond.fieldLink RX0 9 "ThingMaker$Book" "yields" "[I", Cond.methodLink RX5 62 yX0_yieldOf, Cond.instanceMethod yX0_yieldOf, Cond.selects RX0 yX0_yieldOf yX0_yieldOf, Cond.code yX0_yieldOf cX0_yieldOf 2 (some .int), Cond.static yX6_divideUp, Cond.code yX6_divideUp cX6_divideUp 2 (some .int), Cond.methodLink RX5 53 yX5_run, Cond.instanceMethod yX5_run]
def wsX5_fulfil_r2 : List Cond := [Cond.selects RX5 yX5_run yX5_run, Cond.methodLink RX5 70 yX5_collect, Cond.instanceMethod yX5_collect, Cond.selects RX5 yX5_collect yX5_collect, Cond.code yX5_collect cX5_collect 3 none, Cond.fieldLink RX5 22 "ThingMaker$Works" "mayGather" "Z", Cond.fieldLink RX5 33 "ThingMaker$Works" "gathered" "I", Cond.methodLink RX5 89 yX5_comeIn, Cond.instanceMethod yX5_comeIn, Cond.selects RX5 yX5_comeIn yX5_comeIn, Cond.code yX5_comeIn cX5_comeIn 4 none, Cond.constant RX5 48 (99999), Cond.static yX6_add, Cond.code yX6_add cX6_add 3 none, Cond.code yX5_run cX5_run 7 none, Cond.fieldLink RX5 29 "ThingMaker$Works" "batches" "I", Cond.methodLink RX5 74 yX0_ingredientsOf, Cond.instanceMethod yX0_ingredientsOf, Cond.selects RX0 yX0_ingredientsOf yX0_ingredientsOf, Cond.code yX0_ingredientsOf cX0_ingredientsOf 2 (some .int), Cond.fieldLink RX0 15 "ThingMaker$Book" "ingredientCounts" "[I", Cond.methodLink RX5 77 yX0_ingredientAt, Cond.instanceMethod yX0_ingredientAt, Cond.selects RX0 yX0_ingredientAt yX0_ingredientAt]
def wsX5_fulfil_r3 : List Cond := [Cond.code yX0_ingredientAt cX0_ingredientAt 3 (some .int), Cond.fieldLink RX0 18 "ThingMaker$Book" "ingredients" "[I", Cond.methodLink RX5 80 yX0_amountAt, Cond.instanceMethod yX0_amountAt, Cond.selects RX0 yX0_amountAt yX0_amountAt, Cond.code yX0_amountAt cX0_amountAt 3 (some .int), Cond.fieldLink RX0 21 "ThingMaker$Book" "amounts" "[I", Cond.methodLink RX5 83 yX5_take, Cond.instanceMethod yX5_take, Cond.selects RX5 yX5_take yX5_take, Cond.code yX5_take cX5_take 8 none, Cond.methodLink RX5 94 yX5_useUp, Cond.instanceMethod yX5_useUp, Cond.selects RX5 yX5_useUp yX5_useUp, Cond.code yX5_useUp cX5_useUp 6 (some .int), Cond.methodLink RX5 108 Lib.Math.min.name, Cond.static Lib.Math.min.name, Cond.initialized "java/lang/Math", Cond.code Lib.Math.min.name Lib.Math.min.code 2 (some .int), Cond.methodLink RX5 116 yX0_vesselOf, Cond.instanceMethod yX0_vesselOf, Cond.selects RX0 yX0_vesselOf yX0_vesselOf, Cond.code yX0_vesselOf cX0_vesselOf 2 (some .int), Cond.fieldLink RX0 30 "ThingMaker$Book" "vessels" "[I"]
def wsX5_fulfil_r4 : List Cond := [Cond.methodLink RX5 98 yX0_substitutesOf, Cond.instanceMethod yX0_substitutesOf, Cond.selects RX0 yX0_substitutesOf yX0_substitutesOf, Cond.code yX0_substitutesOf cX0_substitutesOf 2 (some .int), Cond.fieldLink RX0 24 "ThingMaker$Book" "substituteCounts" "[I", Cond.methodLink RX5 101 yX0_substituteAt, Cond.instanceMethod yX0_substituteAt, Cond.selects RX0 yX0_substituteAt yX0_substituteAt, Cond.code yX0_substituteAt cX0_substituteAt 3 (some .int), Cond.fieldLink RX0 27 "ThingMaker$Book" "substitutes" "[I", Cond.methodLink RX5 104 yX5_standIn, Cond.instanceMethod yX5_standIn, Cond.selects RX5 yX5_standIn yX5_standIn, Cond.code yX5_standIn cX5_standIn 5 (some .int)]
def wsX5_fulfil : List Cond := .code yX5_fulfil cX5_fulfil 5 (some .boolean) :: ((wsX5_fulfil_r1 ++ (wsX5_fulfil_r2 ++ (wsX5_fulfil_r3 ++ wsX5_fulfil_r4))) ++ wsX50 ++ wsX40 ++ wsX00)
def wsX5_runAll_r1 : List Cond := [Cond.fieldLink RX5 26 "ThingMaker$Works" "failed" "Z", Cond.methodLink RX5 53 yX5_run, Cond.instanceMethod yX5_run, Cond.selects RX5 yX5_run yX5_run, Cond.initialized RX5, Cond.code yX5_run cX5_run 7 none, Cond.fieldLink RX5 29 "ThingMaker$Works" "batches" "I", Cond.fieldLink RX5 12 "ThingMaker$Works" "bench" "LThingMaker$Stock;", Cond.methodLink RX5 74 yX0_ingredientsOf, Cond.instanceMethod yX0_ingredientsOf, Cond.selects RX0 yX0_ingredientsOf yX0_ingredientsOf, Cond.initialized RX0, Cond.code yX0_ingredientsOf cX0_ingredientsOf 2 (some .int), Cond.fieldLink RX0 15 "ThingMaker$Book" "ingredientCounts" "[I", Cond.static yX6_at, Cond.initialized RX6, Cond.code yX6_at cX6_at 2 (some .int), Cond.methodLink RX5 77 yX0_ingredientAt, Cond.instanceMethod yX0_ingredientAt, Cond.selects RX0 yX0_ingredientAt yX0_ingredientAt, Cond.code yX0_ingredientAt cX0_ingredientAt 3 (some .int), Cond.fieldLink RX0 18 "ThingMaker$Book" "ingredients" "[I", Cond.methodLink RX5 80 yX0_amountAt, Cond.instanceMethod yX0_amountAt]
def wsX5_runAll_r2 : List Cond := [Cond.selects RX0 yX0_amountAt yX0_amountAt, Cond.code yX0_amountAt cX0_amountAt 3 (some .int), Cond.fieldLink RX0 21 "ThingMaker$Book" "amounts" "[I", Cond.methodLink RX5 83 yX5_take, Cond.instanceMethod yX5_take, Cond.selects RX5 yX5_take yX5_take, Cond.methodLink RX5 62 yX0_yieldOf, Cond.instanceMethod yX0_yieldOf, Cond.selects RX0 yX0_yieldOf yX0_yieldOf, Cond.code yX0_yieldOf cX0_yieldOf 2 (some .int), Cond.fieldLink RX0 9 "ThingMaker$Book" "yields" "[I", Cond.methodLink RX5 89 yX5_comeIn, Cond.instanceMethod yX5_comeIn, Cond.selects RX5 yX5_comeIn yX5_comeIn, Cond.code yX5_comeIn cX5_comeIn 4 none, Cond.constant RX5 48 (99999), Cond.static yX6_add, Cond.code yX6_add cX6_add 3 none, Cond.code yX5_provide cX5_provide 5 none, Cond.methodLink RX5 56 yX0_isMade, Cond.instanceMethod yX0_isMade, Cond.selects RX0 yX0_isMade yX0_isMade, Cond.code yX0_isMade cX0_isMade 2 (some .boolean), Cond.static yX6_divideUp]
def wsX5_runAll_r3 : List Cond := [Cond.code yX6_divideUp cX6_divideUp 2 (some .int), Cond.methodLink RX5 70 yX5_collect, Cond.instanceMethod yX5_collect, Cond.selects RX5 yX5_collect yX5_collect, Cond.code yX5_collect cX5_collect 3 none, Cond.fieldLink RX5 22 "ThingMaker$Works" "mayGather" "Z", Cond.fieldLink RX5 33 "ThingMaker$Works" "gathered" "I", Cond.code yX5_take cX5_take 8 none, Cond.methodLink RX5 94 yX5_useUp, Cond.instanceMethod yX5_useUp, Cond.selects RX5 yX5_useUp yX5_useUp, Cond.code yX5_useUp cX5_useUp 6 (some .int), Cond.methodLink RX5 108 Lib.Math.min.name, Cond.static Lib.Math.min.name, Cond.initialized "java/lang/Math", Cond.code Lib.Math.min.name Lib.Math.min.code 2 (some .int), Cond.methodLink RX5 116 yX0_vesselOf, Cond.instanceMethod yX0_vesselOf, Cond.selects RX0 yX0_vesselOf yX0_vesselOf, Cond.code yX0_vesselOf cX0_vesselOf 2 (some .int), Cond.fieldLink RX0 30 "ThingMaker$Book" "vessels" "[I", Cond.methodLink RX5 98 yX0_substitutesOf, Cond.instanceMethod yX0_substitutesOf, Cond.selects RX0 yX0_substitutesOf yX0_substitutesOf]
def wsX5_runAll_r4 : List Cond := [Cond.code yX0_substitutesOf cX0_substitutesOf 2 (some .int), Cond.fieldLink RX0 24 "ThingMaker$Book" "substituteCounts" "[I", Cond.methodLink RX5 101 yX0_substituteAt, Cond.instanceMethod yX0_substituteAt, Cond.selects RX0 yX0_substituteAt yX0_substituteAt, Cond.code yX0_substituteAt cX0_substituteAt 3 (some .int), Cond.fieldLink RX0 27 "ThingMaker$Book" "substitutes" "[I", Cond.methodLink RX5 104 yX5_standIn, Cond.instanceMethod yX5_standIn, Cond.selects RX5 yX5_standIn yX5_standIn, Cond.code yX5_standIn cX5_standIn 5 (some .int), Cond.methodLink RX5 49 yX5_provide, Cond.instanceMethod yX5_provide, Cond.selects RX5 yX5_provide yX5_provide]
def wsX5_runAll : List Cond := .code yX5_runAll cX5_runAll 4 (some .boolean) :: ((wsX5_runAll_r1 ++ (wsX5_runAll_r2 ++ (wsX5_runAll_r3 ++ wsX5_runAll_r4))) ++ wsX50 ++ wsX00 ++ wsX40)
def wsX6_init_r1 : List Cond := [Cond.methodLink RX6 1 objectInit, Cond.instanceMethod objectInit, Cond.code objectInit ⟨#[0xb1]⟩ 1 none, Cond.classLink RX6 7 RX0, Cond.instantiable RX0 8, Cond.initialized RX0, Cond.fieldLink RX6 10 "ThingMaker" "book" "LThingMaker$Book;", Cond.fieldLink RX6 16 "ThingMaker" "draft" "LThingMaker$Book;", Cond.classLink RX6 19 RX4, Cond.instantiable RX4 7, Cond.initialized RX4, Cond.fieldLink RX6 22 "ThingMaker" "stock" "LThingMaker$Stock;", Cond.classLink RX6 26 RX5, Cond.instantiable RX5 5, Cond.initialized RX5, Cond.fieldLink RX6 29 "ThingMaker" "works" "LThingMaker$Works;", Cond.classLink RX6 33 RX1, Cond.instantiable RX1 3, Cond.initialized RX1, Cond.fieldLink RX6 36 "ThingMaker" "history" "LThingMaker$History;", Cond.classLink RX6 40 RX3, Cond.fieldLink RX6 42 "ThingMaker" "images" "[LThingMaker$State;", Cond.classLink RX6 46 RX2, Cond.instantiable RX2 8]
def wsX6_init_r2 : List Cond := [Cond.initialized RX2, Cond.fieldLink RX6 49 "ThingMaker" "reader" "LThingMaker$RecipeReader;", Cond.arrayClass .int, Cond.fieldLink RX6 53 "ThingMaker" "text" "[I", Cond.fieldLink RX6 57 "ThingMaker" "length" "I", Cond.fieldLink RX6 61 "ThingMaker" "faultKind" "I", Cond.fieldLink RX6 64 "ThingMaker" "faultPlace" "I", Cond.methodLink RX6 9 yX0_init, Cond.instanceMethod yX0_init, Cond.code yX0_init cX0_init 1 none, Cond.methodLink RX0 3 objectInit, Cond.fieldLink RX0 9 "ThingMaker$Book" "yields" "[I", Cond.fieldLink RX0 15 "ThingMaker$Book" "ingredientCounts" "[I", Cond.fieldLink RX0 18 "ThingMaker$Book" "ingredients" "[I", Cond.fieldLink RX0 21 "ThingMaker$Book" "amounts" "[I", Cond.fieldLink RX0 24 "ThingMaker$Book" "substituteCounts" "[I", Cond.fieldLink RX0 27 "ThingMaker$Book" "substitutes" "[I", Cond.fieldLink RX0 30 "ThingMaker$Book" "vessels" "[I", Cond.fieldLink RX0 33 "ThingMaker$Book" "ranks" "[I", Cond.methodLink RX0 36 yJ7_fill_53178, Cond.static yJ7_fill_53178, Cond.initialized RJ7, Cond.code yJ7_fill_53178 cJ7_fill_53178 4 none, Cond.instanceMethod yX4_init]
def wsX6_init_r3 : List Cond := [Cond.code yX4_init cX4_init 1 none, Cond.methodLink RX4 3 objectInit, Cond.fieldLink RX4 9 "ThingMaker$Stock" "amounts" "[I", Cond.fieldLink RX4 15 "ThingMaker$Stock" "gathered" "[I", Cond.fieldLink RX4 18 "ThingMaker$Stock" "made" "[I", Cond.fieldLink RX4 21 "ThingMaker$Stock" "used" "[I", Cond.fieldLink RX4 24 "ThingMaker$Stock" "returned" "[I", Cond.fieldLink RX4 27 "ThingMaker$Stock" "brought" "[I", Cond.instanceMethod yX5_init, Cond.code yX5_init cX5_init 1 none, Cond.methodLink RX5 3 objectInit, Cond.classLink RX5 9 RX4, Cond.fieldLink RX5 12 "ThingMaker$Works" "bench" "LThingMaker$Stock;", Cond.instanceMethod yX1_init, Cond.code yX1_init cX1_init 1 none, Cond.methodLink RX1 3 objectInit, Cond.classLink RX1 9 RX3, Cond.fieldLink RX1 11 "ThingMaker$History" "states" "[LThingMaker$State;", Cond.instanceMethod yX2_init, Cond.code yX2_init cX2_init 1 none, Cond.methodLink RX2 3 objectInit, Cond.fieldLink RX2 9 "ThingMaker$RecipeReader" "ingredients" "[I", Cond.fieldLink RX2 15 "ThingMaker$RecipeReader" "amounts" "[I"]
def wsX6_init : List Cond := .code yX6_init cX6_init 1 none :: ((wsX6_init_r1 ++ (wsX6_init_r2 ++ wsX6_init_r3)) ++ wsX00 ++ wsX60 ++ wsX40 ++ wsX50 ++ wsX10 ++ wsX20)
def wsX6_recipe_r1 : List Cond := [Cond.fieldLink RX6 49 "ThingMaker" "reader" "LThingMaker$RecipeReader;", Cond.fieldLink RX6 53 "ThingMaker" "text" "[I", Cond.fieldLink RX6 57 "ThingMaker" "length" "I", Cond.fieldLink RX6 61 "ThingMaker" "faultKind" "I", Cond.fieldLink RX6 64 "ThingMaker" "faultPlace" "I", Cond.fieldLink RX6 16 "ThingMaker" "draft" "LThingMaker$Book;", Cond.fieldLink RX6 10 "ThingMaker" "book" "LThingMaker$Book;", Cond.fieldLink RX6 36 "ThingMaker" "history" "LThingMaker$History;", Cond.fieldLink RX6 22 "ThingMaker" "stock" "LThingMaker$Stock;", Cond.methodLink RX6 67 yX2_read, Cond.instanceMethod yX2_read, Cond.selects RX2 yX2_read yX2_read, Cond.initialized RX2, Cond.code yX2_read cX2_read 4 none, Cond.fieldLink RX2 18 "ThingMaker$RecipeReader" "place" "I", Cond.fieldLink RX2 22 "ThingMaker$RecipeReader" "count" "I", Cond.fieldLink RX2 25 "ThingMaker$RecipeReader" "faultKind" "I", Cond.fieldLink RX2 28 "ThingMaker$RecipeReader" "faultPlace" "I", Cond.fieldLink RX2 35 "ThingMaker$RecipeReader" "made" "I", Cond.fieldLink RX2 41 "ThingMaker$RecipeReader" "yielded" "I", Cond.methodLink RX2 31 yX2_readLetter, Cond.instanceMethod yX2_readLetter, Cond.selects RX2 yX2_readLetter yX2_readLetter, Cond.code yX2_readLetter cX2_readLetter 4 (some .int)]
def wsX6_recipe_r2 : List Cond := [Cond.methodLink RX2 56 yX2_skipBlanks, Cond.instanceMethod yX2_skipBlanks, Cond.selects RX2 yX2_skipBlanks yX2_skipBlanks, Cond.code yX2_skipBlanks cX2_skipBlanks 3 none, Cond.static yX6_at, Cond.initialized RX6, Cond.code yX6_at cX6_at 2 (some .int), Cond.methodLink RX2 63 yX2_tellFault, Cond.instanceMethod yX2_tellFault, Cond.selects RX2 yX2_tellFault yX2_tellFault, Cond.code yX2_tellFault cX2_tellFault 3 none, Cond.static yX6_isThing, Cond.code yX6_isThing cX6_isThing 1 (some .boolean), Cond.methodLink RX2 38 yX2_readNumber, Cond.instanceMethod yX2_readNumber, Cond.selects RX2 yX2_readNumber yX2_readNumber, Cond.code yX2_readNumber cX2_readNumber 5 (some .int), Cond.methodLink RX2 76 yX2_isDigit, Cond.instanceMethod yX2_isDigit, Cond.selects RX2 yX2_isDigit yX2_isDigit, Cond.code yX2_isDigit cX2_isDigit 4 (some .boolean), Cond.methodLink RX2 44 yX2_readSign, Cond.instanceMethod yX2_readSign, Cond.selects RX2 yX2_readSign yX2_readSign]
def wsX6_recipe_r3 : List Cond := [Cond.code yX2_readSign cX2_readSign 4 none, Cond.methodLink RX2 48 yX2_readIngredient, Cond.instanceMethod yX2_readIngredient, Cond.selects RX2 yX2_readIngredient yX2_readIngredient, Cond.code yX2_readIngredient cX2_readIngredient 5 none, Cond.fieldLink RX2 9 "ThingMaker$RecipeReader" "ingredients" "[I", Cond.fieldLink RX2 15 "ThingMaker$RecipeReader" "amounts" "[I", Cond.methodLink RX2 59 yX2_isListed, Cond.instanceMethod yX2_isListed, Cond.selects RX2 yX2_isListed yX2_isListed, Cond.code yX2_isListed cX2_isListed 3 (some .boolean), Cond.static yX6_put, Cond.code yX6_put cX6_put 3 none, Cond.methodLink RX2 52 yX2_isMore, Cond.instanceMethod yX2_isMore, Cond.selects RX2 yX2_isMore yX2_isMore, Cond.code yX2_isMore cX2_isMore 3 (some .boolean), Cond.methodLink RX6 73 yX0_copyFrom, Cond.instanceMethod yX0_copyFrom, Cond.selects RX0 yX0_copyFrom yX0_copyFrom, Cond.initialized RX0, Cond.code yX0_copyFrom cX0_copyFrom 2 none, Cond.fieldLink RX0 9 "ThingMaker$Book" "yields" "[I", Cond.fieldLink RX0 15 "ThingMaker$Book" "ingredientCounts" "[I"]
def wsX6_recipe_r4 : List Cond := [Cond.fieldLink RX0 18 "ThingMaker$Book" "ingredients" "[I", Cond.fieldLink RX0 21 "ThingMaker$Book" "amounts" "[I", Cond.fieldLink RX0 24 "ThingMaker$Book" "substituteCounts" "[I", Cond.fieldLink RX0 27 "ThingMaker$Book" "substitutes" "[I", Cond.fieldLink RX0 30 "ThingMaker$Book" "vessels" "[I", Cond.fieldLink RX0 33 "ThingMaker$Book" "ranks" "[I", Cond.static yX6_copy, Cond.code yX6_copy cX6_copy 2 none, Cond.methodLink RX6 231 Lib.Math.min.name, Cond.static Lib.Math.min.name, Cond.initialized "java/lang/Math", Cond.code Lib.Math.min.name Lib.Math.min.code 2 (some .int), Cond.methodLink RX6 257 arraycopyName, Cond.native arraycopyName, Cond.static arraycopyName, Cond.initialized "java/lang/System", Cond.methodLink RX6 77 yX0_lay, Cond.instanceMethod yX0_lay, Cond.selects RX0 yX0_lay yX0_lay, Cond.code yX0_lay cX0_lay 4 none, Cond.methodLink RX6 81 yX0_findRanks, Cond.instanceMethod yX0_findRanks, Cond.selects RX0 yX0_findRanks yX0_findRanks, Cond.code yX0_findRanks cX0_findRanks 5 (some .boolean)]
def wsX6_recipe_r5 : List Cond := [Cond.methodLink RX0 36 yJ7_fill_53178, Cond.static yJ7_fill_53178, Cond.initialized RJ7, Cond.code yJ7_fill_53178 cJ7_fill_53178 4 none, Cond.methodLink RX0 60 yX0_isMade, Cond.instanceMethod yX0_isMade, Cond.selects RX0 yX0_isMade yX0_isMade, Cond.code yX0_isMade cX0_isMade 2 (some .boolean), Cond.methodLink RX0 100 yX0_needsOf, Cond.instanceMethod yX0_needsOf, Cond.selects RX0 yX0_needsOf yX0_needsOf, Cond.code yX0_needsOf cX0_needsOf 8 (some .int), Cond.methodLink RX0 110 yX0_ingredientsOf, Cond.instanceMethod yX0_ingredientsOf, Cond.selects RX0 yX0_ingredientsOf yX0_ingredientsOf, Cond.code yX0_ingredientsOf cX0_ingredientsOf 2 (some .int), Cond.methodLink RX0 113 yX0_ingredientAt, Cond.instanceMethod yX0_ingredientAt, Cond.selects RX0 yX0_ingredientAt yX0_ingredientAt, Cond.code yX0_ingredientAt cX0_ingredientAt 3 (some .int), Cond.methodLink RX0 91 yX0_substitutesOf, Cond.instanceMethod yX0_substitutesOf, Cond.selects RX0 yX0_substitutesOf yX0_substitutesOf, Cond.code yX0_substitutesOf cX0_substitutesOf 2 (some .int)]
def wsX6_recipe_r6 : List Cond := [Cond.methodLink RX0 94 yX0_substituteAt, Cond.instanceMethod yX0_substituteAt, Cond.selects RX0 yX0_substituteAt yX0_substituteAt, Cond.code yX0_substituteAt cX0_substituteAt 3 (some .int), Cond.methodLink RX0 103 yX0_greatestRankIn, Cond.instanceMethod yX0_greatestRankIn, Cond.selects RX0 yX0_greatestRankIn yX0_greatestRankIn, Cond.code yX0_greatestRankIn cX0_greatestRankIn 4 (some .int), Cond.methodLink RX0 67 Lib.Math.max.name, Cond.static Lib.Math.max.name, Cond.code Lib.Math.max.name Lib.Math.max.code 2 (some .int), Cond.static yX6_hasBit, Cond.code yX6_hasBit cX6_hasBit 2 (some .boolean), Cond.methodLink RX0 64 yX0_rankOf, Cond.instanceMethod yX0_rankOf, Cond.selects RX0 yX0_rankOf yX0_rankOf, Cond.code yX0_rankOf cX0_rankOf 2 (some .int), Cond.methodLink RX6 85 yX1_remember, Cond.instanceMethod yX1_remember, Cond.selects RX1 yX1_remember yX1_remember, Cond.initialized RX1, Cond.code yX1_remember cX1_remember 4 none, Cond.fieldLink RX1 17 "ThingMaker$History" "size" "I", Cond.fieldLink RX1 25 "ThingMaker$History" "oldest" "I"]
def wsX6_recipe_r7 : List Cond := [Cond.fieldLink RX1 11 "ThingMaker$History" "states" "[LThingMaker$State;", Cond.methodLink RX1 21 yX1_placeOf, Cond.instanceMethod yX1_placeOf, Cond.selects RX1 yX1_placeOf yX1_placeOf, Cond.code yX1_placeOf cX1_placeOf 2 (some .int), Cond.methodLink RX1 42 yJ9_floorMod_7cf53, Cond.static yJ9_floorMod_7cf53, Cond.initialized RJ9, Cond.code yJ9_floorMod_7cf53 cJ9_floorMod_7cf53 3 (some .int), Cond.static yX6_roomAt, Cond.code yX6_roomAt cX6_roomAt 4 (some (.object "ThingMaker$State")), Cond.classLink RX6 40 RX3, Cond.instantiable RX3 2, Cond.initialized RX3, Cond.methodLink RX6 247 yX6_stateAt, Cond.static yX6_stateAt, Cond.code yX6_stateAt cX6_stateAt 2 (some (.object "ThingMaker$State")), Cond.instanceMethod yX3_init, Cond.code yX3_init cX3_init 1 none, Cond.methodLink RX3 1 objectInit, Cond.instanceMethod objectInit, Cond.code objectInit ⟨#[0xb1]⟩ 1 none, Cond.classLink RX3 7 RX0, Cond.instantiable RX0 8]
def wsX6_recipe_r8 : List Cond := [Cond.fieldLink RX3 10 "ThingMaker$State" "book" "LThingMaker$Book;", Cond.classLink RX3 16 RX4, Cond.instantiable RX4 7, Cond.initialized RX4, Cond.fieldLink RX3 19 "ThingMaker$State" "stock" "LThingMaker$Stock;", Cond.methodLink RX3 9 yX0_init, Cond.instanceMethod yX0_init, Cond.code yX0_init cX0_init 1 none, Cond.methodLink RX0 3 objectInit, Cond.arrayClass .int, Cond.instanceMethod yX4_init, Cond.code yX4_init cX4_init 1 none, Cond.methodLink RX4 3 objectInit, Cond.fieldLink RX4 9 "ThingMaker$Stock" "amounts" "[I", Cond.fieldLink RX4 15 "ThingMaker$Stock" "gathered" "[I", Cond.fieldLink RX4 18 "ThingMaker$Stock" "made" "[I", Cond.fieldLink RX4 21 "ThingMaker$Stock" "used" "[I", Cond.fieldLink RX4 24 "ThingMaker$Stock" "returned" "[I", Cond.fieldLink RX4 27 "ThingMaker$Stock" "brought" "[I", Cond.methodLink RX1 32 yX3_hold, Cond.instanceMethod yX3_hold, Cond.selects RX3 yX3_hold yX3_hold, Cond.code yX3_hold cX3_hold 3 none, Cond.methodLink RX3 23 yX0_copyFrom]
def wsX6_recipe_r9 : List Cond := [Cond.methodLink RX3 27 yX4_copyFrom, Cond.instanceMethod yX4_copyFrom, Cond.selects RX4 yX4_copyFrom yX4_copyFrom, Cond.code yX4_copyFrom cX4_copyFrom 2 none, Cond.fieldLink RX4 34 "ThingMaker$Stock" "batches" "I", Cond.methodLink RX6 92 yX0_rankOf]
def wsX6_recipe : List Cond := .code yX6_recipe cX6_recipe 1 (some .int) :: ((wsX6_recipe_r1 ++ (wsX6_recipe_r2 ++ (wsX6_recipe_r3 ++ (wsX6_recipe_r4 ++ (wsX6_recipe_r5 ++ (wsX6_recipe_r6 ++ (wsX6_recipe_r7 ++ (wsX6_recipe_r8 ++ wsX6_recipe_r9)))))))) ++ wsX60 ++ wsX20 ++ wsX00 ++ wsX10 ++ wsX30 ++ wsX40)
def wsX6_forget_r1 : List Cond := [Cond.fieldLink RX6 10 "ThingMaker" "book" "LThingMaker$Book;", Cond.fieldLink RX6 36 "ThingMaker" "history" "LThingMaker$History;", Cond.fieldLink RX6 22 "ThingMaker" "stock" "LThingMaker$Stock;", Cond.methodLink RX6 96 yX6_isThing, Cond.static yX6_isThing, Cond.initialized RX6, Cond.code yX6_isThing cX6_isThing 1 (some .boolean), Cond.methodLink RX6 100 yX0_isMade, Cond.instanceMethod yX0_isMade, Cond.selects RX0 yX0_isMade yX0_isMade, Cond.initialized RX0, Cond.code yX0_isMade cX0_isMade 2 (some .boolean), Cond.fieldLink RX0 9 "ThingMaker$Book" "yields" "[I", Cond.static yX6_at, Cond.code yX6_at cX6_at 2 (some .int), Cond.methodLink RX6 85 yX1_remember, Cond.instanceMethod yX1_remember, Cond.selects RX1 yX1_remember yX1_remember, Cond.initialized RX1, Cond.code yX1_remember cX1_remember 4 none, Cond.fieldLink RX1 17 "ThingMaker$History" "size" "I", Cond.fieldLink RX1 25 "ThingMaker$History" "oldest" "I", Cond.fieldLink RX1 11 "ThingMaker$History" "states" "[LThingMaker$State;", Cond.methodLink RX1 21 yX1_placeOf]
def wsX6_forget_r2 : List Cond := [Cond.instanceMethod yX1_placeOf, Cond.selects RX1 yX1_placeOf yX1_placeOf, Cond.code yX1_placeOf cX1_placeOf 2 (some .int), Cond.methodLink RX1 42 yJ9_floorMod_7cf53, Cond.static yJ9_floorMod_7cf53, Cond.initialized RJ9, Cond.code yJ9_floorMod_7cf53 cJ9_floorMod_7cf53 3 (some .int), Cond.static yX6_roomAt, Cond.code yX6_roomAt cX6_roomAt 4 (some (.object "ThingMaker$State")), Cond.classLink RX6 40 RX3, Cond.instantiable RX3 2, Cond.initialized RX3, Cond.methodLink RX6 247 yX6_stateAt, Cond.static yX6_stateAt, Cond.code yX6_stateAt cX6_stateAt 2 (some (.object "ThingMaker$State")), Cond.instanceMethod yX3_init, Cond.code yX3_init cX3_init 1 none, Cond.methodLink RX3 1 objectInit, Cond.instanceMethod objectInit, Cond.code objectInit ⟨#[0xb1]⟩ 1 none, Cond.classLink RX3 7 RX0, Cond.instantiable RX0 8, Cond.fieldLink RX3 10 "ThingMaker$State" "book" "LThingMaker$Book;", Cond.classLink RX3 16 RX4]
def wsX6_forget_r3 : List Cond := [Cond.instantiable RX4 7, Cond.initialized RX4, Cond.fieldLink RX3 19 "ThingMaker$State" "stock" "LThingMaker$Stock;", Cond.methodLink RX3 9 yX0_init, Cond.instanceMethod yX0_init, Cond.code yX0_init cX0_init 1 none, Cond.methodLink RX0 3 objectInit, Cond.arrayClass .int, Cond.fieldLink RX0 15 "ThingMaker$Book" "ingredientCounts" "[I", Cond.fieldLink RX0 18 "ThingMaker$Book" "ingredients" "[I", Cond.fieldLink RX0 21 "ThingMaker$Book" "amounts" "[I", Cond.fieldLink RX0 24 "ThingMaker$Book" "substituteCounts" "[I", Cond.fieldLink RX0 27 "ThingMaker$Book" "substitutes" "[I", Cond.fieldLink RX0 30 "ThingMaker$Book" "vessels" "[I", Cond.fieldLink RX0 33 "ThingMaker$Book" "ranks" "[I", Cond.methodLink RX0 36 yJ7_fill_53178, Cond.static yJ7_fill_53178, Cond.initialized RJ7, Cond.code yJ7_fill_53178 cJ7_fill_53178 4 none, Cond.instanceMethod yX4_init, Cond.code yX4_init cX4_init 1 none, Cond.methodLink RX4 3 objectInit, Cond.fieldLink RX4 9 "ThingMaker$Stock" "amounts" "[I", Cond.fieldLink RX4 15 "ThingMaker$Stock" "gathered" "[I"]
def wsX6_forget_r4 : List Cond := [Cond.fieldLink RX4 18 "ThingMaker$Stock" "made" "[I", Cond.fieldLink RX4 21 "ThingMaker$Stock" "used" "[I", Cond.fieldLink RX4 24 "ThingMaker$Stock" "returned" "[I", Cond.fieldLink RX4 27 "ThingMaker$Stock" "brought" "[I", Cond.methodLink RX1 32 yX3_hold, Cond.instanceMethod yX3_hold, Cond.selects RX3 yX3_hold yX3_hold, Cond.code yX3_hold cX3_hold 3 none, Cond.methodLink RX3 23 yX0_copyFrom, Cond.instanceMethod yX0_copyFrom, Cond.selects RX0 yX0_copyFrom yX0_copyFrom, Cond.code yX0_copyFrom cX0_copyFrom 2 none, Cond.static yX6_copy, Cond.code yX6_copy cX6_copy 2 none, Cond.methodLink RX6 231 Lib.Math.min.name, Cond.static Lib.Math.min.name, Cond.initialized "java/lang/Math", Cond.code Lib.Math.min.name Lib.Math.min.code 2 (some .int), Cond.methodLink RX6 257 arraycopyName, Cond.native arraycopyName, Cond.static arraycopyName, Cond.initialized "java/lang/System", Cond.methodLink RX3 27 yX4_copyFrom, Cond.instanceMethod yX4_copyFrom]
def wsX6_forget_r5 : List Cond := [Cond.selects RX4 yX4_copyFrom yX4_copyFrom, Cond.code yX4_copyFrom cX4_copyFrom 2 none, Cond.fieldLink RX4 34 "ThingMaker$Stock" "batches" "I", Cond.methodLink RX6 103 yX0_yieldOf, Cond.instanceMethod yX0_yieldOf, Cond.selects RX0 yX0_yieldOf yX0_yieldOf, Cond.code yX0_yieldOf cX0_yieldOf 2 (some .int), Cond.methodLink RX6 106 yX0_strike, Cond.instanceMethod yX0_strike, Cond.selects RX0 yX0_strike yX0_strike, Cond.code yX0_strike cX0_strike 2 none, Cond.static yX6_put, Cond.code yX6_put cX6_put 3 none, Cond.methodLink RX6 81 yX0_findRanks, Cond.instanceMethod yX0_findRanks, Cond.selects RX0 yX0_findRanks yX0_findRanks, Cond.code yX0_findRanks cX0_findRanks 5 (some .boolean), Cond.methodLink RX0 60 yX0_isMade, Cond.methodLink RX0 100 yX0_needsOf, Cond.instanceMethod yX0_needsOf, Cond.selects RX0 yX0_needsOf yX0_needsOf, Cond.code yX0_needsOf cX0_needsOf 8 (some .int), Cond.methodLink RX0 110 yX0_ingredientsOf, Cond.instanceMethod yX0_ingredientsOf]
def wsX6_forget_r6 : List Cond := [Cond.selects RX0 yX0_ingredientsOf yX0_ingredientsOf, Cond.code yX0_ingredientsOf cX0_ingredientsOf 2 (some .int), Cond.methodLink RX0 113 yX0_ingredientAt, Cond.instanceMethod yX0_ingredientAt, Cond.selects RX0 yX0_ingredientAt yX0_ingredientAt, Cond.code yX0_ingredientAt cX0_ingredientAt 3 (some .int), Cond.methodLink RX0 91 yX0_substitutesOf, Cond.instanceMethod yX0_substitutesOf, Cond.selects RX0 yX0_substitutesOf yX0_substitutesOf, Cond.code yX0_substitutesOf cX0_substitutesOf 2 (some .int), Cond.methodLink RX0 94 yX0_substituteAt, Cond.instanceMethod yX0_substituteAt, Cond.selects RX0 yX0_substituteAt yX0_substituteAt, Cond.code yX0_substituteAt cX0_substituteAt 3 (some .int), Cond.methodLink RX0 103 yX0_greatestRankIn, Cond.instanceMethod yX0_greatestRankIn, Cond.selects RX0 yX0_greatestRankIn yX0_greatestRankIn, Cond.code yX0_greatestRankIn cX0_greatestRankIn 4 (some .int), Cond.methodLink RX0 67 Lib.Math.max.name, Cond.static Lib.Math.max.name, Cond.code Lib.Math.max.name Lib.Math.max.code 2 (some .int), Cond.static yX6_hasBit, Cond.code yX6_hasBit cX6_hasBit 2 (some .boolean), Cond.methodLink RX0 64 yX0_rankOf]
def wsX6_forget_r7 : List Cond := [Cond.instanceMethod yX0_rankOf, Cond.selects RX0 yX0_rankOf yX0_rankOf, Cond.code yX0_rankOf cX0_rankOf 2 (some .int)]
def wsX6_forget : List Cond := .code yX6_forget cX6_forget 3 (some .int) :: ((wsX6_forget_r1 ++ (wsX6_forget_r2 ++ (wsX6_forget_r3 ++ (wsX6_forget_r4 ++ (wsX6_forget_r5 ++ (wsX6_forget_r6 ++ wsX6_forget_r7)))))) ++ wsX60 ++ wsX00 ++ wsX10 ++ wsX30 ++ wsX40)
def wsX6_allow_r1 : List Cond := [Cond.fieldLink RX6 10 "ThingMaker" "book" "LThingMaker$Book;", Cond.fieldLink RX6 16 "ThingMaker" "draft" "LThingMaker$Book;", Cond.fieldLink RX6 36 "ThingMaker" "history" "LThingMaker$History;", Cond.fieldLink RX6 22 "ThingMaker" "stock" "LThingMaker$Stock;", Cond.methodLink RX6 96 yX6_isThing, Cond.static yX6_isThing, Cond.initialized RX6, Cond.code yX6_isThing cX6_isThing 1 (some .boolean), Cond.methodLink RX6 110 yX0_hasSubstitute, Cond.instanceMethod yX0_hasSubstitute, Cond.selects RX0 yX0_hasSubstitute yX0_hasSubstitute, Cond.initialized RX0, Cond.code yX0_hasSubstitute cX0_hasSubstitute 5 (some .boolean), Cond.methodLink RX0 91 yX0_substitutesOf, Cond.instanceMethod yX0_substitutesOf, Cond.selects RX0 yX0_substitutesOf yX0_substitutesOf, Cond.code yX0_substitutesOf cX0_substitutesOf 2 (some .int), Cond.fieldLink RX0 24 "ThingMaker$Book" "substituteCounts" "[I", Cond.static yX6_at, Cond.code yX6_at cX6_at 2 (some .int), Cond.methodLink RX0 94 yX0_substituteAt, Cond.instanceMethod yX0_substituteAt, Cond.selects RX0 yX0_substituteAt yX0_substituteAt, Cond.code yX0_substituteAt cX0_substituteAt 3 (some .int)]
def wsX6_allow_r2 : List Cond := [Cond.fieldLink RX0 27 "ThingMaker$Book" "substitutes" "[I", Cond.methodLink RX6 114 yX0_substitutesOf, Cond.methodLink RX6 73 yX0_copyFrom, Cond.instanceMethod yX0_copyFrom, Cond.selects RX0 yX0_copyFrom yX0_copyFrom, Cond.code yX0_copyFrom cX0_copyFrom 2 none, Cond.fieldLink RX0 9 "ThingMaker$Book" "yields" "[I", Cond.fieldLink RX0 15 "ThingMaker$Book" "ingredientCounts" "[I", Cond.fieldLink RX0 18 "ThingMaker$Book" "ingredients" "[I", Cond.fieldLink RX0 21 "ThingMaker$Book" "amounts" "[I", Cond.fieldLink RX0 30 "ThingMaker$Book" "vessels" "[I", Cond.fieldLink RX0 33 "ThingMaker$Book" "ranks" "[I", Cond.static yX6_copy, Cond.code yX6_copy cX6_copy 2 none, Cond.methodLink RX6 231 Lib.Math.min.name, Cond.static Lib.Math.min.name, Cond.initialized "java/lang/Math", Cond.code Lib.Math.min.name Lib.Math.min.code 2 (some .int), Cond.methodLink RX6 257 arraycopyName, Cond.native arraycopyName, Cond.static arraycopyName, Cond.initialized "java/lang/System", Cond.methodLink RX6 117 yX0_addSubstitute, Cond.instanceMethod yX0_addSubstitute]
def wsX6_allow_r3 : List Cond := [Cond.selects RX0 yX0_addSubstitute yX0_addSubstitute, Cond.code yX0_addSubstitute cX0_addSubstitute 4 none, Cond.static yX6_put, Cond.code yX6_put cX6_put 3 none, Cond.methodLink RX6 81 yX0_findRanks, Cond.instanceMethod yX0_findRanks, Cond.selects RX0 yX0_findRanks yX0_findRanks, Cond.code yX0_findRanks cX0_findRanks 5 (some .boolean), Cond.methodLink RX0 36 yJ7_fill_53178, Cond.static yJ7_fill_53178, Cond.initialized RJ7, Cond.code yJ7_fill_53178 cJ7_fill_53178 4 none, Cond.methodLink RX0 60 yX0_isMade, Cond.instanceMethod yX0_isMade, Cond.selects RX0 yX0_isMade yX0_isMade, Cond.code yX0_isMade cX0_isMade 2 (some .boolean), Cond.methodLink RX0 100 yX0_needsOf, Cond.instanceMethod yX0_needsOf, Cond.selects RX0 yX0_needsOf yX0_needsOf, Cond.code yX0_needsOf cX0_needsOf 8 (some .int), Cond.methodLink RX0 110 yX0_ingredientsOf, Cond.instanceMethod yX0_ingredientsOf, Cond.selects RX0 yX0_ingredientsOf yX0_ingredientsOf, Cond.code yX0_ingredientsOf cX0_ingredientsOf 2 (some .int)]
def wsX6_allow_r4 : List Cond := [Cond.methodLink RX0 113 yX0_ingredientAt, Cond.instanceMethod yX0_ingredientAt, Cond.selects RX0 yX0_ingredientAt yX0_ingredientAt, Cond.code yX0_ingredientAt cX0_ingredientAt 3 (some .int), Cond.methodLink RX0 103 yX0_greatestRankIn, Cond.instanceMethod yX0_greatestRankIn, Cond.selects RX0 yX0_greatestRankIn yX0_greatestRankIn, Cond.code yX0_greatestRankIn cX0_greatestRankIn 4 (some .int), Cond.methodLink RX0 67 Lib.Math.max.name, Cond.static Lib.Math.max.name, Cond.code Lib.Math.max.name Lib.Math.max.code 2 (some .int), Cond.static yX6_hasBit, Cond.code yX6_hasBit cX6_hasBit 2 (some .boolean), Cond.methodLink RX0 64 yX0_rankOf, Cond.instanceMethod yX0_rankOf, Cond.selects RX0 yX0_rankOf yX0_rankOf, Cond.code yX0_rankOf cX0_rankOf 2 (some .int), Cond.methodLink RX6 85 yX1_remember, Cond.instanceMethod yX1_remember, Cond.selects RX1 yX1_remember yX1_remember, Cond.initialized RX1, Cond.code yX1_remember cX1_remember 4 none, Cond.fieldLink RX1 17 "ThingMaker$History" "size" "I", Cond.fieldLink RX1 25 "ThingMaker$History" "oldest" "I"]
def wsX6_allow_r5 : List Cond := [Cond.fieldLink RX1 11 "ThingMaker$History" "states" "[LThingMaker$State;", Cond.methodLink RX1 21 yX1_placeOf, Cond.instanceMethod yX1_placeOf, Cond.selects RX1 yX1_placeOf yX1_placeOf, Cond.code yX1_placeOf cX1_placeOf 2 (some .int), Cond.methodLink RX1 42 yJ9_floorMod_7cf53, Cond.static yJ9_floorMod_7cf53, Cond.initialized RJ9, Cond.code yJ9_floorMod_7cf53 cJ9_floorMod_7cf53 3 (some .int), Cond.static yX6_roomAt, Cond.code yX6_roomAt cX6_roomAt 4 (some (.object "ThingMaker$State")), Cond.classLink RX6 40 RX3, Cond.instantiable RX3 2, Cond.initialized RX3, Cond.methodLink RX6 247 yX6_stateAt, Cond.static yX6_stateAt, Cond.code yX6_stateAt cX6_stateAt 2 (some (.object "ThingMaker$State")), Cond.instanceMethod yX3_init, Cond.code yX3_init cX3_init 1 none, Cond.methodLink RX3 1 objectInit, Cond.instanceMethod objectInit, Cond.code objectInit ⟨#[0xb1]⟩ 1 none, Cond.classLink RX3 7 RX0, Cond.instantiable RX0 8]
def wsX6_allow_r6 : List Cond := [Cond.fieldLink RX3 10 "ThingMaker$State" "book" "LThingMaker$Book;", Cond.classLink RX3 16 RX4, Cond.instantiable RX4 7, Cond.initialized RX4, Cond.fieldLink RX3 19 "ThingMaker$State" "stock" "LThingMaker$Stock;", Cond.methodLink RX3 9 yX0_init, Cond.instanceMethod yX0_init, Cond.code yX0_init cX0_init 1 none, Cond.methodLink RX0 3 objectInit, Cond.arrayClass .int, Cond.instanceMethod yX4_init, Cond.code yX4_init cX4_init 1 none, Cond.methodLink RX4 3 objectInit, Cond.fieldLink RX4 9 "ThingMaker$Stock" "amounts" "[I", Cond.fieldLink RX4 15 "ThingMaker$Stock" "gathered" "[I", Cond.fieldLink RX4 18 "ThingMaker$Stock" "made" "[I", Cond.fieldLink RX4 21 "ThingMaker$Stock" "used" "[I", Cond.fieldLink RX4 24 "ThingMaker$Stock" "returned" "[I", Cond.fieldLink RX4 27 "ThingMaker$Stock" "brought" "[I", Cond.methodLink RX1 32 yX3_hold, Cond.instanceMethod yX3_hold, Cond.selects RX3 yX3_hold yX3_hold, Cond.code yX3_hold cX3_hold 3 none, Cond.methodLink RX3 23 yX0_copyFrom]
def wsX6_allow_r7 : List Cond := [Cond.methodLink RX3 27 yX4_copyFrom, Cond.instanceMethod yX4_copyFrom, Cond.selects RX4 yX4_copyFrom yX4_copyFrom, Cond.code yX4_copyFrom cX4_copyFrom 2 none, Cond.fieldLink RX4 34 "ThingMaker$Stock" "batches" "I"]
def wsX6_allow : List Cond := .code yX6_allow cX6_allow 3 (some .int) :: ((wsX6_allow_r1 ++ (wsX6_allow_r2 ++ (wsX6_allow_r3 ++ (wsX6_allow_r4 ++ (wsX6_allow_r5 ++ (wsX6_allow_r6 ++ wsX6_allow_r7)))))) ++ wsX60 ++ wsX00 ++ wsX10 ++ wsX30 ++ wsX40)
def wsX6_forbid_r1 : List Cond := [Cond.fieldLink RX6 10 "ThingMaker" "book" "LThingMaker$Book;", Cond.fieldLink RX6 36 "ThingMaker" "history" "LThingMaker$History;", Cond.fieldLink RX6 22 "ThingMaker" "stock" "LThingMaker$Stock;", Cond.methodLink RX6 96 yX6_isThing, Cond.static yX6_isThing, Cond.initialized RX6, Cond.code yX6_isThing cX6_isThing 1 (some .boolean), Cond.methodLink RX6 114 yX0_substitutesOf, Cond.instanceMethod yX0_substitutesOf, Cond.selects RX0 yX0_substitutesOf yX0_substitutesOf, Cond.initialized RX0, Cond.code yX0_substitutesOf cX0_substitutesOf 2 (some .int), Cond.fieldLink RX0 24 "ThingMaker$Book" "substituteCounts" "[I", Cond.static yX6_at, Cond.code yX6_at cX6_at 2 (some .int), Cond.methodLink RX6 85 yX1_remember, Cond.instanceMethod yX1_remember, Cond.selects RX1 yX1_remember yX1_remember, Cond.initialized RX1, Cond.code yX1_remember cX1_remember 4 none, Cond.fieldLink RX1 17 "ThingMaker$History" "size" "I", Cond.fieldLink RX1 25 "ThingMaker$History" "oldest" "I", Cond.fieldLink RX1 11 "ThingMaker$History" "states" "[LThingMaker$State;", Cond.methodLink RX1 21 yX1_placeOf]
def wsX6_forbid_r2 : List Cond := [Cond.instanceMethod yX1_placeOf, Cond.selects RX1 yX1_placeOf yX1_placeOf, Cond.code yX1_placeOf cX1_placeOf 2 (some .int), Cond.methodLink RX1 42 yJ9_floorMod_7cf53, Cond.static yJ9_floorMod_7cf53, Cond.initialized RJ9, Cond.code yJ9_floorMod_7cf53 cJ9_floorMod_7cf53 3 (some .int), Cond.static yX6_roomAt, Cond.code yX6_roomAt cX6_roomAt 4 (some (.object "ThingMaker$State")), Cond.classLink RX6 40 RX3, Cond.instantiable RX3 2, Cond.initialized RX3, Cond.methodLink RX6 247 yX6_stateAt, Cond.static yX6_stateAt, Cond.code yX6_stateAt cX6_stateAt 2 (some (.object "ThingMaker$State")), Cond.instanceMethod yX3_init, Cond.code yX3_init cX3_init 1 none, Cond.methodLink RX3 1 objectInit, Cond.instanceMethod objectInit, Cond.code objectInit ⟨#[0xb1]⟩ 1 none, Cond.classLink RX3 7 RX0, Cond.instantiable RX0 8, Cond.fieldLink RX3 10 "ThingMaker$State" "book" "LThingMaker$Book;", Cond.classLink RX3 16 RX4]
def wsX6_forbid_r3 : List Cond := [Cond.instantiable RX4 7, Cond.initialized RX4, Cond.fieldLink RX3 19 "ThingMaker$State" "stock" "LThingMaker$Stock;", Cond.methodLink RX3 9 yX0_init, Cond.instanceMethod yX0_init, Cond.code yX0_init cX0_init 1 none, Cond.methodLink RX0 3 objectInit, Cond.arrayClass .int, Cond.fieldLink RX0 9 "ThingMaker$Book" "yields" "[I", Cond.fieldLink RX0 15 "ThingMaker$Book" "ingredientCounts" "[I", Cond.fieldLink RX0 18 "ThingMaker$Book" "ingredients" "[I", Cond.fieldLink RX0 21 "ThingMaker$Book" "amounts" "[I", Cond.fieldLink RX0 27 "ThingMaker$Book" "substitutes" "[I", Cond.fieldLink RX0 30 "ThingMaker$Book" "vessels" "[I", Cond.fieldLink RX0 33 "ThingMaker$Book" "ranks" "[I", Cond.methodLink RX0 36 yJ7_fill_53178, Cond.static yJ7_fill_53178, Cond.initialized RJ7, Cond.code yJ7_fill_53178 cJ7_fill_53178 4 none, Cond.instanceMethod yX4_init, Cond.code yX4_init cX4_init 1 none, Cond.methodLink RX4 3 objectInit, Cond.fieldLink RX4 9 "ThingMaker$Stock" "amounts" "[I", Cond.fieldLink RX4 15 "ThingMaker$Stock" "gathered" "[I"]
def wsX6_forbid_r4 : List Cond := [Cond.fieldLink RX4 18 "ThingMaker$Stock" "made" "[I", Cond.fieldLink RX4 21 "ThingMaker$Stock" "used" "[I", Cond.fieldLink RX4 24 "ThingMaker$Stock" "returned" "[I", Cond.fieldLink RX4 27 "ThingMaker$Stock" "brought" "[I", Cond.methodLink RX1 32 yX3_hold, Cond.instanceMethod yX3_hold, Cond.selects RX3 yX3_hold yX3_hold, Cond.code yX3_hold cX3_hold 3 none, Cond.methodLink RX3 23 yX0_copyFrom, Cond.instanceMethod yX0_copyFrom, Cond.selects RX0 yX0_copyFrom yX0_copyFrom, Cond.code yX0_copyFrom cX0_copyFrom 2 none, Cond.static yX6_copy, Cond.code yX6_copy cX6_copy 2 none, Cond.methodLink RX6 231 Lib.Math.min.name, Cond.static Lib.Math.min.name, Cond.initialized "java/lang/Math", Cond.code Lib.Math.min.name Lib.Math.min.code 2 (some .int), Cond.methodLink RX6 257 arraycopyName, Cond.native arraycopyName, Cond.static arraycopyName, Cond.initialized "java/lang/System", Cond.methodLink RX3 27 yX4_copyFrom, Cond.instanceMethod yX4_copyFrom]
def wsX6_forbid_r5 : List Cond := [Cond.selects RX4 yX4_copyFrom yX4_copyFrom, Cond.code yX4_copyFrom cX4_copyFrom 2 none, Cond.fieldLink RX4 34 "ThingMaker$Stock" "batches" "I", Cond.methodLink RX6 121 yX0_substituteAt, Cond.instanceMethod yX0_substituteAt, Cond.selects RX0 yX0_substituteAt yX0_substituteAt, Cond.code yX0_substituteAt cX0_substituteAt 3 (some .int), Cond.methodLink RX6 125 yX0_removeSubstitute, Cond.instanceMethod yX0_removeSubstitute, Cond.selects RX0 yX0_removeSubstitute yX0_removeSubstitute, Cond.code yX0_removeSubstitute cX0_removeSubstitute 5 none, Cond.methodLink RX0 91 yX0_substitutesOf, Cond.methodLink RX0 94 yX0_substituteAt, Cond.static yX6_put, Cond.code yX6_put cX6_put 3 none, Cond.methodLink RX6 81 yX0_findRanks, Cond.instanceMethod yX0_findRanks, Cond.selects RX0 yX0_findRanks yX0_findRanks, Cond.code yX0_findRanks cX0_findRanks 5 (some .boolean), Cond.methodLink RX0 60 yX0_isMade, Cond.instanceMethod yX0_isMade, Cond.selects RX0 yX0_isMade yX0_isMade, Cond.code yX0_isMade cX0_isMade 2 (some .boolean), Cond.methodLink RX0 100 yX0_needsOf]
def wsX6_forbid_r6 : List Cond := [Cond.instanceMethod yX0_needsOf, Cond.selects RX0 yX0_needsOf yX0_needsOf, Cond.code yX0_needsOf cX0_needsOf 8 (some .int), Cond.methodLink RX0 110 yX0_ingredientsOf, Cond.instanceMethod yX0_ingredientsOf, Cond.selects RX0 yX0_ingredientsOf yX0_ingredientsOf, Cond.code yX0_ingredientsOf cX0_ingredientsOf 2 (some .int), Cond.methodLink RX0 113 yX0_ingredientAt, Cond.instanceMethod yX0_ingredientAt, Cond.selects RX0 yX0_ingredientAt yX0_ingredientAt, Cond.code yX0_ingredientAt cX0_ingredientAt 3 (some .int), Cond.methodLink RX0 103 yX0_greatestRankIn, Cond.instanceMethod yX0_greatestRankIn, Cond.selects RX0 yX0_greatestRankIn yX0_greatestRankIn, Cond.code yX0_greatestRankIn cX0_greatestRankIn 4 (some .int), Cond.methodLink RX0 67 Lib.Math.max.name, Cond.static Lib.Math.max.name, Cond.code Lib.Math.max.name Lib.Math.max.code 2 (some .int), Cond.static yX6_hasBit, Cond.code yX6_hasBit cX6_hasBit 2 (some .boolean), Cond.methodLink RX0 64 yX0_rankOf, Cond.instanceMethod yX0_rankOf, Cond.selects RX0 yX0_rankOf yX0_rankOf, Cond.code yX0_rankOf cX0_rankOf 2 (some .int)]
def wsX6_forbid : List Cond := .code yX6_forbid cX6_forbid 4 (some .int) :: ((wsX6_forbid_r1 ++ (wsX6_forbid_r2 ++ (wsX6_forbid_r3 ++ (wsX6_forbid_r4 ++ (wsX6_forbid_r5 ++ wsX6_forbid_r6))))) ++ wsX60 ++ wsX00 ++ wsX10 ++ wsX30 ++ wsX40)
def wsX6_vessel_r1 : List Cond := [Cond.fieldLink RX6 10 "ThingMaker" "book" "LThingMaker$Book;", Cond.fieldLink RX6 36 "ThingMaker" "history" "LThingMaker$History;", Cond.fieldLink RX6 22 "ThingMaker" "stock" "LThingMaker$Stock;", Cond.methodLink RX6 96 yX6_isThing, Cond.static yX6_isThing, Cond.initialized RX6, Cond.code yX6_isThing cX6_isThing 1 (some .boolean), Cond.methodLink RX6 128 yX0_vesselOf, Cond.instanceMethod yX0_vesselOf, Cond.selects RX0 yX0_vesselOf yX0_vesselOf, Cond.initialized RX0, Cond.code yX0_vesselOf cX0_vesselOf 2 (some .int), Cond.fieldLink RX0 30 "ThingMaker$Book" "vessels" "[I", Cond.static yX6_at, Cond.code yX6_at cX6_at 2 (some .int), Cond.methodLink RX6 131 yX0_isVessel, Cond.instanceMethod yX0_isVessel, Cond.selects RX0 yX0_isVessel yX0_isVessel, Cond.code yX0_isVessel cX0_isVessel 3 (some .boolean), Cond.methodLink RX0 97 yX0_vesselOf, Cond.methodLink RX6 85 yX1_remember, Cond.instanceMethod yX1_remember, Cond.selects RX1 yX1_remember yX1_remember, Cond.initialized RX1]
def wsX6_vessel_r2 : List Cond := [Cond.code yX1_remember cX1_remember 4 none, Cond.fieldLink RX1 17 "ThingMaker$History" "size" "I", Cond.fieldLink RX1 25 "ThingMaker$History" "oldest" "I", Cond.fieldLink RX1 11 "ThingMaker$History" "states" "[LThingMaker$State;", Cond.methodLink RX1 21 yX1_placeOf, Cond.instanceMethod yX1_placeOf, Cond.selects RX1 yX1_placeOf yX1_placeOf, Cond.code yX1_placeOf cX1_placeOf 2 (some .int), Cond.methodLink RX1 42 yJ9_floorMod_7cf53, Cond.static yJ9_floorMod_7cf53, Cond.initialized RJ9, Cond.code yJ9_floorMod_7cf53 cJ9_floorMod_7cf53 3 (some .int), Cond.static yX6_roomAt, Cond.code yX6_roomAt cX6_roomAt 4 (some (.object "ThingMaker$State")), Cond.classLink RX6 40 RX3, Cond.instantiable RX3 2, Cond.initialized RX3, Cond.methodLink RX6 247 yX6_stateAt, Cond.static yX6_stateAt, Cond.code yX6_stateAt cX6_stateAt 2 (some (.object "ThingMaker$State")), Cond.instanceMethod yX3_init, Cond.code yX3_init cX3_init 1 none, Cond.methodLink RX3 1 objectInit, Cond.instanceMethod objectInit]
def wsX6_vessel_r3 : List Cond := [Cond.code objectInit ⟨#[0xb1]⟩ 1 none, Cond.classLink RX3 7 RX0, Cond.instantiable RX0 8, Cond.fieldLink RX3 10 "ThingMaker$State" "book" "LThingMaker$Book;", Cond.classLink RX3 16 RX4, Cond.instantiable RX4 7, Cond.initialized RX4, Cond.fieldLink RX3 19 "ThingMaker$State" "stock" "LThingMaker$Stock;", Cond.methodLink RX3 9 yX0_init, Cond.instanceMethod yX0_init, Cond.code yX0_init cX0_init 1 none, Cond.methodLink RX0 3 objectInit, Cond.arrayClass .int, Cond.fieldLink RX0 9 "ThingMaker$Book" "yields" "[I", Cond.fieldLink RX0 15 "ThingMaker$Book" "ingredientCounts" "[I", Cond.fieldLink RX0 18 "ThingMaker$Book" "ingredients" "[I", Cond.fieldLink RX0 21 "ThingMaker$Book" "amounts" "[I", Cond.fieldLink RX0 24 "ThingMaker$Book" "substituteCounts" "[I", Cond.fieldLink RX0 27 "ThingMaker$Book" "substitutes" "[I", Cond.fieldLink RX0 33 "ThingMaker$Book" "ranks" "[I", Cond.methodLink RX0 36 yJ7_fill_53178, Cond.static yJ7_fill_53178, Cond.initialized RJ7, Cond.code yJ7_fill_53178 cJ7_fill_53178 4 none]
def wsX6_vessel_r4 : List Cond := [Cond.instanceMethod yX4_init, Cond.code yX4_init cX4_init 1 none, Cond.methodLink RX4 3 objectInit, Cond.fieldLink RX4 9 "ThingMaker$Stock" "amounts" "[I", Cond.fieldLink RX4 15 "ThingMaker$Stock" "gathered" "[I", Cond.fieldLink RX4 18 "ThingMaker$Stock" "made" "[I", Cond.fieldLink RX4 21 "ThingMaker$Stock" "used" "[I", Cond.fieldLink RX4 24 "ThingMaker$Stock" "returned" "[I", Cond.fieldLink RX4 27 "ThingMaker$Stock" "brought" "[I", Cond.methodLink RX1 32 yX3_hold, Cond.instanceMethod yX3_hold, Cond.selects RX3 yX3_hold yX3_hold, Cond.code yX3_hold cX3_hold 3 none, Cond.methodLink RX3 23 yX0_copyFrom, Cond.instanceMethod yX0_copyFrom, Cond.selects RX0 yX0_copyFrom yX0_copyFrom, Cond.code yX0_copyFrom cX0_copyFrom 2 none, Cond.static yX6_copy, Cond.code yX6_copy cX6_copy 2 none, Cond.methodLink RX6 231 Lib.Math.min.name, Cond.static Lib.Math.min.name, Cond.initialized "java/lang/Math", Cond.code Lib.Math.min.name Lib.Math.min.code 2 (some .int), Cond.methodLink RX6 257 arraycopyName]
def wsX6_vessel_r5 : List Cond := [Cond.native arraycopyName, Cond.static arraycopyName, Cond.initialized "java/lang/System", Cond.methodLink RX3 27 yX4_copyFrom, Cond.instanceMethod yX4_copyFrom, Cond.selects RX4 yX4_copyFrom yX4_copyFrom, Cond.code yX4_copyFrom cX4_copyFrom 2 none, Cond.fieldLink RX4 34 "ThingMaker$Stock" "batches" "I", Cond.methodLink RX6 134 yX0_setVessel, Cond.instanceMethod yX0_setVessel, Cond.selects RX0 yX0_setVessel yX0_setVessel, Cond.code yX0_setVessel cX0_setVessel 3 none, Cond.static yX6_put, Cond.code yX6_put cX6_put 3 none]
def wsX6_vessel : List Cond := .code yX6_vessel cX6_vessel 5 (some .int) :: ((wsX6_vessel_r1 ++ (wsX6_vessel_r2 ++ (wsX6_vessel_r3 ++ (wsX6_vessel_r4 ++ wsX6_vessel_r5)))) ++ wsX60 ++ wsX00 ++ wsX10 ++ wsX30 ++ wsX40)
def wsX6_bring_r1 : List Cond := [Cond.fieldLink RX6 22 "ThingMaker" "stock" "LThingMaker$Stock;", Cond.methodLink RX6 144 Lib.Math.max.name, Cond.static Lib.Math.max.name, Cond.initialized "java/lang/Math", Cond.code Lib.Math.max.name Lib.Math.max.code 2 (some .int), Cond.constant RX6 149 (99999), Cond.fieldLink RX6 36 "ThingMaker" "history" "LThingMaker$History;", Cond.fieldLink RX6 10 "ThingMaker" "book" "LThingMaker$Book;", Cond.methodLink RX6 96 yX6_isThing, Cond.static yX6_isThing, Cond.initialized RX6, Cond.code yX6_isThing cX6_isThing 1 (some .boolean), Cond.methodLink RX6 140 yX6_at, Cond.static yX6_at, Cond.code yX6_at cX6_at 2 (some .int), Cond.methodLink RX6 85 yX1_remember, Cond.instanceMethod yX1_remember, Cond.selects RX1 yX1_remember yX1_remember, Cond.initialized RX1, Cond.code yX1_remember cX1_remember 4 none, Cond.fieldLink RX1 17 "ThingMaker$History" "size" "I", Cond.fieldLink RX1 25 "ThingMaker$History" "oldest" "I", Cond.fieldLink RX1 11 "ThingMaker$History" "states" "[LThingMaker$State;", Cond.methodLink RX1 21 yX1_placeOf]
def wsX6_bring_r2 : List Cond := [Cond.instanceMethod yX1_placeOf, Cond.selects RX1 yX1_placeOf yX1_placeOf, Cond.code yX1_placeOf cX1_placeOf 2 (some .int), Cond.methodLink RX1 42 yJ9_floorMod_7cf53, Cond.static yJ9_floorMod_7cf53, Cond.initialized RJ9, Cond.code yJ9_floorMod_7cf53 cJ9_floorMod_7cf53 3 (some .int), Cond.static yX6_roomAt, Cond.code yX6_roomAt cX6_roomAt 4 (some (.object "ThingMaker$State")), Cond.classLink RX6 40 RX3, Cond.instantiable RX3 2, Cond.initialized RX3, Cond.methodLink RX6 247 yX6_stateAt, Cond.static yX6_stateAt, Cond.code yX6_stateAt cX6_stateAt 2 (some (.object "ThingMaker$State")), Cond.instanceMethod yX3_init, Cond.code yX3_init cX3_init 1 none, Cond.methodLink RX3 1 objectInit, Cond.instanceMethod objectInit, Cond.code objectInit ⟨#[0xb1]⟩ 1 none, Cond.classLink RX3 7 RX0, Cond.instantiable RX0 8, Cond.initialized RX0, Cond.fieldLink RX3 10 "ThingMaker$State" "book" "LThingMaker$Book;"]
def wsX6_bring_r3 : List Cond := [Cond.classLink RX3 16 RX4, Cond.instantiable RX4 7, Cond.initialized RX4, Cond.fieldLink RX3 19 "ThingMaker$State" "stock" "LThingMaker$Stock;", Cond.methodLink RX3 9 yX0_init, Cond.instanceMethod yX0_init, Cond.code yX0_init cX0_init 1 none, Cond.methodLink RX0 3 objectInit, Cond.arrayClass .int, Cond.fieldLink RX0 9 "ThingMaker$Book" "yields" "[I", Cond.fieldLink RX0 15 "ThingMaker$Book" "ingredientCounts" "[I", Cond.fieldLink RX0 18 "ThingMaker$Book" "ingredients" "[I", Cond.fieldLink RX0 21 "ThingMaker$Book" "amounts" "[I", Cond.fieldLink RX0 24 "ThingMaker$Book" "substituteCounts" "[I", Cond.fieldLink RX0 27 "ThingMaker$Book" "substitutes" "[I", Cond.fieldLink RX0 30 "ThingMaker$Book" "vessels" "[I", Cond.fieldLink RX0 33 "ThingMaker$Book" "ranks" "[I", Cond.methodLink RX0 36 yJ7_fill_53178, Cond.static yJ7_fill_53178, Cond.initialized RJ7, Cond.code yJ7_fill_53178 cJ7_fill_53178 4 none, Cond.instanceMethod yX4_init, Cond.code yX4_init cX4_init 1 none, Cond.methodLink RX4 3 objectInit]
def wsX6_bring_r4 : List Cond := [Cond.fieldLink RX4 9 "ThingMaker$Stock" "amounts" "[I", Cond.fieldLink RX4 15 "ThingMaker$Stock" "gathered" "[I", Cond.fieldLink RX4 18 "ThingMaker$Stock" "made" "[I", Cond.fieldLink RX4 21 "ThingMaker$Stock" "used" "[I", Cond.fieldLink RX4 24 "ThingMaker$Stock" "returned" "[I", Cond.fieldLink RX4 27 "ThingMaker$Stock" "brought" "[I", Cond.methodLink RX1 32 yX3_hold, Cond.instanceMethod yX3_hold, Cond.selects RX3 yX3_hold yX3_hold, Cond.code yX3_hold cX3_hold 3 none, Cond.methodLink RX3 23 yX0_copyFrom, Cond.instanceMethod yX0_copyFrom, Cond.selects RX0 yX0_copyFrom yX0_copyFrom, Cond.code yX0_copyFrom cX0_copyFrom 2 none, Cond.static yX6_copy, Cond.code yX6_copy cX6_copy 2 none, Cond.methodLink RX6 231 Lib.Math.min.name, Cond.static Lib.Math.min.name, Cond.code Lib.Math.min.name Lib.Math.min.code 2 (some .int), Cond.methodLink RX6 257 arraycopyName, Cond.native arraycopyName, Cond.static arraycopyName, Cond.initialized "java/lang/System", Cond.methodLink RX3 27 yX4_copyFrom]
def wsX6_bring_r5 : List Cond := [Cond.instanceMethod yX4_copyFrom, Cond.selects RX4 yX4_copyFrom yX4_copyFrom, Cond.code yX4_copyFrom cX4_copyFrom 2 none, Cond.fieldLink RX4 34 "ThingMaker$Stock" "batches" "I", Cond.methodLink RX6 150 yX6_add, Cond.static yX6_add, Cond.code yX6_add cX6_add 3 none]
def wsX6_bring : List Cond := .code yX6_bring cX6_bring 5 (some .int) :: ((wsX6_bring_r1 ++ (wsX6_bring_r2 ++ (wsX6_bring_r3 ++ (wsX6_bring_r4 ++ wsX6_bring_r5)))) ++ wsX60 ++ wsX40 ++ wsX10 ++ wsX30 ++ wsX00)
def wsX6_isWished : List Cond := .code yX6_isWished cX6_isWished 1 (some .boolean) :: ([])
def wsX6_acceptWorks_r1 : List Cond := [Cond.fieldLink RX6 36 "ThingMaker" "history" "LThingMaker$History;", Cond.fieldLink RX6 10 "ThingMaker" "book" "LThingMaker$Book;", Cond.fieldLink RX6 22 "ThingMaker" "stock" "LThingMaker$Stock;", Cond.fieldLink RX6 29 "ThingMaker" "works" "LThingMaker$Works;", Cond.methodLink RX6 85 yX1_remember, Cond.instanceMethod yX1_remember, Cond.selects RX1 yX1_remember yX1_remember, Cond.initialized RX1, Cond.code yX1_remember cX1_remember 4 none, Cond.fieldLink RX1 17 "ThingMaker$History" "size" "I", Cond.fieldLink RX1 25 "ThingMaker$History" "oldest" "I", Cond.fieldLink RX1 11 "ThingMaker$History" "states" "[LThingMaker$State;", Cond.methodLink RX1 21 yX1_placeOf, Cond.instanceMethod yX1_placeOf, Cond.selects RX1 yX1_placeOf yX1_placeOf, Cond.code yX1_placeOf cX1_placeOf 2 (some .int), Cond.methodLink RX1 42 yJ9_floorMod_7cf53, Cond.static yJ9_floorMod_7cf53, Cond.initialized RJ9, Cond.code yJ9_floorMod_7cf53 cJ9_floorMod_7cf53 3 (some .int), Cond.static yX6_roomAt, Cond.initialized RX6, Cond.code yX6_roomAt cX6_roomAt 4 (some (.object "ThingMaker$State")), Cond.classLink RX6 40 RX3]
def wsX6_acceptWorks_r2 : List Cond := [Cond.instantiable RX3 2, Cond.initialized RX3, Cond.methodLink RX6 247 yX6_stateAt, Cond.static yX6_stateAt, Cond.code yX6_stateAt cX6_stateAt 2 (some (.object "ThingMaker$State")), Cond.instanceMethod yX3_init, Cond.code yX3_init cX3_init 1 none, Cond.methodLink RX3 1 objectInit, Cond.instanceMethod objectInit, Cond.code objectInit ⟨#[0xb1]⟩ 1 none, Cond.classLink RX3 7 RX0, Cond.instantiable RX0 8, Cond.initialized RX0, Cond.fieldLink RX3 10 "ThingMaker$State" "book" "LThingMaker$Book;", Cond.classLink RX3 16 RX4, Cond.instantiable RX4 7, Cond.initialized RX4, Cond.fieldLink RX3 19 "ThingMaker$State" "stock" "LThingMaker$Stock;", Cond.methodLink RX3 9 yX0_init, Cond.instanceMethod yX0_init, Cond.code yX0_init cX0_init 1 none, Cond.methodLink RX0 3 objectInit, Cond.arrayClass .int, Cond.fieldLink RX0 9 "ThingMaker$Book" "yields" "[I"]
def wsX6_acceptWorks_r3 : List Cond := [Cond.fieldLink RX0 15 "ThingMaker$Book" "ingredientCounts" "[I", Cond.fieldLink RX0 18 "ThingMaker$Book" "ingredients" "[I", Cond.fieldLink RX0 21 "ThingMaker$Book" "amounts" "[I", Cond.fieldLink RX0 24 "ThingMaker$Book" "substituteCounts" "[I", Cond.fieldLink RX0 27 "ThingMaker$Book" "substitutes" "[I", Cond.fieldLink RX0 30 "ThingMaker$Book" "vessels" "[I", Cond.fieldLink RX0 33 "ThingMaker$Book" "ranks" "[I", Cond.methodLink RX0 36 yJ7_fill_53178, Cond.static yJ7_fill_53178, Cond.initialized RJ7, Cond.code yJ7_fill_53178 cJ7_fill_53178 4 none, Cond.instanceMethod yX4_init, Cond.code yX4_init cX4_init 1 none, Cond.methodLink RX4 3 objectInit, Cond.fieldLink RX4 9 "ThingMaker$Stock" "amounts" "[I", Cond.fieldLink RX4 15 "ThingMaker$Stock" "gathered" "[I", Cond.fieldLink RX4 18 "ThingMaker$Stock" "made" "[I", Cond.fieldLink RX4 21 "ThingMaker$Stock" "used" "[I", Cond.fieldLink RX4 24 "ThingMaker$Stock" "returned" "[I", Cond.fieldLink RX4 27 "ThingMaker$Stock" "brought" "[I", Cond.methodLink RX1 32 yX3_hold, Cond.instanceMethod yX3_hold, Cond.selects RX3 yX3_hold yX3_hold, Cond.code yX3_hold cX3_hold 3 none]
def wsX6_acceptWorks_r4 : List Cond := [Cond.methodLink RX3 23 yX0_copyFrom, Cond.instanceMethod yX0_copyFrom, Cond.selects RX0 yX0_copyFrom yX0_copyFrom, Cond.code yX0_copyFrom cX0_copyFrom 2 none, Cond.static yX6_copy, Cond.code yX6_copy cX6_copy 2 none, Cond.methodLink RX6 231 Lib.Math.min.name, Cond.static Lib.Math.min.name, Cond.initialized "java/lang/Math", Cond.code Lib.Math.min.name Lib.Math.min.code 2 (some .int), Cond.methodLink RX6 257 arraycopyName, Cond.native arraycopyName, Cond.static arraycopyName, Cond.initialized "java/lang/System", Cond.methodLink RX3 27 yX4_copyFrom, Cond.instanceMethod yX4_copyFrom, Cond.selects RX4 yX4_copyFrom yX4_copyFrom, Cond.code yX4_copyFrom cX4_copyFrom 2 none, Cond.fieldLink RX4 34 "ThingMaker$Stock" "batches" "I", Cond.methodLink RX6 253 yX4_copyFrom, Cond.methodLink RX6 226 yX5_gathered, Cond.instanceMethod yX5_gathered, Cond.selects RX5 yX5_gathered yX5_gathered, Cond.initialized RX5]
def wsX6_acceptWorks_r5 : List Cond := [Cond.code yX5_gathered cX5_gathered 1 (some .int), Cond.fieldLink RX5 33 "ThingMaker$Works" "gathered" "I"]
def wsX6_acceptWorks : List Cond := .code yX6_acceptWorks cX6_acceptWorks 1 (some .int) :: ((wsX6_acceptWorks_r1 ++ (wsX6_acceptWorks_r2 ++ (wsX6_acceptWorks_r3 ++ (wsX6_acceptWorks_r4 ++ wsX6_acceptWorks_r5)))) ++ wsX60 ++ wsX50 ++ wsX10 ++ wsX30 ++ wsX00 ++ wsX40)
def wsX6_wish_r1 : List Cond := [Cond.fieldLink RX6 29 "ThingMaker" "works" "LThingMaker$Works;", Cond.fieldLink RX6 22 "ThingMaker" "stock" "LThingMaker$Stock;", Cond.fieldLink RX6 10 "ThingMaker" "book" "LThingMaker$Book;", Cond.methodLink RX6 96 yX6_isThing, Cond.static yX6_isThing, Cond.initialized RX6, Cond.code yX6_isThing cX6_isThing 1 (some .boolean), Cond.methodLink RX6 157 yX6_isWished, Cond.static yX6_isWished, Cond.code yX6_isWished cX6_isWished 1 (some .boolean), Cond.methodLink RX6 160 yX5_begin, Cond.instanceMethod yX5_begin, Cond.selects RX5 yX5_begin yX5_begin, Cond.initialized RX5, Cond.code yX5_begin cX5_begin 3 none, Cond.fieldLink RX5 12 "ThingMaker$Works" "bench" "LThingMaker$Stock;", Cond.fieldLink RX5 22 "ThingMaker$Works" "mayGather" "Z", Cond.fieldLink RX5 26 "ThingMaker$Works" "failed" "Z", Cond.fieldLink RX5 29 "ThingMaker$Works" "batches" "I", Cond.fieldLink RX5 33 "ThingMaker$Works" "gathered" "I", Cond.methodLink RX5 18 yX4_copyFrom, Cond.instanceMethod yX4_copyFrom, Cond.selects RX4 yX4_copyFrom yX4_copyFrom, Cond.initialized RX4]
def wsX6_wish_r2 : List Cond := [Cond.code yX4_copyFrom cX4_copyFrom 2 none, Cond.fieldLink RX4 9 "ThingMaker$Stock" "amounts" "[I", Cond.fieldLink RX4 15 "ThingMaker$Stock" "gathered" "[I", Cond.fieldLink RX4 18 "ThingMaker$Stock" "made" "[I", Cond.fieldLink RX4 21 "ThingMaker$Stock" "used" "[I", Cond.fieldLink RX4 24 "ThingMaker$Stock" "returned" "[I", Cond.fieldLink RX4 27 "ThingMaker$Stock" "brought" "[I", Cond.fieldLink RX4 34 "ThingMaker$Stock" "batches" "I", Cond.static yX6_copy, Cond.code yX6_copy cX6_copy 2 none, Cond.methodLink RX6 231 Lib.Math.min.name, Cond.static Lib.Math.min.name, Cond.initialized "java/lang/Math", Cond.code Lib.Math.min.name Lib.Math.min.code 2 (some .int), Cond.methodLink RX6 257 arraycopyName, Cond.native arraycopyName, Cond.static arraycopyName, Cond.initialized "java/lang/System", Cond.methodLink RX6 164 yX5_fulfil, Cond.instanceMethod yX5_fulfil, Cond.selects RX5 yX5_fulfil yX5_fulfil, Cond.code yX5_fulfil cX5_fulfil 5 (some .boolean), Cond.static yX6_at, Cond.code yX6_at cX6_at 2 (some .int)]
def wsX6_wish_r3 : List Cond := [Cond.methodLink RX5 49 yX5_provide, Cond.instanceMethod yX5_provide, Cond.selects RX5 yX5_provide yX5_provide, Cond.code yX5_provide cX5_provide 5 none, Cond.methodLink RX5 56 yX0_isMade, Cond.instanceMethod yX0_isMade, Cond.selects RX0 yX0_isMade yX0_isMade, Cond.initialized RX0, Cond.code yX0_isMade cX0_isMade 2 (some .boolean), Cond.fieldLink RX0 9 "ThingMaker$Book" "yields" "[I", Cond.methodLink RX5 62 yX0_yieldOf, Cond.instanceMethod yX0_yieldOf, Cond.selects RX0 yX0_yieldOf yX0_yieldOf, Cond.code yX0_yieldOf cX0_yieldOf 2 (some .int), Cond.static yX6_divideUp, Cond.code yX6_divideUp cX6_divideUp 2 (some .int), Cond.methodLink RX5 53 yX5_run, Cond.instanceMethod yX5_run, Cond.selects RX5 yX5_run yX5_run, Cond.methodLink RX5 70 yX5_collect, Cond.instanceMethod yX5_collect, Cond.selects RX5 yX5_collect yX5_collect, Cond.code yX5_collect cX5_collect 3 none, Cond.methodLink RX5 89 yX5_comeIn]
def wsX6_wish_r4 : List Cond := [Cond.instanceMethod yX5_comeIn, Cond.selects RX5 yX5_comeIn yX5_comeIn, Cond.code yX5_comeIn cX5_comeIn 4 none, Cond.constant RX5 48 (99999), Cond.static yX6_add, Cond.code yX6_add cX6_add 3 none, Cond.code yX5_run cX5_run 7 none, Cond.methodLink RX5 74 yX0_ingredientsOf, Cond.instanceMethod yX0_ingredientsOf, Cond.selects RX0 yX0_ingredientsOf yX0_ingredientsOf, Cond.code yX0_ingredientsOf cX0_ingredientsOf 2 (some .int), Cond.fieldLink RX0 15 "ThingMaker$Book" "ingredientCounts" "[I", Cond.methodLink RX5 77 yX0_ingredientAt, Cond.instanceMethod yX0_ingredientAt, Cond.selects RX0 yX0_ingredientAt yX0_ingredientAt, Cond.code yX0_ingredientAt cX0_ingredientAt 3 (some .int), Cond.fieldLink RX0 18 "ThingMaker$Book" "ingredients" "[I", Cond.methodLink RX5 80 yX0_amountAt, Cond.instanceMethod yX0_amountAt, Cond.selects RX0 yX0_amountAt yX0_amountAt, Cond.code yX0_amountAt cX0_amountAt 3 (some .int), Cond.fieldLink RX0 21 "ThingMaker$Book" "amounts" "[I", Cond.methodLink RX5 83 yX5_take, Cond.instanceMethod yX5_take]
def wsX6_wish_r5 : List Cond := [Cond.selects RX5 yX5_take yX5_take, Cond.code yX5_take cX5_take 8 none, Cond.methodLink RX5 94 yX5_useUp, Cond.instanceMethod yX5_useUp, Cond.selects RX5 yX5_useUp yX5_useUp, Cond.code yX5_useUp cX5_useUp 6 (some .int), Cond.methodLink RX5 108 Lib.Math.min.name, Cond.methodLink RX5 116 yX0_vesselOf, Cond.instanceMethod yX0_vesselOf, Cond.selects RX0 yX0_vesselOf yX0_vesselOf, Cond.code yX0_vesselOf cX0_vesselOf 2 (some .int), Cond.fieldLink RX0 30 "ThingMaker$Book" "vessels" "[I", Cond.methodLink RX5 98 yX0_substitutesOf, Cond.instanceMethod yX0_substitutesOf, Cond.selects RX0 yX0_substitutesOf yX0_substitutesOf, Cond.code yX0_substitutesOf cX0_substitutesOf 2 (some .int), Cond.fieldLink RX0 24 "ThingMaker$Book" "substituteCounts" "[I", Cond.methodLink RX5 101 yX0_substituteAt, Cond.instanceMethod yX0_substituteAt, Cond.selects RX0 yX0_substituteAt yX0_substituteAt, Cond.code yX0_substituteAt cX0_substituteAt 3 (some .int), Cond.fieldLink RX0 27 "ThingMaker$Book" "substitutes" "[I", Cond.methodLink RX5 104 yX5_standIn, Cond.instanceMethod yX5_standIn]
def wsX6_wish_r6 : List Cond := [Cond.selects RX5 yX5_standIn yX5_standIn, Cond.code yX5_standIn cX5_standIn 5 (some .int), Cond.methodLink RX6 168 yX6_acceptWorks, Cond.instanceMethod yX6_acceptWorks, Cond.selects RX6 yX6_acceptWorks yX6_acceptWorks, Cond.code yX6_acceptWorks cX6_acceptWorks 1 (some .int), Cond.fieldLink RX6 36 "ThingMaker" "history" "LThingMaker$History;", Cond.methodLink RX6 85 yX1_remember, Cond.instanceMethod yX1_remember, Cond.selects RX1 yX1_remember yX1_remember, Cond.initialized RX1, Cond.code yX1_remember cX1_remember 4 none, Cond.fieldLink RX1 17 "ThingMaker$History" "size" "I", Cond.fieldLink RX1 25 "ThingMaker$History" "oldest" "I", Cond.fieldLink RX1 11 "ThingMaker$History" "states" "[LThingMaker$State;", Cond.methodLink RX1 21 yX1_placeOf, Cond.instanceMethod yX1_placeOf, Cond.selects RX1 yX1_placeOf yX1_placeOf, Cond.code yX1_placeOf cX1_placeOf 2 (some .int), Cond.methodLink RX1 42 yJ9_floorMod_7cf53, Cond.static yJ9_floorMod_7cf53, Cond.initialized RJ9, Cond.code yJ9_floorMod_7cf53 cJ9_floorMod_7cf53 3 (some .int), Cond.static yX6_roomAt]
def wsX6_wish_r7 : List Cond := [Cond.code yX6_roomAt cX6_roomAt 4 (some (.object "ThingMaker$State")), Cond.classLink RX6 40 RX3, Cond.instantiable RX3 2, Cond.initialized RX3, Cond.methodLink RX6 247 yX6_stateAt, Cond.static yX6_stateAt, Cond.code yX6_stateAt cX6_stateAt 2 (some (.object "ThingMaker$State")), Cond.instanceMethod yX3_init, Cond.code yX3_init cX3_init 1 none, Cond.methodLink RX3 1 objectInit, Cond.instanceMethod objectInit, Cond.code objectInit ⟨#[0xb1]⟩ 1 none, Cond.classLink RX3 7 RX0, Cond.instantiable RX0 8, Cond.fieldLink RX3 10 "ThingMaker$State" "book" "LThingMaker$Book;", Cond.classLink RX3 16 RX4, Cond.instantiable RX4 7, Cond.fieldLink RX3 19 "ThingMaker$State" "stock" "LThingMaker$Stock;", Cond.methodLink RX3 9 yX0_init, Cond.instanceMethod yX0_init, Cond.code yX0_init cX0_init 1 none, Cond.methodLink RX0 3 objectInit, Cond.arrayClass .int, Cond.fieldLink RX0 33 "ThingMaker$Book" "ranks" "[I"]
def wsX6_wish_r8 : List Cond := [Cond.methodLink RX0 36 yJ7_fill_53178, Cond.static yJ7_fill_53178, Cond.initialized RJ7, Cond.code yJ7_fill_53178 cJ7_fill_53178 4 none, Cond.instanceMethod yX4_init, Cond.code yX4_init cX4_init 1 none, Cond.methodLink RX4 3 objectInit, Cond.methodLink RX1 32 yX3_hold, Cond.instanceMethod yX3_hold, Cond.selects RX3 yX3_hold yX3_hold, Cond.code yX3_hold cX3_hold 3 none, Cond.methodLink RX3 23 yX0_copyFrom, Cond.instanceMethod yX0_copyFrom, Cond.selects RX0 yX0_copyFrom yX0_copyFrom, Cond.code yX0_copyFrom cX0_copyFrom 2 none, Cond.methodLink RX3 27 yX4_copyFrom, Cond.methodLink RX6 253 yX4_copyFrom, Cond.methodLink RX6 226 yX5_gathered, Cond.instanceMethod yX5_gathered, Cond.selects RX5 yX5_gathered yX5_gathered, Cond.code yX5_gathered cX5_gathered 1 (some .int)]
def wsX6_wish : List Cond := .code yX6_wish cX6_wish 3 (some .int) :: ((wsX6_wish_r1 ++ (wsX6_wish_r2 ++ (wsX6_wish_r3 ++ (wsX6_wish_r4 ++ (wsX6_wish_r5 ++ (wsX6_wish_r6 ++ (wsX6_wish_r7 ++ wsX6_wish_r8))))))) ++ wsX60 ++ wsX50 ++ wsX40 ++ wsX00 ++ wsX10 ++ wsX30)
def wsX6_make_r1 : List Cond := [Cond.fieldLink RX6 10 "ThingMaker" "book" "LThingMaker$Book;", Cond.fieldLink RX6 29 "ThingMaker" "works" "LThingMaker$Works;", Cond.fieldLink RX6 22 "ThingMaker" "stock" "LThingMaker$Stock;", Cond.methodLink RX6 96 yX6_isThing, Cond.static yX6_isThing, Cond.initialized RX6, Cond.code yX6_isThing cX6_isThing 1 (some .boolean), Cond.methodLink RX6 100 yX0_isMade, Cond.instanceMethod yX0_isMade, Cond.selects RX0 yX0_isMade yX0_isMade, Cond.initialized RX0, Cond.code yX0_isMade cX0_isMade 2 (some .boolean), Cond.fieldLink RX0 9 "ThingMaker$Book" "yields" "[I", Cond.static yX6_at, Cond.code yX6_at cX6_at 2 (some .int), Cond.methodLink RX6 160 yX5_begin, Cond.instanceMethod yX5_begin, Cond.selects RX5 yX5_begin yX5_begin, Cond.initialized RX5, Cond.code yX5_begin cX5_begin 3 none, Cond.fieldLink RX5 12 "ThingMaker$Works" "bench" "LThingMaker$Stock;", Cond.fieldLink RX5 22 "ThingMaker$Works" "mayGather" "Z", Cond.fieldLink RX5 26 "ThingMaker$Works" "failed" "Z", Cond.fieldLink RX5 29 "ThingMaker$Works" "batches" "I"]
def wsX6_make_r2 : List Cond := [Cond.fieldLink RX5 33 "ThingMaker$Works" "gathered" "I", Cond.methodLink RX5 18 yX4_copyFrom, Cond.instanceMethod yX4_copyFrom, Cond.selects RX4 yX4_copyFrom yX4_copyFrom, Cond.initialized RX4, Cond.code yX4_copyFrom cX4_copyFrom 2 none, Cond.fieldLink RX4 9 "ThingMaker$Stock" "amounts" "[I", Cond.fieldLink RX4 15 "ThingMaker$Stock" "gathered" "[I", Cond.fieldLink RX4 18 "ThingMaker$Stock" "made" "[I", Cond.fieldLink RX4 21 "ThingMaker$Stock" "used" "[I", Cond.fieldLink RX4 24 "ThingMaker$Stock" "returned" "[I", Cond.fieldLink RX4 27 "ThingMaker$Stock" "brought" "[I", Cond.fieldLink RX4 34 "ThingMaker$Stock" "batches" "I", Cond.static yX6_copy, Cond.code yX6_copy cX6_copy 2 none, Cond.methodLink RX6 231 Lib.Math.min.name, Cond.static Lib.Math.min.name, Cond.initialized "java/lang/Math", Cond.code Lib.Math.min.name Lib.Math.min.code 2 (some .int), Cond.methodLink RX6 257 arraycopyName, Cond.native arraycopyName, Cond.static arraycopyName, Cond.initialized "java/lang/System", Cond.methodLink RX6 172 yX5_runAll]
def wsX6_make_r3 : List Cond := [Cond.instanceMethod yX5_runAll, Cond.selects RX5 yX5_runAll yX5_runAll, Cond.code yX5_runAll cX5_runAll 4 (some .boolean), Cond.methodLink RX5 53 yX5_run, Cond.instanceMethod yX5_run, Cond.selects RX5 yX5_run yX5_run, Cond.code yX5_run cX5_run 7 none, Cond.methodLink RX5 74 yX0_ingredientsOf, Cond.instanceMethod yX0_ingredientsOf, Cond.selects RX0 yX0_ingredientsOf yX0_ingredientsOf, Cond.code yX0_ingredientsOf cX0_ingredientsOf 2 (some .int), Cond.fieldLink RX0 15 "ThingMaker$Book" "ingredientCounts" "[I", Cond.methodLink RX5 77 yX0_ingredientAt, Cond.instanceMethod yX0_ingredientAt, Cond.selects RX0 yX0_ingredientAt yX0_ingredientAt, Cond.code yX0_ingredientAt cX0_ingredientAt 3 (some .int), Cond.fieldLink RX0 18 "ThingMaker$Book" "ingredients" "[I", Cond.methodLink RX5 80 yX0_amountAt, Cond.instanceMethod yX0_amountAt, Cond.selects RX0 yX0_amountAt yX0_amountAt, Cond.code yX0_amountAt cX0_amountAt 3 (some .int), Cond.fieldLink RX0 21 "ThingMaker$Book" "amounts" "[I", Cond.methodLink RX5 83 yX5_take, Cond.instanceMethod yX5_take]
def wsX6_make_r4 : List Cond := [Cond.selects RX5 yX5_take yX5_take, Cond.methodLink RX5 62 yX0_yieldOf, Cond.instanceMethod yX0_yieldOf, Cond.selects RX0 yX0_yieldOf yX0_yieldOf, Cond.code yX0_yieldOf cX0_yieldOf 2 (some .int), Cond.methodLink RX5 89 yX5_comeIn, Cond.instanceMethod yX5_comeIn, Cond.selects RX5 yX5_comeIn yX5_comeIn, Cond.code yX5_comeIn cX5_comeIn 4 none, Cond.constant RX5 48 (99999), Cond.static yX6_add, Cond.code yX6_add cX6_add 3 none, Cond.code yX5_provide cX5_provide 5 none, Cond.methodLink RX5 56 yX0_isMade, Cond.static yX6_divideUp, Cond.code yX6_divideUp cX6_divideUp 2 (some .int), Cond.methodLink RX5 70 yX5_collect, Cond.instanceMethod yX5_collect, Cond.selects RX5 yX5_collect yX5_collect, Cond.code yX5_collect cX5_collect 3 none, Cond.code yX5_take cX5_take 8 none, Cond.methodLink RX5 94 yX5_useUp, Cond.instanceMethod yX5_useUp, Cond.selects RX5 yX5_useUp yX5_useUp]
def wsX6_make_r5 : List Cond := [Cond.code yX5_useUp cX5_useUp 6 (some .int), Cond.methodLink RX5 108 Lib.Math.min.name, Cond.methodLink RX5 116 yX0_vesselOf, Cond.instanceMethod yX0_vesselOf, Cond.selects RX0 yX0_vesselOf yX0_vesselOf, Cond.code yX0_vesselOf cX0_vesselOf 2 (some .int), Cond.fieldLink RX0 30 "ThingMaker$Book" "vessels" "[I", Cond.methodLink RX5 98 yX0_substitutesOf, Cond.instanceMethod yX0_substitutesOf, Cond.selects RX0 yX0_substitutesOf yX0_substitutesOf, Cond.code yX0_substitutesOf cX0_substitutesOf 2 (some .int), Cond.fieldLink RX0 24 "ThingMaker$Book" "substituteCounts" "[I", Cond.methodLink RX5 101 yX0_substituteAt, Cond.instanceMethod yX0_substituteAt, Cond.selects RX0 yX0_substituteAt yX0_substituteAt, Cond.code yX0_substituteAt cX0_substituteAt 3 (some .int), Cond.fieldLink RX0 27 "ThingMaker$Book" "substitutes" "[I", Cond.methodLink RX5 104 yX5_standIn, Cond.instanceMethod yX5_standIn, Cond.selects RX5 yX5_standIn yX5_standIn, Cond.code yX5_standIn cX5_standIn 5 (some .int), Cond.methodLink RX5 49 yX5_provide, Cond.instanceMethod yX5_provide, Cond.selects RX5 yX5_provide yX5_provide]
def wsX6_make_r6 : List Cond := [Cond.methodLink RX6 168 yX6_acceptWorks, Cond.instanceMethod yX6_acceptWorks, Cond.selects RX6 yX6_acceptWorks yX6_acceptWorks, Cond.code yX6_acceptWorks cX6_acceptWorks 1 (some .int), Cond.fieldLink RX6 36 "ThingMaker" "history" "LThingMaker$History;", Cond.methodLink RX6 85 yX1_remember, Cond.instanceMethod yX1_remember, Cond.selects RX1 yX1_remember yX1_remember, Cond.initialized RX1, Cond.code yX1_remember cX1_remember 4 none, Cond.fieldLink RX1 17 "ThingMaker$History" "size" "I", Cond.fieldLink RX1 25 "ThingMaker$History" "oldest" "I", Cond.fieldLink RX1 11 "ThingMaker$History" "states" "[LThingMaker$State;", Cond.methodLink RX1 21 yX1_placeOf, Cond.instanceMethod yX1_placeOf, Cond.selects RX1 yX1_placeOf yX1_placeOf, Cond.code yX1_placeOf cX1_placeOf 2 (some .int), Cond.methodLink RX1 42 yJ9_floorMod_7cf53, Cond.static yJ9_floorMod_7cf53, Cond.initialized RJ9, Cond.code yJ9_floorMod_7cf53 cJ9_floorMod_7cf53 3 (some .int), Cond.static yX6_roomAt, Cond.code yX6_roomAt cX6_roomAt 4 (some (.object "ThingMaker$State")), Cond.classLink RX6 40 RX3]
def wsX6_make_r7 : List Cond := [Cond.instantiable RX3 2, Cond.initialized RX3, Cond.methodLink RX6 247 yX6_stateAt, Cond.static yX6_stateAt, Cond.code yX6_stateAt cX6_stateAt 2 (some (.object "ThingMaker$State")), Cond.instanceMethod yX3_init, Cond.code yX3_init cX3_init 1 none, Cond.methodLink RX3 1 objectInit, Cond.instanceMethod objectInit, Cond.code objectInit ⟨#[0xb1]⟩ 1 none, Cond.classLink RX3 7 RX0, Cond.instantiable RX0 8, Cond.fieldLink RX3 10 "ThingMaker$State" "book" "LThingMaker$Book;", Cond.classLink RX3 16 RX4, Cond.instantiable RX4 7, Cond.fieldLink RX3 19 "ThingMaker$State" "stock" "LThingMaker$Stock;", Cond.methodLink RX3 9 yX0_init, Cond.instanceMethod yX0_init, Cond.code yX0_init cX0_init 1 none, Cond.methodLink RX0 3 objectInit, Cond.arrayClass .int, Cond.fieldLink RX0 33 "ThingMaker$Book" "ranks" "[I", Cond.methodLink RX0 36 yJ7_fill_53178, Cond.static yJ7_fill_53178]
def wsX6_make_r8 : List Cond := [Cond.initialized RJ7, Cond.code yJ7_fill_53178 cJ7_fill_53178 4 none, Cond.instanceMethod yX4_init, Cond.code yX4_init cX4_init 1 none, Cond.methodLink RX4 3 objectInit, Cond.methodLink RX1 32 yX3_hold, Cond.instanceMethod yX3_hold, Cond.selects RX3 yX3_hold yX3_hold, Cond.code yX3_hold cX3_hold 3 none, Cond.methodLink RX3 23 yX0_copyFrom, Cond.instanceMethod yX0_copyFrom, Cond.selects RX0 yX0_copyFrom yX0_copyFrom, Cond.code yX0_copyFrom cX0_copyFrom 2 none, Cond.methodLink RX3 27 yX4_copyFrom, Cond.methodLink RX6 253 yX4_copyFrom, Cond.methodLink RX6 226 yX5_gathered, Cond.instanceMethod yX5_gathered, Cond.selects RX5 yX5_gathered yX5_gathered, Cond.code yX5_gathered cX5_gathered 1 (some .int)]
def wsX6_make : List Cond := .code yX6_make cX6_make 3 (some .int) :: ((wsX6_make_r1 ++ (wsX6_make_r2 ++ (wsX6_make_r3 ++ (wsX6_make_r4 ++ (wsX6_make_r5 ++ (wsX6_make_r6 ++ (wsX6_make_r7 ++ wsX6_make_r8))))))) ++ wsX60 ++ wsX00 ++ wsX50 ++ wsX40 ++ wsX10 ++ wsX30)
def wsX6_undo_r1 : List Cond := [Cond.fieldLink RX6 36 "ThingMaker" "history" "LThingMaker$History;", Cond.fieldLink RX6 10 "ThingMaker" "book" "LThingMaker$Book;", Cond.fieldLink RX6 22 "ThingMaker" "stock" "LThingMaker$Stock;", Cond.methodLink RX6 175 yX1_size, Cond.instanceMethod yX1_size, Cond.selects RX1 yX1_size yX1_size, Cond.initialized RX1, Cond.code yX1_size cX1_size 1 (some .int), Cond.fieldLink RX1 17 "ThingMaker$History" "size" "I", Cond.methodLink RX6 178 yX1_restore, Cond.instanceMethod yX1_restore, Cond.selects RX1 yX1_restore yX1_restore, Cond.code yX1_restore cX1_restore 4 none, Cond.fieldLink RX1 11 "ThingMaker$History" "states" "[LThingMaker$State;", Cond.methodLink RX1 21 yX1_placeOf, Cond.instanceMethod yX1_placeOf, Cond.selects RX1 yX1_placeOf yX1_placeOf, Cond.code yX1_placeOf cX1_placeOf 2 (some .int), Cond.fieldLink RX1 25 "ThingMaker$History" "oldest" "I", Cond.methodLink RX1 42 yJ9_floorMod_7cf53, Cond.static yJ9_floorMod_7cf53, Cond.initialized RJ9, Cond.code yJ9_floorMod_7cf53 cJ9_floorMod_7cf53 3 (some .int), Cond.static yX6_stateAt]
def wsX6_undo_r2 : List Cond := [Cond.initialized RX6, Cond.code yX6_stateAt cX6_stateAt 2 (some (.object "ThingMaker$State")), Cond.methodLink RX1 39 yX3_layOut, Cond.instanceMethod yX3_layOut, Cond.selects RX3 yX3_layOut yX3_layOut, Cond.initialized RX3, Cond.code yX3_layOut cX3_layOut 3 none, Cond.fieldLink RX3 10 "ThingMaker$State" "book" "LThingMaker$Book;", Cond.fieldLink RX3 19 "ThingMaker$State" "stock" "LThingMaker$Stock;", Cond.methodLink RX3 23 yX0_copyFrom, Cond.instanceMethod yX0_copyFrom, Cond.selects RX0 yX0_copyFrom yX0_copyFrom, Cond.initialized RX0, Cond.code yX0_copyFrom cX0_copyFrom 2 none, Cond.fieldLink RX0 9 "ThingMaker$Book" "yields" "[I", Cond.fieldLink RX0 15 "ThingMaker$Book" "ingredientCounts" "[I", Cond.fieldLink RX0 18 "ThingMaker$Book" "ingredients" "[I", Cond.fieldLink RX0 21 "ThingMaker$Book" "amounts" "[I", Cond.fieldLink RX0 24 "ThingMaker$Book" "substituteCounts" "[I", Cond.fieldLink RX0 27 "ThingMaker$Book" "substitutes" "[I", Cond.fieldLink RX0 30 "ThingMaker$Book" "vessels" "[I", Cond.fieldLink RX0 33 "ThingMaker$Book" "ranks" "[I", Cond.static yX6_copy, Cond.code yX6_copy cX6_copy 2 none]
def wsX6_undo_r3 : List Cond := [Cond.methodLink RX6 231 Lib.Math.min.name, Cond.static Lib.Math.min.name, Cond.initialized "java/lang/Math", Cond.code Lib.Math.min.name Lib.Math.min.code 2 (some .int), Cond.methodLink RX6 257 arraycopyName, Cond.native arraycopyName, Cond.static arraycopyName, Cond.initialized "java/lang/System", Cond.methodLink RX3 27 yX4_copyFrom, Cond.instanceMethod yX4_copyFrom, Cond.selects RX4 yX4_copyFrom yX4_copyFrom, Cond.initialized RX4, Cond.code yX4_copyFrom cX4_copyFrom 2 none, Cond.fieldLink RX4 9 "ThingMaker$Stock" "amounts" "[I", Cond.fieldLink RX4 15 "ThingMaker$Stock" "gathered" "[I", Cond.fieldLink RX4 18 "ThingMaker$Stock" "made" "[I", Cond.fieldLink RX4 21 "ThingMaker$Stock" "used" "[I", Cond.fieldLink RX4 24 "ThingMaker$Stock" "returned" "[I", Cond.fieldLink RX4 27 "ThingMaker$Stock" "brought" "[I", Cond.fieldLink RX4 34 "ThingMaker$Stock" "batches" "I"]
def wsX6_undo : List Cond := .code yX6_undo cX6_undo 1 (some .int) :: ((wsX6_undo_r1 ++ (wsX6_undo_r2 ++ wsX6_undo_r3)) ++ wsX60 ++ wsX10 ++ wsX30 ++ wsX00 ++ wsX40)
def wsX6_write : List Cond := .code yX6_write cX6_write 2 (some .int) :: ([.fieldLink RX6 57 "ThingMaker" "length" "I", .fieldLink RX6 53 "ThingMaker" "text" "[I", .methodLink RX6 181 yX6_put, .static yX6_put, .initialized RX6, .code yX6_put cX6_put 3 none] ++ wsX60)
def wsX6_wipe : List Cond := .code yX6_wipe cX6_wipe 2 (some .int) :: ([.fieldLink RX6 57 "ThingMaker" "length" "I"] ++ wsX60)
def wsX6_fault : List Cond := .code yX6_fault cX6_fault 2 (some .int) :: ([.fieldLink RX6 61 "ThingMaker" "faultKind" "I", .fieldLink RX6 64 "ThingMaker" "faultPlace" "I"] ++ wsX60)
def wsX6_sum : List Cond := .code yX6_sum cX6_sum 3 (some .int) :: ([])
def wsX6_told_r1 : List Cond := [Cond.fieldLink RX6 10 "ThingMaker" "book" "LThingMaker$Book;", Cond.fieldLink RX6 22 "ThingMaker" "stock" "LThingMaker$Stock;", Cond.fieldLink RX6 57 "ThingMaker" "length" "I", Cond.fieldLink RX6 36 "ThingMaker" "history" "LThingMaker$History;", Cond.methodLink RX6 184 yX0_recipes, Cond.instanceMethod yX0_recipes, Cond.selects RX0 yX0_recipes yX0_recipes, Cond.initialized RX0, Cond.code yX0_recipes cX0_recipes 1 (some .int), Cond.methodLink RX0 50 yX0_madeThings, Cond.instanceMethod yX0_madeThings, Cond.selects RX0 yX0_madeThings yX0_madeThings, Cond.code yX0_madeThings cX0_madeThings 3 (some .int), Cond.methodLink RX0 60 yX0_isMade, Cond.instanceMethod yX0_isMade, Cond.selects RX0 yX0_isMade yX0_isMade, Cond.code yX0_isMade cX0_isMade 2 (some .boolean), Cond.fieldLink RX0 9 "ThingMaker$Book" "yields" "[I", Cond.static yX6_at, Cond.initialized RX6, Cond.code yX6_at cX6_at 2 (some .int), Cond.methodLink RX0 54 yJ6_bitCount_0f7a4, Cond.static yJ6_bitCount_0f7a4, Cond.initialized RJ6]
def wsX6_told_r2 : List Cond := [Cond.code yJ6_bitCount_0f7a4 cJ6_bitCount_0f7a4 1 (some .int), Cond.constant RJ6 265 (1431655765), Cond.constant RJ6 266 (858993459), Cond.constant RJ6 267 (252645135), Cond.methodLink RX6 187 yX6_sum, Cond.static yX6_sum, Cond.code yX6_sum cX6_sum 3 (some .int), Cond.methodLink RX6 197 yX0_greatestRank, Cond.instanceMethod yX0_greatestRank, Cond.selects RX0 yX0_greatestRank yX0_greatestRank, Cond.code yX0_greatestRank cX0_greatestRank 3 (some .int), Cond.methodLink RX0 67 Lib.Math.max.name, Cond.static Lib.Math.max.name, Cond.initialized "java/lang/Math", Cond.code Lib.Math.max.name Lib.Math.max.code 2 (some .int), Cond.methodLink RX0 64 yX0_rankOf, Cond.instanceMethod yX0_rankOf, Cond.selects RX0 yX0_rankOf yX0_rankOf, Cond.code yX0_rankOf cX0_rankOf 2 (some .int), Cond.fieldLink RX0 33 "ThingMaker$Book" "ranks" "[I", Cond.methodLink RX6 200 yX0_madeThings, Cond.methodLink RX6 175 yX1_size, Cond.instanceMethod yX1_size, Cond.selects RX1 yX1_size yX1_size]
def wsX6_told_r3 : List Cond := [Cond.initialized RX1, Cond.code yX1_size cX1_size 1 (some .int), Cond.fieldLink RX1 17 "ThingMaker$History" "size" "I"]
def wsX6_told : List Cond := .code yX6_told cX6_told 2 (some .int) :: ((wsX6_told_r1 ++ (wsX6_told_r2 ++ wsX6_told_r3)) ++ wsX60 ++ wsX40 ++ wsX00 ++ wsX10)
def wsX6_thing_r1 : List Cond := [Cond.fieldLink RX6 22 "ThingMaker" "stock" "LThingMaker$Stock;", Cond.fieldLink RX6 10 "ThingMaker" "book" "LThingMaker$Book;", Cond.methodLink RX6 96 yX6_isThing, Cond.static yX6_isThing, Cond.initialized RX6, Cond.code yX6_isThing cX6_isThing 1 (some .boolean), Cond.methodLink RX6 140 yX6_at, Cond.static yX6_at, Cond.code yX6_at cX6_at 2 (some .int), Cond.methodLink RX6 92 yX0_rankOf, Cond.instanceMethod yX0_rankOf, Cond.selects RX0 yX0_rankOf yX0_rankOf, Cond.initialized RX0, Cond.code yX0_rankOf cX0_rankOf 2 (some .int), Cond.fieldLink RX0 33 "ThingMaker$Book" "ranks" "[I", Cond.methodLink RX6 100 yX0_isMade, Cond.instanceMethod yX0_isMade, Cond.selects RX0 yX0_isMade yX0_isMade, Cond.code yX0_isMade cX0_isMade 2 (some .boolean), Cond.fieldLink RX0 9 "ThingMaker$Book" "yields" "[I", Cond.methodLink RX6 103 yX0_yieldOf, Cond.instanceMethod yX0_yieldOf, Cond.selects RX0 yX0_yieldOf yX0_yieldOf, Cond.code yX0_yieldOf cX0_yieldOf 2 (some .int)]
def wsX6_thing_r2 : List Cond := [Cond.methodLink RX6 203 yX0_ingredientsOf, Cond.instanceMethod yX0_ingredientsOf, Cond.selects RX0 yX0_ingredientsOf yX0_ingredientsOf, Cond.code yX0_ingredientsOf cX0_ingredientsOf 2 (some .int), Cond.fieldLink RX0 15 "ThingMaker$Book" "ingredientCounts" "[I", Cond.methodLink RX6 128 yX0_vesselOf, Cond.instanceMethod yX0_vesselOf, Cond.selects RX0 yX0_vesselOf yX0_vesselOf, Cond.code yX0_vesselOf cX0_vesselOf 2 (some .int), Cond.fieldLink RX0 30 "ThingMaker$Book" "vessels" "[I", Cond.methodLink RX6 114 yX0_substitutesOf, Cond.instanceMethod yX0_substitutesOf, Cond.selects RX0 yX0_substitutesOf yX0_substitutesOf, Cond.code yX0_substitutesOf cX0_substitutesOf 2 (some .int), Cond.fieldLink RX0 24 "ThingMaker$Book" "substituteCounts" "[I"]
def wsX6_thing : List Cond := .code yX6_thing cX6_thing 3 (some .int) :: ((wsX6_thing_r1 ++ wsX6_thing_r2) ++ wsX60 ++ wsX40 ++ wsX00)
def wsX6_ingredient : List Cond := .code yX6_ingredient cX6_ingredient 4 (some .int) :: ([.fieldLink RX6 10 "ThingMaker" "book" "LThingMaker$Book;", .methodLink RX6 96 yX6_isThing, .static yX6_isThing, .initialized RX6, .code yX6_isThing cX6_isThing 1 (some .boolean), .methodLink RX6 203 yX0_ingredientsOf, .instanceMethod yX0_ingredientsOf, .selects RX0 yX0_ingredientsOf yX0_ingredientsOf, .initialized RX0, .code yX0_ingredientsOf cX0_ingredientsOf 2 (some .int), .fieldLink RX0 15 "ThingMaker$Book" "ingredientCounts" "[I", .static yX6_at, .code yX6_at cX6_at 2 (some .int), .methodLink RX6 214 yX0_ingredientAt, .instanceMethod yX0_ingredientAt, .selects RX0 yX0_ingredientAt yX0_ingredientAt, .code yX0_ingredientAt cX0_ingredientAt 3 (some .int), .fieldLink RX0 18 "ThingMaker$Book" "ingredients" "[I", .methodLink RX6 217 yX0_amountAt, .instanceMethod yX0_amountAt, .selects RX0 yX0_amountAt yX0_amountAt, .code yX0_amountAt cX0_amountAt 3 (some .int), .fieldLink RX0 21 "ThingMaker$Book" "amounts" "[I"] ++ wsX60 ++ wsX00)
def wsX6_substitute : List Cond := .code yX6_substitute cX6_substitute 3 (some .int) :: ([.fieldLink RX6 10 "ThingMaker" "book" "LThingMaker$Book;", .methodLink RX6 96 yX6_isThing, .static yX6_isThing, .initialized RX6, .code yX6_isThing cX6_isThing 1 (some .boolean), .methodLink RX6 114 yX0_substitutesOf, .instanceMethod yX0_substitutesOf, .selects RX0 yX0_substitutesOf yX0_substitutesOf, .initialized RX0, .code yX0_substitutesOf cX0_substitutesOf 2 (some .int), .fieldLink RX0 24 "ThingMaker$Book" "substituteCounts" "[I", .static yX6_at, .code yX6_at cX6_at 2 (some .int), .methodLink RX6 121 yX0_substituteAt, .instanceMethod yX0_substituteAt, .selects RX0 yX0_substituteAt yX0_substituteAt, .code yX0_substituteAt cX0_substituteAt 3 (some .int), .fieldLink RX0 27 "ThingMaker$Book" "substitutes" "[I"] ++ wsX60 ++ wsX00)
def wsX6_isNeeded_r1 : List Cond := [Cond.fieldLink RX6 10 "ThingMaker" "book" "LThingMaker$Book;", Cond.methodLink RX6 96 yX6_isThing, Cond.static yX6_isThing, Cond.initialized RX6, Cond.code yX6_isThing cX6_isThing 1 (some .boolean), Cond.methodLink RX6 220 yX0_allNeedsOf, Cond.instanceMethod yX0_allNeedsOf, Cond.selects RX0 yX0_allNeedsOf yX0_allNeedsOf, Cond.initialized RX0, Cond.code yX0_allNeedsOf cX0_allNeedsOf 6 (some .int), Cond.methodLink RX0 100 yX0_needsOf, Cond.instanceMethod yX0_needsOf, Cond.selects RX0 yX0_needsOf yX0_needsOf, Cond.code yX0_needsOf cX0_needsOf 8 (some .int), Cond.methodLink RX0 110 yX0_ingredientsOf, Cond.instanceMethod yX0_ingredientsOf, Cond.selects RX0 yX0_ingredientsOf yX0_ingredientsOf, Cond.code yX0_ingredientsOf cX0_ingredientsOf 2 (some .int), Cond.fieldLink RX0 15 "ThingMaker$Book" "ingredientCounts" "[I", Cond.static yX6_at, Cond.code yX6_at cX6_at 2 (some .int), Cond.methodLink RX0 113 yX0_ingredientAt, Cond.instanceMethod yX0_ingredientAt, Cond.selects RX0 yX0_ingredientAt yX0_ingredientAt]
def wsX6_isNeeded_r2 : List Cond := [Cond.code yX0_ingredientAt cX0_ingredientAt 3 (some .int), Cond.fieldLink RX0 18 "ThingMaker$Book" "ingredients" "[I", Cond.methodLink RX0 91 yX0_substitutesOf, Cond.instanceMethod yX0_substitutesOf, Cond.selects RX0 yX0_substitutesOf yX0_substitutesOf, Cond.code yX0_substitutesOf cX0_substitutesOf 2 (some .int), Cond.fieldLink RX0 24 "ThingMaker$Book" "substituteCounts" "[I", Cond.methodLink RX0 94 yX0_substituteAt, Cond.instanceMethod yX0_substituteAt, Cond.selects RX0 yX0_substituteAt yX0_substituteAt, Cond.code yX0_substituteAt cX0_substituteAt 3 (some .int), Cond.fieldLink RX0 27 "ThingMaker$Book" "substitutes" "[I", Cond.static yX6_hasBit, Cond.code yX6_hasBit cX6_hasBit 2 (some .boolean), Cond.methodLink RX6 223 yX6_hasBit]
def wsX6_isNeeded : List Cond := .code yX6_isNeeded cX6_isNeeded 3 (some .int) :: ((wsX6_isNeeded_r1 ++ wsX6_isNeeded_r2) ++ wsX60 ++ wsX00)
def wsX6_share : List Cond := .code yX6_share cX6_share 3 (some .float) :: ([.fieldLink RX6 22 "ThingMaker" "stock" "LThingMaker$Stock;", .methodLink RX6 187 yX6_sum, .static yX6_sum, .initialized RX6, .code yX6_sum cX6_sum 3 (some .int)] ++ wsX60 ++ wsX40)
def wsX6_gather_r1 : List Cond := [Cond.fieldLink RX6 29 "ThingMaker" "works" "LThingMaker$Works;", Cond.fieldLink RX6 22 "ThingMaker" "stock" "LThingMaker$Stock;", Cond.fieldLink RX6 10 "ThingMaker" "book" "LThingMaker$Book;", Cond.methodLink RX6 96 yX6_isThing, Cond.static yX6_isThing, Cond.initialized RX6, Cond.code yX6_isThing cX6_isThing 1 (some .boolean), Cond.methodLink RX6 157 yX6_isWished, Cond.static yX6_isWished, Cond.code yX6_isWished cX6_isWished 1 (some .boolean), Cond.methodLink RX6 160 yX5_begin, Cond.instanceMethod yX5_begin, Cond.selects RX5 yX5_begin yX5_begin, Cond.initialized RX5, Cond.code yX5_begin cX5_begin 3 none, Cond.fieldLink RX5 12 "ThingMaker$Works" "bench" "LThingMaker$Stock;", Cond.fieldLink RX5 22 "ThingMaker$Works" "mayGather" "Z", Cond.fieldLink RX5 26 "ThingMaker$Works" "failed" "Z", Cond.fieldLink RX5 29 "ThingMaker$Works" "batches" "I", Cond.fieldLink RX5 33 "ThingMaker$Works" "gathered" "I", Cond.methodLink RX5 18 yX4_copyFrom, Cond.instanceMethod yX4_copyFrom, Cond.selects RX4 yX4_copyFrom yX4_copyFrom, Cond.initialized RX4]
def wsX6_gather_r2 : List Cond := [Cond.code yX4_copyFrom cX4_copyFrom 2 none, Cond.fieldLink RX4 9 "ThingMaker$Stock" "amounts" "[I", Cond.fieldLink RX4 15 "ThingMaker$Stock" "gathered" "[I", Cond.fieldLink RX4 18 "ThingMaker$Stock" "made" "[I", Cond.fieldLink RX4 21 "ThingMaker$Stock" "used" "[I", Cond.fieldLink RX4 24 "ThingMaker$Stock" "returned" "[I", Cond.fieldLink RX4 27 "ThingMaker$Stock" "brought" "[I", Cond.fieldLink RX4 34 "ThingMaker$Stock" "batches" "I", Cond.static yX6_copy, Cond.code yX6_copy cX6_copy 2 none, Cond.methodLink RX6 231 Lib.Math.min.name, Cond.static Lib.Math.min.name, Cond.initialized "java/lang/Math", Cond.code Lib.Math.min.name Lib.Math.min.code 2 (some .int), Cond.methodLink RX6 257 arraycopyName, Cond.native arraycopyName, Cond.static arraycopyName, Cond.initialized "java/lang/System", Cond.methodLink RX6 164 yX5_fulfil, Cond.instanceMethod yX5_fulfil, Cond.selects RX5 yX5_fulfil yX5_fulfil, Cond.code yX5_fulfil cX5_fulfil 5 (some .boolean), Cond.static yX6_at, Cond.code yX6_at cX6_at 2 (some .int)]
def wsX6_gather_r3 : List Cond := [Cond.methodLink RX5 49 yX5_provide, Cond.instanceMethod yX5_provide, Cond.selects RX5 yX5_provide yX5_provide, Cond.code yX5_provide cX5_provide 5 none, Cond.methodLink RX5 56 yX0_isMade, Cond.instanceMethod yX0_isMade, Cond.selects RX0 yX0_isMade yX0_isMade, Cond.initialized RX0, Cond.code yX0_isMade cX0_isMade 2 (some .boolean), Cond.fieldLink RX0 9 "ThingMaker$Book" "yields" "[I", Cond.methodLink RX5 62 yX0_yieldOf, Cond.instanceMethod yX0_yieldOf, Cond.selects RX0 yX0_yieldOf yX0_yieldOf, Cond.code yX0_yieldOf cX0_yieldOf 2 (some .int), Cond.static yX6_divideUp, Cond.code yX6_divideUp cX6_divideUp 2 (some .int), Cond.methodLink RX5 53 yX5_run, Cond.instanceMethod yX5_run, Cond.selects RX5 yX5_run yX5_run, Cond.methodLink RX5 70 yX5_collect, Cond.instanceMethod yX5_collect, Cond.selects RX5 yX5_collect yX5_collect, Cond.code yX5_collect cX5_collect 3 none, Cond.methodLink RX5 89 yX5_comeIn]
def wsX6_gather_r4 : List Cond := [Cond.instanceMethod yX5_comeIn, Cond.selects RX5 yX5_comeIn yX5_comeIn, Cond.code yX5_comeIn cX5_comeIn 4 none, Cond.constant RX5 48 (99999), Cond.static yX6_add, Cond.code yX6_add cX6_add 3 none, Cond.code yX5_run cX5_run 7 none, Cond.methodLink RX5 74 yX0_ingredientsOf, Cond.instanceMethod yX0_ingredientsOf, Cond.selects RX0 yX0_ingredientsOf yX0_ingredientsOf, Cond.code yX0_ingredientsOf cX0_ingredientsOf 2 (some .int), Cond.fieldLink RX0 15 "ThingMaker$Book" "ingredientCounts" "[I", Cond.methodLink RX5 77 yX0_ingredientAt, Cond.instanceMethod yX0_ingredientAt, Cond.selects RX0 yX0_ingredientAt yX0_ingredientAt, Cond.code yX0_ingredientAt cX0_ingredientAt 3 (some .int), Cond.fieldLink RX0 18 "ThingMaker$Book" "ingredients" "[I", Cond.methodLink RX5 80 yX0_amountAt, Cond.instanceMethod yX0_amountAt, Cond.selects RX0 yX0_amountAt yX0_amountAt, Cond.code yX0_amountAt cX0_amountAt 3 (some .int), Cond.fieldLink RX0 21 "ThingMaker$Book" "amounts" "[I", Cond.methodLink RX5 83 yX5_take, Cond.instanceMethod yX5_take]
def wsX6_gather_r5 : List Cond := [Cond.selects RX5 yX5_take yX5_take, Cond.code yX5_take cX5_take 8 none, Cond.methodLink RX5 94 yX5_useUp, Cond.instanceMethod yX5_useUp, Cond.selects RX5 yX5_useUp yX5_useUp, Cond.code yX5_useUp cX5_useUp 6 (some .int), Cond.methodLink RX5 108 Lib.Math.min.name, Cond.methodLink RX5 116 yX0_vesselOf, Cond.instanceMethod yX0_vesselOf, Cond.selects RX0 yX0_vesselOf yX0_vesselOf, Cond.code yX0_vesselOf cX0_vesselOf 2 (some .int), Cond.fieldLink RX0 30 "ThingMaker$Book" "vessels" "[I", Cond.methodLink RX5 98 yX0_substitutesOf, Cond.instanceMethod yX0_substitutesOf, Cond.selects RX0 yX0_substitutesOf yX0_substitutesOf, Cond.code yX0_substitutesOf cX0_substitutesOf 2 (some .int), Cond.fieldLink RX0 24 "ThingMaker$Book" "substituteCounts" "[I", Cond.methodLink RX5 101 yX0_substituteAt, Cond.instanceMethod yX0_substituteAt, Cond.selects RX0 yX0_substituteAt yX0_substituteAt, Cond.code yX0_substituteAt cX0_substituteAt 3 (some .int), Cond.fieldLink RX0 27 "ThingMaker$Book" "substitutes" "[I", Cond.methodLink RX5 104 yX5_standIn, Cond.instanceMethod yX5_standIn]
def wsX6_gather_r6 : List Cond := [Cond.selects RX5 yX5_standIn yX5_standIn, Cond.code yX5_standIn cX5_standIn 5 (some .int), Cond.methodLink RX6 226 yX5_gathered, Cond.instanceMethod yX5_gathered, Cond.selects RX5 yX5_gathered yX5_gathered, Cond.code yX5_gathered cX5_gathered 1 (some .int), Cond.methodLink RX6 140 yX6_at]
def wsX6_gather : List Cond := .code yX6_gather cX6_gather 4 (some .int) :: ((wsX6_gather_r1 ++ (wsX6_gather_r2 ++ (wsX6_gather_r3 ++ (wsX6_gather_r4 ++ (wsX6_gather_r5 ++ wsX6_gather_r6))))) ++ wsX60 ++ wsX50 ++ wsX40 ++ wsX00)
def wsX6_canHave_r1 : List Cond := [Cond.fieldLink RX6 22 "ThingMaker" "stock" "LThingMaker$Stock;", Cond.methodLink RX6 231 Lib.Math.min.name, Cond.static Lib.Math.min.name, Cond.initialized "java/lang/Math", Cond.code Lib.Math.min.name Lib.Math.min.code 2 (some .int), Cond.fieldLink RX6 10 "ThingMaker" "book" "LThingMaker$Book;", Cond.fieldLink RX6 29 "ThingMaker" "works" "LThingMaker$Works;", Cond.methodLink RX6 96 yX6_isThing, Cond.static yX6_isThing, Cond.initialized RX6, Cond.code yX6_isThing cX6_isThing 1 (some .boolean), Cond.methodLink RX6 140 yX6_at, Cond.static yX6_at, Cond.code yX6_at cX6_at 2 (some .int), Cond.methodLink RX6 103 yX0_yieldOf, Cond.instanceMethod yX0_yieldOf, Cond.selects RX0 yX0_yieldOf yX0_yieldOf, Cond.initialized RX0, Cond.code yX0_yieldOf cX0_yieldOf 2 (some .int), Cond.fieldLink RX0 9 "ThingMaker$Book" "yields" "[I", Cond.methodLink RX6 234 yX6_divideUp, Cond.static yX6_divideUp, Cond.code yX6_divideUp cX6_divideUp 2 (some .int), Cond.methodLink RX6 160 yX5_begin]
def wsX6_canHave_r2 : List Cond := [Cond.instanceMethod yX5_begin, Cond.selects RX5 yX5_begin yX5_begin, Cond.initialized RX5, Cond.code yX5_begin cX5_begin 3 none, Cond.fieldLink RX5 12 "ThingMaker$Works" "bench" "LThingMaker$Stock;", Cond.fieldLink RX5 22 "ThingMaker$Works" "mayGather" "Z", Cond.fieldLink RX5 26 "ThingMaker$Works" "failed" "Z", Cond.fieldLink RX5 29 "ThingMaker$Works" "batches" "I", Cond.fieldLink RX5 33 "ThingMaker$Works" "gathered" "I", Cond.methodLink RX5 18 yX4_copyFrom, Cond.instanceMethod yX4_copyFrom, Cond.selects RX4 yX4_copyFrom yX4_copyFrom, Cond.initialized RX4, Cond.code yX4_copyFrom cX4_copyFrom 2 none, Cond.fieldLink RX4 9 "ThingMaker$Stock" "amounts" "[I", Cond.fieldLink RX4 15 "ThingMaker$Stock" "gathered" "[I", Cond.fieldLink RX4 18 "ThingMaker$Stock" "made" "[I", Cond.fieldLink RX4 21 "ThingMaker$Stock" "used" "[I", Cond.fieldLink RX4 24 "ThingMaker$Stock" "returned" "[I", Cond.fieldLink RX4 27 "ThingMaker$Stock" "brought" "[I", Cond.fieldLink RX4 34 "ThingMaker$Stock" "batches" "I", Cond.static yX6_copy, Cond.code yX6_copy cX6_copy 2 none, Cond.methodLink RX6 257 arraycopyName]
def wsX6_canHave_r3 : List Cond := [Cond.native arraycopyName, Cond.static arraycopyName, Cond.initialized "java/lang/System", Cond.methodLink RX6 172 yX5_runAll, Cond.instanceMethod yX5_runAll, Cond.selects RX5 yX5_runAll yX5_runAll, Cond.code yX5_runAll cX5_runAll 4 (some .boolean), Cond.methodLink RX5 53 yX5_run, Cond.instanceMethod yX5_run, Cond.selects RX5 yX5_run yX5_run, Cond.code yX5_run cX5_run 7 none, Cond.methodLink RX5 74 yX0_ingredientsOf, Cond.instanceMethod yX0_ingredientsOf, Cond.selects RX0 yX0_ingredientsOf yX0_ingredientsOf, Cond.code yX0_ingredientsOf cX0_ingredientsOf 2 (some .int), Cond.fieldLink RX0 15 "ThingMaker$Book" "ingredientCounts" "[I", Cond.methodLink RX5 77 yX0_ingredientAt, Cond.instanceMethod yX0_ingredientAt, Cond.selects RX0 yX0_ingredientAt yX0_ingredientAt, Cond.code yX0_ingredientAt cX0_ingredientAt 3 (some .int), Cond.fieldLink RX0 18 "ThingMaker$Book" "ingredients" "[I", Cond.methodLink RX5 80 yX0_amountAt, Cond.instanceMethod yX0_amountAt, Cond.selects RX0 yX0_amountAt yX0_amountAt]
def wsX6_canHave_r4 : List Cond := [Cond.code yX0_amountAt cX0_amountAt 3 (some .int), Cond.fieldLink RX0 21 "ThingMaker$Book" "amounts" "[I", Cond.methodLink RX5 83 yX5_take, Cond.instanceMethod yX5_take, Cond.selects RX5 yX5_take yX5_take, Cond.methodLink RX5 62 yX0_yieldOf, Cond.methodLink RX5 89 yX5_comeIn, Cond.instanceMethod yX5_comeIn, Cond.selects RX5 yX5_comeIn yX5_comeIn, Cond.code yX5_comeIn cX5_comeIn 4 none, Cond.constant RX5 48 (99999), Cond.static yX6_add, Cond.code yX6_add cX6_add 3 none, Cond.code yX5_provide cX5_provide 5 none, Cond.methodLink RX5 56 yX0_isMade, Cond.instanceMethod yX0_isMade, Cond.selects RX0 yX0_isMade yX0_isMade, Cond.code yX0_isMade cX0_isMade 2 (some .boolean), Cond.methodLink RX5 70 yX5_collect, Cond.instanceMethod yX5_collect, Cond.selects RX5 yX5_collect yX5_collect, Cond.code yX5_collect cX5_collect 3 none, Cond.code yX5_take cX5_take 8 none, Cond.methodLink RX5 94 yX5_useUp]
def wsX6_canHave_r5 : List Cond := [Cond.instanceMethod yX5_useUp, Cond.selects RX5 yX5_useUp yX5_useUp, Cond.code yX5_useUp cX5_useUp 6 (some .int), Cond.methodLink RX5 108 Lib.Math.min.name, Cond.methodLink RX5 116 yX0_vesselOf, Cond.instanceMethod yX0_vesselOf, Cond.selects RX0 yX0_vesselOf yX0_vesselOf, Cond.code yX0_vesselOf cX0_vesselOf 2 (some .int), Cond.fieldLink RX0 30 "ThingMaker$Book" "vessels" "[I", Cond.methodLink RX5 98 yX0_substitutesOf, Cond.instanceMethod yX0_substitutesOf, Cond.selects RX0 yX0_substitutesOf yX0_substitutesOf, Cond.code yX0_substitutesOf cX0_substitutesOf 2 (some .int), Cond.fieldLink RX0 24 "ThingMaker$Book" "substituteCounts" "[I", Cond.methodLink RX5 101 yX0_substituteAt, Cond.instanceMethod yX0_substituteAt, Cond.selects RX0 yX0_substituteAt yX0_substituteAt, Cond.code yX0_substituteAt cX0_substituteAt 3 (some .int), Cond.fieldLink RX0 27 "ThingMaker$Book" "substitutes" "[I", Cond.methodLink RX5 104 yX5_standIn, Cond.instanceMethod yX5_standIn, Cond.selects RX5 yX5_standIn yX5_standIn, Cond.code yX5_standIn cX5_standIn 5 (some .int), Cond.methodLink RX5 49 yX5_provide]
def wsX6_canHave_r6 : List Cond := [Cond.instanceMethod yX5_provide, Cond.selects RX5 yX5_provide yX5_provide]
def wsX6_canHave : List Cond := .code yX6_canHave cX6_canHave 6 (some .int) :: ((wsX6_canHave_r1 ++ (wsX6_canHave_r2 ++ (wsX6_canHave_r3 ++ (wsX6_canHave_r4 ++ (wsX6_canHave_r5 ++ wsX6_canHave_r6))))) ++ wsX60 ++ wsX40 ++ wsX00 ++ wsX50)
def wsX6_bestGift_r1 : List Cond := [Cond.fieldLink RX6 29 "ThingMaker" "works" "LThingMaker$Works;", Cond.fieldLink RX6 22 "ThingMaker" "stock" "LThingMaker$Stock;", Cond.fieldLink RX6 10 "ThingMaker" "book" "LThingMaker$Book;", Cond.methodLink RX6 96 yX6_isThing, Cond.static yX6_isThing, Cond.initialized RX6, Cond.code yX6_isThing cX6_isThing 1 (some .boolean), Cond.methodLink RX6 157 yX6_isWished, Cond.static yX6_isWished, Cond.code yX6_isWished cX6_isWished 1 (some .boolean), Cond.methodLink RX6 160 yX5_begin, Cond.instanceMethod yX5_begin, Cond.selects RX5 yX5_begin yX5_begin, Cond.initialized RX5, Cond.code yX5_begin cX5_begin 3 none, Cond.fieldLink RX5 12 "ThingMaker$Works" "bench" "LThingMaker$Stock;", Cond.fieldLink RX5 22 "ThingMaker$Works" "mayGather" "Z", Cond.fieldLink RX5 26 "ThingMaker$Works" "failed" "Z", Cond.fieldLink RX5 29 "ThingMaker$Works" "batches" "I", Cond.fieldLink RX5 33 "ThingMaker$Works" "gathered" "I", Cond.methodLink RX5 18 yX4_copyFrom, Cond.instanceMethod yX4_copyFrom, Cond.selects RX4 yX4_copyFrom yX4_copyFrom, Cond.initialized RX4]
def wsX6_bestGift_r2 : List Cond := [Cond.code yX4_copyFrom cX4_copyFrom 2 none, Cond.fieldLink RX4 9 "ThingMaker$Stock" "amounts" "[I", Cond.fieldLink RX4 15 "ThingMaker$Stock" "gathered" "[I", Cond.fieldLink RX4 18 "ThingMaker$Stock" "made" "[I", Cond.fieldLink RX4 21 "ThingMaker$Stock" "used" "[I", Cond.fieldLink RX4 24 "ThingMaker$Stock" "returned" "[I", Cond.fieldLink RX4 27 "ThingMaker$Stock" "brought" "[I", Cond.fieldLink RX4 34 "ThingMaker$Stock" "batches" "I", Cond.static yX6_copy, Cond.code yX6_copy cX6_copy 2 none, Cond.methodLink RX6 231 Lib.Math.min.name, Cond.static Lib.Math.min.name, Cond.initialized "java/lang/Math", Cond.code Lib.Math.min.name Lib.Math.min.code 2 (some .int), Cond.methodLink RX6 257 arraycopyName, Cond.native arraycopyName, Cond.static arraycopyName, Cond.initialized "java/lang/System", Cond.methodLink RX6 164 yX5_fulfil, Cond.instanceMethod yX5_fulfil, Cond.selects RX5 yX5_fulfil yX5_fulfil, Cond.code yX5_fulfil cX5_fulfil 5 (some .boolean), Cond.static yX6_at, Cond.code yX6_at cX6_at 2 (some .int)]
def wsX6_bestGift_r3 : List Cond := [Cond.methodLink RX5 49 yX5_provide, Cond.instanceMethod yX5_provide, Cond.selects RX5 yX5_provide yX5_provide, Cond.code yX5_provide cX5_provide 5 none, Cond.methodLink RX5 56 yX0_isMade, Cond.instanceMethod yX0_isMade, Cond.selects RX0 yX0_isMade yX0_isMade, Cond.initialized RX0, Cond.code yX0_isMade cX0_isMade 2 (some .boolean), Cond.fieldLink RX0 9 "ThingMaker$Book" "yields" "[I", Cond.methodLink RX5 62 yX0_yieldOf, Cond.instanceMethod yX0_yieldOf, Cond.selects RX0 yX0_yieldOf yX0_yieldOf, Cond.code yX0_yieldOf cX0_yieldOf 2 (some .int), Cond.static yX6_divideUp, Cond.code yX6_divideUp cX6_divideUp 2 (some .int), Cond.methodLink RX5 53 yX5_run, Cond.instanceMethod yX5_run, Cond.selects RX5 yX5_run yX5_run, Cond.methodLink RX5 70 yX5_collect, Cond.instanceMethod yX5_collect, Cond.selects RX5 yX5_collect yX5_collect, Cond.code yX5_collect cX5_collect 3 none, Cond.methodLink RX5 89 yX5_comeIn]
def wsX6_bestGift_r4 : List Cond := [Cond.instanceMethod yX5_comeIn, Cond.selects RX5 yX5_comeIn yX5_comeIn, Cond.code yX5_comeIn cX5_comeIn 4 none, Cond.constant RX5 48 (99999), Cond.static yX6_add, Cond.code yX6_add cX6_add 3 none, Cond.code yX5_run cX5_run 7 none, Cond.methodLink RX5 74 yX0_ingredientsOf, Cond.instanceMethod yX0_ingredientsOf, Cond.selects RX0 yX0_ingredientsOf yX0_ingredientsOf, Cond.code yX0_ingredientsOf cX0_ingredientsOf 2 (some .int), Cond.fieldLink RX0 15 "ThingMaker$Book" "ingredientCounts" "[I", Cond.methodLink RX5 77 yX0_ingredientAt, Cond.instanceMethod yX0_ingredientAt, Cond.selects RX0 yX0_ingredientAt yX0_ingredientAt, Cond.code yX0_ingredientAt cX0_ingredientAt 3 (some .int), Cond.fieldLink RX0 18 "ThingMaker$Book" "ingredients" "[I", Cond.methodLink RX5 80 yX0_amountAt, Cond.instanceMethod yX0_amountAt, Cond.selects RX0 yX0_amountAt yX0_amountAt, Cond.code yX0_amountAt cX0_amountAt 3 (some .int), Cond.fieldLink RX0 21 "ThingMaker$Book" "amounts" "[I", Cond.methodLink RX5 83 yX5_take, Cond.instanceMethod yX5_take]
def wsX6_bestGift_r5 : List Cond := [Cond.selects RX5 yX5_take yX5_take, Cond.code yX5_take cX5_take 8 none, Cond.methodLink RX5 94 yX5_useUp, Cond.instanceMethod yX5_useUp, Cond.selects RX5 yX5_useUp yX5_useUp, Cond.code yX5_useUp cX5_useUp 6 (some .int), Cond.methodLink RX5 108 Lib.Math.min.name, Cond.methodLink RX5 116 yX0_vesselOf, Cond.instanceMethod yX0_vesselOf, Cond.selects RX0 yX0_vesselOf yX0_vesselOf, Cond.code yX0_vesselOf cX0_vesselOf 2 (some .int), Cond.fieldLink RX0 30 "ThingMaker$Book" "vessels" "[I", Cond.methodLink RX5 98 yX0_substitutesOf, Cond.instanceMethod yX0_substitutesOf, Cond.selects RX0 yX0_substitutesOf yX0_substitutesOf, Cond.code yX0_substitutesOf cX0_substitutesOf 2 (some .int), Cond.fieldLink RX0 24 "ThingMaker$Book" "substituteCounts" "[I", Cond.methodLink RX5 101 yX0_substituteAt, Cond.instanceMethod yX0_substituteAt, Cond.selects RX0 yX0_substituteAt yX0_substituteAt, Cond.code yX0_substituteAt cX0_substituteAt 3 (some .int), Cond.fieldLink RX0 27 "ThingMaker$Book" "substitutes" "[I", Cond.methodLink RX5 104 yX5_standIn, Cond.instanceMethod yX5_standIn]
def wsX6_bestGift_r6 : List Cond := [Cond.selects RX5 yX5_standIn yX5_standIn, Cond.code yX5_standIn cX5_standIn 5 (some .int), Cond.methodLink RX6 226 yX5_gathered, Cond.instanceMethod yX5_gathered, Cond.selects RX5 yX5_gathered yX5_gathered, Cond.code yX5_gathered cX5_gathered 1 (some .int), Cond.methodLink RX6 237 yX5_receive, Cond.instanceMethod yX5_receive, Cond.selects RX5 yX5_receive yX5_receive, Cond.code yX5_receive cX5_receive 2 (some .boolean)]
def wsX6_bestGift : List Cond := .code yX6_bestGift cX6_bestGift 6 (some .int) :: ((wsX6_bestGift_r1 ++ (wsX6_bestGift_r2 ++ (wsX6_bestGift_r3 ++ (wsX6_bestGift_r4 ++ (wsX6_bestGift_r5 ++ wsX6_bestGift_r6))))) ++ wsX60 ++ wsX50 ++ wsX40 ++ wsX00)
def wsX6_keep_r1 : List Cond := [Cond.fieldLink RX6 42 "ThingMaker" "images" "[LThingMaker$State;", Cond.fieldLink RX6 10 "ThingMaker" "book" "LThingMaker$Book;", Cond.fieldLink RX6 22 "ThingMaker" "stock" "LThingMaker$Stock;", Cond.methodLink RX6 240 yX6_roomAt, Cond.static yX6_roomAt, Cond.initialized RX6, Cond.code yX6_roomAt cX6_roomAt 4 (some (.object "ThingMaker$State")), Cond.classLink RX6 40 RX3, Cond.instantiable RX3 2, Cond.initialized RX3, Cond.methodLink RX6 247 yX6_stateAt, Cond.static yX6_stateAt, Cond.code yX6_stateAt cX6_stateAt 2 (some (.object "ThingMaker$State")), Cond.instanceMethod yX3_init, Cond.code yX3_init cX3_init 1 none, Cond.methodLink RX3 1 objectInit, Cond.instanceMethod objectInit, Cond.code objectInit ⟨#[0xb1]⟩ 1 none, Cond.classLink RX3 7 RX0, Cond.instantiable RX0 8, Cond.initialized RX0, Cond.fieldLink RX3 10 "ThingMaker$State" "book" "LThingMaker$Book;", Cond.classLink RX3 16 RX4, Cond.instantiable RX4 7]
def wsX6_keep_r2 : List Cond := [Cond.initialized RX4, Cond.fieldLink RX3 19 "ThingMaker$State" "stock" "LThingMaker$Stock;", Cond.methodLink RX3 9 yX0_init, Cond.instanceMethod yX0_init, Cond.code yX0_init cX0_init 1 none, Cond.methodLink RX0 3 objectInit, Cond.arrayClass .int, Cond.fieldLink RX0 9 "ThingMaker$Book" "yields" "[I", Cond.fieldLink RX0 15 "ThingMaker$Book" "ingredientCounts" "[I", Cond.fieldLink RX0 18 "ThingMaker$Book" "ingredients" "[I", Cond.fieldLink RX0 21 "ThingMaker$Book" "amounts" "[I", Cond.fieldLink RX0 24 "ThingMaker$Book" "substituteCounts" "[I", Cond.fieldLink RX0 27 "ThingMaker$Book" "substitutes" "[I", Cond.fieldLink RX0 30 "ThingMaker$Book" "vessels" "[I", Cond.fieldLink RX0 33 "ThingMaker$Book" "ranks" "[I", Cond.methodLink RX0 36 yJ7_fill_53178, Cond.static yJ7_fill_53178, Cond.initialized RJ7, Cond.code yJ7_fill_53178 cJ7_fill_53178 4 none, Cond.instanceMethod yX4_init, Cond.code yX4_init cX4_init 1 none, Cond.methodLink RX4 3 objectInit, Cond.fieldLink RX4 9 "ThingMaker$Stock" "amounts" "[I", Cond.fieldLink RX4 15 "ThingMaker$Stock" "gathered" "[I"]
def wsX6_keep_r3 : List Cond := [Cond.fieldLink RX4 18 "ThingMaker$Stock" "made" "[I", Cond.fieldLink RX4 21 "ThingMaker$Stock" "used" "[I", Cond.fieldLink RX4 24 "ThingMaker$Stock" "returned" "[I", Cond.fieldLink RX4 27 "ThingMaker$Stock" "brought" "[I", Cond.methodLink RX6 244 yX3_hold, Cond.instanceMethod yX3_hold, Cond.selects RX3 yX3_hold yX3_hold, Cond.code yX3_hold cX3_hold 3 none, Cond.methodLink RX3 23 yX0_copyFrom, Cond.instanceMethod yX0_copyFrom, Cond.selects RX0 yX0_copyFrom yX0_copyFrom, Cond.code yX0_copyFrom cX0_copyFrom 2 none, Cond.static yX6_copy, Cond.code yX6_copy cX6_copy 2 none, Cond.methodLink RX6 231 Lib.Math.min.name, Cond.static Lib.Math.min.name, Cond.initialized "java/lang/Math", Cond.code Lib.Math.min.name Lib.Math.min.code 2 (some .int), Cond.methodLink RX6 257 arraycopyName, Cond.native arraycopyName, Cond.static arraycopyName, Cond.initialized "java/lang/System", Cond.methodLink RX3 27 yX4_copyFrom, Cond.instanceMethod yX4_copyFrom]
def wsX6_keep_r4 : List Cond := [Cond.selects RX4 yX4_copyFrom yX4_copyFrom, Cond.code yX4_copyFrom cX4_copyFrom 2 none, Cond.fieldLink RX4 34 "ThingMaker$Stock" "batches" "I", Cond.methodLink RX6 184 yX0_recipes, Cond.instanceMethod yX0_recipes, Cond.selects RX0 yX0_recipes yX0_recipes, Cond.code yX0_recipes cX0_recipes 1 (some .int), Cond.methodLink RX0 50 yX0_madeThings, Cond.instanceMethod yX0_madeThings, Cond.selects RX0 yX0_madeThings yX0_madeThings, Cond.code yX0_madeThings cX0_madeThings 3 (some .int), Cond.methodLink RX0 60 yX0_isMade, Cond.instanceMethod yX0_isMade, Cond.selects RX0 yX0_isMade yX0_isMade, Cond.code yX0_isMade cX0_isMade 2 (some .boolean), Cond.static yX6_at, Cond.code yX6_at cX6_at 2 (some .int), Cond.methodLink RX0 54 yJ6_bitCount_0f7a4, Cond.static yJ6_bitCount_0f7a4, Cond.initialized RJ6, Cond.code yJ6_bitCount_0f7a4 cJ6_bitCount_0f7a4 1 (some .int), Cond.constant RJ6 265 (1431655765), Cond.constant RJ6 266 (858993459), Cond.constant RJ6 267 (252645135)]
def wsX6_keep : List Cond := .code yX6_keep cX6_keep 2 (some .int) :: ((wsX6_keep_r1 ++ (wsX6_keep_r2 ++ (wsX6_keep_r3 ++ wsX6_keep_r4))) ++ wsX60 ++ wsX30 ++ wsX00 ++ wsX40)
def wsX6_back_r1 : List Cond := [Cond.fieldLink RX6 42 "ThingMaker" "images" "[LThingMaker$State;", Cond.fieldLink RX6 36 "ThingMaker" "history" "LThingMaker$History;", Cond.fieldLink RX6 10 "ThingMaker" "book" "LThingMaker$Book;", Cond.fieldLink RX6 22 "ThingMaker" "stock" "LThingMaker$Stock;", Cond.methodLink RX6 247 yX6_stateAt, Cond.static yX6_stateAt, Cond.initialized RX6, Cond.code yX6_stateAt cX6_stateAt 2 (some (.object "ThingMaker$State")), Cond.methodLink RX6 85 yX1_remember, Cond.instanceMethod yX1_remember, Cond.selects RX1 yX1_remember yX1_remember, Cond.initialized RX1, Cond.code yX1_remember cX1_remember 4 none, Cond.fieldLink RX1 17 "ThingMaker$History" "size" "I", Cond.fieldLink RX1 25 "ThingMaker$History" "oldest" "I", Cond.fieldLink RX1 11 "ThingMaker$History" "states" "[LThingMaker$State;", Cond.methodLink RX1 21 yX1_placeOf, Cond.instanceMethod yX1_placeOf, Cond.selects RX1 yX1_placeOf yX1_placeOf, Cond.code yX1_placeOf cX1_placeOf 2 (some .int), Cond.methodLink RX1 42 yJ9_floorMod_7cf53, Cond.static yJ9_floorMod_7cf53, Cond.initialized RJ9, Cond.code yJ9_floorMod_7cf53 cJ9_floorMod_7cf53 3 (some .int)]
def wsX6_back_r2 : List Cond := [Cond.static yX6_roomAt, Cond.code yX6_roomAt cX6_roomAt 4 (some (.object "ThingMaker$State")), Cond.classLink RX6 40 RX3, Cond.instantiable RX3 2, Cond.initialized RX3, Cond.instanceMethod yX3_init, Cond.code yX3_init cX3_init 1 none, Cond.methodLink RX3 1 objectInit, Cond.instanceMethod objectInit, Cond.code objectInit ⟨#[0xb1]⟩ 1 none, Cond.classLink RX3 7 RX0, Cond.instantiable RX0 8, Cond.initialized RX0, Cond.fieldLink RX3 10 "ThingMaker$State" "book" "LThingMaker$Book;", Cond.classLink RX3 16 RX4, Cond.instantiable RX4 7, Cond.initialized RX4, Cond.fieldLink RX3 19 "ThingMaker$State" "stock" "LThingMaker$Stock;", Cond.methodLink RX3 9 yX0_init, Cond.instanceMethod yX0_init, Cond.code yX0_init cX0_init 1 none, Cond.methodLink RX0 3 objectInit, Cond.arrayClass .int, Cond.fieldLink RX0 9 "ThingMaker$Book" "yields" "[I"]
def wsX6_back_r3 : List Cond := [Cond.fieldLink RX0 15 "ThingMaker$Book" "ingredientCounts" "[I", Cond.fieldLink RX0 18 "ThingMaker$Book" "ingredients" "[I", Cond.fieldLink RX0 21 "ThingMaker$Book" "amounts" "[I", Cond.fieldLink RX0 24 "ThingMaker$Book" "substituteCounts" "[I", Cond.fieldLink RX0 27 "ThingMaker$Book" "substitutes" "[I", Cond.fieldLink RX0 30 "ThingMaker$Book" "vessels" "[I", Cond.fieldLink RX0 33 "ThingMaker$Book" "ranks" "[I", Cond.methodLink RX0 36 yJ7_fill_53178, Cond.static yJ7_fill_53178, Cond.initialized RJ7, Cond.code yJ7_fill_53178 cJ7_fill_53178 4 none, Cond.instanceMethod yX4_init, Cond.code yX4_init cX4_init 1 none, Cond.methodLink RX4 3 objectInit, Cond.fieldLink RX4 9 "ThingMaker$Stock" "amounts" "[I", Cond.fieldLink RX4 15 "ThingMaker$Stock" "gathered" "[I", Cond.fieldLink RX4 18 "ThingMaker$Stock" "made" "[I", Cond.fieldLink RX4 21 "ThingMaker$Stock" "used" "[I", Cond.fieldLink RX4 24 "ThingMaker$Stock" "returned" "[I", Cond.fieldLink RX4 27 "ThingMaker$Stock" "brought" "[I", Cond.methodLink RX1 32 yX3_hold, Cond.instanceMethod yX3_hold, Cond.selects RX3 yX3_hold yX3_hold, Cond.code yX3_hold cX3_hold 3 none]
def wsX6_back_r4 : List Cond := [Cond.methodLink RX3 23 yX0_copyFrom, Cond.instanceMethod yX0_copyFrom, Cond.selects RX0 yX0_copyFrom yX0_copyFrom, Cond.code yX0_copyFrom cX0_copyFrom 2 none, Cond.static yX6_copy, Cond.code yX6_copy cX6_copy 2 none, Cond.methodLink RX6 231 Lib.Math.min.name, Cond.static Lib.Math.min.name, Cond.initialized "java/lang/Math", Cond.code Lib.Math.min.name Lib.Math.min.code 2 (some .int), Cond.methodLink RX6 257 arraycopyName, Cond.native arraycopyName, Cond.static arraycopyName, Cond.initialized "java/lang/System", Cond.methodLink RX3 27 yX4_copyFrom, Cond.instanceMethod yX4_copyFrom, Cond.selects RX4 yX4_copyFrom yX4_copyFrom, Cond.code yX4_copyFrom cX4_copyFrom 2 none, Cond.fieldLink RX4 34 "ThingMaker$Stock" "batches" "I", Cond.methodLink RX6 250 yX3_layOut, Cond.instanceMethod yX3_layOut, Cond.selects RX3 yX3_layOut yX3_layOut, Cond.code yX3_layOut cX3_layOut 3 none, Cond.methodLink RX6 184 yX0_recipes]
def wsX6_back_r5 : List Cond := [Cond.instanceMethod yX0_recipes, Cond.selects RX0 yX0_recipes yX0_recipes, Cond.code yX0_recipes cX0_recipes 1 (some .int), Cond.methodLink RX0 50 yX0_madeThings, Cond.instanceMethod yX0_madeThings, Cond.selects RX0 yX0_madeThings yX0_madeThings, Cond.code yX0_madeThings cX0_madeThings 3 (some .int), Cond.methodLink RX0 60 yX0_isMade, Cond.instanceMethod yX0_isMade, Cond.selects RX0 yX0_isMade yX0_isMade, Cond.code yX0_isMade cX0_isMade 2 (some .boolean), Cond.static yX6_at, Cond.code yX6_at cX6_at 2 (some .int), Cond.methodLink RX0 54 yJ6_bitCount_0f7a4, Cond.static yJ6_bitCount_0f7a4, Cond.initialized RJ6, Cond.code yJ6_bitCount_0f7a4 cJ6_bitCount_0f7a4 1 (some .int), Cond.constant RJ6 265 (1431655765), Cond.constant RJ6 266 (858993459), Cond.constant RJ6 267 (252645135)]
def wsX6_back : List Cond := .code yX6_back cX6_back 3 (some .int) :: ((wsX6_back_r1 ++ (wsX6_back_r2 ++ (wsX6_back_r3 ++ (wsX6_back_r4 ++ wsX6_back_r5)))) ++ wsX60 ++ wsX10 ++ wsX30 ++ wsX00 ++ wsX40)
def wsX7_put : List Cond := .code yX7_put cX7_put 4 none :: ([.fieldLink RX7 7 "ThingMakerModel" "w" "[I"] ++ wsX70)
def wsX7_init : List Cond := .code yX7_init cX7_init 2 none :: ([.methodLink RX7 1 objectInit, .instanceMethod objectInit, .code objectInit ⟨#[0xb1]⟩ 1 none, .arrayClass .int, .fieldLink RX7 7 "ThingMakerModel" "w" "[I", .fieldLink RX7 13 "ThingMakerModel" "past" "[I", .fieldLink RX7 16 "ThingMakerModel" "images" "[I", .fieldLink RX7 19 "ThingMakerModel" "text" "[I", .fieldLink RX7 22 "ThingMakerModel" "faultKind" "I", .fieldLink RX7 26 "ThingMakerModel" "faultPlace" "I", .fieldLink RX7 29 "ThingMakerModel" "rank" "[I", .fieldLink RX7 32 "ThingMakerModel" "what" "[I", .fieldLink RX7 35 "ThingMakerModel" "many" "[I", .fieldLink RX7 38 "ThingMakerModel" "next" "[I", .fieldLink RX7 41 "ThingMakerModel" "uses" "[I", .fieldLink RX7 44 "ThingMakerModel" "held" "[I", .fieldLink RX7 47 "ThingMakerModel" "readParts" "[I", .arrayClass .boolean, .fieldLink RX7 50 "ThingMakerModel" "reached" "[Z", .methodLink RX7 54 yX7_put, .instanceMethod yX7_put, .selects RX7 yX7_put yX7_put, .initialized RX7, .code yX7_put cX7_put 4 none] ++ wsX70)
def wsX7_isIn : List Cond := .code yX7_isIn cX7_isIn 3 (some .boolean) :: ([])
def wsX7_remember : List Cond := .code yX7_remember cX7_remember 2 none :: ([.fieldLink RX7 58 "ThingMakerModel" "pastMany" "I", .fieldLink RX7 13 "ThingMakerModel" "past" "[I", .fieldLink RX7 7 "ThingMakerModel" "w" "[I"] ++ wsX70)
def wsX7_of : List Cond := .code yX7_of cX7_of 3 (some .int) :: ([.fieldLink RX7 7 "ThingMakerModel" "w" "[I"] ++ wsX70)
def wsX7_isThing : List Cond := .code yX7_isThing cX7_isThing 1 (some .boolean) :: ([.methodLink RX7 61 yX7_isIn, .static yX7_isIn, .initialized RX7, .code yX7_isIn cX7_isIn 3 (some .boolean)])
def wsX7_isMade : List Cond := .code yX7_isMade cX7_isMade 2 (some .boolean) :: ([.methodLink RX7 65 yX7_of, .instanceMethod yX7_of, .selects RX7 yX7_of yX7_of, .initialized RX7, .code yX7_of cX7_of 3 (some .int), .fieldLink RX7 7 "ThingMakerModel" "w" "[I"] ++ wsX70)
def wsX7_ingredientOf : List Cond := .code yX7_ingredientOf cX7_ingredientOf 3 (some .int) :: ([.methodLink RX7 65 yX7_of, .instanceMethod yX7_of, .selects RX7 yX7_of yX7_of, .initialized RX7, .code yX7_of cX7_of 3 (some .int), .fieldLink RX7 7 "ThingMakerModel" "w" "[I"] ++ wsX70)
def wsX7_amountOf : List Cond := .code yX7_amountOf cX7_amountOf 3 (some .int) :: ([.methodLink RX7 65 yX7_of, .instanceMethod yX7_of, .selects RX7 yX7_of yX7_of, .initialized RX7, .code yX7_of cX7_of 3 (some .int), .fieldLink RX7 7 "ThingMakerModel" "w" "[I"] ++ wsX70)
def wsX7_rankBy : List Cond := .code yX7_rankBy cX7_rankBy 7 (some .int) :: ([.fieldLink RX7 29 "ThingMakerModel" "rank" "[I", .methodLink RX7 65 yX7_of, .instanceMethod yX7_of, .selects RX7 yX7_of yX7_of, .initialized RX7, .code yX7_of cX7_of 3 (some .int), .fieldLink RX7 7 "ThingMakerModel" "w" "[I", .methodLink RX7 69 yX7_ingredientOf, .instanceMethod yX7_ingredientOf, .selects RX7 yX7_ingredientOf yX7_ingredientOf, .code yX7_ingredientOf cX7_ingredientOf 3 (some .int), .methodLink RX7 72 yX7_isMade, .instanceMethod yX7_isMade, .selects RX7 yX7_isMade yX7_isMade, .code yX7_isMade cX7_isMade 2 (some .boolean)] ++ wsX70)
def wsX7_areRanks : List Cond := .code yX7_areRanks cX7_areRanks 3 (some .boolean) :: ([.fieldLink RX7 29 "ThingMakerModel" "rank" "[I", .methodLink RX7 76 yX7_rankBy, .instanceMethod yX7_rankBy, .selects RX7 yX7_rankBy yX7_rankBy, .initialized RX7, .code yX7_rankBy cX7_rankBy 7 (some .int), .methodLink RX7 65 yX7_of, .instanceMethod yX7_of, .selects RX7 yX7_of yX7_of, .code yX7_of cX7_of 3 (some .int), .fieldLink RX7 7 "ThingMakerModel" "w" "[I", .methodLink RX7 69 yX7_ingredientOf, .instanceMethod yX7_ingredientOf, .selects RX7 yX7_ingredientOf yX7_ingredientOf, .code yX7_ingredientOf cX7_ingredientOf 3 (some .int), .methodLink RX7 72 yX7_isMade, .instanceMethod yX7_isMade, .selects RX7 yX7_isMade yX7_isMade, .code yX7_isMade cX7_isMade 2 (some .boolean)] ++ wsX70)
def wsX7_come : List Cond := .code yX7_come cX7_come 4 none :: ([.fieldLink RX7 80 "ThingMakerModel" "fails" "Z", .constant RX7 84 (99999), .methodLink RX7 65 yX7_of, .instanceMethod yX7_of, .selects RX7 yX7_of yX7_of, .initialized RX7, .code yX7_of cX7_of 3 (some .int), .fieldLink RX7 7 "ThingMakerModel" "w" "[I", .methodLink RX7 54 yX7_put, .instanceMethod yX7_put, .selects RX7 yX7_put yX7_put, .code yX7_put cX7_put 4 none] ++ wsX70)
def wsX7_useUp : List Cond := .code yX7_useUp cX7_useUp 3 none :: ([.methodLink RX7 65 yX7_of, .instanceMethod yX7_of, .selects RX7 yX7_of yX7_of, .initialized RX7, .code yX7_of cX7_of 3 (some .int), .fieldLink RX7 7 "ThingMakerModel" "w" "[I", .methodLink RX7 54 yX7_put, .instanceMethod yX7_put, .selects RX7 yX7_put yX7_put, .code yX7_put cX7_put 4 none, .methodLink RX7 85 yX7_come, .instanceMethod yX7_come, .selects RX7 yX7_come yX7_come, .code yX7_come cX7_come 4 none, .fieldLink RX7 80 "ThingMakerModel" "fails" "Z", .constant RX7 84 (99999)] ++ wsX70)
def wsX7_gatherNow : List Cond := .code yX7_gatherNow cX7_gatherNow 3 none :: ([.fieldLink RX7 7 "ThingMakerModel" "w" "[I", .methodLink RX7 85 yX7_come, .instanceMethod yX7_come, .selects RX7 yX7_come yX7_come, .initialized RX7, .code yX7_come cX7_come 4 none, .fieldLink RX7 80 "ThingMakerModel" "fails" "Z", .constant RX7 84 (99999), .methodLink RX7 65 yX7_of, .instanceMethod yX7_of, .selects RX7 yX7_of yX7_of, .code yX7_of cX7_of 3 (some .int), .methodLink RX7 54 yX7_put, .instanceMethod yX7_put, .selects RX7 yX7_put yX7_put, .code yX7_put cX7_put 4 none] ++ wsX70)
def wsX7_begin : List Cond := .code yX7_begin cX7_begin 4 none :: ([.fieldLink RX7 88 "ThingMakerModel" "batches" "I", .fieldLink RX7 80 "ThingMakerModel" "fails" "Z", .fieldLink RX7 32 "ThingMakerModel" "what" "[I", .fieldLink RX7 91 "ThingMakerModel" "depth" "I", .fieldLink RX7 35 "ThingMakerModel" "many" "[I", .fieldLink RX7 38 "ThingMakerModel" "next" "[I", .fieldLink RX7 41 "ThingMakerModel" "uses" "[I"] ++ wsX70)
def wsX7_batchesFor : List Cond := .code yX7_batchesFor cX7_batchesFor 3 (some .int) :: ([.methodLink RX7 65 yX7_of, .instanceMethod yX7_of, .selects RX7 yX7_of yX7_of, .initialized RX7, .code yX7_of cX7_of 3 (some .int), .fieldLink RX7 7 "ThingMakerModel" "w" "[I"] ++ wsX70)
def wsX7_fromStore : List Cond := .code yX7_fromStore cX7_fromStore 4 (some .int) :: ([.methodLink RX7 65 yX7_of, .instanceMethod yX7_of, .selects RX7 yX7_of yX7_of, .initialized RX7, .code yX7_of cX7_of 3 (some .int), .fieldLink RX7 7 "ThingMakerModel" "w" "[I", .methodLink RX7 94 yX7_useUp, .instanceMethod yX7_useUp, .selects RX7 yX7_useUp yX7_useUp, .code yX7_useUp cX7_useUp 3 none, .methodLink RX7 54 yX7_put, .instanceMethod yX7_put, .selects RX7 yX7_put yX7_put, .code yX7_put cX7_put 4 none, .methodLink RX7 85 yX7_come, .instanceMethod yX7_come, .selects RX7 yX7_come yX7_come, .code yX7_come cX7_come 4 none, .fieldLink RX7 80 "ThingMakerModel" "fails" "Z", .constant RX7 84 (99999)] ++ wsX70)
def wsX7_take_r1 : List Cond := [Cond.methodLink RX7 98 yX7_fromStore, Cond.instanceMethod yX7_fromStore, Cond.selects RX7 yX7_fromStore yX7_fromStore, Cond.initialized RX7, Cond.code yX7_fromStore cX7_fromStore 4 (some .int), Cond.methodLink RX7 65 yX7_of, Cond.instanceMethod yX7_of, Cond.selects RX7 yX7_of yX7_of, Cond.code yX7_of cX7_of 3 (some .int), Cond.fieldLink RX7 7 "ThingMakerModel" "w" "[I", Cond.methodLink RX7 94 yX7_useUp, Cond.instanceMethod yX7_useUp, Cond.selects RX7 yX7_useUp yX7_useUp, Cond.code yX7_useUp cX7_useUp 3 none, Cond.methodLink RX7 54 yX7_put, Cond.instanceMethod yX7_put, Cond.selects RX7 yX7_put yX7_put, Cond.code yX7_put cX7_put 4 none, Cond.methodLink RX7 85 yX7_come, Cond.instanceMethod yX7_come, Cond.selects RX7 yX7_come yX7_come, Cond.code yX7_come cX7_come 4 none, Cond.fieldLink RX7 80 "ThingMakerModel" "fails" "Z", Cond.constant RX7 84 (99999)]
def wsX7_take_r2 : List Cond := [Cond.methodLink RX7 72 yX7_isMade, Cond.instanceMethod yX7_isMade, Cond.selects RX7 yX7_isMade yX7_isMade, Cond.code yX7_isMade cX7_isMade 2 (some .boolean), Cond.methodLink RX7 101 yX7_batchesFor, Cond.instanceMethod yX7_batchesFor, Cond.selects RX7 yX7_batchesFor yX7_batchesFor, Cond.code yX7_batchesFor cX7_batchesFor 3 (some .int), Cond.methodLink RX7 104 yX7_begin, Cond.instanceMethod yX7_begin, Cond.selects RX7 yX7_begin yX7_begin, Cond.code yX7_begin cX7_begin 4 none, Cond.fieldLink RX7 88 "ThingMakerModel" "batches" "I", Cond.fieldLink RX7 32 "ThingMakerModel" "what" "[I", Cond.fieldLink RX7 91 "ThingMakerModel" "depth" "I", Cond.fieldLink RX7 35 "ThingMakerModel" "many" "[I", Cond.fieldLink RX7 38 "ThingMakerModel" "next" "[I", Cond.fieldLink RX7 41 "ThingMakerModel" "uses" "[I", Cond.methodLink RX7 107 yX7_gatherNow, Cond.instanceMethod yX7_gatherNow, Cond.selects RX7 yX7_gatherNow yX7_gatherNow, Cond.code yX7_gatherNow cX7_gatherNow 3 none]
def wsX7_take : List Cond := .code yX7_take cX7_take 7 none :: ((wsX7_take_r1 ++ wsX7_take_r2) ++ wsX70)
def wsX7_makeBegun_r1 : List Cond := [Cond.fieldLink RX7 91 "ThingMakerModel" "depth" "I", Cond.fieldLink RX7 80 "ThingMakerModel" "fails" "Z", Cond.fieldLink RX7 38 "ThingMakerModel" "next" "[I", Cond.fieldLink RX7 32 "ThingMakerModel" "what" "[I", Cond.fieldLink RX7 35 "ThingMakerModel" "many" "[I", Cond.fieldLink RX7 7 "ThingMakerModel" "w" "[I", Cond.fieldLink RX7 41 "ThingMakerModel" "uses" "[I", Cond.methodLink RX7 65 yX7_of, Cond.instanceMethod yX7_of, Cond.selects RX7 yX7_of yX7_of, Cond.initialized RX7, Cond.code yX7_of cX7_of 3 (some .int), Cond.methodLink RX7 69 yX7_ingredientOf, Cond.instanceMethod yX7_ingredientOf, Cond.selects RX7 yX7_ingredientOf yX7_ingredientOf, Cond.code yX7_ingredientOf cX7_ingredientOf 3 (some .int), Cond.methodLink RX7 110 yX7_amountOf, Cond.instanceMethod yX7_amountOf, Cond.selects RX7 yX7_amountOf yX7_amountOf, Cond.code yX7_amountOf cX7_amountOf 3 (some .int), Cond.methodLink RX7 113 yX7_take, Cond.instanceMethod yX7_take, Cond.selects RX7 yX7_take yX7_take, Cond.code yX7_take cX7_take 7 none]
def wsX7_makeBegun_r2 : List Cond := [Cond.methodLink RX7 98 yX7_fromStore, Cond.instanceMethod yX7_fromStore, Cond.selects RX7 yX7_fromStore yX7_fromStore, Cond.code yX7_fromStore cX7_fromStore 4 (some .int), Cond.methodLink RX7 94 yX7_useUp, Cond.instanceMethod yX7_useUp, Cond.selects RX7 yX7_useUp yX7_useUp, Cond.code yX7_useUp cX7_useUp 3 none, Cond.methodLink RX7 54 yX7_put, Cond.instanceMethod yX7_put, Cond.selects RX7 yX7_put yX7_put, Cond.code yX7_put cX7_put 4 none, Cond.methodLink RX7 85 yX7_come, Cond.instanceMethod yX7_come, Cond.selects RX7 yX7_come yX7_come, Cond.code yX7_come cX7_come 4 none, Cond.constant RX7 84 (99999), Cond.methodLink RX7 72 yX7_isMade, Cond.instanceMethod yX7_isMade, Cond.selects RX7 yX7_isMade yX7_isMade, Cond.code yX7_isMade cX7_isMade 2 (some .boolean), Cond.methodLink RX7 101 yX7_batchesFor, Cond.instanceMethod yX7_batchesFor, Cond.selects RX7 yX7_batchesFor yX7_batchesFor]
def wsX7_makeBegun_r3 : List Cond := [Cond.code yX7_batchesFor cX7_batchesFor 3 (some .int), Cond.methodLink RX7 104 yX7_begin, Cond.instanceMethod yX7_begin, Cond.selects RX7 yX7_begin yX7_begin, Cond.code yX7_begin cX7_begin 4 none, Cond.fieldLink RX7 88 "ThingMakerModel" "batches" "I", Cond.methodLink RX7 107 yX7_gatherNow, Cond.instanceMethod yX7_gatherNow, Cond.selects RX7 yX7_gatherNow yX7_gatherNow, Cond.code yX7_gatherNow cX7_gatherNow 3 none]
def wsX7_makeBegun : List Cond := .code yX7_makeBegun cX7_makeBegun 3 none :: ((wsX7_makeBegun_r1 ++ (wsX7_makeBegun_r2 ++ wsX7_makeBegun_r3)) ++ wsX70)
def wsX7_beginMaking : List Cond := .code yX7_beginMaking cX7_beginMaking 1 none :: ([.fieldLink RX7 91 "ThingMakerModel" "depth" "I", .fieldLink RX7 88 "ThingMakerModel" "batches" "I", .fieldLink RX7 80 "ThingMakerModel" "fails" "Z"] ++ wsX70)
def wsX7_wishNow_r1 : List Cond := [Cond.methodLink RX7 116 yX7_beginMaking, Cond.instanceMethod yX7_beginMaking, Cond.selects RX7 yX7_beginMaking yX7_beginMaking, Cond.initialized RX7, Cond.code yX7_beginMaking cX7_beginMaking 1 none, Cond.fieldLink RX7 91 "ThingMakerModel" "depth" "I", Cond.fieldLink RX7 88 "ThingMakerModel" "batches" "I", Cond.fieldLink RX7 80 "ThingMakerModel" "fails" "Z", Cond.methodLink RX7 65 yX7_of, Cond.instanceMethod yX7_of, Cond.selects RX7 yX7_of yX7_of, Cond.code yX7_of cX7_of 3 (some .int), Cond.fieldLink RX7 7 "ThingMakerModel" "w" "[I", Cond.methodLink RX7 72 yX7_isMade, Cond.instanceMethod yX7_isMade, Cond.selects RX7 yX7_isMade yX7_isMade, Cond.code yX7_isMade cX7_isMade 2 (some .boolean), Cond.methodLink RX7 101 yX7_batchesFor, Cond.instanceMethod yX7_batchesFor, Cond.selects RX7 yX7_batchesFor yX7_batchesFor, Cond.code yX7_batchesFor cX7_batchesFor 3 (some .int), Cond.methodLink RX7 104 yX7_begin, Cond.instanceMethod yX7_begin, Cond.selects RX7 yX7_begin yX7_begin]
def wsX7_wishNow_r2 : List Cond := [Cond.code yX7_begin cX7_begin 4 none, Cond.fieldLink RX7 32 "ThingMakerModel" "what" "[I", Cond.fieldLink RX7 35 "ThingMakerModel" "many" "[I", Cond.fieldLink RX7 38 "ThingMakerModel" "next" "[I", Cond.fieldLink RX7 41 "ThingMakerModel" "uses" "[I", Cond.methodLink RX7 119 yX7_makeBegun, Cond.instanceMethod yX7_makeBegun, Cond.selects RX7 yX7_makeBegun yX7_makeBegun, Cond.code yX7_makeBegun cX7_makeBegun 3 none, Cond.methodLink RX7 69 yX7_ingredientOf, Cond.instanceMethod yX7_ingredientOf, Cond.selects RX7 yX7_ingredientOf yX7_ingredientOf, Cond.code yX7_ingredientOf cX7_ingredientOf 3 (some .int), Cond.methodLink RX7 110 yX7_amountOf, Cond.instanceMethod yX7_amountOf, Cond.selects RX7 yX7_amountOf yX7_amountOf, Cond.code yX7_amountOf cX7_amountOf 3 (some .int), Cond.methodLink RX7 113 yX7_take, Cond.instanceMethod yX7_take, Cond.selects RX7 yX7_take yX7_take, Cond.code yX7_take cX7_take 7 none, Cond.methodLink RX7 98 yX7_fromStore, Cond.instanceMethod yX7_fromStore, Cond.selects RX7 yX7_fromStore yX7_fromStore]
def wsX7_wishNow_r3 : List Cond := [Cond.code yX7_fromStore cX7_fromStore 4 (some .int), Cond.methodLink RX7 94 yX7_useUp, Cond.instanceMethod yX7_useUp, Cond.selects RX7 yX7_useUp yX7_useUp, Cond.code yX7_useUp cX7_useUp 3 none, Cond.methodLink RX7 54 yX7_put, Cond.instanceMethod yX7_put, Cond.selects RX7 yX7_put yX7_put, Cond.code yX7_put cX7_put 4 none, Cond.methodLink RX7 85 yX7_come, Cond.instanceMethod yX7_come, Cond.selects RX7 yX7_come yX7_come, Cond.code yX7_come cX7_come 4 none, Cond.constant RX7 84 (99999), Cond.methodLink RX7 107 yX7_gatherNow, Cond.instanceMethod yX7_gatherNow, Cond.selects RX7 yX7_gatherNow yX7_gatherNow, Cond.code yX7_gatherNow cX7_gatherNow 3 none]
def wsX7_wishNow : List Cond := .code yX7_wishNow cX7_wishNow 4 none :: ((wsX7_wishNow_r1 ++ (wsX7_wishNow_r2 ++ wsX7_wishNow_r3)) ++ wsX70)
def wsX7_hold : List Cond := .code yX7_hold cX7_hold 2 none :: ([.fieldLink RX7 44 "ThingMakerModel" "held" "[I", .fieldLink RX7 7 "ThingMakerModel" "w" "[I"] ++ wsX70)
def wsX7_restore : List Cond := .code yX7_restore cX7_restore 2 none :: ([.fieldLink RX7 7 "ThingMakerModel" "w" "[I", .fieldLink RX7 44 "ThingMakerModel" "held" "[I"] ++ wsX70)
def wsX7_endMaking : List Cond := .code yX7_endMaking cX7_endMaking 4 (some .int) :: ([.fieldLink RX7 80 "ThingMakerModel" "fails" "Z", .fieldLink RX7 7 "ThingMakerModel" "w" "[I", .fieldLink RX7 44 "ThingMakerModel" "held" "[I", .methodLink RX7 122 yX7_restore, .instanceMethod yX7_restore, .selects RX7 yX7_restore yX7_restore, .initialized RX7, .code yX7_restore cX7_restore 2 none, .methodLink RX7 125 yX7_remember, .instanceMethod yX7_remember, .selects RX7 yX7_remember yX7_remember, .code yX7_remember cX7_remember 2 none, .fieldLink RX7 58 "ThingMakerModel" "pastMany" "I", .fieldLink RX7 13 "ThingMakerModel" "past" "[I"] ++ wsX70)
def wsX7_wish_r1 : List Cond := [Cond.methodLink RX7 128 yX7_isThing, Cond.static yX7_isThing, Cond.initialized RX7, Cond.code yX7_isThing cX7_isThing 1 (some .boolean), Cond.methodLink RX7 61 yX7_isIn, Cond.static yX7_isIn, Cond.code yX7_isIn cX7_isIn 3 (some .boolean), Cond.methodLink RX7 131 yX7_hold, Cond.instanceMethod yX7_hold, Cond.selects RX7 yX7_hold yX7_hold, Cond.code yX7_hold cX7_hold 2 none, Cond.fieldLink RX7 44 "ThingMakerModel" "held" "[I", Cond.fieldLink RX7 7 "ThingMakerModel" "w" "[I", Cond.methodLink RX7 134 yX7_wishNow, Cond.instanceMethod yX7_wishNow, Cond.selects RX7 yX7_wishNow yX7_wishNow, Cond.code yX7_wishNow cX7_wishNow 4 none, Cond.methodLink RX7 116 yX7_beginMaking, Cond.instanceMethod yX7_beginMaking, Cond.selects RX7 yX7_beginMaking yX7_beginMaking, Cond.code yX7_beginMaking cX7_beginMaking 1 none, Cond.fieldLink RX7 91 "ThingMakerModel" "depth" "I", Cond.fieldLink RX7 88 "ThingMakerModel" "batches" "I", Cond.fieldLink RX7 80 "ThingMakerModel" "fails" "Z"]
def wsX7_wish_r2 : List Cond := [Cond.methodLink RX7 65 yX7_of, Cond.instanceMethod yX7_of, Cond.selects RX7 yX7_of yX7_of, Cond.code yX7_of cX7_of 3 (some .int), Cond.methodLink RX7 72 yX7_isMade, Cond.instanceMethod yX7_isMade, Cond.selects RX7 yX7_isMade yX7_isMade, Cond.code yX7_isMade cX7_isMade 2 (some .boolean), Cond.methodLink RX7 101 yX7_batchesFor, Cond.instanceMethod yX7_batchesFor, Cond.selects RX7 yX7_batchesFor yX7_batchesFor, Cond.code yX7_batchesFor cX7_batchesFor 3 (some .int), Cond.methodLink RX7 104 yX7_begin, Cond.instanceMethod yX7_begin, Cond.selects RX7 yX7_begin yX7_begin, Cond.code yX7_begin cX7_begin 4 none, Cond.fieldLink RX7 32 "ThingMakerModel" "what" "[I", Cond.fieldLink RX7 35 "ThingMakerModel" "many" "[I", Cond.fieldLink RX7 38 "ThingMakerModel" "next" "[I", Cond.fieldLink RX7 41 "ThingMakerModel" "uses" "[I", Cond.methodLink RX7 119 yX7_makeBegun, Cond.instanceMethod yX7_makeBegun, Cond.selects RX7 yX7_makeBegun yX7_makeBegun, Cond.code yX7_makeBegun cX7_makeBegun 3 none]
def wsX7_wish_r3 : List Cond := [Cond.methodLink RX7 69 yX7_ingredientOf, Cond.instanceMethod yX7_ingredientOf, Cond.selects RX7 yX7_ingredientOf yX7_ingredientOf, Cond.code yX7_ingredientOf cX7_ingredientOf 3 (some .int), Cond.methodLink RX7 110 yX7_amountOf, Cond.instanceMethod yX7_amountOf, Cond.selects RX7 yX7_amountOf yX7_amountOf, Cond.code yX7_amountOf cX7_amountOf 3 (some .int), Cond.methodLink RX7 113 yX7_take, Cond.instanceMethod yX7_take, Cond.selects RX7 yX7_take yX7_take, Cond.code yX7_take cX7_take 7 none, Cond.methodLink RX7 98 yX7_fromStore, Cond.instanceMethod yX7_fromStore, Cond.selects RX7 yX7_fromStore yX7_fromStore, Cond.code yX7_fromStore cX7_fromStore 4 (some .int), Cond.methodLink RX7 94 yX7_useUp, Cond.instanceMethod yX7_useUp, Cond.selects RX7 yX7_useUp yX7_useUp, Cond.code yX7_useUp cX7_useUp 3 none, Cond.methodLink RX7 54 yX7_put, Cond.instanceMethod yX7_put, Cond.selects RX7 yX7_put yX7_put, Cond.code yX7_put cX7_put 4 none]
def wsX7_wish_r4 : List Cond := [Cond.methodLink RX7 85 yX7_come, Cond.instanceMethod yX7_come, Cond.selects RX7 yX7_come yX7_come, Cond.code yX7_come cX7_come 4 none, Cond.constant RX7 84 (99999), Cond.methodLink RX7 107 yX7_gatherNow, Cond.instanceMethod yX7_gatherNow, Cond.selects RX7 yX7_gatherNow yX7_gatherNow, Cond.code yX7_gatherNow cX7_gatherNow 3 none, Cond.methodLink RX7 137 yX7_endMaking, Cond.instanceMethod yX7_endMaking, Cond.selects RX7 yX7_endMaking yX7_endMaking, Cond.code yX7_endMaking cX7_endMaking 4 (some .int), Cond.methodLink RX7 122 yX7_restore, Cond.instanceMethod yX7_restore, Cond.selects RX7 yX7_restore yX7_restore, Cond.code yX7_restore cX7_restore 2 none, Cond.methodLink RX7 125 yX7_remember, Cond.instanceMethod yX7_remember, Cond.selects RX7 yX7_remember yX7_remember, Cond.code yX7_remember cX7_remember 2 none, Cond.fieldLink RX7 58 "ThingMakerModel" "pastMany" "I", Cond.fieldLink RX7 13 "ThingMakerModel" "past" "[I"]
def wsX7_wish : List Cond := .code yX7_wish cX7_wish 3 (some .int) :: ((wsX7_wish_r1 ++ (wsX7_wish_r2 ++ (wsX7_wish_r3 ++ wsX7_wish_r4))) ++ wsX70)
def wsX7_make_r1 : List Cond := [Cond.methodLink RX7 128 yX7_isThing, Cond.static yX7_isThing, Cond.initialized RX7, Cond.code yX7_isThing cX7_isThing 1 (some .boolean), Cond.methodLink RX7 61 yX7_isIn, Cond.static yX7_isIn, Cond.code yX7_isIn cX7_isIn 3 (some .boolean), Cond.methodLink RX7 72 yX7_isMade, Cond.instanceMethod yX7_isMade, Cond.selects RX7 yX7_isMade yX7_isMade, Cond.code yX7_isMade cX7_isMade 2 (some .boolean), Cond.methodLink RX7 65 yX7_of, Cond.instanceMethod yX7_of, Cond.selects RX7 yX7_of yX7_of, Cond.code yX7_of cX7_of 3 (some .int), Cond.fieldLink RX7 7 "ThingMakerModel" "w" "[I", Cond.methodLink RX7 131 yX7_hold, Cond.instanceMethod yX7_hold, Cond.selects RX7 yX7_hold yX7_hold, Cond.code yX7_hold cX7_hold 2 none, Cond.fieldLink RX7 44 "ThingMakerModel" "held" "[I", Cond.methodLink RX7 116 yX7_beginMaking, Cond.instanceMethod yX7_beginMaking, Cond.selects RX7 yX7_beginMaking yX7_beginMaking]
def wsX7_make_r2 : List Cond := [Cond.code yX7_beginMaking cX7_beginMaking 1 none, Cond.fieldLink RX7 91 "ThingMakerModel" "depth" "I", Cond.fieldLink RX7 88 "ThingMakerModel" "batches" "I", Cond.fieldLink RX7 80 "ThingMakerModel" "fails" "Z", Cond.methodLink RX7 104 yX7_begin, Cond.instanceMethod yX7_begin, Cond.selects RX7 yX7_begin yX7_begin, Cond.code yX7_begin cX7_begin 4 none, Cond.fieldLink RX7 32 "ThingMakerModel" "what" "[I", Cond.fieldLink RX7 35 "ThingMakerModel" "many" "[I", Cond.fieldLink RX7 38 "ThingMakerModel" "next" "[I", Cond.fieldLink RX7 41 "ThingMakerModel" "uses" "[I", Cond.methodLink RX7 119 yX7_makeBegun, Cond.instanceMethod yX7_makeBegun, Cond.selects RX7 yX7_makeBegun yX7_makeBegun, Cond.code yX7_makeBegun cX7_makeBegun 3 none, Cond.methodLink RX7 69 yX7_ingredientOf, Cond.instanceMethod yX7_ingredientOf, Cond.selects RX7 yX7_ingredientOf yX7_ingredientOf, Cond.code yX7_ingredientOf cX7_ingredientOf 3 (some .int), Cond.methodLink RX7 110 yX7_amountOf, Cond.instanceMethod yX7_amountOf, Cond.selects RX7 yX7_amountOf yX7_amountOf, Cond.code yX7_amountOf cX7_amountOf 3 (some .int)]
def wsX7_make_r3 : List Cond := [Cond.methodLink RX7 113 yX7_take, Cond.instanceMethod yX7_take, Cond.selects RX7 yX7_take yX7_take, Cond.code yX7_take cX7_take 7 none, Cond.methodLink RX7 98 yX7_fromStore, Cond.instanceMethod yX7_fromStore, Cond.selects RX7 yX7_fromStore yX7_fromStore, Cond.code yX7_fromStore cX7_fromStore 4 (some .int), Cond.methodLink RX7 94 yX7_useUp, Cond.instanceMethod yX7_useUp, Cond.selects RX7 yX7_useUp yX7_useUp, Cond.code yX7_useUp cX7_useUp 3 none, Cond.methodLink RX7 54 yX7_put, Cond.instanceMethod yX7_put, Cond.selects RX7 yX7_put yX7_put, Cond.code yX7_put cX7_put 4 none, Cond.methodLink RX7 85 yX7_come, Cond.instanceMethod yX7_come, Cond.selects RX7 yX7_come yX7_come, Cond.code yX7_come cX7_come 4 none, Cond.constant RX7 84 (99999), Cond.methodLink RX7 101 yX7_batchesFor, Cond.instanceMethod yX7_batchesFor, Cond.selects RX7 yX7_batchesFor yX7_batchesFor]
def wsX7_make_r4 : List Cond := [Cond.code yX7_batchesFor cX7_batchesFor 3 (some .int), Cond.methodLink RX7 107 yX7_gatherNow, Cond.instanceMethod yX7_gatherNow, Cond.selects RX7 yX7_gatherNow yX7_gatherNow, Cond.code yX7_gatherNow cX7_gatherNow 3 none, Cond.methodLink RX7 137 yX7_endMaking, Cond.instanceMethod yX7_endMaking, Cond.selects RX7 yX7_endMaking yX7_endMaking, Cond.code yX7_endMaking cX7_endMaking 4 (some .int), Cond.methodLink RX7 122 yX7_restore, Cond.instanceMethod yX7_restore, Cond.selects RX7 yX7_restore yX7_restore, Cond.code yX7_restore cX7_restore 2 none, Cond.methodLink RX7 125 yX7_remember, Cond.instanceMethod yX7_remember, Cond.selects RX7 yX7_remember yX7_remember, Cond.code yX7_remember cX7_remember 2 none, Cond.fieldLink RX7 58 "ThingMakerModel" "pastMany" "I", Cond.fieldLink RX7 13 "ThingMakerModel" "past" "[I"]
def wsX7_make : List Cond := .code yX7_make cX7_make 3 (some .int) :: ((wsX7_make_r1 ++ (wsX7_make_r2 ++ (wsX7_make_r3 ++ wsX7_make_r4))) ++ wsX70)
def wsX7_mark : List Cond := .code yX7_mark cX7_mark 3 none :: ([.fieldLink RX7 141 "ThingMakerModel" "wrongKind" "I", .fieldLink RX7 144 "ThingMakerModel" "wrongPlace" "I"] ++ wsX70)
def wsX7_isNumber : List Cond := .code yX7_isNumber cX7_isNumber 1 (some .boolean) :: ([.fieldLink RX7 147 "ThingMakerModel" "stage" "I"] ++ wsX70)
def wsX7_endsWell : List Cond := .code yX7_endsWell cX7_endsWell 1 (some .boolean) :: ([.fieldLink RX7 154 "ThingMakerModel" "value" "I", .fieldLink RX7 157 "ThingMakerModel" "digitsAt" "I", .fieldLink RX7 147 "ThingMakerModel" "stage" "I", .fieldLink RX7 163 "ThingMakerModel" "readYield" "I", .methodLink RX7 150 yX7_isNumber, .instanceMethod yX7_isNumber, .selects RX7 yX7_isNumber yX7_isNumber, .initialized RX7, .code yX7_isNumber cX7_isNumber 1 (some .boolean), .methodLink RX7 61 yX7_isIn, .static yX7_isIn, .code yX7_isIn cX7_isIn 3 (some .boolean), .methodLink RX7 160 yX7_mark, .instanceMethod yX7_mark, .selects RX7 yX7_mark yX7_mark, .code yX7_mark cX7_mark 3 none, .fieldLink RX7 141 "ThingMakerModel" "wrongKind" "I", .fieldLink RX7 144 "ThingMakerModel" "wrongPlace" "I"] ++ wsX70)
def wsX7_readDigit : List Cond := .code yX7_readDigit cX7_readDigit 2 none :: ([.fieldLink RX7 147 "ThingMakerModel" "stage" "I", .fieldLink RX7 19 "ThingMakerModel" "text" "[I", .fieldLink RX7 154 "ThingMakerModel" "value" "I", .fieldLink RX7 166 "ThingMakerModel" "digits" "I", .fieldLink RX7 157 "ThingMakerModel" "digitsAt" "I", .methodLink RX7 150 yX7_isNumber, .instanceMethod yX7_isNumber, .selects RX7 yX7_isNumber yX7_isNumber, .initialized RX7, .code yX7_isNumber cX7_isNumber 1 (some .boolean), .methodLink RX7 160 yX7_mark, .instanceMethod yX7_mark, .selects RX7 yX7_mark yX7_mark, .code yX7_mark cX7_mark 3 none, .fieldLink RX7 141 "ThingMakerModel" "wrongKind" "I", .fieldLink RX7 144 "ThingMakerModel" "wrongPlace" "I"] ++ wsX70)
def wsX7_readIngredient : List Cond := .code yX7_readIngredient cX7_readIngredient 6 none :: ([.fieldLink RX7 169 "ThingMakerModel" "readMany" "I", .fieldLink RX7 47 "ThingMakerModel" "readParts" "[I", .fieldLink RX7 147 "ThingMakerModel" "stage" "I", .methodLink RX7 160 yX7_mark, .instanceMethod yX7_mark, .selects RX7 yX7_mark yX7_mark, .initialized RX7, .code yX7_mark cX7_mark 3 none, .fieldLink RX7 141 "ThingMakerModel" "wrongKind" "I", .fieldLink RX7 144 "ThingMakerModel" "wrongPlace" "I"] ++ wsX70)
def wsX7_readOther_r1 : List Cond := [Cond.fieldLink RX7 19 "ThingMakerModel" "text" "[I", Cond.fieldLink RX7 147 "ThingMakerModel" "stage" "I", Cond.fieldLink RX7 175 "ThingMakerModel" "readThing" "I", Cond.fieldLink RX7 154 "ThingMakerModel" "value" "I", Cond.methodLink RX7 172 yX7_endsWell, Cond.instanceMethod yX7_endsWell, Cond.selects RX7 yX7_endsWell yX7_endsWell, Cond.initialized RX7, Cond.code yX7_endsWell cX7_endsWell 1 (some .boolean), Cond.fieldLink RX7 157 "ThingMakerModel" "digitsAt" "I", Cond.fieldLink RX7 163 "ThingMakerModel" "readYield" "I", Cond.methodLink RX7 150 yX7_isNumber, Cond.instanceMethod yX7_isNumber, Cond.selects RX7 yX7_isNumber yX7_isNumber, Cond.code yX7_isNumber cX7_isNumber 1 (some .boolean), Cond.methodLink RX7 61 yX7_isIn, Cond.static yX7_isIn, Cond.code yX7_isIn cX7_isIn 3 (some .boolean), Cond.methodLink RX7 160 yX7_mark, Cond.instanceMethod yX7_mark, Cond.selects RX7 yX7_mark yX7_mark, Cond.code yX7_mark cX7_mark 3 none, Cond.fieldLink RX7 141 "ThingMakerModel" "wrongKind" "I", Cond.fieldLink RX7 144 "ThingMakerModel" "wrongPlace" "I"]
def wsX7_readOther_r2 : List Cond := [Cond.methodLink RX7 178 yX7_readIngredient, Cond.instanceMethod yX7_readIngredient, Cond.selects RX7 yX7_readIngredient yX7_readIngredient, Cond.code yX7_readIngredient cX7_readIngredient 6 none, Cond.fieldLink RX7 169 "ThingMakerModel" "readMany" "I", Cond.fieldLink RX7 47 "ThingMakerModel" "readParts" "[I"]
def wsX7_readOther : List Cond := .code yX7_readOther cX7_readOther 4 none :: ((wsX7_readOther_r1 ++ wsX7_readOther_r2) ++ wsX70)
def wsX7_readText_r1 : List Cond := [Cond.fieldLink RX7 163 "ThingMakerModel" "readYield" "I", Cond.fieldLink RX7 169 "ThingMakerModel" "readMany" "I", Cond.fieldLink RX7 147 "ThingMakerModel" "stage" "I", Cond.fieldLink RX7 181 "ThingMakerModel" "length" "I", Cond.fieldLink RX7 141 "ThingMakerModel" "wrongKind" "I", Cond.fieldLink RX7 19 "ThingMakerModel" "text" "[I", Cond.methodLink RX7 160 yX7_mark, Cond.instanceMethod yX7_mark, Cond.selects RX7 yX7_mark yX7_mark, Cond.initialized RX7, Cond.code yX7_mark cX7_mark 3 none, Cond.fieldLink RX7 144 "ThingMakerModel" "wrongPlace" "I", Cond.methodLink RX7 61 yX7_isIn, Cond.static yX7_isIn, Cond.code yX7_isIn cX7_isIn 3 (some .boolean), Cond.methodLink RX7 184 yX7_readDigit, Cond.instanceMethod yX7_readDigit, Cond.selects RX7 yX7_readDigit yX7_readDigit, Cond.code yX7_readDigit cX7_readDigit 2 none, Cond.fieldLink RX7 154 "ThingMakerModel" "value" "I", Cond.fieldLink RX7 166 "ThingMakerModel" "digits" "I", Cond.fieldLink RX7 157 "ThingMakerModel" "digitsAt" "I", Cond.methodLink RX7 150 yX7_isNumber, Cond.instanceMethod yX7_isNumber]
def wsX7_readText_r2 : List Cond := [Cond.selects RX7 yX7_isNumber yX7_isNumber, Cond.code yX7_isNumber cX7_isNumber 1 (some .boolean), Cond.methodLink RX7 188 yX7_readOther, Cond.instanceMethod yX7_readOther, Cond.selects RX7 yX7_readOther yX7_readOther, Cond.code yX7_readOther cX7_readOther 4 none, Cond.fieldLink RX7 175 "ThingMakerModel" "readThing" "I", Cond.methodLink RX7 172 yX7_endsWell, Cond.instanceMethod yX7_endsWell, Cond.selects RX7 yX7_endsWell yX7_endsWell, Cond.code yX7_endsWell cX7_endsWell 1 (some .boolean), Cond.methodLink RX7 178 yX7_readIngredient, Cond.instanceMethod yX7_readIngredient, Cond.selects RX7 yX7_readIngredient yX7_readIngredient, Cond.code yX7_readIngredient cX7_readIngredient 6 none, Cond.fieldLink RX7 47 "ThingMakerModel" "readParts" "[I"]
def wsX7_readText : List Cond := .code yX7_readText cX7_readText 2 none :: ((wsX7_readText_r1 ++ wsX7_readText_r2) ++ wsX70)
def wsX7_recipe_r1 : List Cond := [Cond.fieldLink RX7 141 "ThingMakerModel" "wrongKind" "I", Cond.fieldLink RX7 22 "ThingMakerModel" "faultKind" "I", Cond.fieldLink RX7 144 "ThingMakerModel" "wrongPlace" "I", Cond.fieldLink RX7 26 "ThingMakerModel" "faultPlace" "I", Cond.fieldLink RX7 175 "ThingMakerModel" "readThing" "I", Cond.fieldLink RX7 163 "ThingMakerModel" "readYield" "I", Cond.fieldLink RX7 169 "ThingMakerModel" "readMany" "I", Cond.fieldLink RX7 47 "ThingMakerModel" "readParts" "[I", Cond.fieldLink RX7 80 "ThingMakerModel" "fails" "Z", Cond.fieldLink RX7 29 "ThingMakerModel" "rank" "[I", Cond.methodLink RX7 191 yX7_readText, Cond.instanceMethod yX7_readText, Cond.selects RX7 yX7_readText yX7_readText, Cond.initialized RX7, Cond.code yX7_readText cX7_readText 2 none, Cond.fieldLink RX7 147 "ThingMakerModel" "stage" "I", Cond.fieldLink RX7 181 "ThingMakerModel" "length" "I", Cond.fieldLink RX7 19 "ThingMakerModel" "text" "[I", Cond.methodLink RX7 160 yX7_mark, Cond.instanceMethod yX7_mark, Cond.selects RX7 yX7_mark yX7_mark, Cond.code yX7_mark cX7_mark 3 none, Cond.methodLink RX7 61 yX7_isIn, Cond.static yX7_isIn]
def wsX7_recipe_r2 : List Cond := [Cond.code yX7_isIn cX7_isIn 3 (some .boolean), Cond.methodLink RX7 184 yX7_readDigit, Cond.instanceMethod yX7_readDigit, Cond.selects RX7 yX7_readDigit yX7_readDigit, Cond.code yX7_readDigit cX7_readDigit 2 none, Cond.fieldLink RX7 154 "ThingMakerModel" "value" "I", Cond.fieldLink RX7 166 "ThingMakerModel" "digits" "I", Cond.fieldLink RX7 157 "ThingMakerModel" "digitsAt" "I", Cond.methodLink RX7 150 yX7_isNumber, Cond.instanceMethod yX7_isNumber, Cond.selects RX7 yX7_isNumber yX7_isNumber, Cond.code yX7_isNumber cX7_isNumber 1 (some .boolean), Cond.methodLink RX7 188 yX7_readOther, Cond.instanceMethod yX7_readOther, Cond.selects RX7 yX7_readOther yX7_readOther, Cond.code yX7_readOther cX7_readOther 4 none, Cond.methodLink RX7 172 yX7_endsWell, Cond.instanceMethod yX7_endsWell, Cond.selects RX7 yX7_endsWell yX7_endsWell, Cond.code yX7_endsWell cX7_endsWell 1 (some .boolean), Cond.methodLink RX7 178 yX7_readIngredient, Cond.instanceMethod yX7_readIngredient, Cond.selects RX7 yX7_readIngredient yX7_readIngredient, Cond.code yX7_readIngredient cX7_readIngredient 6 none]
def wsX7_recipe_r3 : List Cond := [Cond.methodLink RX7 131 yX7_hold, Cond.instanceMethod yX7_hold, Cond.selects RX7 yX7_hold yX7_hold, Cond.code yX7_hold cX7_hold 2 none, Cond.fieldLink RX7 44 "ThingMakerModel" "held" "[I", Cond.fieldLink RX7 7 "ThingMakerModel" "w" "[I", Cond.methodLink RX7 54 yX7_put, Cond.instanceMethod yX7_put, Cond.selects RX7 yX7_put yX7_put, Cond.code yX7_put cX7_put 4 none, Cond.methodLink RX7 194 yX7_areRanks, Cond.instanceMethod yX7_areRanks, Cond.selects RX7 yX7_areRanks yX7_areRanks, Cond.code yX7_areRanks cX7_areRanks 3 (some .boolean), Cond.methodLink RX7 76 yX7_rankBy, Cond.instanceMethod yX7_rankBy, Cond.selects RX7 yX7_rankBy yX7_rankBy, Cond.code yX7_rankBy cX7_rankBy 7 (some .int), Cond.methodLink RX7 65 yX7_of, Cond.instanceMethod yX7_of, Cond.selects RX7 yX7_of yX7_of, Cond.code yX7_of cX7_of 3 (some .int), Cond.methodLink RX7 69 yX7_ingredientOf, Cond.instanceMethod yX7_ingredientOf]
def wsX7_recipe_r4 : List Cond := [Cond.selects RX7 yX7_ingredientOf yX7_ingredientOf, Cond.code yX7_ingredientOf cX7_ingredientOf 3 (some .int), Cond.methodLink RX7 72 yX7_isMade, Cond.instanceMethod yX7_isMade, Cond.selects RX7 yX7_isMade yX7_isMade, Cond.code yX7_isMade cX7_isMade 2 (some .boolean), Cond.methodLink RX7 122 yX7_restore, Cond.instanceMethod yX7_restore, Cond.selects RX7 yX7_restore yX7_restore, Cond.code yX7_restore cX7_restore 2 none, Cond.methodLink RX7 137 yX7_endMaking, Cond.instanceMethod yX7_endMaking, Cond.selects RX7 yX7_endMaking yX7_endMaking, Cond.code yX7_endMaking cX7_endMaking 4 (some .int), Cond.methodLink RX7 125 yX7_remember, Cond.instanceMethod yX7_remember, Cond.selects RX7 yX7_remember yX7_remember, Cond.code yX7_remember cX7_remember 2 none, Cond.fieldLink RX7 58 "ThingMakerModel" "pastMany" "I", Cond.fieldLink RX7 13 "ThingMakerModel" "past" "[I"]
def wsX7_recipe : List Cond := .code yX7_recipe cX7_recipe 2 (some .int) :: ((wsX7_recipe_r1 ++ (wsX7_recipe_r2 ++ (wsX7_recipe_r3 ++ wsX7_recipe_r4))) ++ wsX70)
def wsX7_forget_r1 : List Cond := [Cond.methodLink RX7 128 yX7_isThing, Cond.static yX7_isThing, Cond.initialized RX7, Cond.code yX7_isThing cX7_isThing 1 (some .boolean), Cond.methodLink RX7 61 yX7_isIn, Cond.static yX7_isIn, Cond.code yX7_isIn cX7_isIn 3 (some .boolean), Cond.methodLink RX7 72 yX7_isMade, Cond.instanceMethod yX7_isMade, Cond.selects RX7 yX7_isMade yX7_isMade, Cond.code yX7_isMade cX7_isMade 2 (some .boolean), Cond.methodLink RX7 65 yX7_of, Cond.instanceMethod yX7_of, Cond.selects RX7 yX7_of yX7_of, Cond.code yX7_of cX7_of 3 (some .int), Cond.fieldLink RX7 7 "ThingMakerModel" "w" "[I", Cond.methodLink RX7 125 yX7_remember, Cond.instanceMethod yX7_remember, Cond.selects RX7 yX7_remember yX7_remember, Cond.code yX7_remember cX7_remember 2 none, Cond.fieldLink RX7 58 "ThingMakerModel" "pastMany" "I", Cond.fieldLink RX7 13 "ThingMakerModel" "past" "[I", Cond.methodLink RX7 54 yX7_put, Cond.instanceMethod yX7_put]
def wsX7_forget_r2 : List Cond := [Cond.selects RX7 yX7_put yX7_put, Cond.code yX7_put cX7_put 4 none]
def wsX7_forget : List Cond := .code yX7_forget cX7_forget 3 (some .int) :: ((wsX7_forget_r1 ++ wsX7_forget_r2) ++ wsX70)
def wsX7_allow_r1 : List Cond := [Cond.fieldLink RX7 80 "ThingMakerModel" "fails" "Z", Cond.methodLink RX7 128 yX7_isThing, Cond.static yX7_isThing, Cond.initialized RX7, Cond.code yX7_isThing cX7_isThing 1 (some .boolean), Cond.methodLink RX7 61 yX7_isIn, Cond.static yX7_isIn, Cond.code yX7_isIn cX7_isIn 3 (some .boolean), Cond.methodLink RX7 65 yX7_of, Cond.instanceMethod yX7_of, Cond.selects RX7 yX7_of yX7_of, Cond.code yX7_of cX7_of 3 (some .int), Cond.fieldLink RX7 7 "ThingMakerModel" "w" "[I", Cond.methodLink RX7 131 yX7_hold, Cond.instanceMethod yX7_hold, Cond.selects RX7 yX7_hold yX7_hold, Cond.code yX7_hold cX7_hold 2 none, Cond.fieldLink RX7 44 "ThingMakerModel" "held" "[I", Cond.methodLink RX7 54 yX7_put, Cond.instanceMethod yX7_put, Cond.selects RX7 yX7_put yX7_put, Cond.code yX7_put cX7_put 4 none, Cond.methodLink RX7 194 yX7_areRanks, Cond.instanceMethod yX7_areRanks]
def wsX7_allow_r2 : List Cond := [Cond.selects RX7 yX7_areRanks yX7_areRanks, Cond.code yX7_areRanks cX7_areRanks 3 (some .boolean), Cond.fieldLink RX7 29 "ThingMakerModel" "rank" "[I", Cond.methodLink RX7 76 yX7_rankBy, Cond.instanceMethod yX7_rankBy, Cond.selects RX7 yX7_rankBy yX7_rankBy, Cond.code yX7_rankBy cX7_rankBy 7 (some .int), Cond.methodLink RX7 69 yX7_ingredientOf, Cond.instanceMethod yX7_ingredientOf, Cond.selects RX7 yX7_ingredientOf yX7_ingredientOf, Cond.code yX7_ingredientOf cX7_ingredientOf 3 (some .int), Cond.methodLink RX7 72 yX7_isMade, Cond.instanceMethod yX7_isMade, Cond.selects RX7 yX7_isMade yX7_isMade, Cond.code yX7_isMade cX7_isMade 2 (some .boolean), Cond.methodLink RX7 122 yX7_restore, Cond.instanceMethod yX7_restore, Cond.selects RX7 yX7_restore yX7_restore, Cond.code yX7_restore cX7_restore 2 none, Cond.methodLink RX7 137 yX7_endMaking, Cond.instanceMethod yX7_endMaking, Cond.selects RX7 yX7_endMaking yX7_endMaking, Cond.code yX7_endMaking cX7_endMaking 4 (some .int), Cond.methodLink RX7 125 yX7_remember]
def wsX7_allow_r3 : List Cond := [Cond.instanceMethod yX7_remember, Cond.selects RX7 yX7_remember yX7_remember, Cond.code yX7_remember cX7_remember 2 none, Cond.fieldLink RX7 58 "ThingMakerModel" "pastMany" "I", Cond.fieldLink RX7 13 "ThingMakerModel" "past" "[I"]
def wsX7_allow : List Cond := .code yX7_allow cX7_allow 5 (some .int) :: ((wsX7_allow_r1 ++ (wsX7_allow_r2 ++ wsX7_allow_r3)) ++ wsX70)
def wsX7_forbid : List Cond := .code yX7_forbid cX7_forbid 5 (some .int) :: ([.methodLink RX7 128 yX7_isThing, .static yX7_isThing, .initialized RX7, .code yX7_isThing cX7_isThing 1 (some .boolean), .methodLink RX7 61 yX7_isIn, .static yX7_isIn, .code yX7_isIn cX7_isIn 3 (some .boolean), .methodLink RX7 65 yX7_of, .instanceMethod yX7_of, .selects RX7 yX7_of yX7_of, .code yX7_of cX7_of 3 (some .int), .fieldLink RX7 7 "ThingMakerModel" "w" "[I", .methodLink RX7 125 yX7_remember, .instanceMethod yX7_remember, .selects RX7 yX7_remember yX7_remember, .code yX7_remember cX7_remember 2 none, .fieldLink RX7 58 "ThingMakerModel" "pastMany" "I", .fieldLink RX7 13 "ThingMakerModel" "past" "[I", .methodLink RX7 54 yX7_put, .instanceMethod yX7_put, .selects RX7 yX7_put yX7_put, .code yX7_put cX7_put 4 none] ++ wsX70)
def wsX7_isVessel : List Cond := .code yX7_isVessel cX7_isVessel 3 (some .boolean) :: ([.methodLink RX7 65 yX7_of, .instanceMethod yX7_of, .selects RX7 yX7_of yX7_of, .initialized RX7, .code yX7_of cX7_of 3 (some .int), .fieldLink RX7 7 "ThingMakerModel" "w" "[I"] ++ wsX70)
def wsX7_vessel_r1 : List Cond := [Cond.methodLink RX7 128 yX7_isThing, Cond.static yX7_isThing, Cond.initialized RX7, Cond.code yX7_isThing cX7_isThing 1 (some .boolean), Cond.methodLink RX7 61 yX7_isIn, Cond.static yX7_isIn, Cond.code yX7_isIn cX7_isIn 3 (some .boolean), Cond.methodLink RX7 65 yX7_of, Cond.instanceMethod yX7_of, Cond.selects RX7 yX7_of yX7_of, Cond.code yX7_of cX7_of 3 (some .int), Cond.fieldLink RX7 7 "ThingMakerModel" "w" "[I", Cond.methodLink RX7 197 yX7_isVessel, Cond.instanceMethod yX7_isVessel, Cond.selects RX7 yX7_isVessel yX7_isVessel, Cond.code yX7_isVessel cX7_isVessel 3 (some .boolean), Cond.methodLink RX7 125 yX7_remember, Cond.instanceMethod yX7_remember, Cond.selects RX7 yX7_remember yX7_remember, Cond.code yX7_remember cX7_remember 2 none, Cond.fieldLink RX7 58 "ThingMakerModel" "pastMany" "I", Cond.fieldLink RX7 13 "ThingMakerModel" "past" "[I", Cond.methodLink RX7 54 yX7_put, Cond.instanceMethod yX7_put]
def wsX7_vessel_r2 : List Cond := [Cond.selects RX7 yX7_put yX7_put, Cond.code yX7_put cX7_put 4 none]
def wsX7_vessel : List Cond := .code yX7_vessel cX7_vessel 4 (some .int) :: ((wsX7_vessel_r1 ++ wsX7_vessel_r2) ++ wsX70)
def wsX7_bring : List Cond := .code yX7_bring cX7_bring 4 (some .int) :: ([.constant RX7 84 (99999), .methodLink RX7 128 yX7_isThing, .static yX7_isThing, .initialized RX7, .code yX7_isThing cX7_isThing 1 (some .boolean), .methodLink RX7 61 yX7_isIn, .static yX7_isIn, .code yX7_isIn cX7_isIn 3 (some .boolean), .methodLink RX7 65 yX7_of, .instanceMethod yX7_of, .selects RX7 yX7_of yX7_of, .code yX7_of cX7_of 3 (some .int), .fieldLink RX7 7 "ThingMakerModel" "w" "[I", .methodLink RX7 125 yX7_remember, .instanceMethod yX7_remember, .selects RX7 yX7_remember yX7_remember, .code yX7_remember cX7_remember 2 none, .fieldLink RX7 58 "ThingMakerModel" "pastMany" "I", .fieldLink RX7 13 "ThingMakerModel" "past" "[I", .methodLink RX7 54 yX7_put, .instanceMethod yX7_put, .selects RX7 yX7_put yX7_put, .code yX7_put cX7_put 4 none] ++ wsX70)
def wsX7_undo : List Cond := .code yX7_undo cX7_undo 2 (some .int) :: ([.fieldLink RX7 58 "ThingMakerModel" "pastMany" "I", .fieldLink RX7 7 "ThingMakerModel" "w" "[I", .fieldLink RX7 13 "ThingMakerModel" "past" "[I"] ++ wsX70)
def wsX7_write : List Cond := .code yX7_write cX7_write 2 (some .int) :: ([.fieldLink RX7 181 "ThingMakerModel" "length" "I", .fieldLink RX7 19 "ThingMakerModel" "text" "[I", .methodLink RX7 61 yX7_isIn, .static yX7_isIn, .initialized RX7, .code yX7_isIn cX7_isIn 3 (some .boolean)] ++ wsX70)
def wsX7_wipe : List Cond := .code yX7_wipe cX7_wipe 2 (some .int) :: ([.fieldLink RX7 181 "ThingMakerModel" "length" "I"] ++ wsX70)
def wsX7_fault : List Cond := .code yX7_fault cX7_fault 2 (some .int) :: ([.fieldLink RX7 22 "ThingMakerModel" "faultKind" "I", .fieldLink RX7 26 "ThingMakerModel" "faultPlace" "I"] ++ wsX70)
def wsX7_recipes : List Cond := .code yX7_recipes cX7_recipes 3 (some .int) :: ([.methodLink RX7 72 yX7_isMade, .instanceMethod yX7_isMade, .selects RX7 yX7_isMade yX7_isMade, .initialized RX7, .code yX7_isMade cX7_isMade 2 (some .boolean), .methodLink RX7 65 yX7_of, .instanceMethod yX7_of, .selects RX7 yX7_of yX7_of, .code yX7_of cX7_of 3 (some .int), .fieldLink RX7 7 "ThingMakerModel" "w" "[I"] ++ wsX70)
def wsX7_stored : List Cond := .code yX7_stored cX7_stored 3 (some .int) :: ([.methodLink RX7 65 yX7_of, .instanceMethod yX7_of, .selects RX7 yX7_of yX7_of, .initialized RX7, .code yX7_of cX7_of 3 (some .int), .fieldLink RX7 7 "ThingMakerModel" "w" "[I"] ++ wsX70)
def wsX7_greatestRank : List Cond := .code yX7_greatestRank cX7_greatestRank 4 (some .int) :: ([.fieldLink RX7 29 "ThingMakerModel" "rank" "[I", .methodLink RX7 194 yX7_areRanks, .instanceMethod yX7_areRanks, .selects RX7 yX7_areRanks yX7_areRanks, .initialized RX7, .code yX7_areRanks cX7_areRanks 3 (some .boolean), .methodLink RX7 76 yX7_rankBy, .instanceMethod yX7_rankBy, .selects RX7 yX7_rankBy yX7_rankBy, .code yX7_rankBy cX7_rankBy 7 (some .int), .methodLink RX7 65 yX7_of, .instanceMethod yX7_of, .selects RX7 yX7_of yX7_of, .code yX7_of cX7_of 3 (some .int), .fieldLink RX7 7 "ThingMakerModel" "w" "[I", .methodLink RX7 69 yX7_ingredientOf, .instanceMethod yX7_ingredientOf, .selects RX7 yX7_ingredientOf yX7_ingredientOf, .code yX7_ingredientOf cX7_ingredientOf 3 (some .int), .methodLink RX7 72 yX7_isMade, .instanceMethod yX7_isMade, .selects RX7 yX7_isMade yX7_isMade, .code yX7_isMade cX7_isMade 2 (some .boolean)] ++ wsX70)
def wsX7_madeThings : List Cond := .code yX7_madeThings cX7_madeThings 3 (some .int) :: ([.methodLink RX7 72 yX7_isMade, .instanceMethod yX7_isMade, .selects RX7 yX7_isMade yX7_isMade, .initialized RX7, .code yX7_isMade cX7_isMade 2 (some .boolean), .methodLink RX7 65 yX7_of, .instanceMethod yX7_of, .selects RX7 yX7_of yX7_of, .code yX7_of cX7_of 3 (some .int), .fieldLink RX7 7 "ThingMakerModel" "w" "[I"] ++ wsX70)
def wsX7_told_r1 : List Cond := [Cond.fieldLink RX7 7 "ThingMakerModel" "w" "[I", Cond.fieldLink RX7 181 "ThingMakerModel" "length" "I", Cond.fieldLink RX7 58 "ThingMakerModel" "pastMany" "I", Cond.methodLink RX7 200 yX7_recipes, Cond.instanceMethod yX7_recipes, Cond.selects RX7 yX7_recipes yX7_recipes, Cond.initialized RX7, Cond.code yX7_recipes cX7_recipes 3 (some .int), Cond.methodLink RX7 72 yX7_isMade, Cond.instanceMethod yX7_isMade, Cond.selects RX7 yX7_isMade yX7_isMade, Cond.code yX7_isMade cX7_isMade 2 (some .boolean), Cond.methodLink RX7 65 yX7_of, Cond.instanceMethod yX7_of, Cond.selects RX7 yX7_of yX7_of, Cond.code yX7_of cX7_of 3 (some .int), Cond.methodLink RX7 203 yX7_stored, Cond.instanceMethod yX7_stored, Cond.selects RX7 yX7_stored yX7_stored, Cond.code yX7_stored cX7_stored 3 (some .int), Cond.methodLink RX7 206 yX7_greatestRank, Cond.instanceMethod yX7_greatestRank, Cond.selects RX7 yX7_greatestRank yX7_greatestRank, Cond.code yX7_greatestRank cX7_greatestRank 4 (some .int)]
def wsX7_told_r2 : List Cond := [Cond.fieldLink RX7 29 "ThingMakerModel" "rank" "[I", Cond.methodLink RX7 194 yX7_areRanks, Cond.instanceMethod yX7_areRanks, Cond.selects RX7 yX7_areRanks yX7_areRanks, Cond.code yX7_areRanks cX7_areRanks 3 (some .boolean), Cond.methodLink RX7 76 yX7_rankBy, Cond.instanceMethod yX7_rankBy, Cond.selects RX7 yX7_rankBy yX7_rankBy, Cond.code yX7_rankBy cX7_rankBy 7 (some .int), Cond.methodLink RX7 69 yX7_ingredientOf, Cond.instanceMethod yX7_ingredientOf, Cond.selects RX7 yX7_ingredientOf yX7_ingredientOf, Cond.code yX7_ingredientOf cX7_ingredientOf 3 (some .int), Cond.methodLink RX7 209 yX7_madeThings, Cond.instanceMethod yX7_madeThings, Cond.selects RX7 yX7_madeThings yX7_madeThings, Cond.code yX7_madeThings cX7_madeThings 3 (some .int)]
def wsX7_told : List Cond := .code yX7_told cX7_told 2 (some .int) :: ((wsX7_told_r1 ++ wsX7_told_r2) ++ wsX70)
def wsX7_thing_r1 : List Cond := [Cond.fieldLink RX7 29 "ThingMakerModel" "rank" "[I", Cond.methodLink RX7 128 yX7_isThing, Cond.static yX7_isThing, Cond.initialized RX7, Cond.code yX7_isThing cX7_isThing 1 (some .boolean), Cond.methodLink RX7 61 yX7_isIn, Cond.static yX7_isIn, Cond.code yX7_isIn cX7_isIn 3 (some .boolean), Cond.methodLink RX7 65 yX7_of, Cond.instanceMethod yX7_of, Cond.selects RX7 yX7_of yX7_of, Cond.code yX7_of cX7_of 3 (some .int), Cond.fieldLink RX7 7 "ThingMakerModel" "w" "[I", Cond.methodLink RX7 194 yX7_areRanks, Cond.instanceMethod yX7_areRanks, Cond.selects RX7 yX7_areRanks yX7_areRanks, Cond.code yX7_areRanks cX7_areRanks 3 (some .boolean), Cond.methodLink RX7 76 yX7_rankBy, Cond.instanceMethod yX7_rankBy, Cond.selects RX7 yX7_rankBy yX7_rankBy, Cond.code yX7_rankBy cX7_rankBy 7 (some .int), Cond.methodLink RX7 69 yX7_ingredientOf, Cond.instanceMethod yX7_ingredientOf, Cond.selects RX7 yX7_ingredientOf yX7_ingredientOf]
def wsX7_thing_r2 : List Cond := [Cond.code yX7_ingredientOf cX7_ingredientOf 3 (some .int), Cond.methodLink RX7 72 yX7_isMade, Cond.instanceMethod yX7_isMade, Cond.selects RX7 yX7_isMade yX7_isMade, Cond.code yX7_isMade cX7_isMade 2 (some .boolean)]
def wsX7_thing : List Cond := .code yX7_thing cX7_thing 4 (some .int) :: ((wsX7_thing_r1 ++ wsX7_thing_r2) ++ wsX70)
def wsX7_ingredient : List Cond := .code yX7_ingredient cX7_ingredient 4 (some .int) :: ([.methodLink RX7 128 yX7_isThing, .static yX7_isThing, .initialized RX7, .code yX7_isThing cX7_isThing 1 (some .boolean), .methodLink RX7 61 yX7_isIn, .static yX7_isIn, .code yX7_isIn cX7_isIn 3 (some .boolean), .methodLink RX7 65 yX7_of, .instanceMethod yX7_of, .selects RX7 yX7_of yX7_of, .code yX7_of cX7_of 3 (some .int), .fieldLink RX7 7 "ThingMakerModel" "w" "[I"] ++ wsX70)
def wsX7_substitute : List Cond := .code yX7_substitute cX7_substitute 3 (some .int) :: ([.methodLink RX7 128 yX7_isThing, .static yX7_isThing, .initialized RX7, .code yX7_isThing cX7_isThing 1 (some .boolean), .methodLink RX7 61 yX7_isIn, .static yX7_isIn, .code yX7_isIn cX7_isIn 3 (some .boolean), .methodLink RX7 65 yX7_of, .instanceMethod yX7_of, .selects RX7 yX7_of yX7_of, .code yX7_of cX7_of 3 (some .int), .fieldLink RX7 7 "ThingMakerModel" "w" "[I"] ++ wsX70)
def wsX7_reach : List Cond := .code yX7_reach cX7_reach 5 none :: ([.fieldLink RX7 50 "ThingMakerModel" "reached" "[Z", .methodLink RX7 65 yX7_of, .instanceMethod yX7_of, .selects RX7 yX7_of yX7_of, .initialized RX7, .code yX7_of cX7_of 3 (some .int), .fieldLink RX7 7 "ThingMakerModel" "w" "[I", .methodLink RX7 69 yX7_ingredientOf, .instanceMethod yX7_ingredientOf, .selects RX7 yX7_ingredientOf yX7_ingredientOf, .code yX7_ingredientOf cX7_ingredientOf 3 (some .int)] ++ wsX70)
def wsX7_isNeeded : List Cond := .code yX7_isNeeded cX7_isNeeded 5 (some .int) :: ([.fieldLink RX7 50 "ThingMakerModel" "reached" "[Z", .methodLink RX7 128 yX7_isThing, .static yX7_isThing, .initialized RX7, .code yX7_isThing cX7_isThing 1 (some .boolean), .methodLink RX7 61 yX7_isIn, .static yX7_isIn, .code yX7_isIn cX7_isIn 3 (some .boolean), .methodLink RX7 212 yX7_reach, .instanceMethod yX7_reach, .selects RX7 yX7_reach yX7_reach, .code yX7_reach cX7_reach 5 none, .methodLink RX7 65 yX7_of, .instanceMethod yX7_of, .selects RX7 yX7_of yX7_of, .code yX7_of cX7_of 3 (some .int), .fieldLink RX7 7 "ThingMakerModel" "w" "[I", .methodLink RX7 69 yX7_ingredientOf, .instanceMethod yX7_ingredientOf, .selects RX7 yX7_ingredientOf yX7_ingredientOf, .code yX7_ingredientOf cX7_ingredientOf 3 (some .int)] ++ wsX70)
def wsX7_share : List Cond := .code yX7_share cX7_share 3 (some .float) :: ([.fieldLink RX7 7 "ThingMakerModel" "w" "[I", .methodLink RX7 65 yX7_of, .instanceMethod yX7_of, .selects RX7 yX7_of yX7_of, .initialized RX7, .code yX7_of cX7_of 3 (some .int)] ++ wsX70)
def wsX7_tryWish_r1 : List Cond := [Cond.fieldLink RX7 7 "ThingMakerModel" "w" "[I", Cond.fieldLink RX7 80 "ThingMakerModel" "fails" "Z", Cond.methodLink RX7 134 yX7_wishNow, Cond.instanceMethod yX7_wishNow, Cond.selects RX7 yX7_wishNow yX7_wishNow, Cond.initialized RX7, Cond.code yX7_wishNow cX7_wishNow 4 none, Cond.methodLink RX7 116 yX7_beginMaking, Cond.instanceMethod yX7_beginMaking, Cond.selects RX7 yX7_beginMaking yX7_beginMaking, Cond.code yX7_beginMaking cX7_beginMaking 1 none, Cond.fieldLink RX7 91 "ThingMakerModel" "depth" "I", Cond.fieldLink RX7 88 "ThingMakerModel" "batches" "I", Cond.methodLink RX7 65 yX7_of, Cond.instanceMethod yX7_of, Cond.selects RX7 yX7_of yX7_of, Cond.code yX7_of cX7_of 3 (some .int), Cond.methodLink RX7 72 yX7_isMade, Cond.instanceMethod yX7_isMade, Cond.selects RX7 yX7_isMade yX7_isMade, Cond.code yX7_isMade cX7_isMade 2 (some .boolean), Cond.methodLink RX7 101 yX7_batchesFor, Cond.instanceMethod yX7_batchesFor, Cond.selects RX7 yX7_batchesFor yX7_batchesFor]
def wsX7_tryWish_r2 : List Cond := [Cond.code yX7_batchesFor cX7_batchesFor 3 (some .int), Cond.methodLink RX7 104 yX7_begin, Cond.instanceMethod yX7_begin, Cond.selects RX7 yX7_begin yX7_begin, Cond.code yX7_begin cX7_begin 4 none, Cond.fieldLink RX7 32 "ThingMakerModel" "what" "[I", Cond.fieldLink RX7 35 "ThingMakerModel" "many" "[I", Cond.fieldLink RX7 38 "ThingMakerModel" "next" "[I", Cond.fieldLink RX7 41 "ThingMakerModel" "uses" "[I", Cond.methodLink RX7 119 yX7_makeBegun, Cond.instanceMethod yX7_makeBegun, Cond.selects RX7 yX7_makeBegun yX7_makeBegun, Cond.code yX7_makeBegun cX7_makeBegun 3 none, Cond.methodLink RX7 69 yX7_ingredientOf, Cond.instanceMethod yX7_ingredientOf, Cond.selects RX7 yX7_ingredientOf yX7_ingredientOf, Cond.code yX7_ingredientOf cX7_ingredientOf 3 (some .int), Cond.methodLink RX7 110 yX7_amountOf, Cond.instanceMethod yX7_amountOf, Cond.selects RX7 yX7_amountOf yX7_amountOf, Cond.code yX7_amountOf cX7_amountOf 3 (some .int), Cond.methodLink RX7 113 yX7_take, Cond.instanceMethod yX7_take, Cond.selects RX7 yX7_take yX7_take]
def wsX7_tryWish_r3 : List Cond := [Cond.code yX7_take cX7_take 7 none, Cond.methodLink RX7 98 yX7_fromStore, Cond.instanceMethod yX7_fromStore, Cond.selects RX7 yX7_fromStore yX7_fromStore, Cond.code yX7_fromStore cX7_fromStore 4 (some .int), Cond.methodLink RX7 94 yX7_useUp, Cond.instanceMethod yX7_useUp, Cond.selects RX7 yX7_useUp yX7_useUp, Cond.code yX7_useUp cX7_useUp 3 none, Cond.methodLink RX7 54 yX7_put, Cond.instanceMethod yX7_put, Cond.selects RX7 yX7_put yX7_put, Cond.code yX7_put cX7_put 4 none, Cond.methodLink RX7 85 yX7_come, Cond.instanceMethod yX7_come, Cond.selects RX7 yX7_come yX7_come, Cond.code yX7_come cX7_come 4 none, Cond.constant RX7 84 (99999), Cond.methodLink RX7 107 yX7_gatherNow, Cond.instanceMethod yX7_gatherNow, Cond.selects RX7 yX7_gatherNow yX7_gatherNow, Cond.code yX7_gatherNow cX7_gatherNow 3 none, Cond.methodLink RX7 122 yX7_restore, Cond.instanceMethod yX7_restore]
def wsX7_tryWish_r4 : List Cond := [Cond.selects RX7 yX7_restore yX7_restore, Cond.code yX7_restore cX7_restore 2 none, Cond.fieldLink RX7 44 "ThingMakerModel" "held" "[I"]
def wsX7_tryWish : List Cond := .code yX7_tryWish cX7_tryWish 6 (some .int) :: ((wsX7_tryWish_r1 ++ (wsX7_tryWish_r2 ++ (wsX7_tryWish_r3 ++ wsX7_tryWish_r4))) ++ wsX70)
def wsX7_gather_r1 : List Cond := [Cond.methodLink RX7 128 yX7_isThing, Cond.static yX7_isThing, Cond.initialized RX7, Cond.code yX7_isThing cX7_isThing 1 (some .boolean), Cond.methodLink RX7 61 yX7_isIn, Cond.static yX7_isIn, Cond.code yX7_isIn cX7_isIn 3 (some .boolean), Cond.methodLink RX7 131 yX7_hold, Cond.instanceMethod yX7_hold, Cond.selects RX7 yX7_hold yX7_hold, Cond.code yX7_hold cX7_hold 2 none, Cond.fieldLink RX7 44 "ThingMakerModel" "held" "[I", Cond.fieldLink RX7 7 "ThingMakerModel" "w" "[I", Cond.methodLink RX7 215 yX7_tryWish, Cond.instanceMethod yX7_tryWish, Cond.selects RX7 yX7_tryWish yX7_tryWish, Cond.code yX7_tryWish cX7_tryWish 6 (some .int), Cond.fieldLink RX7 80 "ThingMakerModel" "fails" "Z", Cond.methodLink RX7 134 yX7_wishNow, Cond.instanceMethod yX7_wishNow, Cond.selects RX7 yX7_wishNow yX7_wishNow, Cond.code yX7_wishNow cX7_wishNow 4 none, Cond.methodLink RX7 116 yX7_beginMaking, Cond.instanceMethod yX7_beginMaking]
def wsX7_gather_r2 : List Cond := [Cond.selects RX7 yX7_beginMaking yX7_beginMaking, Cond.code yX7_beginMaking cX7_beginMaking 1 none, Cond.fieldLink RX7 91 "ThingMakerModel" "depth" "I", Cond.fieldLink RX7 88 "ThingMakerModel" "batches" "I", Cond.methodLink RX7 65 yX7_of, Cond.instanceMethod yX7_of, Cond.selects RX7 yX7_of yX7_of, Cond.code yX7_of cX7_of 3 (some .int), Cond.methodLink RX7 72 yX7_isMade, Cond.instanceMethod yX7_isMade, Cond.selects RX7 yX7_isMade yX7_isMade, Cond.code yX7_isMade cX7_isMade 2 (some .boolean), Cond.methodLink RX7 101 yX7_batchesFor, Cond.instanceMethod yX7_batchesFor, Cond.selects RX7 yX7_batchesFor yX7_batchesFor, Cond.code yX7_batchesFor cX7_batchesFor 3 (some .int), Cond.methodLink RX7 104 yX7_begin, Cond.instanceMethod yX7_begin, Cond.selects RX7 yX7_begin yX7_begin, Cond.code yX7_begin cX7_begin 4 none, Cond.fieldLink RX7 32 "ThingMakerModel" "what" "[I", Cond.fieldLink RX7 35 "ThingMakerModel" "many" "[I", Cond.fieldLink RX7 38 "ThingMakerModel" "next" "[I", Cond.fieldLink RX7 41 "ThingMakerModel" "uses" "[I"]
def wsX7_gather_r3 : List Cond := [Cond.methodLink RX7 119 yX7_makeBegun, Cond.instanceMethod yX7_makeBegun, Cond.selects RX7 yX7_makeBegun yX7_makeBegun, Cond.code yX7_makeBegun cX7_makeBegun 3 none, Cond.methodLink RX7 69 yX7_ingredientOf, Cond.instanceMethod yX7_ingredientOf, Cond.selects RX7 yX7_ingredientOf yX7_ingredientOf, Cond.code yX7_ingredientOf cX7_ingredientOf 3 (some .int), Cond.methodLink RX7 110 yX7_amountOf, Cond.instanceMethod yX7_amountOf, Cond.selects RX7 yX7_amountOf yX7_amountOf, Cond.code yX7_amountOf cX7_amountOf 3 (some .int), Cond.methodLink RX7 113 yX7_take, Cond.instanceMethod yX7_take, Cond.selects RX7 yX7_take yX7_take, Cond.code yX7_take cX7_take 7 none, Cond.methodLink RX7 98 yX7_fromStore, Cond.instanceMethod yX7_fromStore, Cond.selects RX7 yX7_fromStore yX7_fromStore, Cond.code yX7_fromStore cX7_fromStore 4 (some .int), Cond.methodLink RX7 94 yX7_useUp, Cond.instanceMethod yX7_useUp, Cond.selects RX7 yX7_useUp yX7_useUp, Cond.code yX7_useUp cX7_useUp 3 none]
def wsX7_gather_r4 : List Cond := [Cond.methodLink RX7 54 yX7_put, Cond.instanceMethod yX7_put, Cond.selects RX7 yX7_put yX7_put, Cond.code yX7_put cX7_put 4 none, Cond.methodLink RX7 85 yX7_come, Cond.instanceMethod yX7_come, Cond.selects RX7 yX7_come yX7_come, Cond.code yX7_come cX7_come 4 none, Cond.constant RX7 84 (99999), Cond.methodLink RX7 107 yX7_gatherNow, Cond.instanceMethod yX7_gatherNow, Cond.selects RX7 yX7_gatherNow yX7_gatherNow, Cond.code yX7_gatherNow cX7_gatherNow 3 none, Cond.methodLink RX7 122 yX7_restore, Cond.instanceMethod yX7_restore, Cond.selects RX7 yX7_restore yX7_restore, Cond.code yX7_restore cX7_restore 2 none]
def wsX7_gather : List Cond := .code yX7_gather cX7_gather 4 (some .int) :: ((wsX7_gather_r1 ++ (wsX7_gather_r2 ++ (wsX7_gather_r3 ++ wsX7_gather_r4))) ++ wsX70)
def wsX7_canHave_r1 : List Cond := [Cond.methodLink RX7 128 yX7_isThing, Cond.static yX7_isThing, Cond.initialized RX7, Cond.code yX7_isThing cX7_isThing 1 (some .boolean), Cond.methodLink RX7 61 yX7_isIn, Cond.static yX7_isIn, Cond.code yX7_isIn cX7_isIn 3 (some .boolean), Cond.methodLink RX7 131 yX7_hold, Cond.instanceMethod yX7_hold, Cond.selects RX7 yX7_hold yX7_hold, Cond.code yX7_hold cX7_hold 2 none, Cond.fieldLink RX7 44 "ThingMakerModel" "held" "[I", Cond.fieldLink RX7 7 "ThingMakerModel" "w" "[I", Cond.methodLink RX7 215 yX7_tryWish, Cond.instanceMethod yX7_tryWish, Cond.selects RX7 yX7_tryWish yX7_tryWish, Cond.code yX7_tryWish cX7_tryWish 6 (some .int), Cond.fieldLink RX7 80 "ThingMakerModel" "fails" "Z", Cond.methodLink RX7 134 yX7_wishNow, Cond.instanceMethod yX7_wishNow, Cond.selects RX7 yX7_wishNow yX7_wishNow, Cond.code yX7_wishNow cX7_wishNow 4 none, Cond.methodLink RX7 116 yX7_beginMaking, Cond.instanceMethod yX7_beginMaking]
def wsX7_canHave_r2 : List Cond := [Cond.selects RX7 yX7_beginMaking yX7_beginMaking, Cond.code yX7_beginMaking cX7_beginMaking 1 none, Cond.fieldLink RX7 91 "ThingMakerModel" "depth" "I", Cond.fieldLink RX7 88 "ThingMakerModel" "batches" "I", Cond.methodLink RX7 65 yX7_of, Cond.instanceMethod yX7_of, Cond.selects RX7 yX7_of yX7_of, Cond.code yX7_of cX7_of 3 (some .int), Cond.methodLink RX7 72 yX7_isMade, Cond.instanceMethod yX7_isMade, Cond.selects RX7 yX7_isMade yX7_isMade, Cond.code yX7_isMade cX7_isMade 2 (some .boolean), Cond.methodLink RX7 101 yX7_batchesFor, Cond.instanceMethod yX7_batchesFor, Cond.selects RX7 yX7_batchesFor yX7_batchesFor, Cond.code yX7_batchesFor cX7_batchesFor 3 (some .int), Cond.methodLink RX7 104 yX7_begin, Cond.instanceMethod yX7_begin, Cond.selects RX7 yX7_begin yX7_begin, Cond.code yX7_begin cX7_begin 4 none, Cond.fieldLink RX7 32 "ThingMakerModel" "what" "[I", Cond.fieldLink RX7 35 "ThingMakerModel" "many" "[I", Cond.fieldLink RX7 38 "ThingMakerModel" "next" "[I", Cond.fieldLink RX7 41 "ThingMakerModel" "uses" "[I"]
def wsX7_canHave_r3 : List Cond := [Cond.methodLink RX7 119 yX7_makeBegun, Cond.instanceMethod yX7_makeBegun, Cond.selects RX7 yX7_makeBegun yX7_makeBegun, Cond.code yX7_makeBegun cX7_makeBegun 3 none, Cond.methodLink RX7 69 yX7_ingredientOf, Cond.instanceMethod yX7_ingredientOf, Cond.selects RX7 yX7_ingredientOf yX7_ingredientOf, Cond.code yX7_ingredientOf cX7_ingredientOf 3 (some .int), Cond.methodLink RX7 110 yX7_amountOf, Cond.instanceMethod yX7_amountOf, Cond.selects RX7 yX7_amountOf yX7_amountOf, Cond.code yX7_amountOf cX7_amountOf 3 (some .int), Cond.methodLink RX7 113 yX7_take, Cond.instanceMethod yX7_take, Cond.selects RX7 yX7_take yX7_take, Cond.code yX7_take cX7_take 7 none, Cond.methodLink RX7 98 yX7_fromStore, Cond.instanceMethod yX7_fromStore, Cond.selects RX7 yX7_fromStore yX7_fromStore, Cond.code yX7_fromStore cX7_fromStore 4 (some .int), Cond.methodLink RX7 94 yX7_useUp, Cond.instanceMethod yX7_useUp, Cond.selects RX7 yX7_useUp yX7_useUp, Cond.code yX7_useUp cX7_useUp 3 none]
def wsX7_canHave_r4 : List Cond := [Cond.methodLink RX7 54 yX7_put, Cond.instanceMethod yX7_put, Cond.selects RX7 yX7_put yX7_put, Cond.code yX7_put cX7_put 4 none, Cond.methodLink RX7 85 yX7_come, Cond.instanceMethod yX7_come, Cond.selects RX7 yX7_come yX7_come, Cond.code yX7_come cX7_come 4 none, Cond.constant RX7 84 (99999), Cond.methodLink RX7 107 yX7_gatherNow, Cond.instanceMethod yX7_gatherNow, Cond.selects RX7 yX7_gatherNow yX7_gatherNow, Cond.code yX7_gatherNow cX7_gatherNow 3 none, Cond.methodLink RX7 122 yX7_restore, Cond.instanceMethod yX7_restore, Cond.selects RX7 yX7_restore yX7_restore, Cond.code yX7_restore cX7_restore 2 none]
def wsX7_canHave : List Cond := .code yX7_canHave cX7_canHave 3 (some .int) :: ((wsX7_canHave_r1 ++ (wsX7_canHave_r2 ++ (wsX7_canHave_r3 ++ wsX7_canHave_r4))) ++ wsX70)
def wsX7_bestGift_r1 : List Cond := [Cond.constant RX7 84 (99999), Cond.methodLink RX7 128 yX7_isThing, Cond.static yX7_isThing, Cond.initialized RX7, Cond.code yX7_isThing cX7_isThing 1 (some .boolean), Cond.methodLink RX7 61 yX7_isIn, Cond.static yX7_isIn, Cond.code yX7_isIn cX7_isIn 3 (some .boolean), Cond.methodLink RX7 131 yX7_hold, Cond.instanceMethod yX7_hold, Cond.selects RX7 yX7_hold yX7_hold, Cond.code yX7_hold cX7_hold 2 none, Cond.fieldLink RX7 44 "ThingMakerModel" "held" "[I", Cond.fieldLink RX7 7 "ThingMakerModel" "w" "[I", Cond.methodLink RX7 215 yX7_tryWish, Cond.instanceMethod yX7_tryWish, Cond.selects RX7 yX7_tryWish yX7_tryWish, Cond.code yX7_tryWish cX7_tryWish 6 (some .int), Cond.fieldLink RX7 80 "ThingMakerModel" "fails" "Z", Cond.methodLink RX7 134 yX7_wishNow, Cond.instanceMethod yX7_wishNow, Cond.selects RX7 yX7_wishNow yX7_wishNow, Cond.code yX7_wishNow cX7_wishNow 4 none, Cond.methodLink RX7 116 yX7_beginMaking]
def wsX7_bestGift_r2 : List Cond := [Cond.instanceMethod yX7_beginMaking, Cond.selects RX7 yX7_beginMaking yX7_beginMaking, Cond.code yX7_beginMaking cX7_beginMaking 1 none, Cond.fieldLink RX7 91 "ThingMakerModel" "depth" "I", Cond.fieldLink RX7 88 "ThingMakerModel" "batches" "I", Cond.methodLink RX7 65 yX7_of, Cond.instanceMethod yX7_of, Cond.selects RX7 yX7_of yX7_of, Cond.code yX7_of cX7_of 3 (some .int), Cond.methodLink RX7 72 yX7_isMade, Cond.instanceMethod yX7_isMade, Cond.selects RX7 yX7_isMade yX7_isMade, Cond.code yX7_isMade cX7_isMade 2 (some .boolean), Cond.methodLink RX7 101 yX7_batchesFor, Cond.instanceMethod yX7_batchesFor, Cond.selects RX7 yX7_batchesFor yX7_batchesFor, Cond.code yX7_batchesFor cX7_batchesFor 3 (some .int), Cond.methodLink RX7 104 yX7_begin, Cond.instanceMethod yX7_begin, Cond.selects RX7 yX7_begin yX7_begin, Cond.code yX7_begin cX7_begin 4 none, Cond.fieldLink RX7 32 "ThingMakerModel" "what" "[I", Cond.fieldLink RX7 35 "ThingMakerModel" "many" "[I", Cond.fieldLink RX7 38 "ThingMakerModel" "next" "[I"]
def wsX7_bestGift_r3 : List Cond := [Cond.fieldLink RX7 41 "ThingMakerModel" "uses" "[I", Cond.methodLink RX7 119 yX7_makeBegun, Cond.instanceMethod yX7_makeBegun, Cond.selects RX7 yX7_makeBegun yX7_makeBegun, Cond.code yX7_makeBegun cX7_makeBegun 3 none, Cond.methodLink RX7 69 yX7_ingredientOf, Cond.instanceMethod yX7_ingredientOf, Cond.selects RX7 yX7_ingredientOf yX7_ingredientOf, Cond.code yX7_ingredientOf cX7_ingredientOf 3 (some .int), Cond.methodLink RX7 110 yX7_amountOf, Cond.instanceMethod yX7_amountOf, Cond.selects RX7 yX7_amountOf yX7_amountOf, Cond.code yX7_amountOf cX7_amountOf 3 (some .int), Cond.methodLink RX7 113 yX7_take, Cond.instanceMethod yX7_take, Cond.selects RX7 yX7_take yX7_take, Cond.code yX7_take cX7_take 7 none, Cond.methodLink RX7 98 yX7_fromStore, Cond.instanceMethod yX7_fromStore, Cond.selects RX7 yX7_fromStore yX7_fromStore, Cond.code yX7_fromStore cX7_fromStore 4 (some .int), Cond.methodLink RX7 94 yX7_useUp, Cond.instanceMethod yX7_useUp, Cond.selects RX7 yX7_useUp yX7_useUp]
def wsX7_bestGift_r4 : List Cond := [Cond.code yX7_useUp cX7_useUp 3 none, Cond.methodLink RX7 54 yX7_put, Cond.instanceMethod yX7_put, Cond.selects RX7 yX7_put yX7_put, Cond.code yX7_put cX7_put 4 none, Cond.methodLink RX7 85 yX7_come, Cond.instanceMethod yX7_come, Cond.selects RX7 yX7_come yX7_come, Cond.code yX7_come cX7_come 4 none, Cond.methodLink RX7 107 yX7_gatherNow, Cond.instanceMethod yX7_gatherNow, Cond.selects RX7 yX7_gatherNow yX7_gatherNow, Cond.code yX7_gatherNow cX7_gatherNow 3 none, Cond.methodLink RX7 122 yX7_restore, Cond.instanceMethod yX7_restore, Cond.selects RX7 yX7_restore yX7_restore, Cond.code yX7_restore cX7_restore 2 none]
def wsX7_bestGift : List Cond := .code yX7_bestGift cX7_bestGift 7 (some .int) :: ((wsX7_bestGift_r1 ++ (wsX7_bestGift_r2 ++ (wsX7_bestGift_r3 ++ wsX7_bestGift_r4))) ++ wsX70)
def wsX7_isImage : List Cond := .code yX7_isImage cX7_isImage 1 (some .boolean) :: ([.methodLink RX7 61 yX7_isIn, .static yX7_isIn, .initialized RX7, .code yX7_isIn cX7_isIn 3 (some .boolean)])
def wsX7_keep : List Cond := .code yX7_keep cX7_keep 3 (some .int) :: ([.fieldLink RX7 16 "ThingMakerModel" "images" "[I", .fieldLink RX7 7 "ThingMakerModel" "w" "[I", .fieldLink RX7 222 "ThingMakerModel" "filled" "I", .methodLink RX7 219 yX7_isImage, .static yX7_isImage, .initialized RX7, .code yX7_isImage cX7_isImage 1 (some .boolean), .methodLink RX7 61 yX7_isIn, .static yX7_isIn, .code yX7_isIn cX7_isIn 3 (some .boolean), .methodLink RX7 200 yX7_recipes, .instanceMethod yX7_recipes, .selects RX7 yX7_recipes yX7_recipes, .code yX7_recipes cX7_recipes 3 (some .int), .methodLink RX7 72 yX7_isMade, .instanceMethod yX7_isMade, .selects RX7 yX7_isMade yX7_isMade, .code yX7_isMade cX7_isMade 2 (some .boolean), .methodLink RX7 65 yX7_of, .instanceMethod yX7_of, .selects RX7 yX7_of yX7_of, .code yX7_of cX7_of 3 (some .int)] ++ wsX70)
def wsX7_back_r1 : List Cond := [Cond.fieldLink RX7 222 "ThingMakerModel" "filled" "I", Cond.fieldLink RX7 7 "ThingMakerModel" "w" "[I", Cond.fieldLink RX7 16 "ThingMakerModel" "images" "[I", Cond.methodLink RX7 219 yX7_isImage, Cond.static yX7_isImage, Cond.initialized RX7, Cond.code yX7_isImage cX7_isImage 1 (some .boolean), Cond.methodLink RX7 61 yX7_isIn, Cond.static yX7_isIn, Cond.code yX7_isIn cX7_isIn 3 (some .boolean), Cond.methodLink RX7 125 yX7_remember, Cond.instanceMethod yX7_remember, Cond.selects RX7 yX7_remember yX7_remember, Cond.code yX7_remember cX7_remember 2 none, Cond.fieldLink RX7 58 "ThingMakerModel" "pastMany" "I", Cond.fieldLink RX7 13 "ThingMakerModel" "past" "[I", Cond.methodLink RX7 200 yX7_recipes, Cond.instanceMethod yX7_recipes, Cond.selects RX7 yX7_recipes yX7_recipes, Cond.code yX7_recipes cX7_recipes 3 (some .int), Cond.methodLink RX7 72 yX7_isMade, Cond.instanceMethod yX7_isMade, Cond.selects RX7 yX7_isMade yX7_isMade, Cond.code yX7_isMade cX7_isMade 2 (some .boolean)]
def wsX7_back_r2 : List Cond := [Cond.methodLink RX7 65 yX7_of, Cond.instanceMethod yX7_of, Cond.selects RX7 yX7_of yX7_of, Cond.code yX7_of cX7_of 3 (some .int)]
def wsX7_back : List Cond := .code yX7_back cX7_back 3 (some .int) :: ((wsX7_back_r1 ++ wsX7_back_r2) ++ wsX70)
def wsJ9_max_7cf53 : List Cond := .code yJ9_max_7cf53 cJ9_max_7cf53 2 (some .int) :: ([])
def wsJ9_min_7cf53 : List Cond := .code yJ9_min_7cf53 cJ9_min_7cf53 2 (some .int) :: ([])
abbrev vwCl : List vw_C := [(RX0, TX0, 8), (RX1, TX1, 3), (RX2, TX2, 8), (RX3, TX3, 2), (RX4, TX4, 7), (RX5, TX5, 5), (RX6, TX6, 11), (RX7, TX7, 29)]
/-! ===== END printed: names ===== -/
end
section
set_option maxRecDepth 20000 in
theorem ggX0_init_J7_fill_53178 : GoodIn wsX0_init wsJ7_fill_53178 := goodIn_r _ [16] (by decide +kernel) (by decide +kernel)
set_option maxRecDepth 20000 in
theorem gX0_init_J7_fill_53178 : GoodIn wsX0_init (va_wsS RX0 36 yJ7_fill_53178 wsJ7_fill_53178) := goodIn_app (goodIn_of _ (by decide +kernel)) ggX0_init_J7_fill_53178
theorem dX0_init_0 : decode cX0_init 0 = .ok (.aload_n 0, 1) := by decide +kernel
theorem dX0_init_1 : decode cX0_init 1 = .ok (.invokespecial 3, 3) := by decide +kernel
theorem dX0_init_4 : decode cX0_init 4 = .ok (.aload_n 0, 1) := by decide +kernel
theorem dX0_init_5 : decode cX0_init 5 = .ok (.bipush 20, 2) := by decide +kernel
theorem dX0_init_7 : decode cX0_init 7 = .ok (.newarray .int, 2) := by decide +kernel
theorem dX0_init_9 : decode cX0_init 9 = .ok (.putfield 9, 3) := by decide +kernel
theorem dX0_init_12 : decode cX0_init 12 = .ok (.aload_n 0, 1) := by decide +kernel
theorem dX0_init_13 : decode cX0_init 13 = .ok (.bipush 20, 2) := by decide +kernel
theorem dX0_init_15 : decode cX0_init 15 = .ok (.newarray .int, 2) := by decide +kernel
theorem dX0_init_17 : decode cX0_init 17 = .ok (.putfield 15, 3) := by decide +kernel
theorem dX0_init_20 : decode cX0_init 20 = .ok (.aload_n 0, 1) := by decide +kernel
theorem dX0_init_21 : decode cX0_init 21 = .ok (.bipush 100, 2) := by decide +kernel
theorem dX0_init_23 : decode cX0_init 23 = .ok (.newarray .int, 2) := by decide +kernel
theorem dX0_init_25 : decode cX0_init 25 = .ok (.putfield 18, 3) := by decide +kernel
theorem dX0_init_28 : decode cX0_init 28 = .ok (.aload_n 0, 1) := by decide +kernel
theorem dX0_init_29 : decode cX0_init 29 = .ok (.bipush 100, 2) := by decide +kernel
theorem dX0_init_31 : decode cX0_init 31 = .ok (.newarray .int, 2) := by decide +kernel
theorem dX0_init_33 : decode cX0_init 33 = .ok (.putfield 21, 3) := by decide +kernel
theorem dX0_init_36 : decode cX0_init 36 = .ok (.aload_n 0, 1) := by decide +kernel
theorem dX0_init_37 : decode cX0_init 37 = .ok (.bipush 20, 2) := by decide +kernel
theorem dX0_init_39 : decode cX0_init 39 = .ok (.newarray .int, 2) := by decide +kernel
theorem dX0_init_41 : decode cX0_init 41 = .ok (.putfield 24, 3) := by decide +kernel
theorem dX0_init_44 : decode cX0_init 44 = .ok (.aload_n 0, 1) := by decide +kernel
theorem dX0_init_45 : decode cX0_init 45 = .ok (.bipush 60, 2) := by decide +kernel
theorem dX0_init_47 : decode cX0_init 47 = .ok (.newarray .int, 2) := by decide +kernel
theorem dX0_init_49 : decode cX0_init 49 = .ok (.putfield 27, 3) := by decide +kernel
theorem dX0_init_52 : decode cX0_init 52 = .ok (.aload_n 0, 1) := by decide +kernel
theorem dX0_init_53 : decode cX0_init 53 = .ok (.bipush 20, 2) := by decide +kernel
theorem dX0_init_55 : decode cX0_init 55 = .ok (.newarray .int, 2) := by decide +kernel
theorem dX0_init_57 : decode cX0_init 57 = .ok (.putfield 30, 3) := by decide +kernel
theorem dX0_init_60 : decode cX0_init 60 = .ok (.aload_n 0, 1) := by decide +kernel
theorem dX0_init_61 : decode cX0_init 61 = .ok (.bipush 20, 2) := by decide +kernel
theorem dX0_init_63 : decode cX0_init 63 = .ok (.newarray .int, 2) := by decide +kernel
theorem dX0_init_65 : decode cX0_init 65 = .ok (.putfield 33, 3) := by decide +kernel
theorem dX0_init_68 : decode cX0_init 68 = .ok (.aload_n 0, 1) := by decide +kernel
theorem dX0_init_69 : decode cX0_init 69 = .ok (.getfield 30, 3) := by decide +kernel
theorem dX0_init_72 : decode cX0_init 72 = .ok (.bipush (-9), 2) := by decide +kernel
theorem dX0_init_74 : decode cX0_init 74 = .ok (.invokestatic 36, 3) := by decide +kernel
theorem dX0_init_77 : decode cX0_init 77 = .ok (.return_, 1) := by decide +kernel
set_option maxRecDepth 20000 in
theorem ggX0_copyFrom_X6_copy : GoodIn wsX0_copyFrom wsX6_copy := goodIn_r _ [11, 12, 13, 14, 15, 16, 17, 18, 19] (by decide +kernel) (by decide +kernel)
set_option maxRecDepth 20000 in
theorem gX0_copyFrom_X6_copy_n42 : GoodIn wsX0_copyFrom (wsX6_copy) := ggX0_copyFrom_X6_copy
theorem dX0_copyFrom_0 : decode cX0_copyFrom 0 = .ok (.aload_n 1, 1) := by decide +kernel
theorem dX0_copyFrom_1 : decode cX0_copyFrom 1 = .ok (.getfield 9, 3) := by decide +kernel
theorem dX0_copyFrom_4 : decode cX0_copyFrom 4 = .ok (.aload_n 0, 1) := by decide +kernel
theorem dX0_copyFrom_5 : decode cX0_copyFrom 5 = .ok (.getfield 9, 3) := by decide +kernel
theorem dX0_copyFrom_8 : decode cX0_copyFrom 8 = .ok (.invokestatic 42, 3) := by decide +kernel
theorem dX0_copyFrom_11 : decode cX0_copyFrom 11 = .ok (.aload_n 1, 1) := by decide +kernel
theorem dX0_copyFrom_12 : decode cX0_copyFrom 12 = .ok (.getfield 15, 3) := by decide +kernel
theorem dX0_copyFrom_15 : decode cX0_copyFrom 15 = .ok (.aload_n 0, 1) := by decide +kernel
theorem dX0_copyFrom_16 : decode cX0_copyFrom 16 = .ok (.getfield 15, 3) := by decide +kernel
theorem dX0_copyFrom_19 : decode cX0_copyFrom 19 = .ok (.invokestatic 42, 3) := by decide +kernel
theorem dX0_copyFrom_22 : decode cX0_copyFrom 22 = .ok (.aload_n 1, 1) := by decide +kernel
theorem dX0_copyFrom_23 : decode cX0_copyFrom 23 = .ok (.getfield 18, 3) := by decide +kernel
theorem dX0_copyFrom_26 : decode cX0_copyFrom 26 = .ok (.aload_n 0, 1) := by decide +kernel
theorem dX0_copyFrom_27 : decode cX0_copyFrom 27 = .ok (.getfield 18, 3) := by decide +kernel
theorem dX0_copyFrom_30 : decode cX0_copyFrom 30 = .ok (.invokestatic 42, 3) := by decide +kernel
theorem dX0_copyFrom_33 : decode cX0_copyFrom 33 = .ok (.aload_n 1, 1) := by decide +kernel
theorem dX0_copyFrom_34 : decode cX0_copyFrom 34 = .ok (.getfield 21, 3) := by decide +kernel
theorem dX0_copyFrom_37 : decode cX0_copyFrom 37 = .ok (.aload_n 0, 1) := by decide +kernel
theorem dX0_copyFrom_38 : decode cX0_copyFrom 38 = .ok (.getfield 21, 3) := by decide +kernel
theorem dX0_copyFrom_41 : decode cX0_copyFrom 41 = .ok (.invokestatic 42, 3) := by decide +kernel
theorem dX0_copyFrom_44 : decode cX0_copyFrom 44 = .ok (.aload_n 1, 1) := by decide +kernel
theorem dX0_copyFrom_45 : decode cX0_copyFrom 45 = .ok (.getfield 24, 3) := by decide +kernel
theorem dX0_copyFrom_48 : decode cX0_copyFrom 48 = .ok (.aload_n 0, 1) := by decide +kernel
theorem dX0_copyFrom_49 : decode cX0_copyFrom 49 = .ok (.getfield 24, 3) := by decide +kernel
theorem dX0_copyFrom_52 : decode cX0_copyFrom 52 = .ok (.invokestatic 42, 3) := by decide +kernel
theorem dX0_copyFrom_55 : decode cX0_copyFrom 55 = .ok (.aload_n 1, 1) := by decide +kernel
theorem dX0_copyFrom_56 : decode cX0_copyFrom 56 = .ok (.getfield 27, 3) := by decide +kernel
theorem dX0_copyFrom_59 : decode cX0_copyFrom 59 = .ok (.aload_n 0, 1) := by decide +kernel
theorem dX0_copyFrom_60 : decode cX0_copyFrom 60 = .ok (.getfield 27, 3) := by decide +kernel
theorem dX0_copyFrom_63 : decode cX0_copyFrom 63 = .ok (.invokestatic 42, 3) := by decide +kernel
theorem dX0_copyFrom_66 : decode cX0_copyFrom 66 = .ok (.aload_n 1, 1) := by decide +kernel
theorem dX0_copyFrom_67 : decode cX0_copyFrom 67 = .ok (.getfield 30, 3) := by decide +kernel
theorem dX0_copyFrom_70 : decode cX0_copyFrom 70 = .ok (.aload_n 0, 1) := by decide +kernel
theorem dX0_copyFrom_71 : decode cX0_copyFrom 71 = .ok (.getfield 30, 3) := by decide +kernel
theorem dX0_copyFrom_74 : decode cX0_copyFrom 74 = .ok (.invokestatic 42, 3) := by decide +kernel
theorem dX0_copyFrom_77 : decode cX0_copyFrom 77 = .ok (.aload_n 1, 1) := by decide +kernel
theorem dX0_copyFrom_78 : decode cX0_copyFrom 78 = .ok (.getfield 33, 3) := by decide +kernel
theorem dX0_copyFrom_81 : decode cX0_copyFrom 81 = .ok (.aload_n 0, 1) := by decide +kernel
theorem dX0_copyFrom_82 : decode cX0_copyFrom 82 = .ok (.getfield 33, 3) := by decide +kernel
theorem dX0_copyFrom_85 : decode cX0_copyFrom 85 = .ok (.invokestatic 42, 3) := by decide +kernel
theorem dX0_copyFrom_88 : decode cX0_copyFrom 88 = .ok (.return_, 1) := by decide +kernel
set_option maxRecDepth 20000 in
theorem ggX0_isMade_X6_at : GoodIn wsX0_isMade wsX6_at := goodIn_r _ [4] (by decide +kernel) (by decide +kernel)
set_option maxRecDepth 20000 in
theorem gX0_isMade_X6_at_n46 : GoodIn wsX0_isMade (wsX6_at) := ggX0_isMade_X6_at
theorem dX0_isMade_0 : decode cX0_isMade 0 = .ok (.aload_n 0, 1) := by decide +kernel
theorem dX0_isMade_1 : decode cX0_isMade 1 = .ok (.getfield 9, 3) := by decide +kernel
theorem dX0_isMade_4 : decode cX0_isMade 4 = .ok (.iload_n 1, 1) := by decide +kernel
theorem dX0_isMade_5 : decode cX0_isMade 5 = .ok (.invokestatic 46, 3) := by decide +kernel
theorem dX0_isMade_8 : decode cX0_isMade 8 = .ok (.ifCond .le 7, 3) := by decide +kernel
theorem dX0_isMade_11 : decode cX0_isMade 11 = .ok (.iconst 1, 1) := by decide +kernel
theorem dX0_isMade_12 : decode cX0_isMade 12 = .ok (.goto 4, 3) := by decide +kernel
theorem dX0_isMade_15 : decode cX0_isMade 15 = .ok (.iconst 0, 1) := by decide +kernel
theorem dX0_isMade_16 : decode cX0_isMade 16 = .ok (.ireturn, 1) := by decide +kernel
set_option maxRecDepth 20000 in
theorem ggX0_yieldOf_X6_at : GoodIn wsX0_yieldOf wsX6_at := goodIn_r _ [4] (by decide +kernel) (by decide +kernel)
set_option maxRecDepth 20000 in
theorem gX0_yieldOf_X6_at_n46 : GoodIn wsX0_yieldOf (wsX6_at) := ggX0_yieldOf_X6_at
theorem dX0_yieldOf_0 : decode cX0_yieldOf 0 = .ok (.aload_n 0, 1) := by decide +kernel
theorem dX0_yieldOf_1 : decode cX0_yieldOf 1 = .ok (.getfield 9, 3) := by decide +kernel
theorem dX0_yieldOf_4 : decode cX0_yieldOf 4 = .ok (.iload_n 1, 1) := by decide +kernel
theorem dX0_yieldOf_5 : decode cX0_yieldOf 5 = .ok (.invokestatic 46, 3) := by decide +kernel
theorem dX0_yieldOf_8 : decode cX0_yieldOf 8 = .ok (.ireturn, 1) := by decide +kernel
set_option maxRecDepth 20000 in
theorem ggX0_ingredientsOf_X6_at : GoodIn wsX0_ingredientsOf wsX6_at := goodIn_r _ [4] (by decide +kernel) (by decide +kernel)
set_option maxRecDepth 20000 in
theorem gX0_ingredientsOf_X6_at_n46 : GoodIn wsX0_ingredientsOf (wsX6_at) := ggX0_ingredientsOf_X6_at
theorem dX0_ingredientsOf_0 : decode cX0_ingredientsOf 0 = .ok (.aload_n 0, 1) := by decide +kernel
theorem dX0_ingredientsOf_1 : decode cX0_ingredientsOf 1 = .ok (.getfield 15, 3) := by decide +kernel
theorem dX0_ingredientsOf_4 : decode cX0_ingredientsOf 4 = .ok (.iload_n 1, 1) := by decide +kernel
theorem dX0_ingredientsOf_5 : decode cX0_ingredientsOf 5 = .ok (.invokestatic 46, 3) := by decide +kernel
theorem dX0_ingredientsOf_8 : decode cX0_ingredientsOf 8 = .ok (.ireturn, 1) := by decide +kernel
set_option maxRecDepth 20000 in
theorem ggX0_ingredientAt_X6_at : GoodIn wsX0_ingredientAt wsX6_at := goodIn_r _ [4] (by decide +kernel) (by decide +kernel)
set_option maxRecDepth 20000 in
theorem gX0_ingredientAt_X6_at_n46 : GoodIn wsX0_ingredientAt (wsX6_at) := ggX0_ingredientAt_X6_at
theorem dX0_ingredientAt_0 : decode cX0_ingredientAt 0 = .ok (.aload_n 0, 1) := by decide +kernel
theorem dX0_ingredientAt_1 : decode cX0_ingredientAt 1 = .ok (.getfield 18, 3) := by decide +kernel
theorem dX0_ingredientAt_4 : decode cX0_ingredientAt 4 = .ok (.iload_n 1, 1) := by decide +kernel
theorem dX0_ingredientAt_5 : decode cX0_ingredientAt 5 = .ok (.iconst 5, 1) := by decide +kernel
theorem dX0_ingredientAt_6 : decode cX0_ingredientAt 6 = .ok (.imul, 1) := by decide +kernel
theorem dX0_ingredientAt_7 : decode cX0_ingredientAt 7 = .ok (.iload_n 2, 1) := by decide +kernel
theorem dX0_ingredientAt_8 : decode cX0_ingredientAt 8 = .ok (.iadd, 1) := by decide +kernel
theorem dX0_ingredientAt_9 : decode cX0_ingredientAt 9 = .ok (.invokestatic 46, 3) := by decide +kernel
theorem dX0_ingredientAt_12 : decode cX0_ingredientAt 12 = .ok (.ireturn, 1) := by decide +kernel
set_option maxRecDepth 20000 in
theorem ggX0_amountAt_X6_at : GoodIn wsX0_amountAt wsX6_at := goodIn_r _ [4] (by decide +kernel) (by decide +kernel)
set_option maxRecDepth 20000 in
theorem gX0_amountAt_X6_at_n46 : GoodIn wsX0_amountAt (wsX6_at) := ggX0_amountAt_X6_at
theorem dX0_amountAt_0 : decode cX0_amountAt 0 = .ok (.aload_n 0, 1) := by decide +kernel
theorem dX0_amountAt_1 : decode cX0_amountAt 1 = .ok (.getfield 21, 3) := by decide +kernel
theorem dX0_amountAt_4 : decode cX0_amountAt 4 = .ok (.iload_n 1, 1) := by decide +kernel
theorem dX0_amountAt_5 : decode cX0_amountAt 5 = .ok (.iconst 5, 1) := by decide +kernel
theorem dX0_amountAt_6 : decode cX0_amountAt 6 = .ok (.imul, 1) := by decide +kernel
theorem dX0_amountAt_7 : decode cX0_amountAt 7 = .ok (.iload_n 2, 1) := by decide +kernel
theorem dX0_amountAt_8 : decode cX0_amountAt 8 = .ok (.iadd, 1) := by decide +kernel
theorem dX0_amountAt_9 : decode cX0_amountAt 9 = .ok (.invokestatic 46, 3) := by decide +kernel
theorem dX0_amountAt_12 : decode cX0_amountAt 12 = .ok (.ireturn, 1) := by decide +kernel
set_option maxRecDepth 20000 in
theorem ggX0_substitutesOf_X6_at : GoodIn wsX0_substitutesOf wsX6_at := goodIn_r _ [4] (by decide +kernel) (by decide +kernel)
set_option maxRecDepth 20000 in
theorem gX0_substitutesOf_X6_at_n46 : GoodIn wsX0_substitutesOf (wsX6_at) := ggX0_substitutesOf_X6_at
theorem dX0_substitutesOf_0 : decode cX0_substitutesOf 0 = .ok (.aload_n 0, 1) := by decide +kernel
theorem dX0_substitutesOf_1 : decode cX0_substitutesOf 1 = .ok (.getfield 24, 3) := by decide +kernel
theorem dX0_substitutesOf_4 : decode cX0_substitutesOf 4 = .ok (.iload_n 1, 1) := by decide +kernel
theorem dX0_substitutesOf_5 : decode cX0_substitutesOf 5 = .ok (.invokestatic 46, 3) := by decide +kernel
theorem dX0_substitutesOf_8 : decode cX0_substitutesOf 8 = .ok (.ireturn, 1) := by decide +kernel
set_option maxRecDepth 20000 in
theorem ggX0_substituteAt_X6_at : GoodIn wsX0_substituteAt wsX6_at := goodIn_r _ [4] (by decide +kernel) (by decide +kernel)
set_option maxRecDepth 20000 in
theorem gX0_substituteAt_X6_at_n46 : GoodIn wsX0_substituteAt (wsX6_at) := ggX0_substituteAt_X6_at
theorem dX0_substituteAt_0 : decode cX0_substituteAt 0 = .ok (.aload_n 0, 1) := by decide +kernel
theorem dX0_substituteAt_1 : decode cX0_substituteAt 1 = .ok (.getfield 27, 3) := by decide +kernel
theorem dX0_substituteAt_4 : decode cX0_substituteAt 4 = .ok (.iload_n 1, 1) := by decide +kernel
theorem dX0_substituteAt_5 : decode cX0_substituteAt 5 = .ok (.iconst 3, 1) := by decide +kernel
theorem dX0_substituteAt_6 : decode cX0_substituteAt 6 = .ok (.imul, 1) := by decide +kernel
theorem dX0_substituteAt_7 : decode cX0_substituteAt 7 = .ok (.iload_n 2, 1) := by decide +kernel
theorem dX0_substituteAt_8 : decode cX0_substituteAt 8 = .ok (.iadd, 1) := by decide +kernel
theorem dX0_substituteAt_9 : decode cX0_substituteAt 9 = .ok (.invokestatic 46, 3) := by decide +kernel
theorem dX0_substituteAt_12 : decode cX0_substituteAt 12 = .ok (.ireturn, 1) := by decide +kernel
set_option maxRecDepth 20000 in
theorem ggX0_vesselOf_X6_at : GoodIn wsX0_vesselOf wsX6_at := goodIn_r _ [4] (by decide +kernel) (by decide +kernel)
set_option maxRecDepth 20000 in
theorem gX0_vesselOf_X6_at_n46 : GoodIn wsX0_vesselOf (wsX6_at) := ggX0_vesselOf_X6_at
theorem dX0_vesselOf_0 : decode cX0_vesselOf 0 = .ok (.aload_n 0, 1) := by decide +kernel
theorem dX0_vesselOf_1 : decode cX0_vesselOf 1 = .ok (.getfield 30, 3) := by decide +kernel
theorem dX0_vesselOf_4 : decode cX0_vesselOf 4 = .ok (.iload_n 1, 1) := by decide +kernel
theorem dX0_vesselOf_5 : decode cX0_vesselOf 5 = .ok (.invokestatic 46, 3) := by decide +kernel
theorem dX0_vesselOf_8 : decode cX0_vesselOf 8 = .ok (.ireturn, 1) := by decide +kernel
set_option maxRecDepth 20000 in
theorem ggX0_rankOf_X6_at : GoodIn wsX0_rankOf wsX6_at := goodIn_r _ [4] (by decide +kernel) (by decide +kernel)
set_option maxRecDepth 20000 in
theorem gX0_rankOf_X6_at_n46 : GoodIn wsX0_rankOf (wsX6_at) := ggX0_rankOf_X6_at
theorem dX0_rankOf_0 : decode cX0_rankOf 0 = .ok (.aload_n 0, 1) := by decide +kernel
theorem dX0_rankOf_1 : decode cX0_rankOf 1 = .ok (.getfield 33, 3) := by decide +kernel
theorem dX0_rankOf_4 : decode cX0_rankOf 4 = .ok (.iload_n 1, 1) := by decide +kernel
theorem dX0_rankOf_5 : decode cX0_rankOf 5 = .ok (.invokestatic 46, 3) := by decide +kernel
theorem dX0_rankOf_8 : decode cX0_rankOf 8 = .ok (.ireturn, 1) := by decide +kernel
set_option maxRecDepth 20000 in
theorem ggX0_recipes_X0_madeThings : GoodIn wsX0_recipes wsX0_madeThings := goodIn_r _ [5, 6, 7, 8, 4, 9, 10, 11, 12, 13, 21, 22, 23, 24, 25, 26, 27, 28] (by decide +kernel) (by decide +kernel)
set_option maxRecDepth 20000 in
theorem gX0_recipes_X0_madeThings : GoodIn wsX0_recipes (wsV RX0 50 RX0 yX0_madeThings wsX0_madeThings) := goodIn_app (goodIn_of _ (by decide +kernel)) ggX0_recipes_X0_madeThings
set_option maxRecDepth 20000 in
theorem ggX0_recipes_J6_bitCount_0f7a4 : GoodIn wsX0_recipes wsJ6_bitCount_0f7a4 := goodIn_r _ [17, 18, 19, 20] (by decide +kernel) (by decide +kernel)
set_option maxRecDepth 20000 in
theorem gX0_recipes_J6_bitCount_0f7a4 : GoodIn wsX0_recipes (va_wsS RX0 54 yJ6_bitCount_0f7a4 wsJ6_bitCount_0f7a4) := goodIn_app (goodIn_of _ (by decide +kernel)) ggX0_recipes_J6_bitCount_0f7a4
theorem dX0_recipes_0 : decode cX0_recipes 0 = .ok (.aload_n 0, 1) := by decide +kernel
theorem dX0_recipes_1 : decode cX0_recipes 1 = .ok (.invokevirtual 50, 3) := by decide +kernel
theorem dX0_recipes_4 : decode cX0_recipes 4 = .ok (.invokestatic 54, 3) := by decide +kernel
theorem dX0_recipes_7 : decode cX0_recipes 7 = .ok (.ireturn, 1) := by decide +kernel
set_option maxRecDepth 20000 in
theorem ggX0_madeThings_X0_isMade : GoodIn wsX0_madeThings wsX0_isMade := goodIn_r _ [5, 6, 7, 8, 9, 10, 11, 12, 13, 14, 15, 16, 17] (by decide +kernel) (by decide +kernel)
set_option maxRecDepth 20000 in
theorem gX0_madeThings_X0_isMade : GoodIn wsX0_madeThings (wsV RX0 60 RX0 yX0_isMade wsX0_isMade) := goodIn_app (goodIn_of _ (by decide +kernel)) ggX0_madeThings_X0_isMade
theorem dX0_madeThings_0 : decode cX0_madeThings 0 = .ok (.iconst 0, 1) := by decide +kernel
theorem dX0_madeThings_1 : decode cX0_madeThings 1 = .ok (.istore_n 1, 1) := by decide +kernel
theorem dX0_madeThings_2 : decode cX0_madeThings 2 = .ok (.iconst 0, 1) := by decide +kernel
theorem dX0_madeThings_3 : decode cX0_madeThings 3 = .ok (.istore_n 2, 1) := by decide +kernel
theorem dX0_madeThings_4 : decode cX0_madeThings 4 = .ok (.iload_n 2, 1) := by decide +kernel
theorem dX0_madeThings_5 : decode cX0_madeThings 5 = .ok (.bipush 20, 2) := by decide +kernel
theorem dX0_madeThings_7 : decode cX0_madeThings 7 = .ok (.if_icmp .ge 23, 3) := by decide +kernel
theorem dX0_madeThings_10 : decode cX0_madeThings 10 = .ok (.aload_n 0, 1) := by decide +kernel
theorem dX0_madeThings_11 : decode cX0_madeThings 11 = .ok (.iload_n 2, 1) := by decide +kernel
theorem dX0_madeThings_12 : decode cX0_madeThings 12 = .ok (.invokevirtual 60, 3) := by decide +kernel
theorem dX0_madeThings_15 : decode cX0_madeThings 15 = .ok (.ifCond .eq 9, 3) := by decide +kernel
theorem dX0_madeThings_18 : decode cX0_madeThings 18 = .ok (.iload_n 1, 1) := by decide +kernel
theorem dX0_madeThings_19 : decode cX0_madeThings 19 = .ok (.iconst 1, 1) := by decide +kernel
theorem dX0_madeThings_20 : decode cX0_madeThings 20 = .ok (.iload_n 2, 1) := by decide +kernel
theorem dX0_madeThings_21 : decode cX0_madeThings 21 = .ok (.ishl, 1) := by decide +kernel
theorem dX0_madeThings_22 : decode cX0_madeThings 22 = .ok (.ior, 1) := by decide +kernel
theorem dX0_madeThings_23 : decode cX0_madeThings 23 = .ok (.istore_n 1, 1) := by decide +kernel
theorem dX0_madeThings_24 : decode cX0_madeThings 24 = .ok (.iinc 2 1, 3) := by decide +kernel
theorem dX0_madeThings_27 : decode cX0_madeThings 27 = .ok (.goto (-23), 3) := by decide +kernel
theorem dX0_madeThings_30 : decode cX0_madeThings 30 = .ok (.iload_n 1, 1) := by decide +kernel
theorem dX0_madeThings_31 : decode cX0_madeThings 31 = .ok (.ireturn, 1) := by decide +kernel
set_option maxRecDepth 20000 in
theorem ggX0_greatestRank_X0_rankOf : GoodIn wsX0_greatestRank wsX0_rankOf := goodIn_r _ [9, 10, 11, 12, 13, 14, 15, 16, 17, 18, 19, 20, 21] (by decide +kernel) (by decide +kernel)
set_option maxRecDepth 20000 in
theorem gX0_greatestRank_X0_rankOf : GoodIn wsX0_greatestRank (wsV RX0 64 RX0 yX0_rankOf wsX0_rankOf) := goodIn_app (goodIn_of _ (by decide +kernel)) ggX0_greatestRank_X0_rankOf
theorem dX0_greatestRank_0 : decode cX0_greatestRank 0 = .ok (.iconst 0, 1) := by decide +kernel
theorem dX0_greatestRank_1 : decode cX0_greatestRank 1 = .ok (.istore_n 1, 1) := by decide +kernel
theorem dX0_greatestRank_2 : decode cX0_greatestRank 2 = .ok (.iconst 0, 1) := by decide +kernel
theorem dX0_greatestRank_3 : decode cX0_greatestRank 3 = .ok (.istore_n 2, 1) := by decide +kernel
theorem dX0_greatestRank_4 : decode cX0_greatestRank 4 = .ok (.iload_n 2, 1) := by decide +kernel
theorem dX0_greatestRank_5 : decode cX0_greatestRank 5 = .ok (.bipush 20, 2) := by decide +kernel
theorem dX0_greatestRank_7 : decode cX0_greatestRank 7 = .ok (.if_icmp .ge 19, 3) := by decide +kernel
theorem dX0_greatestRank_10 : decode cX0_greatestRank 10 = .ok (.iload_n 1, 1) := by decide +kernel
theorem dX0_greatestRank_11 : decode cX0_greatestRank 11 = .ok (.aload_n 0, 1) := by decide +kernel
theorem dX0_greatestRank_12 : decode cX0_greatestRank 12 = .ok (.iload_n 2, 1) := by decide +kernel
theorem dX0_greatestRank_13 : decode cX0_greatestRank 13 = .ok (.invokevirtual 64, 3) := by decide +kernel
theorem dX0_greatestRank_16 : decode cX0_greatestRank 16 = .ok (.invokestatic 67, 3) := by decide +kernel
theorem dX0_greatestRank_19 : decode cX0_greatestRank 19 = .ok (.istore_n 1, 1) := by decide +kernel
theorem dX0_greatestRank_20 : decode cX0_greatestRank 20 = .ok (.iinc 2 1, 3) := by decide +kernel
theorem dX0_greatestRank_23 : decode cX0_greatestRank 23 = .ok (.goto (-19), 3) := by decide +kernel
theorem dX0_greatestRank_26 : decode cX0_greatestRank 26 = .ok (.iload_n 1, 1) := by decide +kernel
theorem dX0_greatestRank_27 : decode cX0_greatestRank 27 = .ok (.ireturn, 1) := by decide +kernel
set_option maxRecDepth 20000 in
theorem ggX0_lay_X6_put : GoodIn wsX0_lay wsX6_put := goodIn_r _ [7] (by decide +kernel) (by decide +kernel)
set_option maxRecDepth 20000 in
theorem gX0_lay_X6_put_n82 : GoodIn wsX0_lay (wsX6_put) := ggX0_lay_X6_put
set_option maxRecDepth 20000 in
theorem ggX0_lay_X6_at : GoodIn wsX0_lay wsX6_at := goodIn_r _ [9] (by decide +kernel) (by decide +kernel)
set_option maxRecDepth 20000 in
theorem gX0_lay_X6_at_n46 : GoodIn wsX0_lay (wsX6_at) := ggX0_lay_X6_at
theorem dX0_lay_0 : decode cX0_lay 0 = .ok (.aload_n 0, 1) := by decide +kernel
theorem dX0_lay_1 : decode cX0_lay 1 = .ok (.getfield 9, 3) := by decide +kernel
theorem dX0_lay_4 : decode cX0_lay 4 = .ok (.aload_n 1, 1) := by decide +kernel
theorem dX0_lay_5 : decode cX0_lay 5 = .ok (.getfield 73, 3) := by decide +kernel
theorem dX0_lay_8 : decode cX0_lay 8 = .ok (.aload_n 1, 1) := by decide +kernel
theorem dX0_lay_9 : decode cX0_lay 9 = .ok (.getfield 79, 3) := by decide +kernel
theorem dX0_lay_12 : decode cX0_lay 12 = .ok (.invokestatic 82, 3) := by decide +kernel
theorem dX0_lay_15 : decode cX0_lay 15 = .ok (.aload_n 0, 1) := by decide +kernel
theorem dX0_lay_16 : decode cX0_lay 16 = .ok (.getfield 15, 3) := by decide +kernel
theorem dX0_lay_19 : decode cX0_lay 19 = .ok (.aload_n 1, 1) := by decide +kernel
theorem dX0_lay_20 : decode cX0_lay 20 = .ok (.getfield 73, 3) := by decide +kernel
theorem dX0_lay_23 : decode cX0_lay 23 = .ok (.aload_n 1, 1) := by decide +kernel
theorem dX0_lay_24 : decode cX0_lay 24 = .ok (.getfield 86, 3) := by decide +kernel
theorem dX0_lay_27 : decode cX0_lay 27 = .ok (.invokestatic 82, 3) := by decide +kernel
theorem dX0_lay_30 : decode cX0_lay 30 = .ok (.aload_n 1, 1) := by decide +kernel
theorem dX0_lay_31 : decode cX0_lay 31 = .ok (.getfield 73, 3) := by decide +kernel
theorem dX0_lay_34 : decode cX0_lay 34 = .ok (.iconst 5, 1) := by decide +kernel
theorem dX0_lay_35 : decode cX0_lay 35 = .ok (.imul, 1) := by decide +kernel
theorem dX0_lay_36 : decode cX0_lay 36 = .ok (.istore_n 2, 1) := by decide +kernel
theorem dX0_lay_37 : decode cX0_lay 37 = .ok (.iconst 0, 1) := by decide +kernel
theorem dX0_lay_38 : decode cX0_lay 38 = .ok (.istore_n 3, 1) := by decide +kernel
theorem dX0_lay_39 : decode cX0_lay 39 = .ok (.iload_n 3, 1) := by decide +kernel
theorem dX0_lay_40 : decode cX0_lay 40 = .ok (.iconst 5, 1) := by decide +kernel
theorem dX0_lay_41 : decode cX0_lay 41 = .ok (.if_icmp .ge 45, 3) := by decide +kernel
theorem dX0_lay_44 : decode cX0_lay 44 = .ok (.aload_n 0, 1) := by decide +kernel
theorem dX0_lay_45 : decode cX0_lay 45 = .ok (.getfield 18, 3) := by decide +kernel
theorem dX0_lay_48 : decode cX0_lay 48 = .ok (.iload_n 2, 1) := by decide +kernel
theorem dX0_lay_49 : decode cX0_lay 49 = .ok (.iload_n 3, 1) := by decide +kernel
theorem dX0_lay_50 : decode cX0_lay 50 = .ok (.iadd, 1) := by decide +kernel
theorem dX0_lay_51 : decode cX0_lay 51 = .ok (.aload_n 1, 1) := by decide +kernel
theorem dX0_lay_52 : decode cX0_lay 52 = .ok (.getfield 89, 3) := by decide +kernel
theorem dX0_lay_55 : decode cX0_lay 55 = .ok (.iload_n 3, 1) := by decide +kernel
theorem dX0_lay_56 : decode cX0_lay 56 = .ok (.invokestatic 46, 3) := by decide +kernel
theorem dX0_lay_59 : decode cX0_lay 59 = .ok (.invokestatic 82, 3) := by decide +kernel
theorem dX0_lay_62 : decode cX0_lay 62 = .ok (.aload_n 0, 1) := by decide +kernel
theorem dX0_lay_63 : decode cX0_lay 63 = .ok (.getfield 21, 3) := by decide +kernel
theorem dX0_lay_66 : decode cX0_lay 66 = .ok (.iload_n 2, 1) := by decide +kernel
theorem dX0_lay_67 : decode cX0_lay 67 = .ok (.iload_n 3, 1) := by decide +kernel
theorem dX0_lay_68 : decode cX0_lay 68 = .ok (.iadd, 1) := by decide +kernel
theorem dX0_lay_69 : decode cX0_lay 69 = .ok (.aload_n 1, 1) := by decide +kernel
theorem dX0_lay_70 : decode cX0_lay 70 = .ok (.getfield 90, 3) := by decide +kernel
theorem dX0_lay_73 : decode cX0_lay 73 = .ok (.iload_n 3, 1) := by decide +kernel
theorem dX0_lay_74 : decode cX0_lay 74 = .ok (.invokestatic 46, 3) := by decide +kernel
theorem dX0_lay_77 : decode cX0_lay 77 = .ok (.invokestatic 82, 3) := by decide +kernel
theorem dX0_lay_80 : decode cX0_lay 80 = .ok (.iinc 3 1, 3) := by decide +kernel
theorem dX0_lay_83 : decode cX0_lay 83 = .ok (.goto (-44), 3) := by decide +kernel
theorem dX0_lay_86 : decode cX0_lay 86 = .ok (.return_, 1) := by decide +kernel
set_option maxRecDepth 20000 in
theorem ggX0_strike_X6_put : GoodIn wsX0_strike wsX6_put := goodIn_r _ [5] (by decide +kernel) (by decide +kernel)
set_option maxRecDepth 20000 in
theorem gX0_strike_X6_put_n82 : GoodIn wsX0_strike (wsX6_put) := ggX0_strike_X6_put
theorem dX0_strike_0 : decode cX0_strike 0 = .ok (.aload_n 0, 1) := by decide +kernel
theorem dX0_strike_1 : decode cX0_strike 1 = .ok (.getfield 9, 3) := by decide +kernel
theorem dX0_strike_4 : decode cX0_strike 4 = .ok (.iload_n 1, 1) := by decide +kernel
theorem dX0_strike_5 : decode cX0_strike 5 = .ok (.iconst 0, 1) := by decide +kernel
theorem dX0_strike_6 : decode cX0_strike 6 = .ok (.invokestatic 82, 3) := by decide +kernel
theorem dX0_strike_9 : decode cX0_strike 9 = .ok (.aload_n 0, 1) := by decide +kernel
theorem dX0_strike_10 : decode cX0_strike 10 = .ok (.getfield 15, 3) := by decide +kernel
theorem dX0_strike_13 : decode cX0_strike 13 = .ok (.iload_n 1, 1) := by decide +kernel
theorem dX0_strike_14 : decode cX0_strike 14 = .ok (.iconst 0, 1) := by decide +kernel
theorem dX0_strike_15 : decode cX0_strike 15 = .ok (.invokestatic 82, 3) := by decide +kernel
theorem dX0_strike_18 : decode cX0_strike 18 = .ok (.return_, 1) := by decide +kernel
set_option maxRecDepth 20000 in
theorem ggX0_hasSubstitute_X0_substitutesOf : GoodIn wsX0_hasSubstitute wsX0_substitutesOf := goodIn_r _ [5, 6, 7, 8, 9, 15, 16, 17, 18, 19, 20, 21, 22] (by decide +kernel) (by decide +kernel)
set_option maxRecDepth 20000 in
theorem gX0_hasSubstitute_X0_substitutesOf : GoodIn wsX0_hasSubstitute (wsV RX0 91 RX0 yX0_substitutesOf wsX0_substitutesOf) := goodIn_app (goodIn_of _ (by decide +kernel)) ggX0_hasSubstitute_X0_substitutesOf
set_option maxRecDepth 20000 in
theorem ggX0_hasSubstitute_X0_substituteAt : GoodIn wsX0_hasSubstitute wsX0_substituteAt := goodIn_r _ [13, 14, 7, 8, 9, 15, 16, 17, 18, 19, 20, 21, 22] (by decide +kernel) (by decide +kernel)
set_option maxRecDepth 20000 in
theorem gX0_hasSubstitute_X0_substituteAt : GoodIn wsX0_hasSubstitute (wsV RX0 94 RX0 yX0_substituteAt wsX0_substituteAt) := goodIn_app (goodIn_of _ (by decide +kernel)) ggX0_hasSubstitute_X0_substituteAt
theorem dX0_hasSubstitute_0 : decode cX0_hasSubstitute 0 = .ok (.aload_n 0, 1) := by decide +kernel
theorem dX0_hasSubstitute_1 : decode cX0_hasSubstitute 1 = .ok (.iload_n 1, 1) := by decide +kernel
theorem dX0_hasSubstitute_2 : decode cX0_hasSubstitute 2 = .ok (.invokevirtual 91, 3) := by decide +kernel
theorem dX0_hasSubstitute_5 : decode cX0_hasSubstitute 5 = .ok (.istore_n 3, 1) := by decide +kernel
theorem dX0_hasSubstitute_6 : decode cX0_hasSubstitute 6 = .ok (.iconst 0, 1) := by decide +kernel
theorem dX0_hasSubstitute_7 : decode cX0_hasSubstitute 7 = .ok (.istore 4, 2) := by decide +kernel
theorem dX0_hasSubstitute_9 : decode cX0_hasSubstitute 9 = .ok (.iload 4, 2) := by decide +kernel
theorem dX0_hasSubstitute_11 : decode cX0_hasSubstitute 11 = .ok (.iload_n 3, 1) := by decide +kernel
theorem dX0_hasSubstitute_12 : decode cX0_hasSubstitute 12 = .ok (.if_icmp .ge 22, 3) := by decide +kernel
theorem dX0_hasSubstitute_15 : decode cX0_hasSubstitute 15 = .ok (.aload_n 0, 1) := by decide +kernel
theorem dX0_hasSubstitute_16 : decode cX0_hasSubstitute 16 = .ok (.iload_n 1, 1) := by decide +kernel
theorem dX0_hasSubstitute_17 : decode cX0_hasSubstitute 17 = .ok (.iload 4, 2) := by decide +kernel
theorem dX0_hasSubstitute_19 : decode cX0_hasSubstitute 19 = .ok (.invokevirtual 94, 3) := by decide +kernel
theorem dX0_hasSubstitute_22 : decode cX0_hasSubstitute 22 = .ok (.iload_n 2, 1) := by decide +kernel
theorem dX0_hasSubstitute_23 : decode cX0_hasSubstitute 23 = .ok (.if_icmp .ne 5, 3) := by decide +kernel
theorem dX0_hasSubstitute_26 : decode cX0_hasSubstitute 26 = .ok (.iconst 1, 1) := by decide +kernel
theorem dX0_hasSubstitute_27 : decode cX0_hasSubstitute 27 = .ok (.ireturn, 1) := by decide +kernel
theorem dX0_hasSubstitute_28 : decode cX0_hasSubstitute 28 = .ok (.iinc 4 1, 3) := by decide +kernel
theorem dX0_hasSubstitute_31 : decode cX0_hasSubstitute 31 = .ok (.goto (-22), 3) := by decide +kernel
theorem dX0_hasSubstitute_34 : decode cX0_hasSubstitute 34 = .ok (.iconst 0, 1) := by decide +kernel
theorem dX0_hasSubstitute_35 : decode cX0_hasSubstitute 35 = .ok (.ireturn, 1) := by decide +kernel
set_option maxRecDepth 20000 in
theorem ggX0_addSubstitute_X0_substitutesOf : GoodIn wsX0_addSubstitute wsX0_substitutesOf := goodIn_r _ [7, 2, 8, 9, 10, 13, 14, 15, 16, 17, 18, 19, 20] (by decide +kernel) (by decide +kernel)
set_option maxRecDepth 20000 in
theorem gX0_addSubstitute_X0_substitutesOf : GoodIn wsX0_addSubstitute (wsV RX0 91 RX0 yX0_substitutesOf wsX0_substitutesOf) := goodIn_app (goodIn_of _ (by decide +kernel)) ggX0_addSubstitute_X0_substitutesOf
set_option maxRecDepth 20000 in
theorem ggX0_addSubstitute_X6_put : GoodIn wsX0_addSubstitute wsX6_put := goodIn_r _ [12] (by decide +kernel) (by decide +kernel)
set_option maxRecDepth 20000 in
theorem gX0_addSubstitute_X6_put_n82 : GoodIn wsX0_addSubstitute (wsX6_put) := ggX0_addSubstitute_X6_put
theorem dX0_addSubstitute_0 : decode cX0_addSubstitute 0 = .ok (.aload_n 0, 1) := by decide +kernel
theorem dX0_addSubstitute_1 : decode cX0_addSubstitute 1 = .ok (.iload_n 1, 1) := by decide +kernel
theorem dX0_addSubstitute_2 : decode cX0_addSubstitute 2 = .ok (.invokevirtual 91, 3) := by decide +kernel
theorem dX0_addSubstitute_5 : decode cX0_addSubstitute 5 = .ok (.istore_n 3, 1) := by decide +kernel
theorem dX0_addSubstitute_6 : decode cX0_addSubstitute 6 = .ok (.aload_n 0, 1) := by decide +kernel
theorem dX0_addSubstitute_7 : decode cX0_addSubstitute 7 = .ok (.getfield 27, 3) := by decide +kernel
theorem dX0_addSubstitute_10 : decode cX0_addSubstitute 10 = .ok (.iload_n 1, 1) := by decide +kernel
theorem dX0_addSubstitute_11 : decode cX0_addSubstitute 11 = .ok (.iconst 3, 1) := by decide +kernel
theorem dX0_addSubstitute_12 : decode cX0_addSubstitute 12 = .ok (.imul, 1) := by decide +kernel
theorem dX0_addSubstitute_13 : decode cX0_addSubstitute 13 = .ok (.iload_n 3, 1) := by decide +kernel
theorem dX0_addSubstitute_14 : decode cX0_addSubstitute 14 = .ok (.iadd, 1) := by decide +kernel
theorem dX0_addSubstitute_15 : decode cX0_addSubstitute 15 = .ok (.iload_n 2, 1) := by decide +kernel
theorem dX0_addSubstitute_16 : decode cX0_addSubstitute 16 = .ok (.invokestatic 82, 3) := by decide +kernel
theorem dX0_addSubstitute_19 : decode cX0_addSubstitute 19 = .ok (.aload_n 0, 1) := by decide +kernel
theorem dX0_addSubstitute_20 : decode cX0_addSubstitute 20 = .ok (.getfield 24, 3) := by decide +kernel
theorem dX0_addSubstitute_23 : decode cX0_addSubstitute 23 = .ok (.iload_n 1, 1) := by decide +kernel
theorem dX0_addSubstitute_24 : decode cX0_addSubstitute 24 = .ok (.iload_n 3, 1) := by decide +kernel
theorem dX0_addSubstitute_25 : decode cX0_addSubstitute 25 = .ok (.iconst 1, 1) := by decide +kernel
theorem dX0_addSubstitute_26 : decode cX0_addSubstitute 26 = .ok (.iadd, 1) := by decide +kernel
theorem dX0_addSubstitute_27 : decode cX0_addSubstitute 27 = .ok (.invokestatic 82, 3) := by decide +kernel
theorem dX0_addSubstitute_30 : decode cX0_addSubstitute 30 = .ok (.return_, 1) := by decide +kernel
set_option maxRecDepth 20000 in
theorem ggX0_removeSubstitute_X0_substitutesOf : GoodIn wsX0_removeSubstitute wsX0_substitutesOf := goodIn_r _ [7, 2, 8, 9, 10, 17, 18, 19, 20, 21, 22, 23, 24] (by decide +kernel) (by decide +kernel)
set_option maxRecDepth 20000 in
theorem gX0_removeSubstitute_X0_substitutesOf : GoodIn wsX0_removeSubstitute (wsV RX0 91 RX0 yX0_substitutesOf wsX0_substitutesOf) := goodIn_app (goodIn_of _ (by decide +kernel)) ggX0_removeSubstitute_X0_substitutesOf
set_option maxRecDepth 20000 in
theorem ggX0_removeSubstitute_X0_substituteAt : GoodIn wsX0_removeSubstitute wsX0_substituteAt := goodIn_r _ [14, 1, 8, 9, 10, 17, 18, 19, 20, 21, 22, 23, 24] (by decide +kernel) (by decide +kernel)
set_option maxRecDepth 20000 in
theorem gX0_removeSubstitute_X0_substituteAt : GoodIn wsX0_removeSubstitute (wsV RX0 94 RX0 yX0_substituteAt wsX0_substituteAt) := goodIn_app (goodIn_of _ (by decide +kernel)) ggX0_removeSubstitute_X0_substituteAt
set_option maxRecDepth 20000 in
theorem ggX0_removeSubstitute_X6_put : GoodIn wsX0_removeSubstitute wsX6_put := goodIn_r _ [16] (by decide +kernel) (by decide +kernel)
set_option maxRecDepth 20000 in
theorem gX0_removeSubstitute_X6_put_n82 : GoodIn wsX0_removeSubstitute (wsX6_put) := ggX0_removeSubstitute_X6_put
theorem dX0_removeSubstitute_0 : decode cX0_removeSubstitute 0 = .ok (.aload_n 0, 1) := by decide +kernel
theorem dX0_removeSubstitute_1 : decode cX0_removeSubstitute 1 = .ok (.iload_n 1, 1) := by decide +kernel
theorem dX0_removeSubstitute_2 : decode cX0_removeSubstitute 2 = .ok (.invokevirtual 91, 3) := by decide +kernel
theorem dX0_removeSubstitute_5 : decode cX0_removeSubstitute 5 = .ok (.iconst 1, 1) := by decide +kernel
theorem dX0_removeSubstitute_6 : decode cX0_removeSubstitute 6 = .ok (.isub, 1) := by decide +kernel
theorem dX0_removeSubstitute_7 : decode cX0_removeSubstitute 7 = .ok (.istore_n 3, 1) := by decide +kernel
theorem dX0_removeSubstitute_8 : decode cX0_removeSubstitute 8 = .ok (.iload_n 2, 1) := by decide +kernel
theorem dX0_removeSubstitute_9 : decode cX0_removeSubstitute 9 = .ok (.istore 4, 2) := by decide +kernel
theorem dX0_removeSubstitute_11 : decode cX0_removeSubstitute 11 = .ok (.iload 4, 2) := by decide +kernel
theorem dX0_removeSubstitute_13 : decode cX0_removeSubstitute 13 = .ok (.iload_n 3, 1) := by decide +kernel
theorem dX0_removeSubstitute_14 : decode cX0_removeSubstitute 14 = .ok (.if_icmp .ge 31, 3) := by decide +kernel
theorem dX0_removeSubstitute_17 : decode cX0_removeSubstitute 17 = .ok (.aload_n 0, 1) := by decide +kernel
theorem dX0_removeSubstitute_18 : decode cX0_removeSubstitute 18 = .ok (.getfield 27, 3) := by decide +kernel
theorem dX0_removeSubstitute_21 : decode cX0_removeSubstitute 21 = .ok (.iload_n 1, 1) := by decide +kernel
theorem dX0_removeSubstitute_22 : decode cX0_removeSubstitute 22 = .ok (.iconst 3, 1) := by decide +kernel
theorem dX0_removeSubstitute_23 : decode cX0_removeSubstitute 23 = .ok (.imul, 1) := by decide +kernel
theorem dX0_removeSubstitute_24 : decode cX0_removeSubstitute 24 = .ok (.iload 4, 2) := by decide +kernel
theorem dX0_removeSubstitute_26 : decode cX0_removeSubstitute 26 = .ok (.iadd, 1) := by decide +kernel
theorem dX0_removeSubstitute_27 : decode cX0_removeSubstitute 27 = .ok (.aload_n 0, 1) := by decide +kernel
theorem dX0_removeSubstitute_28 : decode cX0_removeSubstitute 28 = .ok (.iload_n 1, 1) := by decide +kernel
theorem dX0_removeSubstitute_29 : decode cX0_removeSubstitute 29 = .ok (.iload 4, 2) := by decide +kernel
theorem dX0_removeSubstitute_31 : decode cX0_removeSubstitute 31 = .ok (.iconst 1, 1) := by decide +kernel
theorem dX0_removeSubstitute_32 : decode cX0_removeSubstitute 32 = .ok (.iadd, 1) := by decide +kernel
theorem dX0_removeSubstitute_33 : decode cX0_removeSubstitute 33 = .ok (.invokevirtual 94, 3) := by decide +kernel
theorem dX0_removeSubstitute_36 : decode cX0_removeSubstitute 36 = .ok (.invokestatic 82, 3) := by decide +kernel
theorem dX0_removeSubstitute_39 : decode cX0_removeSubstitute 39 = .ok (.iinc 4 1, 3) := by decide +kernel
theorem dX0_removeSubstitute_42 : decode cX0_removeSubstitute 42 = .ok (.goto (-31), 3) := by decide +kernel
theorem dX0_removeSubstitute_45 : decode cX0_removeSubstitute 45 = .ok (.aload_n 0, 1) := by decide +kernel
theorem dX0_removeSubstitute_46 : decode cX0_removeSubstitute 46 = .ok (.getfield 24, 3) := by decide +kernel
theorem dX0_removeSubstitute_49 : decode cX0_removeSubstitute 49 = .ok (.iload_n 1, 1) := by decide +kernel
theorem dX0_removeSubstitute_50 : decode cX0_removeSubstitute 50 = .ok (.iload_n 3, 1) := by decide +kernel
theorem dX0_removeSubstitute_51 : decode cX0_removeSubstitute 51 = .ok (.invokestatic 82, 3) := by decide +kernel
theorem dX0_removeSubstitute_54 : decode cX0_removeSubstitute 54 = .ok (.return_, 1) := by decide +kernel
set_option maxRecDepth 20000 in
theorem ggX0_setVessel_X6_put : GoodIn wsX0_setVessel wsX6_put := goodIn_r _ [4] (by decide +kernel) (by decide +kernel)
set_option maxRecDepth 20000 in
theorem gX0_setVessel_X6_put_n82 : GoodIn wsX0_setVessel (wsX6_put) := ggX0_setVessel_X6_put
theorem dX0_setVessel_0 : decode cX0_setVessel 0 = .ok (.aload_n 0, 1) := by decide +kernel
theorem dX0_setVessel_1 : decode cX0_setVessel 1 = .ok (.getfield 30, 3) := by decide +kernel
theorem dX0_setVessel_4 : decode cX0_setVessel 4 = .ok (.iload_n 1, 1) := by decide +kernel
theorem dX0_setVessel_5 : decode cX0_setVessel 5 = .ok (.iload_n 2, 1) := by decide +kernel
theorem dX0_setVessel_6 : decode cX0_setVessel 6 = .ok (.invokestatic 82, 3) := by decide +kernel
theorem dX0_setVessel_9 : decode cX0_setVessel 9 = .ok (.return_, 1) := by decide +kernel
set_option maxRecDepth 20000 in
theorem ggX0_isVessel_X0_vesselOf : GoodIn wsX0_isVessel wsX0_vesselOf := goodIn_r _ [5, 6, 7, 8, 9, 10, 11, 12, 13, 14, 15, 16, 17] (by decide +kernel) (by decide +kernel)
set_option maxRecDepth 20000 in
theorem gX0_isVessel_X0_vesselOf : GoodIn wsX0_isVessel (wsV RX0 97 RX0 yX0_vesselOf wsX0_vesselOf) := goodIn_app (goodIn_of _ (by decide +kernel)) ggX0_isVessel_X0_vesselOf
theorem dX0_isVessel_0 : decode cX0_isVessel 0 = .ok (.iconst 0, 1) := by decide +kernel
theorem dX0_isVessel_1 : decode cX0_isVessel 1 = .ok (.istore_n 2, 1) := by decide +kernel
theorem dX0_isVessel_2 : decode cX0_isVessel 2 = .ok (.iload_n 2, 1) := by decide +kernel
theorem dX0_isVessel_3 : decode cX0_isVessel 3 = .ok (.bipush 20, 2) := by decide +kernel
theorem dX0_isVessel_5 : decode cX0_isVessel 5 = .ok (.if_icmp .ge 20, 3) := by decide +kernel
theorem dX0_isVessel_8 : decode cX0_isVessel 8 = .ok (.aload_n 0, 1) := by decide +kernel
theorem dX0_isVessel_9 : decode cX0_isVessel 9 = .ok (.iload_n 2, 1) := by decide +kernel
theorem dX0_isVessel_10 : decode cX0_isVessel 10 = .ok (.invokevirtual 97, 3) := by decide +kernel
theorem dX0_isVessel_13 : decode cX0_isVessel 13 = .ok (.iload_n 1, 1) := by decide +kernel
theorem dX0_isVessel_14 : decode cX0_isVessel 14 = .ok (.if_icmp .ne 5, 3) := by decide +kernel
theorem dX0_isVessel_17 : decode cX0_isVessel 17 = .ok (.iconst 1, 1) := by decide +kernel
theorem dX0_isVessel_18 : decode cX0_isVessel 18 = .ok (.ireturn, 1) := by decide +kernel
theorem dX0_isVessel_19 : decode cX0_isVessel 19 = .ok (.iinc 2 1, 3) := by decide +kernel
theorem dX0_isVessel_22 : decode cX0_isVessel 22 = .ok (.goto (-20), 3) := by decide +kernel
theorem dX0_isVessel_25 : decode cX0_isVessel 25 = .ok (.iconst 0, 1) := by decide +kernel
theorem dX0_isVessel_26 : decode cX0_isVessel 26 = .ok (.ireturn, 1) := by decide +kernel
set_option maxRecDepth 20000 in
theorem ggX0_findRanks_J7_fill_53178 : GoodIn wsX0_findRanks wsJ7_fill_53178 := goodIn_r _ [5] (by decide +kernel) (by decide +kernel)
set_option maxRecDepth 20000 in
theorem gX0_findRanks_J7_fill_53178 : GoodIn wsX0_findRanks (va_wsS RX0 36 yJ7_fill_53178 wsJ7_fill_53178) := goodIn_app (goodIn_of _ (by decide +kernel)) ggX0_findRanks_J7_fill_53178
set_option maxRecDepth 20000 in
theorem ggX0_findRanks_X0_isMade : GoodIn wsX0_findRanks wsX0_isMade := goodIn_r _ [10, 11, 12, 13, 14, 55, 56, 57, 58, 59, 60, 61, 62] (by decide +kernel) (by decide +kernel)
set_option maxRecDepth 20000 in
theorem gX0_findRanks_X0_isMade : GoodIn wsX0_findRanks (wsV RX0 60 RX0 yX0_isMade wsX0_isMade) := goodIn_app (goodIn_of _ (by decide +kernel)) ggX0_findRanks_X0_isMade
set_option maxRecDepth 20000 in
theorem ggX0_findRanks_X0_needsOf : GoodIn wsX0_findRanks wsX0_needsOf := goodIn_r _ [18, 19, 20, 21, 9, 22, 23, 12, 13, 14, 24, 25, 26, 27, 28, 29, 30, 31, 32, 33, 34, 35, 36, 37, 38, 55, 56, 57, 58, 59, 60, 61, 62] (by decide +kernel) (by decide +kernel)
set_option maxRecDepth 20000 in
theorem gX0_findRanks_X0_needsOf : GoodIn wsX0_findRanks (wsV RX0 100 RX0 yX0_needsOf wsX0_needsOf) := goodIn_app (goodIn_of _ (by decide +kernel)) ggX0_findRanks_X0_needsOf
set_option maxRecDepth 20000 in
theorem ggX0_findRanks_X0_greatestRankIn : GoodIn wsX0_findRanks wsX0_greatestRankIn := goodIn_r _ [42, 43, 44, 45, 46, 47, 13, 48, 49, 50, 51, 9, 52, 1, 12, 14, 55, 56, 57, 58, 59, 60, 61, 62] (by decide +kernel) (by decide +kernel)
set_option maxRecDepth 20000 in
theorem gX0_findRanks_X0_greatestRankIn : GoodIn wsX0_findRanks (wsV RX0 103 RX0 yX0_greatestRankIn wsX0_greatestRankIn) := goodIn_app (goodIn_of _ (by decide +kernel)) ggX0_findRanks_X0_greatestRankIn
set_option maxRecDepth 20000 in
theorem ggX0_findRanks_X0_rankOf : GoodIn wsX0_findRanks wsX0_rankOf := goodIn_r _ [52, 1, 12, 13, 14, 55, 56, 57, 58, 59, 60, 61, 62] (by decide +kernel) (by decide +kernel)
set_option maxRecDepth 20000 in
theorem gX0_findRanks_X0_rankOf : GoodIn wsX0_findRanks (wsV RX0 64 RX0 yX0_rankOf wsX0_rankOf) := goodIn_app (goodIn_of _ (by decide +kernel)) ggX0_findRanks_X0_rankOf
set_option maxRecDepth 20000 in
theorem ggX0_findRanks_X6_put : GoodIn wsX0_findRanks wsX6_put := goodIn_r _ [54] (by decide +kernel) (by decide +kernel)
set_option maxRecDepth 20000 in
theorem gX0_findRanks_X6_put_n82 : GoodIn wsX0_findRanks (wsX6_put) := ggX0_findRanks_X6_put
theorem dX0_findRanks_0 : decode cX0_findRanks 0 = .ok (.aload_n 0, 1) := by decide +kernel
theorem dX0_findRanks_1 : decode cX0_findRanks 1 = .ok (.getfield 33, 3) := by decide +kernel
theorem dX0_findRanks_4 : decode cX0_findRanks 4 = .ok (.iconst 0, 1) := by decide +kernel
theorem dX0_findRanks_5 : decode cX0_findRanks 5 = .ok (.invokestatic 36, 3) := by decide +kernel
theorem dX0_findRanks_8 : decode cX0_findRanks 8 = .ok (.iconst 0, 1) := by decide +kernel
theorem dX0_findRanks_9 : decode cX0_findRanks 9 = .ok (.istore_n 1, 1) := by decide +kernel
theorem dX0_findRanks_10 : decode cX0_findRanks 10 = .ok (.iload_n 1, 1) := by decide +kernel
theorem dX0_findRanks_11 : decode cX0_findRanks 11 = .ok (.bipush 9, 2) := by decide +kernel
theorem dX0_findRanks_13 : decode cX0_findRanks 13 = .ok (.if_icmp .gt 87, 3) := by decide +kernel
theorem dX0_findRanks_16 : decode cX0_findRanks 16 = .ok (.iconst 0, 1) := by decide +kernel
theorem dX0_findRanks_17 : decode cX0_findRanks 17 = .ok (.istore_n 2, 1) := by decide +kernel
theorem dX0_findRanks_18 : decode cX0_findRanks 18 = .ok (.iconst 0, 1) := by decide +kernel
theorem dX0_findRanks_19 : decode cX0_findRanks 19 = .ok (.istore_n 3, 1) := by decide +kernel
theorem dX0_findRanks_20 : decode cX0_findRanks 20 = .ok (.iload_n 3, 1) := by decide +kernel
theorem dX0_findRanks_21 : decode cX0_findRanks 21 = .ok (.bipush 20, 2) := by decide +kernel
theorem dX0_findRanks_23 : decode cX0_findRanks 23 = .ok (.if_icmp .ge 65, 3) := by decide +kernel
theorem dX0_findRanks_26 : decode cX0_findRanks 26 = .ok (.aload_n 0, 1) := by decide +kernel
theorem dX0_findRanks_27 : decode cX0_findRanks 27 = .ok (.iload_n 3, 1) := by decide +kernel
theorem dX0_findRanks_28 : decode cX0_findRanks 28 = .ok (.invokevirtual 60, 3) := by decide +kernel
theorem dX0_findRanks_31 : decode cX0_findRanks 31 = .ok (.ifCond .eq 17, 3) := by decide +kernel
theorem dX0_findRanks_34 : decode cX0_findRanks 34 = .ok (.iconst 1, 1) := by decide +kernel
theorem dX0_findRanks_35 : decode cX0_findRanks 35 = .ok (.aload_n 0, 1) := by decide +kernel
theorem dX0_findRanks_36 : decode cX0_findRanks 36 = .ok (.aload_n 0, 1) := by decide +kernel
theorem dX0_findRanks_37 : decode cX0_findRanks 37 = .ok (.iload_n 3, 1) := by decide +kernel
theorem dX0_findRanks_38 : decode cX0_findRanks 38 = .ok (.invokevirtual 100, 3) := by decide +kernel
theorem dX0_findRanks_41 : decode cX0_findRanks 41 = .ok (.invokevirtual 103, 3) := by decide +kernel
theorem dX0_findRanks_44 : decode cX0_findRanks 44 = .ok (.iadd, 1) := by decide +kernel
theorem dX0_findRanks_45 : decode cX0_findRanks 45 = .ok (.goto 4, 3) := by decide +kernel
theorem dX0_findRanks_48 : decode cX0_findRanks 48 = .ok (.iconst 0, 1) := by decide +kernel
theorem dX0_findRanks_49 : decode cX0_findRanks 49 = .ok (.istore 4, 2) := by decide +kernel
theorem dX0_findRanks_51 : decode cX0_findRanks 51 = .ok (.iload 4, 2) := by decide +kernel
theorem dX0_findRanks_53 : decode cX0_findRanks 53 = .ok (.bipush 8, 2) := by decide +kernel
theorem dX0_findRanks_55 : decode cX0_findRanks 55 = .ok (.if_icmp .le 5, 3) := by decide +kernel
theorem dX0_findRanks_58 : decode cX0_findRanks 58 = .ok (.iconst 0, 1) := by decide +kernel
theorem dX0_findRanks_59 : decode cX0_findRanks 59 = .ok (.ireturn, 1) := by decide +kernel
theorem dX0_findRanks_60 : decode cX0_findRanks 60 = .ok (.iload 4, 2) := by decide +kernel
theorem dX0_findRanks_62 : decode cX0_findRanks 62 = .ok (.aload_n 0, 1) := by decide +kernel
theorem dX0_findRanks_63 : decode cX0_findRanks 63 = .ok (.iload_n 3, 1) := by decide +kernel
theorem dX0_findRanks_64 : decode cX0_findRanks 64 = .ok (.invokevirtual 64, 3) := by decide +kernel
theorem dX0_findRanks_67 : decode cX0_findRanks 67 = .ok (.if_icmp .eq 15, 3) := by decide +kernel
theorem dX0_findRanks_70 : decode cX0_findRanks 70 = .ok (.aload_n 0, 1) := by decide +kernel
theorem dX0_findRanks_71 : decode cX0_findRanks 71 = .ok (.getfield 33, 3) := by decide +kernel
theorem dX0_findRanks_74 : decode cX0_findRanks 74 = .ok (.iload_n 3, 1) := by decide +kernel
theorem dX0_findRanks_75 : decode cX0_findRanks 75 = .ok (.iload 4, 2) := by decide +kernel
theorem dX0_findRanks_77 : decode cX0_findRanks 77 = .ok (.invokestatic 82, 3) := by decide +kernel
theorem dX0_findRanks_80 : decode cX0_findRanks 80 = .ok (.iconst 1, 1) := by decide +kernel
theorem dX0_findRanks_81 : decode cX0_findRanks 81 = .ok (.istore_n 2, 1) := by decide +kernel
theorem dX0_findRanks_82 : decode cX0_findRanks 82 = .ok (.iinc 3 1, 3) := by decide +kernel
theorem dX0_findRanks_85 : decode cX0_findRanks 85 = .ok (.goto (-65), 3) := by decide +kernel
theorem dX0_findRanks_88 : decode cX0_findRanks 88 = .ok (.iload_n 2, 1) := by decide +kernel
theorem dX0_findRanks_89 : decode cX0_findRanks 89 = .ok (.ifCond .ne 5, 3) := by decide +kernel
theorem dX0_findRanks_92 : decode cX0_findRanks 92 = .ok (.iconst 1, 1) := by decide +kernel
theorem dX0_findRanks_93 : decode cX0_findRanks 93 = .ok (.ireturn, 1) := by decide +kernel
theorem dX0_findRanks_94 : decode cX0_findRanks 94 = .ok (.iinc 1 1, 3) := by decide +kernel
theorem dX0_findRanks_97 : decode cX0_findRanks 97 = .ok (.goto (-87), 3) := by decide +kernel
theorem dX0_findRanks_100 : decode cX0_findRanks 100 = .ok (.iconst 0, 1) := by decide +kernel
theorem dX0_findRanks_101 : decode cX0_findRanks 101 = .ok (.ireturn, 1) := by decide +kernel
set_option maxRecDepth 20000 in
theorem ggX0_greatestRankIn_X6_hasBit : GoodIn wsX0_greatestRankIn wsX6_hasBit := goodIn_r _ [7] (by decide +kernel) (by decide +kernel)
set_option maxRecDepth 20000 in
theorem gX0_greatestRankIn_X6_hasBit_n106 : GoodIn wsX0_greatestRankIn (wsX6_hasBit) := ggX0_greatestRankIn_X6_hasBit
set_option maxRecDepth 20000 in
theorem ggX0_greatestRankIn_X0_rankOf : GoodIn wsX0_greatestRankIn wsX0_rankOf := goodIn_r _ [12, 13, 14, 6, 15, 16, 17, 18, 19, 20, 21, 22, 23] (by decide +kernel) (by decide +kernel)
set_option maxRecDepth 20000 in
theorem gX0_greatestRankIn_X0_rankOf : GoodIn wsX0_greatestRankIn (wsV RX0 64 RX0 yX0_rankOf wsX0_rankOf) := goodIn_app (goodIn_of _ (by decide +kernel)) ggX0_greatestRankIn_X0_rankOf
theorem dX0_greatestRankIn_0 : decode cX0_greatestRankIn 0 = .ok (.iconst 0, 1) := by decide +kernel
theorem dX0_greatestRankIn_1 : decode cX0_greatestRankIn 1 = .ok (.istore_n 2, 1) := by decide +kernel
theorem dX0_greatestRankIn_2 : decode cX0_greatestRankIn 2 = .ok (.iconst 0, 1) := by decide +kernel
theorem dX0_greatestRankIn_3 : decode cX0_greatestRankIn 3 = .ok (.istore_n 3, 1) := by decide +kernel
theorem dX0_greatestRankIn_4 : decode cX0_greatestRankIn 4 = .ok (.iload_n 3, 1) := by decide +kernel
theorem dX0_greatestRankIn_5 : decode cX0_greatestRankIn 5 = .ok (.bipush 20, 2) := by decide +kernel
theorem dX0_greatestRankIn_7 : decode cX0_greatestRankIn 7 = .ok (.if_icmp .ge 27, 3) := by decide +kernel
theorem dX0_greatestRankIn_10 : decode cX0_greatestRankIn 10 = .ok (.iload_n 1, 1) := by decide +kernel
theorem dX0_greatestRankIn_11 : decode cX0_greatestRankIn 11 = .ok (.iload_n 3, 1) := by decide +kernel
theorem dX0_greatestRankIn_12 : decode cX0_greatestRankIn 12 = .ok (.invokestatic 106, 3) := by decide +kernel
theorem dX0_greatestRankIn_15 : decode cX0_greatestRankIn 15 = .ok (.ifCond .eq 13, 3) := by decide +kernel
theorem dX0_greatestRankIn_18 : decode cX0_greatestRankIn 18 = .ok (.iload_n 2, 1) := by decide +kernel
theorem dX0_greatestRankIn_19 : decode cX0_greatestRankIn 19 = .ok (.aload_n 0, 1) := by decide +kernel
theorem dX0_greatestRankIn_20 : decode cX0_greatestRankIn 20 = .ok (.iload_n 3, 1) := by decide +kernel
theorem dX0_greatestRankIn_21 : decode cX0_greatestRankIn 21 = .ok (.invokevirtual 64, 3) := by decide +kernel
theorem dX0_greatestRankIn_24 : decode cX0_greatestRankIn 24 = .ok (.invokestatic 67, 3) := by decide +kernel
theorem dX0_greatestRankIn_27 : decode cX0_greatestRankIn 27 = .ok (.istore_n 2, 1) := by decide +kernel
theorem dX0_greatestRankIn_28 : decode cX0_greatestRankIn 28 = .ok (.iinc 3 1, 3) := by decide +kernel
theorem dX0_greatestRankIn_31 : decode cX0_greatestRankIn 31 = .ok (.goto (-27), 3) := by decide +kernel
theorem dX0_greatestRankIn_34 : decode cX0_greatestRankIn 34 = .ok (.iload_n 2, 1) := by decide +kernel
theorem dX0_greatestRankIn_35 : decode cX0_greatestRankIn 35 = .ok (.ireturn, 1) := by decide +kernel
set_option maxRecDepth 20000 in
theorem ggX0_needsOf_X0_ingredientsOf : GoodIn wsX0_needsOf wsX0_ingredientsOf := goodIn_r _ [5, 6, 7, 8, 9, 25, 26, 27, 28, 29, 30, 31, 32] (by decide +kernel) (by decide +kernel)
set_option maxRecDepth 20000 in
theorem gX0_needsOf_X0_ingredientsOf : GoodIn wsX0_needsOf (wsV RX0 110 RX0 yX0_ingredientsOf wsX0_ingredientsOf) := goodIn_app (goodIn_of _ (by decide +kernel)) ggX0_needsOf_X0_ingredientsOf
set_option maxRecDepth 20000 in
theorem ggX0_needsOf_X0_ingredientAt : GoodIn wsX0_needsOf wsX0_ingredientAt := goodIn_r _ [13, 14, 7, 8, 9, 25, 26, 27, 28, 29, 30, 31, 32] (by decide +kernel) (by decide +kernel)
set_option maxRecDepth 20000 in
theorem gX0_needsOf_X0_ingredientAt : GoodIn wsX0_needsOf (wsV RX0 113 RX0 yX0_ingredientAt wsX0_ingredientAt) := goodIn_app (goodIn_of _ (by decide +kernel)) ggX0_needsOf_X0_ingredientAt
set_option maxRecDepth 20000 in
theorem ggX0_needsOf_X0_substitutesOf : GoodIn wsX0_needsOf wsX0_substitutesOf := goodIn_r _ [18, 19, 7, 8, 9, 25, 26, 27, 28, 29, 30, 31, 32] (by decide +kernel) (by decide +kernel)
set_option maxRecDepth 20000 in
theorem gX0_needsOf_X0_substitutesOf : GoodIn wsX0_needsOf (wsV RX0 91 RX0 yX0_substitutesOf wsX0_substitutesOf) := goodIn_app (goodIn_of _ (by decide +kernel)) ggX0_needsOf_X0_substitutesOf
set_option maxRecDepth 20000 in
theorem ggX0_needsOf_X0_substituteAt : GoodIn wsX0_needsOf wsX0_substituteAt := goodIn_r _ [23, 24, 7, 8, 9, 25, 26, 27, 28, 29, 30, 31, 32] (by decide +kernel) (by decide +kernel)
set_option maxRecDepth 20000 in
theorem gX0_needsOf_X0_substituteAt : GoodIn wsX0_needsOf (wsV RX0 94 RX0 yX0_substituteAt wsX0_substituteAt) := goodIn_app (goodIn_of _ (by decide +kernel)) ggX0_needsOf_X0_substituteAt
theorem dX0_needsOf_0 : decode cX0_needsOf 0 = .ok (.iconst 0, 1) := by decide +kernel
theorem dX0_needsOf_1 : decode cX0_needsOf 1 = .ok (.istore_n 2, 1) := by decide +kernel
theorem dX0_needsOf_2 : decode cX0_needsOf 2 = .ok (.aload_n 0, 1) := by decide +kernel
theorem dX0_needsOf_3 : decode cX0_needsOf 3 = .ok (.iload_n 1, 1) := by decide +kernel
theorem dX0_needsOf_4 : decode cX0_needsOf 4 = .ok (.invokevirtual 110, 3) := by decide +kernel
theorem dX0_needsOf_7 : decode cX0_needsOf 7 = .ok (.istore_n 3, 1) := by decide +kernel
theorem dX0_needsOf_8 : decode cX0_needsOf 8 = .ok (.iconst 0, 1) := by decide +kernel
theorem dX0_needsOf_9 : decode cX0_needsOf 9 = .ok (.istore 4, 2) := by decide +kernel
theorem dX0_needsOf_11 : decode cX0_needsOf 11 = .ok (.iload 4, 2) := by decide +kernel
theorem dX0_needsOf_13 : decode cX0_needsOf 13 = .ok (.iload_n 3, 1) := by decide +kernel
theorem dX0_needsOf_14 : decode cX0_needsOf 14 = .ok (.if_icmp .ge 62, 3) := by decide +kernel
theorem dX0_needsOf_17 : decode cX0_needsOf 17 = .ok (.aload_n 0, 1) := by decide +kernel
theorem dX0_needsOf_18 : decode cX0_needsOf 18 = .ok (.iload_n 1, 1) := by decide +kernel
theorem dX0_needsOf_19 : decode cX0_needsOf 19 = .ok (.iload 4, 2) := by decide +kernel
theorem dX0_needsOf_21 : decode cX0_needsOf 21 = .ok (.invokevirtual 113, 3) := by decide +kernel
theorem dX0_needsOf_24 : decode cX0_needsOf 24 = .ok (.istore 5, 2) := by decide +kernel
theorem dX0_needsOf_26 : decode cX0_needsOf 26 = .ok (.iload_n 2, 1) := by decide +kernel
theorem dX0_needsOf_27 : decode cX0_needsOf 27 = .ok (.iconst 1, 1) := by decide +kernel
theorem dX0_needsOf_28 : decode cX0_needsOf 28 = .ok (.iload 5, 2) := by decide +kernel
theorem dX0_needsOf_30 : decode cX0_needsOf 30 = .ok (.ishl, 1) := by decide +kernel
theorem dX0_needsOf_31 : decode cX0_needsOf 31 = .ok (.ior, 1) := by decide +kernel
theorem dX0_needsOf_32 : decode cX0_needsOf 32 = .ok (.istore_n 2, 1) := by decide +kernel
theorem dX0_needsOf_33 : decode cX0_needsOf 33 = .ok (.aload_n 0, 1) := by decide +kernel
theorem dX0_needsOf_34 : decode cX0_needsOf 34 = .ok (.iload 5, 2) := by decide +kernel
theorem dX0_needsOf_36 : decode cX0_needsOf 36 = .ok (.invokevirtual 91, 3) := by decide +kernel
theorem dX0_needsOf_39 : decode cX0_needsOf 39 = .ok (.istore 6, 2) := by decide +kernel
theorem dX0_needsOf_41 : decode cX0_needsOf 41 = .ok (.iconst 0, 1) := by decide +kernel
theorem dX0_needsOf_42 : decode cX0_needsOf 42 = .ok (.istore 7, 2) := by decide +kernel
theorem dX0_needsOf_44 : decode cX0_needsOf 44 = .ok (.iload 7, 2) := by decide +kernel
theorem dX0_needsOf_46 : decode cX0_needsOf 46 = .ok (.iload 6, 2) := by decide +kernel
theorem dX0_needsOf_48 : decode cX0_needsOf 48 = .ok (.if_icmp .ge 22, 3) := by decide +kernel
theorem dX0_needsOf_51 : decode cX0_needsOf 51 = .ok (.iload_n 2, 1) := by decide +kernel
theorem dX0_needsOf_52 : decode cX0_needsOf 52 = .ok (.iconst 1, 1) := by decide +kernel
theorem dX0_needsOf_53 : decode cX0_needsOf 53 = .ok (.aload_n 0, 1) := by decide +kernel
theorem dX0_needsOf_54 : decode cX0_needsOf 54 = .ok (.iload 5, 2) := by decide +kernel
theorem dX0_needsOf_56 : decode cX0_needsOf 56 = .ok (.iload 7, 2) := by decide +kernel
theorem dX0_needsOf_58 : decode cX0_needsOf 58 = .ok (.invokevirtual 94, 3) := by decide +kernel
theorem dX0_needsOf_61 : decode cX0_needsOf 61 = .ok (.ishl, 1) := by decide +kernel
theorem dX0_needsOf_62 : decode cX0_needsOf 62 = .ok (.ior, 1) := by decide +kernel
theorem dX0_needsOf_63 : decode cX0_needsOf 63 = .ok (.istore_n 2, 1) := by decide +kernel
theorem dX0_needsOf_64 : decode cX0_needsOf 64 = .ok (.iinc 7 1, 3) := by decide +kernel
theorem dX0_needsOf_67 : decode cX0_needsOf 67 = .ok (.goto (-23), 3) := by decide +kernel
theorem dX0_needsOf_70 : decode cX0_needsOf 70 = .ok (.iinc 4 1, 3) := by decide +kernel
theorem dX0_needsOf_73 : decode cX0_needsOf 73 = .ok (.goto (-62), 3) := by decide +kernel
theorem dX0_needsOf_76 : decode cX0_needsOf 76 = .ok (.iload_n 2, 1) := by decide +kernel
theorem dX0_needsOf_77 : decode cX0_needsOf 77 = .ok (.ireturn, 1) := by decide +kernel
set_option maxRecDepth 20000 in
theorem ggX0_allNeedsOf_X0_needsOf : GoodIn wsX0_allNeedsOf wsX0_needsOf := goodIn_r _ [5, 6, 7, 8, 4, 9, 10, 11, 12, 13, 14, 15, 16, 17, 18, 19, 20, 21, 22, 23, 24, 25, 26, 27, 28, 31, 32, 33, 34, 35, 36, 37, 38] (by decide +kernel) (by decide +kernel)
set_option maxRecDepth 20000 in
theorem gX0_allNeedsOf_X0_needsOf : GoodIn wsX0_allNeedsOf (wsV RX0 100 RX0 yX0_needsOf wsX0_needsOf) := goodIn_app (goodIn_of _ (by decide +kernel)) ggX0_allNeedsOf_X0_needsOf
set_option maxRecDepth 20000 in
theorem ggX0_allNeedsOf_X6_hasBit : GoodIn wsX0_allNeedsOf wsX6_hasBit := goodIn_r _ [30] (by decide +kernel) (by decide +kernel)
set_option maxRecDepth 20000 in
theorem gX0_allNeedsOf_X6_hasBit_n106 : GoodIn wsX0_allNeedsOf (wsX6_hasBit) := ggX0_allNeedsOf_X6_hasBit
theorem dX0_allNeedsOf_0 : decode cX0_allNeedsOf 0 = .ok (.aload_n 0, 1) := by decide +kernel
theorem dX0_allNeedsOf_1 : decode cX0_allNeedsOf 1 = .ok (.iload_n 1, 1) := by decide +kernel
theorem dX0_allNeedsOf_2 : decode cX0_allNeedsOf 2 = .ok (.invokevirtual 100, 3) := by decide +kernel
theorem dX0_allNeedsOf_5 : decode cX0_allNeedsOf 5 = .ok (.istore_n 2, 1) := by decide +kernel
theorem dX0_allNeedsOf_6 : decode cX0_allNeedsOf 6 = .ok (.iconst 0, 1) := by decide +kernel
theorem dX0_allNeedsOf_7 : decode cX0_allNeedsOf 7 = .ok (.istore_n 3, 1) := by decide +kernel
theorem dX0_allNeedsOf_8 : decode cX0_allNeedsOf 8 = .ok (.iload_n 3, 1) := by decide +kernel
theorem dX0_allNeedsOf_9 : decode cX0_allNeedsOf 9 = .ok (.bipush 20, 2) := by decide +kernel
theorem dX0_allNeedsOf_11 : decode cX0_allNeedsOf 11 = .ok (.if_icmp .ge 59, 3) := by decide +kernel
theorem dX0_allNeedsOf_14 : decode cX0_allNeedsOf 14 = .ok (.iload_n 2, 1) := by decide +kernel
theorem dX0_allNeedsOf_15 : decode cX0_allNeedsOf 15 = .ok (.istore 4, 2) := by decide +kernel
theorem dX0_allNeedsOf_17 : decode cX0_allNeedsOf 17 = .ok (.iconst 0, 1) := by decide +kernel
theorem dX0_allNeedsOf_18 : decode cX0_allNeedsOf 18 = .ok (.istore 5, 2) := by decide +kernel
theorem dX0_allNeedsOf_20 : decode cX0_allNeedsOf 20 = .ok (.iload 5, 2) := by decide +kernel
theorem dX0_allNeedsOf_22 : decode cX0_allNeedsOf 22 = .ok (.bipush 20, 2) := by decide +kernel
theorem dX0_allNeedsOf_24 : decode cX0_allNeedsOf 24 = .ok (.if_icmp .ge 29, 3) := by decide +kernel
theorem dX0_allNeedsOf_27 : decode cX0_allNeedsOf 27 = .ok (.iload_n 2, 1) := by decide +kernel
theorem dX0_allNeedsOf_28 : decode cX0_allNeedsOf 28 = .ok (.iload 5, 2) := by decide +kernel
theorem dX0_allNeedsOf_30 : decode cX0_allNeedsOf 30 = .ok (.invokestatic 106, 3) := by decide +kernel
theorem dX0_allNeedsOf_33 : decode cX0_allNeedsOf 33 = .ok (.ifCond .eq 14, 3) := by decide +kernel
theorem dX0_allNeedsOf_36 : decode cX0_allNeedsOf 36 = .ok (.iload 4, 2) := by decide +kernel
theorem dX0_allNeedsOf_38 : decode cX0_allNeedsOf 38 = .ok (.aload_n 0, 1) := by decide +kernel
theorem dX0_allNeedsOf_39 : decode cX0_allNeedsOf 39 = .ok (.iload 5, 2) := by decide +kernel
theorem dX0_allNeedsOf_41 : decode cX0_allNeedsOf 41 = .ok (.invokevirtual 100, 3) := by decide +kernel
theorem dX0_allNeedsOf_44 : decode cX0_allNeedsOf 44 = .ok (.ior, 1) := by decide +kernel
theorem dX0_allNeedsOf_45 : decode cX0_allNeedsOf 45 = .ok (.istore 4, 2) := by decide +kernel
theorem dX0_allNeedsOf_47 : decode cX0_allNeedsOf 47 = .ok (.iinc 5 1, 3) := by decide +kernel
theorem dX0_allNeedsOf_50 : decode cX0_allNeedsOf 50 = .ok (.goto (-30), 3) := by decide +kernel
theorem dX0_allNeedsOf_53 : decode cX0_allNeedsOf 53 = .ok (.iload 4, 2) := by decide +kernel
theorem dX0_allNeedsOf_55 : decode cX0_allNeedsOf 55 = .ok (.iload_n 2, 1) := by decide +kernel
theorem dX0_allNeedsOf_56 : decode cX0_allNeedsOf 56 = .ok (.if_icmp .ne 5, 3) := by decide +kernel
theorem dX0_allNeedsOf_59 : decode cX0_allNeedsOf 59 = .ok (.iload_n 2, 1) := by decide +kernel
theorem dX0_allNeedsOf_60 : decode cX0_allNeedsOf 60 = .ok (.ireturn, 1) := by decide +kernel
theorem dX0_allNeedsOf_61 : decode cX0_allNeedsOf 61 = .ok (.iload 4, 2) := by decide +kernel
theorem dX0_allNeedsOf_63 : decode cX0_allNeedsOf 63 = .ok (.istore_n 2, 1) := by decide +kernel
theorem dX0_allNeedsOf_64 : decode cX0_allNeedsOf 64 = .ok (.iinc 3 1, 3) := by decide +kernel
theorem dX0_allNeedsOf_67 : decode cX0_allNeedsOf 67 = .ok (.goto (-59), 3) := by decide +kernel
theorem dX0_allNeedsOf_70 : decode cX0_allNeedsOf 70 = .ok (.iload_n 2, 1) := by decide +kernel
theorem dX0_allNeedsOf_71 : decode cX0_allNeedsOf 71 = .ok (.ireturn, 1) := by decide +kernel
theorem dX1_init_0 : decode cX1_init 0 = .ok (.aload_n 0, 1) := by decide +kernel
theorem dX1_init_1 : decode cX1_init 1 = .ok (.invokespecial 3, 3) := by decide +kernel
theorem dX1_init_4 : decode cX1_init 4 = .ok (.aload_n 0, 1) := by decide +kernel
theorem dX1_init_5 : decode cX1_init 5 = .ok (.bipush 8, 2) := by decide +kernel
theorem dX1_init_7 : decode cX1_init 7 = .ok (.anewarray 9, 3) := by decide +kernel
theorem dX1_init_10 : decode cX1_init 10 = .ok (.putfield 11, 3) := by decide +kernel
theorem dX1_init_13 : decode cX1_init 13 = .ok (.return_, 1) := by decide +kernel
theorem dX1_size_0 : decode cX1_size 0 = .ok (.aload_n 0, 1) := by decide +kernel
theorem dX1_size_1 : decode cX1_size 1 = .ok (.getfield 17, 3) := by decide +kernel
theorem dX1_size_4 : decode cX1_size 4 = .ok (.ireturn, 1) := by decide +kernel
set_option maxRecDepth 20000 in
theorem ggX1_remember_X1_placeOf : GoodIn wsX1_remember wsX1_placeOf := goodIn_r _ [8, 2, 9, 10, 11, 12, 84, 85, 86] (by decide +kernel) (by decide +kernel)
set_option maxRecDepth 20000 in
theorem gX1_remember_X1_placeOf : GoodIn wsX1_remember (wsV RX1 21 RX1 yX1_placeOf wsX1_placeOf) := goodIn_app (goodIn_of _ (by decide +kernel)) ggX1_remember_X1_placeOf
set_option maxRecDepth 20000 in
theorem ggX1_remember_X6_roomAt : GoodIn wsX1_remember wsX6_roomAt := goodIn_r _ [15, 16, 17, 18, 19, 20, 14, 21, 22, 23, 24, 25, 26, 27, 28, 29, 30, 31, 32, 33, 34, 35, 36, 37, 38, 39, 40, 41, 42, 43, 44, 45, 46, 47, 48, 49, 50, 51, 52, 53, 54, 55, 56, 57, 58, 59, 60, 87, 88, 89, 90, 91, 92, 93, 94, 95, 96, 97, 98, 99, 100, 101, 102, 103] (by decide +kernel) (by decide +kernel)
set_option maxRecDepth 20000 in
theorem gX1_remember_X6_roomAt_n28 : GoodIn wsX1_remember (wsX6_roomAt) := ggX1_remember_X6_roomAt
set_option maxRecDepth 20000 in
theorem ggX1_remember_X3_hold : GoodIn wsX1_remember wsX3_hold := goodIn_r _ [64, 30, 34, 65, 66, 67, 29, 68, 40, 41, 42, 43, 44, 45, 46, 47, 69, 14, 70, 71, 72, 73, 74, 75, 76, 77, 78, 79, 80, 81, 33, 82, 55, 56, 57, 58, 59, 60, 83, 87, 88, 89, 90, 91, 92, 93, 94, 95, 96, 97, 98, 99, 100, 101, 102, 103] (by decide +kernel) (by decide +kernel)
set_option maxRecDepth 20000 in
theorem gX1_remember_X3_hold : GoodIn wsX1_remember (wsV RX1 32 RX3 yX3_hold wsX3_hold) := goodIn_app (goodIn_of _ (by decide +kernel)) ggX1_remember_X3_hold
theorem dX1_remember_0 : decode cX1_remember 0 = .ok (.aload_n 0, 1) := by decide +kernel
theorem dX1_remember_1 : decode cX1_remember 1 = .ok (.aload_n 0, 1) := by decide +kernel
theorem dX1_remember_2 : decode cX1_remember 2 = .ok (.getfield 17, 3) := by decide +kernel
theorem dX1_remember_5 : decode cX1_remember 5 = .ok (.invokevirtual 21, 3) := by decide +kernel
theorem dX1_remember_8 : decode cX1_remember 8 = .ok (.istore_n 3, 1) := by decide +kernel
theorem dX1_remember_9 : decode cX1_remember 9 = .ok (.aload_n 0, 1) := by decide +kernel
theorem dX1_remember_10 : decode cX1_remember 10 = .ok (.getfield 17, 3) := by decide +kernel
theorem dX1_remember_13 : decode cX1_remember 13 = .ok (.bipush 8, 2) := by decide +kernel
theorem dX1_remember_15 : decode cX1_remember 15 = .ok (.if_icmp .ge 16, 3) := by decide +kernel
theorem dX1_remember_18 : decode cX1_remember 18 = .ok (.aload_n 0, 1) := by decide +kernel
theorem dX1_remember_19 : decode cX1_remember 19 = .ok (.dup, 1) := by decide +kernel
theorem dX1_remember_20 : decode cX1_remember 20 = .ok (.getfield 17, 3) := by decide +kernel
theorem dX1_remember_23 : decode cX1_remember 23 = .ok (.iconst 1, 1) := by decide +kernel
theorem dX1_remember_24 : decode cX1_remember 24 = .ok (.iadd, 1) := by decide +kernel
theorem dX1_remember_25 : decode cX1_remember 25 = .ok (.putfield 17, 3) := by decide +kernel
theorem dX1_remember_28 : decode cX1_remember 28 = .ok (.goto 12, 3) := by decide +kernel
theorem dX1_remember_31 : decode cX1_remember 31 = .ok (.aload_n 0, 1) := by decide +kernel
theorem dX1_remember_32 : decode cX1_remember 32 = .ok (.aload_n 0, 1) := by decide +kernel
theorem dX1_remember_33 : decode cX1_remember 33 = .ok (.iconst 1, 1) := by decide +kernel
theorem dX1_remember_34 : decode cX1_remember 34 = .ok (.invokevirtual 21, 3) := by decide +kernel
theorem dX1_remember_37 : decode cX1_remember 37 = .ok (.putfield 25, 3) := by decide +kernel
theorem dX1_remember_40 : decode cX1_remember 40 = .ok (.aload_n 0, 1) := by decide +kernel
theorem dX1_remember_41 : decode cX1_remember 41 = .ok (.getfield 11, 3) := by decide +kernel
theorem dX1_remember_44 : decode cX1_remember 44 = .ok (.iload_n 3, 1) := by decide +kernel
theorem dX1_remember_45 : decode cX1_remember 45 = .ok (.invokestatic 28, 3) := by decide +kernel
theorem dX1_remember_48 : decode cX1_remember 48 = .ok (.aload_n 1, 1) := by decide +kernel
theorem dX1_remember_49 : decode cX1_remember 49 = .ok (.aload_n 2, 1) := by decide +kernel
theorem dX1_remember_50 : decode cX1_remember 50 = .ok (.invokevirtual 32, 3) := by decide +kernel
theorem dX1_remember_53 : decode cX1_remember 53 = .ok (.return_, 1) := by decide +kernel
set_option maxRecDepth 20000 in
theorem ggX1_restore_X1_placeOf : GoodIn wsX1_restore wsX1_placeOf := goodIn_r _ [7, 8, 9, 10, 11, 12, 58, 59, 60] (by decide +kernel) (by decide +kernel)
set_option maxRecDepth 20000 in
theorem gX1_restore_X1_placeOf : GoodIn wsX1_restore (wsV RX1 21 RX1 yX1_placeOf wsX1_placeOf) := goodIn_app (goodIn_of _ (by decide +kernel)) ggX1_restore_X1_placeOf
set_option maxRecDepth 20000 in
theorem ggX1_restore_X6_stateAt : GoodIn wsX1_restore wsX6_stateAt := goodIn_r _ [15] (by decide +kernel) (by decide +kernel)
set_option maxRecDepth 20000 in
theorem gX1_restore_X6_stateAt_n36 : GoodIn wsX1_restore (wsX6_stateAt) := ggX1_restore_X6_stateAt
set_option maxRecDepth 20000 in
theorem ggX1_restore_X3_layOut : GoodIn wsX1_restore wsX3_layOut := goodIn_r _ [20, 21, 22, 23, 24, 25, 26, 27, 28, 29, 30, 31, 32, 33, 34, 35, 36, 14, 37, 38, 39, 40, 41, 42, 43, 44, 45, 46, 47, 48, 49, 50, 51, 52, 53, 54, 55, 56, 57, 61, 62, 63, 64, 65, 66, 67, 68, 69, 70, 71, 72, 73, 74, 75, 76, 77] (by decide +kernel) (by decide +kernel)
set_option maxRecDepth 20000 in
theorem gX1_restore_X3_layOut : GoodIn wsX1_restore (wsV RX1 39 RX3 yX3_layOut wsX3_layOut) := goodIn_app (goodIn_of _ (by decide +kernel)) ggX1_restore_X3_layOut
theorem dX1_restore_0 : decode cX1_restore 0 = .ok (.aload_n 0, 1) := by decide +kernel
theorem dX1_restore_1 : decode cX1_restore 1 = .ok (.getfield 17, 3) := by decide +kernel
theorem dX1_restore_4 : decode cX1_restore 4 = .ok (.iconst 1, 1) := by decide +kernel
theorem dX1_restore_5 : decode cX1_restore 5 = .ok (.if_icmp .ge 4, 3) := by decide +kernel
theorem dX1_restore_8 : decode cX1_restore 8 = .ok (.return_, 1) := by decide +kernel
theorem dX1_restore_9 : decode cX1_restore 9 = .ok (.aload_n 0, 1) := by decide +kernel
theorem dX1_restore_10 : decode cX1_restore 10 = .ok (.dup, 1) := by decide +kernel
theorem dX1_restore_11 : decode cX1_restore 11 = .ok (.getfield 17, 3) := by decide +kernel
theorem dX1_restore_14 : decode cX1_restore 14 = .ok (.iconst 1, 1) := by decide +kernel
theorem dX1_restore_15 : decode cX1_restore 15 = .ok (.isub, 1) := by decide +kernel
theorem dX1_restore_16 : decode cX1_restore 16 = .ok (.putfield 17, 3) := by decide +kernel
theorem dX1_restore_19 : decode cX1_restore 19 = .ok (.aload_n 0, 1) := by decide +kernel
theorem dX1_restore_20 : decode cX1_restore 20 = .ok (.getfield 11, 3) := by decide +kernel
theorem dX1_restore_23 : decode cX1_restore 23 = .ok (.aload_n 0, 1) := by decide +kernel
theorem dX1_restore_24 : decode cX1_restore 24 = .ok (.aload_n 0, 1) := by decide +kernel
theorem dX1_restore_25 : decode cX1_restore 25 = .ok (.getfield 17, 3) := by decide +kernel
theorem dX1_restore_28 : decode cX1_restore 28 = .ok (.invokevirtual 21, 3) := by decide +kernel
theorem dX1_restore_31 : decode cX1_restore 31 = .ok (.invokestatic 36, 3) := by decide +kernel
theorem dX1_restore_34 : decode cX1_restore 34 = .ok (.astore_n 3, 1) := by decide +kernel
theorem dX1_restore_35 : decode cX1_restore 35 = .ok (.aload_n 3, 1) := by decide +kernel
theorem dX1_restore_36 : decode cX1_restore 36 = .ok (.ifnull 9, 3) := by decide +kernel
theorem dX1_restore_39 : decode cX1_restore 39 = .ok (.aload_n 3, 1) := by decide +kernel
theorem dX1_restore_40 : decode cX1_restore 40 = .ok (.aload_n 1, 1) := by decide +kernel
theorem dX1_restore_41 : decode cX1_restore 41 = .ok (.aload_n 2, 1) := by decide +kernel
theorem dX1_restore_42 : decode cX1_restore 42 = .ok (.invokevirtual 39, 3) := by decide +kernel
theorem dX1_restore_45 : decode cX1_restore 45 = .ok (.return_, 1) := by decide +kernel
set_option maxRecDepth 20000 in
theorem ggX1_placeOf_J9_floorMod_7cf53 : GoodIn wsX1_placeOf wsJ9_floorMod_7cf53 := goodIn_r _ [5] (by decide +kernel) (by decide +kernel)
set_option maxRecDepth 20000 in
theorem gX1_placeOf_J9_floorMod_7cf53 : GoodIn wsX1_placeOf (va_wsS RX1 42 yJ9_floorMod_7cf53 wsJ9_floorMod_7cf53) := goodIn_app (goodIn_of _ (by decide +kernel)) ggX1_placeOf_J9_floorMod_7cf53
theorem dX1_placeOf_0 : decode cX1_placeOf 0 = .ok (.aload_n 0, 1) := by decide +kernel
theorem dX1_placeOf_1 : decode cX1_placeOf 1 = .ok (.getfield 25, 3) := by decide +kernel
theorem dX1_placeOf_4 : decode cX1_placeOf 4 = .ok (.iload_n 1, 1) := by decide +kernel
theorem dX1_placeOf_5 : decode cX1_placeOf 5 = .ok (.iadd, 1) := by decide +kernel
theorem dX1_placeOf_6 : decode cX1_placeOf 6 = .ok (.bipush 8, 2) := by decide +kernel
theorem dX1_placeOf_8 : decode cX1_placeOf 8 = .ok (.invokestatic 42, 3) := by decide +kernel
theorem dX1_placeOf_11 : decode cX1_placeOf 11 = .ok (.ireturn, 1) := by decide +kernel
theorem dX2_init_0 : decode cX2_init 0 = .ok (.aload_n 0, 1) := by decide +kernel
theorem dX2_init_1 : decode cX2_init 1 = .ok (.invokespecial 3, 3) := by decide +kernel
theorem dX2_init_4 : decode cX2_init 4 = .ok (.aload_n 0, 1) := by decide +kernel
theorem dX2_init_5 : decode cX2_init 5 = .ok (.iconst 5, 1) := by decide +kernel
theorem dX2_init_6 : decode cX2_init 6 = .ok (.newarray .int, 2) := by decide +kernel
theorem dX2_init_8 : decode cX2_init 8 = .ok (.putfield 9, 3) := by decide +kernel
theorem dX2_init_11 : decode cX2_init 11 = .ok (.aload_n 0, 1) := by decide +kernel
theorem dX2_init_12 : decode cX2_init 12 = .ok (.iconst 5, 1) := by decide +kernel
theorem dX2_init_13 : decode cX2_init 13 = .ok (.newarray .int, 2) := by decide +kernel
theorem dX2_init_15 : decode cX2_init 15 = .ok (.putfield 15, 3) := by decide +kernel
theorem dX2_init_18 : decode cX2_init 18 = .ok (.return_, 1) := by decide +kernel
set_option maxRecDepth 20000 in
theorem ggX2_read_X2_readLetter : GoodIn wsX2_read wsX2_readLetter := goodIn_r _ [11, 1, 12, 13, 14, 10, 15, 16, 17, 18, 19, 20, 21, 22, 3, 4, 23, 24, 53, 54, 55, 56, 57, 58, 59, 60] (by decide +kernel) (by decide +kernel)
set_option maxRecDepth 20000 in
theorem gX2_read_X2_readLetter : GoodIn wsX2_read (wsV RX2 31 RX2 yX2_readLetter wsX2_readLetter) := goodIn_app (goodIn_of _ (by decide +kernel)) ggX2_read_X2_readLetter
set_option maxRecDepth 20000 in
theorem ggX2_read_X2_readNumber : GoodIn wsX2_read wsX2_readNumber := goodIn_r _ [28, 1, 12, 13, 14, 10, 15, 16, 17, 18, 29, 30, 31, 32, 19, 20, 21, 22, 3, 4, 53, 54, 55, 56, 57, 58, 59, 60] (by decide +kernel) (by decide +kernel)
set_option maxRecDepth 20000 in
theorem gX2_read_X2_readNumber : GoodIn wsX2_read (wsV RX2 38 RX2 yX2_readNumber wsX2_readNumber) := goodIn_app (goodIn_of _ (by decide +kernel)) ggX2_read_X2_readNumber
set_option maxRecDepth 20000 in
theorem ggX2_read_X2_readSign : GoodIn wsX2_read wsX2_readSign := goodIn_r _ [36, 1, 12, 13, 14, 10, 15, 16, 17, 18, 19, 20, 21, 22, 3, 4, 53, 54, 55, 56, 57, 58, 59, 60] (by decide +kernel) (by decide +kernel)
set_option maxRecDepth 20000 in
theorem gX2_read_X2_readSign : GoodIn wsX2_read (wsV RX2 44 RX2 yX2_readSign wsX2_readSign) := goodIn_app (goodIn_of _ (by decide +kernel)) ggX2_read_X2_readSign
set_option maxRecDepth 20000 in
theorem ggX2_read_X2_readIngredient : GoodIn wsX2_read wsX2_readIngredient := goodIn_r _ [40, 3, 2, 1, 41, 42, 25, 26, 27, 10, 28, 12, 13, 14, 15, 16, 17, 18, 29, 30, 31, 32, 19, 20, 21, 22, 4, 7, 8, 9, 11, 23, 24, 43, 44, 45, 46, 47, 48, 53, 54, 55, 56, 57, 58, 59, 60] (by decide +kernel) (by decide +kernel)
set_option maxRecDepth 20000 in
theorem gX2_read_X2_readIngredient : GoodIn wsX2_read (wsV RX2 48 RX2 yX2_readIngredient wsX2_readIngredient) := goodIn_app (goodIn_of _ (by decide +kernel)) ggX2_read_X2_readIngredient
set_option maxRecDepth 20000 in
theorem ggX2_read_X2_isMore : GoodIn wsX2_read wsX2_isMore := goodIn_r _ [52, 3, 1, 12, 13, 14, 10, 15, 16, 17, 18, 53, 54, 55, 56, 57, 58, 59, 60] (by decide +kernel) (by decide +kernel)
set_option maxRecDepth 20000 in
theorem gX2_read_X2_isMore : GoodIn wsX2_read (wsV RX2 52 RX2 yX2_isMore wsX2_isMore) := goodIn_app (goodIn_of _ (by decide +kernel)) ggX2_read_X2_isMore
theorem dX2_read_0 : decode cX2_read 0 = .ok (.aload_n 0, 1) := by decide +kernel
theorem dX2_read_1 : decode cX2_read 1 = .ok (.iconst 0, 1) := by decide +kernel
theorem dX2_read_2 : decode cX2_read 2 = .ok (.putfield 18, 3) := by decide +kernel
theorem dX2_read_5 : decode cX2_read 5 = .ok (.aload_n 0, 1) := by decide +kernel
theorem dX2_read_6 : decode cX2_read 6 = .ok (.iconst 0, 1) := by decide +kernel
theorem dX2_read_7 : decode cX2_read 7 = .ok (.putfield 22, 3) := by decide +kernel
theorem dX2_read_10 : decode cX2_read 10 = .ok (.aload_n 0, 1) := by decide +kernel
theorem dX2_read_11 : decode cX2_read 11 = .ok (.iconst 0, 1) := by decide +kernel
theorem dX2_read_12 : decode cX2_read 12 = .ok (.putfield 25, 3) := by decide +kernel
theorem dX2_read_15 : decode cX2_read 15 = .ok (.aload_n 0, 1) := by decide +kernel
theorem dX2_read_16 : decode cX2_read 16 = .ok (.iconst 0, 1) := by decide +kernel
theorem dX2_read_17 : decode cX2_read 17 = .ok (.putfield 28, 3) := by decide +kernel
theorem dX2_read_20 : decode cX2_read 20 = .ok (.aload_n 0, 1) := by decide +kernel
theorem dX2_read_21 : decode cX2_read 21 = .ok (.aload_n 0, 1) := by decide +kernel
theorem dX2_read_22 : decode cX2_read 22 = .ok (.aload_n 1, 1) := by decide +kernel
theorem dX2_read_23 : decode cX2_read 23 = .ok (.iload_n 2, 1) := by decide +kernel
theorem dX2_read_24 : decode cX2_read 24 = .ok (.invokevirtual 31, 3) := by decide +kernel
theorem dX2_read_27 : decode cX2_read 27 = .ok (.putfield 35, 3) := by decide +kernel
theorem dX2_read_30 : decode cX2_read 30 = .ok (.aload_n 0, 1) := by decide +kernel
theorem dX2_read_31 : decode cX2_read 31 = .ok (.aload_n 0, 1) := by decide +kernel
theorem dX2_read_32 : decode cX2_read 32 = .ok (.aload_n 1, 1) := by decide +kernel
theorem dX2_read_33 : decode cX2_read 33 = .ok (.iload_n 2, 1) := by decide +kernel
theorem dX2_read_34 : decode cX2_read 34 = .ok (.invokevirtual 38, 3) := by decide +kernel
theorem dX2_read_37 : decode cX2_read 37 = .ok (.putfield 41, 3) := by decide +kernel
theorem dX2_read_40 : decode cX2_read 40 = .ok (.aload_n 0, 1) := by decide +kernel
theorem dX2_read_41 : decode cX2_read 41 = .ok (.aload_n 1, 1) := by decide +kernel
theorem dX2_read_42 : decode cX2_read 42 = .ok (.iload_n 2, 1) := by decide +kernel
theorem dX2_read_43 : decode cX2_read 43 = .ok (.bipush 61, 2) := by decide +kernel
theorem dX2_read_45 : decode cX2_read 45 = .ok (.invokevirtual 44, 3) := by decide +kernel
theorem dX2_read_48 : decode cX2_read 48 = .ok (.aload_n 0, 1) := by decide +kernel
theorem dX2_read_49 : decode cX2_read 49 = .ok (.aload_n 1, 1) := by decide +kernel
theorem dX2_read_50 : decode cX2_read 50 = .ok (.iload_n 2, 1) := by decide +kernel
theorem dX2_read_51 : decode cX2_read 51 = .ok (.invokevirtual 48, 3) := by decide +kernel
theorem dX2_read_54 : decode cX2_read 54 = .ok (.iconst 0, 1) := by decide +kernel
theorem dX2_read_55 : decode cX2_read 55 = .ok (.istore_n 3, 1) := by decide +kernel
theorem dX2_read_56 : decode cX2_read 56 = .ok (.iload_n 3, 1) := by decide +kernel
theorem dX2_read_57 : decode cX2_read 57 = .ok (.iconst 5, 1) := by decide +kernel
theorem dX2_read_58 : decode cX2_read 58 = .ok (.if_icmp .ge 32, 3) := by decide +kernel
theorem dX2_read_61 : decode cX2_read 61 = .ok (.aload_n 0, 1) := by decide +kernel
theorem dX2_read_62 : decode cX2_read 62 = .ok (.aload_n 1, 1) := by decide +kernel
theorem dX2_read_63 : decode cX2_read 63 = .ok (.iload_n 2, 1) := by decide +kernel
theorem dX2_read_64 : decode cX2_read 64 = .ok (.invokevirtual 52, 3) := by decide +kernel
theorem dX2_read_67 : decode cX2_read 67 = .ok (.ifCond .eq 23, 3) := by decide +kernel
theorem dX2_read_70 : decode cX2_read 70 = .ok (.aload_n 0, 1) := by decide +kernel
theorem dX2_read_71 : decode cX2_read 71 = .ok (.aload_n 1, 1) := by decide +kernel
theorem dX2_read_72 : decode cX2_read 72 = .ok (.iload_n 2, 1) := by decide +kernel
theorem dX2_read_73 : decode cX2_read 73 = .ok (.bipush 43, 2) := by decide +kernel
theorem dX2_read_75 : decode cX2_read 75 = .ok (.invokevirtual 44, 3) := by decide +kernel
theorem dX2_read_78 : decode cX2_read 78 = .ok (.aload_n 0, 1) := by decide +kernel
theorem dX2_read_79 : decode cX2_read 79 = .ok (.aload_n 1, 1) := by decide +kernel
theorem dX2_read_80 : decode cX2_read 80 = .ok (.iload_n 2, 1) := by decide +kernel
theorem dX2_read_81 : decode cX2_read 81 = .ok (.invokevirtual 48, 3) := by decide +kernel
theorem dX2_read_84 : decode cX2_read 84 = .ok (.iinc 3 1, 3) := by decide +kernel
theorem dX2_read_87 : decode cX2_read 87 = .ok (.goto (-31), 3) := by decide +kernel
theorem dX2_read_90 : decode cX2_read 90 = .ok (.return_, 1) := by decide +kernel
set_option maxRecDepth 20000 in
theorem ggX2_isMore_X2_skipBlanks : GoodIn wsX2_isMore wsX2_skipBlanks := goodIn_r _ [7, 2, 8, 9, 10, 11, 12, 13, 14, 15, 16, 17, 18] (by decide +kernel) (by decide +kernel)
set_option maxRecDepth 20000 in
theorem gX2_isMore_X2_skipBlanks : GoodIn wsX2_isMore (wsV RX2 56 RX2 yX2_skipBlanks wsX2_skipBlanks) := goodIn_app (goodIn_of _ (by decide +kernel)) ggX2_isMore_X2_skipBlanks
theorem dX2_isMore_0 : decode cX2_isMore 0 = .ok (.aload_n 0, 1) := by decide +kernel
theorem dX2_isMore_1 : decode cX2_isMore 1 = .ok (.aload_n 1, 1) := by decide +kernel
theorem dX2_isMore_2 : decode cX2_isMore 2 = .ok (.iload_n 2, 1) := by decide +kernel
theorem dX2_isMore_3 : decode cX2_isMore 3 = .ok (.invokevirtual 56, 3) := by decide +kernel
theorem dX2_isMore_6 : decode cX2_isMore 6 = .ok (.aload_n 0, 1) := by decide +kernel
theorem dX2_isMore_7 : decode cX2_isMore 7 = .ok (.getfield 25, 3) := by decide +kernel
theorem dX2_isMore_10 : decode cX2_isMore 10 = .ok (.ifCond .ne 15, 3) := by decide +kernel
theorem dX2_isMore_13 : decode cX2_isMore 13 = .ok (.aload_n 0, 1) := by decide +kernel
theorem dX2_isMore_14 : decode cX2_isMore 14 = .ok (.getfield 18, 3) := by decide +kernel
theorem dX2_isMore_17 : decode cX2_isMore 17 = .ok (.iload_n 2, 1) := by decide +kernel
theorem dX2_isMore_18 : decode cX2_isMore 18 = .ok (.if_icmp .ge 7, 3) := by decide +kernel
theorem dX2_isMore_21 : decode cX2_isMore 21 = .ok (.iconst 1, 1) := by decide +kernel
theorem dX2_isMore_22 : decode cX2_isMore 22 = .ok (.goto 4, 3) := by decide +kernel
theorem dX2_isMore_25 : decode cX2_isMore 25 = .ok (.iconst 0, 1) := by decide +kernel
theorem dX2_isMore_26 : decode cX2_isMore 26 = .ok (.ireturn, 1) := by decide +kernel
set_option maxRecDepth 20000 in
theorem ggX2_readIngredient_X2_readNumber : GoodIn wsX2_readIngredient wsX2_readNumber := goodIn_r _ [10, 3, 11, 12, 13, 9, 14, 15, 16, 17, 18, 19, 20, 21, 22, 23, 24, 25, 1, 26, 39, 40, 41, 42, 43, 44, 45, 46] (by decide +kernel) (by decide +kernel)
set_option maxRecDepth 20000 in
theorem gX2_readIngredient_X2_readNumber : GoodIn wsX2_readIngredient (wsV RX2 38 RX2 yX2_readNumber wsX2_readNumber) := goodIn_app (goodIn_of _ (by decide +kernel)) ggX2_readIngredient_X2_readNumber
set_option maxRecDepth 20000 in
theorem ggX2_readIngredient_X2_readLetter : GoodIn wsX2_readIngredient wsX2_readLetter := goodIn_r _ [30, 3, 11, 12, 13, 9, 14, 15, 16, 17, 22, 23, 24, 25, 1, 26, 31, 32, 39, 40, 41, 42, 43, 44, 45, 46] (by decide +kernel) (by decide +kernel)
set_option maxRecDepth 20000 in
theorem gX2_readIngredient_X2_readLetter : GoodIn wsX2_readIngredient (wsV RX2 31 RX2 yX2_readLetter wsX2_readLetter) := goodIn_app (goodIn_of _ (by decide +kernel)) ggX2_readIngredient_X2_readLetter
set_option maxRecDepth 20000 in
theorem ggX2_readIngredient_X2_isListed : GoodIn wsX2_readIngredient wsX2_isListed := goodIn_r _ [36, 2, 4, 15, 16, 17, 39, 40, 41, 42, 43, 44, 45, 46] (by decide +kernel) (by decide +kernel)
set_option maxRecDepth 20000 in
theorem gX2_readIngredient_X2_isListed : GoodIn wsX2_readIngredient (wsV RX2 59 RX2 yX2_isListed wsX2_isListed) := goodIn_app (goodIn_of _ (by decide +kernel)) ggX2_readIngredient_X2_isListed
set_option maxRecDepth 20000 in
theorem ggX2_readIngredient_X2_tellFault : GoodIn wsX2_readIngredient wsX2_tellFault := goodIn_r _ [25, 1, 26, 39, 40, 41, 42, 43, 44, 45, 46] (by decide +kernel) (by decide +kernel)
set_option maxRecDepth 20000 in
theorem gX2_readIngredient_X2_tellFault : GoodIn wsX2_readIngredient (wsV RX2 63 RX2 yX2_tellFault wsX2_tellFault) := goodIn_app (goodIn_of _ (by decide +kernel)) ggX2_readIngredient_X2_tellFault
set_option maxRecDepth 20000 in
theorem ggX2_readIngredient_X6_put : GoodIn wsX2_readIngredient wsX6_put := goodIn_r _ [38] (by decide +kernel) (by decide +kernel)
set_option maxRecDepth 20000 in
theorem gX2_readIngredient_X6_put_n67 : GoodIn wsX2_readIngredient (wsX6_put) := ggX2_readIngredient_X6_put
theorem dX2_readIngredient_0 : decode cX2_readIngredient 0 = .ok (.aload_n 0, 1) := by decide +kernel
theorem dX2_readIngredient_1 : decode cX2_readIngredient 1 = .ok (.aload_n 1, 1) := by decide +kernel
theorem dX2_readIngredient_2 : decode cX2_readIngredient 2 = .ok (.iload_n 2, 1) := by decide +kernel
theorem dX2_readIngredient_3 : decode cX2_readIngredient 3 = .ok (.invokevirtual 38, 3) := by decide +kernel
theorem dX2_readIngredient_6 : decode cX2_readIngredient 6 = .ok (.istore_n 3, 1) := by decide +kernel
theorem dX2_readIngredient_7 : decode cX2_readIngredient 7 = .ok (.aload_n 0, 1) := by decide +kernel
theorem dX2_readIngredient_8 : decode cX2_readIngredient 8 = .ok (.aload_n 1, 1) := by decide +kernel
theorem dX2_readIngredient_9 : decode cX2_readIngredient 9 = .ok (.iload_n 2, 1) := by decide +kernel
theorem dX2_readIngredient_10 : decode cX2_readIngredient 10 = .ok (.invokevirtual 31, 3) := by decide +kernel
theorem dX2_readIngredient_13 : decode cX2_readIngredient 13 = .ok (.istore 4, 2) := by decide +kernel
theorem dX2_readIngredient_15 : decode cX2_readIngredient 15 = .ok (.aload_n 0, 1) := by decide +kernel
theorem dX2_readIngredient_16 : decode cX2_readIngredient 16 = .ok (.getfield 25, 3) := by decide +kernel
theorem dX2_readIngredient_19 : decode cX2_readIngredient 19 = .ok (.ifCond .eq 4, 3) := by decide +kernel
theorem dX2_readIngredient_22 : decode cX2_readIngredient 22 = .ok (.return_, 1) := by decide +kernel
theorem dX2_readIngredient_23 : decode cX2_readIngredient 23 = .ok (.aload_n 0, 1) := by decide +kernel
theorem dX2_readIngredient_24 : decode cX2_readIngredient 24 = .ok (.getfield 22, 3) := by decide +kernel
theorem dX2_readIngredient_27 : decode cX2_readIngredient 27 = .ok (.iconst 5, 1) := by decide +kernel
theorem dX2_readIngredient_28 : decode cX2_readIngredient 28 = .ok (.if_icmp .ge 12, 3) := by decide +kernel
theorem dX2_readIngredient_31 : decode cX2_readIngredient 31 = .ok (.aload_n 0, 1) := by decide +kernel
theorem dX2_readIngredient_32 : decode cX2_readIngredient 32 = .ok (.iload 4, 2) := by decide +kernel
theorem dX2_readIngredient_34 : decode cX2_readIngredient 34 = .ok (.invokevirtual 59, 3) := by decide +kernel
theorem dX2_readIngredient_37 : decode cX2_readIngredient 37 = .ok (.ifCond .eq 15, 3) := by decide +kernel
theorem dX2_readIngredient_40 : decode cX2_readIngredient 40 = .ok (.aload_n 0, 1) := by decide +kernel
theorem dX2_readIngredient_41 : decode cX2_readIngredient 41 = .ok (.iconst 3, 1) := by decide +kernel
theorem dX2_readIngredient_42 : decode cX2_readIngredient 42 = .ok (.aload_n 0, 1) := by decide +kernel
theorem dX2_readIngredient_43 : decode cX2_readIngredient 43 = .ok (.getfield 18, 3) := by decide +kernel
theorem dX2_readIngredient_46 : decode cX2_readIngredient 46 = .ok (.iconst 1, 1) := by decide +kernel
theorem dX2_readIngredient_47 : decode cX2_readIngredient 47 = .ok (.isub, 1) := by decide +kernel
theorem dX2_readIngredient_48 : decode cX2_readIngredient 48 = .ok (.invokevirtual 63, 3) := by decide +kernel
theorem dX2_readIngredient_51 : decode cX2_readIngredient 51 = .ok (.return_, 1) := by decide +kernel
theorem dX2_readIngredient_52 : decode cX2_readIngredient 52 = .ok (.aload_n 0, 1) := by decide +kernel
theorem dX2_readIngredient_53 : decode cX2_readIngredient 53 = .ok (.getfield 9, 3) := by decide +kernel
theorem dX2_readIngredient_56 : decode cX2_readIngredient 56 = .ok (.aload_n 0, 1) := by decide +kernel
theorem dX2_readIngredient_57 : decode cX2_readIngredient 57 = .ok (.getfield 22, 3) := by decide +kernel
theorem dX2_readIngredient_60 : decode cX2_readIngredient 60 = .ok (.iload 4, 2) := by decide +kernel
theorem dX2_readIngredient_62 : decode cX2_readIngredient 62 = .ok (.invokestatic 67, 3) := by decide +kernel
theorem dX2_readIngredient_65 : decode cX2_readIngredient 65 = .ok (.aload_n 0, 1) := by decide +kernel
theorem dX2_readIngredient_66 : decode cX2_readIngredient 66 = .ok (.getfield 15, 3) := by decide +kernel
theorem dX2_readIngredient_69 : decode cX2_readIngredient 69 = .ok (.aload_n 0, 1) := by decide +kernel
theorem dX2_readIngredient_70 : decode cX2_readIngredient 70 = .ok (.getfield 22, 3) := by decide +kernel
theorem dX2_readIngredient_73 : decode cX2_readIngredient 73 = .ok (.iload_n 3, 1) := by decide +kernel
theorem dX2_readIngredient_74 : decode cX2_readIngredient 74 = .ok (.invokestatic 67, 3) := by decide +kernel
theorem dX2_readIngredient_77 : decode cX2_readIngredient 77 = .ok (.aload_n 0, 1) := by decide +kernel
theorem dX2_readIngredient_78 : decode cX2_readIngredient 78 = .ok (.dup, 1) := by decide +kernel
theorem dX2_readIngredient_79 : decode cX2_readIngredient 79 = .ok (.getfield 22, 3) := by decide +kernel
theorem dX2_readIngredient_82 : decode cX2_readIngredient 82 = .ok (.iconst 1, 1) := by decide +kernel
theorem dX2_readIngredient_83 : decode cX2_readIngredient 83 = .ok (.iadd, 1) := by decide +kernel
theorem dX2_readIngredient_84 : decode cX2_readIngredient 84 = .ok (.putfield 22, 3) := by decide +kernel
theorem dX2_readIngredient_87 : decode cX2_readIngredient 87 = .ok (.return_, 1) := by decide +kernel
set_option maxRecDepth 20000 in
theorem ggX2_isListed_X6_at : GoodIn wsX2_isListed wsX6_at := goodIn_r _ [5] (by decide +kernel) (by decide +kernel)
set_option maxRecDepth 20000 in
theorem gX2_isListed_X6_at_n70 : GoodIn wsX2_isListed (wsX6_at) := ggX2_isListed_X6_at
theorem dX2_isListed_0 : decode cX2_isListed 0 = .ok (.iconst 0, 1) := by decide +kernel
theorem dX2_isListed_1 : decode cX2_isListed 1 = .ok (.istore_n 2, 1) := by decide +kernel
theorem dX2_isListed_2 : decode cX2_isListed 2 = .ok (.iload_n 2, 1) := by decide +kernel
theorem dX2_isListed_3 : decode cX2_isListed 3 = .ok (.aload_n 0, 1) := by decide +kernel
theorem dX2_isListed_4 : decode cX2_isListed 4 = .ok (.getfield 22, 3) := by decide +kernel
theorem dX2_isListed_7 : decode cX2_isListed 7 = .ok (.if_icmp .ge 23, 3) := by decide +kernel
theorem dX2_isListed_10 : decode cX2_isListed 10 = .ok (.aload_n 0, 1) := by decide +kernel
theorem dX2_isListed_11 : decode cX2_isListed 11 = .ok (.getfield 9, 3) := by decide +kernel
theorem dX2_isListed_14 : decode cX2_isListed 14 = .ok (.iload_n 2, 1) := by decide +kernel
theorem dX2_isListed_15 : decode cX2_isListed 15 = .ok (.invokestatic 70, 3) := by decide +kernel
theorem dX2_isListed_18 : decode cX2_isListed 18 = .ok (.iload_n 1, 1) := by decide +kernel
theorem dX2_isListed_19 : decode cX2_isListed 19 = .ok (.if_icmp .ne 5, 3) := by decide +kernel
theorem dX2_isListed_22 : decode cX2_isListed 22 = .ok (.iconst 1, 1) := by decide +kernel
theorem dX2_isListed_23 : decode cX2_isListed 23 = .ok (.ireturn, 1) := by decide +kernel
theorem dX2_isListed_24 : decode cX2_isListed 24 = .ok (.iinc 2 1, 3) := by decide +kernel
theorem dX2_isListed_27 : decode cX2_isListed 27 = .ok (.goto (-25), 3) := by decide +kernel
theorem dX2_isListed_30 : decode cX2_isListed 30 = .ok (.iconst 0, 1) := by decide +kernel
theorem dX2_isListed_31 : decode cX2_isListed 31 = .ok (.ireturn, 1) := by decide +kernel
set_option maxRecDepth 20000 in
theorem ggX2_readLetter_X2_skipBlanks : GoodIn wsX2_readLetter wsX2_skipBlanks := goodIn_r _ [6, 1, 7, 8, 9, 18, 19, 20, 21, 22, 23, 24, 25] (by decide +kernel) (by decide +kernel)
set_option maxRecDepth 20000 in
theorem gX2_readLetter_X2_skipBlanks : GoodIn wsX2_readLetter (wsV RX2 56 RX2 yX2_skipBlanks wsX2_skipBlanks) := goodIn_app (goodIn_of _ (by decide +kernel)) ggX2_readLetter_X2_skipBlanks
set_option maxRecDepth 20000 in
theorem ggX2_readLetter_X6_at : GoodIn wsX2_readLetter wsX6_at := goodIn_r _ [9] (by decide +kernel) (by decide +kernel)
set_option maxRecDepth 20000 in
theorem gX2_readLetter_X6_at_n70 : GoodIn wsX2_readLetter (wsX6_at) := ggX2_readLetter_X6_at
set_option maxRecDepth 20000 in
theorem ggX2_readLetter_X2_tellFault : GoodIn wsX2_readLetter wsX2_tellFault := goodIn_r _ [13, 14, 15, 18, 19, 20, 21, 22, 23, 24, 25] (by decide +kernel) (by decide +kernel)
set_option maxRecDepth 20000 in
theorem gX2_readLetter_X2_tellFault : GoodIn wsX2_readLetter (wsV RX2 63 RX2 yX2_tellFault wsX2_tellFault) := goodIn_app (goodIn_of _ (by decide +kernel)) ggX2_readLetter_X2_tellFault
set_option maxRecDepth 20000 in
theorem ggX2_readLetter_X6_isThing : GoodIn wsX2_readLetter wsX6_isThing := goodIn_r _ [17] (by decide +kernel) (by decide +kernel)
set_option maxRecDepth 20000 in
theorem gX2_readLetter_X6_isThing_n73 : GoodIn wsX2_readLetter (wsX6_isThing) := ggX2_readLetter_X6_isThing
theorem dX2_readLetter_0 : decode cX2_readLetter 0 = .ok (.aload_n 0, 1) := by decide +kernel
theorem dX2_readLetter_1 : decode cX2_readLetter 1 = .ok (.aload_n 1, 1) := by decide +kernel
theorem dX2_readLetter_2 : decode cX2_readLetter 2 = .ok (.iload_n 2, 1) := by decide +kernel
theorem dX2_readLetter_3 : decode cX2_readLetter 3 = .ok (.invokevirtual 56, 3) := by decide +kernel
theorem dX2_readLetter_6 : decode cX2_readLetter 6 = .ok (.aload_n 1, 1) := by decide +kernel
theorem dX2_readLetter_7 : decode cX2_readLetter 7 = .ok (.aload_n 0, 1) := by decide +kernel
theorem dX2_readLetter_8 : decode cX2_readLetter 8 = .ok (.getfield 18, 3) := by decide +kernel
theorem dX2_readLetter_11 : decode cX2_readLetter 11 = .ok (.invokestatic 70, 3) := by decide +kernel
theorem dX2_readLetter_14 : decode cX2_readLetter 14 = .ok (.bipush 97, 2) := by decide +kernel
theorem dX2_readLetter_16 : decode cX2_readLetter 16 = .ok (.isub, 1) := by decide +kernel
theorem dX2_readLetter_17 : decode cX2_readLetter 17 = .ok (.istore_n 3, 1) := by decide +kernel
theorem dX2_readLetter_18 : decode cX2_readLetter 18 = .ok (.aload_n 0, 1) := by decide +kernel
theorem dX2_readLetter_19 : decode cX2_readLetter 19 = .ok (.getfield 18, 3) := by decide +kernel
theorem dX2_readLetter_22 : decode cX2_readLetter 22 = .ok (.iload_n 2, 1) := by decide +kernel
theorem dX2_readLetter_23 : decode cX2_readLetter 23 = .ok (.if_icmp .lt 12, 3) := by decide +kernel
theorem dX2_readLetter_26 : decode cX2_readLetter 26 = .ok (.aload_n 0, 1) := by decide +kernel
theorem dX2_readLetter_27 : decode cX2_readLetter 27 = .ok (.iconst 4, 1) := by decide +kernel
theorem dX2_readLetter_28 : decode cX2_readLetter 28 = .ok (.iload_n 2, 1) := by decide +kernel
theorem dX2_readLetter_29 : decode cX2_readLetter 29 = .ok (.invokevirtual 63, 3) := by decide +kernel
theorem dX2_readLetter_32 : decode cX2_readLetter 32 = .ok (.goto 19, 3) := by decide +kernel
theorem dX2_readLetter_35 : decode cX2_readLetter 35 = .ok (.iload_n 3, 1) := by decide +kernel
theorem dX2_readLetter_36 : decode cX2_readLetter 36 = .ok (.invokestatic 73, 3) := by decide +kernel
theorem dX2_readLetter_39 : decode cX2_readLetter 39 = .ok (.ifCond .ne 12, 3) := by decide +kernel
theorem dX2_readLetter_42 : decode cX2_readLetter 42 = .ok (.aload_n 0, 1) := by decide +kernel
theorem dX2_readLetter_43 : decode cX2_readLetter 43 = .ok (.iconst 1, 1) := by decide +kernel
theorem dX2_readLetter_44 : decode cX2_readLetter 44 = .ok (.aload_n 0, 1) := by decide +kernel
theorem dX2_readLetter_45 : decode cX2_readLetter 45 = .ok (.getfield 18, 3) := by decide +kernel
theorem dX2_readLetter_48 : decode cX2_readLetter 48 = .ok (.invokevirtual 63, 3) := by decide +kernel
theorem dX2_readLetter_51 : decode cX2_readLetter 51 = .ok (.aload_n 0, 1) := by decide +kernel
theorem dX2_readLetter_52 : decode cX2_readLetter 52 = .ok (.dup, 1) := by decide +kernel
theorem dX2_readLetter_53 : decode cX2_readLetter 53 = .ok (.getfield 18, 3) := by decide +kernel
theorem dX2_readLetter_56 : decode cX2_readLetter 56 = .ok (.iconst 1, 1) := by decide +kernel
theorem dX2_readLetter_57 : decode cX2_readLetter 57 = .ok (.iadd, 1) := by decide +kernel
theorem dX2_readLetter_58 : decode cX2_readLetter 58 = .ok (.putfield 18, 3) := by decide +kernel
theorem dX2_readLetter_61 : decode cX2_readLetter 61 = .ok (.iload_n 3, 1) := by decide +kernel
theorem dX2_readLetter_62 : decode cX2_readLetter 62 = .ok (.ireturn, 1) := by decide +kernel
set_option maxRecDepth 20000 in
theorem ggX2_readSign_X2_skipBlanks : GoodIn wsX2_readSign wsX2_skipBlanks := goodIn_r _ [6, 1, 7, 8, 9, 16, 17, 18, 19, 20, 21, 22, 23] (by decide +kernel) (by decide +kernel)
set_option maxRecDepth 20000 in
theorem gX2_readSign_X2_skipBlanks : GoodIn wsX2_readSign (wsV RX2 56 RX2 yX2_skipBlanks wsX2_skipBlanks) := goodIn_app (goodIn_of _ (by decide +kernel)) ggX2_readSign_X2_skipBlanks
set_option maxRecDepth 20000 in
theorem ggX2_readSign_X2_tellFault : GoodIn wsX2_readSign wsX2_tellFault := goodIn_r _ [13, 14, 15, 16, 17, 18, 19, 20, 21, 22, 23] (by decide +kernel) (by decide +kernel)
set_option maxRecDepth 20000 in
theorem gX2_readSign_X2_tellFault : GoodIn wsX2_readSign (wsV RX2 63 RX2 yX2_tellFault wsX2_tellFault) := goodIn_app (goodIn_of _ (by decide +kernel)) ggX2_readSign_X2_tellFault
set_option maxRecDepth 20000 in
theorem ggX2_readSign_X6_at : GoodIn wsX2_readSign wsX6_at := goodIn_r _ [9] (by decide +kernel) (by decide +kernel)
set_option maxRecDepth 20000 in
theorem gX2_readSign_X6_at_n70 : GoodIn wsX2_readSign (wsX6_at) := ggX2_readSign_X6_at
theorem dX2_readSign_0 : decode cX2_readSign 0 = .ok (.aload_n 0, 1) := by decide +kernel
theorem dX2_readSign_1 : decode cX2_readSign 1 = .ok (.aload_n 1, 1) := by decide +kernel
theorem dX2_readSign_2 : decode cX2_readSign 2 = .ok (.iload_n 2, 1) := by decide +kernel
theorem dX2_readSign_3 : decode cX2_readSign 3 = .ok (.invokevirtual 56, 3) := by decide +kernel
theorem dX2_readSign_6 : decode cX2_readSign 6 = .ok (.aload_n 0, 1) := by decide +kernel
theorem dX2_readSign_7 : decode cX2_readSign 7 = .ok (.getfield 18, 3) := by decide +kernel
theorem dX2_readSign_10 : decode cX2_readSign 10 = .ok (.iload_n 2, 1) := by decide +kernel
theorem dX2_readSign_11 : decode cX2_readSign 11 = .ok (.if_icmp .lt 12, 3) := by decide +kernel
theorem dX2_readSign_14 : decode cX2_readSign 14 = .ok (.aload_n 0, 1) := by decide +kernel
theorem dX2_readSign_15 : decode cX2_readSign 15 = .ok (.iconst 4, 1) := by decide +kernel
theorem dX2_readSign_16 : decode cX2_readSign 16 = .ok (.iload_n 2, 1) := by decide +kernel
theorem dX2_readSign_17 : decode cX2_readSign 17 = .ok (.invokevirtual 63, 3) := by decide +kernel
theorem dX2_readSign_20 : decode cX2_readSign 20 = .ok (.goto 24, 3) := by decide +kernel
theorem dX2_readSign_23 : decode cX2_readSign 23 = .ok (.aload_n 1, 1) := by decide +kernel
theorem dX2_readSign_24 : decode cX2_readSign 24 = .ok (.aload_n 0, 1) := by decide +kernel
theorem dX2_readSign_25 : decode cX2_readSign 25 = .ok (.getfield 18, 3) := by decide +kernel
theorem dX2_readSign_28 : decode cX2_readSign 28 = .ok (.invokestatic 70, 3) := by decide +kernel
theorem dX2_readSign_31 : decode cX2_readSign 31 = .ok (.iload_n 3, 1) := by decide +kernel
theorem dX2_readSign_32 : decode cX2_readSign 32 = .ok (.if_icmp .eq 12, 3) := by decide +kernel
theorem dX2_readSign_35 : decode cX2_readSign 35 = .ok (.aload_n 0, 1) := by decide +kernel
theorem dX2_readSign_36 : decode cX2_readSign 36 = .ok (.iconst 1, 1) := by decide +kernel
theorem dX2_readSign_37 : decode cX2_readSign 37 = .ok (.aload_n 0, 1) := by decide +kernel
theorem dX2_readSign_38 : decode cX2_readSign 38 = .ok (.getfield 18, 3) := by decide +kernel
theorem dX2_readSign_41 : decode cX2_readSign 41 = .ok (.invokevirtual 63, 3) := by decide +kernel
theorem dX2_readSign_44 : decode cX2_readSign 44 = .ok (.aload_n 0, 1) := by decide +kernel
theorem dX2_readSign_45 : decode cX2_readSign 45 = .ok (.dup, 1) := by decide +kernel
theorem dX2_readSign_46 : decode cX2_readSign 46 = .ok (.getfield 18, 3) := by decide +kernel
theorem dX2_readSign_49 : decode cX2_readSign 49 = .ok (.iconst 1, 1) := by decide +kernel
theorem dX2_readSign_50 : decode cX2_readSign 50 = .ok (.iadd, 1) := by decide +kernel
theorem dX2_readSign_51 : decode cX2_readSign 51 = .ok (.putfield 18, 3) := by decide +kernel
theorem dX2_readSign_54 : decode cX2_readSign 54 = .ok (.return_, 1) := by decide +kernel
set_option maxRecDepth 20000 in
theorem ggX2_readNumber_X2_skipBlanks : GoodIn wsX2_readNumber wsX2_skipBlanks := goodIn_r _ [6, 1, 7, 8, 9, 20, 21, 22, 23, 24, 25, 26, 27] (by decide +kernel) (by decide +kernel)
set_option maxRecDepth 20000 in
theorem gX2_readNumber_X2_skipBlanks : GoodIn wsX2_readNumber (wsV RX2 56 RX2 yX2_skipBlanks wsX2_skipBlanks) := goodIn_app (goodIn_of _ (by decide +kernel)) ggX2_readNumber_X2_skipBlanks
set_option maxRecDepth 20000 in
theorem ggX2_readNumber_X2_isDigit : GoodIn wsX2_readNumber wsX2_isDigit := goodIn_r _ [13, 7, 8, 9] (by decide +kernel) (by decide +kernel)
set_option maxRecDepth 20000 in
theorem gX2_readNumber_X2_isDigit : GoodIn wsX2_readNumber (wsV RX2 76 RX2 yX2_isDigit wsX2_isDigit) := goodIn_app (goodIn_of _ (by decide +kernel)) ggX2_readNumber_X2_isDigit
set_option maxRecDepth 20000 in
theorem ggX2_readNumber_X6_at : GoodIn wsX2_readNumber wsX6_at := goodIn_r _ [9] (by decide +kernel) (by decide +kernel)
set_option maxRecDepth 20000 in
theorem gX2_readNumber_X6_at_n70 : GoodIn wsX2_readNumber (wsX6_at) := ggX2_readNumber_X6_at
set_option maxRecDepth 20000 in
theorem ggX2_readNumber_X2_tellFault : GoodIn wsX2_readNumber wsX2_tellFault := goodIn_r _ [17, 18, 19, 20, 21, 22, 23, 24, 25, 26, 27] (by decide +kernel) (by decide +kernel)
set_option maxRecDepth 20000 in
theorem gX2_readNumber_X2_tellFault : GoodIn wsX2_readNumber (wsV RX2 63 RX2 yX2_tellFault wsX2_tellFault) := goodIn_app (goodIn_of _ (by decide +kernel)) ggX2_readNumber_X2_tellFault
theorem dX2_readNumber_0 : decode cX2_readNumber 0 = .ok (.aload_n 0, 1) := by decide +kernel
theorem dX2_readNumber_1 : decode cX2_readNumber 1 = .ok (.aload_n 1, 1) := by decide +kernel
theorem dX2_readNumber_2 : decode cX2_readNumber 2 = .ok (.iload_n 2, 1) := by decide +kernel
theorem dX2_readNumber_3 : decode cX2_readNumber 3 = .ok (.invokevirtual 56, 3) := by decide +kernel
theorem dX2_readNumber_6 : decode cX2_readNumber 6 = .ok (.aload_n 0, 1) := by decide +kernel
theorem dX2_readNumber_7 : decode cX2_readNumber 7 = .ok (.aload_n 1, 1) := by decide +kernel
theorem dX2_readNumber_8 : decode cX2_readNumber 8 = .ok (.iload_n 2, 1) := by decide +kernel
theorem dX2_readNumber_9 : decode cX2_readNumber 9 = .ok (.aload_n 0, 1) := by decide +kernel
theorem dX2_readNumber_10 : decode cX2_readNumber 10 = .ok (.getfield 18, 3) := by decide +kernel
theorem dX2_readNumber_13 : decode cX2_readNumber 13 = .ok (.invokevirtual 76, 3) := by decide +kernel
theorem dX2_readNumber_16 : decode cX2_readNumber 16 = .ok (.ifCond .ne 5, 3) := by decide +kernel
theorem dX2_readNumber_19 : decode cX2_readNumber 19 = .ok (.iconst 1, 1) := by decide +kernel
theorem dX2_readNumber_20 : decode cX2_readNumber 20 = .ok (.ireturn, 1) := by decide +kernel
theorem dX2_readNumber_21 : decode cX2_readNumber 21 = .ok (.aload_n 0, 1) := by decide +kernel
theorem dX2_readNumber_22 : decode cX2_readNumber 22 = .ok (.getfield 18, 3) := by decide +kernel
theorem dX2_readNumber_25 : decode cX2_readNumber 25 = .ok (.istore_n 3, 1) := by decide +kernel
theorem dX2_readNumber_26 : decode cX2_readNumber 26 = .ok (.aload_n 1, 1) := by decide +kernel
theorem dX2_readNumber_27 : decode cX2_readNumber 27 = .ok (.aload_n 0, 1) := by decide +kernel
theorem dX2_readNumber_28 : decode cX2_readNumber 28 = .ok (.getfield 18, 3) := by decide +kernel
theorem dX2_readNumber_31 : decode cX2_readNumber 31 = .ok (.invokestatic 70, 3) := by decide +kernel
theorem dX2_readNumber_34 : decode cX2_readNumber 34 = .ok (.bipush 48, 2) := by decide +kernel
theorem dX2_readNumber_36 : decode cX2_readNumber 36 = .ok (.isub, 1) := by decide +kernel
theorem dX2_readNumber_37 : decode cX2_readNumber 37 = .ok (.istore 4, 2) := by decide +kernel
theorem dX2_readNumber_39 : decode cX2_readNumber 39 = .ok (.aload_n 0, 1) := by decide +kernel
theorem dX2_readNumber_40 : decode cX2_readNumber 40 = .ok (.dup, 1) := by decide +kernel
theorem dX2_readNumber_41 : decode cX2_readNumber 41 = .ok (.getfield 18, 3) := by decide +kernel
theorem dX2_readNumber_44 : decode cX2_readNumber 44 = .ok (.iconst 1, 1) := by decide +kernel
theorem dX2_readNumber_45 : decode cX2_readNumber 45 = .ok (.iadd, 1) := by decide +kernel
theorem dX2_readNumber_46 : decode cX2_readNumber 46 = .ok (.putfield 18, 3) := by decide +kernel
theorem dX2_readNumber_49 : decode cX2_readNumber 49 = .ok (.aload_n 0, 1) := by decide +kernel
theorem dX2_readNumber_50 : decode cX2_readNumber 50 = .ok (.aload_n 1, 1) := by decide +kernel
theorem dX2_readNumber_51 : decode cX2_readNumber 51 = .ok (.iload_n 2, 1) := by decide +kernel
theorem dX2_readNumber_52 : decode cX2_readNumber 52 = .ok (.aload_n 0, 1) := by decide +kernel
theorem dX2_readNumber_53 : decode cX2_readNumber 53 = .ok (.getfield 18, 3) := by decide +kernel
theorem dX2_readNumber_56 : decode cX2_readNumber 56 = .ok (.invokevirtual 76, 3) := by decide +kernel
theorem dX2_readNumber_59 : decode cX2_readNumber 59 = .ok (.ifCond .eq 32, 3) := by decide +kernel
theorem dX2_readNumber_62 : decode cX2_readNumber 62 = .ok (.iload 4, 2) := by decide +kernel
theorem dX2_readNumber_64 : decode cX2_readNumber 64 = .ok (.bipush 10, 2) := by decide +kernel
theorem dX2_readNumber_66 : decode cX2_readNumber 66 = .ok (.imul, 1) := by decide +kernel
theorem dX2_readNumber_67 : decode cX2_readNumber 67 = .ok (.aload_n 1, 1) := by decide +kernel
theorem dX2_readNumber_68 : decode cX2_readNumber 68 = .ok (.aload_n 0, 1) := by decide +kernel
theorem dX2_readNumber_69 : decode cX2_readNumber 69 = .ok (.getfield 18, 3) := by decide +kernel
theorem dX2_readNumber_72 : decode cX2_readNumber 72 = .ok (.invokestatic 70, 3) := by decide +kernel
theorem dX2_readNumber_75 : decode cX2_readNumber 75 = .ok (.iadd, 1) := by decide +kernel
theorem dX2_readNumber_76 : decode cX2_readNumber 76 = .ok (.bipush 48, 2) := by decide +kernel
theorem dX2_readNumber_78 : decode cX2_readNumber 78 = .ok (.isub, 1) := by decide +kernel
theorem dX2_readNumber_79 : decode cX2_readNumber 79 = .ok (.istore 4, 2) := by decide +kernel
theorem dX2_readNumber_81 : decode cX2_readNumber 81 = .ok (.aload_n 0, 1) := by decide +kernel
theorem dX2_readNumber_82 : decode cX2_readNumber 82 = .ok (.dup, 1) := by decide +kernel
theorem dX2_readNumber_83 : decode cX2_readNumber 83 = .ok (.getfield 18, 3) := by decide +kernel
theorem dX2_readNumber_86 : decode cX2_readNumber 86 = .ok (.iconst 1, 1) := by decide +kernel
theorem dX2_readNumber_87 : decode cX2_readNumber 87 = .ok (.iadd, 1) := by decide +kernel
theorem dX2_readNumber_88 : decode cX2_readNumber 88 = .ok (.putfield 18, 3) := by decide +kernel
theorem dX2_readNumber_91 : decode cX2_readNumber 91 = .ok (.aload_n 0, 1) := by decide +kernel
theorem dX2_readNumber_92 : decode cX2_readNumber 92 = .ok (.aload_n 1, 1) := by decide +kernel
theorem dX2_readNumber_93 : decode cX2_readNumber 93 = .ok (.iload_n 2, 1) := by decide +kernel
theorem dX2_readNumber_94 : decode cX2_readNumber 94 = .ok (.aload_n 0, 1) := by decide +kernel
theorem dX2_readNumber_95 : decode cX2_readNumber 95 = .ok (.getfield 18, 3) := by decide +kernel
theorem dX2_readNumber_98 : decode cX2_readNumber 98 = .ok (.invokevirtual 76, 3) := by decide +kernel
theorem dX2_readNumber_101 : decode cX2_readNumber 101 = .ok (.ifCond .eq 15, 3) := by decide +kernel
theorem dX2_readNumber_104 : decode cX2_readNumber 104 = .ok (.aload_n 0, 1) := by decide +kernel
theorem dX2_readNumber_105 : decode cX2_readNumber 105 = .ok (.iconst 1, 1) := by decide +kernel
theorem dX2_readNumber_106 : decode cX2_readNumber 106 = .ok (.aload_n 0, 1) := by decide +kernel
theorem dX2_readNumber_107 : decode cX2_readNumber 107 = .ok (.getfield 18, 3) := by decide +kernel
theorem dX2_readNumber_110 : decode cX2_readNumber 110 = .ok (.invokevirtual 63, 3) := by decide +kernel
theorem dX2_readNumber_113 : decode cX2_readNumber 113 = .ok (.goto 22, 3) := by decide +kernel
theorem dX2_readNumber_116 : decode cX2_readNumber 116 = .ok (.iload 4, 2) := by decide +kernel
theorem dX2_readNumber_118 : decode cX2_readNumber 118 = .ok (.iconst 1, 1) := by decide +kernel
theorem dX2_readNumber_119 : decode cX2_readNumber 119 = .ok (.if_icmp .lt 10, 3) := by decide +kernel
theorem dX2_readNumber_122 : decode cX2_readNumber 122 = .ok (.iload 4, 2) := by decide +kernel
theorem dX2_readNumber_124 : decode cX2_readNumber 124 = .ok (.bipush 20, 2) := by decide +kernel
theorem dX2_readNumber_126 : decode cX2_readNumber 126 = .ok (.if_icmp .le 9, 3) := by decide +kernel
theorem dX2_readNumber_129 : decode cX2_readNumber 129 = .ok (.aload_n 0, 1) := by decide +kernel
theorem dX2_readNumber_130 : decode cX2_readNumber 130 = .ok (.iconst 2, 1) := by decide +kernel
theorem dX2_readNumber_131 : decode cX2_readNumber 131 = .ok (.iload_n 3, 1) := by decide +kernel
theorem dX2_readNumber_132 : decode cX2_readNumber 132 = .ok (.invokevirtual 63, 3) := by decide +kernel
theorem dX2_readNumber_135 : decode cX2_readNumber 135 = .ok (.iload 4, 2) := by decide +kernel
theorem dX2_readNumber_137 : decode cX2_readNumber 137 = .ok (.ireturn, 1) := by decide +kernel
set_option maxRecDepth 20000 in
theorem ggX2_isDigit_X6_at : GoodIn wsX2_isDigit wsX6_at := goodIn_r _ [3] (by decide +kernel) (by decide +kernel)
set_option maxRecDepth 20000 in
theorem gX2_isDigit_X6_at_n70 : GoodIn wsX2_isDigit (wsX6_at) := ggX2_isDigit_X6_at
theorem dX2_isDigit_0 : decode cX2_isDigit 0 = .ok (.iload_n 3, 1) := by decide +kernel
theorem dX2_isDigit_1 : decode cX2_isDigit 1 = .ok (.iload_n 2, 1) := by decide +kernel
theorem dX2_isDigit_2 : decode cX2_isDigit 2 = .ok (.if_icmp .ge 27, 3) := by decide +kernel
theorem dX2_isDigit_5 : decode cX2_isDigit 5 = .ok (.aload_n 1, 1) := by decide +kernel
theorem dX2_isDigit_6 : decode cX2_isDigit 6 = .ok (.iload_n 3, 1) := by decide +kernel
theorem dX2_isDigit_7 : decode cX2_isDigit 7 = .ok (.invokestatic 70, 3) := by decide +kernel
theorem dX2_isDigit_10 : decode cX2_isDigit 10 = .ok (.bipush 48, 2) := by decide +kernel
theorem dX2_isDigit_12 : decode cX2_isDigit 12 = .ok (.if_icmp .lt 17, 3) := by decide +kernel
theorem dX2_isDigit_15 : decode cX2_isDigit 15 = .ok (.aload_n 1, 1) := by decide +kernel
theorem dX2_isDigit_16 : decode cX2_isDigit 16 = .ok (.iload_n 3, 1) := by decide +kernel
theorem dX2_isDigit_17 : decode cX2_isDigit 17 = .ok (.invokestatic 70, 3) := by decide +kernel
theorem dX2_isDigit_20 : decode cX2_isDigit 20 = .ok (.bipush 57, 2) := by decide +kernel
theorem dX2_isDigit_22 : decode cX2_isDigit 22 = .ok (.if_icmp .gt 7, 3) := by decide +kernel
theorem dX2_isDigit_25 : decode cX2_isDigit 25 = .ok (.iconst 1, 1) := by decide +kernel
theorem dX2_isDigit_26 : decode cX2_isDigit 26 = .ok (.goto 4, 3) := by decide +kernel
theorem dX2_isDigit_29 : decode cX2_isDigit 29 = .ok (.iconst 0, 1) := by decide +kernel
theorem dX2_isDigit_30 : decode cX2_isDigit 30 = .ok (.ireturn, 1) := by decide +kernel
set_option maxRecDepth 20000 in
theorem ggX2_skipBlanks_X6_at : GoodIn wsX2_skipBlanks wsX6_at := goodIn_r _ [4] (by decide +kernel) (by decide +kernel)
set_option maxRecDepth 20000 in
theorem gX2_skipBlanks_X6_at_n70 : GoodIn wsX2_skipBlanks (wsX6_at) := ggX2_skipBlanks_X6_at
theorem dX2_skipBlanks_0 : decode cX2_skipBlanks 0 = .ok (.aload_n 0, 1) := by decide +kernel
theorem dX2_skipBlanks_1 : decode cX2_skipBlanks 1 = .ok (.getfield 18, 3) := by decide +kernel
theorem dX2_skipBlanks_4 : decode cX2_skipBlanks 4 = .ok (.iload_n 2, 1) := by decide +kernel
theorem dX2_skipBlanks_5 : decode cX2_skipBlanks 5 = .ok (.if_icmp .ge 29, 3) := by decide +kernel
theorem dX2_skipBlanks_8 : decode cX2_skipBlanks 8 = .ok (.aload_n 1, 1) := by decide +kernel
theorem dX2_skipBlanks_9 : decode cX2_skipBlanks 9 = .ok (.aload_n 0, 1) := by decide +kernel
theorem dX2_skipBlanks_10 : decode cX2_skipBlanks 10 = .ok (.getfield 18, 3) := by decide +kernel
theorem dX2_skipBlanks_13 : decode cX2_skipBlanks 13 = .ok (.invokestatic 70, 3) := by decide +kernel
theorem dX2_skipBlanks_16 : decode cX2_skipBlanks 16 = .ok (.bipush 32, 2) := by decide +kernel
theorem dX2_skipBlanks_18 : decode cX2_skipBlanks 18 = .ok (.if_icmp .ne 16, 3) := by decide +kernel
theorem dX2_skipBlanks_21 : decode cX2_skipBlanks 21 = .ok (.aload_n 0, 1) := by decide +kernel
theorem dX2_skipBlanks_22 : decode cX2_skipBlanks 22 = .ok (.dup, 1) := by decide +kernel
theorem dX2_skipBlanks_23 : decode cX2_skipBlanks 23 = .ok (.getfield 18, 3) := by decide +kernel
theorem dX2_skipBlanks_26 : decode cX2_skipBlanks 26 = .ok (.iconst 1, 1) := by decide +kernel
theorem dX2_skipBlanks_27 : decode cX2_skipBlanks 27 = .ok (.iadd, 1) := by decide +kernel
theorem dX2_skipBlanks_28 : decode cX2_skipBlanks 28 = .ok (.putfield 18, 3) := by decide +kernel
theorem dX2_skipBlanks_31 : decode cX2_skipBlanks 31 = .ok (.goto (-31), 3) := by decide +kernel
theorem dX2_skipBlanks_34 : decode cX2_skipBlanks 34 = .ok (.return_, 1) := by decide +kernel
theorem dX2_tellFault_0 : decode cX2_tellFault 0 = .ok (.aload_n 0, 1) := by decide +kernel
theorem dX2_tellFault_1 : decode cX2_tellFault 1 = .ok (.getfield 25, 3) := by decide +kernel
theorem dX2_tellFault_4 : decode cX2_tellFault 4 = .ok (.ifCond .ne 13, 3) := by decide +kernel
theorem dX2_tellFault_7 : decode cX2_tellFault 7 = .ok (.aload_n 0, 1) := by decide +kernel
theorem dX2_tellFault_8 : decode cX2_tellFault 8 = .ok (.iload_n 1, 1) := by decide +kernel
theorem dX2_tellFault_9 : decode cX2_tellFault 9 = .ok (.putfield 25, 3) := by decide +kernel
theorem dX2_tellFault_12 : decode cX2_tellFault 12 = .ok (.aload_n 0, 1) := by decide +kernel
theorem dX2_tellFault_13 : decode cX2_tellFault 13 = .ok (.iload_n 2, 1) := by decide +kernel
theorem dX2_tellFault_14 : decode cX2_tellFault 14 = .ok (.putfield 28, 3) := by decide +kernel
theorem dX2_tellFault_17 : decode cX2_tellFault 17 = .ok (.return_, 1) := by decide +kernel
set_option maxRecDepth 20000 in
theorem ggX3_init_X0_init : GoodIn wsX3_init wsX0_init := goodIn_r _ [14, 15, 2, 3, 16, 17, 18, 19, 20, 21, 22, 23, 24, 25, 26, 27, 28, 38, 39, 40, 41, 42, 43, 44, 45] (by decide +kernel) (by decide +kernel)
set_option maxRecDepth 20000 in
theorem gX3_init_X0_init : GoodIn wsX3_init (wsX0_init) := ggX3_init_X0_init
set_option maxRecDepth 20000 in
theorem ggX3_init_X4_init : GoodIn wsX3_init wsX4_init := goodIn_r _ [30, 31, 2, 3, 16, 32, 33, 34, 35, 36, 37, 48, 49, 50, 51, 52, 53, 54] (by decide +kernel) (by decide +kernel)
set_option maxRecDepth 20000 in
theorem gX3_init_X4_init_n18 : GoodIn wsX3_init (wsX4_init) := ggX3_init_X4_init
theorem dX3_init_0 : decode cX3_init 0 = .ok (.aload_n 0, 1) := by decide +kernel
theorem dX3_init_1 : decode cX3_init 1 = .ok (.invokespecial 1, 3) := by decide +kernel
theorem dX3_init_4 : decode cX3_init 4 = .ok (.aload_n 0, 1) := by decide +kernel
theorem dX3_init_5 : decode cX3_init 5 = .ok (.new 7, 3) := by decide +kernel
theorem dX3_init_8 : decode cX3_init 8 = .ok (.dup, 1) := by decide +kernel
theorem dX3_init_9 : decode cX3_init 9 = .ok (.invokespecial 9, 3) := by decide +kernel
theorem dX3_init_12 : decode cX3_init 12 = .ok (.putfield 10, 3) := by decide +kernel
theorem dX3_init_15 : decode cX3_init 15 = .ok (.aload_n 0, 1) := by decide +kernel
theorem dX3_init_16 : decode cX3_init 16 = .ok (.new 16, 3) := by decide +kernel
theorem dX3_init_19 : decode cX3_init 19 = .ok (.dup, 1) := by decide +kernel
theorem dX3_init_20 : decode cX3_init 20 = .ok (.invokespecial 18, 3) := by decide +kernel
theorem dX3_init_23 : decode cX3_init 23 = .ok (.putfield 19, 3) := by decide +kernel
theorem dX3_init_26 : decode cX3_init 26 = .ok (.return_, 1) := by decide +kernel
set_option maxRecDepth 20000 in
theorem ggX3_hold_X0_copyFrom : GoodIn wsX3_hold wsX0_copyFrom := goodIn_r _ [7, 8, 9, 10, 11, 12, 13, 14, 15, 16, 17, 18, 19, 20, 21, 22, 23, 24, 25, 26, 41, 42, 43, 44, 45, 46, 47, 48] (by decide +kernel) (by decide +kernel)
set_option maxRecDepth 20000 in
theorem gX3_hold_X0_copyFrom : GoodIn wsX3_hold (wsV RX3 23 RX0 yX0_copyFrom wsX0_copyFrom) := goodIn_app (goodIn_of _ (by decide +kernel)) ggX3_hold_X0_copyFrom
set_option maxRecDepth 20000 in
theorem ggX3_hold_X4_copyFrom : GoodIn wsX3_hold wsX4_copyFrom := goodIn_r _ [31, 32, 33, 34, 35, 36, 37, 38, 16, 17, 18, 19, 20, 21, 22, 23, 24, 25, 26, 49, 50, 51, 52, 53, 54, 55] (by decide +kernel) (by decide +kernel)
set_option maxRecDepth 20000 in
theorem gX3_hold_X4_copyFrom : GoodIn wsX3_hold (wsV RX3 27 RX4 yX4_copyFrom wsX4_copyFrom) := goodIn_app (goodIn_of _ (by decide +kernel)) ggX3_hold_X4_copyFrom
theorem dX3_hold_0 : decode cX3_hold 0 = .ok (.aload_n 0, 1) := by decide +kernel
theorem dX3_hold_1 : decode cX3_hold 1 = .ok (.getfield 10, 3) := by decide +kernel
theorem dX3_hold_4 : decode cX3_hold 4 = .ok (.aload_n 1, 1) := by decide +kernel
theorem dX3_hold_5 : decode cX3_hold 5 = .ok (.invokevirtual 23, 3) := by decide +kernel
theorem dX3_hold_8 : decode cX3_hold 8 = .ok (.aload_n 0, 1) := by decide +kernel
theorem dX3_hold_9 : decode cX3_hold 9 = .ok (.getfield 19, 3) := by decide +kernel
theorem dX3_hold_12 : decode cX3_hold 12 = .ok (.aload_n 2, 1) := by decide +kernel
theorem dX3_hold_13 : decode cX3_hold 13 = .ok (.invokevirtual 27, 3) := by decide +kernel
theorem dX3_hold_16 : decode cX3_hold 16 = .ok (.return_, 1) := by decide +kernel
set_option maxRecDepth 20000 in
theorem ggX3_layOut_X0_copyFrom : GoodIn wsX3_layOut wsX0_copyFrom := goodIn_r _ [7, 8, 9, 10, 11, 12, 13, 14, 15, 16, 17, 18, 19, 20, 21, 22, 23, 24, 25, 26, 41, 42, 43, 44, 45, 46, 47, 48] (by decide +kernel) (by decide +kernel)
set_option maxRecDepth 20000 in
theorem gX3_layOut_X0_copyFrom : GoodIn wsX3_layOut (wsV RX3 23 RX0 yX0_copyFrom wsX0_copyFrom) := goodIn_app (goodIn_of _ (by decide +kernel)) ggX3_layOut_X0_copyFrom
set_option maxRecDepth 20000 in
theorem ggX3_layOut_X4_copyFrom : GoodIn wsX3_layOut wsX4_copyFrom := goodIn_r _ [31, 32, 33, 34, 35, 36, 37, 38, 16, 17, 18, 19, 20, 21, 22, 23, 24, 25, 26, 49, 50, 51, 52, 53, 54, 55] (by decide +kernel) (by decide +kernel)
set_option maxRecDepth 20000 in
theorem gX3_layOut_X4_copyFrom : GoodIn wsX3_layOut (wsV RX3 27 RX4 yX4_copyFrom wsX4_copyFrom) := goodIn_app (goodIn_of _ (by decide +kernel)) ggX3_layOut_X4_copyFrom
theorem dX3_layOut_0 : decode cX3_layOut 0 = .ok (.aload_n 1, 1) := by decide +kernel
theorem dX3_layOut_1 : decode cX3_layOut 1 = .ok (.aload_n 0, 1) := by decide +kernel
theorem dX3_layOut_2 : decode cX3_layOut 2 = .ok (.getfield 10, 3) := by decide +kernel
theorem dX3_layOut_5 : decode cX3_layOut 5 = .ok (.invokevirtual 23, 3) := by decide +kernel
theorem dX3_layOut_8 : decode cX3_layOut 8 = .ok (.aload_n 2, 1) := by decide +kernel
theorem dX3_layOut_9 : decode cX3_layOut 9 = .ok (.aload_n 0, 1) := by decide +kernel
theorem dX3_layOut_10 : decode cX3_layOut 10 = .ok (.getfield 19, 3) := by decide +kernel
theorem dX3_layOut_13 : decode cX3_layOut 13 = .ok (.invokevirtual 27, 3) := by decide +kernel
theorem dX3_layOut_16 : decode cX3_layOut 16 = .ok (.return_, 1) := by decide +kernel
theorem dX4_init_0 : decode cX4_init 0 = .ok (.aload_n 0, 1) := by decide +kernel
theorem dX4_init_1 : decode cX4_init 1 = .ok (.invokespecial 3, 3) := by decide +kernel
theorem dX4_init_4 : decode cX4_init 4 = .ok (.aload_n 0, 1) := by decide +kernel
theorem dX4_init_5 : decode cX4_init 5 = .ok (.bipush 20, 2) := by decide +kernel
theorem dX4_init_7 : decode cX4_init 7 = .ok (.newarray .int, 2) := by decide +kernel
theorem dX4_init_9 : decode cX4_init 9 = .ok (.putfield 9, 3) := by decide +kernel
theorem dX4_init_12 : decode cX4_init 12 = .ok (.aload_n 0, 1) := by decide +kernel
theorem dX4_init_13 : decode cX4_init 13 = .ok (.bipush 20, 2) := by decide +kernel
theorem dX4_init_15 : decode cX4_init 15 = .ok (.newarray .int, 2) := by decide +kernel
theorem dX4_init_17 : decode cX4_init 17 = .ok (.putfield 15, 3) := by decide +kernel
theorem dX4_init_20 : decode cX4_init 20 = .ok (.aload_n 0, 1) := by decide +kernel
theorem dX4_init_21 : decode cX4_init 21 = .ok (.bipush 20, 2) := by decide +kernel
theorem dX4_init_23 : decode cX4_init 23 = .ok (.newarray .int, 2) := by decide +kernel
theorem dX4_init_25 : decode cX4_init 25 = .ok (.putfield 18, 3) := by decide +kernel
theorem dX4_init_28 : decode cX4_init 28 = .ok (.aload_n 0, 1) := by decide +kernel
theorem dX4_init_29 : decode cX4_init 29 = .ok (.bipush 20, 2) := by decide +kernel
theorem dX4_init_31 : decode cX4_init 31 = .ok (.newarray .int, 2) := by decide +kernel
theorem dX4_init_33 : decode cX4_init 33 = .ok (.putfield 21, 3) := by decide +kernel
theorem dX4_init_36 : decode cX4_init 36 = .ok (.aload_n 0, 1) := by decide +kernel
theorem dX4_init_37 : decode cX4_init 37 = .ok (.bipush 20, 2) := by decide +kernel
theorem dX4_init_39 : decode cX4_init 39 = .ok (.newarray .int, 2) := by decide +kernel
theorem dX4_init_41 : decode cX4_init 41 = .ok (.putfield 24, 3) := by decide +kernel
theorem dX4_init_44 : decode cX4_init 44 = .ok (.aload_n 0, 1) := by decide +kernel
theorem dX4_init_45 : decode cX4_init 45 = .ok (.bipush 20, 2) := by decide +kernel
theorem dX4_init_47 : decode cX4_init 47 = .ok (.newarray .int, 2) := by decide +kernel
theorem dX4_init_49 : decode cX4_init 49 = .ok (.putfield 27, 3) := by decide +kernel
theorem dX4_init_52 : decode cX4_init 52 = .ok (.return_, 1) := by decide +kernel
set_option maxRecDepth 20000 in
theorem ggX4_copyFrom_X6_copy : GoodIn wsX4_copyFrom wsX6_copy := goodIn_r _ [10, 11, 12, 13, 14, 15, 16, 17, 18] (by decide +kernel) (by decide +kernel)
set_option maxRecDepth 20000 in
theorem gX4_copyFrom_X6_copy_n30 : GoodIn wsX4_copyFrom (wsX6_copy) := ggX4_copyFrom_X6_copy
theorem dX4_copyFrom_0 : decode cX4_copyFrom 0 = .ok (.aload_n 1, 1) := by decide +kernel
theorem dX4_copyFrom_1 : decode cX4_copyFrom 1 = .ok (.getfield 9, 3) := by decide +kernel
theorem dX4_copyFrom_4 : decode cX4_copyFrom 4 = .ok (.aload_n 0, 1) := by decide +kernel
theorem dX4_copyFrom_5 : decode cX4_copyFrom 5 = .ok (.getfield 9, 3) := by decide +kernel
theorem dX4_copyFrom_8 : decode cX4_copyFrom 8 = .ok (.invokestatic 30, 3) := by decide +kernel
theorem dX4_copyFrom_11 : decode cX4_copyFrom 11 = .ok (.aload_n 1, 1) := by decide +kernel
theorem dX4_copyFrom_12 : decode cX4_copyFrom 12 = .ok (.getfield 15, 3) := by decide +kernel
theorem dX4_copyFrom_15 : decode cX4_copyFrom 15 = .ok (.aload_n 0, 1) := by decide +kernel
theorem dX4_copyFrom_16 : decode cX4_copyFrom 16 = .ok (.getfield 15, 3) := by decide +kernel
theorem dX4_copyFrom_19 : decode cX4_copyFrom 19 = .ok (.invokestatic 30, 3) := by decide +kernel
theorem dX4_copyFrom_22 : decode cX4_copyFrom 22 = .ok (.aload_n 1, 1) := by decide +kernel
theorem dX4_copyFrom_23 : decode cX4_copyFrom 23 = .ok (.getfield 18, 3) := by decide +kernel
theorem dX4_copyFrom_26 : decode cX4_copyFrom 26 = .ok (.aload_n 0, 1) := by decide +kernel
theorem dX4_copyFrom_27 : decode cX4_copyFrom 27 = .ok (.getfield 18, 3) := by decide +kernel
theorem dX4_copyFrom_30 : decode cX4_copyFrom 30 = .ok (.invokestatic 30, 3) := by decide +kernel
theorem dX4_copyFrom_33 : decode cX4_copyFrom 33 = .ok (.aload_n 1, 1) := by decide +kernel
theorem dX4_copyFrom_34 : decode cX4_copyFrom 34 = .ok (.getfield 21, 3) := by decide +kernel
theorem dX4_copyFrom_37 : decode cX4_copyFrom 37 = .ok (.aload_n 0, 1) := by decide +kernel
theorem dX4_copyFrom_38 : decode cX4_copyFrom 38 = .ok (.getfield 21, 3) := by decide +kernel
theorem dX4_copyFrom_41 : decode cX4_copyFrom 41 = .ok (.invokestatic 30, 3) := by decide +kernel
theorem dX4_copyFrom_44 : decode cX4_copyFrom 44 = .ok (.aload_n 1, 1) := by decide +kernel
theorem dX4_copyFrom_45 : decode cX4_copyFrom 45 = .ok (.getfield 24, 3) := by decide +kernel
theorem dX4_copyFrom_48 : decode cX4_copyFrom 48 = .ok (.aload_n 0, 1) := by decide +kernel
theorem dX4_copyFrom_49 : decode cX4_copyFrom 49 = .ok (.getfield 24, 3) := by decide +kernel
theorem dX4_copyFrom_52 : decode cX4_copyFrom 52 = .ok (.invokestatic 30, 3) := by decide +kernel
theorem dX4_copyFrom_55 : decode cX4_copyFrom 55 = .ok (.aload_n 1, 1) := by decide +kernel
theorem dX4_copyFrom_56 : decode cX4_copyFrom 56 = .ok (.getfield 27, 3) := by decide +kernel
theorem dX4_copyFrom_59 : decode cX4_copyFrom 59 = .ok (.aload_n 0, 1) := by decide +kernel
theorem dX4_copyFrom_60 : decode cX4_copyFrom 60 = .ok (.getfield 27, 3) := by decide +kernel
theorem dX4_copyFrom_63 : decode cX4_copyFrom 63 = .ok (.invokestatic 30, 3) := by decide +kernel
theorem dX4_copyFrom_66 : decode cX4_copyFrom 66 = .ok (.aload_n 0, 1) := by decide +kernel
theorem dX4_copyFrom_67 : decode cX4_copyFrom 67 = .ok (.aload_n 1, 1) := by decide +kernel
theorem dX4_copyFrom_68 : decode cX4_copyFrom 68 = .ok (.getfield 34, 3) := by decide +kernel
theorem dX4_copyFrom_71 : decode cX4_copyFrom 71 = .ok (.putfield 34, 3) := by decide +kernel
theorem dX4_copyFrom_74 : decode cX4_copyFrom 74 = .ok (.return_, 1) := by decide +kernel
set_option maxRecDepth 20000 in
theorem ggX5_init_X4_init : GoodIn wsX5_init wsX4_init := goodIn_r _ [9, 10, 2, 3, 11, 12, 13, 14, 15, 16, 17, 18, 19, 20, 21, 22, 23, 24] (by decide +kernel) (by decide +kernel)
set_option maxRecDepth 20000 in
theorem gX5_init_X4_init_n11 : GoodIn wsX5_init (wsX4_init) := ggX5_init_X4_init
theorem dX5_init_0 : decode cX5_init 0 = .ok (.aload_n 0, 1) := by decide +kernel
theorem dX5_init_1 : decode cX5_init 1 = .ok (.invokespecial 3, 3) := by decide +kernel
theorem dX5_init_4 : decode cX5_init 4 = .ok (.aload_n 0, 1) := by decide +kernel
theorem dX5_init_5 : decode cX5_init 5 = .ok (.new 9, 3) := by decide +kernel
theorem dX5_init_8 : decode cX5_init 8 = .ok (.dup, 1) := by decide +kernel
theorem dX5_init_9 : decode cX5_init 9 = .ok (.invokespecial 11, 3) := by decide +kernel
theorem dX5_init_12 : decode cX5_init 12 = .ok (.putfield 12, 3) := by decide +kernel
theorem dX5_init_15 : decode cX5_init 15 = .ok (.return_, 1) := by decide +kernel
set_option maxRecDepth 20000 in
theorem ggX5_begin_X4_copyFrom : GoodIn wsX5_begin wsX4_copyFrom := goodIn_r _ [10, 11, 12, 13, 14, 15, 16, 17, 18, 19, 20, 21, 22, 23, 24, 25, 26, 27, 28, 34, 35, 36, 37, 38, 39, 40] (by decide +kernel) (by decide +kernel)
set_option maxRecDepth 20000 in
theorem gX5_begin_X4_copyFrom : GoodIn wsX5_begin (wsV RX5 18 RX4 yX4_copyFrom wsX4_copyFrom) := goodIn_app (goodIn_of _ (by decide +kernel)) ggX5_begin_X4_copyFrom
theorem dX5_begin_0 : decode cX5_begin 0 = .ok (.aload_n 0, 1) := by decide +kernel
theorem dX5_begin_1 : decode cX5_begin 1 = .ok (.getfield 12, 3) := by decide +kernel
theorem dX5_begin_4 : decode cX5_begin 4 = .ok (.aload_n 1, 1) := by decide +kernel
theorem dX5_begin_5 : decode cX5_begin 5 = .ok (.invokevirtual 18, 3) := by decide +kernel
theorem dX5_begin_8 : decode cX5_begin 8 = .ok (.aload_n 0, 1) := by decide +kernel
theorem dX5_begin_9 : decode cX5_begin 9 = .ok (.iload_n 2, 1) := by decide +kernel
theorem dX5_begin_10 : decode cX5_begin 10 = .ok (.putfield 22, 3) := by decide +kernel
theorem dX5_begin_13 : decode cX5_begin 13 = .ok (.aload_n 0, 1) := by decide +kernel
theorem dX5_begin_14 : decode cX5_begin 14 = .ok (.iconst 0, 1) := by decide +kernel
theorem dX5_begin_15 : decode cX5_begin 15 = .ok (.putfield 26, 3) := by decide +kernel
theorem dX5_begin_18 : decode cX5_begin 18 = .ok (.aload_n 0, 1) := by decide +kernel
theorem dX5_begin_19 : decode cX5_begin 19 = .ok (.iconst 0, 1) := by decide +kernel
theorem dX5_begin_20 : decode cX5_begin 20 = .ok (.putfield 29, 3) := by decide +kernel
theorem dX5_begin_23 : decode cX5_begin 23 = .ok (.aload_n 0, 1) := by decide +kernel
theorem dX5_begin_24 : decode cX5_begin 24 = .ok (.iconst 0, 1) := by decide +kernel
theorem dX5_begin_25 : decode cX5_begin 25 = .ok (.putfield 33, 3) := by decide +kernel
theorem dX5_begin_28 : decode cX5_begin 28 = .ok (.return_, 1) := by decide +kernel
theorem dX5_gathered_0 : decode cX5_gathered 0 = .ok (.aload_n 0, 1) := by decide +kernel
theorem dX5_gathered_1 : decode cX5_gathered 1 = .ok (.getfield 33, 3) := by decide +kernel
theorem dX5_gathered_4 : decode cX5_gathered 4 = .ok (.ireturn, 1) := by decide +kernel
set_option maxRecDepth 20000 in
theorem ggX5_receive_X6_add : GoodIn wsX5_receive wsX6_add := goodIn_r _ [5] (by decide +kernel) (by decide +kernel)
set_option maxRecDepth 20000 in
theorem gX5_receive_X6_add_n40 : GoodIn wsX5_receive (wsX6_add) := ggX5_receive_X6_add
set_option maxRecDepth 20000 in
theorem ggX5_receive_X6_at : GoodIn wsX5_receive wsX6_at := goodIn_r _ [7] (by decide +kernel) (by decide +kernel)
set_option maxRecDepth 20000 in
theorem gX5_receive_X6_at_n44 : GoodIn wsX5_receive (wsX6_at) := ggX5_receive_X6_at
theorem dX5_receive_0 : decode cX5_receive 0 = .ok (.aload_n 0, 1) := by decide +kernel
theorem dX5_receive_1 : decode cX5_receive 1 = .ok (.getfield 12, 3) := by decide +kernel
theorem dX5_receive_4 : decode cX5_receive 4 = .ok (.getfield 36, 3) := by decide +kernel
theorem dX5_receive_7 : decode cX5_receive 7 = .ok (.iload_n 1, 1) := by decide +kernel
theorem dX5_receive_8 : decode cX5_receive 8 = .ok (.iconst 1, 1) := by decide +kernel
theorem dX5_receive_9 : decode cX5_receive 9 = .ok (.invokestatic 40, 3) := by decide +kernel
theorem dX5_receive_12 : decode cX5_receive 12 = .ok (.aload_n 0, 1) := by decide +kernel
theorem dX5_receive_13 : decode cX5_receive 13 = .ok (.getfield 12, 3) := by decide +kernel
theorem dX5_receive_16 : decode cX5_receive 16 = .ok (.getfield 36, 3) := by decide +kernel
theorem dX5_receive_19 : decode cX5_receive 19 = .ok (.iload_n 1, 1) := by decide +kernel
theorem dX5_receive_20 : decode cX5_receive 20 = .ok (.invokestatic 44, 3) := by decide +kernel
theorem dX5_receive_23 : decode cX5_receive 23 = .ok (.ldc 48, 2) := by decide +kernel
theorem dX5_receive_25 : decode cX5_receive 25 = .ok (.if_icmp .gt 7, 3) := by decide +kernel
theorem dX5_receive_28 : decode cX5_receive 28 = .ok (.iconst 1, 1) := by decide +kernel
theorem dX5_receive_29 : decode cX5_receive 29 = .ok (.goto 4, 3) := by decide +kernel
theorem dX5_receive_32 : decode cX5_receive 32 = .ok (.iconst 0, 1) := by decide +kernel
theorem dX5_receive_33 : decode cX5_receive 33 = .ok (.ireturn, 1) := by decide +kernel
set_option maxRecDepth 20000 in
theorem ggX5_fulfil_X6_at : GoodIn wsX5_fulfil wsX6_at := goodIn_r _ [5] (by decide +kernel) (by decide +kernel)
set_option maxRecDepth 20000 in
theorem gX5_fulfil_X6_at_n44 : GoodIn wsX5_fulfil (wsX6_at) := ggX5_fulfil_X6_at
set_option maxRecDepth 20000 in
theorem ggX5_fulfil_X5_provide : GoodIn wsX5_fulfil wsX5_provide := goodIn_r _ [10, 11, 12, 13, 14, 15, 16, 3, 4, 5, 17, 18, 19, 20, 21, 22, 23, 24, 25, 9, 26, 27, 28, 29, 30, 2, 31, 1, 32, 33, 34, 35, 36, 37, 38, 39, 40, 41, 42, 43, 44, 45, 46, 47, 48, 49, 50, 51, 52, 53, 54, 55, 56, 57, 58, 59, 60, 61, 62, 63, 64, 65, 66, 67, 68, 69, 70, 71, 72, 73, 74, 75, 76, 77, 78, 79, 80, 81, 82, 83, 84, 85, 86, 6, 7, 8, 99, 100, 101, 102, 103, 104, 105, 106, 87, 88, 89, 90, 91, 92, 93, 94, 95, 96, 97, 98] (by decide +kernel) (by decide +kernel)
set_option maxRecDepth 20000 in
theorem gX5_fulfil_X5_provide : GoodIn wsX5_fulfil (wsV RX5 49 RX5 yX5_provide wsX5_provide) := goodIn_app (goodIn_of _ (by decide +kernel)) ggX5_fulfil_X5_provide
theorem dX5_fulfil_0 : decode cX5_fulfil 0 = .ok (.iload_n 3, 1) := by decide +kernel
theorem dX5_fulfil_1 : decode cX5_fulfil 1 = .ok (.aload_n 0, 1) := by decide +kernel
theorem dX5_fulfil_2 : decode cX5_fulfil 2 = .ok (.getfield 12, 3) := by decide +kernel
theorem dX5_fulfil_5 : decode cX5_fulfil 5 = .ok (.getfield 36, 3) := by decide +kernel
theorem dX5_fulfil_8 : decode cX5_fulfil 8 = .ok (.iload_n 2, 1) := by decide +kernel
theorem dX5_fulfil_9 : decode cX5_fulfil 9 = .ok (.invokestatic 44, 3) := by decide +kernel
theorem dX5_fulfil_12 : decode cX5_fulfil 12 = .ok (.isub, 1) := by decide +kernel
theorem dX5_fulfil_13 : decode cX5_fulfil 13 = .ok (.istore 4, 2) := by decide +kernel
theorem dX5_fulfil_15 : decode cX5_fulfil 15 = .ok (.iload 4, 2) := by decide +kernel
theorem dX5_fulfil_17 : decode cX5_fulfil 17 = .ok (.ifCond .le 12, 3) := by decide +kernel
theorem dX5_fulfil_20 : decode cX5_fulfil 20 = .ok (.aload_n 0, 1) := by decide +kernel
theorem dX5_fulfil_21 : decode cX5_fulfil 21 = .ok (.aload_n 1, 1) := by decide +kernel
theorem dX5_fulfil_22 : decode cX5_fulfil 22 = .ok (.iload_n 2, 1) := by decide +kernel
theorem dX5_fulfil_23 : decode cX5_fulfil 23 = .ok (.iload 4, 2) := by decide +kernel
theorem dX5_fulfil_25 : decode cX5_fulfil 25 = .ok (.iconst 0, 1) := by decide +kernel
theorem dX5_fulfil_26 : decode cX5_fulfil 26 = .ok (.invokevirtual 49, 3) := by decide +kernel
theorem dX5_fulfil_29 : decode cX5_fulfil 29 = .ok (.aload_n 0, 1) := by decide +kernel
theorem dX5_fulfil_30 : decode cX5_fulfil 30 = .ok (.getfield 26, 3) := by decide +kernel
theorem dX5_fulfil_33 : decode cX5_fulfil 33 = .ok (.ifCond .ne 7, 3) := by decide +kernel
theorem dX5_fulfil_36 : decode cX5_fulfil 36 = .ok (.iconst 1, 1) := by decide +kernel
theorem dX5_fulfil_37 : decode cX5_fulfil 37 = .ok (.goto 4, 3) := by decide +kernel
theorem dX5_fulfil_40 : decode cX5_fulfil 40 = .ok (.iconst 0, 1) := by decide +kernel
theorem dX5_fulfil_41 : decode cX5_fulfil 41 = .ok (.ireturn, 1) := by decide +kernel
set_option maxRecDepth 20000 in
theorem ggX5_runAll_X5_run : GoodIn wsX5_runAll wsX5_run := goodIn_r _ [6, 7, 1, 8, 9, 10, 11, 12, 13, 14, 15, 16, 17, 18, 19, 20, 21, 22, 23, 24, 25, 26, 27, 28, 29, 30, 5, 31, 32, 33, 34, 35, 36, 37, 38, 39, 40, 41, 42, 43, 44, 45, 46, 47, 48, 49, 2, 3, 4, 50, 51, 52, 53, 54, 55, 56, 57, 58, 59, 60, 61, 62, 63, 64, 65, 66, 67, 68, 69, 70, 71, 72, 73, 74, 75, 76, 77, 78, 79, 80, 81, 82, 83, 84, 85, 86, 92, 93, 94, 95, 96, 97, 98, 99, 87, 88, 89, 90, 91, 100, 101, 102, 103, 104, 105, 106] (by decide +kernel) (by decide +kernel)
set_option maxRecDepth 20000 in
theorem gX5_runAll_X5_run : GoodIn wsX5_runAll (wsV RX5 53 RX5 yX5_run wsX5_run) := goodIn_app (goodIn_of _ (by decide +kernel)) ggX5_runAll_X5_run
theorem dX5_runAll_0 : decode cX5_runAll 0 = .ok (.aload_n 0, 1) := by decide +kernel
theorem dX5_runAll_1 : decode cX5_runAll 1 = .ok (.aload_n 1, 1) := by decide +kernel
theorem dX5_runAll_2 : decode cX5_runAll 2 = .ok (.iload_n 2, 1) := by decide +kernel
theorem dX5_runAll_3 : decode cX5_runAll 3 = .ok (.iload_n 3, 1) := by decide +kernel
theorem dX5_runAll_4 : decode cX5_runAll 4 = .ok (.iconst 0, 1) := by decide +kernel
theorem dX5_runAll_5 : decode cX5_runAll 5 = .ok (.invokevirtual 53, 3) := by decide +kernel
theorem dX5_runAll_8 : decode cX5_runAll 8 = .ok (.aload_n 0, 1) := by decide +kernel
theorem dX5_runAll_9 : decode cX5_runAll 9 = .ok (.getfield 26, 3) := by decide +kernel
theorem dX5_runAll_12 : decode cX5_runAll 12 = .ok (.ifCond .ne 7, 3) := by decide +kernel
theorem dX5_runAll_15 : decode cX5_runAll 15 = .ok (.iconst 1, 1) := by decide +kernel
theorem dX5_runAll_16 : decode cX5_runAll 16 = .ok (.goto 4, 3) := by decide +kernel
theorem dX5_runAll_19 : decode cX5_runAll 19 = .ok (.iconst 0, 1) := by decide +kernel
theorem dX5_runAll_20 : decode cX5_runAll 20 = .ok (.ireturn, 1) := by decide +kernel
set_option maxRecDepth 20000 in
theorem ggX5_provide_X0_isMade : GoodIn wsX5_provide wsX0_isMade := goodIn_r _ [5, 6, 7, 8, 9, 86, 87, 88, 89, 90, 91, 92, 93] (by decide +kernel) (by decide +kernel)
set_option maxRecDepth 20000 in
theorem gX5_provide_X0_isMade : GoodIn wsX5_provide (wsV RX5 56 RX0 yX0_isMade wsX0_isMade) := goodIn_app (goodIn_of _ (by decide +kernel)) ggX5_provide_X0_isMade
set_option maxRecDepth 20000 in
theorem ggX5_provide_X0_yieldOf : GoodIn wsX5_provide wsX0_yieldOf := goodIn_r _ [13, 6, 7, 8, 9, 86, 87, 88, 89, 90, 91, 92, 93] (by decide +kernel) (by decide +kernel)
set_option maxRecDepth 20000 in
theorem gX5_provide_X0_yieldOf : GoodIn wsX5_provide (wsV RX5 62 RX0 yX0_yieldOf wsX0_yieldOf) := goodIn_app (goodIn_of _ (by decide +kernel)) ggX5_provide_X0_yieldOf
set_option maxRecDepth 20000 in
theorem ggX5_provide_X6_divideUp : GoodIn wsX5_provide wsX6_divideUp := goodIn_r _ [15] (by decide +kernel) (by decide +kernel)
set_option maxRecDepth 20000 in
theorem gX5_provide_X6_divideUp_n66 : GoodIn wsX5_provide (wsX6_divideUp) := ggX5_provide_X6_divideUp
set_option maxRecDepth 20000 in
theorem ggX5_provide_X5_run : GoodIn wsX5_provide wsX5_run := goodIn_r _ [35, 36, 25, 27, 37, 38, 39, 4, 40, 41, 7, 8, 9, 42, 43, 44, 45, 46, 47, 48, 49, 50, 51, 52, 53, 54, 19, 10, 11, 12, 13, 6, 28, 29, 30, 31, 32, 33, 34, 0, 1, 2, 3, 5, 14, 15, 16, 17, 18, 20, 21, 22, 23, 24, 26, 55, 56, 57, 58, 59, 60, 61, 62, 63, 64, 65, 66, 67, 68, 69, 70, 71, 72, 73, 74, 75, 76, 77, 78, 79, 80, 81, 82, 83, 84, 85, 86, 87, 88, 89, 90, 91, 92, 93, 94, 95, 96, 97, 98, 99, 100, 101, 102, 103, 104, 105] (by decide +kernel) (by decide +kernel)
set_option maxRecDepth 20000 in
theorem gX5_provide_X5_run : GoodIn wsX5_provide (wsV RX5 53 RX5 yX5_run wsX5_run) := goodIn_app (goodIn_of _ (by decide +kernel)) ggX5_provide_X5_run
set_option maxRecDepth 20000 in
theorem ggX5_provide_X5_collect : GoodIn wsX5_provide wsX5_collect := goodIn_r _ [23, 24, 25, 26, 27, 28, 29, 30, 19, 31, 32, 33, 8, 34, 7, 9, 94, 95, 96, 97, 98, 99, 100, 101, 102, 103, 104, 105] (by decide +kernel) (by decide +kernel)
set_option maxRecDepth 20000 in
theorem gX5_provide_X5_collect : GoodIn wsX5_provide (wsV RX5 70 RX5 yX5_collect wsX5_collect) := goodIn_app (goodIn_of _ (by decide +kernel)) ggX5_provide_X5_collect
theorem dX5_provide_0 : decode cX5_provide 0 = .ok (.aload_n 1, 1) := by decide +kernel
theorem dX5_provide_1 : decode cX5_provide 1 = .ok (.iload_n 2, 1) := by decide +kernel
theorem dX5_provide_2 : decode cX5_provide 2 = .ok (.invokevirtual 56, 3) := by decide +kernel
theorem dX5_provide_5 : decode cX5_provide 5 = .ok (.ifCond .eq 23, 3) := by decide +kernel
theorem dX5_provide_8 : decode cX5_provide 8 = .ok (.aload_n 0, 1) := by decide +kernel
theorem dX5_provide_9 : decode cX5_provide 9 = .ok (.aload_n 1, 1) := by decide +kernel
theorem dX5_provide_10 : decode cX5_provide 10 = .ok (.iload_n 2, 1) := by decide +kernel
theorem dX5_provide_11 : decode cX5_provide 11 = .ok (.iload_n 3, 1) := by decide +kernel
theorem dX5_provide_12 : decode cX5_provide 12 = .ok (.aload_n 1, 1) := by decide +kernel
theorem dX5_provide_13 : decode cX5_provide 13 = .ok (.iload_n 2, 1) := by decide +kernel
theorem dX5_provide_14 : decode cX5_provide 14 = .ok (.invokevirtual 62, 3) := by decide +kernel
theorem dX5_provide_17 : decode cX5_provide 17 = .ok (.invokestatic 66, 3) := by decide +kernel
theorem dX5_provide_20 : decode cX5_provide 20 = .ok (.iload 4, 2) := by decide +kernel
theorem dX5_provide_22 : decode cX5_provide 22 = .ok (.invokevirtual 53, 3) := by decide +kernel
theorem dX5_provide_25 : decode cX5_provide 25 = .ok (.goto 9, 3) := by decide +kernel
theorem dX5_provide_28 : decode cX5_provide 28 = .ok (.aload_n 0, 1) := by decide +kernel
theorem dX5_provide_29 : decode cX5_provide 29 = .ok (.iload_n 2, 1) := by decide +kernel
theorem dX5_provide_30 : decode cX5_provide 30 = .ok (.iload_n 3, 1) := by decide +kernel
theorem dX5_provide_31 : decode cX5_provide 31 = .ok (.invokevirtual 70, 3) := by decide +kernel
theorem dX5_provide_34 : decode cX5_provide 34 = .ok (.return_, 1) := by decide +kernel
set_option maxRecDepth 20000 in
theorem ggX5_run_X0_ingredientsOf : GoodIn wsX5_run wsX0_ingredientsOf := goodIn_r _ [8, 9, 10, 11, 12, 86, 87, 88, 89, 90, 91, 92, 93] (by decide +kernel) (by decide +kernel)
set_option maxRecDepth 20000 in
theorem gX5_run_X0_ingredientsOf : GoodIn wsX5_run (wsV RX5 74 RX0 yX0_ingredientsOf wsX0_ingredientsOf) := goodIn_app (goodIn_of _ (by decide +kernel)) ggX5_run_X0_ingredientsOf
set_option maxRecDepth 20000 in
theorem ggX5_run_X0_ingredientAt : GoodIn wsX5_run wsX0_ingredientAt := goodIn_r _ [16, 17, 10, 11, 12, 86, 87, 88, 89, 90, 91, 92, 93] (by decide +kernel) (by decide +kernel)
set_option maxRecDepth 20000 in
theorem gX5_run_X0_ingredientAt : GoodIn wsX5_run (wsV RX5 77 RX0 yX0_ingredientAt wsX0_ingredientAt) := goodIn_app (goodIn_of _ (by decide +kernel)) ggX5_run_X0_ingredientAt
set_option maxRecDepth 20000 in
theorem ggX5_run_X0_amountAt : GoodIn wsX5_run wsX0_amountAt := goodIn_r _ [21, 22, 10, 11, 12, 86, 87, 88, 89, 90, 91, 92, 93] (by decide +kernel) (by decide +kernel)
set_option maxRecDepth 20000 in
theorem gX5_run_X0_amountAt : GoodIn wsX5_run (wsV RX5 80 RX0 yX0_amountAt wsX0_amountAt) := goodIn_app (goodIn_of _ (by decide +kernel)) ggX5_run_X0_amountAt
set_option maxRecDepth 20000 in
theorem ggX5_run_X5_take : GoodIn wsX5_run wsX5_take := goodIn_r _ [55, 2, 56, 57, 58, 26, 59, 3, 60, 61, 62, 63, 10, 11, 12, 37, 38, 64, 65, 66, 7, 67, 68, 32, 33, 34, 35, 36, 69, 70, 71, 72, 73, 74, 75, 76, 77, 78, 79, 80, 81, 82, 40, 41, 42, 43, 31, 83, 84, 85, 39, 27, 28, 29, 30, 44, 45, 46, 47, 48, 49, 50, 51, 52, 53, 54, 0, 1, 4, 5, 6, 8, 9, 13, 14, 15, 16, 17, 18, 19, 20, 21, 22, 23, 24, 25, 86, 87, 88, 89, 90, 91, 92, 93, 94, 95, 96, 97, 98, 99, 100, 101, 102, 103, 104, 105] (by decide +kernel) (by decide +kernel)
set_option maxRecDepth 20000 in
theorem gX5_run_X5_take : GoodIn wsX5_run (wsV RX5 83 RX5 yX5_take wsX5_take) := goodIn_app (goodIn_of _ (by decide +kernel)) ggX5_run_X5_take
set_option maxRecDepth 20000 in
theorem ggX5_run_X0_yieldOf : GoodIn wsX5_run wsX0_yieldOf := goodIn_r _ [30, 31, 10, 11, 12, 86, 87, 88, 89, 90, 91, 92, 93] (by decide +kernel) (by decide +kernel)
set_option maxRecDepth 20000 in
theorem gX5_run_X0_yieldOf : GoodIn wsX5_run (wsV RX5 62 RX0 yX0_yieldOf wsX0_yieldOf) := goodIn_app (goodIn_of _ (by decide +kernel)) ggX5_run_X0_yieldOf
set_option maxRecDepth 20000 in
theorem ggX5_run_X5_comeIn : GoodIn wsX5_run wsX5_comeIn := goodIn_r _ [35, 3, 36, 2, 37, 11, 38, 10, 12, 94, 95, 96, 97, 98, 99, 100, 101, 102, 103, 104, 105] (by decide +kernel) (by decide +kernel)
set_option maxRecDepth 20000 in
theorem gX5_run_X5_comeIn : GoodIn wsX5_run (wsV RX5 89 RX5 yX5_comeIn wsX5_comeIn) := goodIn_app (goodIn_of _ (by decide +kernel)) ggX5_run_X5_comeIn
theorem dX5_run_0 : decode cX5_run 0 = .ok (.aload_n 0, 1) := by decide +kernel
theorem dX5_run_1 : decode cX5_run 1 = .ok (.dup, 1) := by decide +kernel
theorem dX5_run_2 : decode cX5_run 2 = .ok (.getfield 29, 3) := by decide +kernel
theorem dX5_run_5 : decode cX5_run 5 = .ok (.iload_n 3, 1) := by decide +kernel
theorem dX5_run_6 : decode cX5_run 6 = .ok (.iadd, 1) := by decide +kernel
theorem dX5_run_7 : decode cX5_run 7 = .ok (.putfield 29, 3) := by decide +kernel
theorem dX5_run_10 : decode cX5_run 10 = .ok (.aload_n 0, 1) := by decide +kernel
theorem dX5_run_11 : decode cX5_run 11 = .ok (.getfield 29, 3) := by decide +kernel
theorem dX5_run_14 : decode cX5_run 14 = .ok (.sipush 500, 3) := by decide +kernel
theorem dX5_run_17 : decode cX5_run 17 = .ok (.if_icmp .gt 10, 3) := by decide +kernel
theorem dX5_run_20 : decode cX5_run 20 = .ok (.iload 4, 2) := by decide +kernel
theorem dX5_run_22 : decode cX5_run 22 = .ok (.bipush 8, 2) := by decide +kernel
theorem dX5_run_24 : decode cX5_run 24 = .ok (.if_icmp .le 8, 3) := by decide +kernel
theorem dX5_run_27 : decode cX5_run 27 = .ok (.aload_n 0, 1) := by decide +kernel
theorem dX5_run_28 : decode cX5_run 28 = .ok (.iconst 1, 1) := by decide +kernel
theorem dX5_run_29 : decode cX5_run 29 = .ok (.putfield 26, 3) := by decide +kernel
theorem dX5_run_32 : decode cX5_run 32 = .ok (.aload_n 1, 1) := by decide +kernel
theorem dX5_run_33 : decode cX5_run 33 = .ok (.iload_n 2, 1) := by decide +kernel
theorem dX5_run_34 : decode cX5_run 34 = .ok (.invokevirtual 74, 3) := by decide +kernel
theorem dX5_run_37 : decode cX5_run 37 = .ok (.istore 5, 2) := by decide +kernel
theorem dX5_run_39 : decode cX5_run 39 = .ok (.iconst 0, 1) := by decide +kernel
theorem dX5_run_40 : decode cX5_run 40 = .ok (.istore 6, 2) := by decide +kernel
theorem dX5_run_42 : decode cX5_run 42 = .ok (.iload 6, 2) := by decide +kernel
theorem dX5_run_44 : decode cX5_run 44 = .ok (.iload 5, 2) := by decide +kernel
theorem dX5_run_46 : decode cX5_run 46 = .ok (.if_icmp .ge 39, 3) := by decide +kernel
theorem dX5_run_49 : decode cX5_run 49 = .ok (.aload_n 0, 1) := by decide +kernel
theorem dX5_run_50 : decode cX5_run 50 = .ok (.getfield 26, 3) := by decide +kernel
theorem dX5_run_53 : decode cX5_run 53 = .ok (.ifCond .ne 32, 3) := by decide +kernel
theorem dX5_run_56 : decode cX5_run 56 = .ok (.aload_n 0, 1) := by decide +kernel
theorem dX5_run_57 : decode cX5_run 57 = .ok (.aload_n 1, 1) := by decide +kernel
theorem dX5_run_58 : decode cX5_run 58 = .ok (.aload_n 1, 1) := by decide +kernel
theorem dX5_run_59 : decode cX5_run 59 = .ok (.iload_n 2, 1) := by decide +kernel
theorem dX5_run_60 : decode cX5_run 60 = .ok (.iload 6, 2) := by decide +kernel
theorem dX5_run_62 : decode cX5_run 62 = .ok (.invokevirtual 77, 3) := by decide +kernel
theorem dX5_run_65 : decode cX5_run 65 = .ok (.aload_n 1, 1) := by decide +kernel
theorem dX5_run_66 : decode cX5_run 66 = .ok (.iload_n 2, 1) := by decide +kernel
theorem dX5_run_67 : decode cX5_run 67 = .ok (.iload 6, 2) := by decide +kernel
theorem dX5_run_69 : decode cX5_run 69 = .ok (.invokevirtual 80, 3) := by decide +kernel
theorem dX5_run_72 : decode cX5_run 72 = .ok (.iload_n 3, 1) := by decide +kernel
theorem dX5_run_73 : decode cX5_run 73 = .ok (.imul, 1) := by decide +kernel
theorem dX5_run_74 : decode cX5_run 74 = .ok (.iload 4, 2) := by decide +kernel
theorem dX5_run_76 : decode cX5_run 76 = .ok (.invokevirtual 83, 3) := by decide +kernel
theorem dX5_run_79 : decode cX5_run 79 = .ok (.iinc 6 1, 3) := by decide +kernel
theorem dX5_run_82 : decode cX5_run 82 = .ok (.goto (-40), 3) := by decide +kernel
theorem dX5_run_85 : decode cX5_run 85 = .ok (.aload_n 0, 1) := by decide +kernel
theorem dX5_run_86 : decode cX5_run 86 = .ok (.getfield 26, 3) := by decide +kernel
theorem dX5_run_89 : decode cX5_run 89 = .ok (.ifCond .ne 35, 3) := by decide +kernel
theorem dX5_run_92 : decode cX5_run 92 = .ok (.aload_n 0, 1) := by decide +kernel
theorem dX5_run_93 : decode cX5_run 93 = .ok (.iload_n 2, 1) := by decide +kernel
theorem dX5_run_94 : decode cX5_run 94 = .ok (.aload_n 1, 1) := by decide +kernel
theorem dX5_run_95 : decode cX5_run 95 = .ok (.iload_n 2, 1) := by decide +kernel
theorem dX5_run_96 : decode cX5_run 96 = .ok (.invokevirtual 62, 3) := by decide +kernel
theorem dX5_run_99 : decode cX5_run 99 = .ok (.iload_n 3, 1) := by decide +kernel
theorem dX5_run_100 : decode cX5_run 100 = .ok (.imul, 1) := by decide +kernel
theorem dX5_run_101 : decode cX5_run 101 = .ok (.aload_n 0, 1) := by decide +kernel
theorem dX5_run_102 : decode cX5_run 102 = .ok (.getfield 12, 3) := by decide +kernel
theorem dX5_run_105 : decode cX5_run 105 = .ok (.getfield 86, 3) := by decide +kernel
theorem dX5_run_108 : decode cX5_run 108 = .ok (.invokevirtual 89, 3) := by decide +kernel
theorem dX5_run_111 : decode cX5_run 111 = .ok (.aload_n 0, 1) := by decide +kernel
theorem dX5_run_112 : decode cX5_run 112 = .ok (.getfield 12, 3) := by decide +kernel
theorem dX5_run_115 : decode cX5_run 115 = .ok (.dup, 1) := by decide +kernel
theorem dX5_run_116 : decode cX5_run 116 = .ok (.getfield 93, 3) := by decide +kernel
theorem dX5_run_119 : decode cX5_run 119 = .ok (.iload_n 3, 1) := by decide +kernel
theorem dX5_run_120 : decode cX5_run 120 = .ok (.iadd, 1) := by decide +kernel
theorem dX5_run_121 : decode cX5_run 121 = .ok (.putfield 93, 3) := by decide +kernel
theorem dX5_run_124 : decode cX5_run 124 = .ok (.return_, 1) := by decide +kernel
set_option maxRecDepth 20000 in
theorem ggX5_take_X5_useUp : GoodIn wsX5_take wsX5_useUp := goodIn_r _ [6, 7, 8, 9, 10, 11, 12, 13, 14, 15, 16, 17, 18, 19, 20, 21, 22, 23, 24, 25, 5, 26, 27, 1, 94, 95, 96, 97, 98, 99, 100, 101, 102, 103, 104, 105, 86, 87, 88, 89, 90, 91, 92, 93] (by decide +kernel) (by decide +kernel)
set_option maxRecDepth 20000 in
theorem gX5_take_X5_useUp : GoodIn wsX5_take (wsV RX5 94 RX5 yX5_useUp wsX5_useUp) := goodIn_app (goodIn_of _ (by decide +kernel)) ggX5_take_X5_useUp
set_option maxRecDepth 20000 in
theorem ggX5_take_X0_substitutesOf : GoodIn wsX5_take wsX0_substitutesOf := goodIn_r _ [31, 32, 12, 13, 14, 86, 87, 88, 89, 90, 91, 92, 93] (by decide +kernel) (by decide +kernel)
set_option maxRecDepth 20000 in
theorem gX5_take_X0_substitutesOf : GoodIn wsX5_take (wsV RX5 98 RX0 yX0_substitutesOf wsX0_substitutesOf) := goodIn_app (goodIn_of _ (by decide +kernel)) ggX5_take_X0_substitutesOf
set_option maxRecDepth 20000 in
theorem ggX5_take_X0_substituteAt : GoodIn wsX5_take wsX0_substituteAt := goodIn_r _ [36, 37, 12, 13, 14, 86, 87, 88, 89, 90, 91, 92, 93] (by decide +kernel) (by decide +kernel)
set_option maxRecDepth 20000 in
theorem gX5_take_X0_substituteAt : GoodIn wsX5_take (wsV RX5 101 RX0 yX0_substituteAt wsX0_substituteAt) := goodIn_app (goodIn_of _ (by decide +kernel)) ggX5_take_X0_substituteAt
set_option maxRecDepth 20000 in
theorem ggX5_take_X5_standIn : GoodIn wsX5_take wsX5_standIn := goodIn_r _ [41, 42, 43, 44, 20, 45, 46, 12, 13, 14, 28, 29, 30, 31, 32, 33, 34, 35, 36, 37, 86, 87, 88, 89, 90, 91, 92, 93] (by decide +kernel) (by decide +kernel)
set_option maxRecDepth 20000 in
theorem gX5_take_X5_standIn : GoodIn wsX5_take (wsV RX5 104 RX5 yX5_standIn wsX5_standIn) := goodIn_app (goodIn_of _ (by decide +kernel)) ggX5_take_X5_standIn
set_option maxRecDepth 20000 in
theorem ggX5_take_X5_provide : GoodIn wsX5_take wsX5_provide := goodIn_r _ [50, 42, 43, 44, 20, 45, 46, 12, 13, 14, 51, 52, 53, 54, 55, 56, 57, 58, 59, 5, 60, 61, 62, 63, 64, 1, 65, 7, 23, 24, 25, 26, 27, 15, 16, 66, 67, 68, 69, 70, 71, 72, 73, 74, 75, 76, 77, 78, 79, 80, 81, 82, 83, 84, 85, 0, 2, 3, 4, 6, 8, 9, 10, 11, 17, 18, 19, 21, 22, 28, 29, 30, 31, 32, 33, 34, 35, 36, 37, 38, 39, 40, 41, 47, 48, 49, 86, 87, 88, 89, 90, 91, 92, 93, 94, 95, 96, 97, 98, 99, 100, 101, 102, 103, 104, 105] (by decide +kernel) (by decide +kernel)
set_option maxRecDepth 20000 in
theorem gX5_take_X5_provide : GoodIn wsX5_take (wsV RX5 49 RX5 yX5_provide wsX5_provide) := goodIn_app (goodIn_of _ (by decide +kernel)) ggX5_take_X5_provide
theorem dX5_take_0 : decode cX5_take 0 = .ok (.iload_n 3, 1) := by decide +kernel
theorem dX5_take_1 : decode cX5_take 1 = .ok (.aload_n 0, 1) := by decide +kernel
theorem dX5_take_2 : decode cX5_take 2 = .ok (.aload_n 1, 1) := by decide +kernel
theorem dX5_take_3 : decode cX5_take 3 = .ok (.iload_n 2, 1) := by decide +kernel
theorem dX5_take_4 : decode cX5_take 4 = .ok (.iload_n 3, 1) := by decide +kernel
theorem dX5_take_5 : decode cX5_take 5 = .ok (.invokevirtual 94, 3) := by decide +kernel
theorem dX5_take_8 : decode cX5_take 8 = .ok (.isub, 1) := by decide +kernel
theorem dX5_take_9 : decode cX5_take 9 = .ok (.istore 5, 2) := by decide +kernel
theorem dX5_take_11 : decode cX5_take 11 = .ok (.aload_n 1, 1) := by decide +kernel
theorem dX5_take_12 : decode cX5_take 12 = .ok (.iload_n 2, 1) := by decide +kernel
theorem dX5_take_13 : decode cX5_take 13 = .ok (.invokevirtual 98, 3) := by decide +kernel
theorem dX5_take_16 : decode cX5_take 16 = .ok (.istore 6, 2) := by decide +kernel
theorem dX5_take_18 : decode cX5_take 18 = .ok (.iconst 0, 1) := by decide +kernel
theorem dX5_take_19 : decode cX5_take 19 = .ok (.istore 7, 2) := by decide +kernel
theorem dX5_take_21 : decode cX5_take 21 = .ok (.iload 7, 2) := by decide +kernel
theorem dX5_take_23 : decode cX5_take 23 = .ok (.iload 6, 2) := by decide +kernel
theorem dX5_take_25 : decode cX5_take 25 = .ok (.if_icmp .ge 33, 3) := by decide +kernel
theorem dX5_take_28 : decode cX5_take 28 = .ok (.iload 5, 2) := by decide +kernel
theorem dX5_take_30 : decode cX5_take 30 = .ok (.ifCond .le 28, 3) := by decide +kernel
theorem dX5_take_33 : decode cX5_take 33 = .ok (.iload 5, 2) := by decide +kernel
theorem dX5_take_35 : decode cX5_take 35 = .ok (.aload_n 0, 1) := by decide +kernel
theorem dX5_take_36 : decode cX5_take 36 = .ok (.aload_n 1, 1) := by decide +kernel
theorem dX5_take_37 : decode cX5_take 37 = .ok (.aload_n 1, 1) := by decide +kernel
theorem dX5_take_38 : decode cX5_take 38 = .ok (.iload_n 2, 1) := by decide +kernel
theorem dX5_take_39 : decode cX5_take 39 = .ok (.iload 7, 2) := by decide +kernel
theorem dX5_take_41 : decode cX5_take 41 = .ok (.invokevirtual 101, 3) := by decide +kernel
theorem dX5_take_44 : decode cX5_take 44 = .ok (.iload 5, 2) := by decide +kernel
theorem dX5_take_46 : decode cX5_take 46 = .ok (.invokevirtual 94, 3) := by decide +kernel
theorem dX5_take_49 : decode cX5_take 49 = .ok (.isub, 1) := by decide +kernel
theorem dX5_take_50 : decode cX5_take 50 = .ok (.istore 5, 2) := by decide +kernel
theorem dX5_take_52 : decode cX5_take 52 = .ok (.iinc 7 1, 3) := by decide +kernel
theorem dX5_take_55 : decode cX5_take 55 = .ok (.goto (-34), 3) := by decide +kernel
theorem dX5_take_58 : decode cX5_take 58 = .ok (.iload 5, 2) := by decide +kernel
theorem dX5_take_60 : decode cX5_take 60 = .ok (.ifCond .le 41, 3) := by decide +kernel
theorem dX5_take_63 : decode cX5_take 63 = .ok (.aload_n 0, 1) := by decide +kernel
theorem dX5_take_64 : decode cX5_take 64 = .ok (.getfield 26, 3) := by decide +kernel
theorem dX5_take_67 : decode cX5_take 67 = .ok (.ifCond .ne 34, 3) := by decide +kernel
theorem dX5_take_70 : decode cX5_take 70 = .ok (.aload_n 0, 1) := by decide +kernel
theorem dX5_take_71 : decode cX5_take 71 = .ok (.aload_n 1, 1) := by decide +kernel
theorem dX5_take_72 : decode cX5_take 72 = .ok (.iload_n 2, 1) := by decide +kernel
theorem dX5_take_73 : decode cX5_take 73 = .ok (.invokevirtual 104, 3) := by decide +kernel
theorem dX5_take_76 : decode cX5_take 76 = .ok (.istore 7, 2) := by decide +kernel
theorem dX5_take_78 : decode cX5_take 78 = .ok (.aload_n 0, 1) := by decide +kernel
theorem dX5_take_79 : decode cX5_take 79 = .ok (.aload_n 1, 1) := by decide +kernel
theorem dX5_take_80 : decode cX5_take 80 = .ok (.iload 7, 2) := by decide +kernel
theorem dX5_take_82 : decode cX5_take 82 = .ok (.iload 5, 2) := by decide +kernel
theorem dX5_take_84 : decode cX5_take 84 = .ok (.iload 4, 2) := by decide +kernel
theorem dX5_take_86 : decode cX5_take 86 = .ok (.iconst 1, 1) := by decide +kernel
theorem dX5_take_87 : decode cX5_take 87 = .ok (.iadd, 1) := by decide +kernel
theorem dX5_take_88 : decode cX5_take 88 = .ok (.invokevirtual 49, 3) := by decide +kernel
theorem dX5_take_91 : decode cX5_take 91 = .ok (.aload_n 0, 1) := by decide +kernel
theorem dX5_take_92 : decode cX5_take 92 = .ok (.aload_n 1, 1) := by decide +kernel
theorem dX5_take_93 : decode cX5_take 93 = .ok (.iload 7, 2) := by decide +kernel
theorem dX5_take_95 : decode cX5_take 95 = .ok (.iload 5, 2) := by decide +kernel
theorem dX5_take_97 : decode cX5_take 97 = .ok (.invokevirtual 94, 3) := by decide +kernel
theorem dX5_take_100 : decode cX5_take 100 = .ok (.pop, 1) := by decide +kernel
theorem dX5_take_101 : decode cX5_take 101 = .ok (.return_, 1) := by decide +kernel
set_option maxRecDepth 20000 in
theorem ggX5_standIn_X0_isMade : GoodIn wsX5_standIn wsX0_isMade := goodIn_r _ [5, 6, 7, 8, 9, 20, 21, 22, 23, 24, 25, 26, 27] (by decide +kernel) (by decide +kernel)
set_option maxRecDepth 20000 in
theorem gX5_standIn_X0_isMade : GoodIn wsX5_standIn (wsV RX5 56 RX0 yX0_isMade wsX0_isMade) := goodIn_app (goodIn_of _ (by decide +kernel)) ggX5_standIn_X0_isMade
set_option maxRecDepth 20000 in
theorem ggX5_standIn_X0_substitutesOf : GoodIn wsX5_standIn wsX0_substitutesOf := goodIn_r _ [13, 14, 7, 8, 9, 20, 21, 22, 23, 24, 25, 26, 27] (by decide +kernel) (by decide +kernel)
set_option maxRecDepth 20000 in
theorem gX5_standIn_X0_substitutesOf : GoodIn wsX5_standIn (wsV RX5 98 RX0 yX0_substitutesOf wsX0_substitutesOf) := goodIn_app (goodIn_of _ (by decide +kernel)) ggX5_standIn_X0_substitutesOf
set_option maxRecDepth 20000 in
theorem ggX5_standIn_X0_substituteAt : GoodIn wsX5_standIn wsX0_substituteAt := goodIn_r _ [18, 19, 7, 8, 9, 20, 21, 22, 23, 24, 25, 26, 27] (by decide +kernel) (by decide +kernel)
set_option maxRecDepth 20000 in
theorem gX5_standIn_X0_substituteAt : GoodIn wsX5_standIn (wsV RX5 101 RX0 yX0_substituteAt wsX0_substituteAt) := goodIn_app (goodIn_of _ (by decide +kernel)) ggX5_standIn_X0_substituteAt
theorem dX5_standIn_0 : decode cX5_standIn 0 = .ok (.aload_n 1, 1) := by decide +kernel
theorem dX5_standIn_1 : decode cX5_standIn 1 = .ok (.iload_n 2, 1) := by decide +kernel
theorem dX5_standIn_2 : decode cX5_standIn 2 = .ok (.invokevirtual 56, 3) := by decide +kernel
theorem dX5_standIn_5 : decode cX5_standIn 5 = .ok (.ifCond .eq 5, 3) := by decide +kernel
theorem dX5_standIn_8 : decode cX5_standIn 8 = .ok (.iload_n 2, 1) := by decide +kernel
theorem dX5_standIn_9 : decode cX5_standIn 9 = .ok (.ireturn, 1) := by decide +kernel
theorem dX5_standIn_10 : decode cX5_standIn 10 = .ok (.aload_n 1, 1) := by decide +kernel
theorem dX5_standIn_11 : decode cX5_standIn 11 = .ok (.iload_n 2, 1) := by decide +kernel
theorem dX5_standIn_12 : decode cX5_standIn 12 = .ok (.invokevirtual 98, 3) := by decide +kernel
theorem dX5_standIn_15 : decode cX5_standIn 15 = .ok (.istore_n 3, 1) := by decide +kernel
theorem dX5_standIn_16 : decode cX5_standIn 16 = .ok (.iconst 0, 1) := by decide +kernel
theorem dX5_standIn_17 : decode cX5_standIn 17 = .ok (.istore 4, 2) := by decide +kernel
theorem dX5_standIn_19 : decode cX5_standIn 19 = .ok (.iload 4, 2) := by decide +kernel
theorem dX5_standIn_21 : decode cX5_standIn 21 = .ok (.iload_n 3, 1) := by decide +kernel
theorem dX5_standIn_22 : decode cX5_standIn 22 = .ok (.if_icmp .ge 31, 3) := by decide +kernel
theorem dX5_standIn_25 : decode cX5_standIn 25 = .ok (.aload_n 1, 1) := by decide +kernel
theorem dX5_standIn_26 : decode cX5_standIn 26 = .ok (.aload_n 1, 1) := by decide +kernel
theorem dX5_standIn_27 : decode cX5_standIn 27 = .ok (.iload_n 2, 1) := by decide +kernel
theorem dX5_standIn_28 : decode cX5_standIn 28 = .ok (.iload 4, 2) := by decide +kernel
theorem dX5_standIn_30 : decode cX5_standIn 30 = .ok (.invokevirtual 101, 3) := by decide +kernel
theorem dX5_standIn_33 : decode cX5_standIn 33 = .ok (.invokevirtual 56, 3) := by decide +kernel
theorem dX5_standIn_36 : decode cX5_standIn 36 = .ok (.ifCond .eq 11, 3) := by decide +kernel
theorem dX5_standIn_39 : decode cX5_standIn 39 = .ok (.aload_n 1, 1) := by decide +kernel
theorem dX5_standIn_40 : decode cX5_standIn 40 = .ok (.iload_n 2, 1) := by decide +kernel
theorem dX5_standIn_41 : decode cX5_standIn 41 = .ok (.iload 4, 2) := by decide +kernel
theorem dX5_standIn_43 : decode cX5_standIn 43 = .ok (.invokevirtual 101, 3) := by decide +kernel
theorem dX5_standIn_46 : decode cX5_standIn 46 = .ok (.ireturn, 1) := by decide +kernel
theorem dX5_standIn_47 : decode cX5_standIn 47 = .ok (.iinc 4 1, 3) := by decide +kernel
theorem dX5_standIn_50 : decode cX5_standIn 50 = .ok (.goto (-31), 3) := by decide +kernel
theorem dX5_standIn_53 : decode cX5_standIn 53 = .ok (.iload_n 2, 1) := by decide +kernel
theorem dX5_standIn_54 : decode cX5_standIn 54 = .ok (.ireturn, 1) := by decide +kernel
set_option maxRecDepth 20000 in
theorem ggX5_useUp_X6_at : GoodIn wsX5_useUp wsX6_at := goodIn_r _ [8] (by decide +kernel) (by decide +kernel)
set_option maxRecDepth 20000 in
theorem gX5_useUp_X6_at_n44 : GoodIn wsX5_useUp (wsX6_at) := ggX5_useUp_X6_at
set_option maxRecDepth 20000 in
theorem ggX5_useUp_X6_add : GoodIn wsX5_useUp wsX6_add := goodIn_r _ [10] (by decide +kernel) (by decide +kernel)
set_option maxRecDepth 20000 in
theorem gX5_useUp_X6_add_n40 : GoodIn wsX5_useUp (wsX6_add) := ggX5_useUp_X6_add
set_option maxRecDepth 20000 in
theorem ggX5_useUp_X0_vesselOf : GoodIn wsX5_useUp wsX0_vesselOf := goodIn_r _ [15, 16, 6, 7, 8, 36, 37, 38, 39, 40, 41, 42, 43] (by decide +kernel) (by decide +kernel)
set_option maxRecDepth 20000 in
theorem gX5_useUp_X0_vesselOf : GoodIn wsX5_useUp (wsV RX5 116 RX0 yX0_vesselOf wsX0_vesselOf) := goodIn_app (goodIn_of _ (by decide +kernel)) ggX5_useUp_X0_vesselOf
set_option maxRecDepth 20000 in
theorem ggX5_useUp_X5_comeIn : GoodIn wsX5_useUp wsX5_comeIn := goodIn_r _ [21, 1, 22, 23, 9, 7, 10, 6, 8, 24, 25, 26, 27, 28, 29, 30, 31, 32, 33, 34, 35] (by decide +kernel) (by decide +kernel)
set_option maxRecDepth 20000 in
theorem gX5_useUp_X5_comeIn : GoodIn wsX5_useUp (wsV RX5 89 RX5 yX5_comeIn wsX5_comeIn) := goodIn_app (goodIn_of _ (by decide +kernel)) ggX5_useUp_X5_comeIn
theorem dX5_useUp_0 : decode cX5_useUp 0 = .ok (.iload_n 3, 1) := by decide +kernel
theorem dX5_useUp_1 : decode cX5_useUp 1 = .ok (.aload_n 0, 1) := by decide +kernel
theorem dX5_useUp_2 : decode cX5_useUp 2 = .ok (.getfield 12, 3) := by decide +kernel
theorem dX5_useUp_5 : decode cX5_useUp 5 = .ok (.getfield 36, 3) := by decide +kernel
theorem dX5_useUp_8 : decode cX5_useUp 8 = .ok (.iload_n 2, 1) := by decide +kernel
theorem dX5_useUp_9 : decode cX5_useUp 9 = .ok (.invokestatic 44, 3) := by decide +kernel
theorem dX5_useUp_12 : decode cX5_useUp 12 = .ok (.invokestatic 108, 3) := by decide +kernel
theorem dX5_useUp_15 : decode cX5_useUp 15 = .ok (.istore 4, 2) := by decide +kernel
theorem dX5_useUp_17 : decode cX5_useUp 17 = .ok (.aload_n 0, 1) := by decide +kernel
theorem dX5_useUp_18 : decode cX5_useUp 18 = .ok (.getfield 12, 3) := by decide +kernel
theorem dX5_useUp_21 : decode cX5_useUp 21 = .ok (.getfield 36, 3) := by decide +kernel
theorem dX5_useUp_24 : decode cX5_useUp 24 = .ok (.iload_n 2, 1) := by decide +kernel
theorem dX5_useUp_25 : decode cX5_useUp 25 = .ok (.iload 4, 2) := by decide +kernel
theorem dX5_useUp_27 : decode cX5_useUp 27 = .ok (.ineg, 1) := by decide +kernel
theorem dX5_useUp_28 : decode cX5_useUp 28 = .ok (.invokestatic 40, 3) := by decide +kernel
theorem dX5_useUp_31 : decode cX5_useUp 31 = .ok (.aload_n 0, 1) := by decide +kernel
theorem dX5_useUp_32 : decode cX5_useUp 32 = .ok (.getfield 12, 3) := by decide +kernel
theorem dX5_useUp_35 : decode cX5_useUp 35 = .ok (.getfield 113, 3) := by decide +kernel
theorem dX5_useUp_38 : decode cX5_useUp 38 = .ok (.iload_n 2, 1) := by decide +kernel
theorem dX5_useUp_39 : decode cX5_useUp 39 = .ok (.iload 4, 2) := by decide +kernel
theorem dX5_useUp_41 : decode cX5_useUp 41 = .ok (.invokestatic 40, 3) := by decide +kernel
theorem dX5_useUp_44 : decode cX5_useUp 44 = .ok (.aload_n 1, 1) := by decide +kernel
theorem dX5_useUp_45 : decode cX5_useUp 45 = .ok (.iload_n 2, 1) := by decide +kernel
theorem dX5_useUp_46 : decode cX5_useUp 46 = .ok (.invokevirtual 116, 3) := by decide +kernel
theorem dX5_useUp_49 : decode cX5_useUp 49 = .ok (.istore 5, 2) := by decide +kernel
theorem dX5_useUp_51 : decode cX5_useUp 51 = .ok (.iload 5, 2) := by decide +kernel
theorem dX5_useUp_53 : decode cX5_useUp 53 = .ok (.bipush (-9), 2) := by decide +kernel
theorem dX5_useUp_55 : decode cX5_useUp 55 = .ok (.if_icmp .eq 18, 3) := by decide +kernel
theorem dX5_useUp_58 : decode cX5_useUp 58 = .ok (.aload_n 0, 1) := by decide +kernel
theorem dX5_useUp_59 : decode cX5_useUp 59 = .ok (.iload 5, 2) := by decide +kernel
theorem dX5_useUp_61 : decode cX5_useUp 61 = .ok (.iload 4, 2) := by decide +kernel
theorem dX5_useUp_63 : decode cX5_useUp 63 = .ok (.aload_n 0, 1) := by decide +kernel
theorem dX5_useUp_64 : decode cX5_useUp 64 = .ok (.getfield 12, 3) := by decide +kernel
theorem dX5_useUp_67 : decode cX5_useUp 67 = .ok (.getfield 119, 3) := by decide +kernel
theorem dX5_useUp_70 : decode cX5_useUp 70 = .ok (.invokevirtual 89, 3) := by decide +kernel
theorem dX5_useUp_73 : decode cX5_useUp 73 = .ok (.iload 4, 2) := by decide +kernel
theorem dX5_useUp_75 : decode cX5_useUp 75 = .ok (.ireturn, 1) := by decide +kernel
set_option maxRecDepth 20000 in
theorem ggX5_collect_X5_comeIn : GoodIn wsX5_collect wsX5_comeIn := goodIn_r _ [9, 4, 10, 2, 11, 12, 13, 14, 15, 16, 17, 18, 19, 20, 21, 22, 23, 24, 25, 26, 27] (by decide +kernel) (by decide +kernel)
set_option maxRecDepth 20000 in
theorem gX5_collect_X5_comeIn : GoodIn wsX5_collect (wsV RX5 89 RX5 yX5_comeIn wsX5_comeIn) := goodIn_app (goodIn_of _ (by decide +kernel)) ggX5_collect_X5_comeIn
theorem dX5_collect_0 : decode cX5_collect 0 = .ok (.aload_n 0, 1) := by decide +kernel
theorem dX5_collect_1 : decode cX5_collect 1 = .ok (.getfield 22, 3) := by decide +kernel
theorem dX5_collect_4 : decode cX5_collect 4 = .ok (.ifCond .ne 8, 3) := by decide +kernel
theorem dX5_collect_7 : decode cX5_collect 7 = .ok (.aload_n 0, 1) := by decide +kernel
theorem dX5_collect_8 : decode cX5_collect 8 = .ok (.iconst 1, 1) := by decide +kernel
theorem dX5_collect_9 : decode cX5_collect 9 = .ok (.putfield 26, 3) := by decide +kernel
theorem dX5_collect_12 : decode cX5_collect 12 = .ok (.aload_n 0, 1) := by decide +kernel
theorem dX5_collect_13 : decode cX5_collect 13 = .ok (.dup, 1) := by decide +kernel
theorem dX5_collect_14 : decode cX5_collect 14 = .ok (.getfield 33, 3) := by decide +kernel
theorem dX5_collect_17 : decode cX5_collect 17 = .ok (.iload_n 2, 1) := by decide +kernel
theorem dX5_collect_18 : decode cX5_collect 18 = .ok (.iadd, 1) := by decide +kernel
theorem dX5_collect_19 : decode cX5_collect 19 = .ok (.putfield 33, 3) := by decide +kernel
theorem dX5_collect_22 : decode cX5_collect 22 = .ok (.aload_n 0, 1) := by decide +kernel
theorem dX5_collect_23 : decode cX5_collect 23 = .ok (.iload_n 1, 1) := by decide +kernel
theorem dX5_collect_24 : decode cX5_collect 24 = .ok (.iload_n 2, 1) := by decide +kernel
theorem dX5_collect_25 : decode cX5_collect 25 = .ok (.aload_n 0, 1) := by decide +kernel
theorem dX5_collect_26 : decode cX5_collect 26 = .ok (.getfield 12, 3) := by decide +kernel
theorem dX5_collect_29 : decode cX5_collect 29 = .ok (.getfield 122, 3) := by decide +kernel
theorem dX5_collect_32 : decode cX5_collect 32 = .ok (.invokevirtual 89, 3) := by decide +kernel
theorem dX5_collect_35 : decode cX5_collect 35 = .ok (.return_, 1) := by decide +kernel
set_option maxRecDepth 20000 in
theorem ggX5_comeIn_X6_add : GoodIn wsX5_comeIn wsX6_add := goodIn_r _ [6] (by decide +kernel) (by decide +kernel)
set_option maxRecDepth 20000 in
theorem gX5_comeIn_X6_add_n40 : GoodIn wsX5_comeIn (wsX6_add) := ggX5_comeIn_X6_add
set_option maxRecDepth 20000 in
theorem ggX5_comeIn_X6_at : GoodIn wsX5_comeIn wsX6_at := goodIn_r _ [8] (by decide +kernel) (by decide +kernel)
set_option maxRecDepth 20000 in
theorem gX5_comeIn_X6_at_n44 : GoodIn wsX5_comeIn (wsX6_at) := ggX5_comeIn_X6_at
theorem dX5_comeIn_0 : decode cX5_comeIn 0 = .ok (.aload_n 0, 1) := by decide +kernel
theorem dX5_comeIn_1 : decode cX5_comeIn 1 = .ok (.getfield 12, 3) := by decide +kernel
theorem dX5_comeIn_4 : decode cX5_comeIn 4 = .ok (.getfield 36, 3) := by decide +kernel
theorem dX5_comeIn_7 : decode cX5_comeIn 7 = .ok (.iload_n 1, 1) := by decide +kernel
theorem dX5_comeIn_8 : decode cX5_comeIn 8 = .ok (.iload_n 2, 1) := by decide +kernel
theorem dX5_comeIn_9 : decode cX5_comeIn 9 = .ok (.invokestatic 40, 3) := by decide +kernel
theorem dX5_comeIn_12 : decode cX5_comeIn 12 = .ok (.aload_n 3, 1) := by decide +kernel
theorem dX5_comeIn_13 : decode cX5_comeIn 13 = .ok (.iload_n 1, 1) := by decide +kernel
theorem dX5_comeIn_14 : decode cX5_comeIn 14 = .ok (.iload_n 2, 1) := by decide +kernel
theorem dX5_comeIn_15 : decode cX5_comeIn 15 = .ok (.invokestatic 40, 3) := by decide +kernel
theorem dX5_comeIn_18 : decode cX5_comeIn 18 = .ok (.aload_n 0, 1) := by decide +kernel
theorem dX5_comeIn_19 : decode cX5_comeIn 19 = .ok (.getfield 12, 3) := by decide +kernel
theorem dX5_comeIn_22 : decode cX5_comeIn 22 = .ok (.getfield 36, 3) := by decide +kernel
theorem dX5_comeIn_25 : decode cX5_comeIn 25 = .ok (.iload_n 1, 1) := by decide +kernel
theorem dX5_comeIn_26 : decode cX5_comeIn 26 = .ok (.invokestatic 44, 3) := by decide +kernel
theorem dX5_comeIn_29 : decode cX5_comeIn 29 = .ok (.ldc 48, 2) := by decide +kernel
theorem dX5_comeIn_31 : decode cX5_comeIn 31 = .ok (.if_icmp .le 8, 3) := by decide +kernel
theorem dX5_comeIn_34 : decode cX5_comeIn 34 = .ok (.aload_n 0, 1) := by decide +kernel
theorem dX5_comeIn_35 : decode cX5_comeIn 35 = .ok (.iconst 1, 1) := by decide +kernel
theorem dX5_comeIn_36 : decode cX5_comeIn 36 = .ok (.putfield 26, 3) := by decide +kernel
theorem dX5_comeIn_39 : decode cX5_comeIn 39 = .ok (.return_, 1) := by decide +kernel
end
section
set_option maxRecDepth 20000 in
theorem ggX6_init_X0_init : GoodIn wsX6_init wsX0_init := goodIn_r _ [34, 35, 2, 3, 27, 36, 37, 38, 39, 40, 41, 42, 43, 44, 45, 46, 47, 72, 73, 74, 75, 76, 77, 78, 79] (by decide +kernel) (by decide +kernel)
set_option maxRecDepth 20000 in
theorem gX6_init_X0_init : GoodIn wsX6_init (wsX0_init) := ggX6_init_X0_init
set_option maxRecDepth 20000 in
theorem ggX6_init_X4_init : GoodIn wsX6_init wsX4_init := goodIn_r _ [49, 50, 2, 3, 27, 51, 52, 53, 54, 55, 56, 91, 92, 93, 94, 95, 96, 97] (by decide +kernel) (by decide +kernel)
set_option maxRecDepth 20000 in
theorem gX6_init_X4_init_n21 : GoodIn wsX6_init (wsX4_init) := ggX6_init_X4_init
set_option maxRecDepth 20000 in
theorem ggX6_init_X5_init : GoodIn wsX6_init wsX5_init := goodIn_r _ [58, 59, 2, 3, 60, 10, 11, 61, 48, 49, 50, 27, 51, 52, 53, 54, 55, 56, 91, 92, 93, 94, 95, 96, 97, 98, 99, 100, 101, 102] (by decide +kernel) (by decide +kernel)
set_option maxRecDepth 20000 in
theorem gX6_init_X5_init_n28 : GoodIn wsX6_init (wsX5_init) := ggX6_init_X5_init
set_option maxRecDepth 20000 in
theorem ggX6_init_X1_init : GoodIn wsX6_init wsX1_init := goodIn_r _ [63, 64, 2, 3, 65, 66, 103, 104, 105] (by decide +kernel) (by decide +kernel)
set_option maxRecDepth 20000 in
theorem gX6_init_X1_init_n35 : GoodIn wsX6_init (wsX1_init) := ggX6_init_X1_init
set_option maxRecDepth 20000 in
theorem ggX6_init_X2_init : GoodIn wsX6_init wsX2_init := goodIn_r _ [68, 69, 2, 3, 27, 70, 71, 106, 107, 108, 109, 110, 111, 112, 113] (by decide +kernel) (by decide +kernel)
set_option maxRecDepth 20000 in
theorem gX6_init_X2_init_n48 : GoodIn wsX6_init (wsX2_init) := ggX6_init_X2_init
theorem dX6_init_0 : decode cX6_init 0 = .ok (.aload_n 0, 1) := by decide +kernel
theorem dX6_init_1 : decode cX6_init 1 = .ok (.invokespecial 1, 3) := by decide +kernel
theorem dX6_init_4 : decode cX6_init 4 = .ok (.aload_n 0, 1) := by decide +kernel
theorem dX6_init_5 : decode cX6_init 5 = .ok (.new 7, 3) := by decide +kernel
theorem dX6_init_8 : decode cX6_init 8 = .ok (.dup, 1) := by decide +kernel
theorem dX6_init_9 : decode cX6_init 9 = .ok (.invokespecial 9, 3) := by decide +kernel
theorem dX6_init_12 : decode cX6_init 12 = .ok (.putfield 10, 3) := by decide +kernel
theorem dX6_init_15 : decode cX6_init 15 = .ok (.aload_n 0, 1) := by decide +kernel
theorem dX6_init_16 : decode cX6_init 16 = .ok (.new 7, 3) := by decide +kernel
theorem dX6_init_19 : decode cX6_init 19 = .ok (.dup, 1) := by decide +kernel
theorem dX6_init_20 : decode cX6_init 20 = .ok (.invokespecial 9, 3) := by decide +kernel
theorem dX6_init_23 : decode cX6_init 23 = .ok (.putfield 16, 3) := by decide +kernel
theorem dX6_init_26 : decode cX6_init 26 = .ok (.aload_n 0, 1) := by decide +kernel
theorem dX6_init_27 : decode cX6_init 27 = .ok (.new 19, 3) := by decide +kernel
theorem dX6_init_30 : decode cX6_init 30 = .ok (.dup, 1) := by decide +kernel
theorem dX6_init_31 : decode cX6_init 31 = .ok (.invokespecial 21, 3) := by decide +kernel
theorem dX6_init_34 : decode cX6_init 34 = .ok (.putfield 22, 3) := by decide +kernel
theorem dX6_init_37 : decode cX6_init 37 = .ok (.aload_n 0, 1) := by decide +kernel
theorem dX6_init_38 : decode cX6_init 38 = .ok (.new 26, 3) := by decide +kernel
theorem dX6_init_41 : decode cX6_init 41 = .ok (.dup, 1) := by decide +kernel
theorem dX6_init_42 : decode cX6_init 42 = .ok (.invokespecial 28, 3) := by decide +kernel
theorem dX6_init_45 : decode cX6_init 45 = .ok (.putfield 29, 3) := by decide +kernel
theorem dX6_init_48 : decode cX6_init 48 = .ok (.aload_n 0, 1) := by decide +kernel
theorem dX6_init_49 : decode cX6_init 49 = .ok (.new 33, 3) := by decide +kernel
theorem dX6_init_52 : decode cX6_init 52 = .ok (.dup, 1) := by decide +kernel
theorem dX6_init_53 : decode cX6_init 53 = .ok (.invokespecial 35, 3) := by decide +kernel
theorem dX6_init_56 : decode cX6_init 56 = .ok (.putfield 36, 3) := by decide +kernel
theorem dX6_init_59 : decode cX6_init 59 = .ok (.aload_n 0, 1) := by decide +kernel
theorem dX6_init_60 : decode cX6_init 60 = .ok (.iconst 2, 1) := by decide +kernel
theorem dX6_init_61 : decode cX6_init 61 = .ok (.anewarray 40, 3) := by decide +kernel
theorem dX6_init_64 : decode cX6_init 64 = .ok (.putfield 42, 3) := by decide +kernel
theorem dX6_init_67 : decode cX6_init 67 = .ok (.aload_n 0, 1) := by decide +kernel
theorem dX6_init_68 : decode cX6_init 68 = .ok (.new 46, 3) := by decide +kernel
theorem dX6_init_71 : decode cX6_init 71 = .ok (.dup, 1) := by decide +kernel
theorem dX6_init_72 : decode cX6_init 72 = .ok (.invokespecial 48, 3) := by decide +kernel
theorem dX6_init_75 : decode cX6_init 75 = .ok (.putfield 49, 3) := by decide +kernel
theorem dX6_init_78 : decode cX6_init 78 = .ok (.aload_n 0, 1) := by decide +kernel
theorem dX6_init_79 : decode cX6_init 79 = .ok (.bipush 60, 2) := by decide +kernel
theorem dX6_init_81 : decode cX6_init 81 = .ok (.newarray .int, 2) := by decide +kernel
theorem dX6_init_83 : decode cX6_init 83 = .ok (.putfield 53, 3) := by decide +kernel
theorem dX6_init_86 : decode cX6_init 86 = .ok (.aload_n 0, 1) := by decide +kernel
theorem dX6_init_87 : decode cX6_init 87 = .ok (.iconst 0, 1) := by decide +kernel
theorem dX6_init_88 : decode cX6_init 88 = .ok (.putfield 57, 3) := by decide +kernel
theorem dX6_init_91 : decode cX6_init 91 = .ok (.aload_n 0, 1) := by decide +kernel
theorem dX6_init_92 : decode cX6_init 92 = .ok (.iconst 0, 1) := by decide +kernel
theorem dX6_init_93 : decode cX6_init 93 = .ok (.putfield 61, 3) := by decide +kernel
theorem dX6_init_96 : decode cX6_init 96 = .ok (.aload_n 0, 1) := by decide +kernel
theorem dX6_init_97 : decode cX6_init 97 = .ok (.iconst 0, 1) := by decide +kernel
theorem dX6_init_98 : decode cX6_init 98 = .ok (.putfield 64, 3) := by decide +kernel
theorem dX6_init_101 : decode cX6_init 101 = .ok (.return_, 1) := by decide +kernel
set_option maxRecDepth 20000 in
theorem ggX6_recipe_X2_read : GoodIn wsX6_recipe wsX2_read := goodIn_r _ [14, 15, 16, 17, 18, 19, 20, 21, 22, 23, 13, 24, 25, 26, 27, 28, 29, 30, 31, 32, 33, 34, 35, 36, 37, 38, 39, 40, 41, 42, 43, 44, 45, 46, 47, 48, 49, 50, 51, 52, 53, 54, 55, 56, 57, 58, 59, 60, 61, 62, 63, 64, 65, 210, 211, 212, 213, 214, 215, 216, 217] (by decide +kernel) (by decide +kernel)
set_option maxRecDepth 20000 in
theorem gX6_recipe_X2_read : GoodIn wsX6_recipe (wsV RX6 67 RX2 yX2_read wsX2_read) := goodIn_app (goodIn_of _ (by decide +kernel)) ggX6_recipe_X2_read
set_option maxRecDepth 20000 in
theorem ggX6_recipe_X0_copyFrom : GoodIn wsX6_recipe wsX0_copyFrom := goodIn_r _ [70, 71, 72, 73, 74, 75, 76, 77, 78, 79, 30, 80, 81, 82, 83, 84, 85, 86, 87, 88, 218, 219, 220, 221, 222, 223, 224, 225] (by decide +kernel) (by decide +kernel)
set_option maxRecDepth 20000 in
theorem gX6_recipe_X0_copyFrom : GoodIn wsX6_recipe (wsV RX6 73 RX0 yX0_copyFrom wsX0_copyFrom) := goodIn_app (goodIn_of _ (by decide +kernel)) ggX6_recipe_X0_copyFrom
set_option maxRecDepth 20000 in
theorem ggX6_recipe_X0_lay : GoodIn wsX6_recipe wsX0_lay := goodIn_r _ [92, 71, 72, 73, 74, 60, 30, 61, 29, 31, 218, 219, 220, 221, 222, 223, 224, 225, 210, 211, 212, 213, 214, 215, 216, 217] (by decide +kernel) (by decide +kernel)
set_option maxRecDepth 20000 in
theorem gX6_recipe_X0_lay : GoodIn wsX6_recipe (wsV RX6 77 RX0 yX0_lay wsX0_lay) := goodIn_app (goodIn_of _ (by decide +kernel)) ggX6_recipe_X0_lay
set_option maxRecDepth 20000 in
theorem ggX6_recipe_X0_findRanks : GoodIn wsX6_recipe wsX0_findRanks := goodIn_r _ [96, 78, 97, 98, 99, 100, 101, 102, 103, 69, 104, 71, 29, 30, 31, 105, 106, 107, 108, 109, 110, 111, 112, 72, 113, 114, 115, 116, 73, 117, 118, 119, 120, 75, 121, 122, 123, 124, 76, 125, 126, 127, 128, 129, 130, 83, 131, 132, 133, 134, 135, 136, 137, 60, 61, 218, 219, 220, 221, 222, 223, 224, 225] (by decide +kernel) (by decide +kernel)
set_option maxRecDepth 20000 in
theorem gX6_recipe_X0_findRanks : GoodIn wsX6_recipe (wsV RX6 81 RX0 yX0_findRanks wsX0_findRanks) := goodIn_app (goodIn_of _ (by decide +kernel)) ggX6_recipe_X0_findRanks
set_option maxRecDepth 20000 in
theorem ggX6_recipe_X1_remember : GoodIn wsX6_recipe wsX1_remember := goodIn_r _ [142, 143, 144, 145, 146, 147, 148, 141, 149, 150, 151, 152, 153, 154, 30, 155, 156, 157, 158, 159, 160, 161, 162, 163, 164, 165, 166, 167, 168, 69, 169, 170, 171, 172, 173, 174, 175, 176, 177, 178, 71, 72, 73, 74, 75, 76, 77, 78, 97, 98, 99, 100, 179, 180, 181, 182, 183, 184, 185, 186, 187, 188, 189, 190, 191, 192, 67, 68, 70, 79, 80, 81, 82, 83, 84, 85, 86, 87, 88, 193, 194, 195, 196, 197, 226, 227, 228, 229, 230, 218, 219, 220, 221, 222, 223, 224, 225, 231, 232, 233, 234, 235, 236, 237] (by decide +kernel) (by decide +kernel)
set_option maxRecDepth 20000 in
theorem gX6_recipe_X1_remember : GoodIn wsX6_recipe (wsV RX6 85 RX1 yX1_remember wsX1_remember) := goodIn_app (goodIn_of _ (by decide +kernel)) ggX6_recipe_X1_remember
set_option maxRecDepth 20000 in
theorem ggX6_recipe_X0_rankOf : GoodIn wsX6_recipe wsX0_rankOf := goodIn_r _ [137, 78, 29, 30, 31, 218, 219, 220, 221, 222, 223, 224, 225] (by decide +kernel) (by decide +kernel)
set_option maxRecDepth 20000 in
theorem gX6_recipe_X0_rankOf : GoodIn wsX6_recipe (wsV RX6 92 RX0 yX0_rankOf wsX0_rankOf) := goodIn_app (goodIn_of _ (by decide +kernel)) ggX6_recipe_X0_rankOf
theorem dX6_recipe_0 : decode cX6_recipe 0 = .ok (.aload_n 0, 1) := by decide +kernel
theorem dX6_recipe_1 : decode cX6_recipe 1 = .ok (.getfield 49, 3) := by decide +kernel
theorem dX6_recipe_4 : decode cX6_recipe 4 = .ok (.aload_n 0, 1) := by decide +kernel
theorem dX6_recipe_5 : decode cX6_recipe 5 = .ok (.getfield 53, 3) := by decide +kernel
theorem dX6_recipe_8 : decode cX6_recipe 8 = .ok (.aload_n 0, 1) := by decide +kernel
theorem dX6_recipe_9 : decode cX6_recipe 9 = .ok (.getfield 57, 3) := by decide +kernel
theorem dX6_recipe_12 : decode cX6_recipe 12 = .ok (.invokevirtual 67, 3) := by decide +kernel
theorem dX6_recipe_15 : decode cX6_recipe 15 = .ok (.aload_n 0, 1) := by decide +kernel
theorem dX6_recipe_16 : decode cX6_recipe 16 = .ok (.getfield 49, 3) := by decide +kernel
theorem dX6_recipe_19 : decode cX6_recipe 19 = .ok (.getfield 71, 3) := by decide +kernel
theorem dX6_recipe_22 : decode cX6_recipe 22 = .ok (.ifCond .eq 28, 3) := by decide +kernel
theorem dX6_recipe_25 : decode cX6_recipe 25 = .ok (.aload_n 0, 1) := by decide +kernel
theorem dX6_recipe_26 : decode cX6_recipe 26 = .ok (.aload_n 0, 1) := by decide +kernel
theorem dX6_recipe_27 : decode cX6_recipe 27 = .ok (.getfield 49, 3) := by decide +kernel
theorem dX6_recipe_30 : decode cX6_recipe 30 = .ok (.getfield 71, 3) := by decide +kernel
theorem dX6_recipe_33 : decode cX6_recipe 33 = .ok (.putfield 61, 3) := by decide +kernel
theorem dX6_recipe_36 : decode cX6_recipe 36 = .ok (.aload_n 0, 1) := by decide +kernel
theorem dX6_recipe_37 : decode cX6_recipe 37 = .ok (.aload_n 0, 1) := by decide +kernel
theorem dX6_recipe_38 : decode cX6_recipe 38 = .ok (.getfield 49, 3) := by decide +kernel
theorem dX6_recipe_41 : decode cX6_recipe 41 = .ok (.getfield 72, 3) := by decide +kernel
theorem dX6_recipe_44 : decode cX6_recipe 44 = .ok (.putfield 64, 3) := by decide +kernel
theorem dX6_recipe_47 : decode cX6_recipe 47 = .ok (.bipush (-2), 2) := by decide +kernel
theorem dX6_recipe_49 : decode cX6_recipe 49 = .ok (.ireturn, 1) := by decide +kernel
theorem dX6_recipe_50 : decode cX6_recipe 50 = .ok (.aload_n 0, 1) := by decide +kernel
theorem dX6_recipe_51 : decode cX6_recipe 51 = .ok (.getfield 16, 3) := by decide +kernel
theorem dX6_recipe_54 : decode cX6_recipe 54 = .ok (.aload_n 0, 1) := by decide +kernel
theorem dX6_recipe_55 : decode cX6_recipe 55 = .ok (.getfield 10, 3) := by decide +kernel
theorem dX6_recipe_58 : decode cX6_recipe 58 = .ok (.invokevirtual 73, 3) := by decide +kernel
theorem dX6_recipe_61 : decode cX6_recipe 61 = .ok (.aload_n 0, 1) := by decide +kernel
theorem dX6_recipe_62 : decode cX6_recipe 62 = .ok (.getfield 16, 3) := by decide +kernel
theorem dX6_recipe_65 : decode cX6_recipe 65 = .ok (.aload_n 0, 1) := by decide +kernel
theorem dX6_recipe_66 : decode cX6_recipe 66 = .ok (.getfield 49, 3) := by decide +kernel
theorem dX6_recipe_69 : decode cX6_recipe 69 = .ok (.invokevirtual 77, 3) := by decide +kernel
theorem dX6_recipe_72 : decode cX6_recipe 72 = .ok (.aload_n 0, 1) := by decide +kernel
theorem dX6_recipe_73 : decode cX6_recipe 73 = .ok (.getfield 16, 3) := by decide +kernel
theorem dX6_recipe_76 : decode cX6_recipe 76 = .ok (.invokevirtual 81, 3) := by decide +kernel
theorem dX6_recipe_79 : decode cX6_recipe 79 = .ok (.ifCond .ne 6, 3) := by decide +kernel
theorem dX6_recipe_82 : decode cX6_recipe 82 = .ok (.bipush (-2), 2) := by decide +kernel
theorem dX6_recipe_84 : decode cX6_recipe 84 = .ok (.ireturn, 1) := by decide +kernel
theorem dX6_recipe_85 : decode cX6_recipe 85 = .ok (.aload_n 0, 1) := by decide +kernel
theorem dX6_recipe_86 : decode cX6_recipe 86 = .ok (.getfield 36, 3) := by decide +kernel
theorem dX6_recipe_89 : decode cX6_recipe 89 = .ok (.aload_n 0, 1) := by decide +kernel
theorem dX6_recipe_90 : decode cX6_recipe 90 = .ok (.getfield 10, 3) := by decide +kernel
theorem dX6_recipe_93 : decode cX6_recipe 93 = .ok (.aload_n 0, 1) := by decide +kernel
theorem dX6_recipe_94 : decode cX6_recipe 94 = .ok (.getfield 22, 3) := by decide +kernel
theorem dX6_recipe_97 : decode cX6_recipe 97 = .ok (.invokevirtual 85, 3) := by decide +kernel
theorem dX6_recipe_100 : decode cX6_recipe 100 = .ok (.aload_n 0, 1) := by decide +kernel
theorem dX6_recipe_101 : decode cX6_recipe 101 = .ok (.getfield 10, 3) := by decide +kernel
theorem dX6_recipe_104 : decode cX6_recipe 104 = .ok (.aload_n 0, 1) := by decide +kernel
theorem dX6_recipe_105 : decode cX6_recipe 105 = .ok (.getfield 16, 3) := by decide +kernel
theorem dX6_recipe_108 : decode cX6_recipe 108 = .ok (.invokevirtual 73, 3) := by decide +kernel
theorem dX6_recipe_111 : decode cX6_recipe 111 = .ok (.aload_n 0, 1) := by decide +kernel
theorem dX6_recipe_112 : decode cX6_recipe 112 = .ok (.getfield 10, 3) := by decide +kernel
theorem dX6_recipe_115 : decode cX6_recipe 115 = .ok (.aload_n 0, 1) := by decide +kernel
theorem dX6_recipe_116 : decode cX6_recipe 116 = .ok (.getfield 49, 3) := by decide +kernel
theorem dX6_recipe_119 : decode cX6_recipe 119 = .ok (.getfield 89, 3) := by decide +kernel
theorem dX6_recipe_122 : decode cX6_recipe 122 = .ok (.invokevirtual 92, 3) := by decide +kernel
theorem dX6_recipe_125 : decode cX6_recipe 125 = .ok (.ireturn, 1) := by decide +kernel
set_option maxRecDepth 20000 in
theorem ggX6_forget_X6_isThing : GoodIn wsX6_forget wsX6_isThing := goodIn_r _ [7] (by decide +kernel) (by decide +kernel)
set_option maxRecDepth 20000 in
theorem gX6_forget_X6_isThing : GoodIn wsX6_forget (va_wsS RX6 96 yX6_isThing wsX6_isThing) := goodIn_app (goodIn_of _ (by decide +kernel)) ggX6_forget_X6_isThing
set_option maxRecDepth 20000 in
theorem ggX6_forget_X0_isMade : GoodIn wsX6_forget wsX0_isMade := goodIn_r _ [12, 13, 14, 6, 15, 159, 160, 161, 162, 163, 164, 165, 166] (by decide +kernel) (by decide +kernel)
set_option maxRecDepth 20000 in
theorem gX6_forget_X0_isMade : GoodIn wsX6_forget (wsV RX6 100 RX0 yX0_isMade wsX0_isMade) := goodIn_app (goodIn_of _ (by decide +kernel)) ggX6_forget_X0_isMade
set_option maxRecDepth 20000 in
theorem ggX6_forget_X1_remember : GoodIn wsX6_forget wsX1_remember := goodIn_r _ [20, 21, 22, 23, 24, 25, 26, 19, 27, 28, 29, 30, 31, 32, 6, 33, 34, 35, 36, 37, 38, 39, 40, 41, 42, 43, 44, 45, 46, 11, 47, 48, 49, 50, 51, 52, 53, 54, 55, 56, 13, 57, 58, 59, 60, 61, 62, 63, 64, 65, 66, 67, 68, 69, 70, 71, 72, 73, 74, 75, 76, 77, 78, 79, 80, 81, 82, 83, 84, 85, 86, 87, 88, 89, 90, 91, 92, 93, 94, 95, 96, 97, 98, 99, 167, 168, 169, 170, 171, 159, 160, 161, 162, 163, 164, 165, 166, 172, 173, 174, 175, 176, 177, 178] (by decide +kernel) (by decide +kernel)
set_option maxRecDepth 20000 in
theorem gX6_forget_X1_remember : GoodIn wsX6_forget (wsV RX6 85 RX1 yX1_remember wsX1_remember) := goodIn_app (goodIn_of _ (by decide +kernel)) ggX6_forget_X1_remember
set_option maxRecDepth 20000 in
theorem ggX6_forget_X0_yieldOf : GoodIn wsX6_forget wsX0_yieldOf := goodIn_r _ [103, 13, 14, 6, 15, 159, 160, 161, 162, 163, 164, 165, 166] (by decide +kernel) (by decide +kernel)
set_option maxRecDepth 20000 in
theorem gX6_forget_X0_yieldOf : GoodIn wsX6_forget (wsV RX6 103 RX0 yX0_yieldOf wsX0_yieldOf) := goodIn_app (goodIn_of _ (by decide +kernel)) ggX6_forget_X0_yieldOf
set_option maxRecDepth 20000 in
theorem ggX6_forget_X0_strike : GoodIn wsX6_forget wsX0_strike := goodIn_r _ [107, 13, 57, 108, 6, 109, 159, 160, 161, 162, 163, 164, 165, 166] (by decide +kernel) (by decide +kernel)
set_option maxRecDepth 20000 in
theorem gX6_forget_X0_strike : GoodIn wsX6_forget (wsV RX6 106 RX0 yX0_strike wsX0_strike) := goodIn_app (goodIn_of _ (by decide +kernel)) ggX6_forget_X0_strike
set_option maxRecDepth 20000 in
theorem ggX6_forget_X0_findRanks : GoodIn wsX6_forget wsX0_findRanks := goodIn_r _ [113, 63, 64, 65, 66, 67, 114, 9, 10, 11, 12, 13, 14, 6, 15, 115, 116, 117, 118, 119, 120, 121, 122, 57, 123, 124, 125, 126, 58, 127, 128, 129, 130, 60, 131, 132, 133, 134, 61, 135, 136, 137, 138, 139, 140, 89, 141, 142, 143, 144, 145, 146, 147, 108, 109, 159, 160, 161, 162, 163, 164, 165, 166] (by decide +kernel) (by decide +kernel)
set_option maxRecDepth 20000 in
theorem gX6_forget_X0_findRanks : GoodIn wsX6_forget (wsV RX6 81 RX0 yX0_findRanks wsX0_findRanks) := goodIn_app (goodIn_of _ (by decide +kernel)) ggX6_forget_X0_findRanks
theorem dX6_forget_0 : decode cX6_forget 0 = .ok (.iload_n 1, 1) := by decide +kernel
theorem dX6_forget_1 : decode cX6_forget 1 = .ok (.invokestatic 96, 3) := by decide +kernel
theorem dX6_forget_4 : decode cX6_forget 4 = .ok (.ifCond .ne 5, 3) := by decide +kernel
theorem dX6_forget_7 : decode cX6_forget 7 = .ok (.iconst (-1), 1) := by decide +kernel
theorem dX6_forget_8 : decode cX6_forget 8 = .ok (.ireturn, 1) := by decide +kernel
theorem dX6_forget_9 : decode cX6_forget 9 = .ok (.aload_n 0, 1) := by decide +kernel
theorem dX6_forget_10 : decode cX6_forget 10 = .ok (.getfield 10, 3) := by decide +kernel
theorem dX6_forget_13 : decode cX6_forget 13 = .ok (.iload_n 1, 1) := by decide +kernel
theorem dX6_forget_14 : decode cX6_forget 14 = .ok (.invokevirtual 100, 3) := by decide +kernel
theorem dX6_forget_17 : decode cX6_forget 17 = .ok (.ifCond .ne 6, 3) := by decide +kernel
theorem dX6_forget_20 : decode cX6_forget 20 = .ok (.bipush (-2), 2) := by decide +kernel
theorem dX6_forget_22 : decode cX6_forget 22 = .ok (.ireturn, 1) := by decide +kernel
theorem dX6_forget_23 : decode cX6_forget 23 = .ok (.aload_n 0, 1) := by decide +kernel
theorem dX6_forget_24 : decode cX6_forget 24 = .ok (.getfield 36, 3) := by decide +kernel
theorem dX6_forget_27 : decode cX6_forget 27 = .ok (.aload_n 0, 1) := by decide +kernel
theorem dX6_forget_28 : decode cX6_forget 28 = .ok (.getfield 10, 3) := by decide +kernel
theorem dX6_forget_31 : decode cX6_forget 31 = .ok (.aload_n 0, 1) := by decide +kernel
theorem dX6_forget_32 : decode cX6_forget 32 = .ok (.getfield 22, 3) := by decide +kernel
theorem dX6_forget_35 : decode cX6_forget 35 = .ok (.invokevirtual 85, 3) := by decide +kernel
theorem dX6_forget_38 : decode cX6_forget 38 = .ok (.aload_n 0, 1) := by decide +kernel
theorem dX6_forget_39 : decode cX6_forget 39 = .ok (.getfield 10, 3) := by decide +kernel
theorem dX6_forget_42 : decode cX6_forget 42 = .ok (.iload_n 1, 1) := by decide +kernel
theorem dX6_forget_43 : decode cX6_forget 43 = .ok (.invokevirtual 103, 3) := by decide +kernel
theorem dX6_forget_46 : decode cX6_forget 46 = .ok (.istore_n 2, 1) := by decide +kernel
theorem dX6_forget_47 : decode cX6_forget 47 = .ok (.aload_n 0, 1) := by decide +kernel
theorem dX6_forget_48 : decode cX6_forget 48 = .ok (.getfield 10, 3) := by decide +kernel
theorem dX6_forget_51 : decode cX6_forget 51 = .ok (.iload_n 1, 1) := by decide +kernel
theorem dX6_forget_52 : decode cX6_forget 52 = .ok (.invokevirtual 106, 3) := by decide +kernel
theorem dX6_forget_55 : decode cX6_forget 55 = .ok (.aload_n 0, 1) := by decide +kernel
theorem dX6_forget_56 : decode cX6_forget 56 = .ok (.getfield 10, 3) := by decide +kernel
theorem dX6_forget_59 : decode cX6_forget 59 = .ok (.invokevirtual 81, 3) := by decide +kernel
theorem dX6_forget_62 : decode cX6_forget 62 = .ok (.pop, 1) := by decide +kernel
theorem dX6_forget_63 : decode cX6_forget 63 = .ok (.iload_n 2, 1) := by decide +kernel
theorem dX6_forget_64 : decode cX6_forget 64 = .ok (.ireturn, 1) := by decide +kernel
set_option maxRecDepth 20000 in
theorem ggX6_allow_X6_isThing : GoodIn wsX6_allow wsX6_isThing := goodIn_r _ [8] (by decide +kernel) (by decide +kernel)
set_option maxRecDepth 20000 in
theorem gX6_allow_X6_isThing : GoodIn wsX6_allow (va_wsS RX6 96 yX6_isThing wsX6_isThing) := goodIn_app (goodIn_of _ (by decide +kernel)) ggX6_allow_X6_isThing
set_option maxRecDepth 20000 in
theorem ggX6_allow_X0_hasSubstitute : GoodIn wsX6_allow wsX0_hasSubstitute := goodIn_r _ [13, 14, 15, 16, 12, 17, 18, 19, 7, 20, 21, 22, 23, 24, 25, 161, 162, 163, 164, 165, 166, 167, 168] (by decide +kernel) (by decide +kernel)
set_option maxRecDepth 20000 in
theorem gX6_allow_X0_hasSubstitute : GoodIn wsX6_allow (wsV RX6 110 RX0 yX0_hasSubstitute wsX0_hasSubstitute) := goodIn_app (goodIn_of _ (by decide +kernel)) ggX6_allow_X0_hasSubstitute
set_option maxRecDepth 20000 in
theorem ggX6_allow_X0_substitutesOf : GoodIn wsX6_allow wsX0_substitutesOf := goodIn_r _ [17, 18, 19, 7, 20, 161, 162, 163, 164, 165, 166, 167, 168] (by decide +kernel) (by decide +kernel)
set_option maxRecDepth 20000 in
theorem gX6_allow_X0_substitutesOf : GoodIn wsX6_allow (wsV RX6 114 RX0 yX0_substitutesOf wsX0_substitutesOf) := goodIn_app (goodIn_of _ (by decide +kernel)) ggX6_allow_X0_substitutesOf
set_option maxRecDepth 20000 in
theorem ggX6_allow_X0_copyFrom : GoodIn wsX6_allow wsX0_copyFrom := goodIn_r _ [30, 31, 32, 33, 34, 18, 25, 35, 36, 37, 7, 38, 39, 40, 41, 42, 43, 44, 45, 46, 161, 162, 163, 164, 165, 166, 167, 168] (by decide +kernel) (by decide +kernel)
set_option maxRecDepth 20000 in
theorem gX6_allow_X0_copyFrom : GoodIn wsX6_allow (wsV RX6 73 RX0 yX0_copyFrom wsX0_copyFrom) := goodIn_app (goodIn_of _ (by decide +kernel)) ggX6_allow_X0_copyFrom
set_option maxRecDepth 20000 in
theorem ggX6_allow_X0_addSubstitute : GoodIn wsX6_allow wsX0_addSubstitute := goodIn_r _ [50, 25, 18, 14, 15, 16, 12, 17, 19, 7, 20, 51, 52, 161, 162, 163, 164, 165, 166, 167, 168] (by decide +kernel) (by decide +kernel)
set_option maxRecDepth 20000 in
theorem gX6_allow_X0_addSubstitute : GoodIn wsX6_allow (wsV RX6 117 RX0 yX0_addSubstitute wsX0_addSubstitute) := goodIn_app (goodIn_of _ (by decide +kernel)) ggX6_allow_X0_addSubstitute
set_option maxRecDepth 20000 in
theorem ggX6_allow_X0_findRanks : GoodIn wsX6_allow wsX0_findRanks := goodIn_r _ [56, 36, 57, 58, 59, 60, 61, 62, 63, 12, 64, 31, 19, 7, 20, 65, 66, 67, 68, 69, 70, 71, 72, 32, 73, 74, 75, 76, 33, 14, 15, 16, 17, 18, 21, 22, 23, 24, 25, 77, 78, 79, 80, 81, 82, 41, 83, 84, 85, 86, 87, 88, 89, 51, 52, 161, 162, 163, 164, 165, 166, 167, 168] (by decide +kernel) (by decide +kernel)
set_option maxRecDepth 20000 in
theorem gX6_allow_X0_findRanks : GoodIn wsX6_allow (wsV RX6 81 RX0 yX0_findRanks wsX0_findRanks) := goodIn_app (goodIn_of _ (by decide +kernel)) ggX6_allow_X0_findRanks
set_option maxRecDepth 20000 in
theorem ggX6_allow_X1_remember : GoodIn wsX6_allow wsX1_remember := goodIn_r _ [94, 95, 96, 97, 98, 99, 100, 93, 101, 102, 103, 104, 105, 106, 7, 107, 108, 109, 110, 111, 112, 113, 114, 115, 116, 117, 118, 119, 120, 12, 121, 122, 123, 124, 125, 126, 127, 128, 129, 130, 31, 32, 33, 34, 18, 25, 35, 36, 57, 58, 59, 60, 131, 132, 133, 134, 135, 136, 137, 138, 139, 140, 141, 142, 143, 144, 28, 29, 30, 37, 38, 39, 40, 41, 42, 43, 44, 45, 46, 145, 146, 147, 148, 149, 169, 170, 171, 172, 173, 161, 162, 163, 164, 165, 166, 167, 168, 174, 175, 176, 177, 178, 179, 180] (by decide +kernel) (by decide +kernel)
set_option maxRecDepth 20000 in
theorem gX6_allow_X1_remember : GoodIn wsX6_allow (wsV RX6 85 RX1 yX1_remember wsX1_remember) := goodIn_app (goodIn_of _ (by decide +kernel)) ggX6_allow_X1_remember
theorem dX6_allow_0 : decode cX6_allow 0 = .ok (.iload_n 1, 1) := by decide +kernel
theorem dX6_allow_1 : decode cX6_allow 1 = .ok (.invokestatic 96, 3) := by decide +kernel
theorem dX6_allow_4 : decode cX6_allow 4 = .ok (.ifCond .eq 15, 3) := by decide +kernel
theorem dX6_allow_7 : decode cX6_allow 7 = .ok (.iload_n 2, 1) := by decide +kernel
theorem dX6_allow_8 : decode cX6_allow 8 = .ok (.invokestatic 96, 3) := by decide +kernel
theorem dX6_allow_11 : decode cX6_allow 11 = .ok (.ifCond .eq 8, 3) := by decide +kernel
theorem dX6_allow_14 : decode cX6_allow 14 = .ok (.iload_n 1, 1) := by decide +kernel
theorem dX6_allow_15 : decode cX6_allow 15 = .ok (.iload_n 2, 1) := by decide +kernel
theorem dX6_allow_16 : decode cX6_allow 16 = .ok (.if_icmp .ne 5, 3) := by decide +kernel
theorem dX6_allow_19 : decode cX6_allow 19 = .ok (.iconst (-1), 1) := by decide +kernel
theorem dX6_allow_20 : decode cX6_allow 20 = .ok (.ireturn, 1) := by decide +kernel
theorem dX6_allow_21 : decode cX6_allow 21 = .ok (.aload_n 0, 1) := by decide +kernel
theorem dX6_allow_22 : decode cX6_allow 22 = .ok (.getfield 10, 3) := by decide +kernel
theorem dX6_allow_25 : decode cX6_allow 25 = .ok (.iload_n 1, 1) := by decide +kernel
theorem dX6_allow_26 : decode cX6_allow 26 = .ok (.iload_n 2, 1) := by decide +kernel
theorem dX6_allow_27 : decode cX6_allow 27 = .ok (.invokevirtual 110, 3) := by decide +kernel
theorem dX6_allow_30 : decode cX6_allow 30 = .ok (.ifCond .eq 6, 3) := by decide +kernel
theorem dX6_allow_33 : decode cX6_allow 33 = .ok (.bipush (-2), 2) := by decide +kernel
theorem dX6_allow_35 : decode cX6_allow 35 = .ok (.ireturn, 1) := by decide +kernel
theorem dX6_allow_36 : decode cX6_allow 36 = .ok (.aload_n 0, 1) := by decide +kernel
theorem dX6_allow_37 : decode cX6_allow 37 = .ok (.getfield 10, 3) := by decide +kernel
theorem dX6_allow_40 : decode cX6_allow 40 = .ok (.iload_n 1, 1) := by decide +kernel
theorem dX6_allow_41 : decode cX6_allow 41 = .ok (.invokevirtual 114, 3) := by decide +kernel
theorem dX6_allow_44 : decode cX6_allow 44 = .ok (.iconst 3, 1) := by decide +kernel
theorem dX6_allow_45 : decode cX6_allow 45 = .ok (.if_icmp .lt 6, 3) := by decide +kernel
theorem dX6_allow_48 : decode cX6_allow 48 = .ok (.bipush (-3), 2) := by decide +kernel
theorem dX6_allow_50 : decode cX6_allow 50 = .ok (.ireturn, 1) := by decide +kernel
theorem dX6_allow_51 : decode cX6_allow 51 = .ok (.aload_n 0, 1) := by decide +kernel
theorem dX6_allow_52 : decode cX6_allow 52 = .ok (.getfield 16, 3) := by decide +kernel
theorem dX6_allow_55 : decode cX6_allow 55 = .ok (.aload_n 0, 1) := by decide +kernel
theorem dX6_allow_56 : decode cX6_allow 56 = .ok (.getfield 10, 3) := by decide +kernel
theorem dX6_allow_59 : decode cX6_allow 59 = .ok (.invokevirtual 73, 3) := by decide +kernel
theorem dX6_allow_62 : decode cX6_allow 62 = .ok (.aload_n 0, 1) := by decide +kernel
theorem dX6_allow_63 : decode cX6_allow 63 = .ok (.getfield 16, 3) := by decide +kernel
theorem dX6_allow_66 : decode cX6_allow 66 = .ok (.iload_n 1, 1) := by decide +kernel
theorem dX6_allow_67 : decode cX6_allow 67 = .ok (.iload_n 2, 1) := by decide +kernel
theorem dX6_allow_68 : decode cX6_allow 68 = .ok (.invokevirtual 117, 3) := by decide +kernel
theorem dX6_allow_71 : decode cX6_allow 71 = .ok (.aload_n 0, 1) := by decide +kernel
theorem dX6_allow_72 : decode cX6_allow 72 = .ok (.getfield 16, 3) := by decide +kernel
theorem dX6_allow_75 : decode cX6_allow 75 = .ok (.invokevirtual 81, 3) := by decide +kernel
theorem dX6_allow_78 : decode cX6_allow 78 = .ok (.ifCond .ne 6, 3) := by decide +kernel
theorem dX6_allow_81 : decode cX6_allow 81 = .ok (.bipush (-2), 2) := by decide +kernel
theorem dX6_allow_83 : decode cX6_allow 83 = .ok (.ireturn, 1) := by decide +kernel
theorem dX6_allow_84 : decode cX6_allow 84 = .ok (.aload_n 0, 1) := by decide +kernel
theorem dX6_allow_85 : decode cX6_allow 85 = .ok (.getfield 36, 3) := by decide +kernel
theorem dX6_allow_88 : decode cX6_allow 88 = .ok (.aload_n 0, 1) := by decide +kernel
theorem dX6_allow_89 : decode cX6_allow 89 = .ok (.getfield 10, 3) := by decide +kernel
theorem dX6_allow_92 : decode cX6_allow 92 = .ok (.aload_n 0, 1) := by decide +kernel
theorem dX6_allow_93 : decode cX6_allow 93 = .ok (.getfield 22, 3) := by decide +kernel
theorem dX6_allow_96 : decode cX6_allow 96 = .ok (.invokevirtual 85, 3) := by decide +kernel
theorem dX6_allow_99 : decode cX6_allow 99 = .ok (.aload_n 0, 1) := by decide +kernel
theorem dX6_allow_100 : decode cX6_allow 100 = .ok (.getfield 10, 3) := by decide +kernel
theorem dX6_allow_103 : decode cX6_allow 103 = .ok (.aload_n 0, 1) := by decide +kernel
theorem dX6_allow_104 : decode cX6_allow 104 = .ok (.getfield 16, 3) := by decide +kernel
theorem dX6_allow_107 : decode cX6_allow 107 = .ok (.invokevirtual 73, 3) := by decide +kernel
theorem dX6_allow_110 : decode cX6_allow 110 = .ok (.aload_n 0, 1) := by decide +kernel
theorem dX6_allow_111 : decode cX6_allow 111 = .ok (.getfield 10, 3) := by decide +kernel
theorem dX6_allow_114 : decode cX6_allow 114 = .ok (.iload_n 1, 1) := by decide +kernel
theorem dX6_allow_115 : decode cX6_allow 115 = .ok (.invokevirtual 114, 3) := by decide +kernel
theorem dX6_allow_118 : decode cX6_allow 118 = .ok (.ireturn, 1) := by decide +kernel
set_option maxRecDepth 20000 in
theorem ggX6_forbid_X6_isThing : GoodIn wsX6_forbid wsX6_isThing := goodIn_r _ [7] (by decide +kernel) (by decide +kernel)
set_option maxRecDepth 20000 in
theorem gX6_forbid_X6_isThing : GoodIn wsX6_forbid (va_wsS RX6 96 yX6_isThing wsX6_isThing) := goodIn_app (goodIn_of _ (by decide +kernel)) ggX6_forbid_X6_isThing
set_option maxRecDepth 20000 in
theorem ggX6_forbid_X0_substitutesOf : GoodIn wsX6_forbid wsX0_substitutesOf := goodIn_r _ [12, 13, 14, 6, 15, 156, 157, 158, 159, 160, 161, 162, 163] (by decide +kernel) (by decide +kernel)
set_option maxRecDepth 20000 in
theorem gX6_forbid_X0_substitutesOf : GoodIn wsX6_forbid (wsV RX6 114 RX0 yX0_substitutesOf wsX0_substitutesOf) := goodIn_app (goodIn_of _ (by decide +kernel)) ggX6_forbid_X0_substitutesOf
set_option maxRecDepth 20000 in
theorem ggX6_forbid_X1_remember : GoodIn wsX6_forbid wsX1_remember := goodIn_r _ [20, 21, 22, 23, 24, 25, 26, 19, 27, 28, 29, 30, 31, 32, 6, 33, 34, 35, 36, 37, 38, 39, 40, 41, 42, 43, 44, 45, 46, 11, 47, 48, 49, 50, 51, 52, 53, 54, 55, 56, 57, 58, 59, 60, 13, 61, 62, 63, 64, 65, 66, 67, 68, 69, 70, 71, 72, 73, 74, 75, 76, 77, 78, 79, 80, 81, 82, 83, 84, 85, 86, 87, 88, 89, 90, 91, 92, 93, 94, 95, 96, 97, 98, 99, 164, 165, 166, 167, 168, 156, 157, 158, 159, 160, 161, 162, 163, 169, 170, 171, 172, 173, 174, 175] (by decide +kernel) (by decide +kernel)
set_option maxRecDepth 20000 in
theorem gX6_forbid_X1_remember : GoodIn wsX6_forbid (wsV RX6 85 RX1 yX1_remember wsX1_remember) := goodIn_app (goodIn_of _ (by decide +kernel)) ggX6_forbid_X1_remember
set_option maxRecDepth 20000 in
theorem ggX6_forbid_X0_substituteAt : GoodIn wsX6_forbid wsX0_substituteAt := goodIn_r _ [103, 61, 14, 6, 15, 156, 157, 158, 159, 160, 161, 162, 163] (by decide +kernel) (by decide +kernel)
set_option maxRecDepth 20000 in
theorem gX6_forbid_X0_substituteAt : GoodIn wsX6_forbid (wsV RX6 121 RX0 yX0_substituteAt wsX0_substituteAt) := goodIn_app (goodIn_of _ (by decide +kernel)) ggX6_forbid_X0_substituteAt
set_option maxRecDepth 20000 in
theorem ggX6_forbid_X0_removeSubstitute : GoodIn wsX6_forbid wsX0_removeSubstitute := goodIn_r _ [107, 61, 13, 108, 9, 10, 11, 12, 14, 6, 15, 109, 101, 102, 103, 110, 111, 156, 157, 158, 159, 160, 161, 162, 163] (by decide +kernel) (by decide +kernel)
set_option maxRecDepth 20000 in
theorem gX6_forbid_X0_removeSubstitute : GoodIn wsX6_forbid (wsV RX6 125 RX0 yX0_removeSubstitute wsX0_removeSubstitute) := goodIn_app (goodIn_of _ (by decide +kernel)) ggX6_forbid_X0_removeSubstitute
set_option maxRecDepth 20000 in
theorem ggX6_forbid_X0_findRanks : GoodIn wsX6_forbid wsX0_findRanks := goodIn_r _ [115, 63, 64, 65, 66, 67, 116, 117, 118, 11, 119, 57, 14, 6, 15, 120, 121, 122, 123, 124, 125, 126, 127, 58, 128, 129, 130, 131, 59, 108, 9, 10, 12, 13, 109, 101, 102, 103, 61, 132, 133, 134, 135, 136, 137, 89, 138, 139, 140, 141, 142, 143, 144, 110, 111, 156, 157, 158, 159, 160, 161, 162, 163] (by decide +kernel) (by decide +kernel)
set_option maxRecDepth 20000 in
theorem gX6_forbid_X0_findRanks : GoodIn wsX6_forbid (wsV RX6 81 RX0 yX0_findRanks wsX0_findRanks) := goodIn_app (goodIn_of _ (by decide +kernel)) ggX6_forbid_X0_findRanks
theorem dX6_forbid_0 : decode cX6_forbid 0 = .ok (.iload_n 1, 1) := by decide +kernel
theorem dX6_forbid_1 : decode cX6_forbid 1 = .ok (.invokestatic 96, 3) := by decide +kernel
theorem dX6_forbid_4 : decode cX6_forbid 4 = .ok (.ifCond .eq 19, 3) := by decide +kernel
theorem dX6_forbid_7 : decode cX6_forbid 7 = .ok (.iload_n 2, 1) := by decide +kernel
theorem dX6_forbid_8 : decode cX6_forbid 8 = .ok (.ifCond .lt 15, 3) := by decide +kernel
theorem dX6_forbid_11 : decode cX6_forbid 11 = .ok (.iload_n 2, 1) := by decide +kernel
theorem dX6_forbid_12 : decode cX6_forbid 12 = .ok (.aload_n 0, 1) := by decide +kernel
theorem dX6_forbid_13 : decode cX6_forbid 13 = .ok (.getfield 10, 3) := by decide +kernel
theorem dX6_forbid_16 : decode cX6_forbid 16 = .ok (.iload_n 1, 1) := by decide +kernel
theorem dX6_forbid_17 : decode cX6_forbid 17 = .ok (.invokevirtual 114, 3) := by decide +kernel
theorem dX6_forbid_20 : decode cX6_forbid 20 = .ok (.if_icmp .lt 5, 3) := by decide +kernel
theorem dX6_forbid_23 : decode cX6_forbid 23 = .ok (.iconst (-1), 1) := by decide +kernel
theorem dX6_forbid_24 : decode cX6_forbid 24 = .ok (.ireturn, 1) := by decide +kernel
theorem dX6_forbid_25 : decode cX6_forbid 25 = .ok (.aload_n 0, 1) := by decide +kernel
theorem dX6_forbid_26 : decode cX6_forbid 26 = .ok (.getfield 36, 3) := by decide +kernel
theorem dX6_forbid_29 : decode cX6_forbid 29 = .ok (.aload_n 0, 1) := by decide +kernel
theorem dX6_forbid_30 : decode cX6_forbid 30 = .ok (.getfield 10, 3) := by decide +kernel
theorem dX6_forbid_33 : decode cX6_forbid 33 = .ok (.aload_n 0, 1) := by decide +kernel
theorem dX6_forbid_34 : decode cX6_forbid 34 = .ok (.getfield 22, 3) := by decide +kernel
theorem dX6_forbid_37 : decode cX6_forbid 37 = .ok (.invokevirtual 85, 3) := by decide +kernel
theorem dX6_forbid_40 : decode cX6_forbid 40 = .ok (.aload_n 0, 1) := by decide +kernel
theorem dX6_forbid_41 : decode cX6_forbid 41 = .ok (.getfield 10, 3) := by decide +kernel
theorem dX6_forbid_44 : decode cX6_forbid 44 = .ok (.iload_n 1, 1) := by decide +kernel
theorem dX6_forbid_45 : decode cX6_forbid 45 = .ok (.iload_n 2, 1) := by decide +kernel
theorem dX6_forbid_46 : decode cX6_forbid 46 = .ok (.invokevirtual 121, 3) := by decide +kernel
theorem dX6_forbid_49 : decode cX6_forbid 49 = .ok (.istore_n 3, 1) := by decide +kernel
theorem dX6_forbid_50 : decode cX6_forbid 50 = .ok (.aload_n 0, 1) := by decide +kernel
theorem dX6_forbid_51 : decode cX6_forbid 51 = .ok (.getfield 10, 3) := by decide +kernel
theorem dX6_forbid_54 : decode cX6_forbid 54 = .ok (.iload_n 1, 1) := by decide +kernel
theorem dX6_forbid_55 : decode cX6_forbid 55 = .ok (.iload_n 2, 1) := by decide +kernel
theorem dX6_forbid_56 : decode cX6_forbid 56 = .ok (.invokevirtual 125, 3) := by decide +kernel
theorem dX6_forbid_59 : decode cX6_forbid 59 = .ok (.aload_n 0, 1) := by decide +kernel
theorem dX6_forbid_60 : decode cX6_forbid 60 = .ok (.getfield 10, 3) := by decide +kernel
theorem dX6_forbid_63 : decode cX6_forbid 63 = .ok (.invokevirtual 81, 3) := by decide +kernel
theorem dX6_forbid_66 : decode cX6_forbid 66 = .ok (.pop, 1) := by decide +kernel
theorem dX6_forbid_67 : decode cX6_forbid 67 = .ok (.iload_n 3, 1) := by decide +kernel
theorem dX6_forbid_68 : decode cX6_forbid 68 = .ok (.ireturn, 1) := by decide +kernel
set_option maxRecDepth 20000 in
theorem ggX6_vessel_X6_isThing : GoodIn wsX6_vessel wsX6_isThing := goodIn_r _ [7] (by decide +kernel) (by decide +kernel)
set_option maxRecDepth 20000 in
theorem gX6_vessel_X6_isThing : GoodIn wsX6_vessel (va_wsS RX6 96 yX6_isThing wsX6_isThing) := goodIn_app (goodIn_of _ (by decide +kernel)) ggX6_vessel_X6_isThing
set_option maxRecDepth 20000 in
theorem ggX6_vessel_X0_vesselOf : GoodIn wsX6_vessel wsX0_vesselOf := goodIn_r _ [12, 13, 14, 6, 15, 122, 123, 124, 125, 126, 127, 128, 129] (by decide +kernel) (by decide +kernel)
set_option maxRecDepth 20000 in
theorem gX6_vessel_X0_vesselOf : GoodIn wsX6_vessel (wsV RX6 128 RX0 yX0_vesselOf wsX0_vesselOf) := goodIn_app (goodIn_of _ (by decide +kernel)) ggX6_vessel_X0_vesselOf
set_option maxRecDepth 20000 in
theorem ggX6_vessel_X0_isVessel : GoodIn wsX6_vessel wsX0_isVessel := goodIn_r _ [19, 20, 9, 10, 11, 12, 13, 14, 6, 15, 122, 123, 124, 125, 126, 127, 128, 129] (by decide +kernel) (by decide +kernel)
set_option maxRecDepth 20000 in
theorem gX6_vessel_X0_isVessel : GoodIn wsX6_vessel (wsV RX6 131 RX0 yX0_isVessel wsX0_isVessel) := goodIn_app (goodIn_of _ (by decide +kernel)) ggX6_vessel_X0_isVessel
set_option maxRecDepth 20000 in
theorem ggX6_vessel_X1_remember : GoodIn wsX6_vessel wsX1_remember := goodIn_r _ [25, 26, 27, 28, 29, 30, 31, 24, 32, 33, 34, 35, 36, 37, 6, 38, 39, 40, 41, 42, 43, 44, 45, 46, 47, 48, 49, 50, 51, 11, 52, 53, 54, 55, 56, 57, 58, 59, 60, 61, 62, 63, 64, 65, 66, 67, 13, 68, 69, 70, 71, 72, 73, 74, 75, 76, 77, 78, 79, 80, 81, 82, 83, 84, 85, 86, 87, 88, 89, 90, 91, 92, 93, 94, 95, 96, 97, 98, 99, 100, 101, 102, 103, 104, 130, 131, 132, 133, 134, 122, 123, 124, 125, 126, 127, 128, 129, 135, 136, 137, 138, 139, 140, 141] (by decide +kernel) (by decide +kernel)
set_option maxRecDepth 20000 in
theorem gX6_vessel_X1_remember : GoodIn wsX6_vessel (wsV RX6 85 RX1 yX1_remember wsX1_remember) := goodIn_app (goodIn_of _ (by decide +kernel)) ggX6_vessel_X1_remember
set_option maxRecDepth 20000 in
theorem ggX6_vessel_X0_setVessel : GoodIn wsX6_vessel wsX0_setVessel := goodIn_r _ [108, 13, 109, 6, 110, 122, 123, 124, 125, 126, 127, 128, 129] (by decide +kernel) (by decide +kernel)
set_option maxRecDepth 20000 in
theorem gX6_vessel_X0_setVessel : GoodIn wsX6_vessel (wsV RX6 134 RX0 yX0_setVessel wsX0_setVessel) := goodIn_app (goodIn_of _ (by decide +kernel)) ggX6_vessel_X0_setVessel
theorem dX6_vessel_0 : decode cX6_vessel 0 = .ok (.iload_n 2, 1) := by decide +kernel
theorem dX6_vessel_1 : decode cX6_vessel 1 = .ok (.bipush (-9), 2) := by decide +kernel
theorem dX6_vessel_3 : decode cX6_vessel 3 = .ok (.if_icmp .ne 7, 3) := by decide +kernel
theorem dX6_vessel_6 : decode cX6_vessel 6 = .ok (.iconst 1, 1) := by decide +kernel
theorem dX6_vessel_7 : decode cX6_vessel 7 = .ok (.goto 4, 3) := by decide +kernel
theorem dX6_vessel_10 : decode cX6_vessel 10 = .ok (.iconst 0, 1) := by decide +kernel
theorem dX6_vessel_11 : decode cX6_vessel 11 = .ok (.istore_n 3, 1) := by decide +kernel
theorem dX6_vessel_12 : decode cX6_vessel 12 = .ok (.iload_n 1, 1) := by decide +kernel
theorem dX6_vessel_13 : decode cX6_vessel 13 = .ok (.invokestatic 96, 3) := by decide +kernel
theorem dX6_vessel_16 : decode cX6_vessel 16 = .ok (.ifCond .eq 19, 3) := by decide +kernel
theorem dX6_vessel_19 : decode cX6_vessel 19 = .ok (.iload_n 3, 1) := by decide +kernel
theorem dX6_vessel_20 : decode cX6_vessel 20 = .ok (.ifCond .ne 10, 3) := by decide +kernel
theorem dX6_vessel_23 : decode cX6_vessel 23 = .ok (.iload_n 2, 1) := by decide +kernel
theorem dX6_vessel_24 : decode cX6_vessel 24 = .ok (.invokestatic 96, 3) := by decide +kernel
theorem dX6_vessel_27 : decode cX6_vessel 27 = .ok (.ifCond .eq 8, 3) := by decide +kernel
theorem dX6_vessel_30 : decode cX6_vessel 30 = .ok (.iload_n 1, 1) := by decide +kernel
theorem dX6_vessel_31 : decode cX6_vessel 31 = .ok (.iload_n 2, 1) := by decide +kernel
theorem dX6_vessel_32 : decode cX6_vessel 32 = .ok (.if_icmp .ne 5, 3) := by decide +kernel
theorem dX6_vessel_35 : decode cX6_vessel 35 = .ok (.iconst (-1), 1) := by decide +kernel
theorem dX6_vessel_36 : decode cX6_vessel 36 = .ok (.ireturn, 1) := by decide +kernel
theorem dX6_vessel_37 : decode cX6_vessel 37 = .ok (.iload_n 3, 1) := by decide +kernel
theorem dX6_vessel_38 : decode cX6_vessel 38 = .ok (.ifCond .ne 30, 3) := by decide +kernel
theorem dX6_vessel_41 : decode cX6_vessel 41 = .ok (.aload_n 0, 1) := by decide +kernel
theorem dX6_vessel_42 : decode cX6_vessel 42 = .ok (.getfield 10, 3) := by decide +kernel
theorem dX6_vessel_45 : decode cX6_vessel 45 = .ok (.iload_n 2, 1) := by decide +kernel
theorem dX6_vessel_46 : decode cX6_vessel 46 = .ok (.invokevirtual 128, 3) := by decide +kernel
theorem dX6_vessel_49 : decode cX6_vessel 49 = .ok (.bipush (-9), 2) := by decide +kernel
theorem dX6_vessel_51 : decode cX6_vessel 51 = .ok (.if_icmp .ne 14, 3) := by decide +kernel
theorem dX6_vessel_54 : decode cX6_vessel 54 = .ok (.aload_n 0, 1) := by decide +kernel
theorem dX6_vessel_55 : decode cX6_vessel 55 = .ok (.getfield 10, 3) := by decide +kernel
theorem dX6_vessel_58 : decode cX6_vessel 58 = .ok (.iload_n 1, 1) := by decide +kernel
theorem dX6_vessel_59 : decode cX6_vessel 59 = .ok (.invokevirtual 131, 3) := by decide +kernel
theorem dX6_vessel_62 : decode cX6_vessel 62 = .ok (.ifCond .eq 6, 3) := by decide +kernel
theorem dX6_vessel_65 : decode cX6_vessel 65 = .ok (.bipush (-2), 2) := by decide +kernel
theorem dX6_vessel_67 : decode cX6_vessel 67 = .ok (.ireturn, 1) := by decide +kernel
theorem dX6_vessel_68 : decode cX6_vessel 68 = .ok (.aload_n 0, 1) := by decide +kernel
theorem dX6_vessel_69 : decode cX6_vessel 69 = .ok (.getfield 36, 3) := by decide +kernel
theorem dX6_vessel_72 : decode cX6_vessel 72 = .ok (.aload_n 0, 1) := by decide +kernel
theorem dX6_vessel_73 : decode cX6_vessel 73 = .ok (.getfield 10, 3) := by decide +kernel
theorem dX6_vessel_76 : decode cX6_vessel 76 = .ok (.aload_n 0, 1) := by decide +kernel
theorem dX6_vessel_77 : decode cX6_vessel 77 = .ok (.getfield 22, 3) := by decide +kernel
theorem dX6_vessel_80 : decode cX6_vessel 80 = .ok (.invokevirtual 85, 3) := by decide +kernel
theorem dX6_vessel_83 : decode cX6_vessel 83 = .ok (.aload_n 0, 1) := by decide +kernel
theorem dX6_vessel_84 : decode cX6_vessel 84 = .ok (.getfield 10, 3) := by decide +kernel
theorem dX6_vessel_87 : decode cX6_vessel 87 = .ok (.iload_n 1, 1) := by decide +kernel
theorem dX6_vessel_88 : decode cX6_vessel 88 = .ok (.invokevirtual 128, 3) := by decide +kernel
theorem dX6_vessel_91 : decode cX6_vessel 91 = .ok (.istore 4, 2) := by decide +kernel
theorem dX6_vessel_93 : decode cX6_vessel 93 = .ok (.aload_n 0, 1) := by decide +kernel
theorem dX6_vessel_94 : decode cX6_vessel 94 = .ok (.getfield 10, 3) := by decide +kernel
theorem dX6_vessel_97 : decode cX6_vessel 97 = .ok (.iload_n 1, 1) := by decide +kernel
theorem dX6_vessel_98 : decode cX6_vessel 98 = .ok (.iload_n 2, 1) := by decide +kernel
theorem dX6_vessel_99 : decode cX6_vessel 99 = .ok (.invokevirtual 134, 3) := by decide +kernel
theorem dX6_vessel_102 : decode cX6_vessel 102 = .ok (.iload 4, 2) := by decide +kernel
theorem dX6_vessel_104 : decode cX6_vessel 104 = .ok (.ireturn, 1) := by decide +kernel
set_option maxRecDepth 20000 in
theorem ggX6_bring_X6_isThing : GoodIn wsX6_bring wsX6_isThing := goodIn_r _ [12] (by decide +kernel) (by decide +kernel)
set_option maxRecDepth 20000 in
theorem gX6_bring_X6_isThing : GoodIn wsX6_bring (va_wsS RX6 96 yX6_isThing wsX6_isThing) := goodIn_app (goodIn_of _ (by decide +kernel)) ggX6_bring_X6_isThing
set_option maxRecDepth 20000 in
theorem ggX6_bring_X6_at : GoodIn wsX6_bring wsX6_at := goodIn_r _ [15] (by decide +kernel) (by decide +kernel)
set_option maxRecDepth 20000 in
theorem gX6_bring_X6_at : GoodIn wsX6_bring (va_wsS RX6 140 yX6_at wsX6_at) := goodIn_app (goodIn_of _ (by decide +kernel)) ggX6_bring_X6_at
set_option maxRecDepth 20000 in
theorem ggX6_bring_X1_remember : GoodIn wsX6_bring wsX1_remember := goodIn_r _ [20, 21, 22, 23, 24, 25, 26, 19, 27, 28, 29, 30, 31, 32, 11, 33, 34, 35, 36, 37, 38, 39, 40, 41, 42, 43, 44, 45, 46, 47, 48, 49, 50, 51, 52, 53, 54, 55, 56, 57, 58, 59, 60, 61, 62, 63, 64, 65, 66, 67, 68, 69, 70, 71, 72, 73, 74, 75, 76, 77, 78, 79, 80, 81, 82, 83, 84, 85, 86, 87, 88, 89, 90, 4, 91, 92, 93, 94, 95, 96, 97, 98, 99, 100, 122, 123, 124, 125, 126, 127, 128, 129, 130, 131, 132, 133, 134, 115, 116, 117, 118, 119, 120, 121] (by decide +kernel) (by decide +kernel)
set_option maxRecDepth 20000 in
theorem gX6_bring_X1_remember : GoodIn wsX6_bring (wsV RX6 85 RX1 yX1_remember wsX1_remember) := goodIn_app (goodIn_of _ (by decide +kernel)) ggX6_bring_X1_remember
set_option maxRecDepth 20000 in
theorem ggX6_bring_X6_add : GoodIn wsX6_bring wsX6_add := goodIn_r _ [103] (by decide +kernel) (by decide +kernel)
set_option maxRecDepth 20000 in
theorem gX6_bring_X6_add : GoodIn wsX6_bring (va_wsS RX6 150 yX6_add wsX6_add) := goodIn_app (goodIn_of _ (by decide +kernel)) ggX6_bring_X6_add
theorem dX6_bring_0 : decode cX6_bring 0 = .ok (.iload_n 1, 1) := by decide +kernel
theorem dX6_bring_1 : decode cX6_bring 1 = .ok (.invokestatic 96, 3) := by decide +kernel
theorem dX6_bring_4 : decode cX6_bring 4 = .ok (.ifCond .eq 17, 3) := by decide +kernel
theorem dX6_bring_7 : decode cX6_bring 7 = .ok (.iload_n 2, 1) := by decide +kernel
theorem dX6_bring_8 : decode cX6_bring 8 = .ok (.sipush (-9999), 3) := by decide +kernel
theorem dX6_bring_11 : decode cX6_bring 11 = .ok (.if_icmp .lt 10, 3) := by decide +kernel
theorem dX6_bring_14 : decode cX6_bring 14 = .ok (.iload_n 2, 1) := by decide +kernel
theorem dX6_bring_15 : decode cX6_bring 15 = .ok (.sipush 9999, 3) := by decide +kernel
theorem dX6_bring_18 : decode cX6_bring 18 = .ok (.if_icmp .le 5, 3) := by decide +kernel
theorem dX6_bring_21 : decode cX6_bring 21 = .ok (.iconst (-1), 1) := by decide +kernel
theorem dX6_bring_22 : decode cX6_bring 22 = .ok (.ireturn, 1) := by decide +kernel
theorem dX6_bring_23 : decode cX6_bring 23 = .ok (.aload_n 0, 1) := by decide +kernel
theorem dX6_bring_24 : decode cX6_bring 24 = .ok (.getfield 22, 3) := by decide +kernel
theorem dX6_bring_27 : decode cX6_bring 27 = .ok (.getfield 137, 3) := by decide +kernel
theorem dX6_bring_30 : decode cX6_bring 30 = .ok (.iload_n 1, 1) := by decide +kernel
theorem dX6_bring_31 : decode cX6_bring 31 = .ok (.invokestatic 140, 3) := by decide +kernel
theorem dX6_bring_34 : decode cX6_bring 34 = .ok (.istore_n 3, 1) := by decide +kernel
theorem dX6_bring_35 : decode cX6_bring 35 = .ok (.iload_n 3, 1) := by decide +kernel
theorem dX6_bring_36 : decode cX6_bring 36 = .ok (.iload_n 2, 1) := by decide +kernel
theorem dX6_bring_37 : decode cX6_bring 37 = .ok (.iadd, 1) := by decide +kernel
theorem dX6_bring_38 : decode cX6_bring 38 = .ok (.iconst 0, 1) := by decide +kernel
theorem dX6_bring_39 : decode cX6_bring 39 = .ok (.invokestatic 144, 3) := by decide +kernel
theorem dX6_bring_42 : decode cX6_bring 42 = .ok (.istore 4, 2) := by decide +kernel
theorem dX6_bring_44 : decode cX6_bring 44 = .ok (.iload 4, 2) := by decide +kernel
theorem dX6_bring_46 : decode cX6_bring 46 = .ok (.ldc 149, 2) := by decide +kernel
theorem dX6_bring_48 : decode cX6_bring 48 = .ok (.if_icmp .le 6, 3) := by decide +kernel
theorem dX6_bring_51 : decode cX6_bring 51 = .ok (.bipush (-3), 2) := by decide +kernel
theorem dX6_bring_53 : decode cX6_bring 53 = .ok (.ireturn, 1) := by decide +kernel
theorem dX6_bring_54 : decode cX6_bring 54 = .ok (.aload_n 0, 1) := by decide +kernel
theorem dX6_bring_55 : decode cX6_bring 55 = .ok (.getfield 36, 3) := by decide +kernel
theorem dX6_bring_58 : decode cX6_bring 58 = .ok (.aload_n 0, 1) := by decide +kernel
theorem dX6_bring_59 : decode cX6_bring 59 = .ok (.getfield 10, 3) := by decide +kernel
theorem dX6_bring_62 : decode cX6_bring 62 = .ok (.aload_n 0, 1) := by decide +kernel
theorem dX6_bring_63 : decode cX6_bring 63 = .ok (.getfield 22, 3) := by decide +kernel
theorem dX6_bring_66 : decode cX6_bring 66 = .ok (.invokevirtual 85, 3) := by decide +kernel
theorem dX6_bring_69 : decode cX6_bring 69 = .ok (.aload_n 0, 1) := by decide +kernel
theorem dX6_bring_70 : decode cX6_bring 70 = .ok (.getfield 22, 3) := by decide +kernel
theorem dX6_bring_73 : decode cX6_bring 73 = .ok (.getfield 137, 3) := by decide +kernel
theorem dX6_bring_76 : decode cX6_bring 76 = .ok (.iload_n 1, 1) := by decide +kernel
theorem dX6_bring_77 : decode cX6_bring 77 = .ok (.iload 4, 2) := by decide +kernel
theorem dX6_bring_79 : decode cX6_bring 79 = .ok (.iload_n 3, 1) := by decide +kernel
theorem dX6_bring_80 : decode cX6_bring 80 = .ok (.isub, 1) := by decide +kernel
theorem dX6_bring_81 : decode cX6_bring 81 = .ok (.invokestatic 150, 3) := by decide +kernel
theorem dX6_bring_84 : decode cX6_bring 84 = .ok (.aload_n 0, 1) := by decide +kernel
theorem dX6_bring_85 : decode cX6_bring 85 = .ok (.getfield 22, 3) := by decide +kernel
theorem dX6_bring_88 : decode cX6_bring 88 = .ok (.getfield 154, 3) := by decide +kernel
theorem dX6_bring_91 : decode cX6_bring 91 = .ok (.iload_n 1, 1) := by decide +kernel
theorem dX6_bring_92 : decode cX6_bring 92 = .ok (.iload 4, 2) := by decide +kernel
theorem dX6_bring_94 : decode cX6_bring 94 = .ok (.iload_n 3, 1) := by decide +kernel
theorem dX6_bring_95 : decode cX6_bring 95 = .ok (.isub, 1) := by decide +kernel
theorem dX6_bring_96 : decode cX6_bring 96 = .ok (.invokestatic 150, 3) := by decide +kernel
theorem dX6_bring_99 : decode cX6_bring 99 = .ok (.iload 4, 2) := by decide +kernel
theorem dX6_bring_101 : decode cX6_bring 101 = .ok (.ireturn, 1) := by decide +kernel
set_option maxRecDepth 20000 in
theorem ggX6_wish_X6_isThing : GoodIn wsX6_wish wsX6_isThing := goodIn_r _ [7] (by decide +kernel) (by decide +kernel)
set_option maxRecDepth 20000 in
theorem gX6_wish_X6_isThing : GoodIn wsX6_wish (va_wsS RX6 96 yX6_isThing wsX6_isThing) := goodIn_app (goodIn_of _ (by decide +kernel)) ggX6_wish_X6_isThing
set_option maxRecDepth 20000 in
theorem ggX6_wish_X6_isWished : GoodIn wsX6_wish wsX6_isWished := goodIn_r _ [10] (by decide +kernel) (by decide +kernel)
set_option maxRecDepth 20000 in
theorem gX6_wish_X6_isWished : GoodIn wsX6_wish (va_wsS RX6 157 yX6_isWished wsX6_isWished) := goodIn_app (goodIn_of _ (by decide +kernel)) ggX6_wish_X6_isWished
set_option maxRecDepth 20000 in
theorem ggX6_wish_X5_begin : GoodIn wsX6_wish wsX5_begin := goodIn_r _ [15, 16, 17, 18, 19, 20, 21, 22, 23, 24, 25, 26, 27, 28, 29, 30, 31, 32, 33, 6, 34, 35, 36, 37, 38, 39, 40, 41, 42, 201, 202, 203, 204, 205, 206, 207, 208, 209, 210, 211, 212] (by decide +kernel) (by decide +kernel)
set_option maxRecDepth 20000 in
theorem gX6_wish_X5_begin : GoodIn wsX6_wish (wsV RX6 160 RX5 yX5_begin wsX5_begin) := goodIn_app (goodIn_of _ (by decide +kernel)) ggX6_wish_X5_begin
set_option maxRecDepth 20000 in
theorem ggX6_wish_X5_fulfil : GoodIn wsX6_wish wsX5_fulfil := goodIn_r _ [46, 16, 18, 47, 6, 48, 49, 50, 51, 14, 52, 53, 54, 55, 56, 57, 58, 59, 60, 61, 62, 63, 64, 65, 66, 67, 68, 69, 70, 71, 17, 20, 72, 73, 74, 75, 76, 77, 78, 79, 19, 80, 81, 82, 83, 84, 85, 86, 87, 88, 89, 90, 91, 92, 93, 94, 95, 96, 97, 98, 99, 100, 101, 102, 103, 36, 37, 38, 104, 105, 106, 107, 108, 109, 110, 111, 112, 113, 114, 115, 116, 117, 118, 119, 120, 121, 122, 201, 202, 203, 204, 205, 206, 207, 208, 209, 210, 211, 212, 213, 214, 215, 216, 217, 218, 219, 220] (by decide +kernel) (by decide +kernel)
set_option maxRecDepth 20000 in
theorem gX6_wish_X5_fulfil : GoodIn wsX6_wish (wsV RX6 164 RX5 yX5_fulfil wsX5_fulfil) := goodIn_app (goodIn_of _ (by decide +kernel)) ggX6_wish_X5_fulfil
set_option maxRecDepth 20000 in
theorem ggX6_wish_X6_acceptWorks : GoodIn wsX6_wish wsX6_acceptWorks := goodIn_r _ [126, 127, 3, 2, 1, 128, 129, 130, 131, 132, 133, 134, 135, 136, 137, 138, 139, 140, 141, 142, 143, 144, 6, 145, 146, 147, 148, 149, 150, 151, 152, 153, 154, 155, 156, 157, 158, 56, 159, 160, 161, 24, 162, 163, 164, 165, 166, 167, 58, 84, 89, 94, 113, 118, 108, 168, 169, 170, 171, 172, 173, 174, 175, 26, 27, 28, 29, 30, 31, 176, 177, 178, 179, 180, 181, 182, 183, 33, 34, 35, 36, 37, 38, 39, 40, 41, 42, 184, 22, 23, 25, 32, 185, 186, 187, 188, 14, 189, 20, 190, 191, 192, 193, 194, 195, 196, 197, 198, 199, 200, 201, 202, 203, 204, 205, 221, 222, 223, 224, 225, 213, 214, 215, 216, 217, 218, 219, 220, 206, 207, 208, 209, 210, 211, 212] (by decide +kernel) (by decide +kernel)
set_option maxRecDepth 20000 in
theorem gX6_wish_X6_acceptWorks : GoodIn wsX6_wish (wsV RX6 168 RX6 yX6_acceptWorks wsX6_acceptWorks) := goodIn_app (goodIn_of _ (by decide +kernel)) ggX6_wish_X6_acceptWorks
theorem dX6_wish_0 : decode cX6_wish 0 = .ok (.iload_n 1, 1) := by decide +kernel
theorem dX6_wish_1 : decode cX6_wish 1 = .ok (.invokestatic 96, 3) := by decide +kernel
theorem dX6_wish_4 : decode cX6_wish 4 = .ok (.ifCond .eq 10, 3) := by decide +kernel
theorem dX6_wish_7 : decode cX6_wish 7 = .ok (.iload_n 2, 1) := by decide +kernel
theorem dX6_wish_8 : decode cX6_wish 8 = .ok (.invokestatic 157, 3) := by decide +kernel
theorem dX6_wish_11 : decode cX6_wish 11 = .ok (.ifCond .ne 5, 3) := by decide +kernel
theorem dX6_wish_14 : decode cX6_wish 14 = .ok (.iconst (-1), 1) := by decide +kernel
theorem dX6_wish_15 : decode cX6_wish 15 = .ok (.ireturn, 1) := by decide +kernel
theorem dX6_wish_16 : decode cX6_wish 16 = .ok (.aload_n 0, 1) := by decide +kernel
theorem dX6_wish_17 : decode cX6_wish 17 = .ok (.getfield 29, 3) := by decide +kernel
theorem dX6_wish_20 : decode cX6_wish 20 = .ok (.aload_n 0, 1) := by decide +kernel
theorem dX6_wish_21 : decode cX6_wish 21 = .ok (.getfield 22, 3) := by decide +kernel
theorem dX6_wish_24 : decode cX6_wish 24 = .ok (.iconst 1, 1) := by decide +kernel
theorem dX6_wish_25 : decode cX6_wish 25 = .ok (.invokevirtual 160, 3) := by decide +kernel
theorem dX6_wish_28 : decode cX6_wish 28 = .ok (.aload_n 0, 1) := by decide +kernel
theorem dX6_wish_29 : decode cX6_wish 29 = .ok (.getfield 29, 3) := by decide +kernel
theorem dX6_wish_32 : decode cX6_wish 32 = .ok (.aload_n 0, 1) := by decide +kernel
theorem dX6_wish_33 : decode cX6_wish 33 = .ok (.getfield 10, 3) := by decide +kernel
theorem dX6_wish_36 : decode cX6_wish 36 = .ok (.iload_n 1, 1) := by decide +kernel
theorem dX6_wish_37 : decode cX6_wish 37 = .ok (.iload_n 2, 1) := by decide +kernel
theorem dX6_wish_38 : decode cX6_wish 38 = .ok (.invokevirtual 164, 3) := by decide +kernel
theorem dX6_wish_41 : decode cX6_wish 41 = .ok (.ifCond .ne 6, 3) := by decide +kernel
theorem dX6_wish_44 : decode cX6_wish 44 = .ok (.bipush (-3), 2) := by decide +kernel
theorem dX6_wish_46 : decode cX6_wish 46 = .ok (.ireturn, 1) := by decide +kernel
theorem dX6_wish_47 : decode cX6_wish 47 = .ok (.aload_n 0, 1) := by decide +kernel
theorem dX6_wish_48 : decode cX6_wish 48 = .ok (.invokevirtual 168, 3) := by decide +kernel
theorem dX6_wish_51 : decode cX6_wish 51 = .ok (.ireturn, 1) := by decide +kernel
set_option maxRecDepth 20000 in
theorem ggX6_make_X6_isThing : GoodIn wsX6_make wsX6_isThing := goodIn_r _ [7] (by decide +kernel) (by decide +kernel)
set_option maxRecDepth 20000 in
theorem gX6_make_X6_isThing : GoodIn wsX6_make (va_wsS RX6 96 yX6_isThing wsX6_isThing) := goodIn_app (goodIn_of _ (by decide +kernel)) ggX6_make_X6_isThing
set_option maxRecDepth 20000 in
theorem ggX6_make_X0_isMade : GoodIn wsX6_make wsX0_isMade := goodIn_r _ [12, 13, 14, 6, 15, 199, 200, 201, 202, 203, 204, 205, 206] (by decide +kernel) (by decide +kernel)
set_option maxRecDepth 20000 in
theorem gX6_make_X0_isMade : GoodIn wsX6_make (wsV RX6 100 RX0 yX0_isMade wsX0_isMade) := goodIn_app (goodIn_of _ (by decide +kernel)) ggX6_make_X0_isMade
set_option maxRecDepth 20000 in
theorem ggX6_make_X5_begin : GoodIn wsX6_make wsX5_begin := goodIn_r _ [20, 21, 22, 23, 24, 25, 26, 27, 28, 29, 30, 31, 32, 33, 34, 35, 36, 37, 38, 6, 39, 40, 41, 42, 43, 44, 45, 46, 47, 207, 208, 209, 210, 211, 212, 213, 214, 215, 216, 217, 218] (by decide +kernel) (by decide +kernel)
set_option maxRecDepth 20000 in
theorem gX6_make_X5_begin : GoodIn wsX6_make (wsV RX6 160 RX5 yX5_begin wsX5_begin) := goodIn_app (goodIn_of _ (by decide +kernel)) ggX6_make_X5_begin
set_option maxRecDepth 20000 in
theorem ggX6_make_X5_runAll : GoodIn wsX6_make wsX5_runAll := goodIn_r _ [51, 23, 52, 53, 54, 19, 55, 24, 21, 56, 57, 58, 11, 59, 60, 14, 6, 15, 61, 62, 63, 64, 65, 66, 67, 68, 69, 70, 71, 72, 73, 74, 75, 76, 77, 13, 78, 79, 80, 81, 82, 83, 84, 85, 86, 9, 10, 12, 87, 88, 89, 90, 91, 92, 22, 25, 93, 94, 95, 96, 97, 98, 41, 42, 43, 99, 100, 101, 102, 103, 104, 105, 106, 107, 108, 109, 110, 111, 112, 113, 114, 115, 116, 117, 118, 119, 120, 207, 208, 209, 210, 211, 199, 200, 201, 202, 203, 204, 205, 206, 212, 213, 214, 215, 216, 217, 218] (by decide +kernel) (by decide +kernel)
set_option maxRecDepth 20000 in
theorem gX6_make_X5_runAll : GoodIn wsX6_make (wsV RX6 172 RX5 yX5_runAll wsX5_runAll) := goodIn_app (goodIn_of _ (by decide +kernel)) ggX6_make_X5_runAll
set_option maxRecDepth 20000 in
theorem ggX6_make_X6_acceptWorks : GoodIn wsX6_make wsX6_acceptWorks := goodIn_r _ [124, 125, 1, 3, 2, 126, 127, 128, 129, 130, 131, 132, 133, 134, 135, 136, 137, 138, 139, 140, 141, 142, 6, 143, 144, 145, 146, 147, 148, 149, 150, 151, 152, 153, 154, 155, 156, 11, 157, 158, 159, 29, 160, 161, 162, 163, 164, 165, 13, 60, 65, 70, 108, 113, 103, 166, 167, 168, 169, 170, 171, 172, 173, 31, 32, 33, 34, 35, 36, 174, 175, 176, 177, 178, 179, 180, 181, 38, 39, 40, 41, 42, 43, 44, 45, 46, 47, 182, 27, 28, 30, 37, 183, 184, 185, 186, 19, 187, 25, 188, 189, 190, 191, 192, 193, 194, 195, 196, 197, 198, 207, 208, 209, 210, 211, 219, 220, 221, 222, 223, 199, 200, 201, 202, 203, 204, 205, 206, 212, 213, 214, 215, 216, 217, 218] (by decide +kernel) (by decide +kernel)
set_option maxRecDepth 20000 in
theorem gX6_make_X6_acceptWorks : GoodIn wsX6_make (wsV RX6 168 RX6 yX6_acceptWorks wsX6_acceptWorks) := goodIn_app (goodIn_of _ (by decide +kernel)) ggX6_make_X6_acceptWorks
theorem dX6_make_0 : decode cX6_make 0 = .ok (.iload_n 1, 1) := by decide +kernel
theorem dX6_make_1 : decode cX6_make 1 = .ok (.invokestatic 96, 3) := by decide +kernel
theorem dX6_make_4 : decode cX6_make 4 = .ok (.ifCond .eq 14, 3) := by decide +kernel
theorem dX6_make_7 : decode cX6_make 7 = .ok (.iload_n 2, 1) := by decide +kernel
theorem dX6_make_8 : decode cX6_make 8 = .ok (.iconst 1, 1) := by decide +kernel
theorem dX6_make_9 : decode cX6_make 9 = .ok (.if_icmp .lt 9, 3) := by decide +kernel
theorem dX6_make_12 : decode cX6_make 12 = .ok (.iload_n 2, 1) := by decide +kernel
theorem dX6_make_13 : decode cX6_make 13 = .ok (.bipush 99, 2) := by decide +kernel
theorem dX6_make_15 : decode cX6_make 15 = .ok (.if_icmp .le 5, 3) := by decide +kernel
theorem dX6_make_18 : decode cX6_make 18 = .ok (.iconst (-1), 1) := by decide +kernel
theorem dX6_make_19 : decode cX6_make 19 = .ok (.ireturn, 1) := by decide +kernel
theorem dX6_make_20 : decode cX6_make 20 = .ok (.aload_n 0, 1) := by decide +kernel
theorem dX6_make_21 : decode cX6_make 21 = .ok (.getfield 10, 3) := by decide +kernel
theorem dX6_make_24 : decode cX6_make 24 = .ok (.iload_n 1, 1) := by decide +kernel
theorem dX6_make_25 : decode cX6_make 25 = .ok (.invokevirtual 100, 3) := by decide +kernel
theorem dX6_make_28 : decode cX6_make 28 = .ok (.ifCond .ne 6, 3) := by decide +kernel
theorem dX6_make_31 : decode cX6_make 31 = .ok (.bipush (-2), 2) := by decide +kernel
theorem dX6_make_33 : decode cX6_make 33 = .ok (.ireturn, 1) := by decide +kernel
theorem dX6_make_34 : decode cX6_make 34 = .ok (.aload_n 0, 1) := by decide +kernel
theorem dX6_make_35 : decode cX6_make 35 = .ok (.getfield 29, 3) := by decide +kernel
theorem dX6_make_38 : decode cX6_make 38 = .ok (.aload_n 0, 1) := by decide +kernel
theorem dX6_make_39 : decode cX6_make 39 = .ok (.getfield 22, 3) := by decide +kernel
theorem dX6_make_42 : decode cX6_make 42 = .ok (.iconst 1, 1) := by decide +kernel
theorem dX6_make_43 : decode cX6_make 43 = .ok (.invokevirtual 160, 3) := by decide +kernel
theorem dX6_make_46 : decode cX6_make 46 = .ok (.aload_n 0, 1) := by decide +kernel
theorem dX6_make_47 : decode cX6_make 47 = .ok (.getfield 29, 3) := by decide +kernel
theorem dX6_make_50 : decode cX6_make 50 = .ok (.aload_n 0, 1) := by decide +kernel
theorem dX6_make_51 : decode cX6_make 51 = .ok (.getfield 10, 3) := by decide +kernel
theorem dX6_make_54 : decode cX6_make 54 = .ok (.iload_n 1, 1) := by decide +kernel
theorem dX6_make_55 : decode cX6_make 55 = .ok (.iload_n 2, 1) := by decide +kernel
theorem dX6_make_56 : decode cX6_make 56 = .ok (.invokevirtual 172, 3) := by decide +kernel
theorem dX6_make_59 : decode cX6_make 59 = .ok (.ifCond .ne 6, 3) := by decide +kernel
theorem dX6_make_62 : decode cX6_make 62 = .ok (.bipush (-3), 2) := by decide +kernel
theorem dX6_make_64 : decode cX6_make 64 = .ok (.ireturn, 1) := by decide +kernel
theorem dX6_make_65 : decode cX6_make 65 = .ok (.aload_n 0, 1) := by decide +kernel
theorem dX6_make_66 : decode cX6_make 66 = .ok (.invokevirtual 168, 3) := by decide +kernel
theorem dX6_make_69 : decode cX6_make 69 = .ok (.ireturn, 1) := by decide +kernel
set_option maxRecDepth 20000 in
theorem ggX6_undo_X1_size : GoodIn wsX6_undo wsX1_size := goodIn_r _ [8, 9, 80, 81, 82] (by decide +kernel) (by decide +kernel)
set_option maxRecDepth 20000 in
theorem gX6_undo_X1_size : GoodIn wsX6_undo (wsV RX6 175 RX1 yX1_size wsX1_size) := goodIn_app (goodIn_of _ (by decide +kernel)) ggX6_undo_X1_size
set_option maxRecDepth 20000 in
theorem ggX6_undo_X1_restore : GoodIn wsX6_undo wsX1_restore := goodIn_r _ [13, 9, 14, 15, 16, 17, 7, 18, 19, 20, 21, 22, 23, 24, 25, 26, 27, 28, 29, 30, 31, 32, 33, 34, 35, 36, 37, 38, 39, 40, 41, 42, 43, 44, 45, 46, 47, 48, 49, 50, 51, 52, 53, 54, 55, 56, 57, 58, 59, 60, 61, 62, 63, 64, 65, 66, 67, 68, 80, 81, 82, 83, 84, 85, 86, 87, 88, 89, 90, 91, 92, 93, 94, 95, 96, 97, 98, 99] (by decide +kernel) (by decide +kernel)
set_option maxRecDepth 20000 in
theorem gX6_undo_X1_restore : GoodIn wsX6_undo (wsV RX6 178 RX1 yX1_restore wsX1_restore) := goodIn_app (goodIn_of _ (by decide +kernel)) ggX6_undo_X1_restore
theorem dX6_undo_0 : decode cX6_undo 0 = .ok (.aload_n 0, 1) := by decide +kernel
theorem dX6_undo_1 : decode cX6_undo 1 = .ok (.getfield 36, 3) := by decide +kernel
theorem dX6_undo_4 : decode cX6_undo 4 = .ok (.invokevirtual 175, 3) := by decide +kernel
theorem dX6_undo_7 : decode cX6_undo 7 = .ok (.iconst 1, 1) := by decide +kernel
theorem dX6_undo_8 : decode cX6_undo 8 = .ok (.if_icmp .ge 6, 3) := by decide +kernel
theorem dX6_undo_11 : decode cX6_undo 11 = .ok (.bipush (-2), 2) := by decide +kernel
theorem dX6_undo_13 : decode cX6_undo 13 = .ok (.ireturn, 1) := by decide +kernel
theorem dX6_undo_14 : decode cX6_undo 14 = .ok (.aload_n 0, 1) := by decide +kernel
theorem dX6_undo_15 : decode cX6_undo 15 = .ok (.getfield 36, 3) := by decide +kernel
theorem dX6_undo_18 : decode cX6_undo 18 = .ok (.aload_n 0, 1) := by decide +kernel
theorem dX6_undo_19 : decode cX6_undo 19 = .ok (.getfield 10, 3) := by decide +kernel
theorem dX6_undo_22 : decode cX6_undo 22 = .ok (.aload_n 0, 1) := by decide +kernel
theorem dX6_undo_23 : decode cX6_undo 23 = .ok (.getfield 22, 3) := by decide +kernel
theorem dX6_undo_26 : decode cX6_undo 26 = .ok (.invokevirtual 178, 3) := by decide +kernel
theorem dX6_undo_29 : decode cX6_undo 29 = .ok (.aload_n 0, 1) := by decide +kernel
theorem dX6_undo_30 : decode cX6_undo 30 = .ok (.getfield 36, 3) := by decide +kernel
theorem dX6_undo_33 : decode cX6_undo 33 = .ok (.invokevirtual 175, 3) := by decide +kernel
theorem dX6_undo_36 : decode cX6_undo 36 = .ok (.ireturn, 1) := by decide +kernel
set_option maxRecDepth 20000 in
theorem ggX6_write_X6_put : GoodIn wsX6_write wsX6_put := goodIn_r _ [6] (by decide +kernel) (by decide +kernel)
set_option maxRecDepth 20000 in
theorem gX6_write_X6_put : GoodIn wsX6_write (va_wsS RX6 181 yX6_put wsX6_put) := goodIn_app (goodIn_of _ (by decide +kernel)) ggX6_write_X6_put
theorem dX6_write_0 : decode cX6_write 0 = .ok (.iload_n 1, 1) := by decide +kernel
theorem dX6_write_1 : decode cX6_write 1 = .ok (.bipush 32, 2) := by decide +kernel
theorem dX6_write_3 : decode cX6_write 3 = .ok (.if_icmp .lt 9, 3) := by decide +kernel
theorem dX6_write_6 : decode cX6_write 6 = .ok (.iload_n 1, 1) := by decide +kernel
theorem dX6_write_7 : decode cX6_write 7 = .ok (.bipush 126, 2) := by decide +kernel
theorem dX6_write_9 : decode cX6_write 9 = .ok (.if_icmp .le 5, 3) := by decide +kernel
theorem dX6_write_12 : decode cX6_write 12 = .ok (.iconst (-1), 1) := by decide +kernel
theorem dX6_write_13 : decode cX6_write 13 = .ok (.ireturn, 1) := by decide +kernel
theorem dX6_write_14 : decode cX6_write 14 = .ok (.aload_n 0, 1) := by decide +kernel
theorem dX6_write_15 : decode cX6_write 15 = .ok (.getfield 57, 3) := by decide +kernel
theorem dX6_write_18 : decode cX6_write 18 = .ok (.bipush 60, 2) := by decide +kernel
theorem dX6_write_20 : decode cX6_write 20 = .ok (.if_icmp .lt 6, 3) := by decide +kernel
theorem dX6_write_23 : decode cX6_write 23 = .ok (.bipush (-3), 2) := by decide +kernel
theorem dX6_write_25 : decode cX6_write 25 = .ok (.ireturn, 1) := by decide +kernel
theorem dX6_write_26 : decode cX6_write 26 = .ok (.aload_n 0, 1) := by decide +kernel
theorem dX6_write_27 : decode cX6_write 27 = .ok (.getfield 53, 3) := by decide +kernel
theorem dX6_write_30 : decode cX6_write 30 = .ok (.aload_n 0, 1) := by decide +kernel
theorem dX6_write_31 : decode cX6_write 31 = .ok (.getfield 57, 3) := by decide +kernel
theorem dX6_write_34 : decode cX6_write 34 = .ok (.iload_n 1, 1) := by decide +kernel
theorem dX6_write_35 : decode cX6_write 35 = .ok (.invokestatic 181, 3) := by decide +kernel
theorem dX6_write_38 : decode cX6_write 38 = .ok (.aload_n 0, 1) := by decide +kernel
theorem dX6_write_39 : decode cX6_write 39 = .ok (.dup, 1) := by decide +kernel
theorem dX6_write_40 : decode cX6_write 40 = .ok (.getfield 57, 3) := by decide +kernel
theorem dX6_write_43 : decode cX6_write 43 = .ok (.iconst 1, 1) := by decide +kernel
theorem dX6_write_44 : decode cX6_write 44 = .ok (.iadd, 1) := by decide +kernel
theorem dX6_write_45 : decode cX6_write 45 = .ok (.putfield 57, 3) := by decide +kernel
theorem dX6_write_48 : decode cX6_write 48 = .ok (.aload_n 0, 1) := by decide +kernel
theorem dX6_write_49 : decode cX6_write 49 = .ok (.getfield 57, 3) := by decide +kernel
theorem dX6_write_52 : decode cX6_write 52 = .ok (.ireturn, 1) := by decide +kernel
theorem dX6_wipe_0 : decode cX6_wipe 0 = .ok (.aload_n 0, 1) := by decide +kernel
theorem dX6_wipe_1 : decode cX6_wipe 1 = .ok (.getfield 57, 3) := by decide +kernel
theorem dX6_wipe_4 : decode cX6_wipe 4 = .ok (.istore_n 1, 1) := by decide +kernel
theorem dX6_wipe_5 : decode cX6_wipe 5 = .ok (.aload_n 0, 1) := by decide +kernel
theorem dX6_wipe_6 : decode cX6_wipe 6 = .ok (.iconst 0, 1) := by decide +kernel
theorem dX6_wipe_7 : decode cX6_wipe 7 = .ok (.putfield 57, 3) := by decide +kernel
theorem dX6_wipe_10 : decode cX6_wipe 10 = .ok (.iload_n 1, 1) := by decide +kernel
theorem dX6_wipe_11 : decode cX6_wipe 11 = .ok (.ireturn, 1) := by decide +kernel
theorem dX6_fault_0 : decode cX6_fault 0 = .ok (.iload_n 1, 1) := by decide +kernel
theorem dX6_fault_1 : decode cX6_fault 1 = .ok (.ifCond .lt 8, 3) := by decide +kernel
theorem dX6_fault_4 : decode cX6_fault 4 = .ok (.iload_n 1, 1) := by decide +kernel
theorem dX6_fault_5 : decode cX6_fault 5 = .ok (.iconst 1, 1) := by decide +kernel
theorem dX6_fault_6 : decode cX6_fault 6 = .ok (.if_icmp .le 5, 3) := by decide +kernel
theorem dX6_fault_9 : decode cX6_fault 9 = .ok (.iconst (-1), 1) := by decide +kernel
theorem dX6_fault_10 : decode cX6_fault 10 = .ok (.ireturn, 1) := by decide +kernel
theorem dX6_fault_11 : decode cX6_fault 11 = .ok (.aload_n 0, 1) := by decide +kernel
theorem dX6_fault_12 : decode cX6_fault 12 = .ok (.getfield 61, 3) := by decide +kernel
theorem dX6_fault_15 : decode cX6_fault 15 = .ok (.ifCond .ne 6, 3) := by decide +kernel
theorem dX6_fault_18 : decode cX6_fault 18 = .ok (.bipush (-9), 2) := by decide +kernel
theorem dX6_fault_20 : decode cX6_fault 20 = .ok (.ireturn, 1) := by decide +kernel
theorem dX6_fault_21 : decode cX6_fault 21 = .ok (.iload_n 1, 1) := by decide +kernel
theorem dX6_fault_22 : decode cX6_fault 22 = .ok (.ifCond .ne 10, 3) := by decide +kernel
theorem dX6_fault_25 : decode cX6_fault 25 = .ok (.aload_n 0, 1) := by decide +kernel
theorem dX6_fault_26 : decode cX6_fault 26 = .ok (.getfield 61, 3) := by decide +kernel
theorem dX6_fault_29 : decode cX6_fault 29 = .ok (.goto 7, 3) := by decide +kernel
theorem dX6_fault_32 : decode cX6_fault 32 = .ok (.aload_n 0, 1) := by decide +kernel
theorem dX6_fault_33 : decode cX6_fault 33 = .ok (.getfield 64, 3) := by decide +kernel
theorem dX6_fault_36 : decode cX6_fault 36 = .ok (.ireturn, 1) := by decide +kernel
set_option maxRecDepth 20000 in
theorem ggX6_told_X0_recipes : GoodIn wsX6_told wsX0_recipes := goodIn_r _ [9, 10, 11, 12, 8, 13, 14, 15, 16, 17, 18, 19, 20, 21, 22, 23, 24, 25, 26, 27, 28, 70, 71, 72, 73, 74, 75, 76, 77] (by decide +kernel) (by decide +kernel)
set_option maxRecDepth 20000 in
theorem gX6_told_X0_recipes : GoodIn wsX6_told (wsV RX6 184 RX0 yX0_recipes wsX0_recipes) := goodIn_app (goodIn_of _ (by decide +kernel)) ggX6_told_X0_recipes
set_option maxRecDepth 20000 in
theorem ggX6_told_X6_sum : GoodIn wsX6_told wsX6_sum := goodIn_r _ [31] (by decide +kernel) (by decide +kernel)
set_option maxRecDepth 20000 in
theorem gX6_told_X6_sum : GoodIn wsX6_told (va_wsS RX6 187 yX6_sum wsX6_sum) := goodIn_app (goodIn_of _ (by decide +kernel)) ggX6_told_X6_sum
set_option maxRecDepth 20000 in
theorem ggX6_told_X0_greatestRank : GoodIn wsX6_told wsX0_greatestRank := goodIn_r _ [35, 36, 37, 38, 39, 40, 41, 42, 8, 43, 44, 19, 20, 21, 70, 71, 72, 73, 74, 75, 76, 77] (by decide +kernel) (by decide +kernel)
set_option maxRecDepth 20000 in
theorem gX6_told_X0_greatestRank : GoodIn wsX6_told (wsV RX6 197 RX0 yX0_greatestRank wsX0_greatestRank) := goodIn_app (goodIn_of _ (by decide +kernel)) ggX6_told_X0_greatestRank
set_option maxRecDepth 20000 in
theorem ggX6_told_X0_madeThings : GoodIn wsX6_told wsX0_madeThings := goodIn_r _ [13, 14, 15, 16, 8, 17, 18, 19, 20, 21, 70, 71, 72, 73, 74, 75, 76, 77] (by decide +kernel) (by decide +kernel)
set_option maxRecDepth 20000 in
theorem gX6_told_X0_madeThings : GoodIn wsX6_told (wsV RX6 200 RX0 yX0_madeThings wsX0_madeThings) := goodIn_app (goodIn_of _ (by decide +kernel)) ggX6_told_X0_madeThings
set_option maxRecDepth 20000 in
theorem ggX6_told_X1_size : GoodIn wsX6_told wsX1_size := goodIn_r _ [50, 51, 78, 79, 80] (by decide +kernel) (by decide +kernel)
set_option maxRecDepth 20000 in
theorem gX6_told_X1_size : GoodIn wsX6_told (wsV RX6 175 RX1 yX1_size wsX1_size) := goodIn_app (goodIn_of _ (by decide +kernel)) ggX6_told_X1_size
theorem dX6_told_0 : decode cX6_told 0 = .ok (.iload_n 1, 1) := by decide +kernel
theorem dX6_told_1 : decode cX6_told 1 = .ok (.tableswitch 114 0 7 #[47, 55, 66, 77, 85, 93, 101, 106], 47) := by decide +kernel
theorem dX6_told_48 : decode cX6_told 48 = .ok (.aload_n 0, 1) := by decide +kernel
theorem dX6_told_49 : decode cX6_told 49 = .ok (.getfield 10, 3) := by decide +kernel
theorem dX6_told_52 : decode cX6_told 52 = .ok (.invokevirtual 184, 3) := by decide +kernel
theorem dX6_told_55 : decode cX6_told 55 = .ok (.ireturn, 1) := by decide +kernel
theorem dX6_told_56 : decode cX6_told 56 = .ok (.aload_n 0, 1) := by decide +kernel
theorem dX6_told_57 : decode cX6_told 57 = .ok (.getfield 22, 3) := by decide +kernel
theorem dX6_told_60 : decode cX6_told 60 = .ok (.getfield 137, 3) := by decide +kernel
theorem dX6_told_63 : decode cX6_told 63 = .ok (.invokestatic 187, 3) := by decide +kernel
theorem dX6_told_66 : decode cX6_told 66 = .ok (.ireturn, 1) := by decide +kernel
theorem dX6_told_67 : decode cX6_told 67 = .ok (.aload_n 0, 1) := by decide +kernel
theorem dX6_told_68 : decode cX6_told 68 = .ok (.getfield 22, 3) := by decide +kernel
theorem dX6_told_71 : decode cX6_told 71 = .ok (.getfield 191, 3) := by decide +kernel
theorem dX6_told_74 : decode cX6_told 74 = .ok (.invokestatic 187, 3) := by decide +kernel
theorem dX6_told_77 : decode cX6_told 77 = .ok (.ireturn, 1) := by decide +kernel
theorem dX6_told_78 : decode cX6_told 78 = .ok (.aload_n 0, 1) := by decide +kernel
theorem dX6_told_79 : decode cX6_told 79 = .ok (.getfield 22, 3) := by decide +kernel
theorem dX6_told_82 : decode cX6_told 82 = .ok (.getfield 194, 3) := by decide +kernel
theorem dX6_told_85 : decode cX6_told 85 = .ok (.ireturn, 1) := by decide +kernel
theorem dX6_told_86 : decode cX6_told 86 = .ok (.aload_n 0, 1) := by decide +kernel
theorem dX6_told_87 : decode cX6_told 87 = .ok (.getfield 10, 3) := by decide +kernel
theorem dX6_told_90 : decode cX6_told 90 = .ok (.invokevirtual 197, 3) := by decide +kernel
theorem dX6_told_93 : decode cX6_told 93 = .ok (.ireturn, 1) := by decide +kernel
theorem dX6_told_94 : decode cX6_told 94 = .ok (.aload_n 0, 1) := by decide +kernel
theorem dX6_told_95 : decode cX6_told 95 = .ok (.getfield 10, 3) := by decide +kernel
theorem dX6_told_98 : decode cX6_told 98 = .ok (.invokevirtual 200, 3) := by decide +kernel
theorem dX6_told_101 : decode cX6_told 101 = .ok (.ireturn, 1) := by decide +kernel
theorem dX6_told_102 : decode cX6_told 102 = .ok (.aload_n 0, 1) := by decide +kernel
theorem dX6_told_103 : decode cX6_told 103 = .ok (.getfield 57, 3) := by decide +kernel
theorem dX6_told_106 : decode cX6_told 106 = .ok (.ireturn, 1) := by decide +kernel
theorem dX6_told_107 : decode cX6_told 107 = .ok (.aload_n 0, 1) := by decide +kernel
theorem dX6_told_108 : decode cX6_told 108 = .ok (.getfield 36, 3) := by decide +kernel
theorem dX6_told_111 : decode cX6_told 111 = .ok (.invokevirtual 175, 3) := by decide +kernel
theorem dX6_told_114 : decode cX6_told 114 = .ok (.ireturn, 1) := by decide +kernel
theorem dX6_told_115 : decode cX6_told 115 = .ok (.iconst (-1), 1) := by decide +kernel
theorem dX6_told_116 : decode cX6_told 116 = .ok (.ireturn, 1) := by decide +kernel
set_option maxRecDepth 20000 in
theorem ggX6_thing_X6_isThing : GoodIn wsX6_thing wsX6_isThing := goodIn_r _ [6] (by decide +kernel) (by decide +kernel)
set_option maxRecDepth 20000 in
theorem gX6_thing_X6_isThing : GoodIn wsX6_thing (va_wsS RX6 96 yX6_isThing wsX6_isThing) := goodIn_app (goodIn_of _ (by decide +kernel)) ggX6_thing_X6_isThing
set_option maxRecDepth 20000 in
theorem ggX6_thing_X6_at : GoodIn wsX6_thing wsX6_at := goodIn_r _ [9] (by decide +kernel) (by decide +kernel)
set_option maxRecDepth 20000 in
theorem gX6_thing_X6_at : GoodIn wsX6_thing (va_wsS RX6 140 yX6_at wsX6_at) := goodIn_app (goodIn_of _ (by decide +kernel)) ggX6_thing_X6_at
set_option maxRecDepth 20000 in
theorem ggX6_thing_X0_rankOf : GoodIn wsX6_thing wsX0_rankOf := goodIn_r _ [14, 15, 8, 5, 9, 58, 59, 60, 61, 62, 63, 64, 65] (by decide +kernel) (by decide +kernel)
set_option maxRecDepth 20000 in
theorem gX6_thing_X0_rankOf : GoodIn wsX6_thing (wsV RX6 92 RX0 yX0_rankOf wsX0_rankOf) := goodIn_app (goodIn_of _ (by decide +kernel)) ggX6_thing_X0_rankOf
set_option maxRecDepth 20000 in
theorem ggX6_thing_X0_isMade : GoodIn wsX6_thing wsX0_isMade := goodIn_r _ [19, 20, 8, 5, 9, 58, 59, 60, 61, 62, 63, 64, 65] (by decide +kernel) (by decide +kernel)
set_option maxRecDepth 20000 in
theorem gX6_thing_X0_isMade : GoodIn wsX6_thing (wsV RX6 100 RX0 yX0_isMade wsX0_isMade) := goodIn_app (goodIn_of _ (by decide +kernel)) ggX6_thing_X0_isMade
set_option maxRecDepth 20000 in
theorem ggX6_thing_X0_yieldOf : GoodIn wsX6_thing wsX0_yieldOf := goodIn_r _ [24, 20, 8, 5, 9, 58, 59, 60, 61, 62, 63, 64, 65] (by decide +kernel) (by decide +kernel)
set_option maxRecDepth 20000 in
theorem gX6_thing_X0_yieldOf : GoodIn wsX6_thing (wsV RX6 103 RX0 yX0_yieldOf wsX0_yieldOf) := goodIn_app (goodIn_of _ (by decide +kernel)) ggX6_thing_X0_yieldOf
set_option maxRecDepth 20000 in
theorem ggX6_thing_X0_ingredientsOf : GoodIn wsX6_thing wsX0_ingredientsOf := goodIn_r _ [28, 29, 8, 5, 9, 58, 59, 60, 61, 62, 63, 64, 65] (by decide +kernel) (by decide +kernel)
set_option maxRecDepth 20000 in
theorem gX6_thing_X0_ingredientsOf : GoodIn wsX6_thing (wsV RX6 203 RX0 yX0_ingredientsOf wsX0_ingredientsOf) := goodIn_app (goodIn_of _ (by decide +kernel)) ggX6_thing_X0_ingredientsOf
set_option maxRecDepth 20000 in
theorem ggX6_thing_X0_vesselOf : GoodIn wsX6_thing wsX0_vesselOf := goodIn_r _ [33, 34, 8, 5, 9, 58, 59, 60, 61, 62, 63, 64, 65] (by decide +kernel) (by decide +kernel)
set_option maxRecDepth 20000 in
theorem gX6_thing_X0_vesselOf : GoodIn wsX6_thing (wsV RX6 128 RX0 yX0_vesselOf wsX0_vesselOf) := goodIn_app (goodIn_of _ (by decide +kernel)) ggX6_thing_X0_vesselOf
set_option maxRecDepth 20000 in
theorem ggX6_thing_X0_substitutesOf : GoodIn wsX6_thing wsX0_substitutesOf := goodIn_r _ [38, 39, 8, 5, 9, 58, 59, 60, 61, 62, 63, 64, 65] (by decide +kernel) (by decide +kernel)
set_option maxRecDepth 20000 in
theorem gX6_thing_X0_substitutesOf : GoodIn wsX6_thing (wsV RX6 114 RX0 yX0_substitutesOf wsX0_substitutesOf) := goodIn_app (goodIn_of _ (by decide +kernel)) ggX6_thing_X0_substitutesOf
theorem dX6_thing_0 : decode cX6_thing 0 = .ok (.iload_n 1, 1) := by decide +kernel
theorem dX6_thing_1 : decode cX6_thing 1 = .ok (.invokestatic 96, 3) := by decide +kernel
theorem dX6_thing_4 : decode cX6_thing 4 = .ok (.ifCond .ne 5, 3) := by decide +kernel
theorem dX6_thing_7 : decode cX6_thing 7 = .ok (.iconst (-1), 1) := by decide +kernel
theorem dX6_thing_8 : decode cX6_thing 8 = .ok (.ireturn, 1) := by decide +kernel
theorem dX6_thing_9 : decode cX6_thing 9 = .ok (.iload_n 2, 1) := by decide +kernel
theorem dX6_thing_10 : decode cX6_thing 10 = .ok (.tableswitch 207 0 10 #[58, 70, 79, 104, 129, 138, 147, 159, 171, 183, 195], 58) := by decide +kernel
theorem dX6_thing_68 : decode cX6_thing 68 = .ok (.aload_n 0, 1) := by decide +kernel
theorem dX6_thing_69 : decode cX6_thing 69 = .ok (.getfield 22, 3) := by decide +kernel
theorem dX6_thing_72 : decode cX6_thing 72 = .ok (.getfield 137, 3) := by decide +kernel
theorem dX6_thing_75 : decode cX6_thing 75 = .ok (.iload_n 1, 1) := by decide +kernel
theorem dX6_thing_76 : decode cX6_thing 76 = .ok (.invokestatic 140, 3) := by decide +kernel
theorem dX6_thing_79 : decode cX6_thing 79 = .ok (.ireturn, 1) := by decide +kernel
theorem dX6_thing_80 : decode cX6_thing 80 = .ok (.aload_n 0, 1) := by decide +kernel
theorem dX6_thing_81 : decode cX6_thing 81 = .ok (.getfield 10, 3) := by decide +kernel
theorem dX6_thing_84 : decode cX6_thing 84 = .ok (.iload_n 1, 1) := by decide +kernel
theorem dX6_thing_85 : decode cX6_thing 85 = .ok (.invokevirtual 92, 3) := by decide +kernel
theorem dX6_thing_88 : decode cX6_thing 88 = .ok (.ireturn, 1) := by decide +kernel
theorem dX6_thing_89 : decode cX6_thing 89 = .ok (.aload_n 0, 1) := by decide +kernel
theorem dX6_thing_90 : decode cX6_thing 90 = .ok (.getfield 10, 3) := by decide +kernel
theorem dX6_thing_93 : decode cX6_thing 93 = .ok (.iload_n 1, 1) := by decide +kernel
theorem dX6_thing_94 : decode cX6_thing 94 = .ok (.invokevirtual 100, 3) := by decide +kernel
theorem dX6_thing_97 : decode cX6_thing 97 = .ok (.ifCond .eq 14, 3) := by decide +kernel
theorem dX6_thing_100 : decode cX6_thing 100 = .ok (.aload_n 0, 1) := by decide +kernel
theorem dX6_thing_101 : decode cX6_thing 101 = .ok (.getfield 10, 3) := by decide +kernel
theorem dX6_thing_104 : decode cX6_thing 104 = .ok (.iload_n 1, 1) := by decide +kernel
theorem dX6_thing_105 : decode cX6_thing 105 = .ok (.invokevirtual 103, 3) := by decide +kernel
theorem dX6_thing_108 : decode cX6_thing 108 = .ok (.goto 5, 3) := by decide +kernel
theorem dX6_thing_111 : decode cX6_thing 111 = .ok (.bipush (-9), 2) := by decide +kernel
theorem dX6_thing_113 : decode cX6_thing 113 = .ok (.ireturn, 1) := by decide +kernel
theorem dX6_thing_114 : decode cX6_thing 114 = .ok (.aload_n 0, 1) := by decide +kernel
theorem dX6_thing_115 : decode cX6_thing 115 = .ok (.getfield 10, 3) := by decide +kernel
theorem dX6_thing_118 : decode cX6_thing 118 = .ok (.iload_n 1, 1) := by decide +kernel
theorem dX6_thing_119 : decode cX6_thing 119 = .ok (.invokevirtual 100, 3) := by decide +kernel
theorem dX6_thing_122 : decode cX6_thing 122 = .ok (.ifCond .eq 14, 3) := by decide +kernel
theorem dX6_thing_125 : decode cX6_thing 125 = .ok (.aload_n 0, 1) := by decide +kernel
theorem dX6_thing_126 : decode cX6_thing 126 = .ok (.getfield 10, 3) := by decide +kernel
theorem dX6_thing_129 : decode cX6_thing 129 = .ok (.iload_n 1, 1) := by decide +kernel
theorem dX6_thing_130 : decode cX6_thing 130 = .ok (.invokevirtual 203, 3) := by decide +kernel
theorem dX6_thing_133 : decode cX6_thing 133 = .ok (.goto 5, 3) := by decide +kernel
theorem dX6_thing_136 : decode cX6_thing 136 = .ok (.bipush (-9), 2) := by decide +kernel
theorem dX6_thing_138 : decode cX6_thing 138 = .ok (.ireturn, 1) := by decide +kernel
theorem dX6_thing_139 : decode cX6_thing 139 = .ok (.aload_n 0, 1) := by decide +kernel
theorem dX6_thing_140 : decode cX6_thing 140 = .ok (.getfield 10, 3) := by decide +kernel
theorem dX6_thing_143 : decode cX6_thing 143 = .ok (.iload_n 1, 1) := by decide +kernel
theorem dX6_thing_144 : decode cX6_thing 144 = .ok (.invokevirtual 128, 3) := by decide +kernel
theorem dX6_thing_147 : decode cX6_thing 147 = .ok (.ireturn, 1) := by decide +kernel
theorem dX6_thing_148 : decode cX6_thing 148 = .ok (.aload_n 0, 1) := by decide +kernel
theorem dX6_thing_149 : decode cX6_thing 149 = .ok (.getfield 10, 3) := by decide +kernel
theorem dX6_thing_152 : decode cX6_thing 152 = .ok (.iload_n 1, 1) := by decide +kernel
theorem dX6_thing_153 : decode cX6_thing 153 = .ok (.invokevirtual 114, 3) := by decide +kernel
theorem dX6_thing_156 : decode cX6_thing 156 = .ok (.ireturn, 1) := by decide +kernel
theorem dX6_thing_157 : decode cX6_thing 157 = .ok (.aload_n 0, 1) := by decide +kernel
theorem dX6_thing_158 : decode cX6_thing 158 = .ok (.getfield 22, 3) := by decide +kernel
theorem dX6_thing_161 : decode cX6_thing 161 = .ok (.getfield 191, 3) := by decide +kernel
theorem dX6_thing_164 : decode cX6_thing 164 = .ok (.iload_n 1, 1) := by decide +kernel
theorem dX6_thing_165 : decode cX6_thing 165 = .ok (.invokestatic 140, 3) := by decide +kernel
theorem dX6_thing_168 : decode cX6_thing 168 = .ok (.ireturn, 1) := by decide +kernel
theorem dX6_thing_169 : decode cX6_thing 169 = .ok (.aload_n 0, 1) := by decide +kernel
theorem dX6_thing_170 : decode cX6_thing 170 = .ok (.getfield 22, 3) := by decide +kernel
theorem dX6_thing_173 : decode cX6_thing 173 = .ok (.getfield 206, 3) := by decide +kernel
theorem dX6_thing_176 : decode cX6_thing 176 = .ok (.iload_n 1, 1) := by decide +kernel
theorem dX6_thing_177 : decode cX6_thing 177 = .ok (.invokestatic 140, 3) := by decide +kernel
theorem dX6_thing_180 : decode cX6_thing 180 = .ok (.ireturn, 1) := by decide +kernel
theorem dX6_thing_181 : decode cX6_thing 181 = .ok (.aload_n 0, 1) := by decide +kernel
theorem dX6_thing_182 : decode cX6_thing 182 = .ok (.getfield 22, 3) := by decide +kernel
theorem dX6_thing_185 : decode cX6_thing 185 = .ok (.getfield 208, 3) := by decide +kernel
theorem dX6_thing_188 : decode cX6_thing 188 = .ok (.iload_n 1, 1) := by decide +kernel
theorem dX6_thing_189 : decode cX6_thing 189 = .ok (.invokestatic 140, 3) := by decide +kernel
theorem dX6_thing_192 : decode cX6_thing 192 = .ok (.ireturn, 1) := by decide +kernel
theorem dX6_thing_193 : decode cX6_thing 193 = .ok (.aload_n 0, 1) := by decide +kernel
theorem dX6_thing_194 : decode cX6_thing 194 = .ok (.getfield 22, 3) := by decide +kernel
theorem dX6_thing_197 : decode cX6_thing 197 = .ok (.getfield 211, 3) := by decide +kernel
theorem dX6_thing_200 : decode cX6_thing 200 = .ok (.iload_n 1, 1) := by decide +kernel
theorem dX6_thing_201 : decode cX6_thing 201 = .ok (.invokestatic 140, 3) := by decide +kernel
theorem dX6_thing_204 : decode cX6_thing 204 = .ok (.ireturn, 1) := by decide +kernel
theorem dX6_thing_205 : decode cX6_thing 205 = .ok (.aload_n 0, 1) := by decide +kernel
theorem dX6_thing_206 : decode cX6_thing 206 = .ok (.getfield 22, 3) := by decide +kernel
theorem dX6_thing_209 : decode cX6_thing 209 = .ok (.getfield 154, 3) := by decide +kernel
theorem dX6_thing_212 : decode cX6_thing 212 = .ok (.iload_n 1, 1) := by decide +kernel
theorem dX6_thing_213 : decode cX6_thing 213 = .ok (.invokestatic 140, 3) := by decide +kernel
theorem dX6_thing_216 : decode cX6_thing 216 = .ok (.ireturn, 1) := by decide +kernel
theorem dX6_thing_217 : decode cX6_thing 217 = .ok (.iconst (-1), 1) := by decide +kernel
theorem dX6_thing_218 : decode cX6_thing 218 = .ok (.ireturn, 1) := by decide +kernel
set_option maxRecDepth 20000 in
theorem ggX6_ingredient_X6_isThing : GoodIn wsX6_ingredient wsX6_isThing := goodIn_r _ [5] (by decide +kernel) (by decide +kernel)
set_option maxRecDepth 20000 in
theorem gX6_ingredient_X6_isThing : GoodIn wsX6_ingredient (va_wsS RX6 96 yX6_isThing wsX6_isThing) := goodIn_app (goodIn_of _ (by decide +kernel)) ggX6_ingredient_X6_isThing
set_option maxRecDepth 20000 in
theorem ggX6_ingredient_X0_ingredientsOf : GoodIn wsX6_ingredient wsX0_ingredientsOf := goodIn_r _ [10, 11, 12, 4, 13, 35, 36, 37, 38, 39, 40, 41, 42] (by decide +kernel) (by decide +kernel)
set_option maxRecDepth 20000 in
theorem gX6_ingredient_X0_ingredientsOf : GoodIn wsX6_ingredient (wsV RX6 203 RX0 yX0_ingredientsOf wsX0_ingredientsOf) := goodIn_app (goodIn_of _ (by decide +kernel)) ggX6_ingredient_X0_ingredientsOf
set_option maxRecDepth 20000 in
theorem ggX6_ingredient_X0_ingredientAt : GoodIn wsX6_ingredient wsX0_ingredientAt := goodIn_r _ [17, 18, 12, 4, 13, 35, 36, 37, 38, 39, 40, 41, 42] (by decide +kernel) (by decide +kernel)
set_option maxRecDepth 20000 in
theorem gX6_ingredient_X0_ingredientAt : GoodIn wsX6_ingredient (wsV RX6 214 RX0 yX0_ingredientAt wsX0_ingredientAt) := goodIn_app (goodIn_of _ (by decide +kernel)) ggX6_ingredient_X0_ingredientAt
set_option maxRecDepth 20000 in
theorem ggX6_ingredient_X0_amountAt : GoodIn wsX6_ingredient wsX0_amountAt := goodIn_r _ [22, 23, 12, 4, 13, 35, 36, 37, 38, 39, 40, 41, 42] (by decide +kernel) (by decide +kernel)
set_option maxRecDepth 20000 in
theorem gX6_ingredient_X0_amountAt : GoodIn wsX6_ingredient (wsV RX6 217 RX0 yX0_amountAt wsX0_amountAt) := goodIn_app (goodIn_of _ (by decide +kernel)) ggX6_ingredient_X0_amountAt
theorem dX6_ingredient_0 : decode cX6_ingredient 0 = .ok (.iload_n 1, 1) := by decide +kernel
theorem dX6_ingredient_1 : decode cX6_ingredient 1 = .ok (.invokestatic 96, 3) := by decide +kernel
theorem dX6_ingredient_4 : decode cX6_ingredient 4 = .ok (.ifCond .eq 16, 3) := by decide +kernel
theorem dX6_ingredient_7 : decode cX6_ingredient 7 = .ok (.iload_n 2, 1) := by decide +kernel
theorem dX6_ingredient_8 : decode cX6_ingredient 8 = .ok (.ifCond .lt 12, 3) := by decide +kernel
theorem dX6_ingredient_11 : decode cX6_ingredient 11 = .ok (.iload_n 3, 1) := by decide +kernel
theorem dX6_ingredient_12 : decode cX6_ingredient 12 = .ok (.ifCond .lt 8, 3) := by decide +kernel
theorem dX6_ingredient_15 : decode cX6_ingredient 15 = .ok (.iload_n 3, 1) := by decide +kernel
theorem dX6_ingredient_16 : decode cX6_ingredient 16 = .ok (.iconst 1, 1) := by decide +kernel
theorem dX6_ingredient_17 : decode cX6_ingredient 17 = .ok (.if_icmp .le 5, 3) := by decide +kernel
theorem dX6_ingredient_20 : decode cX6_ingredient 20 = .ok (.iconst (-1), 1) := by decide +kernel
theorem dX6_ingredient_21 : decode cX6_ingredient 21 = .ok (.ireturn, 1) := by decide +kernel
theorem dX6_ingredient_22 : decode cX6_ingredient 22 = .ok (.iload_n 2, 1) := by decide +kernel
theorem dX6_ingredient_23 : decode cX6_ingredient 23 = .ok (.aload_n 0, 1) := by decide +kernel
theorem dX6_ingredient_24 : decode cX6_ingredient 24 = .ok (.getfield 10, 3) := by decide +kernel
theorem dX6_ingredient_27 : decode cX6_ingredient 27 = .ok (.iload_n 1, 1) := by decide +kernel
theorem dX6_ingredient_28 : decode cX6_ingredient 28 = .ok (.invokevirtual 203, 3) := by decide +kernel
theorem dX6_ingredient_31 : decode cX6_ingredient 31 = .ok (.if_icmp .lt 6, 3) := by decide +kernel
theorem dX6_ingredient_34 : decode cX6_ingredient 34 = .ok (.bipush (-9), 2) := by decide +kernel
theorem dX6_ingredient_36 : decode cX6_ingredient 36 = .ok (.ireturn, 1) := by decide +kernel
theorem dX6_ingredient_37 : decode cX6_ingredient 37 = .ok (.iload_n 3, 1) := by decide +kernel
theorem dX6_ingredient_38 : decode cX6_ingredient 38 = .ok (.ifCond .ne 15, 3) := by decide +kernel
theorem dX6_ingredient_41 : decode cX6_ingredient 41 = .ok (.aload_n 0, 1) := by decide +kernel
theorem dX6_ingredient_42 : decode cX6_ingredient 42 = .ok (.getfield 10, 3) := by decide +kernel
theorem dX6_ingredient_45 : decode cX6_ingredient 45 = .ok (.iload_n 1, 1) := by decide +kernel
theorem dX6_ingredient_46 : decode cX6_ingredient 46 = .ok (.iload_n 2, 1) := by decide +kernel
theorem dX6_ingredient_47 : decode cX6_ingredient 47 = .ok (.invokevirtual 214, 3) := by decide +kernel
theorem dX6_ingredient_50 : decode cX6_ingredient 50 = .ok (.goto 12, 3) := by decide +kernel
theorem dX6_ingredient_53 : decode cX6_ingredient 53 = .ok (.aload_n 0, 1) := by decide +kernel
theorem dX6_ingredient_54 : decode cX6_ingredient 54 = .ok (.getfield 10, 3) := by decide +kernel
theorem dX6_ingredient_57 : decode cX6_ingredient 57 = .ok (.iload_n 1, 1) := by decide +kernel
theorem dX6_ingredient_58 : decode cX6_ingredient 58 = .ok (.iload_n 2, 1) := by decide +kernel
theorem dX6_ingredient_59 : decode cX6_ingredient 59 = .ok (.invokevirtual 217, 3) := by decide +kernel
theorem dX6_ingredient_62 : decode cX6_ingredient 62 = .ok (.ireturn, 1) := by decide +kernel
set_option maxRecDepth 20000 in
theorem ggX6_substitute_X6_isThing : GoodIn wsX6_substitute wsX6_isThing := goodIn_r _ [5] (by decide +kernel) (by decide +kernel)
set_option maxRecDepth 20000 in
theorem gX6_substitute_X6_isThing : GoodIn wsX6_substitute (va_wsS RX6 96 yX6_isThing wsX6_isThing) := goodIn_app (goodIn_of _ (by decide +kernel)) ggX6_substitute_X6_isThing
set_option maxRecDepth 20000 in
theorem ggX6_substitute_X0_substitutesOf : GoodIn wsX6_substitute wsX0_substitutesOf := goodIn_r _ [10, 11, 12, 4, 13, 30, 31, 32, 33, 34, 35, 36, 37] (by decide +kernel) (by decide +kernel)
set_option maxRecDepth 20000 in
theorem gX6_substitute_X0_substitutesOf : GoodIn wsX6_substitute (wsV RX6 114 RX0 yX0_substitutesOf wsX0_substitutesOf) := goodIn_app (goodIn_of _ (by decide +kernel)) ggX6_substitute_X0_substitutesOf
set_option maxRecDepth 20000 in
theorem ggX6_substitute_X0_substituteAt : GoodIn wsX6_substitute wsX0_substituteAt := goodIn_r _ [17, 18, 12, 4, 13, 30, 31, 32, 33, 34, 35, 36, 37] (by decide +kernel) (by decide +kernel)
set_option maxRecDepth 20000 in
theorem gX6_substitute_X0_substituteAt : GoodIn wsX6_substitute (wsV RX6 121 RX0 yX0_substituteAt wsX0_substituteAt) := goodIn_app (goodIn_of _ (by decide +kernel)) ggX6_substitute_X0_substituteAt
theorem dX6_substitute_0 : decode cX6_substitute 0 = .ok (.iload_n 1, 1) := by decide +kernel
theorem dX6_substitute_1 : decode cX6_substitute 1 = .ok (.invokestatic 96, 3) := by decide +kernel
theorem dX6_substitute_4 : decode cX6_substitute 4 = .ok (.ifCond .eq 7, 3) := by decide +kernel
theorem dX6_substitute_7 : decode cX6_substitute 7 = .ok (.iload_n 2, 1) := by decide +kernel
theorem dX6_substitute_8 : decode cX6_substitute 8 = .ok (.ifCond .ge 5, 3) := by decide +kernel
theorem dX6_substitute_11 : decode cX6_substitute 11 = .ok (.iconst (-1), 1) := by decide +kernel
theorem dX6_substitute_12 : decode cX6_substitute 12 = .ok (.ireturn, 1) := by decide +kernel
theorem dX6_substitute_13 : decode cX6_substitute 13 = .ok (.iload_n 2, 1) := by decide +kernel
theorem dX6_substitute_14 : decode cX6_substitute 14 = .ok (.aload_n 0, 1) := by decide +kernel
theorem dX6_substitute_15 : decode cX6_substitute 15 = .ok (.getfield 10, 3) := by decide +kernel
theorem dX6_substitute_18 : decode cX6_substitute 18 = .ok (.iload_n 1, 1) := by decide +kernel
theorem dX6_substitute_19 : decode cX6_substitute 19 = .ok (.invokevirtual 114, 3) := by decide +kernel
theorem dX6_substitute_22 : decode cX6_substitute 22 = .ok (.if_icmp .ge 15, 3) := by decide +kernel
theorem dX6_substitute_25 : decode cX6_substitute 25 = .ok (.aload_n 0, 1) := by decide +kernel
theorem dX6_substitute_26 : decode cX6_substitute 26 = .ok (.getfield 10, 3) := by decide +kernel
theorem dX6_substitute_29 : decode cX6_substitute 29 = .ok (.iload_n 1, 1) := by decide +kernel
theorem dX6_substitute_30 : decode cX6_substitute 30 = .ok (.iload_n 2, 1) := by decide +kernel
theorem dX6_substitute_31 : decode cX6_substitute 31 = .ok (.invokevirtual 121, 3) := by decide +kernel
theorem dX6_substitute_34 : decode cX6_substitute 34 = .ok (.goto 5, 3) := by decide +kernel
theorem dX6_substitute_37 : decode cX6_substitute 37 = .ok (.bipush (-9), 2) := by decide +kernel
theorem dX6_substitute_39 : decode cX6_substitute 39 = .ok (.ireturn, 1) := by decide +kernel
set_option maxRecDepth 20000 in
theorem ggX6_isNeeded_X6_isThing : GoodIn wsX6_isNeeded wsX6_isThing := goodIn_r _ [5] (by decide +kernel) (by decide +kernel)
set_option maxRecDepth 20000 in
theorem gX6_isNeeded_X6_isThing : GoodIn wsX6_isNeeded (va_wsS RX6 96 yX6_isThing wsX6_isThing) := goodIn_app (goodIn_of _ (by decide +kernel)) ggX6_isNeeded_X6_isThing
set_option maxRecDepth 20000 in
theorem ggX6_isNeeded_X0_allNeedsOf : GoodIn wsX6_isNeeded wsX0_allNeedsOf := goodIn_r _ [10, 11, 12, 13, 9, 14, 15, 16, 17, 18, 19, 20, 4, 21, 22, 23, 24, 25, 26, 27, 28, 29, 30, 31, 32, 33, 34, 35, 36, 37, 38, 51, 52, 53, 54, 55, 56, 57, 58] (by decide +kernel) (by decide +kernel)
set_option maxRecDepth 20000 in
theorem gX6_isNeeded_X0_allNeedsOf : GoodIn wsX6_isNeeded (wsV RX6 220 RX0 yX0_allNeedsOf wsX0_allNeedsOf) := goodIn_app (goodIn_of _ (by decide +kernel)) ggX6_isNeeded_X0_allNeedsOf
set_option maxRecDepth 20000 in
theorem ggX6_isNeeded_X6_hasBit : GoodIn wsX6_isNeeded wsX6_hasBit := goodIn_r _ [38] (by decide +kernel) (by decide +kernel)
set_option maxRecDepth 20000 in
theorem gX6_isNeeded_X6_hasBit : GoodIn wsX6_isNeeded (va_wsS RX6 223 yX6_hasBit wsX6_hasBit) := goodIn_app (goodIn_of _ (by decide +kernel)) ggX6_isNeeded_X6_hasBit
theorem dX6_isNeeded_0 : decode cX6_isNeeded 0 = .ok (.iload_n 1, 1) := by decide +kernel
theorem dX6_isNeeded_1 : decode cX6_isNeeded 1 = .ok (.invokestatic 96, 3) := by decide +kernel
theorem dX6_isNeeded_4 : decode cX6_isNeeded 4 = .ok (.ifCond .eq 10, 3) := by decide +kernel
theorem dX6_isNeeded_7 : decode cX6_isNeeded 7 = .ok (.iload_n 2, 1) := by decide +kernel
theorem dX6_isNeeded_8 : decode cX6_isNeeded 8 = .ok (.invokestatic 96, 3) := by decide +kernel
theorem dX6_isNeeded_11 : decode cX6_isNeeded 11 = .ok (.ifCond .ne 5, 3) := by decide +kernel
theorem dX6_isNeeded_14 : decode cX6_isNeeded 14 = .ok (.iconst (-1), 1) := by decide +kernel
theorem dX6_isNeeded_15 : decode cX6_isNeeded 15 = .ok (.ireturn, 1) := by decide +kernel
theorem dX6_isNeeded_16 : decode cX6_isNeeded 16 = .ok (.aload_n 0, 1) := by decide +kernel
theorem dX6_isNeeded_17 : decode cX6_isNeeded 17 = .ok (.getfield 10, 3) := by decide +kernel
theorem dX6_isNeeded_20 : decode cX6_isNeeded 20 = .ok (.iload_n 2, 1) := by decide +kernel
theorem dX6_isNeeded_21 : decode cX6_isNeeded 21 = .ok (.invokevirtual 220, 3) := by decide +kernel
theorem dX6_isNeeded_24 : decode cX6_isNeeded 24 = .ok (.iload_n 1, 1) := by decide +kernel
theorem dX6_isNeeded_25 : decode cX6_isNeeded 25 = .ok (.invokestatic 223, 3) := by decide +kernel
theorem dX6_isNeeded_28 : decode cX6_isNeeded 28 = .ok (.ifCond .eq 7, 3) := by decide +kernel
theorem dX6_isNeeded_31 : decode cX6_isNeeded 31 = .ok (.iconst 1, 1) := by decide +kernel
theorem dX6_isNeeded_32 : decode cX6_isNeeded 32 = .ok (.goto 4, 3) := by decide +kernel
theorem dX6_isNeeded_35 : decode cX6_isNeeded 35 = .ok (.iconst 0, 1) := by decide +kernel
theorem dX6_isNeeded_36 : decode cX6_isNeeded 36 = .ok (.ireturn, 1) := by decide +kernel
set_option maxRecDepth 20000 in
theorem ggX6_share_X6_sum : GoodIn wsX6_share wsX6_sum := goodIn_r _ [5] (by decide +kernel) (by decide +kernel)
set_option maxRecDepth 20000 in
theorem gX6_share_X6_sum : GoodIn wsX6_share (va_wsS RX6 187 yX6_sum wsX6_sum) := goodIn_app (goodIn_of _ (by decide +kernel)) ggX6_share_X6_sum
theorem dX6_share_0 : decode cX6_share 0 = .ok (.aload_n 0, 1) := by decide +kernel
theorem dX6_share_1 : decode cX6_share 1 = .ok (.getfield 22, 3) := by decide +kernel
theorem dX6_share_4 : decode cX6_share 4 = .ok (.getfield 191, 3) := by decide +kernel
theorem dX6_share_7 : decode cX6_share 7 = .ok (.invokestatic 187, 3) := by decide +kernel
theorem dX6_share_10 : decode cX6_share 10 = .ok (.istore_n 1, 1) := by decide +kernel
theorem dX6_share_11 : decode cX6_share 11 = .ok (.iload_n 1, 1) := by decide +kernel
theorem dX6_share_12 : decode cX6_share 12 = .ok (.aload_n 0, 1) := by decide +kernel
theorem dX6_share_13 : decode cX6_share 13 = .ok (.getfield 22, 3) := by decide +kernel
theorem dX6_share_16 : decode cX6_share 16 = .ok (.getfield 206, 3) := by decide +kernel
theorem dX6_share_19 : decode cX6_share 19 = .ok (.invokestatic 187, 3) := by decide +kernel
theorem dX6_share_22 : decode cX6_share 22 = .ok (.iadd, 1) := by decide +kernel
theorem dX6_share_23 : decode cX6_share 23 = .ok (.istore_n 2, 1) := by decide +kernel
theorem dX6_share_24 : decode cX6_share 24 = .ok (.iload_n 2, 1) := by decide +kernel
theorem dX6_share_25 : decode cX6_share 25 = .ok (.ifCond .gt 5, 3) := by decide +kernel
theorem dX6_share_28 : decode cX6_share 28 = .ok (.fconst 0, 1) := by decide +kernel
theorem dX6_share_29 : decode cX6_share 29 = .ok (.freturn, 1) := by decide +kernel
theorem dX6_share_30 : decode cX6_share 30 = .ok (.iload_n 1, 1) := by decide +kernel
theorem dX6_share_31 : decode cX6_share 31 = .ok (.i2f, 1) := by decide +kernel
theorem dX6_share_32 : decode cX6_share 32 = .ok (.iload_n 2, 1) := by decide +kernel
theorem dX6_share_33 : decode cX6_share 33 = .ok (.i2f, 1) := by decide +kernel
theorem dX6_share_34 : decode cX6_share 34 = .ok (.fdiv, 1) := by decide +kernel
theorem dX6_share_35 : decode cX6_share 35 = .ok (.freturn, 1) := by decide +kernel
set_option maxRecDepth 20000 in
theorem ggX6_gather_X6_isThing : GoodIn wsX6_gather wsX6_isThing := goodIn_r _ [7] (by decide +kernel) (by decide +kernel)
set_option maxRecDepth 20000 in
theorem gX6_gather_X6_isThing : GoodIn wsX6_gather (va_wsS RX6 96 yX6_isThing wsX6_isThing) := goodIn_app (goodIn_of _ (by decide +kernel)) ggX6_gather_X6_isThing
set_option maxRecDepth 20000 in
theorem ggX6_gather_X6_isWished : GoodIn wsX6_gather wsX6_isWished := goodIn_r _ [10] (by decide +kernel) (by decide +kernel)
set_option maxRecDepth 20000 in
theorem gX6_gather_X6_isWished : GoodIn wsX6_gather (va_wsS RX6 157 yX6_isWished wsX6_isWished) := goodIn_app (goodIn_of _ (by decide +kernel)) ggX6_gather_X6_isWished
set_option maxRecDepth 20000 in
theorem ggX6_gather_X5_begin : GoodIn wsX6_gather wsX5_begin := goodIn_r _ [15, 16, 17, 18, 19, 20, 21, 22, 23, 24, 25, 26, 27, 28, 29, 30, 31, 32, 33, 6, 34, 35, 36, 37, 38, 39, 40, 41, 42, 139, 140, 141, 142, 143, 144, 145, 146, 147, 148, 149, 150] (by decide +kernel) (by decide +kernel)
set_option maxRecDepth 20000 in
theorem gX6_gather_X5_begin : GoodIn wsX6_gather (wsV RX6 160 RX5 yX5_begin wsX5_begin) := goodIn_app (goodIn_of _ (by decide +kernel)) ggX6_gather_X5_begin
set_option maxRecDepth 20000 in
theorem ggX6_gather_X5_fulfil : GoodIn wsX6_gather wsX5_fulfil := goodIn_r _ [46, 16, 18, 47, 6, 48, 49, 50, 51, 14, 52, 53, 54, 55, 56, 57, 58, 59, 60, 61, 62, 63, 64, 65, 66, 67, 68, 69, 70, 71, 17, 20, 72, 73, 74, 75, 76, 77, 78, 79, 19, 80, 81, 82, 83, 84, 85, 86, 87, 88, 89, 90, 91, 92, 93, 94, 95, 96, 97, 98, 99, 100, 101, 102, 103, 36, 37, 38, 104, 105, 106, 107, 108, 109, 110, 111, 112, 113, 114, 115, 116, 117, 118, 119, 120, 121, 122, 139, 140, 141, 142, 143, 144, 145, 146, 147, 148, 149, 150, 151, 152, 153, 154, 155, 156, 157, 158] (by decide +kernel) (by decide +kernel)
set_option maxRecDepth 20000 in
theorem gX6_gather_X5_fulfil : GoodIn wsX6_gather (wsV RX6 164 RX5 yX5_fulfil wsX5_fulfil) := goodIn_app (goodIn_of _ (by decide +kernel)) ggX6_gather_X5_fulfil
set_option maxRecDepth 20000 in
theorem ggX6_gather_X5_gathered : GoodIn wsX6_gather wsX5_gathered := goodIn_r _ [126, 20, 139, 140, 141, 142, 143] (by decide +kernel) (by decide +kernel)
set_option maxRecDepth 20000 in
theorem gX6_gather_X5_gathered : GoodIn wsX6_gather (wsV RX6 226 RX5 yX5_gathered wsX5_gathered) := goodIn_app (goodIn_of _ (by decide +kernel)) ggX6_gather_X5_gathered
set_option maxRecDepth 20000 in
theorem ggX6_gather_X6_at : GoodIn wsX6_gather wsX6_at := goodIn_r _ [48] (by decide +kernel) (by decide +kernel)
set_option maxRecDepth 20000 in
theorem gX6_gather_X6_at : GoodIn wsX6_gather (va_wsS RX6 140 yX6_at wsX6_at) := goodIn_app (goodIn_of _ (by decide +kernel)) ggX6_gather_X6_at
theorem dX6_gather_0 : decode cX6_gather 0 = .ok (.iload_n 1, 1) := by decide +kernel
theorem dX6_gather_1 : decode cX6_gather 1 = .ok (.invokestatic 96, 3) := by decide +kernel
theorem dX6_gather_4 : decode cX6_gather 4 = .ok (.ifCond .eq 23, 3) := by decide +kernel
theorem dX6_gather_7 : decode cX6_gather 7 = .ok (.iload_n 2, 1) := by decide +kernel
theorem dX6_gather_8 : decode cX6_gather 8 = .ok (.invokestatic 157, 3) := by decide +kernel
theorem dX6_gather_11 : decode cX6_gather 11 = .ok (.ifCond .eq 16, 3) := by decide +kernel
theorem dX6_gather_14 : decode cX6_gather 14 = .ok (.iload_n 3, 1) := by decide +kernel
theorem dX6_gather_15 : decode cX6_gather 15 = .ok (.bipush (-9), 2) := by decide +kernel
theorem dX6_gather_17 : decode cX6_gather 17 = .ok (.if_icmp .eq 12, 3) := by decide +kernel
theorem dX6_gather_20 : decode cX6_gather 20 = .ok (.iload_n 3, 1) := by decide +kernel
theorem dX6_gather_21 : decode cX6_gather 21 = .ok (.invokestatic 96, 3) := by decide +kernel
theorem dX6_gather_24 : decode cX6_gather 24 = .ok (.ifCond .ne 5, 3) := by decide +kernel
theorem dX6_gather_27 : decode cX6_gather 27 = .ok (.iconst (-1), 1) := by decide +kernel
theorem dX6_gather_28 : decode cX6_gather 28 = .ok (.ireturn, 1) := by decide +kernel
theorem dX6_gather_29 : decode cX6_gather 29 = .ok (.aload_n 0, 1) := by decide +kernel
theorem dX6_gather_30 : decode cX6_gather 30 = .ok (.getfield 29, 3) := by decide +kernel
theorem dX6_gather_33 : decode cX6_gather 33 = .ok (.aload_n 0, 1) := by decide +kernel
theorem dX6_gather_34 : decode cX6_gather 34 = .ok (.getfield 22, 3) := by decide +kernel
theorem dX6_gather_37 : decode cX6_gather 37 = .ok (.iconst 1, 1) := by decide +kernel
theorem dX6_gather_38 : decode cX6_gather 38 = .ok (.invokevirtual 160, 3) := by decide +kernel
theorem dX6_gather_41 : decode cX6_gather 41 = .ok (.aload_n 0, 1) := by decide +kernel
theorem dX6_gather_42 : decode cX6_gather 42 = .ok (.getfield 29, 3) := by decide +kernel
theorem dX6_gather_45 : decode cX6_gather 45 = .ok (.aload_n 0, 1) := by decide +kernel
theorem dX6_gather_46 : decode cX6_gather 46 = .ok (.getfield 10, 3) := by decide +kernel
theorem dX6_gather_49 : decode cX6_gather 49 = .ok (.iload_n 1, 1) := by decide +kernel
theorem dX6_gather_50 : decode cX6_gather 50 = .ok (.iload_n 2, 1) := by decide +kernel
theorem dX6_gather_51 : decode cX6_gather 51 = .ok (.invokevirtual 164, 3) := by decide +kernel
theorem dX6_gather_54 : decode cX6_gather 54 = .ok (.ifCond .ne 6, 3) := by decide +kernel
theorem dX6_gather_57 : decode cX6_gather 57 = .ok (.bipush (-3), 2) := by decide +kernel
theorem dX6_gather_59 : decode cX6_gather 59 = .ok (.ireturn, 1) := by decide +kernel
theorem dX6_gather_60 : decode cX6_gather 60 = .ok (.iload_n 3, 1) := by decide +kernel
theorem dX6_gather_61 : decode cX6_gather 61 = .ok (.bipush (-9), 2) := by decide +kernel
theorem dX6_gather_63 : decode cX6_gather 63 = .ok (.if_icmp .ne 11, 3) := by decide +kernel
theorem dX6_gather_66 : decode cX6_gather 66 = .ok (.aload_n 0, 1) := by decide +kernel
theorem dX6_gather_67 : decode cX6_gather 67 = .ok (.getfield 29, 3) := by decide +kernel
theorem dX6_gather_70 : decode cX6_gather 70 = .ok (.invokevirtual 226, 3) := by decide +kernel
theorem dX6_gather_73 : decode cX6_gather 73 = .ok (.ireturn, 1) := by decide +kernel
theorem dX6_gather_74 : decode cX6_gather 74 = .ok (.aload_n 0, 1) := by decide +kernel
theorem dX6_gather_75 : decode cX6_gather 75 = .ok (.getfield 29, 3) := by decide +kernel
theorem dX6_gather_78 : decode cX6_gather 78 = .ok (.getfield 228, 3) := by decide +kernel
theorem dX6_gather_81 : decode cX6_gather 81 = .ok (.getfield 191, 3) := by decide +kernel
theorem dX6_gather_84 : decode cX6_gather 84 = .ok (.iload_n 3, 1) := by decide +kernel
theorem dX6_gather_85 : decode cX6_gather 85 = .ok (.invokestatic 140, 3) := by decide +kernel
theorem dX6_gather_88 : decode cX6_gather 88 = .ok (.aload_n 0, 1) := by decide +kernel
theorem dX6_gather_89 : decode cX6_gather 89 = .ok (.getfield 22, 3) := by decide +kernel
theorem dX6_gather_92 : decode cX6_gather 92 = .ok (.getfield 191, 3) := by decide +kernel
theorem dX6_gather_95 : decode cX6_gather 95 = .ok (.iload_n 3, 1) := by decide +kernel
theorem dX6_gather_96 : decode cX6_gather 96 = .ok (.invokestatic 140, 3) := by decide +kernel
theorem dX6_gather_99 : decode cX6_gather 99 = .ok (.isub, 1) := by decide +kernel
theorem dX6_gather_100 : decode cX6_gather 100 = .ok (.ireturn, 1) := by decide +kernel
set_option maxRecDepth 20000 in
theorem ggX6_canHave_X6_isThing : GoodIn wsX6_canHave wsX6_isThing := goodIn_r _ [11] (by decide +kernel) (by decide +kernel)
set_option maxRecDepth 20000 in
theorem gX6_canHave_X6_isThing : GoodIn wsX6_canHave (va_wsS RX6 96 yX6_isThing wsX6_isThing) := goodIn_app (goodIn_of _ (by decide +kernel)) ggX6_canHave_X6_isThing
set_option maxRecDepth 20000 in
theorem ggX6_canHave_X6_at : GoodIn wsX6_canHave wsX6_at := goodIn_r _ [14] (by decide +kernel) (by decide +kernel)
set_option maxRecDepth 20000 in
theorem gX6_canHave_X6_at : GoodIn wsX6_canHave (va_wsS RX6 140 yX6_at wsX6_at) := goodIn_app (goodIn_of _ (by decide +kernel)) ggX6_canHave_X6_at
set_option maxRecDepth 20000 in
theorem ggX6_canHave_X0_yieldOf : GoodIn wsX6_canHave wsX0_yieldOf := goodIn_r _ [19, 20, 13, 10, 14, 141, 142, 143, 144, 145, 146, 147, 148] (by decide +kernel) (by decide +kernel)
set_option maxRecDepth 20000 in
theorem gX6_canHave_X0_yieldOf : GoodIn wsX6_canHave (wsV RX6 103 RX0 yX0_yieldOf wsX0_yieldOf) := goodIn_app (goodIn_of _ (by decide +kernel)) ggX6_canHave_X0_yieldOf
set_option maxRecDepth 20000 in
theorem ggX6_canHave_X6_divideUp : GoodIn wsX6_canHave wsX6_divideUp := goodIn_r _ [23] (by decide +kernel) (by decide +kernel)
set_option maxRecDepth 20000 in
theorem gX6_canHave_X6_divideUp : GoodIn wsX6_canHave (va_wsS RX6 234 yX6_divideUp wsX6_divideUp) := goodIn_app (goodIn_of _ (by decide +kernel)) ggX6_canHave_X6_divideUp
set_option maxRecDepth 20000 in
theorem ggX6_canHave_X5_begin : GoodIn wsX6_canHave wsX5_begin := goodIn_r _ [28, 29, 30, 31, 32, 33, 34, 35, 36, 37, 38, 39, 40, 41, 42, 43, 44, 45, 46, 10, 47, 2, 3, 4, 5, 48, 49, 50, 51, 149, 150, 151, 152, 153, 134, 135, 136, 137, 138, 139, 140] (by decide +kernel) (by decide +kernel)
set_option maxRecDepth 20000 in
theorem gX6_canHave_X5_begin : GoodIn wsX6_canHave (wsV RX6 160 RX5 yX5_begin wsX5_begin) := goodIn_app (goodIn_of _ (by decide +kernel)) ggX6_canHave_X5_begin
set_option maxRecDepth 20000 in
theorem ggX6_canHave_X5_runAll : GoodIn wsX6_canHave wsX5_runAll := goodIn_r _ [55, 31, 56, 57, 58, 27, 59, 32, 29, 60, 61, 62, 18, 63, 64, 13, 10, 14, 65, 66, 67, 68, 69, 70, 71, 72, 73, 74, 75, 76, 77, 78, 16, 17, 19, 20, 79, 80, 81, 82, 83, 84, 85, 86, 87, 88, 89, 90, 22, 23, 91, 92, 93, 94, 30, 33, 95, 96, 97, 98, 99, 100, 3, 4, 5, 101, 102, 103, 104, 105, 106, 107, 108, 109, 110, 111, 112, 113, 114, 115, 116, 117, 118, 119, 120, 121, 122, 149, 150, 151, 152, 153, 141, 142, 143, 144, 145, 146, 147, 148, 134, 135, 136, 137, 138, 139, 140] (by decide +kernel) (by decide +kernel)
set_option maxRecDepth 20000 in
theorem gX6_canHave_X5_runAll : GoodIn wsX6_canHave (wsV RX6 172 RX5 yX5_runAll wsX5_runAll) := goodIn_app (goodIn_of _ (by decide +kernel)) ggX6_canHave_X5_runAll
theorem dX6_canHave_0 : decode cX6_canHave 0 = .ok (.iload_n 1, 1) := by decide +kernel
theorem dX6_canHave_1 : decode cX6_canHave 1 = .ok (.invokestatic 96, 3) := by decide +kernel
theorem dX6_canHave_4 : decode cX6_canHave 4 = .ok (.ifCond .ne 5, 3) := by decide +kernel
theorem dX6_canHave_7 : decode cX6_canHave 7 = .ok (.iconst (-1), 1) := by decide +kernel
theorem dX6_canHave_8 : decode cX6_canHave 8 = .ok (.ireturn, 1) := by decide +kernel
theorem dX6_canHave_9 : decode cX6_canHave 9 = .ok (.aload_n 0, 1) := by decide +kernel
theorem dX6_canHave_10 : decode cX6_canHave 10 = .ok (.getfield 22, 3) := by decide +kernel
theorem dX6_canHave_13 : decode cX6_canHave 13 = .ok (.getfield 137, 3) := by decide +kernel
theorem dX6_canHave_16 : decode cX6_canHave 16 = .ok (.iload_n 1, 1) := by decide +kernel
theorem dX6_canHave_17 : decode cX6_canHave 17 = .ok (.invokestatic 140, 3) := by decide +kernel
theorem dX6_canHave_20 : decode cX6_canHave 20 = .ok (.sipush 999, 3) := by decide +kernel
theorem dX6_canHave_23 : decode cX6_canHave 23 = .ok (.invokestatic 231, 3) := by decide +kernel
theorem dX6_canHave_26 : decode cX6_canHave 26 = .ok (.istore_n 2, 1) := by decide +kernel
theorem dX6_canHave_27 : decode cX6_canHave 27 = .ok (.aload_n 0, 1) := by decide +kernel
theorem dX6_canHave_28 : decode cX6_canHave 28 = .ok (.getfield 10, 3) := by decide +kernel
theorem dX6_canHave_31 : decode cX6_canHave 31 = .ok (.iload_n 1, 1) := by decide +kernel
theorem dX6_canHave_32 : decode cX6_canHave 32 = .ok (.invokevirtual 103, 3) := by decide +kernel
theorem dX6_canHave_35 : decode cX6_canHave 35 = .ok (.istore_n 3, 1) := by decide +kernel
theorem dX6_canHave_36 : decode cX6_canHave 36 = .ok (.iload_n 3, 1) := by decide +kernel
theorem dX6_canHave_37 : decode cX6_canHave 37 = .ok (.iconst 1, 1) := by decide +kernel
theorem dX6_canHave_38 : decode cX6_canHave 38 = .ok (.if_icmp .ge 5, 3) := by decide +kernel
theorem dX6_canHave_41 : decode cX6_canHave 41 = .ok (.iload_n 2, 1) := by decide +kernel
theorem dX6_canHave_42 : decode cX6_canHave 42 = .ok (.ireturn, 1) := by decide +kernel
theorem dX6_canHave_43 : decode cX6_canHave 43 = .ok (.sipush 999, 3) := by decide +kernel
theorem dX6_canHave_46 : decode cX6_canHave 46 = .ok (.iload_n 2, 1) := by decide +kernel
theorem dX6_canHave_47 : decode cX6_canHave 47 = .ok (.isub, 1) := by decide +kernel
theorem dX6_canHave_48 : decode cX6_canHave 48 = .ok (.iload_n 3, 1) := by decide +kernel
theorem dX6_canHave_49 : decode cX6_canHave 49 = .ok (.invokestatic 234, 3) := by decide +kernel
theorem dX6_canHave_52 : decode cX6_canHave 52 = .ok (.sipush 500, 3) := by decide +kernel
theorem dX6_canHave_55 : decode cX6_canHave 55 = .ok (.invokestatic 231, 3) := by decide +kernel
theorem dX6_canHave_58 : decode cX6_canHave 58 = .ok (.istore 4, 2) := by decide +kernel
theorem dX6_canHave_60 : decode cX6_canHave 60 = .ok (.iload 4, 2) := by decide +kernel
theorem dX6_canHave_62 : decode cX6_canHave 62 = .ok (.istore 5, 2) := by decide +kernel
theorem dX6_canHave_64 : decode cX6_canHave 64 = .ok (.iload 5, 2) := by decide +kernel
theorem dX6_canHave_66 : decode cX6_canHave 66 = .ok (.ifCond .le 51, 3) := by decide +kernel
theorem dX6_canHave_69 : decode cX6_canHave 69 = .ok (.aload_n 0, 1) := by decide +kernel
theorem dX6_canHave_70 : decode cX6_canHave 70 = .ok (.getfield 29, 3) := by decide +kernel
theorem dX6_canHave_73 : decode cX6_canHave 73 = .ok (.aload_n 0, 1) := by decide +kernel
theorem dX6_canHave_74 : decode cX6_canHave 74 = .ok (.getfield 22, 3) := by decide +kernel
theorem dX6_canHave_77 : decode cX6_canHave 77 = .ok (.iconst 0, 1) := by decide +kernel
theorem dX6_canHave_78 : decode cX6_canHave 78 = .ok (.invokevirtual 160, 3) := by decide +kernel
theorem dX6_canHave_81 : decode cX6_canHave 81 = .ok (.aload_n 0, 1) := by decide +kernel
theorem dX6_canHave_82 : decode cX6_canHave 82 = .ok (.getfield 29, 3) := by decide +kernel
theorem dX6_canHave_85 : decode cX6_canHave 85 = .ok (.aload_n 0, 1) := by decide +kernel
theorem dX6_canHave_86 : decode cX6_canHave 86 = .ok (.getfield 10, 3) := by decide +kernel
theorem dX6_canHave_89 : decode cX6_canHave 89 = .ok (.iload_n 1, 1) := by decide +kernel
theorem dX6_canHave_90 : decode cX6_canHave 90 = .ok (.iload 5, 2) := by decide +kernel
theorem dX6_canHave_92 : decode cX6_canHave 92 = .ok (.invokevirtual 172, 3) := by decide +kernel
theorem dX6_canHave_95 : decode cX6_canHave 95 = .ok (.ifCond .eq 16, 3) := by decide +kernel
theorem dX6_canHave_98 : decode cX6_canHave 98 = .ok (.iload_n 2, 1) := by decide +kernel
theorem dX6_canHave_99 : decode cX6_canHave 99 = .ok (.iload_n 3, 1) := by decide +kernel
theorem dX6_canHave_100 : decode cX6_canHave 100 = .ok (.iload 5, 2) := by decide +kernel
theorem dX6_canHave_102 : decode cX6_canHave 102 = .ok (.imul, 1) := by decide +kernel
theorem dX6_canHave_103 : decode cX6_canHave 103 = .ok (.iadd, 1) := by decide +kernel
theorem dX6_canHave_104 : decode cX6_canHave 104 = .ok (.sipush 999, 3) := by decide +kernel
theorem dX6_canHave_107 : decode cX6_canHave 107 = .ok (.invokestatic 231, 3) := by decide +kernel
theorem dX6_canHave_110 : decode cX6_canHave 110 = .ok (.ireturn, 1) := by decide +kernel
theorem dX6_canHave_111 : decode cX6_canHave 111 = .ok (.iinc 5 (-1), 3) := by decide +kernel
theorem dX6_canHave_114 : decode cX6_canHave 114 = .ok (.goto (-50), 3) := by decide +kernel
theorem dX6_canHave_117 : decode cX6_canHave 117 = .ok (.iload_n 2, 1) := by decide +kernel
theorem dX6_canHave_118 : decode cX6_canHave 118 = .ok (.ireturn, 1) := by decide +kernel
set_option maxRecDepth 20000 in
theorem ggX6_bestGift_X6_isThing : GoodIn wsX6_bestGift wsX6_isThing := goodIn_r _ [7] (by decide +kernel) (by decide +kernel)
set_option maxRecDepth 20000 in
theorem gX6_bestGift_X6_isThing : GoodIn wsX6_bestGift (va_wsS RX6 96 yX6_isThing wsX6_isThing) := goodIn_app (goodIn_of _ (by decide +kernel)) ggX6_bestGift_X6_isThing
set_option maxRecDepth 20000 in
theorem ggX6_bestGift_X6_isWished : GoodIn wsX6_bestGift wsX6_isWished := goodIn_r _ [10] (by decide +kernel) (by decide +kernel)
set_option maxRecDepth 20000 in
theorem gX6_bestGift_X6_isWished : GoodIn wsX6_bestGift (va_wsS RX6 157 yX6_isWished wsX6_isWished) := goodIn_app (goodIn_of _ (by decide +kernel)) ggX6_bestGift_X6_isWished
set_option maxRecDepth 20000 in
theorem ggX6_bestGift_X5_begin : GoodIn wsX6_bestGift wsX5_begin := goodIn_r _ [15, 16, 17, 18, 19, 20, 21, 22, 23, 24, 25, 26, 27, 28, 29, 30, 31, 32, 33, 6, 34, 35, 36, 37, 38, 39, 40, 41, 42, 142, 143, 144, 145, 146, 147, 148, 149, 150, 151, 152, 153] (by decide +kernel) (by decide +kernel)
set_option maxRecDepth 20000 in
theorem gX6_bestGift_X5_begin : GoodIn wsX6_bestGift (wsV RX6 160 RX5 yX5_begin wsX5_begin) := goodIn_app (goodIn_of _ (by decide +kernel)) ggX6_bestGift_X5_begin
set_option maxRecDepth 20000 in
theorem ggX6_bestGift_X5_fulfil : GoodIn wsX6_bestGift wsX5_fulfil := goodIn_r _ [46, 16, 18, 47, 6, 48, 49, 50, 51, 14, 52, 53, 54, 55, 56, 57, 58, 59, 60, 61, 62, 63, 64, 65, 66, 67, 68, 69, 70, 71, 17, 20, 72, 73, 74, 75, 76, 77, 78, 79, 19, 80, 81, 82, 83, 84, 85, 86, 87, 88, 89, 90, 91, 92, 93, 94, 95, 96, 97, 98, 99, 100, 101, 102, 103, 36, 37, 38, 104, 105, 106, 107, 108, 109, 110, 111, 112, 113, 114, 115, 116, 117, 118, 119, 120, 121, 122, 142, 143, 144, 145, 146, 147, 148, 149, 150, 151, 152, 153, 154, 155, 156, 157, 158, 159, 160, 161] (by decide +kernel) (by decide +kernel)
set_option maxRecDepth 20000 in
theorem gX6_bestGift_X5_fulfil : GoodIn wsX6_bestGift (wsV RX6 164 RX5 yX5_fulfil wsX5_fulfil) := goodIn_app (goodIn_of _ (by decide +kernel)) ggX6_bestGift_X5_fulfil
set_option maxRecDepth 20000 in
theorem ggX6_bestGift_X5_gathered : GoodIn wsX6_bestGift wsX5_gathered := goodIn_r _ [126, 20, 142, 143, 144, 145, 146] (by decide +kernel) (by decide +kernel)
set_option maxRecDepth 20000 in
theorem gX6_bestGift_X5_gathered : GoodIn wsX6_bestGift (wsV RX6 226 RX5 yX5_gathered wsX5_gathered) := goodIn_app (goodIn_of _ (by decide +kernel)) ggX6_bestGift_X5_gathered
set_option maxRecDepth 20000 in
theorem ggX6_bestGift_X5_receive : GoodIn wsX6_bestGift wsX5_receive := goodIn_r _ [130, 16, 76, 77, 6, 78, 47, 48, 142, 143, 144, 145, 146, 147, 148, 149, 150, 151, 152, 153] (by decide +kernel) (by decide +kernel)
set_option maxRecDepth 20000 in
theorem gX6_bestGift_X5_receive : GoodIn wsX6_bestGift (wsV RX6 237 RX5 yX5_receive wsX5_receive) := goodIn_app (goodIn_of _ (by decide +kernel)) ggX6_bestGift_X5_receive
theorem dX6_bestGift_0 : decode cX6_bestGift 0 = .ok (.iload_n 1, 1) := by decide +kernel
theorem dX6_bestGift_1 : decode cX6_bestGift 1 = .ok (.invokestatic 96, 3) := by decide +kernel
theorem dX6_bestGift_4 : decode cX6_bestGift 4 = .ok (.ifCond .eq 10, 3) := by decide +kernel
theorem dX6_bestGift_7 : decode cX6_bestGift 7 = .ok (.iload_n 2, 1) := by decide +kernel
theorem dX6_bestGift_8 : decode cX6_bestGift 8 = .ok (.invokestatic 157, 3) := by decide +kernel
theorem dX6_bestGift_11 : decode cX6_bestGift 11 = .ok (.ifCond .ne 5, 3) := by decide +kernel
theorem dX6_bestGift_14 : decode cX6_bestGift 14 = .ok (.iconst (-1), 1) := by decide +kernel
theorem dX6_bestGift_15 : decode cX6_bestGift 15 = .ok (.ireturn, 1) := by decide +kernel
theorem dX6_bestGift_16 : decode cX6_bestGift 16 = .ok (.aload_n 0, 1) := by decide +kernel
theorem dX6_bestGift_17 : decode cX6_bestGift 17 = .ok (.getfield 29, 3) := by decide +kernel
theorem dX6_bestGift_20 : decode cX6_bestGift 20 = .ok (.aload_n 0, 1) := by decide +kernel
theorem dX6_bestGift_21 : decode cX6_bestGift 21 = .ok (.getfield 22, 3) := by decide +kernel
theorem dX6_bestGift_24 : decode cX6_bestGift 24 = .ok (.iconst 1, 1) := by decide +kernel
theorem dX6_bestGift_25 : decode cX6_bestGift 25 = .ok (.invokevirtual 160, 3) := by decide +kernel
theorem dX6_bestGift_28 : decode cX6_bestGift 28 = .ok (.aload_n 0, 1) := by decide +kernel
theorem dX6_bestGift_29 : decode cX6_bestGift 29 = .ok (.getfield 29, 3) := by decide +kernel
theorem dX6_bestGift_32 : decode cX6_bestGift 32 = .ok (.aload_n 0, 1) := by decide +kernel
theorem dX6_bestGift_33 : decode cX6_bestGift 33 = .ok (.getfield 10, 3) := by decide +kernel
theorem dX6_bestGift_36 : decode cX6_bestGift 36 = .ok (.iload_n 1, 1) := by decide +kernel
theorem dX6_bestGift_37 : decode cX6_bestGift 37 = .ok (.iload_n 2, 1) := by decide +kernel
theorem dX6_bestGift_38 : decode cX6_bestGift 38 = .ok (.invokevirtual 164, 3) := by decide +kernel
theorem dX6_bestGift_41 : decode cX6_bestGift 41 = .ok (.ifCond .ne 6, 3) := by decide +kernel
theorem dX6_bestGift_44 : decode cX6_bestGift 44 = .ok (.bipush (-3), 2) := by decide +kernel
theorem dX6_bestGift_46 : decode cX6_bestGift 46 = .ok (.ireturn, 1) := by decide +kernel
theorem dX6_bestGift_47 : decode cX6_bestGift 47 = .ok (.aload_n 0, 1) := by decide +kernel
theorem dX6_bestGift_48 : decode cX6_bestGift 48 = .ok (.getfield 29, 3) := by decide +kernel
theorem dX6_bestGift_51 : decode cX6_bestGift 51 = .ok (.invokevirtual 226, 3) := by decide +kernel
theorem dX6_bestGift_54 : decode cX6_bestGift 54 = .ok (.istore_n 3, 1) := by decide +kernel
theorem dX6_bestGift_55 : decode cX6_bestGift 55 = .ok (.bipush (-9), 2) := by decide +kernel
theorem dX6_bestGift_57 : decode cX6_bestGift 57 = .ok (.istore 4, 2) := by decide +kernel
theorem dX6_bestGift_59 : decode cX6_bestGift 59 = .ok (.iconst 0, 1) := by decide +kernel
theorem dX6_bestGift_60 : decode cX6_bestGift 60 = .ok (.istore 5, 2) := by decide +kernel
theorem dX6_bestGift_62 : decode cX6_bestGift 62 = .ok (.iload 5, 2) := by decide +kernel
theorem dX6_bestGift_64 : decode cX6_bestGift 64 = .ok (.bipush 20, 2) := by decide +kernel
theorem dX6_bestGift_66 : decode cX6_bestGift 66 = .ok (.if_icmp .ge 72, 3) := by decide +kernel
theorem dX6_bestGift_69 : decode cX6_bestGift 69 = .ok (.aload_n 0, 1) := by decide +kernel
theorem dX6_bestGift_70 : decode cX6_bestGift 70 = .ok (.getfield 29, 3) := by decide +kernel
theorem dX6_bestGift_73 : decode cX6_bestGift 73 = .ok (.aload_n 0, 1) := by decide +kernel
theorem dX6_bestGift_74 : decode cX6_bestGift 74 = .ok (.getfield 22, 3) := by decide +kernel
theorem dX6_bestGift_77 : decode cX6_bestGift 77 = .ok (.iconst 1, 1) := by decide +kernel
theorem dX6_bestGift_78 : decode cX6_bestGift 78 = .ok (.invokevirtual 160, 3) := by decide +kernel
theorem dX6_bestGift_81 : decode cX6_bestGift 81 = .ok (.aload_n 0, 1) := by decide +kernel
theorem dX6_bestGift_82 : decode cX6_bestGift 82 = .ok (.getfield 29, 3) := by decide +kernel
theorem dX6_bestGift_85 : decode cX6_bestGift 85 = .ok (.iload 5, 2) := by decide +kernel
theorem dX6_bestGift_87 : decode cX6_bestGift 87 = .ok (.invokevirtual 237, 3) := by decide +kernel
theorem dX6_bestGift_90 : decode cX6_bestGift 90 = .ok (.ifCond .eq 42, 3) := by decide +kernel
theorem dX6_bestGift_93 : decode cX6_bestGift 93 = .ok (.aload_n 0, 1) := by decide +kernel
theorem dX6_bestGift_94 : decode cX6_bestGift 94 = .ok (.getfield 29, 3) := by decide +kernel
theorem dX6_bestGift_97 : decode cX6_bestGift 97 = .ok (.aload_n 0, 1) := by decide +kernel
theorem dX6_bestGift_98 : decode cX6_bestGift 98 = .ok (.getfield 10, 3) := by decide +kernel
theorem dX6_bestGift_101 : decode cX6_bestGift 101 = .ok (.iload_n 1, 1) := by decide +kernel
theorem dX6_bestGift_102 : decode cX6_bestGift 102 = .ok (.iload_n 2, 1) := by decide +kernel
theorem dX6_bestGift_103 : decode cX6_bestGift 103 = .ok (.invokevirtual 164, 3) := by decide +kernel
theorem dX6_bestGift_106 : decode cX6_bestGift 106 = .ok (.ifCond .eq 26, 3) := by decide +kernel
theorem dX6_bestGift_109 : decode cX6_bestGift 109 = .ok (.aload_n 0, 1) := by decide +kernel
theorem dX6_bestGift_110 : decode cX6_bestGift 110 = .ok (.getfield 29, 3) := by decide +kernel
theorem dX6_bestGift_113 : decode cX6_bestGift 113 = .ok (.invokevirtual 226, 3) := by decide +kernel
theorem dX6_bestGift_116 : decode cX6_bestGift 116 = .ok (.iload_n 3, 1) := by decide +kernel
theorem dX6_bestGift_117 : decode cX6_bestGift 117 = .ok (.if_icmp .ge 15, 3) := by decide +kernel
theorem dX6_bestGift_120 : decode cX6_bestGift 120 = .ok (.aload_n 0, 1) := by decide +kernel
theorem dX6_bestGift_121 : decode cX6_bestGift 121 = .ok (.getfield 29, 3) := by decide +kernel
theorem dX6_bestGift_124 : decode cX6_bestGift 124 = .ok (.invokevirtual 226, 3) := by decide +kernel
theorem dX6_bestGift_127 : decode cX6_bestGift 127 = .ok (.istore_n 3, 1) := by decide +kernel
theorem dX6_bestGift_128 : decode cX6_bestGift 128 = .ok (.iload 5, 2) := by decide +kernel
theorem dX6_bestGift_130 : decode cX6_bestGift 130 = .ok (.istore 4, 2) := by decide +kernel
theorem dX6_bestGift_132 : decode cX6_bestGift 132 = .ok (.iinc 5 1, 3) := by decide +kernel
theorem dX6_bestGift_135 : decode cX6_bestGift 135 = .ok (.goto (-73), 3) := by decide +kernel
theorem dX6_bestGift_138 : decode cX6_bestGift 138 = .ok (.iload 4, 2) := by decide +kernel
theorem dX6_bestGift_140 : decode cX6_bestGift 140 = .ok (.ireturn, 1) := by decide +kernel
set_option maxRecDepth 20000 in
theorem ggX6_keep_X6_roomAt : GoodIn wsX6_keep wsX6_roomAt := goodIn_r _ [7, 8, 9, 10, 11, 12, 6, 13, 14, 15, 16, 17, 18, 19, 20, 21, 22, 23, 24, 25, 26, 27, 28, 29, 30, 31, 32, 33, 34, 35, 36, 37, 38, 39, 40, 41, 42, 43, 44, 45, 46, 47, 48, 49, 50, 51, 52, 108, 109, 110, 111, 112, 113, 114, 115, 116, 117, 118, 119, 120, 121, 122, 123, 124] (by decide +kernel) (by decide +kernel)
set_option maxRecDepth 20000 in
theorem gX6_keep_X6_roomAt : GoodIn wsX6_keep (va_wsS RX6 240 yX6_roomAt wsX6_roomAt) := goodIn_app (goodIn_of _ (by decide +kernel)) ggX6_keep_X6_roomAt
set_option maxRecDepth 20000 in
theorem ggX6_keep_X3_hold : GoodIn wsX6_keep wsX3_hold := goodIn_r _ [56, 22, 26, 57, 58, 59, 21, 60, 32, 33, 34, 35, 36, 37, 38, 39, 61, 6, 62, 63, 64, 65, 66, 67, 68, 69, 70, 71, 72, 73, 25, 74, 47, 48, 49, 50, 51, 52, 75, 108, 109, 110, 111, 112, 113, 114, 115, 116, 117, 118, 119, 120, 121, 122, 123, 124] (by decide +kernel) (by decide +kernel)
set_option maxRecDepth 20000 in
theorem gX6_keep_X3_hold : GoodIn wsX6_keep (wsV RX6 244 RX3 yX3_hold wsX3_hold) := goodIn_app (goodIn_of _ (by decide +kernel)) ggX6_keep_X3_hold
set_option maxRecDepth 20000 in
theorem ggX6_keep_X0_recipes : GoodIn wsX6_keep wsX0_recipes := goodIn_r _ [79, 80, 81, 82, 21, 83, 84, 85, 86, 87, 32, 88, 6, 89, 90, 91, 92, 93, 94, 95, 96, 110, 111, 112, 113, 114, 115, 116, 117] (by decide +kernel) (by decide +kernel)
set_option maxRecDepth 20000 in
theorem gX6_keep_X0_recipes : GoodIn wsX6_keep (wsV RX6 184 RX0 yX0_recipes wsX0_recipes) := goodIn_app (goodIn_of _ (by decide +kernel)) ggX6_keep_X0_recipes
theorem dX6_keep_0 : decode cX6_keep 0 = .ok (.iload_n 1, 1) := by decide +kernel
theorem dX6_keep_1 : decode cX6_keep 1 = .ok (.ifCond .lt 12, 3) := by decide +kernel
theorem dX6_keep_4 : decode cX6_keep 4 = .ok (.iload_n 1, 1) := by decide +kernel
theorem dX6_keep_5 : decode cX6_keep 5 = .ok (.aload_n 0, 1) := by decide +kernel
theorem dX6_keep_6 : decode cX6_keep 6 = .ok (.getfield 42, 3) := by decide +kernel
theorem dX6_keep_9 : decode cX6_keep 9 = .ok (.arraylength, 1) := by decide +kernel
theorem dX6_keep_10 : decode cX6_keep 10 = .ok (.if_icmp .lt 5, 3) := by decide +kernel
theorem dX6_keep_13 : decode cX6_keep 13 = .ok (.iconst (-1), 1) := by decide +kernel
theorem dX6_keep_14 : decode cX6_keep 14 = .ok (.ireturn, 1) := by decide +kernel
theorem dX6_keep_15 : decode cX6_keep 15 = .ok (.aload_n 0, 1) := by decide +kernel
theorem dX6_keep_16 : decode cX6_keep 16 = .ok (.getfield 42, 3) := by decide +kernel
theorem dX6_keep_19 : decode cX6_keep 19 = .ok (.iload_n 1, 1) := by decide +kernel
theorem dX6_keep_20 : decode cX6_keep 20 = .ok (.invokestatic 240, 3) := by decide +kernel
theorem dX6_keep_23 : decode cX6_keep 23 = .ok (.aload_n 0, 1) := by decide +kernel
theorem dX6_keep_24 : decode cX6_keep 24 = .ok (.getfield 10, 3) := by decide +kernel
theorem dX6_keep_27 : decode cX6_keep 27 = .ok (.aload_n 0, 1) := by decide +kernel
theorem dX6_keep_28 : decode cX6_keep 28 = .ok (.getfield 22, 3) := by decide +kernel
theorem dX6_keep_31 : decode cX6_keep 31 = .ok (.invokevirtual 244, 3) := by decide +kernel
theorem dX6_keep_34 : decode cX6_keep 34 = .ok (.aload_n 0, 1) := by decide +kernel
theorem dX6_keep_35 : decode cX6_keep 35 = .ok (.getfield 10, 3) := by decide +kernel
theorem dX6_keep_38 : decode cX6_keep 38 = .ok (.invokevirtual 184, 3) := by decide +kernel
theorem dX6_keep_41 : decode cX6_keep 41 = .ok (.ireturn, 1) := by decide +kernel
set_option maxRecDepth 20000 in
theorem ggX6_back_X6_stateAt : GoodIn wsX6_back wsX6_stateAt := goodIn_r _ [8] (by decide +kernel) (by decide +kernel)
set_option maxRecDepth 20000 in
theorem gX6_back_X6_stateAt : GoodIn wsX6_back (va_wsS RX6 247 yX6_stateAt wsX6_stateAt) := goodIn_app (goodIn_of _ (by decide +kernel)) ggX6_back_X6_stateAt
set_option maxRecDepth 20000 in
theorem ggX6_back_X1_remember : GoodIn wsX6_back wsX1_remember := goodIn_r _ [13, 14, 15, 16, 17, 18, 19, 12, 20, 21, 22, 23, 24, 25, 7, 26, 27, 28, 29, 5, 6, 8, 30, 31, 32, 33, 34, 35, 36, 37, 38, 39, 40, 41, 42, 43, 44, 45, 46, 47, 48, 49, 50, 51, 52, 53, 54, 55, 56, 57, 58, 59, 60, 61, 62, 63, 64, 65, 66, 67, 68, 69, 70, 71, 72, 73, 74, 75, 76, 77, 78, 79, 80, 81, 82, 83, 84, 85, 86, 87, 88, 89, 90, 91, 128, 129, 130, 131, 132, 133, 134, 135, 136, 137, 138, 139, 140, 141, 142, 143, 144, 145, 146, 147] (by decide +kernel) (by decide +kernel)
set_option maxRecDepth 20000 in
theorem gX6_back_X1_remember : GoodIn wsX6_back (wsV RX6 85 RX1 yX1_remember wsX1_remember) := goodIn_app (goodIn_of _ (by decide +kernel)) ggX6_back_X1_remember
set_option maxRecDepth 20000 in
theorem ggX6_back_X3_layOut : GoodIn wsX6_back wsX3_layOut := goodIn_r _ [95, 38, 42, 73, 74, 75, 37, 76, 48, 49, 50, 51, 52, 53, 54, 55, 77, 7, 78, 79, 80, 81, 82, 83, 84, 85, 86, 87, 88, 89, 41, 90, 63, 64, 65, 66, 67, 68, 91, 131, 132, 133, 134, 135, 136, 137, 138, 139, 140, 141, 142, 143, 144, 145, 146, 147] (by decide +kernel) (by decide +kernel)
set_option maxRecDepth 20000 in
theorem gX6_back_X3_layOut : GoodIn wsX6_back (wsV RX6 250 RX3 yX3_layOut wsX3_layOut) := goodIn_app (goodIn_of _ (by decide +kernel)) ggX6_back_X3_layOut
set_option maxRecDepth 20000 in
theorem ggX6_back_X0_recipes : GoodIn wsX6_back wsX0_recipes := goodIn_r _ [99, 100, 101, 102, 37, 103, 104, 105, 106, 107, 48, 108, 7, 109, 110, 111, 112, 113, 114, 115, 116, 133, 134, 135, 136, 137, 138, 139, 140] (by decide +kernel) (by decide +kernel)
set_option maxRecDepth 20000 in
theorem gX6_back_X0_recipes : GoodIn wsX6_back (wsV RX6 184 RX0 yX0_recipes wsX0_recipes) := goodIn_app (goodIn_of _ (by decide +kernel)) ggX6_back_X0_recipes
theorem dX6_back_0 : decode cX6_back 0 = .ok (.iload_n 1, 1) := by decide +kernel
theorem dX6_back_1 : decode cX6_back 1 = .ok (.ifCond .lt 12, 3) := by decide +kernel
theorem dX6_back_4 : decode cX6_back 4 = .ok (.iload_n 1, 1) := by decide +kernel
theorem dX6_back_5 : decode cX6_back 5 = .ok (.aload_n 0, 1) := by decide +kernel
theorem dX6_back_6 : decode cX6_back 6 = .ok (.getfield 42, 3) := by decide +kernel
theorem dX6_back_9 : decode cX6_back 9 = .ok (.arraylength, 1) := by decide +kernel
theorem dX6_back_10 : decode cX6_back 10 = .ok (.if_icmp .lt 5, 3) := by decide +kernel
theorem dX6_back_13 : decode cX6_back 13 = .ok (.iconst (-1), 1) := by decide +kernel
theorem dX6_back_14 : decode cX6_back 14 = .ok (.ireturn, 1) := by decide +kernel
theorem dX6_back_15 : decode cX6_back 15 = .ok (.aload_n 0, 1) := by decide +kernel
theorem dX6_back_16 : decode cX6_back 16 = .ok (.getfield 42, 3) := by decide +kernel
theorem dX6_back_19 : decode cX6_back 19 = .ok (.iload_n 1, 1) := by decide +kernel
theorem dX6_back_20 : decode cX6_back 20 = .ok (.invokestatic 247, 3) := by decide +kernel
theorem dX6_back_23 : decode cX6_back 23 = .ok (.astore_n 2, 1) := by decide +kernel
theorem dX6_back_24 : decode cX6_back 24 = .ok (.aload_n 2, 1) := by decide +kernel
theorem dX6_back_25 : decode cX6_back 25 = .ok (.ifnonnull 6, 3) := by decide +kernel
theorem dX6_back_28 : decode cX6_back 28 = .ok (.bipush (-2), 2) := by decide +kernel
theorem dX6_back_30 : decode cX6_back 30 = .ok (.ireturn, 1) := by decide +kernel
theorem dX6_back_31 : decode cX6_back 31 = .ok (.aload_n 0, 1) := by decide +kernel
theorem dX6_back_32 : decode cX6_back 32 = .ok (.getfield 36, 3) := by decide +kernel
theorem dX6_back_35 : decode cX6_back 35 = .ok (.aload_n 0, 1) := by decide +kernel
theorem dX6_back_36 : decode cX6_back 36 = .ok (.getfield 10, 3) := by decide +kernel
theorem dX6_back_39 : decode cX6_back 39 = .ok (.aload_n 0, 1) := by decide +kernel
theorem dX6_back_40 : decode cX6_back 40 = .ok (.getfield 22, 3) := by decide +kernel
theorem dX6_back_43 : decode cX6_back 43 = .ok (.invokevirtual 85, 3) := by decide +kernel
theorem dX6_back_46 : decode cX6_back 46 = .ok (.aload_n 2, 1) := by decide +kernel
theorem dX6_back_47 : decode cX6_back 47 = .ok (.aload_n 0, 1) := by decide +kernel
theorem dX6_back_48 : decode cX6_back 48 = .ok (.getfield 10, 3) := by decide +kernel
theorem dX6_back_51 : decode cX6_back 51 = .ok (.aload_n 0, 1) := by decide +kernel
theorem dX6_back_52 : decode cX6_back 52 = .ok (.getfield 22, 3) := by decide +kernel
theorem dX6_back_55 : decode cX6_back 55 = .ok (.invokevirtual 250, 3) := by decide +kernel
theorem dX6_back_58 : decode cX6_back 58 = .ok (.aload_n 0, 1) := by decide +kernel
theorem dX6_back_59 : decode cX6_back 59 = .ok (.getfield 10, 3) := by decide +kernel
theorem dX6_back_62 : decode cX6_back 62 = .ok (.invokevirtual 184, 3) := by decide +kernel
theorem dX6_back_65 : decode cX6_back 65 = .ok (.ireturn, 1) := by decide +kernel
set_option maxRecDepth 20000 in
theorem ggX6_acceptWorks_X1_remember : GoodIn wsX6_acceptWorks wsX1_remember := goodIn_r _ [9, 10, 11, 12, 13, 14, 15, 8, 16, 17, 18, 19, 20, 21, 22, 23, 24, 25, 26, 27, 28, 29, 30, 31, 32, 33, 34, 35, 36, 37, 38, 39, 40, 41, 42, 43, 44, 45, 46, 47, 48, 49, 50, 51, 52, 53, 54, 55, 56, 57, 58, 59, 60, 61, 62, 63, 64, 65, 66, 67, 68, 69, 70, 71, 72, 73, 74, 75, 76, 77, 78, 79, 80, 81, 82, 83, 84, 85, 86, 87, 88, 89, 90, 91, 115, 116, 117, 118, 119, 120, 121, 122, 123, 124, 125, 126, 127, 128, 129, 130, 131, 132, 133, 134] (by decide +kernel) (by decide +kernel)
set_option maxRecDepth 20000 in
theorem gX6_acceptWorks_X1_remember : GoodIn wsX6_acceptWorks (wsV RX6 85 RX1 yX1_remember wsX1_remember) := goodIn_app (goodIn_of _ (by decide +kernel)) ggX6_acceptWorks_X1_remember
set_option maxRecDepth 20000 in
theorem ggX6_acceptWorks_X4_copyFrom : GoodIn wsX6_acceptWorks wsX4_copyFrom := goodIn_r _ [90, 63, 64, 65, 66, 67, 68, 91, 77, 22, 78, 79, 80, 81, 82, 83, 84, 85, 86, 128, 129, 130, 131, 132, 133, 134] (by decide +kernel) (by decide +kernel)
set_option maxRecDepth 20000 in
theorem gX6_acceptWorks_X4_copyFrom : GoodIn wsX6_acceptWorks (wsV RX6 253 RX4 yX4_copyFrom wsX4_copyFrom) := goodIn_app (goodIn_of _ (by decide +kernel)) ggX6_acceptWorks_X4_copyFrom
set_option maxRecDepth 20000 in
theorem ggX6_acceptWorks_X5_gathered : GoodIn wsX6_acceptWorks wsX5_gathered := goodIn_r _ [97, 98, 110, 111, 112, 113, 114] (by decide +kernel) (by decide +kernel)
set_option maxRecDepth 20000 in
theorem gX6_acceptWorks_X5_gathered : GoodIn wsX6_acceptWorks (wsV RX6 226 RX5 yX5_gathered wsX5_gathered) := goodIn_app (goodIn_of _ (by decide +kernel)) ggX6_acceptWorks_X5_gathered
theorem dX6_acceptWorks_0 : decode cX6_acceptWorks 0 = .ok (.aload_n 0, 1) := by decide +kernel
theorem dX6_acceptWorks_1 : decode cX6_acceptWorks 1 = .ok (.getfield 36, 3) := by decide +kernel
theorem dX6_acceptWorks_4 : decode cX6_acceptWorks 4 = .ok (.aload_n 0, 1) := by decide +kernel
theorem dX6_acceptWorks_5 : decode cX6_acceptWorks 5 = .ok (.getfield 10, 3) := by decide +kernel
theorem dX6_acceptWorks_8 : decode cX6_acceptWorks 8 = .ok (.aload_n 0, 1) := by decide +kernel
theorem dX6_acceptWorks_9 : decode cX6_acceptWorks 9 = .ok (.getfield 22, 3) := by decide +kernel
theorem dX6_acceptWorks_12 : decode cX6_acceptWorks 12 = .ok (.invokevirtual 85, 3) := by decide +kernel
theorem dX6_acceptWorks_15 : decode cX6_acceptWorks 15 = .ok (.aload_n 0, 1) := by decide +kernel
theorem dX6_acceptWorks_16 : decode cX6_acceptWorks 16 = .ok (.getfield 22, 3) := by decide +kernel
theorem dX6_acceptWorks_19 : decode cX6_acceptWorks 19 = .ok (.aload_n 0, 1) := by decide +kernel
theorem dX6_acceptWorks_20 : decode cX6_acceptWorks 20 = .ok (.getfield 29, 3) := by decide +kernel
theorem dX6_acceptWorks_23 : decode cX6_acceptWorks 23 = .ok (.getfield 228, 3) := by decide +kernel
theorem dX6_acceptWorks_26 : decode cX6_acceptWorks 26 = .ok (.invokevirtual 253, 3) := by decide +kernel
theorem dX6_acceptWorks_29 : decode cX6_acceptWorks 29 = .ok (.aload_n 0, 1) := by decide +kernel
theorem dX6_acceptWorks_30 : decode cX6_acceptWorks 30 = .ok (.getfield 29, 3) := by decide +kernel
theorem dX6_acceptWorks_33 : decode cX6_acceptWorks 33 = .ok (.invokevirtual 226, 3) := by decide +kernel
theorem dX6_acceptWorks_36 : decode cX6_acceptWorks 36 = .ok (.ireturn, 1) := by decide +kernel
theorem dX6_isThing_0 : decode cX6_isThing 0 = .ok (.iload_n 0, 1) := by decide +kernel
theorem dX6_isThing_1 : decode cX6_isThing 1 = .ok (.ifCond .lt 13, 3) := by decide +kernel
theorem dX6_isThing_4 : decode cX6_isThing 4 = .ok (.iload_n 0, 1) := by decide +kernel
theorem dX6_isThing_5 : decode cX6_isThing 5 = .ok (.bipush 20, 2) := by decide +kernel
theorem dX6_isThing_7 : decode cX6_isThing 7 = .ok (.if_icmp .ge 7, 3) := by decide +kernel
theorem dX6_isThing_10 : decode cX6_isThing 10 = .ok (.iconst 1, 1) := by decide +kernel
theorem dX6_isThing_11 : decode cX6_isThing 11 = .ok (.goto 4, 3) := by decide +kernel
theorem dX6_isThing_14 : decode cX6_isThing 14 = .ok (.iconst 0, 1) := by decide +kernel
theorem dX6_isThing_15 : decode cX6_isThing 15 = .ok (.ireturn, 1) := by decide +kernel
theorem dX6_isWished_0 : decode cX6_isWished 0 = .ok (.iload_n 0, 1) := by decide +kernel
theorem dX6_isWished_1 : decode cX6_isWished 1 = .ok (.iconst 1, 1) := by decide +kernel
theorem dX6_isWished_2 : decode cX6_isWished 2 = .ok (.if_icmp .lt 14, 3) := by decide +kernel
theorem dX6_isWished_5 : decode cX6_isWished 5 = .ok (.iload_n 0, 1) := by decide +kernel
theorem dX6_isWished_6 : decode cX6_isWished 6 = .ok (.sipush 999, 3) := by decide +kernel
theorem dX6_isWished_9 : decode cX6_isWished 9 = .ok (.if_icmp .gt 7, 3) := by decide +kernel
theorem dX6_isWished_12 : decode cX6_isWished 12 = .ok (.iconst 1, 1) := by decide +kernel
theorem dX6_isWished_13 : decode cX6_isWished 13 = .ok (.goto 4, 3) := by decide +kernel
theorem dX6_isWished_16 : decode cX6_isWished 16 = .ok (.iconst 0, 1) := by decide +kernel
theorem dX6_isWished_17 : decode cX6_isWished 17 = .ok (.ireturn, 1) := by decide +kernel
theorem dX6_hasBit_0 : decode cX6_hasBit 0 = .ok (.iload_n 0, 1) := by decide +kernel
theorem dX6_hasBit_1 : decode cX6_hasBit 1 = .ok (.iload_n 1, 1) := by decide +kernel
theorem dX6_hasBit_2 : decode cX6_hasBit 2 = .ok (.ishr, 1) := by decide +kernel
theorem dX6_hasBit_3 : decode cX6_hasBit 3 = .ok (.iconst 1, 1) := by decide +kernel
theorem dX6_hasBit_4 : decode cX6_hasBit 4 = .ok (.iand, 1) := by decide +kernel
theorem dX6_hasBit_5 : decode cX6_hasBit 5 = .ok (.ifCond .eq 7, 3) := by decide +kernel
theorem dX6_hasBit_8 : decode cX6_hasBit 8 = .ok (.iconst 1, 1) := by decide +kernel
theorem dX6_hasBit_9 : decode cX6_hasBit 9 = .ok (.goto 4, 3) := by decide +kernel
theorem dX6_hasBit_12 : decode cX6_hasBit 12 = .ok (.iconst 0, 1) := by decide +kernel
theorem dX6_hasBit_13 : decode cX6_hasBit 13 = .ok (.ireturn, 1) := by decide +kernel
theorem dX6_divideUp_0 : decode cX6_divideUp 0 = .ok (.iload_n 1, 1) := by decide +kernel
theorem dX6_divideUp_1 : decode cX6_divideUp 1 = .ok (.iconst 1, 1) := by decide +kernel
theorem dX6_divideUp_2 : decode cX6_divideUp 2 = .ok (.if_icmp .ge 7, 3) := by decide +kernel
theorem dX6_divideUp_5 : decode cX6_divideUp 5 = .ok (.iconst 0, 1) := by decide +kernel
theorem dX6_divideUp_6 : decode cX6_divideUp 6 = .ok (.goto 10, 3) := by decide +kernel
theorem dX6_divideUp_9 : decode cX6_divideUp 9 = .ok (.iload_n 0, 1) := by decide +kernel
theorem dX6_divideUp_10 : decode cX6_divideUp 10 = .ok (.iload_n 1, 1) := by decide +kernel
theorem dX6_divideUp_11 : decode cX6_divideUp 11 = .ok (.iadd, 1) := by decide +kernel
theorem dX6_divideUp_12 : decode cX6_divideUp 12 = .ok (.iconst 1, 1) := by decide +kernel
theorem dX6_divideUp_13 : decode cX6_divideUp 13 = .ok (.isub, 1) := by decide +kernel
theorem dX6_divideUp_14 : decode cX6_divideUp 14 = .ok (.iload_n 1, 1) := by decide +kernel
theorem dX6_divideUp_15 : decode cX6_divideUp 15 = .ok (.idiv, 1) := by decide +kernel
theorem dX6_divideUp_16 : decode cX6_divideUp 16 = .ok (.ireturn, 1) := by decide +kernel
theorem dX6_at_0 : decode cX6_at 0 = .ok (.iload_n 1, 1) := by decide +kernel
theorem dX6_at_1 : decode cX6_at 1 = .ok (.ifCond .lt 15, 3) := by decide +kernel
theorem dX6_at_4 : decode cX6_at 4 = .ok (.iload_n 1, 1) := by decide +kernel
theorem dX6_at_5 : decode cX6_at 5 = .ok (.aload_n 0, 1) := by decide +kernel
theorem dX6_at_6 : decode cX6_at 6 = .ok (.arraylength, 1) := by decide +kernel
theorem dX6_at_7 : decode cX6_at 7 = .ok (.if_icmp .ge 9, 3) := by decide +kernel
theorem dX6_at_10 : decode cX6_at 10 = .ok (.aload_n 0, 1) := by decide +kernel
theorem dX6_at_11 : decode cX6_at 11 = .ok (.iload_n 1, 1) := by decide +kernel
theorem dX6_at_12 : decode cX6_at 12 = .ok (.iaload, 1) := by decide +kernel
theorem dX6_at_13 : decode cX6_at 13 = .ok (.goto 4, 3) := by decide +kernel
theorem dX6_at_16 : decode cX6_at 16 = .ok (.iconst 0, 1) := by decide +kernel
theorem dX6_at_17 : decode cX6_at 17 = .ok (.ireturn, 1) := by decide +kernel
theorem dX6_put_0 : decode cX6_put 0 = .ok (.iload_n 1, 1) := by decide +kernel
theorem dX6_put_1 : decode cX6_put 1 = .ok (.ifCond .lt 13, 3) := by decide +kernel
theorem dX6_put_4 : decode cX6_put 4 = .ok (.iload_n 1, 1) := by decide +kernel
theorem dX6_put_5 : decode cX6_put 5 = .ok (.aload_n 0, 1) := by decide +kernel
theorem dX6_put_6 : decode cX6_put 6 = .ok (.arraylength, 1) := by decide +kernel
theorem dX6_put_7 : decode cX6_put 7 = .ok (.if_icmp .ge 7, 3) := by decide +kernel
theorem dX6_put_10 : decode cX6_put 10 = .ok (.aload_n 0, 1) := by decide +kernel
theorem dX6_put_11 : decode cX6_put 11 = .ok (.iload_n 1, 1) := by decide +kernel
theorem dX6_put_12 : decode cX6_put 12 = .ok (.iload_n 2, 1) := by decide +kernel
theorem dX6_put_13 : decode cX6_put 13 = .ok (.iastore, 1) := by decide +kernel
theorem dX6_put_14 : decode cX6_put 14 = .ok (.return_, 1) := by decide +kernel
theorem dX6_add_0 : decode cX6_add 0 = .ok (.iload_n 1, 1) := by decide +kernel
theorem dX6_add_1 : decode cX6_add 1 = .ok (.ifCond .lt 16, 3) := by decide +kernel
theorem dX6_add_4 : decode cX6_add 4 = .ok (.iload_n 1, 1) := by decide +kernel
theorem dX6_add_5 : decode cX6_add 5 = .ok (.aload_n 0, 1) := by decide +kernel
theorem dX6_add_6 : decode cX6_add 6 = .ok (.arraylength, 1) := by decide +kernel
theorem dX6_add_7 : decode cX6_add 7 = .ok (.if_icmp .ge 10, 3) := by decide +kernel
theorem dX6_add_10 : decode cX6_add 10 = .ok (.aload_n 0, 1) := by decide +kernel
theorem dX6_add_11 : decode cX6_add 11 = .ok (.iload_n 1, 1) := by decide +kernel
theorem dX6_add_12 : decode cX6_add 12 = .ok (.dup2, 1) := by decide +kernel
theorem dX6_add_13 : decode cX6_add 13 = .ok (.iaload, 1) := by decide +kernel
theorem dX6_add_14 : decode cX6_add 14 = .ok (.iload_n 2, 1) := by decide +kernel
theorem dX6_add_15 : decode cX6_add 15 = .ok (.iadd, 1) := by decide +kernel
theorem dX6_add_16 : decode cX6_add 16 = .ok (.iastore, 1) := by decide +kernel
theorem dX6_add_17 : decode cX6_add 17 = .ok (.return_, 1) := by decide +kernel
theorem dX6_sum_0 : decode cX6_sum 0 = .ok (.iconst 0, 1) := by decide +kernel
theorem dX6_sum_1 : decode cX6_sum 1 = .ok (.istore_n 1, 1) := by decide +kernel
theorem dX6_sum_2 : decode cX6_sum 2 = .ok (.iconst 0, 1) := by decide +kernel
theorem dX6_sum_3 : decode cX6_sum 3 = .ok (.istore_n 2, 1) := by decide +kernel
theorem dX6_sum_4 : decode cX6_sum 4 = .ok (.iload_n 2, 1) := by decide +kernel
theorem dX6_sum_5 : decode cX6_sum 5 = .ok (.aload_n 0, 1) := by decide +kernel
theorem dX6_sum_6 : decode cX6_sum 6 = .ok (.arraylength, 1) := by decide +kernel
theorem dX6_sum_7 : decode cX6_sum 7 = .ok (.if_icmp .ge 15, 3) := by decide +kernel
theorem dX6_sum_10 : decode cX6_sum 10 = .ok (.iload_n 1, 1) := by decide +kernel
theorem dX6_sum_11 : decode cX6_sum 11 = .ok (.aload_n 0, 1) := by decide +kernel
theorem dX6_sum_12 : decode cX6_sum 12 = .ok (.iload_n 2, 1) := by decide +kernel
theorem dX6_sum_13 : decode cX6_sum 13 = .ok (.iaload, 1) := by decide +kernel
theorem dX6_sum_14 : decode cX6_sum 14 = .ok (.iadd, 1) := by decide +kernel
theorem dX6_sum_15 : decode cX6_sum 15 = .ok (.istore_n 1, 1) := by decide +kernel
theorem dX6_sum_16 : decode cX6_sum 16 = .ok (.iinc 2 1, 3) := by decide +kernel
theorem dX6_sum_19 : decode cX6_sum 19 = .ok (.goto (-15), 3) := by decide +kernel
theorem dX6_sum_22 : decode cX6_sum 22 = .ok (.iload_n 1, 1) := by decide +kernel
theorem dX6_sum_23 : decode cX6_sum 23 = .ok (.ireturn, 1) := by decide +kernel
theorem dX6_stateAt_0 : decode cX6_stateAt 0 = .ok (.iload_n 1, 1) := by decide +kernel
theorem dX6_stateAt_1 : decode cX6_stateAt 1 = .ok (.ifCond .lt 15, 3) := by decide +kernel
theorem dX6_stateAt_4 : decode cX6_stateAt 4 = .ok (.iload_n 1, 1) := by decide +kernel
theorem dX6_stateAt_5 : decode cX6_stateAt 5 = .ok (.aload_n 0, 1) := by decide +kernel
theorem dX6_stateAt_6 : decode cX6_stateAt 6 = .ok (.arraylength, 1) := by decide +kernel
theorem dX6_stateAt_7 : decode cX6_stateAt 7 = .ok (.if_icmp .ge 9, 3) := by decide +kernel
theorem dX6_stateAt_10 : decode cX6_stateAt 10 = .ok (.aload_n 0, 1) := by decide +kernel
theorem dX6_stateAt_11 : decode cX6_stateAt 11 = .ok (.iload_n 1, 1) := by decide +kernel
theorem dX6_stateAt_12 : decode cX6_stateAt 12 = .ok (.aaload, 1) := by decide +kernel
theorem dX6_stateAt_13 : decode cX6_stateAt 13 = .ok (.goto 4, 3) := by decide +kernel
theorem dX6_stateAt_16 : decode cX6_stateAt 16 = .ok (.aconst_null, 1) := by decide +kernel
theorem dX6_stateAt_17 : decode cX6_stateAt 17 = .ok (.areturn, 1) := by decide +kernel
set_option maxRecDepth 20000 in
theorem ggX6_roomAt_X6_stateAt : GoodIn wsX6_roomAt wsX6_stateAt := goodIn_r _ [7] (by decide +kernel) (by decide +kernel)
set_option maxRecDepth 20000 in
theorem gX6_roomAt_X6_stateAt : GoodIn wsX6_roomAt (va_wsS RX6 247 yX6_stateAt wsX6_stateAt) := goodIn_app (goodIn_of _ (by decide +kernel)) ggX6_roomAt_X6_stateAt
set_option maxRecDepth 20000 in
theorem ggX6_roomAt_X3_init : GoodIn wsX6_roomAt wsX3_init := goodIn_r _ [9, 10, 11, 12, 13, 14, 15, 16, 17, 18, 19, 20, 21, 22, 23, 24, 25, 26, 27, 28, 29, 30, 31, 32, 33, 34, 35, 36, 37, 38, 39, 40, 41, 42, 43, 44, 45, 46, 49, 50, 51, 52, 53, 54, 55, 56, 47, 48, 57, 58, 59, 60, 61, 62, 63] (by decide +kernel) (by decide +kernel)
set_option maxRecDepth 20000 in
theorem gX6_roomAt_X3_init_n256 : GoodIn wsX6_roomAt (wsX3_init) := ggX6_roomAt_X3_init
theorem dX6_roomAt_0 : decode cX6_roomAt 0 = .ok (.aload_n 0, 1) := by decide +kernel
theorem dX6_roomAt_1 : decode cX6_roomAt 1 = .ok (.iload_n 1, 1) := by decide +kernel
theorem dX6_roomAt_2 : decode cX6_roomAt 2 = .ok (.invokestatic 247, 3) := by decide +kernel
theorem dX6_roomAt_5 : decode cX6_roomAt 5 = .ok (.astore_n 2, 1) := by decide +kernel
theorem dX6_roomAt_6 : decode cX6_roomAt 6 = .ok (.aload_n 2, 1) := by decide +kernel
theorem dX6_roomAt_7 : decode cX6_roomAt 7 = .ok (.ifnull 5, 3) := by decide +kernel
theorem dX6_roomAt_10 : decode cX6_roomAt 10 = .ok (.aload_n 2, 1) := by decide +kernel
theorem dX6_roomAt_11 : decode cX6_roomAt 11 = .ok (.areturn, 1) := by decide +kernel
theorem dX6_roomAt_12 : decode cX6_roomAt 12 = .ok (.new 40, 3) := by decide +kernel
theorem dX6_roomAt_15 : decode cX6_roomAt 15 = .ok (.dup, 1) := by decide +kernel
theorem dX6_roomAt_16 : decode cX6_roomAt 16 = .ok (.invokespecial 256, 3) := by decide +kernel
theorem dX6_roomAt_19 : decode cX6_roomAt 19 = .ok (.astore_n 3, 1) := by decide +kernel
theorem dX6_roomAt_20 : decode cX6_roomAt 20 = .ok (.iload_n 1, 1) := by decide +kernel
theorem dX6_roomAt_21 : decode cX6_roomAt 21 = .ok (.ifCond .lt 13, 3) := by decide +kernel
theorem dX6_roomAt_24 : decode cX6_roomAt 24 = .ok (.iload_n 1, 1) := by decide +kernel
theorem dX6_roomAt_25 : decode cX6_roomAt 25 = .ok (.aload_n 0, 1) := by decide +kernel
theorem dX6_roomAt_26 : decode cX6_roomAt 26 = .ok (.arraylength, 1) := by decide +kernel
theorem dX6_roomAt_27 : decode cX6_roomAt 27 = .ok (.if_icmp .ge 7, 3) := by decide +kernel
theorem dX6_roomAt_30 : decode cX6_roomAt 30 = .ok (.aload_n 0, 1) := by decide +kernel
theorem dX6_roomAt_31 : decode cX6_roomAt 31 = .ok (.iload_n 1, 1) := by decide +kernel
theorem dX6_roomAt_32 : decode cX6_roomAt 32 = .ok (.aload_n 3, 1) := by decide +kernel
theorem dX6_roomAt_33 : decode cX6_roomAt 33 = .ok (.aastore, 1) := by decide +kernel
theorem dX6_roomAt_34 : decode cX6_roomAt 34 = .ok (.aload_n 3, 1) := by decide +kernel
theorem dX6_roomAt_35 : decode cX6_roomAt 35 = .ok (.areturn, 1) := by decide +kernel
theorem dX6_copy_0 : decode cX6_copy 0 = .ok (.aload_n 0, 1) := by decide +kernel
theorem dX6_copy_1 : decode cX6_copy 1 = .ok (.iconst 0, 1) := by decide +kernel
theorem dX6_copy_2 : decode cX6_copy 2 = .ok (.aload_n 1, 1) := by decide +kernel
theorem dX6_copy_3 : decode cX6_copy 3 = .ok (.iconst 0, 1) := by decide +kernel
theorem dX6_copy_4 : decode cX6_copy 4 = .ok (.aload_n 0, 1) := by decide +kernel
theorem dX6_copy_5 : decode cX6_copy 5 = .ok (.arraylength, 1) := by decide +kernel
theorem dX6_copy_6 : decode cX6_copy 6 = .ok (.aload_n 1, 1) := by decide +kernel
theorem dX6_copy_7 : decode cX6_copy 7 = .ok (.arraylength, 1) := by decide +kernel
theorem dX6_copy_8 : decode cX6_copy 8 = .ok (.invokestatic 231, 3) := by decide +kernel
theorem dX6_copy_11 : decode cX6_copy 11 = .ok (.invokestatic 257, 3) := by decide +kernel
theorem dX6_copy_14 : decode cX6_copy 14 = .ok (.return_, 1) := by decide +kernel
end
section
set_option maxRecDepth 20000 in
theorem ggX7_init_X7_put : GoodIn wsX7_init wsX7_put := goodIn_r _ [24, 5, 25, 26, 27, 28, 29, 30, 31, 32, 33, 34, 35, 36, 37, 38, 39, 40, 41, 42, 43, 44, 45, 46, 47, 48, 49, 50, 51, 52, 53] (by decide +kernel) (by decide +kernel)
set_option maxRecDepth 20000 in
theorem gX7_init_X7_put : GoodIn wsX7_init (wsV RX7 54 RX7 yX7_put wsX7_put) := goodIn_app (goodIn_of _ (by decide +kernel)) ggX7_init_X7_put
theorem dX7_init_0 : decode cX7_init 0 = .ok (.aload_n 0, 1) := by decide +kernel
theorem dX7_init_1 : decode cX7_init 1 = .ok (.invokespecial 1, 3) := by decide +kernel
theorem dX7_init_4 : decode cX7_init 4 = .ok (.aload_n 0, 1) := by decide +kernel
theorem dX7_init_5 : decode cX7_init 5 = .ok (.sipush 462, 3) := by decide +kernel
theorem dX7_init_8 : decode cX7_init 8 = .ok (.newarray .int, 2) := by decide +kernel
theorem dX7_init_10 : decode cX7_init 10 = .ok (.putfield 7, 3) := by decide +kernel
theorem dX7_init_13 : decode cX7_init 13 = .ok (.aload_n 0, 1) := by decide +kernel
theorem dX7_init_14 : decode cX7_init 14 = .ok (.sipush 3696, 3) := by decide +kernel
theorem dX7_init_17 : decode cX7_init 17 = .ok (.newarray .int, 2) := by decide +kernel
theorem dX7_init_19 : decode cX7_init 19 = .ok (.putfield 13, 3) := by decide +kernel
theorem dX7_init_22 : decode cX7_init 22 = .ok (.aload_n 0, 1) := by decide +kernel
theorem dX7_init_23 : decode cX7_init 23 = .ok (.sipush 924, 3) := by decide +kernel
theorem dX7_init_26 : decode cX7_init 26 = .ok (.newarray .int, 2) := by decide +kernel
theorem dX7_init_28 : decode cX7_init 28 = .ok (.putfield 16, 3) := by decide +kernel
theorem dX7_init_31 : decode cX7_init 31 = .ok (.aload_n 0, 1) := by decide +kernel
theorem dX7_init_32 : decode cX7_init 32 = .ok (.bipush 60, 2) := by decide +kernel
theorem dX7_init_34 : decode cX7_init 34 = .ok (.newarray .int, 2) := by decide +kernel
theorem dX7_init_36 : decode cX7_init 36 = .ok (.putfield 19, 3) := by decide +kernel
theorem dX7_init_39 : decode cX7_init 39 = .ok (.aload_n 0, 1) := by decide +kernel
theorem dX7_init_40 : decode cX7_init 40 = .ok (.bipush (-9), 2) := by decide +kernel
theorem dX7_init_42 : decode cX7_init 42 = .ok (.putfield 22, 3) := by decide +kernel
theorem dX7_init_45 : decode cX7_init 45 = .ok (.aload_n 0, 1) := by decide +kernel
theorem dX7_init_46 : decode cX7_init 46 = .ok (.bipush (-9), 2) := by decide +kernel
theorem dX7_init_48 : decode cX7_init 48 = .ok (.putfield 26, 3) := by decide +kernel
theorem dX7_init_51 : decode cX7_init 51 = .ok (.aload_n 0, 1) := by decide +kernel
theorem dX7_init_52 : decode cX7_init 52 = .ok (.bipush 20, 2) := by decide +kernel
theorem dX7_init_54 : decode cX7_init 54 = .ok (.newarray .int, 2) := by decide +kernel
theorem dX7_init_56 : decode cX7_init 56 = .ok (.putfield 29, 3) := by decide +kernel
theorem dX7_init_59 : decode cX7_init 59 = .ok (.aload_n 0, 1) := by decide +kernel
theorem dX7_init_60 : decode cX7_init 60 = .ok (.bipush 16, 2) := by decide +kernel
theorem dX7_init_62 : decode cX7_init 62 = .ok (.newarray .int, 2) := by decide +kernel
theorem dX7_init_64 : decode cX7_init 64 = .ok (.putfield 32, 3) := by decide +kernel
theorem dX7_init_67 : decode cX7_init 67 = .ok (.aload_n 0, 1) := by decide +kernel
theorem dX7_init_68 : decode cX7_init 68 = .ok (.bipush 16, 2) := by decide +kernel
theorem dX7_init_70 : decode cX7_init 70 = .ok (.newarray .int, 2) := by decide +kernel
theorem dX7_init_72 : decode cX7_init 72 = .ok (.putfield 35, 3) := by decide +kernel
theorem dX7_init_75 : decode cX7_init 75 = .ok (.aload_n 0, 1) := by decide +kernel
theorem dX7_init_76 : decode cX7_init 76 = .ok (.bipush 16, 2) := by decide +kernel
theorem dX7_init_78 : decode cX7_init 78 = .ok (.newarray .int, 2) := by decide +kernel
theorem dX7_init_80 : decode cX7_init 80 = .ok (.putfield 38, 3) := by decide +kernel
theorem dX7_init_83 : decode cX7_init 83 = .ok (.aload_n 0, 1) := by decide +kernel
theorem dX7_init_84 : decode cX7_init 84 = .ok (.bipush 16, 2) := by decide +kernel
theorem dX7_init_86 : decode cX7_init 86 = .ok (.newarray .int, 2) := by decide +kernel
theorem dX7_init_88 : decode cX7_init 88 = .ok (.putfield 41, 3) := by decide +kernel
theorem dX7_init_91 : decode cX7_init 91 = .ok (.aload_n 0, 1) := by decide +kernel
theorem dX7_init_92 : decode cX7_init 92 = .ok (.sipush 462, 3) := by decide +kernel
theorem dX7_init_95 : decode cX7_init 95 = .ok (.newarray .int, 2) := by decide +kernel
theorem dX7_init_97 : decode cX7_init 97 = .ok (.putfield 44, 3) := by decide +kernel
theorem dX7_init_100 : decode cX7_init 100 = .ok (.aload_n 0, 1) := by decide +kernel
theorem dX7_init_101 : decode cX7_init 101 = .ok (.bipush 10, 2) := by decide +kernel
theorem dX7_init_103 : decode cX7_init 103 = .ok (.newarray .int, 2) := by decide +kernel
theorem dX7_init_105 : decode cX7_init 105 = .ok (.putfield 47, 3) := by decide +kernel
theorem dX7_init_108 : decode cX7_init 108 = .ok (.aload_n 0, 1) := by decide +kernel
theorem dX7_init_109 : decode cX7_init 109 = .ok (.bipush 20, 2) := by decide +kernel
theorem dX7_init_111 : decode cX7_init 111 = .ok (.newarray .boolean, 2) := by decide +kernel
theorem dX7_init_113 : decode cX7_init 113 = .ok (.putfield 50, 3) := by decide +kernel
theorem dX7_init_116 : decode cX7_init 116 = .ok (.iconst 0, 1) := by decide +kernel
theorem dX7_init_117 : decode cX7_init 117 = .ok (.istore_n 1, 1) := by decide +kernel
theorem dX7_init_118 : decode cX7_init 118 = .ok (.iload_n 1, 1) := by decide +kernel
theorem dX7_init_119 : decode cX7_init 119 = .ok (.bipush 20, 2) := by decide +kernel
theorem dX7_init_121 : decode cX7_init 121 = .ok (.if_icmp .ge 17, 3) := by decide +kernel
theorem dX7_init_124 : decode cX7_init 124 = .ok (.aload_n 0, 1) := by decide +kernel
theorem dX7_init_125 : decode cX7_init 125 = .ok (.iload_n 1, 1) := by decide +kernel
theorem dX7_init_126 : decode cX7_init 126 = .ok (.iconst 1, 1) := by decide +kernel
theorem dX7_init_127 : decode cX7_init 127 = .ok (.bipush (-9), 2) := by decide +kernel
theorem dX7_init_129 : decode cX7_init 129 = .ok (.invokevirtual 54, 3) := by decide +kernel
theorem dX7_init_132 : decode cX7_init 132 = .ok (.iinc 1 1, 3) := by decide +kernel
theorem dX7_init_135 : decode cX7_init 135 = .ok (.goto (-17), 3) := by decide +kernel
theorem dX7_init_138 : decode cX7_init 138 = .ok (.return_, 1) := by decide +kernel
theorem dX7_isIn_0 : decode cX7_isIn 0 = .ok (.iload_n 0, 1) := by decide +kernel
theorem dX7_isIn_1 : decode cX7_isIn 1 = .ok (.iload_n 1, 1) := by decide +kernel
theorem dX7_isIn_2 : decode cX7_isIn 2 = .ok (.if_icmp .lt 12, 3) := by decide +kernel
theorem dX7_isIn_5 : decode cX7_isIn 5 = .ok (.iload_n 0, 1) := by decide +kernel
theorem dX7_isIn_6 : decode cX7_isIn 6 = .ok (.iload_n 2, 1) := by decide +kernel
theorem dX7_isIn_7 : decode cX7_isIn 7 = .ok (.if_icmp .gt 7, 3) := by decide +kernel
theorem dX7_isIn_10 : decode cX7_isIn 10 = .ok (.iconst 1, 1) := by decide +kernel
theorem dX7_isIn_11 : decode cX7_isIn 11 = .ok (.goto 4, 3) := by decide +kernel
theorem dX7_isIn_14 : decode cX7_isIn 14 = .ok (.iconst 0, 1) := by decide +kernel
theorem dX7_isIn_15 : decode cX7_isIn 15 = .ok (.ireturn, 1) := by decide +kernel
theorem dX7_remember_0 : decode cX7_remember 0 = .ok (.aload_n 0, 1) := by decide +kernel
theorem dX7_remember_1 : decode cX7_remember 1 = .ok (.getfield 58, 3) := by decide +kernel
theorem dX7_remember_4 : decode cX7_remember 4 = .ok (.bipush 8, 2) := by decide +kernel
theorem dX7_remember_6 : decode cX7_remember 6 = .ok (.if_icmp .ne 44, 3) := by decide +kernel
theorem dX7_remember_9 : decode cX7_remember 9 = .ok (.iconst 0, 1) := by decide +kernel
theorem dX7_remember_10 : decode cX7_remember 10 = .ok (.istore_n 1, 1) := by decide +kernel
theorem dX7_remember_11 : decode cX7_remember 11 = .ok (.iload_n 1, 1) := by decide +kernel
theorem dX7_remember_12 : decode cX7_remember 12 = .ok (.sipush 3234, 3) := by decide +kernel
theorem dX7_remember_15 : decode cX7_remember 15 = .ok (.if_icmp .ge 25, 3) := by decide +kernel
theorem dX7_remember_18 : decode cX7_remember 18 = .ok (.aload_n 0, 1) := by decide +kernel
theorem dX7_remember_19 : decode cX7_remember 19 = .ok (.getfield 13, 3) := by decide +kernel
theorem dX7_remember_22 : decode cX7_remember 22 = .ok (.iload_n 1, 1) := by decide +kernel
theorem dX7_remember_23 : decode cX7_remember 23 = .ok (.aload_n 0, 1) := by decide +kernel
theorem dX7_remember_24 : decode cX7_remember 24 = .ok (.getfield 13, 3) := by decide +kernel
theorem dX7_remember_27 : decode cX7_remember 27 = .ok (.iload_n 1, 1) := by decide +kernel
theorem dX7_remember_28 : decode cX7_remember 28 = .ok (.sipush 462, 3) := by decide +kernel
theorem dX7_remember_31 : decode cX7_remember 31 = .ok (.iadd, 1) := by decide +kernel
theorem dX7_remember_32 : decode cX7_remember 32 = .ok (.iaload, 1) := by decide +kernel
theorem dX7_remember_33 : decode cX7_remember 33 = .ok (.iastore, 1) := by decide +kernel
theorem dX7_remember_34 : decode cX7_remember 34 = .ok (.iinc 1 1, 3) := by decide +kernel
theorem dX7_remember_37 : decode cX7_remember 37 = .ok (.goto (-26), 3) := by decide +kernel
theorem dX7_remember_40 : decode cX7_remember 40 = .ok (.aload_n 0, 1) := by decide +kernel
theorem dX7_remember_41 : decode cX7_remember 41 = .ok (.dup, 1) := by decide +kernel
theorem dX7_remember_42 : decode cX7_remember 42 = .ok (.getfield 58, 3) := by decide +kernel
theorem dX7_remember_45 : decode cX7_remember 45 = .ok (.iconst 1, 1) := by decide +kernel
theorem dX7_remember_46 : decode cX7_remember 46 = .ok (.isub, 1) := by decide +kernel
theorem dX7_remember_47 : decode cX7_remember 47 = .ok (.putfield 58, 3) := by decide +kernel
theorem dX7_remember_50 : decode cX7_remember 50 = .ok (.iconst 0, 1) := by decide +kernel
theorem dX7_remember_51 : decode cX7_remember 51 = .ok (.istore_n 1, 1) := by decide +kernel
theorem dX7_remember_52 : decode cX7_remember 52 = .ok (.iload_n 1, 1) := by decide +kernel
theorem dX7_remember_53 : decode cX7_remember 53 = .ok (.sipush 462, 3) := by decide +kernel
theorem dX7_remember_56 : decode cX7_remember 56 = .ok (.if_icmp .ge 30, 3) := by decide +kernel
theorem dX7_remember_59 : decode cX7_remember 59 = .ok (.aload_n 0, 1) := by decide +kernel
theorem dX7_remember_60 : decode cX7_remember 60 = .ok (.getfield 13, 3) := by decide +kernel
theorem dX7_remember_63 : decode cX7_remember 63 = .ok (.sipush 462, 3) := by decide +kernel
theorem dX7_remember_66 : decode cX7_remember 66 = .ok (.aload_n 0, 1) := by decide +kernel
theorem dX7_remember_67 : decode cX7_remember 67 = .ok (.getfield 58, 3) := by decide +kernel
theorem dX7_remember_70 : decode cX7_remember 70 = .ok (.imul, 1) := by decide +kernel
theorem dX7_remember_71 : decode cX7_remember 71 = .ok (.iload_n 1, 1) := by decide +kernel
theorem dX7_remember_72 : decode cX7_remember 72 = .ok (.iadd, 1) := by decide +kernel
theorem dX7_remember_73 : decode cX7_remember 73 = .ok (.aload_n 0, 1) := by decide +kernel
theorem dX7_remember_74 : decode cX7_remember 74 = .ok (.getfield 7, 3) := by decide +kernel
theorem dX7_remember_77 : decode cX7_remember 77 = .ok (.iload_n 1, 1) := by decide +kernel
theorem dX7_remember_78 : decode cX7_remember 78 = .ok (.iaload, 1) := by decide +kernel
theorem dX7_remember_79 : decode cX7_remember 79 = .ok (.iastore, 1) := by decide +kernel
theorem dX7_remember_80 : decode cX7_remember 80 = .ok (.iinc 1 1, 3) := by decide +kernel
theorem dX7_remember_83 : decode cX7_remember 83 = .ok (.goto (-31), 3) := by decide +kernel
theorem dX7_remember_86 : decode cX7_remember 86 = .ok (.aload_n 0, 1) := by decide +kernel
theorem dX7_remember_87 : decode cX7_remember 87 = .ok (.dup, 1) := by decide +kernel
theorem dX7_remember_88 : decode cX7_remember 88 = .ok (.getfield 58, 3) := by decide +kernel
theorem dX7_remember_91 : decode cX7_remember 91 = .ok (.iconst 1, 1) := by decide +kernel
theorem dX7_remember_92 : decode cX7_remember 92 = .ok (.iadd, 1) := by decide +kernel
theorem dX7_remember_93 : decode cX7_remember 93 = .ok (.putfield 58, 3) := by decide +kernel
theorem dX7_remember_96 : decode cX7_remember 96 = .ok (.return_, 1) := by decide +kernel
theorem dX7_of_0 : decode cX7_of 0 = .ok (.aload_n 0, 1) := by decide +kernel
theorem dX7_of_1 : decode cX7_of 1 = .ok (.getfield 7, 3) := by decide +kernel
theorem dX7_of_4 : decode cX7_of 4 = .ok (.bipush 23, 2) := by decide +kernel
theorem dX7_of_6 : decode cX7_of 6 = .ok (.iload_n 1, 1) := by decide +kernel
theorem dX7_of_7 : decode cX7_of 7 = .ok (.imul, 1) := by decide +kernel
theorem dX7_of_8 : decode cX7_of 8 = .ok (.iload_n 2, 1) := by decide +kernel
theorem dX7_of_9 : decode cX7_of 9 = .ok (.iadd, 1) := by decide +kernel
theorem dX7_of_10 : decode cX7_of 10 = .ok (.iaload, 1) := by decide +kernel
theorem dX7_of_11 : decode cX7_of 11 = .ok (.ireturn, 1) := by decide +kernel
theorem dX7_put_0 : decode cX7_put 0 = .ok (.aload_n 0, 1) := by decide +kernel
theorem dX7_put_1 : decode cX7_put 1 = .ok (.getfield 7, 3) := by decide +kernel
theorem dX7_put_4 : decode cX7_put 4 = .ok (.bipush 23, 2) := by decide +kernel
theorem dX7_put_6 : decode cX7_put 6 = .ok (.iload_n 1, 1) := by decide +kernel
theorem dX7_put_7 : decode cX7_put 7 = .ok (.imul, 1) := by decide +kernel
theorem dX7_put_8 : decode cX7_put 8 = .ok (.iload_n 2, 1) := by decide +kernel
theorem dX7_put_9 : decode cX7_put 9 = .ok (.iadd, 1) := by decide +kernel
theorem dX7_put_10 : decode cX7_put 10 = .ok (.iload_n 3, 1) := by decide +kernel
theorem dX7_put_11 : decode cX7_put 11 = .ok (.iastore, 1) := by decide +kernel
theorem dX7_put_12 : decode cX7_put 12 = .ok (.return_, 1) := by decide +kernel
set_option maxRecDepth 20000 in
theorem ggX7_isThing_X7_isIn : GoodIn wsX7_isThing wsX7_isIn := goodIn_r _ [4] (by decide +kernel) (by decide +kernel)
set_option maxRecDepth 20000 in
theorem gX7_isThing_X7_isIn : GoodIn wsX7_isThing (va_wsS RX7 61 yX7_isIn wsX7_isIn) := goodIn_app (goodIn_of _ (by decide +kernel)) ggX7_isThing_X7_isIn
theorem dX7_isThing_0 : decode cX7_isThing 0 = .ok (.iload_n 0, 1) := by decide +kernel
theorem dX7_isThing_1 : decode cX7_isThing 1 = .ok (.iconst 0, 1) := by decide +kernel
theorem dX7_isThing_2 : decode cX7_isThing 2 = .ok (.bipush 19, 2) := by decide +kernel
theorem dX7_isThing_4 : decode cX7_isThing 4 = .ok (.invokestatic 61, 3) := by decide +kernel
theorem dX7_isThing_7 : decode cX7_isThing 7 = .ok (.ireturn, 1) := by decide +kernel
set_option maxRecDepth 20000 in
theorem ggX7_isMade_X7_of : GoodIn wsX7_isMade wsX7_of := goodIn_r _ [5, 6, 7, 8, 9, 10, 11, 12, 13, 14, 15, 16, 17, 18, 19, 20, 21, 22, 23, 24, 25, 26, 27, 28, 29, 30, 31, 32, 33, 34, 35] (by decide +kernel) (by decide +kernel)
set_option maxRecDepth 20000 in
theorem gX7_isMade_X7_of : GoodIn wsX7_isMade (wsV RX7 65 RX7 yX7_of wsX7_of) := goodIn_app (goodIn_of _ (by decide +kernel)) ggX7_isMade_X7_of
theorem dX7_isMade_0 : decode cX7_isMade 0 = .ok (.aload_n 0, 1) := by decide +kernel
theorem dX7_isMade_1 : decode cX7_isMade 1 = .ok (.iload_n 1, 1) := by decide +kernel
theorem dX7_isMade_2 : decode cX7_isMade 2 = .ok (.bipush 7, 2) := by decide +kernel
theorem dX7_isMade_4 : decode cX7_isMade 4 = .ok (.invokevirtual 65, 3) := by decide +kernel
theorem dX7_isMade_7 : decode cX7_isMade 7 = .ok (.ifCond .le 7, 3) := by decide +kernel
theorem dX7_isMade_10 : decode cX7_isMade 10 = .ok (.iconst 1, 1) := by decide +kernel
theorem dX7_isMade_11 : decode cX7_isMade 11 = .ok (.goto 4, 3) := by decide +kernel
theorem dX7_isMade_14 : decode cX7_isMade 14 = .ok (.iconst 0, 1) := by decide +kernel
theorem dX7_isMade_15 : decode cX7_isMade 15 = .ok (.ireturn, 1) := by decide +kernel
set_option maxRecDepth 20000 in
theorem ggX7_ingredientOf_X7_of : GoodIn wsX7_ingredientOf wsX7_of := goodIn_r _ [5, 6, 7, 8, 9, 10, 11, 12, 13, 14, 15, 16, 17, 18, 19, 20, 21, 22, 23, 24, 25, 26, 27, 28, 29, 30, 31, 32, 33, 34, 35] (by decide +kernel) (by decide +kernel)
set_option maxRecDepth 20000 in
theorem gX7_ingredientOf_X7_of : GoodIn wsX7_ingredientOf (wsV RX7 65 RX7 yX7_of wsX7_of) := goodIn_app (goodIn_of _ (by decide +kernel)) ggX7_ingredientOf_X7_of
theorem dX7_ingredientOf_0 : decode cX7_ingredientOf 0 = .ok (.aload_n 0, 1) := by decide +kernel
theorem dX7_ingredientOf_1 : decode cX7_ingredientOf 1 = .ok (.iload_n 1, 1) := by decide +kernel
theorem dX7_ingredientOf_2 : decode cX7_ingredientOf 2 = .ok (.bipush 9, 2) := by decide +kernel
theorem dX7_ingredientOf_4 : decode cX7_ingredientOf 4 = .ok (.iconst 2, 1) := by decide +kernel
theorem dX7_ingredientOf_5 : decode cX7_ingredientOf 5 = .ok (.iload_n 2, 1) := by decide +kernel
theorem dX7_ingredientOf_6 : decode cX7_ingredientOf 6 = .ok (.imul, 1) := by decide +kernel
theorem dX7_ingredientOf_7 : decode cX7_ingredientOf 7 = .ok (.iadd, 1) := by decide +kernel
theorem dX7_ingredientOf_8 : decode cX7_ingredientOf 8 = .ok (.invokevirtual 65, 3) := by decide +kernel
theorem dX7_ingredientOf_11 : decode cX7_ingredientOf 11 = .ok (.ireturn, 1) := by decide +kernel
set_option maxRecDepth 20000 in
theorem ggX7_amountOf_X7_of : GoodIn wsX7_amountOf wsX7_of := goodIn_r _ [5, 6, 7, 8, 9, 10, 11, 12, 13, 14, 15, 16, 17, 18, 19, 20, 21, 22, 23, 24, 25, 26, 27, 28, 29, 30, 31, 32, 33, 34, 35] (by decide +kernel) (by decide +kernel)
set_option maxRecDepth 20000 in
theorem gX7_amountOf_X7_of : GoodIn wsX7_amountOf (wsV RX7 65 RX7 yX7_of wsX7_of) := goodIn_app (goodIn_of _ (by decide +kernel)) ggX7_amountOf_X7_of
theorem dX7_amountOf_0 : decode cX7_amountOf 0 = .ok (.aload_n 0, 1) := by decide +kernel
theorem dX7_amountOf_1 : decode cX7_amountOf 1 = .ok (.iload_n 1, 1) := by decide +kernel
theorem dX7_amountOf_2 : decode cX7_amountOf 2 = .ok (.bipush 9, 2) := by decide +kernel
theorem dX7_amountOf_4 : decode cX7_amountOf 4 = .ok (.iconst 2, 1) := by decide +kernel
theorem dX7_amountOf_5 : decode cX7_amountOf 5 = .ok (.iload_n 2, 1) := by decide +kernel
theorem dX7_amountOf_6 : decode cX7_amountOf 6 = .ok (.imul, 1) := by decide +kernel
theorem dX7_amountOf_7 : decode cX7_amountOf 7 = .ok (.iadd, 1) := by decide +kernel
theorem dX7_amountOf_8 : decode cX7_amountOf 8 = .ok (.iconst 1, 1) := by decide +kernel
theorem dX7_amountOf_9 : decode cX7_amountOf 9 = .ok (.iadd, 1) := by decide +kernel
theorem dX7_amountOf_10 : decode cX7_amountOf 10 = .ok (.invokevirtual 65, 3) := by decide +kernel
theorem dX7_amountOf_13 : decode cX7_amountOf 13 = .ok (.ireturn, 1) := by decide +kernel
set_option maxRecDepth 20000 in
theorem ggX7_rankBy_X7_of : GoodIn wsX7_rankBy wsX7_of := goodIn_r _ [6, 7, 16, 17, 18, 19, 20, 21, 22, 23, 24, 25, 26, 27, 28, 29, 30, 31, 32, 33, 34, 35, 36, 37, 38, 39, 40, 41, 42, 43, 44] (by decide +kernel) (by decide +kernel)
set_option maxRecDepth 20000 in
theorem gX7_rankBy_X7_of : GoodIn wsX7_rankBy (wsV RX7 65 RX7 yX7_of wsX7_of) := goodIn_app (goodIn_of _ (by decide +kernel)) ggX7_rankBy_X7_of
set_option maxRecDepth 20000 in
theorem ggX7_rankBy_X7_ingredientOf : GoodIn wsX7_rankBy wsX7_ingredientOf := goodIn_r _ [11, 2, 3, 4, 5, 6, 7, 16, 17, 18, 19, 20, 21, 22, 23, 24, 25, 26, 27, 28, 29, 30, 31, 32, 33, 34, 35, 36, 37, 38, 39, 40, 41, 42, 43, 44] (by decide +kernel) (by decide +kernel)
set_option maxRecDepth 20000 in
theorem gX7_rankBy_X7_ingredientOf : GoodIn wsX7_rankBy (wsV RX7 69 RX7 yX7_ingredientOf wsX7_ingredientOf) := goodIn_app (goodIn_of _ (by decide +kernel)) ggX7_rankBy_X7_ingredientOf
set_option maxRecDepth 20000 in
theorem ggX7_rankBy_X7_isMade : GoodIn wsX7_rankBy wsX7_isMade := goodIn_r _ [15, 2, 3, 4, 5, 6, 7, 16, 17, 18, 19, 20, 21, 22, 23, 24, 25, 26, 27, 28, 29, 30, 31, 32, 33, 34, 35, 36, 37, 38, 39, 40, 41, 42, 43, 44] (by decide +kernel) (by decide +kernel)
set_option maxRecDepth 20000 in
theorem gX7_rankBy_X7_isMade : GoodIn wsX7_rankBy (wsV RX7 72 RX7 yX7_isMade wsX7_isMade) := goodIn_app (goodIn_of _ (by decide +kernel)) ggX7_rankBy_X7_isMade
theorem dX7_rankBy_0 : decode cX7_rankBy 0 = .ok (.iconst 0, 1) := by decide +kernel
theorem dX7_rankBy_1 : decode cX7_rankBy 1 = .ok (.istore_n 2, 1) := by decide +kernel
theorem dX7_rankBy_2 : decode cX7_rankBy 2 = .ok (.iconst 0, 1) := by decide +kernel
theorem dX7_rankBy_3 : decode cX7_rankBy 3 = .ok (.istore_n 3, 1) := by decide +kernel
theorem dX7_rankBy_4 : decode cX7_rankBy 4 = .ok (.iload_n 3, 1) := by decide +kernel
theorem dX7_rankBy_5 : decode cX7_rankBy 5 = .ok (.aload_n 0, 1) := by decide +kernel
theorem dX7_rankBy_6 : decode cX7_rankBy 6 = .ok (.iload_n 1, 1) := by decide +kernel
theorem dX7_rankBy_7 : decode cX7_rankBy 7 = .ok (.bipush 8, 2) := by decide +kernel
theorem dX7_rankBy_9 : decode cX7_rankBy 9 = .ok (.invokevirtual 65, 3) := by decide +kernel
theorem dX7_rankBy_12 : decode cX7_rankBy 12 = .ok (.if_icmp .ge 98, 3) := by decide +kernel
theorem dX7_rankBy_15 : decode cX7_rankBy 15 = .ok (.aload_n 0, 1) := by decide +kernel
theorem dX7_rankBy_16 : decode cX7_rankBy 16 = .ok (.iload_n 1, 1) := by decide +kernel
theorem dX7_rankBy_17 : decode cX7_rankBy 17 = .ok (.iload_n 3, 1) := by decide +kernel
theorem dX7_rankBy_18 : decode cX7_rankBy 18 = .ok (.invokevirtual 69, 3) := by decide +kernel
theorem dX7_rankBy_21 : decode cX7_rankBy 21 = .ok (.istore 4, 2) := by decide +kernel
theorem dX7_rankBy_23 : decode cX7_rankBy 23 = .ok (.aload_n 0, 1) := by decide +kernel
theorem dX7_rankBy_24 : decode cX7_rankBy 24 = .ok (.getfield 29, 3) := by decide +kernel
theorem dX7_rankBy_27 : decode cX7_rankBy 27 = .ok (.iload 4, 2) := by decide +kernel
theorem dX7_rankBy_29 : decode cX7_rankBy 29 = .ok (.iaload, 1) := by decide +kernel
theorem dX7_rankBy_30 : decode cX7_rankBy 30 = .ok (.iload_n 2, 1) := by decide +kernel
theorem dX7_rankBy_31 : decode cX7_rankBy 31 = .ok (.if_icmp .le 13, 3) := by decide +kernel
theorem dX7_rankBy_34 : decode cX7_rankBy 34 = .ok (.aload_n 0, 1) := by decide +kernel
theorem dX7_rankBy_35 : decode cX7_rankBy 35 = .ok (.getfield 29, 3) := by decide +kernel
theorem dX7_rankBy_38 : decode cX7_rankBy 38 = .ok (.iload 4, 2) := by decide +kernel
theorem dX7_rankBy_40 : decode cX7_rankBy 40 = .ok (.iaload, 1) := by decide +kernel
theorem dX7_rankBy_41 : decode cX7_rankBy 41 = .ok (.goto 4, 3) := by decide +kernel
theorem dX7_rankBy_44 : decode cX7_rankBy 44 = .ok (.iload_n 2, 1) := by decide +kernel
theorem dX7_rankBy_45 : decode cX7_rankBy 45 = .ok (.istore_n 2, 1) := by decide +kernel
theorem dX7_rankBy_46 : decode cX7_rankBy 46 = .ok (.iconst 0, 1) := by decide +kernel
theorem dX7_rankBy_47 : decode cX7_rankBy 47 = .ok (.istore 5, 2) := by decide +kernel
theorem dX7_rankBy_49 : decode cX7_rankBy 49 = .ok (.iload 5, 2) := by decide +kernel
theorem dX7_rankBy_51 : decode cX7_rankBy 51 = .ok (.aload_n 0, 1) := by decide +kernel
theorem dX7_rankBy_52 : decode cX7_rankBy 52 = .ok (.iload 4, 2) := by decide +kernel
theorem dX7_rankBy_54 : decode cX7_rankBy 54 = .ok (.bipush 19, 2) := by decide +kernel
theorem dX7_rankBy_56 : decode cX7_rankBy 56 = .ok (.invokevirtual 65, 3) := by decide +kernel
theorem dX7_rankBy_59 : decode cX7_rankBy 59 = .ok (.if_icmp .ge 45, 3) := by decide +kernel
theorem dX7_rankBy_62 : decode cX7_rankBy 62 = .ok (.aload_n 0, 1) := by decide +kernel
theorem dX7_rankBy_63 : decode cX7_rankBy 63 = .ok (.iload 4, 2) := by decide +kernel
theorem dX7_rankBy_65 : decode cX7_rankBy 65 = .ok (.bipush 20, 2) := by decide +kernel
theorem dX7_rankBy_67 : decode cX7_rankBy 67 = .ok (.iload 5, 2) := by decide +kernel
theorem dX7_rankBy_69 : decode cX7_rankBy 69 = .ok (.iadd, 1) := by decide +kernel
theorem dX7_rankBy_70 : decode cX7_rankBy 70 = .ok (.invokevirtual 65, 3) := by decide +kernel
theorem dX7_rankBy_73 : decode cX7_rankBy 73 = .ok (.istore 6, 2) := by decide +kernel
theorem dX7_rankBy_75 : decode cX7_rankBy 75 = .ok (.aload_n 0, 1) := by decide +kernel
theorem dX7_rankBy_76 : decode cX7_rankBy 76 = .ok (.getfield 29, 3) := by decide +kernel
theorem dX7_rankBy_79 : decode cX7_rankBy 79 = .ok (.iload 6, 2) := by decide +kernel
theorem dX7_rankBy_81 : decode cX7_rankBy 81 = .ok (.iaload, 1) := by decide +kernel
theorem dX7_rankBy_82 : decode cX7_rankBy 82 = .ok (.iload_n 2, 1) := by decide +kernel
theorem dX7_rankBy_83 : decode cX7_rankBy 83 = .ok (.if_icmp .le 13, 3) := by decide +kernel
theorem dX7_rankBy_86 : decode cX7_rankBy 86 = .ok (.aload_n 0, 1) := by decide +kernel
theorem dX7_rankBy_87 : decode cX7_rankBy 87 = .ok (.getfield 29, 3) := by decide +kernel
theorem dX7_rankBy_90 : decode cX7_rankBy 90 = .ok (.iload 6, 2) := by decide +kernel
theorem dX7_rankBy_92 : decode cX7_rankBy 92 = .ok (.iaload, 1) := by decide +kernel
theorem dX7_rankBy_93 : decode cX7_rankBy 93 = .ok (.goto 4, 3) := by decide +kernel
theorem dX7_rankBy_96 : decode cX7_rankBy 96 = .ok (.iload_n 2, 1) := by decide +kernel
theorem dX7_rankBy_97 : decode cX7_rankBy 97 = .ok (.istore_n 2, 1) := by decide +kernel
theorem dX7_rankBy_98 : decode cX7_rankBy 98 = .ok (.iinc 5 1, 3) := by decide +kernel
theorem dX7_rankBy_101 : decode cX7_rankBy 101 = .ok (.goto (-52), 3) := by decide +kernel
theorem dX7_rankBy_104 : decode cX7_rankBy 104 = .ok (.iinc 3 1, 3) := by decide +kernel
theorem dX7_rankBy_107 : decode cX7_rankBy 107 = .ok (.goto (-103), 3) := by decide +kernel
theorem dX7_rankBy_110 : decode cX7_rankBy 110 = .ok (.aload_n 0, 1) := by decide +kernel
theorem dX7_rankBy_111 : decode cX7_rankBy 111 = .ok (.iload_n 1, 1) := by decide +kernel
theorem dX7_rankBy_112 : decode cX7_rankBy 112 = .ok (.invokevirtual 72, 3) := by decide +kernel
theorem dX7_rankBy_115 : decode cX7_rankBy 115 = .ok (.ifCond .eq 9, 3) := by decide +kernel
theorem dX7_rankBy_118 : decode cX7_rankBy 118 = .ok (.iload_n 2, 1) := by decide +kernel
theorem dX7_rankBy_119 : decode cX7_rankBy 119 = .ok (.iconst 1, 1) := by decide +kernel
theorem dX7_rankBy_120 : decode cX7_rankBy 120 = .ok (.iadd, 1) := by decide +kernel
theorem dX7_rankBy_121 : decode cX7_rankBy 121 = .ok (.goto 4, 3) := by decide +kernel
theorem dX7_rankBy_124 : decode cX7_rankBy 124 = .ok (.iconst 0, 1) := by decide +kernel
theorem dX7_rankBy_125 : decode cX7_rankBy 125 = .ok (.ireturn, 1) := by decide +kernel
set_option maxRecDepth 20000 in
theorem ggX7_areRanks_X7_rankBy : GoodIn wsX7_areRanks wsX7_rankBy := goodIn_r _ [6, 1, 7, 8, 9, 5, 10, 11, 12, 13, 14, 15, 16, 17, 18, 19, 20, 21, 22, 23, 24, 25, 26, 27, 28, 29, 30, 31, 32, 33, 34, 35, 36, 37, 38, 39, 40, 41, 42, 43, 44, 45, 46, 47, 48] (by decide +kernel) (by decide +kernel)
set_option maxRecDepth 20000 in
theorem gX7_areRanks_X7_rankBy : GoodIn wsX7_areRanks (wsV RX7 76 RX7 yX7_rankBy wsX7_rankBy) := goodIn_app (goodIn_of _ (by decide +kernel)) ggX7_areRanks_X7_rankBy
theorem dX7_areRanks_0 : decode cX7_areRanks 0 = .ok (.iconst 0, 1) := by decide +kernel
theorem dX7_areRanks_1 : decode cX7_areRanks 1 = .ok (.istore_n 1, 1) := by decide +kernel
theorem dX7_areRanks_2 : decode cX7_areRanks 2 = .ok (.iload_n 1, 1) := by decide +kernel
theorem dX7_areRanks_3 : decode cX7_areRanks 3 = .ok (.bipush 20, 2) := by decide +kernel
theorem dX7_areRanks_5 : decode cX7_areRanks 5 = .ok (.if_icmp .ge 16, 3) := by decide +kernel
theorem dX7_areRanks_8 : decode cX7_areRanks 8 = .ok (.aload_n 0, 1) := by decide +kernel
theorem dX7_areRanks_9 : decode cX7_areRanks 9 = .ok (.getfield 29, 3) := by decide +kernel
theorem dX7_areRanks_12 : decode cX7_areRanks 12 = .ok (.iload_n 1, 1) := by decide +kernel
theorem dX7_areRanks_13 : decode cX7_areRanks 13 = .ok (.iconst 0, 1) := by decide +kernel
theorem dX7_areRanks_14 : decode cX7_areRanks 14 = .ok (.iastore, 1) := by decide +kernel
theorem dX7_areRanks_15 : decode cX7_areRanks 15 = .ok (.iinc 1 1, 3) := by decide +kernel
theorem dX7_areRanks_18 : decode cX7_areRanks 18 = .ok (.goto (-16), 3) := by decide +kernel
theorem dX7_areRanks_21 : decode cX7_areRanks 21 = .ok (.iconst 0, 1) := by decide +kernel
theorem dX7_areRanks_22 : decode cX7_areRanks 22 = .ok (.istore_n 1, 1) := by decide +kernel
theorem dX7_areRanks_23 : decode cX7_areRanks 23 = .ok (.iload_n 1, 1) := by decide +kernel
theorem dX7_areRanks_24 : decode cX7_areRanks 24 = .ok (.bipush 12, 2) := by decide +kernel
theorem dX7_areRanks_26 : decode cX7_areRanks 26 = .ok (.if_icmp .ge 34, 3) := by decide +kernel
theorem dX7_areRanks_29 : decode cX7_areRanks 29 = .ok (.iconst 0, 1) := by decide +kernel
theorem dX7_areRanks_30 : decode cX7_areRanks 30 = .ok (.istore_n 2, 1) := by decide +kernel
theorem dX7_areRanks_31 : decode cX7_areRanks 31 = .ok (.iload_n 2, 1) := by decide +kernel
theorem dX7_areRanks_32 : decode cX7_areRanks 32 = .ok (.bipush 20, 2) := by decide +kernel
theorem dX7_areRanks_34 : decode cX7_areRanks 34 = .ok (.if_icmp .ge 20, 3) := by decide +kernel
theorem dX7_areRanks_37 : decode cX7_areRanks 37 = .ok (.aload_n 0, 1) := by decide +kernel
theorem dX7_areRanks_38 : decode cX7_areRanks 38 = .ok (.getfield 29, 3) := by decide +kernel
theorem dX7_areRanks_41 : decode cX7_areRanks 41 = .ok (.iload_n 2, 1) := by decide +kernel
theorem dX7_areRanks_42 : decode cX7_areRanks 42 = .ok (.aload_n 0, 1) := by decide +kernel
theorem dX7_areRanks_43 : decode cX7_areRanks 43 = .ok (.iload_n 2, 1) := by decide +kernel
theorem dX7_areRanks_44 : decode cX7_areRanks 44 = .ok (.invokevirtual 76, 3) := by decide +kernel
theorem dX7_areRanks_47 : decode cX7_areRanks 47 = .ok (.iastore, 1) := by decide +kernel
theorem dX7_areRanks_48 : decode cX7_areRanks 48 = .ok (.iinc 2 1, 3) := by decide +kernel
theorem dX7_areRanks_51 : decode cX7_areRanks 51 = .ok (.goto (-20), 3) := by decide +kernel
theorem dX7_areRanks_54 : decode cX7_areRanks 54 = .ok (.iinc 1 1, 3) := by decide +kernel
theorem dX7_areRanks_57 : decode cX7_areRanks 57 = .ok (.goto (-34), 3) := by decide +kernel
theorem dX7_areRanks_60 : decode cX7_areRanks 60 = .ok (.iconst 0, 1) := by decide +kernel
theorem dX7_areRanks_61 : decode cX7_areRanks 61 = .ok (.istore_n 1, 1) := by decide +kernel
theorem dX7_areRanks_62 : decode cX7_areRanks 62 = .ok (.iload_n 1, 1) := by decide +kernel
theorem dX7_areRanks_63 : decode cX7_areRanks 63 = .ok (.bipush 20, 2) := by decide +kernel
theorem dX7_areRanks_65 : decode cX7_areRanks 65 = .ok (.if_icmp .ge 22, 3) := by decide +kernel
theorem dX7_areRanks_68 : decode cX7_areRanks 68 = .ok (.aload_n 0, 1) := by decide +kernel
theorem dX7_areRanks_69 : decode cX7_areRanks 69 = .ok (.getfield 29, 3) := by decide +kernel
theorem dX7_areRanks_72 : decode cX7_areRanks 72 = .ok (.iload_n 1, 1) := by decide +kernel
theorem dX7_areRanks_73 : decode cX7_areRanks 73 = .ok (.iaload, 1) := by decide +kernel
theorem dX7_areRanks_74 : decode cX7_areRanks 74 = .ok (.bipush 8, 2) := by decide +kernel
theorem dX7_areRanks_76 : decode cX7_areRanks 76 = .ok (.if_icmp .le 5, 3) := by decide +kernel
theorem dX7_areRanks_79 : decode cX7_areRanks 79 = .ok (.iconst 0, 1) := by decide +kernel
theorem dX7_areRanks_80 : decode cX7_areRanks 80 = .ok (.ireturn, 1) := by decide +kernel
theorem dX7_areRanks_81 : decode cX7_areRanks 81 = .ok (.iinc 1 1, 3) := by decide +kernel
theorem dX7_areRanks_84 : decode cX7_areRanks 84 = .ok (.goto (-22), 3) := by decide +kernel
theorem dX7_areRanks_87 : decode cX7_areRanks 87 = .ok (.iconst 1, 1) := by decide +kernel
theorem dX7_areRanks_88 : decode cX7_areRanks 88 = .ok (.ireturn, 1) := by decide +kernel
set_option maxRecDepth 20000 in
theorem ggX7_come_X7_of : GoodIn wsX7_come wsX7_of := goodIn_r _ [7, 8, 13, 14, 15, 16, 17, 18, 19, 20, 21, 22, 23, 24, 25, 26, 27, 28, 29, 30, 31, 32, 33, 34, 35, 36, 37, 38, 39, 40, 41] (by decide +kernel) (by decide +kernel)
set_option maxRecDepth 20000 in
theorem gX7_come_X7_of : GoodIn wsX7_come (wsV RX7 65 RX7 yX7_of wsX7_of) := goodIn_app (goodIn_of _ (by decide +kernel)) ggX7_come_X7_of
set_option maxRecDepth 20000 in
theorem ggX7_come_X7_put : GoodIn wsX7_come wsX7_put := goodIn_r _ [12, 8, 13, 14, 15, 16, 17, 18, 19, 20, 21, 22, 23, 24, 25, 26, 27, 28, 29, 30, 31, 32, 33, 34, 35, 36, 37, 38, 39, 40, 41] (by decide +kernel) (by decide +kernel)
set_option maxRecDepth 20000 in
theorem gX7_come_X7_put : GoodIn wsX7_come (wsV RX7 54 RX7 yX7_put wsX7_put) := goodIn_app (goodIn_of _ (by decide +kernel)) ggX7_come_X7_put
theorem dX7_come_0 : decode cX7_come 0 = .ok (.aload_n 0, 1) := by decide +kernel
theorem dX7_come_1 : decode cX7_come 1 = .ok (.iload_n 1, 1) := by decide +kernel
theorem dX7_come_2 : decode cX7_come 2 = .ok (.iconst 0, 1) := by decide +kernel
theorem dX7_come_3 : decode cX7_come 3 = .ok (.aload_n 0, 1) := by decide +kernel
theorem dX7_come_4 : decode cX7_come 4 = .ok (.iload_n 1, 1) := by decide +kernel
theorem dX7_come_5 : decode cX7_come 5 = .ok (.iconst 0, 1) := by decide +kernel
theorem dX7_come_6 : decode cX7_come 6 = .ok (.invokevirtual 65, 3) := by decide +kernel
theorem dX7_come_9 : decode cX7_come 9 = .ok (.iload_n 2, 1) := by decide +kernel
theorem dX7_come_10 : decode cX7_come 10 = .ok (.iadd, 1) := by decide +kernel
theorem dX7_come_11 : decode cX7_come 11 = .ok (.invokevirtual 54, 3) := by decide +kernel
theorem dX7_come_14 : decode cX7_come 14 = .ok (.aload_n 0, 1) := by decide +kernel
theorem dX7_come_15 : decode cX7_come 15 = .ok (.iload_n 1, 1) := by decide +kernel
theorem dX7_come_16 : decode cX7_come 16 = .ok (.iload_n 3, 1) := by decide +kernel
theorem dX7_come_17 : decode cX7_come 17 = .ok (.aload_n 0, 1) := by decide +kernel
theorem dX7_come_18 : decode cX7_come 18 = .ok (.iload_n 1, 1) := by decide +kernel
theorem dX7_come_19 : decode cX7_come 19 = .ok (.iload_n 3, 1) := by decide +kernel
theorem dX7_come_20 : decode cX7_come 20 = .ok (.invokevirtual 65, 3) := by decide +kernel
theorem dX7_come_23 : decode cX7_come 23 = .ok (.iload_n 2, 1) := by decide +kernel
theorem dX7_come_24 : decode cX7_come 24 = .ok (.iadd, 1) := by decide +kernel
theorem dX7_come_25 : decode cX7_come 25 = .ok (.invokevirtual 54, 3) := by decide +kernel
theorem dX7_come_28 : decode cX7_come 28 = .ok (.aload_n 0, 1) := by decide +kernel
theorem dX7_come_29 : decode cX7_come 29 = .ok (.dup, 1) := by decide +kernel
theorem dX7_come_30 : decode cX7_come 30 = .ok (.getfield 80, 3) := by decide +kernel
theorem dX7_come_33 : decode cX7_come 33 = .ok (.aload_n 0, 1) := by decide +kernel
theorem dX7_come_34 : decode cX7_come 34 = .ok (.iload_n 1, 1) := by decide +kernel
theorem dX7_come_35 : decode cX7_come 35 = .ok (.iconst 0, 1) := by decide +kernel
theorem dX7_come_36 : decode cX7_come 36 = .ok (.invokevirtual 65, 3) := by decide +kernel
theorem dX7_come_39 : decode cX7_come 39 = .ok (.ldc 84, 2) := by decide +kernel
theorem dX7_come_41 : decode cX7_come 41 = .ok (.if_icmp .le 7, 3) := by decide +kernel
theorem dX7_come_44 : decode cX7_come 44 = .ok (.iconst 1, 1) := by decide +kernel
theorem dX7_come_45 : decode cX7_come 45 = .ok (.goto 4, 3) := by decide +kernel
theorem dX7_come_48 : decode cX7_come 48 = .ok (.iconst 0, 1) := by decide +kernel
theorem dX7_come_49 : decode cX7_come 49 = .ok (.ior, 1) := by decide +kernel
theorem dX7_come_50 : decode cX7_come 50 = .ok (.putfield 80, 3) := by decide +kernel
theorem dX7_come_53 : decode cX7_come 53 = .ok (.return_, 1) := by decide +kernel
set_option maxRecDepth 20000 in
theorem ggX7_useUp_X7_of : GoodIn wsX7_useUp wsX7_of := goodIn_r _ [5, 6, 17, 18, 19, 20, 21, 22, 23, 24, 25, 26, 27, 28, 29, 30, 31, 32, 33, 34, 35, 36, 37, 38, 39, 40, 41, 42, 43, 44, 45] (by decide +kernel) (by decide +kernel)
set_option maxRecDepth 20000 in
theorem gX7_useUp_X7_of : GoodIn wsX7_useUp (wsV RX7 65 RX7 yX7_of wsX7_of) := goodIn_app (goodIn_of _ (by decide +kernel)) ggX7_useUp_X7_of
set_option maxRecDepth 20000 in
theorem ggX7_useUp_X7_put : GoodIn wsX7_useUp wsX7_put := goodIn_r _ [10, 6, 17, 18, 19, 20, 21, 22, 23, 24, 25, 26, 27, 28, 29, 30, 31, 32, 33, 34, 35, 36, 37, 38, 39, 40, 41, 42, 43, 44, 45] (by decide +kernel) (by decide +kernel)
set_option maxRecDepth 20000 in
theorem gX7_useUp_X7_put : GoodIn wsX7_useUp (wsV RX7 54 RX7 yX7_put wsX7_put) := goodIn_app (goodIn_of _ (by decide +kernel)) ggX7_useUp_X7_put
set_option maxRecDepth 20000 in
theorem ggX7_useUp_X7_come : GoodIn wsX7_useUp wsX7_come := goodIn_r _ [14, 15, 16, 1, 2, 3, 4, 5, 6, 7, 8, 9, 10, 17, 18, 19, 20, 21, 22, 23, 24, 25, 26, 27, 28, 29, 30, 31, 32, 33, 34, 35, 36, 37, 38, 39, 40, 41, 42, 43, 44, 45] (by decide +kernel) (by decide +kernel)
set_option maxRecDepth 20000 in
theorem gX7_useUp_X7_come : GoodIn wsX7_useUp (wsV RX7 85 RX7 yX7_come wsX7_come) := goodIn_app (goodIn_of _ (by decide +kernel)) ggX7_useUp_X7_come
theorem dX7_useUp_0 : decode cX7_useUp 0 = .ok (.aload_n 0, 1) := by decide +kernel
theorem dX7_useUp_1 : decode cX7_useUp 1 = .ok (.iload_n 1, 1) := by decide +kernel
theorem dX7_useUp_2 : decode cX7_useUp 2 = .ok (.iconst 0, 1) := by decide +kernel
theorem dX7_useUp_3 : decode cX7_useUp 3 = .ok (.aload_n 0, 1) := by decide +kernel
theorem dX7_useUp_4 : decode cX7_useUp 4 = .ok (.iload_n 1, 1) := by decide +kernel
theorem dX7_useUp_5 : decode cX7_useUp 5 = .ok (.iconst 0, 1) := by decide +kernel
theorem dX7_useUp_6 : decode cX7_useUp 6 = .ok (.invokevirtual 65, 3) := by decide +kernel
theorem dX7_useUp_9 : decode cX7_useUp 9 = .ok (.iload_n 2, 1) := by decide +kernel
theorem dX7_useUp_10 : decode cX7_useUp 10 = .ok (.isub, 1) := by decide +kernel
theorem dX7_useUp_11 : decode cX7_useUp 11 = .ok (.invokevirtual 54, 3) := by decide +kernel
theorem dX7_useUp_14 : decode cX7_useUp 14 = .ok (.aload_n 0, 1) := by decide +kernel
theorem dX7_useUp_15 : decode cX7_useUp 15 = .ok (.iload_n 1, 1) := by decide +kernel
theorem dX7_useUp_16 : decode cX7_useUp 16 = .ok (.iconst 4, 1) := by decide +kernel
theorem dX7_useUp_17 : decode cX7_useUp 17 = .ok (.aload_n 0, 1) := by decide +kernel
theorem dX7_useUp_18 : decode cX7_useUp 18 = .ok (.iload_n 1, 1) := by decide +kernel
theorem dX7_useUp_19 : decode cX7_useUp 19 = .ok (.iconst 4, 1) := by decide +kernel
theorem dX7_useUp_20 : decode cX7_useUp 20 = .ok (.invokevirtual 65, 3) := by decide +kernel
theorem dX7_useUp_23 : decode cX7_useUp 23 = .ok (.iload_n 2, 1) := by decide +kernel
theorem dX7_useUp_24 : decode cX7_useUp 24 = .ok (.iadd, 1) := by decide +kernel
theorem dX7_useUp_25 : decode cX7_useUp 25 = .ok (.invokevirtual 54, 3) := by decide +kernel
theorem dX7_useUp_28 : decode cX7_useUp 28 = .ok (.aload_n 0, 1) := by decide +kernel
theorem dX7_useUp_29 : decode cX7_useUp 29 = .ok (.iload_n 1, 1) := by decide +kernel
theorem dX7_useUp_30 : decode cX7_useUp 30 = .ok (.iconst 1, 1) := by decide +kernel
theorem dX7_useUp_31 : decode cX7_useUp 31 = .ok (.invokevirtual 65, 3) := by decide +kernel
theorem dX7_useUp_34 : decode cX7_useUp 34 = .ok (.bipush (-9), 2) := by decide +kernel
theorem dX7_useUp_36 : decode cX7_useUp 36 = .ok (.if_icmp .eq 15, 3) := by decide +kernel
theorem dX7_useUp_39 : decode cX7_useUp 39 = .ok (.aload_n 0, 1) := by decide +kernel
theorem dX7_useUp_40 : decode cX7_useUp 40 = .ok (.aload_n 0, 1) := by decide +kernel
theorem dX7_useUp_41 : decode cX7_useUp 41 = .ok (.iload_n 1, 1) := by decide +kernel
theorem dX7_useUp_42 : decode cX7_useUp 42 = .ok (.iconst 1, 1) := by decide +kernel
theorem dX7_useUp_43 : decode cX7_useUp 43 = .ok (.invokevirtual 65, 3) := by decide +kernel
theorem dX7_useUp_46 : decode cX7_useUp 46 = .ok (.iload_n 2, 1) := by decide +kernel
theorem dX7_useUp_47 : decode cX7_useUp 47 = .ok (.iconst 5, 1) := by decide +kernel
theorem dX7_useUp_48 : decode cX7_useUp 48 = .ok (.invokevirtual 85, 3) := by decide +kernel
theorem dX7_useUp_51 : decode cX7_useUp 51 = .ok (.return_, 1) := by decide +kernel
set_option maxRecDepth 20000 in
theorem ggX7_gatherNow_X7_come : GoodIn wsX7_gatherNow wsX7_come := goodIn_r _ [6, 7, 8, 9, 10, 11, 5, 12, 1, 13, 14, 15, 16, 17, 18, 19, 20, 21, 22, 23, 24, 25, 26, 27, 28, 29, 30, 31, 32, 33, 34, 35, 36, 37, 38, 39, 40, 41, 42, 43, 44, 45] (by decide +kernel) (by decide +kernel)
set_option maxRecDepth 20000 in
theorem gX7_gatherNow_X7_come : GoodIn wsX7_gatherNow (wsV RX7 85 RX7 yX7_come wsX7_come) := goodIn_app (goodIn_of _ (by decide +kernel)) ggX7_gatherNow_X7_come
theorem dX7_gatherNow_0 : decode cX7_gatherNow 0 = .ok (.aload_n 0, 1) := by decide +kernel
theorem dX7_gatherNow_1 : decode cX7_gatherNow 1 = .ok (.iload_n 1, 1) := by decide +kernel
theorem dX7_gatherNow_2 : decode cX7_gatherNow 2 = .ok (.iload_n 2, 1) := by decide +kernel
theorem dX7_gatherNow_3 : decode cX7_gatherNow 3 = .ok (.iconst 2, 1) := by decide +kernel
theorem dX7_gatherNow_4 : decode cX7_gatherNow 4 = .ok (.invokevirtual 85, 3) := by decide +kernel
theorem dX7_gatherNow_7 : decode cX7_gatherNow 7 = .ok (.aload_n 0, 1) := by decide +kernel
theorem dX7_gatherNow_8 : decode cX7_gatherNow 8 = .ok (.getfield 7, 3) := by decide +kernel
theorem dX7_gatherNow_11 : decode cX7_gatherNow 11 = .ok (.sipush 460, 3) := by decide +kernel
theorem dX7_gatherNow_14 : decode cX7_gatherNow 14 = .ok (.dup2, 1) := by decide +kernel
theorem dX7_gatherNow_15 : decode cX7_gatherNow 15 = .ok (.iaload, 1) := by decide +kernel
theorem dX7_gatherNow_16 : decode cX7_gatherNow 16 = .ok (.iload_n 2, 1) := by decide +kernel
theorem dX7_gatherNow_17 : decode cX7_gatherNow 17 = .ok (.iadd, 1) := by decide +kernel
theorem dX7_gatherNow_18 : decode cX7_gatherNow 18 = .ok (.iastore, 1) := by decide +kernel
theorem dX7_gatherNow_19 : decode cX7_gatherNow 19 = .ok (.return_, 1) := by decide +kernel
theorem dX7_begin_0 : decode cX7_begin 0 = .ok (.aload_n 0, 1) := by decide +kernel
theorem dX7_begin_1 : decode cX7_begin 1 = .ok (.dup, 1) := by decide +kernel
theorem dX7_begin_2 : decode cX7_begin 2 = .ok (.getfield 88, 3) := by decide +kernel
theorem dX7_begin_5 : decode cX7_begin 5 = .ok (.iload_n 2, 1) := by decide +kernel
theorem dX7_begin_6 : decode cX7_begin 6 = .ok (.iadd, 1) := by decide +kernel
theorem dX7_begin_7 : decode cX7_begin 7 = .ok (.putfield 88, 3) := by decide +kernel
theorem dX7_begin_10 : decode cX7_begin 10 = .ok (.aload_n 0, 1) := by decide +kernel
theorem dX7_begin_11 : decode cX7_begin 11 = .ok (.dup, 1) := by decide +kernel
theorem dX7_begin_12 : decode cX7_begin 12 = .ok (.getfield 80, 3) := by decide +kernel
theorem dX7_begin_15 : decode cX7_begin 15 = .ok (.aload_n 0, 1) := by decide +kernel
theorem dX7_begin_16 : decode cX7_begin 16 = .ok (.getfield 88, 3) := by decide +kernel
theorem dX7_begin_19 : decode cX7_begin 19 = .ok (.sipush 500, 3) := by decide +kernel
theorem dX7_begin_22 : decode cX7_begin 22 = .ok (.if_icmp .le 7, 3) := by decide +kernel
theorem dX7_begin_25 : decode cX7_begin 25 = .ok (.iconst 1, 1) := by decide +kernel
theorem dX7_begin_26 : decode cX7_begin 26 = .ok (.goto 4, 3) := by decide +kernel
theorem dX7_begin_29 : decode cX7_begin 29 = .ok (.iconst 0, 1) := by decide +kernel
theorem dX7_begin_30 : decode cX7_begin 30 = .ok (.ior, 1) := by decide +kernel
theorem dX7_begin_31 : decode cX7_begin 31 = .ok (.putfield 80, 3) := by decide +kernel
theorem dX7_begin_34 : decode cX7_begin 34 = .ok (.aload_n 0, 1) := by decide +kernel
theorem dX7_begin_35 : decode cX7_begin 35 = .ok (.getfield 32, 3) := by decide +kernel
theorem dX7_begin_38 : decode cX7_begin 38 = .ok (.aload_n 0, 1) := by decide +kernel
theorem dX7_begin_39 : decode cX7_begin 39 = .ok (.getfield 91, 3) := by decide +kernel
theorem dX7_begin_42 : decode cX7_begin 42 = .ok (.iload_n 1, 1) := by decide +kernel
theorem dX7_begin_43 : decode cX7_begin 43 = .ok (.iastore, 1) := by decide +kernel
theorem dX7_begin_44 : decode cX7_begin 44 = .ok (.aload_n 0, 1) := by decide +kernel
theorem dX7_begin_45 : decode cX7_begin 45 = .ok (.getfield 35, 3) := by decide +kernel
theorem dX7_begin_48 : decode cX7_begin 48 = .ok (.aload_n 0, 1) := by decide +kernel
theorem dX7_begin_49 : decode cX7_begin 49 = .ok (.getfield 91, 3) := by decide +kernel
theorem dX7_begin_52 : decode cX7_begin 52 = .ok (.iload_n 2, 1) := by decide +kernel
theorem dX7_begin_53 : decode cX7_begin 53 = .ok (.iastore, 1) := by decide +kernel
theorem dX7_begin_54 : decode cX7_begin 54 = .ok (.aload_n 0, 1) := by decide +kernel
theorem dX7_begin_55 : decode cX7_begin 55 = .ok (.getfield 38, 3) := by decide +kernel
theorem dX7_begin_58 : decode cX7_begin 58 = .ok (.aload_n 0, 1) := by decide +kernel
theorem dX7_begin_59 : decode cX7_begin 59 = .ok (.getfield 91, 3) := by decide +kernel
theorem dX7_begin_62 : decode cX7_begin 62 = .ok (.iconst 0, 1) := by decide +kernel
theorem dX7_begin_63 : decode cX7_begin 63 = .ok (.iastore, 1) := by decide +kernel
theorem dX7_begin_64 : decode cX7_begin 64 = .ok (.aload_n 0, 1) := by decide +kernel
theorem dX7_begin_65 : decode cX7_begin 65 = .ok (.getfield 41, 3) := by decide +kernel
theorem dX7_begin_68 : decode cX7_begin 68 = .ok (.aload_n 0, 1) := by decide +kernel
theorem dX7_begin_69 : decode cX7_begin 69 = .ok (.getfield 91, 3) := by decide +kernel
theorem dX7_begin_72 : decode cX7_begin 72 = .ok (.iload_n 3, 1) := by decide +kernel
theorem dX7_begin_73 : decode cX7_begin 73 = .ok (.iastore, 1) := by decide +kernel
theorem dX7_begin_74 : decode cX7_begin 74 = .ok (.aload_n 0, 1) := by decide +kernel
theorem dX7_begin_75 : decode cX7_begin 75 = .ok (.dup, 1) := by decide +kernel
theorem dX7_begin_76 : decode cX7_begin 76 = .ok (.getfield 91, 3) := by decide +kernel
theorem dX7_begin_79 : decode cX7_begin 79 = .ok (.iconst 1, 1) := by decide +kernel
theorem dX7_begin_80 : decode cX7_begin 80 = .ok (.iadd, 1) := by decide +kernel
theorem dX7_begin_81 : decode cX7_begin 81 = .ok (.putfield 91, 3) := by decide +kernel
theorem dX7_begin_84 : decode cX7_begin 84 = .ok (.return_, 1) := by decide +kernel
set_option maxRecDepth 20000 in
theorem ggX7_batchesFor_X7_of : GoodIn wsX7_batchesFor wsX7_of := goodIn_r _ [5, 6, 7, 8, 9, 10, 11, 12, 13, 14, 15, 16, 17, 18, 19, 20, 21, 22, 23, 24, 25, 26, 27, 28, 29, 30, 31, 32, 33, 34, 35] (by decide +kernel) (by decide +kernel)
set_option maxRecDepth 20000 in
theorem gX7_batchesFor_X7_of : GoodIn wsX7_batchesFor (wsV RX7 65 RX7 yX7_of wsX7_of) := goodIn_app (goodIn_of _ (by decide +kernel)) ggX7_batchesFor_X7_of
theorem dX7_batchesFor_0 : decode cX7_batchesFor 0 = .ok (.iload_n 2, 1) := by decide +kernel
theorem dX7_batchesFor_1 : decode cX7_batchesFor 1 = .ok (.aload_n 0, 1) := by decide +kernel
theorem dX7_batchesFor_2 : decode cX7_batchesFor 2 = .ok (.iload_n 1, 1) := by decide +kernel
theorem dX7_batchesFor_3 : decode cX7_batchesFor 3 = .ok (.bipush 7, 2) := by decide +kernel
theorem dX7_batchesFor_5 : decode cX7_batchesFor 5 = .ok (.invokevirtual 65, 3) := by decide +kernel
theorem dX7_batchesFor_8 : decode cX7_batchesFor 8 = .ok (.iadd, 1) := by decide +kernel
theorem dX7_batchesFor_9 : decode cX7_batchesFor 9 = .ok (.iconst 1, 1) := by decide +kernel
theorem dX7_batchesFor_10 : decode cX7_batchesFor 10 = .ok (.isub, 1) := by decide +kernel
theorem dX7_batchesFor_11 : decode cX7_batchesFor 11 = .ok (.aload_n 0, 1) := by decide +kernel
theorem dX7_batchesFor_12 : decode cX7_batchesFor 12 = .ok (.iload_n 1, 1) := by decide +kernel
theorem dX7_batchesFor_13 : decode cX7_batchesFor 13 = .ok (.bipush 7, 2) := by decide +kernel
theorem dX7_batchesFor_15 : decode cX7_batchesFor 15 = .ok (.invokevirtual 65, 3) := by decide +kernel
theorem dX7_batchesFor_18 : decode cX7_batchesFor 18 = .ok (.idiv, 1) := by decide +kernel
theorem dX7_batchesFor_19 : decode cX7_batchesFor 19 = .ok (.ireturn, 1) := by decide +kernel
set_option maxRecDepth 20000 in
theorem ggX7_fromStore_X7_of : GoodIn wsX7_fromStore wsX7_of := goodIn_r _ [5, 6, 21, 22, 23, 24, 25, 26, 27, 28, 29, 30, 31, 32, 33, 34, 35, 36, 37, 38, 39, 40, 41, 42, 43, 44, 45, 46, 47, 48, 49] (by decide +kernel) (by decide +kernel)
set_option maxRecDepth 20000 in
theorem gX7_fromStore_X7_of : GoodIn wsX7_fromStore (wsV RX7 65 RX7 yX7_of wsX7_of) := goodIn_app (goodIn_of _ (by decide +kernel)) ggX7_fromStore_X7_of
set_option maxRecDepth 20000 in
theorem ggX7_fromStore_X7_useUp : GoodIn wsX7_fromStore wsX7_useUp := goodIn_r _ [10, 1, 2, 3, 4, 5, 6, 11, 12, 13, 14, 15, 16, 17, 18, 19, 20, 21, 22, 23, 24, 25, 26, 27, 28, 29, 30, 31, 32, 33, 34, 35, 36, 37, 38, 39, 40, 41, 42, 43, 44, 45, 46, 47, 48, 49] (by decide +kernel) (by decide +kernel)
set_option maxRecDepth 20000 in
theorem gX7_fromStore_X7_useUp : GoodIn wsX7_fromStore (wsV RX7 94 RX7 yX7_useUp wsX7_useUp) := goodIn_app (goodIn_of _ (by decide +kernel)) ggX7_fromStore_X7_useUp
theorem dX7_fromStore_0 : decode cX7_fromStore 0 = .ok (.aload_n 0, 1) := by decide +kernel
theorem dX7_fromStore_1 : decode cX7_fromStore 1 = .ok (.iload_n 1, 1) := by decide +kernel
theorem dX7_fromStore_2 : decode cX7_fromStore 2 = .ok (.iconst 0, 1) := by decide +kernel
theorem dX7_fromStore_3 : decode cX7_fromStore 3 = .ok (.invokevirtual 65, 3) := by decide +kernel
theorem dX7_fromStore_6 : decode cX7_fromStore 6 = .ok (.iload_n 2, 1) := by decide +kernel
theorem dX7_fromStore_7 : decode cX7_fromStore 7 = .ok (.if_icmp .ge 12, 3) := by decide +kernel
theorem dX7_fromStore_10 : decode cX7_fromStore 10 = .ok (.aload_n 0, 1) := by decide +kernel
theorem dX7_fromStore_11 : decode cX7_fromStore 11 = .ok (.iload_n 1, 1) := by decide +kernel
theorem dX7_fromStore_12 : decode cX7_fromStore 12 = .ok (.iconst 0, 1) := by decide +kernel
theorem dX7_fromStore_13 : decode cX7_fromStore 13 = .ok (.invokevirtual 65, 3) := by decide +kernel
theorem dX7_fromStore_16 : decode cX7_fromStore 16 = .ok (.goto 4, 3) := by decide +kernel
theorem dX7_fromStore_19 : decode cX7_fromStore 19 = .ok (.iload_n 2, 1) := by decide +kernel
theorem dX7_fromStore_20 : decode cX7_fromStore 20 = .ok (.istore_n 3, 1) := by decide +kernel
theorem dX7_fromStore_21 : decode cX7_fromStore 21 = .ok (.aload_n 0, 1) := by decide +kernel
theorem dX7_fromStore_22 : decode cX7_fromStore 22 = .ok (.iload_n 1, 1) := by decide +kernel
theorem dX7_fromStore_23 : decode cX7_fromStore 23 = .ok (.iload_n 3, 1) := by decide +kernel
theorem dX7_fromStore_24 : decode cX7_fromStore 24 = .ok (.invokevirtual 94, 3) := by decide +kernel
theorem dX7_fromStore_27 : decode cX7_fromStore 27 = .ok (.iload_n 2, 1) := by decide +kernel
theorem dX7_fromStore_28 : decode cX7_fromStore 28 = .ok (.iload_n 3, 1) := by decide +kernel
theorem dX7_fromStore_29 : decode cX7_fromStore 29 = .ok (.isub, 1) := by decide +kernel
theorem dX7_fromStore_30 : decode cX7_fromStore 30 = .ok (.ireturn, 1) := by decide +kernel
set_option maxRecDepth 20000 in
theorem ggX7_take_X7_fromStore : GoodIn wsX7_take wsX7_fromStore := goodIn_r _ [5, 6, 7, 8, 4, 9, 10, 11, 12, 13, 14, 15, 16, 17, 18, 19, 20, 21, 22, 23, 24, 47, 48, 49, 50, 51, 52, 53, 54, 55, 56, 57, 58, 59, 60, 61, 62, 63, 64, 65, 66, 67, 68, 69, 70, 71, 72, 73, 74, 75] (by decide +kernel) (by decide +kernel)
set_option maxRecDepth 20000 in
theorem gX7_take_X7_fromStore : GoodIn wsX7_take (wsV RX7 98 RX7 yX7_fromStore wsX7_fromStore) := goodIn_app (goodIn_of _ (by decide +kernel)) ggX7_take_X7_fromStore
set_option maxRecDepth 20000 in
theorem ggX7_take_X7_isMade : GoodIn wsX7_take wsX7_isMade := goodIn_r _ [28, 6, 7, 8, 4, 9, 10, 47, 48, 49, 50, 51, 52, 53, 54, 55, 56, 57, 58, 59, 60, 61, 62, 63, 64, 65, 66, 67, 68, 69, 70, 71, 72, 73, 74, 75] (by decide +kernel) (by decide +kernel)
set_option maxRecDepth 20000 in
theorem gX7_take_X7_isMade : GoodIn wsX7_take (wsV RX7 72 RX7 yX7_isMade wsX7_isMade) := goodIn_app (goodIn_of _ (by decide +kernel)) ggX7_take_X7_isMade
set_option maxRecDepth 20000 in
theorem ggX7_take_X7_of : GoodIn wsX7_take wsX7_of := goodIn_r _ [9, 10, 47, 48, 49, 50, 51, 52, 53, 54, 55, 56, 57, 58, 59, 60, 61, 62, 63, 64, 65, 66, 67, 68, 69, 70, 71, 72, 73, 74, 75] (by decide +kernel) (by decide +kernel)
set_option maxRecDepth 20000 in
theorem gX7_take_X7_of : GoodIn wsX7_take (wsV RX7 65 RX7 yX7_of wsX7_of) := goodIn_app (goodIn_of _ (by decide +kernel)) ggX7_take_X7_of
set_option maxRecDepth 20000 in
theorem ggX7_take_X7_batchesFor : GoodIn wsX7_take wsX7_batchesFor := goodIn_r _ [32, 6, 7, 8, 4, 9, 10, 47, 48, 49, 50, 51, 52, 53, 54, 55, 56, 57, 58, 59, 60, 61, 62, 63, 64, 65, 66, 67, 68, 69, 70, 71, 72, 73, 74, 75] (by decide +kernel) (by decide +kernel)
set_option maxRecDepth 20000 in
theorem gX7_take_X7_batchesFor : GoodIn wsX7_take (wsV RX7 101 RX7 yX7_batchesFor wsX7_batchesFor) := goodIn_app (goodIn_of _ (by decide +kernel)) ggX7_take_X7_batchesFor
set_option maxRecDepth 20000 in
theorem ggX7_take_X7_begin : GoodIn wsX7_take wsX7_begin := goodIn_r _ [36, 37, 23, 38, 39, 40, 41, 42, 47, 48, 49, 50, 51, 52, 53, 54, 55, 56, 57, 58, 59, 60, 61, 62, 63, 64, 65, 66, 67, 68, 69, 70, 71, 72, 73, 74, 75] (by decide +kernel) (by decide +kernel)
set_option maxRecDepth 20000 in
theorem gX7_take_X7_begin : GoodIn wsX7_take (wsV RX7 104 RX7 yX7_begin wsX7_begin) := goodIn_app (goodIn_of _ (by decide +kernel)) ggX7_take_X7_begin
set_option maxRecDepth 20000 in
theorem ggX7_take_X7_gatherNow : GoodIn wsX7_take wsX7_gatherNow := goodIn_r _ [46, 10, 19, 20, 21, 4, 22, 23, 24, 6, 7, 8, 9, 15, 16, 17, 18, 47, 48, 49, 50, 51, 52, 53, 54, 55, 56, 57, 58, 59, 60, 61, 62, 63, 64, 65, 66, 67, 68, 69, 70, 71, 72, 73, 74, 75] (by decide +kernel) (by decide +kernel)
set_option maxRecDepth 20000 in
theorem gX7_take_X7_gatherNow : GoodIn wsX7_take (wsV RX7 107 RX7 yX7_gatherNow wsX7_gatherNow) := goodIn_app (goodIn_of _ (by decide +kernel)) ggX7_take_X7_gatherNow
set_option maxRecDepth 20000 in
theorem ggX7_take_X7_useUp : GoodIn wsX7_take wsX7_useUp := goodIn_r _ [14, 6, 7, 8, 4, 9, 10, 15, 16, 17, 18, 19, 20, 21, 22, 23, 24, 47, 48, 49, 50, 51, 52, 53, 54, 55, 56, 57, 58, 59, 60, 61, 62, 63, 64, 65, 66, 67, 68, 69, 70, 71, 72, 73, 74, 75] (by decide +kernel) (by decide +kernel)
set_option maxRecDepth 20000 in
theorem gX7_take_X7_useUp : GoodIn wsX7_take (wsV RX7 94 RX7 yX7_useUp wsX7_useUp) := goodIn_app (goodIn_of _ (by decide +kernel)) ggX7_take_X7_useUp
theorem dX7_take_0 : decode cX7_take 0 = .ok (.aload_n 0, 1) := by decide +kernel
theorem dX7_take_1 : decode cX7_take 1 = .ok (.iload_n 1, 1) := by decide +kernel
theorem dX7_take_2 : decode cX7_take 2 = .ok (.iload_n 2, 1) := by decide +kernel
theorem dX7_take_3 : decode cX7_take 3 = .ok (.invokevirtual 98, 3) := by decide +kernel
theorem dX7_take_6 : decode cX7_take 6 = .ok (.istore_n 3, 1) := by decide +kernel
theorem dX7_take_7 : decode cX7_take 7 = .ok (.aload_n 0, 1) := by decide +kernel
theorem dX7_take_8 : decode cX7_take 8 = .ok (.iload_n 1, 1) := by decide +kernel
theorem dX7_take_9 : decode cX7_take 9 = .ok (.invokevirtual 72, 3) := by decide +kernel
theorem dX7_take_12 : decode cX7_take 12 = .ok (.ifCond .eq 7, 3) := by decide +kernel
theorem dX7_take_15 : decode cX7_take 15 = .ok (.iload_n 1, 1) := by decide +kernel
theorem dX7_take_16 : decode cX7_take 16 = .ok (.goto 5, 3) := by decide +kernel
theorem dX7_take_19 : decode cX7_take 19 = .ok (.bipush (-9), 2) := by decide +kernel
theorem dX7_take_21 : decode cX7_take 21 = .ok (.istore 4, 2) := by decide +kernel
theorem dX7_take_23 : decode cX7_take 23 = .ok (.iconst 0, 1) := by decide +kernel
theorem dX7_take_24 : decode cX7_take 24 = .ok (.istore 5, 2) := by decide +kernel
theorem dX7_take_26 : decode cX7_take 26 = .ok (.iload 5, 2) := by decide +kernel
theorem dX7_take_28 : decode cX7_take 28 = .ok (.aload_n 0, 1) := by decide +kernel
theorem dX7_take_29 : decode cX7_take 29 = .ok (.iload_n 1, 1) := by decide +kernel
theorem dX7_take_30 : decode cX7_take 30 = .ok (.bipush 19, 2) := by decide +kernel
theorem dX7_take_32 : decode cX7_take 32 = .ok (.invokevirtual 65, 3) := by decide +kernel
theorem dX7_take_35 : decode cX7_take 35 = .ok (.if_icmp .ge 54, 3) := by decide +kernel
theorem dX7_take_38 : decode cX7_take 38 = .ok (.aload_n 0, 1) := by decide +kernel
theorem dX7_take_39 : decode cX7_take 39 = .ok (.iload_n 1, 1) := by decide +kernel
theorem dX7_take_40 : decode cX7_take 40 = .ok (.bipush 20, 2) := by decide +kernel
theorem dX7_take_42 : decode cX7_take 42 = .ok (.iload 5, 2) := by decide +kernel
theorem dX7_take_44 : decode cX7_take 44 = .ok (.iadd, 1) := by decide +kernel
theorem dX7_take_45 : decode cX7_take 45 = .ok (.invokevirtual 65, 3) := by decide +kernel
theorem dX7_take_48 : decode cX7_take 48 = .ok (.istore 6, 2) := by decide +kernel
theorem dX7_take_50 : decode cX7_take 50 = .ok (.aload_n 0, 1) := by decide +kernel
theorem dX7_take_51 : decode cX7_take 51 = .ok (.iload 6, 2) := by decide +kernel
theorem dX7_take_53 : decode cX7_take 53 = .ok (.iload_n 3, 1) := by decide +kernel
theorem dX7_take_54 : decode cX7_take 54 = .ok (.invokevirtual 98, 3) := by decide +kernel
theorem dX7_take_57 : decode cX7_take 57 = .ok (.istore_n 3, 1) := by decide +kernel
theorem dX7_take_58 : decode cX7_take 58 = .ok (.iload 4, 2) := by decide +kernel
theorem dX7_take_60 : decode cX7_take 60 = .ok (.bipush (-9), 2) := by decide +kernel
theorem dX7_take_62 : decode cX7_take 62 = .ok (.if_icmp .ne 17, 3) := by decide +kernel
theorem dX7_take_65 : decode cX7_take 65 = .ok (.aload_n 0, 1) := by decide +kernel
theorem dX7_take_66 : decode cX7_take 66 = .ok (.iload 6, 2) := by decide +kernel
theorem dX7_take_68 : decode cX7_take 68 = .ok (.invokevirtual 72, 3) := by decide +kernel
theorem dX7_take_71 : decode cX7_take 71 = .ok (.ifCond .eq 8, 3) := by decide +kernel
theorem dX7_take_74 : decode cX7_take 74 = .ok (.iload 6, 2) := by decide +kernel
theorem dX7_take_76 : decode cX7_take 76 = .ok (.goto 5, 3) := by decide +kernel
theorem dX7_take_79 : decode cX7_take 79 = .ok (.iload 4, 2) := by decide +kernel
theorem dX7_take_81 : decode cX7_take 81 = .ok (.istore 4, 2) := by decide +kernel
theorem dX7_take_83 : decode cX7_take 83 = .ok (.iinc 5 1, 3) := by decide +kernel
theorem dX7_take_86 : decode cX7_take 86 = .ok (.goto (-60), 3) := by decide +kernel
theorem dX7_take_89 : decode cX7_take 89 = .ok (.iload_n 3, 1) := by decide +kernel
theorem dX7_take_90 : decode cX7_take 90 = .ok (.ifCond .le 27, 3) := by decide +kernel
theorem dX7_take_93 : decode cX7_take 93 = .ok (.iload 4, 2) := by decide +kernel
theorem dX7_take_95 : decode cX7_take 95 = .ok (.bipush (-9), 2) := by decide +kernel
theorem dX7_take_97 : decode cX7_take 97 = .ok (.if_icmp .eq 20, 3) := by decide +kernel
theorem dX7_take_100 : decode cX7_take 100 = .ok (.aload_n 0, 1) := by decide +kernel
theorem dX7_take_101 : decode cX7_take 101 = .ok (.iload 4, 2) := by decide +kernel
theorem dX7_take_103 : decode cX7_take 103 = .ok (.aload_n 0, 1) := by decide +kernel
theorem dX7_take_104 : decode cX7_take 104 = .ok (.iload 4, 2) := by decide +kernel
theorem dX7_take_106 : decode cX7_take 106 = .ok (.iload_n 3, 1) := by decide +kernel
theorem dX7_take_107 : decode cX7_take 107 = .ok (.invokevirtual 101, 3) := by decide +kernel
theorem dX7_take_110 : decode cX7_take 110 = .ok (.iload_n 3, 1) := by decide +kernel
theorem dX7_take_111 : decode cX7_take 111 = .ok (.invokevirtual 104, 3) := by decide +kernel
theorem dX7_take_114 : decode cX7_take 114 = .ok (.goto 19, 3) := by decide +kernel
theorem dX7_take_117 : decode cX7_take 117 = .ok (.iload_n 3, 1) := by decide +kernel
theorem dX7_take_118 : decode cX7_take 118 = .ok (.ifCond .le 15, 3) := by decide +kernel
theorem dX7_take_121 : decode cX7_take 121 = .ok (.aload_n 0, 1) := by decide +kernel
theorem dX7_take_122 : decode cX7_take 122 = .ok (.iload_n 1, 1) := by decide +kernel
theorem dX7_take_123 : decode cX7_take 123 = .ok (.iload_n 3, 1) := by decide +kernel
theorem dX7_take_124 : decode cX7_take 124 = .ok (.invokevirtual 107, 3) := by decide +kernel
theorem dX7_take_127 : decode cX7_take 127 = .ok (.aload_n 0, 1) := by decide +kernel
theorem dX7_take_128 : decode cX7_take 128 = .ok (.iload_n 1, 1) := by decide +kernel
theorem dX7_take_129 : decode cX7_take 129 = .ok (.iload_n 3, 1) := by decide +kernel
theorem dX7_take_130 : decode cX7_take 130 = .ok (.invokevirtual 94, 3) := by decide +kernel
theorem dX7_take_133 : decode cX7_take 133 = .ok (.return_, 1) := by decide +kernel
set_option maxRecDepth 20000 in
theorem ggX7_makeBegun_X7_of : GoodIn wsX7_makeBegun wsX7_of := goodIn_r _ [12, 6, 59, 60, 61, 62, 63, 64, 65, 66, 67, 68, 69, 70, 71, 72, 73, 74, 75, 76, 77, 78, 79, 80, 81, 82, 83, 84, 85, 86, 87] (by decide +kernel) (by decide +kernel)
set_option maxRecDepth 20000 in
theorem gX7_makeBegun_X7_of : GoodIn wsX7_makeBegun (wsV RX7 65 RX7 yX7_of wsX7_of) := goodIn_app (goodIn_of _ (by decide +kernel)) ggX7_makeBegun_X7_of
set_option maxRecDepth 20000 in
theorem ggX7_makeBegun_X7_ingredientOf : GoodIn wsX7_makeBegun wsX7_ingredientOf := goodIn_r _ [16, 8, 9, 10, 11, 12, 6, 59, 60, 61, 62, 63, 64, 65, 66, 67, 68, 69, 70, 71, 72, 73, 74, 75, 76, 77, 78, 79, 80, 81, 82, 83, 84, 85, 86, 87] (by decide +kernel) (by decide +kernel)
set_option maxRecDepth 20000 in
theorem gX7_makeBegun_X7_ingredientOf : GoodIn wsX7_makeBegun (wsV RX7 69 RX7 yX7_ingredientOf wsX7_ingredientOf) := goodIn_app (goodIn_of _ (by decide +kernel)) ggX7_makeBegun_X7_ingredientOf
set_option maxRecDepth 20000 in
theorem ggX7_makeBegun_X7_amountOf : GoodIn wsX7_makeBegun wsX7_amountOf := goodIn_r _ [20, 8, 9, 10, 11, 12, 6, 59, 60, 61, 62, 63, 64, 65, 66, 67, 68, 69, 70, 71, 72, 73, 74, 75, 76, 77, 78, 79, 80, 81, 82, 83, 84, 85, 86, 87] (by decide +kernel) (by decide +kernel)
set_option maxRecDepth 20000 in
theorem gX7_makeBegun_X7_amountOf : GoodIn wsX7_makeBegun (wsV RX7 110 RX7 yX7_amountOf wsX7_amountOf) := goodIn_app (goodIn_of _ (by decide +kernel)) ggX7_makeBegun_X7_amountOf
set_option maxRecDepth 20000 in
theorem ggX7_makeBegun_X7_take : GoodIn wsX7_makeBegun wsX7_take := goodIn_r _ [24, 25, 26, 27, 11, 28, 8, 9, 10, 12, 6, 29, 30, 31, 32, 33, 34, 35, 36, 37, 38, 39, 40, 2, 41, 42, 43, 44, 45, 46, 47, 48, 49, 50, 51, 52, 53, 54, 4, 1, 5, 3, 7, 55, 56, 57, 58, 59, 60, 61, 62, 63, 64, 65, 66, 67, 68, 69, 70, 71, 72, 73, 74, 75, 76, 77, 78, 79, 80, 81, 82, 83, 84, 85, 86, 87] (by decide +kernel) (by decide +kernel)
set_option maxRecDepth 20000 in
theorem gX7_makeBegun_X7_take : GoodIn wsX7_makeBegun (wsV RX7 113 RX7 yX7_take wsX7_take) := goodIn_app (goodIn_of _ (by decide +kernel)) ggX7_makeBegun_X7_take
set_option maxRecDepth 20000 in
theorem ggX7_makeBegun_X7_come : GoodIn wsX7_makeBegun wsX7_come := goodIn_r _ [40, 2, 41, 8, 9, 10, 11, 12, 6, 33, 34, 35, 36, 59, 60, 61, 62, 63, 64, 65, 66, 67, 68, 69, 70, 71, 72, 73, 74, 75, 76, 77, 78, 79, 80, 81, 82, 83, 84, 85, 86, 87] (by decide +kernel) (by decide +kernel)
set_option maxRecDepth 20000 in
theorem gX7_makeBegun_X7_come : GoodIn wsX7_makeBegun (wsV RX7 85 RX7 yX7_come wsX7_come) := goodIn_app (goodIn_of _ (by decide +kernel)) ggX7_makeBegun_X7_come
set_option maxRecDepth 20000 in
theorem ggX7_makeBegun_X7_useUp : GoodIn wsX7_makeBegun wsX7_useUp := goodIn_r _ [32, 8, 9, 10, 11, 12, 6, 33, 34, 35, 36, 37, 38, 39, 40, 2, 41, 59, 60, 61, 62, 63, 64, 65, 66, 67, 68, 69, 70, 71, 72, 73, 74, 75, 76, 77, 78, 79, 80, 81, 82, 83, 84, 85, 86, 87] (by decide +kernel) (by decide +kernel)
set_option maxRecDepth 20000 in
theorem gX7_makeBegun_X7_useUp : GoodIn wsX7_makeBegun (wsV RX7 94 RX7 yX7_useUp wsX7_useUp) := goodIn_app (goodIn_of _ (by decide +kernel)) ggX7_makeBegun_X7_useUp
theorem dX7_makeBegun_0 : decode cX7_makeBegun 0 = .ok (.aload_n 0, 1) := by decide +kernel
theorem dX7_makeBegun_1 : decode cX7_makeBegun 1 = .ok (.getfield 91, 3) := by decide +kernel
theorem dX7_makeBegun_4 : decode cX7_makeBegun 4 = .ok (.ifCond .le 167, 3) := by decide +kernel
theorem dX7_makeBegun_7 : decode cX7_makeBegun 7 = .ok (.aload_n 0, 1) := by decide +kernel
theorem dX7_makeBegun_8 : decode cX7_makeBegun 8 = .ok (.getfield 80, 3) := by decide +kernel
theorem dX7_makeBegun_11 : decode cX7_makeBegun 11 = .ok (.ifCond .ne 160, 3) := by decide +kernel
theorem dX7_makeBegun_14 : decode cX7_makeBegun 14 = .ok (.aload_n 0, 1) := by decide +kernel
theorem dX7_makeBegun_15 : decode cX7_makeBegun 15 = .ok (.getfield 91, 3) := by decide +kernel
theorem dX7_makeBegun_18 : decode cX7_makeBegun 18 = .ok (.iconst 1, 1) := by decide +kernel
theorem dX7_makeBegun_19 : decode cX7_makeBegun 19 = .ok (.isub, 1) := by decide +kernel
theorem dX7_makeBegun_20 : decode cX7_makeBegun 20 = .ok (.istore_n 1, 1) := by decide +kernel
theorem dX7_makeBegun_21 : decode cX7_makeBegun 21 = .ok (.aload_n 0, 1) := by decide +kernel
theorem dX7_makeBegun_22 : decode cX7_makeBegun 22 = .ok (.getfield 38, 3) := by decide +kernel
theorem dX7_makeBegun_25 : decode cX7_makeBegun 25 = .ok (.iload_n 1, 1) := by decide +kernel
theorem dX7_makeBegun_26 : decode cX7_makeBegun 26 = .ok (.iaload, 1) := by decide +kernel
theorem dX7_makeBegun_27 : decode cX7_makeBegun 27 = .ok (.aload_n 0, 1) := by decide +kernel
theorem dX7_makeBegun_28 : decode cX7_makeBegun 28 = .ok (.aload_n 0, 1) := by decide +kernel
theorem dX7_makeBegun_29 : decode cX7_makeBegun 29 = .ok (.getfield 32, 3) := by decide +kernel
theorem dX7_makeBegun_32 : decode cX7_makeBegun 32 = .ok (.iload_n 1, 1) := by decide +kernel
theorem dX7_makeBegun_33 : decode cX7_makeBegun 33 = .ok (.iaload, 1) := by decide +kernel
theorem dX7_makeBegun_34 : decode cX7_makeBegun 34 = .ok (.bipush 8, 2) := by decide +kernel
theorem dX7_makeBegun_36 : decode cX7_makeBegun 36 = .ok (.invokevirtual 65, 3) := by decide +kernel
theorem dX7_makeBegun_39 : decode cX7_makeBegun 39 = .ok (.if_icmp .ge 56, 3) := by decide +kernel
theorem dX7_makeBegun_42 : decode cX7_makeBegun 42 = .ok (.aload_n 0, 1) := by decide +kernel
theorem dX7_makeBegun_43 : decode cX7_makeBegun 43 = .ok (.getfield 38, 3) := by decide +kernel
theorem dX7_makeBegun_46 : decode cX7_makeBegun 46 = .ok (.iload_n 1, 1) := by decide +kernel
theorem dX7_makeBegun_47 : decode cX7_makeBegun 47 = .ok (.iaload, 1) := by decide +kernel
theorem dX7_makeBegun_48 : decode cX7_makeBegun 48 = .ok (.istore_n 2, 1) := by decide +kernel
theorem dX7_makeBegun_49 : decode cX7_makeBegun 49 = .ok (.aload_n 0, 1) := by decide +kernel
theorem dX7_makeBegun_50 : decode cX7_makeBegun 50 = .ok (.getfield 38, 3) := by decide +kernel
theorem dX7_makeBegun_53 : decode cX7_makeBegun 53 = .ok (.iload_n 1, 1) := by decide +kernel
theorem dX7_makeBegun_54 : decode cX7_makeBegun 54 = .ok (.dup2, 1) := by decide +kernel
theorem dX7_makeBegun_55 : decode cX7_makeBegun 55 = .ok (.iaload, 1) := by decide +kernel
theorem dX7_makeBegun_56 : decode cX7_makeBegun 56 = .ok (.iconst 1, 1) := by decide +kernel
theorem dX7_makeBegun_57 : decode cX7_makeBegun 57 = .ok (.iadd, 1) := by decide +kernel
theorem dX7_makeBegun_58 : decode cX7_makeBegun 58 = .ok (.iastore, 1) := by decide +kernel
theorem dX7_makeBegun_59 : decode cX7_makeBegun 59 = .ok (.aload_n 0, 1) := by decide +kernel
theorem dX7_makeBegun_60 : decode cX7_makeBegun 60 = .ok (.aload_n 0, 1) := by decide +kernel
theorem dX7_makeBegun_61 : decode cX7_makeBegun 61 = .ok (.aload_n 0, 1) := by decide +kernel
theorem dX7_makeBegun_62 : decode cX7_makeBegun 62 = .ok (.getfield 32, 3) := by decide +kernel
theorem dX7_makeBegun_65 : decode cX7_makeBegun 65 = .ok (.iload_n 1, 1) := by decide +kernel
theorem dX7_makeBegun_66 : decode cX7_makeBegun 66 = .ok (.iaload, 1) := by decide +kernel
theorem dX7_makeBegun_67 : decode cX7_makeBegun 67 = .ok (.iload_n 2, 1) := by decide +kernel
theorem dX7_makeBegun_68 : decode cX7_makeBegun 68 = .ok (.invokevirtual 69, 3) := by decide +kernel
theorem dX7_makeBegun_71 : decode cX7_makeBegun 71 = .ok (.aload_n 0, 1) := by decide +kernel
theorem dX7_makeBegun_72 : decode cX7_makeBegun 72 = .ok (.aload_n 0, 1) := by decide +kernel
theorem dX7_makeBegun_73 : decode cX7_makeBegun 73 = .ok (.getfield 32, 3) := by decide +kernel
theorem dX7_makeBegun_76 : decode cX7_makeBegun 76 = .ok (.iload_n 1, 1) := by decide +kernel
theorem dX7_makeBegun_77 : decode cX7_makeBegun 77 = .ok (.iaload, 1) := by decide +kernel
theorem dX7_makeBegun_78 : decode cX7_makeBegun 78 = .ok (.iload_n 2, 1) := by decide +kernel
theorem dX7_makeBegun_79 : decode cX7_makeBegun 79 = .ok (.invokevirtual 110, 3) := by decide +kernel
theorem dX7_makeBegun_82 : decode cX7_makeBegun 82 = .ok (.aload_n 0, 1) := by decide +kernel
theorem dX7_makeBegun_83 : decode cX7_makeBegun 83 = .ok (.getfield 35, 3) := by decide +kernel
theorem dX7_makeBegun_86 : decode cX7_makeBegun 86 = .ok (.iload_n 1, 1) := by decide +kernel
theorem dX7_makeBegun_87 : decode cX7_makeBegun 87 = .ok (.iaload, 1) := by decide +kernel
theorem dX7_makeBegun_88 : decode cX7_makeBegun 88 = .ok (.imul, 1) := by decide +kernel
theorem dX7_makeBegun_89 : decode cX7_makeBegun 89 = .ok (.invokevirtual 113, 3) := by decide +kernel
theorem dX7_makeBegun_92 : decode cX7_makeBegun 92 = .ok (.goto 76, 3) := by decide +kernel
theorem dX7_makeBegun_95 : decode cX7_makeBegun 95 = .ok (.aload_n 0, 1) := by decide +kernel
theorem dX7_makeBegun_96 : decode cX7_makeBegun 96 = .ok (.aload_n 0, 1) := by decide +kernel
theorem dX7_makeBegun_97 : decode cX7_makeBegun 97 = .ok (.getfield 32, 3) := by decide +kernel
theorem dX7_makeBegun_100 : decode cX7_makeBegun 100 = .ok (.iload_n 1, 1) := by decide +kernel
theorem dX7_makeBegun_101 : decode cX7_makeBegun 101 = .ok (.iaload, 1) := by decide +kernel
theorem dX7_makeBegun_102 : decode cX7_makeBegun 102 = .ok (.aload_n 0, 1) := by decide +kernel
theorem dX7_makeBegun_103 : decode cX7_makeBegun 103 = .ok (.aload_n 0, 1) := by decide +kernel
theorem dX7_makeBegun_104 : decode cX7_makeBegun 104 = .ok (.getfield 32, 3) := by decide +kernel
theorem dX7_makeBegun_107 : decode cX7_makeBegun 107 = .ok (.iload_n 1, 1) := by decide +kernel
theorem dX7_makeBegun_108 : decode cX7_makeBegun 108 = .ok (.iaload, 1) := by decide +kernel
theorem dX7_makeBegun_109 : decode cX7_makeBegun 109 = .ok (.bipush 7, 2) := by decide +kernel
theorem dX7_makeBegun_111 : decode cX7_makeBegun 111 = .ok (.invokevirtual 65, 3) := by decide +kernel
theorem dX7_makeBegun_114 : decode cX7_makeBegun 114 = .ok (.aload_n 0, 1) := by decide +kernel
theorem dX7_makeBegun_115 : decode cX7_makeBegun 115 = .ok (.getfield 35, 3) := by decide +kernel
theorem dX7_makeBegun_118 : decode cX7_makeBegun 118 = .ok (.iload_n 1, 1) := by decide +kernel
theorem dX7_makeBegun_119 : decode cX7_makeBegun 119 = .ok (.iaload, 1) := by decide +kernel
theorem dX7_makeBegun_120 : decode cX7_makeBegun 120 = .ok (.imul, 1) := by decide +kernel
theorem dX7_makeBegun_121 : decode cX7_makeBegun 121 = .ok (.iconst 3, 1) := by decide +kernel
theorem dX7_makeBegun_122 : decode cX7_makeBegun 122 = .ok (.invokevirtual 85, 3) := by decide +kernel
theorem dX7_makeBegun_125 : decode cX7_makeBegun 125 = .ok (.aload_n 0, 1) := by decide +kernel
theorem dX7_makeBegun_126 : decode cX7_makeBegun 126 = .ok (.getfield 7, 3) := by decide +kernel
theorem dX7_makeBegun_129 : decode cX7_makeBegun 129 = .ok (.sipush 461, 3) := by decide +kernel
theorem dX7_makeBegun_132 : decode cX7_makeBegun 132 = .ok (.dup2, 1) := by decide +kernel
theorem dX7_makeBegun_133 : decode cX7_makeBegun 133 = .ok (.iaload, 1) := by decide +kernel
theorem dX7_makeBegun_134 : decode cX7_makeBegun 134 = .ok (.aload_n 0, 1) := by decide +kernel
theorem dX7_makeBegun_135 : decode cX7_makeBegun 135 = .ok (.getfield 35, 3) := by decide +kernel
theorem dX7_makeBegun_138 : decode cX7_makeBegun 138 = .ok (.iload_n 1, 1) := by decide +kernel
theorem dX7_makeBegun_139 : decode cX7_makeBegun 139 = .ok (.iaload, 1) := by decide +kernel
theorem dX7_makeBegun_140 : decode cX7_makeBegun 140 = .ok (.iadd, 1) := by decide +kernel
theorem dX7_makeBegun_141 : decode cX7_makeBegun 141 = .ok (.iastore, 1) := by decide +kernel
theorem dX7_makeBegun_142 : decode cX7_makeBegun 142 = .ok (.aload_n 0, 1) := by decide +kernel
theorem dX7_makeBegun_143 : decode cX7_makeBegun 143 = .ok (.aload_n 0, 1) := by decide +kernel
theorem dX7_makeBegun_144 : decode cX7_makeBegun 144 = .ok (.getfield 32, 3) := by decide +kernel
theorem dX7_makeBegun_147 : decode cX7_makeBegun 147 = .ok (.iload_n 1, 1) := by decide +kernel
theorem dX7_makeBegun_148 : decode cX7_makeBegun 148 = .ok (.iaload, 1) := by decide +kernel
theorem dX7_makeBegun_149 : decode cX7_makeBegun 149 = .ok (.aload_n 0, 1) := by decide +kernel
theorem dX7_makeBegun_150 : decode cX7_makeBegun 150 = .ok (.getfield 41, 3) := by decide +kernel
theorem dX7_makeBegun_153 : decode cX7_makeBegun 153 = .ok (.iload_n 1, 1) := by decide +kernel
theorem dX7_makeBegun_154 : decode cX7_makeBegun 154 = .ok (.iaload, 1) := by decide +kernel
theorem dX7_makeBegun_155 : decode cX7_makeBegun 155 = .ok (.invokevirtual 94, 3) := by decide +kernel
theorem dX7_makeBegun_158 : decode cX7_makeBegun 158 = .ok (.aload_n 0, 1) := by decide +kernel
theorem dX7_makeBegun_159 : decode cX7_makeBegun 159 = .ok (.dup, 1) := by decide +kernel
theorem dX7_makeBegun_160 : decode cX7_makeBegun 160 = .ok (.getfield 91, 3) := by decide +kernel
theorem dX7_makeBegun_163 : decode cX7_makeBegun 163 = .ok (.iconst 1, 1) := by decide +kernel
theorem dX7_makeBegun_164 : decode cX7_makeBegun 164 = .ok (.isub, 1) := by decide +kernel
theorem dX7_makeBegun_165 : decode cX7_makeBegun 165 = .ok (.putfield 91, 3) := by decide +kernel
theorem dX7_makeBegun_168 : decode cX7_makeBegun 168 = .ok (.goto (-168), 3) := by decide +kernel
theorem dX7_makeBegun_171 : decode cX7_makeBegun 171 = .ok (.return_, 1) := by decide +kernel
theorem dX7_beginMaking_0 : decode cX7_beginMaking 0 = .ok (.aload_n 0, 1) := by decide +kernel
theorem dX7_beginMaking_1 : decode cX7_beginMaking 1 = .ok (.iconst 0, 1) := by decide +kernel
theorem dX7_beginMaking_2 : decode cX7_beginMaking 2 = .ok (.putfield 91, 3) := by decide +kernel
theorem dX7_beginMaking_5 : decode cX7_beginMaking 5 = .ok (.aload_n 0, 1) := by decide +kernel
theorem dX7_beginMaking_6 : decode cX7_beginMaking 6 = .ok (.iconst 0, 1) := by decide +kernel
theorem dX7_beginMaking_7 : decode cX7_beginMaking 7 = .ok (.putfield 88, 3) := by decide +kernel
theorem dX7_beginMaking_10 : decode cX7_beginMaking 10 = .ok (.aload_n 0, 1) := by decide +kernel
theorem dX7_beginMaking_11 : decode cX7_beginMaking 11 = .ok (.iconst 0, 1) := by decide +kernel
theorem dX7_beginMaking_12 : decode cX7_beginMaking 12 = .ok (.putfield 80, 3) := by decide +kernel
theorem dX7_beginMaking_15 : decode cX7_beginMaking 15 = .ok (.return_, 1) := by decide +kernel
set_option maxRecDepth 20000 in
theorem ggX7_wishNow_X7_beginMaking : GoodIn wsX7_wishNow wsX7_beginMaking := goodIn_r _ [5, 6, 7, 8, 67, 68, 69, 70, 71, 72, 73, 74, 75, 76, 77, 78, 79, 80, 81, 82, 83, 84, 85, 86, 87, 88, 89, 90, 91, 92, 93, 94, 95] (by decide +kernel) (by decide +kernel)
set_option maxRecDepth 20000 in
theorem gX7_wishNow_X7_beginMaking : GoodIn wsX7_wishNow (wsV RX7 116 RX7 yX7_beginMaking wsX7_beginMaking) := goodIn_app (goodIn_of _ (by decide +kernel)) ggX7_wishNow_X7_beginMaking
set_option maxRecDepth 20000 in
theorem ggX7_wishNow_X7_of : GoodIn wsX7_wishNow wsX7_of := goodIn_r _ [12, 13, 67, 68, 69, 70, 71, 72, 73, 74, 75, 76, 77, 78, 79, 80, 81, 82, 83, 84, 85, 86, 87, 88, 89, 90, 91, 92, 93, 94, 95] (by decide +kernel) (by decide +kernel)
set_option maxRecDepth 20000 in
theorem gX7_wishNow_X7_of : GoodIn wsX7_wishNow (wsV RX7 65 RX7 yX7_of wsX7_of) := goodIn_app (goodIn_of _ (by decide +kernel)) ggX7_wishNow_X7_of
set_option maxRecDepth 20000 in
theorem ggX7_wishNow_X7_isMade : GoodIn wsX7_wishNow wsX7_isMade := goodIn_r _ [17, 9, 10, 11, 4, 12, 13, 67, 68, 69, 70, 71, 72, 73, 74, 75, 76, 77, 78, 79, 80, 81, 82, 83, 84, 85, 86, 87, 88, 89, 90, 91, 92, 93, 94, 95] (by decide +kernel) (by decide +kernel)
set_option maxRecDepth 20000 in
theorem gX7_wishNow_X7_isMade : GoodIn wsX7_wishNow (wsV RX7 72 RX7 yX7_isMade wsX7_isMade) := goodIn_app (goodIn_of _ (by decide +kernel)) ggX7_wishNow_X7_isMade
set_option maxRecDepth 20000 in
theorem ggX7_wishNow_X7_batchesFor : GoodIn wsX7_wishNow wsX7_batchesFor := goodIn_r _ [21, 9, 10, 11, 4, 12, 13, 67, 68, 69, 70, 71, 72, 73, 74, 75, 76, 77, 78, 79, 80, 81, 82, 83, 84, 85, 86, 87, 88, 89, 90, 91, 92, 93, 94, 95] (by decide +kernel) (by decide +kernel)
set_option maxRecDepth 20000 in
theorem gX7_wishNow_X7_batchesFor : GoodIn wsX7_wishNow (wsV RX7 101 RX7 yX7_batchesFor wsX7_batchesFor) := goodIn_app (goodIn_of _ (by decide +kernel)) ggX7_wishNow_X7_batchesFor
set_option maxRecDepth 20000 in
theorem ggX7_wishNow_X7_begin : GoodIn wsX7_wishNow wsX7_begin := goodIn_r _ [25, 7, 8, 26, 6, 27, 28, 29, 67, 68, 69, 70, 71, 72, 73, 74, 75, 76, 77, 78, 79, 80, 81, 82, 83, 84, 85, 86, 87, 88, 89, 90, 91, 92, 93, 94, 95] (by decide +kernel) (by decide +kernel)
set_option maxRecDepth 20000 in
theorem gX7_wishNow_X7_begin : GoodIn wsX7_wishNow (wsV RX7 104 RX7 yX7_begin wsX7_begin) := goodIn_app (goodIn_of _ (by decide +kernel)) ggX7_wishNow_X7_begin
set_option maxRecDepth 20000 in
theorem ggX7_wishNow_X7_makeBegun : GoodIn wsX7_wishNow wsX7_makeBegun := goodIn_r _ [33, 6, 8, 28, 26, 27, 13, 29, 9, 10, 11, 4, 12, 34, 35, 36, 37, 38, 39, 40, 41, 42, 43, 44, 45, 46, 47, 48, 49, 50, 51, 52, 53, 54, 55, 56, 57, 58, 59, 60, 61, 62, 14, 15, 16, 17, 18, 19, 20, 21, 22, 23, 24, 25, 7, 63, 64, 65, 66, 67, 68, 69, 70, 71, 72, 73, 74, 75, 76, 77, 78, 79, 80, 81, 82, 83, 84, 85, 86, 87, 88, 89, 90, 91, 92, 93, 94, 95] (by decide +kernel) (by decide +kernel)
set_option maxRecDepth 20000 in
theorem gX7_wishNow_X7_makeBegun : GoodIn wsX7_wishNow (wsV RX7 119 RX7 yX7_makeBegun wsX7_makeBegun) := goodIn_app (goodIn_of _ (by decide +kernel)) ggX7_wishNow_X7_makeBegun
set_option maxRecDepth 20000 in
theorem ggX7_wishNow_X7_gatherNow : GoodIn wsX7_wishNow wsX7_gatherNow := goodIn_r _ [66, 13, 58, 59, 60, 4, 61, 8, 62, 9, 10, 11, 12, 54, 55, 56, 57, 67, 68, 69, 70, 71, 72, 73, 74, 75, 76, 77, 78, 79, 80, 81, 82, 83, 84, 85, 86, 87, 88, 89, 90, 91, 92, 93, 94, 95] (by decide +kernel) (by decide +kernel)
set_option maxRecDepth 20000 in
theorem gX7_wishNow_X7_gatherNow : GoodIn wsX7_wishNow (wsV RX7 107 RX7 yX7_gatherNow wsX7_gatherNow) := goodIn_app (goodIn_of _ (by decide +kernel)) ggX7_wishNow_X7_gatherNow
theorem dX7_wishNow_0 : decode cX7_wishNow 0 = .ok (.aload_n 0, 1) := by decide +kernel
theorem dX7_wishNow_1 : decode cX7_wishNow 1 = .ok (.invokevirtual 116, 3) := by decide +kernel
theorem dX7_wishNow_4 : decode cX7_wishNow 4 = .ok (.iload_n 2, 1) := by decide +kernel
theorem dX7_wishNow_5 : decode cX7_wishNow 5 = .ok (.aload_n 0, 1) := by decide +kernel
theorem dX7_wishNow_6 : decode cX7_wishNow 6 = .ok (.iload_n 1, 1) := by decide +kernel
theorem dX7_wishNow_7 : decode cX7_wishNow 7 = .ok (.iconst 0, 1) := by decide +kernel
theorem dX7_wishNow_8 : decode cX7_wishNow 8 = .ok (.invokevirtual 65, 3) := by decide +kernel
theorem dX7_wishNow_11 : decode cX7_wishNow 11 = .ok (.isub, 1) := by decide +kernel
theorem dX7_wishNow_12 : decode cX7_wishNow 12 = .ok (.istore_n 3, 1) := by decide +kernel
theorem dX7_wishNow_13 : decode cX7_wishNow 13 = .ok (.iload_n 3, 1) := by decide +kernel
theorem dX7_wishNow_14 : decode cX7_wishNow 14 = .ok (.ifCond .le 30, 3) := by decide +kernel
theorem dX7_wishNow_17 : decode cX7_wishNow 17 = .ok (.aload_n 0, 1) := by decide +kernel
theorem dX7_wishNow_18 : decode cX7_wishNow 18 = .ok (.iload_n 1, 1) := by decide +kernel
theorem dX7_wishNow_19 : decode cX7_wishNow 19 = .ok (.invokevirtual 72, 3) := by decide +kernel
theorem dX7_wishNow_22 : decode cX7_wishNow 22 = .ok (.ifCond .eq 22, 3) := by decide +kernel
theorem dX7_wishNow_25 : decode cX7_wishNow 25 = .ok (.aload_n 0, 1) := by decide +kernel
theorem dX7_wishNow_26 : decode cX7_wishNow 26 = .ok (.iload_n 1, 1) := by decide +kernel
theorem dX7_wishNow_27 : decode cX7_wishNow 27 = .ok (.aload_n 0, 1) := by decide +kernel
theorem dX7_wishNow_28 : decode cX7_wishNow 28 = .ok (.iload_n 1, 1) := by decide +kernel
theorem dX7_wishNow_29 : decode cX7_wishNow 29 = .ok (.iload_n 3, 1) := by decide +kernel
theorem dX7_wishNow_30 : decode cX7_wishNow 30 = .ok (.invokevirtual 101, 3) := by decide +kernel
theorem dX7_wishNow_33 : decode cX7_wishNow 33 = .ok (.iconst 0, 1) := by decide +kernel
theorem dX7_wishNow_34 : decode cX7_wishNow 34 = .ok (.invokevirtual 104, 3) := by decide +kernel
theorem dX7_wishNow_37 : decode cX7_wishNow 37 = .ok (.aload_n 0, 1) := by decide +kernel
theorem dX7_wishNow_38 : decode cX7_wishNow 38 = .ok (.invokevirtual 119, 3) := by decide +kernel
theorem dX7_wishNow_41 : decode cX7_wishNow 41 = .ok (.goto 13, 3) := by decide +kernel
theorem dX7_wishNow_44 : decode cX7_wishNow 44 = .ok (.iload_n 3, 1) := by decide +kernel
theorem dX7_wishNow_45 : decode cX7_wishNow 45 = .ok (.ifCond .le 9, 3) := by decide +kernel
theorem dX7_wishNow_48 : decode cX7_wishNow 48 = .ok (.aload_n 0, 1) := by decide +kernel
theorem dX7_wishNow_49 : decode cX7_wishNow 49 = .ok (.iload_n 1, 1) := by decide +kernel
theorem dX7_wishNow_50 : decode cX7_wishNow 50 = .ok (.iload_n 3, 1) := by decide +kernel
theorem dX7_wishNow_51 : decode cX7_wishNow 51 = .ok (.invokevirtual 107, 3) := by decide +kernel
theorem dX7_wishNow_54 : decode cX7_wishNow 54 = .ok (.return_, 1) := by decide +kernel
theorem dX7_hold_0 : decode cX7_hold 0 = .ok (.iconst 0, 1) := by decide +kernel
theorem dX7_hold_1 : decode cX7_hold 1 = .ok (.istore_n 1, 1) := by decide +kernel
theorem dX7_hold_2 : decode cX7_hold 2 = .ok (.iload_n 1, 1) := by decide +kernel
theorem dX7_hold_3 : decode cX7_hold 3 = .ok (.sipush 462, 3) := by decide +kernel
theorem dX7_hold_6 : decode cX7_hold 6 = .ok (.if_icmp .ge 21, 3) := by decide +kernel
theorem dX7_hold_9 : decode cX7_hold 9 = .ok (.aload_n 0, 1) := by decide +kernel
theorem dX7_hold_10 : decode cX7_hold 10 = .ok (.getfield 44, 3) := by decide +kernel
theorem dX7_hold_13 : decode cX7_hold 13 = .ok (.iload_n 1, 1) := by decide +kernel
theorem dX7_hold_14 : decode cX7_hold 14 = .ok (.aload_n 0, 1) := by decide +kernel
theorem dX7_hold_15 : decode cX7_hold 15 = .ok (.getfield 7, 3) := by decide +kernel
theorem dX7_hold_18 : decode cX7_hold 18 = .ok (.iload_n 1, 1) := by decide +kernel
theorem dX7_hold_19 : decode cX7_hold 19 = .ok (.iaload, 1) := by decide +kernel
theorem dX7_hold_20 : decode cX7_hold 20 = .ok (.iastore, 1) := by decide +kernel
theorem dX7_hold_21 : decode cX7_hold 21 = .ok (.iinc 1 1, 3) := by decide +kernel
theorem dX7_hold_24 : decode cX7_hold 24 = .ok (.goto (-22), 3) := by decide +kernel
theorem dX7_hold_27 : decode cX7_hold 27 = .ok (.return_, 1) := by decide +kernel
theorem dX7_restore_0 : decode cX7_restore 0 = .ok (.iconst 0, 1) := by decide +kernel
theorem dX7_restore_1 : decode cX7_restore 1 = .ok (.istore_n 1, 1) := by decide +kernel
theorem dX7_restore_2 : decode cX7_restore 2 = .ok (.iload_n 1, 1) := by decide +kernel
theorem dX7_restore_3 : decode cX7_restore 3 = .ok (.sipush 462, 3) := by decide +kernel
theorem dX7_restore_6 : decode cX7_restore 6 = .ok (.if_icmp .ge 21, 3) := by decide +kernel
theorem dX7_restore_9 : decode cX7_restore 9 = .ok (.aload_n 0, 1) := by decide +kernel
theorem dX7_restore_10 : decode cX7_restore 10 = .ok (.getfield 7, 3) := by decide +kernel
theorem dX7_restore_13 : decode cX7_restore 13 = .ok (.iload_n 1, 1) := by decide +kernel
theorem dX7_restore_14 : decode cX7_restore 14 = .ok (.aload_n 0, 1) := by decide +kernel
theorem dX7_restore_15 : decode cX7_restore 15 = .ok (.getfield 44, 3) := by decide +kernel
theorem dX7_restore_18 : decode cX7_restore 18 = .ok (.iload_n 1, 1) := by decide +kernel
theorem dX7_restore_19 : decode cX7_restore 19 = .ok (.iaload, 1) := by decide +kernel
theorem dX7_restore_20 : decode cX7_restore 20 = .ok (.iastore, 1) := by decide +kernel
theorem dX7_restore_21 : decode cX7_restore 21 = .ok (.iinc 1 1, 3) := by decide +kernel
theorem dX7_restore_24 : decode cX7_restore 24 = .ok (.goto (-22), 3) := by decide +kernel
theorem dX7_restore_27 : decode cX7_restore 27 = .ok (.return_, 1) := by decide +kernel
set_option maxRecDepth 20000 in
theorem ggX7_endMaking_X7_restore : GoodIn wsX7_endMaking wsX7_restore := goodIn_r _ [8, 2, 3, 15, 16, 17, 18, 19, 20, 21, 22, 23, 24, 25, 26, 27, 28, 29, 30, 31, 32, 33, 34, 35, 36, 37, 38, 39, 40, 41, 42, 43] (by decide +kernel) (by decide +kernel)
set_option maxRecDepth 20000 in
theorem gX7_endMaking_X7_restore : GoodIn wsX7_endMaking (wsV RX7 122 RX7 yX7_restore wsX7_restore) := goodIn_app (goodIn_of _ (by decide +kernel)) ggX7_endMaking_X7_restore
set_option maxRecDepth 20000 in
theorem ggX7_endMaking_X7_remember : GoodIn wsX7_endMaking wsX7_remember := goodIn_r _ [12, 13, 14, 2, 15, 16, 17, 18, 19, 20, 21, 22, 23, 24, 25, 26, 27, 28, 29, 30, 31, 32, 33, 34, 35, 36, 37, 38, 39, 40, 41, 42, 43] (by decide +kernel) (by decide +kernel)
set_option maxRecDepth 20000 in
theorem gX7_endMaking_X7_remember : GoodIn wsX7_endMaking (wsV RX7 125 RX7 yX7_remember wsX7_remember) := goodIn_app (goodIn_of _ (by decide +kernel)) ggX7_endMaking_X7_remember
theorem dX7_endMaking_0 : decode cX7_endMaking 0 = .ok (.aload_n 0, 1) := by decide +kernel
theorem dX7_endMaking_1 : decode cX7_endMaking 1 = .ok (.getfield 80, 3) := by decide +kernel
theorem dX7_endMaking_4 : decode cX7_endMaking 4 = .ok (.ifCond .eq 10, 3) := by decide +kernel
theorem dX7_endMaking_7 : decode cX7_endMaking 7 = .ok (.aload_n 0, 1) := by decide +kernel
theorem dX7_endMaking_8 : decode cX7_endMaking 8 = .ok (.invokevirtual 122, 3) := by decide +kernel
theorem dX7_endMaking_11 : decode cX7_endMaking 11 = .ok (.bipush (-3), 2) := by decide +kernel
theorem dX7_endMaking_13 : decode cX7_endMaking 13 = .ok (.ireturn, 1) := by decide +kernel
theorem dX7_endMaking_14 : decode cX7_endMaking 14 = .ok (.aload_n 0, 1) := by decide +kernel
theorem dX7_endMaking_15 : decode cX7_endMaking 15 = .ok (.getfield 7, 3) := by decide +kernel
theorem dX7_endMaking_18 : decode cX7_endMaking 18 = .ok (.sipush 460, 3) := by decide +kernel
theorem dX7_endMaking_21 : decode cX7_endMaking 21 = .ok (.iaload, 1) := by decide +kernel
theorem dX7_endMaking_22 : decode cX7_endMaking 22 = .ok (.aload_n 0, 1) := by decide +kernel
theorem dX7_endMaking_23 : decode cX7_endMaking 23 = .ok (.getfield 44, 3) := by decide +kernel
theorem dX7_endMaking_26 : decode cX7_endMaking 26 = .ok (.sipush 460, 3) := by decide +kernel
theorem dX7_endMaking_29 : decode cX7_endMaking 29 = .ok (.iaload, 1) := by decide +kernel
theorem dX7_endMaking_30 : decode cX7_endMaking 30 = .ok (.isub, 1) := by decide +kernel
theorem dX7_endMaking_31 : decode cX7_endMaking 31 = .ok (.istore_n 1, 1) := by decide +kernel
theorem dX7_endMaking_32 : decode cX7_endMaking 32 = .ok (.iconst 0, 1) := by decide +kernel
theorem dX7_endMaking_33 : decode cX7_endMaking 33 = .ok (.istore_n 2, 1) := by decide +kernel
theorem dX7_endMaking_34 : decode cX7_endMaking 34 = .ok (.iload_n 2, 1) := by decide +kernel
theorem dX7_endMaking_35 : decode cX7_endMaking 35 = .ok (.sipush 462, 3) := by decide +kernel
theorem dX7_endMaking_38 : decode cX7_endMaking 38 = .ok (.if_icmp .ge 35, 3) := by decide +kernel
theorem dX7_endMaking_41 : decode cX7_endMaking 41 = .ok (.aload_n 0, 1) := by decide +kernel
theorem dX7_endMaking_42 : decode cX7_endMaking 42 = .ok (.getfield 7, 3) := by decide +kernel
theorem dX7_endMaking_45 : decode cX7_endMaking 45 = .ok (.iload_n 2, 1) := by decide +kernel
theorem dX7_endMaking_46 : decode cX7_endMaking 46 = .ok (.iaload, 1) := by decide +kernel
theorem dX7_endMaking_47 : decode cX7_endMaking 47 = .ok (.istore_n 3, 1) := by decide +kernel
theorem dX7_endMaking_48 : decode cX7_endMaking 48 = .ok (.aload_n 0, 1) := by decide +kernel
theorem dX7_endMaking_49 : decode cX7_endMaking 49 = .ok (.getfield 7, 3) := by decide +kernel
theorem dX7_endMaking_52 : decode cX7_endMaking 52 = .ok (.iload_n 2, 1) := by decide +kernel
theorem dX7_endMaking_53 : decode cX7_endMaking 53 = .ok (.aload_n 0, 1) := by decide +kernel
theorem dX7_endMaking_54 : decode cX7_endMaking 54 = .ok (.getfield 44, 3) := by decide +kernel
theorem dX7_endMaking_57 : decode cX7_endMaking 57 = .ok (.iload_n 2, 1) := by decide +kernel
theorem dX7_endMaking_58 : decode cX7_endMaking 58 = .ok (.iaload, 1) := by decide +kernel
theorem dX7_endMaking_59 : decode cX7_endMaking 59 = .ok (.iastore, 1) := by decide +kernel
theorem dX7_endMaking_60 : decode cX7_endMaking 60 = .ok (.aload_n 0, 1) := by decide +kernel
theorem dX7_endMaking_61 : decode cX7_endMaking 61 = .ok (.getfield 44, 3) := by decide +kernel
theorem dX7_endMaking_64 : decode cX7_endMaking 64 = .ok (.iload_n 2, 1) := by decide +kernel
theorem dX7_endMaking_65 : decode cX7_endMaking 65 = .ok (.iload_n 3, 1) := by decide +kernel
theorem dX7_endMaking_66 : decode cX7_endMaking 66 = .ok (.iastore, 1) := by decide +kernel
theorem dX7_endMaking_67 : decode cX7_endMaking 67 = .ok (.iinc 2 1, 3) := by decide +kernel
theorem dX7_endMaking_70 : decode cX7_endMaking 70 = .ok (.goto (-36), 3) := by decide +kernel
theorem dX7_endMaking_73 : decode cX7_endMaking 73 = .ok (.aload_n 0, 1) := by decide +kernel
theorem dX7_endMaking_74 : decode cX7_endMaking 74 = .ok (.invokevirtual 125, 3) := by decide +kernel
theorem dX7_endMaking_77 : decode cX7_endMaking 77 = .ok (.aload_n 0, 1) := by decide +kernel
theorem dX7_endMaking_78 : decode cX7_endMaking 78 = .ok (.invokevirtual 122, 3) := by decide +kernel
theorem dX7_endMaking_81 : decode cX7_endMaking 81 = .ok (.iload_n 1, 1) := by decide +kernel
theorem dX7_endMaking_82 : decode cX7_endMaking 82 = .ok (.ireturn, 1) := by decide +kernel
set_option maxRecDepth 20000 in
theorem ggX7_wish_X7_isThing : GoodIn wsX7_wish wsX7_isThing := goodIn_r _ [4, 5, 6, 3, 7] (by decide +kernel) (by decide +kernel)
set_option maxRecDepth 20000 in
theorem gX7_wish_X7_isThing : GoodIn wsX7_wish (va_wsS RX7 128 yX7_isThing wsX7_isThing) := goodIn_app (goodIn_of _ (by decide +kernel)) ggX7_wish_X7_isThing
set_option maxRecDepth 20000 in
theorem ggX7_wish_X7_isIn : GoodIn wsX7_wish wsX7_isIn := goodIn_r _ [7] (by decide +kernel) (by decide +kernel)
set_option maxRecDepth 20000 in
theorem gX7_wish_X7_isIn : GoodIn wsX7_wish (va_wsS RX7 61 yX7_isIn wsX7_isIn) := goodIn_app (goodIn_of _ (by decide +kernel)) ggX7_wish_X7_isIn
set_option maxRecDepth 20000 in
theorem ggX7_wish_X7_hold : GoodIn wsX7_wish wsX7_hold := goodIn_r _ [11, 12, 13, 96, 97, 98, 99, 100, 101, 102, 103, 104, 105, 106, 107, 108, 109, 110, 111, 112, 113, 114, 115, 116, 117, 118, 119, 120, 121, 122, 123, 124] (by decide +kernel) (by decide +kernel)
set_option maxRecDepth 20000 in
theorem gX7_wish_X7_hold : GoodIn wsX7_wish (wsV RX7 131 RX7 yX7_hold wsX7_hold) := goodIn_app (goodIn_of _ (by decide +kernel)) ggX7_wish_X7_hold
set_option maxRecDepth 20000 in
theorem ggX7_wish_X7_wishNow : GoodIn wsX7_wish wsX7_wishNow := goodIn_r _ [17, 18, 19, 20, 3, 21, 22, 23, 24, 25, 26, 27, 28, 13, 29, 30, 31, 32, 33, 34, 35, 36, 37, 38, 39, 40, 41, 42, 43, 44, 45, 46, 47, 48, 49, 50, 51, 52, 53, 54, 55, 56, 57, 58, 59, 60, 61, 62, 63, 64, 65, 66, 67, 68, 69, 70, 71, 72, 73, 74, 75, 76, 77, 78, 79, 80, 81, 96, 97, 98, 99, 100, 101, 102, 103, 104, 105, 106, 107, 108, 109, 110, 111, 112, 113, 114, 115, 116, 117, 118, 119, 120, 121, 122, 123, 124] (by decide +kernel) (by decide +kernel)
set_option maxRecDepth 20000 in
theorem gX7_wish_X7_wishNow : GoodIn wsX7_wish (wsV RX7 134 RX7 yX7_wishNow wsX7_wishNow) := goodIn_app (goodIn_of _ (by decide +kernel)) ggX7_wish_X7_wishNow
set_option maxRecDepth 20000 in
theorem ggX7_wish_X7_endMaking : GoodIn wsX7_wish wsX7_endMaking := goodIn_r _ [85, 24, 13, 12, 86, 87, 88, 3, 89, 90, 91, 92, 93, 94, 95, 96, 97, 98, 99, 100, 101, 102, 103, 104, 105, 106, 107, 108, 109, 110, 111, 112, 113, 114, 115, 116, 117, 118, 119, 120, 121, 122, 123, 124] (by decide +kernel) (by decide +kernel)
set_option maxRecDepth 20000 in
theorem gX7_wish_X7_endMaking : GoodIn wsX7_wish (wsV RX7 137 RX7 yX7_endMaking wsX7_endMaking) := goodIn_app (goodIn_of _ (by decide +kernel)) ggX7_wish_X7_endMaking
theorem dX7_wish_0 : decode cX7_wish 0 = .ok (.iload_n 1, 1) := by decide +kernel
theorem dX7_wish_1 : decode cX7_wish 1 = .ok (.invokestatic 128, 3) := by decide +kernel
theorem dX7_wish_4 : decode cX7_wish 4 = .ok (.ifCond .eq 14, 3) := by decide +kernel
theorem dX7_wish_7 : decode cX7_wish 7 = .ok (.iload_n 2, 1) := by decide +kernel
theorem dX7_wish_8 : decode cX7_wish 8 = .ok (.iconst 1, 1) := by decide +kernel
theorem dX7_wish_9 : decode cX7_wish 9 = .ok (.sipush 999, 3) := by decide +kernel
theorem dX7_wish_12 : decode cX7_wish 12 = .ok (.invokestatic 61, 3) := by decide +kernel
theorem dX7_wish_15 : decode cX7_wish 15 = .ok (.ifCond .ne 5, 3) := by decide +kernel
theorem dX7_wish_18 : decode cX7_wish 18 = .ok (.iconst (-1), 1) := by decide +kernel
theorem dX7_wish_19 : decode cX7_wish 19 = .ok (.ireturn, 1) := by decide +kernel
theorem dX7_wish_20 : decode cX7_wish 20 = .ok (.aload_n 0, 1) := by decide +kernel
theorem dX7_wish_21 : decode cX7_wish 21 = .ok (.invokevirtual 131, 3) := by decide +kernel
theorem dX7_wish_24 : decode cX7_wish 24 = .ok (.aload_n 0, 1) := by decide +kernel
theorem dX7_wish_25 : decode cX7_wish 25 = .ok (.iload_n 1, 1) := by decide +kernel
theorem dX7_wish_26 : decode cX7_wish 26 = .ok (.iload_n 2, 1) := by decide +kernel
theorem dX7_wish_27 : decode cX7_wish 27 = .ok (.invokevirtual 134, 3) := by decide +kernel
theorem dX7_wish_30 : decode cX7_wish 30 = .ok (.aload_n 0, 1) := by decide +kernel
theorem dX7_wish_31 : decode cX7_wish 31 = .ok (.invokevirtual 137, 3) := by decide +kernel
theorem dX7_wish_34 : decode cX7_wish 34 = .ok (.ireturn, 1) := by decide +kernel
set_option maxRecDepth 20000 in
theorem ggX7_make_X7_isThing : GoodIn wsX7_make wsX7_isThing := goodIn_r _ [4, 5, 6, 3, 7] (by decide +kernel) (by decide +kernel)
set_option maxRecDepth 20000 in
theorem gX7_make_X7_isThing : GoodIn wsX7_make (va_wsS RX7 128 yX7_isThing wsX7_isThing) := goodIn_app (goodIn_of _ (by decide +kernel)) ggX7_make_X7_isThing
set_option maxRecDepth 20000 in
theorem ggX7_make_X7_isIn : GoodIn wsX7_make wsX7_isIn := goodIn_r _ [7] (by decide +kernel) (by decide +kernel)
set_option maxRecDepth 20000 in
theorem gX7_make_X7_isIn : GoodIn wsX7_make (va_wsS RX7 61 yX7_isIn wsX7_isIn) := goodIn_app (goodIn_of _ (by decide +kernel)) ggX7_make_X7_isIn
set_option maxRecDepth 20000 in
theorem ggX7_make_X7_isMade : GoodIn wsX7_make wsX7_isMade := goodIn_r _ [11, 12, 13, 14, 3, 15, 16, 92, 93, 94, 95, 96, 97, 98, 99, 100, 101, 102, 103, 104, 105, 106, 107, 108, 109, 110, 111, 112, 113, 114, 115, 116, 117, 118, 119, 120] (by decide +kernel) (by decide +kernel)
set_option maxRecDepth 20000 in
theorem gX7_make_X7_isMade : GoodIn wsX7_make (wsV RX7 72 RX7 yX7_isMade wsX7_isMade) := goodIn_app (goodIn_of _ (by decide +kernel)) ggX7_make_X7_isMade
set_option maxRecDepth 20000 in
theorem ggX7_make_X7_hold : GoodIn wsX7_make wsX7_hold := goodIn_r _ [20, 21, 16, 92, 93, 94, 95, 96, 97, 98, 99, 100, 101, 102, 103, 104, 105, 106, 107, 108, 109, 110, 111, 112, 113, 114, 115, 116, 117, 118, 119, 120] (by decide +kernel) (by decide +kernel)
set_option maxRecDepth 20000 in
theorem gX7_make_X7_hold : GoodIn wsX7_make (wsV RX7 131 RX7 yX7_hold wsX7_hold) := goodIn_app (goodIn_of _ (by decide +kernel)) ggX7_make_X7_hold
set_option maxRecDepth 20000 in
theorem ggX7_make_X7_beginMaking : GoodIn wsX7_make wsX7_beginMaking := goodIn_r _ [25, 26, 27, 28, 92, 93, 94, 95, 96, 97, 98, 99, 100, 101, 102, 103, 104, 105, 106, 107, 108, 109, 110, 111, 112, 113, 114, 115, 116, 117, 118, 119, 120] (by decide +kernel) (by decide +kernel)
set_option maxRecDepth 20000 in
theorem gX7_make_X7_beginMaking : GoodIn wsX7_make (wsV RX7 116 RX7 yX7_beginMaking wsX7_beginMaking) := goodIn_app (goodIn_of _ (by decide +kernel)) ggX7_make_X7_beginMaking
set_option maxRecDepth 20000 in
theorem ggX7_make_X7_begin : GoodIn wsX7_make wsX7_begin := goodIn_r _ [32, 27, 28, 33, 26, 34, 35, 36, 92, 93, 94, 95, 96, 97, 98, 99, 100, 101, 102, 103, 104, 105, 106, 107, 108, 109, 110, 111, 112, 113, 114, 115, 116, 117, 118, 119, 120] (by decide +kernel) (by decide +kernel)
set_option maxRecDepth 20000 in
theorem gX7_make_X7_begin : GoodIn wsX7_make (wsV RX7 104 RX7 yX7_begin wsX7_begin) := goodIn_app (goodIn_of _ (by decide +kernel)) ggX7_make_X7_begin
set_option maxRecDepth 20000 in
theorem ggX7_make_X7_makeBegun : GoodIn wsX7_make wsX7_makeBegun := goodIn_r _ [40, 26, 28, 35, 33, 34, 16, 36, 12, 13, 14, 3, 15, 41, 42, 43, 44, 45, 46, 47, 48, 49, 50, 51, 52, 53, 54, 55, 56, 57, 58, 59, 60, 61, 62, 63, 64, 65, 66, 67, 68, 69, 8, 9, 10, 11, 70, 71, 72, 73, 29, 30, 31, 32, 27, 74, 75, 76, 77, 92, 93, 94, 95, 96, 97, 98, 99, 100, 101, 102, 103, 104, 105, 106, 107, 108, 109, 110, 111, 112, 113, 114, 115, 116, 117, 118, 119, 120] (by decide +kernel) (by decide +kernel)
set_option maxRecDepth 20000 in
theorem gX7_make_X7_makeBegun : GoodIn wsX7_make (wsV RX7 119 RX7 yX7_makeBegun wsX7_makeBegun) := goodIn_app (goodIn_of _ (by decide +kernel)) ggX7_make_X7_makeBegun
set_option maxRecDepth 20000 in
theorem ggX7_make_X7_endMaking : GoodIn wsX7_make wsX7_endMaking := goodIn_r _ [81, 28, 16, 21, 82, 83, 84, 3, 85, 86, 87, 88, 89, 90, 91, 92, 93, 94, 95, 96, 97, 98, 99, 100, 101, 102, 103, 104, 105, 106, 107, 108, 109, 110, 111, 112, 113, 114, 115, 116, 117, 118, 119, 120] (by decide +kernel) (by decide +kernel)
set_option maxRecDepth 20000 in
theorem gX7_make_X7_endMaking : GoodIn wsX7_make (wsV RX7 137 RX7 yX7_endMaking wsX7_endMaking) := goodIn_app (goodIn_of _ (by decide +kernel)) ggX7_make_X7_endMaking
theorem dX7_make_0 : decode cX7_make 0 = .ok (.iload_n 1, 1) := by decide +kernel
theorem dX7_make_1 : decode cX7_make 1 = .ok (.invokestatic 128, 3) := by decide +kernel
theorem dX7_make_4 : decode cX7_make 4 = .ok (.ifCond .eq 13, 3) := by decide +kernel
theorem dX7_make_7 : decode cX7_make 7 = .ok (.iload_n 2, 1) := by decide +kernel
theorem dX7_make_8 : decode cX7_make 8 = .ok (.iconst 1, 1) := by decide +kernel
theorem dX7_make_9 : decode cX7_make 9 = .ok (.bipush 99, 2) := by decide +kernel
theorem dX7_make_11 : decode cX7_make 11 = .ok (.invokestatic 61, 3) := by decide +kernel
theorem dX7_make_14 : decode cX7_make 14 = .ok (.ifCond .ne 5, 3) := by decide +kernel
theorem dX7_make_17 : decode cX7_make 17 = .ok (.iconst (-1), 1) := by decide +kernel
theorem dX7_make_18 : decode cX7_make 18 = .ok (.ireturn, 1) := by decide +kernel
theorem dX7_make_19 : decode cX7_make 19 = .ok (.aload_n 0, 1) := by decide +kernel
theorem dX7_make_20 : decode cX7_make 20 = .ok (.iload_n 1, 1) := by decide +kernel
theorem dX7_make_21 : decode cX7_make 21 = .ok (.invokevirtual 72, 3) := by decide +kernel
theorem dX7_make_24 : decode cX7_make 24 = .ok (.ifCond .ne 6, 3) := by decide +kernel
theorem dX7_make_27 : decode cX7_make 27 = .ok (.bipush (-2), 2) := by decide +kernel
theorem dX7_make_29 : decode cX7_make 29 = .ok (.ireturn, 1) := by decide +kernel
theorem dX7_make_30 : decode cX7_make 30 = .ok (.aload_n 0, 1) := by decide +kernel
theorem dX7_make_31 : decode cX7_make 31 = .ok (.invokevirtual 131, 3) := by decide +kernel
theorem dX7_make_34 : decode cX7_make 34 = .ok (.aload_n 0, 1) := by decide +kernel
theorem dX7_make_35 : decode cX7_make 35 = .ok (.invokevirtual 116, 3) := by decide +kernel
theorem dX7_make_38 : decode cX7_make 38 = .ok (.aload_n 0, 1) := by decide +kernel
theorem dX7_make_39 : decode cX7_make 39 = .ok (.iload_n 1, 1) := by decide +kernel
theorem dX7_make_40 : decode cX7_make 40 = .ok (.iload_n 2, 1) := by decide +kernel
theorem dX7_make_41 : decode cX7_make 41 = .ok (.iconst 0, 1) := by decide +kernel
theorem dX7_make_42 : decode cX7_make 42 = .ok (.invokevirtual 104, 3) := by decide +kernel
theorem dX7_make_45 : decode cX7_make 45 = .ok (.aload_n 0, 1) := by decide +kernel
theorem dX7_make_46 : decode cX7_make 46 = .ok (.invokevirtual 119, 3) := by decide +kernel
theorem dX7_make_49 : decode cX7_make 49 = .ok (.aload_n 0, 1) := by decide +kernel
theorem dX7_make_50 : decode cX7_make 50 = .ok (.invokevirtual 137, 3) := by decide +kernel
theorem dX7_make_53 : decode cX7_make 53 = .ok (.ireturn, 1) := by decide +kernel
theorem dX7_mark_0 : decode cX7_mark 0 = .ok (.aload_n 0, 1) := by decide +kernel
theorem dX7_mark_1 : decode cX7_mark 1 = .ok (.iload_n 1, 1) := by decide +kernel
theorem dX7_mark_2 : decode cX7_mark 2 = .ok (.putfield 141, 3) := by decide +kernel
theorem dX7_mark_5 : decode cX7_mark 5 = .ok (.aload_n 0, 1) := by decide +kernel
theorem dX7_mark_6 : decode cX7_mark 6 = .ok (.iload_n 2, 1) := by decide +kernel
theorem dX7_mark_7 : decode cX7_mark 7 = .ok (.putfield 144, 3) := by decide +kernel
theorem dX7_mark_10 : decode cX7_mark 10 = .ok (.return_, 1) := by decide +kernel
theorem dX7_isNumber_0 : decode cX7_isNumber 0 = .ok (.aload_n 0, 1) := by decide +kernel
theorem dX7_isNumber_1 : decode cX7_isNumber 1 = .ok (.getfield 147, 3) := by decide +kernel
theorem dX7_isNumber_4 : decode cX7_isNumber 4 = .ok (.iconst 2, 1) := by decide +kernel
theorem dX7_isNumber_5 : decode cX7_isNumber 5 = .ok (.if_icmp .eq 11, 3) := by decide +kernel
theorem dX7_isNumber_8 : decode cX7_isNumber 8 = .ok (.aload_n 0, 1) := by decide +kernel
theorem dX7_isNumber_9 : decode cX7_isNumber 9 = .ok (.getfield 147, 3) := by decide +kernel
theorem dX7_isNumber_12 : decode cX7_isNumber 12 = .ok (.iconst 5, 1) := by decide +kernel
theorem dX7_isNumber_13 : decode cX7_isNumber 13 = .ok (.if_icmp .ne 7, 3) := by decide +kernel
theorem dX7_isNumber_16 : decode cX7_isNumber 16 = .ok (.iconst 1, 1) := by decide +kernel
theorem dX7_isNumber_17 : decode cX7_isNumber 17 = .ok (.goto 4, 3) := by decide +kernel
theorem dX7_isNumber_20 : decode cX7_isNumber 20 = .ok (.iconst 0, 1) := by decide +kernel
theorem dX7_isNumber_21 : decode cX7_isNumber 21 = .ok (.ireturn, 1) := by decide +kernel
set_option maxRecDepth 20000 in
theorem ggX7_endsWell_X7_isNumber : GoodIn wsX7_endsWell wsX7_isNumber := goodIn_r _ [9, 3, 19, 20, 21, 22, 23, 24, 25, 26, 27, 28, 29, 30, 31, 32, 33, 34, 35, 36, 37, 38, 39, 40, 41, 42, 43, 44, 45, 46, 47] (by decide +kernel) (by decide +kernel)
set_option maxRecDepth 20000 in
theorem gX7_endsWell_X7_isNumber : GoodIn wsX7_endsWell (wsV RX7 150 RX7 yX7_isNumber wsX7_isNumber) := goodIn_app (goodIn_of _ (by decide +kernel)) ggX7_endsWell_X7_isNumber
set_option maxRecDepth 20000 in
theorem ggX7_endsWell_X7_isIn : GoodIn wsX7_endsWell wsX7_isIn := goodIn_r _ [12] (by decide +kernel) (by decide +kernel)
set_option maxRecDepth 20000 in
theorem gX7_endsWell_X7_isIn : GoodIn wsX7_endsWell (va_wsS RX7 61 yX7_isIn wsX7_isIn) := goodIn_app (goodIn_of _ (by decide +kernel)) ggX7_endsWell_X7_isIn
set_option maxRecDepth 20000 in
theorem ggX7_endsWell_X7_mark : GoodIn wsX7_endsWell wsX7_mark := goodIn_r _ [16, 17, 18, 19, 20, 21, 22, 23, 24, 25, 26, 27, 28, 29, 30, 31, 32, 33, 34, 35, 36, 37, 38, 39, 40, 41, 42, 43, 44, 45, 46, 47] (by decide +kernel) (by decide +kernel)
set_option maxRecDepth 20000 in
theorem gX7_endsWell_X7_mark : GoodIn wsX7_endsWell (wsV RX7 160 RX7 yX7_mark wsX7_mark) := goodIn_app (goodIn_of _ (by decide +kernel)) ggX7_endsWell_X7_mark
theorem dX7_endsWell_0 : decode cX7_endsWell 0 = .ok (.aload_n 0, 1) := by decide +kernel
theorem dX7_endsWell_1 : decode cX7_endsWell 1 = .ok (.invokevirtual 150, 3) := by decide +kernel
theorem dX7_endsWell_4 : decode cX7_endsWell 4 = .ok (.ifCond .eq 60, 3) := by decide +kernel
theorem dX7_endsWell_7 : decode cX7_endsWell 7 = .ok (.aload_n 0, 1) := by decide +kernel
theorem dX7_endsWell_8 : decode cX7_endsWell 8 = .ok (.getfield 154, 3) := by decide +kernel
theorem dX7_endsWell_11 : decode cX7_endsWell 11 = .ok (.iconst 1, 1) := by decide +kernel
theorem dX7_endsWell_12 : decode cX7_endsWell 12 = .ok (.bipush 20, 2) := by decide +kernel
theorem dX7_endsWell_14 : decode cX7_endsWell 14 = .ok (.invokestatic 61, 3) := by decide +kernel
theorem dX7_endsWell_17 : decode cX7_endsWell 17 = .ok (.ifCond .ne 14, 3) := by decide +kernel
theorem dX7_endsWell_20 : decode cX7_endsWell 20 = .ok (.aload_n 0, 1) := by decide +kernel
theorem dX7_endsWell_21 : decode cX7_endsWell 21 = .ok (.iconst 2, 1) := by decide +kernel
theorem dX7_endsWell_22 : decode cX7_endsWell 22 = .ok (.aload_n 0, 1) := by decide +kernel
theorem dX7_endsWell_23 : decode cX7_endsWell 23 = .ok (.getfield 157, 3) := by decide +kernel
theorem dX7_endsWell_26 : decode cX7_endsWell 26 = .ok (.invokevirtual 160, 3) := by decide +kernel
theorem dX7_endsWell_29 : decode cX7_endsWell 29 = .ok (.iconst 0, 1) := by decide +kernel
theorem dX7_endsWell_30 : decode cX7_endsWell 30 = .ok (.ireturn, 1) := by decide +kernel
theorem dX7_endsWell_31 : decode cX7_endsWell 31 = .ok (.aload_n 0, 1) := by decide +kernel
theorem dX7_endsWell_32 : decode cX7_endsWell 32 = .ok (.aload_n 0, 1) := by decide +kernel
theorem dX7_endsWell_33 : decode cX7_endsWell 33 = .ok (.getfield 147, 3) := by decide +kernel
theorem dX7_endsWell_36 : decode cX7_endsWell 36 = .ok (.iconst 2, 1) := by decide +kernel
theorem dX7_endsWell_37 : decode cX7_endsWell 37 = .ok (.if_icmp .ne 10, 3) := by decide +kernel
theorem dX7_endsWell_40 : decode cX7_endsWell 40 = .ok (.aload_n 0, 1) := by decide +kernel
theorem dX7_endsWell_41 : decode cX7_endsWell 41 = .ok (.getfield 154, 3) := by decide +kernel
theorem dX7_endsWell_44 : decode cX7_endsWell 44 = .ok (.goto 7, 3) := by decide +kernel
theorem dX7_endsWell_47 : decode cX7_endsWell 47 = .ok (.aload_n 0, 1) := by decide +kernel
theorem dX7_endsWell_48 : decode cX7_endsWell 48 = .ok (.getfield 163, 3) := by decide +kernel
theorem dX7_endsWell_51 : decode cX7_endsWell 51 = .ok (.putfield 163, 3) := by decide +kernel
theorem dX7_endsWell_54 : decode cX7_endsWell 54 = .ok (.aload_n 0, 1) := by decide +kernel
theorem dX7_endsWell_55 : decode cX7_endsWell 55 = .ok (.dup, 1) := by decide +kernel
theorem dX7_endsWell_56 : decode cX7_endsWell 56 = .ok (.getfield 147, 3) := by decide +kernel
theorem dX7_endsWell_59 : decode cX7_endsWell 59 = .ok (.iconst 1, 1) := by decide +kernel
theorem dX7_endsWell_60 : decode cX7_endsWell 60 = .ok (.iadd, 1) := by decide +kernel
theorem dX7_endsWell_61 : decode cX7_endsWell 61 = .ok (.putfield 147, 3) := by decide +kernel
theorem dX7_endsWell_64 : decode cX7_endsWell 64 = .ok (.iconst 1, 1) := by decide +kernel
theorem dX7_endsWell_65 : decode cX7_endsWell 65 = .ok (.ireturn, 1) := by decide +kernel
set_option maxRecDepth 20000 in
theorem ggX7_readDigit_X7_isNumber : GoodIn wsX7_readDigit wsX7_isNumber := goodIn_r _ [10, 1, 17, 18, 19, 20, 21, 22, 23, 24, 25, 26, 27, 28, 29, 30, 31, 32, 33, 34, 35, 36, 37, 38, 39, 40, 41, 42, 43, 44, 45] (by decide +kernel) (by decide +kernel)
set_option maxRecDepth 20000 in
theorem gX7_readDigit_X7_isNumber : GoodIn wsX7_readDigit (wsV RX7 150 RX7 yX7_isNumber wsX7_isNumber) := goodIn_app (goodIn_of _ (by decide +kernel)) ggX7_readDigit_X7_isNumber
set_option maxRecDepth 20000 in
theorem ggX7_readDigit_X7_mark : GoodIn wsX7_readDigit wsX7_mark := goodIn_r _ [14, 15, 16, 17, 18, 19, 20, 21, 22, 23, 24, 25, 26, 27, 28, 29, 30, 31, 32, 33, 34, 35, 36, 37, 38, 39, 40, 41, 42, 43, 44, 45] (by decide +kernel) (by decide +kernel)
set_option maxRecDepth 20000 in
theorem gX7_readDigit_X7_mark : GoodIn wsX7_readDigit (wsV RX7 160 RX7 yX7_mark wsX7_mark) := goodIn_app (goodIn_of _ (by decide +kernel)) ggX7_readDigit_X7_mark
theorem dX7_readDigit_0 : decode cX7_readDigit 0 = .ok (.aload_n 0, 1) := by decide +kernel
theorem dX7_readDigit_1 : decode cX7_readDigit 1 = .ok (.getfield 147, 3) := by decide +kernel
theorem dX7_readDigit_4 : decode cX7_readDigit 4 = .ok (.iconst 1, 1) := by decide +kernel
theorem dX7_readDigit_5 : decode cX7_readDigit 5 = .ok (.if_icmp .eq 11, 3) := by decide +kernel
theorem dX7_readDigit_8 : decode cX7_readDigit 8 = .ok (.aload_n 0, 1) := by decide +kernel
theorem dX7_readDigit_9 : decode cX7_readDigit 9 = .ok (.getfield 147, 3) := by decide +kernel
theorem dX7_readDigit_12 : decode cX7_readDigit 12 = .ok (.iconst 4, 1) := by decide +kernel
theorem dX7_readDigit_13 : decode cX7_readDigit 13 = .ok (.if_icmp .ne 39, 3) := by decide +kernel
theorem dX7_readDigit_16 : decode cX7_readDigit 16 = .ok (.aload_n 0, 1) := by decide +kernel
theorem dX7_readDigit_17 : decode cX7_readDigit 17 = .ok (.dup, 1) := by decide +kernel
theorem dX7_readDigit_18 : decode cX7_readDigit 18 = .ok (.getfield 147, 3) := by decide +kernel
theorem dX7_readDigit_21 : decode cX7_readDigit 21 = .ok (.iconst 1, 1) := by decide +kernel
theorem dX7_readDigit_22 : decode cX7_readDigit 22 = .ok (.iadd, 1) := by decide +kernel
theorem dX7_readDigit_23 : decode cX7_readDigit 23 = .ok (.putfield 147, 3) := by decide +kernel
theorem dX7_readDigit_26 : decode cX7_readDigit 26 = .ok (.aload_n 0, 1) := by decide +kernel
theorem dX7_readDigit_27 : decode cX7_readDigit 27 = .ok (.aload_n 0, 1) := by decide +kernel
theorem dX7_readDigit_28 : decode cX7_readDigit 28 = .ok (.getfield 19, 3) := by decide +kernel
theorem dX7_readDigit_31 : decode cX7_readDigit 31 = .ok (.iload_n 1, 1) := by decide +kernel
theorem dX7_readDigit_32 : decode cX7_readDigit 32 = .ok (.iaload, 1) := by decide +kernel
theorem dX7_readDigit_33 : decode cX7_readDigit 33 = .ok (.bipush 48, 2) := by decide +kernel
theorem dX7_readDigit_35 : decode cX7_readDigit 35 = .ok (.isub, 1) := by decide +kernel
theorem dX7_readDigit_36 : decode cX7_readDigit 36 = .ok (.putfield 154, 3) := by decide +kernel
theorem dX7_readDigit_39 : decode cX7_readDigit 39 = .ok (.aload_n 0, 1) := by decide +kernel
theorem dX7_readDigit_40 : decode cX7_readDigit 40 = .ok (.iconst 1, 1) := by decide +kernel
theorem dX7_readDigit_41 : decode cX7_readDigit 41 = .ok (.putfield 166, 3) := by decide +kernel
theorem dX7_readDigit_44 : decode cX7_readDigit 44 = .ok (.aload_n 0, 1) := by decide +kernel
theorem dX7_readDigit_45 : decode cX7_readDigit 45 = .ok (.iload_n 1, 1) := by decide +kernel
theorem dX7_readDigit_46 : decode cX7_readDigit 46 = .ok (.putfield 157, 3) := by decide +kernel
theorem dX7_readDigit_49 : decode cX7_readDigit 49 = .ok (.goto 53, 3) := by decide +kernel
theorem dX7_readDigit_52 : decode cX7_readDigit 52 = .ok (.aload_n 0, 1) := by decide +kernel
theorem dX7_readDigit_53 : decode cX7_readDigit 53 = .ok (.invokevirtual 150, 3) := by decide +kernel
theorem dX7_readDigit_56 : decode cX7_readDigit 56 = .ok (.ifCond .eq 40, 3) := by decide +kernel
theorem dX7_readDigit_59 : decode cX7_readDigit 59 = .ok (.aload_n 0, 1) := by decide +kernel
theorem dX7_readDigit_60 : decode cX7_readDigit 60 = .ok (.getfield 166, 3) := by decide +kernel
theorem dX7_readDigit_63 : decode cX7_readDigit 63 = .ok (.iconst 1, 1) := by decide +kernel
theorem dX7_readDigit_64 : decode cX7_readDigit 64 = .ok (.if_icmp .ne 32, 3) := by decide +kernel
theorem dX7_readDigit_67 : decode cX7_readDigit 67 = .ok (.aload_n 0, 1) := by decide +kernel
theorem dX7_readDigit_68 : decode cX7_readDigit 68 = .ok (.bipush 10, 2) := by decide +kernel
theorem dX7_readDigit_70 : decode cX7_readDigit 70 = .ok (.aload_n 0, 1) := by decide +kernel
theorem dX7_readDigit_71 : decode cX7_readDigit 71 = .ok (.getfield 154, 3) := by decide +kernel
theorem dX7_readDigit_74 : decode cX7_readDigit 74 = .ok (.imul, 1) := by decide +kernel
theorem dX7_readDigit_75 : decode cX7_readDigit 75 = .ok (.aload_n 0, 1) := by decide +kernel
theorem dX7_readDigit_76 : decode cX7_readDigit 76 = .ok (.getfield 19, 3) := by decide +kernel
theorem dX7_readDigit_79 : decode cX7_readDigit 79 = .ok (.iload_n 1, 1) := by decide +kernel
theorem dX7_readDigit_80 : decode cX7_readDigit 80 = .ok (.iaload, 1) := by decide +kernel
theorem dX7_readDigit_81 : decode cX7_readDigit 81 = .ok (.iadd, 1) := by decide +kernel
theorem dX7_readDigit_82 : decode cX7_readDigit 82 = .ok (.bipush 48, 2) := by decide +kernel
theorem dX7_readDigit_84 : decode cX7_readDigit 84 = .ok (.isub, 1) := by decide +kernel
theorem dX7_readDigit_85 : decode cX7_readDigit 85 = .ok (.putfield 154, 3) := by decide +kernel
theorem dX7_readDigit_88 : decode cX7_readDigit 88 = .ok (.aload_n 0, 1) := by decide +kernel
theorem dX7_readDigit_89 : decode cX7_readDigit 89 = .ok (.iconst 2, 1) := by decide +kernel
theorem dX7_readDigit_90 : decode cX7_readDigit 90 = .ok (.putfield 166, 3) := by decide +kernel
theorem dX7_readDigit_93 : decode cX7_readDigit 93 = .ok (.goto 9, 3) := by decide +kernel
theorem dX7_readDigit_96 : decode cX7_readDigit 96 = .ok (.aload_n 0, 1) := by decide +kernel
theorem dX7_readDigit_97 : decode cX7_readDigit 97 = .ok (.iconst 1, 1) := by decide +kernel
theorem dX7_readDigit_98 : decode cX7_readDigit 98 = .ok (.iload_n 1, 1) := by decide +kernel
theorem dX7_readDigit_99 : decode cX7_readDigit 99 = .ok (.invokevirtual 160, 3) := by decide +kernel
theorem dX7_readDigit_102 : decode cX7_readDigit 102 = .ok (.return_, 1) := by decide +kernel
set_option maxRecDepth 20000 in
theorem ggX7_readIngredient_X7_mark : GoodIn wsX7_readIngredient wsX7_mark := goodIn_r _ [8, 9, 10, 11, 12, 13, 14, 15, 16, 17, 18, 19, 20, 21, 22, 23, 24, 25, 26, 27, 28, 29, 30, 31, 32, 33, 34, 35, 36, 37, 38, 39] (by decide +kernel) (by decide +kernel)
set_option maxRecDepth 20000 in
theorem gX7_readIngredient_X7_mark : GoodIn wsX7_readIngredient (wsV RX7 160 RX7 yX7_mark wsX7_mark) := goodIn_app (goodIn_of _ (by decide +kernel)) ggX7_readIngredient_X7_mark
theorem dX7_readIngredient_0 : decode cX7_readIngredient 0 = .ok (.aload_n 0, 1) := by decide +kernel
theorem dX7_readIngredient_1 : decode cX7_readIngredient 1 = .ok (.getfield 169, 3) := by decide +kernel
theorem dX7_readIngredient_4 : decode cX7_readIngredient 4 = .ok (.iconst 5, 1) := by decide +kernel
theorem dX7_readIngredient_5 : decode cX7_readIngredient 5 = .ok (.if_icmp .ne 7, 3) := by decide +kernel
theorem dX7_readIngredient_8 : decode cX7_readIngredient 8 = .ok (.iconst 1, 1) := by decide +kernel
theorem dX7_readIngredient_9 : decode cX7_readIngredient 9 = .ok (.goto 4, 3) := by decide +kernel
theorem dX7_readIngredient_12 : decode cX7_readIngredient 12 = .ok (.iconst 0, 1) := by decide +kernel
theorem dX7_readIngredient_13 : decode cX7_readIngredient 13 = .ok (.istore 4, 2) := by decide +kernel
theorem dX7_readIngredient_15 : decode cX7_readIngredient 15 = .ok (.iconst 0, 1) := by decide +kernel
theorem dX7_readIngredient_16 : decode cX7_readIngredient 16 = .ok (.istore 5, 2) := by decide +kernel
theorem dX7_readIngredient_18 : decode cX7_readIngredient 18 = .ok (.iload 5, 2) := by decide +kernel
theorem dX7_readIngredient_20 : decode cX7_readIngredient 20 = .ok (.aload_n 0, 1) := by decide +kernel
theorem dX7_readIngredient_21 : decode cX7_readIngredient 21 = .ok (.getfield 169, 3) := by decide +kernel
theorem dX7_readIngredient_24 : decode cX7_readIngredient 24 = .ok (.if_icmp .ge 32, 3) := by decide +kernel
theorem dX7_readIngredient_27 : decode cX7_readIngredient 27 = .ok (.iload 4, 2) := by decide +kernel
theorem dX7_readIngredient_29 : decode cX7_readIngredient 29 = .ok (.aload_n 0, 1) := by decide +kernel
theorem dX7_readIngredient_30 : decode cX7_readIngredient 30 = .ok (.getfield 47, 3) := by decide +kernel
theorem dX7_readIngredient_33 : decode cX7_readIngredient 33 = .ok (.iconst 2, 1) := by decide +kernel
theorem dX7_readIngredient_34 : decode cX7_readIngredient 34 = .ok (.iload 5, 2) := by decide +kernel
theorem dX7_readIngredient_36 : decode cX7_readIngredient 36 = .ok (.imul, 1) := by decide +kernel
theorem dX7_readIngredient_37 : decode cX7_readIngredient 37 = .ok (.iaload, 1) := by decide +kernel
theorem dX7_readIngredient_38 : decode cX7_readIngredient 38 = .ok (.iload_n 1, 1) := by decide +kernel
theorem dX7_readIngredient_39 : decode cX7_readIngredient 39 = .ok (.if_icmp .ne 7, 3) := by decide +kernel
theorem dX7_readIngredient_42 : decode cX7_readIngredient 42 = .ok (.iconst 1, 1) := by decide +kernel
theorem dX7_readIngredient_43 : decode cX7_readIngredient 43 = .ok (.goto 4, 3) := by decide +kernel
theorem dX7_readIngredient_46 : decode cX7_readIngredient 46 = .ok (.iconst 0, 1) := by decide +kernel
theorem dX7_readIngredient_47 : decode cX7_readIngredient 47 = .ok (.ior, 1) := by decide +kernel
theorem dX7_readIngredient_48 : decode cX7_readIngredient 48 = .ok (.istore 4, 2) := by decide +kernel
theorem dX7_readIngredient_50 : decode cX7_readIngredient 50 = .ok (.iinc 5 1, 3) := by decide +kernel
theorem dX7_readIngredient_53 : decode cX7_readIngredient 53 = .ok (.goto (-35), 3) := by decide +kernel
theorem dX7_readIngredient_56 : decode cX7_readIngredient 56 = .ok (.iload 4, 2) := by decide +kernel
theorem dX7_readIngredient_58 : decode cX7_readIngredient 58 = .ok (.ifCond .eq 10, 3) := by decide +kernel
theorem dX7_readIngredient_61 : decode cX7_readIngredient 61 = .ok (.aload_n 0, 1) := by decide +kernel
theorem dX7_readIngredient_62 : decode cX7_readIngredient 62 = .ok (.iconst 3, 1) := by decide +kernel
theorem dX7_readIngredient_63 : decode cX7_readIngredient 63 = .ok (.iload_n 3, 1) := by decide +kernel
theorem dX7_readIngredient_64 : decode cX7_readIngredient 64 = .ok (.invokevirtual 160, 3) := by decide +kernel
theorem dX7_readIngredient_67 : decode cX7_readIngredient 67 = .ok (.return_, 1) := by decide +kernel
theorem dX7_readIngredient_68 : decode cX7_readIngredient 68 = .ok (.aload_n 0, 1) := by decide +kernel
theorem dX7_readIngredient_69 : decode cX7_readIngredient 69 = .ok (.getfield 47, 3) := by decide +kernel
theorem dX7_readIngredient_72 : decode cX7_readIngredient 72 = .ok (.iconst 2, 1) := by decide +kernel
theorem dX7_readIngredient_73 : decode cX7_readIngredient 73 = .ok (.aload_n 0, 1) := by decide +kernel
theorem dX7_readIngredient_74 : decode cX7_readIngredient 74 = .ok (.getfield 169, 3) := by decide +kernel
theorem dX7_readIngredient_77 : decode cX7_readIngredient 77 = .ok (.imul, 1) := by decide +kernel
theorem dX7_readIngredient_78 : decode cX7_readIngredient 78 = .ok (.iload_n 1, 1) := by decide +kernel
theorem dX7_readIngredient_79 : decode cX7_readIngredient 79 = .ok (.iastore, 1) := by decide +kernel
theorem dX7_readIngredient_80 : decode cX7_readIngredient 80 = .ok (.aload_n 0, 1) := by decide +kernel
theorem dX7_readIngredient_81 : decode cX7_readIngredient 81 = .ok (.getfield 47, 3) := by decide +kernel
theorem dX7_readIngredient_84 : decode cX7_readIngredient 84 = .ok (.iconst 2, 1) := by decide +kernel
theorem dX7_readIngredient_85 : decode cX7_readIngredient 85 = .ok (.aload_n 0, 1) := by decide +kernel
theorem dX7_readIngredient_86 : decode cX7_readIngredient 86 = .ok (.getfield 169, 3) := by decide +kernel
theorem dX7_readIngredient_89 : decode cX7_readIngredient 89 = .ok (.imul, 1) := by decide +kernel
theorem dX7_readIngredient_90 : decode cX7_readIngredient 90 = .ok (.iconst 1, 1) := by decide +kernel
theorem dX7_readIngredient_91 : decode cX7_readIngredient 91 = .ok (.iadd, 1) := by decide +kernel
theorem dX7_readIngredient_92 : decode cX7_readIngredient 92 = .ok (.iload_n 2, 1) := by decide +kernel
theorem dX7_readIngredient_93 : decode cX7_readIngredient 93 = .ok (.iastore, 1) := by decide +kernel
theorem dX7_readIngredient_94 : decode cX7_readIngredient 94 = .ok (.aload_n 0, 1) := by decide +kernel
theorem dX7_readIngredient_95 : decode cX7_readIngredient 95 = .ok (.dup, 1) := by decide +kernel
theorem dX7_readIngredient_96 : decode cX7_readIngredient 96 = .ok (.getfield 169, 3) := by decide +kernel
theorem dX7_readIngredient_99 : decode cX7_readIngredient 99 = .ok (.iconst 1, 1) := by decide +kernel
theorem dX7_readIngredient_100 : decode cX7_readIngredient 100 = .ok (.iadd, 1) := by decide +kernel
theorem dX7_readIngredient_101 : decode cX7_readIngredient 101 = .ok (.putfield 169, 3) := by decide +kernel
theorem dX7_readIngredient_104 : decode cX7_readIngredient 104 = .ok (.aload_n 0, 1) := by decide +kernel
theorem dX7_readIngredient_105 : decode cX7_readIngredient 105 = .ok (.bipush 7, 2) := by decide +kernel
theorem dX7_readIngredient_107 : decode cX7_readIngredient 107 = .ok (.putfield 147, 3) := by decide +kernel
theorem dX7_readIngredient_110 : decode cX7_readIngredient 110 = .ok (.return_, 1) := by decide +kernel
set_option maxRecDepth 20000 in
theorem ggX7_readOther_X7_endsWell : GoodIn wsX7_readOther wsX7_endsWell := goodIn_r _ [9, 4, 10, 2, 11, 12, 13, 14, 8, 15, 16, 17, 18, 19, 20, 21, 22, 23, 24, 31, 32, 33, 34, 35, 36, 37, 38, 39, 40, 41, 42, 43, 44, 45, 46, 47, 48, 49, 50, 51, 52, 53, 54, 55, 56, 57, 58, 59] (by decide +kernel) (by decide +kernel)
set_option maxRecDepth 20000 in
theorem gX7_readOther_X7_endsWell : GoodIn wsX7_readOther (wsV RX7 172 RX7 yX7_endsWell wsX7_endsWell) := goodIn_app (goodIn_of _ (by decide +kernel)) ggX7_readOther_X7_endsWell
set_option maxRecDepth 20000 in
theorem ggX7_readOther_X7_isIn : GoodIn wsX7_readOther wsX7_isIn := goodIn_r _ [18] (by decide +kernel) (by decide +kernel)
set_option maxRecDepth 20000 in
theorem gX7_readOther_X7_isIn : GoodIn wsX7_readOther (va_wsS RX7 61 yX7_isIn wsX7_isIn) := goodIn_app (goodIn_of _ (by decide +kernel)) ggX7_readOther_X7_isIn
set_option maxRecDepth 20000 in
theorem ggX7_readOther_X7_readIngredient : GoodIn wsX7_readOther wsX7_readIngredient := goodIn_r _ [28, 29, 30, 2, 19, 20, 21, 8, 22, 23, 24, 31, 32, 33, 34, 35, 36, 37, 38, 39, 40, 41, 42, 43, 44, 45, 46, 47, 48, 49, 50, 51, 52, 53, 54, 55, 56, 57, 58, 59] (by decide +kernel) (by decide +kernel)
set_option maxRecDepth 20000 in
theorem gX7_readOther_X7_readIngredient : GoodIn wsX7_readOther (wsV RX7 178 RX7 yX7_readIngredient wsX7_readIngredient) := goodIn_app (goodIn_of _ (by decide +kernel)) ggX7_readOther_X7_readIngredient
set_option maxRecDepth 20000 in
theorem ggX7_readOther_X7_mark : GoodIn wsX7_readOther wsX7_mark := goodIn_r _ [22, 23, 24, 31, 32, 33, 34, 35, 36, 37, 38, 39, 40, 41, 42, 43, 44, 45, 46, 47, 48, 49, 50, 51, 52, 53, 54, 55, 56, 57, 58, 59] (by decide +kernel) (by decide +kernel)
set_option maxRecDepth 20000 in
theorem gX7_readOther_X7_mark : GoodIn wsX7_readOther (wsV RX7 160 RX7 yX7_mark wsX7_mark) := goodIn_app (goodIn_of _ (by decide +kernel)) ggX7_readOther_X7_mark
theorem dX7_readOther_0 : decode cX7_readOther 0 = .ok (.aload_n 0, 1) := by decide +kernel
theorem dX7_readOther_1 : decode cX7_readOther 1 = .ok (.getfield 19, 3) := by decide +kernel
theorem dX7_readOther_4 : decode cX7_readOther 4 = .ok (.iload_n 1, 1) := by decide +kernel
theorem dX7_readOther_5 : decode cX7_readOther 5 = .ok (.iaload, 1) := by decide +kernel
theorem dX7_readOther_6 : decode cX7_readOther 6 = .ok (.istore_n 2, 1) := by decide +kernel
theorem dX7_readOther_7 : decode cX7_readOther 7 = .ok (.aload_n 0, 1) := by decide +kernel
theorem dX7_readOther_8 : decode cX7_readOther 8 = .ok (.invokevirtual 172, 3) := by decide +kernel
theorem dX7_readOther_11 : decode cX7_readOther 11 = .ok (.ifCond .eq 9, 3) := by decide +kernel
theorem dX7_readOther_14 : decode cX7_readOther 14 = .ok (.iload_n 2, 1) := by decide +kernel
theorem dX7_readOther_15 : decode cX7_readOther 15 = .ok (.bipush 32, 2) := by decide +kernel
theorem dX7_readOther_17 : decode cX7_readOther 17 = .ok (.if_icmp .ne 4, 3) := by decide +kernel
theorem dX7_readOther_20 : decode cX7_readOther 20 = .ok (.return_, 1) := by decide +kernel
theorem dX7_readOther_21 : decode cX7_readOther 21 = .ok (.iload_n 2, 1) := by decide +kernel
theorem dX7_readOther_22 : decode cX7_readOther 22 = .ok (.bipush 97, 2) := by decide +kernel
theorem dX7_readOther_24 : decode cX7_readOther 24 = .ok (.bipush 116, 2) := by decide +kernel
theorem dX7_readOther_26 : decode cX7_readOther 26 = .ok (.invokestatic 61, 3) := by decide +kernel
theorem dX7_readOther_29 : decode cX7_readOther 29 = .ok (.istore_n 3, 1) := by decide +kernel
theorem dX7_readOther_30 : decode cX7_readOther 30 = .ok (.aload_n 0, 1) := by decide +kernel
theorem dX7_readOther_31 : decode cX7_readOther 31 = .ok (.getfield 147, 3) := by decide +kernel
theorem dX7_readOther_34 : decode cX7_readOther 34 = .ok (.ifCond .ne 23, 3) := by decide +kernel
theorem dX7_readOther_37 : decode cX7_readOther 37 = .ok (.iload_n 3, 1) := by decide +kernel
theorem dX7_readOther_38 : decode cX7_readOther 38 = .ok (.ifCond .eq 19, 3) := by decide +kernel
theorem dX7_readOther_41 : decode cX7_readOther 41 = .ok (.aload_n 0, 1) := by decide +kernel
theorem dX7_readOther_42 : decode cX7_readOther 42 = .ok (.iload_n 2, 1) := by decide +kernel
theorem dX7_readOther_43 : decode cX7_readOther 43 = .ok (.bipush 97, 2) := by decide +kernel
theorem dX7_readOther_45 : decode cX7_readOther 45 = .ok (.isub, 1) := by decide +kernel
theorem dX7_readOther_46 : decode cX7_readOther 46 = .ok (.putfield 175, 3) := by decide +kernel
theorem dX7_readOther_49 : decode cX7_readOther 49 = .ok (.aload_n 0, 1) := by decide +kernel
theorem dX7_readOther_50 : decode cX7_readOther 50 = .ok (.iconst 1, 1) := by decide +kernel
theorem dX7_readOther_51 : decode cX7_readOther 51 = .ok (.putfield 147, 3) := by decide +kernel
theorem dX7_readOther_54 : decode cX7_readOther 54 = .ok (.goto 112, 3) := by decide +kernel
theorem dX7_readOther_57 : decode cX7_readOther 57 = .ok (.aload_n 0, 1) := by decide +kernel
theorem dX7_readOther_58 : decode cX7_readOther 58 = .ok (.getfield 147, 3) := by decide +kernel
theorem dX7_readOther_61 : decode cX7_readOther 61 = .ok (.iconst 1, 1) := by decide +kernel
theorem dX7_readOther_62 : decode cX7_readOther 62 = .ok (.if_icmp .eq 11, 3) := by decide +kernel
theorem dX7_readOther_65 : decode cX7_readOther 65 = .ok (.aload_n 0, 1) := by decide +kernel
theorem dX7_readOther_66 : decode cX7_readOther 66 = .ok (.getfield 147, 3) := by decide +kernel
theorem dX7_readOther_69 : decode cX7_readOther 69 = .ok (.iconst 3, 1) := by decide +kernel
theorem dX7_readOther_70 : decode cX7_readOther 70 = .ok (.if_icmp .ne 17, 3) := by decide +kernel
theorem dX7_readOther_73 : decode cX7_readOther 73 = .ok (.iload_n 2, 1) := by decide +kernel
theorem dX7_readOther_74 : decode cX7_readOther 74 = .ok (.bipush 61, 2) := by decide +kernel
theorem dX7_readOther_76 : decode cX7_readOther 76 = .ok (.if_icmp .ne 11, 3) := by decide +kernel
theorem dX7_readOther_79 : decode cX7_readOther 79 = .ok (.aload_n 0, 1) := by decide +kernel
theorem dX7_readOther_80 : decode cX7_readOther 80 = .ok (.iconst 4, 1) := by decide +kernel
theorem dX7_readOther_81 : decode cX7_readOther 81 = .ok (.putfield 147, 3) := by decide +kernel
theorem dX7_readOther_84 : decode cX7_readOther 84 = .ok (.goto 82, 3) := by decide +kernel
theorem dX7_readOther_87 : decode cX7_readOther 87 = .ok (.aload_n 0, 1) := by decide +kernel
theorem dX7_readOther_88 : decode cX7_readOther 88 = .ok (.getfield 147, 3) := by decide +kernel
theorem dX7_readOther_91 : decode cX7_readOther 91 = .ok (.iconst 4, 1) := by decide +kernel
theorem dX7_readOther_92 : decode cX7_readOther 92 = .ok (.if_icmp .eq 12, 3) := by decide +kernel
theorem dX7_readOther_95 : decode cX7_readOther 95 = .ok (.aload_n 0, 1) := by decide +kernel
theorem dX7_readOther_96 : decode cX7_readOther 96 = .ok (.getfield 147, 3) := by decide +kernel
theorem dX7_readOther_99 : decode cX7_readOther 99 = .ok (.bipush 6, 2) := by decide +kernel
theorem dX7_readOther_101 : decode cX7_readOther 101 = .ok (.if_icmp .ne 36, 3) := by decide +kernel
theorem dX7_readOther_104 : decode cX7_readOther 104 = .ok (.iload_n 3, 1) := by decide +kernel
theorem dX7_readOther_105 : decode cX7_readOther 105 = .ok (.ifCond .eq 32, 3) := by decide +kernel
theorem dX7_readOther_108 : decode cX7_readOther 108 = .ok (.aload_n 0, 1) := by decide +kernel
theorem dX7_readOther_109 : decode cX7_readOther 109 = .ok (.iload_n 2, 1) := by decide +kernel
theorem dX7_readOther_110 : decode cX7_readOther 110 = .ok (.bipush 97, 2) := by decide +kernel
theorem dX7_readOther_112 : decode cX7_readOther 112 = .ok (.isub, 1) := by decide +kernel
theorem dX7_readOther_113 : decode cX7_readOther 113 = .ok (.aload_n 0, 1) := by decide +kernel
theorem dX7_readOther_114 : decode cX7_readOther 114 = .ok (.getfield 147, 3) := by decide +kernel
theorem dX7_readOther_117 : decode cX7_readOther 117 = .ok (.bipush 6, 2) := by decide +kernel
theorem dX7_readOther_119 : decode cX7_readOther 119 = .ok (.if_icmp .ne 10, 3) := by decide +kernel
theorem dX7_readOther_122 : decode cX7_readOther 122 = .ok (.aload_n 0, 1) := by decide +kernel
theorem dX7_readOther_123 : decode cX7_readOther 123 = .ok (.getfield 154, 3) := by decide +kernel
theorem dX7_readOther_126 : decode cX7_readOther 126 = .ok (.goto 4, 3) := by decide +kernel
theorem dX7_readOther_129 : decode cX7_readOther 129 = .ok (.iconst 1, 1) := by decide +kernel
theorem dX7_readOther_130 : decode cX7_readOther 130 = .ok (.iload_n 1, 1) := by decide +kernel
theorem dX7_readOther_131 : decode cX7_readOther 131 = .ok (.invokevirtual 178, 3) := by decide +kernel
theorem dX7_readOther_134 : decode cX7_readOther 134 = .ok (.goto 32, 3) := by decide +kernel
theorem dX7_readOther_137 : decode cX7_readOther 137 = .ok (.aload_n 0, 1) := by decide +kernel
theorem dX7_readOther_138 : decode cX7_readOther 138 = .ok (.getfield 147, 3) := by decide +kernel
theorem dX7_readOther_141 : decode cX7_readOther 141 = .ok (.bipush 7, 2) := by decide +kernel
theorem dX7_readOther_143 : decode cX7_readOther 143 = .ok (.if_icmp .ne 17, 3) := by decide +kernel
theorem dX7_readOther_146 : decode cX7_readOther 146 = .ok (.iload_n 2, 1) := by decide +kernel
theorem dX7_readOther_147 : decode cX7_readOther 147 = .ok (.bipush 43, 2) := by decide +kernel
theorem dX7_readOther_149 : decode cX7_readOther 149 = .ok (.if_icmp .ne 11, 3) := by decide +kernel
theorem dX7_readOther_152 : decode cX7_readOther 152 = .ok (.aload_n 0, 1) := by decide +kernel
theorem dX7_readOther_153 : decode cX7_readOther 153 = .ok (.iconst 4, 1) := by decide +kernel
theorem dX7_readOther_154 : decode cX7_readOther 154 = .ok (.putfield 147, 3) := by decide +kernel
theorem dX7_readOther_157 : decode cX7_readOther 157 = .ok (.goto 9, 3) := by decide +kernel
theorem dX7_readOther_160 : decode cX7_readOther 160 = .ok (.aload_n 0, 1) := by decide +kernel
theorem dX7_readOther_161 : decode cX7_readOther 161 = .ok (.iconst 1, 1) := by decide +kernel
theorem dX7_readOther_162 : decode cX7_readOther 162 = .ok (.iload_n 1, 1) := by decide +kernel
theorem dX7_readOther_163 : decode cX7_readOther 163 = .ok (.invokevirtual 160, 3) := by decide +kernel
theorem dX7_readOther_166 : decode cX7_readOther 166 = .ok (.return_, 1) := by decide +kernel
set_option maxRecDepth 20000 in
theorem ggX7_readText_X7_mark : GoodIn wsX7_readText wsX7_mark := goodIn_r _ [11, 5, 12, 41, 42, 43, 44, 45, 46, 47, 48, 49, 50, 51, 52, 53, 54, 55, 56, 57, 58, 59, 60, 61, 62, 63, 64, 65, 66, 67, 68, 69] (by decide +kernel) (by decide +kernel)
set_option maxRecDepth 20000 in
theorem gX7_readText_X7_mark : GoodIn wsX7_readText (wsV RX7 160 RX7 yX7_mark wsX7_mark) := goodIn_app (goodIn_of _ (by decide +kernel)) ggX7_readText_X7_mark
set_option maxRecDepth 20000 in
theorem ggX7_readText_X7_isIn : GoodIn wsX7_readText wsX7_isIn := goodIn_r _ [15] (by decide +kernel) (by decide +kernel)
set_option maxRecDepth 20000 in
theorem gX7_readText_X7_isIn : GoodIn wsX7_readText (va_wsS RX7 61 yX7_isIn wsX7_isIn) := goodIn_app (goodIn_of _ (by decide +kernel)) ggX7_readText_X7_isIn
set_option maxRecDepth 20000 in
theorem ggX7_readText_X7_readDigit : GoodIn wsX7_readText wsX7_readDigit := goodIn_r _ [19, 3, 6, 20, 21, 22, 23, 24, 25, 10, 26, 7, 8, 9, 11, 5, 12, 41, 42, 43, 44, 45, 46, 47, 48, 49, 50, 51, 52, 53, 54, 55, 56, 57, 58, 59, 60, 61, 62, 63, 64, 65, 66, 67, 68, 69] (by decide +kernel) (by decide +kernel)
set_option maxRecDepth 20000 in
theorem gX7_readText_X7_readDigit : GoodIn wsX7_readText (wsV RX7 184 RX7 yX7_readDigit wsX7_readDigit) := goodIn_app (goodIn_of _ (by decide +kernel)) ggX7_readText_X7_readDigit
set_option maxRecDepth 20000 in
theorem ggX7_readText_X7_readOther : GoodIn wsX7_readText wsX7_readOther := goodIn_r _ [30, 6, 3, 31, 20, 32, 33, 34, 10, 35, 22, 1, 23, 24, 25, 26, 13, 14, 15, 7, 8, 9, 11, 5, 12, 36, 37, 38, 39, 2, 40, 41, 42, 43, 44, 45, 46, 47, 48, 49, 50, 51, 52, 53, 54, 55, 56, 57, 58, 59, 60, 61, 62, 63, 64, 65, 66, 67, 68, 69] (by decide +kernel) (by decide +kernel)
set_option maxRecDepth 20000 in
theorem gX7_readText_X7_readOther : GoodIn wsX7_readText (wsV RX7 188 RX7 yX7_readOther wsX7_readOther) := goodIn_app (goodIn_of _ (by decide +kernel)) ggX7_readText_X7_readOther
set_option maxRecDepth 20000 in
theorem ggX7_readText_X7_endsWell : GoodIn wsX7_readText wsX7_endsWell := goodIn_r _ [35, 20, 22, 3, 1, 23, 24, 25, 10, 26, 13, 14, 15, 7, 8, 9, 11, 5, 12, 41, 42, 43, 44, 45, 46, 47, 48, 49, 50, 51, 52, 53, 54, 55, 56, 57, 58, 59, 60, 61, 62, 63, 64, 65, 66, 67, 68, 69] (by decide +kernel) (by decide +kernel)
set_option maxRecDepth 20000 in
theorem gX7_readText_X7_endsWell : GoodIn wsX7_readText (wsV RX7 172 RX7 yX7_endsWell wsX7_endsWell) := goodIn_app (goodIn_of _ (by decide +kernel)) ggX7_readText_X7_endsWell
theorem dX7_readText_0 : decode cX7_readText 0 = .ok (.aload_n 0, 1) := by decide +kernel
theorem dX7_readText_1 : decode cX7_readText 1 = .ok (.bipush (-9), 2) := by decide +kernel
theorem dX7_readText_3 : decode cX7_readText 3 = .ok (.bipush (-9), 2) := by decide +kernel
theorem dX7_readText_5 : decode cX7_readText 5 = .ok (.invokevirtual 160, 3) := by decide +kernel
theorem dX7_readText_8 : decode cX7_readText 8 = .ok (.aload_n 0, 1) := by decide +kernel
theorem dX7_readText_9 : decode cX7_readText 9 = .ok (.iconst 1, 1) := by decide +kernel
theorem dX7_readText_10 : decode cX7_readText 10 = .ok (.putfield 163, 3) := by decide +kernel
theorem dX7_readText_13 : decode cX7_readText 13 = .ok (.aload_n 0, 1) := by decide +kernel
theorem dX7_readText_14 : decode cX7_readText 14 = .ok (.iconst 0, 1) := by decide +kernel
theorem dX7_readText_15 : decode cX7_readText 15 = .ok (.putfield 169, 3) := by decide +kernel
theorem dX7_readText_18 : decode cX7_readText 18 = .ok (.aload_n 0, 1) := by decide +kernel
theorem dX7_readText_19 : decode cX7_readText 19 = .ok (.iconst 0, 1) := by decide +kernel
theorem dX7_readText_20 : decode cX7_readText 20 = .ok (.putfield 147, 3) := by decide +kernel
theorem dX7_readText_23 : decode cX7_readText 23 = .ok (.iconst 0, 1) := by decide +kernel
theorem dX7_readText_24 : decode cX7_readText 24 = .ok (.istore_n 1, 1) := by decide +kernel
theorem dX7_readText_25 : decode cX7_readText 25 = .ok (.iload_n 1, 1) := by decide +kernel
theorem dX7_readText_26 : decode cX7_readText 26 = .ok (.aload_n 0, 1) := by decide +kernel
theorem dX7_readText_27 : decode cX7_readText 27 = .ok (.getfield 181, 3) := by decide +kernel
theorem dX7_readText_30 : decode cX7_readText 30 = .ok (.if_icmp .ge 47, 3) := by decide +kernel
theorem dX7_readText_33 : decode cX7_readText 33 = .ok (.aload_n 0, 1) := by decide +kernel
theorem dX7_readText_34 : decode cX7_readText 34 = .ok (.getfield 141, 3) := by decide +kernel
theorem dX7_readText_37 : decode cX7_readText 37 = .ok (.bipush (-9), 2) := by decide +kernel
theorem dX7_readText_39 : decode cX7_readText 39 = .ok (.if_icmp .ne 38, 3) := by decide +kernel
theorem dX7_readText_42 : decode cX7_readText 42 = .ok (.aload_n 0, 1) := by decide +kernel
theorem dX7_readText_43 : decode cX7_readText 43 = .ok (.getfield 19, 3) := by decide +kernel
theorem dX7_readText_46 : decode cX7_readText 46 = .ok (.iload_n 1, 1) := by decide +kernel
theorem dX7_readText_47 : decode cX7_readText 47 = .ok (.iaload, 1) := by decide +kernel
theorem dX7_readText_48 : decode cX7_readText 48 = .ok (.bipush 48, 2) := by decide +kernel
theorem dX7_readText_50 : decode cX7_readText 50 = .ok (.bipush 57, 2) := by decide +kernel
theorem dX7_readText_52 : decode cX7_readText 52 = .ok (.invokestatic 61, 3) := by decide +kernel
theorem dX7_readText_55 : decode cX7_readText 55 = .ok (.ifCond .eq 11, 3) := by decide +kernel
theorem dX7_readText_58 : decode cX7_readText 58 = .ok (.aload_n 0, 1) := by decide +kernel
theorem dX7_readText_59 : decode cX7_readText 59 = .ok (.iload_n 1, 1) := by decide +kernel
theorem dX7_readText_60 : decode cX7_readText 60 = .ok (.invokevirtual 184, 3) := by decide +kernel
theorem dX7_readText_63 : decode cX7_readText 63 = .ok (.goto 8, 3) := by decide +kernel
theorem dX7_readText_66 : decode cX7_readText 66 = .ok (.aload_n 0, 1) := by decide +kernel
theorem dX7_readText_67 : decode cX7_readText 67 = .ok (.iload_n 1, 1) := by decide +kernel
theorem dX7_readText_68 : decode cX7_readText 68 = .ok (.invokevirtual 188, 3) := by decide +kernel
theorem dX7_readText_71 : decode cX7_readText 71 = .ok (.iinc 1 1, 3) := by decide +kernel
theorem dX7_readText_74 : decode cX7_readText 74 = .ok (.goto (-49), 3) := by decide +kernel
theorem dX7_readText_77 : decode cX7_readText 77 = .ok (.aload_n 0, 1) := by decide +kernel
theorem dX7_readText_78 : decode cX7_readText 78 = .ok (.getfield 141, 3) := by decide +kernel
theorem dX7_readText_81 : decode cX7_readText 81 = .ok (.bipush (-9), 2) := by decide +kernel
theorem dX7_readText_83 : decode cX7_readText 83 = .ok (.if_icmp .ne 28, 3) := by decide +kernel
theorem dX7_readText_86 : decode cX7_readText 86 = .ok (.aload_n 0, 1) := by decide +kernel
theorem dX7_readText_87 : decode cX7_readText 87 = .ok (.invokevirtual 172, 3) := by decide +kernel
theorem dX7_readText_90 : decode cX7_readText 90 = .ok (.ifCond .eq 21, 3) := by decide +kernel
theorem dX7_readText_93 : decode cX7_readText 93 = .ok (.aload_n 0, 1) := by decide +kernel
theorem dX7_readText_94 : decode cX7_readText 94 = .ok (.getfield 147, 3) := by decide +kernel
theorem dX7_readText_97 : decode cX7_readText 97 = .ok (.bipush 7, 2) := by decide +kernel
theorem dX7_readText_99 : decode cX7_readText 99 = .ok (.if_icmp .eq 12, 3) := by decide +kernel
theorem dX7_readText_102 : decode cX7_readText 102 = .ok (.aload_n 0, 1) := by decide +kernel
theorem dX7_readText_103 : decode cX7_readText 103 = .ok (.iconst 4, 1) := by decide +kernel
theorem dX7_readText_104 : decode cX7_readText 104 = .ok (.aload_n 0, 1) := by decide +kernel
theorem dX7_readText_105 : decode cX7_readText 105 = .ok (.getfield 181, 3) := by decide +kernel
theorem dX7_readText_108 : decode cX7_readText 108 = .ok (.invokevirtual 160, 3) := by decide +kernel
theorem dX7_readText_111 : decode cX7_readText 111 = .ok (.return_, 1) := by decide +kernel
set_option maxRecDepth 20000 in
theorem ggX7_recipe_X7_readText : GoodIn wsX7_recipe wsX7_readText := goodIn_r _ [15, 6, 7, 16, 17, 1, 18, 19, 20, 21, 14, 22, 3, 23, 24, 25, 26, 27, 28, 29, 30, 31, 32, 33, 34, 35, 36, 37, 38, 39, 40, 5, 41, 42, 43, 44, 45, 46, 47, 48, 8, 93, 94, 95, 96, 97, 98, 99, 100, 101, 102, 103, 104, 105, 106, 107, 108, 109, 110, 111, 112, 113, 114, 115, 116, 117, 118, 119, 120, 121] (by decide +kernel) (by decide +kernel)
set_option maxRecDepth 20000 in
theorem gX7_recipe_X7_readText : GoodIn wsX7_recipe (wsV RX7 191 RX7 yX7_readText wsX7_readText) := goodIn_app (goodIn_of _ (by decide +kernel)) ggX7_recipe_X7_readText
set_option maxRecDepth 20000 in
theorem ggX7_recipe_X7_hold : GoodIn wsX7_recipe wsX7_hold := goodIn_r _ [52, 53, 54, 93, 94, 95, 96, 97, 98, 99, 100, 101, 102, 103, 104, 105, 106, 107, 108, 109, 110, 111, 112, 113, 114, 115, 116, 117, 118, 119, 120, 121] (by decide +kernel) (by decide +kernel)
set_option maxRecDepth 20000 in
theorem gX7_recipe_X7_hold : GoodIn wsX7_recipe (wsV RX7 131 RX7 yX7_hold wsX7_hold) := goodIn_app (goodIn_of _ (by decide +kernel)) ggX7_recipe_X7_hold
set_option maxRecDepth 20000 in
theorem ggX7_recipe_X7_put : GoodIn wsX7_recipe wsX7_put := goodIn_r _ [58, 54, 93, 94, 95, 96, 97, 98, 99, 100, 101, 102, 103, 104, 105, 106, 107, 108, 109, 110, 111, 112, 113, 114, 115, 116, 117, 118, 119, 120, 121] (by decide +kernel) (by decide +kernel)
set_option maxRecDepth 20000 in
theorem gX7_recipe_X7_put : GoodIn wsX7_recipe (wsV RX7 54 RX7 yX7_put wsX7_put) := goodIn_app (goodIn_of _ (by decide +kernel)) ggX7_recipe_X7_put
set_option maxRecDepth 20000 in
theorem ggX7_recipe_X7_areRanks : GoodIn wsX7_recipe wsX7_areRanks := goodIn_r _ [62, 10, 63, 64, 65, 14, 66, 67, 68, 69, 70, 54, 71, 72, 73, 74, 75, 76, 77, 78, 93, 94, 95, 96, 97, 98, 99, 100, 101, 102, 103, 104, 105, 106, 107, 108, 109, 110, 111, 112, 113, 114, 115, 116, 117, 118, 119, 120, 121] (by decide +kernel) (by decide +kernel)
set_option maxRecDepth 20000 in
theorem gX7_recipe_X7_areRanks : GoodIn wsX7_recipe (wsV RX7 194 RX7 yX7_areRanks wsX7_areRanks) := goodIn_app (goodIn_of _ (by decide +kernel)) ggX7_recipe_X7_areRanks
set_option maxRecDepth 20000 in
theorem ggX7_recipe_X7_restore : GoodIn wsX7_recipe wsX7_restore := goodIn_r _ [82, 54, 53, 93, 94, 95, 96, 97, 98, 99, 100, 101, 102, 103, 104, 105, 106, 107, 108, 109, 110, 111, 112, 113, 114, 115, 116, 117, 118, 119, 120, 121] (by decide +kernel) (by decide +kernel)
set_option maxRecDepth 20000 in
theorem gX7_recipe_X7_restore : GoodIn wsX7_recipe (wsV RX7 122 RX7 yX7_restore wsX7_restore) := goodIn_app (goodIn_of _ (by decide +kernel)) ggX7_recipe_X7_restore
set_option maxRecDepth 20000 in
theorem ggX7_recipe_X7_endMaking : GoodIn wsX7_recipe wsX7_endMaking := goodIn_r _ [86, 9, 54, 53, 79, 80, 81, 14, 82, 87, 88, 89, 90, 91, 92, 93, 94, 95, 96, 97, 98, 99, 100, 101, 102, 103, 104, 105, 106, 107, 108, 109, 110, 111, 112, 113, 114, 115, 116, 117, 118, 119, 120, 121] (by decide +kernel) (by decide +kernel)
set_option maxRecDepth 20000 in
theorem gX7_recipe_X7_endMaking : GoodIn wsX7_recipe (wsV RX7 137 RX7 yX7_endMaking wsX7_endMaking) := goodIn_app (goodIn_of _ (by decide +kernel)) ggX7_recipe_X7_endMaking
theorem dX7_recipe_0 : decode cX7_recipe 0 = .ok (.aload_n 0, 1) := by decide +kernel
theorem dX7_recipe_1 : decode cX7_recipe 1 = .ok (.invokevirtual 191, 3) := by decide +kernel
theorem dX7_recipe_4 : decode cX7_recipe 4 = .ok (.aload_n 0, 1) := by decide +kernel
theorem dX7_recipe_5 : decode cX7_recipe 5 = .ok (.getfield 141, 3) := by decide +kernel
theorem dX7_recipe_8 : decode cX7_recipe 8 = .ok (.bipush (-9), 2) := by decide +kernel
theorem dX7_recipe_10 : decode cX7_recipe 10 = .ok (.if_icmp .eq 22, 3) := by decide +kernel
theorem dX7_recipe_13 : decode cX7_recipe 13 = .ok (.aload_n 0, 1) := by decide +kernel
theorem dX7_recipe_14 : decode cX7_recipe 14 = .ok (.aload_n 0, 1) := by decide +kernel
theorem dX7_recipe_15 : decode cX7_recipe 15 = .ok (.getfield 141, 3) := by decide +kernel
theorem dX7_recipe_18 : decode cX7_recipe 18 = .ok (.putfield 22, 3) := by decide +kernel
theorem dX7_recipe_21 : decode cX7_recipe 21 = .ok (.aload_n 0, 1) := by decide +kernel
theorem dX7_recipe_22 : decode cX7_recipe 22 = .ok (.aload_n 0, 1) := by decide +kernel
theorem dX7_recipe_23 : decode cX7_recipe 23 = .ok (.getfield 144, 3) := by decide +kernel
theorem dX7_recipe_26 : decode cX7_recipe 26 = .ok (.putfield 26, 3) := by decide +kernel
theorem dX7_recipe_29 : decode cX7_recipe 29 = .ok (.bipush (-2), 2) := by decide +kernel
theorem dX7_recipe_31 : decode cX7_recipe 31 = .ok (.ireturn, 1) := by decide +kernel
theorem dX7_recipe_32 : decode cX7_recipe 32 = .ok (.aload_n 0, 1) := by decide +kernel
theorem dX7_recipe_33 : decode cX7_recipe 33 = .ok (.invokevirtual 131, 3) := by decide +kernel
theorem dX7_recipe_36 : decode cX7_recipe 36 = .ok (.aload_n 0, 1) := by decide +kernel
theorem dX7_recipe_37 : decode cX7_recipe 37 = .ok (.aload_n 0, 1) := by decide +kernel
theorem dX7_recipe_38 : decode cX7_recipe 38 = .ok (.getfield 175, 3) := by decide +kernel
theorem dX7_recipe_41 : decode cX7_recipe 41 = .ok (.bipush 7, 2) := by decide +kernel
theorem dX7_recipe_43 : decode cX7_recipe 43 = .ok (.aload_n 0, 1) := by decide +kernel
theorem dX7_recipe_44 : decode cX7_recipe 44 = .ok (.getfield 163, 3) := by decide +kernel
theorem dX7_recipe_47 : decode cX7_recipe 47 = .ok (.invokevirtual 54, 3) := by decide +kernel
theorem dX7_recipe_50 : decode cX7_recipe 50 = .ok (.aload_n 0, 1) := by decide +kernel
theorem dX7_recipe_51 : decode cX7_recipe 51 = .ok (.aload_n 0, 1) := by decide +kernel
theorem dX7_recipe_52 : decode cX7_recipe 52 = .ok (.getfield 175, 3) := by decide +kernel
theorem dX7_recipe_55 : decode cX7_recipe 55 = .ok (.bipush 8, 2) := by decide +kernel
theorem dX7_recipe_57 : decode cX7_recipe 57 = .ok (.aload_n 0, 1) := by decide +kernel
theorem dX7_recipe_58 : decode cX7_recipe 58 = .ok (.getfield 169, 3) := by decide +kernel
theorem dX7_recipe_61 : decode cX7_recipe 61 = .ok (.invokevirtual 54, 3) := by decide +kernel
theorem dX7_recipe_64 : decode cX7_recipe 64 = .ok (.iconst 0, 1) := by decide +kernel
theorem dX7_recipe_65 : decode cX7_recipe 65 = .ok (.istore_n 1, 1) := by decide +kernel
theorem dX7_recipe_66 : decode cX7_recipe 66 = .ok (.iload_n 1, 1) := by decide +kernel
theorem dX7_recipe_67 : decode cX7_recipe 67 = .ok (.iconst 2, 1) := by decide +kernel
theorem dX7_recipe_68 : decode cX7_recipe 68 = .ok (.aload_n 0, 1) := by decide +kernel
theorem dX7_recipe_69 : decode cX7_recipe 69 = .ok (.getfield 169, 3) := by decide +kernel
theorem dX7_recipe_72 : decode cX7_recipe 72 = .ok (.imul, 1) := by decide +kernel
theorem dX7_recipe_73 : decode cX7_recipe 73 = .ok (.if_icmp .ge 27, 3) := by decide +kernel
theorem dX7_recipe_76 : decode cX7_recipe 76 = .ok (.aload_n 0, 1) := by decide +kernel
theorem dX7_recipe_77 : decode cX7_recipe 77 = .ok (.aload_n 0, 1) := by decide +kernel
theorem dX7_recipe_78 : decode cX7_recipe 78 = .ok (.getfield 175, 3) := by decide +kernel
theorem dX7_recipe_81 : decode cX7_recipe 81 = .ok (.bipush 9, 2) := by decide +kernel
theorem dX7_recipe_83 : decode cX7_recipe 83 = .ok (.iload_n 1, 1) := by decide +kernel
theorem dX7_recipe_84 : decode cX7_recipe 84 = .ok (.iadd, 1) := by decide +kernel
theorem dX7_recipe_85 : decode cX7_recipe 85 = .ok (.aload_n 0, 1) := by decide +kernel
theorem dX7_recipe_86 : decode cX7_recipe 86 = .ok (.getfield 47, 3) := by decide +kernel
theorem dX7_recipe_89 : decode cX7_recipe 89 = .ok (.iload_n 1, 1) := by decide +kernel
theorem dX7_recipe_90 : decode cX7_recipe 90 = .ok (.iaload, 1) := by decide +kernel
theorem dX7_recipe_91 : decode cX7_recipe 91 = .ok (.invokevirtual 54, 3) := by decide +kernel
theorem dX7_recipe_94 : decode cX7_recipe 94 = .ok (.iinc 1 1, 3) := by decide +kernel
theorem dX7_recipe_97 : decode cX7_recipe 97 = .ok (.goto (-31), 3) := by decide +kernel
theorem dX7_recipe_100 : decode cX7_recipe 100 = .ok (.aload_n 0, 1) := by decide +kernel
theorem dX7_recipe_101 : decode cX7_recipe 101 = .ok (.invokevirtual 194, 3) := by decide +kernel
theorem dX7_recipe_104 : decode cX7_recipe 104 = .ok (.ifCond .ne 10, 3) := by decide +kernel
theorem dX7_recipe_107 : decode cX7_recipe 107 = .ok (.aload_n 0, 1) := by decide +kernel
theorem dX7_recipe_108 : decode cX7_recipe 108 = .ok (.invokevirtual 122, 3) := by decide +kernel
theorem dX7_recipe_111 : decode cX7_recipe 111 = .ok (.bipush (-2), 2) := by decide +kernel
theorem dX7_recipe_113 : decode cX7_recipe 113 = .ok (.ireturn, 1) := by decide +kernel
theorem dX7_recipe_114 : decode cX7_recipe 114 = .ok (.aload_n 0, 1) := by decide +kernel
theorem dX7_recipe_115 : decode cX7_recipe 115 = .ok (.iconst 0, 1) := by decide +kernel
theorem dX7_recipe_116 : decode cX7_recipe 116 = .ok (.putfield 80, 3) := by decide +kernel
theorem dX7_recipe_119 : decode cX7_recipe 119 = .ok (.aload_n 0, 1) := by decide +kernel
theorem dX7_recipe_120 : decode cX7_recipe 120 = .ok (.invokevirtual 137, 3) := by decide +kernel
theorem dX7_recipe_123 : decode cX7_recipe 123 = .ok (.istore_n 1, 1) := by decide +kernel
theorem dX7_recipe_124 : decode cX7_recipe 124 = .ok (.aload_n 0, 1) := by decide +kernel
theorem dX7_recipe_125 : decode cX7_recipe 125 = .ok (.getfield 29, 3) := by decide +kernel
theorem dX7_recipe_128 : decode cX7_recipe 128 = .ok (.aload_n 0, 1) := by decide +kernel
theorem dX7_recipe_129 : decode cX7_recipe 129 = .ok (.getfield 175, 3) := by decide +kernel
theorem dX7_recipe_132 : decode cX7_recipe 132 = .ok (.iaload, 1) := by decide +kernel
theorem dX7_recipe_133 : decode cX7_recipe 133 = .ok (.ireturn, 1) := by decide +kernel
set_option maxRecDepth 20000 in
theorem ggX7_forget_X7_isThing : GoodIn wsX7_forget wsX7_isThing := goodIn_r _ [4, 5, 6, 3, 7] (by decide +kernel) (by decide +kernel)
set_option maxRecDepth 20000 in
theorem gX7_forget_X7_isThing : GoodIn wsX7_forget (va_wsS RX7 128 yX7_isThing wsX7_isThing) := goodIn_app (goodIn_of _ (by decide +kernel)) ggX7_forget_X7_isThing
set_option maxRecDepth 20000 in
theorem ggX7_forget_X7_isMade : GoodIn wsX7_forget wsX7_isMade := goodIn_r _ [11, 12, 13, 14, 3, 15, 16, 27, 28, 29, 30, 31, 32, 33, 34, 35, 36, 37, 38, 39, 40, 41, 42, 43, 44, 45, 46, 47, 48, 49, 50, 51, 52, 53, 54, 55] (by decide +kernel) (by decide +kernel)
set_option maxRecDepth 20000 in
theorem gX7_forget_X7_isMade : GoodIn wsX7_forget (wsV RX7 72 RX7 yX7_isMade wsX7_isMade) := goodIn_app (goodIn_of _ (by decide +kernel)) ggX7_forget_X7_isMade
set_option maxRecDepth 20000 in
theorem ggX7_forget_X7_remember : GoodIn wsX7_forget wsX7_remember := goodIn_r _ [20, 21, 22, 16, 27, 28, 29, 30, 31, 32, 33, 34, 35, 36, 37, 38, 39, 40, 41, 42, 43, 44, 45, 46, 47, 48, 49, 50, 51, 52, 53, 54, 55] (by decide +kernel) (by decide +kernel)
set_option maxRecDepth 20000 in
theorem gX7_forget_X7_remember : GoodIn wsX7_forget (wsV RX7 125 RX7 yX7_remember wsX7_remember) := goodIn_app (goodIn_of _ (by decide +kernel)) ggX7_forget_X7_remember
set_option maxRecDepth 20000 in
theorem ggX7_forget_X7_of : GoodIn wsX7_forget wsX7_of := goodIn_r _ [15, 16, 27, 28, 29, 30, 31, 32, 33, 34, 35, 36, 37, 38, 39, 40, 41, 42, 43, 44, 45, 46, 47, 48, 49, 50, 51, 52, 53, 54, 55] (by decide +kernel) (by decide +kernel)
set_option maxRecDepth 20000 in
theorem gX7_forget_X7_of : GoodIn wsX7_forget (wsV RX7 65 RX7 yX7_of wsX7_of) := goodIn_app (goodIn_of _ (by decide +kernel)) ggX7_forget_X7_of
set_option maxRecDepth 20000 in
theorem ggX7_forget_X7_put : GoodIn wsX7_forget wsX7_put := goodIn_r _ [26, 16, 27, 28, 29, 30, 31, 32, 33, 34, 35, 36, 37, 38, 39, 40, 41, 42, 43, 44, 45, 46, 47, 48, 49, 50, 51, 52, 53, 54, 55] (by decide +kernel) (by decide +kernel)
set_option maxRecDepth 20000 in
theorem gX7_forget_X7_put : GoodIn wsX7_forget (wsV RX7 54 RX7 yX7_put wsX7_put) := goodIn_app (goodIn_of _ (by decide +kernel)) ggX7_forget_X7_put
theorem dX7_forget_0 : decode cX7_forget 0 = .ok (.iload_n 1, 1) := by decide +kernel
theorem dX7_forget_1 : decode cX7_forget 1 = .ok (.invokestatic 128, 3) := by decide +kernel
theorem dX7_forget_4 : decode cX7_forget 4 = .ok (.ifCond .ne 5, 3) := by decide +kernel
theorem dX7_forget_7 : decode cX7_forget 7 = .ok (.iconst (-1), 1) := by decide +kernel
theorem dX7_forget_8 : decode cX7_forget 8 = .ok (.ireturn, 1) := by decide +kernel
theorem dX7_forget_9 : decode cX7_forget 9 = .ok (.aload_n 0, 1) := by decide +kernel
theorem dX7_forget_10 : decode cX7_forget 10 = .ok (.iload_n 1, 1) := by decide +kernel
theorem dX7_forget_11 : decode cX7_forget 11 = .ok (.invokevirtual 72, 3) := by decide +kernel
theorem dX7_forget_14 : decode cX7_forget 14 = .ok (.ifCond .ne 6, 3) := by decide +kernel
theorem dX7_forget_17 : decode cX7_forget 17 = .ok (.bipush (-2), 2) := by decide +kernel
theorem dX7_forget_19 : decode cX7_forget 19 = .ok (.ireturn, 1) := by decide +kernel
theorem dX7_forget_20 : decode cX7_forget 20 = .ok (.aload_n 0, 1) := by decide +kernel
theorem dX7_forget_21 : decode cX7_forget 21 = .ok (.invokevirtual 125, 3) := by decide +kernel
theorem dX7_forget_24 : decode cX7_forget 24 = .ok (.aload_n 0, 1) := by decide +kernel
theorem dX7_forget_25 : decode cX7_forget 25 = .ok (.iload_n 1, 1) := by decide +kernel
theorem dX7_forget_26 : decode cX7_forget 26 = .ok (.bipush 7, 2) := by decide +kernel
theorem dX7_forget_28 : decode cX7_forget 28 = .ok (.invokevirtual 65, 3) := by decide +kernel
theorem dX7_forget_31 : decode cX7_forget 31 = .ok (.istore_n 2, 1) := by decide +kernel
theorem dX7_forget_32 : decode cX7_forget 32 = .ok (.aload_n 0, 1) := by decide +kernel
theorem dX7_forget_33 : decode cX7_forget 33 = .ok (.iload_n 1, 1) := by decide +kernel
theorem dX7_forget_34 : decode cX7_forget 34 = .ok (.bipush 7, 2) := by decide +kernel
theorem dX7_forget_36 : decode cX7_forget 36 = .ok (.iconst 0, 1) := by decide +kernel
theorem dX7_forget_37 : decode cX7_forget 37 = .ok (.invokevirtual 54, 3) := by decide +kernel
theorem dX7_forget_40 : decode cX7_forget 40 = .ok (.aload_n 0, 1) := by decide +kernel
theorem dX7_forget_41 : decode cX7_forget 41 = .ok (.iload_n 1, 1) := by decide +kernel
theorem dX7_forget_42 : decode cX7_forget 42 = .ok (.bipush 8, 2) := by decide +kernel
theorem dX7_forget_44 : decode cX7_forget 44 = .ok (.iconst 0, 1) := by decide +kernel
theorem dX7_forget_45 : decode cX7_forget 45 = .ok (.invokevirtual 54, 3) := by decide +kernel
theorem dX7_forget_48 : decode cX7_forget 48 = .ok (.iload_n 2, 1) := by decide +kernel
theorem dX7_forget_49 : decode cX7_forget 49 = .ok (.ireturn, 1) := by decide +kernel
set_option maxRecDepth 20000 in
theorem ggX7_allow_X7_isThing : GoodIn wsX7_allow wsX7_isThing := goodIn_r _ [5, 6, 7, 4, 8] (by decide +kernel) (by decide +kernel)
set_option maxRecDepth 20000 in
theorem gX7_allow_X7_isThing : GoodIn wsX7_allow (va_wsS RX7 128 yX7_isThing wsX7_isThing) := goodIn_app (goodIn_of _ (by decide +kernel)) ggX7_allow_X7_isThing
set_option maxRecDepth 20000 in
theorem ggX7_allow_X7_of : GoodIn wsX7_allow wsX7_of := goodIn_r _ [12, 13, 54, 55, 56, 57, 58, 59, 60, 61, 62, 63, 64, 65, 66, 67, 68, 69, 70, 71, 72, 73, 74, 75, 76, 77, 78, 79, 80, 81, 82] (by decide +kernel) (by decide +kernel)
set_option maxRecDepth 20000 in
theorem gX7_allow_X7_of : GoodIn wsX7_allow (wsV RX7 65 RX7 yX7_of wsX7_of) := goodIn_app (goodIn_of _ (by decide +kernel)) ggX7_allow_X7_of
set_option maxRecDepth 20000 in
theorem ggX7_allow_X7_hold : GoodIn wsX7_allow wsX7_hold := goodIn_r _ [17, 18, 13, 54, 55, 56, 57, 58, 59, 60, 61, 62, 63, 64, 65, 66, 67, 68, 69, 70, 71, 72, 73, 74, 75, 76, 77, 78, 79, 80, 81, 82] (by decide +kernel) (by decide +kernel)
set_option maxRecDepth 20000 in
theorem gX7_allow_X7_hold : GoodIn wsX7_allow (wsV RX7 131 RX7 yX7_hold wsX7_hold) := goodIn_app (goodIn_of _ (by decide +kernel)) ggX7_allow_X7_hold
set_option maxRecDepth 20000 in
theorem ggX7_allow_X7_put : GoodIn wsX7_allow wsX7_put := goodIn_r _ [22, 13, 54, 55, 56, 57, 58, 59, 60, 61, 62, 63, 64, 65, 66, 67, 68, 69, 70, 71, 72, 73, 74, 75, 76, 77, 78, 79, 80, 81, 82] (by decide +kernel) (by decide +kernel)
set_option maxRecDepth 20000 in
theorem gX7_allow_X7_put : GoodIn wsX7_allow (wsV RX7 54 RX7 yX7_put wsX7_put) := goodIn_app (goodIn_of _ (by decide +kernel)) ggX7_allow_X7_put
set_option maxRecDepth 20000 in
theorem ggX7_allow_X7_areRanks : GoodIn wsX7_allow wsX7_areRanks := goodIn_r _ [26, 27, 28, 29, 30, 4, 31, 9, 10, 11, 12, 13, 32, 33, 34, 35, 36, 37, 38, 39, 54, 55, 56, 57, 58, 59, 60, 61, 62, 63, 64, 65, 66, 67, 68, 69, 70, 71, 72, 73, 74, 75, 76, 77, 78, 79, 80, 81, 82] (by decide +kernel) (by decide +kernel)
set_option maxRecDepth 20000 in
theorem gX7_allow_X7_areRanks : GoodIn wsX7_allow (wsV RX7 194 RX7 yX7_areRanks wsX7_areRanks) := goodIn_app (goodIn_of _ (by decide +kernel)) ggX7_allow_X7_areRanks
set_option maxRecDepth 20000 in
theorem ggX7_allow_X7_restore : GoodIn wsX7_allow wsX7_restore := goodIn_r _ [43, 13, 18, 54, 55, 56, 57, 58, 59, 60, 61, 62, 63, 64, 65, 66, 67, 68, 69, 70, 71, 72, 73, 74, 75, 76, 77, 78, 79, 80, 81, 82] (by decide +kernel) (by decide +kernel)
set_option maxRecDepth 20000 in
theorem gX7_allow_X7_restore : GoodIn wsX7_allow (wsV RX7 122 RX7 yX7_restore wsX7_restore) := goodIn_app (goodIn_of _ (by decide +kernel)) ggX7_allow_X7_restore
set_option maxRecDepth 20000 in
theorem ggX7_allow_X7_endMaking : GoodIn wsX7_allow wsX7_endMaking := goodIn_r _ [47, 1, 13, 18, 40, 41, 42, 4, 43, 48, 49, 50, 51, 52, 53, 54, 55, 56, 57, 58, 59, 60, 61, 62, 63, 64, 65, 66, 67, 68, 69, 70, 71, 72, 73, 74, 75, 76, 77, 78, 79, 80, 81, 82] (by decide +kernel) (by decide +kernel)
set_option maxRecDepth 20000 in
theorem gX7_allow_X7_endMaking : GoodIn wsX7_allow (wsV RX7 137 RX7 yX7_endMaking wsX7_endMaking) := goodIn_app (goodIn_of _ (by decide +kernel)) ggX7_allow_X7_endMaking
theorem dX7_allow_0 : decode cX7_allow 0 = .ok (.iload_n 1, 1) := by decide +kernel
theorem dX7_allow_1 : decode cX7_allow 1 = .ok (.invokestatic 128, 3) := by decide +kernel
theorem dX7_allow_4 : decode cX7_allow 4 = .ok (.ifCond .eq 15, 3) := by decide +kernel
theorem dX7_allow_7 : decode cX7_allow 7 = .ok (.iload_n 2, 1) := by decide +kernel
theorem dX7_allow_8 : decode cX7_allow 8 = .ok (.invokestatic 128, 3) := by decide +kernel
theorem dX7_allow_11 : decode cX7_allow 11 = .ok (.ifCond .eq 8, 3) := by decide +kernel
theorem dX7_allow_14 : decode cX7_allow 14 = .ok (.iload_n 1, 1) := by decide +kernel
theorem dX7_allow_15 : decode cX7_allow 15 = .ok (.iload_n 2, 1) := by decide +kernel
theorem dX7_allow_16 : decode cX7_allow 16 = .ok (.if_icmp .ne 5, 3) := by decide +kernel
theorem dX7_allow_19 : decode cX7_allow 19 = .ok (.iconst (-1), 1) := by decide +kernel
theorem dX7_allow_20 : decode cX7_allow 20 = .ok (.ireturn, 1) := by decide +kernel
theorem dX7_allow_21 : decode cX7_allow 21 = .ok (.aload_n 0, 1) := by decide +kernel
theorem dX7_allow_22 : decode cX7_allow 22 = .ok (.iload_n 1, 1) := by decide +kernel
theorem dX7_allow_23 : decode cX7_allow 23 = .ok (.bipush 19, 2) := by decide +kernel
theorem dX7_allow_25 : decode cX7_allow 25 = .ok (.invokevirtual 65, 3) := by decide +kernel
theorem dX7_allow_28 : decode cX7_allow 28 = .ok (.istore_n 3, 1) := by decide +kernel
theorem dX7_allow_29 : decode cX7_allow 29 = .ok (.iconst 0, 1) := by decide +kernel
theorem dX7_allow_30 : decode cX7_allow 30 = .ok (.istore 4, 2) := by decide +kernel
theorem dX7_allow_32 : decode cX7_allow 32 = .ok (.iload 4, 2) := by decide +kernel
theorem dX7_allow_34 : decode cX7_allow 34 = .ok (.iload_n 3, 1) := by decide +kernel
theorem dX7_allow_35 : decode cX7_allow 35 = .ok (.if_icmp .ge 26, 3) := by decide +kernel
theorem dX7_allow_38 : decode cX7_allow 38 = .ok (.aload_n 0, 1) := by decide +kernel
theorem dX7_allow_39 : decode cX7_allow 39 = .ok (.iload_n 1, 1) := by decide +kernel
theorem dX7_allow_40 : decode cX7_allow 40 = .ok (.bipush 20, 2) := by decide +kernel
theorem dX7_allow_42 : decode cX7_allow 42 = .ok (.iload 4, 2) := by decide +kernel
theorem dX7_allow_44 : decode cX7_allow 44 = .ok (.iadd, 1) := by decide +kernel
theorem dX7_allow_45 : decode cX7_allow 45 = .ok (.invokevirtual 65, 3) := by decide +kernel
theorem dX7_allow_48 : decode cX7_allow 48 = .ok (.iload_n 2, 1) := by decide +kernel
theorem dX7_allow_49 : decode cX7_allow 49 = .ok (.if_icmp .ne 6, 3) := by decide +kernel
theorem dX7_allow_52 : decode cX7_allow 52 = .ok (.bipush (-2), 2) := by decide +kernel
theorem dX7_allow_54 : decode cX7_allow 54 = .ok (.ireturn, 1) := by decide +kernel
theorem dX7_allow_55 : decode cX7_allow 55 = .ok (.iinc 4 1, 3) := by decide +kernel
theorem dX7_allow_58 : decode cX7_allow 58 = .ok (.goto (-26), 3) := by decide +kernel
theorem dX7_allow_61 : decode cX7_allow 61 = .ok (.iload_n 3, 1) := by decide +kernel
theorem dX7_allow_62 : decode cX7_allow 62 = .ok (.iconst 3, 1) := by decide +kernel
theorem dX7_allow_63 : decode cX7_allow 63 = .ok (.if_icmp .ne 6, 3) := by decide +kernel
theorem dX7_allow_66 : decode cX7_allow 66 = .ok (.bipush (-3), 2) := by decide +kernel
theorem dX7_allow_68 : decode cX7_allow 68 = .ok (.ireturn, 1) := by decide +kernel
theorem dX7_allow_69 : decode cX7_allow 69 = .ok (.aload_n 0, 1) := by decide +kernel
theorem dX7_allow_70 : decode cX7_allow 70 = .ok (.invokevirtual 131, 3) := by decide +kernel
theorem dX7_allow_73 : decode cX7_allow 73 = .ok (.aload_n 0, 1) := by decide +kernel
theorem dX7_allow_74 : decode cX7_allow 74 = .ok (.iload_n 1, 1) := by decide +kernel
theorem dX7_allow_75 : decode cX7_allow 75 = .ok (.bipush 20, 2) := by decide +kernel
theorem dX7_allow_77 : decode cX7_allow 77 = .ok (.iload_n 3, 1) := by decide +kernel
theorem dX7_allow_78 : decode cX7_allow 78 = .ok (.iadd, 1) := by decide +kernel
theorem dX7_allow_79 : decode cX7_allow 79 = .ok (.iload_n 2, 1) := by decide +kernel
theorem dX7_allow_80 : decode cX7_allow 80 = .ok (.invokevirtual 54, 3) := by decide +kernel
theorem dX7_allow_83 : decode cX7_allow 83 = .ok (.aload_n 0, 1) := by decide +kernel
theorem dX7_allow_84 : decode cX7_allow 84 = .ok (.iload_n 1, 1) := by decide +kernel
theorem dX7_allow_85 : decode cX7_allow 85 = .ok (.bipush 19, 2) := by decide +kernel
theorem dX7_allow_87 : decode cX7_allow 87 = .ok (.iload_n 3, 1) := by decide +kernel
theorem dX7_allow_88 : decode cX7_allow 88 = .ok (.iconst 1, 1) := by decide +kernel
theorem dX7_allow_89 : decode cX7_allow 89 = .ok (.iadd, 1) := by decide +kernel
theorem dX7_allow_90 : decode cX7_allow 90 = .ok (.invokevirtual 54, 3) := by decide +kernel
theorem dX7_allow_93 : decode cX7_allow 93 = .ok (.aload_n 0, 1) := by decide +kernel
theorem dX7_allow_94 : decode cX7_allow 94 = .ok (.invokevirtual 194, 3) := by decide +kernel
theorem dX7_allow_97 : decode cX7_allow 97 = .ok (.ifCond .ne 10, 3) := by decide +kernel
theorem dX7_allow_100 : decode cX7_allow 100 = .ok (.aload_n 0, 1) := by decide +kernel
theorem dX7_allow_101 : decode cX7_allow 101 = .ok (.invokevirtual 122, 3) := by decide +kernel
theorem dX7_allow_104 : decode cX7_allow 104 = .ok (.bipush (-2), 2) := by decide +kernel
theorem dX7_allow_106 : decode cX7_allow 106 = .ok (.ireturn, 1) := by decide +kernel
theorem dX7_allow_107 : decode cX7_allow 107 = .ok (.aload_n 0, 1) := by decide +kernel
theorem dX7_allow_108 : decode cX7_allow 108 = .ok (.iconst 0, 1) := by decide +kernel
theorem dX7_allow_109 : decode cX7_allow 109 = .ok (.putfield 80, 3) := by decide +kernel
theorem dX7_allow_112 : decode cX7_allow 112 = .ok (.aload_n 0, 1) := by decide +kernel
theorem dX7_allow_113 : decode cX7_allow 113 = .ok (.invokevirtual 137, 3) := by decide +kernel
theorem dX7_allow_116 : decode cX7_allow 116 = .ok (.istore 4, 2) := by decide +kernel
theorem dX7_allow_118 : decode cX7_allow 118 = .ok (.iload_n 3, 1) := by decide +kernel
theorem dX7_allow_119 : decode cX7_allow 119 = .ok (.iconst 1, 1) := by decide +kernel
theorem dX7_allow_120 : decode cX7_allow 120 = .ok (.iadd, 1) := by decide +kernel
theorem dX7_allow_121 : decode cX7_allow 121 = .ok (.ireturn, 1) := by decide +kernel
set_option maxRecDepth 20000 in
theorem ggX7_forbid_X7_isThing : GoodIn wsX7_forbid wsX7_isThing := goodIn_r _ [4, 5, 6, 3, 7] (by decide +kernel) (by decide +kernel)
set_option maxRecDepth 20000 in
theorem gX7_forbid_X7_isThing : GoodIn wsX7_forbid (va_wsS RX7 128 yX7_isThing wsX7_isThing) := goodIn_app (goodIn_of _ (by decide +kernel)) ggX7_forbid_X7_isThing
set_option maxRecDepth 20000 in
theorem ggX7_forbid_X7_of : GoodIn wsX7_forbid wsX7_of := goodIn_r _ [11, 12, 23, 24, 25, 26, 27, 28, 29, 30, 31, 32, 33, 34, 35, 36, 37, 38, 39, 40, 41, 42, 43, 44, 45, 46, 47, 48, 49, 50, 51] (by decide +kernel) (by decide +kernel)
set_option maxRecDepth 20000 in
theorem gX7_forbid_X7_of : GoodIn wsX7_forbid (wsV RX7 65 RX7 yX7_of wsX7_of) := goodIn_app (goodIn_of _ (by decide +kernel)) ggX7_forbid_X7_of
set_option maxRecDepth 20000 in
theorem ggX7_forbid_X7_isIn : GoodIn wsX7_forbid wsX7_isIn := goodIn_r _ [7] (by decide +kernel) (by decide +kernel)
set_option maxRecDepth 20000 in
theorem gX7_forbid_X7_isIn : GoodIn wsX7_forbid (va_wsS RX7 61 yX7_isIn wsX7_isIn) := goodIn_app (goodIn_of _ (by decide +kernel)) ggX7_forbid_X7_isIn
set_option maxRecDepth 20000 in
theorem ggX7_forbid_X7_remember : GoodIn wsX7_forbid wsX7_remember := goodIn_r _ [16, 17, 18, 12, 23, 24, 25, 26, 27, 28, 29, 30, 31, 32, 33, 34, 35, 36, 37, 38, 39, 40, 41, 42, 43, 44, 45, 46, 47, 48, 49, 50, 51] (by decide +kernel) (by decide +kernel)
set_option maxRecDepth 20000 in
theorem gX7_forbid_X7_remember : GoodIn wsX7_forbid (wsV RX7 125 RX7 yX7_remember wsX7_remember) := goodIn_app (goodIn_of _ (by decide +kernel)) ggX7_forbid_X7_remember
set_option maxRecDepth 20000 in
theorem ggX7_forbid_X7_put : GoodIn wsX7_forbid wsX7_put := goodIn_r _ [22, 12, 23, 24, 25, 26, 27, 28, 29, 30, 31, 32, 33, 34, 35, 36, 37, 38, 39, 40, 41, 42, 43, 44, 45, 46, 47, 48, 49, 50, 51] (by decide +kernel) (by decide +kernel)
set_option maxRecDepth 20000 in
theorem gX7_forbid_X7_put : GoodIn wsX7_forbid (wsV RX7 54 RX7 yX7_put wsX7_put) := goodIn_app (goodIn_of _ (by decide +kernel)) ggX7_forbid_X7_put
theorem dX7_forbid_0 : decode cX7_forbid 0 = .ok (.iload_n 1, 1) := by decide +kernel
theorem dX7_forbid_1 : decode cX7_forbid 1 = .ok (.invokestatic 128, 3) := by decide +kernel
theorem dX7_forbid_4 : decode cX7_forbid 4 = .ok (.ifCond .eq 20, 3) := by decide +kernel
theorem dX7_forbid_7 : decode cX7_forbid 7 = .ok (.iload_n 2, 1) := by decide +kernel
theorem dX7_forbid_8 : decode cX7_forbid 8 = .ok (.iconst 0, 1) := by decide +kernel
theorem dX7_forbid_9 : decode cX7_forbid 9 = .ok (.aload_n 0, 1) := by decide +kernel
theorem dX7_forbid_10 : decode cX7_forbid 10 = .ok (.iload_n 1, 1) := by decide +kernel
theorem dX7_forbid_11 : decode cX7_forbid 11 = .ok (.bipush 19, 2) := by decide +kernel
theorem dX7_forbid_13 : decode cX7_forbid 13 = .ok (.invokevirtual 65, 3) := by decide +kernel
theorem dX7_forbid_16 : decode cX7_forbid 16 = .ok (.iconst 1, 1) := by decide +kernel
theorem dX7_forbid_17 : decode cX7_forbid 17 = .ok (.isub, 1) := by decide +kernel
theorem dX7_forbid_18 : decode cX7_forbid 18 = .ok (.invokestatic 61, 3) := by decide +kernel
theorem dX7_forbid_21 : decode cX7_forbid 21 = .ok (.ifCond .ne 5, 3) := by decide +kernel
theorem dX7_forbid_24 : decode cX7_forbid 24 = .ok (.iconst (-1), 1) := by decide +kernel
theorem dX7_forbid_25 : decode cX7_forbid 25 = .ok (.ireturn, 1) := by decide +kernel
theorem dX7_forbid_26 : decode cX7_forbid 26 = .ok (.aload_n 0, 1) := by decide +kernel
theorem dX7_forbid_27 : decode cX7_forbid 27 = .ok (.invokevirtual 125, 3) := by decide +kernel
theorem dX7_forbid_30 : decode cX7_forbid 30 = .ok (.aload_n 0, 1) := by decide +kernel
theorem dX7_forbid_31 : decode cX7_forbid 31 = .ok (.iload_n 1, 1) := by decide +kernel
theorem dX7_forbid_32 : decode cX7_forbid 32 = .ok (.bipush 20, 2) := by decide +kernel
theorem dX7_forbid_34 : decode cX7_forbid 34 = .ok (.iload_n 2, 1) := by decide +kernel
theorem dX7_forbid_35 : decode cX7_forbid 35 = .ok (.iadd, 1) := by decide +kernel
theorem dX7_forbid_36 : decode cX7_forbid 36 = .ok (.invokevirtual 65, 3) := by decide +kernel
theorem dX7_forbid_39 : decode cX7_forbid 39 = .ok (.istore_n 3, 1) := by decide +kernel
theorem dX7_forbid_40 : decode cX7_forbid 40 = .ok (.iload_n 2, 1) := by decide +kernel
theorem dX7_forbid_41 : decode cX7_forbid 41 = .ok (.istore 4, 2) := by decide +kernel
theorem dX7_forbid_43 : decode cX7_forbid 43 = .ok (.iload 4, 2) := by decide +kernel
theorem dX7_forbid_45 : decode cX7_forbid 45 = .ok (.iconst 1, 1) := by decide +kernel
theorem dX7_forbid_46 : decode cX7_forbid 46 = .ok (.iadd, 1) := by decide +kernel
theorem dX7_forbid_47 : decode cX7_forbid 47 = .ok (.aload_n 0, 1) := by decide +kernel
theorem dX7_forbid_48 : decode cX7_forbid 48 = .ok (.iload_n 1, 1) := by decide +kernel
theorem dX7_forbid_49 : decode cX7_forbid 49 = .ok (.bipush 19, 2) := by decide +kernel
theorem dX7_forbid_51 : decode cX7_forbid 51 = .ok (.invokevirtual 65, 3) := by decide +kernel
theorem dX7_forbid_54 : decode cX7_forbid 54 = .ok (.if_icmp .ge 31, 3) := by decide +kernel
theorem dX7_forbid_57 : decode cX7_forbid 57 = .ok (.aload_n 0, 1) := by decide +kernel
theorem dX7_forbid_58 : decode cX7_forbid 58 = .ok (.iload_n 1, 1) := by decide +kernel
theorem dX7_forbid_59 : decode cX7_forbid 59 = .ok (.bipush 20, 2) := by decide +kernel
theorem dX7_forbid_61 : decode cX7_forbid 61 = .ok (.iload 4, 2) := by decide +kernel
theorem dX7_forbid_63 : decode cX7_forbid 63 = .ok (.iadd, 1) := by decide +kernel
theorem dX7_forbid_64 : decode cX7_forbid 64 = .ok (.aload_n 0, 1) := by decide +kernel
theorem dX7_forbid_65 : decode cX7_forbid 65 = .ok (.iload_n 1, 1) := by decide +kernel
theorem dX7_forbid_66 : decode cX7_forbid 66 = .ok (.bipush 20, 2) := by decide +kernel
theorem dX7_forbid_68 : decode cX7_forbid 68 = .ok (.iload 4, 2) := by decide +kernel
theorem dX7_forbid_70 : decode cX7_forbid 70 = .ok (.iadd, 1) := by decide +kernel
theorem dX7_forbid_71 : decode cX7_forbid 71 = .ok (.iconst 1, 1) := by decide +kernel
theorem dX7_forbid_72 : decode cX7_forbid 72 = .ok (.iadd, 1) := by decide +kernel
theorem dX7_forbid_73 : decode cX7_forbid 73 = .ok (.invokevirtual 65, 3) := by decide +kernel
theorem dX7_forbid_76 : decode cX7_forbid 76 = .ok (.invokevirtual 54, 3) := by decide +kernel
theorem dX7_forbid_79 : decode cX7_forbid 79 = .ok (.iinc 4 1, 3) := by decide +kernel
theorem dX7_forbid_82 : decode cX7_forbid 82 = .ok (.goto (-39), 3) := by decide +kernel
theorem dX7_forbid_85 : decode cX7_forbid 85 = .ok (.aload_n 0, 1) := by decide +kernel
theorem dX7_forbid_86 : decode cX7_forbid 86 = .ok (.iload_n 1, 1) := by decide +kernel
theorem dX7_forbid_87 : decode cX7_forbid 87 = .ok (.bipush 19, 2) := by decide +kernel
theorem dX7_forbid_89 : decode cX7_forbid 89 = .ok (.aload_n 0, 1) := by decide +kernel
theorem dX7_forbid_90 : decode cX7_forbid 90 = .ok (.iload_n 1, 1) := by decide +kernel
theorem dX7_forbid_91 : decode cX7_forbid 91 = .ok (.bipush 19, 2) := by decide +kernel
theorem dX7_forbid_93 : decode cX7_forbid 93 = .ok (.invokevirtual 65, 3) := by decide +kernel
theorem dX7_forbid_96 : decode cX7_forbid 96 = .ok (.iconst 1, 1) := by decide +kernel
theorem dX7_forbid_97 : decode cX7_forbid 97 = .ok (.isub, 1) := by decide +kernel
theorem dX7_forbid_98 : decode cX7_forbid 98 = .ok (.invokevirtual 54, 3) := by decide +kernel
theorem dX7_forbid_101 : decode cX7_forbid 101 = .ok (.iload_n 3, 1) := by decide +kernel
theorem dX7_forbid_102 : decode cX7_forbid 102 = .ok (.ireturn, 1) := by decide +kernel
set_option maxRecDepth 20000 in
theorem ggX7_isVessel_X7_of : GoodIn wsX7_isVessel wsX7_of := goodIn_r _ [5, 6, 7, 8, 9, 10, 11, 12, 13, 14, 15, 16, 17, 18, 19, 20, 21, 22, 23, 24, 25, 26, 27, 28, 29, 30, 31, 32, 33, 34, 35] (by decide +kernel) (by decide +kernel)
set_option maxRecDepth 20000 in
theorem gX7_isVessel_X7_of : GoodIn wsX7_isVessel (wsV RX7 65 RX7 yX7_of wsX7_of) := goodIn_app (goodIn_of _ (by decide +kernel)) ggX7_isVessel_X7_of
theorem dX7_isVessel_0 : decode cX7_isVessel 0 = .ok (.iconst 0, 1) := by decide +kernel
theorem dX7_isVessel_1 : decode cX7_isVessel 1 = .ok (.istore_n 2, 1) := by decide +kernel
theorem dX7_isVessel_2 : decode cX7_isVessel 2 = .ok (.iload_n 2, 1) := by decide +kernel
theorem dX7_isVessel_3 : decode cX7_isVessel 3 = .ok (.bipush 20, 2) := by decide +kernel
theorem dX7_isVessel_5 : decode cX7_isVessel 5 = .ok (.if_icmp .ge 21, 3) := by decide +kernel
theorem dX7_isVessel_8 : decode cX7_isVessel 8 = .ok (.aload_n 0, 1) := by decide +kernel
theorem dX7_isVessel_9 : decode cX7_isVessel 9 = .ok (.iload_n 2, 1) := by decide +kernel
theorem dX7_isVessel_10 : decode cX7_isVessel 10 = .ok (.iconst 1, 1) := by decide +kernel
theorem dX7_isVessel_11 : decode cX7_isVessel 11 = .ok (.invokevirtual 65, 3) := by decide +kernel
theorem dX7_isVessel_14 : decode cX7_isVessel 14 = .ok (.iload_n 1, 1) := by decide +kernel
theorem dX7_isVessel_15 : decode cX7_isVessel 15 = .ok (.if_icmp .ne 5, 3) := by decide +kernel
theorem dX7_isVessel_18 : decode cX7_isVessel 18 = .ok (.iconst 1, 1) := by decide +kernel
theorem dX7_isVessel_19 : decode cX7_isVessel 19 = .ok (.ireturn, 1) := by decide +kernel
theorem dX7_isVessel_20 : decode cX7_isVessel 20 = .ok (.iinc 2 1, 3) := by decide +kernel
theorem dX7_isVessel_23 : decode cX7_isVessel 23 = .ok (.goto (-21), 3) := by decide +kernel
theorem dX7_isVessel_26 : decode cX7_isVessel 26 = .ok (.iconst 0, 1) := by decide +kernel
theorem dX7_isVessel_27 : decode cX7_isVessel 27 = .ok (.ireturn, 1) := by decide +kernel
set_option maxRecDepth 20000 in
theorem ggX7_vessel_X7_isThing : GoodIn wsX7_vessel wsX7_isThing := goodIn_r _ [4, 5, 6, 3, 7] (by decide +kernel) (by decide +kernel)
set_option maxRecDepth 20000 in
theorem gX7_vessel_X7_isThing : GoodIn wsX7_vessel (va_wsS RX7 128 yX7_isThing wsX7_isThing) := goodIn_app (goodIn_of _ (by decide +kernel)) ggX7_vessel_X7_isThing
set_option maxRecDepth 20000 in
theorem ggX7_vessel_X7_of : GoodIn wsX7_vessel wsX7_of := goodIn_r _ [11, 12, 27, 28, 29, 30, 31, 32, 33, 34, 35, 36, 37, 38, 39, 40, 41, 42, 43, 44, 45, 46, 47, 48, 49, 50, 51, 52, 53, 54, 55] (by decide +kernel) (by decide +kernel)
set_option maxRecDepth 20000 in
theorem gX7_vessel_X7_of : GoodIn wsX7_vessel (wsV RX7 65 RX7 yX7_of wsX7_of) := goodIn_app (goodIn_of _ (by decide +kernel)) ggX7_vessel_X7_of
set_option maxRecDepth 20000 in
theorem ggX7_vessel_X7_isVessel : GoodIn wsX7_vessel wsX7_isVessel := goodIn_r _ [16, 8, 9, 10, 3, 11, 12, 27, 28, 29, 30, 31, 32, 33, 34, 35, 36, 37, 38, 39, 40, 41, 42, 43, 44, 45, 46, 47, 48, 49, 50, 51, 52, 53, 54, 55] (by decide +kernel) (by decide +kernel)
set_option maxRecDepth 20000 in
theorem gX7_vessel_X7_isVessel : GoodIn wsX7_vessel (wsV RX7 197 RX7 yX7_isVessel wsX7_isVessel) := goodIn_app (goodIn_of _ (by decide +kernel)) ggX7_vessel_X7_isVessel
set_option maxRecDepth 20000 in
theorem ggX7_vessel_X7_remember : GoodIn wsX7_vessel wsX7_remember := goodIn_r _ [20, 21, 22, 12, 27, 28, 29, 30, 31, 32, 33, 34, 35, 36, 37, 38, 39, 40, 41, 42, 43, 44, 45, 46, 47, 48, 49, 50, 51, 52, 53, 54, 55] (by decide +kernel) (by decide +kernel)
set_option maxRecDepth 20000 in
theorem gX7_vessel_X7_remember : GoodIn wsX7_vessel (wsV RX7 125 RX7 yX7_remember wsX7_remember) := goodIn_app (goodIn_of _ (by decide +kernel)) ggX7_vessel_X7_remember
set_option maxRecDepth 20000 in
theorem ggX7_vessel_X7_put : GoodIn wsX7_vessel wsX7_put := goodIn_r _ [26, 12, 27, 28, 29, 30, 31, 32, 33, 34, 35, 36, 37, 38, 39, 40, 41, 42, 43, 44, 45, 46, 47, 48, 49, 50, 51, 52, 53, 54, 55] (by decide +kernel) (by decide +kernel)
set_option maxRecDepth 20000 in
theorem gX7_vessel_X7_put : GoodIn wsX7_vessel (wsV RX7 54 RX7 yX7_put wsX7_put) := goodIn_app (goodIn_of _ (by decide +kernel)) ggX7_vessel_X7_put
theorem dX7_vessel_0 : decode cX7_vessel 0 = .ok (.iload_n 1, 1) := by decide +kernel
theorem dX7_vessel_1 : decode cX7_vessel 1 = .ok (.invokestatic 128, 3) := by decide +kernel
theorem dX7_vessel_4 : decode cX7_vessel 4 = .ok (.ifCond .eq 21, 3) := by decide +kernel
theorem dX7_vessel_7 : decode cX7_vessel 7 = .ok (.iload_n 2, 1) := by decide +kernel
theorem dX7_vessel_8 : decode cX7_vessel 8 = .ok (.bipush (-9), 2) := by decide +kernel
theorem dX7_vessel_10 : decode cX7_vessel 10 = .ok (.if_icmp .eq 10, 3) := by decide +kernel
theorem dX7_vessel_13 : decode cX7_vessel 13 = .ok (.iload_n 2, 1) := by decide +kernel
theorem dX7_vessel_14 : decode cX7_vessel 14 = .ok (.invokestatic 128, 3) := by decide +kernel
theorem dX7_vessel_17 : decode cX7_vessel 17 = .ok (.ifCond .eq 8, 3) := by decide +kernel
theorem dX7_vessel_20 : decode cX7_vessel 20 = .ok (.iload_n 1, 1) := by decide +kernel
theorem dX7_vessel_21 : decode cX7_vessel 21 = .ok (.iload_n 2, 1) := by decide +kernel
theorem dX7_vessel_22 : decode cX7_vessel 22 = .ok (.if_icmp .ne 5, 3) := by decide +kernel
theorem dX7_vessel_25 : decode cX7_vessel 25 = .ok (.iconst (-1), 1) := by decide +kernel
theorem dX7_vessel_26 : decode cX7_vessel 26 = .ok (.ireturn, 1) := by decide +kernel
theorem dX7_vessel_27 : decode cX7_vessel 27 = .ok (.iload_n 2, 1) := by decide +kernel
theorem dX7_vessel_28 : decode cX7_vessel 28 = .ok (.bipush (-9), 2) := by decide +kernel
theorem dX7_vessel_30 : decode cX7_vessel 30 = .ok (.if_icmp .eq 25, 3) := by decide +kernel
theorem dX7_vessel_33 : decode cX7_vessel 33 = .ok (.aload_n 0, 1) := by decide +kernel
theorem dX7_vessel_34 : decode cX7_vessel 34 = .ok (.iload_n 2, 1) := by decide +kernel
theorem dX7_vessel_35 : decode cX7_vessel 35 = .ok (.iconst 1, 1) := by decide +kernel
theorem dX7_vessel_36 : decode cX7_vessel 36 = .ok (.invokevirtual 65, 3) := by decide +kernel
theorem dX7_vessel_39 : decode cX7_vessel 39 = .ok (.bipush (-9), 2) := by decide +kernel
theorem dX7_vessel_41 : decode cX7_vessel 41 = .ok (.if_icmp .ne 11, 3) := by decide +kernel
theorem dX7_vessel_44 : decode cX7_vessel 44 = .ok (.aload_n 0, 1) := by decide +kernel
theorem dX7_vessel_45 : decode cX7_vessel 45 = .ok (.iload_n 1, 1) := by decide +kernel
theorem dX7_vessel_46 : decode cX7_vessel 46 = .ok (.invokevirtual 197, 3) := by decide +kernel
theorem dX7_vessel_49 : decode cX7_vessel 49 = .ok (.ifCond .eq 6, 3) := by decide +kernel
theorem dX7_vessel_52 : decode cX7_vessel 52 = .ok (.bipush (-2), 2) := by decide +kernel
theorem dX7_vessel_54 : decode cX7_vessel 54 = .ok (.ireturn, 1) := by decide +kernel
theorem dX7_vessel_55 : decode cX7_vessel 55 = .ok (.aload_n 0, 1) := by decide +kernel
theorem dX7_vessel_56 : decode cX7_vessel 56 = .ok (.invokevirtual 125, 3) := by decide +kernel
theorem dX7_vessel_59 : decode cX7_vessel 59 = .ok (.aload_n 0, 1) := by decide +kernel
theorem dX7_vessel_60 : decode cX7_vessel 60 = .ok (.iload_n 1, 1) := by decide +kernel
theorem dX7_vessel_61 : decode cX7_vessel 61 = .ok (.iconst 1, 1) := by decide +kernel
theorem dX7_vessel_62 : decode cX7_vessel 62 = .ok (.invokevirtual 65, 3) := by decide +kernel
theorem dX7_vessel_65 : decode cX7_vessel 65 = .ok (.istore_n 3, 1) := by decide +kernel
theorem dX7_vessel_66 : decode cX7_vessel 66 = .ok (.aload_n 0, 1) := by decide +kernel
theorem dX7_vessel_67 : decode cX7_vessel 67 = .ok (.iload_n 1, 1) := by decide +kernel
theorem dX7_vessel_68 : decode cX7_vessel 68 = .ok (.iconst 1, 1) := by decide +kernel
theorem dX7_vessel_69 : decode cX7_vessel 69 = .ok (.iload_n 2, 1) := by decide +kernel
theorem dX7_vessel_70 : decode cX7_vessel 70 = .ok (.invokevirtual 54, 3) := by decide +kernel
theorem dX7_vessel_73 : decode cX7_vessel 73 = .ok (.iload_n 3, 1) := by decide +kernel
theorem dX7_vessel_74 : decode cX7_vessel 74 = .ok (.ireturn, 1) := by decide +kernel
set_option maxRecDepth 20000 in
theorem ggX7_bring_X7_isThing : GoodIn wsX7_bring wsX7_isThing := goodIn_r _ [5, 6, 7, 4, 8] (by decide +kernel) (by decide +kernel)
set_option maxRecDepth 20000 in
theorem gX7_bring_X7_isThing : GoodIn wsX7_bring (va_wsS RX7 128 yX7_isThing wsX7_isThing) := goodIn_app (goodIn_of _ (by decide +kernel)) ggX7_bring_X7_isThing
set_option maxRecDepth 20000 in
theorem ggX7_bring_X7_isIn : GoodIn wsX7_bring wsX7_isIn := goodIn_r _ [8] (by decide +kernel) (by decide +kernel)
set_option maxRecDepth 20000 in
theorem gX7_bring_X7_isIn : GoodIn wsX7_bring (va_wsS RX7 61 yX7_isIn wsX7_isIn) := goodIn_app (goodIn_of _ (by decide +kernel)) ggX7_bring_X7_isIn
set_option maxRecDepth 20000 in
theorem ggX7_bring_X7_of : GoodIn wsX7_bring wsX7_of := goodIn_r _ [12, 13, 24, 25, 26, 27, 28, 29, 30, 31, 32, 33, 34, 35, 36, 37, 38, 39, 40, 41, 42, 43, 44, 45, 46, 47, 48, 49, 50, 51, 52] (by decide +kernel) (by decide +kernel)
set_option maxRecDepth 20000 in
theorem gX7_bring_X7_of : GoodIn wsX7_bring (wsV RX7 65 RX7 yX7_of wsX7_of) := goodIn_app (goodIn_of _ (by decide +kernel)) ggX7_bring_X7_of
set_option maxRecDepth 20000 in
theorem ggX7_bring_X7_remember : GoodIn wsX7_bring wsX7_remember := goodIn_r _ [17, 18, 19, 13, 24, 25, 26, 27, 28, 29, 30, 31, 32, 33, 34, 35, 36, 37, 38, 39, 40, 41, 42, 43, 44, 45, 46, 47, 48, 49, 50, 51, 52] (by decide +kernel) (by decide +kernel)
set_option maxRecDepth 20000 in
theorem gX7_bring_X7_remember : GoodIn wsX7_bring (wsV RX7 125 RX7 yX7_remember wsX7_remember) := goodIn_app (goodIn_of _ (by decide +kernel)) ggX7_bring_X7_remember
set_option maxRecDepth 20000 in
theorem ggX7_bring_X7_put : GoodIn wsX7_bring wsX7_put := goodIn_r _ [23, 13, 24, 25, 26, 27, 28, 29, 30, 31, 32, 33, 34, 35, 36, 37, 38, 39, 40, 41, 42, 43, 44, 45, 46, 47, 48, 49, 50, 51, 52] (by decide +kernel) (by decide +kernel)
set_option maxRecDepth 20000 in
theorem gX7_bring_X7_put : GoodIn wsX7_bring (wsV RX7 54 RX7 yX7_put wsX7_put) := goodIn_app (goodIn_of _ (by decide +kernel)) ggX7_bring_X7_put
theorem dX7_bring_0 : decode cX7_bring 0 = .ok (.iload_n 1, 1) := by decide +kernel
theorem dX7_bring_1 : decode cX7_bring 1 = .ok (.invokestatic 128, 3) := by decide +kernel
theorem dX7_bring_4 : decode cX7_bring 4 = .ok (.ifCond .eq 16, 3) := by decide +kernel
theorem dX7_bring_7 : decode cX7_bring 7 = .ok (.iload_n 2, 1) := by decide +kernel
theorem dX7_bring_8 : decode cX7_bring 8 = .ok (.sipush (-9999), 3) := by decide +kernel
theorem dX7_bring_11 : decode cX7_bring 11 = .ok (.sipush 9999, 3) := by decide +kernel
theorem dX7_bring_14 : decode cX7_bring 14 = .ok (.invokestatic 61, 3) := by decide +kernel
theorem dX7_bring_17 : decode cX7_bring 17 = .ok (.ifCond .ne 5, 3) := by decide +kernel
theorem dX7_bring_20 : decode cX7_bring 20 = .ok (.iconst (-1), 1) := by decide +kernel
theorem dX7_bring_21 : decode cX7_bring 21 = .ok (.ireturn, 1) := by decide +kernel
theorem dX7_bring_22 : decode cX7_bring 22 = .ok (.aload_n 0, 1) := by decide +kernel
theorem dX7_bring_23 : decode cX7_bring 23 = .ok (.iload_n 1, 1) := by decide +kernel
theorem dX7_bring_24 : decode cX7_bring 24 = .ok (.iconst 0, 1) := by decide +kernel
theorem dX7_bring_25 : decode cX7_bring 25 = .ok (.invokevirtual 65, 3) := by decide +kernel
theorem dX7_bring_28 : decode cX7_bring 28 = .ok (.iload_n 2, 1) := by decide +kernel
theorem dX7_bring_29 : decode cX7_bring 29 = .ok (.iadd, 1) := by decide +kernel
theorem dX7_bring_30 : decode cX7_bring 30 = .ok (.ldc 84, 2) := by decide +kernel
theorem dX7_bring_32 : decode cX7_bring 32 = .ok (.if_icmp .le 6, 3) := by decide +kernel
theorem dX7_bring_35 : decode cX7_bring 35 = .ok (.bipush (-3), 2) := by decide +kernel
theorem dX7_bring_37 : decode cX7_bring 37 = .ok (.ireturn, 1) := by decide +kernel
theorem dX7_bring_38 : decode cX7_bring 38 = .ok (.aload_n 0, 1) := by decide +kernel
theorem dX7_bring_39 : decode cX7_bring 39 = .ok (.invokevirtual 125, 3) := by decide +kernel
theorem dX7_bring_42 : decode cX7_bring 42 = .ok (.aload_n 0, 1) := by decide +kernel
theorem dX7_bring_43 : decode cX7_bring 43 = .ok (.iload_n 1, 1) := by decide +kernel
theorem dX7_bring_44 : decode cX7_bring 44 = .ok (.iconst 0, 1) := by decide +kernel
theorem dX7_bring_45 : decode cX7_bring 45 = .ok (.invokevirtual 65, 3) := by decide +kernel
theorem dX7_bring_48 : decode cX7_bring 48 = .ok (.iload_n 2, 1) := by decide +kernel
theorem dX7_bring_49 : decode cX7_bring 49 = .ok (.iadd, 1) := by decide +kernel
theorem dX7_bring_50 : decode cX7_bring 50 = .ok (.ifCond .ge 13, 3) := by decide +kernel
theorem dX7_bring_53 : decode cX7_bring 53 = .ok (.aload_n 0, 1) := by decide +kernel
theorem dX7_bring_54 : decode cX7_bring 54 = .ok (.iload_n 1, 1) := by decide +kernel
theorem dX7_bring_55 : decode cX7_bring 55 = .ok (.iconst 0, 1) := by decide +kernel
theorem dX7_bring_56 : decode cX7_bring 56 = .ok (.invokevirtual 65, 3) := by decide +kernel
theorem dX7_bring_59 : decode cX7_bring 59 = .ok (.ineg, 1) := by decide +kernel
theorem dX7_bring_60 : decode cX7_bring 60 = .ok (.goto 4, 3) := by decide +kernel
theorem dX7_bring_63 : decode cX7_bring 63 = .ok (.iload_n 2, 1) := by decide +kernel
theorem dX7_bring_64 : decode cX7_bring 64 = .ok (.istore_n 3, 1) := by decide +kernel
theorem dX7_bring_65 : decode cX7_bring 65 = .ok (.aload_n 0, 1) := by decide +kernel
theorem dX7_bring_66 : decode cX7_bring 66 = .ok (.iload_n 1, 1) := by decide +kernel
theorem dX7_bring_67 : decode cX7_bring 67 = .ok (.iconst 0, 1) := by decide +kernel
theorem dX7_bring_68 : decode cX7_bring 68 = .ok (.aload_n 0, 1) := by decide +kernel
theorem dX7_bring_69 : decode cX7_bring 69 = .ok (.iload_n 1, 1) := by decide +kernel
theorem dX7_bring_70 : decode cX7_bring 70 = .ok (.iconst 0, 1) := by decide +kernel
theorem dX7_bring_71 : decode cX7_bring 71 = .ok (.invokevirtual 65, 3) := by decide +kernel
theorem dX7_bring_74 : decode cX7_bring 74 = .ok (.iload_n 3, 1) := by decide +kernel
theorem dX7_bring_75 : decode cX7_bring 75 = .ok (.iadd, 1) := by decide +kernel
theorem dX7_bring_76 : decode cX7_bring 76 = .ok (.invokevirtual 54, 3) := by decide +kernel
theorem dX7_bring_79 : decode cX7_bring 79 = .ok (.aload_n 0, 1) := by decide +kernel
theorem dX7_bring_80 : decode cX7_bring 80 = .ok (.iload_n 1, 1) := by decide +kernel
theorem dX7_bring_81 : decode cX7_bring 81 = .ok (.bipush 6, 2) := by decide +kernel
theorem dX7_bring_83 : decode cX7_bring 83 = .ok (.aload_n 0, 1) := by decide +kernel
theorem dX7_bring_84 : decode cX7_bring 84 = .ok (.iload_n 1, 1) := by decide +kernel
theorem dX7_bring_85 : decode cX7_bring 85 = .ok (.bipush 6, 2) := by decide +kernel
theorem dX7_bring_87 : decode cX7_bring 87 = .ok (.invokevirtual 65, 3) := by decide +kernel
theorem dX7_bring_90 : decode cX7_bring 90 = .ok (.iload_n 3, 1) := by decide +kernel
theorem dX7_bring_91 : decode cX7_bring 91 = .ok (.iadd, 1) := by decide +kernel
theorem dX7_bring_92 : decode cX7_bring 92 = .ok (.invokevirtual 54, 3) := by decide +kernel
theorem dX7_bring_95 : decode cX7_bring 95 = .ok (.aload_n 0, 1) := by decide +kernel
theorem dX7_bring_96 : decode cX7_bring 96 = .ok (.iload_n 1, 1) := by decide +kernel
theorem dX7_bring_97 : decode cX7_bring 97 = .ok (.iconst 0, 1) := by decide +kernel
theorem dX7_bring_98 : decode cX7_bring 98 = .ok (.invokevirtual 65, 3) := by decide +kernel
theorem dX7_bring_101 : decode cX7_bring 101 = .ok (.ireturn, 1) := by decide +kernel
theorem dX7_undo_0 : decode cX7_undo 0 = .ok (.aload_n 0, 1) := by decide +kernel
theorem dX7_undo_1 : decode cX7_undo 1 = .ok (.getfield 58, 3) := by decide +kernel
theorem dX7_undo_4 : decode cX7_undo 4 = .ok (.ifCond .ne 6, 3) := by decide +kernel
theorem dX7_undo_7 : decode cX7_undo 7 = .ok (.bipush (-2), 2) := by decide +kernel
theorem dX7_undo_9 : decode cX7_undo 9 = .ok (.ireturn, 1) := by decide +kernel
theorem dX7_undo_10 : decode cX7_undo 10 = .ok (.aload_n 0, 1) := by decide +kernel
theorem dX7_undo_11 : decode cX7_undo 11 = .ok (.dup, 1) := by decide +kernel
theorem dX7_undo_12 : decode cX7_undo 12 = .ok (.getfield 58, 3) := by decide +kernel
theorem dX7_undo_15 : decode cX7_undo 15 = .ok (.iconst 1, 1) := by decide +kernel
theorem dX7_undo_16 : decode cX7_undo 16 = .ok (.isub, 1) := by decide +kernel
theorem dX7_undo_17 : decode cX7_undo 17 = .ok (.putfield 58, 3) := by decide +kernel
theorem dX7_undo_20 : decode cX7_undo 20 = .ok (.iconst 0, 1) := by decide +kernel
theorem dX7_undo_21 : decode cX7_undo 21 = .ok (.istore_n 1, 1) := by decide +kernel
theorem dX7_undo_22 : decode cX7_undo 22 = .ok (.iload_n 1, 1) := by decide +kernel
theorem dX7_undo_23 : decode cX7_undo 23 = .ok (.sipush 462, 3) := by decide +kernel
theorem dX7_undo_26 : decode cX7_undo 26 = .ok (.if_icmp .ge 30, 3) := by decide +kernel
theorem dX7_undo_29 : decode cX7_undo 29 = .ok (.aload_n 0, 1) := by decide +kernel
theorem dX7_undo_30 : decode cX7_undo 30 = .ok (.getfield 7, 3) := by decide +kernel
theorem dX7_undo_33 : decode cX7_undo 33 = .ok (.iload_n 1, 1) := by decide +kernel
theorem dX7_undo_34 : decode cX7_undo 34 = .ok (.aload_n 0, 1) := by decide +kernel
theorem dX7_undo_35 : decode cX7_undo 35 = .ok (.getfield 13, 3) := by decide +kernel
theorem dX7_undo_38 : decode cX7_undo 38 = .ok (.sipush 462, 3) := by decide +kernel
theorem dX7_undo_41 : decode cX7_undo 41 = .ok (.aload_n 0, 1) := by decide +kernel
theorem dX7_undo_42 : decode cX7_undo 42 = .ok (.getfield 58, 3) := by decide +kernel
theorem dX7_undo_45 : decode cX7_undo 45 = .ok (.imul, 1) := by decide +kernel
theorem dX7_undo_46 : decode cX7_undo 46 = .ok (.iload_n 1, 1) := by decide +kernel
theorem dX7_undo_47 : decode cX7_undo 47 = .ok (.iadd, 1) := by decide +kernel
theorem dX7_undo_48 : decode cX7_undo 48 = .ok (.iaload, 1) := by decide +kernel
theorem dX7_undo_49 : decode cX7_undo 49 = .ok (.iastore, 1) := by decide +kernel
theorem dX7_undo_50 : decode cX7_undo 50 = .ok (.iinc 1 1, 3) := by decide +kernel
theorem dX7_undo_53 : decode cX7_undo 53 = .ok (.goto (-31), 3) := by decide +kernel
theorem dX7_undo_56 : decode cX7_undo 56 = .ok (.aload_n 0, 1) := by decide +kernel
theorem dX7_undo_57 : decode cX7_undo 57 = .ok (.getfield 58, 3) := by decide +kernel
theorem dX7_undo_60 : decode cX7_undo 60 = .ok (.ireturn, 1) := by decide +kernel
set_option maxRecDepth 20000 in
theorem ggX7_write_X7_isIn : GoodIn wsX7_write wsX7_isIn := goodIn_r _ [6] (by decide +kernel) (by decide +kernel)
set_option maxRecDepth 20000 in
theorem gX7_write_X7_isIn : GoodIn wsX7_write (va_wsS RX7 61 yX7_isIn wsX7_isIn) := goodIn_app (goodIn_of _ (by decide +kernel)) ggX7_write_X7_isIn
theorem dX7_write_0 : decode cX7_write 0 = .ok (.iload_n 1, 1) := by decide +kernel
theorem dX7_write_1 : decode cX7_write 1 = .ok (.bipush 32, 2) := by decide +kernel
theorem dX7_write_3 : decode cX7_write 3 = .ok (.bipush 126, 2) := by decide +kernel
theorem dX7_write_5 : decode cX7_write 5 = .ok (.invokestatic 61, 3) := by decide +kernel
theorem dX7_write_8 : decode cX7_write 8 = .ok (.ifCond .ne 5, 3) := by decide +kernel
theorem dX7_write_11 : decode cX7_write 11 = .ok (.iconst (-1), 1) := by decide +kernel
theorem dX7_write_12 : decode cX7_write 12 = .ok (.ireturn, 1) := by decide +kernel
theorem dX7_write_13 : decode cX7_write 13 = .ok (.aload_n 0, 1) := by decide +kernel
theorem dX7_write_14 : decode cX7_write 14 = .ok (.getfield 181, 3) := by decide +kernel
theorem dX7_write_17 : decode cX7_write 17 = .ok (.bipush 60, 2) := by decide +kernel
theorem dX7_write_19 : decode cX7_write 19 = .ok (.if_icmp .ne 6, 3) := by decide +kernel
theorem dX7_write_22 : decode cX7_write 22 = .ok (.bipush (-3), 2) := by decide +kernel
theorem dX7_write_24 : decode cX7_write 24 = .ok (.ireturn, 1) := by decide +kernel
theorem dX7_write_25 : decode cX7_write 25 = .ok (.aload_n 0, 1) := by decide +kernel
theorem dX7_write_26 : decode cX7_write 26 = .ok (.getfield 19, 3) := by decide +kernel
theorem dX7_write_29 : decode cX7_write 29 = .ok (.aload_n 0, 1) := by decide +kernel
theorem dX7_write_30 : decode cX7_write 30 = .ok (.getfield 181, 3) := by decide +kernel
theorem dX7_write_33 : decode cX7_write 33 = .ok (.iload_n 1, 1) := by decide +kernel
theorem dX7_write_34 : decode cX7_write 34 = .ok (.iastore, 1) := by decide +kernel
theorem dX7_write_35 : decode cX7_write 35 = .ok (.aload_n 0, 1) := by decide +kernel
theorem dX7_write_36 : decode cX7_write 36 = .ok (.dup, 1) := by decide +kernel
theorem dX7_write_37 : decode cX7_write 37 = .ok (.getfield 181, 3) := by decide +kernel
theorem dX7_write_40 : decode cX7_write 40 = .ok (.iconst 1, 1) := by decide +kernel
theorem dX7_write_41 : decode cX7_write 41 = .ok (.iadd, 1) := by decide +kernel
theorem dX7_write_42 : decode cX7_write 42 = .ok (.putfield 181, 3) := by decide +kernel
theorem dX7_write_45 : decode cX7_write 45 = .ok (.aload_n 0, 1) := by decide +kernel
theorem dX7_write_46 : decode cX7_write 46 = .ok (.getfield 181, 3) := by decide +kernel
theorem dX7_write_49 : decode cX7_write 49 = .ok (.ireturn, 1) := by decide +kernel
theorem dX7_wipe_0 : decode cX7_wipe 0 = .ok (.aload_n 0, 1) := by decide +kernel
theorem dX7_wipe_1 : decode cX7_wipe 1 = .ok (.getfield 181, 3) := by decide +kernel
theorem dX7_wipe_4 : decode cX7_wipe 4 = .ok (.istore_n 1, 1) := by decide +kernel
theorem dX7_wipe_5 : decode cX7_wipe 5 = .ok (.aload_n 0, 1) := by decide +kernel
theorem dX7_wipe_6 : decode cX7_wipe 6 = .ok (.iconst 0, 1) := by decide +kernel
theorem dX7_wipe_7 : decode cX7_wipe 7 = .ok (.putfield 181, 3) := by decide +kernel
theorem dX7_wipe_10 : decode cX7_wipe 10 = .ok (.iload_n 1, 1) := by decide +kernel
theorem dX7_wipe_11 : decode cX7_wipe 11 = .ok (.ireturn, 1) := by decide +kernel
theorem dX7_fault_0 : decode cX7_fault 0 = .ok (.iload_n 1, 1) := by decide +kernel
theorem dX7_fault_1 : decode cX7_fault 1 = .ok (.ifCond .ne 10, 3) := by decide +kernel
theorem dX7_fault_4 : decode cX7_fault 4 = .ok (.aload_n 0, 1) := by decide +kernel
theorem dX7_fault_5 : decode cX7_fault 5 = .ok (.getfield 22, 3) := by decide +kernel
theorem dX7_fault_8 : decode cX7_fault 8 = .ok (.goto 16, 3) := by decide +kernel
theorem dX7_fault_11 : decode cX7_fault 11 = .ok (.iload_n 1, 1) := by decide +kernel
theorem dX7_fault_12 : decode cX7_fault 12 = .ok (.iconst 1, 1) := by decide +kernel
theorem dX7_fault_13 : decode cX7_fault 13 = .ok (.if_icmp .ne 10, 3) := by decide +kernel
theorem dX7_fault_16 : decode cX7_fault 16 = .ok (.aload_n 0, 1) := by decide +kernel
theorem dX7_fault_17 : decode cX7_fault 17 = .ok (.getfield 26, 3) := by decide +kernel
theorem dX7_fault_20 : decode cX7_fault 20 = .ok (.goto 4, 3) := by decide +kernel
theorem dX7_fault_23 : decode cX7_fault 23 = .ok (.iconst (-1), 1) := by decide +kernel
theorem dX7_fault_24 : decode cX7_fault 24 = .ok (.ireturn, 1) := by decide +kernel
set_option maxRecDepth 20000 in
theorem ggX7_recipes_X7_isMade : GoodIn wsX7_recipes wsX7_isMade := goodIn_r _ [5, 6, 7, 8, 4, 9, 10, 11, 12, 13, 14, 15, 16, 17, 18, 19, 20, 21, 22, 23, 24, 25, 26, 27, 28, 29, 30, 31, 32, 33, 34, 35, 36, 37, 38, 39] (by decide +kernel) (by decide +kernel)
set_option maxRecDepth 20000 in
theorem gX7_recipes_X7_isMade : GoodIn wsX7_recipes (wsV RX7 72 RX7 yX7_isMade wsX7_isMade) := goodIn_app (goodIn_of _ (by decide +kernel)) ggX7_recipes_X7_isMade
theorem dX7_recipes_0 : decode cX7_recipes 0 = .ok (.iconst 0, 1) := by decide +kernel
theorem dX7_recipes_1 : decode cX7_recipes 1 = .ok (.istore_n 1, 1) := by decide +kernel
theorem dX7_recipes_2 : decode cX7_recipes 2 = .ok (.iconst 0, 1) := by decide +kernel
theorem dX7_recipes_3 : decode cX7_recipes 3 = .ok (.istore_n 2, 1) := by decide +kernel
theorem dX7_recipes_4 : decode cX7_recipes 4 = .ok (.iload_n 2, 1) := by decide +kernel
theorem dX7_recipes_5 : decode cX7_recipes 5 = .ok (.bipush 20, 2) := by decide +kernel
theorem dX7_recipes_7 : decode cX7_recipes 7 = .ok (.if_icmp .ge 25, 3) := by decide +kernel
theorem dX7_recipes_10 : decode cX7_recipes 10 = .ok (.iload_n 1, 1) := by decide +kernel
theorem dX7_recipes_11 : decode cX7_recipes 11 = .ok (.aload_n 0, 1) := by decide +kernel
theorem dX7_recipes_12 : decode cX7_recipes 12 = .ok (.iload_n 2, 1) := by decide +kernel
theorem dX7_recipes_13 : decode cX7_recipes 13 = .ok (.invokevirtual 72, 3) := by decide +kernel
theorem dX7_recipes_16 : decode cX7_recipes 16 = .ok (.ifCond .eq 7, 3) := by decide +kernel
theorem dX7_recipes_19 : decode cX7_recipes 19 = .ok (.iconst 1, 1) := by decide +kernel
theorem dX7_recipes_20 : decode cX7_recipes 20 = .ok (.goto 4, 3) := by decide +kernel
theorem dX7_recipes_23 : decode cX7_recipes 23 = .ok (.iconst 0, 1) := by decide +kernel
theorem dX7_recipes_24 : decode cX7_recipes 24 = .ok (.iadd, 1) := by decide +kernel
theorem dX7_recipes_25 : decode cX7_recipes 25 = .ok (.istore_n 1, 1) := by decide +kernel
theorem dX7_recipes_26 : decode cX7_recipes 26 = .ok (.iinc 2 1, 3) := by decide +kernel
theorem dX7_recipes_29 : decode cX7_recipes 29 = .ok (.goto (-25), 3) := by decide +kernel
theorem dX7_recipes_32 : decode cX7_recipes 32 = .ok (.iload_n 1, 1) := by decide +kernel
theorem dX7_recipes_33 : decode cX7_recipes 33 = .ok (.ireturn, 1) := by decide +kernel
set_option maxRecDepth 20000 in
theorem ggX7_stored_X7_of : GoodIn wsX7_stored wsX7_of := goodIn_r _ [5, 6, 7, 8, 9, 10, 11, 12, 13, 14, 15, 16, 17, 18, 19, 20, 21, 22, 23, 24, 25, 26, 27, 28, 29, 30, 31, 32, 33, 34, 35] (by decide +kernel) (by decide +kernel)
set_option maxRecDepth 20000 in
theorem gX7_stored_X7_of : GoodIn wsX7_stored (wsV RX7 65 RX7 yX7_of wsX7_of) := goodIn_app (goodIn_of _ (by decide +kernel)) ggX7_stored_X7_of
theorem dX7_stored_0 : decode cX7_stored 0 = .ok (.iconst 0, 1) := by decide +kernel
theorem dX7_stored_1 : decode cX7_stored 1 = .ok (.istore_n 1, 1) := by decide +kernel
theorem dX7_stored_2 : decode cX7_stored 2 = .ok (.iconst 0, 1) := by decide +kernel
theorem dX7_stored_3 : decode cX7_stored 3 = .ok (.istore_n 2, 1) := by decide +kernel
theorem dX7_stored_4 : decode cX7_stored 4 = .ok (.iload_n 2, 1) := by decide +kernel
theorem dX7_stored_5 : decode cX7_stored 5 = .ok (.bipush 20, 2) := by decide +kernel
theorem dX7_stored_7 : decode cX7_stored 7 = .ok (.if_icmp .ge 18, 3) := by decide +kernel
theorem dX7_stored_10 : decode cX7_stored 10 = .ok (.iload_n 1, 1) := by decide +kernel
theorem dX7_stored_11 : decode cX7_stored 11 = .ok (.aload_n 0, 1) := by decide +kernel
theorem dX7_stored_12 : decode cX7_stored 12 = .ok (.iload_n 2, 1) := by decide +kernel
theorem dX7_stored_13 : decode cX7_stored 13 = .ok (.iconst 0, 1) := by decide +kernel
theorem dX7_stored_14 : decode cX7_stored 14 = .ok (.invokevirtual 65, 3) := by decide +kernel
theorem dX7_stored_17 : decode cX7_stored 17 = .ok (.iadd, 1) := by decide +kernel
theorem dX7_stored_18 : decode cX7_stored 18 = .ok (.istore_n 1, 1) := by decide +kernel
theorem dX7_stored_19 : decode cX7_stored 19 = .ok (.iinc 2 1, 3) := by decide +kernel
theorem dX7_stored_22 : decode cX7_stored 22 = .ok (.goto (-18), 3) := by decide +kernel
theorem dX7_stored_25 : decode cX7_stored 25 = .ok (.iload_n 1, 1) := by decide +kernel
theorem dX7_stored_26 : decode cX7_stored 26 = .ok (.ireturn, 1) := by decide +kernel
set_option maxRecDepth 20000 in
theorem ggX7_greatestRank_X7_areRanks : GoodIn wsX7_greatestRank wsX7_areRanks := goodIn_r _ [6, 1, 7, 8, 9, 5, 10, 11, 12, 13, 14, 15, 16, 17, 18, 19, 20, 21, 22, 23, 24, 25, 26, 27, 28, 29, 30, 31, 32, 33, 34, 35, 36, 37, 38, 39, 40, 41, 42, 43, 44, 45, 46, 47, 48, 49, 50, 51, 52] (by decide +kernel) (by decide +kernel)
set_option maxRecDepth 20000 in
theorem gX7_greatestRank_X7_areRanks : GoodIn wsX7_greatestRank (wsV RX7 194 RX7 yX7_areRanks wsX7_areRanks) := goodIn_app (goodIn_of _ (by decide +kernel)) ggX7_greatestRank_X7_areRanks
theorem dX7_greatestRank_0 : decode cX7_greatestRank 0 = .ok (.aload_n 0, 1) := by decide +kernel
theorem dX7_greatestRank_1 : decode cX7_greatestRank 1 = .ok (.invokevirtual 194, 3) := by decide +kernel
theorem dX7_greatestRank_4 : decode cX7_greatestRank 4 = .ok (.istore_n 1, 1) := by decide +kernel
theorem dX7_greatestRank_5 : decode cX7_greatestRank 5 = .ok (.iconst 0, 1) := by decide +kernel
theorem dX7_greatestRank_6 : decode cX7_greatestRank 6 = .ok (.istore_n 2, 1) := by decide +kernel
theorem dX7_greatestRank_7 : decode cX7_greatestRank 7 = .ok (.iconst 0, 1) := by decide +kernel
theorem dX7_greatestRank_8 : decode cX7_greatestRank 8 = .ok (.istore_n 3, 1) := by decide +kernel
theorem dX7_greatestRank_9 : decode cX7_greatestRank 9 = .ok (.iload_n 3, 1) := by decide +kernel
theorem dX7_greatestRank_10 : decode cX7_greatestRank 10 = .ok (.bipush 20, 2) := by decide +kernel
theorem dX7_greatestRank_12 : decode cX7_greatestRank 12 = .ok (.if_icmp .ge 30, 3) := by decide +kernel
theorem dX7_greatestRank_15 : decode cX7_greatestRank 15 = .ok (.aload_n 0, 1) := by decide +kernel
theorem dX7_greatestRank_16 : decode cX7_greatestRank 16 = .ok (.getfield 29, 3) := by decide +kernel
theorem dX7_greatestRank_19 : decode cX7_greatestRank 19 = .ok (.iload_n 3, 1) := by decide +kernel
theorem dX7_greatestRank_20 : decode cX7_greatestRank 20 = .ok (.iaload, 1) := by decide +kernel
theorem dX7_greatestRank_21 : decode cX7_greatestRank 21 = .ok (.iload_n 2, 1) := by decide +kernel
theorem dX7_greatestRank_22 : decode cX7_greatestRank 22 = .ok (.if_icmp .le 12, 3) := by decide +kernel
theorem dX7_greatestRank_25 : decode cX7_greatestRank 25 = .ok (.aload_n 0, 1) := by decide +kernel
theorem dX7_greatestRank_26 : decode cX7_greatestRank 26 = .ok (.getfield 29, 3) := by decide +kernel
theorem dX7_greatestRank_29 : decode cX7_greatestRank 29 = .ok (.iload_n 3, 1) := by decide +kernel
theorem dX7_greatestRank_30 : decode cX7_greatestRank 30 = .ok (.iaload, 1) := by decide +kernel
theorem dX7_greatestRank_31 : decode cX7_greatestRank 31 = .ok (.goto 4, 3) := by decide +kernel
theorem dX7_greatestRank_34 : decode cX7_greatestRank 34 = .ok (.iload_n 2, 1) := by decide +kernel
theorem dX7_greatestRank_35 : decode cX7_greatestRank 35 = .ok (.istore_n 2, 1) := by decide +kernel
theorem dX7_greatestRank_36 : decode cX7_greatestRank 36 = .ok (.iinc 3 1, 3) := by decide +kernel
theorem dX7_greatestRank_39 : decode cX7_greatestRank 39 = .ok (.goto (-30), 3) := by decide +kernel
theorem dX7_greatestRank_42 : decode cX7_greatestRank 42 = .ok (.iload_n 2, 1) := by decide +kernel
theorem dX7_greatestRank_43 : decode cX7_greatestRank 43 = .ok (.ireturn, 1) := by decide +kernel
set_option maxRecDepth 20000 in
theorem ggX7_madeThings_X7_isMade : GoodIn wsX7_madeThings wsX7_isMade := goodIn_r _ [5, 6, 7, 8, 4, 9, 10, 11, 12, 13, 14, 15, 16, 17, 18, 19, 20, 21, 22, 23, 24, 25, 26, 27, 28, 29, 30, 31, 32, 33, 34, 35, 36, 37, 38, 39] (by decide +kernel) (by decide +kernel)
set_option maxRecDepth 20000 in
theorem gX7_madeThings_X7_isMade : GoodIn wsX7_madeThings (wsV RX7 72 RX7 yX7_isMade wsX7_isMade) := goodIn_app (goodIn_of _ (by decide +kernel)) ggX7_madeThings_X7_isMade
theorem dX7_madeThings_0 : decode cX7_madeThings 0 = .ok (.iconst 0, 1) := by decide +kernel
theorem dX7_madeThings_1 : decode cX7_madeThings 1 = .ok (.istore_n 1, 1) := by decide +kernel
theorem dX7_madeThings_2 : decode cX7_madeThings 2 = .ok (.iconst 0, 1) := by decide +kernel
theorem dX7_madeThings_3 : decode cX7_madeThings 3 = .ok (.istore_n 2, 1) := by decide +kernel
theorem dX7_madeThings_4 : decode cX7_madeThings 4 = .ok (.iload_n 2, 1) := by decide +kernel
theorem dX7_madeThings_5 : decode cX7_madeThings 5 = .ok (.bipush 20, 2) := by decide +kernel
theorem dX7_madeThings_7 : decode cX7_madeThings 7 = .ok (.if_icmp .ge 27, 3) := by decide +kernel
theorem dX7_madeThings_10 : decode cX7_madeThings 10 = .ok (.iload_n 1, 1) := by decide +kernel
theorem dX7_madeThings_11 : decode cX7_madeThings 11 = .ok (.aload_n 0, 1) := by decide +kernel
theorem dX7_madeThings_12 : decode cX7_madeThings 12 = .ok (.iload_n 2, 1) := by decide +kernel
theorem dX7_madeThings_13 : decode cX7_madeThings 13 = .ok (.invokevirtual 72, 3) := by decide +kernel
theorem dX7_madeThings_16 : decode cX7_madeThings 16 = .ok (.ifCond .eq 9, 3) := by decide +kernel
theorem dX7_madeThings_19 : decode cX7_madeThings 19 = .ok (.iconst 1, 1) := by decide +kernel
theorem dX7_madeThings_20 : decode cX7_madeThings 20 = .ok (.iload_n 2, 1) := by decide +kernel
theorem dX7_madeThings_21 : decode cX7_madeThings 21 = .ok (.ishl, 1) := by decide +kernel
theorem dX7_madeThings_22 : decode cX7_madeThings 22 = .ok (.goto 4, 3) := by decide +kernel
theorem dX7_madeThings_25 : decode cX7_madeThings 25 = .ok (.iconst 0, 1) := by decide +kernel
theorem dX7_madeThings_26 : decode cX7_madeThings 26 = .ok (.ior, 1) := by decide +kernel
theorem dX7_madeThings_27 : decode cX7_madeThings 27 = .ok (.istore_n 1, 1) := by decide +kernel
theorem dX7_madeThings_28 : decode cX7_madeThings 28 = .ok (.iinc 2 1, 3) := by decide +kernel
theorem dX7_madeThings_31 : decode cX7_madeThings 31 = .ok (.goto (-27), 3) := by decide +kernel
theorem dX7_madeThings_34 : decode cX7_madeThings 34 = .ok (.iload_n 1, 1) := by decide +kernel
theorem dX7_madeThings_35 : decode cX7_madeThings 35 = .ok (.ireturn, 1) := by decide +kernel
set_option maxRecDepth 20000 in
theorem ggX7_told_X7_recipes : GoodIn wsX7_told wsX7_recipes := goodIn_r _ [8, 9, 10, 11, 7, 12, 13, 14, 15, 16, 1, 42, 43, 44, 45, 46, 47, 48, 49, 50, 51, 52, 53, 54, 55, 56, 57, 58, 59, 60, 61, 62, 63, 64, 65, 66, 67, 68, 69, 70] (by decide +kernel) (by decide +kernel)
set_option maxRecDepth 20000 in
theorem gX7_told_X7_recipes : GoodIn wsX7_told (wsV RX7 200 RX7 yX7_recipes wsX7_recipes) := goodIn_app (goodIn_of _ (by decide +kernel)) ggX7_told_X7_recipes
set_option maxRecDepth 20000 in
theorem ggX7_told_X7_stored : GoodIn wsX7_told wsX7_stored := goodIn_r _ [20, 13, 14, 15, 7, 16, 1, 42, 43, 44, 45, 46, 47, 48, 49, 50, 51, 52, 53, 54, 55, 56, 57, 58, 59, 60, 61, 62, 63, 64, 65, 66, 67, 68, 69, 70] (by decide +kernel) (by decide +kernel)
set_option maxRecDepth 20000 in
theorem gX7_told_X7_stored : GoodIn wsX7_told (wsV RX7 203 RX7 yX7_stored wsX7_stored) := goodIn_app (goodIn_of _ (by decide +kernel)) ggX7_told_X7_stored
set_option maxRecDepth 20000 in
theorem ggX7_told_X7_greatestRank : GoodIn wsX7_told wsX7_greatestRank := goodIn_r _ [24, 25, 26, 27, 28, 7, 29, 30, 31, 32, 33, 13, 14, 15, 16, 1, 34, 35, 36, 37, 9, 10, 11, 12, 42, 43, 44, 45, 46, 47, 48, 49, 50, 51, 52, 53, 54, 55, 56, 57, 58, 59, 60, 61, 62, 63, 64, 65, 66, 67, 68, 69, 70] (by decide +kernel) (by decide +kernel)
set_option maxRecDepth 20000 in
theorem gX7_told_X7_greatestRank : GoodIn wsX7_told (wsV RX7 206 RX7 yX7_greatestRank wsX7_greatestRank) := goodIn_app (goodIn_of _ (by decide +kernel)) ggX7_told_X7_greatestRank
set_option maxRecDepth 20000 in
theorem ggX7_told_X7_madeThings : GoodIn wsX7_told wsX7_madeThings := goodIn_r _ [41, 9, 10, 11, 7, 12, 13, 14, 15, 16, 1, 42, 43, 44, 45, 46, 47, 48, 49, 50, 51, 52, 53, 54, 55, 56, 57, 58, 59, 60, 61, 62, 63, 64, 65, 66, 67, 68, 69, 70] (by decide +kernel) (by decide +kernel)
set_option maxRecDepth 20000 in
theorem gX7_told_X7_madeThings : GoodIn wsX7_told (wsV RX7 209 RX7 yX7_madeThings wsX7_madeThings) := goodIn_app (goodIn_of _ (by decide +kernel)) ggX7_told_X7_madeThings
theorem dX7_told_0 : decode cX7_told 0 = .ok (.iload_n 1, 1) := by decide +kernel
theorem dX7_told_1 : decode cX7_told 1 = .ok (.tableswitch 95 0 7 #[47, 52, 57, 66, 75, 80, 85, 90], 47) := by decide +kernel
theorem dX7_told_48 : decode cX7_told 48 = .ok (.aload_n 0, 1) := by decide +kernel
theorem dX7_told_49 : decode cX7_told 49 = .ok (.invokevirtual 200, 3) := by decide +kernel
theorem dX7_told_52 : decode cX7_told 52 = .ok (.ireturn, 1) := by decide +kernel
theorem dX7_told_53 : decode cX7_told 53 = .ok (.aload_n 0, 1) := by decide +kernel
theorem dX7_told_54 : decode cX7_told 54 = .ok (.invokevirtual 203, 3) := by decide +kernel
theorem dX7_told_57 : decode cX7_told 57 = .ok (.ireturn, 1) := by decide +kernel
theorem dX7_told_58 : decode cX7_told 58 = .ok (.aload_n 0, 1) := by decide +kernel
theorem dX7_told_59 : decode cX7_told 59 = .ok (.getfield 7, 3) := by decide +kernel
theorem dX7_told_62 : decode cX7_told 62 = .ok (.sipush 460, 3) := by decide +kernel
theorem dX7_told_65 : decode cX7_told 65 = .ok (.iaload, 1) := by decide +kernel
theorem dX7_told_66 : decode cX7_told 66 = .ok (.ireturn, 1) := by decide +kernel
theorem dX7_told_67 : decode cX7_told 67 = .ok (.aload_n 0, 1) := by decide +kernel
theorem dX7_told_68 : decode cX7_told 68 = .ok (.getfield 7, 3) := by decide +kernel
theorem dX7_told_71 : decode cX7_told 71 = .ok (.sipush 461, 3) := by decide +kernel
theorem dX7_told_74 : decode cX7_told 74 = .ok (.iaload, 1) := by decide +kernel
theorem dX7_told_75 : decode cX7_told 75 = .ok (.ireturn, 1) := by decide +kernel
theorem dX7_told_76 : decode cX7_told 76 = .ok (.aload_n 0, 1) := by decide +kernel
theorem dX7_told_77 : decode cX7_told 77 = .ok (.invokevirtual 206, 3) := by decide +kernel
theorem dX7_told_80 : decode cX7_told 80 = .ok (.ireturn, 1) := by decide +kernel
theorem dX7_told_81 : decode cX7_told 81 = .ok (.aload_n 0, 1) := by decide +kernel
theorem dX7_told_82 : decode cX7_told 82 = .ok (.invokevirtual 209, 3) := by decide +kernel
theorem dX7_told_85 : decode cX7_told 85 = .ok (.ireturn, 1) := by decide +kernel
theorem dX7_told_86 : decode cX7_told 86 = .ok (.aload_n 0, 1) := by decide +kernel
theorem dX7_told_87 : decode cX7_told 87 = .ok (.getfield 181, 3) := by decide +kernel
theorem dX7_told_90 : decode cX7_told 90 = .ok (.ireturn, 1) := by decide +kernel
theorem dX7_told_91 : decode cX7_told 91 = .ok (.aload_n 0, 1) := by decide +kernel
theorem dX7_told_92 : decode cX7_told 92 = .ok (.getfield 58, 3) := by decide +kernel
theorem dX7_told_95 : decode cX7_told 95 = .ok (.ireturn, 1) := by decide +kernel
theorem dX7_told_96 : decode cX7_told 96 = .ok (.iconst (-1), 1) := by decide +kernel
theorem dX7_told_97 : decode cX7_told 97 = .ok (.ireturn, 1) := by decide +kernel
set_option maxRecDepth 20000 in
theorem ggX7_thing_X7_isThing : GoodIn wsX7_thing wsX7_isThing := goodIn_r _ [5, 6, 7, 4, 8] (by decide +kernel) (by decide +kernel)
set_option maxRecDepth 20000 in
theorem gX7_thing_X7_isThing : GoodIn wsX7_thing (va_wsS RX7 128 yX7_isThing wsX7_isThing) := goodIn_app (goodIn_of _ (by decide +kernel)) ggX7_thing_X7_isThing
set_option maxRecDepth 20000 in
theorem ggX7_thing_X7_isIn : GoodIn wsX7_thing wsX7_isIn := goodIn_r _ [8] (by decide +kernel) (by decide +kernel)
set_option maxRecDepth 20000 in
theorem gX7_thing_X7_isIn : GoodIn wsX7_thing (va_wsS RX7 61 yX7_isIn wsX7_isIn) := goodIn_app (goodIn_of _ (by decide +kernel)) ggX7_thing_X7_isIn
set_option maxRecDepth 20000 in
theorem ggX7_thing_X7_of : GoodIn wsX7_thing wsX7_of := goodIn_r _ [12, 13, 30, 31, 32, 33, 34, 35, 36, 37, 38, 39, 40, 41, 42, 43, 44, 45, 46, 47, 48, 49, 50, 51, 52, 53, 54, 55, 56, 57, 58] (by decide +kernel) (by decide +kernel)
set_option maxRecDepth 20000 in
theorem gX7_thing_X7_of : GoodIn wsX7_thing (wsV RX7 65 RX7 yX7_of wsX7_of) := goodIn_app (goodIn_of _ (by decide +kernel)) ggX7_thing_X7_of
set_option maxRecDepth 20000 in
theorem ggX7_thing_X7_areRanks : GoodIn wsX7_thing wsX7_areRanks := goodIn_r _ [17, 1, 18, 19, 20, 4, 21, 9, 10, 11, 12, 13, 22, 23, 24, 25, 26, 27, 28, 29, 30, 31, 32, 33, 34, 35, 36, 37, 38, 39, 40, 41, 42, 43, 44, 45, 46, 47, 48, 49, 50, 51, 52, 53, 54, 55, 56, 57, 58] (by decide +kernel) (by decide +kernel)
set_option maxRecDepth 20000 in
theorem gX7_thing_X7_areRanks : GoodIn wsX7_thing (wsV RX7 194 RX7 yX7_areRanks wsX7_areRanks) := goodIn_app (goodIn_of _ (by decide +kernel)) ggX7_thing_X7_areRanks
set_option maxRecDepth 20000 in
theorem ggX7_thing_X7_isMade : GoodIn wsX7_thing wsX7_isMade := goodIn_r _ [29, 9, 10, 11, 4, 12, 13, 30, 31, 32, 33, 34, 35, 36, 37, 38, 39, 40, 41, 42, 43, 44, 45, 46, 47, 48, 49, 50, 51, 52, 53, 54, 55, 56, 57, 58] (by decide +kernel) (by decide +kernel)
set_option maxRecDepth 20000 in
theorem gX7_thing_X7_isMade : GoodIn wsX7_thing (wsV RX7 72 RX7 yX7_isMade wsX7_isMade) := goodIn_app (goodIn_of _ (by decide +kernel)) ggX7_thing_X7_isMade
theorem dX7_thing_0 : decode cX7_thing 0 = .ok (.iload_n 1, 1) := by decide +kernel
theorem dX7_thing_1 : decode cX7_thing 1 = .ok (.invokestatic 128, 3) := by decide +kernel
theorem dX7_thing_4 : decode cX7_thing 4 = .ok (.ifCond .eq 13, 3) := by decide +kernel
theorem dX7_thing_7 : decode cX7_thing 7 = .ok (.iload_n 2, 1) := by decide +kernel
theorem dX7_thing_8 : decode cX7_thing 8 = .ok (.iconst 0, 1) := by decide +kernel
theorem dX7_thing_9 : decode cX7_thing 9 = .ok (.bipush 10, 2) := by decide +kernel
theorem dX7_thing_11 : decode cX7_thing 11 = .ok (.invokestatic 61, 3) := by decide +kernel
theorem dX7_thing_14 : decode cX7_thing 14 = .ok (.ifCond .ne 5, 3) := by decide +kernel
theorem dX7_thing_17 : decode cX7_thing 17 = .ok (.iconst (-1), 1) := by decide +kernel
theorem dX7_thing_18 : decode cX7_thing 18 = .ok (.ireturn, 1) := by decide +kernel
theorem dX7_thing_19 : decode cX7_thing 19 = .ok (.iload_n 2, 1) := by decide +kernel
theorem dX7_thing_20 : decode cX7_thing 20 = .ok (.tableswitch 116 0 5 #[40, 47, 59, 80, 101, 108], 40) := by decide +kernel
theorem dX7_thing_60 : decode cX7_thing 60 = .ok (.aload_n 0, 1) := by decide +kernel
theorem dX7_thing_61 : decode cX7_thing 61 = .ok (.iload_n 1, 1) := by decide +kernel
theorem dX7_thing_62 : decode cX7_thing 62 = .ok (.iconst 0, 1) := by decide +kernel
theorem dX7_thing_63 : decode cX7_thing 63 = .ok (.invokevirtual 65, 3) := by decide +kernel
theorem dX7_thing_66 : decode cX7_thing 66 = .ok (.ireturn, 1) := by decide +kernel
theorem dX7_thing_67 : decode cX7_thing 67 = .ok (.aload_n 0, 1) := by decide +kernel
theorem dX7_thing_68 : decode cX7_thing 68 = .ok (.invokevirtual 194, 3) := by decide +kernel
theorem dX7_thing_71 : decode cX7_thing 71 = .ok (.istore_n 3, 1) := by decide +kernel
theorem dX7_thing_72 : decode cX7_thing 72 = .ok (.aload_n 0, 1) := by decide +kernel
theorem dX7_thing_73 : decode cX7_thing 73 = .ok (.getfield 29, 3) := by decide +kernel
theorem dX7_thing_76 : decode cX7_thing 76 = .ok (.iload_n 1, 1) := by decide +kernel
theorem dX7_thing_77 : decode cX7_thing 77 = .ok (.iaload, 1) := by decide +kernel
theorem dX7_thing_78 : decode cX7_thing 78 = .ok (.ireturn, 1) := by decide +kernel
theorem dX7_thing_79 : decode cX7_thing 79 = .ok (.aload_n 0, 1) := by decide +kernel
theorem dX7_thing_80 : decode cX7_thing 80 = .ok (.iload_n 1, 1) := by decide +kernel
theorem dX7_thing_81 : decode cX7_thing 81 = .ok (.invokevirtual 72, 3) := by decide +kernel
theorem dX7_thing_84 : decode cX7_thing 84 = .ok (.ifCond .eq 13, 3) := by decide +kernel
theorem dX7_thing_87 : decode cX7_thing 87 = .ok (.aload_n 0, 1) := by decide +kernel
theorem dX7_thing_88 : decode cX7_thing 88 = .ok (.iload_n 1, 1) := by decide +kernel
theorem dX7_thing_89 : decode cX7_thing 89 = .ok (.bipush 7, 2) := by decide +kernel
theorem dX7_thing_91 : decode cX7_thing 91 = .ok (.invokevirtual 65, 3) := by decide +kernel
theorem dX7_thing_94 : decode cX7_thing 94 = .ok (.goto 5, 3) := by decide +kernel
theorem dX7_thing_97 : decode cX7_thing 97 = .ok (.bipush (-9), 2) := by decide +kernel
theorem dX7_thing_99 : decode cX7_thing 99 = .ok (.ireturn, 1) := by decide +kernel
theorem dX7_thing_100 : decode cX7_thing 100 = .ok (.aload_n 0, 1) := by decide +kernel
theorem dX7_thing_101 : decode cX7_thing 101 = .ok (.iload_n 1, 1) := by decide +kernel
theorem dX7_thing_102 : decode cX7_thing 102 = .ok (.invokevirtual 72, 3) := by decide +kernel
theorem dX7_thing_105 : decode cX7_thing 105 = .ok (.ifCond .eq 13, 3) := by decide +kernel
theorem dX7_thing_108 : decode cX7_thing 108 = .ok (.aload_n 0, 1) := by decide +kernel
theorem dX7_thing_109 : decode cX7_thing 109 = .ok (.iload_n 1, 1) := by decide +kernel
theorem dX7_thing_110 : decode cX7_thing 110 = .ok (.bipush 8, 2) := by decide +kernel
theorem dX7_thing_112 : decode cX7_thing 112 = .ok (.invokevirtual 65, 3) := by decide +kernel
theorem dX7_thing_115 : decode cX7_thing 115 = .ok (.goto 5, 3) := by decide +kernel
theorem dX7_thing_118 : decode cX7_thing 118 = .ok (.bipush (-9), 2) := by decide +kernel
theorem dX7_thing_120 : decode cX7_thing 120 = .ok (.ireturn, 1) := by decide +kernel
theorem dX7_thing_121 : decode cX7_thing 121 = .ok (.aload_n 0, 1) := by decide +kernel
theorem dX7_thing_122 : decode cX7_thing 122 = .ok (.iload_n 1, 1) := by decide +kernel
theorem dX7_thing_123 : decode cX7_thing 123 = .ok (.iconst 1, 1) := by decide +kernel
theorem dX7_thing_124 : decode cX7_thing 124 = .ok (.invokevirtual 65, 3) := by decide +kernel
theorem dX7_thing_127 : decode cX7_thing 127 = .ok (.ireturn, 1) := by decide +kernel
theorem dX7_thing_128 : decode cX7_thing 128 = .ok (.aload_n 0, 1) := by decide +kernel
theorem dX7_thing_129 : decode cX7_thing 129 = .ok (.iload_n 1, 1) := by decide +kernel
theorem dX7_thing_130 : decode cX7_thing 130 = .ok (.bipush 19, 2) := by decide +kernel
theorem dX7_thing_132 : decode cX7_thing 132 = .ok (.invokevirtual 65, 3) := by decide +kernel
theorem dX7_thing_135 : decode cX7_thing 135 = .ok (.ireturn, 1) := by decide +kernel
theorem dX7_thing_136 : decode cX7_thing 136 = .ok (.aload_n 0, 1) := by decide +kernel
theorem dX7_thing_137 : decode cX7_thing 137 = .ok (.iload_n 1, 1) := by decide +kernel
theorem dX7_thing_138 : decode cX7_thing 138 = .ok (.iconst 2, 1) := by decide +kernel
theorem dX7_thing_139 : decode cX7_thing 139 = .ok (.iload_n 2, 1) := by decide +kernel
theorem dX7_thing_140 : decode cX7_thing 140 = .ok (.iadd, 1) := by decide +kernel
theorem dX7_thing_141 : decode cX7_thing 141 = .ok (.bipush 6, 2) := by decide +kernel
theorem dX7_thing_143 : decode cX7_thing 143 = .ok (.isub, 1) := by decide +kernel
theorem dX7_thing_144 : decode cX7_thing 144 = .ok (.invokevirtual 65, 3) := by decide +kernel
theorem dX7_thing_147 : decode cX7_thing 147 = .ok (.ireturn, 1) := by decide +kernel
set_option maxRecDepth 20000 in
theorem ggX7_ingredient_X7_isThing : GoodIn wsX7_ingredient wsX7_isThing := goodIn_r _ [4, 5, 6, 3, 7] (by decide +kernel) (by decide +kernel)
set_option maxRecDepth 20000 in
theorem gX7_ingredient_X7_isThing : GoodIn wsX7_ingredient (va_wsS RX7 128 yX7_isThing wsX7_isThing) := goodIn_app (goodIn_of _ (by decide +kernel)) ggX7_ingredient_X7_isThing
set_option maxRecDepth 20000 in
theorem ggX7_ingredient_X7_isIn : GoodIn wsX7_ingredient wsX7_isIn := goodIn_r _ [7] (by decide +kernel) (by decide +kernel)
set_option maxRecDepth 20000 in
theorem gX7_ingredient_X7_isIn : GoodIn wsX7_ingredient (va_wsS RX7 61 yX7_isIn wsX7_isIn) := goodIn_app (goodIn_of _ (by decide +kernel)) ggX7_ingredient_X7_isIn
set_option maxRecDepth 20000 in
theorem ggX7_ingredient_X7_of : GoodIn wsX7_ingredient wsX7_of := goodIn_r _ [11, 12, 13, 14, 15, 16, 17, 18, 19, 20, 21, 22, 23, 24, 25, 26, 27, 28, 29, 30, 31, 32, 33, 34, 35, 36, 37, 38, 39, 40, 41] (by decide +kernel) (by decide +kernel)
set_option maxRecDepth 20000 in
theorem gX7_ingredient_X7_of : GoodIn wsX7_ingredient (wsV RX7 65 RX7 yX7_of wsX7_of) := goodIn_app (goodIn_of _ (by decide +kernel)) ggX7_ingredient_X7_of
theorem dX7_ingredient_0 : decode cX7_ingredient 0 = .ok (.iload_n 1, 1) := by decide +kernel
theorem dX7_ingredient_1 : decode cX7_ingredient 1 = .ok (.invokestatic 128, 3) := by decide +kernel
theorem dX7_ingredient_4 : decode cX7_ingredient 4 = .ok (.ifCond .eq 16, 3) := by decide +kernel
theorem dX7_ingredient_7 : decode cX7_ingredient 7 = .ok (.iload_n 2, 1) := by decide +kernel
theorem dX7_ingredient_8 : decode cX7_ingredient 8 = .ok (.ifCond .lt 12, 3) := by decide +kernel
theorem dX7_ingredient_11 : decode cX7_ingredient 11 = .ok (.iload_n 3, 1) := by decide +kernel
theorem dX7_ingredient_12 : decode cX7_ingredient 12 = .ok (.iconst 0, 1) := by decide +kernel
theorem dX7_ingredient_13 : decode cX7_ingredient 13 = .ok (.iconst 1, 1) := by decide +kernel
theorem dX7_ingredient_14 : decode cX7_ingredient 14 = .ok (.invokestatic 61, 3) := by decide +kernel
theorem dX7_ingredient_17 : decode cX7_ingredient 17 = .ok (.ifCond .ne 5, 3) := by decide +kernel
theorem dX7_ingredient_20 : decode cX7_ingredient 20 = .ok (.iconst (-1), 1) := by decide +kernel
theorem dX7_ingredient_21 : decode cX7_ingredient 21 = .ok (.ireturn, 1) := by decide +kernel
theorem dX7_ingredient_22 : decode cX7_ingredient 22 = .ok (.iload_n 2, 1) := by decide +kernel
theorem dX7_ingredient_23 : decode cX7_ingredient 23 = .ok (.aload_n 0, 1) := by decide +kernel
theorem dX7_ingredient_24 : decode cX7_ingredient 24 = .ok (.iload_n 1, 1) := by decide +kernel
theorem dX7_ingredient_25 : decode cX7_ingredient 25 = .ok (.bipush 8, 2) := by decide +kernel
theorem dX7_ingredient_27 : decode cX7_ingredient 27 = .ok (.invokevirtual 65, 3) := by decide +kernel
theorem dX7_ingredient_30 : decode cX7_ingredient 30 = .ok (.if_icmp .ge 19, 3) := by decide +kernel
theorem dX7_ingredient_33 : decode cX7_ingredient 33 = .ok (.aload_n 0, 1) := by decide +kernel
theorem dX7_ingredient_34 : decode cX7_ingredient 34 = .ok (.iload_n 1, 1) := by decide +kernel
theorem dX7_ingredient_35 : decode cX7_ingredient 35 = .ok (.bipush 9, 2) := by decide +kernel
theorem dX7_ingredient_37 : decode cX7_ingredient 37 = .ok (.iconst 2, 1) := by decide +kernel
theorem dX7_ingredient_38 : decode cX7_ingredient 38 = .ok (.iload_n 2, 1) := by decide +kernel
theorem dX7_ingredient_39 : decode cX7_ingredient 39 = .ok (.imul, 1) := by decide +kernel
theorem dX7_ingredient_40 : decode cX7_ingredient 40 = .ok (.iadd, 1) := by decide +kernel
theorem dX7_ingredient_41 : decode cX7_ingredient 41 = .ok (.iload_n 3, 1) := by decide +kernel
theorem dX7_ingredient_42 : decode cX7_ingredient 42 = .ok (.iadd, 1) := by decide +kernel
theorem dX7_ingredient_43 : decode cX7_ingredient 43 = .ok (.invokevirtual 65, 3) := by decide +kernel
theorem dX7_ingredient_46 : decode cX7_ingredient 46 = .ok (.goto 5, 3) := by decide +kernel
theorem dX7_ingredient_49 : decode cX7_ingredient 49 = .ok (.bipush (-9), 2) := by decide +kernel
theorem dX7_ingredient_51 : decode cX7_ingredient 51 = .ok (.ireturn, 1) := by decide +kernel
set_option maxRecDepth 20000 in
theorem ggX7_substitute_X7_isThing : GoodIn wsX7_substitute wsX7_isThing := goodIn_r _ [4, 5, 6, 3, 7] (by decide +kernel) (by decide +kernel)
set_option maxRecDepth 20000 in
theorem gX7_substitute_X7_isThing : GoodIn wsX7_substitute (va_wsS RX7 128 yX7_isThing wsX7_isThing) := goodIn_app (goodIn_of _ (by decide +kernel)) ggX7_substitute_X7_isThing
set_option maxRecDepth 20000 in
theorem ggX7_substitute_X7_of : GoodIn wsX7_substitute wsX7_of := goodIn_r _ [11, 12, 13, 14, 15, 16, 17, 18, 19, 20, 21, 22, 23, 24, 25, 26, 27, 28, 29, 30, 31, 32, 33, 34, 35, 36, 37, 38, 39, 40, 41] (by decide +kernel) (by decide +kernel)
set_option maxRecDepth 20000 in
theorem gX7_substitute_X7_of : GoodIn wsX7_substitute (wsV RX7 65 RX7 yX7_of wsX7_of) := goodIn_app (goodIn_of _ (by decide +kernel)) ggX7_substitute_X7_of
theorem dX7_substitute_0 : decode cX7_substitute 0 = .ok (.iload_n 1, 1) := by decide +kernel
theorem dX7_substitute_1 : decode cX7_substitute 1 = .ok (.invokestatic 128, 3) := by decide +kernel
theorem dX7_substitute_4 : decode cX7_substitute 4 = .ok (.ifCond .eq 7, 3) := by decide +kernel
theorem dX7_substitute_7 : decode cX7_substitute 7 = .ok (.iload_n 2, 1) := by decide +kernel
theorem dX7_substitute_8 : decode cX7_substitute 8 = .ok (.ifCond .ge 5, 3) := by decide +kernel
theorem dX7_substitute_11 : decode cX7_substitute 11 = .ok (.iconst (-1), 1) := by decide +kernel
theorem dX7_substitute_12 : decode cX7_substitute 12 = .ok (.ireturn, 1) := by decide +kernel
theorem dX7_substitute_13 : decode cX7_substitute 13 = .ok (.iload_n 2, 1) := by decide +kernel
theorem dX7_substitute_14 : decode cX7_substitute 14 = .ok (.aload_n 0, 1) := by decide +kernel
theorem dX7_substitute_15 : decode cX7_substitute 15 = .ok (.iload_n 1, 1) := by decide +kernel
theorem dX7_substitute_16 : decode cX7_substitute 16 = .ok (.bipush 19, 2) := by decide +kernel
theorem dX7_substitute_18 : decode cX7_substitute 18 = .ok (.invokevirtual 65, 3) := by decide +kernel
theorem dX7_substitute_21 : decode cX7_substitute 21 = .ok (.if_icmp .ge 15, 3) := by decide +kernel
theorem dX7_substitute_24 : decode cX7_substitute 24 = .ok (.aload_n 0, 1) := by decide +kernel
theorem dX7_substitute_25 : decode cX7_substitute 25 = .ok (.iload_n 1, 1) := by decide +kernel
theorem dX7_substitute_26 : decode cX7_substitute 26 = .ok (.bipush 20, 2) := by decide +kernel
theorem dX7_substitute_28 : decode cX7_substitute 28 = .ok (.iload_n 2, 1) := by decide +kernel
theorem dX7_substitute_29 : decode cX7_substitute 29 = .ok (.iadd, 1) := by decide +kernel
theorem dX7_substitute_30 : decode cX7_substitute 30 = .ok (.invokevirtual 65, 3) := by decide +kernel
theorem dX7_substitute_33 : decode cX7_substitute 33 = .ok (.goto 5, 3) := by decide +kernel
theorem dX7_substitute_36 : decode cX7_substitute 36 = .ok (.bipush (-9), 2) := by decide +kernel
theorem dX7_substitute_38 : decode cX7_substitute 38 = .ok (.ireturn, 1) := by decide +kernel
set_option maxRecDepth 20000 in
theorem ggX7_reach_X7_of : GoodIn wsX7_reach wsX7_of := goodIn_r _ [6, 7, 12, 13, 14, 15, 16, 17, 18, 19, 20, 21, 22, 23, 24, 25, 26, 27, 28, 29, 30, 31, 32, 33, 34, 35, 36, 37, 38, 39, 40] (by decide +kernel) (by decide +kernel)
set_option maxRecDepth 20000 in
theorem gX7_reach_X7_of : GoodIn wsX7_reach (wsV RX7 65 RX7 yX7_of wsX7_of) := goodIn_app (goodIn_of _ (by decide +kernel)) ggX7_reach_X7_of
set_option maxRecDepth 20000 in
theorem ggX7_reach_X7_ingredientOf : GoodIn wsX7_reach wsX7_ingredientOf := goodIn_r _ [11, 2, 3, 4, 5, 6, 7, 12, 13, 14, 15, 16, 17, 18, 19, 20, 21, 22, 23, 24, 25, 26, 27, 28, 29, 30, 31, 32, 33, 34, 35, 36, 37, 38, 39, 40] (by decide +kernel) (by decide +kernel)
set_option maxRecDepth 20000 in
theorem gX7_reach_X7_ingredientOf : GoodIn wsX7_reach (wsV RX7 69 RX7 yX7_ingredientOf wsX7_ingredientOf) := goodIn_app (goodIn_of _ (by decide +kernel)) ggX7_reach_X7_ingredientOf
theorem dX7_reach_0 : decode cX7_reach 0 = .ok (.iconst 0, 1) := by decide +kernel
theorem dX7_reach_1 : decode cX7_reach 1 = .ok (.istore_n 2, 1) := by decide +kernel
theorem dX7_reach_2 : decode cX7_reach 2 = .ok (.iload_n 2, 1) := by decide +kernel
theorem dX7_reach_3 : decode cX7_reach 3 = .ok (.aload_n 0, 1) := by decide +kernel
theorem dX7_reach_4 : decode cX7_reach 4 = .ok (.iload_n 1, 1) := by decide +kernel
theorem dX7_reach_5 : decode cX7_reach 5 = .ok (.bipush 8, 2) := by decide +kernel
theorem dX7_reach_7 : decode cX7_reach 7 = .ok (.invokevirtual 65, 3) := by decide +kernel
theorem dX7_reach_10 : decode cX7_reach 10 = .ok (.if_icmp .ge 60, 3) := by decide +kernel
theorem dX7_reach_13 : decode cX7_reach 13 = .ok (.aload_n 0, 1) := by decide +kernel
theorem dX7_reach_14 : decode cX7_reach 14 = .ok (.iload_n 1, 1) := by decide +kernel
theorem dX7_reach_15 : decode cX7_reach 15 = .ok (.iload_n 2, 1) := by decide +kernel
theorem dX7_reach_16 : decode cX7_reach 16 = .ok (.invokevirtual 69, 3) := by decide +kernel
theorem dX7_reach_19 : decode cX7_reach 19 = .ok (.istore_n 3, 1) := by decide +kernel
theorem dX7_reach_20 : decode cX7_reach 20 = .ok (.aload_n 0, 1) := by decide +kernel
theorem dX7_reach_21 : decode cX7_reach 21 = .ok (.getfield 50, 3) := by decide +kernel
theorem dX7_reach_24 : decode cX7_reach 24 = .ok (.iload_n 3, 1) := by decide +kernel
theorem dX7_reach_25 : decode cX7_reach 25 = .ok (.iconst 1, 1) := by decide +kernel
theorem dX7_reach_26 : decode cX7_reach 26 = .ok (.bastore, 1) := by decide +kernel
theorem dX7_reach_27 : decode cX7_reach 27 = .ok (.iconst 0, 1) := by decide +kernel
theorem dX7_reach_28 : decode cX7_reach 28 = .ok (.istore 4, 2) := by decide +kernel
theorem dX7_reach_30 : decode cX7_reach 30 = .ok (.iload 4, 2) := by decide +kernel
theorem dX7_reach_32 : decode cX7_reach 32 = .ok (.aload_n 0, 1) := by decide +kernel
theorem dX7_reach_33 : decode cX7_reach 33 = .ok (.iload_n 3, 1) := by decide +kernel
theorem dX7_reach_34 : decode cX7_reach 34 = .ok (.bipush 19, 2) := by decide +kernel
theorem dX7_reach_36 : decode cX7_reach 36 = .ok (.invokevirtual 65, 3) := by decide +kernel
theorem dX7_reach_39 : decode cX7_reach 39 = .ok (.if_icmp .ge 25, 3) := by decide +kernel
theorem dX7_reach_42 : decode cX7_reach 42 = .ok (.aload_n 0, 1) := by decide +kernel
theorem dX7_reach_43 : decode cX7_reach 43 = .ok (.getfield 50, 3) := by decide +kernel
theorem dX7_reach_46 : decode cX7_reach 46 = .ok (.aload_n 0, 1) := by decide +kernel
theorem dX7_reach_47 : decode cX7_reach 47 = .ok (.iload_n 3, 1) := by decide +kernel
theorem dX7_reach_48 : decode cX7_reach 48 = .ok (.bipush 20, 2) := by decide +kernel
theorem dX7_reach_50 : decode cX7_reach 50 = .ok (.iload 4, 2) := by decide +kernel
theorem dX7_reach_52 : decode cX7_reach 52 = .ok (.iadd, 1) := by decide +kernel
theorem dX7_reach_53 : decode cX7_reach 53 = .ok (.invokevirtual 65, 3) := by decide +kernel
theorem dX7_reach_56 : decode cX7_reach 56 = .ok (.iconst 1, 1) := by decide +kernel
theorem dX7_reach_57 : decode cX7_reach 57 = .ok (.bastore, 1) := by decide +kernel
theorem dX7_reach_58 : decode cX7_reach 58 = .ok (.iinc 4 1, 3) := by decide +kernel
theorem dX7_reach_61 : decode cX7_reach 61 = .ok (.goto (-31), 3) := by decide +kernel
theorem dX7_reach_64 : decode cX7_reach 64 = .ok (.iinc 2 1, 3) := by decide +kernel
theorem dX7_reach_67 : decode cX7_reach 67 = .ok (.goto (-65), 3) := by decide +kernel
theorem dX7_reach_70 : decode cX7_reach 70 = .ok (.return_, 1) := by decide +kernel
set_option maxRecDepth 20000 in
theorem ggX7_isNeeded_X7_isThing : GoodIn wsX7_isNeeded wsX7_isThing := goodIn_r _ [5, 6, 7, 4, 8] (by decide +kernel) (by decide +kernel)
set_option maxRecDepth 20000 in
theorem gX7_isNeeded_X7_isThing : GoodIn wsX7_isNeeded (va_wsS RX7 128 yX7_isThing wsX7_isThing) := goodIn_app (goodIn_of _ (by decide +kernel)) ggX7_isNeeded_X7_isThing
set_option maxRecDepth 20000 in
theorem ggX7_isNeeded_X7_reach : GoodIn wsX7_isNeeded wsX7_reach := goodIn_r _ [12, 1, 13, 14, 15, 4, 16, 17, 18, 19, 20, 21, 22, 23, 24, 25, 26, 27, 28, 29, 30, 31, 32, 33, 34, 35, 36, 37, 38, 39, 40, 41, 42, 43, 44, 45, 46, 47, 48, 49, 50] (by decide +kernel) (by decide +kernel)
set_option maxRecDepth 20000 in
theorem gX7_isNeeded_X7_reach : GoodIn wsX7_isNeeded (wsV RX7 212 RX7 yX7_reach wsX7_reach) := goodIn_app (goodIn_of _ (by decide +kernel)) ggX7_isNeeded_X7_reach
theorem dX7_isNeeded_0 : decode cX7_isNeeded 0 = .ok (.iload_n 1, 1) := by decide +kernel
theorem dX7_isNeeded_1 : decode cX7_isNeeded 1 = .ok (.invokestatic 128, 3) := by decide +kernel
theorem dX7_isNeeded_4 : decode cX7_isNeeded 4 = .ok (.ifCond .eq 10, 3) := by decide +kernel
theorem dX7_isNeeded_7 : decode cX7_isNeeded 7 = .ok (.iload_n 2, 1) := by decide +kernel
theorem dX7_isNeeded_8 : decode cX7_isNeeded 8 = .ok (.invokestatic 128, 3) := by decide +kernel
theorem dX7_isNeeded_11 : decode cX7_isNeeded 11 = .ok (.ifCond .ne 5, 3) := by decide +kernel
theorem dX7_isNeeded_14 : decode cX7_isNeeded 14 = .ok (.iconst (-1), 1) := by decide +kernel
theorem dX7_isNeeded_15 : decode cX7_isNeeded 15 = .ok (.ireturn, 1) := by decide +kernel
theorem dX7_isNeeded_16 : decode cX7_isNeeded 16 = .ok (.iconst 0, 1) := by decide +kernel
theorem dX7_isNeeded_17 : decode cX7_isNeeded 17 = .ok (.istore_n 3, 1) := by decide +kernel
theorem dX7_isNeeded_18 : decode cX7_isNeeded 18 = .ok (.iload_n 3, 1) := by decide +kernel
theorem dX7_isNeeded_19 : decode cX7_isNeeded 19 = .ok (.bipush 20, 2) := by decide +kernel
theorem dX7_isNeeded_21 : decode cX7_isNeeded 21 = .ok (.if_icmp .ge 16, 3) := by decide +kernel
theorem dX7_isNeeded_24 : decode cX7_isNeeded 24 = .ok (.aload_n 0, 1) := by decide +kernel
theorem dX7_isNeeded_25 : decode cX7_isNeeded 25 = .ok (.getfield 50, 3) := by decide +kernel
theorem dX7_isNeeded_28 : decode cX7_isNeeded 28 = .ok (.iload_n 3, 1) := by decide +kernel
theorem dX7_isNeeded_29 : decode cX7_isNeeded 29 = .ok (.iconst 0, 1) := by decide +kernel
theorem dX7_isNeeded_30 : decode cX7_isNeeded 30 = .ok (.bastore, 1) := by decide +kernel
theorem dX7_isNeeded_31 : decode cX7_isNeeded 31 = .ok (.iinc 3 1, 3) := by decide +kernel
theorem dX7_isNeeded_34 : decode cX7_isNeeded 34 = .ok (.goto (-16), 3) := by decide +kernel
theorem dX7_isNeeded_37 : decode cX7_isNeeded 37 = .ok (.aload_n 0, 1) := by decide +kernel
theorem dX7_isNeeded_38 : decode cX7_isNeeded 38 = .ok (.iload_n 2, 1) := by decide +kernel
theorem dX7_isNeeded_39 : decode cX7_isNeeded 39 = .ok (.invokevirtual 212, 3) := by decide +kernel
theorem dX7_isNeeded_42 : decode cX7_isNeeded 42 = .ok (.iconst 0, 1) := by decide +kernel
theorem dX7_isNeeded_43 : decode cX7_isNeeded 43 = .ok (.istore_n 3, 1) := by decide +kernel
theorem dX7_isNeeded_44 : decode cX7_isNeeded 44 = .ok (.iload_n 3, 1) := by decide +kernel
theorem dX7_isNeeded_45 : decode cX7_isNeeded 45 = .ok (.bipush 20, 2) := by decide +kernel
theorem dX7_isNeeded_47 : decode cX7_isNeeded 47 = .ok (.if_icmp .ge 41, 3) := by decide +kernel
theorem dX7_isNeeded_50 : decode cX7_isNeeded 50 = .ok (.iconst 0, 1) := by decide +kernel
theorem dX7_isNeeded_51 : decode cX7_isNeeded 51 = .ok (.istore 4, 2) := by decide +kernel
theorem dX7_isNeeded_53 : decode cX7_isNeeded 53 = .ok (.iload 4, 2) := by decide +kernel
theorem dX7_isNeeded_55 : decode cX7_isNeeded 55 = .ok (.bipush 20, 2) := by decide +kernel
theorem dX7_isNeeded_57 : decode cX7_isNeeded 57 = .ok (.if_icmp .ge 25, 3) := by decide +kernel
theorem dX7_isNeeded_60 : decode cX7_isNeeded 60 = .ok (.aload_n 0, 1) := by decide +kernel
theorem dX7_isNeeded_61 : decode cX7_isNeeded 61 = .ok (.getfield 50, 3) := by decide +kernel
theorem dX7_isNeeded_64 : decode cX7_isNeeded 64 = .ok (.iload 4, 2) := by decide +kernel
theorem dX7_isNeeded_66 : decode cX7_isNeeded 66 = .ok (.baload, 1) := by decide +kernel
theorem dX7_isNeeded_67 : decode cX7_isNeeded 67 = .ok (.ifCond .eq 9, 3) := by decide +kernel
theorem dX7_isNeeded_70 : decode cX7_isNeeded 70 = .ok (.aload_n 0, 1) := by decide +kernel
theorem dX7_isNeeded_71 : decode cX7_isNeeded 71 = .ok (.iload 4, 2) := by decide +kernel
theorem dX7_isNeeded_73 : decode cX7_isNeeded 73 = .ok (.invokevirtual 212, 3) := by decide +kernel
theorem dX7_isNeeded_76 : decode cX7_isNeeded 76 = .ok (.iinc 4 1, 3) := by decide +kernel
theorem dX7_isNeeded_79 : decode cX7_isNeeded 79 = .ok (.goto (-26), 3) := by decide +kernel
theorem dX7_isNeeded_82 : decode cX7_isNeeded 82 = .ok (.iinc 3 1, 3) := by decide +kernel
theorem dX7_isNeeded_85 : decode cX7_isNeeded 85 = .ok (.goto (-41), 3) := by decide +kernel
theorem dX7_isNeeded_88 : decode cX7_isNeeded 88 = .ok (.aload_n 0, 1) := by decide +kernel
theorem dX7_isNeeded_89 : decode cX7_isNeeded 89 = .ok (.getfield 50, 3) := by decide +kernel
theorem dX7_isNeeded_92 : decode cX7_isNeeded 92 = .ok (.iload_n 1, 1) := by decide +kernel
theorem dX7_isNeeded_93 : decode cX7_isNeeded 93 = .ok (.baload, 1) := by decide +kernel
theorem dX7_isNeeded_94 : decode cX7_isNeeded 94 = .ok (.ifCond .eq 12, 3) := by decide +kernel
theorem dX7_isNeeded_97 : decode cX7_isNeeded 97 = .ok (.iload_n 1, 1) := by decide +kernel
theorem dX7_isNeeded_98 : decode cX7_isNeeded 98 = .ok (.iload_n 2, 1) := by decide +kernel
theorem dX7_isNeeded_99 : decode cX7_isNeeded 99 = .ok (.if_icmp .eq 7, 3) := by decide +kernel
theorem dX7_isNeeded_102 : decode cX7_isNeeded 102 = .ok (.iconst 1, 1) := by decide +kernel
theorem dX7_isNeeded_103 : decode cX7_isNeeded 103 = .ok (.goto 4, 3) := by decide +kernel
theorem dX7_isNeeded_106 : decode cX7_isNeeded 106 = .ok (.iconst 0, 1) := by decide +kernel
theorem dX7_isNeeded_107 : decode cX7_isNeeded 107 = .ok (.ireturn, 1) := by decide +kernel
set_option maxRecDepth 20000 in
theorem ggX7_share_X7_of : GoodIn wsX7_share wsX7_of := goodIn_r _ [6, 1, 7, 8, 9, 10, 11, 12, 13, 14, 15, 16, 17, 18, 19, 20, 21, 22, 23, 24, 25, 26, 27, 28, 29, 30, 31, 32, 33, 34, 35] (by decide +kernel) (by decide +kernel)
set_option maxRecDepth 20000 in
theorem gX7_share_X7_of : GoodIn wsX7_share (wsV RX7 65 RX7 yX7_of wsX7_of) := goodIn_app (goodIn_of _ (by decide +kernel)) ggX7_share_X7_of
theorem dX7_share_0 : decode cX7_share 0 = .ok (.iconst 0, 1) := by decide +kernel
theorem dX7_share_1 : decode cX7_share 1 = .ok (.istore_n 1, 1) := by decide +kernel
theorem dX7_share_2 : decode cX7_share 2 = .ok (.iconst 0, 1) := by decide +kernel
theorem dX7_share_3 : decode cX7_share 3 = .ok (.istore_n 2, 1) := by decide +kernel
theorem dX7_share_4 : decode cX7_share 4 = .ok (.iload_n 2, 1) := by decide +kernel
theorem dX7_share_5 : decode cX7_share 5 = .ok (.bipush 20, 2) := by decide +kernel
theorem dX7_share_7 : decode cX7_share 7 = .ok (.if_icmp .ge 18, 3) := by decide +kernel
theorem dX7_share_10 : decode cX7_share 10 = .ok (.iload_n 1, 1) := by decide +kernel
theorem dX7_share_11 : decode cX7_share 11 = .ok (.aload_n 0, 1) := by decide +kernel
theorem dX7_share_12 : decode cX7_share 12 = .ok (.iload_n 2, 1) := by decide +kernel
theorem dX7_share_13 : decode cX7_share 13 = .ok (.iconst 3, 1) := by decide +kernel
theorem dX7_share_14 : decode cX7_share 14 = .ok (.invokevirtual 65, 3) := by decide +kernel
theorem dX7_share_17 : decode cX7_share 17 = .ok (.iadd, 1) := by decide +kernel
theorem dX7_share_18 : decode cX7_share 18 = .ok (.istore_n 1, 1) := by decide +kernel
theorem dX7_share_19 : decode cX7_share 19 = .ok (.iinc 2 1, 3) := by decide +kernel
theorem dX7_share_22 : decode cX7_share 22 = .ok (.goto (-18), 3) := by decide +kernel
theorem dX7_share_25 : decode cX7_share 25 = .ok (.iload_n 1, 1) := by decide +kernel
theorem dX7_share_26 : decode cX7_share 26 = .ok (.aload_n 0, 1) := by decide +kernel
theorem dX7_share_27 : decode cX7_share 27 = .ok (.getfield 7, 3) := by decide +kernel
theorem dX7_share_30 : decode cX7_share 30 = .ok (.sipush 460, 3) := by decide +kernel
theorem dX7_share_33 : decode cX7_share 33 = .ok (.iaload, 1) := by decide +kernel
theorem dX7_share_34 : decode cX7_share 34 = .ok (.iadd, 1) := by decide +kernel
theorem dX7_share_35 : decode cX7_share 35 = .ok (.istore_n 2, 1) := by decide +kernel
theorem dX7_share_36 : decode cX7_share 36 = .ok (.iload_n 2, 1) := by decide +kernel
theorem dX7_share_37 : decode cX7_share 37 = .ok (.ifCond .ne 7, 3) := by decide +kernel
theorem dX7_share_40 : decode cX7_share 40 = .ok (.fconst 0, 1) := by decide +kernel
theorem dX7_share_41 : decode cX7_share 41 = .ok (.goto 15, 3) := by decide +kernel
theorem dX7_share_44 : decode cX7_share 44 = .ok (.aload_n 0, 1) := by decide +kernel
theorem dX7_share_45 : decode cX7_share 45 = .ok (.getfield 7, 3) := by decide +kernel
theorem dX7_share_48 : decode cX7_share 48 = .ok (.sipush 460, 3) := by decide +kernel
theorem dX7_share_51 : decode cX7_share 51 = .ok (.iaload, 1) := by decide +kernel
theorem dX7_share_52 : decode cX7_share 52 = .ok (.i2f, 1) := by decide +kernel
theorem dX7_share_53 : decode cX7_share 53 = .ok (.iload_n 2, 1) := by decide +kernel
theorem dX7_share_54 : decode cX7_share 54 = .ok (.i2f, 1) := by decide +kernel
theorem dX7_share_55 : decode cX7_share 55 = .ok (.fdiv, 1) := by decide +kernel
theorem dX7_share_56 : decode cX7_share 56 = .ok (.freturn, 1) := by decide +kernel
set_option maxRecDepth 20000 in
theorem ggX7_tryWish_X7_wishNow : GoodIn wsX7_tryWish wsX7_wishNow := goodIn_r _ [7, 8, 9, 10, 6, 11, 12, 13, 2, 14, 15, 16, 17, 1, 18, 19, 20, 21, 22, 23, 24, 25, 26, 27, 28, 29, 30, 31, 32, 33, 34, 35, 36, 37, 38, 39, 40, 41, 42, 43, 44, 45, 46, 47, 48, 49, 50, 51, 52, 53, 54, 55, 56, 57, 58, 59, 60, 61, 62, 63, 64, 65, 66, 67, 68, 69, 70, 76, 77, 78, 79, 80, 81, 82, 83, 84, 85, 86, 87, 88, 89, 90, 91, 92, 93, 94, 95, 96, 97, 98, 99, 100, 101, 102, 103, 104] (by decide +kernel) (by decide +kernel)
set_option maxRecDepth 20000 in
theorem gX7_tryWish_X7_wishNow : GoodIn wsX7_tryWish (wsV RX7 134 RX7 yX7_wishNow wsX7_wishNow) := goodIn_app (goodIn_of _ (by decide +kernel)) ggX7_tryWish_X7_wishNow
set_option maxRecDepth 20000 in
theorem ggX7_tryWish_X7_of : GoodIn wsX7_tryWish wsX7_of := goodIn_r _ [17, 1, 76, 77, 78, 79, 80, 81, 82, 83, 84, 85, 86, 87, 88, 89, 90, 91, 92, 93, 94, 95, 96, 97, 98, 99, 100, 101, 102, 103, 104] (by decide +kernel) (by decide +kernel)
set_option maxRecDepth 20000 in
theorem gX7_tryWish_X7_of : GoodIn wsX7_tryWish (wsV RX7 65 RX7 yX7_of wsX7_of) := goodIn_app (goodIn_of _ (by decide +kernel)) ggX7_tryWish_X7_of
set_option maxRecDepth 20000 in
theorem ggX7_tryWish_X7_restore : GoodIn wsX7_tryWish wsX7_restore := goodIn_r _ [74, 1, 75, 76, 77, 78, 79, 80, 81, 82, 83, 84, 85, 86, 87, 88, 89, 90, 91, 92, 93, 94, 95, 96, 97, 98, 99, 100, 101, 102, 103, 104] (by decide +kernel) (by decide +kernel)
set_option maxRecDepth 20000 in
theorem gX7_tryWish_X7_restore : GoodIn wsX7_tryWish (wsV RX7 122 RX7 yX7_restore wsX7_restore) := goodIn_app (goodIn_of _ (by decide +kernel)) ggX7_tryWish_X7_restore
theorem dX7_tryWish_0 : decode cX7_tryWish 0 = .ok (.aload_n 0, 1) := by decide +kernel
theorem dX7_tryWish_1 : decode cX7_tryWish 1 = .ok (.iload_n 1, 1) := by decide +kernel
theorem dX7_tryWish_2 : decode cX7_tryWish 2 = .ok (.iload_n 2, 1) := by decide +kernel
theorem dX7_tryWish_3 : decode cX7_tryWish 3 = .ok (.invokevirtual 134, 3) := by decide +kernel
theorem dX7_tryWish_6 : decode cX7_tryWish 6 = .ok (.iload_n 3, 1) := by decide +kernel
theorem dX7_tryWish_7 : decode cX7_tryWish 7 = .ok (.bipush (-9), 2) := by decide +kernel
theorem dX7_tryWish_9 : decode cX7_tryWish 9 = .ok (.if_icmp .ne 14, 3) := by decide +kernel
theorem dX7_tryWish_12 : decode cX7_tryWish 12 = .ok (.aload_n 0, 1) := by decide +kernel
theorem dX7_tryWish_13 : decode cX7_tryWish 13 = .ok (.getfield 7, 3) := by decide +kernel
theorem dX7_tryWish_16 : decode cX7_tryWish 16 = .ok (.sipush 460, 3) := by decide +kernel
theorem dX7_tryWish_19 : decode cX7_tryWish 19 = .ok (.iaload, 1) := by decide +kernel
theorem dX7_tryWish_20 : decode cX7_tryWish 20 = .ok (.goto 9, 3) := by decide +kernel
theorem dX7_tryWish_23 : decode cX7_tryWish 23 = .ok (.aload_n 0, 1) := by decide +kernel
theorem dX7_tryWish_24 : decode cX7_tryWish 24 = .ok (.iload_n 3, 1) := by decide +kernel
theorem dX7_tryWish_25 : decode cX7_tryWish 25 = .ok (.iconst 2, 1) := by decide +kernel
theorem dX7_tryWish_26 : decode cX7_tryWish 26 = .ok (.invokevirtual 65, 3) := by decide +kernel
theorem dX7_tryWish_29 : decode cX7_tryWish 29 = .ok (.istore 4, 2) := by decide +kernel
theorem dX7_tryWish_31 : decode cX7_tryWish 31 = .ok (.aload_n 0, 1) := by decide +kernel
theorem dX7_tryWish_32 : decode cX7_tryWish 32 = .ok (.getfield 80, 3) := by decide +kernel
theorem dX7_tryWish_35 : decode cX7_tryWish 35 = .ok (.istore 5, 2) := by decide +kernel
theorem dX7_tryWish_37 : decode cX7_tryWish 37 = .ok (.aload_n 0, 1) := by decide +kernel
theorem dX7_tryWish_38 : decode cX7_tryWish 38 = .ok (.invokevirtual 122, 3) := by decide +kernel
theorem dX7_tryWish_41 : decode cX7_tryWish 41 = .ok (.iload 5, 2) := by decide +kernel
theorem dX7_tryWish_43 : decode cX7_tryWish 43 = .ok (.ifCond .eq 8, 3) := by decide +kernel
theorem dX7_tryWish_46 : decode cX7_tryWish 46 = .ok (.bipush (-3), 2) := by decide +kernel
theorem dX7_tryWish_48 : decode cX7_tryWish 48 = .ok (.goto 29, 3) := by decide +kernel
theorem dX7_tryWish_51 : decode cX7_tryWish 51 = .ok (.iload 4, 2) := by decide +kernel
theorem dX7_tryWish_53 : decode cX7_tryWish 53 = .ok (.iload_n 3, 1) := by decide +kernel
theorem dX7_tryWish_54 : decode cX7_tryWish 54 = .ok (.bipush (-9), 2) := by decide +kernel
theorem dX7_tryWish_56 : decode cX7_tryWish 56 = .ok (.if_icmp .ne 14, 3) := by decide +kernel
theorem dX7_tryWish_59 : decode cX7_tryWish 59 = .ok (.aload_n 0, 1) := by decide +kernel
theorem dX7_tryWish_60 : decode cX7_tryWish 60 = .ok (.getfield 7, 3) := by decide +kernel
theorem dX7_tryWish_63 : decode cX7_tryWish 63 = .ok (.sipush 460, 3) := by decide +kernel
theorem dX7_tryWish_66 : decode cX7_tryWish 66 = .ok (.iaload, 1) := by decide +kernel
theorem dX7_tryWish_67 : decode cX7_tryWish 67 = .ok (.goto 9, 3) := by decide +kernel
theorem dX7_tryWish_70 : decode cX7_tryWish 70 = .ok (.aload_n 0, 1) := by decide +kernel
theorem dX7_tryWish_71 : decode cX7_tryWish 71 = .ok (.iload_n 3, 1) := by decide +kernel
theorem dX7_tryWish_72 : decode cX7_tryWish 72 = .ok (.iconst 2, 1) := by decide +kernel
theorem dX7_tryWish_73 : decode cX7_tryWish 73 = .ok (.invokevirtual 65, 3) := by decide +kernel
theorem dX7_tryWish_76 : decode cX7_tryWish 76 = .ok (.isub, 1) := by decide +kernel
theorem dX7_tryWish_77 : decode cX7_tryWish 77 = .ok (.ireturn, 1) := by decide +kernel
set_option maxRecDepth 20000 in
theorem ggX7_gather_X7_isThing : GoodIn wsX7_gather wsX7_isThing := goodIn_r _ [4, 5, 6, 3, 7] (by decide +kernel) (by decide +kernel)
set_option maxRecDepth 20000 in
theorem gX7_gather_X7_isThing : GoodIn wsX7_gather (va_wsS RX7 128 yX7_isThing wsX7_isThing) := goodIn_app (goodIn_of _ (by decide +kernel)) ggX7_gather_X7_isThing
set_option maxRecDepth 20000 in
theorem ggX7_gather_X7_isIn : GoodIn wsX7_gather wsX7_isIn := goodIn_r _ [7] (by decide +kernel) (by decide +kernel)
set_option maxRecDepth 20000 in
theorem gX7_gather_X7_isIn : GoodIn wsX7_gather (va_wsS RX7 61 yX7_isIn wsX7_isIn) := goodIn_app (goodIn_of _ (by decide +kernel)) ggX7_gather_X7_isIn
set_option maxRecDepth 20000 in
theorem ggX7_gather_X7_hold : GoodIn wsX7_gather wsX7_hold := goodIn_r _ [11, 12, 13, 90, 91, 92, 93, 94, 95, 96, 97, 98, 99, 100, 101, 102, 103, 104, 105, 106, 107, 108, 109, 110, 111, 112, 113, 114, 115, 116, 117, 118] (by decide +kernel) (by decide +kernel)
set_option maxRecDepth 20000 in
theorem gX7_gather_X7_hold : GoodIn wsX7_gather (wsV RX7 131 RX7 yX7_hold wsX7_hold) := goodIn_app (goodIn_of _ (by decide +kernel)) ggX7_gather_X7_hold
set_option maxRecDepth 20000 in
theorem ggX7_gather_X7_tryWish : GoodIn wsX7_gather wsX7_tryWish := goodIn_r _ [17, 13, 18, 19, 20, 21, 3, 22, 23, 24, 25, 26, 27, 28, 29, 30, 31, 32, 33, 34, 35, 36, 37, 38, 39, 40, 41, 42, 43, 44, 45, 46, 47, 48, 49, 50, 51, 52, 53, 54, 55, 56, 57, 58, 59, 60, 61, 62, 63, 64, 65, 66, 67, 68, 69, 70, 71, 72, 73, 74, 75, 76, 77, 78, 79, 80, 81, 82, 83, 84, 85, 86, 87, 88, 89, 12, 90, 91, 92, 93, 94, 95, 96, 97, 98, 99, 100, 101, 102, 103, 104, 105, 106, 107, 108, 109, 110, 111, 112, 113, 114, 115, 116, 117, 118] (by decide +kernel) (by decide +kernel)
set_option maxRecDepth 20000 in
theorem gX7_gather_X7_tryWish : GoodIn wsX7_gather (wsV RX7 215 RX7 yX7_tryWish wsX7_tryWish) := goodIn_app (goodIn_of _ (by decide +kernel)) ggX7_gather_X7_tryWish
theorem dX7_gather_0 : decode cX7_gather 0 = .ok (.iload_n 1, 1) := by decide +kernel
theorem dX7_gather_1 : decode cX7_gather 1 = .ok (.invokestatic 128, 3) := by decide +kernel
theorem dX7_gather_4 : decode cX7_gather 4 = .ok (.ifCond .eq 27, 3) := by decide +kernel
theorem dX7_gather_7 : decode cX7_gather 7 = .ok (.iload_n 2, 1) := by decide +kernel
theorem dX7_gather_8 : decode cX7_gather 8 = .ok (.iconst 1, 1) := by decide +kernel
theorem dX7_gather_9 : decode cX7_gather 9 = .ok (.sipush 999, 3) := by decide +kernel
theorem dX7_gather_12 : decode cX7_gather 12 = .ok (.invokestatic 61, 3) := by decide +kernel
theorem dX7_gather_15 : decode cX7_gather 15 = .ok (.ifCond .eq 16, 3) := by decide +kernel
theorem dX7_gather_18 : decode cX7_gather 18 = .ok (.iload_n 3, 1) := by decide +kernel
theorem dX7_gather_19 : decode cX7_gather 19 = .ok (.bipush (-9), 2) := by decide +kernel
theorem dX7_gather_21 : decode cX7_gather 21 = .ok (.if_icmp .eq 12, 3) := by decide +kernel
theorem dX7_gather_24 : decode cX7_gather 24 = .ok (.iload_n 3, 1) := by decide +kernel
theorem dX7_gather_25 : decode cX7_gather 25 = .ok (.invokestatic 128, 3) := by decide +kernel
theorem dX7_gather_28 : decode cX7_gather 28 = .ok (.ifCond .ne 5, 3) := by decide +kernel
theorem dX7_gather_31 : decode cX7_gather 31 = .ok (.iconst (-1), 1) := by decide +kernel
theorem dX7_gather_32 : decode cX7_gather 32 = .ok (.ireturn, 1) := by decide +kernel
theorem dX7_gather_33 : decode cX7_gather 33 = .ok (.aload_n 0, 1) := by decide +kernel
theorem dX7_gather_34 : decode cX7_gather 34 = .ok (.invokevirtual 131, 3) := by decide +kernel
theorem dX7_gather_37 : decode cX7_gather 37 = .ok (.aload_n 0, 1) := by decide +kernel
theorem dX7_gather_38 : decode cX7_gather 38 = .ok (.iload_n 1, 1) := by decide +kernel
theorem dX7_gather_39 : decode cX7_gather 39 = .ok (.iload_n 2, 1) := by decide +kernel
theorem dX7_gather_40 : decode cX7_gather 40 = .ok (.iload_n 3, 1) := by decide +kernel
theorem dX7_gather_41 : decode cX7_gather 41 = .ok (.invokevirtual 215, 3) := by decide +kernel
theorem dX7_gather_44 : decode cX7_gather 44 = .ok (.ireturn, 1) := by decide +kernel
set_option maxRecDepth 20000 in
theorem ggX7_canHave_X7_isThing : GoodIn wsX7_canHave wsX7_isThing := goodIn_r _ [4, 5, 6, 3, 7] (by decide +kernel) (by decide +kernel)
set_option maxRecDepth 20000 in
theorem gX7_canHave_X7_isThing : GoodIn wsX7_canHave (va_wsS RX7 128 yX7_isThing wsX7_isThing) := goodIn_app (goodIn_of _ (by decide +kernel)) ggX7_canHave_X7_isThing
set_option maxRecDepth 20000 in
theorem ggX7_canHave_X7_hold : GoodIn wsX7_canHave wsX7_hold := goodIn_r _ [11, 12, 13, 90, 91, 92, 93, 94, 95, 96, 97, 98, 99, 100, 101, 102, 103, 104, 105, 106, 107, 108, 109, 110, 111, 112, 113, 114, 115, 116, 117, 118] (by decide +kernel) (by decide +kernel)
set_option maxRecDepth 20000 in
theorem gX7_canHave_X7_hold : GoodIn wsX7_canHave (wsV RX7 131 RX7 yX7_hold wsX7_hold) := goodIn_app (goodIn_of _ (by decide +kernel)) ggX7_canHave_X7_hold
set_option maxRecDepth 20000 in
theorem ggX7_canHave_X7_tryWish : GoodIn wsX7_canHave wsX7_tryWish := goodIn_r _ [17, 13, 18, 19, 20, 21, 3, 22, 23, 24, 25, 26, 27, 28, 29, 30, 31, 32, 33, 34, 35, 36, 37, 38, 39, 40, 41, 42, 43, 44, 45, 46, 47, 48, 49, 50, 51, 52, 53, 54, 55, 56, 57, 58, 59, 60, 61, 62, 63, 64, 65, 66, 67, 68, 69, 70, 71, 72, 73, 74, 75, 76, 77, 78, 79, 80, 81, 82, 83, 84, 85, 86, 87, 88, 89, 12, 90, 91, 92, 93, 94, 95, 96, 97, 98, 99, 100, 101, 102, 103, 104, 105, 106, 107, 108, 109, 110, 111, 112, 113, 114, 115, 116, 117, 118] (by decide +kernel) (by decide +kernel)
set_option maxRecDepth 20000 in
theorem gX7_canHave_X7_tryWish : GoodIn wsX7_canHave (wsV RX7 215 RX7 yX7_tryWish wsX7_tryWish) := goodIn_app (goodIn_of _ (by decide +kernel)) ggX7_canHave_X7_tryWish
theorem dX7_canHave_0 : decode cX7_canHave 0 = .ok (.iload_n 1, 1) := by decide +kernel
theorem dX7_canHave_1 : decode cX7_canHave 1 = .ok (.invokestatic 128, 3) := by decide +kernel
theorem dX7_canHave_4 : decode cX7_canHave 4 = .ok (.ifCond .ne 5, 3) := by decide +kernel
theorem dX7_canHave_7 : decode cX7_canHave 7 = .ok (.iconst (-1), 1) := by decide +kernel
theorem dX7_canHave_8 : decode cX7_canHave 8 = .ok (.ireturn, 1) := by decide +kernel
theorem dX7_canHave_9 : decode cX7_canHave 9 = .ok (.aload_n 0, 1) := by decide +kernel
theorem dX7_canHave_10 : decode cX7_canHave 10 = .ok (.invokevirtual 131, 3) := by decide +kernel
theorem dX7_canHave_13 : decode cX7_canHave 13 = .ok (.sipush 999, 3) := by decide +kernel
theorem dX7_canHave_16 : decode cX7_canHave 16 = .ok (.istore_n 2, 1) := by decide +kernel
theorem dX7_canHave_17 : decode cX7_canHave 17 = .ok (.iload_n 2, 1) := by decide +kernel
theorem dX7_canHave_18 : decode cX7_canHave 18 = .ok (.ifCond .le 22, 3) := by decide +kernel
theorem dX7_canHave_21 : decode cX7_canHave 21 = .ok (.aload_n 0, 1) := by decide +kernel
theorem dX7_canHave_22 : decode cX7_canHave 22 = .ok (.iload_n 1, 1) := by decide +kernel
theorem dX7_canHave_23 : decode cX7_canHave 23 = .ok (.iload_n 2, 1) := by decide +kernel
theorem dX7_canHave_24 : decode cX7_canHave 24 = .ok (.bipush (-9), 2) := by decide +kernel
theorem dX7_canHave_26 : decode cX7_canHave 26 = .ok (.invokevirtual 215, 3) := by decide +kernel
theorem dX7_canHave_29 : decode cX7_canHave 29 = .ok (.ifCond .ne 5, 3) := by decide +kernel
theorem dX7_canHave_32 : decode cX7_canHave 32 = .ok (.iload_n 2, 1) := by decide +kernel
theorem dX7_canHave_33 : decode cX7_canHave 33 = .ok (.ireturn, 1) := by decide +kernel
theorem dX7_canHave_34 : decode cX7_canHave 34 = .ok (.iinc 2 (-1), 3) := by decide +kernel
theorem dX7_canHave_37 : decode cX7_canHave 37 = .ok (.goto (-20), 3) := by decide +kernel
theorem dX7_canHave_40 : decode cX7_canHave 40 = .ok (.iconst 0, 1) := by decide +kernel
theorem dX7_canHave_41 : decode cX7_canHave 41 = .ok (.ireturn, 1) := by decide +kernel
set_option maxRecDepth 20000 in
theorem ggX7_bestGift_X7_isThing : GoodIn wsX7_bestGift wsX7_isThing := goodIn_r _ [5, 6, 7, 4, 8] (by decide +kernel) (by decide +kernel)
set_option maxRecDepth 20000 in
theorem gX7_bestGift_X7_isThing : GoodIn wsX7_bestGift (va_wsS RX7 128 yX7_isThing wsX7_isThing) := goodIn_app (goodIn_of _ (by decide +kernel)) ggX7_bestGift_X7_isThing
set_option maxRecDepth 20000 in
theorem ggX7_bestGift_X7_isIn : GoodIn wsX7_bestGift wsX7_isIn := goodIn_r _ [8] (by decide +kernel) (by decide +kernel)
set_option maxRecDepth 20000 in
theorem gX7_bestGift_X7_isIn : GoodIn wsX7_bestGift (va_wsS RX7 61 yX7_isIn wsX7_isIn) := goodIn_app (goodIn_of _ (by decide +kernel)) ggX7_bestGift_X7_isIn
set_option maxRecDepth 20000 in
theorem ggX7_bestGift_X7_hold : GoodIn wsX7_bestGift wsX7_hold := goodIn_r _ [12, 13, 14, 90, 91, 92, 93, 94, 95, 96, 97, 98, 99, 100, 101, 102, 103, 104, 105, 106, 107, 108, 109, 110, 111, 112, 113, 114, 115, 116, 117, 118] (by decide +kernel) (by decide +kernel)
set_option maxRecDepth 20000 in
theorem gX7_bestGift_X7_hold : GoodIn wsX7_bestGift (wsV RX7 131 RX7 yX7_hold wsX7_hold) := goodIn_app (goodIn_of _ (by decide +kernel)) ggX7_bestGift_X7_hold
set_option maxRecDepth 20000 in
theorem ggX7_bestGift_X7_tryWish : GoodIn wsX7_bestGift wsX7_tryWish := goodIn_r _ [18, 14, 19, 20, 21, 22, 4, 23, 24, 25, 26, 27, 28, 29, 30, 31, 32, 33, 34, 35, 36, 37, 38, 39, 40, 41, 42, 43, 44, 45, 46, 47, 48, 49, 50, 51, 52, 53, 54, 55, 56, 57, 58, 59, 60, 61, 62, 63, 64, 65, 66, 67, 68, 69, 70, 71, 72, 73, 74, 75, 76, 77, 78, 79, 80, 81, 1, 82, 83, 84, 85, 86, 87, 88, 89, 13, 90, 91, 92, 93, 94, 95, 96, 97, 98, 99, 100, 101, 102, 103, 104, 105, 106, 107, 108, 109, 110, 111, 112, 113, 114, 115, 116, 117, 118] (by decide +kernel) (by decide +kernel)
set_option maxRecDepth 20000 in
theorem gX7_bestGift_X7_tryWish : GoodIn wsX7_bestGift (wsV RX7 215 RX7 yX7_tryWish wsX7_tryWish) := goodIn_app (goodIn_of _ (by decide +kernel)) ggX7_bestGift_X7_tryWish
set_option maxRecDepth 20000 in
theorem ggX7_bestGift_X7_of : GoodIn wsX7_bestGift wsX7_of := goodIn_r _ [33, 14, 90, 91, 92, 93, 94, 95, 96, 97, 98, 99, 100, 101, 102, 103, 104, 105, 106, 107, 108, 109, 110, 111, 112, 113, 114, 115, 116, 117, 118] (by decide +kernel) (by decide +kernel)
set_option maxRecDepth 20000 in
theorem gX7_bestGift_X7_of : GoodIn wsX7_bestGift (wsV RX7 65 RX7 yX7_of wsX7_of) := goodIn_app (goodIn_of _ (by decide +kernel)) ggX7_bestGift_X7_of
set_option maxRecDepth 20000 in
theorem ggX7_bestGift_X7_put : GoodIn wsX7_bestGift wsX7_put := goodIn_r _ [77, 14, 90, 91, 92, 93, 94, 95, 96, 97, 98, 99, 100, 101, 102, 103, 104, 105, 106, 107, 108, 109, 110, 111, 112, 113, 114, 115, 116, 117, 118] (by decide +kernel) (by decide +kernel)
set_option maxRecDepth 20000 in
theorem gX7_bestGift_X7_put : GoodIn wsX7_bestGift (wsV RX7 54 RX7 yX7_put wsX7_put) := goodIn_app (goodIn_of _ (by decide +kernel)) ggX7_bestGift_X7_put
theorem dX7_bestGift_0 : decode cX7_bestGift 0 = .ok (.iload_n 1, 1) := by decide +kernel
theorem dX7_bestGift_1 : decode cX7_bestGift 1 = .ok (.invokestatic 128, 3) := by decide +kernel
theorem dX7_bestGift_4 : decode cX7_bestGift 4 = .ok (.ifCond .eq 14, 3) := by decide +kernel
theorem dX7_bestGift_7 : decode cX7_bestGift 7 = .ok (.iload_n 2, 1) := by decide +kernel
theorem dX7_bestGift_8 : decode cX7_bestGift 8 = .ok (.iconst 1, 1) := by decide +kernel
theorem dX7_bestGift_9 : decode cX7_bestGift 9 = .ok (.sipush 999, 3) := by decide +kernel
theorem dX7_bestGift_12 : decode cX7_bestGift 12 = .ok (.invokestatic 61, 3) := by decide +kernel
theorem dX7_bestGift_15 : decode cX7_bestGift 15 = .ok (.ifCond .ne 5, 3) := by decide +kernel
theorem dX7_bestGift_18 : decode cX7_bestGift 18 = .ok (.iconst (-1), 1) := by decide +kernel
theorem dX7_bestGift_19 : decode cX7_bestGift 19 = .ok (.ireturn, 1) := by decide +kernel
theorem dX7_bestGift_20 : decode cX7_bestGift 20 = .ok (.aload_n 0, 1) := by decide +kernel
theorem dX7_bestGift_21 : decode cX7_bestGift 21 = .ok (.invokevirtual 131, 3) := by decide +kernel
theorem dX7_bestGift_24 : decode cX7_bestGift 24 = .ok (.aload_n 0, 1) := by decide +kernel
theorem dX7_bestGift_25 : decode cX7_bestGift 25 = .ok (.iload_n 1, 1) := by decide +kernel
theorem dX7_bestGift_26 : decode cX7_bestGift 26 = .ok (.iload_n 2, 1) := by decide +kernel
theorem dX7_bestGift_27 : decode cX7_bestGift 27 = .ok (.bipush (-9), 2) := by decide +kernel
theorem dX7_bestGift_29 : decode cX7_bestGift 29 = .ok (.invokevirtual 215, 3) := by decide +kernel
theorem dX7_bestGift_32 : decode cX7_bestGift 32 = .ok (.istore_n 3, 1) := by decide +kernel
theorem dX7_bestGift_33 : decode cX7_bestGift 33 = .ok (.iload_n 3, 1) := by decide +kernel
theorem dX7_bestGift_34 : decode cX7_bestGift 34 = .ok (.bipush (-3), 2) := by decide +kernel
theorem dX7_bestGift_36 : decode cX7_bestGift 36 = .ok (.if_icmp .ne 6, 3) := by decide +kernel
theorem dX7_bestGift_39 : decode cX7_bestGift 39 = .ok (.bipush (-3), 2) := by decide +kernel
theorem dX7_bestGift_41 : decode cX7_bestGift 41 = .ok (.ireturn, 1) := by decide +kernel
theorem dX7_bestGift_42 : decode cX7_bestGift 42 = .ok (.bipush (-9), 2) := by decide +kernel
theorem dX7_bestGift_44 : decode cX7_bestGift 44 = .ok (.istore 4, 2) := by decide +kernel
theorem dX7_bestGift_46 : decode cX7_bestGift 46 = .ok (.iconst 0, 1) := by decide +kernel
theorem dX7_bestGift_47 : decode cX7_bestGift 47 = .ok (.istore 5, 2) := by decide +kernel
theorem dX7_bestGift_49 : decode cX7_bestGift 49 = .ok (.iload 5, 2) := by decide +kernel
theorem dX7_bestGift_51 : decode cX7_bestGift 51 = .ok (.bipush 20, 2) := by decide +kernel
theorem dX7_bestGift_53 : decode cX7_bestGift 53 = .ok (.if_icmp .ge 85, 3) := by decide +kernel
theorem dX7_bestGift_56 : decode cX7_bestGift 56 = .ok (.aload_n 0, 1) := by decide +kernel
theorem dX7_bestGift_57 : decode cX7_bestGift 57 = .ok (.iload 5, 2) := by decide +kernel
theorem dX7_bestGift_59 : decode cX7_bestGift 59 = .ok (.iconst 0, 1) := by decide +kernel
theorem dX7_bestGift_60 : decode cX7_bestGift 60 = .ok (.invokevirtual 65, 3) := by decide +kernel
theorem dX7_bestGift_63 : decode cX7_bestGift 63 = .ok (.ldc 84, 2) := by decide +kernel
theorem dX7_bestGift_65 : decode cX7_bestGift 65 = .ok (.if_icmp .ge 67, 3) := by decide +kernel
theorem dX7_bestGift_68 : decode cX7_bestGift 68 = .ok (.aload_n 0, 1) := by decide +kernel
theorem dX7_bestGift_69 : decode cX7_bestGift 69 = .ok (.iload 5, 2) := by decide +kernel
theorem dX7_bestGift_71 : decode cX7_bestGift 71 = .ok (.iconst 0, 1) := by decide +kernel
theorem dX7_bestGift_72 : decode cX7_bestGift 72 = .ok (.aload_n 0, 1) := by decide +kernel
theorem dX7_bestGift_73 : decode cX7_bestGift 73 = .ok (.iload 5, 2) := by decide +kernel
theorem dX7_bestGift_75 : decode cX7_bestGift 75 = .ok (.iconst 0, 1) := by decide +kernel
theorem dX7_bestGift_76 : decode cX7_bestGift 76 = .ok (.invokevirtual 65, 3) := by decide +kernel
theorem dX7_bestGift_79 : decode cX7_bestGift 79 = .ok (.iconst 1, 1) := by decide +kernel
theorem dX7_bestGift_80 : decode cX7_bestGift 80 = .ok (.iadd, 1) := by decide +kernel
theorem dX7_bestGift_81 : decode cX7_bestGift 81 = .ok (.invokevirtual 54, 3) := by decide +kernel
theorem dX7_bestGift_84 : decode cX7_bestGift 84 = .ok (.aload_n 0, 1) := by decide +kernel
theorem dX7_bestGift_85 : decode cX7_bestGift 85 = .ok (.iload_n 1, 1) := by decide +kernel
theorem dX7_bestGift_86 : decode cX7_bestGift 86 = .ok (.iload_n 2, 1) := by decide +kernel
theorem dX7_bestGift_87 : decode cX7_bestGift 87 = .ok (.bipush (-9), 2) := by decide +kernel
theorem dX7_bestGift_89 : decode cX7_bestGift 89 = .ok (.invokevirtual 215, 3) := by decide +kernel
theorem dX7_bestGift_92 : decode cX7_bestGift 92 = .ok (.istore 6, 2) := by decide +kernel
theorem dX7_bestGift_94 : decode cX7_bestGift 94 = .ok (.iload 6, 2) := by decide +kernel
theorem dX7_bestGift_96 : decode cX7_bestGift 96 = .ok (.ifCond .lt 14, 3) := by decide +kernel
theorem dX7_bestGift_99 : decode cX7_bestGift 99 = .ok (.iload 6, 2) := by decide +kernel
theorem dX7_bestGift_101 : decode cX7_bestGift 101 = .ok (.iload_n 3, 1) := by decide +kernel
theorem dX7_bestGift_102 : decode cX7_bestGift 102 = .ok (.if_icmp .ge 8, 3) := by decide +kernel
theorem dX7_bestGift_105 : decode cX7_bestGift 105 = .ok (.iload 5, 2) := by decide +kernel
theorem dX7_bestGift_107 : decode cX7_bestGift 107 = .ok (.goto 5, 3) := by decide +kernel
theorem dX7_bestGift_110 : decode cX7_bestGift 110 = .ok (.iload 4, 2) := by decide +kernel
theorem dX7_bestGift_112 : decode cX7_bestGift 112 = .ok (.istore 4, 2) := by decide +kernel
theorem dX7_bestGift_114 : decode cX7_bestGift 114 = .ok (.iload 6, 2) := by decide +kernel
theorem dX7_bestGift_116 : decode cX7_bestGift 116 = .ok (.ifCond .lt 14, 3) := by decide +kernel
theorem dX7_bestGift_119 : decode cX7_bestGift 119 = .ok (.iload 6, 2) := by decide +kernel
theorem dX7_bestGift_121 : decode cX7_bestGift 121 = .ok (.iload_n 3, 1) := by decide +kernel
theorem dX7_bestGift_122 : decode cX7_bestGift 122 = .ok (.if_icmp .ge 8, 3) := by decide +kernel
theorem dX7_bestGift_125 : decode cX7_bestGift 125 = .ok (.iload 6, 2) := by decide +kernel
theorem dX7_bestGift_127 : decode cX7_bestGift 127 = .ok (.goto 4, 3) := by decide +kernel
theorem dX7_bestGift_130 : decode cX7_bestGift 130 = .ok (.iload_n 3, 1) := by decide +kernel
theorem dX7_bestGift_131 : decode cX7_bestGift 131 = .ok (.istore_n 3, 1) := by decide +kernel
theorem dX7_bestGift_132 : decode cX7_bestGift 132 = .ok (.iinc 5 1, 3) := by decide +kernel
theorem dX7_bestGift_135 : decode cX7_bestGift 135 = .ok (.goto (-86), 3) := by decide +kernel
theorem dX7_bestGift_138 : decode cX7_bestGift 138 = .ok (.iload 4, 2) := by decide +kernel
theorem dX7_bestGift_140 : decode cX7_bestGift 140 = .ok (.ireturn, 1) := by decide +kernel
set_option maxRecDepth 20000 in
theorem ggX7_isImage_X7_isIn : GoodIn wsX7_isImage wsX7_isIn := goodIn_r _ [4] (by decide +kernel) (by decide +kernel)
set_option maxRecDepth 20000 in
theorem gX7_isImage_X7_isIn : GoodIn wsX7_isImage (va_wsS RX7 61 yX7_isIn wsX7_isIn) := goodIn_app (goodIn_of _ (by decide +kernel)) ggX7_isImage_X7_isIn
theorem dX7_isImage_0 : decode cX7_isImage 0 = .ok (.iload_n 0, 1) := by decide +kernel
theorem dX7_isImage_1 : decode cX7_isImage 1 = .ok (.iconst 0, 1) := by decide +kernel
theorem dX7_isImage_2 : decode cX7_isImage 2 = .ok (.iconst 1, 1) := by decide +kernel
theorem dX7_isImage_3 : decode cX7_isImage 3 = .ok (.invokestatic 61, 3) := by decide +kernel
theorem dX7_isImage_6 : decode cX7_isImage 6 = .ok (.ireturn, 1) := by decide +kernel
set_option maxRecDepth 20000 in
theorem ggX7_keep_X7_isImage : GoodIn wsX7_keep wsX7_isImage := goodIn_r _ [7, 8, 9, 6, 10] (by decide +kernel) (by decide +kernel)
set_option maxRecDepth 20000 in
theorem gX7_keep_X7_isImage : GoodIn wsX7_keep (va_wsS RX7 219 yX7_isImage wsX7_isImage) := goodIn_app (goodIn_of _ (by decide +kernel)) ggX7_keep_X7_isImage
set_option maxRecDepth 20000 in
theorem ggX7_keep_X7_recipes : GoodIn wsX7_keep wsX7_recipes := goodIn_r _ [14, 15, 16, 17, 6, 18, 19, 20, 21, 22, 2, 23, 24, 25, 26, 27, 28, 29, 30, 31, 32, 33, 34, 35, 36, 37, 38, 39, 40, 41, 42, 43, 44, 45, 46, 47, 48, 49, 50, 51] (by decide +kernel) (by decide +kernel)
set_option maxRecDepth 20000 in
theorem gX7_keep_X7_recipes : GoodIn wsX7_keep (wsV RX7 200 RX7 yX7_recipes wsX7_recipes) := goodIn_app (goodIn_of _ (by decide +kernel)) ggX7_keep_X7_recipes
theorem dX7_keep_0 : decode cX7_keep 0 = .ok (.iload_n 1, 1) := by decide +kernel
theorem dX7_keep_1 : decode cX7_keep 1 = .ok (.invokestatic 219, 3) := by decide +kernel
theorem dX7_keep_4 : decode cX7_keep 4 = .ok (.ifCond .ne 5, 3) := by decide +kernel
theorem dX7_keep_7 : decode cX7_keep 7 = .ok (.iconst (-1), 1) := by decide +kernel
theorem dX7_keep_8 : decode cX7_keep 8 = .ok (.ireturn, 1) := by decide +kernel
theorem dX7_keep_9 : decode cX7_keep 9 = .ok (.iconst 0, 1) := by decide +kernel
theorem dX7_keep_10 : decode cX7_keep 10 = .ok (.istore_n 2, 1) := by decide +kernel
theorem dX7_keep_11 : decode cX7_keep 11 = .ok (.iload_n 2, 1) := by decide +kernel
theorem dX7_keep_12 : decode cX7_keep 12 = .ok (.sipush 462, 3) := by decide +kernel
theorem dX7_keep_15 : decode cX7_keep 15 = .ok (.if_icmp .ge 27, 3) := by decide +kernel
theorem dX7_keep_18 : decode cX7_keep 18 = .ok (.aload_n 0, 1) := by decide +kernel
theorem dX7_keep_19 : decode cX7_keep 19 = .ok (.getfield 16, 3) := by decide +kernel
theorem dX7_keep_22 : decode cX7_keep 22 = .ok (.sipush 462, 3) := by decide +kernel
theorem dX7_keep_25 : decode cX7_keep 25 = .ok (.iload_n 1, 1) := by decide +kernel
theorem dX7_keep_26 : decode cX7_keep 26 = .ok (.imul, 1) := by decide +kernel
theorem dX7_keep_27 : decode cX7_keep 27 = .ok (.iload_n 2, 1) := by decide +kernel
theorem dX7_keep_28 : decode cX7_keep 28 = .ok (.iadd, 1) := by decide +kernel
theorem dX7_keep_29 : decode cX7_keep 29 = .ok (.aload_n 0, 1) := by decide +kernel
theorem dX7_keep_30 : decode cX7_keep 30 = .ok (.getfield 7, 3) := by decide +kernel
theorem dX7_keep_33 : decode cX7_keep 33 = .ok (.iload_n 2, 1) := by decide +kernel
theorem dX7_keep_34 : decode cX7_keep 34 = .ok (.iaload, 1) := by decide +kernel
theorem dX7_keep_35 : decode cX7_keep 35 = .ok (.iastore, 1) := by decide +kernel
theorem dX7_keep_36 : decode cX7_keep 36 = .ok (.iinc 2 1, 3) := by decide +kernel
theorem dX7_keep_39 : decode cX7_keep 39 = .ok (.goto (-28), 3) := by decide +kernel
theorem dX7_keep_42 : decode cX7_keep 42 = .ok (.aload_n 0, 1) := by decide +kernel
theorem dX7_keep_43 : decode cX7_keep 43 = .ok (.dup, 1) := by decide +kernel
theorem dX7_keep_44 : decode cX7_keep 44 = .ok (.getfield 222, 3) := by decide +kernel
theorem dX7_keep_47 : decode cX7_keep 47 = .ok (.iconst 1, 1) := by decide +kernel
theorem dX7_keep_48 : decode cX7_keep 48 = .ok (.iload_n 1, 1) := by decide +kernel
theorem dX7_keep_49 : decode cX7_keep 49 = .ok (.ishl, 1) := by decide +kernel
theorem dX7_keep_50 : decode cX7_keep 50 = .ok (.ior, 1) := by decide +kernel
theorem dX7_keep_51 : decode cX7_keep 51 = .ok (.putfield 222, 3) := by decide +kernel
theorem dX7_keep_54 : decode cX7_keep 54 = .ok (.aload_n 0, 1) := by decide +kernel
theorem dX7_keep_55 : decode cX7_keep 55 = .ok (.invokevirtual 200, 3) := by decide +kernel
theorem dX7_keep_58 : decode cX7_keep 58 = .ok (.ireturn, 1) := by decide +kernel
set_option maxRecDepth 20000 in
theorem ggX7_back_X7_isImage : GoodIn wsX7_back wsX7_isImage := goodIn_r _ [7, 8, 9, 6, 10] (by decide +kernel) (by decide +kernel)
set_option maxRecDepth 20000 in
theorem gX7_back_X7_isImage : GoodIn wsX7_back (va_wsS RX7 219 yX7_isImage wsX7_isImage) := goodIn_app (goodIn_of _ (by decide +kernel)) ggX7_back_X7_isImage
set_option maxRecDepth 20000 in
theorem ggX7_back_X7_remember : GoodIn wsX7_back wsX7_remember := goodIn_r _ [14, 15, 16, 2, 29, 30, 31, 32, 33, 34, 35, 36, 37, 38, 39, 40, 41, 42, 43, 44, 45, 46, 47, 48, 49, 50, 51, 52, 53, 54, 55, 56, 57] (by decide +kernel) (by decide +kernel)
set_option maxRecDepth 20000 in
theorem gX7_back_X7_remember : GoodIn wsX7_back (wsV RX7 125 RX7 yX7_remember wsX7_remember) := goodIn_app (goodIn_of _ (by decide +kernel)) ggX7_back_X7_remember
set_option maxRecDepth 20000 in
theorem ggX7_back_X7_recipes : GoodIn wsX7_back wsX7_recipes := goodIn_r _ [20, 21, 22, 23, 6, 24, 25, 26, 27, 28, 2, 29, 30, 31, 32, 33, 34, 35, 36, 37, 38, 39, 40, 41, 42, 43, 44, 45, 46, 47, 48, 49, 50, 51, 52, 53, 54, 55, 56, 57] (by decide +kernel) (by decide +kernel)
set_option maxRecDepth 20000 in
theorem gX7_back_X7_recipes : GoodIn wsX7_back (wsV RX7 200 RX7 yX7_recipes wsX7_recipes) := goodIn_app (goodIn_of _ (by decide +kernel)) ggX7_back_X7_recipes
theorem dX7_back_0 : decode cX7_back 0 = .ok (.iload_n 1, 1) := by decide +kernel
theorem dX7_back_1 : decode cX7_back 1 = .ok (.invokestatic 219, 3) := by decide +kernel
theorem dX7_back_4 : decode cX7_back 4 = .ok (.ifCond .ne 5, 3) := by decide +kernel
theorem dX7_back_7 : decode cX7_back 7 = .ok (.iconst (-1), 1) := by decide +kernel
theorem dX7_back_8 : decode cX7_back 8 = .ok (.ireturn, 1) := by decide +kernel
theorem dX7_back_9 : decode cX7_back 9 = .ok (.aload_n 0, 1) := by decide +kernel
theorem dX7_back_10 : decode cX7_back 10 = .ok (.getfield 222, 3) := by decide +kernel
theorem dX7_back_13 : decode cX7_back 13 = .ok (.iload_n 1, 1) := by decide +kernel
theorem dX7_back_14 : decode cX7_back 14 = .ok (.ishr, 1) := by decide +kernel
theorem dX7_back_15 : decode cX7_back 15 = .ok (.iconst 1, 1) := by decide +kernel
theorem dX7_back_16 : decode cX7_back 16 = .ok (.iand, 1) := by decide +kernel
theorem dX7_back_17 : decode cX7_back 17 = .ok (.ifCond .ne 6, 3) := by decide +kernel
theorem dX7_back_20 : decode cX7_back 20 = .ok (.bipush (-2), 2) := by decide +kernel
theorem dX7_back_22 : decode cX7_back 22 = .ok (.ireturn, 1) := by decide +kernel
theorem dX7_back_23 : decode cX7_back 23 = .ok (.aload_n 0, 1) := by decide +kernel
theorem dX7_back_24 : decode cX7_back 24 = .ok (.invokevirtual 125, 3) := by decide +kernel
theorem dX7_back_27 : decode cX7_back 27 = .ok (.iconst 0, 1) := by decide +kernel
theorem dX7_back_28 : decode cX7_back 28 = .ok (.istore_n 2, 1) := by decide +kernel
theorem dX7_back_29 : decode cX7_back 29 = .ok (.iload_n 2, 1) := by decide +kernel
theorem dX7_back_30 : decode cX7_back 30 = .ok (.sipush 462, 3) := by decide +kernel
theorem dX7_back_33 : decode cX7_back 33 = .ok (.if_icmp .ge 27, 3) := by decide +kernel
theorem dX7_back_36 : decode cX7_back 36 = .ok (.aload_n 0, 1) := by decide +kernel
theorem dX7_back_37 : decode cX7_back 37 = .ok (.getfield 7, 3) := by decide +kernel
theorem dX7_back_40 : decode cX7_back 40 = .ok (.iload_n 2, 1) := by decide +kernel
theorem dX7_back_41 : decode cX7_back 41 = .ok (.aload_n 0, 1) := by decide +kernel
theorem dX7_back_42 : decode cX7_back 42 = .ok (.getfield 16, 3) := by decide +kernel
theorem dX7_back_45 : decode cX7_back 45 = .ok (.sipush 462, 3) := by decide +kernel
theorem dX7_back_48 : decode cX7_back 48 = .ok (.iload_n 1, 1) := by decide +kernel
theorem dX7_back_49 : decode cX7_back 49 = .ok (.imul, 1) := by decide +kernel
theorem dX7_back_50 : decode cX7_back 50 = .ok (.iload_n 2, 1) := by decide +kernel
theorem dX7_back_51 : decode cX7_back 51 = .ok (.iadd, 1) := by decide +kernel
theorem dX7_back_52 : decode cX7_back 52 = .ok (.iaload, 1) := by decide +kernel
theorem dX7_back_53 : decode cX7_back 53 = .ok (.iastore, 1) := by decide +kernel
theorem dX7_back_54 : decode cX7_back 54 = .ok (.iinc 2 1, 3) := by decide +kernel
theorem dX7_back_57 : decode cX7_back 57 = .ok (.goto (-28), 3) := by decide +kernel
theorem dX7_back_60 : decode cX7_back 60 = .ok (.aload_n 0, 1) := by decide +kernel
theorem dX7_back_61 : decode cX7_back 61 = .ok (.invokevirtual 200, 3) := by decide +kernel
theorem dX7_back_64 : decode cX7_back 64 = .ok (.ireturn, 1) := by decide +kernel
theorem dJ6_bitCount_0f7a4_0 : decode cJ6_bitCount_0f7a4 0 = .ok (.iload_n 0, 1) := by decide +kernel
theorem dJ6_bitCount_0f7a4_1 : decode cJ6_bitCount_0f7a4 1 = .ok (.iload_n 0, 1) := by decide +kernel
theorem dJ6_bitCount_0f7a4_2 : decode cJ6_bitCount_0f7a4 2 = .ok (.iconst 1, 1) := by decide +kernel
theorem dJ6_bitCount_0f7a4_3 : decode cJ6_bitCount_0f7a4 3 = .ok (.iushr, 1) := by decide +kernel
theorem dJ6_bitCount_0f7a4_4 : decode cJ6_bitCount_0f7a4 4 = .ok (.ldc_w 265, 3) := by decide +kernel
theorem dJ6_bitCount_0f7a4_7 : decode cJ6_bitCount_0f7a4 7 = .ok (.iand, 1) := by decide +kernel
theorem dJ6_bitCount_0f7a4_8 : decode cJ6_bitCount_0f7a4 8 = .ok (.isub, 1) := by decide +kernel
theorem dJ6_bitCount_0f7a4_9 : decode cJ6_bitCount_0f7a4 9 = .ok (.istore_n 0, 1) := by decide +kernel
theorem dJ6_bitCount_0f7a4_10 : decode cJ6_bitCount_0f7a4 10 = .ok (.iload_n 0, 1) := by decide +kernel
theorem dJ6_bitCount_0f7a4_11 : decode cJ6_bitCount_0f7a4 11 = .ok (.ldc_w 266, 3) := by decide +kernel
theorem dJ6_bitCount_0f7a4_14 : decode cJ6_bitCount_0f7a4 14 = .ok (.iand, 1) := by decide +kernel
theorem dJ6_bitCount_0f7a4_15 : decode cJ6_bitCount_0f7a4 15 = .ok (.iload_n 0, 1) := by decide +kernel
theorem dJ6_bitCount_0f7a4_16 : decode cJ6_bitCount_0f7a4 16 = .ok (.iconst 2, 1) := by decide +kernel
theorem dJ6_bitCount_0f7a4_17 : decode cJ6_bitCount_0f7a4 17 = .ok (.iushr, 1) := by decide +kernel
theorem dJ6_bitCount_0f7a4_18 : decode cJ6_bitCount_0f7a4 18 = .ok (.ldc_w 266, 3) := by decide +kernel
theorem dJ6_bitCount_0f7a4_21 : decode cJ6_bitCount_0f7a4 21 = .ok (.iand, 1) := by decide +kernel
theorem dJ6_bitCount_0f7a4_22 : decode cJ6_bitCount_0f7a4 22 = .ok (.iadd, 1) := by decide +kernel
theorem dJ6_bitCount_0f7a4_23 : decode cJ6_bitCount_0f7a4 23 = .ok (.istore_n 0, 1) := by decide +kernel
theorem dJ6_bitCount_0f7a4_24 : decode cJ6_bitCount_0f7a4 24 = .ok (.iload_n 0, 1) := by decide +kernel
theorem dJ6_bitCount_0f7a4_25 : decode cJ6_bitCount_0f7a4 25 = .ok (.iload_n 0, 1) := by decide +kernel
theorem dJ6_bitCount_0f7a4_26 : decode cJ6_bitCount_0f7a4 26 = .ok (.iconst 4, 1) := by decide +kernel
theorem dJ6_bitCount_0f7a4_27 : decode cJ6_bitCount_0f7a4 27 = .ok (.iushr, 1) := by decide +kernel
theorem dJ6_bitCount_0f7a4_28 : decode cJ6_bitCount_0f7a4 28 = .ok (.iadd, 1) := by decide +kernel
theorem dJ6_bitCount_0f7a4_29 : decode cJ6_bitCount_0f7a4 29 = .ok (.ldc_w 267, 3) := by decide +kernel
theorem dJ6_bitCount_0f7a4_32 : decode cJ6_bitCount_0f7a4 32 = .ok (.iand, 1) := by decide +kernel
theorem dJ6_bitCount_0f7a4_33 : decode cJ6_bitCount_0f7a4 33 = .ok (.istore_n 0, 1) := by decide +kernel
theorem dJ6_bitCount_0f7a4_34 : decode cJ6_bitCount_0f7a4 34 = .ok (.iload_n 0, 1) := by decide +kernel
theorem dJ6_bitCount_0f7a4_35 : decode cJ6_bitCount_0f7a4 35 = .ok (.iload_n 0, 1) := by decide +kernel
theorem dJ6_bitCount_0f7a4_36 : decode cJ6_bitCount_0f7a4 36 = .ok (.bipush 8, 2) := by decide +kernel
theorem dJ6_bitCount_0f7a4_38 : decode cJ6_bitCount_0f7a4 38 = .ok (.iushr, 1) := by decide +kernel
theorem dJ6_bitCount_0f7a4_39 : decode cJ6_bitCount_0f7a4 39 = .ok (.iadd, 1) := by decide +kernel
theorem dJ6_bitCount_0f7a4_40 : decode cJ6_bitCount_0f7a4 40 = .ok (.istore_n 0, 1) := by decide +kernel
theorem dJ6_bitCount_0f7a4_41 : decode cJ6_bitCount_0f7a4 41 = .ok (.iload_n 0, 1) := by decide +kernel
theorem dJ6_bitCount_0f7a4_42 : decode cJ6_bitCount_0f7a4 42 = .ok (.iload_n 0, 1) := by decide +kernel
theorem dJ6_bitCount_0f7a4_43 : decode cJ6_bitCount_0f7a4 43 = .ok (.bipush 16, 2) := by decide +kernel
theorem dJ6_bitCount_0f7a4_45 : decode cJ6_bitCount_0f7a4 45 = .ok (.iushr, 1) := by decide +kernel
theorem dJ6_bitCount_0f7a4_46 : decode cJ6_bitCount_0f7a4 46 = .ok (.iadd, 1) := by decide +kernel
theorem dJ6_bitCount_0f7a4_47 : decode cJ6_bitCount_0f7a4 47 = .ok (.istore_n 0, 1) := by decide +kernel
theorem dJ6_bitCount_0f7a4_48 : decode cJ6_bitCount_0f7a4 48 = .ok (.iload_n 0, 1) := by decide +kernel
theorem dJ6_bitCount_0f7a4_49 : decode cJ6_bitCount_0f7a4 49 = .ok (.bipush 63, 2) := by decide +kernel
theorem dJ6_bitCount_0f7a4_51 : decode cJ6_bitCount_0f7a4 51 = .ok (.iand, 1) := by decide +kernel
theorem dJ6_bitCount_0f7a4_52 : decode cJ6_bitCount_0f7a4 52 = .ok (.ireturn, 1) := by decide +kernel
theorem dJ9_floorMod_7cf53_0 : decode cJ9_floorMod_7cf53 0 = .ok (.iload_n 0, 1) := by decide +kernel
theorem dJ9_floorMod_7cf53_1 : decode cJ9_floorMod_7cf53 1 = .ok (.iload_n 1, 1) := by decide +kernel
theorem dJ9_floorMod_7cf53_2 : decode cJ9_floorMod_7cf53 2 = .ok (.irem, 1) := by decide +kernel
theorem dJ9_floorMod_7cf53_3 : decode cJ9_floorMod_7cf53 3 = .ok (.istore_n 2, 1) := by decide +kernel
theorem dJ9_floorMod_7cf53_4 : decode cJ9_floorMod_7cf53 4 = .ok (.iload_n 0, 1) := by decide +kernel
theorem dJ9_floorMod_7cf53_5 : decode cJ9_floorMod_7cf53 5 = .ok (.iload_n 1, 1) := by decide +kernel
theorem dJ9_floorMod_7cf53_6 : decode cJ9_floorMod_7cf53 6 = .ok (.ixor, 1) := by decide +kernel
theorem dJ9_floorMod_7cf53_7 : decode cJ9_floorMod_7cf53 7 = .ok (.ifCond .ge 11, 3) := by decide +kernel
theorem dJ9_floorMod_7cf53_10 : decode cJ9_floorMod_7cf53 10 = .ok (.iload_n 2, 1) := by decide +kernel
theorem dJ9_floorMod_7cf53_11 : decode cJ9_floorMod_7cf53 11 = .ok (.ifCond .eq 7, 3) := by decide +kernel
theorem dJ9_floorMod_7cf53_14 : decode cJ9_floorMod_7cf53 14 = .ok (.iload_n 2, 1) := by decide +kernel
theorem dJ9_floorMod_7cf53_15 : decode cJ9_floorMod_7cf53 15 = .ok (.iload_n 1, 1) := by decide +kernel
theorem dJ9_floorMod_7cf53_16 : decode cJ9_floorMod_7cf53 16 = .ok (.iadd, 1) := by decide +kernel
theorem dJ9_floorMod_7cf53_17 : decode cJ9_floorMod_7cf53 17 = .ok (.ireturn, 1) := by decide +kernel
theorem dJ9_floorMod_7cf53_18 : decode cJ9_floorMod_7cf53 18 = .ok (.iload_n 2, 1) := by decide +kernel
theorem dJ9_floorMod_7cf53_19 : decode cJ9_floorMod_7cf53 19 = .ok (.ireturn, 1) := by decide +kernel
theorem dJ9_max_7cf53_0 : decode cJ9_max_7cf53 0 = .ok (.iload_n 0, 1) := by decide +kernel
theorem dJ9_max_7cf53_1 : decode cJ9_max_7cf53 1 = .ok (.iload_n 1, 1) := by decide +kernel
theorem dJ9_max_7cf53_2 : decode cJ9_max_7cf53 2 = .ok (.if_icmp .lt 7, 3) := by decide +kernel
theorem dJ9_max_7cf53_5 : decode cJ9_max_7cf53 5 = .ok (.iload_n 0, 1) := by decide +kernel
theorem dJ9_max_7cf53_6 : decode cJ9_max_7cf53 6 = .ok (.goto 4, 3) := by decide +kernel
theorem dJ9_max_7cf53_9 : decode cJ9_max_7cf53 9 = .ok (.iload_n 1, 1) := by decide +kernel
theorem dJ9_max_7cf53_10 : decode cJ9_max_7cf53 10 = .ok (.ireturn, 1) := by decide +kernel
theorem dJ9_min_7cf53_0 : decode cJ9_min_7cf53 0 = .ok (.iload_n 0, 1) := by decide +kernel
theorem dJ9_min_7cf53_1 : decode cJ9_min_7cf53 1 = .ok (.iload_n 1, 1) := by decide +kernel
theorem dJ9_min_7cf53_2 : decode cJ9_min_7cf53 2 = .ok (.if_icmp .gt 7, 3) := by decide +kernel
theorem dJ9_min_7cf53_5 : decode cJ9_min_7cf53 5 = .ok (.iload_n 0, 1) := by decide +kernel
theorem dJ9_min_7cf53_6 : decode cJ9_min_7cf53 6 = .ok (.goto 4, 3) := by decide +kernel
theorem dJ9_min_7cf53_9 : decode cJ9_min_7cf53 9 = .ok (.iload_n 1, 1) := by decide +kernel
theorem dJ9_min_7cf53_10 : decode cJ9_min_7cf53 10 = .ok (.ireturn, 1) := by decide +kernel
theorem dJ7_fill_53178_0 : decode cJ7_fill_53178 0 = .ok (.iconst 0, 1) := by decide +kernel
theorem dJ7_fill_53178_1 : decode cJ7_fill_53178 1 = .ok (.istore_n 2, 1) := by decide +kernel
theorem dJ7_fill_53178_2 : decode cJ7_fill_53178 2 = .ok (.aload_n 0, 1) := by decide +kernel
theorem dJ7_fill_53178_3 : decode cJ7_fill_53178 3 = .ok (.arraylength, 1) := by decide +kernel
theorem dJ7_fill_53178_4 : decode cJ7_fill_53178 4 = .ok (.istore_n 3, 1) := by decide +kernel
theorem dJ7_fill_53178_5 : decode cJ7_fill_53178 5 = .ok (.iload_n 2, 1) := by decide +kernel
theorem dJ7_fill_53178_6 : decode cJ7_fill_53178 6 = .ok (.iload_n 3, 1) := by decide +kernel
theorem dJ7_fill_53178_7 : decode cJ7_fill_53178 7 = .ok (.if_icmp .ge 13, 3) := by decide +kernel
theorem dJ7_fill_53178_10 : decode cJ7_fill_53178 10 = .ok (.aload_n 0, 1) := by decide +kernel
theorem dJ7_fill_53178_11 : decode cJ7_fill_53178 11 = .ok (.iload_n 2, 1) := by decide +kernel
theorem dJ7_fill_53178_12 : decode cJ7_fill_53178 12 = .ok (.iload_n 1, 1) := by decide +kernel
theorem dJ7_fill_53178_13 : decode cJ7_fill_53178 13 = .ok (.iastore, 1) := by decide +kernel
theorem dJ7_fill_53178_14 : decode cJ7_fill_53178 14 = .ok (.iinc 2 1, 3) := by decide +kernel
theorem dJ7_fill_53178_17 : decode cJ7_fill_53178 17 = .ok (.goto (-12), 3) := by decide +kernel
theorem dJ7_fill_53178_20 : decode cJ7_fill_53178 20 = .ok (.return_, 1) := by decide +kernel
end
section
/-! ===== 03.frame: the abstract heap by ids, and one judgement AW over it ===== -/
abbrev zSh : Type := Nat → Option (Nat ⊕ (Nat × Nat))
def zN : Nat → Nat := fun c => match c with
  | 0 => 8
  | 1 => 3
  | 2 => 8
  | 3 => 2
  | 4 => 7
  | 5 => 5
  | 6 => 11
  | _ => 29
def zT : Nat → Nat → FieldType := fun c => match c with
  | 0 => tyX0
  | 1 => tyX1
  | 2 => tyX2
  | 3 => tyX3
  | 4 => tyX4
  | 5 => tyX5
  | 6 => tyX6
  | _ => tyX7
def zfld (ty : FieldType) (x : Int32) (r : Option Nat) : Value := match ty with
  | .int => .int x
  | .boolean => .int x
  | _ => va_rf r
def zV (ρ : Nat → Nat) (v : Value) : Value := match v with
  | .ref a => .ref (ρ a)
  | v => v
def zE (cs : ClassId × ClassId × ClassId) (ρ : Nat → Nat) (k : Nat ⊕ (Nat × Nat)) (f : Nat → Int32) (p : Nat → Option Nat) : va_E := match k with
  | .inl c => .inr (c, (List.range (zN c)).map (fun j => zfld (zT c j) (f j) ((p j).map ρ)))
  | .inr (0, n) => .inl (cs.1, n, .inl f)
  | .inr (1, n) => .inl (cs.2.1, n, .inl f)
  | .inr (_, n) => .inl (cs.2.2, n, .inr (.inr (.inr (.inr (fun j => (p j).map ρ)))))
def zg (cs : ClassId × ClassId × ClassId) (ρ : Nat → Nat) (sh : zSh) (F : Nat → Nat → Int32) (P : Nat → Nat → Option Nat) (i : Nat) : Nat × va_E := (ρ i, zE cs ρ ((sh i).getD (.inl 0)) (F i) (P i))
def zR (D : va_G) (cs : ClassId × ClassId × ClassId) (ρ : Nat → Nat) (sh : zSh) (F : Nat → Nat → Int32) (P : Nat → Nat → Option Nat) (A : Nat → Prop) (H : Heap) : Prop :=
  ∃ L : List Nat, L.Nodup ∧ (∀ i, i ∈ L ↔ sh i ≠ none) ∧ va_P D vwCl (L.map (zg cs ρ sh F P)) H ∧ va_D A (L.map (zg cs ρ sh F P)) ∧ ∀ i j b, sh i ≠ none → P i j = some b → sh b ≠ none
def zNM : List (String × Nat × MethodName × String) := [(RX6, 21, yX4_init, RX6), (RX6, 256, yX3_init, RX6), (RX6, 28, yX5_init, RX6), (RX6, 35, yX1_init, RX6), (RX6, 48, yX2_init, RX6), (RX0, 106, yX6_hasBit, RX6), (RX0, 42, yX6_copy, RX6), (RX0, 46, yX6_at, RX6), (RX0, 82, yX6_put, RX6), (RX1, 28, yX6_roomAt, RX6), (RX1, 36, yX6_stateAt, RX6), (RX2, 67, yX6_put, RX6), (RX2, 70, yX6_at, RX6), (RX2, 73, yX6_isThing, RX6), (RX3, 18, yX4_init, RX6), (RX4, 30, yX6_copy, RX6), (RX5, 11, yX4_init, RX6), (RX5, 40, yX6_add, RX6), (RX5, 44, yX6_at, RX6), (RX5, 66, yX6_divideUp, RX6)]
def zNF : List (String × Nat × String × String × String × String) := [(RX6, 137, RX4, "amounts", "[I", RX6), (RX6, 154, RX4, "brought", "[I", RX6), (RX6, 191, RX4, "gathered", "[I", RX6), (RX6, 194, RX4, "batches", "I", RX6), (RX6, 206, RX4, "made", "[I", RX6), (RX6, 208, RX4, "used", "[I", RX6), (RX6, 211, RX4, "returned", "[I", RX6), (RX6, 228, RX5, "bench", "LThingMaker$Stock;", RX6), (RX6, 71, RX2, "faultKind", "I", RX6), (RX6, 72, RX2, "faultPlace", "I", RX6), (RX6, 89, RX2, "made", "I", RX6), (RX0, 73, RX2, "made", "I", RX6), (RX0, 79, RX2, "yielded", "I", RX6), (RX0, 86, RX2, "count", "I", RX6), (RX0, 89, RX2, "ingredients", "[I", RX6), (RX0, 90, RX2, "amounts", "[I", RX6), (RX5, 113, RX4, "used", "[I", RX6), (RX5, 119, RX4, "returned", "[I", RX6), (RX5, 122, RX4, "gathered", "[I", RX6), (RX5, 36, RX4, "amounts", "[I", RX6), (RX5, 86, RX4, "made", "[I", RX6), (RX5, 93, RX4, "batches", "I", RX6)]
def zty (cs : ClassId × ClassId × ClassId) : List (ClassId × FieldType) := [(cs.1, .int), (cs.2.1, .boolean), (cs.2.2, .object RX3)]
def zK (D : va_G) (cs : ClassId × ClassId × ClassId) (U : State) : Prop := va_K D vwCl (zty cs) U ∧ (∀ q ∈ zNM, va_Nw (.methodLinkNest q.1 q.2.1 q.2.2.1 q.2.2.2) U) ∧ (∀ q ∈ zNF, va_Nw (.fieldLinkNest q.1 q.2.1 q.2.2.1 q.2.2.2.1 q.2.2.2.2.1 q.2.2.2.2.2) U) ∧ va_AO RX3 U
theorem zK.warm {D : va_G} {cs : ClassId × ClassId × ClassId} {s U : State} (h : zK D cs s) (hW : s.WarmedH U.vm) : zK D cs U :=
  ⟨va_K.moved hW.alike h.1, fun q hq => va_Nw.warmM hW (h.2.1 q hq), fun q hq => va_Nw.warmF hW (h.2.2.1 q hq), va_AO.moved hW.alike h.2.2.2⟩
theorem zK.same {D : va_G} {cs : ClassId × ClassId × ClassId} {s U : State} (h : zK D cs s) (e : s.vm = U.vm) : zK D cs U :=
  ⟨va_K.moved (by rw [e]; exact Vm.Alike.refl U.vm) h.1, fun q hq => va_Nw.same rfl e (h.2.1 q hq), fun q hq => va_Nw.same rfl e (h.2.2.1 q hq), va_AO.moved (by rw [e]; exact Vm.Alike.refl U.vm) h.2.2.2⟩
def zA (ρ : Nat → Nat) (sh : zSh) (sz : Nat) : Nat → Prop := fun q => (∃ i, sh i ≠ none ∧ ρ i = q) ∨ sz ≤ q
def zExt (ρ : Nat → Nat) (sh : zSh) (ρ' : Nat → Nat) (sh' : zSh) : Prop := (∀ i, ρ' i ≠ ρ i → sh i = none ∧ sh' i ≠ none) ∧ ∀ i, sh i ≠ none → sh' i = sh i
theorem zExt.refl {ρ : Nat → Nat} {sh : zSh} : zExt ρ sh ρ sh := ⟨fun _ h => absurd rfl h, fun _ _ => rfl⟩
theorem zExt.dom {ρ ρ' : Nat → Nat} {sh sh' : zSh} (h : zExt ρ sh ρ' sh') {i : Nat} (hi : sh i ≠ none) : ρ' i = ρ i ∧ sh' i ≠ none := by
  refine ⟨?_, by rw [h.2 i hi]; exact hi⟩
  by_cases e : ρ' i = ρ i
  · exact e
  · exact absurd (h.1 i e).1 hi
theorem zExt.trans {ρ ρ' ρ'' : Nat → Nat} {sh sh' sh'' : zSh} (h : zExt ρ sh ρ' sh') (g : zExt ρ' sh' ρ'' sh'') : zExt ρ sh ρ'' sh'' := by
  refine ⟨fun i hi => ?_, fun i hi => ?_⟩
  · by_cases e : ρ' i = ρ i
    · have h2 := g.1 i (by rw [e]; exact hi)
      refine ⟨?_, h2.2⟩
      by_cases hs : sh i = none
      · exact hs
      · exact absurd h2.1 (h.dom hs).2
    · have h1 := h.1 i e
      refine ⟨h1.1, ?_⟩
      rw [g.2 i h1.2]
      exact h1.2
  · rw [g.2 i (h.dom hi).2, h.2 i hi]
theorem zExt.same {ρ ρ' : Nat → Nat} {sh : zSh} (h : zExt ρ sh ρ' sh) : ρ' = ρ := by
  funext i
  by_cases e : ρ' i = ρ i
  · exact e
  · exact absurd (h.1 i e).1 (h.1 i e).2
def zc1 (v : Value) : Prop := v.category = 1
def zL (lsA : Array Slot) (ρ : Nat → Nat) (ls : List (Option Value)) : Prop := lsA.size = ls.length ∧ lv_wf lsA ∧ ∀ (i : Nat) (v : Value), ls[i]? = some (some v) → lsA[i]? = some (Slot.val (zV ρ v)) ∧ zc1 v
/-- a method, for good: its bytes, class, words, height, new cells, their slots, what it returns, locals, name -/
abbrev ZM : Type := ByteArray × String × List Cond × Nat × Nat × Nat × Option FieldType × Nat × String
def zrm (h mc ms : Nat) : Room := { frames := h + 2, cells := mc, slots := ms, locals := 60 * (h + 1) }
abbrev ZX : Type := Program × Launch × Env × Room × State × MethodId × Array Value × List Frame × Method × Code × va_G × (ClassId × ClassId × ClassId) × (Nat → Nat) × zSh
abbrev zxp (X : ZX) : Program := X.1
abbrev zxl (X : ZX) : Launch := X.2.1
abbrev zxe (X : ZX) : Env := X.2.2.1
abbrev zxR (X : ZX) : Room := X.2.2.2.1
abbrev zxs (X : ZX) : State := X.2.2.2.2.1
abbrev zxm (X : ZX) : MethodId := X.2.2.2.2.2.1
abbrev zxa (X : ZX) : Array Value := X.2.2.2.2.2.2.1
abbrev zxb (X : ZX) : List Frame := X.2.2.2.2.2.2.2.1
abbrev zxt (X : ZX) : Method := X.2.2.2.2.2.2.2.2.1
abbrev zxc (X : ZX) : Code := X.2.2.2.2.2.2.2.2.2.1
abbrev zxD (X : ZX) : va_G := X.2.2.2.2.2.2.2.2.2.2.1
abbrev zxC (X : ZX) : ClassId × ClassId × ClassId := X.2.2.2.2.2.2.2.2.2.2.2.1
abbrev zxr (X : ZX) : Nat → Nat := X.2.2.2.2.2.2.2.2.2.2.2.2.1
abbrev zxh (X : ZX) : zSh := X.2.2.2.2.2.2.2.2.2.2.2.2.2
def zAx (X : ZX) : Nat → Prop := zA (zxr X) (zxh X) (zxs X).heap.size
/-- what holds all through the method: the machine, its code, its words -/
def zok (M : ZM) (X : ZX) : Prop :=
  (zxp X).tables.exec = Jvm.exec ∧ (zxc X).code = M.1 ∧ (zxc X).maxLocals = M.2.2.2.2.2.2.2.1 ∧ (zxs X).vm.findClass M.2.1 = some (zxm X).cls ∧ (∀ w ∈ M.2.2.1, w.before (zxa X) (zxs X) = true) ∧ (zxt X).locks = false ∧ (zxt X).sig.returnType = M.2.2.2.2.2.2.1 ∧ zxR X = zrm M.2.2.2.1 M.2.2.2.2.1 M.2.2.2.2.2.1 ∧ zK (zxD X) (zxC X) (zxs X) ∧ (zxt X).name = M.2.2.2.2.2.2.2.2
def AW (M : ZM) (X : ZX) (Q : State → Prop) (pc : Nat) (ls : List (Option Value)) (st : List Value) (ρ : Nat → Nat) (sh : zSh) (F : Nat → Nat → Int32) (P : Nat → Nat → Option Nat) (k n : Nat) : Prop :=
  zok M X → zExt (zxr X) (zxh X) ρ sh → ls.length = M.2.2.2.2.2.2.2.1 → ∀ (H : Heap) (locs : List Loc) (lsA : Array Slot), zR (zxD X) (zxC X) ρ sh F P (zAx X) H → va_S (zAx X) (zxs X).heap H locs → zL lsA ρ ls →
    W (zxp X) (zxl X) (zxe X) (zxR X) (zxs X) (zxm X) (zxa X) (zxb X) (zxt X) (zxc X) H locs k n Q (F0 (zxm X) pc lsA (st.map (zV ρ)))
/-! the end of a method -/
def zPost (D : va_G) (cs : ClassId × ClassId × ClassId) (ρ : Nat → Nat) (sh : zSh) (sz : Nat) (r : Option Value) (sh' : zSh) (F' : Nat → Nat → Int32) (P' : Nat → Nat → Option Nat) : Array Value → State → Outcome → State → Prop :=
  fun _ st oc t => (∃ ρ' : Nat → Nat, oc = .returned (r.map (zV ρ')) ∧ zExt ρ sh ρ' sh' ∧ zR D cs ρ' sh' F' P' (zA ρ sh sz) t.heap) ∧ va_F (zA ρ sh sz) st t
def zPre (D : va_G) (cs : ClassId × ClassId × ClassId) (ρ : Nat → Nat) (sh : zSh) (F : Nat → Nat → Int32) (P : Nat → Nat → Option Nat) (sz : Nat) : State → Prop :=
  fun U => U.heap.size = sz ∧ zR D cs ρ sh F P (fun _ => True) U.heap ∧ zK D cs U
def zMet (y : MethodName) (ws : List Cond) (h mc ms : Nat) (as : List Value) (sh : zSh) (F : Nat → Nat → Int32) (P : Nat → Nat → Option Nat) (r : Option Value) (sh' : zSh) (F' : Nat → Nat → Int32) (P' : Nat → Nat → Option Nat) : Prop :=
  ∀ (l : Launch) (D : va_G) (cs : ClassId × ClassId × ClassId) (ρ : Nat → Nat) (sz : Nat), Met l y ws (zrm h mc ms) (va_Pc (as.map (zV ρ)) (zPre D cs ρ sh F P sz)) (zPost D cs ρ sh sz r sh' F' P') mc ms (zA ρ sh sz)
def zMQ (M : ZM) (X : ZX) (r : Option Value) (sh' : zSh) (F' : Nat → Nat → Int32) (P' : Nat → Nat → Option Nat) : State → Prop :=
  MQ (zxb X) (zPost (zxD X) (zxC X) (zxr X) (zxh X) (zxs X).heap.size r sh' F' P') (zxa X) (zxs X) M.2.2.2.2.1 M.2.2.2.2.2.1 (zAx X)
theorem zR.weaken {D : va_G} {cs : ClassId × ClassId × ClassId} {ρ : Nat → Nat} {sh : zSh} {F : Nat → Nat → Int32} {P : Nat → Nat → Option Nat} {A B : Nat → Prop} {H : Heap} (h : zR D cs ρ sh F P A H) (hB : ∀ i, sh i ≠ none → A (ρ i) → B (ρ i)) : zR D cs ρ sh F P B H := by
  obtain ⟨L, h1, h2, h3, h4, h5⟩ := h
  refine ⟨L, h1, h2, h3, h4.weaken (fun k q hk hq => ?_), h5⟩
  obtain ⟨i, hi, rfl⟩ := List.mem_map.mp (List.mem_of_getElem? hk)
  exact hB i ((h2 i).mp hi) hq
theorem zR.place {D : va_G} {cs : ClassId × ClassId × ClassId} {ρ : Nat → Nat} {sh : zSh} {F : Nat → Nat → Int32} {P : Nat → Nat → Option Nat} {A : Nat → Prop} {H : Heap} (h : zR D cs ρ sh F P A H) {i : Nat} {k : Nat ⊕ (Nat × Nat)} (hi : sh i = some k) :
    ∃ (L : List Nat) (q0 : Nat), L.Nodup ∧ (∀ i, i ∈ L ↔ sh i ≠ none) ∧ va_P D vwCl (L.map (zg cs ρ sh F P)) H ∧ va_D A (L.map (zg cs ρ sh F P)) ∧ L[q0]? = some i ∧ (L.map (zg cs ρ sh F P))[q0]? = some (ρ i, zE cs ρ k (F i) (P i)) := by
  obtain ⟨L, h1, h2, h3, h4, -⟩ := h
  obtain ⟨q0, hq⟩ := List.getElem?_of_mem ((h2 i).mpr (by rw [hi]; exact fun e => by cases e))
  refine ⟨L, q0, h1, h2, h3, h4, hq, ?_⟩
  rw [List.getElem?_map, hq]
  simp [zg, hi]
/-- a cell written -/
theorem zset {L : List Nat} {g g' : Nat → Nat × va_E} {q0 i : Nat} (hn : L.Nodup) (hq : L[q0]? = some i) (hg : ∀ j, j ≠ i → g' j = g j) : (L.map g).set q0 (g' i) = L.map g' := by
  have hl := (List.getElem?_eq_some_iff.mp hq).1
  refine List.ext_getElem? fun k => ?_
  by_cases hk : k = q0
  · subst hk
    rw [List.getElem?_set_self (by simpa using hl), List.getElem?_map, hq]
    rfl
  · rw [List.getElem?_set_ne (Ne.symm hk), List.getElem?_map, List.getElem?_map]
    cases hx : L[k]? with
    | none => rfl
    | some j =>
      have hj : j ≠ i := by
        intro e
        subst e
        exact hk ((List.getElem?_inj (List.getElem?_eq_some_iff.mp hx).1 hn).mp (hx.trans hq.symm))
      simp [hg j hj]
def zu (F : Nat → Nat → Int32) (i k : Nat) (x : Int32) : Nat → Nat → Int32 := fun j => if j = i then upd (F i) k x else F j
def zuP (P : Nat → Nat → Option Nat) (i k : Nat) (x : Option Nat) : Nat → Nat → Option Nat := fun j => if j = i then va_up (P i) k x else P j
/-! locals -/
theorem zV_cat (ρ : Nat → Nat) (v : Value) : (zV ρ v).category = v.category := by cases v <;> rfl
def zp (ρ : Nat → Nat) (ls : List (Option Value)) : List (Nat × Value) := (List.range ls.length).filterMap (fun i => match ls[i]? with
  | some (some v) => some (i, zV ρ v)
  | _ => none)
theorem zp_mem {ρ : Nat → Nat} {ls : List (Option Value)} {i : Nat} {v : Value} (h : ls[i]? = some (some v)) : (i, zV ρ v) ∈ zp ρ ls := by
  refine List.mem_filterMap.mpr ⟨i, List.mem_range.mpr (List.getElem?_eq_some_iff.mp h).1, ?_⟩
  rw [h]
theorem zp_of {ρ : Nat → Nat} {ls : List (Option Value)} {q : Nat × Value} (h : q ∈ zp ρ ls) : ∃ v, ls[q.1]? = some (some v) ∧ q.2 = zV ρ v := by
  obtain ⟨i, -, hi⟩ := List.mem_filterMap.mp h
  cases hv : ls[i]? with
  | none => rw [hv] at hi; cases hi
  | some o =>
    cases o with
    | none => rw [hv] at hi; cases hi
    | some v =>
      rw [hv] at hi
      cases hi
      exact ⟨v, hv, rfl⟩
theorem zL_has {lsA : Array Slot} {ρ : Nat → Nat} {ls : List (Option Value)} (h : zL lsA ρ ls) : lv_has lsA ls.length (zp ρ ls) :=
  ⟨h.1, h.2.1, fun q hq => by
    obtain ⟨v, h1, h2⟩ := zp_of hq
    rw [h2]
    exact (h.2.2 _ _ h1).1⟩
theorem zL_back {lsA ls' : Array Slot} {ρ : Nat → Nat} {ls : List (Option Value)} {i : Nat} {v : Value} (h : zL lsA ρ ls)
    (h' : lv_has ls' ls.length ((i, zV ρ v) :: (zp ρ ls).filter (fun q => !(q.1 == i) && !(q.1 + 1 == i && q.2.category == 2)))) (hc : v.category = 1) : zL ls' ρ (ls.set i (some v)) := by
  refine ⟨by rw [List.length_set]; exact h'.1, h'.2.1, fun j u hj => ?_⟩
  by_cases e : j = i
  · subst e
    rw [List.getElem?_set] at hj
    rw [if_pos rfl] at hj
    split at hj
    · cases hj
      exact ⟨h'.2.2 _ List.mem_cons_self, hc⟩
    · cases hj
  · rw [List.getElem?_set_ne (Ne.symm e)] at hj
    refine ⟨h'.2.2 (j, zV ρ u) (List.mem_cons_of_mem _ (List.mem_filter.mpr ⟨zp_mem hj, ?_⟩)), (h.2.2 _ _ hj).2⟩
    have hu : u.category = 1 := (h.2.2 _ _ hj).2
    simp [e, zV_cat, hu]
theorem zL_ext {lsA : Array Slot} {ρ ρ' : Nat → Nat} {ls : List (Option Value)} (h : zL lsA ρ ls) (hr : ∀ j, some (Value.ref j) ∈ ls → ρ' j = ρ j) : zL lsA ρ' ls := by
  refine ⟨h.1, h.2.1, fun i v hv => ?_⟩
  obtain ⟨h1, h2⟩ := h.2.2 i v hv
  refine ⟨?_, h2⟩
  rw [h1]
  cases v with
  | ref j => simp [zV, hr j (List.mem_of_getElem? hv)]
  | _ => rfl
theorem zst_ext {ρ ρ' : Nat → Nat} {st : List Value} (hr : ∀ j, Value.ref j ∈ st → ρ' j = ρ j) : st.map (zV ρ') = st.map (zV ρ) := by
  refine List.map_congr_left fun v hv => ?_
  cases v with
  | ref j => simp [zV, hr j hv]
  | _ => rfl
/-! fields -/
def zFd (C : String) (T : u_T) (N ci kf : Nat) (ty : FieldType) : Prop :=
  vwCl[ci]? = some (C, T, N) ∧ zN ci = N ∧ kf < N ∧ zT ci kf = ty ∧ parseFieldDescriptor (T kf).2.2.1 = some ty ∧ (T kf).1 = C ∧ (∀ k, k < N → parseFieldDescriptor (T k).2.2.1 = some (zT ci k)) ∧ ∀ a, a < N → ∀ b, b < N → a ≠ b → (T a).2.1 ≠ (T b).2.1
theorem zfs_get {ρ : Nat → Nat} {c kf : Nat} {f : Nat → Int32} {p : Nat → Option Nat} (h : kf < zN c) : ((List.range (zN c)).map (fun j => zfld (zT c j) (f j) ((p j).map ρ)))[kf]? = some (zfld (zT c kf) (f kf) ((p kf).map ρ)) := by
  rw [List.getElem?_map, List.getElem?_range h]
  rfl
theorem zfs_set {ρ : Nat → Nat} {c kf : Nat} {f g : Nat → Int32} {p q : Nat → Option Nat} {v : Value} (h : kf < zN c) (hv : zfld (zT c kf) (g kf) ((q kf).map ρ) = v) (hg : ∀ j, j ≠ kf → g j = f j ∧ q j = p j) :
    ((List.range (zN c)).map (fun j => zfld (zT c j) (f j) ((p j).map ρ))).set kf v = (List.range (zN c)).map (fun j => zfld (zT c j) (g j) ((q j).map ρ)) := by
  refine List.ext_getElem? fun k => ?_
  by_cases hk : k = kf
  · subst hk
    rw [List.getElem?_set_self (by simpa using h), zfs_get h, hv]
  · rw [List.getElem?_set_ne (Ne.symm hk), List.getElem?_map, List.getElem?_map]
    cases hx : (List.range (zN c))[k]? with
    | none => rfl
    | some j =>
      have hj : j = k := by
        have h1 := List.getElem?_eq_some_iff.mp hx
        obtain ⟨h2, h3⟩ := h1
        simpa using h3.symm
      subst hj
      simp [hg j hk]
def zCal (y : MethodName) (w : List Cond) (na : Nat) (ret : Option FieldType) : Prop := (∃ (bytes : ByteArray) (maxL : Nat) (w' : List Cond), w = Cond.code y bytes maxL ret :: w' ∧ maxL ≤ 41) ∧ y.cls ≠ "java/lang/invoke/MethodHandle" ∧ y.cls ≠ "java/lang/invoke/VarHandle" ∧ (parseMethodDescriptor y.desc).map (fun d => d.parameters.length) = some na
end
section
/-! ===== 04.rows: one instruction, one row, over AW (by program) ===== -/
section ZROWS
variable {M : ZM} {X : ZX} {Q : State → Prop} {pc : Nat} {ls : List (Option Value)} {st : List Value} {ρ : Nat → Nat} {sh : zSh} {F : Nat → Nat → Int32} {P : Nat → Nat → Option Nat} {k n : Nat}
theorem aw_iconst {z : Int} {v : Int32} (hd : decode M.1 pc = .ok (.iconst z, 1)) (hv : Int32.ofInt z = v) (kk : AW M X Q (pc + 1) ls (.int v :: st) ρ sh F P k n) : AW M X Q pc ls st ρ sh F P k n := fun ok e el H locs lsA r hS hl => lv_iconst ok.1 ok.2.1 hd hv (kk ok e el H locs lsA r hS hl)
theorem aw_bipush {z : Int} {v : Int32} (hd : decode M.1 pc = .ok (.bipush z, 2)) (hv : (Int8.ofInt z).toInt32 = v) (kk : AW M X Q (pc + 2) ls (.int v :: st) ρ sh F P k n) : AW M X Q pc ls st ρ sh F P k n := fun ok e el H locs lsA r hS hl => lv_bipush ok.1 ok.2.1 hd hv (kk ok e el H locs lsA r hS hl)
theorem aw_sipush {z : Int} {v : Int32} (hd : decode M.1 pc = .ok (.sipush z, 3)) (hv : (Int16.ofInt z).toInt32 = v) (kk : AW M X Q (pc + 3) ls (.int v :: st) ρ sh F P k n) : AW M X Q pc ls st ρ sh F P k n := fun ok e el H locs lsA r hS hl => lv_sipush ok.1 ok.2.1 hd hv (kk ok e el H locs lsA r hS hl)
theorem aw_ldc {index : Nat} {v : Int32} (hc : Cond.constant M.2.1 index v ∈ M.2.2.1) (hd : decode M.1 pc = .ok (.ldc index, 2)) (kk : AW M X Q (pc + 2) ls (.int v :: st) ρ sh F P k n) : AW M X Q pc ls st ρ sh F P k n := fun ok e el H locs lsA r hS hl => lv_ldc ok.1 ok.2.1 ok.2.2.2.1 (ok.2.2.2.2.1 _ hc) hd (kk ok e el H locs lsA r hS hl)
theorem aw_null (hd : decode M.1 pc = .ok (.aconst_null, 1)) (kk : AW M X Q (pc + 1) ls (.null :: st) ρ sh F P k n) : AW M X Q pc ls st ρ sh F P k n := fun ok e el H locs lsA r hS hl => lv_null ok.1 ok.2.1 hd (kk ok e el H locs lsA r hS hl)
theorem aw_iadd {x y : Int32} (hd : decode M.1 pc = .ok (.iadd, 1)) (kk : AW M X Q (pc + 1) ls (.int (x + y) :: st) ρ sh F P k n) : AW M X Q pc ls (.int y :: .int x :: st) ρ sh F P k n := fun ok e el H locs lsA r hS hl => lv_iadd ok.1 ok.2.1 hd (kk ok e el H locs lsA r hS hl)
theorem aw_isub {x y : Int32} (hd : decode M.1 pc = .ok (.isub, 1)) (kk : AW M X Q (pc + 1) ls (.int (x - y) :: st) ρ sh F P k n) : AW M X Q pc ls (.int y :: .int x :: st) ρ sh F P k n := fun ok e el H locs lsA r hS hl => lv_isub ok.1 ok.2.1 hd (kk ok e el H locs lsA r hS hl)
theorem aw_imul {x y : Int32} (hd : decode M.1 pc = .ok (.imul, 1)) (kk : AW M X Q (pc + 1) ls (.int (x * y) :: st) ρ sh F P k n) : AW M X Q pc ls (.int y :: .int x :: st) ρ sh F P k n := fun ok e el H locs lsA r hS hl => lv_imul ok.1 ok.2.1 hd (kk ok e el H locs lsA r hS hl)
theorem aw_iand {x y : Int32} (hd : decode M.1 pc = .ok (.iand, 1)) (kk : AW M X Q (pc + 1) ls (.int (x &&& y) :: st) ρ sh F P k n) : AW M X Q pc ls (.int y :: .int x :: st) ρ sh F P k n := fun ok e el H locs lsA r hS hl => lv_iand ok.1 ok.2.1 hd (kk ok e el H locs lsA r hS hl)
theorem aw_ior {x y : Int32} (hd : decode M.1 pc = .ok (.ior, 1)) (kk : AW M X Q (pc + 1) ls (.int (x ||| y) :: st) ρ sh F P k n) : AW M X Q pc ls (.int y :: .int x :: st) ρ sh F P k n := fun ok e el H locs lsA r hS hl => lv_ior ok.1 ok.2.1 hd (kk ok e el H locs lsA r hS hl)
theorem aw_ixor {x y : Int32} (hd : decode M.1 pc = .ok (.ixor, 1)) (kk : AW M X Q (pc + 1) ls (.int (x ^^^ y) :: st) ρ sh F P k n) : AW M X Q pc ls (.int y :: .int x :: st) ρ sh F P k n := fun ok e el H locs lsA r hS hl => lv_ixor ok.1 ok.2.1 hd (kk ok e el H locs lsA r hS hl)
theorem aw_ishl {x y : Int32} (hd : decode M.1 pc = .ok (.ishl, 1)) (kk : AW M X Q (pc + 1) ls (.int (x <<< (y &&& 31)) :: st) ρ sh F P k n) : AW M X Q pc ls (.int y :: .int x :: st) ρ sh F P k n := fun ok e el H locs lsA r hS hl => lv_ishl ok.1 ok.2.1 hd (kk ok e el H locs lsA r hS hl)
theorem aw_ishr {x y : Int32} (hd : decode M.1 pc = .ok (.ishr, 1)) (kk : AW M X Q (pc + 1) ls (.int (x >>> (y &&& 31)) :: st) ρ sh F P k n) : AW M X Q pc ls (.int y :: .int x :: st) ρ sh F P k n := fun ok e el H locs lsA r hS hl => lv_ishr ok.1 ok.2.1 hd (kk ok e el H locs lsA r hS hl)
theorem aw_idiv {x y : Int32} (hne : ¬ y = 0) (hd : decode M.1 pc = .ok (.idiv, 1)) (kk : AW M X Q (pc + 1) ls (.int (x / y) :: st) ρ sh F P k n) : AW M X Q pc ls (.int y :: .int x :: st) ρ sh F P k n := fun ok e el H locs lsA r hS hl => lv_idiv ok.1 ok.2.1 hd hne (kk ok e el H locs lsA r hS hl)
theorem aw_irem {x y : Int32} (hne : ¬ y = 0) (hd : decode M.1 pc = .ok (.irem, 1)) (kk : AW M X Q (pc + 1) ls (.int (x - x / y * y) :: st) ρ sh F P k n) : AW M X Q pc ls (.int y :: .int x :: st) ρ sh F P k n := fun ok e el H locs lsA r hS hl => lv_irem ok.1 ok.2.1 hd hne (kk ok e el H locs lsA r hS hl)
theorem aw_ineg {x : Int32} (hd : decode M.1 pc = .ok (.ineg, 1)) (kk : AW M X Q (pc + 1) ls (.int (-x) :: st) ρ sh F P k n) : AW M X Q pc ls (.int x :: st) ρ sh F P k n := fun ok e el H locs lsA r hS hl => lv_ineg ok.1 ok.2.1 hd (kk ok e el H locs lsA r hS hl)
theorem aw_goto {off : Int} {tgt : Nat} (hd : decode M.1 pc = .ok (.goto off, 3)) (ht : (pc : Int) + off = (tgt : Int)) (kk : AW M X Q tgt ls st ρ sh F P k n) : AW M X Q pc ls st ρ sh F P k n := fun ok e el H locs lsA r hS hl => lv_goto ok.1 ok.2.1 hd ht (kk ok e el H locs lsA r hS hl)
theorem aw_if_eq {x : Int32} {off : Int} {tgt : Nat} (hd : decode M.1 pc = .ok (.ifCond .eq off, 3)) (ht : (pc : Int) + off = (tgt : Int)) (kt : x = 0 → AW M X Q tgt ls st ρ sh F P k n) (kf : ¬ x = 0 → AW M X Q (pc + 3) ls st ρ sh F P k n) : AW M X Q pc ls (.int x :: st) ρ sh F P k n := fun ok e el H locs lsA r hS hl => lv_if_eq ok.1 ok.2.1 hd ht (fun h => kt h ok e el H locs lsA r hS hl) (fun h => kf h ok e el H locs lsA r hS hl)
theorem aw_icmp_eq {x y : Int32} {off : Int} {tgt : Nat} (hd : decode M.1 pc = .ok (.if_icmp .eq off, 3)) (ht : (pc : Int) + off = (tgt : Int)) (kt : x = y → AW M X Q tgt ls st ρ sh F P k n) (kf : ¬ x = y → AW M X Q (pc + 3) ls st ρ sh F P k n) : AW M X Q pc ls (.int y :: .int x :: st) ρ sh F P k n := fun ok e el H locs lsA r hS hl => lv_icmp_eq ok.1 ok.2.1 hd ht (fun h => kt h ok e el H locs lsA r hS hl) (fun h => kf h ok e el H locs lsA r hS hl)
theorem aw_if_ne {x : Int32} {off : Int} {tgt : Nat} (hd : decode M.1 pc = .ok (.ifCond .ne off, 3)) (ht : (pc : Int) + off = (tgt : Int)) (kt : x ≠ 0 → AW M X Q tgt ls st ρ sh F P k n) (kf : x = 0 → AW M X Q (pc + 3) ls st ρ sh F P k n) : AW M X Q pc ls (.int x :: st) ρ sh F P k n := fun ok e el H locs lsA r hS hl => lv_if_ne ok.1 ok.2.1 hd ht (fun h => kt h ok e el H locs lsA r hS hl) (fun h => kf h ok e el H locs lsA r hS hl)
theorem aw_icmp_ne {x y : Int32} {off : Int} {tgt : Nat} (hd : decode M.1 pc = .ok (.if_icmp .ne off, 3)) (ht : (pc : Int) + off = (tgt : Int)) (kt : x ≠ y → AW M X Q tgt ls st ρ sh F P k n) (kf : x = y → AW M X Q (pc + 3) ls st ρ sh F P k n) : AW M X Q pc ls (.int y :: .int x :: st) ρ sh F P k n := fun ok e el H locs lsA r hS hl => lv_icmp_ne ok.1 ok.2.1 hd ht (fun h => kt h ok e el H locs lsA r hS hl) (fun h => kf h ok e el H locs lsA r hS hl)
theorem aw_if_lt {x : Int32} {off : Int} {tgt : Nat} (hd : decode M.1 pc = .ok (.ifCond .lt off, 3)) (ht : (pc : Int) + off = (tgt : Int)) (kt : x < 0 → AW M X Q tgt ls st ρ sh F P k n) (kf : ¬ x < 0 → AW M X Q (pc + 3) ls st ρ sh F P k n) : AW M X Q pc ls (.int x :: st) ρ sh F P k n := fun ok e el H locs lsA r hS hl => lv_if_lt ok.1 ok.2.1 hd ht (fun h => kt h ok e el H locs lsA r hS hl) (fun h => kf h ok e el H locs lsA r hS hl)
theorem aw_icmp_lt {x y : Int32} {off : Int} {tgt : Nat} (hd : decode M.1 pc = .ok (.if_icmp .lt off, 3)) (ht : (pc : Int) + off = (tgt : Int)) (kt : x < y → AW M X Q tgt ls st ρ sh F P k n) (kf : ¬ x < y → AW M X Q (pc + 3) ls st ρ sh F P k n) : AW M X Q pc ls (.int y :: .int x :: st) ρ sh F P k n := fun ok e el H locs lsA r hS hl => lv_icmp_lt ok.1 ok.2.1 hd ht (fun h => kt h ok e el H locs lsA r hS hl) (fun h => kf h ok e el H locs lsA r hS hl)
theorem aw_if_ge {x : Int32} {off : Int} {tgt : Nat} (hd : decode M.1 pc = .ok (.ifCond .ge off, 3)) (ht : (pc : Int) + off = (tgt : Int)) (kt : 0 ≤ x → AW M X Q tgt ls st ρ sh F P k n) (kf : ¬ 0 ≤ x → AW M X Q (pc + 3) ls st ρ sh F P k n) : AW M X Q pc ls (.int x :: st) ρ sh F P k n := fun ok e el H locs lsA r hS hl => lv_if_ge ok.1 ok.2.1 hd ht (fun h => kt h ok e el H locs lsA r hS hl) (fun h => kf h ok e el H locs lsA r hS hl)
theorem aw_icmp_ge {x y : Int32} {off : Int} {tgt : Nat} (hd : decode M.1 pc = .ok (.if_icmp .ge off, 3)) (ht : (pc : Int) + off = (tgt : Int)) (kt : y ≤ x → AW M X Q tgt ls st ρ sh F P k n) (kf : ¬ y ≤ x → AW M X Q (pc + 3) ls st ρ sh F P k n) : AW M X Q pc ls (.int y :: .int x :: st) ρ sh F P k n := fun ok e el H locs lsA r hS hl => lv_icmp_ge ok.1 ok.2.1 hd ht (fun h => kt h ok e el H locs lsA r hS hl) (fun h => kf h ok e el H locs lsA r hS hl)
theorem aw_if_gt {x : Int32} {off : Int} {tgt : Nat} (hd : decode M.1 pc = .ok (.ifCond .gt off, 3)) (ht : (pc : Int) + off = (tgt : Int)) (kt : 0 < x → AW M X Q tgt ls st ρ sh F P k n) (kf : ¬ 0 < x → AW M X Q (pc + 3) ls st ρ sh F P k n) : AW M X Q pc ls (.int x :: st) ρ sh F P k n := fun ok e el H locs lsA r hS hl => lv_if_gt ok.1 ok.2.1 hd ht (fun h => kt h ok e el H locs lsA r hS hl) (fun h => kf h ok e el H locs lsA r hS hl)
theorem aw_icmp_gt {x y : Int32} {off : Int} {tgt : Nat} (hd : decode M.1 pc = .ok (.if_icmp .gt off, 3)) (ht : (pc : Int) + off = (tgt : Int)) (kt : y < x → AW M X Q tgt ls st ρ sh F P k n) (kf : ¬ y < x → AW M X Q (pc + 3) ls st ρ sh F P k n) : AW M X Q pc ls (.int y :: .int x :: st) ρ sh F P k n := fun ok e el H locs lsA r hS hl => lv_icmp_gt ok.1 ok.2.1 hd ht (fun h => kt h ok e el H locs lsA r hS hl) (fun h => kf h ok e el H locs lsA r hS hl)
theorem aw_if_le {x : Int32} {off : Int} {tgt : Nat} (hd : decode M.1 pc = .ok (.ifCond .le off, 3)) (ht : (pc : Int) + off = (tgt : Int)) (kt : x ≤ 0 → AW M X Q tgt ls st ρ sh F P k n) (kf : ¬ x ≤ 0 → AW M X Q (pc + 3) ls st ρ sh F P k n) : AW M X Q pc ls (.int x :: st) ρ sh F P k n := fun ok e el H locs lsA r hS hl => lv_if_le ok.1 ok.2.1 hd ht (fun h => kt h ok e el H locs lsA r hS hl) (fun h => kf h ok e el H locs lsA r hS hl)
theorem aw_icmp_le {x y : Int32} {off : Int} {tgt : Nat} (hd : decode M.1 pc = .ok (.if_icmp .le off, 3)) (ht : (pc : Int) + off = (tgt : Int)) (kt : x ≤ y → AW M X Q tgt ls st ρ sh F P k n) (kf : ¬ x ≤ y → AW M X Q (pc + 3) ls st ρ sh F P k n) : AW M X Q pc ls (.int y :: .int x :: st) ρ sh F P k n := fun ok e el H locs lsA r hS hl => lv_icmp_le ok.1 ok.2.1 hd ht (fun h => kt h ok e el H locs lsA r hS hl) (fun h => kf h ok e el H locs lsA r hS hl)
theorem aw_dup {v : Value} (hc : v.category = 1) (hd : decode M.1 pc = .ok (.dup, 1)) (kk : AW M X Q (pc + 1) ls (v :: v :: st) ρ sh F P k n) : AW M X Q pc ls (v :: st) ρ sh F P k n := fun ok e el H locs lsA r hS hl => lv_dup ok.1 ok.2.1 hd (by rw [zV_cat]; exact hc) (kk ok e el H locs lsA r hS hl)
theorem aw_dup2 {v u : Value} (hc : v.category = 1) (hc2 : u.category = 1) (hd : decode M.1 pc = .ok (.dup2, 1)) (kk : AW M X Q (pc + 1) ls (v :: u :: v :: u :: st) ρ sh F P k n) : AW M X Q pc ls (v :: u :: st) ρ sh F P k n := fun ok e el H locs lsA r hS hl => lv_dup2_11 ok.1 ok.2.1 hd (by rw [zV_cat]; exact hc) (by rw [zV_cat]; exact hc2) (kk ok e el H locs lsA r hS hl)
theorem aw_pop {v : Value} (hc : v.category = 1) (hd : decode M.1 pc = .ok (.pop, 1)) (kk : AW M X Q (pc + 1) ls st ρ sh F P k n) : AW M X Q pc ls (v :: st) ρ sh F P k n := fun ok e el H locs lsA r hS hl => lv_pop ok.1 ok.2.1 hd (by rw [zV_cat]; exact hc) (kk ok e el H locs lsA r hS hl)
theorem aw_ifnull {x : Nat} {off : Int} (hd : decode M.1 pc = .ok (.ifnull off, 3)) (kk : AW M X Q (pc + 3) ls st ρ sh F P k n) : AW M X Q pc ls (.ref x :: st) ρ sh F P k n := fun ok e el H locs lsA r hS hl => lv_ifnull ok.1 ok.2.1 hd (kk ok e el H locs lsA r hS hl)
theorem aw_ifnullN {off : Int} {tgt : Nat} (hd : decode M.1 pc = .ok (.ifnull off, 3)) (ht : (pc : Int) + off = (tgt : Int)) (kk : AW M X Q tgt ls st ρ sh F P k n) : AW M X Q pc ls (.null :: st) ρ sh F P k n := fun ok e el H locs lsA r hS hl => lv_ifnullN ok.1 ok.2.1 hd ht (kk ok e el H locs lsA r hS hl)
theorem aw_ifnonnull {x : Nat} {off : Int} {tgt : Nat} (hd : decode M.1 pc = .ok (.ifnonnull off, 3)) (ht : (pc : Int) + off = (tgt : Int)) (kk : AW M X Q tgt ls st ρ sh F P k n) : AW M X Q pc ls (.ref x :: st) ρ sh F P k n := fun ok e el H locs lsA r hS hl => lv_ifnonnull ok.1 ok.2.1 hd ht (kk ok e el H locs lsA r hS hl)
theorem aw_ifnonnullN {off : Int} (hd : decode M.1 pc = .ok (.ifnonnull off, 3)) (kk : AW M X Q (pc + 3) ls st ρ sh F P k n) : AW M X Q pc ls (.null :: st) ρ sh F P k n := fun ok e el H locs lsA r hS hl => lv_ifnonnullN ok.1 ok.2.1 hd (kk ok e el H locs lsA r hS hl)
theorem aw_tableOut {dflt lo hi : Int} {offs : Array Int} {len : Nat} {x : Int32} {tgt : Nat} (hd : decode M.1 pc = .ok (.tableswitch dflt lo hi offs, len)) (h : x.toInt < lo ∨ hi < x.toInt) (ht : (pc : Int) + dflt = (tgt : Int)) (kk : AW M X Q tgt ls st ρ sh F P k n) : AW M X Q pc ls (.int x :: st) ρ sh F P k n := fun ok e el H locs lsA r hS hl => lv_tableOut ok.1 ok.2.1 hd h ht (kk ok e el H locs lsA r hS hl)
theorem aw_tableIn {dflt lo hi : Int} {offs : Array Int} {len : Nat} {x : Int32} {off : Int} {tgt : Nat} (hd : decode M.1 pc = .ok (.tableswitch dflt lo hi offs, len)) (h1 : ¬ x.toInt < lo) (h2 : ¬ hi < x.toInt) (ho : offs[(x.toInt - lo).toNat]? = some off) (ht : (pc : Int) + off = (tgt : Int)) (kk : AW M X Q tgt ls st ρ sh F P k n) : AW M X Q pc ls (.int x :: st) ρ sh F P k n := fun ok e el H locs lsA r hS hl => lv_tableIn ok.1 ok.2.1 hd h1 h2 ho ht (kk ok e el H locs lsA r hS hl)
theorem aw_iload_n {f : Fin 4} {i : Nat} {x : Int32} (hi : (f : Nat) = i) (hv : ls[i]? = some (some (.int x))) (hd : decode M.1 pc = .ok (.iload_n f, 1)) (kk : AW M X Q (pc + 1) ls (.int x :: st) ρ sh F P k n) : AW M X Q pc ls st ρ sh F P k n := fun ok e el H locs lsA r hS hl => lv_iload_n ok.1 ok.2.1 hd hi (hl.2.2 i _ hv).1 (kk ok e el H locs lsA r hS hl)
theorem aw_iload_g {i : Nat} {x : Int32} (hv : ls[i]? = some (some (.int x))) (hd : decode M.1 pc = .ok (.iload i, 2)) (kk : AW M X Q (pc + 2) ls (.int x :: st) ρ sh F P k n) : AW M X Q pc ls st ρ sh F P k n := fun ok e el H locs lsA r hS hl => lv_iload ok.1 ok.2.1 hd (hl.2.2 i _ hv).1 (kk ok e el H locs lsA r hS hl)
theorem aw_aload_n {f : Fin 4} {i : Nat} {x : Nat} (hi : (f : Nat) = i) (hv : ls[i]? = some (some (.ref x))) (hd : decode M.1 pc = .ok (.aload_n f, 1)) (kk : AW M X Q (pc + 1) ls (.ref x :: st) ρ sh F P k n) : AW M X Q pc ls st ρ sh F P k n := fun ok e el H locs lsA r hS hl => lv_aload_n ok.1 ok.2.1 hd hi (hl.2.2 i _ hv).1 (kk ok e el H locs lsA r hS hl)
theorem aw_aload_nN {f : Fin 4} {i : Nat} (hi : (f : Nat) = i) (hv : ls[i]? = some (some .null)) (hd : decode M.1 pc = .ok (.aload_n f, 1)) (kk : AW M X Q (pc + 1) ls (.null :: st) ρ sh F P k n) : AW M X Q pc ls st ρ sh F P k n := fun ok e el H locs lsA r hS hl => lv_aload_nN ok.1 ok.2.1 hd hi (hl.2.2 i _ hv).1 (kk ok e el H locs lsA r hS hl)
theorem aw_istore_n {f : Fin 4} {i : Nat} {x : Int32} (hi : (f : Nat) = i) (hn : i < ls.length) (hd : decode M.1 pc = .ok (.istore_n f, 1)) (kk : AW M X Q (pc + 1) (ls.set i (some (.int x))) st ρ sh F P k n) : AW M X Q pc ls (.int x :: st) ρ sh F P k n := fun ok e el H locs lsA r hS hl => lv_istore_n ok.1 ok.2.1 hd hi (zL_has hl) hn rfl (fun ls' h => kk ok e (by rw [List.length_set]; exact el) H locs ls' r hS (zL_back hl h rfl))
theorem aw_istore_g {i : Nat} {x : Int32} (hn : i < ls.length) (hd : decode M.1 pc = .ok (.istore i, 2)) (kk : AW M X Q (pc + 2) (ls.set i (some (.int x))) st ρ sh F P k n) : AW M X Q pc ls (.int x :: st) ρ sh F P k n := fun ok e el H locs lsA r hS hl => lv_istore ok.1 ok.2.1 hd (zL_has hl) hn rfl (fun ls' h => kk ok e (by rw [List.length_set]; exact el) H locs ls' r hS (zL_back hl h rfl))
theorem aw_astore_n {f : Fin 4} {i : Nat} {x : Nat} (hi : (f : Nat) = i) (hn : i < ls.length) (hd : decode M.1 pc = .ok (.astore_n f, 1)) (kk : AW M X Q (pc + 1) (ls.set i (some (.ref x))) st ρ sh F P k n) : AW M X Q pc ls (.ref x :: st) ρ sh F P k n := fun ok e el H locs lsA r hS hl => lv_astore_n ok.1 ok.2.1 hd hi (zL_has hl) hn rfl (fun ls' h => kk ok e (by rw [List.length_set]; exact el) H locs ls' r hS (zL_back (v := .ref x) hl h rfl))
theorem aw_astore_nN {f : Fin 4} {i : Nat} (hi : (f : Nat) = i) (hn : i < ls.length) (hd : decode M.1 pc = .ok (.astore_n f, 1)) (kk : AW M X Q (pc + 1) (ls.set i (some .null)) st ρ sh F P k n) : AW M X Q pc ls (.null :: st) ρ sh F P k n := fun ok e el H locs lsA r hS hl => lv_astore_nN ok.1 ok.2.1 hd hi (zL_has hl) hn rfl (fun ls' h => kk ok e (by rw [List.length_set]; exact el) H locs ls' r hS (zL_back (v := .null) hl h rfl))
theorem aw_iinc_g {i : Nat} {z : Int} {x : Int32} {v : Int32} (hv : ls[i]? = some (some (.int x))) (hx : Int32.ofInt z = v) (hd : decode M.1 pc = .ok (.iinc i z, 3)) (kk : AW M X Q (pc + 3) (ls.set i (some (.int (x + v)))) st ρ sh F P k n) : AW M X Q pc ls st ρ sh F P k n := fun ok e el H locs lsA r hS hl => by
  have hm := zp_mem (ρ := ρ) hv
  obtain ⟨q, hq⟩ := List.getElem?_of_mem hm
  exact lv_iinc ok.1 ok.2.1 hd (zL_has hl) hq rfl (List.getElem?_eq_some_iff.mp hv).1 rfl (fun ls' h => kk ok e (by rw [List.length_set]; exact el) H locs ls' r hS (zL_back (v := .int (x + v)) hl (by subst hx; exact h) rfl))
end ZROWS
section ZPOS
variable {M : ZM} {X : ZX} {Q : State → Prop} {pc : Nat} {st : List Value} {ρ : Nat → Nat} {sh : zSh} {F : Nat → Nat → Int32} {P : Nat → Nat → Option Nat} {k n : Nat}
theorem aw_iload_0 {tl : List (Option Value)} {x : Int32} (hd : decode M.1 pc = .ok (.iload_n 0, 1)) (kk : AW M X Q (pc + 1) (some (.int x) :: tl) (.int x :: st) ρ sh F P k n) : AW M X Q pc (some (.int x) :: tl) st ρ sh F P k n := aw_iload_n (i := 0) rfl rfl hd kk
theorem aw_istore_0 {tl : List (Option Value)} {b : Option Value} {x : Int32} (hd : decode M.1 pc = .ok (.istore_n 0, 1)) (kk : AW M X Q (pc + 1) (some (.int x) :: tl) st ρ sh F P k n) : AW M X Q pc (b :: tl) (.int x :: st) ρ sh F P k n := aw_istore_n (i := 0) rfl (by simp) hd kk
theorem aw_iinc_0 {tl : List (Option Value)} {z : Int} {x v : Int32} (hx : Int32.ofInt z = v) (hd : decode M.1 pc = .ok (.iinc 0 z, 3)) (kk : AW M X Q (pc + 3) (some (.int (x + v)) :: tl) st ρ sh F P k n) : AW M X Q pc (some (.int x) :: tl) st ρ sh F P k n := aw_iinc_g rfl hx hd kk
theorem aw_aload_0 {tl : List (Option Value)} {x : Nat} (hd : decode M.1 pc = .ok (.aload_n 0, 1)) (kk : AW M X Q (pc + 1) (some (.ref x) :: tl) (.ref x :: st) ρ sh F P k n) : AW M X Q pc (some (.ref x) :: tl) st ρ sh F P k n := aw_aload_n (i := 0) rfl rfl hd kk
theorem aw_aload_0N {tl : List (Option Value)} (hd : decode M.1 pc = .ok (.aload_n 0, 1)) (kk : AW M X Q (pc + 1) (some .null :: tl) (.null :: st) ρ sh F P k n) : AW M X Q pc (some .null :: tl) st ρ sh F P k n := aw_aload_nN (i := 0) rfl rfl hd kk
theorem aw_astore_0 {tl : List (Option Value)} {b : Option Value} {x : Nat} (hd : decode M.1 pc = .ok (.astore_n 0, 1)) (kk : AW M X Q (pc + 1) (some (.ref x) :: tl) st ρ sh F P k n) : AW M X Q pc (b :: tl) (.ref x :: st) ρ sh F P k n := aw_astore_n (i := 0) rfl (by simp) hd kk
theorem aw_astore_0N {tl : List (Option Value)} {b : Option Value} (hd : decode M.1 pc = .ok (.astore_n 0, 1)) (kk : AW M X Q (pc + 1) (some .null :: tl) st ρ sh F P k n) : AW M X Q pc (b :: tl) (.null :: st) ρ sh F P k n := aw_astore_nN (i := 0) rfl (by simp) hd kk
theorem aw_iload_1 {a0 : Option Value} {tl : List (Option Value)} {x : Int32} (hd : decode M.1 pc = .ok (.iload_n 1, 1)) (kk : AW M X Q (pc + 1) (a0 :: some (.int x) :: tl) (.int x :: st) ρ sh F P k n) : AW M X Q pc (a0 :: some (.int x) :: tl) st ρ sh F P k n := aw_iload_n (i := 1) rfl rfl hd kk
theorem aw_istore_1 {a0 : Option Value} {tl : List (Option Value)} {b : Option Value} {x : Int32} (hd : decode M.1 pc = .ok (.istore_n 1, 1)) (kk : AW M X Q (pc + 1) (a0 :: some (.int x) :: tl) st ρ sh F P k n) : AW M X Q pc (a0 :: b :: tl) (.int x :: st) ρ sh F P k n := aw_istore_n (i := 1) rfl (by simp) hd kk
theorem aw_iinc_1 {a0 : Option Value} {tl : List (Option Value)} {z : Int} {x v : Int32} (hx : Int32.ofInt z = v) (hd : decode M.1 pc = .ok (.iinc 1 z, 3)) (kk : AW M X Q (pc + 3) (a0 :: some (.int (x + v)) :: tl) st ρ sh F P k n) : AW M X Q pc (a0 :: some (.int x) :: tl) st ρ sh F P k n := aw_iinc_g rfl hx hd kk
theorem aw_aload_1 {a0 : Option Value} {tl : List (Option Value)} {x : Nat} (hd : decode M.1 pc = .ok (.aload_n 1, 1)) (kk : AW M X Q (pc + 1) (a0 :: some (.ref x) :: tl) (.ref x :: st) ρ sh F P k n) : AW M X Q pc (a0 :: some (.ref x) :: tl) st ρ sh F P k n := aw_aload_n (i := 1) rfl rfl hd kk
theorem aw_aload_1N {a0 : Option Value} {tl : List (Option Value)} (hd : decode M.1 pc = .ok (.aload_n 1, 1)) (kk : AW M X Q (pc + 1) (a0 :: some .null :: tl) (.null :: st) ρ sh F P k n) : AW M X Q pc (a0 :: some .null :: tl) st ρ sh F P k n := aw_aload_nN (i := 1) rfl rfl hd kk
theorem aw_astore_1 {a0 : Option Value} {tl : List (Option Value)} {b : Option Value} {x : Nat} (hd : decode M.1 pc = .ok (.astore_n 1, 1)) (kk : AW M X Q (pc + 1) (a0 :: some (.ref x) :: tl) st ρ sh F P k n) : AW M X Q pc (a0 :: b :: tl) (.ref x :: st) ρ sh F P k n := aw_astore_n (i := 1) rfl (by simp) hd kk
theorem aw_astore_1N {a0 : Option Value} {tl : List (Option Value)} {b : Option Value} (hd : decode M.1 pc = .ok (.astore_n 1, 1)) (kk : AW M X Q (pc + 1) (a0 :: some .null :: tl) st ρ sh F P k n) : AW M X Q pc (a0 :: b :: tl) (.null :: st) ρ sh F P k n := aw_astore_nN (i := 1) rfl (by simp) hd kk
theorem aw_iload_2 {a0 a1 : Option Value} {tl : List (Option Value)} {x : Int32} (hd : decode M.1 pc = .ok (.iload_n 2, 1)) (kk : AW M X Q (pc + 1) (a0 :: a1 :: some (.int x) :: tl) (.int x :: st) ρ sh F P k n) : AW M X Q pc (a0 :: a1 :: some (.int x) :: tl) st ρ sh F P k n := aw_iload_n (i := 2) rfl rfl hd kk
theorem aw_istore_2 {a0 a1 : Option Value} {tl : List (Option Value)} {b : Option Value} {x : Int32} (hd : decode M.1 pc = .ok (.istore_n 2, 1)) (kk : AW M X Q (pc + 1) (a0 :: a1 :: some (.int x) :: tl) st ρ sh F P k n) : AW M X Q pc (a0 :: a1 :: b :: tl) (.int x :: st) ρ sh F P k n := aw_istore_n (i := 2) rfl (by simp) hd kk
theorem aw_iinc_2 {a0 a1 : Option Value} {tl : List (Option Value)} {z : Int} {x v : Int32} (hx : Int32.ofInt z = v) (hd : decode M.1 pc = .ok (.iinc 2 z, 3)) (kk : AW M X Q (pc + 3) (a0 :: a1 :: some (.int (x + v)) :: tl) st ρ sh F P k n) : AW M X Q pc (a0 :: a1 :: some (.int x) :: tl) st ρ sh F P k n := aw_iinc_g rfl hx hd kk
theorem aw_aload_2 {a0 a1 : Option Value} {tl : List (Option Value)} {x : Nat} (hd : decode M.1 pc = .ok (.aload_n 2, 1)) (kk : AW M X Q (pc + 1) (a0 :: a1 :: some (.ref x) :: tl) (.ref x :: st) ρ sh F P k n) : AW M X Q pc (a0 :: a1 :: some (.ref x) :: tl) st ρ sh F P k n := aw_aload_n (i := 2) rfl rfl hd kk
theorem aw_aload_2N {a0 a1 : Option Value} {tl : List (Option Value)} (hd : decode M.1 pc = .ok (.aload_n 2, 1)) (kk : AW M X Q (pc + 1) (a0 :: a1 :: some .null :: tl) (.null :: st) ρ sh F P k n) : AW M X Q pc (a0 :: a1 :: some .null :: tl) st ρ sh F P k n := aw_aload_nN (i := 2) rfl rfl hd kk
theorem aw_astore_2 {a0 a1 : Option Value} {tl : List (Option Value)} {b : Option Value} {x : Nat} (hd : decode M.1 pc = .ok (.astore_n 2, 1)) (kk : AW M X Q (pc + 1) (a0 :: a1 :: some (.ref x) :: tl) st ρ sh F P k n) : AW M X Q pc (a0 :: a1 :: b :: tl) (.ref x :: st) ρ sh F P k n := aw_astore_n (i := 2) rfl (by simp) hd kk
theorem aw_astore_2N {a0 a1 : Option Value} {tl : List (Option Value)} {b : Option Value} (hd : decode M.1 pc = .ok (.astore_n 2, 1)) (kk : AW M X Q (pc + 1) (a0 :: a1 :: some .null :: tl) st ρ sh F P k n) : AW M X Q pc (a0 :: a1 :: b :: tl) (.null :: st) ρ sh F P k n := aw_astore_nN (i := 2) rfl (by simp) hd kk
theorem aw_iload_3 {a0 a1 a2 : Option Value} {tl : List (Option Value)} {x : Int32} (hd : decode M.1 pc = .ok (.iload_n 3, 1)) (kk : AW M X Q (pc + 1) (a0 :: a1 :: a2 :: some (.int x) :: tl) (.int x :: st) ρ sh F P k n) : AW M X Q pc (a0 :: a1 :: a2 :: some (.int x) :: tl) st ρ sh F P k n := aw_iload_n (i := 3) rfl rfl hd kk
theorem aw_istore_3 {a0 a1 a2 : Option Value} {tl : List (Option Value)} {b : Option Value} {x : Int32} (hd : decode M.1 pc = .ok (.istore_n 3, 1)) (kk : AW M X Q (pc + 1) (a0 :: a1 :: a2 :: some (.int x) :: tl) st ρ sh F P k n) : AW M X Q pc (a0 :: a1 :: a2 :: b :: tl) (.int x :: st) ρ sh F P k n := aw_istore_n (i := 3) rfl (by simp) hd kk
theorem aw_iinc_3 {a0 a1 a2 : Option Value} {tl : List (Option Value)} {z : Int} {x v : Int32} (hx : Int32.ofInt z = v) (hd : decode M.1 pc = .ok (.iinc 3 z, 3)) (kk : AW M X Q (pc + 3) (a0 :: a1 :: a2 :: some (.int (x + v)) :: tl) st ρ sh F P k n) : AW M X Q pc (a0 :: a1 :: a2 :: some (.int x) :: tl) st ρ sh F P k n := aw_iinc_g rfl hx hd kk
theorem aw_aload_3 {a0 a1 a2 : Option Value} {tl : List (Option Value)} {x : Nat} (hd : decode M.1 pc = .ok (.aload_n 3, 1)) (kk : AW M X Q (pc + 1) (a0 :: a1 :: a2 :: some (.ref x) :: tl) (.ref x :: st) ρ sh F P k n) : AW M X Q pc (a0 :: a1 :: a2 :: some (.ref x) :: tl) st ρ sh F P k n := aw_aload_n (i := 3) rfl rfl hd kk
theorem aw_aload_3N {a0 a1 a2 : Option Value} {tl : List (Option Value)} (hd : decode M.1 pc = .ok (.aload_n 3, 1)) (kk : AW M X Q (pc + 1) (a0 :: a1 :: a2 :: some .null :: tl) (.null :: st) ρ sh F P k n) : AW M X Q pc (a0 :: a1 :: a2 :: some .null :: tl) st ρ sh F P k n := aw_aload_nN (i := 3) rfl rfl hd kk
theorem aw_astore_3 {a0 a1 a2 : Option Value} {tl : List (Option Value)} {b : Option Value} {x : Nat} (hd : decode M.1 pc = .ok (.astore_n 3, 1)) (kk : AW M X Q (pc + 1) (a0 :: a1 :: a2 :: some (.ref x) :: tl) st ρ sh F P k n) : AW M X Q pc (a0 :: a1 :: a2 :: b :: tl) (.ref x :: st) ρ sh F P k n := aw_astore_n (i := 3) rfl (by simp) hd kk
theorem aw_astore_3N {a0 a1 a2 : Option Value} {tl : List (Option Value)} {b : Option Value} (hd : decode M.1 pc = .ok (.astore_n 3, 1)) (kk : AW M X Q (pc + 1) (a0 :: a1 :: a2 :: some .null :: tl) st ρ sh F P k n) : AW M X Q pc (a0 :: a1 :: a2 :: b :: tl) (.null :: st) ρ sh F P k n := aw_astore_nN (i := 3) rfl (by simp) hd kk
theorem aw_iload_4 {a0 a1 a2 a3 : Option Value} {tl : List (Option Value)} {x : Int32} (hd : decode M.1 pc = .ok (.iload 4, 2)) (kk : AW M X Q (pc + 2) (a0 :: a1 :: a2 :: a3 :: some (.int x) :: tl) (.int x :: st) ρ sh F P k n) : AW M X Q pc (a0 :: a1 :: a2 :: a3 :: some (.int x) :: tl) st ρ sh F P k n := aw_iload_g rfl hd kk
theorem aw_istore_4 {a0 a1 a2 a3 : Option Value} {tl : List (Option Value)} {b : Option Value} {x : Int32} (hd : decode M.1 pc = .ok (.istore 4, 2)) (kk : AW M X Q (pc + 2) (a0 :: a1 :: a2 :: a3 :: some (.int x) :: tl) st ρ sh F P k n) : AW M X Q pc (a0 :: a1 :: a2 :: a3 :: b :: tl) (.int x :: st) ρ sh F P k n := aw_istore_g (by simp) hd kk
theorem aw_iinc_4 {a0 a1 a2 a3 : Option Value} {tl : List (Option Value)} {z : Int} {x v : Int32} (hx : Int32.ofInt z = v) (hd : decode M.1 pc = .ok (.iinc 4 z, 3)) (kk : AW M X Q (pc + 3) (a0 :: a1 :: a2 :: a3 :: some (.int (x + v)) :: tl) st ρ sh F P k n) : AW M X Q pc (a0 :: a1 :: a2 :: a3 :: some (.int x) :: tl) st ρ sh F P k n := aw_iinc_g rfl hx hd kk
theorem aw_iload_5 {a0 a1 a2 a3 a4 : Option Value} {tl : List (Option Value)} {x : Int32} (hd : decode M.1 pc = .ok (.iload 5, 2)) (kk : AW M X Q (pc + 2) (a0 :: a1 :: a2 :: a3 :: a4 :: some (.int x) :: tl) (.int x :: st) ρ sh F P k n) : AW M X Q pc (a0 :: a1 :: a2 :: a3 :: a4 :: some (.int x) :: tl) st ρ sh F P k n := aw_iload_g rfl hd kk
theorem aw_istore_5 {a0 a1 a2 a3 a4 : Option Value} {tl : List (Option Value)} {b : Option Value} {x : Int32} (hd : decode M.1 pc = .ok (.istore 5, 2)) (kk : AW M X Q (pc + 2) (a0 :: a1 :: a2 :: a3 :: a4 :: some (.int x) :: tl) st ρ sh F P k n) : AW M X Q pc (a0 :: a1 :: a2 :: a3 :: a4 :: b :: tl) (.int x :: st) ρ sh F P k n := aw_istore_g (by simp) hd kk
theorem aw_iinc_5 {a0 a1 a2 a3 a4 : Option Value} {tl : List (Option Value)} {z : Int} {x v : Int32} (hx : Int32.ofInt z = v) (hd : decode M.1 pc = .ok (.iinc 5 z, 3)) (kk : AW M X Q (pc + 3) (a0 :: a1 :: a2 :: a3 :: a4 :: some (.int (x + v)) :: tl) st ρ sh F P k n) : AW M X Q pc (a0 :: a1 :: a2 :: a3 :: a4 :: some (.int x) :: tl) st ρ sh F P k n := aw_iinc_g rfl hx hd kk
theorem aw_iload_6 {a0 a1 a2 a3 a4 a5 : Option Value} {tl : List (Option Value)} {x : Int32} (hd : decode M.1 pc = .ok (.iload 6, 2)) (kk : AW M X Q (pc + 2) (a0 :: a1 :: a2 :: a3 :: a4 :: a5 :: some (.int x) :: tl) (.int x :: st) ρ sh F P k n) : AW M X Q pc (a0 :: a1 :: a2 :: a3 :: a4 :: a5 :: some (.int x) :: tl) st ρ sh F P k n := aw_iload_g rfl hd kk
theorem aw_istore_6 {a0 a1 a2 a3 a4 a5 : Option Value} {tl : List (Option Value)} {b : Option Value} {x : Int32} (hd : decode M.1 pc = .ok (.istore 6, 2)) (kk : AW M X Q (pc + 2) (a0 :: a1 :: a2 :: a3 :: a4 :: a5 :: some (.int x) :: tl) st ρ sh F P k n) : AW M X Q pc (a0 :: a1 :: a2 :: a3 :: a4 :: a5 :: b :: tl) (.int x :: st) ρ sh F P k n := aw_istore_g (by simp) hd kk
theorem aw_iinc_6 {a0 a1 a2 a3 a4 a5 : Option Value} {tl : List (Option Value)} {z : Int} {x v : Int32} (hx : Int32.ofInt z = v) (hd : decode M.1 pc = .ok (.iinc 6 z, 3)) (kk : AW M X Q (pc + 3) (a0 :: a1 :: a2 :: a3 :: a4 :: a5 :: some (.int (x + v)) :: tl) st ρ sh F P k n) : AW M X Q pc (a0 :: a1 :: a2 :: a3 :: a4 :: a5 :: some (.int x) :: tl) st ρ sh F P k n := aw_iinc_g rfl hx hd kk
theorem aw_iload_7 {a0 a1 a2 a3 a4 a5 a6 : Option Value} {tl : List (Option Value)} {x : Int32} (hd : decode M.1 pc = .ok (.iload 7, 2)) (kk : AW M X Q (pc + 2) (a0 :: a1 :: a2 :: a3 :: a4 :: a5 :: a6 :: some (.int x) :: tl) (.int x :: st) ρ sh F P k n) : AW M X Q pc (a0 :: a1 :: a2 :: a3 :: a4 :: a5 :: a6 :: some (.int x) :: tl) st ρ sh F P k n := aw_iload_g rfl hd kk
theorem aw_istore_7 {a0 a1 a2 a3 a4 a5 a6 : Option Value} {tl : List (Option Value)} {b : Option Value} {x : Int32} (hd : decode M.1 pc = .ok (.istore 7, 2)) (kk : AW M X Q (pc + 2) (a0 :: a1 :: a2 :: a3 :: a4 :: a5 :: a6 :: some (.int x) :: tl) st ρ sh F P k n) : AW M X Q pc (a0 :: a1 :: a2 :: a3 :: a4 :: a5 :: a6 :: b :: tl) (.int x :: st) ρ sh F P k n := aw_istore_g (by simp) hd kk
theorem aw_iinc_7 {a0 a1 a2 a3 a4 a5 a6 : Option Value} {tl : List (Option Value)} {z : Int} {x v : Int32} (hx : Int32.ofInt z = v) (hd : decode M.1 pc = .ok (.iinc 7 z, 3)) (kk : AW M X Q (pc + 3) (a0 :: a1 :: a2 :: a3 :: a4 :: a5 :: a6 :: some (.int (x + v)) :: tl) st ρ sh F P k n) : AW M X Q pc (a0 :: a1 :: a2 :: a3 :: a4 :: a5 :: a6 :: some (.int x) :: tl) st ρ sh F P k n := aw_iinc_g rfl hx hd kk
theorem aw_iload_8 {a0 a1 a2 a3 a4 a5 a6 a7 : Option Value} {tl : List (Option Value)} {x : Int32} (hd : decode M.1 pc = .ok (.iload 8, 2)) (kk : AW M X Q (pc + 2) (a0 :: a1 :: a2 :: a3 :: a4 :: a5 :: a6 :: a7 :: some (.int x) :: tl) (.int x :: st) ρ sh F P k n) : AW M X Q pc (a0 :: a1 :: a2 :: a3 :: a4 :: a5 :: a6 :: a7 :: some (.int x) :: tl) st ρ sh F P k n := aw_iload_g rfl hd kk
theorem aw_istore_8 {a0 a1 a2 a3 a4 a5 a6 a7 : Option Value} {tl : List (Option Value)} {b : Option Value} {x : Int32} (hd : decode M.1 pc = .ok (.istore 8, 2)) (kk : AW M X Q (pc + 2) (a0 :: a1 :: a2 :: a3 :: a4 :: a5 :: a6 :: a7 :: some (.int x) :: tl) st ρ sh F P k n) : AW M X Q pc (a0 :: a1 :: a2 :: a3 :: a4 :: a5 :: a6 :: a7 :: b :: tl) (.int x :: st) ρ sh F P k n := aw_istore_g (by simp) hd kk
theorem aw_iinc_8 {a0 a1 a2 a3 a4 a5 a6 a7 : Option Value} {tl : List (Option Value)} {z : Int} {x v : Int32} (hx : Int32.ofInt z = v) (hd : decode M.1 pc = .ok (.iinc 8 z, 3)) (kk : AW M X Q (pc + 3) (a0 :: a1 :: a2 :: a3 :: a4 :: a5 :: a6 :: a7 :: some (.int (x + v)) :: tl) st ρ sh F P k n) : AW M X Q pc (a0 :: a1 :: a2 :: a3 :: a4 :: a5 :: a6 :: a7 :: some (.int x) :: tl) st ρ sh F P k n := aw_iinc_g rfl hx hd kk
theorem aw_iload_9 {a0 a1 a2 a3 a4 a5 a6 a7 a8 : Option Value} {tl : List (Option Value)} {x : Int32} (hd : decode M.1 pc = .ok (.iload 9, 2)) (kk : AW M X Q (pc + 2) (a0 :: a1 :: a2 :: a3 :: a4 :: a5 :: a6 :: a7 :: a8 :: some (.int x) :: tl) (.int x :: st) ρ sh F P k n) : AW M X Q pc (a0 :: a1 :: a2 :: a3 :: a4 :: a5 :: a6 :: a7 :: a8 :: some (.int x) :: tl) st ρ sh F P k n := aw_iload_g rfl hd kk
theorem aw_istore_9 {a0 a1 a2 a3 a4 a5 a6 a7 a8 : Option Value} {tl : List (Option Value)} {b : Option Value} {x : Int32} (hd : decode M.1 pc = .ok (.istore 9, 2)) (kk : AW M X Q (pc + 2) (a0 :: a1 :: a2 :: a3 :: a4 :: a5 :: a6 :: a7 :: a8 :: some (.int x) :: tl) st ρ sh F P k n) : AW M X Q pc (a0 :: a1 :: a2 :: a3 :: a4 :: a5 :: a6 :: a7 :: a8 :: b :: tl) (.int x :: st) ρ sh F P k n := aw_istore_g (by simp) hd kk
theorem aw_iinc_9 {a0 a1 a2 a3 a4 a5 a6 a7 a8 : Option Value} {tl : List (Option Value)} {z : Int} {x v : Int32} (hx : Int32.ofInt z = v) (hd : decode M.1 pc = .ok (.iinc 9 z, 3)) (kk : AW M X Q (pc + 3) (a0 :: a1 :: a2 :: a3 :: a4 :: a5 :: a6 :: a7 :: a8 :: some (.int (x + v)) :: tl) st ρ sh F P k n) : AW M X Q pc (a0 :: a1 :: a2 :: a3 :: a4 :: a5 :: a6 :: a7 :: a8 :: some (.int x) :: tl) st ρ sh F P k n := aw_iinc_g rfl hx hd kk
theorem aw_iload_10 {a0 a1 a2 a3 a4 a5 a6 a7 a8 a9 : Option Value} {tl : List (Option Value)} {x : Int32} (hd : decode M.1 pc = .ok (.iload 10, 2)) (kk : AW M X Q (pc + 2) (a0 :: a1 :: a2 :: a3 :: a4 :: a5 :: a6 :: a7 :: a8 :: a9 :: some (.int x) :: tl) (.int x :: st) ρ sh F P k n) : AW M X Q pc (a0 :: a1 :: a2 :: a3 :: a4 :: a5 :: a6 :: a7 :: a8 :: a9 :: some (.int x) :: tl) st ρ sh F P k n := aw_iload_g rfl hd kk
theorem aw_istore_10 {a0 a1 a2 a3 a4 a5 a6 a7 a8 a9 : Option Value} {tl : List (Option Value)} {b : Option Value} {x : Int32} (hd : decode M.1 pc = .ok (.istore 10, 2)) (kk : AW M X Q (pc + 2) (a0 :: a1 :: a2 :: a3 :: a4 :: a5 :: a6 :: a7 :: a8 :: a9 :: some (.int x) :: tl) st ρ sh F P k n) : AW M X Q pc (a0 :: a1 :: a2 :: a3 :: a4 :: a5 :: a6 :: a7 :: a8 :: a9 :: b :: tl) (.int x :: st) ρ sh F P k n := aw_istore_g (by simp) hd kk
theorem aw_iinc_10 {a0 a1 a2 a3 a4 a5 a6 a7 a8 a9 : Option Value} {tl : List (Option Value)} {z : Int} {x v : Int32} (hx : Int32.ofInt z = v) (hd : decode M.1 pc = .ok (.iinc 10 z, 3)) (kk : AW M X Q (pc + 3) (a0 :: a1 :: a2 :: a3 :: a4 :: a5 :: a6 :: a7 :: a8 :: a9 :: some (.int (x + v)) :: tl) st ρ sh F P k n) : AW M X Q pc (a0 :: a1 :: a2 :: a3 :: a4 :: a5 :: a6 :: a7 :: a8 :: a9 :: some (.int x) :: tl) st ρ sh F P k n := aw_iinc_g rfl hx hd kk
theorem aw_iload_11 {a0 a1 a2 a3 a4 a5 a6 a7 a8 a9 a10 : Option Value} {tl : List (Option Value)} {x : Int32} (hd : decode M.1 pc = .ok (.iload 11, 2)) (kk : AW M X Q (pc + 2) (a0 :: a1 :: a2 :: a3 :: a4 :: a5 :: a6 :: a7 :: a8 :: a9 :: a10 :: some (.int x) :: tl) (.int x :: st) ρ sh F P k n) : AW M X Q pc (a0 :: a1 :: a2 :: a3 :: a4 :: a5 :: a6 :: a7 :: a8 :: a9 :: a10 :: some (.int x) :: tl) st ρ sh F P k n := aw_iload_g rfl hd kk
theorem aw_istore_11 {a0 a1 a2 a3 a4 a5 a6 a7 a8 a9 a10 : Option Value} {tl : List (Option Value)} {b : Option Value} {x : Int32} (hd : decode M.1 pc = .ok (.istore 11, 2)) (kk : AW M X Q (pc + 2) (a0 :: a1 :: a2 :: a3 :: a4 :: a5 :: a6 :: a7 :: a8 :: a9 :: a10 :: some (.int x) :: tl) st ρ sh F P k n) : AW M X Q pc (a0 :: a1 :: a2 :: a3 :: a4 :: a5 :: a6 :: a7 :: a8 :: a9 :: a10 :: b :: tl) (.int x :: st) ρ sh F P k n := aw_istore_g (by simp) hd kk
theorem aw_iinc_11 {a0 a1 a2 a3 a4 a5 a6 a7 a8 a9 a10 : Option Value} {tl : List (Option Value)} {z : Int} {x v : Int32} (hx : Int32.ofInt z = v) (hd : decode M.1 pc = .ok (.iinc 11 z, 3)) (kk : AW M X Q (pc + 3) (a0 :: a1 :: a2 :: a3 :: a4 :: a5 :: a6 :: a7 :: a8 :: a9 :: a10 :: some (.int (x + v)) :: tl) st ρ sh F P k n) : AW M X Q pc (a0 :: a1 :: a2 :: a3 :: a4 :: a5 :: a6 :: a7 :: a8 :: a9 :: a10 :: some (.int x) :: tl) st ρ sh F P k n := aw_iinc_g rfl hx hd kk
end ZPOS
end
section
/-! ===== 05.heap: fields, arrays, new cells over AW ===== -/
theorem zR.closed {D : va_G} {cs : ClassId × ClassId × ClassId} {ρ : Nat → Nat} {sh : zSh} {F : Nat → Nat → Int32} {P : Nat → Nat → Option Nat} {A : Nat → Prop} {H : Heap} (h : zR D cs ρ sh F P A H) : ∀ i j b, sh i ≠ none → P i j = some b → sh b ≠ none := by
  obtain ⟨L, -, -, -, -, h5⟩ := h
  exact h5
theorem zR.put {D : va_G} {cs : ClassId × ClassId × ClassId} {ρ : Nat → Nat} {sh : zSh} {F F' : Nat → Nat → Int32} {P P' : Nat → Nat → Option Nat} {A : Nat → Prop} {H1 : Heap} {L : List Nat} {q0 i : Nat} {e : va_E} {k : Nat ⊕ (Nat × Nat)}
    (h1 : L.Nodup) (h2 : ∀ i, i ∈ L ↔ sh i ≠ none) (hq : L[q0]? = some i) (hi : sh i = some k) (hP : va_P D vwCl ((L.map (zg cs ρ sh F P)).set q0 (ρ i, e)) H1) (hD : va_D A ((L.map (zg cs ρ sh F P)).set q0 (ρ i, e)))
    (he : zE cs ρ k (F' i) (P' i) = e) (ho : ∀ j, j ≠ i → F' j = F j ∧ P' j = P j) (hc : ∀ i j b, sh i ≠ none → P' i j = some b → sh b ≠ none) : zR D cs ρ sh F' P' A H1 := by
  have hg : (L.map (zg cs ρ sh F P)).set q0 (zg cs ρ sh F' P' i) = L.map (zg cs ρ sh F' P') := zset h1 hq (fun j hj => by simp [zg, ho j hj])
  have hgi : zg cs ρ sh F' P' i = (ρ i, e) := by simp [zg, hi, he]
  rw [hgi] at hg
  rw [hg] at hP hD
  exact ⟨L, h1, h2, hP, hD, hc⟩
section ZHEAP
variable {M : ZM} {X : ZX} {Q : State → Prop} {pc : Nat} {ls : List (Option Value)} {st : List Value} {ρ : Nat → Nat} {sh : zSh} {F : Nat → Nat → Int32} {P : Nat → Nat → Option Nat} {k n : Nat}
variable {C : String} {T : u_T} {N ci kf i index : Nat} {ty : FieldType}
theorem aw_getg {v : Value} (f : zFd C T N ci kf ty) (hin : ∀ w ∈ u_ws C T N, w ∈ M.2.2.1) (hlink : zok M X → (Cond.fieldLink M.2.1 index C (T kf).2.1 (T kf).2.2.1).before (zxa X) (zxs X) = true ∨ ∃ host, (Cond.fieldLinkNest M.2.1 index C (T kf).2.1 (T kf).2.2.1 host).before (zxa X) (zxs X) = true) (hsh : sh i = some (.inl ci)) (hv : zfld ty (F i kf) ((P i kf).map ρ) = zV ρ v) (hd : decode M.1 pc = .ok (.getfield index, 3))
    (kk : AW M X Q (pc + 3) ls (v :: st) ρ sh F P k n) : AW M X Q pc ls (.ref i :: st) ρ sh F P k n := by
  intro ok e el H locs lsA r hS hl
  obtain ⟨L, q0, h1, h2, h3, h4, h5, h6⟩ := r.place hsh
  obtain ⟨f1, f2, f3, f4, f5, f6, f7, f8⟩ := f
  have h6' : (L.map (zg (zxC X) ρ sh F P))[q0]? = some (ρ i, .inr (ci, (List.range (zN ci)).map (fun j => zfld (zT ci j) (F i j) ((P i j).map ρ)))) := h6
  have hg : ((List.range (zN ci)).map (fun j => zfld (zT ci j) (F i j) ((P i j).map ρ)))[kf]? = some (zV ρ v) := by
    rw [zfs_get (by rw [f2]; exact f3), f4, hv]
  rcases hlink ok with hlk | ⟨host, hlk⟩
  · exact va_get ok.1 ok.2.1 ok.2.2.2.2.1 hin ok.2.2.2.1 ok.2.2.2.2.2.2.2.2.1.1 h3 q0 h6' f1 kf f3 hlk (fun _ h => by rw [f6] at h; exact h) hg hd (kk ok e el H locs lsA r hS hl)
  · exact va_getN ok.1 ok.2.1 ok.2.2.2.2.1 hin ok.2.2.2.1 ok.2.2.2.2.2.2.2.2.1.1 h3 q0 h6' f1 kf f3 hlk (fun _ h => by rw [f6] at h; exact h) hg hd (kk ok e el H locs lsA r hS hl)
theorem zlink (h : Cond.fieldLink M.2.1 index C (T kf).2.1 (T kf).2.2.1 ∈ M.2.2.1) : zok M X → (Cond.fieldLink M.2.1 index C (T kf).2.1 (T kf).2.2.1).before (zxa X) (zxs X) = true ∨ ∃ host, (Cond.fieldLinkNest M.2.1 index C (T kf).2.1 (T kf).2.2.1 host).before (zxa X) (zxs X) = true :=
  fun ok => Or.inl (ok.2.2.2.2.1 _ h)
theorem zlinkN {q : Nat} (h : zNF[q]? = some (M.2.1, index, C, (T kf).2.1, (T kf).2.2.1, RX6)) : zok M X → (Cond.fieldLink M.2.1 index C (T kf).2.1 (T kf).2.2.1).before (zxa X) (zxs X) = true ∨ ∃ host, (Cond.fieldLinkNest M.2.1 index C (T kf).2.1 (T kf).2.2.1 host).before (zxa X) (zxs X) = true :=
  fun ok => Or.inr ⟨RX6, va_Nw.use rfl (ok.2.2.2.2.2.2.2.2.1.2.2.1 _ (List.mem_of_getElem? h))⟩
/-- a number's field -/
theorem aw_getI (f : zFd C T N ci kf .int) (hin : ∀ w ∈ u_ws C T N, w ∈ M.2.2.1) (hlink : Cond.fieldLink M.2.1 index C (T kf).2.1 (T kf).2.2.1 ∈ M.2.2.1) (hsh : sh i = some (.inl ci)) (hd : decode M.1 pc = .ok (.getfield index, 3))
    (kk : AW M X Q (pc + 3) ls (.int (F i kf) :: st) ρ sh F P k n) : AW M X Q pc ls (.ref i :: st) ρ sh F P k n := aw_getg f hin (zlink hlink) hsh rfl hd kk
theorem aw_getIN {q : Nat} (f : zFd C T N ci kf .int) (hin : ∀ w ∈ u_ws C T N, w ∈ M.2.2.1) (hlink : zNF[q]? = some (M.2.1, index, C, (T kf).2.1, (T kf).2.2.1, RX6)) (hsh : sh i = some (.inl ci)) (hd : decode M.1 pc = .ok (.getfield index, 3))
    (kk : AW M X Q (pc + 3) ls (.int (F i kf) :: st) ρ sh F P k n) : AW M X Q pc ls (.ref i :: st) ρ sh F P k n := aw_getg f hin (zlinkN hlink) hsh rfl hd kk
theorem aw_getZ (f : zFd C T N ci kf .boolean) (hin : ∀ w ∈ u_ws C T N, w ∈ M.2.2.1) (hlink : Cond.fieldLink M.2.1 index C (T kf).2.1 (T kf).2.2.1 ∈ M.2.2.1) (hsh : sh i = some (.inl ci)) (hd : decode M.1 pc = .ok (.getfield index, 3))
    (kk : AW M X Q (pc + 3) ls (.int (F i kf) :: st) ρ sh F P k n) : AW M X Q pc ls (.ref i :: st) ρ sh F P k n := aw_getg f hin (zlink hlink) hsh rfl hd kk
/-- a reference's field -/
def zisR (ty : FieldType) : Prop := ∀ x r, zfld ty x r = va_rf r
theorem aw_getR {j : Nat} (f : zFd C T N ci kf ty) (hty : zisR ty) (hp : P i kf = some j) (hin : ∀ w ∈ u_ws C T N, w ∈ M.2.2.1) (hlink : Cond.fieldLink M.2.1 index C (T kf).2.1 (T kf).2.2.1 ∈ M.2.2.1) (hsh : sh i = some (.inl ci)) (hd : decode M.1 pc = .ok (.getfield index, 3))
    (kk : AW M X Q (pc + 3) ls (.ref j :: st) ρ sh F P k n) : AW M X Q pc ls (.ref i :: st) ρ sh F P k n := aw_getg f hin (zlink hlink) hsh (by rw [hty, hp]; rfl) hd kk
theorem aw_getRN {j q : Nat} (f : zFd C T N ci kf ty) (hty : zisR ty) (hp : P i kf = some j) (hin : ∀ w ∈ u_ws C T N, w ∈ M.2.2.1) (hlink : zNF[q]? = some (M.2.1, index, C, (T kf).2.1, (T kf).2.2.1, RX6)) (hsh : sh i = some (.inl ci)) (hd : decode M.1 pc = .ok (.getfield index, 3))
    (kk : AW M X Q (pc + 3) ls (.ref j :: st) ρ sh F P k n) : AW M X Q pc ls (.ref i :: st) ρ sh F P k n := aw_getg f hin (zlinkN hlink) hsh (by rw [hty, hp]; rfl) hd kk
/-- a number put into a field -/
theorem aw_putg {x : Int32} (f : zFd C T N ci kf ty) (hz : ∀ r, zfld ty x r = .int x) (hnar : narrow ty (.int x) = .int x) (hfit : fits ty (.int x) = true) (hfin : (T kf).2.2.2 = false) (hin : ∀ w ∈ u_ws C T N, w ∈ M.2.2.1) (hlink : zok M X → (Cond.fieldLink M.2.1 index C (T kf).2.1 (T kf).2.2.1).before (zxa X) (zxs X) = true ∨ ∃ host, (Cond.fieldLinkNest M.2.1 index C (T kf).2.1 (T kf).2.2.1 host).before (zxa X) (zxs X) = true) (hsh : sh i = some (.inl ci)) (hd : decode M.1 pc = .ok (.putfield index, 3))
    (kk : AW M X Q (pc + 3) ls st ρ sh (zu F i kf x) P k n) : AW M X Q pc ls (.int x :: .ref i :: st) ρ sh F P k n := by
  intro ok e el H locs lsA r hS hl
  obtain ⟨L, q0, h1, h2, h3, h4, h5, h6⟩ := r.place hsh
  obtain ⟨f1, f2, f3, f4, f5, f6, f7, f8⟩ := f
  have h6' : (L.map (zg (zxC X) ρ sh F P))[q0]? = some (ρ i, .inr (ci, (List.range (zN ci)).map (fun j => zfld (zT ci j) (F i j) ((P i j).map ρ)))) := h6
  have hkf : kf < zN ci := by rw [f2]; exact f3
  have he : zE (zxC X) ρ (.inl ci) (zu F i kf x i) (P i) = .inr (ci, ((List.range (zN ci)).map (fun j => zfld (zT ci j) (F i j) ((P i j).map ρ))).set kf (.int x)) := by
    show (Sum.inr (ci, _) : va_E) = _
    rw [zfs_set (g := zu F i kf x i) (q := P i) hkf (by rw [f4]; simp [zu, upd, hz]) (fun j hj => ⟨by simp [zu, upd, hj], rfl⟩)]
  have fin : ∀ (H1 : Heap) (locs1 : List Loc), va_P (zxD X) vwCl ((L.map (zg (zxC X) ρ sh F P)).set q0 (ρ i, .inr (ci, ((List.range (zN ci)).map (fun j => zfld (zT ci j) (F i j) ((P i j).map ρ))).set kf (.int x)))) H1 → va_D (zAx X) ((L.map (zg (zxC X) ρ sh F P)).set q0 (ρ i, .inr (ci, ((List.range (zN ci)).map (fun j => zfld (zT ci j) (F i j) ((P i j).map ρ))).set kf (.int x)))) → va_S (zAx X) (zxs X).heap H1 locs1 → W (zxp X) (zxl X) (zxe X) (zxR X) (zxs X) (zxm X) (zxa X) (zxb X) (zxt X) (zxc X) H1 locs1 k n Q (F0 (zxm X) (pc + 3) lsA (st.map (zV ρ))) :=
    fun H1 locs1 hP hD hS => kk ok e el H1 locs1 lsA (zR.put h1 h2 h5 hsh hP hD he (fun j hj => ⟨by simp [zu, hj], rfl⟩) r.closed) hS hl
  rcases hlink ok with hlk | ⟨host, hlk⟩
  · exact va_put ok.1 ok.2.1 ok.2.2.2.2.1 hin (zT ci) f7 f8 ok.2.2.2.1 ok.2.2.2.2.2.2.2.2.1.1 h3 h4 hS q0 h6' f1 kf f3 hlk (fun _ h => by rw [f6] at h; exact h) hfin f5 hnar hfit (by simpa using hkf) hd fin
  · exact va_putN ok.1 ok.2.1 ok.2.2.2.2.1 hin (zT ci) f7 f8 ok.2.2.2.1 ok.2.2.2.2.2.2.2.2.1.1 h3 h4 hS q0 h6' f1 kf f3 hlk (fun _ h => by rw [f6] at h; exact h) hfin f5 hnar hfit (by simpa using hkf) hd fin
theorem aw_putI {x : Int32} (f : zFd C T N ci kf .int) (hfin : (T kf).2.2.2 = false) (hin : ∀ w ∈ u_ws C T N, w ∈ M.2.2.1) (hlink : Cond.fieldLink M.2.1 index C (T kf).2.1 (T kf).2.2.1 ∈ M.2.2.1) (hsh : sh i = some (.inl ci)) (hd : decode M.1 pc = .ok (.putfield index, 3))
    (kk : AW M X Q (pc + 3) ls st ρ sh (zu F i kf x) P k n) : AW M X Q pc ls (.int x :: .ref i :: st) ρ sh F P k n := aw_putg f (fun _ => rfl) rfl rfl hfin hin (zlink hlink) hsh hd kk
theorem aw_putIN {x : Int32} {q : Nat} (f : zFd C T N ci kf .int) (hfin : (T kf).2.2.2 = false) (hin : ∀ w ∈ u_ws C T N, w ∈ M.2.2.1) (hlink : zNF[q]? = some (M.2.1, index, C, (T kf).2.1, (T kf).2.2.1, RX6)) (hsh : sh i = some (.inl ci)) (hd : decode M.1 pc = .ok (.putfield index, 3))
    (kk : AW M X Q (pc + 3) ls st ρ sh (zu F i kf x) P k n) : AW M X Q pc ls (.int x :: .ref i :: st) ρ sh F P k n := aw_putg f (fun _ => rfl) rfl rfl hfin hin (zlinkN hlink) hsh hd kk
theorem aw_putZ {x : Int32} (hx : x = 0 ∨ x = 1) (f : zFd C T N ci kf .boolean) (hfin : (T kf).2.2.2 = false) (hin : ∀ w ∈ u_ws C T N, w ∈ M.2.2.1) (hlink : Cond.fieldLink M.2.1 index C (T kf).2.1 (T kf).2.2.1 ∈ M.2.2.1) (hsh : sh i = some (.inl ci)) (hd : decode M.1 pc = .ok (.putfield index, 3))
    (kk : AW M X Q (pc + 3) ls st ρ sh (zu F i kf x) P k n) : AW M X Q pc ls (.int x :: .ref i :: st) ρ sh F P k n := aw_putg f (fun _ => rfl) (by rcases hx with rfl | rfl <;> rfl) (by rcases hx with rfl | rfl <;> rfl) hfin hin (zlink hlink) hsh hd kk
/-- a constructor's reference -/
theorem aw_putF {j : Nat} (f : zFd C T N ci kf ty) (hty : zisR ty) (hnar : ∀ a, narrow ty (.ref a) = .ref a) (hfit : ∀ a, fits ty (.ref a) = true) (hfin : (T kf).2.2.2 = true) (hinit : M.2.2.2.2.2.2.2.2 = "<init>") (hdecl : C = M.2.1) (hj : sh j ≠ none) (hin : ∀ w ∈ u_ws C T N, w ∈ M.2.2.1) (hlink : Cond.fieldLink M.2.1 index C (T kf).2.1 (T kf).2.2.1 ∈ M.2.2.1) (hsh : sh i = some (.inl ci)) (hd : decode M.1 pc = .ok (.putfield index, 3))
    (kk : AW M X Q (pc + 3) ls st ρ sh F (zuP P i kf (some j)) k n) : AW M X Q pc ls (.ref j :: .ref i :: st) ρ sh F P k n := by
  intro ok e el H locs lsA r hS hl
  obtain ⟨L, q0, h1, h2, h3, h4, h5, h6⟩ := r.place hsh
  obtain ⟨f1, f2, f3, f4, f5, f6, f7, f8⟩ := f
  have h6' : (L.map (zg (zxC X) ρ sh F P))[q0]? = some (ρ i, .inr (ci, (List.range (zN ci)).map (fun j => zfld (zT ci j) (F i j) ((P i j).map ρ)))) := h6
  have hkf : kf < zN ci := by rw [f2]; exact f3
  have he : zE (zxC X) ρ (.inl ci) (F i) (zuP P i kf (some j) i) = .inr (ci, ((List.range (zN ci)).map (fun j => zfld (zT ci j) (F i j) ((P i j).map ρ))).set kf (.ref (ρ j))) := by
    show (Sum.inr (ci, _) : va_E) = _
    rw [zfs_set (g := F i) (q := zuP P i kf (some j) i) hkf (by rw [f4, hty]; simp [zuP, va_up, va_rf]) (fun j hj => ⟨rfl, by simp [zuP, va_up, hj]⟩)]
  refine va_putF ok.1 ok.2.1 ok.2.2.2.2.1 hin (zT ci) f7 f8 ok.2.2.2.1 ok.2.2.2.2.2.2.2.2.1.1 h3 h4 hS q0 h6' f1 kf f3 (ok.2.2.2.2.1 _ hlink) (fun _ h => by rw [f6] at h; exact h) hfin (by rw [ok.2.2.2.2.2.2.2.2.2]; exact hinit) (by rw [f6]; exact hdecl) f5 (hnar _) (hfit _) (by simpa using hkf) hd (fun H1 locs1 hP hD hS => kk ok e el H1 locs1 lsA (zR.put h1 h2 h5 hsh hP hD he (fun j hj => ⟨rfl, by simp [zuP, hj]⟩) (fun a b c ha hb => ?_)) hS hl)
  by_cases hai : a = i
  · subst hai
    by_cases hbk : b = kf
    · subst hbk
      simp [zuP, va_up] at hb
      rw [← hb]
      exact hj
    · simp [zuP, va_up, hbk] at hb
      exact r.closed a b c ha hb
  · simp [zuP, hai] at hb
    exact r.closed a b c ha hb
/-! arrays -/
theorem zty_I {D : va_G} {cs : ClassId × ClassId × ClassId} : (zty cs)[0]? = some (cs.1, .int) := rfl
theorem zty_Z {D : va_G} {cs : ClassId × ClassId × ClassId} : (zty cs)[1]? = some (cs.2.1, .boolean) := rfl
theorem zty_S {D : va_G} {cs : ClassId × ClassId × ClassId} : (zty cs)[2]? = some (cs.2.2, .object RX3) := rfl
theorem aw_iaload {z : Nat} {x : Int32} (hsh : sh i = some (.inr (0, z))) (hx : vp_in x z) (hd : decode M.1 pc = .ok (.iaload, 1)) (kk : AW M X Q (pc + 1) ls (.int (F i x.toNatClampNeg) :: st) ρ sh F P k n) : AW M X Q pc ls (.int x :: .ref i :: st) ρ sh F P k n := by
  intro ok e el H locs lsA r hS hl
  obtain ⟨L, q0, h1, h2, h3, h4, h5, h6⟩ := r.place hsh
  exact va_iald ok.1 ok.2.1 ok.2.2.2.2.2.2.2.2.1.1 h3 q0 0 (cA := (zxC X).1) (n := z) (f := F i) h6 rfl hx hd (kk ok e el H locs lsA r hS hl)
theorem aw_zaload {z : Nat} {x : Int32} (hsh : sh i = some (.inr (1, z))) (hx : vp_in x z) (hd : decode M.1 pc = .ok (.baload, 1)) (kk : AW M X Q (pc + 1) ls (.int (F i x.toNatClampNeg) :: st) ρ sh F P k n) : AW M X Q pc ls (.int x :: .ref i :: st) ρ sh F P k n := by
  intro ok e el H locs lsA r hS hl
  obtain ⟨L, q0, h1, h2, h3, h4, h5, h6⟩ := r.place hsh
  exact va_zald ok.1 ok.2.1 ok.2.2.2.2.2.2.2.2.1.1 h3 q0 1 (cA := (zxC X).2.1) (n := z) (f := F i) h6 rfl hx hd (kk ok e el H locs lsA r hS hl)
theorem aw_aaload {z j : Nat} {x : Int32} (hsh : sh i = some (.inr (2, z))) (hx : vp_in x z) (hp : P i x.toNatClampNeg = some j) (hd : decode M.1 pc = .ok (.aaload, 1)) (kk : AW M X Q (pc + 1) ls (.ref j :: st) ρ sh F P k n) : AW M X Q pc ls (.int x :: .ref i :: st) ρ sh F P k n := by
  intro ok e el H locs lsA r hS hl
  obtain ⟨L, q0, h1, h2, h3, h4, h5, h6⟩ := r.place hsh
  refine va_aldq ok.1 ok.2.1 ok.2.2.2.2.2.2.2.2.1.1 h3 q0 2 (cA := (zxC X).2.2) (C := RX3) (n := z) (f := fun b => (P i b).map ρ) h6 rfl hx hd ?_
  rw [hp]
  exact kk ok e el H locs lsA r hS hl
theorem aw_aaloadN {z : Nat} {x : Int32} (hsh : sh i = some (.inr (2, z))) (hx : vp_in x z) (hp : P i x.toNatClampNeg = none) (hd : decode M.1 pc = .ok (.aaload, 1)) (kk : AW M X Q (pc + 1) ls (.null :: st) ρ sh F P k n) : AW M X Q pc ls (.int x :: .ref i :: st) ρ sh F P k n := by
  intro ok e el H locs lsA r hS hl
  obtain ⟨L, q0, h1, h2, h3, h4, h5, h6⟩ := r.place hsh
  refine va_aldq ok.1 ok.2.1 ok.2.2.2.2.2.2.2.2.1.1 h3 q0 2 (cA := (zxC X).2.2) (C := RX3) (n := z) (f := fun b => (P i b).map ρ) h6 rfl hx hd ?_
  rw [hp]
  exact kk ok e el H locs lsA r hS hl
theorem aw_alen {t z : Nat} {v : Int32} (ht : t < 3) (hsh : sh i = some (.inr (t, z))) (hv : Int32.ofNat z = v) (hd : decode M.1 pc = .ok (.arraylength, 1)) (kk : AW M X Q (pc + 1) ls (.int v :: st) ρ sh F P k n) : AW M X Q pc ls (.ref i :: st) ρ sh F P k n := by
  intro ok e el H locs lsA r hS hl
  obtain ⟨L, q0, h1, h2, h3, h4, h5, h6⟩ := r.place hsh
  match t, ht, h6 with
  | 0, _, h6 => exact va_alen ok.1 ok.2.1 ok.2.2.2.2.2.2.2.2.1.1 h3 q0 0 (cA := (zxC X).1) (x := (z, .inl (F i))) h6 rfl hv hd (kk ok e el H locs lsA r hS hl)
  | 1, _, h6 => exact va_alen ok.1 ok.2.1 ok.2.2.2.2.2.2.2.2.1.1 h3 q0 1 (cA := (zxC X).2.1) (x := (z, .inl (F i))) h6 rfl hv hd (kk ok e el H locs lsA r hS hl)
  | 2, _, h6 => exact va_alen ok.1 ok.2.1 ok.2.2.2.2.2.2.2.2.1.1 h3 q0 2 (cA := (zxC X).2.2) (x := (z, .inr (.inr (.inr (.inr (fun b => (P i b).map ρ)))))) h6 rfl hv hd (kk ok e el H locs lsA r hS hl)
theorem aw_iastore {z : Nat} {x y : Int32} (hsh : sh i = some (.inr (0, z))) (hx : vp_in x z) (hd : decode M.1 pc = .ok (.iastore, 1)) (kk : AW M X Q (pc + 1) ls st ρ sh (zu F i x.toNatClampNeg y) P k n) : AW M X Q pc ls (.int y :: .int x :: .ref i :: st) ρ sh F P k n := by
  intro ok e el H locs lsA r hS hl
  obtain ⟨L, q0, h1, h2, h3, h4, h5, h6⟩ := r.place hsh
  exact va_iast ok.1 ok.2.1 ok.2.2.2.2.2.2.2.2.1.1 h3 h4 hS q0 0 (cA := (zxC X).1) (n := z) (f := F i) h6 rfl hx hd (fun H1 locs1 hP hD hS => kk ok e el H1 locs1 lsA (zR.put h1 h2 h5 hsh hP hD (by simp [zE, zu]) (fun j hj => ⟨by simp [zu, hj], rfl⟩) r.closed) hS hl)
theorem aw_zastore {z : Nat} {x y : Int32} (hy : vp_nar .boolean y = y) (hsh : sh i = some (.inr (1, z))) (hx : vp_in x z) (hd : decode M.1 pc = .ok (.bastore, 1)) (kk : AW M X Q (pc + 1) ls st ρ sh (zu F i x.toNatClampNeg y) P k n) : AW M X Q pc ls (.int y :: .int x :: .ref i :: st) ρ sh F P k n := by
  intro ok e el H locs lsA r hS hl
  obtain ⟨L, q0, h1, h2, h3, h4, h5, h6⟩ := r.place hsh
  exact va_zast ok.1 ok.2.1 ok.2.2.2.2.2.2.2.2.1.1 h3 h4 hS q0 1 (cA := (zxC X).2.1) (n := z) (f := F i) h6 rfl hx hd (fun H1 locs1 hP hD hS => kk ok e el H1 locs1 lsA (zR.put h1 h2 h5 hsh hP hD (by simp [zE, zu, hy]) (fun j hj => ⟨by simp [zu, hj], rfl⟩) r.closed) hS hl)
theorem aw_aastore {z j : Nat} {x : Int32} (hsh : sh i = some (.inr (2, z))) (hj : sh j = some (.inl 3)) (hx : vp_in x z) (hd : decode M.1 pc = .ok (.aastore, 1)) (kk : AW M X Q (pc + 1) ls st ρ sh F (zuP P i x.toNatClampNeg (some j)) k n) : AW M X Q pc ls (.ref j :: .int x :: .ref i :: st) ρ sh F P k n := by
  intro ok e el H locs lsA r hS hl
  obtain ⟨L, q0, h1, h2, h3, h4, h5, h6⟩ := r.place hsh
  obtain ⟨q1, hq1⟩ := List.getElem?_of_mem ((h2 j).mpr (by rw [hj]; exact fun e => by cases e))
  have h7 : (L.map (zg (zxC X) ρ sh F P))[q1]? = some (ρ j, zE (zxC X) ρ (.inl 3) (F j) (P j)) := by
    rw [List.getElem?_map, hq1]
    simp [zg, hj]
  refine va_astq ok.1 ok.2.1 ok.2.2.2.2.2.2.2.2.1.1 h3 h4 hS q0 2 q1 3 (cA := (zxC X).2.2) (r := (RX3, TX3, 2)) (n := z) (f := fun b => (P i b).map ρ) h6 rfl h7 rfl hx hd (fun H1 locs1 hP hD hS => kk ok e el H1 locs1 lsA (zR.put h1 h2 h5 hsh hP hD ?_ (fun j hj => ⟨rfl, by simp [zuP, hj]⟩) (fun a b c ha hb => ?_)) hS hl)
  · simp only [zE, zuP, if_pos]
    congr 7
    funext b
    by_cases hb : b = x.toNatClampNeg <;> simp [va_up, hb]
  · by_cases hai : a = i
    · subst hai
      by_cases hbk : b = x.toNatClampNeg
      · subst hbk
        simp [zuP, va_up] at hb
        rw [← hb, hj]
        exact fun e => by cases e
      · simp [zuP, va_up, hbk] at hb
        exact r.closed a b c ha hb
    · simp [zuP, hai] at hb
      exact r.closed a b c ha hb
end ZHEAP
end
section
/-! ===== 06.calls: calls, ends, beginnings, new cells over AW ===== -/
theorem zR.inA {D : va_G} {cs : ClassId × ClassId × ClassId} {ρ : Nat → Nat} {sh : zSh} {F : Nat → Nat → Int32} {P : Nat → Nat → Option Nat} {A : Nat → Prop} {H : Heap} (h : zR D cs ρ sh F P A H) {i : Nat} (hi : sh i ≠ none) : A (ρ i) := by
  obtain ⟨L, h1, h2, h3, h4, h5⟩ := h
  obtain ⟨q0, hq⟩ := List.getElem?_of_mem ((h2 i).mpr hi)
  have := h4.2 q0 (zg cs ρ sh F P i) (by rw [List.getElem?_map, hq]; rfl)
  exact this
theorem zPre_blind {av : List Value} {D : va_G} {cs : ClassId × ClassId × ClassId} {ρ : Nat → Nat} {sh : zSh} {F : Nat → Nat → Int32} {P : Nat → Nat → Option Nat} {sz : Nat} : FrameBlind (va_Pc av (zPre D cs ρ sh F P sz)) :=
  fun a U g mk q => ⟨q.1, q.2.1, q.2.2.1, zK.same (U := U.calling g mk a) q.2.2.2 rfl⟩
section ZCALL
variable {M : ZM} {X : ZX} {Q : State → Prop} {pc : Nat} {ls : List (Option Value)} {st : List Value} {ρ : Nat → Nat} {sh : zSh} {F : Nat → Nat → Int32} {P : Nat → Nat → Option Nat} {k n : Nat}
theorem zcall {r : Option Value} {sh' : zSh} {F' : Nat → Nat → Int32} {P' : Nat → Nat → Option Nat} {mc ms : Nat} {a : Array Value} {H : Heap} {locs : List Loc} {lsA : Array Slot} {st0 rest : List Value}
    (hr : va_Run (zxp X) (zxl X) (zxe X) (zxR X) (zxs X) (zxm X) (zxa X) (zxb X) (zxt X) (zxc X) H locs k n mc ms (F0 (zxm X) pc lsA st0) rest (zPost (zxD X) (zxC X) ρ sh H.size r sh' F' P' a) (zA ρ sh H.size))
    (hS : va_S (zAx X) (zxs X).heap H locs) (hAx : ∀ i, sh i ≠ none → zAx X (ρ i))
    (kk : ∀ (ρ' : Nat → Nat) (H1 : Heap) (locs1 : List Loc), zExt ρ sh ρ' sh' → zR (zxD X) (zxC X) ρ' sh' F' P' (zAx X) H1 → va_S (zAx X) (zxs X).heap H1 locs1 → W (zxp X) (zxl X) (zxe X) (zxR X) (zxs X) (zxm X) (zxa X) (zxb X) (zxt X) (zxc X) H1 locs1 (k + mc) (n + ms) Q (F0 (zxm X) (pc + 3) lsA ((r.map (zV ρ')).toList ++ rest))) :
    W (zxp X) (zxl X) (zxe X) (zxR X) (zxs X) (zxm X) (zxa X) (zxb X) (zxt X) (zxc X) H locs k n Q (F0 (zxm X) pc lsA st0) := by
  intro T hT X1
  obtain ⟨v, st₀, t, T', L, h0, X2, hL, e1, e2, ⟨⟨ρ', hv, he, hR⟩, hz, hk⟩, stp⟩ := hr T hT X1
  cases hv
  rw [h0] at hz hk
  have hA : ∀ q, zA ρ sh H.size q → zAx X q := by
    intro q hq
    rcases hq with ⟨i, h1, rfl⟩ | h1
    · exact hAx i h1
    · exact Or.inr (Nat.le_trans hS.1 h1)
  obtain ⟨t2, a1, b1⟩ := kk ρ' T'.heap (locs ++ L) he (by rw [e1]; exact hR.weaken (fun i _ h => hA _ h)) ⟨Nat.le_trans hS.1 (by rw [e1]; exact hz), fun q h1 h2 => by
      rw [e1, hk q (Nat.lt_of_lt_of_le h1 hS.1) (fun z => h2 (hA q z))]
      exact hS.2.1 q h1 h2, fun q hq => by
      rcases List.mem_append.mp hq with h | h
      · exact hS.2.2 q h
      · exact hA _ (hL q h)⟩ T' rfl X2
  exact ⟨t2, stp t2 a1, b1⟩
/-- the refs that are in hand are no new cells -/
def zrefs (sh sh' : zSh) (ls : List (Option Value)) (st : List Value) : Prop := (∀ j, some (Value.ref j) ∈ ls → sh j ≠ none ∨ sh' j = none) ∧ ∀ j, Value.ref j ∈ st → sh j ≠ none ∨ sh' j = none
theorem zrefs.same {ls : List (Option Value)} {st : List Value} : zrefs sh sh ls st := ⟨fun j _ => by by_cases h : sh j = none <;> simp [h], fun j _ => by by_cases h : sh j = none <;> simp [h]⟩
theorem zExt.at {ρ ρ' : Nat → Nat} {sh sh' : zSh} (h : zExt ρ sh ρ' sh') {j : Nat} (hj : sh j ≠ none ∨ sh' j = none) : ρ' j = ρ j := by
  by_cases e : ρ' j = ρ j
  · exact e
  · obtain ⟨h1, h2⟩ := h.1 j e
    rcases hj with h3 | h3
    · exact absurd h1 h3
    · exact absurd h3 h2
/-- what a call needs, whatever its kind: the run -/
def zRun (M : ZM) (X : ZX) (pc : Nat) (st rest : List Value) (ρ : Nat → Nat) (sh : zSh) (F : Nat → Nat → Int32) (P : Nat → Nat → Option Nat) (k n mc ms : Nat) (r : Option Value) (sh' : zSh) (F' : Nat → Nat → Int32) (P' : Nat → Nat → Option Nat) : Prop :=
  zok M X → ∀ (H : Heap) (locs : List Loc) (lsA : Array Slot), lsA.size = M.2.2.2.2.2.2.2.1 → zR (zxD X) (zxC X) ρ sh F P (zAx X) H → ∃ a, va_Run (zxp X) (zxl X) (zxe X) (zxR X) (zxs X) (zxm X) (zxa X) (zxb X) (zxt X) (zxc X) H locs k n mc ms (F0 (zxm X) pc lsA (st.map (zV ρ))) (rest.map (zV ρ)) (zPost (zxD X) (zxC X) ρ sh H.size r sh' F' P' a) (zA ρ sh H.size)
theorem aw_runA {rest : List Value} {mc ms : Nat} {v : Value} {sh' : zSh} {F' : Nat → Nat → Int32} {P' : Nat → Nat → Option Nat} (hr : zRun M X pc st rest ρ sh F P k n mc ms (some v) sh' F' P') (href : zrefs sh sh' ls rest)
    (kk : ∀ ρ', AW M X Q (pc + 3) ls (v :: rest) ρ' sh' F' P' (k + mc) (n + ms)) : AW M X Q pc ls st ρ sh F P k n := by
  intro ok e el H locs lsA rr hS hl
  obtain ⟨a, hr⟩ := hr ok H locs lsA (hl.1.trans el) rr
  refine zcall hr hS (fun i hi => rr.inA hi) (fun ρ' H1 locs1 he hR hS1 => ?_)
  have h := kk ρ' ok (e.trans he) el H1 locs1 lsA hR hS1 (zL_ext hl (fun j hj => he.at (href.1 j hj)))
  have h2 : (v :: rest).map (zV ρ') = ((some v).map (zV ρ')).toList ++ rest.map (zV ρ) := by
    rw [List.map_cons, zst_ext (fun j hj => he.at (href.2 j hj))]
    rfl
  rw [h2] at h
  exact h
theorem aw_runAv {rest : List Value} {mc ms : Nat} {sh' : zSh} {F' : Nat → Nat → Int32} {P' : Nat → Nat → Option Nat} (hr : zRun M X pc st rest ρ sh F P k n mc ms none sh' F' P') (href : zrefs sh sh' ls rest)
    (kk : ∀ ρ', AW M X Q (pc + 3) ls rest ρ' sh' F' P' (k + mc) (n + ms)) : AW M X Q pc ls st ρ sh F P k n := by
  intro ok e el H locs lsA rr hS hl
  obtain ⟨a, hr⟩ := hr ok H locs lsA (hl.1.trans el) rr
  refine zcall hr hS (fun i hi => rr.inA hi) (fun ρ' H1 locs1 he hR hS1 => ?_)
  have h := kk ρ' ok (e.trans he) el H1 locs1 lsA hR hS1 (zL_ext hl (fun j hj => he.at (href.1 j hj)))
  rw [zst_ext (fun j hj => he.at (href.2 j hj))] at h
  exact h
/-- a call that makes nothing and answers -/
theorem aw_run {rest : List Value} {v : Value} {F' : Nat → Nat → Int32} (hr : zRun M X pc st rest ρ sh F P k n 0 0 (some v) sh F' P)
    (kk : AW M X Q (pc + 3) ls (v :: rest) ρ sh F' P k n) : AW M X Q pc ls st ρ sh F P k n := by
  intro ok e el H locs lsA rr hS hl
  obtain ⟨a, hr⟩ := hr ok H locs lsA (hl.1.trans el) rr
  refine zcall hr hS (fun i hi => rr.inA hi) (fun ρ' H1 locs1 he hR hS1 => ?_)
  have hρ := he.same
  subst hρ
  exact kk ok e el H1 locs1 lsA hR hS1 hl
theorem aw_runv {rest : List Value} {F' : Nat → Nat → Int32} (hr : zRun M X pc st rest ρ sh F P k n 0 0 none sh F' P)
    (kk : AW M X Q (pc + 3) ls rest ρ sh F' P k n) : AW M X Q pc ls st ρ sh F P k n := by
  intro ok e el H locs lsA rr hS hl
  obtain ⟨a, hr⟩ := hr ok H locs lsA (hl.1.trans el) rr
  refine zcall hr hS (fun i hi => rr.inA hi) (fun ρ' H1 locs1 he hR hS1 => ?_)
  have hρ := he.same
  subst hρ
  exact kk ok e el H1 locs1 lsA hR hS1 hl
theorem zroom {hc h mc ms Mc Ms maxL : Nat} (hh : hc < h) (hm : maxL ≤ 41) : (zrm hc mc ms).frames + 1 ≤ (zrm h Mc Ms).frames ∧ 8 + (maxL + 11) + (zrm hc mc ms).locals ≤ (zrm h Mc Ms).locals := by
  simp only [zrm]
  omega
theorem zcat (ρ : Nat → Nat) (l : List Value) : ((l.map (zV ρ)).map fun v => v.category).sum = (l.map fun v => v.category).sum := by
  rw [List.map_map]
  congr 2
  funext v
  exact zV_cat ρ v
variable {y : MethodName} {w : List Cond} {hc mc ms na index : Nat} {ret : Option FieldType} {as rest : List Value} {r : Option Value} {sh' : zSh} {F' : Nat → Nat → Int32} {P' : Nat → Nat → Option Nat}
theorem zRun_V {C : String} {T : u_T} {N ci b : Nat} (hM : zMet y w hc mc ms (.ref b :: as) sh F P r sh' F' P') (hG : GoodIn M.2.2.1 (wsV M.2.1 index C y w)) (hq : zCal y w na ret) (hcl : y.cls = C) (hh : hc < M.2.2.2.1) (hC : vwCl[ci]? = some (C, T, N)) (hsh : sh b = some (.inl ci)) (hna : as.length = na)
    (hst : st = as.reverse ++ .ref b :: rest) (hrest : (rest.map fun v => v.category).sum ≤ 8) (hd : decode M.1 pc = .ok (.invokevirtual index, 3)) (hk : k + mc ≤ M.2.2.2.2.1 ∧ n + ms ≤ M.2.2.2.2.2.1) : zRun M X pc st rest ρ sh F P k n mc ms r sh' F' P' := by
  intro ok H locs lsA hz rr
  obtain ⟨⟨bytes, maxL, w', hw, hmL⟩, hdy⟩ := hq
  obtain ⟨L, q0, h1, h2, h3, h4, h5, h6⟩ := rr.place hsh
  refine ⟨_, va_runV (As := as.map (zV ρ)) (rest := rest.map (zV ρ)) (b := ρ b) (C := C) ⟨ok.1, ok.2.1, ok.2.2.1, ok.2.2.2.1, ok.2.2.2.2.1⟩ (hM (zxl X) (zxD X) (zxC X) ρ H.size) (cwV na ok.2.2.2.2.1 hG hw rfl rfl ⟨hcl, hdy⟩ (by rw [ok.2.2.2.2.2.2.2.1]; exact zroom hh hmL)) ⟨zPre_blind, va_recv ok.2.2.2.2.2.2.2.2.1.1 h3 hC h6, fun U hU hW => ⟨rfl, by rw [hU], by rw [hU]; exact rr.weaken (fun _ _ _ => trivial), ok.2.2.2.2.2.2.2.2.1.warm hW⟩⟩ rfl (by rw [List.length_map]; exact hna) hz (by subst hst; show List.map (zV ρ) (as.reverse ++ .ref b :: rest) = _; rw [List.map_append, List.map_cons, List.map_reverse]; rfl) (lv_room (by rw [zcat]; exact hrest)) hd (by rw [ok.2.2.2.2.2.2.2.1]; exact hk)⟩
theorem zRun_S (hM : zMet y w hc mc ms as sh F P r sh' F' P') (hG : GoodIn M.2.2.1 (va_wsS M.2.1 index y w) ∨ (y.cls = M.2.1 ∧ GoodIn M.2.2.1 (wsS M.2.1 index y w))) (hq : zCal y w na ret) (hh : hc < M.2.2.2.1) (hna : as.length = na)
    (hst : st = as.reverse ++ rest) (hrest : (rest.map fun v => v.category).sum ≤ 8) (hd : decode M.1 pc = .ok (.invokestatic index, 3)) (hk : k + mc ≤ M.2.2.2.2.1 ∧ n + ms ≤ M.2.2.2.2.2.1) : zRun M X pc st rest ρ sh F P k n mc ms r sh' F' P' := by
  intro ok H locs lsA hz rr
  obtain ⟨⟨bytes, maxL, w', hw, hmL⟩, hdy⟩ := hq
  have cw : CallB (zxR X) (zxs X) (zxa X) M.2.1 index y bytes maxL ret w (zrm hc mc ms) mc ms na ∧ (Cond.static y).before (zxa X) (zxs X) = true := by
    rcases hG with hG | ⟨hcl, hG⟩
    · exact va_cwS na ok.2.2.2.2.1 hG hw rfl rfl hdy (by rw [ok.2.2.2.2.2.2.2.1]; exact zroom hh hmL)
    · exact cwS na ok.2.2.2.2.1 hG hw rfl rfl ⟨hcl, hdy⟩ (by rw [ok.2.2.2.2.2.2.2.1]; exact zroom hh hmL)
  refine ⟨_, va_runS (As := as.map (zV ρ)) (rest := rest.map (zV ρ)) ⟨ok.1, ok.2.1, ok.2.2.1, ok.2.2.2.1, ok.2.2.2.2.1⟩ (hM (zxl X) (zxD X) (zxC X) ρ H.size) cw ⟨zPre_blind, fun U hU hW => ⟨rfl, by rw [hU], by rw [hU]; exact rr.weaken (fun _ _ _ => trivial), ok.2.2.2.2.2.2.2.2.1.warm hW⟩⟩ rfl (by rw [List.length_map]; exact hna) hz (by subst hst; show List.map (zV ρ) (as.reverse ++ rest) = _; rw [List.map_append, List.map_reverse]) (lv_room (by rw [zcat]; exact hrest)) hd (by rw [ok.2.2.2.2.2.2.2.1]; exact hk)⟩
theorem zRun_SN {qn : Nat} (hM : zMet y w hc mc ms as sh F P r sh' F' P') (hG : GoodIn M.2.2.1 w) (hn : zNM[qn]? = some (M.2.1, index, y, RX6)) (hstat : Cond.static y ∈ M.2.2.1) (hini : Cond.initialized y.cls ∈ M.2.2.1) (hq : zCal y w na ret) (hh : hc < M.2.2.2.1) (hna : as.length = na)
    (hst : st = as.reverse ++ rest) (hrest : (rest.map fun v => v.category).sum ≤ 8) (hd : decode M.1 pc = .ok (.invokestatic index, 3)) (hk : k + mc ≤ M.2.2.2.2.1 ∧ n + ms ≤ M.2.2.2.2.2.1) : zRun M X pc st rest ρ sh F P k n mc ms r sh' F' P' := by
  intro ok H locs lsA hz rr
  obtain ⟨⟨bytes, maxL, w', hw, hmL⟩, hdy⟩ := hq
  refine ⟨_, va_runSN (As := as.map (zV ρ)) (rest := rest.map (zV ρ)) (host := RX6) ⟨ok.1, ok.2.1, ok.2.2.1, ok.2.2.2.1, ok.2.2.2.2.1⟩ (hM (zxl X) (zxD X) (zxC X) ρ H.size) ⟨va_cnB na ok.2.2.2.2.1 hG hw rfl rfl (ok.2.2.2.2.2.2.2.2.1.2.1 _ (List.mem_of_getElem? hn)) (ok.2.2.2.2.1 _ hini) hdy (by rw [ok.2.2.2.2.2.2.2.1]; exact zroom hh hmL), ok.2.2.2.2.1 _ hstat, trivial⟩ ⟨zPre_blind, fun U hU hW => ⟨rfl, by rw [hU], by rw [hU]; exact rr.weaken (fun _ _ _ => trivial), ok.2.2.2.2.2.2.2.2.1.warm hW⟩⟩ rfl (by rw [List.length_map]; exact hna) hz (by subst hst; show List.map (zV ρ) (as.reverse ++ rest) = _; rw [List.map_append, List.map_reverse]) (lv_room (by rw [zcat]; exact hrest)) hd (by rw [ok.2.2.2.2.2.2.2.1]; exact hk)⟩
theorem zRun_I {b : Nat} (hM : zMet y w hc mc ms (.ref b :: as) sh F P r sh' F' P') (hG : GoodIn M.2.2.1 w) (hini : Cond.initialized y.cls ∈ M.2.2.1) (hlink : Cond.methodLink M.2.1 index y ∈ M.2.2.1) (hinst : Cond.instanceMethod y ∈ M.2.2.1) (hnm : y.name = "<init>") (hq : zCal y w na none) (hh : hc < M.2.2.2.1) (hna : as.length = na)
    (hst : st = as.reverse ++ .ref b :: rest) (hrest : (rest.map fun v => v.category).sum ≤ 8) (hd : decode M.1 pc = .ok (.invokespecial index, 3)) (hk : k + mc ≤ M.2.2.2.2.1 ∧ n + ms ≤ M.2.2.2.2.2.1) : zRun M X pc st rest ρ sh F P k n mc ms r sh' F' P' := by
  intro ok H locs lsA hz rr
  obtain ⟨⟨bytes, maxL, w', hw, hmL⟩, hdy⟩ := hq
  refine ⟨_, va_runI (As := as.map (zV ρ)) (rest := rest.map (zV ρ)) (b := ρ b) ⟨ok.1, ok.2.1, ok.2.2.1, ok.2.2.2.1, ok.2.2.2.2.1⟩ (hM (zxl X) (zxD X) (zxC X) ρ H.size) (cwI na ok.2.2.2.2.1 hG hw rfl rfl (ok.2.2.2.2.1 _ hini) (ok.2.2.2.2.1 _ hlink) (ok.2.2.2.2.1 _ hinst) hnm hdy (by rw [ok.2.2.2.2.2.2.2.1]; exact zroom hh hmL)) ⟨zPre_blind, fun U hU hW => ⟨rfl, by rw [hU], by rw [hU]; exact rr.weaken (fun _ _ _ => trivial), ok.2.2.2.2.2.2.2.2.1.warm hW⟩⟩ rfl (by rw [List.length_map]; exact hna) hz (by subst hst; show List.map (zV ρ) (as.reverse ++ .ref b :: rest) = _; rw [List.map_append, List.map_cons, List.map_reverse]; rfl) (lv_room (by rw [zcat]; exact hrest)) hd (by rw [ok.2.2.2.2.2.2.2.1]; exact hk)⟩
theorem zRun_IN {b qn : Nat} (hM : zMet y w hc mc ms (.ref b :: as) sh F P r sh' F' P') (hG : GoodIn M.2.2.1 w) (hn : zNM[qn]? = some (M.2.1, index, y, RX6)) (hini : Cond.initialized y.cls ∈ M.2.2.1) (hinst : Cond.instanceMethod y ∈ M.2.2.1) (hnm : y.name = "<init>") (hq : zCal y w na none) (hh : hc < M.2.2.2.1) (hna : as.length = na)
    (hst : st = as.reverse ++ .ref b :: rest) (hrest : (rest.map fun v => v.category).sum ≤ 8) (hd : decode M.1 pc = .ok (.invokespecial index, 3)) (hk : k + mc ≤ M.2.2.2.2.1 ∧ n + ms ≤ M.2.2.2.2.2.1) : zRun M X pc st rest ρ sh F P k n mc ms r sh' F' P' := by
  intro ok H locs lsA hz rr
  obtain ⟨⟨bytes, maxL, w', hw, hmL⟩, hdy⟩ := hq
  refine ⟨_, va_runIN (As := as.map (zV ρ)) (rest := rest.map (zV ρ)) (b := ρ b) (host := RX6) ⟨ok.1, ok.2.1, ok.2.2.1, ok.2.2.2.1, ok.2.2.2.2.1⟩ (hM (zxl X) (zxD X) (zxC X) ρ H.size) ⟨va_cnB na ok.2.2.2.2.1 hG hw rfl rfl (ok.2.2.2.2.2.2.2.2.1.2.1 _ (List.mem_of_getElem? hn)) (ok.2.2.2.2.1 _ hini) hdy (by rw [ok.2.2.2.2.2.2.2.1]; exact zroom hh hmL), hnm, ok.2.2.2.2.1 _ hinst⟩ ⟨zPre_blind, fun U hU hW => ⟨rfl, by rw [hU], by rw [hU]; exact rr.weaken (fun _ _ _ => trivial), ok.2.2.2.2.2.2.2.2.1.warm hW⟩⟩ rfl (by rw [List.length_map]; exact hna) hz (by subst hst; show List.map (zV ρ) (as.reverse ++ .ref b :: rest) = _; rw [List.map_append, List.map_cons, List.map_reverse]; rfl) (lv_room (by rw [zcat]; exact hrest)) hd (by rw [ok.2.2.2.2.2.2.2.1]; exact hk)⟩
theorem aw_objInit {idx b : Nat} {rest : List Value} (hlink : Cond.methodLink M.2.1 idx Lib.objectInit ∈ M.2.2.1) (hinst : Cond.instanceMethod Lib.objectInit ∈ M.2.2.1) (hcode : Cond.code Lib.objectInit ⟨#[0xb1]⟩ 1 none ∈ M.2.2.1) (hd : decode M.1 pc = .ok (.invokespecial idx, 3)) (hrest : (rest.map fun v => v.category).sum ≤ 8)
    (kk : AW M X Q (pc + 3) ls rest ρ sh F P k n) : AW M X Q pc ls (.ref b :: rest) ρ sh F P k n := by
  intro ok e el H locs lsA rr hS hl
  exact W.objInit ok.1 ok.2.1 ok.2.2.2.1 (ok.2.2.2.2.1 _ hlink) (ok.2.2.2.2.1 _ hinst) (ok.2.2.2.2.1 _ hcode) (g := F0 (zxm X) pc lsA ((Value.ref b :: rest).map (zV ρ))) rfl ((hl.1.trans el).trans ok.2.2.1.symm) (a := ρ b) (rest := rest.map (zV ρ)) rfl hd (by rw [ok.2.2.2.2.2.2.2.1]; simp [zrm]) (by have h0 := lv_room (pc := pc) (ls := lsA) (rest := (Value.ref b :: rest).map (zV ρ)) (m := zxm X) (st := rest.map (zV ρ)) (by rw [zcat]; exact hrest); rw [ok.2.2.2.2.2.2.2.1]; simp only [zrm]; omega) (kk ok e el H locs lsA rr hS hl)
theorem aw_min {x y : Int32} {rest : List Value} (hlink : Cond.methodLink M.2.1 index Lib.Math.min.name ∈ M.2.2.1) (hstat : Cond.static Lib.Math.min.name ∈ M.2.2.1) (hini : Cond.initialized "java/lang/Math" ∈ M.2.2.1) (hcode : Cond.code Lib.Math.min.name Lib.Math.min.code 2 (some .int) ∈ M.2.2.1) (hrest : (rest.map fun v => v.category).sum ≤ 8) (hk : k ≤ M.2.2.2.2.1 ∧ n ≤ M.2.2.2.2.2.1) (hd : decode M.1 pc = .ok (.invokestatic index, 3))
    (kk : AW M X Q (pc + 3) ls (.int (if y < x then y else x) :: rest) ρ sh F P k n) : AW M X Q pc ls (.int y :: .int x :: rest) ρ sh F P k n := by
  intro ok e el H locs lsA rr hS hl
  refine va_mmin ok.1 ok.2.1 (ok.2.2.1.trans (hl.1.trans el).symm) ok.2.2.2.1 (ok.2.2.2.2.1 _ hlink) (ok.2.2.2.2.1 _ hstat) (ok.2.2.2.2.1 _ hini) (ok.2.2.2.2.1 _ hcode) (by rw [ok.2.2.2.2.2.2.2.1]; simp [zrm]) (by rw [ok.2.2.2.2.2.2.2.1, zcat]; simp only [zrm]; omega) (by rw [ok.2.2.2.2.2.2.2.1]; exact hk.1) (by rw [ok.2.2.2.2.2.2.2.1]; exact hk.2) hd (kk ok e el H locs lsA rr hS hl)
theorem aw_max {x y : Int32} {rest : List Value} (hlink : Cond.methodLink M.2.1 index Lib.Math.max.name ∈ M.2.2.1) (hstat : Cond.static Lib.Math.max.name ∈ M.2.2.1) (hini : Cond.initialized "java/lang/Math" ∈ M.2.2.1) (hcode : Cond.code Lib.Math.max.name Lib.Math.max.code 2 (some .int) ∈ M.2.2.1) (hrest : (rest.map fun v => v.category).sum ≤ 8) (hk : k ≤ M.2.2.2.2.1 ∧ n ≤ M.2.2.2.2.2.1) (hd : decode M.1 pc = .ok (.invokestatic index, 3))
    (kk : AW M X Q (pc + 3) ls (.int (if x < y then y else x) :: rest) ρ sh F P k n) : AW M X Q pc ls (.int y :: .int x :: rest) ρ sh F P k n := by
  intro ok e el H locs lsA rr hS hl
  refine va_mmax ok.1 ok.2.1 (ok.2.2.1.trans (hl.1.trans el).symm) ok.2.2.2.1 (ok.2.2.2.2.1 _ hlink) (ok.2.2.2.2.1 _ hstat) (ok.2.2.2.2.1 _ hini) (ok.2.2.2.2.1 _ hcode) (by rw [ok.2.2.2.2.2.2.2.1]; simp [zrm]) (by rw [ok.2.2.2.2.2.2.2.1, zcat]; simp only [zrm]; omega) (by rw [ok.2.2.2.2.2.2.2.1]; exact hk.1) (by rw [ok.2.2.2.2.2.2.2.1]; exact hk.2) hd (kk ok e el H locs lsA rr hS hl)
/-- System.arraycopy of numbers between two arrays -/
theorem aw_copy {a b n0 n1 : Nat} {sp dp z : Int32} {rest : List Value} (hlink : Cond.methodLink M.2.1 index arraycopyName ∈ M.2.2.1) (hnat : Cond.native arraycopyName ∈ M.2.2.1) (hstat : Cond.static arraycopyName ∈ M.2.2.1) (hini : Cond.initialized "java/lang/System" ∈ M.2.2.1) (ha : sh a = some (.inr (0, n0))) (hb : sh b = some (.inr (0, n1)))
    (h1 : ¬ sp < 0) (h2 : ¬ dp < 0) (h3 : ¬ z < 0) (h4 : sp.toNatClampNeg + z.toNatClampNeg ≤ n0) (h5 : dp.toNatClampNeg + z.toNatClampNeg ≤ n1) (hrest : (rest.map fun v => v.category).sum ≤ 8) (hd : decode M.1 pc = .ok (.invokestatic index, 3))
    (kk : AW M X Q (pc + 3) ls rest ρ sh (va_up F b (va_cpy (F a) (F b) sp.toNatClampNeg dp.toNatClampNeg z.toNatClampNeg)) P k n) : AW M X Q pc ls (.int z :: .int dp :: .ref b :: .int sp :: .ref a :: rest) ρ sh F P k n := by
  intro ok e el H locs lsA r hS hl
  obtain ⟨L, q0, g1, g2, g3, g4, g5, g6⟩ := r.place ha
  obtain ⟨q1, hq1⟩ := List.getElem?_of_mem ((g2 b).mpr (by rw [hb]; exact fun e => by cases e))
  have g7 : (L.map (zg (zxC X) ρ sh F P))[q1]? = some (ρ b, zE (zxC X) ρ (.inr (0, n1)) (F b) (P b)) := by
    rw [List.getElem?_map, hq1]
    simp [zg, hb]
  have hf : 1 ≤ (zxR X).frames := by rw [ok.2.2.2.2.2.2.2.1]; simp [zrm]
  have hw7 : nativeFrameWords "java/lang/System" "arraycopy" 5 ≤ 7 := by decide
  have hlo : ((rest.map (zV ρ)).map fun v => v.category).sum + (nativeFrameWords "java/lang/System" "arraycopy" 5 + 11) ≤ (zxR X).locals := by
    rw [ok.2.2.2.2.2.2.2.1, zcat]
    simp only [zrm]
    omega
  exact va_copyi ok.1 ok.2.1 (ok.2.2.1.trans (hl.1.trans el).symm) ok.2.2.2.1 (ok.2.2.2.2.1 _ hlink) (ok.2.2.2.2.1 _ hnat) (ok.2.2.2.2.1 _ hstat) (ok.2.2.2.2.1 _ hini) ok.2.2.2.2.2.2.2.2.1.1 g3 g4 hS q0 q1 0 0 (c0 := (zxC X).1) (c1 := (zxC X).1) (n0 := n0) (n1 := n1) (f := F a) (g := F b) (ty := .int) g6 g7 rfl rfl rfl h1 h2 h3 h4 h5 (fun _ _ => rfl) hf hlo hd (fun H1 locs1 hP hD hS => kk ok e el H1 locs1 lsA (zR.put g1 g2 hq1 hb hP hD (by simp [zE, va_up]) (fun j hj => ⟨by simp [va_up, hj], rfl⟩) r.closed) hS hl)
end ZCALL
section ZEND
variable {M : ZM} {X : ZX} {Q : State → Prop} {pc : Nat} {ls : List (Option Value)} {st : List Value} {ρ : Nat → Nat} {sh sh' : zSh} {F F' : Nat → Nat → Int32} {P P' : Nat → Nat → Option Nat} {k n : Nat} {r : Option Value}
theorem aw_ireturn {v : Int32} (hret : M.2.2.2.2.2.2.1 = some .int) (hd : decode M.1 pc = .ok (.ireturn, 1)) (hk : k ≤ M.2.2.2.2.1 ∧ n ≤ M.2.2.2.2.2.1) (hr : some (.int v) = r) (hsh : sh = sh') (hF : F = F') (hP : P = P') : AW M X (zMQ M X r sh' F' P') pc ls [.int v] ρ sh F P k n := by
  subst hr; subst hsh; subst hF; subst hP
  intro ok e el H locs lsA rr hS hl
  exact W.widen hk.1 hk.2 (W.iret ok.1 ok.2.1 (by rw [ok.2.2.2.2.2.2.1, hret]) (fun t ht hW => ⟨⟨ρ, rfl, e, by rw [ht]; exact rr⟩, hS.F ht⟩) hS.2.2 hd ok.2.2.2.2.2.1)
theorem aw_zreturn {v : Int32} (hret : M.2.2.2.2.2.2.1 = some .boolean) (hd : decode M.1 pc = .ok (.ireturn, 1)) (hk : k ≤ M.2.2.2.2.1 ∧ n ≤ M.2.2.2.2.2.1) (hv : v = 0 ∨ v = 1) (hr : some (.int v) = r) (hsh : sh = sh') (hF : F = F') (hP : P = P') : AW M X (zMQ M X r sh' F' P') pc ls [.int v] ρ sh F P k n := by
  subst hr; subst hsh; subst hF; subst hP
  intro ok e el H locs lsA rr hS hl
  exact W.widen hk.1 hk.2 (W.zret (ty := .boolean) ok.1 ok.2.1 (by rw [ok.2.2.2.2.2.2.1, hret]) (by rcases hv with rfl | rfl <;> rfl) (fun t ht hW => ⟨⟨ρ, rfl, e, by rw [ht]; exact rr⟩, hS.F ht⟩) hS.2.2 hd ok.2.2.2.2.2.1)
theorem aw_return (hret : M.2.2.2.2.2.2.1 = none) (hd : decode M.1 pc = .ok (.return_, 1)) (hk : k ≤ M.2.2.2.2.1 ∧ n ≤ M.2.2.2.2.2.1) (hr : none = r) (hsh : sh = sh') (hF : F = F') (hP : P = P') : AW M X (zMQ M X r sh' F' P') pc ls [] ρ sh F P k n := by
  subst hr; subst hsh; subst hF; subst hP
  intro ok e el H locs lsA rr hS hl
  exact W.widen hk.1 hk.2 (W.vret ok.1 ok.2.1 (by rw [ok.2.2.2.2.2.2.1, hret]) (fun t ht hW => ⟨⟨ρ, rfl, e, by rw [ht]; exact rr⟩, hS.F ht⟩) hS.2.2 hd ok.2.2.2.2.2.1)
theorem aw_areturn {v : Value} {C : String} (hret : M.2.2.2.2.2.2.1 = some (.object C)) (hv : v = .null ∨ ∃ j, v = .ref j) (hd : decode M.1 pc = .ok (.areturn, 1)) (hk : k ≤ M.2.2.2.2.1 ∧ n ≤ M.2.2.2.2.2.1) (hr : some v = r) (hsh : sh = sh') (hF : F = F') (hP : P = P') : AW M X (zMQ M X r sh' F' P') pc ls [v] ρ sh F P k n := by
  subst hr; subst hsh; subst hF; subst hP
  intro ok e el H locs lsA rr hS hl
  exact W.widen hk.1 hk.2 (W.aret (v := zV ρ v) ok.1 ok.2.1 (by rw [ok.2.2.2.2.2.2.1, hret]) (Or.inl ⟨C, rfl⟩) (hv.elim (fun h => Or.inl (by rw [h]; rfl)) (fun ⟨j, h⟩ => Or.inr ⟨ρ j, by rw [h]; rfl⟩)) (fun t ht hW => ⟨⟨ρ, rfl, e, by rw [ht]; exact rr⟩, hS.F ht⟩) hS.2.2 hd ok.2.2.2.2.2.1)
end ZEND
theorem zargs_mem : ∀ (vs : List Value) (i : Nat), (∀ v ∈ vs, v.category = 1) → ∀ (j : Nat) (v : Value), vs[j]? = some v → (i + j, v) ∈ lv_args i vs
  | [], _, _, j, v, h => by simp at h
  | u :: vs, i, hc, j, v, h => by
    have hu : u.category = 1 := hc u List.mem_cons_self
    simp only [lv_args, hu]
    cases j with
    | zero =>
      simp at h
      subst h
      exact List.mem_cons_self
    | succ j =>
      have := zargs_mem vs (i + 1) (fun v hv => hc v (List.mem_cons_of_mem _ hv)) j v (by simpa using h)
      refine List.mem_cons_of_mem _ ?_
      have e : i + (j + 1) = i + 1 + j := by omega
      rw [e]
      simpa using this
theorem zlg_len : ∀ (vs : List Value), (∀ v ∈ vs, v.category = 1) → (lg_sl vs).length = vs.length
  | [], _ => rfl
  | u :: vs, hc => by
    have hu : u.category = 1 := hc u List.mem_cons_self
    have := zlg_len vs (fun v hv => hc v (List.mem_cons_of_mem _ hv))
    simp only [lg_sl, List.flatMap_cons, List.length_append, List.length_cons] at this ⊢
    simp [hu, this]
    try omega
theorem zMet.of {y : MethodName} {ws ws' : List Cond} {cc : ByteArray} {maxL h mc ms : Nat} {ret : Option FieldType} {as : List Value} {sh sh' : zSh} {F F' : Nat → Nat → Int32} {P P' : Nat → Nat → Option Nat} {r : Option Value}
    (hy : plainName y.cls = true) (hw : ws = Cond.code y cc maxL ret :: ws') (hlen : as.length ≤ maxL) (hc1 : ∀ v ∈ as, v.category = 1)
    (body : ∀ (X : ZX) (ρ : Nat → Nat), AW (cc, y.cls, ws, h, mc, ms, ret, maxL, y.name) X (zMQ (cc, y.cls, ws, h, mc, ms, ret, maxL, y.name) X r sh' F' P') 0 (as.map some ++ List.replicate (maxL - as.length) none) [] ρ sh F P 0 0) : zMet y ws h mc ms as sh F P r sh' F' P' := by
  intro l D cs ρ sz
  refine Met.ofW (cc := cc) (maxL := maxL) (ret := ret) hy hw ?_
  intro p e s m args below meth c s₁ B hml hv
  obtain ⟨rfl, hsz, hR, hK⟩ := hv
  subst hsz
  have hc1' : ∀ v ∈ as.map (zV ρ), v.category = 1 := by
    intro v hv
    obtain ⟨u, hu, rfl⟩ := List.mem_map.mp hv
    rw [zV_cat]
    exact hc1 u hu
  have hl := lv_entry (as.map (zV ρ)) (n := maxL) (by rw [zlg_len _ hc1', List.length_map]; exact hlen)
  rw [lg_entry_eq]
  generalize (lg_sl (as.map (zV ρ)) ++ List.replicate (maxL - (lg_sl (as.map (zV ρ))).length) Slot.unset).toArray = lsA at hl ⊢
  have key := body (p, l, e, (headSpec ws (zrm h mc ms)).room, s, m, (as.map (zV ρ)).toArray, below, meth, c, D, cs, ρ, sh) ρ
    ⟨B.exec, B.bytes, hml, findClass_of_methodNamed B.named, atoms_spec (ws := ws) B.pre, B.notSynchronized, B.returns, rfl, hK, (name_of_methodNamed B.named B.method).1⟩ zExt.refl
    (by show (as.map some ++ List.replicate (maxL - as.length) none).length = maxL; simp; omega) s.heap [] lsA (hR.weaken (fun i hi _ => Or.inl ⟨i, hi, rfl⟩)) va_S.rf
    ⟨by rw [hl.1]; simp; omega, hl.2.1, fun i v hv => by
      have hi : as[i]? = some v := by
        by_cases h2 : i < as.length
        · rw [List.getElem?_append_left (by simpa using h2), List.getElem?_map] at hv
          cases hx : as[i]? with
          | none => rw [hx] at hv; cases hv
          | some u => rw [hx] at hv; cases hv; rfl
        · rw [List.getElem?_append_right (by simp; omega)] at hv
          have := List.eq_of_mem_replicate (List.mem_of_getElem? hv)
          cases this
      refine ⟨?_, hc1 v (List.mem_of_getElem? hi)⟩
      have := hl.2.2 _ (zargs_mem (as.map (zV ρ)) 0 hc1' i (zV ρ v) (by rw [List.getElem?_map, hi]; rfl))
      simpa using this⟩
  exact key
/-! new cells -/
theorem zE_ext {cs : ClassId × ClassId × ClassId} {ρ ρ' : Nat → Nat} {k : Nat ⊕ (Nat × Nat)} {f : Nat → Int32} {p : Nat → Option Nat} (h : ∀ x, (p x).map ρ' = (p x).map ρ) : zE cs ρ' k f p = zE cs ρ k f p := by
  unfold zE
  split <;> simp [h]
theorem zR.push {D : va_G} {cs : ClassId × ClassId × ClassId} {ρ : Nat → Nat} {sh : zSh} {F : Nat → Nat → Int32} {P : Nat → Nat → Option Nat} {A : Nat → Prop} {H1 : Heap} {L : List Nat} {q i : Nat} {e : va_E} {k : Nat ⊕ (Nat × Nat)} {f : Nat → Int32}
    (h1 : L.Nodup) (h2 : ∀ i, i ∈ L ↔ sh i ≠ none) (hc : ∀ i j b, sh i ≠ none → P i j = some b → sh b ≠ none) (hi : sh i = none) (hP : va_P D vwCl (L.map (zg cs ρ sh F P) ++ [(q, e)]) H1) (hD : va_D A (L.map (zg cs ρ sh F P) ++ [(q, e)]))
    (he : zE cs ρ k f (fun _ => none) = e) : zR D cs (va_up ρ i q) (va_up sh i (some k)) (va_up F i f) (va_up P i (fun _ => none)) A H1 := by
  have hiL : i ∉ L := fun h => (h2 i).mp h hi
  have hg : (L ++ [i]).map (zg cs (va_up ρ i q) (va_up sh i (some k)) (va_up F i f) (va_up P i (fun _ => none))) = L.map (zg cs ρ sh F P) ++ [(q, e)] := by
    rw [List.map_append]
    congr 1
    · refine List.map_congr_left fun j hj => ?_
      have hji : j ≠ i := fun h => hiL (h ▸ hj)
      simp only [zg, va_up, if_neg hji]
      congr 1
      refine zE_ext fun x => ?_
      cases hx : P j x with
      | none => rfl
      | some b =>
        have hb := hc j x b ((h2 j).mp hj) hx
        have hbi : b ≠ i := fun h => hb (h ▸ hi)
        simp [va_up, hbi]
    · simp only [List.map_cons, List.map_nil, zg, va_up, if_pos, Option.getD_some]
      rw [zE_ext (ρ := ρ) (ρ' := va_up ρ i q) (fun x => rfl), he]
  refine ⟨L ++ [i], ?_, fun j => ?_, by rw [hg]; exact hP, by rw [hg]; exact hD, fun a b c ha hb => ?_⟩
  · exact List.nodup_append.mpr ⟨h1, by simp, fun a ha b hb => by simp at hb; subst hb; exact fun h => hiL (h ▸ ha)⟩
  · by_cases hj : j = i
    · subst hj
      simp [va_up]
    · simp [va_up, hj, h2]
  · by_cases ha' : a = i
    · subst ha'
      simp [va_up] at hb
    · simp only [va_up, if_neg ha'] at ha hb
      have := hc a b c ha hb
      by_cases hci : c = i
      · subst hci
        simp [va_up]
      · simp [va_up, hci, this]
theorem zExt.push {ρ : Nat → Nat} {sh : zSh} {i q : Nat} {k : Nat ⊕ (Nat × Nat)} (hi : sh i = none) : zExt ρ sh (va_up ρ i q) (va_up sh i (some k)) := by
  refine ⟨fun j hj => ?_, fun j hj => ?_⟩
  · by_cases h : j = i
    · subst h
      exact ⟨hi, by simp [va_up]⟩
    · simp [va_up, h] at hj
  · have h : j ≠ i := fun h => hj (h ▸ hi)
    simp [va_up, h]
section ZNEW
variable {M : ZM} {X : ZX} {Q : State → Prop} {pc : Nat} {ls : List (Option Value)} {st : List Value} {ρ : Nat → Nat} {sh : zSh} {F : Nat → Nat → Int32} {P : Nat → Nat → Option Nat} {k n : Nat}
theorem zfin {k' n' pc' : Nat} {i q : Nat} {kd : Nat ⊕ (Nat × Nat)} {f : Nat → Int32} {H1 : Heap} {locs : List Loc} {lsA : Array Slot} (ok : zok M X) (e : zExt (zxr X) (zxh X) ρ sh) (el : ls.length = M.2.2.2.2.2.2.2.1) (hi : sh i = none) (href : zrefs sh (va_up sh i (some kd)) ls st) (hl : zL lsA ρ ls) (hS : va_S (zAx X) (zxs X).heap H1 locs)
    (hR : zR (zxD X) (zxC X) (va_up ρ i q) (va_up sh i (some kd)) (va_up F i f) (va_up P i (fun _ => none)) (zAx X) H1) (kk : ∀ ρ, AW M X Q pc' ls (.ref i :: st) ρ (va_up sh i (some kd)) (va_up F i f) (va_up P i (fun _ => none)) k' n') :
    W (zxp X) (zxl X) (zxe X) (zxR X) (zxs X) (zxm X) (zxa X) (zxb X) (zxt X) (zxc X) H1 locs k' n' Q (F0 (zxm X) pc' lsA (.ref q :: st.map (zV ρ))) := by
  have he : zExt ρ sh (va_up ρ i q) (va_up sh i (some kd)) := zExt.push hi
  have h := kk (va_up ρ i q) ok (e.trans he) el H1 locs lsA hR hS (zL_ext hl (fun j hj => he.at (href.1 j hj)))
  rw [List.map_cons, zst_ext (fun j hj => he.at (href.2 j hj))] at h
  have h2 : zV (va_up ρ i q) (.ref i) = .ref q := by simp [zV, va_up]
  rw [h2] at h
  exact h
theorem aw_new {C : String} {T : u_T} {N ci index : Nat} (i : Nat) (hc : vwCl[ci]? = some (C, T, N)) (hN : zN ci = N) (hty : ∀ k, k < N → parseFieldDescriptor (T k).2.2.1 = some (zT ci k)) (hdf : ∀ j, j < N → defaultValue (zT ci j) = zfld (zT ci j) 0 none) (hin : ∀ w ∈ u_ws C T N, w ∈ M.2.2.1) (hcl : Cond.classLink M.2.1 index C ∈ M.2.2.1) (hins : Cond.instantiable C N ∈ M.2.2.1) (hini : Cond.initialized C ∈ M.2.2.1)
    (hi : sh i = none) (href : zrefs sh (va_up sh i (some (.inl ci))) ls st) (hk : k + 1 ≤ M.2.2.2.2.1 ∧ n + N ≤ M.2.2.2.2.2.1) (hd : decode M.1 pc = .ok (.new index, 3)) (kk : ∀ ρ, AW M X Q (pc + 3) ls (.ref i :: st) ρ (va_up sh i (some (.inl ci))) (va_up F i (fun _ => 0)) (va_up P i (fun _ => none)) (k + 1) (n + N)) : AW M X Q pc ls st ρ sh F P k n := by
  intro ok e el H locs lsA r hS hl
  obtain ⟨L, h1, h2, h3, h4, h5⟩ := r
  refine va_new (fs := (List.range (zN ci)).map (fun j => zfld (zT ci j) 0 none)) ok.1 ok.2.1 ok.2.2.2.2.1 hin (zT ci) hty ok.2.2.2.1 (ok.2.2.2.2.1 _ hcl) (ok.2.2.2.2.1 _ hins) (ok.2.2.2.2.1 _ hini) ok.2.2.2.2.2.2.2.2.1.1 h3 h4 hS (fun q hq => Or.inr hq) hc (fun j hj => ?_) (by rw [ok.2.2.2.2.2.2.2.1]; exact hk.1) (by rw [ok.2.2.2.2.2.2.2.1]; exact hk.2) hd (fun q H1 hP hD hS1 => zfin ok e el hi href hl hS1 (zR.push h1 h2 h5 hi hP hD rfl) kk)
  rw [hdf j hj]
  simp [vp_V, hN, hj]
theorem aw_newI {z : Int32} {N : Nat} (i : Nat) (hw : Cond.arrayClass .int ∈ M.2.2.1) (hz : ¬ z < 0) (hN : z.toNatClampNeg = N) (hsm : N * 4 ≤ 536870912) (hi : sh i = none) (href : zrefs sh (va_up sh i (some (.inr (0, N)))) ls st) (hk : k + 1 ≤ M.2.2.2.2.1 ∧ n + N ≤ M.2.2.2.2.2.1) (hd : decode M.1 pc = .ok (.newarray .int, 2))
    (kk : ∀ ρ, AW M X Q (pc + 2) ls (.ref i :: st) ρ (va_up sh i (some (.inr (0, N)))) (va_up F i (fun _ => 0)) (va_up P i (fun _ => none)) (k + 1) (n + N)) : AW M X Q pc ls (.int z :: st) ρ sh F P k n := by
  intro ok e el H locs lsA r hS hl
  obtain ⟨L, h1, h2, h3, h4, h5⟩ := r
  refine va_newa (atype := .int) (ty := .int) (a0 := (N, .inl (fun _ => 0))) ok.1 ok.2.1 (ok.2.2.2.2.1 _ hw) rfl ok.2.2.2.2.2.2.2.2.1.1 h3 h4 hS (fun q hq => Or.inr hq) (fun cA => rfl) hz hN hsm (by rw [ok.2.2.2.2.2.2.2.1]; exact hk.1) (by rw [ok.2.2.2.2.2.2.2.1]; exact hk.2) hd (fun q cA H1 hK1 hP hD hS1 => zfin ok e el hi href hl hS1 (zR.push h1 h2 h5 hi hP hD ?_) kk)
  have e1 : (zxs X).vm.findClass ("[" ++ FieldType.int.toString) = some cA := (hK1.2 3 _ rfl).2
  have e2 : (zxs X).vm.findClass ("[" ++ FieldType.int.toString) = some (zxC X).1 := (ok.2.2.2.2.2.2.2.2.1.1.2 0 _ rfl).2
  have e3 : cA = (zxC X).1 := Option.some.inj (e1.symm.trans e2)
  rw [e3]
  rfl
theorem aw_newZ {z : Int32} {N : Nat} (i : Nat) (hw : Cond.arrayClass .boolean ∈ M.2.2.1) (hz : ¬ z < 0) (hN : z.toNatClampNeg = N) (hsm : N * 1 ≤ 536870912) (hi : sh i = none) (href : zrefs sh (va_up sh i (some (.inr (1, N)))) ls st) (hk : k + 1 ≤ M.2.2.2.2.1 ∧ n + N ≤ M.2.2.2.2.2.1) (hd : decode M.1 pc = .ok (.newarray .boolean, 2))
    (kk : ∀ ρ, AW M X Q (pc + 2) ls (.ref i :: st) ρ (va_up sh i (some (.inr (1, N)))) (va_up F i (fun _ => 0)) (va_up P i (fun _ => none)) (k + 1) (n + N)) : AW M X Q pc ls (.int z :: st) ρ sh F P k n := by
  intro ok e el H locs lsA r hS hl
  obtain ⟨L, h1, h2, h3, h4, h5⟩ := r
  refine va_newa (atype := .boolean) (ty := .boolean) (a0 := (N, .inl (fun _ => 0))) ok.1 ok.2.1 (ok.2.2.2.2.1 _ hw) rfl ok.2.2.2.2.2.2.2.2.1.1 h3 h4 hS (fun q hq => Or.inr hq) (fun cA => rfl) hz hN hsm (by rw [ok.2.2.2.2.2.2.2.1]; exact hk.1) (by rw [ok.2.2.2.2.2.2.2.1]; exact hk.2) hd (fun q cA H1 hK1 hP hD hS1 => zfin ok e el hi href hl hS1 (zR.push h1 h2 h5 hi hP hD ?_) kk)
  have e1 : (zxs X).vm.findClass ("[" ++ FieldType.boolean.toString) = some cA := (hK1.2 3 _ rfl).2
  have e2 : (zxs X).vm.findClass ("[" ++ FieldType.boolean.toString) = some (zxC X).2.1 := (ok.2.2.2.2.2.2.2.2.1.1.2 1 _ rfl).2
  have e3 : cA = (zxC X).2.1 := Option.some.inj (e1.symm.trans e2)
  rw [e3]
  rfl
theorem aw_newS {z : Int32} {N index : Nat} (i : Nat) (hcl : Cond.classLink M.2.1 index RX3 ∈ M.2.2.1) (hz : ¬ z < 0) (hN : z.toNatClampNeg = N) (hsm : N * 4 ≤ 536870912) (hi : sh i = none) (href : zrefs sh (va_up sh i (some (.inr (2, N)))) ls st) (hk : k + 1 ≤ M.2.2.2.2.1 ∧ n + N ≤ M.2.2.2.2.2.1) (hd : decode M.1 pc = .ok (.anewarray index, 3))
    (kk : ∀ ρ, AW M X Q (pc + 3) ls (.ref i :: st) ρ (va_up sh i (some (.inr (2, N)))) (va_up F i (fun _ => 0)) (va_up P i (fun _ => none)) (k + 1) (n + N)) : AW M X Q pc ls (.int z :: st) ρ sh F P k n := by
  intro ok e el H locs lsA r hS hl
  obtain ⟨L, h1, h2, h3, h4, h5⟩ := r
  refine va_newq (C := RX3) ok.1 ok.2.1 ok.2.2.2.1 (ok.2.2.2.2.1 _ hcl) ok.2.2.2.2.2.2.2.2.1.2.2.2 ok.2.2.2.2.2.2.2.2.1.1 h3 h4 hS (fun q hq => Or.inr hq) hz hN hsm (by rw [ok.2.2.2.2.2.2.2.1]; exact hk.1) (by rw [ok.2.2.2.2.2.2.2.1]; exact hk.2) hd (fun q cA H1 hK1 hP hD hS1 => zfin ok e el hi href hl hS1 (zR.push h1 h2 h5 hi hP hD ?_) kk)
  obtain ⟨_, _, _, _, _, e1⟩ := (hK1.2 3 (cA, .object RX3) rfl).2
  obtain ⟨_, _, _, _, _, e2⟩ := (ok.2.2.2.2.2.2.2.2.1.1.2 2 _ rfl).2
  have e3 : cA = (zxC X).2.2 := Option.some.inj (e1.symm.trans e2)
  rw [e3]
  rfl
end ZNEW
end
