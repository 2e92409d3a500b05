/-! ===== 02b.decA ===== -/
set_option maxRecDepth 20000 in
theorem ggX0_init_J7_fill_53178 : GoodIn wsX0_init wsJ7_fill_53178 := goodIn_r _ [16] (by decide +kernel) (by decide +kernel)
set_option maxRecDepth 20000 in
theorem gX0_init_J7_fill_53178 : GoodIn wsX0_init (va_wsS RX0 36 yJ7_fill_53178 wsJ7_fill_53178) := goodIn_app (goodIn_of _ (by decide +kernel)) ggX0_init_J7_fill_53178
theorem dX0_init_0 : decode cX0_init 0 = .ok (.aload_n 0, 1) := by decide +kernel
theorem dX0_init_1 : decode cX0_init 1 = .ok (.invokespecial 3, 3) := by decide +kernel
theorem dX0_init_4 : decode cX0_init 4 = .ok (.aload_n 0, 1) := by decide +kernel
theorem dX0_init_5 : decode cX0_init 5 = .ok (.bipush 20, 2) := by decide +kernel
theorem dX0_init_7 : decode cX0_init 7 = .ok (.newarray .int, 2) := by decide +kernel
theorem dX0_init_9 : decode cX0_init 9 = .ok (.putfield 9, 3) := by decide +kernel
theorem dX0_init_12 : decode cX0_init 12 = .ok (.aload_n 0, 1) := by decide +kernel
theorem dX0_init_13 : decode cX0_init 13 = .ok (.bipush 20, 2) := by decide +kernel
theorem dX0_init_15 : decode cX0_init 15 = .ok (.newarray .int, 2) := by decide +kernel
theorem dX0_init_17 : decode cX0_init 17 = .ok (.putfield 15, 3) := by decide +kernel
theorem dX0_init_20 : decode cX0_init 20 = .ok (.aload_n 0, 1) := by decide +kernel
theorem dX0_init_21 : decode cX0_init 21 = .ok (.bipush 100, 2) := by decide +kernel
theorem dX0_init_23 : decode cX0_init 23 = .ok (.newarray .int, 2) := by decide +kernel
theorem dX0_init_25 : decode cX0_init 25 = .ok (.putfield 18, 3) := by decide +kernel
theorem dX0_init_28 : decode cX0_init 28 = .ok (.aload_n 0, 1) := by decide +kernel
theorem dX0_init_29 : decode cX0_init 29 = .ok (.bipush 100, 2) := by decide +kernel
theorem dX0_init_31 : decode cX0_init 31 = .ok (.newarray .int, 2) := by decide +kernel
theorem dX0_init_33 : decode cX0_init 33 = .ok (.putfield 21, 3) := by decide +kernel
theorem dX0_init_36 : decode cX0_init 36 = .ok (.aload_n 0, 1) := by decide +kernel
theorem dX0_init_37 : decode cX0_init 37 = .ok (.bipush 20, 2) := by decide +kernel
theorem dX0_init_39 : decode cX0_init 39 = .ok (.newarray .int, 2) := by decide +kernel
theorem dX0_init_41 : decode cX0_init 41 = .ok (.putfield 24, 3) := by decide +kernel
theorem dX0_init_44 : decode cX0_init 44 = .ok (.aload_n 0, 1) := by decide +kernel
theorem dX0_init_45 : decode cX0_init 45 = .ok (.bipush 60, 2) := by decide +kernel
theorem dX0_init_47 : decode cX0_init 47 = .ok (.newarray .int, 2) := by decide +kernel
theorem dX0_init_49 : decode cX0_init 49 = .ok (.putfield 27, 3) := by decide +kernel
theorem dX0_init_52 : decode cX0_init 52 = .ok (.aload_n 0, 1) := by decide +kernel
theorem dX0_init_53 : decode cX0_init 53 = .ok (.bipush 20, 2) := by decide +kernel
theorem dX0_init_55 : decode cX0_init 55 = .ok (.newarray .int, 2) := by decide +kernel
theorem dX0_init_57 : decode cX0_init 57 = .ok (.putfield 30, 3) := by decide +kernel
theorem dX0_init_60 : decode cX0_init 60 = .ok (.aload_n 0, 1) := by decide +kernel
theorem dX0_init_61 : decode cX0_init 61 = .ok (.bipush 20, 2) := by decide +kernel
theorem dX0_init_63 : decode cX0_init 63 = .ok (.newarray .int, 2) := by decide +kernel
theorem dX0_init_65 : decode cX0_init 65 = .ok (.putfield 33, 3) := by decide +kernel
theorem dX0_init_68 : decode cX0_init 68 = .ok (.aload_n 0, 1) := by decide +kernel
theorem dX0_init_69 : decode cX0_init 69 = .ok (.getfield 30, 3) := by decide +kernel
theorem dX0_init_72 : decode cX0_init 72 = .ok (.bipush (-9), 2) := by decide +kernel
theorem dX0_init_74 : decode cX0_init 74 = .ok (.invokestatic 36, 3) := by decide +kernel
theorem dX0_init_77 : decode cX0_init 77 = .ok (.return_, 1) := by decide +kernel
set_option maxRecDepth 20000 in
theorem ggX0_copyFrom_X6_copy : GoodIn wsX0_copyFrom wsX6_copy := goodIn_r _ [11, 12, 13, 14, 15, 16, 17, 18, 19] (by decide +kernel) (by decide +kernel)
set_option maxRecDepth 20000 in
theorem gX0_copyFrom_X6_copy_n42 : GoodIn wsX0_copyFrom (wsX6_copy) := ggX0_copyFrom_X6_copy
theorem dX0_copyFrom_0 : decode cX0_copyFrom 0 = .ok (.aload_n 1, 1) := by decide +kernel
theorem dX0_copyFrom_1 : decode cX0_copyFrom 1 = .ok (.getfield 9, 3) := by decide +kernel
theorem dX0_copyFrom_4 : decode cX0_copyFrom 4 = .ok (.aload_n 0, 1) := by decide +kernel
theorem dX0_copyFrom_5 : decode cX0_copyFrom 5 = .ok (.getfield 9, 3) := by decide +kernel
theorem dX0_copyFrom_8 : decode cX0_copyFrom 8 = .ok (.invokestatic 42, 3) := by decide +kernel
theorem dX0_copyFrom_11 : decode cX0_copyFrom 11 = .ok (.aload_n 1, 1) := by decide +kernel
theorem dX0_copyFrom_12 : decode cX0_copyFrom 12 = .ok (.getfield 15, 3) := by decide +kernel
theorem dX0_copyFrom_15 : decode cX0_copyFrom 15 = .ok (.aload_n 0, 1) := by decide +kernel
theorem dX0_copyFrom_16 : decode cX0_copyFrom 16 = .ok (.getfield 15, 3) := by decide +kernel
theorem dX0_copyFrom_19 : decode cX0_copyFrom 19 = .ok (.invokestatic 42, 3) := by decide +kernel
theorem dX0_copyFrom_22 : decode cX0_copyFrom 22 = .ok (.aload_n 1, 1) := by decide +kernel
theorem dX0_copyFrom_23 : decode cX0_copyFrom 23 = .ok (.getfield 18, 3) := by decide +kernel
theorem dX0_copyFrom_26 : decode cX0_copyFrom 26 = .ok (.aload_n 0, 1) := by decide +kernel
theorem dX0_copyFrom_27 : decode cX0_copyFrom 27 = .ok (.getfield 18, 3) := by decide +kernel
theorem dX0_copyFrom_30 : decode cX0_copyFrom 30 = .ok (.invokestatic 42, 3) := by decide +kernel
theorem dX0_copyFrom_33 : decode cX0_copyFrom 33 = .ok (.aload_n 1, 1) := by decide +kernel
theorem dX0_copyFrom_34 : decode cX0_copyFrom 34 = .ok (.getfield 21, 3) := by decide +kernel
theorem dX0_copyFrom_37 : decode cX0_copyFrom 37 = .ok (.aload_n 0, 1) := by decide +kernel
theorem dX0_copyFrom_38 : decode cX0_copyFrom 38 = .ok (.getfield 21, 3) := by decide +kernel
theorem dX0_copyFrom_41 : decode cX0_copyFrom 41 = .ok (.invokestatic 42, 3) := by decide +kernel
theorem dX0_copyFrom_44 : decode cX0_copyFrom 44 = .ok (.aload_n 1, 1) := by decide +kernel
theorem dX0_copyFrom_45 : decode cX0_copyFrom 45 = .ok (.getfield 24, 3) := by decide +kernel
theorem dX0_copyFrom_48 : decode cX0_copyFrom 48 = .ok (.aload_n 0, 1) := by decide +kernel
theorem dX0_copyFrom_49 : decode cX0_copyFrom 49 = .ok (.getfield 24, 3) := by decide +kernel
theorem dX0_copyFrom_52 : decode cX0_copyFrom 52 = .ok (.invokestatic 42, 3) := by decide +kernel
theorem dX0_copyFrom_55 : decode cX0_copyFrom 55 = .ok (.aload_n 1, 1) := by decide +kernel
theorem dX0_copyFrom_56 : decode cX0_copyFrom 56 = .ok (.getfield 27, 3) := by decide +kernel
theorem dX0_copyFrom_59 : decode cX0_copyFrom 59 = .ok (.aload_n 0, 1) := by decide +kernel
theorem dX0_copyFrom_60 : decode cX0_copyFrom 60 = .ok (.getfield 27, 3) := by decide +kernel
theorem dX0_copyFrom_63 : decode cX0_copyFrom 63 = .ok (.invokestatic 42, 3) := by decide +kernel
theorem dX0_copyFrom_66 : decode cX0_copyFrom 66 = .ok (.aload_n 1, 1) := by decide +kernel
theorem dX0_copyFrom_67 : decode cX0_copyFrom 67 = .ok (.getfield 30, 3) := by decide +kernel
theorem dX0_copyFrom_70 : decode cX0_copyFrom 70 = .ok (.aload_n 0, 1) := by decide +kernel
theorem dX0_copyFrom_71 : decode cX0_copyFrom 71 = .ok (.getfield 30, 3) := by decide +kernel
theorem dX0_copyFrom_74 : decode cX0_copyFrom 74 = .ok (.invokestatic 42, 3) := by decide +kernel
theorem dX0_copyFrom_77 : decode cX0_copyFrom 77 = .ok (.aload_n 1, 1) := by decide +kernel
theorem dX0_copyFrom_78 : decode cX0_copyFrom 78 = .ok (.getfield 33, 3) := by decide +kernel
theorem dX0_copyFrom_81 : decode cX0_copyFrom 81 = .ok (.aload_n 0, 1) := by decide +kernel
theorem dX0_copyFrom_82 : decode cX0_copyFrom 82 = .ok (.getfield 33, 3) := by decide +kernel
theorem dX0_copyFrom_85 : decode cX0_copyFrom 85 = .ok (.invokestatic 42, 3) := by decide +kernel
theorem dX0_copyFrom_88 : decode cX0_copyFrom 88 = .ok (.return_, 1) := by decide +kernel
set_option maxRecDepth 20000 in
theorem ggX0_isMade_X6_at : GoodIn wsX0_isMade wsX6_at := goodIn_r _ [4] (by decide +kernel) (by decide +kernel)
set_option maxRecDepth 20000 in
theorem gX0_isMade_X6_at_n46 : GoodIn wsX0_isMade (wsX6_at) := ggX0_isMade_X6_at
theorem dX0_isMade_0 : decode cX0_isMade 0 = .ok (.aload_n 0, 1) := by decide +kernel
theorem dX0_isMade_1 : decode cX0_isMade 1 = .ok (.getfield 9, 3) := by decide +kernel
theorem dX0_isMade_4 : decode cX0_isMade 4 = .ok (.iload_n 1, 1) := by decide +kernel
theorem dX0_isMade_5 : decode cX0_isMade 5 = .ok (.invokestatic 46, 3) := by decide +kernel
theorem dX0_isMade_8 : decode cX0_isMade 8 = .ok (.ifCond .le 7, 3) := by decide +kernel
theorem dX0_isMade_11 : decode cX0_isMade 11 = .ok (.iconst 1, 1) := by decide +kernel
theorem dX0_isMade_12 : decode cX0_isMade 12 = .ok (.goto 4, 3) := by decide +kernel
theorem dX0_isMade_15 : decode cX0_isMade 15 = .ok (.iconst 0, 1) := by decide +kernel
theorem dX0_isMade_16 : decode cX0_isMade 16 = .ok (.ireturn, 1) := by decide +kernel
set_option maxRecDepth 20000 in
theorem ggX0_yieldOf_X6_at : GoodIn wsX0_yieldOf wsX6_at := goodIn_r _ [4] (by decide +kernel) (by decide +kernel)
set_option maxRecDepth 20000 in
theorem gX0_yieldOf_X6_at_n46 : GoodIn wsX0_yieldOf (wsX6_at) := ggX0_yieldOf_X6_at
theorem dX0_yieldOf_0 : decode cX0_yieldOf 0 = .ok (.aload_n 0, 1) := by decide +kernel
theorem dX0_yieldOf_1 : decode cX0_yieldOf 1 = .ok (.getfield 9, 3) := by decide +kernel
theorem dX0_yieldOf_4 : decode cX0_yieldOf 4 = .ok (.iload_n 1, 1) := by decide +kernel
theorem dX0_yieldOf_5 : decode cX0_yieldOf 5 = .ok (.invokestatic 46, 3) := by decide +kernel
theorem dX0_yieldOf_8 : decode cX0_yieldOf 8 = .ok (.ireturn, 1) := by decide +kernel
set_option maxRecDepth 20000 in
theorem ggX0_ingredientsOf_X6_at : GoodIn wsX0_ingredientsOf wsX6_at := goodIn_r _ [4] (by decide +kernel) (by decide +kernel)
set_option maxRecDepth 20000 in
theorem gX0_ingredientsOf_X6_at_n46 : GoodIn wsX0_ingredientsOf (wsX6_at) := ggX0_ingredientsOf_X6_at
theorem dX0_ingredientsOf_0 : decode cX0_ingredientsOf 0 = .ok (.aload_n 0, 1) := by decide +kernel
theorem dX0_ingredientsOf_1 : decode cX0_ingredientsOf 1 = .ok (.getfield 15, 3) := by decide +kernel
theorem dX0_ingredientsOf_4 : decode cX0_ingredientsOf 4 = .ok (.iload_n 1, 1) := by decide +kernel
theorem dX0_ingredientsOf_5 : decode cX0_ingredientsOf 5 = .ok (.invokestatic 46, 3) := by decide +kernel
theorem dX0_ingredientsOf_8 : decode cX0_ingredientsOf 8 = .ok (.ireturn, 1) := by decide +kernel
set_option maxRecDepth 20000 in
theorem ggX0_ingredientAt_X6_at : GoodIn wsX0_ingredientAt wsX6_at := goodIn_r _ [4] (by decide +kernel) (by decide +kernel)
set_option maxRecDepth 20000 in
theorem gX0_ingredientAt_X6_at_n46 : GoodIn wsX0_ingredientAt (wsX6_at) := ggX0_ingredientAt_X6_at
theorem dX0_ingredientAt_0 : decode cX0_ingredientAt 0 = .ok (.aload_n 0, 1) := by decide +kernel
theorem dX0_ingredientAt_1 : decode cX0_ingredientAt 1 = .ok (.getfield 18, 3) := by decide +kernel
theorem dX0_ingredientAt_4 : decode cX0_ingredientAt 4 = .ok (.iload_n 1, 1) := by decide +kernel
theorem dX0_ingredientAt_5 : decode cX0_ingredientAt 5 = .ok (.iconst 5, 1) := by decide +kernel
theorem dX0_ingredientAt_6 : decode cX0_ingredientAt 6 = .ok (.imul, 1) := by decide +kernel
theorem dX0_ingredientAt_7 : decode cX0_ingredientAt 7 = .ok (.iload_n 2, 1) := by decide +kernel
theorem dX0_ingredientAt_8 : decode cX0_ingredientAt 8 = .ok (.iadd, 1) := by decide +kernel
theorem dX0_ingredientAt_9 : decode cX0_ingredientAt 9 = .ok (.invokestatic 46, 3) := by decide +kernel
theorem dX0_ingredientAt_12 : decode cX0_ingredientAt 12 = .ok (.ireturn, 1) := by decide +kernel
set_option maxRecDepth 20000 in
theorem ggX0_amountAt_X6_at : GoodIn wsX0_amountAt wsX6_at := goodIn_r _ [4] (by decide +kernel) (by decide +kernel)
set_option maxRecDepth 20000 in
theorem gX0_amountAt_X6_at_n46 : GoodIn wsX0_amountAt (wsX6_at) := ggX0_amountAt_X6_at
theorem dX0_amountAt_0 : decode cX0_amountAt 0 = .ok (.aload_n 0, 1) := by decide +kernel
theorem dX0_amountAt_1 : decode cX0_amountAt 1 = .ok (.getfield 21, 3) := by decide +kernel
theorem dX0_amountAt_4 : decode cX0_amountAt 4 = .ok (.iload_n 1, 1) := by decide +kernel
theorem dX0_amountAt_5 : decode cX0_amountAt 5 = .ok (.iconst 5, 1) := by decide +kernel
theorem dX0_amountAt_6 : decode cX0_amountAt 6 = .ok (.imul, 1) := by decide +kernel
theorem dX0_amountAt_7 : decode cX0_amountAt 7 = .ok (.iload_n 2, 1) := by decide +kernel
theorem dX0_amountAt_8 : decode cX0_amountAt 8 = .ok (.iadd, 1) := by decide +kernel
theorem dX0_amountAt_9 : decode cX0_amountAt 9 = .ok (.invokestatic 46, 3) := by decide +kernel
theorem dX0_amountAt_12 : decode cX0_amountAt 12 = .ok (.ireturn, 1) := by decide +kernel
set_option maxRecDepth 20000 in
theorem ggX0_substitutesOf_X6_at : GoodIn wsX0_substitutesOf wsX6_at := goodIn_r _ [4] (by decide +kernel) (by decide +kernel)
set_option maxRecDepth 20000 in
theorem gX0_substitutesOf_X6_at_n46 : GoodIn wsX0_substitutesOf (wsX6_at) := ggX0_substitutesOf_X6_at
theorem dX0_substitutesOf_0 : decode cX0_substitutesOf 0 = .ok (.aload_n 0, 1) := by decide +kernel
theorem dX0_substitutesOf_1 : decode cX0_substitutesOf 1 = .ok (.getfield 24, 3) := by decide +kernel
theorem dX0_substitutesOf_4 : decode cX0_substitutesOf 4 = .ok (.iload_n 1, 1) := by decide +kernel
theorem dX0_substitutesOf_5 : decode cX0_substitutesOf 5 = .ok (.invokestatic 46, 3) := by decide +kernel
theorem dX0_substitutesOf_8 : decode cX0_substitutesOf 8 = .ok (.ireturn, 1) := by decide +kernel
set_option maxRecDepth 20000 in
theorem ggX0_substituteAt_X6_at : GoodIn wsX0_substituteAt wsX6_at := goodIn_r _ [4] (by decide +kernel) (by decide +kernel)
set_option maxRecDepth 20000 in
theorem gX0_substituteAt_X6_at_n46 : GoodIn wsX0_substituteAt (wsX6_at) := ggX0_substituteAt_X6_at
theorem dX0_substituteAt_0 : decode cX0_substituteAt 0 = .ok (.aload_n 0, 1) := by decide +kernel
theorem dX0_substituteAt_1 : decode cX0_substituteAt 1 = .ok (.getfield 27, 3) := by decide +kernel
theorem dX0_substituteAt_4 : decode cX0_substituteAt 4 = .ok (.iload_n 1, 1) := by decide +kernel
theorem dX0_substituteAt_5 : decode cX0_substituteAt 5 = .ok (.iconst 3, 1) := by decide +kernel
theorem dX0_substituteAt_6 : decode cX0_substituteAt 6 = .ok (.imul, 1) := by decide +kernel
theorem dX0_substituteAt_7 : decode cX0_substituteAt 7 = .ok (.iload_n 2, 1) := by decide +kernel
theorem dX0_substituteAt_8 : decode cX0_substituteAt 8 = .ok (.iadd, 1) := by decide +kernel
theorem dX0_substituteAt_9 : decode cX0_substituteAt 9 = .ok (.invokestatic 46, 3) := by decide +kernel
theorem dX0_substituteAt_12 : decode cX0_substituteAt 12 = .ok (.ireturn, 1) := by decide +kernel
set_option maxRecDepth 20000 in
theorem ggX0_vesselOf_X6_at : GoodIn wsX0_vesselOf wsX6_at := goodIn_r _ [4] (by decide +kernel) (by decide +kernel)
set_option maxRecDepth 20000 in
theorem gX0_vesselOf_X6_at_n46 : GoodIn wsX0_vesselOf (wsX6_at) := ggX0_vesselOf_X6_at
theorem dX0_vesselOf_0 : decode cX0_vesselOf 0 = .ok (.aload_n 0, 1) := by decide +kernel
theorem dX0_vesselOf_1 : decode cX0_vesselOf 1 = .ok (.getfield 30, 3) := by decide +kernel
theorem dX0_vesselOf_4 : decode cX0_vesselOf 4 = .ok (.iload_n 1, 1) := by decide +kernel
theorem dX0_vesselOf_5 : decode cX0_vesselOf 5 = .ok (.invokestatic 46, 3) := by decide +kernel
theorem dX0_vesselOf_8 : decode cX0_vesselOf 8 = .ok (.ireturn, 1) := by decide +kernel
set_option maxRecDepth 20000 in
theorem ggX0_rankOf_X6_at : GoodIn wsX0_rankOf wsX6_at := goodIn_r _ [4] (by decide +kernel) (by decide +kernel)
set_option maxRecDepth 20000 in
theorem gX0_rankOf_X6_at_n46 : GoodIn wsX0_rankOf (wsX6_at) := ggX0_rankOf_X6_at
theorem dX0_rankOf_0 : decode cX0_rankOf 0 = .ok (.aload_n 0, 1) := by decide +kernel
theorem dX0_rankOf_1 : decode cX0_rankOf 1 = .ok (.getfield 33, 3) := by decide +kernel
theorem dX0_rankOf_4 : decode cX0_rankOf 4 = .ok (.iload_n 1, 1) := by decide +kernel
theorem dX0_rankOf_5 : decode cX0_rankOf 5 = .ok (.invokestatic 46, 3) := by decide +kernel
theorem dX0_rankOf_8 : decode cX0_rankOf 8 = .ok (.ireturn, 1) := by decide +kernel
set_option maxRecDepth 20000 in
theorem ggX0_recipes_X0_madeThings : GoodIn wsX0_recipes wsX0_madeThings := goodIn_r _ [5, 6, 7, 8, 4, 9, 10, 11, 12, 13, 21, 22, 23, 24, 25, 26, 27, 28] (by decide +kernel) (by decide +kernel)
set_option maxRecDepth 20000 in
theorem gX0_recipes_X0_madeThings : GoodIn wsX0_recipes (wsV RX0 50 RX0 yX0_madeThings wsX0_madeThings) := goodIn_app (goodIn_of _ (by decide +kernel)) ggX0_recipes_X0_madeThings
set_option maxRecDepth 20000 in
theorem ggX0_recipes_J6_bitCount_0f7a4 : GoodIn wsX0_recipes wsJ6_bitCount_0f7a4 := goodIn_r _ [17, 18, 19, 20] (by decide +kernel) (by decide +kernel)
set_option maxRecDepth 20000 in
theorem gX0_recipes_J6_bitCount_0f7a4 : GoodIn wsX0_recipes (va_wsS RX0 54 yJ6_bitCount_0f7a4 wsJ6_bitCount_0f7a4) := goodIn_app (goodIn_of _ (by decide +kernel)) ggX0_recipes_J6_bitCount_0f7a4
theorem dX0_recipes_0 : decode cX0_recipes 0 = .ok (.aload_n 0, 1) := by decide +kernel
theorem dX0_recipes_1 : decode cX0_recipes 1 = .ok (.invokevirtual 50, 3) := by decide +kernel
theorem dX0_recipes_4 : decode cX0_recipes 4 = .ok (.invokestatic 54, 3) := by decide +kernel
theorem dX0_recipes_7 : decode cX0_recipes 7 = .ok (.ireturn, 1) := by decide +kernel
set_option maxRecDepth 20000 in
theorem ggX0_madeThings_X0_isMade : GoodIn wsX0_madeThings wsX0_isMade := goodIn_r _ [5, 6, 7, 8, 9, 10, 11, 12, 13, 14, 15, 16, 17] (by decide +kernel) (by decide +kernel)
set_option maxRecDepth 20000 in
theorem gX0_madeThings_X0_isMade : GoodIn wsX0_madeThings (wsV RX0 60 RX0 yX0_isMade wsX0_isMade) := goodIn_app (goodIn_of _ (by decide +kernel)) ggX0_madeThings_X0_isMade
theorem dX0_madeThings_0 : decode cX0_madeThings 0 = .ok (.iconst 0, 1) := by decide +kernel
theorem dX0_madeThings_1 : decode cX0_madeThings 1 = .ok (.istore_n 1, 1) := by decide +kernel
theorem dX0_madeThings_2 : decode cX0_madeThings 2 = .ok (.iconst 0, 1) := by decide +kernel
theorem dX0_madeThings_3 : decode cX0_madeThings 3 = .ok (.istore_n 2, 1) := by decide +kernel
theorem dX0_madeThings_4 : decode cX0_madeThings 4 = .ok (.iload_n 2, 1) := by decide +kernel
theorem dX0_madeThings_5 : decode cX0_madeThings 5 = .ok (.bipush 20, 2) := by decide +kernel
theorem dX0_madeThings_7 : decode cX0_madeThings 7 = .ok (.if_icmp .ge 23, 3) := by decide +kernel
theorem dX0_madeThings_10 : decode cX0_madeThings 10 = .ok (.aload_n 0, 1) := by decide +kernel
theorem dX0_madeThings_11 : decode cX0_madeThings 11 = .ok (.iload_n 2, 1) := by decide +kernel
theorem dX0_madeThings_12 : decode cX0_madeThings 12 = .ok (.invokevirtual 60, 3) := by decide +kernel
theorem dX0_madeThings_15 : decode cX0_madeThings 15 = .ok (.ifCond .eq 9, 3) := by decide +kernel
theorem dX0_madeThings_18 : decode cX0_madeThings 18 = .ok (.iload_n 1, 1) := by decide +kernel
theorem dX0_madeThings_19 : decode cX0_madeThings 19 = .ok (.iconst 1, 1) := by decide +kernel
theorem dX0_madeThings_20 : decode cX0_madeThings 20 = .ok (.iload_n 2, 1) := by decide +kernel
theorem dX0_madeThings_21 : decode cX0_madeThings 21 = .ok (.ishl, 1) := by decide +kernel
theorem dX0_madeThings_22 : decode cX0_madeThings 22 = .ok (.ior, 1) := by decide +kernel
theorem dX0_madeThings_23 : decode cX0_madeThings 23 = .ok (.istore_n 1, 1) := by decide +kernel
theorem dX0_madeThings_24 : decode cX0_madeThings 24 = .ok (.iinc 2 1, 3) := by decide +kernel
theorem dX0_madeThings_27 : decode cX0_madeThings 27 = .ok (.goto (-23), 3) := by decide +kernel
theorem dX0_madeThings_30 : decode cX0_madeThings 30 = .ok (.iload_n 1, 1) := by decide +kernel
theorem dX0_madeThings_31 : decode cX0_madeThings 31 = .ok (.ireturn, 1) := by decide +kernel
set_option maxRecDepth 20000 in
theorem ggX0_greatestRank_X0_rankOf : GoodIn wsX0_greatestRank wsX0_rankOf := goodIn_r _ [9, 10, 11, 12, 13, 14, 15, 16, 17, 18, 19, 20, 21] (by decide +kernel) (by decide +kernel)
set_option maxRecDepth 20000 in
theorem gX0_greatestRank_X0_rankOf : GoodIn wsX0_greatestRank (wsV RX0 64 RX0 yX0_rankOf wsX0_rankOf) := goodIn_app (goodIn_of _ (by decide +kernel)) ggX0_greatestRank_X0_rankOf
theorem dX0_greatestRank_0 : decode cX0_greatestRank 0 = .ok (.iconst 0, 1) := by decide +kernel
theorem dX0_greatestRank_1 : decode cX0_greatestRank 1 = .ok (.istore_n 1, 1) := by decide +kernel
theorem dX0_greatestRank_2 : decode cX0_greatestRank 2 = .ok (.iconst 0, 1) := by decide +kernel
theorem dX0_greatestRank_3 : decode cX0_greatestRank 3 = .ok (.istore_n 2, 1) := by decide +kernel
theorem dX0_greatestRank_4 : decode cX0_greatestRank 4 = .ok (.iload_n 2, 1) := by decide +kernel
theorem dX0_greatestRank_5 : decode cX0_greatestRank 5 = .ok (.bipush 20, 2) := by decide +kernel
theorem dX0_greatestRank_7 : decode cX0_greatestRank 7 = .ok (.if_icmp .ge 19, 3) := by decide +kernel
theorem dX0_greatestRank_10 : decode cX0_greatestRank 10 = .ok (.iload_n 1, 1) := by decide +kernel
theorem dX0_greatestRank_11 : decode cX0_greatestRank 11 = .ok (.aload_n 0, 1) := by decide +kernel
theorem dX0_greatestRank_12 : decode cX0_greatestRank 12 = .ok (.iload_n 2, 1) := by decide +kernel
theorem dX0_greatestRank_13 : decode cX0_greatestRank 13 = .ok (.invokevirtual 64, 3) := by decide +kernel
theorem dX0_greatestRank_16 : decode cX0_greatestRank 16 = .ok (.invokestatic 67, 3) := by decide +kernel
theorem dX0_greatestRank_19 : decode cX0_greatestRank 19 = .ok (.istore_n 1, 1) := by decide +kernel
theorem dX0_greatestRank_20 : decode cX0_greatestRank 20 = .ok (.iinc 2 1, 3) := by decide +kernel
theorem dX0_greatestRank_23 : decode cX0_greatestRank 23 = .ok (.goto (-19), 3) := by decide +kernel
theorem dX0_greatestRank_26 : decode cX0_greatestRank 26 = .ok (.iload_n 1, 1) := by decide +kernel
theorem dX0_greatestRank_27 : decode cX0_greatestRank 27 = .ok (.ireturn, 1) := by decide +kernel
set_option maxRecDepth 20000 in
theorem ggX0_lay_X6_put : GoodIn wsX0_lay wsX6_put := goodIn_r _ [7] (by decide +kernel) (by decide +kernel)
set_option maxRecDepth 20000 in
theorem gX0_lay_X6_put_n82 : GoodIn wsX0_lay (wsX6_put) := ggX0_lay_X6_put
set_option maxRecDepth 20000 in
theorem ggX0_lay_X6_at : GoodIn wsX0_lay wsX6_at := goodIn_r _ [9] (by decide +kernel) (by decide +kernel)
set_option maxRecDepth 20000 in
theorem gX0_lay_X6_at_n46 : GoodIn wsX0_lay (wsX6_at) := ggX0_lay_X6_at
theorem dX0_lay_0 : decode cX0_lay 0 = .ok (.aload_n 0, 1) := by decide +kernel
theorem dX0_lay_1 : decode cX0_lay 1 = .ok (.getfield 9, 3) := by decide +kernel
theorem dX0_lay_4 : decode cX0_lay 4 = .ok (.aload_n 1, 1) := by decide +kernel
theorem dX0_lay_5 : decode cX0_lay 5 = .ok (.getfield 73, 3) := by decide +kernel
theorem dX0_lay_8 : decode cX0_lay 8 = .ok (.aload_n 1, 1) := by decide +kernel
theorem dX0_lay_9 : decode cX0_lay 9 = .ok (.getfield 79, 3) := by decide +kernel
theorem dX0_lay_12 : decode cX0_lay 12 = .ok (.invokestatic 82, 3) := by decide +kernel
theorem dX0_lay_15 : decode cX0_lay 15 = .ok (.aload_n 0, 1) := by decide +kernel
theorem dX0_lay_16 : decode cX0_lay 16 = .ok (.getfield 15, 3) := by decide +kernel
theorem dX0_lay_19 : decode cX0_lay 19 = .ok (.aload_n 1, 1) := by decide +kernel
theorem dX0_lay_20 : decode cX0_lay 20 = .ok (.getfield 73, 3) := by decide +kernel
theorem dX0_lay_23 : decode cX0_lay 23 = .ok (.aload_n 1, 1) := by decide +kernel
theorem dX0_lay_24 : decode cX0_lay 24 = .ok (.getfield 86, 3) := by decide +kernel
theorem dX0_lay_27 : decode cX0_lay 27 = .ok (.invokestatic 82, 3) := by decide +kernel
theorem dX0_lay_30 : decode cX0_lay 30 = .ok (.aload_n 1, 1) := by decide +kernel
theorem dX0_lay_31 : decode cX0_lay 31 = .ok (.getfield 73, 3) := by decide +kernel
theorem dX0_lay_34 : decode cX0_lay 34 = .ok (.iconst 5, 1) := by decide +kernel
theorem dX0_lay_35 : decode cX0_lay 35 = .ok (.imul, 1) := by decide +kernel
theorem dX0_lay_36 : decode cX0_lay 36 = .ok (.istore_n 2, 1) := by decide +kernel
theorem dX0_lay_37 : decode cX0_lay 37 = .ok (.iconst 0, 1) := by decide +kernel
theorem dX0_lay_38 : decode cX0_lay 38 = .ok (.istore_n 3, 1) := by decide +kernel
theorem dX0_lay_39 : decode cX0_lay 39 = .ok (.iload_n 3, 1) := by decide +kernel
theorem dX0_lay_40 : decode cX0_lay 40 = .ok (.iconst 5, 1) := by decide +kernel
theorem dX0_lay_41 : decode cX0_lay 41 = .ok (.if_icmp .ge 45, 3) := by decide +kernel
theorem dX0_lay_44 : decode cX0_lay 44 = .ok (.aload_n 0, 1) := by decide +kernel
theorem dX0_lay_45 : decode cX0_lay 45 = .ok (.getfield 18, 3) := by decide +kernel
theorem dX0_lay_48 : decode cX0_lay 48 = .ok (.iload_n 2, 1) := by decide +kernel
theorem dX0_lay_49 : decode cX0_lay 49 = .ok (.iload_n 3, 1) := by decide +kernel
theorem dX0_lay_50 : decode cX0_lay 50 = .ok (.iadd, 1) := by decide +kernel
theorem dX0_lay_51 : decode cX0_lay 51 = .ok (.aload_n 1, 1) := by decide +kernel
theorem dX0_lay_52 : decode cX0_lay 52 = .ok (.getfield 89, 3) := by decide +kernel
theorem dX0_lay_55 : decode cX0_lay 55 = .ok (.iload_n 3, 1) := by decide +kernel
theorem dX0_lay_56 : decode cX0_lay 56 = .ok (.invokestatic 46, 3) := by decide +kernel
theorem dX0_lay_59 : decode cX0_lay 59 = .ok (.invokestatic 82, 3) := by decide +kernel
theorem dX0_lay_62 : decode cX0_lay 62 = .ok (.aload_n 0, 1) := by decide +kernel
theorem dX0_lay_63 : decode cX0_lay 63 = .ok (.getfield 21, 3) := by decide +kernel
theorem dX0_lay_66 : decode cX0_lay 66 = .ok (.iload_n 2, 1) := by decide +kernel
theorem dX0_lay_67 : decode cX0_lay 67 = .ok (.iload_n 3, 1) := by decide +kernel
theorem dX0_lay_68 : decode cX0_lay 68 = .ok (.iadd, 1) := by decide +kernel
theorem dX0_lay_69 : decode cX0_lay 69 = .ok (.aload_n 1, 1) := by decide +kernel
theorem dX0_lay_70 : decode cX0_lay 70 = .ok (.getfield 90, 3) := by decide +kernel
theorem dX0_lay_73 : decode cX0_lay 73 = .ok (.iload_n 3, 1) := by decide +kernel
theorem dX0_lay_74 : decode cX0_lay 74 = .ok (.invokestatic 46, 3) := by decide +kernel
theorem dX0_lay_77 : decode cX0_lay 77 = .ok (.invokestatic 82, 3) := by decide +kernel
theorem dX0_lay_80 : decode cX0_lay 80 = .ok (.iinc 3 1, 3) := by decide +kernel
theorem dX0_lay_83 : decode cX0_lay 83 = .ok (.goto (-44), 3) := by decide +kernel
theorem dX0_lay_86 : decode cX0_lay 86 = .ok (.return_, 1) := by decide +kernel
set_option maxRecDepth 20000 in
theorem ggX0_strike_X6_put : GoodIn wsX0_strike wsX6_put := goodIn_r _ [5] (by decide +kernel) (by decide +kernel)
set_option maxRecDepth 20000 in
theorem gX0_strike_X6_put_n82 : GoodIn wsX0_strike (wsX6_put) := ggX0_strike_X6_put
theorem dX0_strike_0 : decode cX0_strike 0 = .ok (.aload_n 0, 1) := by decide +kernel
theorem dX0_strike_1 : decode cX0_strike 1 = .ok (.getfield 9, 3) := by decide +kernel
theorem dX0_strike_4 : decode cX0_strike 4 = .ok (.iload_n 1, 1) := by decide +kernel
theorem dX0_strike_5 : decode cX0_strike 5 = .ok (.iconst 0, 1) := by decide +kernel
theorem dX0_strike_6 : decode cX0_strike 6 = .ok (.invokestatic 82, 3) := by decide +kernel
theorem dX0_strike_9 : decode cX0_strike 9 = .ok (.aload_n 0, 1) := by decide +kernel
theorem dX0_strike_10 : decode cX0_strike 10 = .ok (.getfield 15, 3) := by decide +kernel
theorem dX0_strike_13 : decode cX0_strike 13 = .ok (.iload_n 1, 1) := by decide +kernel
theorem dX0_strike_14 : decode cX0_strike 14 = .ok (.iconst 0, 1) := by decide +kernel
theorem dX0_strike_15 : decode cX0_strike 15 = .ok (.invokestatic 82, 3) := by decide +kernel
theorem dX0_strike_18 : decode cX0_strike 18 = .ok (.return_, 1) := by decide +kernel
set_option maxRecDepth 20000 in
theorem ggX0_hasSubstitute_X0_substitutesOf : GoodIn wsX0_hasSubstitute wsX0_substitutesOf := goodIn_r _ [5, 6, 7, 8, 9, 15, 16, 17, 18, 19, 20, 21, 22] (by decide +kernel) (by decide +kernel)
set_option maxRecDepth 20000 in
theorem gX0_hasSubstitute_X0_substitutesOf : GoodIn wsX0_hasSubstitute (wsV RX0 91 RX0 yX0_substitutesOf wsX0_substitutesOf) := goodIn_app (goodIn_of _ (by decide +kernel)) ggX0_hasSubstitute_X0_substitutesOf
set_option maxRecDepth 20000 in
theorem ggX0_hasSubstitute_X0_substituteAt : GoodIn wsX0_hasSubstitute wsX0_substituteAt := goodIn_r _ [13, 14, 7, 8, 9, 15, 16, 17, 18, 19, 20, 21, 22] (by decide +kernel) (by decide +kernel)
set_option maxRecDepth 20000 in
theorem gX0_hasSubstitute_X0_substituteAt : GoodIn wsX0_hasSubstitute (wsV RX0 94 RX0 yX0_substituteAt wsX0_substituteAt) := goodIn_app (goodIn_of _ (by decide +kernel)) ggX0_hasSubstitute_X0_substituteAt
theorem dX0_hasSubstitute_0 : decode cX0_hasSubstitute 0 = .ok (.aload_n 0, 1) := by decide +kernel
theorem dX0_hasSubstitute_1 : decode cX0_hasSubstitute 1 = .ok (.iload_n 1, 1) := by decide +kernel
theorem dX0_hasSubstitute_2 : decode cX0_hasSubstitute 2 = .ok (.invokevirtual 91, 3) := by decide +kernel
theorem dX0_hasSubstitute_5 : decode cX0_hasSubstitute 5 = .ok (.istore_n 3, 1) := by decide +kernel
theorem dX0_hasSubstitute_6 : decode cX0_hasSubstitute 6 = .ok (.iconst 0, 1) := by decide +kernel
theorem dX0_hasSubstitute_7 : decode cX0_hasSubstitute 7 = .ok (.istore 4, 2) := by decide +kernel
theorem dX0_hasSubstitute_9 : decode cX0_hasSubstitute 9 = .ok (.iload 4, 2) := by decide +kernel
theorem dX0_hasSubstitute_11 : decode cX0_hasSubstitute 11 = .ok (.iload_n 3, 1) := by decide +kernel
theorem dX0_hasSubstitute_12 : decode cX0_hasSubstitute 12 = .ok (.if_icmp .ge 22, 3) := by decide +kernel
theorem dX0_hasSubstitute_15 : decode cX0_hasSubstitute 15 = .ok (.aload_n 0, 1) := by decide +kernel
theorem dX0_hasSubstitute_16 : decode cX0_hasSubstitute 16 = .ok (.iload_n 1, 1) := by decide +kernel
theorem dX0_hasSubstitute_17 : decode cX0_hasSubstitute 17 = .ok (.iload 4, 2) := by decide +kernel
theorem dX0_hasSubstitute_19 : decode cX0_hasSubstitute 19 = .ok (.invokevirtual 94, 3) := by decide +kernel
theorem dX0_hasSubstitute_22 : decode cX0_hasSubstitute 22 = .ok (.iload_n 2, 1) := by decide +kernel
theorem dX0_hasSubstitute_23 : decode cX0_hasSubstitute 23 = .ok (.if_icmp .ne 5, 3) := by decide +kernel
theorem dX0_hasSubstitute_26 : decode cX0_hasSubstitute 26 = .ok (.iconst 1, 1) := by decide +kernel
theorem dX0_hasSubstitute_27 : decode cX0_hasSubstitute 27 = .ok (.ireturn, 1) := by decide +kernel
theorem dX0_hasSubstitute_28 : decode cX0_hasSubstitute 28 = .ok (.iinc 4 1, 3) := by decide +kernel
theorem dX0_hasSubstitute_31 : decode cX0_hasSubstitute 31 = .ok (.goto (-22), 3) := by decide +kernel
theorem dX0_hasSubstitute_34 : decode cX0_hasSubstitute 34 = .ok (.iconst 0, 1) := by decide +kernel
theorem dX0_hasSubstitute_35 : decode cX0_hasSubstitute 35 = .ok (.ireturn, 1) := by decide +kernel
set_option maxRecDepth 20000 in
theorem ggX0_addSubstitute_X0_substitutesOf : GoodIn wsX0_addSubstitute wsX0_substitutesOf := goodIn_r _ [7, 2, 8, 9, 10, 13, 14, 15, 16, 17, 18, 19, 20] (by decide +kernel) (by decide +kernel)
set_option maxRecDepth 20000 in
theorem gX0_addSubstitute_X0_substitutesOf : GoodIn wsX0_addSubstitute (wsV RX0 91 RX0 yX0_substitutesOf wsX0_substitutesOf) := goodIn_app (goodIn_of _ (by decide +kernel)) ggX0_addSubstitute_X0_substitutesOf
set_option maxRecDepth 20000 in
theorem ggX0_addSubstitute_X6_put : GoodIn wsX0_addSubstitute wsX6_put := goodIn_r _ [12] (by decide +kernel) (by decide +kernel)
set_option maxRecDepth 20000 in
theorem gX0_addSubstitute_X6_put_n82 : GoodIn wsX0_addSubstitute (wsX6_put) := ggX0_addSubstitute_X6_put
theorem dX0_addSubstitute_0 : decode cX0_addSubstitute 0 = .ok (.aload_n 0, 1) := by decide +kernel
theorem dX0_addSubstitute_1 : decode cX0_addSubstitute 1 = .ok (.iload_n 1, 1) := by decide +kernel
theorem dX0_addSubstitute_2 : decode cX0_addSubstitute 2 = .ok (.invokevirtual 91, 3) := by decide +kernel
theorem dX0_addSubstitute_5 : decode cX0_addSubstitute 5 = .ok (.istore_n 3, 1) := by decide +kernel
theorem dX0_addSubstitute_6 : decode cX0_addSubstitute 6 = .ok (.aload_n 0, 1) := by decide +kernel
theorem dX0_addSubstitute_7 : decode cX0_addSubstitute 7 = .ok (.getfield 27, 3) := by decide +kernel
theorem dX0_addSubstitute_10 : decode cX0_addSubstitute 10 = .ok (.iload_n 1, 1) := by decide +kernel
theorem dX0_addSubstitute_11 : decode cX0_addSubstitute 11 = .ok (.iconst 3, 1) := by decide +kernel
theorem dX0_addSubstitute_12 : decode cX0_addSubstitute 12 = .ok (.imul, 1) := by decide +kernel
theorem dX0_addSubstitute_13 : decode cX0_addSubstitute 13 = .ok (.iload_n 3, 1) := by decide +kernel
theorem dX0_addSubstitute_14 : decode cX0_addSubstitute 14 = .ok (.iadd, 1) := by decide +kernel
theorem dX0_addSubstitute_15 : decode cX0_addSubstitute 15 = .ok (.iload_n 2, 1) := by decide +kernel
theorem dX0_addSubstitute_16 : decode cX0_addSubstitute 16 = .ok (.invokestatic 82, 3) := by decide +kernel
theorem dX0_addSubstitute_19 : decode cX0_addSubstitute 19 = .ok (.aload_n 0, 1) := by decide +kernel
theorem dX0_addSubstitute_20 : decode cX0_addSubstitute 20 = .ok (.getfield 24, 3) := by decide +kernel
theorem dX0_addSubstitute_23 : decode cX0_addSubstitute 23 = .ok (.iload_n 1, 1) := by decide +kernel
theorem dX0_addSubstitute_24 : decode cX0_addSubstitute 24 = .ok (.iload_n 3, 1) := by decide +kernel
theorem dX0_addSubstitute_25 : decode cX0_addSubstitute 25 = .ok (.iconst 1, 1) := by decide +kernel
theorem dX0_addSubstitute_26 : decode cX0_addSubstitute 26 = .ok (.iadd, 1) := by decide +kernel
theorem dX0_addSubstitute_27 : decode cX0_addSubstitute 27 = .ok (.invokestatic 82, 3) := by decide +kernel
theorem dX0_addSubstitute_30 : decode cX0_addSubstitute 30 = .ok (.return_, 1) := by decide +kernel
set_option maxRecDepth 20000 in
theorem ggX0_removeSubstitute_X0_substitutesOf : GoodIn wsX0_removeSubstitute wsX0_substitutesOf := goodIn_r _ [7, 2, 8, 9, 10, 17, 18, 19, 20, 21, 22, 23, 24] (by decide +kernel) (by decide +kernel)
set_option maxRecDepth 20000 in
theorem gX0_removeSubstitute_X0_substitutesOf : GoodIn wsX0_removeSubstitute (wsV RX0 91 RX0 yX0_substitutesOf wsX0_substitutesOf) := goodIn_app (goodIn_of _ (by decide +kernel)) ggX0_removeSubstitute_X0_substitutesOf
set_option maxRecDepth 20000 in
theorem ggX0_removeSubstitute_X0_substituteAt : GoodIn wsX0_removeSubstitute wsX0_substituteAt := goodIn_r _ [14, 1, 8, 9, 10, 17, 18, 19, 20, 21, 22, 23, 24] (by decide +kernel) (by decide +kernel)
set_option maxRecDepth 20000 in
theorem gX0_removeSubstitute_X0_substituteAt : GoodIn wsX0_removeSubstitute (wsV RX0 94 RX0 yX0_substituteAt wsX0_substituteAt) := goodIn_app (goodIn_of _ (by decide +kernel)) ggX0_removeSubstitute_X0_substituteAt
set_option maxRecDepth 20000 in
theorem ggX0_removeSubstitute_X6_put : GoodIn wsX0_removeSubstitute wsX6_put := goodIn_r _ [16] (by decide +kernel) (by decide +kernel)
set_option maxRecDepth 20000 in
theorem gX0_removeSubstitute_X6_put_n82 : GoodIn wsX0_removeSubstitute (wsX6_put) := ggX0_removeSubstitute_X6_put
theorem dX0_removeSubstitute_0 : decode cX0_removeSubstitute 0 = .ok (.aload_n 0, 1) := by decide +kernel
theorem dX0_removeSubstitute_1 : decode cX0_removeSubstitute 1 = .ok (.iload_n 1, 1) := by decide +kernel
theorem dX0_removeSubstitute_2 : decode cX0_removeSubstitute 2 = .ok (.invokevirtual 91, 3) := by decide +kernel
theorem dX0_removeSubstitute_5 : decode cX0_removeSubstitute 5 = .ok (.iconst 1, 1) := by decide +kernel
theorem dX0_removeSubstitute_6 : decode cX0_removeSubstitute 6 = .ok (.isub, 1) := by decide +kernel
theorem dX0_removeSubstitute_7 : decode cX0_removeSubstitute 7 = .ok (.istore_n 3, 1) := by decide +kernel
theorem dX0_removeSubstitute_8 : decode cX0_removeSubstitute 8 = .ok (.iload_n 2, 1) := by decide +kernel
theorem dX0_removeSubstitute_9 : decode cX0_removeSubstitute 9 = .ok (.istore 4, 2) := by decide +kernel
theorem dX0_removeSubstitute_11 : decode cX0_removeSubstitute 11 = .ok (.iload 4, 2) := by decide +kernel
theorem dX0_removeSubstitute_13 : decode cX0_removeSubstitute 13 = .ok (.iload_n 3, 1) := by decide +kernel
theorem dX0_removeSubstitute_14 : decode cX0_removeSubstitute 14 = .ok (.if_icmp .ge 31, 3) := by decide +kernel
theorem dX0_removeSubstitute_17 : decode cX0_removeSubstitute 17 = .ok (.aload_n 0, 1) := by decide +kernel
theorem dX0_removeSubstitute_18 : decode cX0_removeSubstitute 18 = .ok (.getfield 27, 3) := by decide +kernel
theorem dX0_removeSubstitute_21 : decode cX0_removeSubstitute 21 = .ok (.iload_n 1, 1) := by decide +kernel
theorem dX0_removeSubstitute_22 : decode cX0_removeSubstitute 22 = .ok (.iconst 3, 1) := by decide +kernel
theorem dX0_removeSubstitute_23 : decode cX0_removeSubstitute 23 = .ok (.imul, 1) := by decide +kernel
theorem dX0_removeSubstitute_24 : decode cX0_removeSubstitute 24 = .ok (.iload 4, 2) := by decide +kernel
theorem dX0_removeSubstitute_26 : decode cX0_removeSubstitute 26 = .ok (.iadd, 1) := by decide +kernel
theorem dX0_removeSubstitute_27 : decode cX0_removeSubstitute 27 = .ok (.aload_n 0, 1) := by decide +kernel
theorem dX0_removeSubstitute_28 : decode cX0_removeSubstitute 28 = .ok (.iload_n 1, 1) := by decide +kernel
theorem dX0_removeSubstitute_29 : decode cX0_removeSubstitute 29 = .ok (.iload 4, 2) := by decide +kernel
theorem dX0_removeSubstitute_31 : decode cX0_removeSubstitute 31 = .ok (.iconst 1, 1) := by decide +kernel
theorem dX0_removeSubstitute_32 : decode cX0_removeSubstitute 32 = .ok (.iadd, 1) := by decide +kernel
theorem dX0_removeSubstitute_33 : decode cX0_removeSubstitute 33 = .ok (.invokevirtual 94, 3) := by decide +kernel
theorem dX0_removeSubstitute_36 : decode cX0_removeSubstitute 36 = .ok (.invokestatic 82, 3) := by decide +kernel
theorem dX0_removeSubstitute_39 : decode cX0_removeSubstitute 39 = .ok (.iinc 4 1, 3) := by decide +kernel
theorem dX0_removeSubstitute_42 : decode cX0_removeSubstitute 42 = .ok (.goto (-31), 3) := by decide +kernel
theorem dX0_removeSubstitute_45 : decode cX0_removeSubstitute 45 = .ok (.aload_n 0, 1) := by decide +kernel
theorem dX0_removeSubstitute_46 : decode cX0_removeSubstitute 46 = .ok (.getfield 24, 3) := by decide +kernel
theorem dX0_removeSubstitute_49 : decode cX0_removeSubstitute 49 = .ok (.iload_n 1, 1) := by decide +kernel
theorem dX0_removeSubstitute_50 : decode cX0_removeSubstitute 50 = .ok (.iload_n 3, 1) := by decide +kernel
theorem dX0_removeSubstitute_51 : decode cX0_removeSubstitute 51 = .ok (.invokestatic 82, 3) := by decide +kernel
theorem dX0_removeSubstitute_54 : decode cX0_removeSubstitute 54 = .ok (.return_, 1) := by decide +kernel
set_option maxRecDepth 20000 in
theorem ggX0_setVessel_X6_put : GoodIn wsX0_setVessel wsX6_put := goodIn_r _ [4] (by decide +kernel) (by decide +kernel)
set_option maxRecDepth 20000 in
theorem gX0_setVessel_X6_put_n82 : GoodIn wsX0_setVessel (wsX6_put) := ggX0_setVessel_X6_put
theorem dX0_setVessel_0 : decode cX0_setVessel 0 = .ok (.aload_n 0, 1) := by decide +kernel
theorem dX0_setVessel_1 : decode cX0_setVessel 1 = .ok (.getfield 30, 3) := by decide +kernel
theorem dX0_setVessel_4 : decode cX0_setVessel 4 = .ok (.iload_n 1, 1) := by decide +kernel
theorem dX0_setVessel_5 : decode cX0_setVessel 5 = .ok (.iload_n 2, 1) := by decide +kernel
theorem dX0_setVessel_6 : decode cX0_setVessel 6 = .ok (.invokestatic 82, 3) := by decide +kernel
theorem dX0_setVessel_9 : decode cX0_setVessel 9 = .ok (.return_, 1) := by decide +kernel
set_option maxRecDepth 20000 in
theorem ggX0_isVessel_X0_vesselOf : GoodIn wsX0_isVessel wsX0_vesselOf := goodIn_r _ [5, 6, 7, 8, 9, 10, 11, 12, 13, 14, 15, 16, 17] (by decide +kernel) (by decide +kernel)
set_option maxRecDepth 20000 in
theorem gX0_isVessel_X0_vesselOf : GoodIn wsX0_isVessel (wsV RX0 97 RX0 yX0_vesselOf wsX0_vesselOf) := goodIn_app (goodIn_of _ (by decide +kernel)) ggX0_isVessel_X0_vesselOf
theorem dX0_isVessel_0 : decode cX0_isVessel 0 = .ok (.iconst 0, 1) := by decide +kernel
theorem dX0_isVessel_1 : decode cX0_isVessel 1 = .ok (.istore_n 2, 1) := by decide +kernel
theorem dX0_isVessel_2 : decode cX0_isVessel 2 = .ok (.iload_n 2, 1) := by decide +kernel
theorem dX0_isVessel_3 : decode cX0_isVessel 3 = .ok (.bipush 20, 2) := by decide +kernel
theorem dX0_isVessel_5 : decode cX0_isVessel 5 = .ok (.if_icmp .ge 20, 3) := by decide +kernel
theorem dX0_isVessel_8 : decode cX0_isVessel 8 = .ok (.aload_n 0, 1) := by decide +kernel
theorem dX0_isVessel_9 : decode cX0_isVessel 9 = .ok (.iload_n 2, 1) := by decide +kernel
theorem dX0_isVessel_10 : decode cX0_isVessel 10 = .ok (.invokevirtual 97, 3) := by decide +kernel
theorem dX0_isVessel_13 : decode cX0_isVessel 13 = .ok (.iload_n 1, 1) := by decide +kernel
theorem dX0_isVessel_14 : decode cX0_isVessel 14 = .ok (.if_icmp .ne 5, 3) := by decide +kernel
theorem dX0_isVessel_17 : decode cX0_isVessel 17 = .ok (.iconst 1, 1) := by decide +kernel
theorem dX0_isVessel_18 : decode cX0_isVessel 18 = .ok (.ireturn, 1) := by decide +kernel
theorem dX0_isVessel_19 : decode cX0_isVessel 19 = .ok (.iinc 2 1, 3) := by decide +kernel
theorem dX0_isVessel_22 : decode cX0_isVessel 22 = .ok (.goto (-20), 3) := by decide +kernel
theorem dX0_isVessel_25 : decode cX0_isVessel 25 = .ok (.iconst 0, 1) := by decide +kernel
theorem dX0_isVessel_26 : decode cX0_isVessel 26 = .ok (.ireturn, 1) := by decide +kernel
set_option maxRecDepth 20000 in
theorem ggX0_findRanks_J7_fill_53178 : GoodIn wsX0_findRanks wsJ7_fill_53178 := goodIn_r _ [5] (by decide +kernel) (by decide +kernel)
set_option maxRecDepth 20000 in
theorem gX0_findRanks_J7_fill_53178 : GoodIn wsX0_findRanks (va_wsS RX0 36 yJ7_fill_53178 wsJ7_fill_53178) := goodIn_app (goodIn_of _ (by decide +kernel)) ggX0_findRanks_J7_fill_53178
set_option maxRecDepth 20000 in
theorem ggX0_findRanks_X0_isMade : GoodIn wsX0_findRanks wsX0_isMade := goodIn_r _ [10, 11, 12, 13, 14, 55, 56, 57, 58, 59, 60, 61, 62] (by decide +kernel) (by decide +kernel)
set_option maxRecDepth 20000 in
theorem gX0_findRanks_X0_isMade : GoodIn wsX0_findRanks (wsV RX0 60 RX0 yX0_isMade wsX0_isMade) := goodIn_app (goodIn_of _ (by decide +kernel)) ggX0_findRanks_X0_isMade
set_option maxRecDepth 20000 in
theorem ggX0_findRanks_X0_needsOf : GoodIn wsX0_findRanks wsX0_needsOf := goodIn_r _ [18, 19, 20, 21, 9, 22, 23, 12, 13, 14, 24, 25, 26, 27, 28, 29, 30, 31, 32, 33, 34, 35, 36, 37, 38, 55, 56, 57, 58, 59, 60, 61, 62] (by decide +kernel) (by decide +kernel)
set_option maxRecDepth 20000 in
theorem gX0_findRanks_X0_needsOf : GoodIn wsX0_findRanks (wsV RX0 100 RX0 yX0_needsOf wsX0_needsOf) := goodIn_app (goodIn_of _ (by decide +kernel)) ggX0_findRanks_X0_needsOf
set_option maxRecDepth 20000 in
theorem ggX0_findRanks_X0_greatestRankIn : GoodIn wsX0_findRanks wsX0_greatestRankIn := goodIn_r _ [42, 43, 44, 45, 46, 47, 13, 48, 49, 50, 51, 9, 52, 1, 12, 14, 55, 56, 57, 58, 59, 60, 61, 62] (by decide +kernel) (by decide +kernel)
set_option maxRecDepth 20000 in
theorem gX0_findRanks_X0_greatestRankIn : GoodIn wsX0_findRanks (wsV RX0 103 RX0 yX0_greatestRankIn wsX0_greatestRankIn) := goodIn_app (goodIn_of _ (by decide +kernel)) ggX0_findRanks_X0_greatestRankIn
set_option maxRecDepth 20000 in
theorem ggX0_findRanks_X0_rankOf : GoodIn wsX0_findRanks wsX0_rankOf := goodIn_r _ [52, 1, 12, 13, 14, 55, 56, 57, 58, 59, 60, 61, 62] (by decide +kernel) (by decide +kernel)
set_option maxRecDepth 20000 in
theorem gX0_findRanks_X0_rankOf : GoodIn wsX0_findRanks (wsV RX0 64 RX0 yX0_rankOf wsX0_rankOf) := goodIn_app (goodIn_of _ (by decide +kernel)) ggX0_findRanks_X0_rankOf
set_option maxRecDepth 20000 in
theorem ggX0_findRanks_X6_put : GoodIn wsX0_findRanks wsX6_put := goodIn_r _ [54] (by decide +kernel) (by decide +kernel)
set_option maxRecDepth 20000 in
theorem gX0_findRanks_X6_put_n82 : GoodIn wsX0_findRanks (wsX6_put) := ggX0_findRanks_X6_put
theorem dX0_findRanks_0 : decode cX0_findRanks 0 = .ok (.aload_n 0, 1) := by decide +kernel
theorem dX0_findRanks_1 : decode cX0_findRanks 1 = .ok (.getfield 33, 3) := by decide +kernel
theorem dX0_findRanks_4 : decode cX0_findRanks 4 = .ok (.iconst 0, 1) := by decide +kernel
theorem dX0_findRanks_5 : decode cX0_findRanks 5 = .ok (.invokestatic 36, 3) := by decide +kernel
theorem dX0_findRanks_8 : decode cX0_findRanks 8 = .ok (.iconst 0, 1) := by decide +kernel
theorem dX0_findRanks_9 : decode cX0_findRanks 9 = .ok (.istore_n 1, 1) := by decide +kernel
theorem dX0_findRanks_10 : decode cX0_findRanks 10 = .ok (.iload_n 1, 1) := by decide +kernel
theorem dX0_findRanks_11 : decode cX0_findRanks 11 = .ok (.bipush 9, 2) := by decide +kernel
theorem dX0_findRanks_13 : decode cX0_findRanks 13 = .ok (.if_icmp .gt 87, 3) := by decide +kernel
theorem dX0_findRanks_16 : decode cX0_findRanks 16 = .ok (.iconst 0, 1) := by decide +kernel
theorem dX0_findRanks_17 : decode cX0_findRanks 17 = .ok (.istore_n 2, 1) := by decide +kernel
theorem dX0_findRanks_18 : decode cX0_findRanks 18 = .ok (.iconst 0, 1) := by decide +kernel
theorem dX0_findRanks_19 : decode cX0_findRanks 19 = .ok (.istore_n 3, 1) := by decide +kernel
theorem dX0_findRanks_20 : decode cX0_findRanks 20 = .ok (.iload_n 3, 1) := by decide +kernel
theorem dX0_findRanks_21 : decode cX0_findRanks 21 = .ok (.bipush 20, 2) := by decide +kernel
theorem dX0_findRanks_23 : decode cX0_findRanks 23 = .ok (.if_icmp .ge 65, 3) := by decide +kernel
theorem dX0_findRanks_26 : decode cX0_findRanks 26 = .ok (.aload_n 0, 1) := by decide +kernel
theorem dX0_findRanks_27 : decode cX0_findRanks 27 = .ok (.iload_n 3, 1) := by decide +kernel
theorem dX0_findRanks_28 : decode cX0_findRanks 28 = .ok (.invokevirtual 60, 3) := by decide +kernel
theorem dX0_findRanks_31 : decode cX0_findRanks 31 = .ok (.ifCond .eq 17, 3) := by decide +kernel
theorem dX0_findRanks_34 : decode cX0_findRanks 34 = .ok (.iconst 1, 1) := by decide +kernel
theorem dX0_findRanks_35 : decode cX0_findRanks 35 = .ok (.aload_n 0, 1) := by decide +kernel
theorem dX0_findRanks_36 : decode cX0_findRanks 36 = .ok (.aload_n 0, 1) := by decide +kernel
theorem dX0_findRanks_37 : decode cX0_findRanks 37 = .ok (.iload_n 3, 1) := by decide +kernel
theorem dX0_findRanks_38 : decode cX0_findRanks 38 = .ok (.invokevirtual 100, 3) := by decide +kernel
theorem dX0_findRanks_41 : decode cX0_findRanks 41 = .ok (.invokevirtual 103, 3) := by decide +kernel
theorem dX0_findRanks_44 : decode cX0_findRanks 44 = .ok (.iadd, 1) := by decide +kernel
theorem dX0_findRanks_45 : decode cX0_findRanks 45 = .ok (.goto 4, 3) := by decide +kernel
theorem dX0_findRanks_48 : decode cX0_findRanks 48 = .ok (.iconst 0, 1) := by decide +kernel
theorem dX0_findRanks_49 : decode cX0_findRanks 49 = .ok (.istore 4, 2) := by decide +kernel
theorem dX0_findRanks_51 : decode cX0_findRanks 51 = .ok (.iload 4, 2) := by decide +kernel
theorem dX0_findRanks_53 : decode cX0_findRanks 53 = .ok (.bipush 8, 2) := by decide +kernel
theorem dX0_findRanks_55 : decode cX0_findRanks 55 = .ok (.if_icmp .le 5, 3) := by decide +kernel
theorem dX0_findRanks_58 : decode cX0_findRanks 58 = .ok (.iconst 0, 1) := by decide +kernel
theorem dX0_findRanks_59 : decode cX0_findRanks 59 = .ok (.ireturn, 1) := by decide +kernel
theorem dX0_findRanks_60 : decode cX0_findRanks 60 = .ok (.iload 4, 2) := by decide +kernel
theorem dX0_findRanks_62 : decode cX0_findRanks 62 = .ok (.aload_n 0, 1) := by decide +kernel
theorem dX0_findRanks_63 : decode cX0_findRanks 63 = .ok (.iload_n 3, 1) := by decide +kernel
theorem dX0_findRanks_64 : decode cX0_findRanks 64 = .ok (.invokevirtual 64, 3) := by decide +kernel
theorem dX0_findRanks_67 : decode cX0_findRanks 67 = .ok (.if_icmp .eq 15, 3) := by decide +kernel
theorem dX0_findRanks_70 : decode cX0_findRanks 70 = .ok (.aload_n 0, 1) := by decide +kernel
theorem dX0_findRanks_71 : decode cX0_findRanks 71 = .ok (.getfield 33, 3) := by decide +kernel
theorem dX0_findRanks_74 : decode cX0_findRanks 74 = .ok (.iload_n 3, 1) := by decide +kernel
theorem dX0_findRanks_75 : decode cX0_findRanks 75 = .ok (.iload 4, 2) := by decide +kernel
theorem dX0_findRanks_77 : decode cX0_findRanks 77 = .ok (.invokestatic 82, 3) := by decide +kernel
theorem dX0_findRanks_80 : decode cX0_findRanks 80 = .ok (.iconst 1, 1) := by decide +kernel
theorem dX0_findRanks_81 : decode cX0_findRanks 81 = .ok (.istore_n 2, 1) := by decide +kernel
theorem dX0_findRanks_82 : decode cX0_findRanks 82 = .ok (.iinc 3 1, 3) := by decide +kernel
theorem dX0_findRanks_85 : decode cX0_findRanks 85 = .ok (.goto (-65), 3) := by decide +kernel
theorem dX0_findRanks_88 : decode cX0_findRanks 88 = .ok (.iload_n 2, 1) := by decide +kernel
theorem dX0_findRanks_89 : decode cX0_findRanks 89 = .ok (.ifCond .ne 5, 3) := by decide +kernel
theorem dX0_findRanks_92 : decode cX0_findRanks 92 = .ok (.iconst 1, 1) := by decide +kernel
theorem dX0_findRanks_93 : decode cX0_findRanks 93 = .ok (.ireturn, 1) := by decide +kernel
theorem dX0_findRanks_94 : decode cX0_findRanks 94 = .ok (.iinc 1 1, 3) := by decide +kernel
theorem dX0_findRanks_97 : decode cX0_findRanks 97 = .ok (.goto (-87), 3) := by decide +kernel
theorem dX0_findRanks_100 : decode cX0_findRanks 100 = .ok (.iconst 0, 1) := by decide +kernel
theorem dX0_findRanks_101 : decode cX0_findRanks 101 = .ok (.ireturn, 1) := by decide +kernel
set_option maxRecDepth 20000 in
theorem ggX0_greatestRankIn_X6_hasBit : GoodIn wsX0_greatestRankIn wsX6_hasBit := goodIn_r _ [7] (by decide +kernel) (by decide +kernel)
set_option maxRecDepth 20000 in
theorem gX0_greatestRankIn_X6_hasBit_n106 : GoodIn wsX0_greatestRankIn (wsX6_hasBit) := ggX0_greatestRankIn_X6_hasBit
set_option maxRecDepth 20000 in
theorem ggX0_greatestRankIn_X0_rankOf : GoodIn wsX0_greatestRankIn wsX0_rankOf := goodIn_r _ [12, 13, 14, 6, 15, 16, 17, 18, 19, 20, 21, 22, 23] (by decide +kernel) (by decide +kernel)
set_option maxRecDepth 20000 in
theorem gX0_greatestRankIn_X0_rankOf : GoodIn wsX0_greatestRankIn (wsV RX0 64 RX0 yX0_rankOf wsX0_rankOf) := goodIn_app (goodIn_of _ (by decide +kernel)) ggX0_greatestRankIn_X0_rankOf
theorem dX0_greatestRankIn_0 : decode cX0_greatestRankIn 0 = .ok (.iconst 0, 1) := by decide +kernel
theorem dX0_greatestRankIn_1 : decode cX0_greatestRankIn 1 = .ok (.istore_n 2, 1) := by decide +kernel
theorem dX0_greatestRankIn_2 : decode cX0_greatestRankIn 2 = .ok (.iconst 0, 1) := by decide +kernel
theorem dX0_greatestRankIn_3 : decode cX0_greatestRankIn 3 = .ok (.istore_n 3, 1) := by decide +kernel
theorem dX0_greatestRankIn_4 : decode cX0_greatestRankIn 4 = .ok (.iload_n 3, 1) := by decide +kernel
theorem dX0_greatestRankIn_5 : decode cX0_greatestRankIn 5 = .ok (.bipush 20, 2) := by decide +kernel
theorem dX0_greatestRankIn_7 : decode cX0_greatestRankIn 7 = .ok (.if_icmp .ge 27, 3) := by decide +kernel
theorem dX0_greatestRankIn_10 : decode cX0_greatestRankIn 10 = .ok (.iload_n 1, 1) := by decide +kernel
theorem dX0_greatestRankIn_11 : decode cX0_greatestRankIn 11 = .ok (.iload_n 3, 1) := by decide +kernel
theorem dX0_greatestRankIn_12 : decode cX0_greatestRankIn 12 = .ok (.invokestatic 106, 3) := by decide +kernel
theorem dX0_greatestRankIn_15 : decode cX0_greatestRankIn 15 = .ok (.ifCond .eq 13, 3) := by decide +kernel
theorem dX0_greatestRankIn_18 : decode cX0_greatestRankIn 18 = .ok (.iload_n 2, 1) := by decide +kernel
theorem dX0_greatestRankIn_19 : decode cX0_greatestRankIn 19 = .ok (.aload_n 0, 1) := by decide +kernel
theorem dX0_greatestRankIn_20 : decode cX0_greatestRankIn 20 = .ok (.iload_n 3, 1) := by decide +kernel
theorem dX0_greatestRankIn_21 : decode cX0_greatestRankIn 21 = .ok (.invokevirtual 64, 3) := by decide +kernel
theorem dX0_greatestRankIn_24 : decode cX0_greatestRankIn 24 = .ok (.invokestatic 67, 3) := by decide +kernel
theorem dX0_greatestRankIn_27 : decode cX0_greatestRankIn 27 = .ok (.istore_n 2, 1) := by decide +kernel
theorem dX0_greatestRankIn_28 : decode cX0_greatestRankIn 28 = .ok (.iinc 3 1, 3) := by decide +kernel
theorem dX0_greatestRankIn_31 : decode cX0_greatestRankIn 31 = .ok (.goto (-27), 3) := by decide +kernel
theorem dX0_greatestRankIn_34 : decode cX0_greatestRankIn 34 = .ok (.iload_n 2, 1) := by decide +kernel
theorem dX0_greatestRankIn_35 : decode cX0_greatestRankIn 35 = .ok (.ireturn, 1) := by decide +kernel
set_option maxRecDepth 20000 in
theorem ggX0_needsOf_X0_ingredientsOf : GoodIn wsX0_needsOf wsX0_ingredientsOf := goodIn_r _ [5, 6, 7, 8, 9, 25, 26, 27, 28, 29, 30, 31, 32] (by decide +kernel) (by decide +kernel)
set_option maxRecDepth 20000 in
theorem gX0_needsOf_X0_ingredientsOf : GoodIn wsX0_needsOf (wsV RX0 110 RX0 yX0_ingredientsOf wsX0_ingredientsOf) := goodIn_app (goodIn_of _ (by decide +kernel)) ggX0_needsOf_X0_ingredientsOf
set_option maxRecDepth 20000 in
theorem ggX0_needsOf_X0_ingredientAt : GoodIn wsX0_needsOf wsX0_ingredientAt := goodIn_r _ [13, 14, 7, 8, 9, 25, 26, 27, 28, 29, 30, 31, 32] (by decide +kernel) (by decide +kernel)
set_option maxRecDepth 20000 in
theorem gX0_needsOf_X0_ingredientAt : GoodIn wsX0_needsOf (wsV RX0 113 RX0 yX0_ingredientAt wsX0_ingredientAt) := goodIn_app (goodIn_of _ (by decide +kernel)) ggX0_needsOf_X0_ingredientAt
set_option maxRecDepth 20000 in
theorem ggX0_needsOf_X0_substitutesOf : GoodIn wsX0_needsOf wsX0_substitutesOf := goodIn_r _ [18, 19, 7, 8, 9, 25, 26, 27, 28, 29, 30, 31, 32] (by decide +kernel) (by decide +kernel)
set_option maxRecDepth 20000 in
theorem gX0_needsOf_X0_substitutesOf : GoodIn wsX0_needsOf (wsV RX0 91 RX0 yX0_substitutesOf wsX0_substitutesOf) := goodIn_app (goodIn_of _ (by decide +kernel)) ggX0_needsOf_X0_substitutesOf
set_option maxRecDepth 20000 in
theorem ggX0_needsOf_X0_substituteAt : GoodIn wsX0_needsOf wsX0_substituteAt := goodIn_r _ [23, 24, 7, 8, 9, 25, 26, 27, 28, 29, 30, 31, 32] (by decide +kernel) (by decide +kernel)
set_option maxRecDepth 20000 in
theorem gX0_needsOf_X0_substituteAt : GoodIn wsX0_needsOf (wsV RX0 94 RX0 yX0_substituteAt wsX0_substituteAt) := goodIn_app (goodIn_of _ (by decide +kernel)) ggX0_needsOf_X0_substituteAt
theorem dX0_needsOf_0 : decode cX0_needsOf 0 = .ok (.iconst 0, 1) := by decide +kernel
theorem dX0_needsOf_1 : decode cX0_needsOf 1 = .ok (.istore_n 2, 1) := by decide +kernel
theorem dX0_needsOf_2 : decode cX0_needsOf 2 = .ok (.aload_n 0, 1) := by decide +kernel
theorem dX0_needsOf_3 : decode cX0_needsOf 3 = .ok (.iload_n 1, 1) := by decide +kernel
theorem dX0_needsOf_4 : decode cX0_needsOf 4 = .ok (.invokevirtual 110, 3) := by decide +kernel
theorem dX0_needsOf_7 : decode cX0_needsOf 7 = .ok (.istore_n 3, 1) := by decide +kernel
theorem dX0_needsOf_8 : decode cX0_needsOf 8 = .ok (.iconst 0, 1) := by decide +kernel
theorem dX0_needsOf_9 : decode cX0_needsOf 9 = .ok (.istore 4, 2) := by decide +kernel
theorem dX0_needsOf_11 : decode cX0_needsOf 11 = .ok (.iload 4, 2) := by decide +kernel
theorem dX0_needsOf_13 : decode cX0_needsOf 13 = .ok (.iload_n 3, 1) := by decide +kernel
theorem dX0_needsOf_14 : decode cX0_needsOf 14 = .ok (.if_icmp .ge 62, 3) := by decide +kernel
theorem dX0_needsOf_17 : decode cX0_needsOf 17 = .ok (.aload_n 0, 1) := by decide +kernel
theorem dX0_needsOf_18 : decode cX0_needsOf 18 = .ok (.iload_n 1, 1) := by decide +kernel
theorem dX0_needsOf_19 : decode cX0_needsOf 19 = .ok (.iload 4, 2) := by decide +kernel
theorem dX0_needsOf_21 : decode cX0_needsOf 21 = .ok (.invokevirtual 113, 3) := by decide +kernel
theorem dX0_needsOf_24 : decode cX0_needsOf 24 = .ok (.istore 5, 2) := by decide +kernel
theorem dX0_needsOf_26 : decode cX0_needsOf 26 = .ok (.iload_n 2, 1) := by decide +kernel
theorem dX0_needsOf_27 : decode cX0_needsOf 27 = .ok (.iconst 1, 1) := by decide +kernel
theorem dX0_needsOf_28 : decode cX0_needsOf 28 = .ok (.iload 5, 2) := by decide +kernel
theorem dX0_needsOf_30 : decode cX0_needsOf 30 = .ok (.ishl, 1) := by decide +kernel
theorem dX0_needsOf_31 : decode cX0_needsOf 31 = .ok (.ior, 1) := by decide +kernel
theorem dX0_needsOf_32 : decode cX0_needsOf 32 = .ok (.istore_n 2, 1) := by decide +kernel
theorem dX0_needsOf_33 : decode cX0_needsOf 33 = .ok (.aload_n 0, 1) := by decide +kernel
theorem dX0_needsOf_34 : decode cX0_needsOf 34 = .ok (.iload 5, 2) := by decide +kernel
theorem dX0_needsOf_36 : decode cX0_needsOf 36 = .ok (.invokevirtual 91, 3) := by decide +kernel
theorem dX0_needsOf_39 : decode cX0_needsOf 39 = .ok (.istore 6, 2) := by decide +kernel
theorem dX0_needsOf_41 : decode cX0_needsOf 41 = .ok (.iconst 0, 1) := by decide +kernel
theorem dX0_needsOf_42 : decode cX0_needsOf 42 = .ok (.istore 7, 2) := by decide +kernel
theorem dX0_needsOf_44 : decode cX0_needsOf 44 = .ok (.iload 7, 2) := by decide +kernel
theorem dX0_needsOf_46 : decode cX0_needsOf 46 = .ok (.iload 6, 2) := by decide +kernel
theorem dX0_needsOf_48 : decode cX0_needsOf 48 = .ok (.if_icmp .ge 22, 3) := by decide +kernel
theorem dX0_needsOf_51 : decode cX0_needsOf 51 = .ok (.iload_n 2, 1) := by decide +kernel
theorem dX0_needsOf_52 : decode cX0_needsOf 52 = .ok (.iconst 1, 1) := by decide +kernel
theorem dX0_needsOf_53 : decode cX0_needsOf 53 = .ok (.aload_n 0, 1) := by decide +kernel
theorem dX0_needsOf_54 : decode cX0_needsOf 54 = .ok (.iload 5, 2) := by decide +kernel
theorem dX0_needsOf_56 : decode cX0_needsOf 56 = .ok (.iload 7, 2) := by decide +kernel
theorem dX0_needsOf_58 : decode cX0_needsOf 58 = .ok (.invokevirtual 94, 3) := by decide +kernel
theorem dX0_needsOf_61 : decode cX0_needsOf 61 = .ok (.ishl, 1) := by decide +kernel
theorem dX0_needsOf_62 : decode cX0_needsOf 62 = .ok (.ior, 1) := by decide +kernel
theorem dX0_needsOf_63 : decode cX0_needsOf 63 = .ok (.istore_n 2, 1) := by decide +kernel
theorem dX0_needsOf_64 : decode cX0_needsOf 64 = .ok (.iinc 7 1, 3) := by decide +kernel
theorem dX0_needsOf_67 : decode cX0_needsOf 67 = .ok (.goto (-23), 3) := by decide +kernel
theorem dX0_needsOf_70 : decode cX0_needsOf 70 = .ok (.iinc 4 1, 3) := by decide +kernel
theorem dX0_needsOf_73 : decode cX0_needsOf 73 = .ok (.goto (-62), 3) := by decide +kernel
theorem dX0_needsOf_76 : decode cX0_needsOf 76 = .ok (.iload_n 2, 1) := by decide +kernel
theorem dX0_needsOf_77 : decode cX0_needsOf 77 = .ok (.ireturn, 1) := by decide +kernel
set_option maxRecDepth 20000 in
theorem ggX0_allNeedsOf_X0_needsOf : GoodIn wsX0_allNeedsOf wsX0_needsOf := goodIn_r _ [5, 6, 7, 8, 4, 9, 10, 11, 12, 13, 14, 15, 16, 17, 18, 19, 20, 21, 22, 23, 24, 25, 26, 27, 28, 31, 32, 33, 34, 35, 36, 37, 38] (by decide +kernel) (by decide +kernel)
set_option maxRecDepth 20000 in
theorem gX0_allNeedsOf_X0_needsOf : GoodIn wsX0_allNeedsOf (wsV RX0 100 RX0 yX0_needsOf wsX0_needsOf) := goodIn_app (goodIn_of _ (by decide +kernel)) ggX0_allNeedsOf_X0_needsOf
set_option maxRecDepth 20000 in
theorem ggX0_allNeedsOf_X6_hasBit : GoodIn wsX0_allNeedsOf wsX6_hasBit := goodIn_r _ [30] (by decide +kernel) (by decide +kernel)
set_option maxRecDepth 20000 in
theorem gX0_allNeedsOf_X6_hasBit_n106 : GoodIn wsX0_allNeedsOf (wsX6_hasBit) := ggX0_allNeedsOf_X6_hasBit
theorem dX0_allNeedsOf_0 : decode cX0_allNeedsOf 0 = .ok (.aload_n 0, 1) := by decide +kernel
theorem dX0_allNeedsOf_1 : decode cX0_allNeedsOf 1 = .ok (.iload_n 1, 1) := by decide +kernel
theorem dX0_allNeedsOf_2 : decode cX0_allNeedsOf 2 = .ok (.invokevirtual 100, 3) := by decide +kernel
theorem dX0_allNeedsOf_5 : decode cX0_allNeedsOf 5 = .ok (.istore_n 2, 1) := by decide +kernel
theorem dX0_allNeedsOf_6 : decode cX0_allNeedsOf 6 = .ok (.iconst 0, 1) := by decide +kernel
theorem dX0_allNeedsOf_7 : decode cX0_allNeedsOf 7 = .ok (.istore_n 3, 1) := by decide +kernel
theorem dX0_allNeedsOf_8 : decode cX0_allNeedsOf 8 = .ok (.iload_n 3, 1) := by decide +kernel
theorem dX0_allNeedsOf_9 : decode cX0_allNeedsOf 9 = .ok (.bipush 20, 2) := by decide +kernel
theorem dX0_allNeedsOf_11 : decode cX0_allNeedsOf 11 = .ok (.if_icmp .ge 59, 3) := by decide +kernel
theorem dX0_allNeedsOf_14 : decode cX0_allNeedsOf 14 = .ok (.iload_n 2, 1) := by decide +kernel
theorem dX0_allNeedsOf_15 : decode cX0_allNeedsOf 15 = .ok (.istore 4, 2) := by decide +kernel
theorem dX0_allNeedsOf_17 : decode cX0_allNeedsOf 17 = .ok (.iconst 0, 1) := by decide +kernel
theorem dX0_allNeedsOf_18 : decode cX0_allNeedsOf 18 = .ok (.istore 5, 2) := by decide +kernel
theorem dX0_allNeedsOf_20 : decode cX0_allNeedsOf 20 = .ok (.iload 5, 2) := by decide +kernel
theorem dX0_allNeedsOf_22 : decode cX0_allNeedsOf 22 = .ok (.bipush 20, 2) := by decide +kernel
theorem dX0_allNeedsOf_24 : decode cX0_allNeedsOf 24 = .ok (.if_icmp .ge 29, 3) := by decide +kernel
theorem dX0_allNeedsOf_27 : decode cX0_allNeedsOf 27 = .ok (.iload_n 2, 1) := by decide +kernel
theorem dX0_allNeedsOf_28 : decode cX0_allNeedsOf 28 = .ok (.iload 5, 2) := by decide +kernel
theorem dX0_allNeedsOf_30 : decode cX0_allNeedsOf 30 = .ok (.invokestatic 106, 3) := by decide +kernel
theorem dX0_allNeedsOf_33 : decode cX0_allNeedsOf 33 = .ok (.ifCond .eq 14, 3) := by decide +kernel
theorem dX0_allNeedsOf_36 : decode cX0_allNeedsOf 36 = .ok (.iload 4, 2) := by decide +kernel
theorem dX0_allNeedsOf_38 : decode cX0_allNeedsOf 38 = .ok (.aload_n 0, 1) := by decide +kernel
theorem dX0_allNeedsOf_39 : decode cX0_allNeedsOf 39 = .ok (.iload 5, 2) := by decide +kernel
theorem dX0_allNeedsOf_41 : decode cX0_allNeedsOf 41 = .ok (.invokevirtual 100, 3) := by decide +kernel
theorem dX0_allNeedsOf_44 : decode cX0_allNeedsOf 44 = .ok (.ior, 1) := by decide +kernel
theorem dX0_allNeedsOf_45 : decode cX0_allNeedsOf 45 = .ok (.istore 4, 2) := by decide +kernel
theorem dX0_allNeedsOf_47 : decode cX0_allNeedsOf 47 = .ok (.iinc 5 1, 3) := by decide +kernel
theorem dX0_allNeedsOf_50 : decode cX0_allNeedsOf 50 = .ok (.goto (-30), 3) := by decide +kernel
theorem dX0_allNeedsOf_53 : decode cX0_allNeedsOf 53 = .ok (.iload 4, 2) := by decide +kernel
theorem dX0_allNeedsOf_55 : decode cX0_allNeedsOf 55 = .ok (.iload_n 2, 1) := by decide +kernel
theorem dX0_allNeedsOf_56 : decode cX0_allNeedsOf 56 = .ok (.if_icmp .ne 5, 3) := by decide +kernel
theorem dX0_allNeedsOf_59 : decode cX0_allNeedsOf 59 = .ok (.iload_n 2, 1) := by decide +kernel
theorem dX0_allNeedsOf_60 : decode cX0_allNeedsOf 60 = .ok (.ireturn, 1) := by decide +kernel
theorem dX0_allNeedsOf_61 : decode cX0_allNeedsOf 61 = .ok (.iload 4, 2) := by decide +kernel
theorem dX0_allNeedsOf_63 : decode cX0_allNeedsOf 63 = .ok (.istore_n 2, 1) := by decide +kernel
theorem dX0_allNeedsOf_64 : decode cX0_allNeedsOf 64 = .ok (.iinc 3 1, 3) := by decide +kernel
theorem dX0_allNeedsOf_67 : decode cX0_allNeedsOf 67 = .ok (.goto (-59), 3) := by decide +kernel
theorem dX0_allNeedsOf_70 : decode cX0_allNeedsOf 70 = .ok (.iload_n 2, 1) := by decide +kernel
theorem dX0_allNeedsOf_71 : decode cX0_allNeedsOf 71 = .ok (.ireturn, 1) := by decide +kernel
theorem dX1_init_0 : decode cX1_init 0 = .ok (.aload_n 0, 1) := by decide +kernel
theorem dX1_init_1 : decode cX1_init 1 = .ok (.invokespecial 3, 3) := by decide +kernel
theorem dX1_init_4 : decode cX1_init 4 = .ok (.aload_n 0, 1) := by decide +kernel
theorem dX1_init_5 : decode cX1_init 5 = .ok (.bipush 8, 2) := by decide +kernel
theorem dX1_init_7 : decode cX1_init 7 = .ok (.anewarray 9, 3) := by decide +kernel
theorem dX1_init_10 : decode cX1_init 10 = .ok (.putfield 11, 3) := by decide +kernel
theorem dX1_init_13 : decode cX1_init 13 = .ok (.return_, 1) := by decide +kernel
theorem dX1_size_0 : decode cX1_size 0 = .ok (.aload_n 0, 1) := by decide +kernel
theorem dX1_size_1 : decode cX1_size 1 = .ok (.getfield 17, 3) := by decide +kernel
theorem dX1_size_4 : decode cX1_size 4 = .ok (.ireturn, 1) := by decide +kernel
set_option maxRecDepth 20000 in
theorem ggX1_remember_X1_placeOf : GoodIn wsX1_remember wsX1_placeOf := goodIn_r _ [8, 2, 9, 10, 11, 12, 84, 85, 86] (by decide +kernel) (by decide +kernel)
set_option maxRecDepth 20000 in
theorem gX1_remember_X1_placeOf : GoodIn wsX1_remember (wsV RX1 21 RX1 yX1_placeOf wsX1_placeOf) := goodIn_app (goodIn_of _ (by decide +kernel)) ggX1_remember_X1_placeOf
set_option maxRecDepth 20000 in
theorem ggX1_remember_X6_roomAt : GoodIn wsX1_remember wsX6_roomAt := goodIn_r _ [15, 16, 17, 18, 19, 20, 14, 21, 22, 23, 24, 25, 26, 27, 28, 29, 30, 31, 32, 33, 34, 35, 36, 37, 38, 39, 40, 41, 42, 43, 44, 45, 46, 47, 48, 49, 50, 51, 52, 53, 54, 55, 56, 57, 58, 59, 60, 87, 88, 89, 90, 91, 92, 93, 94, 95, 96, 97, 98, 99, 100, 101, 102, 103] (by decide +kernel) (by decide +kernel)
set_option maxRecDepth 20000 in
theorem gX1_remember_X6_roomAt_n28 : GoodIn wsX1_remember (wsX6_roomAt) := ggX1_remember_X6_roomAt
set_option maxRecDepth 20000 in
theorem ggX1_remember_X3_hold : GoodIn wsX1_remember wsX3_hold := goodIn_r _ [64, 30, 34, 65, 66, 67, 29, 68, 40, 41, 42, 43, 44, 45, 46, 47, 69, 14, 70, 71, 72, 73, 74, 75, 76, 77, 78, 79, 80, 81, 33, 82, 55, 56, 57, 58, 59, 60, 83, 87, 88, 89, 90, 91, 92, 93, 94, 95, 96, 97, 98, 99, 100, 101, 102, 103] (by decide +kernel) (by decide +kernel)
set_option maxRecDepth 20000 in
theorem gX1_remember_X3_hold : GoodIn wsX1_remember (wsV RX1 32 RX3 yX3_hold wsX3_hold) := goodIn_app (goodIn_of _ (by decide +kernel)) ggX1_remember_X3_hold
theorem dX1_remember_0 : decode cX1_remember 0 = .ok (.aload_n 0, 1) := by decide +kernel
theorem dX1_remember_1 : decode cX1_remember 1 = .ok (.aload_n 0, 1) := by decide +kernel
theorem dX1_remember_2 : decode cX1_remember 2 = .ok (.getfield 17, 3) := by decide +kernel
theorem dX1_remember_5 : decode cX1_remember 5 = .ok (.invokevirtual 21, 3) := by decide +kernel
theorem dX1_remember_8 : decode cX1_remember 8 = .ok (.istore_n 3, 1) := by decide +kernel
theorem dX1_remember_9 : decode cX1_remember 9 = .ok (.aload_n 0, 1) := by decide +kernel
theorem dX1_remember_10 : decode cX1_remember 10 = .ok (.getfield 17, 3) := by decide +kernel
theorem dX1_remember_13 : decode cX1_remember 13 = .ok (.bipush 8, 2) := by decide +kernel
theorem dX1_remember_15 : decode cX1_remember 15 = .ok (.if_icmp .ge 16, 3) := by decide +kernel
theorem dX1_remember_18 : decode cX1_remember 18 = .ok (.aload_n 0, 1) := by decide +kernel
theorem dX1_remember_19 : decode cX1_remember 19 = .ok (.dup, 1) := by decide +kernel
theorem dX1_remember_20 : decode cX1_remember 20 = .ok (.getfield 17, 3) := by decide +kernel
theorem dX1_remember_23 : decode cX1_remember 23 = .ok (.iconst 1, 1) := by decide +kernel
theorem dX1_remember_24 : decode cX1_remember 24 = .ok (.iadd, 1) := by decide +kernel
theorem dX1_remember_25 : decode cX1_remember 25 = .ok (.putfield 17, 3) := by decide +kernel
theorem dX1_remember_28 : decode cX1_remember 28 = .ok (.goto 12, 3) := by decide +kernel
theorem dX1_remember_31 : decode cX1_remember 31 = .ok (.aload_n 0, 1) := by decide +kernel
theorem dX1_remember_32 : decode cX1_remember 32 = .ok (.aload_n 0, 1) := by decide +kernel
theorem dX1_remember_33 : decode cX1_remember 33 = .ok (.iconst 1, 1) := by decide +kernel
theorem dX1_remember_34 : decode cX1_remember 34 = .ok (.invokevirtual 21, 3) := by decide +kernel
theorem dX1_remember_37 : decode cX1_remember 37 = .ok (.putfield 25, 3) := by decide +kernel
theorem dX1_remember_40 : decode cX1_remember 40 = .ok (.aload_n 0, 1) := by decide +kernel
theorem dX1_remember_41 : decode cX1_remember 41 = .ok (.getfield 11, 3) := by decide +kernel
theorem dX1_remember_44 : decode cX1_remember 44 = .ok (.iload_n 3, 1) := by decide +kernel
theorem dX1_remember_45 : decode cX1_remember 45 = .ok (.invokestatic 28, 3) := by decide +kernel
theorem dX1_remember_48 : decode cX1_remember 48 = .ok (.aload_n 1, 1) := by decide +kernel
theorem dX1_remember_49 : decode cX1_remember 49 = .ok (.aload_n 2, 1) := by decide +kernel
theorem dX1_remember_50 : decode cX1_remember 50 = .ok (.invokevirtual 32, 3) := by decide +kernel
theorem dX1_remember_53 : decode cX1_remember 53 = .ok (.return_, 1) := by decide +kernel
set_option maxRecDepth 20000 in
theorem ggX1_restore_X1_placeOf : GoodIn wsX1_restore wsX1_placeOf := goodIn_r _ [7, 8, 9, 10, 11, 12, 58, 59, 60] (by decide +kernel) (by decide +kernel)
set_option maxRecDepth 20000 in
theorem gX1_restore_X1_placeOf : GoodIn wsX1_restore (wsV RX1 21 RX1 yX1_placeOf wsX1_placeOf) := goodIn_app (goodIn_of _ (by decide +kernel)) ggX1_restore_X1_placeOf
set_option maxRecDepth 20000 in
theorem ggX1_restore_X6_stateAt : GoodIn wsX1_restore wsX6_stateAt := goodIn_r _ [15] (by decide +kernel) (by decide +kernel)
set_option maxRecDepth 20000 in
theorem gX1_restore_X6_stateAt_n36 : GoodIn wsX1_restore (wsX6_stateAt) := ggX1_restore_X6_stateAt
set_option maxRecDepth 20000 in
theorem ggX1_restore_X3_layOut : GoodIn wsX1_restore wsX3_layOut := goodIn_r _ [20, 21, 22, 23, 24, 25, 26, 27, 28, 29, 30, 31, 32, 33, 34, 35, 36, 14, 37, 38, 39, 40, 41, 42, 43, 44, 45, 46, 47, 48, 49, 50, 51, 52, 53, 54, 55, 56, 57, 61, 62, 63, 64, 65, 66, 67, 68, 69, 70, 71, 72, 73, 74, 75, 76, 77] (by decide +kernel) (by decide +kernel)
set_option maxRecDepth 20000 in
theorem gX1_restore_X3_layOut : GoodIn wsX1_restore (wsV RX1 39 RX3 yX3_layOut wsX3_layOut) := goodIn_app (goodIn_of _ (by decide +kernel)) ggX1_restore_X3_layOut
theorem dX1_restore_0 : decode cX1_restore 0 = .ok (.aload_n 0, 1) := by decide +kernel
theorem dX1_restore_1 : decode cX1_restore 1 = .ok (.getfield 17, 3) := by decide +kernel
theorem dX1_restore_4 : decode cX1_restore 4 = .ok (.iconst 1, 1) := by decide +kernel
theorem dX1_restore_5 : decode cX1_restore 5 = .ok (.if_icmp .ge 4, 3) := by decide +kernel
theorem dX1_restore_8 : decode cX1_restore 8 = .ok (.return_, 1) := by decide +kernel
theorem dX1_restore_9 : decode cX1_restore 9 = .ok (.aload_n 0, 1) := by decide +kernel
theorem dX1_restore_10 : decode cX1_restore 10 = .ok (.dup, 1) := by decide +kernel
theorem dX1_restore_11 : decode cX1_restore 11 = .ok (.getfield 17, 3) := by decide +kernel
theorem dX1_restore_14 : decode cX1_restore 14 = .ok (.iconst 1, 1) := by decide +kernel
theorem dX1_restore_15 : decode cX1_restore 15 = .ok (.isub, 1) := by decide +kernel
theorem dX1_restore_16 : decode cX1_restore 16 = .ok (.putfield 17, 3) := by decide +kernel
theorem dX1_restore_19 : decode cX1_restore 19 = .ok (.aload_n 0, 1) := by decide +kernel
theorem dX1_restore_20 : decode cX1_restore 20 = .ok (.getfield 11, 3) := by decide +kernel
theorem dX1_restore_23 : decode cX1_restore 23 = .ok (.aload_n 0, 1) := by decide +kernel
theorem dX1_restore_24 : decode cX1_restore 24 = .ok (.aload_n 0, 1) := by decide +kernel
theorem dX1_restore_25 : decode cX1_restore 25 = .ok (.getfield 17, 3) := by decide +kernel
theorem dX1_restore_28 : decode cX1_restore 28 = .ok (.invokevirtual 21, 3) := by decide +kernel
theorem dX1_restore_31 : decode cX1_restore 31 = .ok (.invokestatic 36, 3) := by decide +kernel
theorem dX1_restore_34 : decode cX1_restore 34 = .ok (.astore_n 3, 1) := by decide +kernel
theorem dX1_restore_35 : decode cX1_restore 35 = .ok (.aload_n 3, 1) := by decide +kernel
theorem dX1_restore_36 : decode cX1_restore 36 = .ok (.ifnull 9, 3) := by decide +kernel
theorem dX1_restore_39 : decode cX1_restore 39 = .ok (.aload_n 3, 1) := by decide +kernel
theorem dX1_restore_40 : decode cX1_restore 40 = .ok (.aload_n 1, 1) := by decide +kernel
theorem dX1_restore_41 : decode cX1_restore 41 = .ok (.aload_n 2, 1) := by decide +kernel
theorem dX1_restore_42 : decode cX1_restore 42 = .ok (.invokevirtual 39, 3) := by decide +kernel
theorem dX1_restore_45 : decode cX1_restore 45 = .ok (.return_, 1) := by decide +kernel
set_option maxRecDepth 20000 in
theorem ggX1_placeOf_J9_floorMod_7cf53 : GoodIn wsX1_placeOf wsJ9_floorMod_7cf53 := goodIn_r _ [5] (by decide +kernel) (by decide +kernel)
set_option maxRecDepth 20000 in
theorem gX1_placeOf_J9_floorMod_7cf53 : GoodIn wsX1_placeOf (va_wsS RX1 42 yJ9_floorMod_7cf53 wsJ9_floorMod_7cf53) := goodIn_app (goodIn_of _ (by decide +kernel)) ggX1_placeOf_J9_floorMod_7cf53
theorem dX1_placeOf_0 : decode cX1_placeOf 0 = .ok (.aload_n 0, 1) := by decide +kernel
theorem dX1_placeOf_1 : decode cX1_placeOf 1 = .ok (.getfield 25, 3) := by decide +kernel
theorem dX1_placeOf_4 : decode cX1_placeOf 4 = .ok (.iload_n 1, 1) := by decide +kernel
theorem dX1_placeOf_5 : decode cX1_placeOf 5 = .ok (.iadd, 1) := by decide +kernel
theorem dX1_placeOf_6 : decode cX1_placeOf 6 = .ok (.bipush 8, 2) := by decide +kernel
theorem dX1_placeOf_8 : decode cX1_placeOf 8 = .ok (.invokestatic 42, 3) := by decide +kernel
theorem dX1_placeOf_11 : decode cX1_placeOf 11 = .ok (.ireturn, 1) := by decide +kernel
theorem dX2_init_0 : decode cX2_init 0 = .ok (.aload_n 0, 1) := by decide +kernel
theorem dX2_init_1 : decode cX2_init 1 = .ok (.invokespecial 3, 3) := by decide +kernel
theorem dX2_init_4 : decode cX2_init 4 = .ok (.aload_n 0, 1) := by decide +kernel
theorem dX2_init_5 : decode cX2_init 5 = .ok (.iconst 5, 1) := by decide +kernel
theorem dX2_init_6 : decode cX2_init 6 = .ok (.newarray .int, 2) := by decide +kernel
theorem dX2_init_8 : decode cX2_init 8 = .ok (.putfield 9, 3) := by decide +kernel
theorem dX2_init_11 : decode cX2_init 11 = .ok (.aload_n 0, 1) := by decide +kernel
theorem dX2_init_12 : decode cX2_init 12 = .ok (.iconst 5, 1) := by decide +kernel
theorem dX2_init_13 : decode cX2_init 13 = .ok (.newarray .int, 2) := by decide +kernel
theorem dX2_init_15 : decode cX2_init 15 = .ok (.putfield 15, 3) := by decide +kernel
theorem dX2_init_18 : decode cX2_init 18 = .ok (.return_, 1) := by decide +kernel
set_option maxRecDepth 20000 in
theorem ggX2_read_X2_readLetter : GoodIn wsX2_read wsX2_readLetter := goodIn_r _ [11, 1, 12, 13, 14, 10, 15, 16, 17, 18, 19, 20, 21, 22, 3, 4, 23, 24, 53, 54, 55, 56, 57, 58, 59, 60] (by decide +kernel) (by decide +kernel)
set_option maxRecDepth 20000 in
theorem gX2_read_X2_readLetter : GoodIn wsX2_read (wsV RX2 31 RX2 yX2_readLetter wsX2_readLetter) := goodIn_app (goodIn_of _ (by decide +kernel)) ggX2_read_X2_readLetter
set_option maxRecDepth 20000 in
theorem ggX2_read_X2_readNumber : GoodIn wsX2_read wsX2_readNumber := goodIn_r _ [28, 1, 12, 13, 14, 10, 15, 16, 17, 18, 29, 30, 31, 32, 19, 20, 21, 22, 3, 4, 53, 54, 55, 56, 57, 58, 59, 60] (by decide +kernel) (by decide +kernel)
set_option maxRecDepth 20000 in
theorem gX2_read_X2_readNumber : GoodIn wsX2_read (wsV RX2 38 RX2 yX2_readNumber wsX2_readNumber) := goodIn_app (goodIn_of _ (by decide +kernel)) ggX2_read_X2_readNumber
set_option maxRecDepth 20000 in
theorem ggX2_read_X2_readSign : GoodIn wsX2_read wsX2_readSign := goodIn_r _ [36, 1, 12, 13, 14, 10, 15, 16, 17, 18, 19, 20, 21, 22, 3, 4, 53, 54, 55, 56, 57, 58, 59, 60] (by decide +kernel) (by decide +kernel)
set_option maxRecDepth 20000 in
theorem gX2_read_X2_readSign : GoodIn wsX2_read (wsV RX2 44 RX2 yX2_readSign wsX2_readSign) := goodIn_app (goodIn_of _ (by decide +kernel)) ggX2_read_X2_readSign
set_option maxRecDepth 20000 in
theorem ggX2_read_X2_readIngredient : GoodIn wsX2_read wsX2_readIngredient := goodIn_r _ [40, 3, 2, 1, 41, 42, 25, 26, 27, 10, 28, 12, 13, 14, 15, 16, 17, 18, 29, 30, 31, 32, 19, 20, 21, 22, 4, 7, 8, 9, 11, 23, 24, 43, 44, 45, 46, 47, 48, 53, 54, 55, 56, 57, 58, 59, 60] (by decide +kernel) (by decide +kernel)
set_option maxRecDepth 20000 in
theorem gX2_read_X2_readIngredient : GoodIn wsX2_read (wsV RX2 48 RX2 yX2_readIngredient wsX2_readIngredient) := goodIn_app (goodIn_of _ (by decide +kernel)) ggX2_read_X2_readIngredient
set_option maxRecDepth 20000 in
theorem ggX2_read_X2_isMore : GoodIn wsX2_read wsX2_isMore := goodIn_r _ [52, 3, 1, 12, 13, 14, 10, 15, 16, 17, 18, 53, 54, 55, 56, 57, 58, 59, 60] (by decide +kernel) (by decide +kernel)
set_option maxRecDepth 20000 in
theorem gX2_read_X2_isMore : GoodIn wsX2_read (wsV RX2 52 RX2 yX2_isMore wsX2_isMore) := goodIn_app (goodIn_of _ (by decide +kernel)) ggX2_read_X2_isMore
theorem dX2_read_0 : decode cX2_read 0 = .ok (.aload_n 0, 1) := by decide +kernel
theorem dX2_read_1 : decode cX2_read 1 = .ok (.iconst 0, 1) := by decide +kernel
theorem dX2_read_2 : decode cX2_read 2 = .ok (.putfield 18, 3) := by decide +kernel
theorem dX2_read_5 : decode cX2_read 5 = .ok (.aload_n 0, 1) := by decide +kernel
theorem dX2_read_6 : decode cX2_read 6 = .ok (.iconst 0, 1) := by decide +kernel
theorem dX2_read_7 : decode cX2_read 7 = .ok (.putfield 22, 3) := by decide +kernel
theorem dX2_read_10 : decode cX2_read 10 = .ok (.aload_n 0, 1) := by decide +kernel
theorem dX2_read_11 : decode cX2_read 11 = .ok (.iconst 0, 1) := by decide +kernel
theorem dX2_read_12 : decode cX2_read 12 = .ok (.putfield 25, 3) := by decide +kernel
theorem dX2_read_15 : decode cX2_read 15 = .ok (.aload_n 0, 1) := by decide +kernel
theorem dX2_read_16 : decode cX2_read 16 = .ok (.iconst 0, 1) := by decide +kernel
theorem dX2_read_17 : decode cX2_read 17 = .ok (.putfield 28, 3) := by decide +kernel
theorem dX2_read_20 : decode cX2_read 20 = .ok (.aload_n 0, 1) := by decide +kernel
theorem dX2_read_21 : decode cX2_read 21 = .ok (.aload_n 0, 1) := by decide +kernel
theorem dX2_read_22 : decode cX2_read 22 = .ok (.aload_n 1, 1) := by decide +kernel
theorem dX2_read_23 : decode cX2_read 23 = .ok (.iload_n 2, 1) := by decide +kernel
theorem dX2_read_24 : decode cX2_read 24 = .ok (.invokevirtual 31, 3) := by decide +kernel
theorem dX2_read_27 : decode cX2_read 27 = .ok (.putfield 35, 3) := by decide +kernel
theorem dX2_read_30 : decode cX2_read 30 = .ok (.aload_n 0, 1) := by decide +kernel
theorem dX2_read_31 : decode cX2_read 31 = .ok (.aload_n 0, 1) := by decide +kernel
theorem dX2_read_32 : decode cX2_read 32 = .ok (.aload_n 1, 1) := by decide +kernel
theorem dX2_read_33 : decode cX2_read 33 = .ok (.iload_n 2, 1) := by decide +kernel
theorem dX2_read_34 : decode cX2_read 34 = .ok (.invokevirtual 38, 3) := by decide +kernel
theorem dX2_read_37 : decode cX2_read 37 = .ok (.putfield 41, 3) := by decide +kernel
theorem dX2_read_40 : decode cX2_read 40 = .ok (.aload_n 0, 1) := by decide +kernel
theorem dX2_read_41 : decode cX2_read 41 = .ok (.aload_n 1, 1) := by decide +kernel
theorem dX2_read_42 : decode cX2_read 42 = .ok (.iload_n 2, 1) := by decide +kernel
theorem dX2_read_43 : decode cX2_read 43 = .ok (.bipush 61, 2) := by decide +kernel
theorem dX2_read_45 : decode cX2_read 45 = .ok (.invokevirtual 44, 3) := by decide +kernel
theorem dX2_read_48 : decode cX2_read 48 = .ok (.aload_n 0, 1) := by decide +kernel
theorem dX2_read_49 : decode cX2_read 49 = .ok (.aload_n 1, 1) := by decide +kernel
theorem dX2_read_50 : decode cX2_read 50 = .ok (.iload_n 2, 1) := by decide +kernel
theorem dX2_read_51 : decode cX2_read 51 = .ok (.invokevirtual 48, 3) := by decide +kernel
theorem dX2_read_54 : decode cX2_read 54 = .ok (.iconst 0, 1) := by decide +kernel
theorem dX2_read_55 : decode cX2_read 55 = .ok (.istore_n 3, 1) := by decide +kernel
theorem dX2_read_56 : decode cX2_read 56 = .ok (.iload_n 3, 1) := by decide +kernel
theorem dX2_read_57 : decode cX2_read 57 = .ok (.iconst 5, 1) := by decide +kernel
theorem dX2_read_58 : decode cX2_read 58 = .ok (.if_icmp .ge 32, 3) := by decide +kernel
theorem dX2_read_61 : decode cX2_read 61 = .ok (.aload_n 0, 1) := by decide +kernel
theorem dX2_read_62 : decode cX2_read 62 = .ok (.aload_n 1, 1) := by decide +kernel
theorem dX2_read_63 : decode cX2_read 63 = .ok (.iload_n 2, 1) := by decide +kernel
theorem dX2_read_64 : decode cX2_read 64 = .ok (.invokevirtual 52, 3) := by decide +kernel
theorem dX2_read_67 : decode cX2_read 67 = .ok (.ifCond .eq 23, 3) := by decide +kernel
theorem dX2_read_70 : decode cX2_read 70 = .ok (.aload_n 0, 1) := by decide +kernel
theorem dX2_read_71 : decode cX2_read 71 = .ok (.aload_n 1, 1) := by decide +kernel
theorem dX2_read_72 : decode cX2_read 72 = .ok (.iload_n 2, 1) := by decide +kernel
theorem dX2_read_73 : decode cX2_read 73 = .ok (.bipush 43, 2) := by decide +kernel
theorem dX2_read_75 : decode cX2_read 75 = .ok (.invokevirtual 44, 3) := by decide +kernel
theorem dX2_read_78 : decode cX2_read 78 = .ok (.aload_n 0, 1) := by decide +kernel
theorem dX2_read_79 : decode cX2_read 79 = .ok (.aload_n 1, 1) := by decide +kernel
theorem dX2_read_80 : decode cX2_read 80 = .ok (.iload_n 2, 1) := by decide +kernel
theorem dX2_read_81 : decode cX2_read 81 = .ok (.invokevirtual 48, 3) := by decide +kernel
theorem dX2_read_84 : decode cX2_read 84 = .ok (.iinc 3 1, 3) := by decide +kernel
theorem dX2_read_87 : decode cX2_read 87 = .ok (.goto (-31), 3) := by decide +kernel
theorem dX2_read_90 : decode cX2_read 90 = .ok (.return_, 1) := by decide +kernel
set_option maxRecDepth 20000 in
theorem ggX2_isMore_X2_skipBlanks : GoodIn wsX2_isMore wsX2_skipBlanks := goodIn_r _ [7, 2, 8, 9, 10, 11, 12, 13, 14, 15, 16, 17, 18] (by decide +kernel) (by decide +kernel)
set_option maxRecDepth 20000 in
theorem gX2_isMore_X2_skipBlanks : GoodIn wsX2_isMore (wsV RX2 56 RX2 yX2_skipBlanks wsX2_skipBlanks) := goodIn_app (goodIn_of _ (by decide +kernel)) ggX2_isMore_X2_skipBlanks
theorem dX2_isMore_0 : decode cX2_isMore 0 = .ok (.aload_n 0, 1) := by decide +kernel
theorem dX2_isMore_1 : decode cX2_isMore 1 = .ok (.aload_n 1, 1) := by decide +kernel
theorem dX2_isMore_2 : decode cX2_isMore 2 = .ok (.iload_n 2, 1) := by decide +kernel
theorem dX2_isMore_3 : decode cX2_isMore 3 = .ok (.invokevirtual 56, 3) := by decide +kernel
theorem dX2_isMore_6 : decode cX2_isMore 6 = .ok (.aload_n 0, 1) := by decide +kernel
theorem dX2_isMore_7 : decode cX2_isMore 7 = .ok (.getfield 25, 3) := by decide +kernel
theorem dX2_isMore_10 : decode cX2_isMore 10 = .ok (.ifCond .ne 15, 3) := by decide +kernel
theorem dX2_isMore_13 : decode cX2_isMore 13 = .ok (.aload_n 0, 1) := by decide +kernel
theorem dX2_isMore_14 : decode cX2_isMore 14 = .ok (.getfield 18, 3) := by decide +kernel
theorem dX2_isMore_17 : decode cX2_isMore 17 = .ok (.iload_n 2, 1) := by decide +kernel
theorem dX2_isMore_18 : decode cX2_isMore 18 = .ok (.if_icmp .ge 7, 3) := by decide +kernel
theorem dX2_isMore_21 : decode cX2_isMore 21 = .ok (.iconst 1, 1) := by decide +kernel
theorem dX2_isMore_22 : decode cX2_isMore 22 = .ok (.goto 4, 3) := by decide +kernel
theorem dX2_isMore_25 : decode cX2_isMore 25 = .ok (.iconst 0, 1) := by decide +kernel
theorem dX2_isMore_26 : decode cX2_isMore 26 = .ok (.ireturn, 1) := by decide +kernel
set_option maxRecDepth 20000 in
theorem ggX2_readIngredient_X2_readNumber : GoodIn wsX2_readIngredient wsX2_readNumber := goodIn_r _ [10, 3, 11, 12, 13, 9, 14, 15, 16, 17, 18, 19, 20, 21, 22, 23, 24, 25, 1, 26, 39, 40, 41, 42, 43, 44, 45, 46] (by decide +kernel) (by decide +kernel)
set_option maxRecDepth 20000 in
theorem gX2_readIngredient_X2_readNumber : GoodIn wsX2_readIngredient (wsV RX2 38 RX2 yX2_readNumber wsX2_readNumber) := goodIn_app (goodIn_of _ (by decide +kernel)) ggX2_readIngredient_X2_readNumber
set_option maxRecDepth 20000 in
theorem ggX2_readIngredient_X2_readLetter : GoodIn wsX2_readIngredient wsX2_readLetter := goodIn_r _ [30, 3, 11, 12, 13, 9, 14, 15, 16, 17, 22, 23, 24, 25, 1, 26, 31, 32, 39, 40, 41, 42, 43, 44, 45, 46] (by decide +kernel) (by decide +kernel)
set_option maxRecDepth 20000 in
theorem gX2_readIngredient_X2_readLetter : GoodIn wsX2_readIngredient (wsV RX2 31 RX2 yX2_readLetter wsX2_readLetter) := goodIn_app (goodIn_of _ (by decide +kernel)) ggX2_readIngredient_X2_readLetter
set_option maxRecDepth 20000 in
theorem ggX2_readIngredient_X2_isListed : GoodIn wsX2_readIngredient wsX2_isListed := goodIn_r _ [36, 2, 4, 15, 16, 17, 39, 40, 41, 42, 43, 44, 45, 46] (by decide +kernel) (by decide +kernel)
set_option maxRecDepth 20000 in
theorem gX2_readIngredient_X2_isListed : GoodIn wsX2_readIngredient (wsV RX2 59 RX2 yX2_isListed wsX2_isListed) := goodIn_app (goodIn_of _ (by decide +kernel)) ggX2_readIngredient_X2_isListed
set_option maxRecDepth 20000 in
theorem ggX2_readIngredient_X2_tellFault : GoodIn wsX2_readIngredient wsX2_tellFault := goodIn_r _ [25, 1, 26, 39, 40, 41, 42, 43, 44, 45, 46] (by decide +kernel) (by decide +kernel)
set_option maxRecDepth 20000 in
theorem gX2_readIngredient_X2_tellFault : GoodIn wsX2_readIngredient (wsV RX2 63 RX2 yX2_tellFault wsX2_tellFault) := goodIn_app (goodIn_of _ (by decide +kernel)) ggX2_readIngredient_X2_tellFault
set_option maxRecDepth 20000 in
theorem ggX2_readIngredient_X6_put : GoodIn wsX2_readIngredient wsX6_put := goodIn_r _ [38] (by decide +kernel) (by decide +kernel)
set_option maxRecDepth 20000 in
theorem gX2_readIngredient_X6_put_n67 : GoodIn wsX2_readIngredient (wsX6_put) := ggX2_readIngredient_X6_put
theorem dX2_readIngredient_0 : decode cX2_readIngredient 0 = .ok (.aload_n 0, 1) := by decide +kernel
theorem dX2_readIngredient_1 : decode cX2_readIngredient 1 = .ok (.aload_n 1, 1) := by decide +kernel
theorem dX2_readIngredient_2 : decode cX2_readIngredient 2 = .ok (.iload_n 2, 1) := by decide +kernel
theorem dX2_readIngredient_3 : decode cX2_readIngredient 3 = .ok (.invokevirtual 38, 3) := by decide +kernel
theorem dX2_readIngredient_6 : decode cX2_readIngredient 6 = .ok (.istore_n 3, 1) := by decide +kernel
theorem dX2_readIngredient_7 : decode cX2_readIngredient 7 = .ok (.aload_n 0, 1) := by decide +kernel
theorem dX2_readIngredient_8 : decode cX2_readIngredient 8 = .ok (.aload_n 1, 1) := by decide +kernel
theorem dX2_readIngredient_9 : decode cX2_readIngredient 9 = .ok (.iload_n 2, 1) := by decide +kernel
theorem dX2_readIngredient_10 : decode cX2_readIngredient 10 = .ok (.invokevirtual 31, 3) := by decide +kernel
theorem dX2_readIngredient_13 : decode cX2_readIngredient 13 = .ok (.istore 4, 2) := by decide +kernel
theorem dX2_readIngredient_15 : decode cX2_readIngredient 15 = .ok (.aload_n 0, 1) := by decide +kernel
theorem dX2_readIngredient_16 : decode cX2_readIngredient 16 = .ok (.getfield 25, 3) := by decide +kernel
theorem dX2_readIngredient_19 : decode cX2_readIngredient 19 = .ok (.ifCond .eq 4, 3) := by decide +kernel
theorem dX2_readIngredient_22 : decode cX2_readIngredient 22 = .ok (.return_, 1) := by decide +kernel
theorem dX2_readIngredient_23 : decode cX2_readIngredient 23 = .ok (.aload_n 0, 1) := by decide +kernel
theorem dX2_readIngredient_24 : decode cX2_readIngredient 24 = .ok (.getfield 22, 3) := by decide +kernel
theorem dX2_readIngredient_27 : decode cX2_readIngredient 27 = .ok (.iconst 5, 1) := by decide +kernel
theorem dX2_readIngredient_28 : decode cX2_readIngredient 28 = .ok (.if_icmp .ge 12, 3) := by decide +kernel
theorem dX2_readIngredient_31 : decode cX2_readIngredient 31 = .ok (.aload_n 0, 1) := by decide +kernel
theorem dX2_readIngredient_32 : decode cX2_readIngredient 32 = .ok (.iload 4, 2) := by decide +kernel
theorem dX2_readIngredient_34 : decode cX2_readIngredient 34 = .ok (.invokevirtual 59, 3) := by decide +kernel
theorem dX2_readIngredient_37 : decode cX2_readIngredient 37 = .ok (.ifCond .eq 15, 3) := by decide +kernel
theorem dX2_readIngredient_40 : decode cX2_readIngredient 40 = .ok (.aload_n 0, 1) := by decide +kernel
theorem dX2_readIngredient_41 : decode cX2_readIngredient 41 = .ok (.iconst 3, 1) := by decide +kernel
theorem dX2_readIngredient_42 : decode cX2_readIngredient 42 = .ok (.aload_n 0, 1) := by decide +kernel
theorem dX2_readIngredient_43 : decode cX2_readIngredient 43 = .ok (.getfield 18, 3) := by decide +kernel
theorem dX2_readIngredient_46 : decode cX2_readIngredient 46 = .ok (.iconst 1, 1) := by decide +kernel
theorem dX2_readIngredient_47 : decode cX2_readIngredient 47 = .ok (.isub, 1) := by decide +kernel
theorem dX2_readIngredient_48 : decode cX2_readIngredient 48 = .ok (.invokevirtual 63, 3) := by decide +kernel
theorem dX2_readIngredient_51 : decode cX2_readIngredient 51 = .ok (.return_, 1) := by decide +kernel
theorem dX2_readIngredient_52 : decode cX2_readIngredient 52 = .ok (.aload_n 0, 1) := by decide +kernel
theorem dX2_readIngredient_53 : decode cX2_readIngredient 53 = .ok (.getfield 9, 3) := by decide +kernel
theorem dX2_readIngredient_56 : decode cX2_readIngredient 56 = .ok (.aload_n 0, 1) := by decide +kernel
theorem dX2_readIngredient_57 : decode cX2_readIngredient 57 = .ok (.getfield 22, 3) := by decide +kernel
theorem dX2_readIngredient_60 : decode cX2_readIngredient 60 = .ok (.iload 4, 2) := by decide +kernel
theorem dX2_readIngredient_62 : decode cX2_readIngredient 62 = .ok (.invokestatic 67, 3) := by decide +kernel
theorem dX2_readIngredient_65 : decode cX2_readIngredient 65 = .ok (.aload_n 0, 1) := by decide +kernel
theorem dX2_readIngredient_66 : decode cX2_readIngredient 66 = .ok (.getfield 15, 3) := by decide +kernel
theorem dX2_readIngredient_69 : decode cX2_readIngredient 69 = .ok (.aload_n 0, 1) := by decide +kernel
theorem dX2_readIngredient_70 : decode cX2_readIngredient 70 = .ok (.getfield 22, 3) := by decide +kernel
theorem dX2_readIngredient_73 : decode cX2_readIngredient 73 = .ok (.iload_n 3, 1) := by decide +kernel
theorem dX2_readIngredient_74 : decode cX2_readIngredient 74 = .ok (.invokestatic 67, 3) := by decide +kernel
theorem dX2_readIngredient_77 : decode cX2_readIngredient 77 = .ok (.aload_n 0, 1) := by decide +kernel
theorem dX2_readIngredient_78 : decode cX2_readIngredient 78 = .ok (.dup, 1) := by decide +kernel
theorem dX2_readIngredient_79 : decode cX2_readIngredient 79 = .ok (.getfield 22, 3) := by decide +kernel
theorem dX2_readIngredient_82 : decode cX2_readIngredient 82 = .ok (.iconst 1, 1) := by decide +kernel
theorem dX2_readIngredient_83 : decode cX2_readIngredient 83 = .ok (.iadd, 1) := by decide +kernel
theorem dX2_readIngredient_84 : decode cX2_readIngredient 84 = .ok (.putfield 22, 3) := by decide +kernel
theorem dX2_readIngredient_87 : decode cX2_readIngredient 87 = .ok (.return_, 1) := by decide +kernel
set_option maxRecDepth 20000 in
theorem ggX2_isListed_X6_at : GoodIn wsX2_isListed wsX6_at := goodIn_r _ [5] (by decide +kernel) (by decide +kernel)
set_option maxRecDepth 20000 in
theorem gX2_isListed_X6_at_n70 : GoodIn wsX2_isListed (wsX6_at) := ggX2_isListed_X6_at
theorem dX2_isListed_0 : decode cX2_isListed 0 = .ok (.iconst 0, 1) := by decide +kernel
theorem dX2_isListed_1 : decode cX2_isListed 1 = .ok (.istore_n 2, 1) := by decide +kernel
theorem dX2_isListed_2 : decode cX2_isListed 2 = .ok (.iload_n 2, 1) := by decide +kernel
theorem dX2_isListed_3 : decode cX2_isListed 3 = .ok (.aload_n 0, 1) := by decide +kernel
theorem dX2_isListed_4 : decode cX2_isListed 4 = .ok (.getfield 22, 3) := by decide +kernel
theorem dX2_isListed_7 : decode cX2_isListed 7 = .ok (.if_icmp .ge 23, 3) := by decide +kernel
theorem dX2_isListed_10 : decode cX2_isListed 10 = .ok (.aload_n 0, 1) := by decide +kernel
theorem dX2_isListed_11 : decode cX2_isListed 11 = .ok (.getfield 9, 3) := by decide +kernel
theorem dX2_isListed_14 : decode cX2_isListed 14 = .ok (.iload_n 2, 1) := by decide +kernel
theorem dX2_isListed_15 : decode cX2_isListed 15 = .ok (.invokestatic 70, 3) := by decide +kernel
theorem dX2_isListed_18 : decode cX2_isListed 18 = .ok (.iload_n 1, 1) := by decide +kernel
theorem dX2_isListed_19 : decode cX2_isListed 19 = .ok (.if_icmp .ne 5, 3) := by decide +kernel
theorem dX2_isListed_22 : decode cX2_isListed 22 = .ok (.iconst 1, 1) := by decide +kernel
theorem dX2_isListed_23 : decode cX2_isListed 23 = .ok (.ireturn, 1) := by decide +kernel
theorem dX2_isListed_24 : decode cX2_isListed 24 = .ok (.iinc 2 1, 3) := by decide +kernel
theorem dX2_isListed_27 : decode cX2_isListed 27 = .ok (.goto (-25), 3) := by decide +kernel
theorem dX2_isListed_30 : decode cX2_isListed 30 = .ok (.iconst 0, 1) := by decide +kernel
theorem dX2_isListed_31 : decode cX2_isListed 31 = .ok (.ireturn, 1) := by decide +kernel
set_option maxRecDepth 20000 in
theorem ggX2_readLetter_X2_skipBlanks : GoodIn wsX2_readLetter wsX2_skipBlanks := goodIn_r _ [6, 1, 7, 8, 9, 18, 19, 20, 21, 22, 23, 24, 25] (by decide +kernel) (by decide +kernel)
set_option maxRecDepth 20000 in
theorem gX2_readLetter_X2_skipBlanks : GoodIn wsX2_readLetter (wsV RX2 56 RX2 yX2_skipBlanks wsX2_skipBlanks) := goodIn_app (goodIn_of _ (by decide +kernel)) ggX2_readLetter_X2_skipBlanks
set_option maxRecDepth 20000 in
theorem ggX2_readLetter_X6_at : GoodIn wsX2_readLetter wsX6_at := goodIn_r _ [9] (by decide +kernel) (by decide +kernel)
set_option maxRecDepth 20000 in
theorem gX2_readLetter_X6_at_n70 : GoodIn wsX2_readLetter (wsX6_at) := ggX2_readLetter_X6_at
set_option maxRecDepth 20000 in
theorem ggX2_readLetter_X2_tellFault : GoodIn wsX2_readLetter wsX2_tellFault := goodIn_r _ [13, 14, 15, 18, 19, 20, 21, 22, 23, 24, 25] (by decide +kernel) (by decide +kernel)
set_option maxRecDepth 20000 in
theorem gX2_readLetter_X2_tellFault : GoodIn wsX2_readLetter (wsV RX2 63 RX2 yX2_tellFault wsX2_tellFault) := goodIn_app (goodIn_of _ (by decide +kernel)) ggX2_readLetter_X2_tellFault
set_option maxRecDepth 20000 in
theorem ggX2_readLetter_X6_isThing : GoodIn wsX2_readLetter wsX6_isThing := goodIn_r _ [17] (by decide +kernel) (by decide +kernel)
set_option maxRecDepth 20000 in
theorem gX2_readLetter_X6_isThing_n73 : GoodIn wsX2_readLetter (wsX6_isThing) := ggX2_readLetter_X6_isThing
theorem dX2_readLetter_0 : decode cX2_readLetter 0 = .ok (.aload_n 0, 1) := by decide +kernel
theorem dX2_readLetter_1 : decode cX2_readLetter 1 = .ok (.aload_n 1, 1) := by decide +kernel
theorem dX2_readLetter_2 : decode cX2_readLetter 2 = .ok (.iload_n 2, 1) := by decide +kernel
theorem dX2_readLetter_3 : decode cX2_readLetter 3 = .ok (.invokevirtual 56, 3) := by decide +kernel
theorem dX2_readLetter_6 : decode cX2_readLetter 6 = .ok (.aload_n 1, 1) := by decide +kernel
theorem dX2_readLetter_7 : decode cX2_readLetter 7 = .ok (.aload_n 0, 1) := by decide +kernel
theorem dX2_readLetter_8 : decode cX2_readLetter 8 = .ok (.getfield 18, 3) := by decide +kernel
theorem dX2_readLetter_11 : decode cX2_readLetter 11 = .ok (.invokestatic 70, 3) := by decide +kernel
theorem dX2_readLetter_14 : decode cX2_readLetter 14 = .ok (.bipush 97, 2) := by decide +kernel
theorem dX2_readLetter_16 : decode cX2_readLetter 16 = .ok (.isub, 1) := by decide +kernel
theorem dX2_readLetter_17 : decode cX2_readLetter 17 = .ok (.istore_n 3, 1) := by decide +kernel
theorem dX2_readLetter_18 : decode cX2_readLetter 18 = .ok (.aload_n 0, 1) := by decide +kernel
theorem dX2_readLetter_19 : decode cX2_readLetter 19 = .ok (.getfield 18, 3) := by decide +kernel
theorem dX2_readLetter_22 : decode cX2_readLetter 22 = .ok (.iload_n 2, 1) := by decide +kernel
theorem dX2_readLetter_23 : decode cX2_readLetter 23 = .ok (.if_icmp .lt 12, 3) := by decide +kernel
theorem dX2_readLetter_26 : decode cX2_readLetter 26 = .ok (.aload_n 0, 1) := by decide +kernel
theorem dX2_readLetter_27 : decode cX2_readLetter 27 = .ok (.iconst 4, 1) := by decide +kernel
theorem dX2_readLetter_28 : decode cX2_readLetter 28 = .ok (.iload_n 2, 1) := by decide +kernel
theorem dX2_readLetter_29 : decode cX2_readLetter 29 = .ok (.invokevirtual 63, 3) := by decide +kernel
theorem dX2_readLetter_32 : decode cX2_readLetter 32 = .ok (.goto 19, 3) := by decide +kernel
theorem dX2_readLetter_35 : decode cX2_readLetter 35 = .ok (.iload_n 3, 1) := by decide +kernel
theorem dX2_readLetter_36 : decode cX2_readLetter 36 = .ok (.invokestatic 73, 3) := by decide +kernel
theorem dX2_readLetter_39 : decode cX2_readLetter 39 = .ok (.ifCond .ne 12, 3) := by decide +kernel
theorem dX2_readLetter_42 : decode cX2_readLetter 42 = .ok (.aload_n 0, 1) := by decide +kernel
theorem dX2_readLetter_43 : decode cX2_readLetter 43 = .ok (.iconst 1, 1) := by decide +kernel
theorem dX2_readLetter_44 : decode cX2_readLetter 44 = .ok (.aload_n 0, 1) := by decide +kernel
theorem dX2_readLetter_45 : decode cX2_readLetter 45 = .ok (.getfield 18, 3) := by decide +kernel
theorem dX2_readLetter_48 : decode cX2_readLetter 48 = .ok (.invokevirtual 63, 3) := by decide +kernel
theorem dX2_readLetter_51 : decode cX2_readLetter 51 = .ok (.aload_n 0, 1) := by decide +kernel
theorem dX2_readLetter_52 : decode cX2_readLetter 52 = .ok (.dup, 1) := by decide +kernel
theorem dX2_readLetter_53 : decode cX2_readLetter 53 = .ok (.getfield 18, 3) := by decide +kernel
theorem dX2_readLetter_56 : decode cX2_readLetter 56 = .ok (.iconst 1, 1) := by decide +kernel
theorem dX2_readLetter_57 : decode cX2_readLetter 57 = .ok (.iadd, 1) := by decide +kernel
theorem dX2_readLetter_58 : decode cX2_readLetter 58 = .ok (.putfield 18, 3) := by decide +kernel
theorem dX2_readLetter_61 : decode cX2_readLetter 61 = .ok (.iload_n 3, 1) := by decide +kernel
theorem dX2_readLetter_62 : decode cX2_readLetter 62 = .ok (.ireturn, 1) := by decide +kernel
set_option maxRecDepth 20000 in
theorem ggX2_readSign_X2_skipBlanks : GoodIn wsX2_readSign wsX2_skipBlanks := goodIn_r _ [6, 1, 7, 8, 9, 16, 17, 18, 19, 20, 21, 22, 23] (by decide +kernel) (by decide +kernel)
set_option maxRecDepth 20000 in
theorem gX2_readSign_X2_skipBlanks : GoodIn wsX2_readSign (wsV RX2 56 RX2 yX2_skipBlanks wsX2_skipBlanks) := goodIn_app (goodIn_of _ (by decide +kernel)) ggX2_readSign_X2_skipBlanks
set_option maxRecDepth 20000 in
theorem ggX2_readSign_X2_tellFault : GoodIn wsX2_readSign wsX2_tellFault := goodIn_r _ [13, 14, 15, 16, 17, 18, 19, 20, 21, 22, 23] (by decide +kernel) (by decide +kernel)
set_option maxRecDepth 20000 in
theorem gX2_readSign_X2_tellFault : GoodIn wsX2_readSign (wsV RX2 63 RX2 yX2_tellFault wsX2_tellFault) := goodIn_app (goodIn_of _ (by decide +kernel)) ggX2_readSign_X2_tellFault
set_option maxRecDepth 20000 in
theorem ggX2_readSign_X6_at : GoodIn wsX2_readSign wsX6_at := goodIn_r _ [9] (by decide +kernel) (by decide +kernel)
set_option maxRecDepth 20000 in
theorem gX2_readSign_X6_at_n70 : GoodIn wsX2_readSign (wsX6_at) := ggX2_readSign_X6_at
theorem dX2_readSign_0 : decode cX2_readSign 0 = .ok (.aload_n 0, 1) := by decide +kernel
theorem dX2_readSign_1 : decode cX2_readSign 1 = .ok (.aload_n 1, 1) := by decide +kernel
theorem dX2_readSign_2 : decode cX2_readSign 2 = .ok (.iload_n 2, 1) := by decide +kernel
theorem dX2_readSign_3 : decode cX2_readSign 3 = .ok (.invokevirtual 56, 3) := by decide +kernel
theorem dX2_readSign_6 : decode cX2_readSign 6 = .ok (.aload_n 0, 1) := by decide +kernel
theorem dX2_readSign_7 : decode cX2_readSign 7 = .ok (.getfield 18, 3) := by decide +kernel
theorem dX2_readSign_10 : decode cX2_readSign 10 = .ok (.iload_n 2, 1) := by decide +kernel
theorem dX2_readSign_11 : decode cX2_readSign 11 = .ok (.if_icmp .lt 12, 3) := by decide +kernel
theorem dX2_readSign_14 : decode cX2_readSign 14 = .ok (.aload_n 0, 1) := by decide +kernel
theorem dX2_readSign_15 : decode cX2_readSign 15 = .ok (.iconst 4, 1) := by decide +kernel
theorem dX2_readSign_16 : decode cX2_readSign 16 = .ok (.iload_n 2, 1) := by decide +kernel
theorem dX2_readSign_17 : decode cX2_readSign 17 = .ok (.invokevirtual 63, 3) := by decide +kernel
theorem dX2_readSign_20 : decode cX2_readSign 20 = .ok (.goto 24, 3) := by decide +kernel
theorem dX2_readSign_23 : decode cX2_readSign 23 = .ok (.aload_n 1, 1) := by decide +kernel
theorem dX2_readSign_24 : decode cX2_readSign 24 = .ok (.aload_n 0, 1) := by decide +kernel
theorem dX2_readSign_25 : decode cX2_readSign 25 = .ok (.getfield 18, 3) := by decide +kernel
theorem dX2_readSign_28 : decode cX2_readSign 28 = .ok (.invokestatic 70, 3) := by decide +kernel
theorem dX2_readSign_31 : decode cX2_readSign 31 = .ok (.iload_n 3, 1) := by decide +kernel
theorem dX2_readSign_32 : decode cX2_readSign 32 = .ok (.if_icmp .eq 12, 3) := by decide +kernel
theorem dX2_readSign_35 : decode cX2_readSign 35 = .ok (.aload_n 0, 1) := by decide +kernel
theorem dX2_readSign_36 : decode cX2_readSign 36 = .ok (.iconst 1, 1) := by decide +kernel
theorem dX2_readSign_37 : decode cX2_readSign 37 = .ok (.aload_n 0, 1) := by decide +kernel
theorem dX2_readSign_38 : decode cX2_readSign 38 = .ok (.getfield 18, 3) := by decide +kernel
theorem dX2_readSign_41 : decode cX2_readSign 41 = .ok (.invokevirtual 63, 3) := by decide +kernel
theorem dX2_readSign_44 : decode cX2_readSign 44 = .ok (.aload_n 0, 1) := by decide +kernel
theorem dX2_readSign_45 : decode cX2_readSign 45 = .ok (.dup, 1) := by decide +kernel
theorem dX2_readSign_46 : decode cX2_readSign 46 = .ok (.getfield 18, 3) := by decide +kernel
theorem dX2_readSign_49 : decode cX2_readSign 49 = .ok (.iconst 1, 1) := by decide +kernel
theorem dX2_readSign_50 : decode cX2_readSign 50 = .ok (.iadd, 1) := by decide +kernel
theorem dX2_readSign_51 : decode cX2_readSign 51 = .ok (.putfield 18, 3) := by decide +kernel
theorem dX2_readSign_54 : decode cX2_readSign 54 = .ok (.return_, 1) := by decide +kernel
set_option maxRecDepth 20000 in
theorem ggX2_readNumber_X2_skipBlanks : GoodIn wsX2_readNumber wsX2_skipBlanks := goodIn_r _ [6, 1, 7, 8, 9, 20, 21, 22, 23, 24, 25, 26, 27] (by decide +kernel) (by decide +kernel)
set_option maxRecDepth 20000 in
theorem gX2_readNumber_X2_skipBlanks : GoodIn wsX2_readNumber (wsV RX2 56 RX2 yX2_skipBlanks wsX2_skipBlanks) := goodIn_app (goodIn_of _ (by decide +kernel)) ggX2_readNumber_X2_skipBlanks
set_option maxRecDepth 20000 in
theorem ggX2_readNumber_X2_isDigit : GoodIn wsX2_readNumber wsX2_isDigit := goodIn_r _ [13, 7, 8, 9] (by decide +kernel) (by decide +kernel)
set_option maxRecDepth 20000 in
theorem gX2_readNumber_X2_isDigit : GoodIn wsX2_readNumber (wsV RX2 76 RX2 yX2_isDigit wsX2_isDigit) := goodIn_app (goodIn_of _ (by decide +kernel)) ggX2_readNumber_X2_isDigit
set_option maxRecDepth 20000 in
theorem ggX2_readNumber_X6_at : GoodIn wsX2_readNumber wsX6_at := goodIn_r _ [9] (by decide +kernel) (by decide +kernel)
set_option maxRecDepth 20000 in
theorem gX2_readNumber_X6_at_n70 : GoodIn wsX2_readNumber (wsX6_at) := ggX2_readNumber_X6_at
set_option maxRecDepth 20000 in
theorem ggX2_readNumber_X2_tellFault : GoodIn wsX2_readNumber wsX2_tellFault := goodIn_r _ [17, 18, 19, 20, 21, 22, 23, 24, 25, 26, 27] (by decide +kernel) (by decide +kernel)
set_option maxRecDepth 20000 in
theorem gX2_readNumber_X2_tellFault : GoodIn wsX2_readNumber (wsV RX2 63 RX2 yX2_tellFault wsX2_tellFault) := goodIn_app (goodIn_of _ (by decide +kernel)) ggX2_readNumber_X2_tellFault
theorem dX2_readNumber_0 : decode cX2_readNumber 0 = .ok (.aload_n 0, 1) := by decide +kernel
theorem dX2_readNumber_1 : decode cX2_readNumber 1 = .ok (.aload_n 1, 1) := by decide +kernel
theorem dX2_readNumber_2 : decode cX2_readNumber 2 = .ok (.iload_n 2, 1) := by decide +kernel
theorem dX2_readNumber_3 : decode cX2_readNumber 3 = .ok (.invokevirtual 56, 3) := by decide +kernel
theorem dX2_readNumber_6 : decode cX2_readNumber 6 = .ok (.aload_n 0, 1) := by decide +kernel
theorem dX2_readNumber_7 : decode cX2_readNumber 7 = .ok (.aload_n 1, 1) := by decide +kernel
theorem dX2_readNumber_8 : decode cX2_readNumber 8 = .ok (.iload_n 2, 1) := by decide +kernel
theorem dX2_readNumber_9 : decode cX2_readNumber 9 = .ok (.aload_n 0, 1) := by decide +kernel
theorem dX2_readNumber_10 : decode cX2_readNumber 10 = .ok (.getfield 18, 3) := by decide +kernel
theorem dX2_readNumber_13 : decode cX2_readNumber 13 = .ok (.invokevirtual 76, 3) := by decide +kernel
theorem dX2_readNumber_16 : decode cX2_readNumber 16 = .ok (.ifCond .ne 5, 3) := by decide +kernel
theorem dX2_readNumber_19 : decode cX2_readNumber 19 = .ok (.iconst 1, 1) := by decide +kernel
theorem dX2_readNumber_20 : decode cX2_readNumber 20 = .ok (.ireturn, 1) := by decide +kernel
theorem dX2_readNumber_21 : decode cX2_readNumber 21 = .ok (.aload_n 0, 1) := by decide +kernel
theorem dX2_readNumber_22 : decode cX2_readNumber 22 = .ok (.getfield 18, 3) := by decide +kernel
theorem dX2_readNumber_25 : decode cX2_readNumber 25 = .ok (.istore_n 3, 1) := by decide +kernel
theorem dX2_readNumber_26 : decode cX2_readNumber 26 = .ok (.aload_n 1, 1) := by decide +kernel
theorem dX2_readNumber_27 : decode cX2_readNumber 27 = .ok (.aload_n 0, 1) := by decide +kernel
theorem dX2_readNumber_28 : decode cX2_readNumber 28 = .ok (.getfield 18, 3) := by decide +kernel
theorem dX2_readNumber_31 : decode cX2_readNumber 31 = .ok (.invokestatic 70, 3) := by decide +kernel
theorem dX2_readNumber_34 : decode cX2_readNumber 34 = .ok (.bipush 48, 2) := by decide +kernel
theorem dX2_readNumber_36 : decode cX2_readNumber 36 = .ok (.isub, 1) := by decide +kernel
theorem dX2_readNumber_37 : decode cX2_readNumber 37 = .ok (.istore 4, 2) := by decide +kernel
theorem dX2_readNumber_39 : decode cX2_readNumber 39 = .ok (.aload_n 0, 1) := by decide +kernel
theorem dX2_readNumber_40 : decode cX2_readNumber 40 = .ok (.dup, 1) := by decide +kernel
theorem dX2_readNumber_41 : decode cX2_readNumber 41 = .ok (.getfield 18, 3) := by decide +kernel
theorem dX2_readNumber_44 : decode cX2_readNumber 44 = .ok (.iconst 1, 1) := by decide +kernel
theorem dX2_readNumber_45 : decode cX2_readNumber 45 = .ok (.iadd, 1) := by decide +kernel
theorem dX2_readNumber_46 : decode cX2_readNumber 46 = .ok (.putfield 18, 3) := by decide +kernel
theorem dX2_readNumber_49 : decode cX2_readNumber 49 = .ok (.aload_n 0, 1) := by decide +kernel
theorem dX2_readNumber_50 : decode cX2_readNumber 50 = .ok (.aload_n 1, 1) := by decide +kernel
theorem dX2_readNumber_51 : decode cX2_readNumber 51 = .ok (.iload_n 2, 1) := by decide +kernel
theorem dX2_readNumber_52 : decode cX2_readNumber 52 = .ok (.aload_n 0, 1) := by decide +kernel
theorem dX2_readNumber_53 : decode cX2_readNumber 53 = .ok (.getfield 18, 3) := by decide +kernel
theorem dX2_readNumber_56 : decode cX2_readNumber 56 = .ok (.invokevirtual 76, 3) := by decide +kernel
theorem dX2_readNumber_59 : decode cX2_readNumber 59 = .ok (.ifCond .eq 32, 3) := by decide +kernel
theorem dX2_readNumber_62 : decode cX2_readNumber 62 = .ok (.iload 4, 2) := by decide +kernel
theorem dX2_readNumber_64 : decode cX2_readNumber 64 = .ok (.bipush 10, 2) := by decide +kernel
theorem dX2_readNumber_66 : decode cX2_readNumber 66 = .ok (.imul, 1) := by decide +kernel
theorem dX2_readNumber_67 : decode cX2_readNumber 67 = .ok (.aload_n 1, 1) := by decide +kernel
theorem dX2_readNumber_68 : decode cX2_readNumber 68 = .ok (.aload_n 0, 1) := by decide +kernel
theorem dX2_readNumber_69 : decode cX2_readNumber 69 = .ok (.getfield 18, 3) := by decide +kernel
theorem dX2_readNumber_72 : decode cX2_readNumber 72 = .ok (.invokestatic 70, 3) := by decide +kernel
theorem dX2_readNumber_75 : decode cX2_readNumber 75 = .ok (.iadd, 1) := by decide +kernel
theorem dX2_readNumber_76 : decode cX2_readNumber 76 = .ok (.bipush 48, 2) := by decide +kernel
theorem dX2_readNumber_78 : decode cX2_readNumber 78 = .ok (.isub, 1) := by decide +kernel
theorem dX2_readNumber_79 : decode cX2_readNumber 79 = .ok (.istore 4, 2) := by decide +kernel
theorem dX2_readNumber_81 : decode cX2_readNumber 81 = .ok (.aload_n 0, 1) := by decide +kernel
theorem dX2_readNumber_82 : decode cX2_readNumber 82 = .ok (.dup, 1) := by decide +kernel
theorem dX2_readNumber_83 : decode cX2_readNumber 83 = .ok (.getfield 18, 3) := by decide +kernel
theorem dX2_readNumber_86 : decode cX2_readNumber 86 = .ok (.iconst 1, 1) := by decide +kernel
theorem dX2_readNumber_87 : decode cX2_readNumber 87 = .ok (.iadd, 1) := by decide +kernel
theorem dX2_readNumber_88 : decode cX2_readNumber 88 = .ok (.putfield 18, 3) := by decide +kernel
theorem dX2_readNumber_91 : decode cX2_readNumber 91 = .ok (.aload_n 0, 1) := by decide +kernel
theorem dX2_readNumber_92 : decode cX2_readNumber 92 = .ok (.aload_n 1, 1) := by decide +kernel
theorem dX2_readNumber_93 : decode cX2_readNumber 93 = .ok (.iload_n 2, 1) := by decide +kernel
theorem dX2_readNumber_94 : decode cX2_readNumber 94 = .ok (.aload_n 0, 1) := by decide +kernel
theorem dX2_readNumber_95 : decode cX2_readNumber 95 = .ok (.getfield 18, 3) := by decide +kernel
theorem dX2_readNumber_98 : decode cX2_readNumber 98 = .ok (.invokevirtual 76, 3) := by decide +kernel
theorem dX2_readNumber_101 : decode cX2_readNumber 101 = .ok (.ifCond .eq 15, 3) := by decide +kernel
theorem dX2_readNumber_104 : decode cX2_readNumber 104 = .ok (.aload_n 0, 1) := by decide +kernel
theorem dX2_readNumber_105 : decode cX2_readNumber 105 = .ok (.iconst 1, 1) := by decide +kernel
theorem dX2_readNumber_106 : decode cX2_readNumber 106 = .ok (.aload_n 0, 1) := by decide +kernel
theorem dX2_readNumber_107 : decode cX2_readNumber 107 = .ok (.getfield 18, 3) := by decide +kernel
theorem dX2_readNumber_110 : decode cX2_readNumber 110 = .ok (.invokevirtual 63, 3) := by decide +kernel
theorem dX2_readNumber_113 : decode cX2_readNumber 113 = .ok (.goto 22, 3) := by decide +kernel
theorem dX2_readNumber_116 : decode cX2_readNumber 116 = .ok (.iload 4, 2) := by decide +kernel
theorem dX2_readNumber_118 : decode cX2_readNumber 118 = .ok (.iconst 1, 1) := by decide +kernel
theorem dX2_readNumber_119 : decode cX2_readNumber 119 = .ok (.if_icmp .lt 10, 3) := by decide +kernel
theorem dX2_readNumber_122 : decode cX2_readNumber 122 = .ok (.iload 4, 2) := by decide +kernel
theorem dX2_readNumber_124 : decode cX2_readNumber 124 = .ok (.bipush 20, 2) := by decide +kernel
theorem dX2_readNumber_126 : decode cX2_readNumber 126 = .ok (.if_icmp .le 9, 3) := by decide +kernel
theorem dX2_readNumber_129 : decode cX2_readNumber 129 = .ok (.aload_n 0, 1) := by decide +kernel
theorem dX2_readNumber_130 : decode cX2_readNumber 130 = .ok (.iconst 2, 1) := by decide +kernel
theorem dX2_readNumber_131 : decode cX2_readNumber 131 = .ok (.iload_n 3, 1) := by decide +kernel
theorem dX2_readNumber_132 : decode cX2_readNumber 132 = .ok (.invokevirtual 63, 3) := by decide +kernel
theorem dX2_readNumber_135 : decode cX2_readNumber 135 = .ok (.iload 4, 2) := by decide +kernel
theorem dX2_readNumber_137 : decode cX2_readNumber 137 = .ok (.ireturn, 1) := by decide +kernel
set_option maxRecDepth 20000 in
theorem ggX2_isDigit_X6_at : GoodIn wsX2_isDigit wsX6_at := goodIn_r _ [3] (by decide +kernel) (by decide +kernel)
set_option maxRecDepth 20000 in
theorem gX2_isDigit_X6_at_n70 : GoodIn wsX2_isDigit (wsX6_at) := ggX2_isDigit_X6_at
theorem dX2_isDigit_0 : decode cX2_isDigit 0 = .ok (.iload_n 3, 1) := by decide +kernel
theorem dX2_isDigit_1 : decode cX2_isDigit 1 = .ok (.iload_n 2, 1) := by decide +kernel
theorem dX2_isDigit_2 : decode cX2_isDigit 2 = .ok (.if_icmp .ge 27, 3) := by decide +kernel
theorem dX2_isDigit_5 : decode cX2_isDigit 5 = .ok (.aload_n 1, 1) := by decide +kernel
theorem dX2_isDigit_6 : decode cX2_isDigit 6 = .ok (.iload_n 3, 1) := by decide +kernel
theorem dX2_isDigit_7 : decode cX2_isDigit 7 = .ok (.invokestatic 70, 3) := by decide +kernel
theorem dX2_isDigit_10 : decode cX2_isDigit 10 = .ok (.bipush 48, 2) := by decide +kernel
theorem dX2_isDigit_12 : decode cX2_isDigit 12 = .ok (.if_icmp .lt 17, 3) := by decide +kernel
theorem dX2_isDigit_15 : decode cX2_isDigit 15 = .ok (.aload_n 1, 1) := by decide +kernel
theorem dX2_isDigit_16 : decode cX2_isDigit 16 = .ok (.iload_n 3, 1) := by decide +kernel
theorem dX2_isDigit_17 : decode cX2_isDigit 17 = .ok (.invokestatic 70, 3) := by decide +kernel
theorem dX2_isDigit_20 : decode cX2_isDigit 20 = .ok (.bipush 57, 2) := by decide +kernel
theorem dX2_isDigit_22 : decode cX2_isDigit 22 = .ok (.if_icmp .gt 7, 3) := by decide +kernel
theorem dX2_isDigit_25 : decode cX2_isDigit 25 = .ok (.iconst 1, 1) := by decide +kernel
theorem dX2_isDigit_26 : decode cX2_isDigit 26 = .ok (.goto 4, 3) := by decide +kernel
theorem dX2_isDigit_29 : decode cX2_isDigit 29 = .ok (.iconst 0, 1) := by decide +kernel
theorem dX2_isDigit_30 : decode cX2_isDigit 30 = .ok (.ireturn, 1) := by decide +kernel
set_option maxRecDepth 20000 in
theorem ggX2_skipBlanks_X6_at : GoodIn wsX2_skipBlanks wsX6_at := goodIn_r _ [4] (by decide +kernel) (by decide +kernel)
set_option maxRecDepth 20000 in
theorem gX2_skipBlanks_X6_at_n70 : GoodIn wsX2_skipBlanks (wsX6_at) := ggX2_skipBlanks_X6_at
theorem dX2_skipBlanks_0 : decode cX2_skipBlanks 0 = .ok (.aload_n 0, 1) := by decide +kernel
theorem dX2_skipBlanks_1 : decode cX2_skipBlanks 1 = .ok (.getfield 18, 3) := by decide +kernel
theorem dX2_skipBlanks_4 : decode cX2_skipBlanks 4 = .ok (.iload_n 2, 1) := by decide +kernel
theorem dX2_skipBlanks_5 : decode cX2_skipBlanks 5 = .ok (.if_icmp .ge 29, 3) := by decide +kernel
theorem dX2_skipBlanks_8 : decode cX2_skipBlanks 8 = .ok (.aload_n 1, 1) := by decide +kernel
theorem dX2_skipBlanks_9 : decode cX2_skipBlanks 9 = .ok (.aload_n 0, 1) := by decide +kernel
theorem dX2_skipBlanks_10 : decode cX2_skipBlanks 10 = .ok (.getfield 18, 3) := by decide +kernel
theorem dX2_skipBlanks_13 : decode cX2_skipBlanks 13 = .ok (.invokestatic 70, 3) := by decide +kernel
theorem dX2_skipBlanks_16 : decode cX2_skipBlanks 16 = .ok (.bipush 32, 2) := by decide +kernel
theorem dX2_skipBlanks_18 : decode cX2_skipBlanks 18 = .ok (.if_icmp .ne 16, 3) := by decide +kernel
theorem dX2_skipBlanks_21 : decode cX2_skipBlanks 21 = .ok (.aload_n 0, 1) := by decide +kernel
theorem dX2_skipBlanks_22 : decode cX2_skipBlanks 22 = .ok (.dup, 1) := by decide +kernel
theorem dX2_skipBlanks_23 : decode cX2_skipBlanks 23 = .ok (.getfield 18, 3) := by decide +kernel
theorem dX2_skipBlanks_26 : decode cX2_skipBlanks 26 = .ok (.iconst 1, 1) := by decide +kernel
theorem dX2_skipBlanks_27 : decode cX2_skipBlanks 27 = .ok (.iadd, 1) := by decide +kernel
theorem dX2_skipBlanks_28 : decode cX2_skipBlanks 28 = .ok (.putfield 18, 3) := by decide +kernel
theorem dX2_skipBlanks_31 : decode cX2_skipBlanks 31 = .ok (.goto (-31), 3) := by decide +kernel
theorem dX2_skipBlanks_34 : decode cX2_skipBlanks 34 = .ok (.return_, 1) := by decide +kernel
theorem dX2_tellFault_0 : decode cX2_tellFault 0 = .ok (.aload_n 0, 1) := by decide +kernel
theorem dX2_tellFault_1 : decode cX2_tellFault 1 = .ok (.getfield 25, 3) := by decide +kernel
theorem dX2_tellFault_4 : decode cX2_tellFault 4 = .ok (.ifCond .ne 13, 3) := by decide +kernel
theorem dX2_tellFault_7 : decode cX2_tellFault 7 = .ok (.aload_n 0, 1) := by decide +kernel
theorem dX2_tellFault_8 : decode cX2_tellFault 8 = .ok (.iload_n 1, 1) := by decide +kernel
theorem dX2_tellFault_9 : decode cX2_tellFault 9 = .ok (.putfield 25, 3) := by decide +kernel
theorem dX2_tellFault_12 : decode cX2_tellFault 12 = .ok (.aload_n 0, 1) := by decide +kernel
theorem dX2_tellFault_13 : decode cX2_tellFault 13 = .ok (.iload_n 2, 1) := by decide +kernel
theorem dX2_tellFault_14 : decode cX2_tellFault 14 = .ok (.putfield 28, 3) := by decide +kernel
theorem dX2_tellFault_17 : decode cX2_tellFault 17 = .ok (.return_, 1) := by decide +kernel
set_option maxRecDepth 20000 in
theorem ggX3_init_X0_init : GoodIn wsX3_init wsX0_init := goodIn_r _ [14, 15, 2, 3, 16, 17, 18, 19, 20, 21, 22, 23, 24, 25, 26, 27, 28, 38, 39, 40, 41, 42, 43, 44, 45] (by decide +kernel) (by decide +kernel)
set_option maxRecDepth 20000 in
theorem gX3_init_X0_init : GoodIn wsX3_init (wsX0_init) := ggX3_init_X0_init
set_option maxRecDepth 20000 in
theorem ggX3_init_X4_init : GoodIn wsX3_init wsX4_init := goodIn_r _ [30, 31, 2, 3, 16, 32, 33, 34, 35, 36, 37, 48, 49, 50, 51, 52, 53, 54] (by decide +kernel) (by decide +kernel)
set_option maxRecDepth 20000 in
theorem gX3_init_X4_init_n18 : GoodIn wsX3_init (wsX4_init) := ggX3_init_X4_init
theorem dX3_init_0 : decode cX3_init 0 = .ok (.aload_n 0, 1) := by decide +kernel
theorem dX3_init_1 : decode cX3_init 1 = .ok (.invokespecial 1, 3) := by decide +kernel
theorem dX3_init_4 : decode cX3_init 4 = .ok (.aload_n 0, 1) := by decide +kernel
theorem dX3_init_5 : decode cX3_init 5 = .ok (.new 7, 3) := by decide +kernel
theorem dX3_init_8 : decode cX3_init 8 = .ok (.dup, 1) := by decide +kernel
theorem dX3_init_9 : decode cX3_init 9 = .ok (.invokespecial 9, 3) := by decide +kernel
theorem dX3_init_12 : decode cX3_init 12 = .ok (.putfield 10, 3) := by decide +kernel
theorem dX3_init_15 : decode cX3_init 15 = .ok (.aload_n 0, 1) := by decide +kernel
theorem dX3_init_16 : decode cX3_init 16 = .ok (.new 16, 3) := by decide +kernel
theorem dX3_init_19 : decode cX3_init 19 = .ok (.dup, 1) := by decide +kernel
theorem dX3_init_20 : decode cX3_init 20 = .ok (.invokespecial 18, 3) := by decide +kernel
theorem dX3_init_23 : decode cX3_init 23 = .ok (.putfield 19, 3) := by decide +kernel
theorem dX3_init_26 : decode cX3_init 26 = .ok (.return_, 1) := by decide +kernel
set_option maxRecDepth 20000 in
theorem ggX3_hold_X0_copyFrom : GoodIn wsX3_hold wsX0_copyFrom := goodIn_r _ [7, 8, 9, 10, 11, 12, 13, 14, 15, 16, 17, 18, 19, 20, 21, 22, 23, 24, 25, 26, 41, 42, 43, 44, 45, 46, 47, 48] (by decide +kernel) (by decide +kernel)
set_option maxRecDepth 20000 in
theorem gX3_hold_X0_copyFrom : GoodIn wsX3_hold (wsV RX3 23 RX0 yX0_copyFrom wsX0_copyFrom) := goodIn_app (goodIn_of _ (by decide +kernel)) ggX3_hold_X0_copyFrom
set_option maxRecDepth 20000 in
theorem ggX3_hold_X4_copyFrom : GoodIn wsX3_hold wsX4_copyFrom := goodIn_r _ [31, 32, 33, 34, 35, 36, 37, 38, 16, 17, 18, 19, 20, 21, 22, 23, 24, 25, 26, 49, 50, 51, 52, 53, 54, 55] (by decide +kernel) (by decide +kernel)
set_option maxRecDepth 20000 in
theorem gX3_hold_X4_copyFrom : GoodIn wsX3_hold (wsV RX3 27 RX4 yX4_copyFrom wsX4_copyFrom) := goodIn_app (goodIn_of _ (by decide +kernel)) ggX3_hold_X4_copyFrom
theorem dX3_hold_0 : decode cX3_hold 0 = .ok (.aload_n 0, 1) := by decide +kernel
theorem dX3_hold_1 : decode cX3_hold 1 = .ok (.getfield 10, 3) := by decide +kernel
theorem dX3_hold_4 : decode cX3_hold 4 = .ok (.aload_n 1, 1) := by decide +kernel
theorem dX3_hold_5 : decode cX3_hold 5 = .ok (.invokevirtual 23, 3) := by decide +kernel
theorem dX3_hold_8 : decode cX3_hold 8 = .ok (.aload_n 0, 1) := by decide +kernel
theorem dX3_hold_9 : decode cX3_hold 9 = .ok (.getfield 19, 3) := by decide +kernel
theorem dX3_hold_12 : decode cX3_hold 12 = .ok (.aload_n 2, 1) := by decide +kernel
theorem dX3_hold_13 : decode cX3_hold 13 = .ok (.invokevirtual 27, 3) := by decide +kernel
theorem dX3_hold_16 : decode cX3_hold 16 = .ok (.return_, 1) := by decide +kernel
set_option maxRecDepth 20000 in
theorem ggX3_layOut_X0_copyFrom : GoodIn wsX3_layOut wsX0_copyFrom := goodIn_r _ [7, 8, 9, 10, 11, 12, 13, 14, 15, 16, 17, 18, 19, 20, 21, 22, 23, 24, 25, 26, 41, 42, 43, 44, 45, 46, 47, 48] (by decide +kernel) (by decide +kernel)
set_option maxRecDepth 20000 in
theorem gX3_layOut_X0_copyFrom : GoodIn wsX3_layOut (wsV RX3 23 RX0 yX0_copyFrom wsX0_copyFrom) := goodIn_app (goodIn_of _ (by decide +kernel)) ggX3_layOut_X0_copyFrom
set_option maxRecDepth 20000 in
theorem ggX3_layOut_X4_copyFrom : GoodIn wsX3_layOut wsX4_copyFrom := goodIn_r _ [31, 32, 33, 34, 35, 36, 37, 38, 16, 17, 18, 19, 20, 21, 22, 23, 24, 25, 26, 49, 50, 51, 52, 53, 54, 55] (by decide +kernel) (by decide +kernel)
set_option maxRecDepth 20000 in
theorem gX3_layOut_X4_copyFrom : GoodIn wsX3_layOut (wsV RX3 27 RX4 yX4_copyFrom wsX4_copyFrom) := goodIn_app (goodIn_of _ (by decide +kernel)) ggX3_layOut_X4_copyFrom
theorem dX3_layOut_0 : decode cX3_layOut 0 = .ok (.aload_n 1, 1) := by decide +kernel
theorem dX3_layOut_1 : decode cX3_layOut 1 = .ok (.aload_n 0, 1) := by decide +kernel
theorem dX3_layOut_2 : decode cX3_layOut 2 = .ok (.getfield 10, 3) := by decide +kernel
theorem dX3_layOut_5 : decode cX3_layOut 5 = .ok (.invokevirtual 23, 3) := by decide +kernel
theorem dX3_layOut_8 : decode cX3_layOut 8 = .ok (.aload_n 2, 1) := by decide +kernel
theorem dX3_layOut_9 : decode cX3_layOut 9 = .ok (.aload_n 0, 1) := by decide +kernel
theorem dX3_layOut_10 : decode cX3_layOut 10 = .ok (.getfield 19, 3) := by decide +kernel
theorem dX3_layOut_13 : decode cX3_layOut 13 = .ok (.invokevirtual 27, 3) := by decide +kernel
theorem dX3_layOut_16 : decode cX3_layOut 16 = .ok (.return_, 1) := by decide +kernel
theorem dX4_init_0 : decode cX4_init 0 = .ok (.aload_n 0, 1) := by decide +kernel
theorem dX4_init_1 : decode cX4_init 1 = .ok (.invokespecial 3, 3) := by decide +kernel
theorem dX4_init_4 : decode cX4_init 4 = .ok (.aload_n 0, 1) := by decide +kernel
theorem dX4_init_5 : decode cX4_init 5 = .ok (.bipush 20, 2) := by decide +kernel
theorem dX4_init_7 : decode cX4_init 7 = .ok (.newarray .int, 2) := by decide +kernel
theorem dX4_init_9 : decode cX4_init 9 = .ok (.putfield 9, 3) := by decide +kernel
theorem dX4_init_12 : decode cX4_init 12 = .ok (.aload_n 0, 1) := by decide +kernel
theorem dX4_init_13 : decode cX4_init 13 = .ok (.bipush 20, 2) := by decide +kernel
theorem dX4_init_15 : decode cX4_init 15 = .ok (.newarray .int, 2) := by decide +kernel
theorem dX4_init_17 : decode cX4_init 17 = .ok (.putfield 15, 3) := by decide +kernel
theorem dX4_init_20 : decode cX4_init 20 = .ok (.aload_n 0, 1) := by decide +kernel
theorem dX4_init_21 : decode cX4_init 21 = .ok (.bipush 20, 2) := by decide +kernel
theorem dX4_init_23 : decode cX4_init 23 = .ok (.newarray .int, 2) := by decide +kernel
theorem dX4_init_25 : decode cX4_init 25 = .ok (.putfield 18, 3) := by decide +kernel
theorem dX4_init_28 : decode cX4_init 28 = .ok (.aload_n 0, 1) := by decide +kernel
theorem dX4_init_29 : decode cX4_init 29 = .ok (.bipush 20, 2) := by decide +kernel
theorem dX4_init_31 : decode cX4_init 31 = .ok (.newarray .int, 2) := by decide +kernel
theorem dX4_init_33 : decode cX4_init 33 = .ok (.putfield 21, 3) := by decide +kernel
theorem dX4_init_36 : decode cX4_init 36 = .ok (.aload_n 0, 1) := by decide +kernel
theorem dX4_init_37 : decode cX4_init 37 = .ok (.bipush 20, 2) := by decide +kernel
theorem dX4_init_39 : decode cX4_init 39 = .ok (.newarray .int, 2) := by decide +kernel
theorem dX4_init_41 : decode cX4_init 41 = .ok (.putfield 24, 3) := by decide +kernel
theorem dX4_init_44 : decode cX4_init 44 = .ok (.aload_n 0, 1) := by decide +kernel
theorem dX4_init_45 : decode cX4_init 45 = .ok (.bipush 20, 2) := by decide +kernel
theorem dX4_init_47 : decode cX4_init 47 = .ok (.newarray .int, 2) := by decide +kernel
theorem dX4_init_49 : decode cX4_init 49 = .ok (.putfield 27, 3) := by decide +kernel
theorem dX4_init_52 : decode cX4_init 52 = .ok (.return_, 1) := by decide +kernel
set_option maxRecDepth 20000 in
theorem ggX4_copyFrom_X6_copy : GoodIn wsX4_copyFrom wsX6_copy := goodIn_r _ [10, 11, 12, 13, 14, 15, 16, 17, 18] (by decide +kernel) (by decide +kernel)
set_option maxRecDepth 20000 in
theorem gX4_copyFrom_X6_copy_n30 : GoodIn wsX4_copyFrom (wsX6_copy) := ggX4_copyFrom_X6_copy
theorem dX4_copyFrom_0 : decode cX4_copyFrom 0 = .ok (.aload_n 1, 1) := by decide +kernel
theorem dX4_copyFrom_1 : decode cX4_copyFrom 1 = .ok (.getfield 9, 3) := by decide +kernel
theorem dX4_copyFrom_4 : decode cX4_copyFrom 4 = .ok (.aload_n 0, 1) := by decide +kernel
theorem dX4_copyFrom_5 : decode cX4_copyFrom 5 = .ok (.getfield 9, 3) := by decide +kernel
theorem dX4_copyFrom_8 : decode cX4_copyFrom 8 = .ok (.invokestatic 30, 3) := by decide +kernel
theorem dX4_copyFrom_11 : decode cX4_copyFrom 11 = .ok (.aload_n 1, 1) := by decide +kernel
theorem dX4_copyFrom_12 : decode cX4_copyFrom 12 = .ok (.getfield 15, 3) := by decide +kernel
theorem dX4_copyFrom_15 : decode cX4_copyFrom 15 = .ok (.aload_n 0, 1) := by decide +kernel
theorem dX4_copyFrom_16 : decode cX4_copyFrom 16 = .ok (.getfield 15, 3) := by decide +kernel
theorem dX4_copyFrom_19 : decode cX4_copyFrom 19 = .ok (.invokestatic 30, 3) := by decide +kernel
theorem dX4_copyFrom_22 : decode cX4_copyFrom 22 = .ok (.aload_n 1, 1) := by decide +kernel
theorem dX4_copyFrom_23 : decode cX4_copyFrom 23 = .ok (.getfield 18, 3) := by decide +kernel
theorem dX4_copyFrom_26 : decode cX4_copyFrom 26 = .ok (.aload_n 0, 1) := by decide +kernel
theorem dX4_copyFrom_27 : decode cX4_copyFrom 27 = .ok (.getfield 18, 3) := by decide +kernel
theorem dX4_copyFrom_30 : decode cX4_copyFrom 30 = .ok (.invokestatic 30, 3) := by decide +kernel
theorem dX4_copyFrom_33 : decode cX4_copyFrom 33 = .ok (.aload_n 1, 1) := by decide +kernel
theorem dX4_copyFrom_34 : decode cX4_copyFrom 34 = .ok (.getfield 21, 3) := by decide +kernel
theorem dX4_copyFrom_37 : decode cX4_copyFrom 37 = .ok (.aload_n 0, 1) := by decide +kernel
theorem dX4_copyFrom_38 : decode cX4_copyFrom 38 = .ok (.getfield 21, 3) := by decide +kernel
theorem dX4_copyFrom_41 : decode cX4_copyFrom 41 = .ok (.invokestatic 30, 3) := by decide +kernel
theorem dX4_copyFrom_44 : decode cX4_copyFrom 44 = .ok (.aload_n 1, 1) := by decide +kernel
theorem dX4_copyFrom_45 : decode cX4_copyFrom 45 = .ok (.getfield 24, 3) := by decide +kernel
theorem dX4_copyFrom_48 : decode cX4_copyFrom 48 = .ok (.aload_n 0, 1) := by decide +kernel
theorem dX4_copyFrom_49 : decode cX4_copyFrom 49 = .ok (.getfield 24, 3) := by decide +kernel
theorem dX4_copyFrom_52 : decode cX4_copyFrom 52 = .ok (.invokestatic 30, 3) := by decide +kernel
theorem dX4_copyFrom_55 : decode cX4_copyFrom 55 = .ok (.aload_n 1, 1) := by decide +kernel
theorem dX4_copyFrom_56 : decode cX4_copyFrom 56 = .ok (.getfield 27, 3) := by decide +kernel
theorem dX4_copyFrom_59 : decode cX4_copyFrom 59 = .ok (.aload_n 0, 1) := by decide +kernel
theorem dX4_copyFrom_60 : decode cX4_copyFrom 60 = .ok (.getfield 27, 3) := by decide +kernel
theorem dX4_copyFrom_63 : decode cX4_copyFrom 63 = .ok (.invokestatic 30, 3) := by decide +kernel
theorem dX4_copyFrom_66 : decode cX4_copyFrom 66 = .ok (.aload_n 0, 1) := by decide +kernel
theorem dX4_copyFrom_67 : decode cX4_copyFrom 67 = .ok (.aload_n 1, 1) := by decide +kernel
theorem dX4_copyFrom_68 : decode cX4_copyFrom 68 = .ok (.getfield 34, 3) := by decide +kernel
theorem dX4_copyFrom_71 : decode cX4_copyFrom 71 = .ok (.putfield 34, 3) := by decide +kernel
theorem dX4_copyFrom_74 : decode cX4_copyFrom 74 = .ok (.return_, 1) := by decide +kernel
set_option maxRecDepth 20000 in
theorem ggX5_init_X4_init : GoodIn wsX5_init wsX4_init := goodIn_r _ [9, 10, 2, 3, 11, 12, 13, 14, 15, 16, 17, 18, 19, 20, 21, 22, 23, 24] (by decide +kernel) (by decide +kernel)
set_option maxRecDepth 20000 in
theorem gX5_init_X4_init_n11 : GoodIn wsX5_init (wsX4_init) := ggX5_init_X4_init
theorem dX5_init_0 : decode cX5_init 0 = .ok (.aload_n 0, 1) := by decide +kernel
theorem dX5_init_1 : decode cX5_init 1 = .ok (.invokespecial 3, 3) := by decide +kernel
theorem dX5_init_4 : decode cX5_init 4 = .ok (.aload_n 0, 1) := by decide +kernel
theorem dX5_init_5 : decode cX5_init 5 = .ok (.new 9, 3) := by decide +kernel
theorem dX5_init_8 : decode cX5_init 8 = .ok (.dup, 1) := by decide +kernel
theorem dX5_init_9 : decode cX5_init 9 = .ok (.invokespecial 11, 3) := by decide +kernel
theorem dX5_init_12 : decode cX5_init 12 = .ok (.putfield 12, 3) := by decide +kernel
theorem dX5_init_15 : decode cX5_init 15 = .ok (.return_, 1) := by decide +kernel
set_option maxRecDepth 20000 in
theorem ggX5_begin_X4_copyFrom : GoodIn wsX5_begin wsX4_copyFrom := goodIn_r _ [10, 11, 12, 13, 14, 15, 16, 17, 18, 19, 20, 21, 22, 23, 24, 25, 26, 27, 28, 34, 35, 36, 37, 38, 39, 40] (by decide +kernel) (by decide +kernel)
set_option maxRecDepth 20000 in
theorem gX5_begin_X4_copyFrom : GoodIn wsX5_begin (wsV RX5 18 RX4 yX4_copyFrom wsX4_copyFrom) := goodIn_app (goodIn_of _ (by decide +kernel)) ggX5_begin_X4_copyFrom
theorem dX5_begin_0 : decode cX5_begin 0 = .ok (.aload_n 0, 1) := by decide +kernel
theorem dX5_begin_1 : decode cX5_begin 1 = .ok (.getfield 12, 3) := by decide +kernel
theorem dX5_begin_4 : decode cX5_begin 4 = .ok (.aload_n 1, 1) := by decide +kernel
theorem dX5_begin_5 : decode cX5_begin 5 = .ok (.invokevirtual 18, 3) := by decide +kernel
theorem dX5_begin_8 : decode cX5_begin 8 = .ok (.aload_n 0, 1) := by decide +kernel
theorem dX5_begin_9 : decode cX5_begin 9 = .ok (.iload_n 2, 1) := by decide +kernel
theorem dX5_begin_10 : decode cX5_begin 10 = .ok (.putfield 22, 3) := by decide +kernel
theorem dX5_begin_13 : decode cX5_begin 13 = .ok (.aload_n 0, 1) := by decide +kernel
theorem dX5_begin_14 : decode cX5_begin 14 = .ok (.iconst 0, 1) := by decide +kernel
theorem dX5_begin_15 : decode cX5_begin 15 = .ok (.putfield 26, 3) := by decide +kernel
theorem dX5_begin_18 : decode cX5_begin 18 = .ok (.aload_n 0, 1) := by decide +kernel
theorem dX5_begin_19 : decode cX5_begin 19 = .ok (.iconst 0, 1) := by decide +kernel
theorem dX5_begin_20 : decode cX5_begin 20 = .ok (.putfield 29, 3) := by decide +kernel
theorem dX5_begin_23 : decode cX5_begin 23 = .ok (.aload_n 0, 1) := by decide +kernel
theorem dX5_begin_24 : decode cX5_begin 24 = .ok (.iconst 0, 1) := by decide +kernel
theorem dX5_begin_25 : decode cX5_begin 25 = .ok (.putfield 33, 3) := by decide +kernel
theorem dX5_begin_28 : decode cX5_begin 28 = .ok (.return_, 1) := by decide +kernel
theorem dX5_gathered_0 : decode cX5_gathered 0 = .ok (.aload_n 0, 1) := by decide +kernel
theorem dX5_gathered_1 : decode cX5_gathered 1 = .ok (.getfield 33, 3) := by decide +kernel
theorem dX5_gathered_4 : decode cX5_gathered 4 = .ok (.ireturn, 1) := by decide +kernel
set_option maxRecDepth 20000 in
theorem ggX5_receive_X6_add : GoodIn wsX5_receive wsX6_add := goodIn_r _ [5] (by decide +kernel) (by decide +kernel)
set_option maxRecDepth 20000 in
theorem gX5_receive_X6_add_n40 : GoodIn wsX5_receive (wsX6_add) := ggX5_receive_X6_add
set_option maxRecDepth 20000 in
theorem ggX5_receive_X6_at : GoodIn wsX5_receive wsX6_at := goodIn_r _ [7] (by decide +kernel) (by decide +kernel)
set_option maxRecDepth 20000 in
theorem gX5_receive_X6_at_n44 : GoodIn wsX5_receive (wsX6_at) := ggX5_receive_X6_at
theorem dX5_receive_0 : decode cX5_receive 0 = .ok (.aload_n 0, 1) := by decide +kernel
theorem dX5_receive_1 : decode cX5_receive 1 = .ok (.getfield 12, 3) := by decide +kernel
theorem dX5_receive_4 : decode cX5_receive 4 = .ok (.getfield 36, 3) := by decide +kernel
theorem dX5_receive_7 : decode cX5_receive 7 = .ok (.iload_n 1, 1) := by decide +kernel
theorem dX5_receive_8 : decode cX5_receive 8 = .ok (.iconst 1, 1) := by decide +kernel
theorem dX5_receive_9 : decode cX5_receive 9 = .ok (.invokestatic 40, 3) := by decide +kernel
theorem dX5_receive_12 : decode cX5_receive 12 = .ok (.aload_n 0, 1) := by decide +kernel
theorem dX5_receive_13 : decode cX5_receive 13 = .ok (.getfield 12, 3) := by decide +kernel
theorem dX5_receive_16 : decode cX5_receive 16 = .ok (.getfield 36, 3) := by decide +kernel
theorem dX5_receive_19 : decode cX5_receive 19 = .ok (.iload_n 1, 1) := by decide +kernel
theorem dX5_receive_20 : decode cX5_receive 20 = .ok (.invokestatic 44, 3) := by decide +kernel
theorem dX5_receive_23 : decode cX5_receive 23 = .ok (.ldc 48, 2) := by decide +kernel
theorem dX5_receive_25 : decode cX5_receive 25 = .ok (.if_icmp .gt 7, 3) := by decide +kernel
theorem dX5_receive_28 : decode cX5_receive 28 = .ok (.iconst 1, 1) := by decide +kernel
theorem dX5_receive_29 : decode cX5_receive 29 = .ok (.goto 4, 3) := by decide +kernel
theorem dX5_receive_32 : decode cX5_receive 32 = .ok (.iconst 0, 1) := by decide +kernel
theorem dX5_receive_33 : decode cX5_receive 33 = .ok (.ireturn, 1) := by decide +kernel
set_option maxRecDepth 20000 in
theorem ggX5_fulfil_X6_at : GoodIn wsX5_fulfil wsX6_at := goodIn_r _ [5] (by decide +kernel) (by decide +kernel)
set_option maxRecDepth 20000 in
theorem gX5_fulfil_X6_at_n44 : GoodIn wsX5_fulfil (wsX6_at) := ggX5_fulfil_X6_at
set_option maxRecDepth 20000 in
theorem ggX5_fulfil_X5_provide : GoodIn wsX5_fulfil wsX5_provide := goodIn_r _ [10, 11, 12, 13, 14, 15, 16, 3, 4, 5, 17, 18, 19, 20, 21, 22, 23, 24, 25, 9, 26, 27, 28, 29, 30, 2, 31, 1, 32, 33, 34, 35, 36, 37, 38, 39, 40, 41, 42, 43, 44, 45, 46, 47, 48, 49, 50, 51, 52, 53, 54, 55, 56, 57, 58, 59, 60, 61, 62, 63, 64, 65, 66, 67, 68, 69, 70, 71, 72, 73, 74, 75, 76, 77, 78, 79, 80, 81, 82, 83, 84, 85, 86, 6, 7, 8, 99, 100, 101, 102, 103, 104, 105, 106, 87, 88, 89, 90, 91, 92, 93, 94, 95, 96, 97, 98] (by decide +kernel) (by decide +kernel)
set_option maxRecDepth 20000 in
theorem gX5_fulfil_X5_provide : GoodIn wsX5_fulfil (wsV RX5 49 RX5 yX5_provide wsX5_provide) := goodIn_app (goodIn_of _ (by decide +kernel)) ggX5_fulfil_X5_provide
theorem dX5_fulfil_0 : decode cX5_fulfil 0 = .ok (.iload_n 3, 1) := by decide +kernel
theorem dX5_fulfil_1 : decode cX5_fulfil 1 = .ok (.aload_n 0, 1) := by decide +kernel
theorem dX5_fulfil_2 : decode cX5_fulfil 2 = .ok (.getfield 12, 3) := by decide +kernel
theorem dX5_fulfil_5 : decode cX5_fulfil 5 = .ok (.getfield 36, 3) := by decide +kernel
theorem dX5_fulfil_8 : decode cX5_fulfil 8 = .ok (.iload_n 2, 1) := by decide +kernel
theorem dX5_fulfil_9 : decode cX5_fulfil 9 = .ok (.invokestatic 44, 3) := by decide +kernel
theorem dX5_fulfil_12 : decode cX5_fulfil 12 = .ok (.isub, 1) := by decide +kernel
theorem dX5_fulfil_13 : decode cX5_fulfil 13 = .ok (.istore 4, 2) := by decide +kernel
theorem dX5_fulfil_15 : decode cX5_fulfil 15 = .ok (.iload 4, 2) := by decide +kernel
theorem dX5_fulfil_17 : decode cX5_fulfil 17 = .ok (.ifCond .le 12, 3) := by decide +kernel
theorem dX5_fulfil_20 : decode cX5_fulfil 20 = .ok (.aload_n 0, 1) := by decide +kernel
theorem dX5_fulfil_21 : decode cX5_fulfil 21 = .ok (.aload_n 1, 1) := by decide +kernel
theorem dX5_fulfil_22 : decode cX5_fulfil 22 = .ok (.iload_n 2, 1) := by decide +kernel
theorem dX5_fulfil_23 : decode cX5_fulfil 23 = .ok (.iload 4, 2) := by decide +kernel
theorem dX5_fulfil_25 : decode cX5_fulfil 25 = .ok (.iconst 0, 1) := by decide +kernel
theorem dX5_fulfil_26 : decode cX5_fulfil 26 = .ok (.invokevirtual 49, 3) := by decide +kernel
theorem dX5_fulfil_29 : decode cX5_fulfil 29 = .ok (.aload_n 0, 1) := by decide +kernel
theorem dX5_fulfil_30 : decode cX5_fulfil 30 = .ok (.getfield 26, 3) := by decide +kernel
theorem dX5_fulfil_33 : decode cX5_fulfil 33 = .ok (.ifCond .ne 7, 3) := by decide +kernel
theorem dX5_fulfil_36 : decode cX5_fulfil 36 = .ok (.iconst 1, 1) := by decide +kernel
theorem dX5_fulfil_37 : decode cX5_fulfil 37 = .ok (.goto 4, 3) := by decide +kernel
theorem dX5_fulfil_40 : decode cX5_fulfil 40 = .ok (.iconst 0, 1) := by decide +kernel
theorem dX5_fulfil_41 : decode cX5_fulfil 41 = .ok (.ireturn, 1) := by decide +kernel
set_option maxRecDepth 20000 in
theorem ggX5_runAll_X5_run : GoodIn wsX5_runAll wsX5_run := goodIn_r _ [6, 7, 1, 8, 9, 10, 11, 12, 13, 14, 15, 16, 17, 18, 19, 20, 21, 22, 23, 24, 25, 26, 27, 28, 29, 30, 5, 31, 32, 33, 34, 35, 36, 37, 38, 39, 40, 41, 42, 43, 44, 45, 46, 47, 48, 49, 2, 3, 4, 50, 51, 52, 53, 54, 55, 56, 57, 58, 59, 60, 61, 62, 63, 64, 65, 66, 67, 68, 69, 70, 71, 72, 73, 74, 75, 76, 77, 78, 79, 80, 81, 82, 83, 84, 85, 86, 92, 93, 94, 95, 96, 97, 98, 99, 87, 88, 89, 90, 91, 100, 101, 102, 103, 104, 105, 106] (by decide +kernel) (by decide +kernel)
set_option maxRecDepth 20000 in
theorem gX5_runAll_X5_run : GoodIn wsX5_runAll (wsV RX5 53 RX5 yX5_run wsX5_run) := goodIn_app (goodIn_of _ (by decide +kernel)) ggX5_runAll_X5_run
theorem dX5_runAll_0 : decode cX5_runAll 0 = .ok (.aload_n 0, 1) := by decide +kernel
theorem dX5_runAll_1 : decode cX5_runAll 1 = .ok (.aload_n 1, 1) := by decide +kernel
theorem dX5_runAll_2 : decode cX5_runAll 2 = .ok (.iload_n 2, 1) := by decide +kernel
theorem dX5_runAll_3 : decode cX5_runAll 3 = .ok (.iload_n 3, 1) := by decide +kernel
theorem dX5_runAll_4 : decode cX5_runAll 4 = .ok (.iconst 0, 1) := by decide +kernel
theorem dX5_runAll_5 : decode cX5_runAll 5 = .ok (.invokevirtual 53, 3) := by decide +kernel
theorem dX5_runAll_8 : decode cX5_runAll 8 = .ok (.aload_n 0, 1) := by decide +kernel
theorem dX5_runAll_9 : decode cX5_runAll 9 = .ok (.getfield 26, 3) := by decide +kernel
theorem dX5_runAll_12 : decode cX5_runAll 12 = .ok (.ifCond .ne 7, 3) := by decide +kernel
theorem dX5_runAll_15 : decode cX5_runAll 15 = .ok (.iconst 1, 1) := by decide +kernel
theorem dX5_runAll_16 : decode cX5_runAll 16 = .ok (.goto 4, 3) := by decide +kernel
theorem dX5_runAll_19 : decode cX5_runAll 19 = .ok (.iconst 0, 1) := by decide +kernel
theorem dX5_runAll_20 : decode cX5_runAll 20 = .ok (.ireturn, 1) := by decide +kernel
set_option maxRecDepth 20000 in
theorem ggX5_provide_X0_isMade : GoodIn wsX5_provide wsX0_isMade := goodIn_r _ [5, 6, 7, 8, 9, 86, 87, 88, 89, 90, 91, 92, 93] (by decide +kernel) (by decide +kernel)
set_option maxRecDepth 20000 in
theorem gX5_provide_X0_isMade : GoodIn wsX5_provide (wsV RX5 56 RX0 yX0_isMade wsX0_isMade) := goodIn_app (goodIn_of _ (by decide +kernel)) ggX5_provide_X0_isMade
set_option maxRecDepth 20000 in
theorem ggX5_provide_X0_yieldOf : GoodIn wsX5_provide wsX0_yieldOf := goodIn_r _ [13, 6, 7, 8, 9, 86, 87, 88, 89, 90, 91, 92, 93] (by decide +kernel) (by decide +kernel)
set_option maxRecDepth 20000 in
theorem gX5_provide_X0_yieldOf : GoodIn wsX5_provide (wsV RX5 62 RX0 yX0_yieldOf wsX0_yieldOf) := goodIn_app (goodIn_of _ (by decide +kernel)) ggX5_provide_X0_yieldOf
set_option maxRecDepth 20000 in
theorem ggX5_provide_X6_divideUp : GoodIn wsX5_provide wsX6_divideUp := goodIn_r _ [15] (by decide +kernel) (by decide +kernel)
set_option maxRecDepth 20000 in
theorem gX5_provide_X6_divideUp_n66 : GoodIn wsX5_provide (wsX6_divideUp) := ggX5_provide_X6_divideUp
set_option maxRecDepth 20000 in
theorem ggX5_provide_X5_run : GoodIn wsX5_provide wsX5_run := goodIn_r _ [35, 36, 25, 27, 37, 38, 39, 4, 40, 41, 7, 8, 9, 42, 43, 44, 45, 46, 47, 48, 49, 50, 51, 52, 53, 54, 19, 10, 11, 12, 13, 6, 28, 29, 30, 31, 32, 33, 34, 0, 1, 2, 3, 5, 14, 15, 16, 17, 18, 20, 21, 22, 23, 24, 26, 55, 56, 57, 58, 59, 60, 61, 62, 63, 64, 65, 66, 67, 68, 69, 70, 71, 72, 73, 74, 75, 76, 77, 78, 79, 80, 81, 82, 83, 84, 85, 86, 87, 88, 89, 90, 91, 92, 93, 94, 95, 96, 97, 98, 99, 100, 101, 102, 103, 104, 105] (by decide +kernel) (by decide +kernel)
set_option maxRecDepth 20000 in
theorem gX5_provide_X5_run : GoodIn wsX5_provide (wsV RX5 53 RX5 yX5_run wsX5_run) := goodIn_app (goodIn_of _ (by decide +kernel)) ggX5_provide_X5_run
set_option maxRecDepth 20000 in
theorem ggX5_provide_X5_collect : GoodIn wsX5_provide wsX5_collect := goodIn_r _ [23, 24, 25, 26, 27, 28, 29, 30, 19, 31, 32, 33, 8, 34, 7, 9, 94, 95, 96, 97, 98, 99, 100, 101, 102, 103, 104, 105] (by decide +kernel) (by decide +kernel)
set_option maxRecDepth 20000 in
theorem gX5_provide_X5_collect : GoodIn wsX5_provide (wsV RX5 70 RX5 yX5_collect wsX5_collect) := goodIn_app (goodIn_of _ (by decide +kernel)) ggX5_provide_X5_collect
theorem dX5_provide_0 : decode cX5_provide 0 = .ok (.aload_n 1, 1) := by decide +kernel
theorem dX5_provide_1 : decode cX5_provide 1 = .ok (.iload_n 2, 1) := by decide +kernel
theorem dX5_provide_2 : decode cX5_provide 2 = .ok (.invokevirtual 56, 3) := by decide +kernel
theorem dX5_provide_5 : decode cX5_provide 5 = .ok (.ifCond .eq 23, 3) := by decide +kernel
theorem dX5_provide_8 : decode cX5_provide 8 = .ok (.aload_n 0, 1) := by decide +kernel
theorem dX5_provide_9 : decode cX5_provide 9 = .ok (.aload_n 1, 1) := by decide +kernel
theorem dX5_provide_10 : decode cX5_provide 10 = .ok (.iload_n 2, 1) := by decide +kernel
theorem dX5_provide_11 : decode cX5_provide 11 = .ok (.iload_n 3, 1) := by decide +kernel
theorem dX5_provide_12 : decode cX5_provide 12 = .ok (.aload_n 1, 1) := by decide +kernel
theorem dX5_provide_13 : decode cX5_provide 13 = .ok (.iload_n 2, 1) := by decide +kernel
theorem dX5_provide_14 : decode cX5_provide 14 = .ok (.invokevirtual 62, 3) := by decide +kernel
theorem dX5_provide_17 : decode cX5_provide 17 = .ok (.invokestatic 66, 3) := by decide +kernel
theorem dX5_provide_20 : decode cX5_provide 20 = .ok (.iload 4, 2) := by decide +kernel
theorem dX5_provide_22 : decode cX5_provide 22 = .ok (.invokevirtual 53, 3) := by decide +kernel
theorem dX5_provide_25 : decode cX5_provide 25 = .ok (.goto 9, 3) := by decide +kernel
theorem dX5_provide_28 : decode cX5_provide 28 = .ok (.aload_n 0, 1) := by decide +kernel
theorem dX5_provide_29 : decode cX5_provide 29 = .ok (.iload_n 2, 1) := by decide +kernel
theorem dX5_provide_30 : decode cX5_provide 30 = .ok (.iload_n 3, 1) := by decide +kernel
theorem dX5_provide_31 : decode cX5_provide 31 = .ok (.invokevirtual 70, 3) := by decide +kernel
theorem dX5_provide_34 : decode cX5_provide 34 = .ok (.return_, 1) := by decide +kernel
set_option maxRecDepth 20000 in
theorem ggX5_run_X0_ingredientsOf : GoodIn wsX5_run wsX0_ingredientsOf := goodIn_r _ [8, 9, 10, 11, 12, 86, 87, 88, 89, 90, 91, 92, 93] (by decide +kernel) (by decide +kernel)
set_option maxRecDepth 20000 in
theorem gX5_run_X0_ingredientsOf : GoodIn wsX5_run (wsV RX5 74 RX0 yX0_ingredientsOf wsX0_ingredientsOf) := goodIn_app (goodIn_of _ (by decide +kernel)) ggX5_run_X0_ingredientsOf
set_option maxRecDepth 20000 in
theorem ggX5_run_X0_ingredientAt : GoodIn wsX5_run wsX0_ingredientAt := goodIn_r _ [16, 17, 10, 11, 12, 86, 87, 88, 89, 90, 91, 92, 93] (by decide +kernel) (by decide +kernel)
set_option maxRecDepth 20000 in
theorem gX5_run_X0_ingredientAt : GoodIn wsX5_run (wsV RX5 77 RX0 yX0_ingredientAt wsX0_ingredientAt) := goodIn_app (goodIn_of _ (by decide +kernel)) ggX5_run_X0_ingredientAt
set_option maxRecDepth 20000 in
theorem ggX5_run_X0_amountAt : GoodIn wsX5_run wsX0_amountAt := goodIn_r _ [21, 22, 10, 11, 12, 86, 87, 88, 89, 90, 91, 92, 93] (by decide +kernel) (by decide +kernel)
set_option maxRecDepth 20000 in
theorem gX5_run_X0_amountAt : GoodIn wsX5_run (wsV RX5 80 RX0 yX0_amountAt wsX0_amountAt) := goodIn_app (goodIn_of _ (by decide +kernel)) ggX5_run_X0_amountAt
set_option maxRecDepth 20000 in
theorem ggX5_run_X5_take : GoodIn wsX5_run wsX5_take := goodIn_r _ [55, 2, 56, 57, 58, 26, 59, 3, 60, 61, 62, 63, 10, 11, 12, 37, 38, 64, 65, 66, 7, 67, 68, 32, 33, 34, 35, 36, 69, 70, 71, 72, 73, 74, 75, 76, 77, 78, 79, 80, 81, 82, 40, 41, 42, 43, 31, 83, 84, 85, 39, 27, 28, 29, 30, 44, 45, 46, 47, 48, 49, 50, 51, 52, 53, 54, 0, 1, 4, 5, 6, 8, 9, 13, 14, 15, 16, 17, 18, 19, 20, 21, 22, 23, 24, 25, 86, 87, 88, 89, 90, 91, 92, 93, 94, 95, 96, 97, 98, 99, 100, 101, 102, 103, 104, 105] (by decide +kernel) (by decide +kernel)
set_option maxRecDepth 20000 in
theorem gX5_run_X5_take : GoodIn wsX5_run (wsV RX5 83 RX5 yX5_take wsX5_take) := goodIn_app (goodIn_of _ (by decide +kernel)) ggX5_run_X5_take
set_option maxRecDepth 20000 in
theorem ggX5_run_X0_yieldOf : GoodIn wsX5_run wsX0_yieldOf := goodIn_r _ [30, 31, 10, 11, 12, 86, 87, 88, 89, 90, 91, 92, 93] (by decide +kernel) (by decide +kernel)
set_option maxRecDepth 20000 in
theorem gX5_run_X0_yieldOf : GoodIn wsX5_run (wsV RX5 62 RX0 yX0_yieldOf wsX0_yieldOf) := goodIn_app (goodIn_of _ (by decide +kernel)) ggX5_run_X0_yieldOf
set_option maxRecDepth 20000 in
theorem ggX5_run_X5_comeIn : GoodIn wsX5_run wsX5_comeIn := goodIn_r _ [35, 3, 36, 2, 37, 11, 38, 10, 12, 94, 95, 96, 97, 98, 99, 100, 101, 102, 103, 104, 105] (by decide +kernel) (by decide +kernel)
set_option maxRecDepth 20000 in
theorem gX5_run_X5_comeIn : GoodIn wsX5_run (wsV RX5 89 RX5 yX5_comeIn wsX5_comeIn) := goodIn_app (goodIn_of _ (by decide +kernel)) ggX5_run_X5_comeIn
theorem dX5_run_0 : decode cX5_run 0 = .ok (.aload_n 0, 1) := by decide +kernel
theorem dX5_run_1 : decode cX5_run 1 = .ok (.dup, 1) := by decide +kernel
theorem dX5_run_2 : decode cX5_run 2 = .ok (.getfield 29, 3) := by decide +kernel
theorem dX5_run_5 : decode cX5_run 5 = .ok (.iload_n 3, 1) := by decide +kernel
theorem dX5_run_6 : decode cX5_run 6 = .ok (.iadd, 1) := by decide +kernel
theorem dX5_run_7 : decode cX5_run 7 = .ok (.putfield 29, 3) := by decide +kernel
theorem dX5_run_10 : decode cX5_run 10 = .ok (.aload_n 0, 1) := by decide +kernel
theorem dX5_run_11 : decode cX5_run 11 = .ok (.getfield 29, 3) := by decide +kernel
theorem dX5_run_14 : decode cX5_run 14 = .ok (.sipush 500, 3) := by decide +kernel
theorem dX5_run_17 : decode cX5_run 17 = .ok (.if_icmp .gt 10, 3) := by decide +kernel
theorem dX5_run_20 : decode cX5_run 20 = .ok (.iload 4, 2) := by decide +kernel
theorem dX5_run_22 : decode cX5_run 22 = .ok (.bipush 8, 2) := by decide +kernel
theorem dX5_run_24 : decode cX5_run 24 = .ok (.if_icmp .le 8, 3) := by decide +kernel
theorem dX5_run_27 : decode cX5_run 27 = .ok (.aload_n 0, 1) := by decide +kernel
theorem dX5_run_28 : decode cX5_run 28 = .ok (.iconst 1, 1) := by decide +kernel
theorem dX5_run_29 : decode cX5_run 29 = .ok (.putfield 26, 3) := by decide +kernel
theorem dX5_run_32 : decode cX5_run 32 = .ok (.aload_n 1, 1) := by decide +kernel
theorem dX5_run_33 : decode cX5_run 33 = .ok (.iload_n 2, 1) := by decide +kernel
theorem dX5_run_34 : decode cX5_run 34 = .ok (.invokevirtual 74, 3) := by decide +kernel
theorem dX5_run_37 : decode cX5_run 37 = .ok (.istore 5, 2) := by decide +kernel
theorem dX5_run_39 : decode cX5_run 39 = .ok (.iconst 0, 1) := by decide +kernel
theorem dX5_run_40 : decode cX5_run 40 = .ok (.istore 6, 2) := by decide +kernel
theorem dX5_run_42 : decode cX5_run 42 = .ok (.iload 6, 2) := by decide +kernel
theorem dX5_run_44 : decode cX5_run 44 = .ok (.iload 5, 2) := by decide +kernel
theorem dX5_run_46 : decode cX5_run 46 = .ok (.if_icmp .ge 39, 3) := by decide +kernel
theorem dX5_run_49 : decode cX5_run 49 = .ok (.aload_n 0, 1) := by decide +kernel
theorem dX5_run_50 : decode cX5_run 50 = .ok (.getfield 26, 3) := by decide +kernel
theorem dX5_run_53 : decode cX5_run 53 = .ok (.ifCond .ne 32, 3) := by decide +kernel
theorem dX5_run_56 : decode cX5_run 56 = .ok (.aload_n 0, 1) := by decide +kernel
theorem dX5_run_57 : decode cX5_run 57 = .ok (.aload_n 1, 1) := by decide +kernel
theorem dX5_run_58 : decode cX5_run 58 = .ok (.aload_n 1, 1) := by decide +kernel
theorem dX5_run_59 : decode cX5_run 59 = .ok (.iload_n 2, 1) := by decide +kernel
theorem dX5_run_60 : decode cX5_run 60 = .ok (.iload 6, 2) := by decide +kernel
theorem dX5_run_62 : decode cX5_run 62 = .ok (.invokevirtual 77, 3) := by decide +kernel
theorem dX5_run_65 : decode cX5_run 65 = .ok (.aload_n 1, 1) := by decide +kernel
theorem dX5_run_66 : decode cX5_run 66 = .ok (.iload_n 2, 1) := by decide +kernel
theorem dX5_run_67 : decode cX5_run 67 = .ok (.iload 6, 2) := by decide +kernel
theorem dX5_run_69 : decode cX5_run 69 = .ok (.invokevirtual 80, 3) := by decide +kernel
theorem dX5_run_72 : decode cX5_run 72 = .ok (.iload_n 3, 1) := by decide +kernel
theorem dX5_run_73 : decode cX5_run 73 = .ok (.imul, 1) := by decide +kernel
theorem dX5_run_74 : decode cX5_run 74 = .ok (.iload 4, 2) := by decide +kernel
theorem dX5_run_76 : decode cX5_run 76 = .ok (.invokevirtual 83, 3) := by decide +kernel
theorem dX5_run_79 : decode cX5_run 79 = .ok (.iinc 6 1, 3) := by decide +kernel
theorem dX5_run_82 : decode cX5_run 82 = .ok (.goto (-40), 3) := by decide +kernel
theorem dX5_run_85 : decode cX5_run 85 = .ok (.aload_n 0, 1) := by decide +kernel
theorem dX5_run_86 : decode cX5_run 86 = .ok (.getfield 26, 3) := by decide +kernel
theorem dX5_run_89 : decode cX5_run 89 = .ok (.ifCond .ne 35, 3) := by decide +kernel
theorem dX5_run_92 : decode cX5_run 92 = .ok (.aload_n 0, 1) := by decide +kernel
theorem dX5_run_93 : decode cX5_run 93 = .ok (.iload_n 2, 1) := by decide +kernel
theorem dX5_run_94 : decode cX5_run 94 = .ok (.aload_n 1, 1) := by decide +kernel
theorem dX5_run_95 : decode cX5_run 95 = .ok (.iload_n 2, 1) := by decide +kernel
theorem dX5_run_96 : decode cX5_run 96 = .ok (.invokevirtual 62, 3) := by decide +kernel
theorem dX5_run_99 : decode cX5_run 99 = .ok (.iload_n 3, 1) := by decide +kernel
theorem dX5_run_100 : decode cX5_run 100 = .ok (.imul, 1) := by decide +kernel
theorem dX5_run_101 : decode cX5_run 101 = .ok (.aload_n 0, 1) := by decide +kernel
theorem dX5_run_102 : decode cX5_run 102 = .ok (.getfield 12, 3) := by decide +kernel
theorem dX5_run_105 : decode cX5_run 105 = .ok (.getfield 86, 3) := by decide +kernel
theorem dX5_run_108 : decode cX5_run 108 = .ok (.invokevirtual 89, 3) := by decide +kernel
theorem dX5_run_111 : decode cX5_run 111 = .ok (.aload_n 0, 1) := by decide +kernel
theorem dX5_run_112 : decode cX5_run 112 = .ok (.getfield 12, 3) := by decide +kernel
theorem dX5_run_115 : decode cX5_run 115 = .ok (.dup, 1) := by decide +kernel
theorem dX5_run_116 : decode cX5_run 116 = .ok (.getfield 93, 3) := by decide +kernel
theorem dX5_run_119 : decode cX5_run 119 = .ok (.iload_n 3, 1) := by decide +kernel
theorem dX5_run_120 : decode cX5_run 120 = .ok (.iadd, 1) := by decide +kernel
theorem dX5_run_121 : decode cX5_run 121 = .ok (.putfield 93, 3) := by decide +kernel
theorem dX5_run_124 : decode cX5_run 124 = .ok (.return_, 1) := by decide +kernel
set_option maxRecDepth 20000 in
theorem ggX5_take_X5_useUp : GoodIn wsX5_take wsX5_useUp := goodIn_r _ [6, 7, 8, 9, 10, 11, 12, 13, 14, 15, 16, 17, 18, 19, 20, 21, 22, 23, 24, 25, 5, 26, 27, 1, 94, 95, 96, 97, 98, 99, 100, 101, 102, 103, 104, 105, 86, 87, 88, 89, 90, 91, 92, 93] (by decide +kernel) (by decide +kernel)
set_option maxRecDepth 20000 in
theorem gX5_take_X5_useUp : GoodIn wsX5_take (wsV RX5 94 RX5 yX5_useUp wsX5_useUp) := goodIn_app (goodIn_of _ (by decide +kernel)) ggX5_take_X5_useUp
set_option maxRecDepth 20000 in
theorem ggX5_take_X0_substitutesOf : GoodIn wsX5_take wsX0_substitutesOf := goodIn_r _ [31, 32, 12, 13, 14, 86, 87, 88, 89, 90, 91, 92, 93] (by decide +kernel) (by decide +kernel)
set_option maxRecDepth 20000 in
theorem gX5_take_X0_substitutesOf : GoodIn wsX5_take (wsV RX5 98 RX0 yX0_substitutesOf wsX0_substitutesOf) := goodIn_app (goodIn_of _ (by decide +kernel)) ggX5_take_X0_substitutesOf
set_option maxRecDepth 20000 in
theorem ggX5_take_X0_substituteAt : GoodIn wsX5_take wsX0_substituteAt := goodIn_r _ [36, 37, 12, 13, 14, 86, 87, 88, 89, 90, 91, 92, 93] (by decide +kernel) (by decide +kernel)
set_option maxRecDepth 20000 in
theorem gX5_take_X0_substituteAt : GoodIn wsX5_take (wsV RX5 101 RX0 yX0_substituteAt wsX0_substituteAt) := goodIn_app (goodIn_of _ (by decide +kernel)) ggX5_take_X0_substituteAt
set_option maxRecDepth 20000 in
theorem ggX5_take_X5_standIn : GoodIn wsX5_take wsX5_standIn := goodIn_r _ [41, 42, 43, 44, 20, 45, 46, 12, 13, 14, 28, 29, 30, 31, 32, 33, 34, 35, 36, 37, 86, 87, 88, 89, 90, 91, 92, 93] (by decide +kernel) (by decide +kernel)
set_option maxRecDepth 20000 in
theorem gX5_take_X5_standIn : GoodIn wsX5_take (wsV RX5 104 RX5 yX5_standIn wsX5_standIn) := goodIn_app (goodIn_of _ (by decide +kernel)) ggX5_take_X5_standIn
set_option maxRecDepth 20000 in
theorem ggX5_take_X5_provide : GoodIn wsX5_take wsX5_provide := goodIn_r _ [50, 42, 43, 44, 20, 45, 46, 12, 13, 14, 51, 52, 53, 54, 55, 56, 57, 58, 59, 5, 60, 61, 62, 63, 64, 1, 65, 7, 23, 24, 25, 26, 27, 15, 16, 66, 67, 68, 69, 70, 71, 72, 73, 74, 75, 76, 77, 78, 79, 80, 81, 82, 83, 84, 85, 0, 2, 3, 4, 6, 8, 9, 10, 11, 17, 18, 19, 21, 22, 28, 29, 30, 31, 32, 33, 34, 35, 36, 37, 38, 39, 40, 41, 47, 48, 49, 86, 87, 88, 89, 90, 91, 92, 93, 94, 95, 96, 97, 98, 99, 100, 101, 102, 103, 104, 105] (by decide +kernel) (by decide +kernel)
set_option maxRecDepth 20000 in
theorem gX5_take_X5_provide : GoodIn wsX5_take (wsV RX5 49 RX5 yX5_provide wsX5_provide) := goodIn_app (goodIn_of _ (by decide +kernel)) ggX5_take_X5_provide
theorem dX5_take_0 : decode cX5_take 0 = .ok (.iload_n 3, 1) := by decide +kernel
theorem dX5_take_1 : decode cX5_take 1 = .ok (.aload_n 0, 1) := by decide +kernel
theorem dX5_take_2 : decode cX5_take 2 = .ok (.aload_n 1, 1) := by decide +kernel
theorem dX5_take_3 : decode cX5_take 3 = .ok (.iload_n 2, 1) := by decide +kernel
theorem dX5_take_4 : decode cX5_take 4 = .ok (.iload_n 3, 1) := by decide +kernel
theorem dX5_take_5 : decode cX5_take 5 = .ok (.invokevirtual 94, 3) := by decide +kernel
theorem dX5_take_8 : decode cX5_take 8 = .ok (.isub, 1) := by decide +kernel
theorem dX5_take_9 : decode cX5_take 9 = .ok (.istore 5, 2) := by decide +kernel
theorem dX5_take_11 : decode cX5_take 11 = .ok (.aload_n 1, 1) := by decide +kernel
theorem dX5_take_12 : decode cX5_take 12 = .ok (.iload_n 2, 1) := by decide +kernel
theorem dX5_take_13 : decode cX5_take 13 = .ok (.invokevirtual 98, 3) := by decide +kernel
theorem dX5_take_16 : decode cX5_take 16 = .ok (.istore 6, 2) := by decide +kernel
theorem dX5_take_18 : decode cX5_take 18 = .ok (.iconst 0, 1) := by decide +kernel
theorem dX5_take_19 : decode cX5_take 19 = .ok (.istore 7, 2) := by decide +kernel
theorem dX5_take_21 : decode cX5_take 21 = .ok (.iload 7, 2) := by decide +kernel
theorem dX5_take_23 : decode cX5_take 23 = .ok (.iload 6, 2) := by decide +kernel
theorem dX5_take_25 : decode cX5_take 25 = .ok (.if_icmp .ge 33, 3) := by decide +kernel
theorem dX5_take_28 : decode cX5_take 28 = .ok (.iload 5, 2) := by decide +kernel
theorem dX5_take_30 : decode cX5_take 30 = .ok (.ifCond .le 28, 3) := by decide +kernel
theorem dX5_take_33 : decode cX5_take 33 = .ok (.iload 5, 2) := by decide +kernel
theorem dX5_take_35 : decode cX5_take 35 = .ok (.aload_n 0, 1) := by decide +kernel
theorem dX5_take_36 : decode cX5_take 36 = .ok (.aload_n 1, 1) := by decide +kernel
theorem dX5_take_37 : decode cX5_take 37 = .ok (.aload_n 1, 1) := by decide +kernel
theorem dX5_take_38 : decode cX5_take 38 = .ok (.iload_n 2, 1) := by decide +kernel
theorem dX5_take_39 : decode cX5_take 39 = .ok (.iload 7, 2) := by decide +kernel
theorem dX5_take_41 : decode cX5_take 41 = .ok (.invokevirtual 101, 3) := by decide +kernel
theorem dX5_take_44 : decode cX5_take 44 = .ok (.iload 5, 2) := by decide +kernel
theorem dX5_take_46 : decode cX5_take 46 = .ok (.invokevirtual 94, 3) := by decide +kernel
theorem dX5_take_49 : decode cX5_take 49 = .ok (.isub, 1) := by decide +kernel
theorem dX5_take_50 : decode cX5_take 50 = .ok (.istore 5, 2) := by decide +kernel
theorem dX5_take_52 : decode cX5_take 52 = .ok (.iinc 7 1, 3) := by decide +kernel
theorem dX5_take_55 : decode cX5_take 55 = .ok (.goto (-34), 3) := by decide +kernel
theorem dX5_take_58 : decode cX5_take 58 = .ok (.iload 5, 2) := by decide +kernel
theorem dX5_take_60 : decode cX5_take 60 = .ok (.ifCond .le 41, 3) := by decide +kernel
theorem dX5_take_63 : decode cX5_take 63 = .ok (.aload_n 0, 1) := by decide +kernel
theorem dX5_take_64 : decode cX5_take 64 = .ok (.getfield 26, 3) := by decide +kernel
theorem dX5_take_67 : decode cX5_take 67 = .ok (.ifCond .ne 34, 3) := by decide +kernel
theorem dX5_take_70 : decode cX5_take 70 = .ok (.aload_n 0, 1) := by decide +kernel
theorem dX5_take_71 : decode cX5_take 71 = .ok (.aload_n 1, 1) := by decide +kernel
theorem dX5_take_72 : decode cX5_take 72 = .ok (.iload_n 2, 1) := by decide +kernel
theorem dX5_take_73 : decode cX5_take 73 = .ok (.invokevirtual 104, 3) := by decide +kernel
theorem dX5_take_76 : decode cX5_take 76 = .ok (.istore 7, 2) := by decide +kernel
theorem dX5_take_78 : decode cX5_take 78 = .ok (.aload_n 0, 1) := by decide +kernel
theorem dX5_take_79 : decode cX5_take 79 = .ok (.aload_n 1, 1) := by decide +kernel
theorem dX5_take_80 : decode cX5_take 80 = .ok (.iload 7, 2) := by decide +kernel
theorem dX5_take_82 : decode cX5_take 82 = .ok (.iload 5, 2) := by decide +kernel
theorem dX5_take_84 : decode cX5_take 84 = .ok (.iload 4, 2) := by decide +kernel
theorem dX5_take_86 : decode cX5_take 86 = .ok (.iconst 1, 1) := by decide +kernel
theorem dX5_take_87 : decode cX5_take 87 = .ok (.iadd, 1) := by decide +kernel
theorem dX5_take_88 : decode cX5_take 88 = .ok (.invokevirtual 49, 3) := by decide +kernel
theorem dX5_take_91 : decode cX5_take 91 = .ok (.aload_n 0, 1) := by decide +kernel
theorem dX5_take_92 : decode cX5_take 92 = .ok (.aload_n 1, 1) := by decide +kernel
theorem dX5_take_93 : decode cX5_take 93 = .ok (.iload 7, 2) := by decide +kernel
theorem dX5_take_95 : decode cX5_take 95 = .ok (.iload 5, 2) := by decide +kernel
theorem dX5_take_97 : decode cX5_take 97 = .ok (.invokevirtual 94, 3) := by decide +kernel
theorem dX5_take_100 : decode cX5_take 100 = .ok (.pop, 1) := by decide +kernel
theorem dX5_take_101 : decode cX5_take 101 = .ok (.return_, 1) := by decide +kernel
set_option maxRecDepth 20000 in
theorem ggX5_standIn_X0_isMade : GoodIn wsX5_standIn wsX0_isMade := goodIn_r _ [5, 6, 7, 8, 9, 20, 21, 22, 23, 24, 25, 26, 27] (by decide +kernel) (by decide +kernel)
set_option maxRecDepth 20000 in
theorem gX5_standIn_X0_isMade : GoodIn wsX5_standIn (wsV RX5 56 RX0 yX0_isMade wsX0_isMade) := goodIn_app (goodIn_of _ (by decide +kernel)) ggX5_standIn_X0_isMade
set_option maxRecDepth 20000 in
theorem ggX5_standIn_X0_substitutesOf : GoodIn wsX5_standIn wsX0_substitutesOf := goodIn_r _ [13, 14, 7, 8, 9, 20, 21, 22, 23, 24, 25, 26, 27] (by decide +kernel) (by decide +kernel)
set_option maxRecDepth 20000 in
theorem gX5_standIn_X0_substitutesOf : GoodIn wsX5_standIn (wsV RX5 98 RX0 yX0_substitutesOf wsX0_substitutesOf) := goodIn_app (goodIn_of _ (by decide +kernel)) ggX5_standIn_X0_substitutesOf
set_option maxRecDepth 20000 in
theorem ggX5_standIn_X0_substituteAt : GoodIn wsX5_standIn wsX0_substituteAt := goodIn_r _ [18, 19, 7, 8, 9, 20, 21, 22, 23, 24, 25, 26, 27] (by decide +kernel) (by decide +kernel)
set_option maxRecDepth 20000 in
theorem gX5_standIn_X0_substituteAt : GoodIn wsX5_standIn (wsV RX5 101 RX0 yX0_substituteAt wsX0_substituteAt) := goodIn_app (goodIn_of _ (by decide +kernel)) ggX5_standIn_X0_substituteAt
theorem dX5_standIn_0 : decode cX5_standIn 0 = .ok (.aload_n 1, 1) := by decide +kernel
theorem dX5_standIn_1 : decode cX5_standIn 1 = .ok (.iload_n 2, 1) := by decide +kernel
theorem dX5_standIn_2 : decode cX5_standIn 2 = .ok (.invokevirtual 56, 3) := by decide +kernel
theorem dX5_standIn_5 : decode cX5_standIn 5 = .ok (.ifCond .eq 5, 3) := by decide +kernel
theorem dX5_standIn_8 : decode cX5_standIn 8 = .ok (.iload_n 2, 1) := by decide +kernel
theorem dX5_standIn_9 : decode cX5_standIn 9 = .ok (.ireturn, 1) := by decide +kernel
theorem dX5_standIn_10 : decode cX5_standIn 10 = .ok (.aload_n 1, 1) := by decide +kernel
theorem dX5_standIn_11 : decode cX5_standIn 11 = .ok (.iload_n 2, 1) := by decide +kernel
theorem dX5_standIn_12 : decode cX5_standIn 12 = .ok (.invokevirtual 98, 3) := by decide +kernel
theorem dX5_standIn_15 : decode cX5_standIn 15 = .ok (.istore_n 3, 1) := by decide +kernel
theorem dX5_standIn_16 : decode cX5_standIn 16 = .ok (.iconst 0, 1) := by decide +kernel
theorem dX5_standIn_17 : decode cX5_standIn 17 = .ok (.istore 4, 2) := by decide +kernel
theorem dX5_standIn_19 : decode cX5_standIn 19 = .ok (.iload 4, 2) := by decide +kernel
theorem dX5_standIn_21 : decode cX5_standIn 21 = .ok (.iload_n 3, 1) := by decide +kernel
theorem dX5_standIn_22 : decode cX5_standIn 22 = .ok (.if_icmp .ge 31, 3) := by decide +kernel
theorem dX5_standIn_25 : decode cX5_standIn 25 = .ok (.aload_n 1, 1) := by decide +kernel
theorem dX5_standIn_26 : decode cX5_standIn 26 = .ok (.aload_n 1, 1) := by decide +kernel
theorem dX5_standIn_27 : decode cX5_standIn 27 = .ok (.iload_n 2, 1) := by decide +kernel
theorem dX5_standIn_28 : decode cX5_standIn 28 = .ok (.iload 4, 2) := by decide +kernel
theorem dX5_standIn_30 : decode cX5_standIn 30 = .ok (.invokevirtual 101, 3) := by decide +kernel
theorem dX5_standIn_33 : decode cX5_standIn 33 = .ok (.invokevirtual 56, 3) := by decide +kernel
theorem dX5_standIn_36 : decode cX5_standIn 36 = .ok (.ifCond .eq 11, 3) := by decide +kernel
theorem dX5_standIn_39 : decode cX5_standIn 39 = .ok (.aload_n 1, 1) := by decide +kernel
theorem dX5_standIn_40 : decode cX5_standIn 40 = .ok (.iload_n 2, 1) := by decide +kernel
theorem dX5_standIn_41 : decode cX5_standIn 41 = .ok (.iload 4, 2) := by decide +kernel
theorem dX5_standIn_43 : decode cX5_standIn 43 = .ok (.invokevirtual 101, 3) := by decide +kernel
theorem dX5_standIn_46 : decode cX5_standIn 46 = .ok (.ireturn, 1) := by decide +kernel
theorem dX5_standIn_47 : decode cX5_standIn 47 = .ok (.iinc 4 1, 3) := by decide +kernel
theorem dX5_standIn_50 : decode cX5_standIn 50 = .ok (.goto (-31), 3) := by decide +kernel
theorem dX5_standIn_53 : decode cX5_standIn 53 = .ok (.iload_n 2, 1) := by decide +kernel
theorem dX5_standIn_54 : decode cX5_standIn 54 = .ok (.ireturn, 1) := by decide +kernel
set_option maxRecDepth 20000 in
theorem ggX5_useUp_X6_at : GoodIn wsX5_useUp wsX6_at := goodIn_r _ [8] (by decide +kernel) (by decide +kernel)
set_option maxRecDepth 20000 in
theorem gX5_useUp_X6_at_n44 : GoodIn wsX5_useUp (wsX6_at) := ggX5_useUp_X6_at
set_option maxRecDepth 20000 in
theorem ggX5_useUp_X6_add : GoodIn wsX5_useUp wsX6_add := goodIn_r _ [10] (by decide +kernel) (by decide +kernel)
set_option maxRecDepth 20000 in
theorem gX5_useUp_X6_add_n40 : GoodIn wsX5_useUp (wsX6_add) := ggX5_useUp_X6_add
set_option maxRecDepth 20000 in
theorem ggX5_useUp_X0_vesselOf : GoodIn wsX5_useUp wsX0_vesselOf := goodIn_r _ [15, 16, 6, 7, 8, 36, 37, 38, 39, 40, 41, 42, 43] (by decide +kernel) (by decide +kernel)
set_option maxRecDepth 20000 in
theorem gX5_useUp_X0_vesselOf : GoodIn wsX5_useUp (wsV RX5 116 RX0 yX0_vesselOf wsX0_vesselOf) := goodIn_app (goodIn_of _ (by decide +kernel)) ggX5_useUp_X0_vesselOf
set_option maxRecDepth 20000 in
theorem ggX5_useUp_X5_comeIn : GoodIn wsX5_useUp wsX5_comeIn := goodIn_r _ [21, 1, 22, 23, 9, 7, 10, 6, 8, 24, 25, 26, 27, 28, 29, 30, 31, 32, 33, 34, 35] (by decide +kernel) (by decide +kernel)
set_option maxRecDepth 20000 in
theorem gX5_useUp_X5_comeIn : GoodIn wsX5_useUp (wsV RX5 89 RX5 yX5_comeIn wsX5_comeIn) := goodIn_app (goodIn_of _ (by decide +kernel)) ggX5_useUp_X5_comeIn
theorem dX5_useUp_0 : decode cX5_useUp 0 = .ok (.iload_n 3, 1) := by decide +kernel
theorem dX5_useUp_1 : decode cX5_useUp 1 = .ok (.aload_n 0, 1) := by decide +kernel
theorem dX5_useUp_2 : decode cX5_useUp 2 = .ok (.getfield 12, 3) := by decide +kernel
theorem dX5_useUp_5 : decode cX5_useUp 5 = .ok (.getfield 36, 3) := by decide +kernel
theorem dX5_useUp_8 : decode cX5_useUp 8 = .ok (.iload_n 2, 1) := by decide +kernel
theorem dX5_useUp_9 : decode cX5_useUp 9 = .ok (.invokestatic 44, 3) := by decide +kernel
theorem dX5_useUp_12 : decode cX5_useUp 12 = .ok (.invokestatic 108, 3) := by decide +kernel
theorem dX5_useUp_15 : decode cX5_useUp 15 = .ok (.istore 4, 2) := by decide +kernel
theorem dX5_useUp_17 : decode cX5_useUp 17 = .ok (.aload_n 0, 1) := by decide +kernel
theorem dX5_useUp_18 : decode cX5_useUp 18 = .ok (.getfield 12, 3) := by decide +kernel
theorem dX5_useUp_21 : decode cX5_useUp 21 = .ok (.getfield 36, 3) := by decide +kernel
theorem dX5_useUp_24 : decode cX5_useUp 24 = .ok (.iload_n 2, 1) := by decide +kernel
theorem dX5_useUp_25 : decode cX5_useUp 25 = .ok (.iload 4, 2) := by decide +kernel
theorem dX5_useUp_27 : decode cX5_useUp 27 = .ok (.ineg, 1) := by decide +kernel
theorem dX5_useUp_28 : decode cX5_useUp 28 = .ok (.invokestatic 40, 3) := by decide +kernel
theorem dX5_useUp_31 : decode cX5_useUp 31 = .ok (.aload_n 0, 1) := by decide +kernel
theorem dX5_useUp_32 : decode cX5_useUp 32 = .ok (.getfield 12, 3) := by decide +kernel
theorem dX5_useUp_35 : decode cX5_useUp 35 = .ok (.getfield 113, 3) := by decide +kernel
theorem dX5_useUp_38 : decode cX5_useUp 38 = .ok (.iload_n 2, 1) := by decide +kernel
theorem dX5_useUp_39 : decode cX5_useUp 39 = .ok (.iload 4, 2) := by decide +kernel
theorem dX5_useUp_41 : decode cX5_useUp 41 = .ok (.invokestatic 40, 3) := by decide +kernel
theorem dX5_useUp_44 : decode cX5_useUp 44 = .ok (.aload_n 1, 1) := by decide +kernel
theorem dX5_useUp_45 : decode cX5_useUp 45 = .ok (.iload_n 2, 1) := by decide +kernel
theorem dX5_useUp_46 : decode cX5_useUp 46 = .ok (.invokevirtual 116, 3) := by decide +kernel
theorem dX5_useUp_49 : decode cX5_useUp 49 = .ok (.istore 5, 2) := by decide +kernel
theorem dX5_useUp_51 : decode cX5_useUp 51 = .ok (.iload 5, 2) := by decide +kernel
theorem dX5_useUp_53 : decode cX5_useUp 53 = .ok (.bipush (-9), 2) := by decide +kernel
theorem dX5_useUp_55 : decode cX5_useUp 55 = .ok (.if_icmp .eq 18, 3) := by decide +kernel
theorem dX5_useUp_58 : decode cX5_useUp 58 = .ok (.aload_n 0, 1) := by decide +kernel
theorem dX5_useUp_59 : decode cX5_useUp 59 = .ok (.iload 5, 2) := by decide +kernel
theorem dX5_useUp_61 : decode cX5_useUp 61 = .ok (.iload 4, 2) := by decide +kernel
theorem dX5_useUp_63 : decode cX5_useUp 63 = .ok (.aload_n 0, 1) := by decide +kernel
theorem dX5_useUp_64 : decode cX5_useUp 64 = .ok (.getfield 12, 3) := by decide +kernel
theorem dX5_useUp_67 : decode cX5_useUp 67 = .ok (.getfield 119, 3) := by decide +kernel
theorem dX5_useUp_70 : decode cX5_useUp 70 = .ok (.invokevirtual 89, 3) := by decide +kernel
theorem dX5_useUp_73 : decode cX5_useUp 73 = .ok (.iload 4, 2) := by decide +kernel
theorem dX5_useUp_75 : decode cX5_useUp 75 = .ok (.ireturn, 1) := by decide +kernel
set_option maxRecDepth 20000 in
theorem ggX5_collect_X5_comeIn : GoodIn wsX5_collect wsX5_comeIn := goodIn_r _ [9, 4, 10, 2, 11, 12, 13, 14, 15, 16, 17, 18, 19, 20, 21, 22, 23, 24, 25, 26, 27] (by decide +kernel) (by decide +kernel)
set_option maxRecDepth 20000 in
theorem gX5_collect_X5_comeIn : GoodIn wsX5_collect (wsV RX5 89 RX5 yX5_comeIn wsX5_comeIn) := goodIn_app (goodIn_of _ (by decide +kernel)) ggX5_collect_X5_comeIn
theorem dX5_collect_0 : decode cX5_collect 0 = .ok (.aload_n 0, 1) := by decide +kernel
theorem dX5_collect_1 : decode cX5_collect 1 = .ok (.getfield 22, 3) := by decide +kernel
theorem dX5_collect_4 : decode cX5_collect 4 = .ok (.ifCond .ne 8, 3) := by decide +kernel
theorem dX5_collect_7 : decode cX5_collect 7 = .ok (.aload_n 0, 1) := by decide +kernel
theorem dX5_collect_8 : decode cX5_collect 8 = .ok (.iconst 1, 1) := by decide +kernel
theorem dX5_collect_9 : decode cX5_collect 9 = .ok (.putfield 26, 3) := by decide +kernel
theorem dX5_collect_12 : decode cX5_collect 12 = .ok (.aload_n 0, 1) := by decide +kernel
theorem dX5_collect_13 : decode cX5_collect 13 = .ok (.dup, 1) := by decide +kernel
theorem dX5_collect_14 : decode cX5_collect 14 = .ok (.getfield 33, 3) := by decide +kernel
theorem dX5_collect_17 : decode cX5_collect 17 = .ok (.iload_n 2, 1) := by decide +kernel
theorem dX5_collect_18 : decode cX5_collect 18 = .ok (.iadd, 1) := by decide +kernel
theorem dX5_collect_19 : decode cX5_collect 19 = .ok (.putfield 33, 3) := by decide +kernel
theorem dX5_collect_22 : decode cX5_collect 22 = .ok (.aload_n 0, 1) := by decide +kernel
theorem dX5_collect_23 : decode cX5_collect 23 = .ok (.iload_n 1, 1) := by decide +kernel
theorem dX5_collect_24 : decode cX5_collect 24 = .ok (.iload_n 2, 1) := by decide +kernel
theorem dX5_collect_25 : decode cX5_collect 25 = .ok (.aload_n 0, 1) := by decide +kernel
theorem dX5_collect_26 : decode cX5_collect 26 = .ok (.getfield 12, 3) := by decide +kernel
theorem dX5_collect_29 : decode cX5_collect 29 = .ok (.getfield 122, 3) := by decide +kernel
theorem dX5_collect_32 : decode cX5_collect 32 = .ok (.invokevirtual 89, 3) := by decide +kernel
theorem dX5_collect_35 : decode cX5_collect 35 = .ok (.return_, 1) := by decide +kernel
set_option maxRecDepth 20000 in
theorem ggX5_comeIn_X6_add : GoodIn wsX5_comeIn wsX6_add := goodIn_r _ [6] (by decide +kernel) (by decide +kernel)
set_option maxRecDepth 20000 in
theorem gX5_comeIn_X6_add_n40 : GoodIn wsX5_comeIn (wsX6_add) := ggX5_comeIn_X6_add
set_option maxRecDepth 20000 in
theorem ggX5_comeIn_X6_at : GoodIn wsX5_comeIn wsX6_at := goodIn_r _ [8] (by decide +kernel) (by decide +kernel)
set_option maxRecDepth 20000 in
theorem gX5_comeIn_X6_at_n44 : GoodIn wsX5_comeIn (wsX6_at) := ggX5_comeIn_X6_at
theorem dX5_comeIn_0 : decode cX5_comeIn 0 = .ok (.aload_n 0, 1) := by decide +kernel
theorem dX5_comeIn_1 : decode cX5_comeIn 1 = .ok (.getfield 12, 3) := by decide +kernel
theorem dX5_comeIn_4 : decode cX5_comeIn 4 = .ok (.getfield 36, 3) := by decide +kernel
theorem dX5_comeIn_7 : decode cX5_comeIn 7 = .ok (.iload_n 1, 1) := by decide +kernel
theorem dX5_comeIn_8 : decode cX5_comeIn 8 = .ok (.iload_n 2, 1) := by decide +kernel
theorem dX5_comeIn_9 : decode cX5_comeIn 9 = .ok (.invokestatic 40, 3) := by decide +kernel
theorem dX5_comeIn_12 : decode cX5_comeIn 12 = .ok (.aload_n 3, 1) := by decide +kernel
theorem dX5_comeIn_13 : decode cX5_comeIn 13 = .ok (.iload_n 1, 1) := by decide +kernel
theorem dX5_comeIn_14 : decode cX5_comeIn 14 = .ok (.iload_n 2, 1) := by decide +kernel
theorem dX5_comeIn_15 : decode cX5_comeIn 15 = .ok (.invokestatic 40, 3) := by decide +kernel
theorem dX5_comeIn_18 : decode cX5_comeIn 18 = .ok (.aload_n 0, 1) := by decide +kernel
theorem dX5_comeIn_19 : decode cX5_comeIn 19 = .ok (.getfield 12, 3) := by decide +kernel
theorem dX5_comeIn_22 : decode cX5_comeIn 22 = .ok (.getfield 36, 3) := by decide +kernel
theorem dX5_comeIn_25 : decode cX5_comeIn 25 = .ok (.iload_n 1, 1) := by decide +kernel
theorem dX5_comeIn_26 : decode cX5_comeIn 26 = .ok (.invokestatic 44, 3) := by decide +kernel
theorem dX5_comeIn_29 : decode cX5_comeIn 29 = .ok (.ldc 48, 2) := by decide +kernel
theorem dX5_comeIn_31 : decode cX5_comeIn 31 = .ok (.if_icmp .le 8, 3) := by decide +kernel
theorem dX5_comeIn_34 : decode cX5_comeIn 34 = .ok (.aload_n 0, 1) := by decide +kernel
theorem dX5_comeIn_35 : decode cX5_comeIn 35 = .ok (.iconst 1, 1) := by decide +kernel
theorem dX5_comeIn_36 : decode cX5_comeIn 36 = .ok (.putfield 26, 3) := by decide +kernel
theorem dX5_comeIn_39 : decode cX5_comeIn 39 = .ok (.return_, 1) := by decide +kernel

