/-! ===== 02c.decB ===== -/
set_option maxRecDepth 20000 in
theorem ggX6_init_X0_init : GoodIn wsX6_init wsX0_init := goodIn_r _ [34, 35, 2, 3, 27, 36, 37, 38, 39, 40, 41, 42, 43, 44, 45, 46, 47, 72, 73, 74, 75, 76, 77, 78, 79] (by decide +kernel) (by decide +kernel)
set_option maxRecDepth 20000 in
theorem gX6_init_X0_init : GoodIn wsX6_init (wsX0_init) := ggX6_init_X0_init
set_option maxRecDepth 20000 in
theorem ggX6_init_X4_init : GoodIn wsX6_init wsX4_init := goodIn_r _ [49, 50, 2, 3, 27, 51, 52, 53, 54, 55, 56, 91, 92, 93, 94, 95, 96, 97] (by decide +kernel) (by decide +kernel)
set_option maxRecDepth 20000 in
theorem gX6_init_X4_init_n21 : GoodIn wsX6_init (wsX4_init) := ggX6_init_X4_init
set_option maxRecDepth 20000 in
theorem ggX6_init_X5_init : GoodIn wsX6_init wsX5_init := goodIn_r _ [58, 59, 2, 3, 60, 10, 11, 61, 48, 49, 50, 27, 51, 52, 53, 54, 55, 56, 91, 92, 93, 94, 95, 96, 97, 98, 99, 100, 101, 102] (by decide +kernel) (by decide +kernel)
set_option maxRecDepth 20000 in
theorem gX6_init_X5_init_n28 : GoodIn wsX6_init (wsX5_init) := ggX6_init_X5_init
set_option maxRecDepth 20000 in
theorem ggX6_init_X1_init : GoodIn wsX6_init wsX1_init := goodIn_r _ [63, 64, 2, 3, 65, 66, 103, 104, 105] (by decide +kernel) (by decide +kernel)
set_option maxRecDepth 20000 in
theorem gX6_init_X1_init_n35 : GoodIn wsX6_init (wsX1_init) := ggX6_init_X1_init
set_option maxRecDepth 20000 in
theorem ggX6_init_X2_init : GoodIn wsX6_init wsX2_init := goodIn_r _ [68, 69, 2, 3, 27, 70, 71, 106, 107, 108, 109, 110, 111, 112, 113] (by decide +kernel) (by decide +kernel)
set_option maxRecDepth 20000 in
theorem gX6_init_X2_init_n48 : GoodIn wsX6_init (wsX2_init) := ggX6_init_X2_init
theorem dX6_init_0 : decode cX6_init 0 = .ok (.aload_n 0, 1) := by decide +kernel
theorem dX6_init_1 : decode cX6_init 1 = .ok (.invokespecial 1, 3) := by decide +kernel
theorem dX6_init_4 : decode cX6_init 4 = .ok (.aload_n 0, 1) := by decide +kernel
theorem dX6_init_5 : decode cX6_init 5 = .ok (.new 7, 3) := by decide +kernel
theorem dX6_init_8 : decode cX6_init 8 = .ok (.dup, 1) := by decide +kernel
theorem dX6_init_9 : decode cX6_init 9 = .ok (.invokespecial 9, 3) := by decide +kernel
theorem dX6_init_12 : decode cX6_init 12 = .ok (.putfield 10, 3) := by decide +kernel
theorem dX6_init_15 : decode cX6_init 15 = .ok (.aload_n 0, 1) := by decide +kernel
theorem dX6_init_16 : decode cX6_init 16 = .ok (.new 7, 3) := by decide +kernel
theorem dX6_init_19 : decode cX6_init 19 = .ok (.dup, 1) := by decide +kernel
theorem dX6_init_20 : decode cX6_init 20 = .ok (.invokespecial 9, 3) := by decide +kernel
theorem dX6_init_23 : decode cX6_init 23 = .ok (.putfield 16, 3) := by decide +kernel
theorem dX6_init_26 : decode cX6_init 26 = .ok (.aload_n 0, 1) := by decide +kernel
theorem dX6_init_27 : decode cX6_init 27 = .ok (.new 19, 3) := by decide +kernel
theorem dX6_init_30 : decode cX6_init 30 = .ok (.dup, 1) := by decide +kernel
theorem dX6_init_31 : decode cX6_init 31 = .ok (.invokespecial 21, 3) := by decide +kernel
theorem dX6_init_34 : decode cX6_init 34 = .ok (.putfield 22, 3) := by decide +kernel
theorem dX6_init_37 : decode cX6_init 37 = .ok (.aload_n 0, 1) := by decide +kernel
theorem dX6_init_38 : decode cX6_init 38 = .ok (.new 26, 3) := by decide +kernel
theorem dX6_init_41 : decode cX6_init 41 = .ok (.dup, 1) := by decide +kernel
theorem dX6_init_42 : decode cX6_init 42 = .ok (.invokespecial 28, 3) := by decide +kernel
theorem dX6_init_45 : decode cX6_init 45 = .ok (.putfield 29, 3) := by decide +kernel
theorem dX6_init_48 : decode cX6_init 48 = .ok (.aload_n 0, 1) := by decide +kernel
theorem dX6_init_49 : decode cX6_init 49 = .ok (.new 33, 3) := by decide +kernel
theorem dX6_init_52 : decode cX6_init 52 = .ok (.dup, 1) := by decide +kernel
theorem dX6_init_53 : decode cX6_init 53 = .ok (.invokespecial 35, 3) := by decide +kernel
theorem dX6_init_56 : decode cX6_init 56 = .ok (.putfield 36, 3) := by decide +kernel
theorem dX6_init_59 : decode cX6_init 59 = .ok (.aload_n 0, 1) := by decide +kernel
theorem dX6_init_60 : decode cX6_init 60 = .ok (.iconst 2, 1) := by decide +kernel
theorem dX6_init_61 : decode cX6_init 61 = .ok (.anewarray 40, 3) := by decide +kernel
theorem dX6_init_64 : decode cX6_init 64 = .ok (.putfield 42, 3) := by decide +kernel
theorem dX6_init_67 : decode cX6_init 67 = .ok (.aload_n 0, 1) := by decide +kernel
theorem dX6_init_68 : decode cX6_init 68 = .ok (.new 46, 3) := by decide +kernel
theorem dX6_init_71 : decode cX6_init 71 = .ok (.dup, 1) := by decide +kernel
theorem dX6_init_72 : decode cX6_init 72 = .ok (.invokespecial 48, 3) := by decide +kernel
theorem dX6_init_75 : decode cX6_init 75 = .ok (.putfield 49, 3) := by decide +kernel
theorem dX6_init_78 : decode cX6_init 78 = .ok (.aload_n 0, 1) := by decide +kernel
theorem dX6_init_79 : decode cX6_init 79 = .ok (.bipush 60, 2) := by decide +kernel
theorem dX6_init_81 : decode cX6_init 81 = .ok (.newarray .int, 2) := by decide +kernel
theorem dX6_init_83 : decode cX6_init 83 = .ok (.putfield 53, 3) := by decide +kernel
theorem dX6_init_86 : decode cX6_init 86 = .ok (.aload_n 0, 1) := by decide +kernel
theorem dX6_init_87 : decode cX6_init 87 = .ok (.iconst 0, 1) := by decide +kernel
theorem dX6_init_88 : decode cX6_init 88 = .ok (.putfield 57, 3) := by decide +kernel
theorem dX6_init_91 : decode cX6_init 91 = .ok (.aload_n 0, 1) := by decide +kernel
theorem dX6_init_92 : decode cX6_init 92 = .ok (.iconst 0, 1) := by decide +kernel
theorem dX6_init_93 : decode cX6_init 93 = .ok (.putfield 61, 3) := by decide +kernel
theorem dX6_init_96 : decode cX6_init 96 = .ok (.aload_n 0, 1) := by decide +kernel
theorem dX6_init_97 : decode cX6_init 97 = .ok (.iconst 0, 1) := by decide +kernel
theorem dX6_init_98 : decode cX6_init 98 = .ok (.putfield 64, 3) := by decide +kernel
theorem dX6_init_101 : decode cX6_init 101 = .ok (.return_, 1) := by decide +kernel
set_option maxRecDepth 20000 in
theorem ggX6_recipe_X2_read : GoodIn wsX6_recipe wsX2_read := goodIn_r _ [14, 15, 16, 17, 18, 19, 20, 21, 22, 23, 13, 24, 25, 26, 27, 28, 29, 30, 31, 32, 33, 34, 35, 36, 37, 38, 39, 40, 41, 42, 43, 44, 45, 46, 47, 48, 49, 50, 51, 52, 53, 54, 55, 56, 57, 58, 59, 60, 61, 62, 63, 64, 65, 210, 211, 212, 213, 214, 215, 216, 217] (by decide +kernel) (by decide +kernel)
set_option maxRecDepth 20000 in
theorem gX6_recipe_X2_read : GoodIn wsX6_recipe (wsV RX6 67 RX2 yX2_read wsX2_read) := goodIn_app (goodIn_of _ (by decide +kernel)) ggX6_recipe_X2_read
set_option maxRecDepth 20000 in
theorem ggX6_recipe_X0_copyFrom : GoodIn wsX6_recipe wsX0_copyFrom := goodIn_r _ [70, 71, 72, 73, 74, 75, 76, 77, 78, 79, 30, 80, 81, 82, 83, 84, 85, 86, 87, 88, 218, 219, 220, 221, 222, 223, 224, 225] (by decide +kernel) (by decide +kernel)
set_option maxRecDepth 20000 in
theorem gX6_recipe_X0_copyFrom : GoodIn wsX6_recipe (wsV RX6 73 RX0 yX0_copyFrom wsX0_copyFrom) := goodIn_app (goodIn_of _ (by decide +kernel)) ggX6_recipe_X0_copyFrom
set_option maxRecDepth 20000 in
theorem ggX6_recipe_X0_lay : GoodIn wsX6_recipe wsX0_lay := goodIn_r _ [92, 71, 72, 73, 74, 60, 30, 61, 29, 31, 218, 219, 220, 221, 222, 223, 224, 225, 210, 211, 212, 213, 214, 215, 216, 217] (by decide +kernel) (by decide +kernel)
set_option maxRecDepth 20000 in
theorem gX6_recipe_X0_lay : GoodIn wsX6_recipe (wsV RX6 77 RX0 yX0_lay wsX0_lay) := goodIn_app (goodIn_of _ (by decide +kernel)) ggX6_recipe_X0_lay
set_option maxRecDepth 20000 in
theorem ggX6_recipe_X0_findRanks : GoodIn wsX6_recipe wsX0_findRanks := goodIn_r _ [96, 78, 97, 98, 99, 100, 101, 102, 103, 69, 104, 71, 29, 30, 31, 105, 106, 107, 108, 109, 110, 111, 112, 72, 113, 114, 115, 116, 73, 117, 118, 119, 120, 75, 121, 122, 123, 124, 76, 125, 126, 127, 128, 129, 130, 83, 131, 132, 133, 134, 135, 136, 137, 60, 61, 218, 219, 220, 221, 222, 223, 224, 225] (by decide +kernel) (by decide +kernel)
set_option maxRecDepth 20000 in
theorem gX6_recipe_X0_findRanks : GoodIn wsX6_recipe (wsV RX6 81 RX0 yX0_findRanks wsX0_findRanks) := goodIn_app (goodIn_of _ (by decide +kernel)) ggX6_recipe_X0_findRanks
set_option maxRecDepth 20000 in
theorem ggX6_recipe_X1_remember : GoodIn wsX6_recipe wsX1_remember := goodIn_r _ [142, 143, 144, 145, 146, 147, 148, 141, 149, 150, 151, 152, 153, 154, 30, 155, 156, 157, 158, 159, 160, 161, 162, 163, 164, 165, 166, 167, 168, 69, 169, 170, 171, 172, 173, 174, 175, 176, 177, 178, 71, 72, 73, 74, 75, 76, 77, 78, 97, 98, 99, 100, 179, 180, 181, 182, 183, 184, 185, 186, 187, 188, 189, 190, 191, 192, 67, 68, 70, 79, 80, 81, 82, 83, 84, 85, 86, 87, 88, 193, 194, 195, 196, 197, 226, 227, 228, 229, 230, 218, 219, 220, 221, 222, 223, 224, 225, 231, 232, 233, 234, 235, 236, 237] (by decide +kernel) (by decide +kernel)
set_option maxRecDepth 20000 in
theorem gX6_recipe_X1_remember : GoodIn wsX6_recipe (wsV RX6 85 RX1 yX1_remember wsX1_remember) := goodIn_app (goodIn_of _ (by decide +kernel)) ggX6_recipe_X1_remember
set_option maxRecDepth 20000 in
theorem ggX6_recipe_X0_rankOf : GoodIn wsX6_recipe wsX0_rankOf := goodIn_r _ [137, 78, 29, 30, 31, 218, 219, 220, 221, 222, 223, 224, 225] (by decide +kernel) (by decide +kernel)
set_option maxRecDepth 20000 in
theorem gX6_recipe_X0_rankOf : GoodIn wsX6_recipe (wsV RX6 92 RX0 yX0_rankOf wsX0_rankOf) := goodIn_app (goodIn_of _ (by decide +kernel)) ggX6_recipe_X0_rankOf
theorem dX6_recipe_0 : decode cX6_recipe 0 = .ok (.aload_n 0, 1) := by decide +kernel
theorem dX6_recipe_1 : decode cX6_recipe 1 = .ok (.getfield 49, 3) := by decide +kernel
theorem dX6_recipe_4 : decode cX6_recipe 4 = .ok (.aload_n 0, 1) := by decide +kernel
theorem dX6_recipe_5 : decode cX6_recipe 5 = .ok (.getfield 53, 3) := by decide +kernel
theorem dX6_recipe_8 : decode cX6_recipe 8 = .ok (.aload_n 0, 1) := by decide +kernel
theorem dX6_recipe_9 : decode cX6_recipe 9 = .ok (.getfield 57, 3) := by decide +kernel
theorem dX6_recipe_12 : decode cX6_recipe 12 = .ok (.invokevirtual 67, 3) := by decide +kernel
theorem dX6_recipe_15 : decode cX6_recipe 15 = .ok (.aload_n 0, 1) := by decide +kernel
theorem dX6_recipe_16 : decode cX6_recipe 16 = .ok (.getfield 49, 3) := by decide +kernel
theorem dX6_recipe_19 : decode cX6_recipe 19 = .ok (.getfield 71, 3) := by decide +kernel
theorem dX6_recipe_22 : decode cX6_recipe 22 = .ok (.ifCond .eq 28, 3) := by decide +kernel
theorem dX6_recipe_25 : decode cX6_recipe 25 = .ok (.aload_n 0, 1) := by decide +kernel
theorem dX6_recipe_26 : decode cX6_recipe 26 = .ok (.aload_n 0, 1) := by decide +kernel
theorem dX6_recipe_27 : decode cX6_recipe 27 = .ok (.getfield 49, 3) := by decide +kernel
theorem dX6_recipe_30 : decode cX6_recipe 30 = .ok (.getfield 71, 3) := by decide +kernel
theorem dX6_recipe_33 : decode cX6_recipe 33 = .ok (.putfield 61, 3) := by decide +kernel
theorem dX6_recipe_36 : decode cX6_recipe 36 = .ok (.aload_n 0, 1) := by decide +kernel
theorem dX6_recipe_37 : decode cX6_recipe 37 = .ok (.aload_n 0, 1) := by decide +kernel
theorem dX6_recipe_38 : decode cX6_recipe 38 = .ok (.getfield 49, 3) := by decide +kernel
theorem dX6_recipe_41 : decode cX6_recipe 41 = .ok (.getfield 72, 3) := by decide +kernel
theorem dX6_recipe_44 : decode cX6_recipe 44 = .ok (.putfield 64, 3) := by decide +kernel
theorem dX6_recipe_47 : decode cX6_recipe 47 = .ok (.bipush (-2), 2) := by decide +kernel
theorem dX6_recipe_49 : decode cX6_recipe 49 = .ok (.ireturn, 1) := by decide +kernel
theorem dX6_recipe_50 : decode cX6_recipe 50 = .ok (.aload_n 0, 1) := by decide +kernel
theorem dX6_recipe_51 : decode cX6_recipe 51 = .ok (.getfield 16, 3) := by decide +kernel
theorem dX6_recipe_54 : decode cX6_recipe 54 = .ok (.aload_n 0, 1) := by decide +kernel
theorem dX6_recipe_55 : decode cX6_recipe 55 = .ok (.getfield 10, 3) := by decide +kernel
theorem dX6_recipe_58 : decode cX6_recipe 58 = .ok (.invokevirtual 73, 3) := by decide +kernel
theorem dX6_recipe_61 : decode cX6_recipe 61 = .ok (.aload_n 0, 1) := by decide +kernel
theorem dX6_recipe_62 : decode cX6_recipe 62 = .ok (.getfield 16, 3) := by decide +kernel
theorem dX6_recipe_65 : decode cX6_recipe 65 = .ok (.aload_n 0, 1) := by decide +kernel
theorem dX6_recipe_66 : decode cX6_recipe 66 = .ok (.getfield 49, 3) := by decide +kernel
theorem dX6_recipe_69 : decode cX6_recipe 69 = .ok (.invokevirtual 77, 3) := by decide +kernel
theorem dX6_recipe_72 : decode cX6_recipe 72 = .ok (.aload_n 0, 1) := by decide +kernel
theorem dX6_recipe_73 : decode cX6_recipe 73 = .ok (.getfield 16, 3) := by decide +kernel
theorem dX6_recipe_76 : decode cX6_recipe 76 = .ok (.invokevirtual 81, 3) := by decide +kernel
theorem dX6_recipe_79 : decode cX6_recipe 79 = .ok (.ifCond .ne 6, 3) := by decide +kernel
theorem dX6_recipe_82 : decode cX6_recipe 82 = .ok (.bipush (-2), 2) := by decide +kernel
theorem dX6_recipe_84 : decode cX6_recipe 84 = .ok (.ireturn, 1) := by decide +kernel
theorem dX6_recipe_85 : decode cX6_recipe 85 = .ok (.aload_n 0, 1) := by decide +kernel
theorem dX6_recipe_86 : decode cX6_recipe 86 = .ok (.getfield 36, 3) := by decide +kernel
theorem dX6_recipe_89 : decode cX6_recipe 89 = .ok (.aload_n 0, 1) := by decide +kernel
theorem dX6_recipe_90 : decode cX6_recipe 90 = .ok (.getfield 10, 3) := by decide +kernel
theorem dX6_recipe_93 : decode cX6_recipe 93 = .ok (.aload_n 0, 1) := by decide +kernel
theorem dX6_recipe_94 : decode cX6_recipe 94 = .ok (.getfield 22, 3) := by decide +kernel
theorem dX6_recipe_97 : decode cX6_recipe 97 = .ok (.invokevirtual 85, 3) := by decide +kernel
theorem dX6_recipe_100 : decode cX6_recipe 100 = .ok (.aload_n 0, 1) := by decide +kernel
theorem dX6_recipe_101 : decode cX6_recipe 101 = .ok (.getfield 10, 3) := by decide +kernel
theorem dX6_recipe_104 : decode cX6_recipe 104 = .ok (.aload_n 0, 1) := by decide +kernel
theorem dX6_recipe_105 : decode cX6_recipe 105 = .ok (.getfield 16, 3) := by decide +kernel
theorem dX6_recipe_108 : decode cX6_recipe 108 = .ok (.invokevirtual 73, 3) := by decide +kernel
theorem dX6_recipe_111 : decode cX6_recipe 111 = .ok (.aload_n 0, 1) := by decide +kernel
theorem dX6_recipe_112 : decode cX6_recipe 112 = .ok (.getfield 10, 3) := by decide +kernel
theorem dX6_recipe_115 : decode cX6_recipe 115 = .ok (.aload_n 0, 1) := by decide +kernel
theorem dX6_recipe_116 : decode cX6_recipe 116 = .ok (.getfield 49, 3) := by decide +kernel
theorem dX6_recipe_119 : decode cX6_recipe 119 = .ok (.getfield 89, 3) := by decide +kernel
theorem dX6_recipe_122 : decode cX6_recipe 122 = .ok (.invokevirtual 92, 3) := by decide +kernel
theorem dX6_recipe_125 : decode cX6_recipe 125 = .ok (.ireturn, 1) := by decide +kernel
set_option maxRecDepth 20000 in
theorem ggX6_forget_X6_isThing : GoodIn wsX6_forget wsX6_isThing := goodIn_r _ [7] (by decide +kernel) (by decide +kernel)
set_option maxRecDepth 20000 in
theorem gX6_forget_X6_isThing : GoodIn wsX6_forget (va_wsS RX6 96 yX6_isThing wsX6_isThing) := goodIn_app (goodIn_of _ (by decide +kernel)) ggX6_forget_X6_isThing
set_option maxRecDepth 20000 in
theorem ggX6_forget_X0_isMade : GoodIn wsX6_forget wsX0_isMade := goodIn_r _ [12, 13, 14, 6, 15, 159, 160, 161, 162, 163, 164, 165, 166] (by decide +kernel) (by decide +kernel)
set_option maxRecDepth 20000 in
theorem gX6_forget_X0_isMade : GoodIn wsX6_forget (wsV RX6 100 RX0 yX0_isMade wsX0_isMade) := goodIn_app (goodIn_of _ (by decide +kernel)) ggX6_forget_X0_isMade
set_option maxRecDepth 20000 in
theorem ggX6_forget_X1_remember : GoodIn wsX6_forget wsX1_remember := goodIn_r _ [20, 21, 22, 23, 24, 25, 26, 19, 27, 28, 29, 30, 31, 32, 6, 33, 34, 35, 36, 37, 38, 39, 40, 41, 42, 43, 44, 45, 46, 11, 47, 48, 49, 50, 51, 52, 53, 54, 55, 56, 13, 57, 58, 59, 60, 61, 62, 63, 64, 65, 66, 67, 68, 69, 70, 71, 72, 73, 74, 75, 76, 77, 78, 79, 80, 81, 82, 83, 84, 85, 86, 87, 88, 89, 90, 91, 92, 93, 94, 95, 96, 97, 98, 99, 167, 168, 169, 170, 171, 159, 160, 161, 162, 163, 164, 165, 166, 172, 173, 174, 175, 176, 177, 178] (by decide +kernel) (by decide +kernel)
set_option maxRecDepth 20000 in
theorem gX6_forget_X1_remember : GoodIn wsX6_forget (wsV RX6 85 RX1 yX1_remember wsX1_remember) := goodIn_app (goodIn_of _ (by decide +kernel)) ggX6_forget_X1_remember
set_option maxRecDepth 20000 in
theorem ggX6_forget_X0_yieldOf : GoodIn wsX6_forget wsX0_yieldOf := goodIn_r _ [103, 13, 14, 6, 15, 159, 160, 161, 162, 163, 164, 165, 166] (by decide +kernel) (by decide +kernel)
set_option maxRecDepth 20000 in
theorem gX6_forget_X0_yieldOf : GoodIn wsX6_forget (wsV RX6 103 RX0 yX0_yieldOf wsX0_yieldOf) := goodIn_app (goodIn_of _ (by decide +kernel)) ggX6_forget_X0_yieldOf
set_option maxRecDepth 20000 in
theorem ggX6_forget_X0_strike : GoodIn wsX6_forget wsX0_strike := goodIn_r _ [107, 13, 57, 108, 6, 109, 159, 160, 161, 162, 163, 164, 165, 166] (by decide +kernel) (by decide +kernel)
set_option maxRecDepth 20000 in
theorem gX6_forget_X0_strike : GoodIn wsX6_forget (wsV RX6 106 RX0 yX0_strike wsX0_strike) := goodIn_app (goodIn_of _ (by decide +kernel)) ggX6_forget_X0_strike
set_option maxRecDepth 20000 in
theorem ggX6_forget_X0_findRanks : GoodIn wsX6_forget wsX0_findRanks := goodIn_r _ [113, 63, 64, 65, 66, 67, 114, 9, 10, 11, 12, 13, 14, 6, 15, 115, 116, 117, 118, 119, 120, 121, 122, 57, 123, 124, 125, 126, 58, 127, 128, 129, 130, 60, 131, 132, 133, 134, 61, 135, 136, 137, 138, 139, 140, 89, 141, 142, 143, 144, 145, 146, 147, 108, 109, 159, 160, 161, 162, 163, 164, 165, 166] (by decide +kernel) (by decide +kernel)
set_option maxRecDepth 20000 in
theorem gX6_forget_X0_findRanks : GoodIn wsX6_forget (wsV RX6 81 RX0 yX0_findRanks wsX0_findRanks) := goodIn_app (goodIn_of _ (by decide +kernel)) ggX6_forget_X0_findRanks
theorem dX6_forget_0 : decode cX6_forget 0 = .ok (.iload_n 1, 1) := by decide +kernel
theorem dX6_forget_1 : decode cX6_forget 1 = .ok (.invokestatic 96, 3) := by decide +kernel
theorem dX6_forget_4 : decode cX6_forget 4 = .ok (.ifCond .ne 5, 3) := by decide +kernel
theorem dX6_forget_7 : decode cX6_forget 7 = .ok (.iconst (-1), 1) := by decide +kernel
theorem dX6_forget_8 : decode cX6_forget 8 = .ok (.ireturn, 1) := by decide +kernel
theorem dX6_forget_9 : decode cX6_forget 9 = .ok (.aload_n 0, 1) := by decide +kernel
theorem dX6_forget_10 : decode cX6_forget 10 = .ok (.getfield 10, 3) := by decide +kernel
theorem dX6_forget_13 : decode cX6_forget 13 = .ok (.iload_n 1, 1) := by decide +kernel
theorem dX6_forget_14 : decode cX6_forget 14 = .ok (.invokevirtual 100, 3) := by decide +kernel
theorem dX6_forget_17 : decode cX6_forget 17 = .ok (.ifCond .ne 6, 3) := by decide +kernel
theorem dX6_forget_20 : decode cX6_forget 20 = .ok (.bipush (-2), 2) := by decide +kernel
theorem dX6_forget_22 : decode cX6_forget 22 = .ok (.ireturn, 1) := by decide +kernel
theorem dX6_forget_23 : decode cX6_forget 23 = .ok (.aload_n 0, 1) := by decide +kernel
theorem dX6_forget_24 : decode cX6_forget 24 = .ok (.getfield 36, 3) := by decide +kernel
theorem dX6_forget_27 : decode cX6_forget 27 = .ok (.aload_n 0, 1) := by decide +kernel
theorem dX6_forget_28 : decode cX6_forget 28 = .ok (.getfield 10, 3) := by decide +kernel
theorem dX6_forget_31 : decode cX6_forget 31 = .ok (.aload_n 0, 1) := by decide +kernel
theorem dX6_forget_32 : decode cX6_forget 32 = .ok (.getfield 22, 3) := by decide +kernel
theorem dX6_forget_35 : decode cX6_forget 35 = .ok (.invokevirtual 85, 3) := by decide +kernel
theorem dX6_forget_38 : decode cX6_forget 38 = .ok (.aload_n 0, 1) := by decide +kernel
theorem dX6_forget_39 : decode cX6_forget 39 = .ok (.getfield 10, 3) := by decide +kernel
theorem dX6_forget_42 : decode cX6_forget 42 = .ok (.iload_n 1, 1) := by decide +kernel
theorem dX6_forget_43 : decode cX6_forget 43 = .ok (.invokevirtual 103, 3) := by decide +kernel
theorem dX6_forget_46 : decode cX6_forget 46 = .ok (.istore_n 2, 1) := by decide +kernel
theorem dX6_forget_47 : decode cX6_forget 47 = .ok (.aload_n 0, 1) := by decide +kernel
theorem dX6_forget_48 : decode cX6_forget 48 = .ok (.getfield 10, 3) := by decide +kernel
theorem dX6_forget_51 : decode cX6_forget 51 = .ok (.iload_n 1, 1) := by decide +kernel
theorem dX6_forget_52 : decode cX6_forget 52 = .ok (.invokevirtual 106, 3) := by decide +kernel
theorem dX6_forget_55 : decode cX6_forget 55 = .ok (.aload_n 0, 1) := by decide +kernel
theorem dX6_forget_56 : decode cX6_forget 56 = .ok (.getfield 10, 3) := by decide +kernel
theorem dX6_forget_59 : decode cX6_forget 59 = .ok (.invokevirtual 81, 3) := by decide +kernel
theorem dX6_forget_62 : decode cX6_forget 62 = .ok (.pop, 1) := by decide +kernel
theorem dX6_forget_63 : decode cX6_forget 63 = .ok (.iload_n 2, 1) := by decide +kernel
theorem dX6_forget_64 : decode cX6_forget 64 = .ok (.ireturn, 1) := by decide +kernel
set_option maxRecDepth 20000 in
theorem ggX6_allow_X6_isThing : GoodIn wsX6_allow wsX6_isThing := goodIn_r _ [8] (by decide +kernel) (by decide +kernel)
set_option maxRecDepth 20000 in
theorem gX6_allow_X6_isThing : GoodIn wsX6_allow (va_wsS RX6 96 yX6_isThing wsX6_isThing) := goodIn_app (goodIn_of _ (by decide +kernel)) ggX6_allow_X6_isThing
set_option maxRecDepth 20000 in
theorem ggX6_allow_X0_hasSubstitute : GoodIn wsX6_allow wsX0_hasSubstitute := goodIn_r _ [13, 14, 15, 16, 12, 17, 18, 19, 7, 20, 21, 22, 23, 24, 25, 161, 162, 163, 164, 165, 166, 167, 168] (by decide +kernel) (by decide +kernel)
set_option maxRecDepth 20000 in
theorem gX6_allow_X0_hasSubstitute : GoodIn wsX6_allow (wsV RX6 110 RX0 yX0_hasSubstitute wsX0_hasSubstitute) := goodIn_app (goodIn_of _ (by decide +kernel)) ggX6_allow_X0_hasSubstitute
set_option maxRecDepth 20000 in
theorem ggX6_allow_X0_substitutesOf : GoodIn wsX6_allow wsX0_substitutesOf := goodIn_r _ [17, 18, 19, 7, 20, 161, 162, 163, 164, 165, 166, 167, 168] (by decide +kernel) (by decide +kernel)
set_option maxRecDepth 20000 in
theorem gX6_allow_X0_substitutesOf : GoodIn wsX6_allow (wsV RX6 114 RX0 yX0_substitutesOf wsX0_substitutesOf) := goodIn_app (goodIn_of _ (by decide +kernel)) ggX6_allow_X0_substitutesOf
set_option maxRecDepth 20000 in
theorem ggX6_allow_X0_copyFrom : GoodIn wsX6_allow wsX0_copyFrom := goodIn_r _ [30, 31, 32, 33, 34, 18, 25, 35, 36, 37, 7, 38, 39, 40, 41, 42, 43, 44, 45, 46, 161, 162, 163, 164, 165, 166, 167, 168] (by decide +kernel) (by decide +kernel)
set_option maxRecDepth 20000 in
theorem gX6_allow_X0_copyFrom : GoodIn wsX6_allow (wsV RX6 73 RX0 yX0_copyFrom wsX0_copyFrom) := goodIn_app (goodIn_of _ (by decide +kernel)) ggX6_allow_X0_copyFrom
set_option maxRecDepth 20000 in
theorem ggX6_allow_X0_addSubstitute : GoodIn wsX6_allow wsX0_addSubstitute := goodIn_r _ [50, 25, 18, 14, 15, 16, 12, 17, 19, 7, 20, 51, 52, 161, 162, 163, 164, 165, 166, 167, 168] (by decide +kernel) (by decide +kernel)
set_option maxRecDepth 20000 in
theorem gX6_allow_X0_addSubstitute : GoodIn wsX6_allow (wsV RX6 117 RX0 yX0_addSubstitute wsX0_addSubstitute) := goodIn_app (goodIn_of _ (by decide +kernel)) ggX6_allow_X0_addSubstitute
set_option maxRecDepth 20000 in
theorem ggX6_allow_X0_findRanks : GoodIn wsX6_allow wsX0_findRanks := goodIn_r _ [56, 36, 57, 58, 59, 60, 61, 62, 63, 12, 64, 31, 19, 7, 20, 65, 66, 67, 68, 69, 70, 71, 72, 32, 73, 74, 75, 76, 33, 14, 15, 16, 17, 18, 21, 22, 23, 24, 25, 77, 78, 79, 80, 81, 82, 41, 83, 84, 85, 86, 87, 88, 89, 51, 52, 161, 162, 163, 164, 165, 166, 167, 168] (by decide +kernel) (by decide +kernel)
set_option maxRecDepth 20000 in
theorem gX6_allow_X0_findRanks : GoodIn wsX6_allow (wsV RX6 81 RX0 yX0_findRanks wsX0_findRanks) := goodIn_app (goodIn_of _ (by decide +kernel)) ggX6_allow_X0_findRanks
set_option maxRecDepth 20000 in
theorem ggX6_allow_X1_remember : GoodIn wsX6_allow wsX1_remember := goodIn_r _ [94, 95, 96, 97, 98, 99, 100, 93, 101, 102, 103, 104, 105, 106, 7, 107, 108, 109, 110, 111, 112, 113, 114, 115, 116, 117, 118, 119, 120, 12, 121, 122, 123, 124, 125, 126, 127, 128, 129, 130, 31, 32, 33, 34, 18, 25, 35, 36, 57, 58, 59, 60, 131, 132, 133, 134, 135, 136, 137, 138, 139, 140, 141, 142, 143, 144, 28, 29, 30, 37, 38, 39, 40, 41, 42, 43, 44, 45, 46, 145, 146, 147, 148, 149, 169, 170, 171, 172, 173, 161, 162, 163, 164, 165, 166, 167, 168, 174, 175, 176, 177, 178, 179, 180] (by decide +kernel) (by decide +kernel)
set_option maxRecDepth 20000 in
theorem gX6_allow_X1_remember : GoodIn wsX6_allow (wsV RX6 85 RX1 yX1_remember wsX1_remember) := goodIn_app (goodIn_of _ (by decide +kernel)) ggX6_allow_X1_remember
theorem dX6_allow_0 : decode cX6_allow 0 = .ok (.iload_n 1, 1) := by decide +kernel
theorem dX6_allow_1 : decode cX6_allow 1 = .ok (.invokestatic 96, 3) := by decide +kernel
theorem dX6_allow_4 : decode cX6_allow 4 = .ok (.ifCond .eq 15, 3) := by decide +kernel
theorem dX6_allow_7 : decode cX6_allow 7 = .ok (.iload_n 2, 1) := by decide +kernel
theorem dX6_allow_8 : decode cX6_allow 8 = .ok (.invokestatic 96, 3) := by decide +kernel
theorem dX6_allow_11 : decode cX6_allow 11 = .ok (.ifCond .eq 8, 3) := by decide +kernel
theorem dX6_allow_14 : decode cX6_allow 14 = .ok (.iload_n 1, 1) := by decide +kernel
theorem dX6_allow_15 : decode cX6_allow 15 = .ok (.iload_n 2, 1) := by decide +kernel
theorem dX6_allow_16 : decode cX6_allow 16 = .ok (.if_icmp .ne 5, 3) := by decide +kernel
theorem dX6_allow_19 : decode cX6_allow 19 = .ok (.iconst (-1), 1) := by decide +kernel
theorem dX6_allow_20 : decode cX6_allow 20 = .ok (.ireturn, 1) := by decide +kernel
theorem dX6_allow_21 : decode cX6_allow 21 = .ok (.aload_n 0, 1) := by decide +kernel
theorem dX6_allow_22 : decode cX6_allow 22 = .ok (.getfield 10, 3) := by decide +kernel
theorem dX6_allow_25 : decode cX6_allow 25 = .ok (.iload_n 1, 1) := by decide +kernel
theorem dX6_allow_26 : decode cX6_allow 26 = .ok (.iload_n 2, 1) := by decide +kernel
theorem dX6_allow_27 : decode cX6_allow 27 = .ok (.invokevirtual 110, 3) := by decide +kernel
theorem dX6_allow_30 : decode cX6_allow 30 = .ok (.ifCond .eq 6, 3) := by decide +kernel
theorem dX6_allow_33 : decode cX6_allow 33 = .ok (.bipush (-2), 2) := by decide +kernel
theorem dX6_allow_35 : decode cX6_allow 35 = .ok (.ireturn, 1) := by decide +kernel
theorem dX6_allow_36 : decode cX6_allow 36 = .ok (.aload_n 0, 1) := by decide +kernel
theorem dX6_allow_37 : decode cX6_allow 37 = .ok (.getfield 10, 3) := by decide +kernel
theorem dX6_allow_40 : decode cX6_allow 40 = .ok (.iload_n 1, 1) := by decide +kernel
theorem dX6_allow_41 : decode cX6_allow 41 = .ok (.invokevirtual 114, 3) := by decide +kernel
theorem dX6_allow_44 : decode cX6_allow 44 = .ok (.iconst 3, 1) := by decide +kernel
theorem dX6_allow_45 : decode cX6_allow 45 = .ok (.if_icmp .lt 6, 3) := by decide +kernel
theorem dX6_allow_48 : decode cX6_allow 48 = .ok (.bipush (-3), 2) := by decide +kernel
theorem dX6_allow_50 : decode cX6_allow 50 = .ok (.ireturn, 1) := by decide +kernel
theorem dX6_allow_51 : decode cX6_allow 51 = .ok (.aload_n 0, 1) := by decide +kernel
theorem dX6_allow_52 : decode cX6_allow 52 = .ok (.getfield 16, 3) := by decide +kernel
theorem dX6_allow_55 : decode cX6_allow 55 = .ok (.aload_n 0, 1) := by decide +kernel
theorem dX6_allow_56 : decode cX6_allow 56 = .ok (.getfield 10, 3) := by decide +kernel
theorem dX6_allow_59 : decode cX6_allow 59 = .ok (.invokevirtual 73, 3) := by decide +kernel
theorem dX6_allow_62 : decode cX6_allow 62 = .ok (.aload_n 0, 1) := by decide +kernel
theorem dX6_allow_63 : decode cX6_allow 63 = .ok (.getfield 16, 3) := by decide +kernel
theorem dX6_allow_66 : decode cX6_allow 66 = .ok (.iload_n 1, 1) := by decide +kernel
theorem dX6_allow_67 : decode cX6_allow 67 = .ok (.iload_n 2, 1) := by decide +kernel
theorem dX6_allow_68 : decode cX6_allow 68 = .ok (.invokevirtual 117, 3) := by decide +kernel
theorem dX6_allow_71 : decode cX6_allow 71 = .ok (.aload_n 0, 1) := by decide +kernel
theorem dX6_allow_72 : decode cX6_allow 72 = .ok (.getfield 16, 3) := by decide +kernel
theorem dX6_allow_75 : decode cX6_allow 75 = .ok (.invokevirtual 81, 3) := by decide +kernel
theorem dX6_allow_78 : decode cX6_allow 78 = .ok (.ifCond .ne 6, 3) := by decide +kernel
theorem dX6_allow_81 : decode cX6_allow 81 = .ok (.bipush (-2), 2) := by decide +kernel
theorem dX6_allow_83 : decode cX6_allow 83 = .ok (.ireturn, 1) := by decide +kernel
theorem dX6_allow_84 : decode cX6_allow 84 = .ok (.aload_n 0, 1) := by decide +kernel
theorem dX6_allow_85 : decode cX6_allow 85 = .ok (.getfield 36, 3) := by decide +kernel
theorem dX6_allow_88 : decode cX6_allow 88 = .ok (.aload_n 0, 1) := by decide +kernel
theorem dX6_allow_89 : decode cX6_allow 89 = .ok (.getfield 10, 3) := by decide +kernel
theorem dX6_allow_92 : decode cX6_allow 92 = .ok (.aload_n 0, 1) := by decide +kernel
theorem dX6_allow_93 : decode cX6_allow 93 = .ok (.getfield 22, 3) := by decide +kernel
theorem dX6_allow_96 : decode cX6_allow 96 = .ok (.invokevirtual 85, 3) := by decide +kernel
theorem dX6_allow_99 : decode cX6_allow 99 = .ok (.aload_n 0, 1) := by decide +kernel
theorem dX6_allow_100 : decode cX6_allow 100 = .ok (.getfield 10, 3) := by decide +kernel
theorem dX6_allow_103 : decode cX6_allow 103 = .ok (.aload_n 0, 1) := by decide +kernel
theorem dX6_allow_104 : decode cX6_allow 104 = .ok (.getfield 16, 3) := by decide +kernel
theorem dX6_allow_107 : decode cX6_allow 107 = .ok (.invokevirtual 73, 3) := by decide +kernel
theorem dX6_allow_110 : decode cX6_allow 110 = .ok (.aload_n 0, 1) := by decide +kernel
theorem dX6_allow_111 : decode cX6_allow 111 = .ok (.getfield 10, 3) := by decide +kernel
theorem dX6_allow_114 : decode cX6_allow 114 = .ok (.iload_n 1, 1) := by decide +kernel
theorem dX6_allow_115 : decode cX6_allow 115 = .ok (.invokevirtual 114, 3) := by decide +kernel
theorem dX6_allow_118 : decode cX6_allow 118 = .ok (.ireturn, 1) := by decide +kernel
set_option maxRecDepth 20000 in
theorem ggX6_forbid_X6_isThing : GoodIn wsX6_forbid wsX6_isThing := goodIn_r _ [7] (by decide +kernel) (by decide +kernel)
set_option maxRecDepth 20000 in
theorem gX6_forbid_X6_isThing : GoodIn wsX6_forbid (va_wsS RX6 96 yX6_isThing wsX6_isThing) := goodIn_app (goodIn_of _ (by decide +kernel)) ggX6_forbid_X6_isThing
set_option maxRecDepth 20000 in
theorem ggX6_forbid_X0_substitutesOf : GoodIn wsX6_forbid wsX0_substitutesOf := goodIn_r _ [12, 13, 14, 6, 15, 156, 157, 158, 159, 160, 161, 162, 163] (by decide +kernel) (by decide +kernel)
set_option maxRecDepth 20000 in
theorem gX6_forbid_X0_substitutesOf : GoodIn wsX6_forbid (wsV RX6 114 RX0 yX0_substitutesOf wsX0_substitutesOf) := goodIn_app (goodIn_of _ (by decide +kernel)) ggX6_forbid_X0_substitutesOf
set_option maxRecDepth 20000 in
theorem ggX6_forbid_X1_remember : GoodIn wsX6_forbid wsX1_remember := goodIn_r _ [20, 21, 22, 23, 24, 25, 26, 19, 27, 28, 29, 30, 31, 32, 6, 33, 34, 35, 36, 37, 38, 39, 40, 41, 42, 43, 44, 45, 46, 11, 47, 48, 49, 50, 51, 52, 53, 54, 55, 56, 57, 58, 59, 60, 13, 61, 62, 63, 64, 65, 66, 67, 68, 69, 70, 71, 72, 73, 74, 75, 76, 77, 78, 79, 80, 81, 82, 83, 84, 85, 86, 87, 88, 89, 90, 91, 92, 93, 94, 95, 96, 97, 98, 99, 164, 165, 166, 167, 168, 156, 157, 158, 159, 160, 161, 162, 163, 169, 170, 171, 172, 173, 174, 175] (by decide +kernel) (by decide +kernel)
set_option maxRecDepth 20000 in
theorem gX6_forbid_X1_remember : GoodIn wsX6_forbid (wsV RX6 85 RX1 yX1_remember wsX1_remember) := goodIn_app (goodIn_of _ (by decide +kernel)) ggX6_forbid_X1_remember
set_option maxRecDepth 20000 in
theorem ggX6_forbid_X0_substituteAt : GoodIn wsX6_forbid wsX0_substituteAt := goodIn_r _ [103, 61, 14, 6, 15, 156, 157, 158, 159, 160, 161, 162, 163] (by decide +kernel) (by decide +kernel)
set_option maxRecDepth 20000 in
theorem gX6_forbid_X0_substituteAt : GoodIn wsX6_forbid (wsV RX6 121 RX0 yX0_substituteAt wsX0_substituteAt) := goodIn_app (goodIn_of _ (by decide +kernel)) ggX6_forbid_X0_substituteAt
set_option maxRecDepth 20000 in
theorem ggX6_forbid_X0_removeSubstitute : GoodIn wsX6_forbid wsX0_removeSubstitute := goodIn_r _ [107, 61, 13, 108, 9, 10, 11, 12, 14, 6, 15, 109, 101, 102, 103, 110, 111, 156, 157, 158, 159, 160, 161, 162, 163] (by decide +kernel) (by decide +kernel)
set_option maxRecDepth 20000 in
theorem gX6_forbid_X0_removeSubstitute : GoodIn wsX6_forbid (wsV RX6 125 RX0 yX0_removeSubstitute wsX0_removeSubstitute) := goodIn_app (goodIn_of _ (by decide +kernel)) ggX6_forbid_X0_removeSubstitute
set_option maxRecDepth 20000 in
theorem ggX6_forbid_X0_findRanks : GoodIn wsX6_forbid wsX0_findRanks := goodIn_r _ [115, 63, 64, 65, 66, 67, 116, 117, 118, 11, 119, 57, 14, 6, 15, 120, 121, 122, 123, 124, 125, 126, 127, 58, 128, 129, 130, 131, 59, 108, 9, 10, 12, 13, 109, 101, 102, 103, 61, 132, 133, 134, 135, 136, 137, 89, 138, 139, 140, 141, 142, 143, 144, 110, 111, 156, 157, 158, 159, 160, 161, 162, 163] (by decide +kernel) (by decide +kernel)
set_option maxRecDepth 20000 in
theorem gX6_forbid_X0_findRanks : GoodIn wsX6_forbid (wsV RX6 81 RX0 yX0_findRanks wsX0_findRanks) := goodIn_app (goodIn_of _ (by decide +kernel)) ggX6_forbid_X0_findRanks
theorem dX6_forbid_0 : decode cX6_forbid 0 = .ok (.iload_n 1, 1) := by decide +kernel
theorem dX6_forbid_1 : decode cX6_forbid 1 = .ok (.invokestatic 96, 3) := by decide +kernel
theorem dX6_forbid_4 : decode cX6_forbid 4 = .ok (.ifCond .eq 19, 3) := by decide +kernel
theorem dX6_forbid_7 : decode cX6_forbid 7 = .ok (.iload_n 2, 1) := by decide +kernel
theorem dX6_forbid_8 : decode cX6_forbid 8 = .ok (.ifCond .lt 15, 3) := by decide +kernel
theorem dX6_forbid_11 : decode cX6_forbid 11 = .ok (.iload_n 2, 1) := by decide +kernel
theorem dX6_forbid_12 : decode cX6_forbid 12 = .ok (.aload_n 0, 1) := by decide +kernel
theorem dX6_forbid_13 : decode cX6_forbid 13 = .ok (.getfield 10, 3) := by decide +kernel
theorem dX6_forbid_16 : decode cX6_forbid 16 = .ok (.iload_n 1, 1) := by decide +kernel
theorem dX6_forbid_17 : decode cX6_forbid 17 = .ok (.invokevirtual 114, 3) := by decide +kernel
theorem dX6_forbid_20 : decode cX6_forbid 20 = .ok (.if_icmp .lt 5, 3) := by decide +kernel
theorem dX6_forbid_23 : decode cX6_forbid 23 = .ok (.iconst (-1), 1) := by decide +kernel
theorem dX6_forbid_24 : decode cX6_forbid 24 = .ok (.ireturn, 1) := by decide +kernel
theorem dX6_forbid_25 : decode cX6_forbid 25 = .ok (.aload_n 0, 1) := by decide +kernel
theorem dX6_forbid_26 : decode cX6_forbid 26 = .ok (.getfield 36, 3) := by decide +kernel
theorem dX6_forbid_29 : decode cX6_forbid 29 = .ok (.aload_n 0, 1) := by decide +kernel
theorem dX6_forbid_30 : decode cX6_forbid 30 = .ok (.getfield 10, 3) := by decide +kernel
theorem dX6_forbid_33 : decode cX6_forbid 33 = .ok (.aload_n 0, 1) := by decide +kernel
theorem dX6_forbid_34 : decode cX6_forbid 34 = .ok (.getfield 22, 3) := by decide +kernel
theorem dX6_forbid_37 : decode cX6_forbid 37 = .ok (.invokevirtual 85, 3) := by decide +kernel
theorem dX6_forbid_40 : decode cX6_forbid 40 = .ok (.aload_n 0, 1) := by decide +kernel
theorem dX6_forbid_41 : decode cX6_forbid 41 = .ok (.getfield 10, 3) := by decide +kernel
theorem dX6_forbid_44 : decode cX6_forbid 44 = .ok (.iload_n 1, 1) := by decide +kernel
theorem dX6_forbid_45 : decode cX6_forbid 45 = .ok (.iload_n 2, 1) := by decide +kernel
theorem dX6_forbid_46 : decode cX6_forbid 46 = .ok (.invokevirtual 121, 3) := by decide +kernel
theorem dX6_forbid_49 : decode cX6_forbid 49 = .ok (.istore_n 3, 1) := by decide +kernel
theorem dX6_forbid_50 : decode cX6_forbid 50 = .ok (.aload_n 0, 1) := by decide +kernel
theorem dX6_forbid_51 : decode cX6_forbid 51 = .ok (.getfield 10, 3) := by decide +kernel
theorem dX6_forbid_54 : decode cX6_forbid 54 = .ok (.iload_n 1, 1) := by decide +kernel
theorem dX6_forbid_55 : decode cX6_forbid 55 = .ok (.iload_n 2, 1) := by decide +kernel
theorem dX6_forbid_56 : decode cX6_forbid 56 = .ok (.invokevirtual 125, 3) := by decide +kernel
theorem dX6_forbid_59 : decode cX6_forbid 59 = .ok (.aload_n 0, 1) := by decide +kernel
theorem dX6_forbid_60 : decode cX6_forbid 60 = .ok (.getfield 10, 3) := by decide +kernel
theorem dX6_forbid_63 : decode cX6_forbid 63 = .ok (.invokevirtual 81, 3) := by decide +kernel
theorem dX6_forbid_66 : decode cX6_forbid 66 = .ok (.pop, 1) := by decide +kernel
theorem dX6_forbid_67 : decode cX6_forbid 67 = .ok (.iload_n 3, 1) := by decide +kernel
theorem dX6_forbid_68 : decode cX6_forbid 68 = .ok (.ireturn, 1) := by decide +kernel
set_option maxRecDepth 20000 in
theorem ggX6_vessel_X6_isThing : GoodIn wsX6_vessel wsX6_isThing := goodIn_r _ [7] (by decide +kernel) (by decide +kernel)
set_option maxRecDepth 20000 in
theorem gX6_vessel_X6_isThing : GoodIn wsX6_vessel (va_wsS RX6 96 yX6_isThing wsX6_isThing) := goodIn_app (goodIn_of _ (by decide +kernel)) ggX6_vessel_X6_isThing
set_option maxRecDepth 20000 in
theorem ggX6_vessel_X0_vesselOf : GoodIn wsX6_vessel wsX0_vesselOf := goodIn_r _ [12, 13, 14, 6, 15, 122, 123, 124, 125, 126, 127, 128, 129] (by decide +kernel) (by decide +kernel)
set_option maxRecDepth 20000 in
theorem gX6_vessel_X0_vesselOf : GoodIn wsX6_vessel (wsV RX6 128 RX0 yX0_vesselOf wsX0_vesselOf) := goodIn_app (goodIn_of _ (by decide +kernel)) ggX6_vessel_X0_vesselOf
set_option maxRecDepth 20000 in
theorem ggX6_vessel_X0_isVessel : GoodIn wsX6_vessel wsX0_isVessel := goodIn_r _ [19, 20, 9, 10, 11, 12, 13, 14, 6, 15, 122, 123, 124, 125, 126, 127, 128, 129] (by decide +kernel) (by decide +kernel)
set_option maxRecDepth 20000 in
theorem gX6_vessel_X0_isVessel : GoodIn wsX6_vessel (wsV RX6 131 RX0 yX0_isVessel wsX0_isVessel) := goodIn_app (goodIn_of _ (by decide +kernel)) ggX6_vessel_X0_isVessel
set_option maxRecDepth 20000 in
theorem ggX6_vessel_X1_remember : GoodIn wsX6_vessel wsX1_remember := goodIn_r _ [25, 26, 27, 28, 29, 30, 31, 24, 32, 33, 34, 35, 36, 37, 6, 38, 39, 40, 41, 42, 43, 44, 45, 46, 47, 48, 49, 50, 51, 11, 52, 53, 54, 55, 56, 57, 58, 59, 60, 61, 62, 63, 64, 65, 66, 67, 13, 68, 69, 70, 71, 72, 73, 74, 75, 76, 77, 78, 79, 80, 81, 82, 83, 84, 85, 86, 87, 88, 89, 90, 91, 92, 93, 94, 95, 96, 97, 98, 99, 100, 101, 102, 103, 104, 130, 131, 132, 133, 134, 122, 123, 124, 125, 126, 127, 128, 129, 135, 136, 137, 138, 139, 140, 141] (by decide +kernel) (by decide +kernel)
set_option maxRecDepth 20000 in
theorem gX6_vessel_X1_remember : GoodIn wsX6_vessel (wsV RX6 85 RX1 yX1_remember wsX1_remember) := goodIn_app (goodIn_of _ (by decide +kernel)) ggX6_vessel_X1_remember
set_option maxRecDepth 20000 in
theorem ggX6_vessel_X0_setVessel : GoodIn wsX6_vessel wsX0_setVessel := goodIn_r _ [108, 13, 109, 6, 110, 122, 123, 124, 125, 126, 127, 128, 129] (by decide +kernel) (by decide +kernel)
set_option maxRecDepth 20000 in
theorem gX6_vessel_X0_setVessel : GoodIn wsX6_vessel (wsV RX6 134 RX0 yX0_setVessel wsX0_setVessel) := goodIn_app (goodIn_of _ (by decide +kernel)) ggX6_vessel_X0_setVessel
theorem dX6_vessel_0 : decode cX6_vessel 0 = .ok (.iload_n 2, 1) := by decide +kernel
theorem dX6_vessel_1 : decode cX6_vessel 1 = .ok (.bipush (-9), 2) := by decide +kernel
theorem dX6_vessel_3 : decode cX6_vessel 3 = .ok (.if_icmp .ne 7, 3) := by decide +kernel
theorem dX6_vessel_6 : decode cX6_vessel 6 = .ok (.iconst 1, 1) := by decide +kernel
theorem dX6_vessel_7 : decode cX6_vessel 7 = .ok (.goto 4, 3) := by decide +kernel
theorem dX6_vessel_10 : decode cX6_vessel 10 = .ok (.iconst 0, 1) := by decide +kernel
theorem dX6_vessel_11 : decode cX6_vessel 11 = .ok (.istore_n 3, 1) := by decide +kernel
theorem dX6_vessel_12 : decode cX6_vessel 12 = .ok (.iload_n 1, 1) := by decide +kernel
theorem dX6_vessel_13 : decode cX6_vessel 13 = .ok (.invokestatic 96, 3) := by decide +kernel
theorem dX6_vessel_16 : decode cX6_vessel 16 = .ok (.ifCond .eq 19, 3) := by decide +kernel
theorem dX6_vessel_19 : decode cX6_vessel 19 = .ok (.iload_n 3, 1) := by decide +kernel
theorem dX6_vessel_20 : decode cX6_vessel 20 = .ok (.ifCond .ne 10, 3) := by decide +kernel
theorem dX6_vessel_23 : decode cX6_vessel 23 = .ok (.iload_n 2, 1) := by decide +kernel
theorem dX6_vessel_24 : decode cX6_vessel 24 = .ok (.invokestatic 96, 3) := by decide +kernel
theorem dX6_vessel_27 : decode cX6_vessel 27 = .ok (.ifCond .eq 8, 3) := by decide +kernel
theorem dX6_vessel_30 : decode cX6_vessel 30 = .ok (.iload_n 1, 1) := by decide +kernel
theorem dX6_vessel_31 : decode cX6_vessel 31 = .ok (.iload_n 2, 1) := by decide +kernel
theorem dX6_vessel_32 : decode cX6_vessel 32 = .ok (.if_icmp .ne 5, 3) := by decide +kernel
theorem dX6_vessel_35 : decode cX6_vessel 35 = .ok (.iconst (-1), 1) := by decide +kernel
theorem dX6_vessel_36 : decode cX6_vessel 36 = .ok (.ireturn, 1) := by decide +kernel
theorem dX6_vessel_37 : decode cX6_vessel 37 = .ok (.iload_n 3, 1) := by decide +kernel
theorem dX6_vessel_38 : decode cX6_vessel 38 = .ok (.ifCond .ne 30, 3) := by decide +kernel
theorem dX6_vessel_41 : decode cX6_vessel 41 = .ok (.aload_n 0, 1) := by decide +kernel
theorem dX6_vessel_42 : decode cX6_vessel 42 = .ok (.getfield 10, 3) := by decide +kernel
theorem dX6_vessel_45 : decode cX6_vessel 45 = .ok (.iload_n 2, 1) := by decide +kernel
theorem dX6_vessel_46 : decode cX6_vessel 46 = .ok (.invokevirtual 128, 3) := by decide +kernel
theorem dX6_vessel_49 : decode cX6_vessel 49 = .ok (.bipush (-9), 2) := by decide +kernel
theorem dX6_vessel_51 : decode cX6_vessel 51 = .ok (.if_icmp .ne 14, 3) := by decide +kernel
theorem dX6_vessel_54 : decode cX6_vessel 54 = .ok (.aload_n 0, 1) := by decide +kernel
theorem dX6_vessel_55 : decode cX6_vessel 55 = .ok (.getfield 10, 3) := by decide +kernel
theorem dX6_vessel_58 : decode cX6_vessel 58 = .ok (.iload_n 1, 1) := by decide +kernel
theorem dX6_vessel_59 : decode cX6_vessel 59 = .ok (.invokevirtual 131, 3) := by decide +kernel
theorem dX6_vessel_62 : decode cX6_vessel 62 = .ok (.ifCond .eq 6, 3) := by decide +kernel
theorem dX6_vessel_65 : decode cX6_vessel 65 = .ok (.bipush (-2), 2) := by decide +kernel
theorem dX6_vessel_67 : decode cX6_vessel 67 = .ok (.ireturn, 1) := by decide +kernel
theorem dX6_vessel_68 : decode cX6_vessel 68 = .ok (.aload_n 0, 1) := by decide +kernel
theorem dX6_vessel_69 : decode cX6_vessel 69 = .ok (.getfield 36, 3) := by decide +kernel
theorem dX6_vessel_72 : decode cX6_vessel 72 = .ok (.aload_n 0, 1) := by decide +kernel
theorem dX6_vessel_73 : decode cX6_vessel 73 = .ok (.getfield 10, 3) := by decide +kernel
theorem dX6_vessel_76 : decode cX6_vessel 76 = .ok (.aload_n 0, 1) := by decide +kernel
theorem dX6_vessel_77 : decode cX6_vessel 77 = .ok (.getfield 22, 3) := by decide +kernel
theorem dX6_vessel_80 : decode cX6_vessel 80 = .ok (.invokevirtual 85, 3) := by decide +kernel
theorem dX6_vessel_83 : decode cX6_vessel 83 = .ok (.aload_n 0, 1) := by decide +kernel
theorem dX6_vessel_84 : decode cX6_vessel 84 = .ok (.getfield 10, 3) := by decide +kernel
theorem dX6_vessel_87 : decode cX6_vessel 87 = .ok (.iload_n 1, 1) := by decide +kernel
theorem dX6_vessel_88 : decode cX6_vessel 88 = .ok (.invokevirtual 128, 3) := by decide +kernel
theorem dX6_vessel_91 : decode cX6_vessel 91 = .ok (.istore 4, 2) := by decide +kernel
theorem dX6_vessel_93 : decode cX6_vessel 93 = .ok (.aload_n 0, 1) := by decide +kernel
theorem dX6_vessel_94 : decode cX6_vessel 94 = .ok (.getfield 10, 3) := by decide +kernel
theorem dX6_vessel_97 : decode cX6_vessel 97 = .ok (.iload_n 1, 1) := by decide +kernel
theorem dX6_vessel_98 : decode cX6_vessel 98 = .ok (.iload_n 2, 1) := by decide +kernel
theorem dX6_vessel_99 : decode cX6_vessel 99 = .ok (.invokevirtual 134, 3) := by decide +kernel
theorem dX6_vessel_102 : decode cX6_vessel 102 = .ok (.iload 4, 2) := by decide +kernel
theorem dX6_vessel_104 : decode cX6_vessel 104 = .ok (.ireturn, 1) := by decide +kernel
set_option maxRecDepth 20000 in
theorem ggX6_bring_X6_isThing : GoodIn wsX6_bring wsX6_isThing := goodIn_r _ [12] (by decide +kernel) (by decide +kernel)
set_option maxRecDepth 20000 in
theorem gX6_bring_X6_isThing : GoodIn wsX6_bring (va_wsS RX6 96 yX6_isThing wsX6_isThing) := goodIn_app (goodIn_of _ (by decide +kernel)) ggX6_bring_X6_isThing
set_option maxRecDepth 20000 in
theorem ggX6_bring_X6_at : GoodIn wsX6_bring wsX6_at := goodIn_r _ [15] (by decide +kernel) (by decide +kernel)
set_option maxRecDepth 20000 in
theorem gX6_bring_X6_at : GoodIn wsX6_bring (va_wsS RX6 140 yX6_at wsX6_at) := goodIn_app (goodIn_of _ (by decide +kernel)) ggX6_bring_X6_at
set_option maxRecDepth 20000 in
theorem ggX6_bring_X1_remember : GoodIn wsX6_bring wsX1_remember := goodIn_r _ [20, 21, 22, 23, 24, 25, 26, 19, 27, 28, 29, 30, 31, 32, 11, 33, 34, 35, 36, 37, 38, 39, 40, 41, 42, 43, 44, 45, 46, 47, 48, 49, 50, 51, 52, 53, 54, 55, 56, 57, 58, 59, 60, 61, 62, 63, 64, 65, 66, 67, 68, 69, 70, 71, 72, 73, 74, 75, 76, 77, 78, 79, 80, 81, 82, 83, 84, 85, 86, 87, 88, 89, 90, 4, 91, 92, 93, 94, 95, 96, 97, 98, 99, 100, 122, 123, 124, 125, 126, 127, 128, 129, 130, 131, 132, 133, 134, 115, 116, 117, 118, 119, 120, 121] (by decide +kernel) (by decide +kernel)
set_option maxRecDepth 20000 in
theorem gX6_bring_X1_remember : GoodIn wsX6_bring (wsV RX6 85 RX1 yX1_remember wsX1_remember) := goodIn_app (goodIn_of _ (by decide +kernel)) ggX6_bring_X1_remember
set_option maxRecDepth 20000 in
theorem ggX6_bring_X6_add : GoodIn wsX6_bring wsX6_add := goodIn_r _ [103] (by decide +kernel) (by decide +kernel)
set_option maxRecDepth 20000 in
theorem gX6_bring_X6_add : GoodIn wsX6_bring (va_wsS RX6 150 yX6_add wsX6_add) := goodIn_app (goodIn_of _ (by decide +kernel)) ggX6_bring_X6_add
theorem dX6_bring_0 : decode cX6_bring 0 = .ok (.iload_n 1, 1) := by decide +kernel
theorem dX6_bring_1 : decode cX6_bring 1 = .ok (.invokestatic 96, 3) := by decide +kernel
theorem dX6_bring_4 : decode cX6_bring 4 = .ok (.ifCond .eq 17, 3) := by decide +kernel
theorem dX6_bring_7 : decode cX6_bring 7 = .ok (.iload_n 2, 1) := by decide +kernel
theorem dX6_bring_8 : decode cX6_bring 8 = .ok (.sipush (-9999), 3) := by decide +kernel
theorem dX6_bring_11 : decode cX6_bring 11 = .ok (.if_icmp .lt 10, 3) := by decide +kernel
theorem dX6_bring_14 : decode cX6_bring 14 = .ok (.iload_n 2, 1) := by decide +kernel
theorem dX6_bring_15 : decode cX6_bring 15 = .ok (.sipush 9999, 3) := by decide +kernel
theorem dX6_bring_18 : decode cX6_bring 18 = .ok (.if_icmp .le 5, 3) := by decide +kernel
theorem dX6_bring_21 : decode cX6_bring 21 = .ok (.iconst (-1), 1) := by decide +kernel
theorem dX6_bring_22 : decode cX6_bring 22 = .ok (.ireturn, 1) := by decide +kernel
theorem dX6_bring_23 : decode cX6_bring 23 = .ok (.aload_n 0, 1) := by decide +kernel
theorem dX6_bring_24 : decode cX6_bring 24 = .ok (.getfield 22, 3) := by decide +kernel
theorem dX6_bring_27 : decode cX6_bring 27 = .ok (.getfield 137, 3) := by decide +kernel
theorem dX6_bring_30 : decode cX6_bring 30 = .ok (.iload_n 1, 1) := by decide +kernel
theorem dX6_bring_31 : decode cX6_bring 31 = .ok (.invokestatic 140, 3) := by decide +kernel
theorem dX6_bring_34 : decode cX6_bring 34 = .ok (.istore_n 3, 1) := by decide +kernel
theorem dX6_bring_35 : decode cX6_bring 35 = .ok (.iload_n 3, 1) := by decide +kernel
theorem dX6_bring_36 : decode cX6_bring 36 = .ok (.iload_n 2, 1) := by decide +kernel
theorem dX6_bring_37 : decode cX6_bring 37 = .ok (.iadd, 1) := by decide +kernel
theorem dX6_bring_38 : decode cX6_bring 38 = .ok (.iconst 0, 1) := by decide +kernel
theorem dX6_bring_39 : decode cX6_bring 39 = .ok (.invokestatic 144, 3) := by decide +kernel
theorem dX6_bring_42 : decode cX6_bring 42 = .ok (.istore 4, 2) := by decide +kernel
theorem dX6_bring_44 : decode cX6_bring 44 = .ok (.iload 4, 2) := by decide +kernel
theorem dX6_bring_46 : decode cX6_bring 46 = .ok (.ldc 149, 2) := by decide +kernel
theorem dX6_bring_48 : decode cX6_bring 48 = .ok (.if_icmp .le 6, 3) := by decide +kernel
theorem dX6_bring_51 : decode cX6_bring 51 = .ok (.bipush (-3), 2) := by decide +kernel
theorem dX6_bring_53 : decode cX6_bring 53 = .ok (.ireturn, 1) := by decide +kernel
theorem dX6_bring_54 : decode cX6_bring 54 = .ok (.aload_n 0, 1) := by decide +kernel
theorem dX6_bring_55 : decode cX6_bring 55 = .ok (.getfield 36, 3) := by decide +kernel
theorem dX6_bring_58 : decode cX6_bring 58 = .ok (.aload_n 0, 1) := by decide +kernel
theorem dX6_bring_59 : decode cX6_bring 59 = .ok (.getfield 10, 3) := by decide +kernel
theorem dX6_bring_62 : decode cX6_bring 62 = .ok (.aload_n 0, 1) := by decide +kernel
theorem dX6_bring_63 : decode cX6_bring 63 = .ok (.getfield 22, 3) := by decide +kernel
theorem dX6_bring_66 : decode cX6_bring 66 = .ok (.invokevirtual 85, 3) := by decide +kernel
theorem dX6_bring_69 : decode cX6_bring 69 = .ok (.aload_n 0, 1) := by decide +kernel
theorem dX6_bring_70 : decode cX6_bring 70 = .ok (.getfield 22, 3) := by decide +kernel
theorem dX6_bring_73 : decode cX6_bring 73 = .ok (.getfield 137, 3) := by decide +kernel
theorem dX6_bring_76 : decode cX6_bring 76 = .ok (.iload_n 1, 1) := by decide +kernel
theorem dX6_bring_77 : decode cX6_bring 77 = .ok (.iload 4, 2) := by decide +kernel
theorem dX6_bring_79 : decode cX6_bring 79 = .ok (.iload_n 3, 1) := by decide +kernel
theorem dX6_bring_80 : decode cX6_bring 80 = .ok (.isub, 1) := by decide +kernel
theorem dX6_bring_81 : decode cX6_bring 81 = .ok (.invokestatic 150, 3) := by decide +kernel
theorem dX6_bring_84 : decode cX6_bring 84 = .ok (.aload_n 0, 1) := by decide +kernel
theorem dX6_bring_85 : decode cX6_bring 85 = .ok (.getfield 22, 3) := by decide +kernel
theorem dX6_bring_88 : decode cX6_bring 88 = .ok (.getfield 154, 3) := by decide +kernel
theorem dX6_bring_91 : decode cX6_bring 91 = .ok (.iload_n 1, 1) := by decide +kernel
theorem dX6_bring_92 : decode cX6_bring 92 = .ok (.iload 4, 2) := by decide +kernel
theorem dX6_bring_94 : decode cX6_bring 94 = .ok (.iload_n 3, 1) := by decide +kernel
theorem dX6_bring_95 : decode cX6_bring 95 = .ok (.isub, 1) := by decide +kernel
theorem dX6_bring_96 : decode cX6_bring 96 = .ok (.invokestatic 150, 3) := by decide +kernel
theorem dX6_bring_99 : decode cX6_bring 99 = .ok (.iload 4, 2) := by decide +kernel
theorem dX6_bring_101 : decode cX6_bring 101 = .ok (.ireturn, 1) := by decide +kernel
set_option maxRecDepth 20000 in
theorem ggX6_wish_X6_isThing : GoodIn wsX6_wish wsX6_isThing := goodIn_r _ [7] (by decide +kernel) (by decide +kernel)
set_option maxRecDepth 20000 in
theorem gX6_wish_X6_isThing : GoodIn wsX6_wish (va_wsS RX6 96 yX6_isThing wsX6_isThing) := goodIn_app (goodIn_of _ (by decide +kernel)) ggX6_wish_X6_isThing
set_option maxRecDepth 20000 in
theorem ggX6_wish_X6_isWished : GoodIn wsX6_wish wsX6_isWished := goodIn_r _ [10] (by decide +kernel) (by decide +kernel)
set_option maxRecDepth 20000 in
theorem gX6_wish_X6_isWished : GoodIn wsX6_wish (va_wsS RX6 157 yX6_isWished wsX6_isWished) := goodIn_app (goodIn_of _ (by decide +kernel)) ggX6_wish_X6_isWished
set_option maxRecDepth 20000 in
theorem ggX6_wish_X5_begin : GoodIn wsX6_wish wsX5_begin := goodIn_r _ [15, 16, 17, 18, 19, 20, 21, 22, 23, 24, 25, 26, 27, 28, 29, 30, 31, 32, 33, 6, 34, 35, 36, 37, 38, 39, 40, 41, 42, 201, 202, 203, 204, 205, 206, 207, 208, 209, 210, 211, 212] (by decide +kernel) (by decide +kernel)
set_option maxRecDepth 20000 in
theorem gX6_wish_X5_begin : GoodIn wsX6_wish (wsV RX6 160 RX5 yX5_begin wsX5_begin) := goodIn_app (goodIn_of _ (by decide +kernel)) ggX6_wish_X5_begin
set_option maxRecDepth 20000 in
theorem ggX6_wish_X5_fulfil : GoodIn wsX6_wish wsX5_fulfil := goodIn_r _ [46, 16, 18, 47, 6, 48, 49, 50, 51, 14, 52, 53, 54, 55, 56, 57, 58, 59, 60, 61, 62, 63, 64, 65, 66, 67, 68, 69, 70, 71, 17, 20, 72, 73, 74, 75, 76, 77, 78, 79, 19, 80, 81, 82, 83, 84, 85, 86, 87, 88, 89, 90, 91, 92, 93, 94, 95, 96, 97, 98, 99, 100, 101, 102, 103, 36, 37, 38, 104, 105, 106, 107, 108, 109, 110, 111, 112, 113, 114, 115, 116, 117, 118, 119, 120, 121, 122, 201, 202, 203, 204, 205, 206, 207, 208, 209, 210, 211, 212, 213, 214, 215, 216, 217, 218, 219, 220] (by decide +kernel) (by decide +kernel)
set_option maxRecDepth 20000 in
theorem gX6_wish_X5_fulfil : GoodIn wsX6_wish (wsV RX6 164 RX5 yX5_fulfil wsX5_fulfil) := goodIn_app (goodIn_of _ (by decide +kernel)) ggX6_wish_X5_fulfil
set_option maxRecDepth 20000 in
theorem ggX6_wish_X6_acceptWorks : GoodIn wsX6_wish wsX6_acceptWorks := goodIn_r _ [126, 127, 3, 2, 1, 128, 129, 130, 131, 132, 133, 134, 135, 136, 137, 138, 139, 140, 141, 142, 143, 144, 6, 145, 146, 147, 148, 149, 150, 151, 152, 153, 154, 155, 156, 157, 158, 56, 159, 160, 161, 24, 162, 163, 164, 165, 166, 167, 58, 84, 89, 94, 113, 118, 108, 168, 169, 170, 171, 172, 173, 174, 175, 26, 27, 28, 29, 30, 31, 176, 177, 178, 179, 180, 181, 182, 183, 33, 34, 35, 36, 37, 38, 39, 40, 41, 42, 184, 22, 23, 25, 32, 185, 186, 187, 188, 14, 189, 20, 190, 191, 192, 193, 194, 195, 196, 197, 198, 199, 200, 201, 202, 203, 204, 205, 221, 222, 223, 224, 225, 213, 214, 215, 216, 217, 218, 219, 220, 206, 207, 208, 209, 210, 211, 212] (by decide +kernel) (by decide +kernel)
set_option maxRecDepth 20000 in
theorem gX6_wish_X6_acceptWorks : GoodIn wsX6_wish (wsV RX6 168 RX6 yX6_acceptWorks wsX6_acceptWorks) := goodIn_app (goodIn_of _ (by decide +kernel)) ggX6_wish_X6_acceptWorks
theorem dX6_wish_0 : decode cX6_wish 0 = .ok (.iload_n 1, 1) := by decide +kernel
theorem dX6_wish_1 : decode cX6_wish 1 = .ok (.invokestatic 96, 3) := by decide +kernel
theorem dX6_wish_4 : decode cX6_wish 4 = .ok (.ifCond .eq 10, 3) := by decide +kernel
theorem dX6_wish_7 : decode cX6_wish 7 = .ok (.iload_n 2, 1) := by decide +kernel
theorem dX6_wish_8 : decode cX6_wish 8 = .ok (.invokestatic 157, 3) := by decide +kernel
theorem dX6_wish_11 : decode cX6_wish 11 = .ok (.ifCond .ne 5, 3) := by decide +kernel
theorem dX6_wish_14 : decode cX6_wish 14 = .ok (.iconst (-1), 1) := by decide +kernel
theorem dX6_wish_15 : decode cX6_wish 15 = .ok (.ireturn, 1) := by decide +kernel
theorem dX6_wish_16 : decode cX6_wish 16 = .ok (.aload_n 0, 1) := by decide +kernel
theorem dX6_wish_17 : decode cX6_wish 17 = .ok (.getfield 29, 3) := by decide +kernel
theorem dX6_wish_20 : decode cX6_wish 20 = .ok (.aload_n 0, 1) := by decide +kernel
theorem dX6_wish_21 : decode cX6_wish 21 = .ok (.getfield 22, 3) := by decide +kernel
theorem dX6_wish_24 : decode cX6_wish 24 = .ok (.iconst 1, 1) := by decide +kernel
theorem dX6_wish_25 : decode cX6_wish 25 = .ok (.invokevirtual 160, 3) := by decide +kernel
theorem dX6_wish_28 : decode cX6_wish 28 = .ok (.aload_n 0, 1) := by decide +kernel
theorem dX6_wish_29 : decode cX6_wish 29 = .ok (.getfield 29, 3) := by decide +kernel
theorem dX6_wish_32 : decode cX6_wish 32 = .ok (.aload_n 0, 1) := by decide +kernel
theorem dX6_wish_33 : decode cX6_wish 33 = .ok (.getfield 10, 3) := by decide +kernel
theorem dX6_wish_36 : decode cX6_wish 36 = .ok (.iload_n 1, 1) := by decide +kernel
theorem dX6_wish_37 : decode cX6_wish 37 = .ok (.iload_n 2, 1) := by decide +kernel
theorem dX6_wish_38 : decode cX6_wish 38 = .ok (.invokevirtual 164, 3) := by decide +kernel
theorem dX6_wish_41 : decode cX6_wish 41 = .ok (.ifCond .ne 6, 3) := by decide +kernel
theorem dX6_wish_44 : decode cX6_wish 44 = .ok (.bipush (-3), 2) := by decide +kernel
theorem dX6_wish_46 : decode cX6_wish 46 = .ok (.ireturn, 1) := by decide +kernel
theorem dX6_wish_47 : decode cX6_wish 47 = .ok (.aload_n 0, 1) := by decide +kernel
theorem dX6_wish_48 : decode cX6_wish 48 = .ok (.invokevirtual 168, 3) := by decide +kernel
theorem dX6_wish_51 : decode cX6_wish 51 = .ok (.ireturn, 1) := by decide +kernel
set_option maxRecDepth 20000 in
theorem ggX6_make_X6_isThing : GoodIn wsX6_make wsX6_isThing := goodIn_r _ [7] (by decide +kernel) (by decide +kernel)
set_option maxRecDepth 20000 in
theorem gX6_make_X6_isThing : GoodIn wsX6_make (va_wsS RX6 96 yX6_isThing wsX6_isThing) := goodIn_app (goodIn_of _ (by decide +kernel)) ggX6_make_X6_isThing
set_option maxRecDepth 20000 in
theorem ggX6_make_X0_isMade : GoodIn wsX6_make wsX0_isMade := goodIn_r _ [12, 13, 14, 6, 15, 199, 200, 201, 202, 203, 204, 205, 206] (by decide +kernel) (by decide +kernel)
set_option maxRecDepth 20000 in
theorem gX6_make_X0_isMade : GoodIn wsX6_make (wsV RX6 100 RX0 yX0_isMade wsX0_isMade) := goodIn_app (goodIn_of _ (by decide +kernel)) ggX6_make_X0_isMade
set_option maxRecDepth 20000 in
theorem ggX6_make_X5_begin : GoodIn wsX6_make wsX5_begin := goodIn_r _ [20, 21, 22, 23, 24, 25, 26, 27, 28, 29, 30, 31, 32, 33, 34, 35, 36, 37, 38, 6, 39, 40, 41, 42, 43, 44, 45, 46, 47, 207, 208, 209, 210, 211, 212, 213, 214, 215, 216, 217, 218] (by decide +kernel) (by decide +kernel)
set_option maxRecDepth 20000 in
theorem gX6_make_X5_begin : GoodIn wsX6_make (wsV RX6 160 RX5 yX5_begin wsX5_begin) := goodIn_app (goodIn_of _ (by decide +kernel)) ggX6_make_X5_begin
set_option maxRecDepth 20000 in
theorem ggX6_make_X5_runAll : GoodIn wsX6_make wsX5_runAll := goodIn_r _ [51, 23, 52, 53, 54, 19, 55, 24, 21, 56, 57, 58, 11, 59, 60, 14, 6, 15, 61, 62, 63, 64, 65, 66, 67, 68, 69, 70, 71, 72, 73, 74, 75, 76, 77, 13, 78, 79, 80, 81, 82, 83, 84, 85, 86, 9, 10, 12, 87, 88, 89, 90, 91, 92, 22, 25, 93, 94, 95, 96, 97, 98, 41, 42, 43, 99, 100, 101, 102, 103, 104, 105, 106, 107, 108, 109, 110, 111, 112, 113, 114, 115, 116, 117, 118, 119, 120, 207, 208, 209, 210, 211, 199, 200, 201, 202, 203, 204, 205, 206, 212, 213, 214, 215, 216, 217, 218] (by decide +kernel) (by decide +kernel)
set_option maxRecDepth 20000 in
theorem gX6_make_X5_runAll : GoodIn wsX6_make (wsV RX6 172 RX5 yX5_runAll wsX5_runAll) := goodIn_app (goodIn_of _ (by decide +kernel)) ggX6_make_X5_runAll
set_option maxRecDepth 20000 in
theorem ggX6_make_X6_acceptWorks : GoodIn wsX6_make wsX6_acceptWorks := goodIn_r _ [124, 125, 1, 3, 2, 126, 127, 128, 129, 130, 131, 132, 133, 134, 135, 136, 137, 138, 139, 140, 141, 142, 6, 143, 144, 145, 146, 147, 148, 149, 150, 151, 152, 153, 154, 155, 156, 11, 157, 158, 159, 29, 160, 161, 162, 163, 164, 165, 13, 60, 65, 70, 108, 113, 103, 166, 167, 168, 169, 170, 171, 172, 173, 31, 32, 33, 34, 35, 36, 174, 175, 176, 177, 178, 179, 180, 181, 38, 39, 40, 41, 42, 43, 44, 45, 46, 47, 182, 27, 28, 30, 37, 183, 184, 185, 186, 19, 187, 25, 188, 189, 190, 191, 192, 193, 194, 195, 196, 197, 198, 207, 208, 209, 210, 211, 219, 220, 221, 222, 223, 199, 200, 201, 202, 203, 204, 205, 206, 212, 213, 214, 215, 216, 217, 218] (by decide +kernel) (by decide +kernel)
set_option maxRecDepth 20000 in
theorem gX6_make_X6_acceptWorks : GoodIn wsX6_make (wsV RX6 168 RX6 yX6_acceptWorks wsX6_acceptWorks) := goodIn_app (goodIn_of _ (by decide +kernel)) ggX6_make_X6_acceptWorks
theorem dX6_make_0 : decode cX6_make 0 = .ok (.iload_n 1, 1) := by decide +kernel
theorem dX6_make_1 : decode cX6_make 1 = .ok (.invokestatic 96, 3) := by decide +kernel
theorem dX6_make_4 : decode cX6_make 4 = .ok (.ifCond .eq 14, 3) := by decide +kernel
theorem dX6_make_7 : decode cX6_make 7 = .ok (.iload_n 2, 1) := by decide +kernel
theorem dX6_make_8 : decode cX6_make 8 = .ok (.iconst 1, 1) := by decide +kernel
theorem dX6_make_9 : decode cX6_make 9 = .ok (.if_icmp .lt 9, 3) := by decide +kernel
theorem dX6_make_12 : decode cX6_make 12 = .ok (.iload_n 2, 1) := by decide +kernel
theorem dX6_make_13 : decode cX6_make 13 = .ok (.bipush 99, 2) := by decide +kernel
theorem dX6_make_15 : decode cX6_make 15 = .ok (.if_icmp .le 5, 3) := by decide +kernel
theorem dX6_make_18 : decode cX6_make 18 = .ok (.iconst (-1), 1) := by decide +kernel
theorem dX6_make_19 : decode cX6_make 19 = .ok (.ireturn, 1) := by decide +kernel
theorem dX6_make_20 : decode cX6_make 20 = .ok (.aload_n 0, 1) := by decide +kernel
theorem dX6_make_21 : decode cX6_make 21 = .ok (.getfield 10, 3) := by decide +kernel
theorem dX6_make_24 : decode cX6_make 24 = .ok (.iload_n 1, 1) := by decide +kernel
theorem dX6_make_25 : decode cX6_make 25 = .ok (.invokevirtual 100, 3) := by decide +kernel
theorem dX6_make_28 : decode cX6_make 28 = .ok (.ifCond .ne 6, 3) := by decide +kernel
theorem dX6_make_31 : decode cX6_make 31 = .ok (.bipush (-2), 2) := by decide +kernel
theorem dX6_make_33 : decode cX6_make 33 = .ok (.ireturn, 1) := by decide +kernel
theorem dX6_make_34 : decode cX6_make 34 = .ok (.aload_n 0, 1) := by decide +kernel
theorem dX6_make_35 : decode cX6_make 35 = .ok (.getfield 29, 3) := by decide +kernel
theorem dX6_make_38 : decode cX6_make 38 = .ok (.aload_n 0, 1) := by decide +kernel
theorem dX6_make_39 : decode cX6_make 39 = .ok (.getfield 22, 3) := by decide +kernel
theorem dX6_make_42 : decode cX6_make 42 = .ok (.iconst 1, 1) := by decide +kernel
theorem dX6_make_43 : decode cX6_make 43 = .ok (.invokevirtual 160, 3) := by decide +kernel
theorem dX6_make_46 : decode cX6_make 46 = .ok (.aload_n 0, 1) := by decide +kernel
theorem dX6_make_47 : decode cX6_make 47 = .ok (.getfield 29, 3) := by decide +kernel
theorem dX6_make_50 : decode cX6_make 50 = .ok (.aload_n 0, 1) := by decide +kernel
theorem dX6_make_51 : decode cX6_make 51 = .ok (.getfield 10, 3) := by decide +kernel
theorem dX6_make_54 : decode cX6_make 54 = .ok (.iload_n 1, 1) := by decide +kernel
theorem dX6_make_55 : decode cX6_make 55 = .ok (.iload_n 2, 1) := by decide +kernel
theorem dX6_make_56 : decode cX6_make 56 = .ok (.invokevirtual 172, 3) := by decide +kernel
theorem dX6_make_59 : decode cX6_make 59 = .ok (.ifCond .ne 6, 3) := by decide +kernel
theorem dX6_make_62 : decode cX6_make 62 = .ok (.bipush (-3), 2) := by decide +kernel
theorem dX6_make_64 : decode cX6_make 64 = .ok (.ireturn, 1) := by decide +kernel
theorem dX6_make_65 : decode cX6_make 65 = .ok (.aload_n 0, 1) := by decide +kernel
theorem dX6_make_66 : decode cX6_make 66 = .ok (.invokevirtual 168, 3) := by decide +kernel
theorem dX6_make_69 : decode cX6_make 69 = .ok (.ireturn, 1) := by decide +kernel
set_option maxRecDepth 20000 in
theorem ggX6_undo_X1_size : GoodIn wsX6_undo wsX1_size := goodIn_r _ [8, 9, 80, 81, 82] (by decide +kernel) (by decide +kernel)
set_option maxRecDepth 20000 in
theorem gX6_undo_X1_size : GoodIn wsX6_undo (wsV RX6 175 RX1 yX1_size wsX1_size) := goodIn_app (goodIn_of _ (by decide +kernel)) ggX6_undo_X1_size
set_option maxRecDepth 20000 in
theorem ggX6_undo_X1_restore : GoodIn wsX6_undo wsX1_restore := goodIn_r _ [13, 9, 14, 15, 16, 17, 7, 18, 19, 20, 21, 22, 23, 24, 25, 26, 27, 28, 29, 30, 31, 32, 33, 34, 35, 36, 37, 38, 39, 40, 41, 42, 43, 44, 45, 46, 47, 48, 49, 50, 51, 52, 53, 54, 55, 56, 57, 58, 59, 60, 61, 62, 63, 64, 65, 66, 67, 68, 80, 81, 82, 83, 84, 85, 86, 87, 88, 89, 90, 91, 92, 93, 94, 95, 96, 97, 98, 99] (by decide +kernel) (by decide +kernel)
set_option maxRecDepth 20000 in
theorem gX6_undo_X1_restore : GoodIn wsX6_undo (wsV RX6 178 RX1 yX1_restore wsX1_restore) := goodIn_app (goodIn_of _ (by decide +kernel)) ggX6_undo_X1_restore
theorem dX6_undo_0 : decode cX6_undo 0 = .ok (.aload_n 0, 1) := by decide +kernel
theorem dX6_undo_1 : decode cX6_undo 1 = .ok (.getfield 36, 3) := by decide +kernel
theorem dX6_undo_4 : decode cX6_undo 4 = .ok (.invokevirtual 175, 3) := by decide +kernel
theorem dX6_undo_7 : decode cX6_undo 7 = .ok (.iconst 1, 1) := by decide +kernel
theorem dX6_undo_8 : decode cX6_undo 8 = .ok (.if_icmp .ge 6, 3) := by decide +kernel
theorem dX6_undo_11 : decode cX6_undo 11 = .ok (.bipush (-2), 2) := by decide +kernel
theorem dX6_undo_13 : decode cX6_undo 13 = .ok (.ireturn, 1) := by decide +kernel
theorem dX6_undo_14 : decode cX6_undo 14 = .ok (.aload_n 0, 1) := by decide +kernel
theorem dX6_undo_15 : decode cX6_undo 15 = .ok (.getfield 36, 3) := by decide +kernel
theorem dX6_undo_18 : decode cX6_undo 18 = .ok (.aload_n 0, 1) := by decide +kernel
theorem dX6_undo_19 : decode cX6_undo 19 = .ok (.getfield 10, 3) := by decide +kernel
theorem dX6_undo_22 : decode cX6_undo 22 = .ok (.aload_n 0, 1) := by decide +kernel
theorem dX6_undo_23 : decode cX6_undo 23 = .ok (.getfield 22, 3) := by decide +kernel
theorem dX6_undo_26 : decode cX6_undo 26 = .ok (.invokevirtual 178, 3) := by decide +kernel
theorem dX6_undo_29 : decode cX6_undo 29 = .ok (.aload_n 0, 1) := by decide +kernel
theorem dX6_undo_30 : decode cX6_undo 30 = .ok (.getfield 36, 3) := by decide +kernel
theorem dX6_undo_33 : decode cX6_undo 33 = .ok (.invokevirtual 175, 3) := by decide +kernel
theorem dX6_undo_36 : decode cX6_undo 36 = .ok (.ireturn, 1) := by decide +kernel
set_option maxRecDepth 20000 in
theorem ggX6_write_X6_put : GoodIn wsX6_write wsX6_put := goodIn_r _ [6] (by decide +kernel) (by decide +kernel)
set_option maxRecDepth 20000 in
theorem gX6_write_X6_put : GoodIn wsX6_write (va_wsS RX6 181 yX6_put wsX6_put) := goodIn_app (goodIn_of _ (by decide +kernel)) ggX6_write_X6_put
theorem dX6_write_0 : decode cX6_write 0 = .ok (.iload_n 1, 1) := by decide +kernel
theorem dX6_write_1 : decode cX6_write 1 = .ok (.bipush 32, 2) := by decide +kernel
theorem dX6_write_3 : decode cX6_write 3 = .ok (.if_icmp .lt 9, 3) := by decide +kernel
theorem dX6_write_6 : decode cX6_write 6 = .ok (.iload_n 1, 1) := by decide +kernel
theorem dX6_write_7 : decode cX6_write 7 = .ok (.bipush 126, 2) := by decide +kernel
theorem dX6_write_9 : decode cX6_write 9 = .ok (.if_icmp .le 5, 3) := by decide +kernel
theorem dX6_write_12 : decode cX6_write 12 = .ok (.iconst (-1), 1) := by decide +kernel
theorem dX6_write_13 : decode cX6_write 13 = .ok (.ireturn, 1) := by decide +kernel
theorem dX6_write_14 : decode cX6_write 14 = .ok (.aload_n 0, 1) := by decide +kernel
theorem dX6_write_15 : decode cX6_write 15 = .ok (.getfield 57, 3) := by decide +kernel
theorem dX6_write_18 : decode cX6_write 18 = .ok (.bipush 60, 2) := by decide +kernel
theorem dX6_write_20 : decode cX6_write 20 = .ok (.if_icmp .lt 6, 3) := by decide +kernel
theorem dX6_write_23 : decode cX6_write 23 = .ok (.bipush (-3), 2) := by decide +kernel
theorem dX6_write_25 : decode cX6_write 25 = .ok (.ireturn, 1) := by decide +kernel
theorem dX6_write_26 : decode cX6_write 26 = .ok (.aload_n 0, 1) := by decide +kernel
theorem dX6_write_27 : decode cX6_write 27 = .ok (.getfield 53, 3) := by decide +kernel
theorem dX6_write_30 : decode cX6_write 30 = .ok (.aload_n 0, 1) := by decide +kernel
theorem dX6_write_31 : decode cX6_write 31 = .ok (.getfield 57, 3) := by decide +kernel
theorem dX6_write_34 : decode cX6_write 34 = .ok (.iload_n 1, 1) := by decide +kernel
theorem dX6_write_35 : decode cX6_write 35 = .ok (.invokestatic 181, 3) := by decide +kernel
theorem dX6_write_38 : decode cX6_write 38 = .ok (.aload_n 0, 1) := by decide +kernel
theorem dX6_write_39 : decode cX6_write 39 = .ok (.dup, 1) := by decide +kernel
theorem dX6_write_40 : decode cX6_write 40 = .ok (.getfield 57, 3) := by decide +kernel
theorem dX6_write_43 : decode cX6_write 43 = .ok (.iconst 1, 1) := by decide +kernel
theorem dX6_write_44 : decode cX6_write 44 = .ok (.iadd, 1) := by decide +kernel
theorem dX6_write_45 : decode cX6_write 45 = .ok (.putfield 57, 3) := by decide +kernel
theorem dX6_write_48 : decode cX6_write 48 = .ok (.aload_n 0, 1) := by decide +kernel
theorem dX6_write_49 : decode cX6_write 49 = .ok (.getfield 57, 3) := by decide +kernel
theorem dX6_write_52 : decode cX6_write 52 = .ok (.ireturn, 1) := by decide +kernel
theorem dX6_wipe_0 : decode cX6_wipe 0 = .ok (.aload_n 0, 1) := by decide +kernel
theorem dX6_wipe_1 : decode cX6_wipe 1 = .ok (.getfield 57, 3) := by decide +kernel
theorem dX6_wipe_4 : decode cX6_wipe 4 = .ok (.istore_n 1, 1) := by decide +kernel
theorem dX6_wipe_5 : decode cX6_wipe 5 = .ok (.aload_n 0, 1) := by decide +kernel
theorem dX6_wipe_6 : decode cX6_wipe 6 = .ok (.iconst 0, 1) := by decide +kernel
theorem dX6_wipe_7 : decode cX6_wipe 7 = .ok (.putfield 57, 3) := by decide +kernel
theorem dX6_wipe_10 : decode cX6_wipe 10 = .ok (.iload_n 1, 1) := by decide +kernel
theorem dX6_wipe_11 : decode cX6_wipe 11 = .ok (.ireturn, 1) := by decide +kernel
set_option maxRecDepth 20000 in
theorem ggX6_told_X0_recipes : GoodIn wsX6_told wsX0_recipes := goodIn_r _ [9, 10, 11, 12, 8, 13, 14, 15, 16, 17, 18, 19, 20, 21, 22, 23, 24, 25, 26, 27, 28, 70, 71, 72, 73, 74, 75, 76, 77] (by decide +kernel) (by decide +kernel)
set_option maxRecDepth 20000 in
theorem gX6_told_X0_recipes : GoodIn wsX6_told (wsV RX6 184 RX0 yX0_recipes wsX0_recipes) := goodIn_app (goodIn_of _ (by decide +kernel)) ggX6_told_X0_recipes
set_option maxRecDepth 20000 in
theorem ggX6_told_X6_sum : GoodIn wsX6_told wsX6_sum := goodIn_r _ [31] (by decide +kernel) (by decide +kernel)
set_option maxRecDepth 20000 in
theorem gX6_told_X6_sum : GoodIn wsX6_told (va_wsS RX6 187 yX6_sum wsX6_sum) := goodIn_app (goodIn_of _ (by decide +kernel)) ggX6_told_X6_sum
set_option maxRecDepth 20000 in
theorem ggX6_told_X0_greatestRank : GoodIn wsX6_told wsX0_greatestRank := goodIn_r _ [35, 36, 37, 38, 39, 40, 41, 42, 8, 43, 44, 19, 20, 21, 70, 71, 72, 73, 74, 75, 76, 77] (by decide +kernel) (by decide +kernel)
set_option maxRecDepth 20000 in
theorem gX6_told_X0_greatestRank : GoodIn wsX6_told (wsV RX6 197 RX0 yX0_greatestRank wsX0_greatestRank) := goodIn_app (goodIn_of _ (by decide +kernel)) ggX6_told_X0_greatestRank
set_option maxRecDepth 20000 in
theorem ggX6_told_X0_madeThings : GoodIn wsX6_told wsX0_madeThings := goodIn_r _ [13, 14, 15, 16, 8, 17, 18, 19, 20, 21, 70, 71, 72, 73, 74, 75, 76, 77] (by decide +kernel) (by decide +kernel)
set_option maxRecDepth 20000 in
theorem gX6_told_X0_madeThings : GoodIn wsX6_told (wsV RX6 200 RX0 yX0_madeThings wsX0_madeThings) := goodIn_app (goodIn_of _ (by decide +kernel)) ggX6_told_X0_madeThings
set_option maxRecDepth 20000 in
theorem ggX6_told_X1_size : GoodIn wsX6_told wsX1_size := goodIn_r _ [50, 51, 78, 79, 80] (by decide +kernel) (by decide +kernel)
set_option maxRecDepth 20000 in
theorem gX6_told_X1_size : GoodIn wsX6_told (wsV RX6 175 RX1 yX1_size wsX1_size) := goodIn_app (goodIn_of _ (by decide +kernel)) ggX6_told_X1_size
theorem dX6_told_0 : decode cX6_told 0 = .ok (.iload_n 1, 1) := by decide +kernel
theorem dX6_told_1 : decode cX6_told 1 = .ok (.tableswitch 114 0 7 #[47, 55, 66, 77, 85, 93, 101, 106], 47) := by decide +kernel
theorem dX6_told_48 : decode cX6_told 48 = .ok (.aload_n 0, 1) := by decide +kernel
theorem dX6_told_49 : decode cX6_told 49 = .ok (.getfield 10, 3) := by decide +kernel
theorem dX6_told_52 : decode cX6_told 52 = .ok (.invokevirtual 184, 3) := by decide +kernel
theorem dX6_told_55 : decode cX6_told 55 = .ok (.ireturn, 1) := by decide +kernel
theorem dX6_told_56 : decode cX6_told 56 = .ok (.aload_n 0, 1) := by decide +kernel
theorem dX6_told_57 : decode cX6_told 57 = .ok (.getfield 22, 3) := by decide +kernel
theorem dX6_told_60 : decode cX6_told 60 = .ok (.getfield 137, 3) := by decide +kernel
theorem dX6_told_63 : decode cX6_told 63 = .ok (.invokestatic 187, 3) := by decide +kernel
theorem dX6_told_66 : decode cX6_told 66 = .ok (.ireturn, 1) := by decide +kernel
theorem dX6_told_67 : decode cX6_told 67 = .ok (.aload_n 0, 1) := by decide +kernel
theorem dX6_told_68 : decode cX6_told 68 = .ok (.getfield 22, 3) := by decide +kernel
theorem dX6_told_71 : decode cX6_told 71 = .ok (.getfield 191, 3) := by decide +kernel
theorem dX6_told_74 : decode cX6_told 74 = .ok (.invokestatic 187, 3) := by decide +kernel
theorem dX6_told_77 : decode cX6_told 77 = .ok (.ireturn, 1) := by decide +kernel
theorem dX6_told_78 : decode cX6_told 78 = .ok (.aload_n 0, 1) := by decide +kernel
theorem dX6_told_79 : decode cX6_told 79 = .ok (.getfield 22, 3) := by decide +kernel
theorem dX6_told_82 : decode cX6_told 82 = .ok (.getfield 194, 3) := by decide +kernel
theorem dX6_told_85 : decode cX6_told 85 = .ok (.ireturn, 1) := by decide +kernel
theorem dX6_told_86 : decode cX6_told 86 = .ok (.aload_n 0, 1) := by decide +kernel
theorem dX6_told_87 : decode cX6_told 87 = .ok (.getfield 10, 3) := by decide +kernel
theorem dX6_told_90 : decode cX6_told 90 = .ok (.invokevirtual 197, 3) := by decide +kernel
theorem dX6_told_93 : decode cX6_told 93 = .ok (.ireturn, 1) := by decide +kernel
theorem dX6_told_94 : decode cX6_told 94 = .ok (.aload_n 0, 1) := by decide +kernel
theorem dX6_told_95 : decode cX6_told 95 = .ok (.getfield 10, 3) := by decide +kernel
theorem dX6_told_98 : decode cX6_told 98 = .ok (.invokevirtual 200, 3) := by decide +kernel
theorem dX6_told_101 : decode cX6_told 101 = .ok (.ireturn, 1) := by decide +kernel
theorem dX6_told_102 : decode cX6_told 102 = .ok (.aload_n 0, 1) := by decide +kernel
theorem dX6_told_103 : decode cX6_told 103 = .ok (.getfield 57, 3) := by decide +kernel
theorem dX6_told_106 : decode cX6_told 106 = .ok (.ireturn, 1) := by decide +kernel
theorem dX6_told_107 : decode cX6_told 107 = .ok (.aload_n 0, 1) := by decide +kernel
theorem dX6_told_108 : decode cX6_told 108 = .ok (.getfield 36, 3) := by decide +kernel
theorem dX6_told_111 : decode cX6_told 111 = .ok (.invokevirtual 175, 3) := by decide +kernel
theorem dX6_told_114 : decode cX6_told 114 = .ok (.ireturn, 1) := by decide +kernel
theorem dX6_told_115 : decode cX6_told 115 = .ok (.iconst (-1), 1) := by decide +kernel
theorem dX6_told_116 : decode cX6_told 116 = .ok (.ireturn, 1) := by decide +kernel
set_option maxRecDepth 20000 in
theorem ggX6_thing_X6_isThing : GoodIn wsX6_thing wsX6_isThing := goodIn_r _ [6] (by decide +kernel) (by decide +kernel)
set_option maxRecDepth 20000 in
theorem gX6_thing_X6_isThing : GoodIn wsX6_thing (va_wsS RX6 96 yX6_isThing wsX6_isThing) := goodIn_app (goodIn_of _ (by decide +kernel)) ggX6_thing_X6_isThing
set_option maxRecDepth 20000 in
theorem ggX6_thing_X6_at : GoodIn wsX6_thing wsX6_at := goodIn_r _ [9] (by decide +kernel) (by decide +kernel)
set_option maxRecDepth 20000 in
theorem gX6_thing_X6_at : GoodIn wsX6_thing (va_wsS RX6 140 yX6_at wsX6_at) := goodIn_app (goodIn_of _ (by decide +kernel)) ggX6_thing_X6_at
set_option maxRecDepth 20000 in
theorem ggX6_thing_X0_rankOf : GoodIn wsX6_thing wsX0_rankOf := goodIn_r _ [14, 15, 8, 5, 9, 58, 59, 60, 61, 62, 63, 64, 65] (by decide +kernel) (by decide +kernel)
set_option maxRecDepth 20000 in
theorem gX6_thing_X0_rankOf : GoodIn wsX6_thing (wsV RX6 92 RX0 yX0_rankOf wsX0_rankOf) := goodIn_app (goodIn_of _ (by decide +kernel)) ggX6_thing_X0_rankOf
set_option maxRecDepth 20000 in
theorem ggX6_thing_X0_isMade : GoodIn wsX6_thing wsX0_isMade := goodIn_r _ [19, 20, 8, 5, 9, 58, 59, 60, 61, 62, 63, 64, 65] (by decide +kernel) (by decide +kernel)
set_option maxRecDepth 20000 in
theorem gX6_thing_X0_isMade : GoodIn wsX6_thing (wsV RX6 100 RX0 yX0_isMade wsX0_isMade) := goodIn_app (goodIn_of _ (by decide +kernel)) ggX6_thing_X0_isMade
set_option maxRecDepth 20000 in
theorem ggX6_thing_X0_yieldOf : GoodIn wsX6_thing wsX0_yieldOf := goodIn_r _ [24, 20, 8, 5, 9, 58, 59, 60, 61, 62, 63, 64, 65] (by decide +kernel) (by decide +kernel)
set_option maxRecDepth 20000 in
theorem gX6_thing_X0_yieldOf : GoodIn wsX6_thing (wsV RX6 103 RX0 yX0_yieldOf wsX0_yieldOf) := goodIn_app (goodIn_of _ (by decide +kernel)) ggX6_thing_X0_yieldOf
set_option maxRecDepth 20000 in
theorem ggX6_thing_X0_ingredientsOf : GoodIn wsX6_thing wsX0_ingredientsOf := goodIn_r _ [28, 29, 8, 5, 9, 58, 59, 60, 61, 62, 63, 64, 65] (by decide +kernel) (by decide +kernel)
set_option maxRecDepth 20000 in
theorem gX6_thing_X0_ingredientsOf : GoodIn wsX6_thing (wsV RX6 203 RX0 yX0_ingredientsOf wsX0_ingredientsOf) := goodIn_app (goodIn_of _ (by decide +kernel)) ggX6_thing_X0_ingredientsOf
set_option maxRecDepth 20000 in
theorem ggX6_thing_X0_vesselOf : GoodIn wsX6_thing wsX0_vesselOf := goodIn_r _ [33, 34, 8, 5, 9, 58, 59, 60, 61, 62, 63, 64, 65] (by decide +kernel) (by decide +kernel)
set_option maxRecDepth 20000 in
theorem gX6_thing_X0_vesselOf : GoodIn wsX6_thing (wsV RX6 128 RX0 yX0_vesselOf wsX0_vesselOf) := goodIn_app (goodIn_of _ (by decide +kernel)) ggX6_thing_X0_vesselOf
set_option maxRecDepth 20000 in
theorem ggX6_thing_X0_substitutesOf : GoodIn wsX6_thing wsX0_substitutesOf := goodIn_r _ [38, 39, 8, 5, 9, 58, 59, 60, 61, 62, 63, 64, 65] (by decide +kernel) (by decide +kernel)
set_option maxRecDepth 20000 in
theorem gX6_thing_X0_substitutesOf : GoodIn wsX6_thing (wsV RX6 114 RX0 yX0_substitutesOf wsX0_substitutesOf) := goodIn_app (goodIn_of _ (by decide +kernel)) ggX6_thing_X0_substitutesOf
theorem dX6_thing_0 : decode cX6_thing 0 = .ok (.iload_n 1, 1) := by decide +kernel
theorem dX6_thing_1 : decode cX6_thing 1 = .ok (.invokestatic 96, 3) := by decide +kernel
theorem dX6_thing_4 : decode cX6_thing 4 = .ok (.ifCond .ne 5, 3) := by decide +kernel
theorem dX6_thing_7 : decode cX6_thing 7 = .ok (.iconst (-1), 1) := by decide +kernel
theorem dX6_thing_8 : decode cX6_thing 8 = .ok (.ireturn, 1) := by decide +kernel
theorem dX6_thing_9 : decode cX6_thing 9 = .ok (.iload_n 2, 1) := by decide +kernel
theorem dX6_thing_10 : decode cX6_thing 10 = .ok (.tableswitch 207 0 10 #[58, 70, 79, 104, 129, 138, 147, 159, 171, 183, 195], 58) := by decide +kernel
theorem dX6_thing_68 : decode cX6_thing 68 = .ok (.aload_n 0, 1) := by decide +kernel
theorem dX6_thing_69 : decode cX6_thing 69 = .ok (.getfield 22, 3) := by decide +kernel
theorem dX6_thing_72 : decode cX6_thing 72 = .ok (.getfield 137, 3) := by decide +kernel
theorem dX6_thing_75 : decode cX6_thing 75 = .ok (.iload_n 1, 1) := by decide +kernel
theorem dX6_thing_76 : decode cX6_thing 76 = .ok (.invokestatic 140, 3) := by decide +kernel
theorem dX6_thing_79 : decode cX6_thing 79 = .ok (.ireturn, 1) := by decide +kernel
theorem dX6_thing_80 : decode cX6_thing 80 = .ok (.aload_n 0, 1) := by decide +kernel
theorem dX6_thing_81 : decode cX6_thing 81 = .ok (.getfield 10, 3) := by decide +kernel
theorem dX6_thing_84 : decode cX6_thing 84 = .ok (.iload_n 1, 1) := by decide +kernel
theorem dX6_thing_85 : decode cX6_thing 85 = .ok (.invokevirtual 92, 3) := by decide +kernel
theorem dX6_thing_88 : decode cX6_thing 88 = .ok (.ireturn, 1) := by decide +kernel
theorem dX6_thing_89 : decode cX6_thing 89 = .ok (.aload_n 0, 1) := by decide +kernel
theorem dX6_thing_90 : decode cX6_thing 90 = .ok (.getfield 10, 3) := by decide +kernel
theorem dX6_thing_93 : decode cX6_thing 93 = .ok (.iload_n 1, 1) := by decide +kernel
theorem dX6_thing_94 : decode cX6_thing 94 = .ok (.invokevirtual 100, 3) := by decide +kernel
theorem dX6_thing_97 : decode cX6_thing 97 = .ok (.ifCond .eq 14, 3) := by decide +kernel
theorem dX6_thing_100 : decode cX6_thing 100 = .ok (.aload_n 0, 1) := by decide +kernel
theorem dX6_thing_101 : decode cX6_thing 101 = .ok (.getfield 10, 3) := by decide +kernel
theorem dX6_thing_104 : decode cX6_thing 104 = .ok (.iload_n 1, 1) := by decide +kernel
theorem dX6_thing_105 : decode cX6_thing 105 = .ok (.invokevirtual 103, 3) := by decide +kernel
theorem dX6_thing_108 : decode cX6_thing 108 = .ok (.goto 5, 3) := by decide +kernel
theorem dX6_thing_111 : decode cX6_thing 111 = .ok (.bipush (-9), 2) := by decide +kernel
theorem dX6_thing_113 : decode cX6_thing 113 = .ok (.ireturn, 1) := by decide +kernel
theorem dX6_thing_114 : decode cX6_thing 114 = .ok (.aload_n 0, 1) := by decide +kernel
theorem dX6_thing_115 : decode cX6_thing 115 = .ok (.getfield 10, 3) := by decide +kernel
theorem dX6_thing_118 : decode cX6_thing 118 = .ok (.iload_n 1, 1) := by decide +kernel
theorem dX6_thing_119 : decode cX6_thing 119 = .ok (.invokevirtual 100, 3) := by decide +kernel
theorem dX6_thing_122 : decode cX6_thing 122 = .ok (.ifCond .eq 14, 3) := by decide +kernel
theorem dX6_thing_125 : decode cX6_thing 125 = .ok (.aload_n 0, 1) := by decide +kernel
theorem dX6_thing_126 : decode cX6_thing 126 = .ok (.getfield 10, 3) := by decide +kernel
theorem dX6_thing_129 : decode cX6_thing 129 = .ok (.iload_n 1, 1) := by decide +kernel
theorem dX6_thing_130 : decode cX6_thing 130 = .ok (.invokevirtual 203, 3) := by decide +kernel
theorem dX6_thing_133 : decode cX6_thing 133 = .ok (.goto 5, 3) := by decide +kernel
theorem dX6_thing_136 : decode cX6_thing 136 = .ok (.bipush (-9), 2) := by decide +kernel
theorem dX6_thing_138 : decode cX6_thing 138 = .ok (.ireturn, 1) := by decide +kernel
theorem dX6_thing_139 : decode cX6_thing 139 = .ok (.aload_n 0, 1) := by decide +kernel
theorem dX6_thing_140 : decode cX6_thing 140 = .ok (.getfield 10, 3) := by decide +kernel
theorem dX6_thing_143 : decode cX6_thing 143 = .ok (.iload_n 1, 1) := by decide +kernel
theorem dX6_thing_144 : decode cX6_thing 144 = .ok (.invokevirtual 128, 3) := by decide +kernel
theorem dX6_thing_147 : decode cX6_thing 147 = .ok (.ireturn, 1) := by decide +kernel
theorem dX6_thing_148 : decode cX6_thing 148 = .ok (.aload_n 0, 1) := by decide +kernel
theorem dX6_thing_149 : decode cX6_thing 149 = .ok (.getfield 10, 3) := by decide +kernel
theorem dX6_thing_152 : decode cX6_thing 152 = .ok (.iload_n 1, 1) := by decide +kernel
theorem dX6_thing_153 : decode cX6_thing 153 = .ok (.invokevirtual 114, 3) := by decide +kernel
theorem dX6_thing_156 : decode cX6_thing 156 = .ok (.ireturn, 1) := by decide +kernel
theorem dX6_thing_157 : decode cX6_thing 157 = .ok (.aload_n 0, 1) := by decide +kernel
theorem dX6_thing_158 : decode cX6_thing 158 = .ok (.getfield 22, 3) := by decide +kernel
theorem dX6_thing_161 : decode cX6_thing 161 = .ok (.getfield 191, 3) := by decide +kernel
theorem dX6_thing_164 : decode cX6_thing 164 = .ok (.iload_n 1, 1) := by decide +kernel
theorem dX6_thing_165 : decode cX6_thing 165 = .ok (.invokestatic 140, 3) := by decide +kernel
theorem dX6_thing_168 : decode cX6_thing 168 = .ok (.ireturn, 1) := by decide +kernel
theorem dX6_thing_169 : decode cX6_thing 169 = .ok (.aload_n 0, 1) := by decide +kernel
theorem dX6_thing_170 : decode cX6_thing 170 = .ok (.getfield 22, 3) := by decide +kernel
theorem dX6_thing_173 : decode cX6_thing 173 = .ok (.getfield 206, 3) := by decide +kernel
theorem dX6_thing_176 : decode cX6_thing 176 = .ok (.iload_n 1, 1) := by decide +kernel
theorem dX6_thing_177 : decode cX6_thing 177 = .ok (.invokestatic 140, 3) := by decide +kernel
theorem dX6_thing_180 : decode cX6_thing 180 = .ok (.ireturn, 1) := by decide +kernel
theorem dX6_thing_181 : decode cX6_thing 181 = .ok (.aload_n 0, 1) := by decide +kernel
theorem dX6_thing_182 : decode cX6_thing 182 = .ok (.getfield 22, 3) := by decide +kernel
theorem dX6_thing_185 : decode cX6_thing 185 = .ok (.getfield 208, 3) := by decide +kernel
theorem dX6_thing_188 : decode cX6_thing 188 = .ok (.iload_n 1, 1) := by decide +kernel
theorem dX6_thing_189 : decode cX6_thing 189 = .ok (.invokestatic 140, 3) := by decide +kernel
theorem dX6_thing_192 : decode cX6_thing 192 = .ok (.ireturn, 1) := by decide +kernel
theorem dX6_thing_193 : decode cX6_thing 193 = .ok (.aload_n 0, 1) := by decide +kernel
theorem dX6_thing_194 : decode cX6_thing 194 = .ok (.getfield 22, 3) := by decide +kernel
theorem dX6_thing_197 : decode cX6_thing 197 = .ok (.getfield 211, 3) := by decide +kernel
theorem dX6_thing_200 : decode cX6_thing 200 = .ok (.iload_n 1, 1) := by decide +kernel
theorem dX6_thing_201 : decode cX6_thing 201 = .ok (.invokestatic 140, 3) := by decide +kernel
theorem dX6_thing_204 : decode cX6_thing 204 = .ok (.ireturn, 1) := by decide +kernel
theorem dX6_thing_205 : decode cX6_thing 205 = .ok (.aload_n 0, 1) := by decide +kernel
theorem dX6_thing_206 : decode cX6_thing 206 = .ok (.getfield 22, 3) := by decide +kernel
theorem dX6_thing_209 : decode cX6_thing 209 = .ok (.getfield 154, 3) := by decide +kernel
theorem dX6_thing_212 : decode cX6_thing 212 = .ok (.iload_n 1, 1) := by decide +kernel
theorem dX6_thing_213 : decode cX6_thing 213 = .ok (.invokestatic 140, 3) := by decide +kernel
theorem dX6_thing_216 : decode cX6_thing 216 = .ok (.ireturn, 1) := by decide +kernel
theorem dX6_thing_217 : decode cX6_thing 217 = .ok (.iconst (-1), 1) := by decide +kernel
theorem dX6_thing_218 : decode cX6_thing 218 = .ok (.ireturn, 1) := by decide +kernel
set_option maxRecDepth 20000 in
theorem ggX6_ingredient_X6_isThing : GoodIn wsX6_ingredient wsX6_isThing := goodIn_r _ [5] (by decide +kernel) (by decide +kernel)
set_option maxRecDepth 20000 in
theorem gX6_ingredient_X6_isThing : GoodIn wsX6_ingredient (va_wsS RX6 96 yX6_isThing wsX6_isThing) := goodIn_app (goodIn_of _ (by decide +kernel)) ggX6_ingredient_X6_isThing
set_option maxRecDepth 20000 in
theorem ggX6_ingredient_X0_ingredientsOf : GoodIn wsX6_ingredient wsX0_ingredientsOf := goodIn_r _ [10, 11, 12, 4, 13, 35, 36, 37, 38, 39, 40, 41, 42] (by decide +kernel) (by decide +kernel)
set_option maxRecDepth 20000 in
theorem gX6_ingredient_X0_ingredientsOf : GoodIn wsX6_ingredient (wsV RX6 203 RX0 yX0_ingredientsOf wsX0_ingredientsOf) := goodIn_app (goodIn_of _ (by decide +kernel)) ggX6_ingredient_X0_ingredientsOf
set_option maxRecDepth 20000 in
theorem ggX6_ingredient_X0_ingredientAt : GoodIn wsX6_ingredient wsX0_ingredientAt := goodIn_r _ [17, 18, 12, 4, 13, 35, 36, 37, 38, 39, 40, 41, 42] (by decide +kernel) (by decide +kernel)
set_option maxRecDepth 20000 in
theorem gX6_ingredient_X0_ingredientAt : GoodIn wsX6_ingredient (wsV RX6 214 RX0 yX0_ingredientAt wsX0_ingredientAt) := goodIn_app (goodIn_of _ (by decide +kernel)) ggX6_ingredient_X0_ingredientAt
set_option maxRecDepth 20000 in
theorem ggX6_ingredient_X0_amountAt : GoodIn wsX6_ingredient wsX0_amountAt := goodIn_r _ [22, 23, 12, 4, 13, 35, 36, 37, 38, 39, 40, 41, 42] (by decide +kernel) (by decide +kernel)
set_option maxRecDepth 20000 in
theorem gX6_ingredient_X0_amountAt : GoodIn wsX6_ingredient (wsV RX6 217 RX0 yX0_amountAt wsX0_amountAt) := goodIn_app (goodIn_of _ (by decide +kernel)) ggX6_ingredient_X0_amountAt
theorem dX6_ingredient_0 : decode cX6_ingredient 0 = .ok (.iload_n 1, 1) := by decide +kernel
theorem dX6_ingredient_1 : decode cX6_ingredient 1 = .ok (.invokestatic 96, 3) := by decide +kernel
theorem dX6_ingredient_4 : decode cX6_ingredient 4 = .ok (.ifCond .eq 16, 3) := by decide +kernel
theorem dX6_ingredient_7 : decode cX6_ingredient 7 = .ok (.iload_n 2, 1) := by decide +kernel
theorem dX6_ingredient_8 : decode cX6_ingredient 8 = .ok (.ifCond .lt 12, 3) := by decide +kernel
theorem dX6_ingredient_11 : decode cX6_ingredient 11 = .ok (.iload_n 3, 1) := by decide +kernel
theorem dX6_ingredient_12 : decode cX6_ingredient 12 = .ok (.ifCond .lt 8, 3) := by decide +kernel
theorem dX6_ingredient_15 : decode cX6_ingredient 15 = .ok (.iload_n 3, 1) := by decide +kernel
theorem dX6_ingredient_16 : decode cX6_ingredient 16 = .ok (.iconst 1, 1) := by decide +kernel
theorem dX6_ingredient_17 : decode cX6_ingredient 17 = .ok (.if_icmp .le 5, 3) := by decide +kernel
theorem dX6_ingredient_20 : decode cX6_ingredient 20 = .ok (.iconst (-1), 1) := by decide +kernel
theorem dX6_ingredient_21 : decode cX6_ingredient 21 = .ok (.ireturn, 1) := by decide +kernel
theorem dX6_ingredient_22 : decode cX6_ingredient 22 = .ok (.iload_n 2, 1) := by decide +kernel
theorem dX6_ingredient_23 : decode cX6_ingredient 23 = .ok (.aload_n 0, 1) := by decide +kernel
theorem dX6_ingredient_24 : decode cX6_ingredient 24 = .ok (.getfield 10, 3) := by decide +kernel
theorem dX6_ingredient_27 : decode cX6_ingredient 27 = .ok (.iload_n 1, 1) := by decide +kernel
theorem dX6_ingredient_28 : decode cX6_ingredient 28 = .ok (.invokevirtual 203, 3) := by decide +kernel
theorem dX6_ingredient_31 : decode cX6_ingredient 31 = .ok (.if_icmp .lt 6, 3) := by decide +kernel
theorem dX6_ingredient_34 : decode cX6_ingredient 34 = .ok (.bipush (-9), 2) := by decide +kernel
theorem dX6_ingredient_36 : decode cX6_ingredient 36 = .ok (.ireturn, 1) := by decide +kernel
theorem dX6_ingredient_37 : decode cX6_ingredient 37 = .ok (.iload_n 3, 1) := by decide +kernel
theorem dX6_ingredient_38 : decode cX6_ingredient 38 = .ok (.ifCond .ne 15, 3) := by decide +kernel
theorem dX6_ingredient_41 : decode cX6_ingredient 41 = .ok (.aload_n 0, 1) := by decide +kernel
theorem dX6_ingredient_42 : decode cX6_ingredient 42 = .ok (.getfield 10, 3) := by decide +kernel
theorem dX6_ingredient_45 : decode cX6_ingredient 45 = .ok (.iload_n 1, 1) := by decide +kernel
theorem dX6_ingredient_46 : decode cX6_ingredient 46 = .ok (.iload_n 2, 1) := by decide +kernel
theorem dX6_ingredient_47 : decode cX6_ingredient 47 = .ok (.invokevirtual 214, 3) := by decide +kernel
theorem dX6_ingredient_50 : decode cX6_ingredient 50 = .ok (.goto 12, 3) := by decide +kernel
theorem dX6_ingredient_53 : decode cX6_ingredient 53 = .ok (.aload_n 0, 1) := by decide +kernel
theorem dX6_ingredient_54 : decode cX6_ingredient 54 = .ok (.getfield 10, 3) := by decide +kernel
theorem dX6_ingredient_57 : decode cX6_ingredient 57 = .ok (.iload_n 1, 1) := by decide +kernel
theorem dX6_ingredient_58 : decode cX6_ingredient 58 = .ok (.iload_n 2, 1) := by decide +kernel
theorem dX6_ingredient_59 : decode cX6_ingredient 59 = .ok (.invokevirtual 217, 3) := by decide +kernel
theorem dX6_ingredient_62 : decode cX6_ingredient 62 = .ok (.ireturn, 1) := by decide +kernel
set_option maxRecDepth 20000 in
theorem ggX6_substitute_X6_isThing : GoodIn wsX6_substitute wsX6_isThing := goodIn_r _ [5] (by decide +kernel) (by decide +kernel)
set_option maxRecDepth 20000 in
theorem gX6_substitute_X6_isThing : GoodIn wsX6_substitute (va_wsS RX6 96 yX6_isThing wsX6_isThing) := goodIn_app (goodIn_of _ (by decide +kernel)) ggX6_substitute_X6_isThing
set_option maxRecDepth 20000 in
theorem ggX6_substitute_X0_substitutesOf : GoodIn wsX6_substitute wsX0_substitutesOf := goodIn_r _ [10, 11, 12, 4, 13, 30, 31, 32, 33, 34, 35, 36, 37] (by decide +kernel) (by decide +kernel)
set_option maxRecDepth 20000 in
theorem gX6_substitute_X0_substitutesOf : GoodIn wsX6_substitute (wsV RX6 114 RX0 yX0_substitutesOf wsX0_substitutesOf) := goodIn_app (goodIn_of _ (by decide +kernel)) ggX6_substitute_X0_substitutesOf
set_option maxRecDepth 20000 in
theorem ggX6_substitute_X0_substituteAt : GoodIn wsX6_substitute wsX0_substituteAt := goodIn_r _ [17, 18, 12, 4, 13, 30, 31, 32, 33, 34, 35, 36, 37] (by decide +kernel) (by decide +kernel)
set_option maxRecDepth 20000 in
theorem gX6_substitute_X0_substituteAt : GoodIn wsX6_substitute (wsV RX6 121 RX0 yX0_substituteAt wsX0_substituteAt) := goodIn_app (goodIn_of _ (by decide +kernel)) ggX6_substitute_X0_substituteAt
theorem dX6_substitute_0 : decode cX6_substitute 0 = .ok (.iload_n 1, 1) := by decide +kernel
theorem dX6_substitute_1 : decode cX6_substitute 1 = .ok (.invokestatic 96, 3) := by decide +kernel
theorem dX6_substitute_4 : decode cX6_substitute 4 = .ok (.ifCond .eq 7, 3) := by decide +kernel
theorem dX6_substitute_7 : decode cX6_substitute 7 = .ok (.iload_n 2, 1) := by decide +kernel
theorem dX6_substitute_8 : decode cX6_substitute 8 = .ok (.ifCond .ge 5, 3) := by decide +kernel
theorem dX6_substitute_11 : decode cX6_substitute 11 = .ok (.iconst (-1), 1) := by decide +kernel
theorem dX6_substitute_12 : decode cX6_substitute 12 = .ok (.ireturn, 1) := by decide +kernel
theorem dX6_substitute_13 : decode cX6_substitute 13 = .ok (.iload_n 2, 1) := by decide +kernel
theorem dX6_substitute_14 : decode cX6_substitute 14 = .ok (.aload_n 0, 1) := by decide +kernel
theorem dX6_substitute_15 : decode cX6_substitute 15 = .ok (.getfield 10, 3) := by decide +kernel
theorem dX6_substitute_18 : decode cX6_substitute 18 = .ok (.iload_n 1, 1) := by decide +kernel
theorem dX6_substitute_19 : decode cX6_substitute 19 = .ok (.invokevirtual 114, 3) := by decide +kernel
theorem dX6_substitute_22 : decode cX6_substitute 22 = .ok (.if_icmp .ge 15, 3) := by decide +kernel
theorem dX6_substitute_25 : decode cX6_substitute 25 = .ok (.aload_n 0, 1) := by decide +kernel
theorem dX6_substitute_26 : decode cX6_substitute 26 = .ok (.getfield 10, 3) := by decide +kernel
theorem dX6_substitute_29 : decode cX6_substitute 29 = .ok (.iload_n 1, 1) := by decide +kernel
theorem dX6_substitute_30 : decode cX6_substitute 30 = .ok (.iload_n 2, 1) := by decide +kernel
theorem dX6_substitute_31 : decode cX6_substitute 31 = .ok (.invokevirtual 121, 3) := by decide +kernel
theorem dX6_substitute_34 : decode cX6_substitute 34 = .ok (.goto 5, 3) := by decide +kernel
theorem dX6_substitute_37 : decode cX6_substitute 37 = .ok (.bipush (-9), 2) := by decide +kernel
theorem dX6_substitute_39 : decode cX6_substitute 39 = .ok (.ireturn, 1) := by decide +kernel
set_option maxRecDepth 20000 in
theorem ggX6_isNeeded_X6_isThing : GoodIn wsX6_isNeeded wsX6_isThing := goodIn_r _ [5] (by decide +kernel) (by decide +kernel)
set_option maxRecDepth 20000 in
theorem gX6_isNeeded_X6_isThing : GoodIn wsX6_isNeeded (va_wsS RX6 96 yX6_isThing wsX6_isThing) := goodIn_app (goodIn_of _ (by decide +kernel)) ggX6_isNeeded_X6_isThing
set_option maxRecDepth 20000 in
theorem ggX6_isNeeded_X0_allNeedsOf : GoodIn wsX6_isNeeded wsX0_allNeedsOf := goodIn_r _ [10, 11, 12, 13, 9, 14, 15, 16, 17, 18, 19, 20, 4, 21, 22, 23, 24, 25, 26, 27, 28, 29, 30, 31, 32, 33, 34, 35, 36, 37, 38, 51, 52, 53, 54, 55, 56, 57, 58] (by decide +kernel) (by decide +kernel)
set_option maxRecDepth 20000 in
theorem gX6_isNeeded_X0_allNeedsOf : GoodIn wsX6_isNeeded (wsV RX6 220 RX0 yX0_allNeedsOf wsX0_allNeedsOf) := goodIn_app (goodIn_of _ (by decide +kernel)) ggX6_isNeeded_X0_allNeedsOf
set_option maxRecDepth 20000 in
theorem ggX6_isNeeded_X6_hasBit : GoodIn wsX6_isNeeded wsX6_hasBit := goodIn_r _ [38] (by decide +kernel) (by decide +kernel)
set_option maxRecDepth 20000 in
theorem gX6_isNeeded_X6_hasBit : GoodIn wsX6_isNeeded (va_wsS RX6 223 yX6_hasBit wsX6_hasBit) := goodIn_app (goodIn_of _ (by decide +kernel)) ggX6_isNeeded_X6_hasBit
theorem dX6_isNeeded_0 : decode cX6_isNeeded 0 = .ok (.iload_n 1, 1) := by decide +kernel
theorem dX6_isNeeded_1 : decode cX6_isNeeded 1 = .ok (.invokestatic 96, 3) := by decide +kernel
theorem dX6_isNeeded_4 : decode cX6_isNeeded 4 = .ok (.ifCond .eq 10, 3) := by decide +kernel
theorem dX6_isNeeded_7 : decode cX6_isNeeded 7 = .ok (.iload_n 2, 1) := by decide +kernel
theorem dX6_isNeeded_8 : decode cX6_isNeeded 8 = .ok (.invokestatic 96, 3) := by decide +kernel
theorem dX6_isNeeded_11 : decode cX6_isNeeded 11 = .ok (.ifCond .ne 5, 3) := by decide +kernel
theorem dX6_isNeeded_14 : decode cX6_isNeeded 14 = .ok (.iconst (-1), 1) := by decide +kernel
theorem dX6_isNeeded_15 : decode cX6_isNeeded 15 = .ok (.ireturn, 1) := by decide +kernel
theorem dX6_isNeeded_16 : decode cX6_isNeeded 16 = .ok (.aload_n 0, 1) := by decide +kernel
theorem dX6_isNeeded_17 : decode cX6_isNeeded 17 = .ok (.getfield 10, 3) := by decide +kernel
theorem dX6_isNeeded_20 : decode cX6_isNeeded 20 = .ok (.iload_n 2, 1) := by decide +kernel
theorem dX6_isNeeded_21 : decode cX6_isNeeded 21 = .ok (.invokevirtual 220, 3) := by decide +kernel
theorem dX6_isNeeded_24 : decode cX6_isNeeded 24 = .ok (.iload_n 1, 1) := by decide +kernel
theorem dX6_isNeeded_25 : decode cX6_isNeeded 25 = .ok (.invokestatic 223, 3) := by decide +kernel
theorem dX6_isNeeded_28 : decode cX6_isNeeded 28 = .ok (.ifCond .eq 7, 3) := by decide +kernel
theorem dX6_isNeeded_31 : decode cX6_isNeeded 31 = .ok (.iconst 1, 1) := by decide +kernel
theorem dX6_isNeeded_32 : decode cX6_isNeeded 32 = .ok (.goto 4, 3) := by decide +kernel
theorem dX6_isNeeded_35 : decode cX6_isNeeded 35 = .ok (.iconst 0, 1) := by decide +kernel
theorem dX6_isNeeded_36 : decode cX6_isNeeded 36 = .ok (.ireturn, 1) := by decide +kernel
set_option maxRecDepth 20000 in
theorem ggX6_share_X6_sum : GoodIn wsX6_share wsX6_sum := goodIn_r _ [5] (by decide +kernel) (by decide +kernel)
set_option maxRecDepth 20000 in
theorem gX6_share_X6_sum : GoodIn wsX6_share (va_wsS RX6 187 yX6_sum wsX6_sum) := goodIn_app (goodIn_of _ (by decide +kernel)) ggX6_share_X6_sum
theorem dX6_share_0 : decode cX6_share 0 = .ok (.aload_n 0, 1) := by decide +kernel
theorem dX6_share_1 : decode cX6_share 1 = .ok (.getfield 22, 3) := by decide +kernel
theorem dX6_share_4 : decode cX6_share 4 = .ok (.getfield 191, 3) := by decide +kernel
theorem dX6_share_7 : decode cX6_share 7 = .ok (.invokestatic 187, 3) := by decide +kernel
theorem dX6_share_10 : decode cX6_share 10 = .ok (.istore_n 1, 1) := by decide +kernel
theorem dX6_share_11 : decode cX6_share 11 = .ok (.iload_n 1, 1) := by decide +kernel
theorem dX6_share_12 : decode cX6_share 12 = .ok (.aload_n 0, 1) := by decide +kernel
theorem dX6_share_13 : decode cX6_share 13 = .ok (.getfield 22, 3) := by decide +kernel
theorem dX6_share_16 : decode cX6_share 16 = .ok (.getfield 206, 3) := by decide +kernel
theorem dX6_share_19 : decode cX6_share 19 = .ok (.invokestatic 187, 3) := by decide +kernel
theorem dX6_share_22 : decode cX6_share 22 = .ok (.iadd, 1) := by decide +kernel
theorem dX6_share_23 : decode cX6_share 23 = .ok (.istore_n 2, 1) := by decide +kernel
theorem dX6_share_24 : decode cX6_share 24 = .ok (.iload_n 2, 1) := by decide +kernel
theorem dX6_share_25 : decode cX6_share 25 = .ok (.ifCond .gt 5, 3) := by decide +kernel
theorem dX6_share_28 : decode cX6_share 28 = .ok (.fconst 0, 1) := by decide +kernel
theorem dX6_share_29 : decode cX6_share 29 = .ok (.freturn, 1) := by decide +kernel
theorem dX6_share_30 : decode cX6_share 30 = .ok (.iload_n 1, 1) := by decide +kernel
theorem dX6_share_31 : decode cX6_share 31 = .ok (.i2f, 1) := by decide +kernel
theorem dX6_share_32 : decode cX6_share 32 = .ok (.iload_n 2, 1) := by decide +kernel
theorem dX6_share_33 : decode cX6_share 33 = .ok (.i2f, 1) := by decide +kernel
theorem dX6_share_34 : decode cX6_share 34 = .ok (.fdiv, 1) := by decide +kernel
theorem dX6_share_35 : decode cX6_share 35 = .ok (.freturn, 1) := by decide +kernel
set_option maxRecDepth 20000 in
theorem ggX6_gather_X6_isThing : GoodIn wsX6_gather wsX6_isThing := goodIn_r _ [7] (by decide +kernel) (by decide +kernel)
set_option maxRecDepth 20000 in
theorem gX6_gather_X6_isThing : GoodIn wsX6_gather (va_wsS RX6 96 yX6_isThing wsX6_isThing) := goodIn_app (goodIn_of _ (by decide +kernel)) ggX6_gather_X6_isThing
set_option maxRecDepth 20000 in
theorem ggX6_gather_X6_isWished : GoodIn wsX6_gather wsX6_isWished := goodIn_r _ [10] (by decide +kernel) (by decide +kernel)
set_option maxRecDepth 20000 in
theorem gX6_gather_X6_isWished : GoodIn wsX6_gather (va_wsS RX6 157 yX6_isWished wsX6_isWished) := goodIn_app (goodIn_of _ (by decide +kernel)) ggX6_gather_X6_isWished
set_option maxRecDepth 20000 in
theorem ggX6_gather_X5_begin : GoodIn wsX6_gather wsX5_begin := goodIn_r _ [15, 16, 17, 18, 19, 20, 21, 22, 23, 24, 25, 26, 27, 28, 29, 30, 31, 32, 33, 6, 34, 35, 36, 37, 38, 39, 40, 41, 42, 139, 140, 141, 142, 143, 144, 145, 146, 147, 148, 149, 150] (by decide +kernel) (by decide +kernel)
set_option maxRecDepth 20000 in
theorem gX6_gather_X5_begin : GoodIn wsX6_gather (wsV RX6 160 RX5 yX5_begin wsX5_begin) := goodIn_app (goodIn_of _ (by decide +kernel)) ggX6_gather_X5_begin
set_option maxRecDepth 20000 in
theorem ggX6_gather_X5_fulfil : GoodIn wsX6_gather wsX5_fulfil := goodIn_r _ [46, 16, 18, 47, 6, 48, 49, 50, 51, 14, 52, 53, 54, 55, 56, 57, 58, 59, 60, 61, 62, 63, 64, 65, 66, 67, 68, 69, 70, 71, 17, 20, 72, 73, 74, 75, 76, 77, 78, 79, 19, 80, 81, 82, 83, 84, 85, 86, 87, 88, 89, 90, 91, 92, 93, 94, 95, 96, 97, 98, 99, 100, 101, 102, 103, 36, 37, 38, 104, 105, 106, 107, 108, 109, 110, 111, 112, 113, 114, 115, 116, 117, 118, 119, 120, 121, 122, 139, 140, 141, 142, 143, 144, 145, 146, 147, 148, 149, 150, 151, 152, 153, 154, 155, 156, 157, 158] (by decide +kernel) (by decide +kernel)
set_option maxRecDepth 20000 in
theorem gX6_gather_X5_fulfil : GoodIn wsX6_gather (wsV RX6 164 RX5 yX5_fulfil wsX5_fulfil) := goodIn_app (goodIn_of _ (by decide +kernel)) ggX6_gather_X5_fulfil
set_option maxRecDepth 20000 in
theorem ggX6_gather_X5_gathered : GoodIn wsX6_gather wsX5_gathered := goodIn_r _ [126, 20, 139, 140, 141, 142, 143] (by decide +kernel) (by decide +kernel)
set_option maxRecDepth 20000 in
theorem gX6_gather_X5_gathered : GoodIn wsX6_gather (wsV RX6 226 RX5 yX5_gathered wsX5_gathered) := goodIn_app (goodIn_of _ (by decide +kernel)) ggX6_gather_X5_gathered
set_option maxRecDepth 20000 in
theorem ggX6_gather_X6_at : GoodIn wsX6_gather wsX6_at := goodIn_r _ [48] (by decide +kernel) (by decide +kernel)
set_option maxRecDepth 20000 in
theorem gX6_gather_X6_at : GoodIn wsX6_gather (va_wsS RX6 140 yX6_at wsX6_at) := goodIn_app (goodIn_of _ (by decide +kernel)) ggX6_gather_X6_at
theorem dX6_gather_0 : decode cX6_gather 0 = .ok (.iload_n 1, 1) := by decide +kernel
theorem dX6_gather_1 : decode cX6_gather 1 = .ok (.invokestatic 96, 3) := by decide +kernel
theorem dX6_gather_4 : decode cX6_gather 4 = .ok (.ifCond .eq 23, 3) := by decide +kernel
theorem dX6_gather_7 : decode cX6_gather 7 = .ok (.iload_n 2, 1) := by decide +kernel
theorem dX6_gather_8 : decode cX6_gather 8 = .ok (.invokestatic 157, 3) := by decide +kernel
theorem dX6_gather_11 : decode cX6_gather 11 = .ok (.ifCond .eq 16, 3) := by decide +kernel
theorem dX6_gather_14 : decode cX6_gather 14 = .ok (.iload_n 3, 1) := by decide +kernel
theorem dX6_gather_15 : decode cX6_gather 15 = .ok (.bipush (-9), 2) := by decide +kernel
theorem dX6_gather_17 : decode cX6_gather 17 = .ok (.if_icmp .eq 12, 3) := by decide +kernel
theorem dX6_gather_20 : decode cX6_gather 20 = .ok (.iload_n 3, 1) := by decide +kernel
theorem dX6_gather_21 : decode cX6_gather 21 = .ok (.invokestatic 96, 3) := by decide +kernel
theorem dX6_gather_24 : decode cX6_gather 24 = .ok (.ifCond .ne 5, 3) := by decide +kernel
theorem dX6_gather_27 : decode cX6_gather 27 = .ok (.iconst (-1), 1) := by decide +kernel
theorem dX6_gather_28 : decode cX6_gather 28 = .ok (.ireturn, 1) := by decide +kernel
theorem dX6_gather_29 : decode cX6_gather 29 = .ok (.aload_n 0, 1) := by decide +kernel
theorem dX6_gather_30 : decode cX6_gather 30 = .ok (.getfield 29, 3) := by decide +kernel
theorem dX6_gather_33 : decode cX6_gather 33 = .ok (.aload_n 0, 1) := by decide +kernel
theorem dX6_gather_34 : decode cX6_gather 34 = .ok (.getfield 22, 3) := by decide +kernel
theorem dX6_gather_37 : decode cX6_gather 37 = .ok (.iconst 1, 1) := by decide +kernel
theorem dX6_gather_38 : decode cX6_gather 38 = .ok (.invokevirtual 160, 3) := by decide +kernel
theorem dX6_gather_41 : decode cX6_gather 41 = .ok (.aload_n 0, 1) := by decide +kernel
theorem dX6_gather_42 : decode cX6_gather 42 = .ok (.getfield 29, 3) := by decide +kernel
theorem dX6_gather_45 : decode cX6_gather 45 = .ok (.aload_n 0, 1) := by decide +kernel
theorem dX6_gather_46 : decode cX6_gather 46 = .ok (.getfield 10, 3) := by decide +kernel
theorem dX6_gather_49 : decode cX6_gather 49 = .ok (.iload_n 1, 1) := by decide +kernel
theorem dX6_gather_50 : decode cX6_gather 50 = .ok (.iload_n 2, 1) := by decide +kernel
theorem dX6_gather_51 : decode cX6_gather 51 = .ok (.invokevirtual 164, 3) := by decide +kernel
theorem dX6_gather_54 : decode cX6_gather 54 = .ok (.ifCond .ne 6, 3) := by decide +kernel
theorem dX6_gather_57 : decode cX6_gather 57 = .ok (.bipush (-3), 2) := by decide +kernel
theorem dX6_gather_59 : decode cX6_gather 59 = .ok (.ireturn, 1) := by decide +kernel
theorem dX6_gather_60 : decode cX6_gather 60 = .ok (.iload_n 3, 1) := by decide +kernel
theorem dX6_gather_61 : decode cX6_gather 61 = .ok (.bipush (-9), 2) := by decide +kernel
theorem dX6_gather_63 : decode cX6_gather 63 = .ok (.if_icmp .ne 11, 3) := by decide +kernel
theorem dX6_gather_66 : decode cX6_gather 66 = .ok (.aload_n 0, 1) := by decide +kernel
theorem dX6_gather_67 : decode cX6_gather 67 = .ok (.getfield 29, 3) := by decide +kernel
theorem dX6_gather_70 : decode cX6_gather 70 = .ok (.invokevirtual 226, 3) := by decide +kernel
theorem dX6_gather_73 : decode cX6_gather 73 = .ok (.ireturn, 1) := by decide +kernel
theorem dX6_gather_74 : decode cX6_gather 74 = .ok (.aload_n 0, 1) := by decide +kernel
theorem dX6_gather_75 : decode cX6_gather 75 = .ok (.getfield 29, 3) := by decide +kernel
theorem dX6_gather_78 : decode cX6_gather 78 = .ok (.getfield 228, 3) := by decide +kernel
theorem dX6_gather_81 : decode cX6_gather 81 = .ok (.getfield 191, 3) := by decide +kernel
theorem dX6_gather_84 : decode cX6_gather 84 = .ok (.iload_n 3, 1) := by decide +kernel
theorem dX6_gather_85 : decode cX6_gather 85 = .ok (.invokestatic 140, 3) := by decide +kernel
theorem dX6_gather_88 : decode cX6_gather 88 = .ok (.aload_n 0, 1) := by decide +kernel
theorem dX6_gather_89 : decode cX6_gather 89 = .ok (.getfield 22, 3) := by decide +kernel
theorem dX6_gather_92 : decode cX6_gather 92 = .ok (.getfield 191, 3) := by decide +kernel
theorem dX6_gather_95 : decode cX6_gather 95 = .ok (.iload_n 3, 1) := by decide +kernel
theorem dX6_gather_96 : decode cX6_gather 96 = .ok (.invokestatic 140, 3) := by decide +kernel
theorem dX6_gather_99 : decode cX6_gather 99 = .ok (.isub, 1) := by decide +kernel
theorem dX6_gather_100 : decode cX6_gather 100 = .ok (.ireturn, 1) := by decide +kernel
set_option maxRecDepth 20000 in
theorem ggX6_canHave_X6_isThing : GoodIn wsX6_canHave wsX6_isThing := goodIn_r _ [11] (by decide +kernel) (by decide +kernel)
set_option maxRecDepth 20000 in
theorem gX6_canHave_X6_isThing : GoodIn wsX6_canHave (va_wsS RX6 96 yX6_isThing wsX6_isThing) := goodIn_app (goodIn_of _ (by decide +kernel)) ggX6_canHave_X6_isThing
set_option maxRecDepth 20000 in
theorem ggX6_canHave_X6_at : GoodIn wsX6_canHave wsX6_at := goodIn_r _ [14] (by decide +kernel) (by decide +kernel)
set_option maxRecDepth 20000 in
theorem gX6_canHave_X6_at : GoodIn wsX6_canHave (va_wsS RX6 140 yX6_at wsX6_at) := goodIn_app (goodIn_of _ (by decide +kernel)) ggX6_canHave_X6_at
set_option maxRecDepth 20000 in
theorem ggX6_canHave_X0_yieldOf : GoodIn wsX6_canHave wsX0_yieldOf := goodIn_r _ [19, 20, 13, 10, 14, 141, 142, 143, 144, 145, 146, 147, 148] (by decide +kernel) (by decide +kernel)
set_option maxRecDepth 20000 in
theorem gX6_canHave_X0_yieldOf : GoodIn wsX6_canHave (wsV RX6 103 RX0 yX0_yieldOf wsX0_yieldOf) := goodIn_app (goodIn_of _ (by decide +kernel)) ggX6_canHave_X0_yieldOf
set_option maxRecDepth 20000 in
theorem ggX6_canHave_X6_divideUp : GoodIn wsX6_canHave wsX6_divideUp := goodIn_r _ [23] (by decide +kernel) (by decide +kernel)
set_option maxRecDepth 20000 in
theorem gX6_canHave_X6_divideUp : GoodIn wsX6_canHave (va_wsS RX6 234 yX6_divideUp wsX6_divideUp) := goodIn_app (goodIn_of _ (by decide +kernel)) ggX6_canHave_X6_divideUp
set_option maxRecDepth 20000 in
theorem ggX6_canHave_X5_begin : GoodIn wsX6_canHave wsX5_begin := goodIn_r _ [28, 29, 30, 31, 32, 33, 34, 35, 36, 37, 38, 39, 40, 41, 42, 43, 44, 45, 46, 10, 47, 2, 3, 4, 5, 48, 49, 50, 51, 149, 150, 151, 152, 153, 134, 135, 136, 137, 138, 139, 140] (by decide +kernel) (by decide +kernel)
set_option maxRecDepth 20000 in
theorem gX6_canHave_X5_begin : GoodIn wsX6_canHave (wsV RX6 160 RX5 yX5_begin wsX5_begin) := goodIn_app (goodIn_of _ (by decide +kernel)) ggX6_canHave_X5_begin
set_option maxRecDepth 20000 in
theorem ggX6_canHave_X5_runAll : GoodIn wsX6_canHave wsX5_runAll := goodIn_r _ [55, 31, 56, 57, 58, 27, 59, 32, 29, 60, 61, 62, 18, 63, 64, 13, 10, 14, 65, 66, 67, 68, 69, 70, 71, 72, 73, 74, 75, 76, 77, 78, 16, 17, 19, 20, 79, 80, 81, 82, 83, 84, 85, 86, 87, 88, 89, 90, 22, 23, 91, 92, 93, 94, 30, 33, 95, 96, 97, 98, 99, 100, 3, 4, 5, 101, 102, 103, 104, 105, 106, 107, 108, 109, 110, 111, 112, 113, 114, 115, 116, 117, 118, 119, 120, 121, 122, 149, 150, 151, 152, 153, 141, 142, 143, 144, 145, 146, 147, 148, 134, 135, 136, 137, 138, 139, 140] (by decide +kernel) (by decide +kernel)
set_option maxRecDepth 20000 in
theorem gX6_canHave_X5_runAll : GoodIn wsX6_canHave (wsV RX6 172 RX5 yX5_runAll wsX5_runAll) := goodIn_app (goodIn_of _ (by decide +kernel)) ggX6_canHave_X5_runAll
theorem dX6_canHave_0 : decode cX6_canHave 0 = .ok (.iload_n 1, 1) := by decide +kernel
theorem dX6_canHave_1 : decode cX6_canHave 1 = .ok (.invokestatic 96, 3) := by decide +kernel
theorem dX6_canHave_4 : decode cX6_canHave 4 = .ok (.ifCond .ne 5, 3) := by decide +kernel
theorem dX6_canHave_7 : decode cX6_canHave 7 = .ok (.iconst (-1), 1) := by decide +kernel
theorem dX6_canHave_8 : decode cX6_canHave 8 = .ok (.ireturn, 1) := by decide +kernel
theorem dX6_canHave_9 : decode cX6_canHave 9 = .ok (.aload_n 0, 1) := by decide +kernel
theorem dX6_canHave_10 : decode cX6_canHave 10 = .ok (.getfield 22, 3) := by decide +kernel
theorem dX6_canHave_13 : decode cX6_canHave 13 = .ok (.getfield 137, 3) := by decide +kernel
theorem dX6_canHave_16 : decode cX6_canHave 16 = .ok (.iload_n 1, 1) := by decide +kernel
theorem dX6_canHave_17 : decode cX6_canHave 17 = .ok (.invokestatic 140, 3) := by decide +kernel
theorem dX6_canHave_20 : decode cX6_canHave 20 = .ok (.sipush 999, 3) := by decide +kernel
theorem dX6_canHave_23 : decode cX6_canHave 23 = .ok (.invokestatic 231, 3) := by decide +kernel
theorem dX6_canHave_26 : decode cX6_canHave 26 = .ok (.istore_n 2, 1) := by decide +kernel
theorem dX6_canHave_27 : decode cX6_canHave 27 = .ok (.aload_n 0, 1) := by decide +kernel
theorem dX6_canHave_28 : decode cX6_canHave 28 = .ok (.getfield 10, 3) := by decide +kernel
theorem dX6_canHave_31 : decode cX6_canHave 31 = .ok (.iload_n 1, 1) := by decide +kernel
theorem dX6_canHave_32 : decode cX6_canHave 32 = .ok (.invokevirtual 103, 3) := by decide +kernel
theorem dX6_canHave_35 : decode cX6_canHave 35 = .ok (.istore_n 3, 1) := by decide +kernel
theorem dX6_canHave_36 : decode cX6_canHave 36 = .ok (.iload_n 3, 1) := by decide +kernel
theorem dX6_canHave_37 : decode cX6_canHave 37 = .ok (.iconst 1, 1) := by decide +kernel
theorem dX6_canHave_38 : decode cX6_canHave 38 = .ok (.if_icmp .ge 5, 3) := by decide +kernel
theorem dX6_canHave_41 : decode cX6_canHave 41 = .ok (.iload_n 2, 1) := by decide +kernel
theorem dX6_canHave_42 : decode cX6_canHave 42 = .ok (.ireturn, 1) := by decide +kernel
theorem dX6_canHave_43 : decode cX6_canHave 43 = .ok (.sipush 999, 3) := by decide +kernel
theorem dX6_canHave_46 : decode cX6_canHave 46 = .ok (.iload_n 2, 1) := by decide +kernel
theorem dX6_canHave_47 : decode cX6_canHave 47 = .ok (.isub, 1) := by decide +kernel
theorem dX6_canHave_48 : decode cX6_canHave 48 = .ok (.iload_n 3, 1) := by decide +kernel
theorem dX6_canHave_49 : decode cX6_canHave 49 = .ok (.invokestatic 234, 3) := by decide +kernel
theorem dX6_canHave_52 : decode cX6_canHave 52 = .ok (.sipush 500, 3) := by decide +kernel
theorem dX6_canHave_55 : decode cX6_canHave 55 = .ok (.invokestatic 231, 3) := by decide +kernel
theorem dX6_canHave_58 : decode cX6_canHave 58 = .ok (.istore 4, 2) := by decide +kernel
theorem dX6_canHave_60 : decode cX6_canHave 60 = .ok (.iload 4, 2) := by decide +kernel
theorem dX6_canHave_62 : decode cX6_canHave 62 = .ok (.istore 5, 2) := by decide +kernel
theorem dX6_canHave_64 : decode cX6_canHave 64 = .ok (.iload 5, 2) := by decide +kernel
theorem dX6_canHave_66 : decode cX6_canHave 66 = .ok (.ifCond .le 51, 3) := by decide +kernel
theorem dX6_canHave_69 : decode cX6_canHave 69 = .ok (.aload_n 0, 1) := by decide +kernel
theorem dX6_canHave_70 : decode cX6_canHave 70 = .ok (.getfield 29, 3) := by decide +kernel
theorem dX6_canHave_73 : decode cX6_canHave 73 = .ok (.aload_n 0, 1) := by decide +kernel
theorem dX6_canHave_74 : decode cX6_canHave 74 = .ok (.getfield 22, 3) := by decide +kernel
theorem dX6_canHave_77 : decode cX6_canHave 77 = .ok (.iconst 0, 1) := by decide +kernel
theorem dX6_canHave_78 : decode cX6_canHave 78 = .ok (.invokevirtual 160, 3) := by decide +kernel
theorem dX6_canHave_81 : decode cX6_canHave 81 = .ok (.aload_n 0, 1) := by decide +kernel
theorem dX6_canHave_82 : decode cX6_canHave 82 = .ok (.getfield 29, 3) := by decide +kernel
theorem dX6_canHave_85 : decode cX6_canHave 85 = .ok (.aload_n 0, 1) := by decide +kernel
theorem dX6_canHave_86 : decode cX6_canHave 86 = .ok (.getfield 10, 3) := by decide +kernel
theorem dX6_canHave_89 : decode cX6_canHave 89 = .ok (.iload_n 1, 1) := by decide +kernel
theorem dX6_canHave_90 : decode cX6_canHave 90 = .ok (.iload 5, 2) := by decide +kernel
theorem dX6_canHave_92 : decode cX6_canHave 92 = .ok (.invokevirtual 172, 3) := by decide +kernel
theorem dX6_canHave_95 : decode cX6_canHave 95 = .ok (.ifCond .eq 16, 3) := by decide +kernel
theorem dX6_canHave_98 : decode cX6_canHave 98 = .ok (.iload_n 2, 1) := by decide +kernel
theorem dX6_canHave_99 : decode cX6_canHave 99 = .ok (.iload_n 3, 1) := by decide +kernel
theorem dX6_canHave_100 : decode cX6_canHave 100 = .ok (.iload 5, 2) := by decide +kernel
theorem dX6_canHave_102 : decode cX6_canHave 102 = .ok (.imul, 1) := by decide +kernel
theorem dX6_canHave_103 : decode cX6_canHave 103 = .ok (.iadd, 1) := by decide +kernel
theorem dX6_canHave_104 : decode cX6_canHave 104 = .ok (.sipush 999, 3) := by decide +kernel
theorem dX6_canHave_107 : decode cX6_canHave 107 = .ok (.invokestatic 231, 3) := by decide +kernel
theorem dX6_canHave_110 : decode cX6_canHave 110 = .ok (.ireturn, 1) := by decide +kernel
theorem dX6_canHave_111 : decode cX6_canHave 111 = .ok (.iinc 5 (-1), 3) := by decide +kernel
theorem dX6_canHave_114 : decode cX6_canHave 114 = .ok (.goto (-50), 3) := by decide +kernel
theorem dX6_canHave_117 : decode cX6_canHave 117 = .ok (.iload_n 2, 1) := by decide +kernel
theorem dX6_canHave_118 : decode cX6_canHave 118 = .ok (.ireturn, 1) := by decide +kernel
set_option maxRecDepth 20000 in
theorem ggX6_bestGift_X6_isThing : GoodIn wsX6_bestGift wsX6_isThing := goodIn_r _ [7] (by decide +kernel) (by decide +kernel)
set_option maxRecDepth 20000 in
theorem gX6_bestGift_X6_isThing : GoodIn wsX6_bestGift (va_wsS RX6 96 yX6_isThing wsX6_isThing) := goodIn_app (goodIn_of _ (by decide +kernel)) ggX6_bestGift_X6_isThing
set_option maxRecDepth 20000 in
theorem ggX6_bestGift_X6_isWished : GoodIn wsX6_bestGift wsX6_isWished := goodIn_r _ [10] (by decide +kernel) (by decide +kernel)
set_option maxRecDepth 20000 in
theorem gX6_bestGift_X6_isWished : GoodIn wsX6_bestGift (va_wsS RX6 157 yX6_isWished wsX6_isWished) := goodIn_app (goodIn_of _ (by decide +kernel)) ggX6_bestGift_X6_isWished
set_option maxRecDepth 20000 in
theorem ggX6_bestGift_X5_begin : GoodIn wsX6_bestGift wsX5_begin := goodIn_r _ [15, 16, 17, 18, 19, 20, 21, 22, 23, 24, 25, 26, 27, 28, 29, 30, 31, 32, 33, 6, 34, 35, 36, 37, 38, 39, 40, 41, 42, 142, 143, 144, 145, 146, 147, 148, 149, 150, 151, 152, 153] (by decide +kernel) (by decide +kernel)
set_option maxRecDepth 20000 in
theorem gX6_bestGift_X5_begin : GoodIn wsX6_bestGift (wsV RX6 160 RX5 yX5_begin wsX5_begin) := goodIn_app (goodIn_of _ (by decide +kernel)) ggX6_bestGift_X5_begin
set_option maxRecDepth 20000 in
theorem ggX6_bestGift_X5_fulfil : GoodIn wsX6_bestGift wsX5_fulfil := goodIn_r _ [46, 16, 18, 47, 6, 48, 49, 50, 51, 14, 52, 53, 54, 55, 56, 57, 58, 59, 60, 61, 62, 63, 64, 65, 66, 67, 68, 69, 70, 71, 17, 20, 72, 73, 74, 75, 76, 77, 78, 79, 19, 80, 81, 82, 83, 84, 85, 86, 87, 88, 89, 90, 91, 92, 93, 94, 95, 96, 97, 98, 99, 100, 101, 102, 103, 36, 37, 38, 104, 105, 106, 107, 108, 109, 110, 111, 112, 113, 114, 115, 116, 117, 118, 119, 120, 121, 122, 142, 143, 144, 145, 146, 147, 148, 149, 150, 151, 152, 153, 154, 155, 156, 157, 158, 159, 160, 161] (by decide +kernel) (by decide +kernel)
set_option maxRecDepth 20000 in
theorem gX6_bestGift_X5_fulfil : GoodIn wsX6_bestGift (wsV RX6 164 RX5 yX5_fulfil wsX5_fulfil) := goodIn_app (goodIn_of _ (by decide +kernel)) ggX6_bestGift_X5_fulfil
set_option maxRecDepth 20000 in
theorem ggX6_bestGift_X5_gathered : GoodIn wsX6_bestGift wsX5_gathered := goodIn_r _ [126, 20, 142, 143, 144, 145, 146] (by decide +kernel) (by decide +kernel)
set_option maxRecDepth 20000 in
theorem gX6_bestGift_X5_gathered : GoodIn wsX6_bestGift (wsV RX6 226 RX5 yX5_gathered wsX5_gathered) := goodIn_app (goodIn_of _ (by decide +kernel)) ggX6_bestGift_X5_gathered
set_option maxRecDepth 20000 in
theorem ggX6_bestGift_X5_receive : GoodIn wsX6_bestGift wsX5_receive := goodIn_r _ [130, 16, 76, 77, 6, 78, 47, 48, 142, 143, 144, 145, 146, 147, 148, 149, 150, 151, 152, 153] (by decide +kernel) (by decide +kernel)
set_option maxRecDepth 20000 in
theorem gX6_bestGift_X5_receive : GoodIn wsX6_bestGift (wsV RX6 237 RX5 yX5_receive wsX5_receive) := goodIn_app (goodIn_of _ (by decide +kernel)) ggX6_bestGift_X5_receive
theorem dX6_bestGift_0 : decode cX6_bestGift 0 = .ok (.iload_n 1, 1) := by decide +kernel
theorem dX6_bestGift_1 : decode cX6_bestGift 1 = .ok (.invokestatic 96, 3) := by decide +kernel
theorem dX6_bestGift_4 : decode cX6_bestGift 4 = .ok (.ifCond .eq 10, 3) := by decide +kernel
theorem dX6_bestGift_7 : decode cX6_bestGift 7 = .ok (.iload_n 2, 1) := by decide +kernel
theorem dX6_bestGift_8 : decode cX6_bestGift 8 = .ok (.invokestatic 157, 3) := by decide +kernel
theorem dX6_bestGift_11 : decode cX6_bestGift 11 = .ok (.ifCond .ne 5, 3) := by decide +kernel
theorem dX6_bestGift_14 : decode cX6_bestGift 14 = .ok (.iconst (-1), 1) := by decide +kernel
theorem dX6_bestGift_15 : decode cX6_bestGift 15 = .ok (.ireturn, 1) := by decide +kernel
theorem dX6_bestGift_16 : decode cX6_bestGift 16 = .ok (.aload_n 0, 1) := by decide +kernel
theorem dX6_bestGift_17 : decode cX6_bestGift 17 = .ok (.getfield 29, 3) := by decide +kernel
theorem dX6_bestGift_20 : decode cX6_bestGift 20 = .ok (.aload_n 0, 1) := by decide +kernel
theorem dX6_bestGift_21 : decode cX6_bestGift 21 = .ok (.getfield 22, 3) := by decide +kernel
theorem dX6_bestGift_24 : decode cX6_bestGift 24 = .ok (.iconst 1, 1) := by decide +kernel
theorem dX6_bestGift_25 : decode cX6_bestGift 25 = .ok (.invokevirtual 160, 3) := by decide +kernel
theorem dX6_bestGift_28 : decode cX6_bestGift 28 = .ok (.aload_n 0, 1) := by decide +kernel
theorem dX6_bestGift_29 : decode cX6_bestGift 29 = .ok (.getfield 29, 3) := by decide +kernel
theorem dX6_bestGift_32 : decode cX6_bestGift 32 = .ok (.aload_n 0, 1) := by decide +kernel
theorem dX6_bestGift_33 : decode cX6_bestGift 33 = .ok (.getfield 10, 3) := by decide +kernel
theorem dX6_bestGift_36 : decode cX6_bestGift 36 = .ok (.iload_n 1, 1) := by decide +kernel
theorem dX6_bestGift_37 : decode cX6_bestGift 37 = .ok (.iload_n 2, 1) := by decide +kernel
theorem dX6_bestGift_38 : decode cX6_bestGift 38 = .ok (.invokevirtual 164, 3) := by decide +kernel
theorem dX6_bestGift_41 : decode cX6_bestGift 41 = .ok (.ifCond .ne 6, 3) := by decide +kernel
theorem dX6_bestGift_44 : decode cX6_bestGift 44 = .ok (.bipush (-3), 2) := by decide +kernel
theorem dX6_bestGift_46 : decode cX6_bestGift 46 = .ok (.ireturn, 1) := by decide +kernel
theorem dX6_bestGift_47 : decode cX6_bestGift 47 = .ok (.aload_n 0, 1) := by decide +kernel
theorem dX6_bestGift_48 : decode cX6_bestGift 48 = .ok (.getfield 29, 3) := by decide +kernel
theorem dX6_bestGift_51 : decode cX6_bestGift 51 = .ok (.invokevirtual 226, 3) := by decide +kernel
theorem dX6_bestGift_54 : decode cX6_bestGift 54 = .ok (.istore_n 3, 1) := by decide +kernel
theorem dX6_bestGift_55 : decode cX6_bestGift 55 = .ok (.bipush (-9), 2) := by decide +kernel
theorem dX6_bestGift_57 : decode cX6_bestGift 57 = .ok (.istore 4, 2) := by decide +kernel
theorem dX6_bestGift_59 : decode cX6_bestGift 59 = .ok (.iconst 0, 1) := by decide +kernel
theorem dX6_bestGift_60 : decode cX6_bestGift 60 = .ok (.istore 5, 2) := by decide +kernel
theorem dX6_bestGift_62 : decode cX6_bestGift 62 = .ok (.iload 5, 2) := by decide +kernel
theorem dX6_bestGift_64 : decode cX6_bestGift 64 = .ok (.bipush 20, 2) := by decide +kernel
theorem dX6_bestGift_66 : decode cX6_bestGift 66 = .ok (.if_icmp .ge 72, 3) := by decide +kernel
theorem dX6_bestGift_69 : decode cX6_bestGift 69 = .ok (.aload_n 0, 1) := by decide +kernel
theorem dX6_bestGift_70 : decode cX6_bestGift 70 = .ok (.getfield 29, 3) := by decide +kernel
theorem dX6_bestGift_73 : decode cX6_bestGift 73 = .ok (.aload_n 0, 1) := by decide +kernel
theorem dX6_bestGift_74 : decode cX6_bestGift 74 = .ok (.getfield 22, 3) := by decide +kernel
theorem dX6_bestGift_77 : decode cX6_bestGift 77 = .ok (.iconst 1, 1) := by decide +kernel
theorem dX6_bestGift_78 : decode cX6_bestGift 78 = .ok (.invokevirtual 160, 3) := by decide +kernel
theorem dX6_bestGift_81 : decode cX6_bestGift 81 = .ok (.aload_n 0, 1) := by decide +kernel
theorem dX6_bestGift_82 : decode cX6_bestGift 82 = .ok (.getfield 29, 3) := by decide +kernel
theorem dX6_bestGift_85 : decode cX6_bestGift 85 = .ok (.iload 5, 2) := by decide +kernel
theorem dX6_bestGift_87 : decode cX6_bestGift 87 = .ok (.invokevirtual 237, 3) := by decide +kernel
theorem dX6_bestGift_90 : decode cX6_bestGift 90 = .ok (.ifCond .eq 42, 3) := by decide +kernel
theorem dX6_bestGift_93 : decode cX6_bestGift 93 = .ok (.aload_n 0, 1) := by decide +kernel
theorem dX6_bestGift_94 : decode cX6_bestGift 94 = .ok (.getfield 29, 3) := by decide +kernel
theorem dX6_bestGift_97 : decode cX6_bestGift 97 = .ok (.aload_n 0, 1) := by decide +kernel
theorem dX6_bestGift_98 : decode cX6_bestGift 98 = .ok (.getfield 10, 3) := by decide +kernel
theorem dX6_bestGift_101 : decode cX6_bestGift 101 = .ok (.iload_n 1, 1) := by decide +kernel
theorem dX6_bestGift_102 : decode cX6_bestGift 102 = .ok (.iload_n 2, 1) := by decide +kernel
theorem dX6_bestGift_103 : decode cX6_bestGift 103 = .ok (.invokevirtual 164, 3) := by decide +kernel
theorem dX6_bestGift_106 : decode cX6_bestGift 106 = .ok (.ifCond .eq 26, 3) := by decide +kernel
theorem dX6_bestGift_109 : decode cX6_bestGift 109 = .ok (.aload_n 0, 1) := by decide +kernel
theorem dX6_bestGift_110 : decode cX6_bestGift 110 = .ok (.getfield 29, 3) := by decide +kernel
theorem dX6_bestGift_113 : decode cX6_bestGift 113 = .ok (.invokevirtual 226, 3) := by decide +kernel
theorem dX6_bestGift_116 : decode cX6_bestGift 116 = .ok (.iload_n 3, 1) := by decide +kernel
theorem dX6_bestGift_117 : decode cX6_bestGift 117 = .ok (.if_icmp .ge 15, 3) := by decide +kernel
theorem dX6_bestGift_120 : decode cX6_bestGift 120 = .ok (.aload_n 0, 1) := by decide +kernel
theorem dX6_bestGift_121 : decode cX6_bestGift 121 = .ok (.getfield 29, 3) := by decide +kernel
theorem dX6_bestGift_124 : decode cX6_bestGift 124 = .ok (.invokevirtual 226, 3) := by decide +kernel
theorem dX6_bestGift_127 : decode cX6_bestGift 127 = .ok (.istore_n 3, 1) := by decide +kernel
theorem dX6_bestGift_128 : decode cX6_bestGift 128 = .ok (.iload 5, 2) := by decide +kernel
theorem dX6_bestGift_130 : decode cX6_bestGift 130 = .ok (.istore 4, 2) := by decide +kernel
theorem dX6_bestGift_132 : decode cX6_bestGift 132 = .ok (.iinc 5 1, 3) := by decide +kernel
theorem dX6_bestGift_135 : decode cX6_bestGift 135 = .ok (.goto (-73), 3) := by decide +kernel
theorem dX6_bestGift_138 : decode cX6_bestGift 138 = .ok (.iload 4, 2) := by decide +kernel
theorem dX6_bestGift_140 : decode cX6_bestGift 140 = .ok (.ireturn, 1) := by decide +kernel
set_option maxRecDepth 20000 in
theorem ggX6_keep_X6_roomAt : GoodIn wsX6_keep wsX6_roomAt := goodIn_r _ [7, 8, 9, 10, 11, 12, 6, 13, 14, 15, 16, 17, 18, 19, 20, 21, 22, 23, 24, 25, 26, 27, 28, 29, 30, 31, 32, 33, 34, 35, 36, 37, 38, 39, 40, 41, 42, 43, 44, 45, 46, 47, 48, 49, 50, 51, 52, 108, 109, 110, 111, 112, 113, 114, 115, 116, 117, 118, 119, 120, 121, 122, 123, 124] (by decide +kernel) (by decide +kernel)
set_option maxRecDepth 20000 in
theorem gX6_keep_X6_roomAt : GoodIn wsX6_keep (va_wsS RX6 240 yX6_roomAt wsX6_roomAt) := goodIn_app (goodIn_of _ (by decide +kernel)) ggX6_keep_X6_roomAt
set_option maxRecDepth 20000 in
theorem ggX6_keep_X3_hold : GoodIn wsX6_keep wsX3_hold := goodIn_r _ [56, 22, 26, 57, 58, 59, 21, 60, 32, 33, 34, 35, 36, 37, 38, 39, 61, 6, 62, 63, 64, 65, 66, 67, 68, 69, 70, 71, 72, 73, 25, 74, 47, 48, 49, 50, 51, 52, 75, 108, 109, 110, 111, 112, 113, 114, 115, 116, 117, 118, 119, 120, 121, 122, 123, 124] (by decide +kernel) (by decide +kernel)
set_option maxRecDepth 20000 in
theorem gX6_keep_X3_hold : GoodIn wsX6_keep (wsV RX6 244 RX3 yX3_hold wsX3_hold) := goodIn_app (goodIn_of _ (by decide +kernel)) ggX6_keep_X3_hold
set_option maxRecDepth 20000 in
theorem ggX6_keep_X0_recipes : GoodIn wsX6_keep wsX0_recipes := goodIn_r _ [79, 80, 81, 82, 21, 83, 84, 85, 86, 87, 32, 88, 6, 89, 90, 91, 92, 93, 94, 95, 96, 110, 111, 112, 113, 114, 115, 116, 117] (by decide +kernel) (by decide +kernel)
set_option maxRecDepth 20000 in
theorem gX6_keep_X0_recipes : GoodIn wsX6_keep (wsV RX6 184 RX0 yX0_recipes wsX0_recipes) := goodIn_app (goodIn_of _ (by decide +kernel)) ggX6_keep_X0_recipes
theorem dX6_keep_0 : decode cX6_keep 0 = .ok (.iload_n 1, 1) := by decide +kernel
theorem dX6_keep_1 : decode cX6_keep 1 = .ok (.ifCond .lt 12, 3) := by decide +kernel
theorem dX6_keep_4 : decode cX6_keep 4 = .ok (.iload_n 1, 1) := by decide +kernel
theorem dX6_keep_5 : decode cX6_keep 5 = .ok (.aload_n 0, 1) := by decide +kernel
theorem dX6_keep_6 : decode cX6_keep 6 = .ok (.getfield 42, 3) := by decide +kernel
theorem dX6_keep_9 : decode cX6_keep 9 = .ok (.arraylength, 1) := by decide +kernel
theorem dX6_keep_10 : decode cX6_keep 10 = .ok (.if_icmp .lt 5, 3) := by decide +kernel
theorem dX6_keep_13 : decode cX6_keep 13 = .ok (.iconst (-1), 1) := by decide +kernel
theorem dX6_keep_14 : decode cX6_keep 14 = .ok (.ireturn, 1) := by decide +kernel
theorem dX6_keep_15 : decode cX6_keep 15 = .ok (.aload_n 0, 1) := by decide +kernel
theorem dX6_keep_16 : decode cX6_keep 16 = .ok (.getfield 42, 3) := by decide +kernel
theorem dX6_keep_19 : decode cX6_keep 19 = .ok (.iload_n 1, 1) := by decide +kernel
theorem dX6_keep_20 : decode cX6_keep 20 = .ok (.invokestatic 240, 3) := by decide +kernel
theorem dX6_keep_23 : decode cX6_keep 23 = .ok (.aload_n 0, 1) := by decide +kernel
theorem dX6_keep_24 : decode cX6_keep 24 = .ok (.getfield 10, 3) := by decide +kernel
theorem dX6_keep_27 : decode cX6_keep 27 = .ok (.aload_n 0, 1) := by decide +kernel
theorem dX6_keep_28 : decode cX6_keep 28 = .ok (.getfield 22, 3) := by decide +kernel
theorem dX6_keep_31 : decode cX6_keep 31 = .ok (.invokevirtual 244, 3) := by decide +kernel
theorem dX6_keep_34 : decode cX6_keep 34 = .ok (.aload_n 0, 1) := by decide +kernel
theorem dX6_keep_35 : decode cX6_keep 35 = .ok (.getfield 10, 3) := by decide +kernel
theorem dX6_keep_38 : decode cX6_keep 38 = .ok (.invokevirtual 184, 3) := by decide +kernel
theorem dX6_keep_41 : decode cX6_keep 41 = .ok (.ireturn, 1) := by decide +kernel
set_option maxRecDepth 20000 in
theorem ggX6_back_X6_stateAt : GoodIn wsX6_back wsX6_stateAt := goodIn_r _ [8] (by decide +kernel) (by decide +kernel)
set_option maxRecDepth 20000 in
theorem gX6_back_X6_stateAt : GoodIn wsX6_back (va_wsS RX6 247 yX6_stateAt wsX6_stateAt) := goodIn_app (goodIn_of _ (by decide +kernel)) ggX6_back_X6_stateAt
set_option maxRecDepth 20000 in
theorem ggX6_back_X1_remember : GoodIn wsX6_back wsX1_remember := goodIn_r _ [13, 14, 15, 16, 17, 18, 19, 12, 20, 21, 22, 23, 24, 25, 7, 26, 27, 28, 29, 5, 6, 8, 30, 31, 32, 33, 34, 35, 36, 37, 38, 39, 40, 41, 42, 43, 44, 45, 46, 47, 48, 49, 50, 51, 52, 53, 54, 55, 56, 57, 58, 59, 60, 61, 62, 63, 64, 65, 66, 67, 68, 69, 70, 71, 72, 73, 74, 75, 76, 77, 78, 79, 80, 81, 82, 83, 84, 85, 86, 87, 88, 89, 90, 91, 128, 129, 130, 131, 132, 133, 134, 135, 136, 137, 138, 139, 140, 141, 142, 143, 144, 145, 146, 147] (by decide +kernel) (by decide +kernel)
set_option maxRecDepth 20000 in
theorem gX6_back_X1_remember : GoodIn wsX6_back (wsV RX6 85 RX1 yX1_remember wsX1_remember) := goodIn_app (goodIn_of _ (by decide +kernel)) ggX6_back_X1_remember
set_option maxRecDepth 20000 in
theorem ggX6_back_X3_layOut : GoodIn wsX6_back wsX3_layOut := goodIn_r _ [95, 38, 42, 73, 74, 75, 37, 76, 48, 49, 50, 51, 52, 53, 54, 55, 77, 7, 78, 79, 80, 81, 82, 83, 84, 85, 86, 87, 88, 89, 41, 90, 63, 64, 65, 66, 67, 68, 91, 131, 132, 133, 134, 135, 136, 137, 138, 139, 140, 141, 142, 143, 144, 145, 146, 147] (by decide +kernel) (by decide +kernel)
set_option maxRecDepth 20000 in
theorem gX6_back_X3_layOut : GoodIn wsX6_back (wsV RX6 250 RX3 yX3_layOut wsX3_layOut) := goodIn_app (goodIn_of _ (by decide +kernel)) ggX6_back_X3_layOut
set_option maxRecDepth 20000 in
theorem ggX6_back_X0_recipes : GoodIn wsX6_back wsX0_recipes := goodIn_r _ [99, 100, 101, 102, 37, 103, 104, 105, 106, 107, 48, 108, 7, 109, 110, 111, 112, 113, 114, 115, 116, 133, 134, 135, 136, 137, 138, 139, 140] (by decide +kernel) (by decide +kernel)
set_option maxRecDepth 20000 in
theorem gX6_back_X0_recipes : GoodIn wsX6_back (wsV RX6 184 RX0 yX0_recipes wsX0_recipes) := goodIn_app (goodIn_of _ (by decide +kernel)) ggX6_back_X0_recipes
theorem dX6_back_0 : decode cX6_back 0 = .ok (.iload_n 1, 1) := by decide +kernel
theorem dX6_back_1 : decode cX6_back 1 = .ok (.ifCond .lt 12, 3) := by decide +kernel
theorem dX6_back_4 : decode cX6_back 4 = .ok (.iload_n 1, 1) := by decide +kernel
theorem dX6_back_5 : decode cX6_back 5 = .ok (.aload_n 0, 1) := by decide +kernel
theorem dX6_back_6 : decode cX6_back 6 = .ok (.getfield 42, 3) := by decide +kernel
theorem dX6_back_9 : decode cX6_back 9 = .ok (.arraylength, 1) := by decide +kernel
theorem dX6_back_10 : decode cX6_back 10 = .ok (.if_icmp .lt 5, 3) := by decide +kernel
theorem dX6_back_13 : decode cX6_back 13 = .ok (.iconst (-1), 1) := by decide +kernel
theorem dX6_back_14 : decode cX6_back 14 = .ok (.ireturn, 1) := by decide +kernel
theorem dX6_back_15 : decode cX6_back 15 = .ok (.aload_n 0, 1) := by decide +kernel
theorem dX6_back_16 : decode cX6_back 16 = .ok (.getfield 42, 3) := by decide +kernel
theorem dX6_back_19 : decode cX6_back 19 = .ok (.iload_n 1, 1) := by decide +kernel
theorem dX6_back_20 : decode cX6_back 20 = .ok (.invokestatic 247, 3) := by decide +kernel
theorem dX6_back_23 : decode cX6_back 23 = .ok (.astore_n 2, 1) := by decide +kernel
theorem dX6_back_24 : decode cX6_back 24 = .ok (.aload_n 2, 1) := by decide +kernel
theorem dX6_back_25 : decode cX6_back 25 = .ok (.ifnonnull 6, 3) := by decide +kernel
theorem dX6_back_28 : decode cX6_back 28 = .ok (.bipush (-2), 2) := by decide +kernel
theorem dX6_back_30 : decode cX6_back 30 = .ok (.ireturn, 1) := by decide +kernel
theorem dX6_back_31 : decode cX6_back 31 = .ok (.aload_n 0, 1) := by decide +kernel
theorem dX6_back_32 : decode cX6_back 32 = .ok (.getfield 36, 3) := by decide +kernel
theorem dX6_back_35 : decode cX6_back 35 = .ok (.aload_n 0, 1) := by decide +kernel
theorem dX6_back_36 : decode cX6_back 36 = .ok (.getfield 10, 3) := by decide +kernel
theorem dX6_back_39 : decode cX6_back 39 = .ok (.aload_n 0, 1) := by decide +kernel
theorem dX6_back_40 : decode cX6_back 40 = .ok (.getfield 22, 3) := by decide +kernel
theorem dX6_back_43 : decode cX6_back 43 = .ok (.invokevirtual 85, 3) := by decide +kernel
theorem dX6_back_46 : decode cX6_back 46 = .ok (.aload_n 2, 1) := by decide +kernel
theorem dX6_back_47 : decode cX6_back 47 = .ok (.aload_n 0, 1) := by decide +kernel
theorem dX6_back_48 : decode cX6_back 48 = .ok (.getfield 10, 3) := by decide +kernel
theorem dX6_back_51 : decode cX6_back 51 = .ok (.aload_n 0, 1) := by decide +kernel
theorem dX6_back_52 : decode cX6_back 52 = .ok (.getfield 22, 3) := by decide +kernel
theorem dX6_back_55 : decode cX6_back 55 = .ok (.invokevirtual 250, 3) := by decide +kernel
theorem dX6_back_58 : decode cX6_back 58 = .ok (.aload_n 0, 1) := by decide +kernel
theorem dX6_back_59 : decode cX6_back 59 = .ok (.getfield 10, 3) := by decide +kernel
theorem dX6_back_62 : decode cX6_back 62 = .ok (.invokevirtual 184, 3) := by decide +kernel
theorem dX6_back_65 : decode cX6_back 65 = .ok (.ireturn, 1) := by decide +kernel
set_option maxRecDepth 20000 in
theorem ggX6_acceptWorks_X1_remember : GoodIn wsX6_acceptWorks wsX1_remember := goodIn_r _ [9, 10, 11, 12, 13, 14, 15, 8, 16, 17, 18, 19, 20, 21, 22, 23, 24, 25, 26, 27, 28, 29, 30, 31, 32, 33, 34, 35, 36, 37, 38, 39, 40, 41, 42, 43, 44, 45, 46, 47, 48, 49, 50, 51, 52, 53, 54, 55, 56, 57, 58, 59, 60, 61, 62, 63, 64, 65, 66, 67, 68, 69, 70, 71, 72, 73, 74, 75, 76, 77, 78, 79, 80, 81, 82, 83, 84, 85, 86, 87, 88, 89, 90, 91, 115, 116, 117, 118, 119, 120, 121, 122, 123, 124, 125, 126, 127, 128, 129, 130, 131, 132, 133, 134] (by decide +kernel) (by decide +kernel)
set_option maxRecDepth 20000 in
theorem gX6_acceptWorks_X1_remember : GoodIn wsX6_acceptWorks (wsV RX6 85 RX1 yX1_remember wsX1_remember) := goodIn_app (goodIn_of _ (by decide +kernel)) ggX6_acceptWorks_X1_remember
set_option maxRecDepth 20000 in
theorem ggX6_acceptWorks_X4_copyFrom : GoodIn wsX6_acceptWorks wsX4_copyFrom := goodIn_r _ [90, 63, 64, 65, 66, 67, 68, 91, 77, 22, 78, 79, 80, 81, 82, 83, 84, 85, 86, 128, 129, 130, 131, 132, 133, 134] (by decide +kernel) (by decide +kernel)
set_option maxRecDepth 20000 in
theorem gX6_acceptWorks_X4_copyFrom : GoodIn wsX6_acceptWorks (wsV RX6 253 RX4 yX4_copyFrom wsX4_copyFrom) := goodIn_app (goodIn_of _ (by decide +kernel)) ggX6_acceptWorks_X4_copyFrom
set_option maxRecDepth 20000 in
theorem ggX6_acceptWorks_X5_gathered : GoodIn wsX6_acceptWorks wsX5_gathered := goodIn_r _ [97, 98, 110, 111, 112, 113, 114] (by decide +kernel) (by decide +kernel)
set_option maxRecDepth 20000 in
theorem gX6_acceptWorks_X5_gathered : GoodIn wsX6_acceptWorks (wsV RX6 226 RX5 yX5_gathered wsX5_gathered) := goodIn_app (goodIn_of _ (by decide +kernel)) ggX6_acceptWorks_X5_gathered
theorem dX6_acceptWorks_0 : decode cX6_acceptWorks 0 = .ok (.aload_n 0, 1) := by decide +kernel
theorem dX6_acceptWorks_1 : decode cX6_acceptWorks 1 = .ok (.getfield 36, 3) := by decide +kernel
theorem dX6_acceptWorks_4 : decode cX6_acceptWorks 4 = .ok (.aload_n 0, 1) := by decide +kernel
theorem dX6_acceptWorks_5 : decode cX6_acceptWorks 5 = .ok (.getfield 10, 3) := by decide +kernel
theorem dX6_acceptWorks_8 : decode cX6_acceptWorks 8 = .ok (.aload_n 0, 1) := by decide +kernel
theorem dX6_acceptWorks_9 : decode cX6_acceptWorks 9 = .ok (.getfield 22, 3) := by decide +kernel
theorem dX6_acceptWorks_12 : decode cX6_acceptWorks 12 = .ok (.invokevirtual 85, 3) := by decide +kernel
theorem dX6_acceptWorks_15 : decode cX6_acceptWorks 15 = .ok (.aload_n 0, 1) := by decide +kernel
theorem dX6_acceptWorks_16 : decode cX6_acceptWorks 16 = .ok (.getfield 22, 3) := by decide +kernel
theorem dX6_acceptWorks_19 : decode cX6_acceptWorks 19 = .ok (.aload_n 0, 1) := by decide +kernel
theorem dX6_acceptWorks_20 : decode cX6_acceptWorks 20 = .ok (.getfield 29, 3) := by decide +kernel
theorem dX6_acceptWorks_23 : decode cX6_acceptWorks 23 = .ok (.getfield 228, 3) := by decide +kernel
theorem dX6_acceptWorks_26 : decode cX6_acceptWorks 26 = .ok (.invokevirtual 253, 3) := by decide +kernel
theorem dX6_acceptWorks_29 : decode cX6_acceptWorks 29 = .ok (.aload_n 0, 1) := by decide +kernel
theorem dX6_acceptWorks_30 : decode cX6_acceptWorks 30 = .ok (.getfield 29, 3) := by decide +kernel
theorem dX6_acceptWorks_33 : decode cX6_acceptWorks 33 = .ok (.invokevirtual 226, 3) := by decide +kernel
theorem dX6_acceptWorks_36 : decode cX6_acceptWorks 36 = .ok (.ireturn, 1) := by decide +kernel
theorem dX6_isThing_0 : decode cX6_isThing 0 = .ok (.iload_n 0, 1) := by decide +kernel
theorem dX6_isThing_1 : decode cX6_isThing 1 = .ok (.ifCond .lt 13, 3) := by decide +kernel
theorem dX6_isThing_4 : decode cX6_isThing 4 = .ok (.iload_n 0, 1) := by decide +kernel
theorem dX6_isThing_5 : decode cX6_isThing 5 = .ok (.bipush 20, 2) := by decide +kernel
theorem dX6_isThing_7 : decode cX6_isThing 7 = .ok (.if_icmp .ge 7, 3) := by decide +kernel
theorem dX6_isThing_10 : decode cX6_isThing 10 = .ok (.iconst 1, 1) := by decide +kernel
theorem dX6_isThing_11 : decode cX6_isThing 11 = .ok (.goto 4, 3) := by decide +kernel
theorem dX6_isThing_14 : decode cX6_isThing 14 = .ok (.iconst 0, 1) := by decide +kernel
theorem dX6_isThing_15 : decode cX6_isThing 15 = .ok (.ireturn, 1) := by decide +kernel
theorem dX6_isWished_0 : decode cX6_isWished 0 = .ok (.iload_n 0, 1) := by decide +kernel
theorem dX6_isWished_1 : decode cX6_isWished 1 = .ok (.iconst 1, 1) := by decide +kernel
theorem dX6_isWished_2 : decode cX6_isWished 2 = .ok (.if_icmp .lt 14, 3) := by decide +kernel
theorem dX6_isWished_5 : decode cX6_isWished 5 = .ok (.iload_n 0, 1) := by decide +kernel
theorem dX6_isWished_6 : decode cX6_isWished 6 = .ok (.sipush 999, 3) := by decide +kernel
theorem dX6_isWished_9 : decode cX6_isWished 9 = .ok (.if_icmp .gt 7, 3) := by decide +kernel
theorem dX6_isWished_12 : decode cX6_isWished 12 = .ok (.iconst 1, 1) := by decide +kernel
theorem dX6_isWished_13 : decode cX6_isWished 13 = .ok (.goto 4, 3) := by decide +kernel
theorem dX6_isWished_16 : decode cX6_isWished 16 = .ok (.iconst 0, 1) := by decide +kernel
theorem dX6_isWished_17 : decode cX6_isWished 17 = .ok (.ireturn, 1) := by decide +kernel
theorem dX6_hasBit_0 : decode cX6_hasBit 0 = .ok (.iload_n 0, 1) := by decide +kernel
theorem dX6_hasBit_1 : decode cX6_hasBit 1 = .ok (.iload_n 1, 1) := by decide +kernel
theorem dX6_hasBit_2 : decode cX6_hasBit 2 = .ok (.ishr, 1) := by decide +kernel
theorem dX6_hasBit_3 : decode cX6_hasBit 3 = .ok (.iconst 1, 1) := by decide +kernel
theorem dX6_hasBit_4 : decode cX6_hasBit 4 = .ok (.iand, 1) := by decide +kernel
theorem dX6_hasBit_5 : decode cX6_hasBit 5 = .ok (.ifCond .eq 7, 3) := by decide +kernel
theorem dX6_hasBit_8 : decode cX6_hasBit 8 = .ok (.iconst 1, 1) := by decide +kernel
theorem dX6_hasBit_9 : decode cX6_hasBit 9 = .ok (.goto 4, 3) := by decide +kernel
theorem dX6_hasBit_12 : decode cX6_hasBit 12 = .ok (.iconst 0, 1) := by decide +kernel
theorem dX6_hasBit_13 : decode cX6_hasBit 13 = .ok (.ireturn, 1) := by decide +kernel
theorem dX6_divideUp_0 : decode cX6_divideUp 0 = .ok (.iload_n 1, 1) := by decide +kernel
theorem dX6_divideUp_1 : decode cX6_divideUp 1 = .ok (.iconst 1, 1) := by decide +kernel
theorem dX6_divideUp_2 : decode cX6_divideUp 2 = .ok (.if_icmp .ge 7, 3) := by decide +kernel
theorem dX6_divideUp_5 : decode cX6_divideUp 5 = .ok (.iconst 0, 1) := by decide +kernel
theorem dX6_divideUp_6 : decode cX6_divideUp 6 = .ok (.goto 10, 3) := by decide +kernel
theorem dX6_divideUp_9 : decode cX6_divideUp 9 = .ok (.iload_n 0, 1) := by decide +kernel
theorem dX6_divideUp_10 : decode cX6_divideUp 10 = .ok (.iload_n 1, 1) := by decide +kernel
theorem dX6_divideUp_11 : decode cX6_divideUp 11 = .ok (.iadd, 1) := by decide +kernel
theorem dX6_divideUp_12 : decode cX6_divideUp 12 = .ok (.iconst 1, 1) := by decide +kernel
theorem dX6_divideUp_13 : decode cX6_divideUp 13 = .ok (.isub, 1) := by decide +kernel
theorem dX6_divideUp_14 : decode cX6_divideUp 14 = .ok (.iload_n 1, 1) := by decide +kernel
theorem dX6_divideUp_15 : decode cX6_divideUp 15 = .ok (.idiv, 1) := by decide +kernel
theorem dX6_divideUp_16 : decode cX6_divideUp 16 = .ok (.ireturn, 1) := by decide +kernel
theorem dX6_at_0 : decode cX6_at 0 = .ok (.iload_n 1, 1) := by decide +kernel
theorem dX6_at_1 : decode cX6_at 1 = .ok (.ifCond .lt 15, 3) := by decide +kernel
theorem dX6_at_4 : decode cX6_at 4 = .ok (.iload_n 1, 1) := by decide +kernel
theorem dX6_at_5 : decode cX6_at 5 = .ok (.aload_n 0, 1) := by decide +kernel
theorem dX6_at_6 : decode cX6_at 6 = .ok (.arraylength, 1) := by decide +kernel
theorem dX6_at_7 : decode cX6_at 7 = .ok (.if_icmp .ge 9, 3) := by decide +kernel
theorem dX6_at_10 : decode cX6_at 10 = .ok (.aload_n 0, 1) := by decide +kernel
theorem dX6_at_11 : decode cX6_at 11 = .ok (.iload_n 1, 1) := by decide +kernel
theorem dX6_at_12 : decode cX6_at 12 = .ok (.iaload, 1) := by decide +kernel
theorem dX6_at_13 : decode cX6_at 13 = .ok (.goto 4, 3) := by decide +kernel
theorem dX6_at_16 : decode cX6_at 16 = .ok (.iconst 0, 1) := by decide +kernel
theorem dX6_at_17 : decode cX6_at 17 = .ok (.ireturn, 1) := by decide +kernel
theorem dX6_put_0 : decode cX6_put 0 = .ok (.iload_n 1, 1) := by decide +kernel
theorem dX6_put_1 : decode cX6_put 1 = .ok (.ifCond .lt 13, 3) := by decide +kernel
theorem dX6_put_4 : decode cX6_put 4 = .ok (.iload_n 1, 1) := by decide +kernel
theorem dX6_put_5 : decode cX6_put 5 = .ok (.aload_n 0, 1) := by decide +kernel
theorem dX6_put_6 : decode cX6_put 6 = .ok (.arraylength, 1) := by decide +kernel
theorem dX6_put_7 : decode cX6_put 7 = .ok (.if_icmp .ge 7, 3) := by decide +kernel
theorem dX6_put_10 : decode cX6_put 10 = .ok (.aload_n 0, 1) := by decide +kernel
theorem dX6_put_11 : decode cX6_put 11 = .ok (.iload_n 1, 1) := by decide +kernel
theorem dX6_put_12 : decode cX6_put 12 = .ok (.iload_n 2, 1) := by decide +kernel
theorem dX6_put_13 : decode cX6_put 13 = .ok (.iastore, 1) := by decide +kernel
theorem dX6_put_14 : decode cX6_put 14 = .ok (.return_, 1) := by decide +kernel
theorem dX6_add_0 : decode cX6_add 0 = .ok (.iload_n 1, 1) := by decide +kernel
theorem dX6_add_1 : decode cX6_add 1 = .ok (.ifCond .lt 16, 3) := by decide +kernel
theorem dX6_add_4 : decode cX6_add 4 = .ok (.iload_n 1, 1) := by decide +kernel
theorem dX6_add_5 : decode cX6_add 5 = .ok (.aload_n 0, 1) := by decide +kernel
theorem dX6_add_6 : decode cX6_add 6 = .ok (.arraylength, 1) := by decide +kernel
theorem dX6_add_7 : decode cX6_add 7 = .ok (.if_icmp .ge 10, 3) := by decide +kernel
theorem dX6_add_10 : decode cX6_add 10 = .ok (.aload_n 0, 1) := by decide +kernel
theorem dX6_add_11 : decode cX6_add 11 = .ok (.iload_n 1, 1) := by decide +kernel
theorem dX6_add_12 : decode cX6_add 12 = .ok (.dup2, 1) := by decide +kernel
theorem dX6_add_13 : decode cX6_add 13 = .ok (.iaload, 1) := by decide +kernel
theorem dX6_add_14 : decode cX6_add 14 = .ok (.iload_n 2, 1) := by decide +kernel
theorem dX6_add_15 : decode cX6_add 15 = .ok (.iadd, 1) := by decide +kernel
theorem dX6_add_16 : decode cX6_add 16 = .ok (.iastore, 1) := by decide +kernel
theorem dX6_add_17 : decode cX6_add 17 = .ok (.return_, 1) := by decide +kernel
theorem dX6_sum_0 : decode cX6_sum 0 = .ok (.iconst 0, 1) := by decide +kernel
theorem dX6_sum_1 : decode cX6_sum 1 = .ok (.istore_n 1, 1) := by decide +kernel
theorem dX6_sum_2 : decode cX6_sum 2 = .ok (.iconst 0, 1) := by decide +kernel
theorem dX6_sum_3 : decode cX6_sum 3 = .ok (.istore_n 2, 1) := by decide +kernel
theorem dX6_sum_4 : decode cX6_sum 4 = .ok (.iload_n 2, 1) := by decide +kernel
theorem dX6_sum_5 : decode cX6_sum 5 = .ok (.aload_n 0, 1) := by decide +kernel
theorem dX6_sum_6 : decode cX6_sum 6 = .ok (.arraylength, 1) := by decide +kernel
theorem dX6_sum_7 : decode cX6_sum 7 = .ok (.if_icmp .ge 15, 3) := by decide +kernel
theorem dX6_sum_10 : decode cX6_sum 10 = .ok (.iload_n 1, 1) := by decide +kernel
theorem dX6_sum_11 : decode cX6_sum 11 = .ok (.aload_n 0, 1) := by decide +kernel
theorem dX6_sum_12 : decode cX6_sum 12 = .ok (.iload_n 2, 1) := by decide +kernel
theorem dX6_sum_13 : decode cX6_sum 13 = .ok (.iaload, 1) := by decide +kernel
theorem dX6_sum_14 : decode cX6_sum 14 = .ok (.iadd, 1) := by decide +kernel
theorem dX6_sum_15 : decode cX6_sum 15 = .ok (.istore_n 1, 1) := by decide +kernel
theorem dX6_sum_16 : decode cX6_sum 16 = .ok (.iinc 2 1, 3) := by decide +kernel
theorem dX6_sum_19 : decode cX6_sum 19 = .ok (.goto (-15), 3) := by decide +kernel
theorem dX6_sum_22 : decode cX6_sum 22 = .ok (.iload_n 1, 1) := by decide +kernel
theorem dX6_sum_23 : decode cX6_sum 23 = .ok (.ireturn, 1) := by decide +kernel
theorem dX6_stateAt_0 : decode cX6_stateAt 0 = .ok (.iload_n 1, 1) := by decide +kernel
theorem dX6_stateAt_1 : decode cX6_stateAt 1 = .ok (.ifCond .lt 15, 3) := by decide +kernel
theorem dX6_stateAt_4 : decode cX6_stateAt 4 = .ok (.iload_n 1, 1) := by decide +kernel
theorem dX6_stateAt_5 : decode cX6_stateAt 5 = .ok (.aload_n 0, 1) := by decide +kernel
theorem dX6_stateAt_6 : decode cX6_stateAt 6 = .ok (.arraylength, 1) := by decide +kernel
theorem dX6_stateAt_7 : decode cX6_stateAt 7 = .ok (.if_icmp .ge 9, 3) := by decide +kernel
theorem dX6_stateAt_10 : decode cX6_stateAt 10 = .ok (.aload_n 0, 1) := by decide +kernel
theorem dX6_stateAt_11 : decode cX6_stateAt 11 = .ok (.iload_n 1, 1) := by decide +kernel
theorem dX6_stateAt_12 : decode cX6_stateAt 12 = .ok (.aaload, 1) := by decide +kernel
theorem dX6_stateAt_13 : decode cX6_stateAt 13 = .ok (.goto 4, 3) := by decide +kernel
theorem dX6_stateAt_16 : decode cX6_stateAt 16 = .ok (.aconst_null, 1) := by decide +kernel
theorem dX6_stateAt_17 : decode cX6_stateAt 17 = .ok (.areturn, 1) := by decide +kernel
set_option maxRecDepth 20000 in
theorem ggX6_roomAt_X6_stateAt : GoodIn wsX6_roomAt wsX6_stateAt := goodIn_r _ [7] (by decide +kernel) (by decide +kernel)
set_option maxRecDepth 20000 in
theorem gX6_roomAt_X6_stateAt : GoodIn wsX6_roomAt (va_wsS RX6 247 yX6_stateAt wsX6_stateAt) := goodIn_app (goodIn_of _ (by decide +kernel)) ggX6_roomAt_X6_stateAt
set_option maxRecDepth 20000 in
theorem ggX6_roomAt_X3_init : GoodIn wsX6_roomAt wsX3_init := goodIn_r _ [9, 10, 11, 12, 13, 14, 15, 16, 17, 18, 19, 20, 21, 22, 23, 24, 25, 26, 27, 28, 29, 30, 31, 32, 33, 34, 35, 36, 37, 38, 39, 40, 41, 42, 43, 44, 45, 46, 49, 50, 51, 52, 53, 54, 55, 56, 47, 48, 57, 58, 59, 60, 61, 62, 63] (by decide +kernel) (by decide +kernel)
set_option maxRecDepth 20000 in
theorem gX6_roomAt_X3_init_n256 : GoodIn wsX6_roomAt (wsX3_init) := ggX6_roomAt_X3_init
theorem dX6_roomAt_0 : decode cX6_roomAt 0 = .ok (.aload_n 0, 1) := by decide +kernel
theorem dX6_roomAt_1 : decode cX6_roomAt 1 = .ok (.iload_n 1, 1) := by decide +kernel
theorem dX6_roomAt_2 : decode cX6_roomAt 2 = .ok (.invokestatic 247, 3) := by decide +kernel
theorem dX6_roomAt_5 : decode cX6_roomAt 5 = .ok (.astore_n 2, 1) := by decide +kernel
theorem dX6_roomAt_6 : decode cX6_roomAt 6 = .ok (.aload_n 2, 1) := by decide +kernel
theorem dX6_roomAt_7 : decode cX6_roomAt 7 = .ok (.ifnull 5, 3) := by decide +kernel
theorem dX6_roomAt_10 : decode cX6_roomAt 10 = .ok (.aload_n 2, 1) := by decide +kernel
theorem dX6_roomAt_11 : decode cX6_roomAt 11 = .ok (.areturn, 1) := by decide +kernel
theorem dX6_roomAt_12 : decode cX6_roomAt 12 = .ok (.new 40, 3) := by decide +kernel
theorem dX6_roomAt_15 : decode cX6_roomAt 15 = .ok (.dup, 1) := by decide +kernel
theorem dX6_roomAt_16 : decode cX6_roomAt 16 = .ok (.invokespecial 256, 3) := by decide +kernel
theorem dX6_roomAt_19 : decode cX6_roomAt 19 = .ok (.astore_n 3, 1) := by decide +kernel
theorem dX6_roomAt_20 : decode cX6_roomAt 20 = .ok (.iload_n 1, 1) := by decide +kernel
theorem dX6_roomAt_21 : decode cX6_roomAt 21 = .ok (.ifCond .lt 13, 3) := by decide +kernel
theorem dX6_roomAt_24 : decode cX6_roomAt 24 = .ok (.iload_n 1, 1) := by decide +kernel
theorem dX6_roomAt_25 : decode cX6_roomAt 25 = .ok (.aload_n 0, 1) := by decide +kernel
theorem dX6_roomAt_26 : decode cX6_roomAt 26 = .ok (.arraylength, 1) := by decide +kernel
theorem dX6_roomAt_27 : decode cX6_roomAt 27 = .ok (.if_icmp .ge 7, 3) := by decide +kernel
theorem dX6_roomAt_30 : decode cX6_roomAt 30 = .ok (.aload_n 0, 1) := by decide +kernel
theorem dX6_roomAt_31 : decode cX6_roomAt 31 = .ok (.iload_n 1, 1) := by decide +kernel
theorem dX6_roomAt_32 : decode cX6_roomAt 32 = .ok (.aload_n 3, 1) := by decide +kernel
theorem dX6_roomAt_33 : decode cX6_roomAt 33 = .ok (.aastore, 1) := by decide +kernel
theorem dX6_roomAt_34 : decode cX6_roomAt 34 = .ok (.aload_n 3, 1) := by decide +kernel
theorem dX6_roomAt_35 : decode cX6_roomAt 35 = .ok (.areturn, 1) := by decide +kernel
theorem dX6_copy_0 : decode cX6_copy 0 = .ok (.aload_n 0, 1) := by decide +kernel
theorem dX6_copy_1 : decode cX6_copy 1 = .ok (.iconst 0, 1) := by decide +kernel
theorem dX6_copy_2 : decode cX6_copy 2 = .ok (.aload_n 1, 1) := by decide +kernel
theorem dX6_copy_3 : decode cX6_copy 3 = .ok (.iconst 0, 1) := by decide +kernel
theorem dX6_copy_4 : decode cX6_copy 4 = .ok (.aload_n 0, 1) := by decide +kernel
theorem dX6_copy_5 : decode cX6_copy 5 = .ok (.arraylength, 1) := by decide +kernel
theorem dX6_copy_6 : decode cX6_copy 6 = .ok (.aload_n 1, 1) := by decide +kernel
theorem dX6_copy_7 : decode cX6_copy 7 = .ok (.arraylength, 1) := by decide +kernel
theorem dX6_copy_8 : decode cX6_copy 8 = .ok (.invokestatic 231, 3) := by decide +kernel
theorem dX6_copy_11 : decode cX6_copy 11 = .ok (.invokestatic 257, 3) := by decide +kernel
theorem dX6_copy_14 : decode cX6_copy 14 = .ok (.return_, 1) := by decide +kernel

