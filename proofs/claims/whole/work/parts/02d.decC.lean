set_option maxRecDepth 20000 in
theorem ggX7_init_X7_put : GoodIn wsX7_init wsX7_put := goodIn_r _ [24, 5, 25, 26, 27, 28, 29, 30, 31, 32, 33, 34, 35, 36, 37, 38, 39, 40, 41, 42, 43, 44, 45, 46, 47, 48, 49, 50, 51, 52, 53] (by decide +kernel) (by decide +kernel)
set_option maxRecDepth 20000 in
theorem gX7_init_X7_put : GoodIn wsX7_init (wsV RX7 54 RX7 yX7_put wsX7_put) := goodIn_app (goodIn_of _ (by decide +kernel)) ggX7_init_X7_put
theorem dX7_init_0 : decode cX7_init 0 = .ok (.aload_n 0, 1) := by decide +kernel
theorem dX7_init_1 : decode cX7_init 1 = .ok (.invokespecial 1, 3) := by decide +kernel
theorem dX7_init_4 : decode cX7_init 4 = .ok (.aload_n 0, 1) := by decide +kernel
theorem dX7_init_5 : decode cX7_init 5 = .ok (.sipush 462, 3) := by decide +kernel
theorem dX7_init_8 : decode cX7_init 8 = .ok (.newarray .int, 2) := by decide +kernel
theorem dX7_init_10 : decode cX7_init 10 = .ok (.putfield 7, 3) := by decide +kernel
theorem dX7_init_13 : decode cX7_init 13 = .ok (.aload_n 0, 1) := by decide +kernel
theorem dX7_init_14 : decode cX7_init 14 = .ok (.sipush 3696, 3) := by decide +kernel
theorem dX7_init_17 : decode cX7_init 17 = .ok (.newarray .int, 2) := by decide +kernel
theorem dX7_init_19 : decode cX7_init 19 = .ok (.putfield 13, 3) := by decide +kernel
theorem dX7_init_22 : decode cX7_init 22 = .ok (.aload_n 0, 1) := by decide +kernel
theorem dX7_init_23 : decode cX7_init 23 = .ok (.sipush 924, 3) := by decide +kernel
theorem dX7_init_26 : decode cX7_init 26 = .ok (.newarray .int, 2) := by decide +kernel
theorem dX7_init_28 : decode cX7_init 28 = .ok (.putfield 16, 3) := by decide +kernel
theorem dX7_init_31 : decode cX7_init 31 = .ok (.aload_n 0, 1) := by decide +kernel
theorem dX7_init_32 : decode cX7_init 32 = .ok (.bipush 60, 2) := by decide +kernel
theorem dX7_init_34 : decode cX7_init 34 = .ok (.newarray .int, 2) := by decide +kernel
theorem dX7_init_36 : decode cX7_init 36 = .ok (.putfield 19, 3) := by decide +kernel
theorem dX7_init_39 : decode cX7_init 39 = .ok (.aload_n 0, 1) := by decide +kernel
theorem dX7_init_40 : decode cX7_init 40 = .ok (.bipush (-9), 2) := by decide +kernel
theorem dX7_init_42 : decode cX7_init 42 = .ok (.putfield 22, 3) := by decide +kernel
theorem dX7_init_45 : decode cX7_init 45 = .ok (.aload_n 0, 1) := by decide +kernel
theorem dX7_init_46 : decode cX7_init 46 = .ok (.bipush (-9), 2) := by decide +kernel
theorem dX7_init_48 : decode cX7_init 48 = .ok (.putfield 26, 3) := by decide +kernel
theorem dX7_init_51 : decode cX7_init 51 = .ok (.aload_n 0, 1) := by decide +kernel
theorem dX7_init_52 : decode cX7_init 52 = .ok (.bipush 20, 2) := by decide +kernel
theorem dX7_init_54 : decode cX7_init 54 = .ok (.newarray .int, 2) := by decide +kernel
theorem dX7_init_56 : decode cX7_init 56 = .ok (.putfield 29, 3) := by decide +kernel
theorem dX7_init_59 : decode cX7_init 59 = .ok (.aload_n 0, 1) := by decide +kernel
theorem dX7_init_60 : decode cX7_init 60 = .ok (.bipush 16, 2) := by decide +kernel
theorem dX7_init_62 : decode cX7_init 62 = .ok (.newarray .int, 2) := by decide +kernel
theorem dX7_init_64 : decode cX7_init 64 = .ok (.putfield 32, 3) := by decide +kernel
theorem dX7_init_67 : decode cX7_init 67 = .ok (.aload_n 0, 1) := by decide +kernel
theorem dX7_init_68 : decode cX7_init 68 = .ok (.bipush 16, 2) := by decide +kernel
theorem dX7_init_70 : decode cX7_init 70 = .ok (.newarray .int, 2) := by decide +kernel
theorem dX7_init_72 : decode cX7_init 72 = .ok (.putfield 35, 3) := by decide +kernel
theorem dX7_init_75 : decode cX7_init 75 = .ok (.aload_n 0, 1) := by decide +kernel
theorem dX7_init_76 : decode cX7_init 76 = .ok (.bipush 16, 2) := by decide +kernel
theorem dX7_init_78 : decode cX7_init 78 = .ok (.newarray .int, 2) := by decide +kernel
theorem dX7_init_80 : decode cX7_init 80 = .ok (.putfield 38, 3) := by decide +kernel
theorem dX7_init_83 : decode cX7_init 83 = .ok (.aload_n 0, 1) := by decide +kernel
theorem dX7_init_84 : decode cX7_init 84 = .ok (.bipush 16, 2) := by decide +kernel
theorem dX7_init_86 : decode cX7_init 86 = .ok (.newarray .int, 2) := by decide +kernel
theorem dX7_init_88 : decode cX7_init 88 = .ok (.putfield 41, 3) := by decide +kernel
theorem dX7_init_91 : decode cX7_init 91 = .ok (.aload_n 0, 1) := by decide +kernel
theorem dX7_init_92 : decode cX7_init 92 = .ok (.sipush 462, 3) := by decide +kernel
theorem dX7_init_95 : decode cX7_init 95 = .ok (.newarray .int, 2) := by decide +kernel
theorem dX7_init_97 : decode cX7_init 97 = .ok (.putfield 44, 3) := by decide +kernel
theorem dX7_init_100 : decode cX7_init 100 = .ok (.aload_n 0, 1) := by decide +kernel
theorem dX7_init_101 : decode cX7_init 101 = .ok (.bipush 10, 2) := by decide +kernel
theorem dX7_init_103 : decode cX7_init 103 = .ok (.newarray .int, 2) := by decide +kernel
theorem dX7_init_105 : decode cX7_init 105 = .ok (.putfield 47, 3) := by decide +kernel
theorem dX7_init_108 : decode cX7_init 108 = .ok (.aload_n 0, 1) := by decide +kernel
theorem dX7_init_109 : decode cX7_init 109 = .ok (.bipush 20, 2) := by decide +kernel
theorem dX7_init_111 : decode cX7_init 111 = .ok (.newarray .boolean, 2) := by decide +kernel
theorem dX7_init_113 : decode cX7_init 113 = .ok (.putfield 50, 3) := by decide +kernel
theorem dX7_init_116 : decode cX7_init 116 = .ok (.iconst 0, 1) := by decide +kernel
theorem dX7_init_117 : decode cX7_init 117 = .ok (.istore_n 1, 1) := by decide +kernel
theorem dX7_init_118 : decode cX7_init 118 = .ok (.iload_n 1, 1) := by decide +kernel
theorem dX7_init_119 : decode cX7_init 119 = .ok (.bipush 20, 2) := by decide +kernel
theorem dX7_init_121 : decode cX7_init 121 = .ok (.if_icmp .ge 17, 3) := by decide +kernel
theorem dX7_init_124 : decode cX7_init 124 = .ok (.aload_n 0, 1) := by decide +kernel
theorem dX7_init_125 : decode cX7_init 125 = .ok (.iload_n 1, 1) := by decide +kernel
theorem dX7_init_126 : decode cX7_init 126 = .ok (.iconst 1, 1) := by decide +kernel
theorem dX7_init_127 : decode cX7_init 127 = .ok (.bipush (-9), 2) := by decide +kernel
theorem dX7_init_129 : decode cX7_init 129 = .ok (.invokevirtual 54, 3) := by decide +kernel
theorem dX7_init_132 : decode cX7_init 132 = .ok (.iinc 1 1, 3) := by decide +kernel
theorem dX7_init_135 : decode cX7_init 135 = .ok (.goto (-17), 3) := by decide +kernel
theorem dX7_init_138 : decode cX7_init 138 = .ok (.return_, 1) := by decide +kernel
theorem dX7_isIn_0 : decode cX7_isIn 0 = .ok (.iload_n 0, 1) := by decide +kernel
theorem dX7_isIn_1 : decode cX7_isIn 1 = .ok (.iload_n 1, 1) := by decide +kernel
theorem dX7_isIn_2 : decode cX7_isIn 2 = .ok (.if_icmp .lt 12, 3) := by decide +kernel
theorem dX7_isIn_5 : decode cX7_isIn 5 = .ok (.iload_n 0, 1) := by decide +kernel
theorem dX7_isIn_6 : decode cX7_isIn 6 = .ok (.iload_n 2, 1) := by decide +kernel
theorem dX7_isIn_7 : decode cX7_isIn 7 = .ok (.if_icmp .gt 7, 3) := by decide +kernel
theorem dX7_isIn_10 : decode cX7_isIn 10 = .ok (.iconst 1, 1) := by decide +kernel
theorem dX7_isIn_11 : decode cX7_isIn 11 = .ok (.goto 4, 3) := by decide +kernel
theorem dX7_isIn_14 : decode cX7_isIn 14 = .ok (.iconst 0, 1) := by decide +kernel
theorem dX7_isIn_15 : decode cX7_isIn 15 = .ok (.ireturn, 1) := by decide +kernel
theorem dX7_remember_0 : decode cX7_remember 0 = .ok (.aload_n 0, 1) := by decide +kernel
theorem dX7_remember_1 : decode cX7_remember 1 = .ok (.getfield 58, 3) := by decide +kernel
theorem dX7_remember_4 : decode cX7_remember 4 = .ok (.bipush 8, 2) := by decide +kernel
theorem dX7_remember_6 : decode cX7_remember 6 = .ok (.if_icmp .ne 44, 3) := by decide +kernel
theorem dX7_remember_9 : decode cX7_remember 9 = .ok (.iconst 0, 1) := by decide +kernel
theorem dX7_remember_10 : decode cX7_remember 10 = .ok (.istore_n 1, 1) := by decide +kernel
theorem dX7_remember_11 : decode cX7_remember 11 = .ok (.iload_n 1, 1) := by decide +kernel
theorem dX7_remember_12 : decode cX7_remember 12 = .ok (.sipush 3234, 3) := by decide +kernel
theorem dX7_remember_15 : decode cX7_remember 15 = .ok (.if_icmp .ge 25, 3) := by decide +kernel
theorem dX7_remember_18 : decode cX7_remember 18 = .ok (.aload_n 0, 1) := by decide +kernel
theorem dX7_remember_19 : decode cX7_remember 19 = .ok (.getfield 13, 3) := by decide +kernel
theorem dX7_remember_22 : decode cX7_remember 22 = .ok (.iload_n 1, 1) := by decide +kernel
theorem dX7_remember_23 : decode cX7_remember 23 = .ok (.aload_n 0, 1) := by decide +kernel
theorem dX7_remember_24 : decode cX7_remember 24 = .ok (.getfield 13, 3) := by decide +kernel
theorem dX7_remember_27 : decode cX7_remember 27 = .ok (.iload_n 1, 1) := by decide +kernel
theorem dX7_remember_28 : decode cX7_remember 28 = .ok (.sipush 462, 3) := by decide +kernel
theorem dX7_remember_31 : decode cX7_remember 31 = .ok (.iadd, 1) := by decide +kernel
theorem dX7_remember_32 : decode cX7_remember 32 = .ok (.iaload, 1) := by decide +kernel
theorem dX7_remember_33 : decode cX7_remember 33 = .ok (.iastore, 1) := by decide +kernel
theorem dX7_remember_34 : decode cX7_remember 34 = .ok (.iinc 1 1, 3) := by decide +kernel
theorem dX7_remember_37 : decode cX7_remember 37 = .ok (.goto (-26), 3) := by decide +kernel
theorem dX7_remember_40 : decode cX7_remember 40 = .ok (.aload_n 0, 1) := by decide +kernel
theorem dX7_remember_41 : decode cX7_remember 41 = .ok (.dup, 1) := by decide +kernel
theorem dX7_remember_42 : decode cX7_remember 42 = .ok (.getfield 58, 3) := by decide +kernel
theorem dX7_remember_45 : decode cX7_remember 45 = .ok (.iconst 1, 1) := by decide +kernel
theorem dX7_remember_46 : decode cX7_remember 46 = .ok (.isub, 1) := by decide +kernel
theorem dX7_remember_47 : decode cX7_remember 47 = .ok (.putfield 58, 3) := by decide +kernel
theorem dX7_remember_50 : decode cX7_remember 50 = .ok (.iconst 0, 1) := by decide +kernel
theorem dX7_remember_51 : decode cX7_remember 51 = .ok (.istore_n 1, 1) := by decide +kernel
theorem dX7_remember_52 : decode cX7_remember 52 = .ok (.iload_n 1, 1) := by decide +kernel
theorem dX7_remember_53 : decode cX7_remember 53 = .ok (.sipush 462, 3) := by decide +kernel
theorem dX7_remember_56 : decode cX7_remember 56 = .ok (.if_icmp .ge 30, 3) := by decide +kernel
theorem dX7_remember_59 : decode cX7_remember 59 = .ok (.aload_n 0, 1) := by decide +kernel
theorem dX7_remember_60 : decode cX7_remember 60 = .ok (.getfield 13, 3) := by decide +kernel
theorem dX7_remember_63 : decode cX7_remember 63 = .ok (.sipush 462, 3) := by decide +kernel
theorem dX7_remember_66 : decode cX7_remember 66 = .ok (.aload_n 0, 1) := by decide +kernel
theorem dX7_remember_67 : decode cX7_remember 67 = .ok (.getfield 58, 3) := by decide +kernel
theorem dX7_remember_70 : decode cX7_remember 70 = .ok (.imul, 1) := by decide +kernel
theorem dX7_remember_71 : decode cX7_remember 71 = .ok (.iload_n 1, 1) := by decide +kernel
theorem dX7_remember_72 : decode cX7_remember 72 = .ok (.iadd, 1) := by decide +kernel
theorem dX7_remember_73 : decode cX7_remember 73 = .ok (.aload_n 0, 1) := by decide +kernel
theorem dX7_remember_74 : decode cX7_remember 74 = .ok (.getfield 7, 3) := by decide +kernel
theorem dX7_remember_77 : decode cX7_remember 77 = .ok (.iload_n 1, 1) := by decide +kernel
theorem dX7_remember_78 : decode cX7_remember 78 = .ok (.iaload, 1) := by decide +kernel
theorem dX7_remember_79 : decode cX7_remember 79 = .ok (.iastore, 1) := by decide +kernel
theorem dX7_remember_80 : decode cX7_remember 80 = .ok (.iinc 1 1, 3) := by decide +kernel
theorem dX7_remember_83 : decode cX7_remember 83 = .ok (.goto (-31), 3) := by decide +kernel
theorem dX7_remember_86 : decode cX7_remember 86 = .ok (.aload_n 0, 1) := by decide +kernel
theorem dX7_remember_87 : decode cX7_remember 87 = .ok (.dup, 1) := by decide +kernel
theorem dX7_remember_88 : decode cX7_remember 88 = .ok (.getfield 58, 3) := by decide +kernel
theorem dX7_remember_91 : decode cX7_remember 91 = .ok (.iconst 1, 1) := by decide +kernel
theorem dX7_remember_92 : decode cX7_remember 92 = .ok (.iadd, 1) := by decide +kernel
theorem dX7_remember_93 : decode cX7_remember 93 = .ok (.putfield 58, 3) := by decide +kernel
theorem dX7_remember_96 : decode cX7_remember 96 = .ok (.return_, 1) := by decide +kernel
theorem dX7_of_0 : decode cX7_of 0 = .ok (.aload_n 0, 1) := by decide +kernel
theorem dX7_of_1 : decode cX7_of 1 = .ok (.getfield 7, 3) := by decide +kernel
theorem dX7_of_4 : decode cX7_of 4 = .ok (.bipush 23, 2) := by decide +kernel
theorem dX7_of_6 : decode cX7_of 6 = .ok (.iload_n 1, 1) := by decide +kernel
theorem dX7_of_7 : decode cX7_of 7 = .ok (.imul, 1) := by decide +kernel
theorem dX7_of_8 : decode cX7_of 8 = .ok (.iload_n 2, 1) := by decide +kernel
theorem dX7_of_9 : decode cX7_of 9 = .ok (.iadd, 1) := by decide +kernel
theorem dX7_of_10 : decode cX7_of 10 = .ok (.iaload, 1) := by decide +kernel
theorem dX7_of_11 : decode cX7_of 11 = .ok (.ireturn, 1) := by decide +kernel
theorem dX7_put_0 : decode cX7_put 0 = .ok (.aload_n 0, 1) := by decide +kernel
theorem dX7_put_1 : decode cX7_put 1 = .ok (.getfield 7, 3) := by decide +kernel
theorem dX7_put_4 : decode cX7_put 4 = .ok (.bipush 23, 2) := by decide +kernel
theorem dX7_put_6 : decode cX7_put 6 = .ok (.iload_n 1, 1) := by decide +kernel
theorem dX7_put_7 : decode cX7_put 7 = .ok (.imul, 1) := by decide +kernel
theorem dX7_put_8 : decode cX7_put 8 = .ok (.iload_n 2, 1) := by decide +kernel
theorem dX7_put_9 : decode cX7_put 9 = .ok (.iadd, 1) := by decide +kernel
theorem dX7_put_10 : decode cX7_put 10 = .ok (.iload_n 3, 1) := by decide +kernel
theorem dX7_put_11 : decode cX7_put 11 = .ok (.iastore, 1) := by decide +kernel
theorem dX7_put_12 : decode cX7_put 12 = .ok (.return_, 1) := by decide +kernel
set_option maxRecDepth 20000 in
theorem ggX7_isThing_X7_isIn : GoodIn wsX7_isThing wsX7_isIn := goodIn_r _ [4] (by decide +kernel) (by decide +kernel)
set_option maxRecDepth 20000 in
theorem gX7_isThing_X7_isIn : GoodIn wsX7_isThing (va_wsS RX7 61 yX7_isIn wsX7_isIn) := goodIn_app (goodIn_of _ (by decide +kernel)) ggX7_isThing_X7_isIn
theorem dX7_isThing_0 : decode cX7_isThing 0 = .ok (.iload_n 0, 1) := by decide +kernel
theorem dX7_isThing_1 : decode cX7_isThing 1 = .ok (.iconst 0, 1) := by decide +kernel
theorem dX7_isThing_2 : decode cX7_isThing 2 = .ok (.bipush 19, 2) := by decide +kernel
theorem dX7_isThing_4 : decode cX7_isThing 4 = .ok (.invokestatic 61, 3) := by decide +kernel
theorem dX7_isThing_7 : decode cX7_isThing 7 = .ok (.ireturn, 1) := by decide +kernel
set_option maxRecDepth 20000 in
theorem ggX7_isMade_X7_of : GoodIn wsX7_isMade wsX7_of := goodIn_r _ [5, 6, 7, 8, 9, 10, 11, 12, 13, 14, 15, 16, 17, 18, 19, 20, 21, 22, 23, 24, 25, 26, 27, 28, 29, 30, 31, 32, 33, 34, 35] (by decide +kernel) (by decide +kernel)
set_option maxRecDepth 20000 in
theorem gX7_isMade_X7_of : GoodIn wsX7_isMade (wsV RX7 65 RX7 yX7_of wsX7_of) := goodIn_app (goodIn_of _ (by decide +kernel)) ggX7_isMade_X7_of
theorem dX7_isMade_0 : decode cX7_isMade 0 = .ok (.aload_n 0, 1) := by decide +kernel
theorem dX7_isMade_1 : decode cX7_isMade 1 = .ok (.iload_n 1, 1) := by decide +kernel
theorem dX7_isMade_2 : decode cX7_isMade 2 = .ok (.bipush 7, 2) := by decide +kernel
theorem dX7_isMade_4 : decode cX7_isMade 4 = .ok (.invokevirtual 65, 3) := by decide +kernel
theorem dX7_isMade_7 : decode cX7_isMade 7 = .ok (.ifCond .le 7, 3) := by decide +kernel
theorem dX7_isMade_10 : decode cX7_isMade 10 = .ok (.iconst 1, 1) := by decide +kernel
theorem dX7_isMade_11 : decode cX7_isMade 11 = .ok (.goto 4, 3) := by decide +kernel
theorem dX7_isMade_14 : decode cX7_isMade 14 = .ok (.iconst 0, 1) := by decide +kernel
theorem dX7_isMade_15 : decode cX7_isMade 15 = .ok (.ireturn, 1) := by decide +kernel
set_option maxRecDepth 20000 in
theorem ggX7_ingredientOf_X7_of : GoodIn wsX7_ingredientOf wsX7_of := goodIn_r _ [5, 6, 7, 8, 9, 10, 11, 12, 13, 14, 15, 16, 17, 18, 19, 20, 21, 22, 23, 24, 25, 26, 27, 28, 29, 30, 31, 32, 33, 34, 35] (by decide +kernel) (by decide +kernel)
set_option maxRecDepth 20000 in
theorem gX7_ingredientOf_X7_of : GoodIn wsX7_ingredientOf (wsV RX7 65 RX7 yX7_of wsX7_of) := goodIn_app (goodIn_of _ (by decide +kernel)) ggX7_ingredientOf_X7_of
theorem dX7_ingredientOf_0 : decode cX7_ingredientOf 0 = .ok (.aload_n 0, 1) := by decide +kernel
theorem dX7_ingredientOf_1 : decode cX7_ingredientOf 1 = .ok (.iload_n 1, 1) := by decide +kernel
theorem dX7_ingredientOf_2 : decode cX7_ingredientOf 2 = .ok (.bipush 9, 2) := by decide +kernel
theorem dX7_ingredientOf_4 : decode cX7_ingredientOf 4 = .ok (.iconst 2, 1) := by decide +kernel
theorem dX7_ingredientOf_5 : decode cX7_ingredientOf 5 = .ok (.iload_n 2, 1) := by decide +kernel
theorem dX7_ingredientOf_6 : decode cX7_ingredientOf 6 = .ok (.imul, 1) := by decide +kernel
theorem dX7_ingredientOf_7 : decode cX7_ingredientOf 7 = .ok (.iadd, 1) := by decide +kernel
theorem dX7_ingredientOf_8 : decode cX7_ingredientOf 8 = .ok (.invokevirtual 65, 3) := by decide +kernel
theorem dX7_ingredientOf_11 : decode cX7_ingredientOf 11 = .ok (.ireturn, 1) := by decide +kernel
set_option maxRecDepth 20000 in
theorem ggX7_amountOf_X7_of : GoodIn wsX7_amountOf wsX7_of := goodIn_r _ [5, 6, 7, 8, 9, 10, 11, 12, 13, 14, 15, 16, 17, 18, 19, 20, 21, 22, 23, 24, 25, 26, 27, 28, 29, 30, 31, 32, 33, 34, 35] (by decide +kernel) (by decide +kernel)
set_option maxRecDepth 20000 in
theorem gX7_amountOf_X7_of : GoodIn wsX7_amountOf (wsV RX7 65 RX7 yX7_of wsX7_of) := goodIn_app (goodIn_of _ (by decide +kernel)) ggX7_amountOf_X7_of
theorem dX7_amountOf_0 : decode cX7_amountOf 0 = .ok (.aload_n 0, 1) := by decide +kernel
theorem dX7_amountOf_1 : decode cX7_amountOf 1 = .ok (.iload_n 1, 1) := by decide +kernel
theorem dX7_amountOf_2 : decode cX7_amountOf 2 = .ok (.bipush 9, 2) := by decide +kernel
theorem dX7_amountOf_4 : decode cX7_amountOf 4 = .ok (.iconst 2, 1) := by decide +kernel
theorem dX7_amountOf_5 : decode cX7_amountOf 5 = .ok (.iload_n 2, 1) := by decide +kernel
theorem dX7_amountOf_6 : decode cX7_amountOf 6 = .ok (.imul, 1) := by decide +kernel
theorem dX7_amountOf_7 : decode cX7_amountOf 7 = .ok (.iadd, 1) := by decide +kernel
theorem dX7_amountOf_8 : decode cX7_amountOf 8 = .ok (.iconst 1, 1) := by decide +kernel
theorem dX7_amountOf_9 : decode cX7_amountOf 9 = .ok (.iadd, 1) := by decide +kernel
theorem dX7_amountOf_10 : decode cX7_amountOf 10 = .ok (.invokevirtual 65, 3) := by decide +kernel
theorem dX7_amountOf_13 : decode cX7_amountOf 13 = .ok (.ireturn, 1) := by decide +kernel
set_option maxRecDepth 20000 in
theorem ggX7_rankBy_X7_of : GoodIn wsX7_rankBy wsX7_of := goodIn_r _ [6, 7, 16, 17, 18, 19, 20, 21, 22, 23, 24, 25, 26, 27, 28, 29, 30, 31, 32, 33, 34, 35, 36, 37, 38, 39, 40, 41, 42, 43, 44] (by decide +kernel) (by decide +kernel)
set_option maxRecDepth 20000 in
theorem gX7_rankBy_X7_of : GoodIn wsX7_rankBy (wsV RX7 65 RX7 yX7_of wsX7_of) := goodIn_app (goodIn_of _ (by decide +kernel)) ggX7_rankBy_X7_of
set_option maxRecDepth 20000 in
theorem ggX7_rankBy_X7_ingredientOf : GoodIn wsX7_rankBy wsX7_ingredientOf := goodIn_r _ [11, 2, 3, 4, 5, 6, 7, 16, 17, 18, 19, 20, 21, 22, 23, 24, 25, 26, 27, 28, 29, 30, 31, 32, 33, 34, 35, 36, 37, 38, 39, 40, 41, 42, 43, 44] (by decide +kernel) (by decide +kernel)
set_option maxRecDepth 20000 in
theorem gX7_rankBy_X7_ingredientOf : GoodIn wsX7_rankBy (wsV RX7 69 RX7 yX7_ingredientOf wsX7_ingredientOf) := goodIn_app (goodIn_of _ (by decide +kernel)) ggX7_rankBy_X7_ingredientOf
set_option maxRecDepth 20000 in
theorem ggX7_rankBy_X7_isMade : GoodIn wsX7_rankBy wsX7_isMade := goodIn_r _ [15, 2, 3, 4, 5, 6, 7, 16, 17, 18, 19, 20, 21, 22, 23, 24, 25, 26, 27, 28, 29, 30, 31, 32, 33, 34, 35, 36, 37, 38, 39, 40, 41, 42, 43, 44] (by decide +kernel) (by decide +kernel)
set_option maxRecDepth 20000 in
theorem gX7_rankBy_X7_isMade : GoodIn wsX7_rankBy (wsV RX7 72 RX7 yX7_isMade wsX7_isMade) := goodIn_app (goodIn_of _ (by decide +kernel)) ggX7_rankBy_X7_isMade
theorem dX7_rankBy_0 : decode cX7_rankBy 0 = .ok (.iconst 0, 1) := by decide +kernel
theorem dX7_rankBy_1 : decode cX7_rankBy 1 = .ok (.istore_n 2, 1) := by decide +kernel
theorem dX7_rankBy_2 : decode cX7_rankBy 2 = .ok (.iconst 0, 1) := by decide +kernel
theorem dX7_rankBy_3 : decode cX7_rankBy 3 = .ok (.istore_n 3, 1) := by decide +kernel
theorem dX7_rankBy_4 : decode cX7_rankBy 4 = .ok (.iload_n 3, 1) := by decide +kernel
theorem dX7_rankBy_5 : decode cX7_rankBy 5 = .ok (.aload_n 0, 1) := by decide +kernel
theorem dX7_rankBy_6 : decode cX7_rankBy 6 = .ok (.iload_n 1, 1) := by decide +kernel
theorem dX7_rankBy_7 : decode cX7_rankBy 7 = .ok (.bipush 8, 2) := by decide +kernel
theorem dX7_rankBy_9 : decode cX7_rankBy 9 = .ok (.invokevirtual 65, 3) := by decide +kernel
theorem dX7_rankBy_12 : decode cX7_rankBy 12 = .ok (.if_icmp .ge 98, 3) := by decide +kernel
theorem dX7_rankBy_15 : decode cX7_rankBy 15 = .ok (.aload_n 0, 1) := by decide +kernel
theorem dX7_rankBy_16 : decode cX7_rankBy 16 = .ok (.iload_n 1, 1) := by decide +kernel
theorem dX7_rankBy_17 : decode cX7_rankBy 17 = .ok (.iload_n 3, 1) := by decide +kernel
theorem dX7_rankBy_18 : decode cX7_rankBy 18 = .ok (.invokevirtual 69, 3) := by decide +kernel
theorem dX7_rankBy_21 : decode cX7_rankBy 21 = .ok (.istore 4, 2) := by decide +kernel
theorem dX7_rankBy_23 : decode cX7_rankBy 23 = .ok (.aload_n 0, 1) := by decide +kernel
theorem dX7_rankBy_24 : decode cX7_rankBy 24 = .ok (.getfield 29, 3) := by decide +kernel
theorem dX7_rankBy_27 : decode cX7_rankBy 27 = .ok (.iload 4, 2) := by decide +kernel
theorem dX7_rankBy_29 : decode cX7_rankBy 29 = .ok (.iaload, 1) := by decide +kernel
theorem dX7_rankBy_30 : decode cX7_rankBy 30 = .ok (.iload_n 2, 1) := by decide +kernel
theorem dX7_rankBy_31 : decode cX7_rankBy 31 = .ok (.if_icmp .le 13, 3) := by decide +kernel
theorem dX7_rankBy_34 : decode cX7_rankBy 34 = .ok (.aload_n 0, 1) := by decide +kernel
theorem dX7_rankBy_35 : decode cX7_rankBy 35 = .ok (.getfield 29, 3) := by decide +kernel
theorem dX7_rankBy_38 : decode cX7_rankBy 38 = .ok (.iload 4, 2) := by decide +kernel
theorem dX7_rankBy_40 : decode cX7_rankBy 40 = .ok (.iaload, 1) := by decide +kernel
theorem dX7_rankBy_41 : decode cX7_rankBy 41 = .ok (.goto 4, 3) := by decide +kernel
theorem dX7_rankBy_44 : decode cX7_rankBy 44 = .ok (.iload_n 2, 1) := by decide +kernel
theorem dX7_rankBy_45 : decode cX7_rankBy 45 = .ok (.istore_n 2, 1) := by decide +kernel
theorem dX7_rankBy_46 : decode cX7_rankBy 46 = .ok (.iconst 0, 1) := by decide +kernel
theorem dX7_rankBy_47 : decode cX7_rankBy 47 = .ok (.istore 5, 2) := by decide +kernel
theorem dX7_rankBy_49 : decode cX7_rankBy 49 = .ok (.iload 5, 2) := by decide +kernel
theorem dX7_rankBy_51 : decode cX7_rankBy 51 = .ok (.aload_n 0, 1) := by decide +kernel
theorem dX7_rankBy_52 : decode cX7_rankBy 52 = .ok (.iload 4, 2) := by decide +kernel
theorem dX7_rankBy_54 : decode cX7_rankBy 54 = .ok (.bipush 19, 2) := by decide +kernel
theorem dX7_rankBy_56 : decode cX7_rankBy 56 = .ok (.invokevirtual 65, 3) := by decide +kernel
theorem dX7_rankBy_59 : decode cX7_rankBy 59 = .ok (.if_icmp .ge 45, 3) := by decide +kernel
theorem dX7_rankBy_62 : decode cX7_rankBy 62 = .ok (.aload_n 0, 1) := by decide +kernel
theorem dX7_rankBy_63 : decode cX7_rankBy 63 = .ok (.iload 4, 2) := by decide +kernel
theorem dX7_rankBy_65 : decode cX7_rankBy 65 = .ok (.bipush 20, 2) := by decide +kernel
theorem dX7_rankBy_67 : decode cX7_rankBy 67 = .ok (.iload 5, 2) := by decide +kernel
theorem dX7_rankBy_69 : decode cX7_rankBy 69 = .ok (.iadd, 1) := by decide +kernel
theorem dX7_rankBy_70 : decode cX7_rankBy 70 = .ok (.invokevirtual 65, 3) := by decide +kernel
theorem dX7_rankBy_73 : decode cX7_rankBy 73 = .ok (.istore 6, 2) := by decide +kernel
theorem dX7_rankBy_75 : decode cX7_rankBy 75 = .ok (.aload_n 0, 1) := by decide +kernel
theorem dX7_rankBy_76 : decode cX7_rankBy 76 = .ok (.getfield 29, 3) := by decide +kernel
theorem dX7_rankBy_79 : decode cX7_rankBy 79 = .ok (.iload 6, 2) := by decide +kernel
theorem dX7_rankBy_81 : decode cX7_rankBy 81 = .ok (.iaload, 1) := by decide +kernel
theorem dX7_rankBy_82 : decode cX7_rankBy 82 = .ok (.iload_n 2, 1) := by decide +kernel
theorem dX7_rankBy_83 : decode cX7_rankBy 83 = .ok (.if_icmp .le 13, 3) := by decide +kernel
theorem dX7_rankBy_86 : decode cX7_rankBy 86 = .ok (.aload_n 0, 1) := by decide +kernel
theorem dX7_rankBy_87 : decode cX7_rankBy 87 = .ok (.getfield 29, 3) := by decide +kernel
theorem dX7_rankBy_90 : decode cX7_rankBy 90 = .ok (.iload 6, 2) := by decide +kernel
theorem dX7_rankBy_92 : decode cX7_rankBy 92 = .ok (.iaload, 1) := by decide +kernel
theorem dX7_rankBy_93 : decode cX7_rankBy 93 = .ok (.goto 4, 3) := by decide +kernel
theorem dX7_rankBy_96 : decode cX7_rankBy 96 = .ok (.iload_n 2, 1) := by decide +kernel
theorem dX7_rankBy_97 : decode cX7_rankBy 97 = .ok (.istore_n 2, 1) := by decide +kernel
theorem dX7_rankBy_98 : decode cX7_rankBy 98 = .ok (.iinc 5 1, 3) := by decide +kernel
theorem dX7_rankBy_101 : decode cX7_rankBy 101 = .ok (.goto (-52), 3) := by decide +kernel
theorem dX7_rankBy_104 : decode cX7_rankBy 104 = .ok (.iinc 3 1, 3) := by decide +kernel
theorem dX7_rankBy_107 : decode cX7_rankBy 107 = .ok (.goto (-103), 3) := by decide +kernel
theorem dX7_rankBy_110 : decode cX7_rankBy 110 = .ok (.aload_n 0, 1) := by decide +kernel
theorem dX7_rankBy_111 : decode cX7_rankBy 111 = .ok (.iload_n 1, 1) := by decide +kernel
theorem dX7_rankBy_112 : decode cX7_rankBy 112 = .ok (.invokevirtual 72, 3) := by decide +kernel
theorem dX7_rankBy_115 : decode cX7_rankBy 115 = .ok (.ifCond .eq 9, 3) := by decide +kernel
theorem dX7_rankBy_118 : decode cX7_rankBy 118 = .ok (.iload_n 2, 1) := by decide +kernel
theorem dX7_rankBy_119 : decode cX7_rankBy 119 = .ok (.iconst 1, 1) := by decide +kernel
theorem dX7_rankBy_120 : decode cX7_rankBy 120 = .ok (.iadd, 1) := by decide +kernel
theorem dX7_rankBy_121 : decode cX7_rankBy 121 = .ok (.goto 4, 3) := by decide +kernel
theorem dX7_rankBy_124 : decode cX7_rankBy 124 = .ok (.iconst 0, 1) := by decide +kernel
theorem dX7_rankBy_125 : decode cX7_rankBy 125 = .ok (.ireturn, 1) := by decide +kernel
set_option maxRecDepth 20000 in
theorem ggX7_areRanks_X7_rankBy : GoodIn wsX7_areRanks wsX7_rankBy := goodIn_r _ [6, 1, 7, 8, 9, 5, 10, 11, 12, 13, 14, 15, 16, 17, 18, 19, 20, 21, 22, 23, 24, 25, 26, 27, 28, 29, 30, 31, 32, 33, 34, 35, 36, 37, 38, 39, 40, 41, 42, 43, 44, 45, 46, 47, 48] (by decide +kernel) (by decide +kernel)
set_option maxRecDepth 20000 in
theorem gX7_areRanks_X7_rankBy : GoodIn wsX7_areRanks (wsV RX7 76 RX7 yX7_rankBy wsX7_rankBy) := goodIn_app (goodIn_of _ (by decide +kernel)) ggX7_areRanks_X7_rankBy
theorem dX7_areRanks_0 : decode cX7_areRanks 0 = .ok (.iconst 0, 1) := by decide +kernel
theorem dX7_areRanks_1 : decode cX7_areRanks 1 = .ok (.istore_n 1, 1) := by decide +kernel
theorem dX7_areRanks_2 : decode cX7_areRanks 2 = .ok (.iload_n 1, 1) := by decide +kernel
theorem dX7_areRanks_3 : decode cX7_areRanks 3 = .ok (.bipush 20, 2) := by decide +kernel
theorem dX7_areRanks_5 : decode cX7_areRanks 5 = .ok (.if_icmp .ge 16, 3) := by decide +kernel
theorem dX7_areRanks_8 : decode cX7_areRanks 8 = .ok (.aload_n 0, 1) := by decide +kernel
theorem dX7_areRanks_9 : decode cX7_areRanks 9 = .ok (.getfield 29, 3) := by decide +kernel
theorem dX7_areRanks_12 : decode cX7_areRanks 12 = .ok (.iload_n 1, 1) := by decide +kernel
theorem dX7_areRanks_13 : decode cX7_areRanks 13 = .ok (.iconst 0, 1) := by decide +kernel
theorem dX7_areRanks_14 : decode cX7_areRanks 14 = .ok (.iastore, 1) := by decide +kernel
theorem dX7_areRanks_15 : decode cX7_areRanks 15 = .ok (.iinc 1 1, 3) := by decide +kernel
theorem dX7_areRanks_18 : decode cX7_areRanks 18 = .ok (.goto (-16), 3) := by decide +kernel
theorem dX7_areRanks_21 : decode cX7_areRanks 21 = .ok (.iconst 0, 1) := by decide +kernel
theorem dX7_areRanks_22 : decode cX7_areRanks 22 = .ok (.istore_n 1, 1) := by decide +kernel
theorem dX7_areRanks_23 : decode cX7_areRanks 23 = .ok (.iload_n 1, 1) := by decide +kernel
theorem dX7_areRanks_24 : decode cX7_areRanks 24 = .ok (.bipush 12, 2) := by decide +kernel
theorem dX7_areRanks_26 : decode cX7_areRanks 26 = .ok (.if_icmp .ge 34, 3) := by decide +kernel
theorem dX7_areRanks_29 : decode cX7_areRanks 29 = .ok (.iconst 0, 1) := by decide +kernel
theorem dX7_areRanks_30 : decode cX7_areRanks 30 = .ok (.istore_n 2, 1) := by decide +kernel
theorem dX7_areRanks_31 : decode cX7_areRanks 31 = .ok (.iload_n 2, 1) := by decide +kernel
theorem dX7_areRanks_32 : decode cX7_areRanks 32 = .ok (.bipush 20, 2) := by decide +kernel
theorem dX7_areRanks_34 : decode cX7_areRanks 34 = .ok (.if_icmp .ge 20, 3) := by decide +kernel
theorem dX7_areRanks_37 : decode cX7_areRanks 37 = .ok (.aload_n 0, 1) := by decide +kernel
theorem dX7_areRanks_38 : decode cX7_areRanks 38 = .ok (.getfield 29, 3) := by decide +kernel
theorem dX7_areRanks_41 : decode cX7_areRanks 41 = .ok (.iload_n 2, 1) := by decide +kernel
theorem dX7_areRanks_42 : decode cX7_areRanks 42 = .ok (.aload_n 0, 1) := by decide +kernel
theorem dX7_areRanks_43 : decode cX7_areRanks 43 = .ok (.iload_n 2, 1) := by decide +kernel
theorem dX7_areRanks_44 : decode cX7_areRanks 44 = .ok (.invokevirtual 76, 3) := by decide +kernel
theorem dX7_areRanks_47 : decode cX7_areRanks 47 = .ok (.iastore, 1) := by decide +kernel
theorem dX7_areRanks_48 : decode cX7_areRanks 48 = .ok (.iinc 2 1, 3) := by decide +kernel
theorem dX7_areRanks_51 : decode cX7_areRanks 51 = .ok (.goto (-20), 3) := by decide +kernel
theorem dX7_areRanks_54 : decode cX7_areRanks 54 = .ok (.iinc 1 1, 3) := by decide +kernel
theorem dX7_areRanks_57 : decode cX7_areRanks 57 = .ok (.goto (-34), 3) := by decide +kernel
theorem dX7_areRanks_60 : decode cX7_areRanks 60 = .ok (.iconst 0, 1) := by decide +kernel
theorem dX7_areRanks_61 : decode cX7_areRanks 61 = .ok (.istore_n 1, 1) := by decide +kernel
theorem dX7_areRanks_62 : decode cX7_areRanks 62 = .ok (.iload_n 1, 1) := by decide +kernel
theorem dX7_areRanks_63 : decode cX7_areRanks 63 = .ok (.bipush 20, 2) := by decide +kernel
theorem dX7_areRanks_65 : decode cX7_areRanks 65 = .ok (.if_icmp .ge 22, 3) := by decide +kernel
theorem dX7_areRanks_68 : decode cX7_areRanks 68 = .ok (.aload_n 0, 1) := by decide +kernel
theorem dX7_areRanks_69 : decode cX7_areRanks 69 = .ok (.getfield 29, 3) := by decide +kernel
theorem dX7_areRanks_72 : decode cX7_areRanks 72 = .ok (.iload_n 1, 1) := by decide +kernel
theorem dX7_areRanks_73 : decode cX7_areRanks 73 = .ok (.iaload, 1) := by decide +kernel
theorem dX7_areRanks_74 : decode cX7_areRanks 74 = .ok (.bipush 8, 2) := by decide +kernel
theorem dX7_areRanks_76 : decode cX7_areRanks 76 = .ok (.if_icmp .le 5, 3) := by decide +kernel
theorem dX7_areRanks_79 : decode cX7_areRanks 79 = .ok (.iconst 0, 1) := by decide +kernel
theorem dX7_areRanks_80 : decode cX7_areRanks 80 = .ok (.ireturn, 1) := by decide +kernel
theorem dX7_areRanks_81 : decode cX7_areRanks 81 = .ok (.iinc 1 1, 3) := by decide +kernel
theorem dX7_areRanks_84 : decode cX7_areRanks 84 = .ok (.goto (-22), 3) := by decide +kernel
theorem dX7_areRanks_87 : decode cX7_areRanks 87 = .ok (.iconst 1, 1) := by decide +kernel
theorem dX7_areRanks_88 : decode cX7_areRanks 88 = .ok (.ireturn, 1) := by decide +kernel
set_option maxRecDepth 20000 in
theorem ggX7_come_X7_of : GoodIn wsX7_come wsX7_of := goodIn_r _ [7, 8, 13, 14, 15, 16, 17, 18, 19, 20, 21, 22, 23, 24, 25, 26, 27, 28, 29, 30, 31, 32, 33, 34, 35, 36, 37, 38, 39, 40, 41] (by decide +kernel) (by decide +kernel)
set_option maxRecDepth 20000 in
theorem gX7_come_X7_of : GoodIn wsX7_come (wsV RX7 65 RX7 yX7_of wsX7_of) := goodIn_app (goodIn_of _ (by decide +kernel)) ggX7_come_X7_of
set_option maxRecDepth 20000 in
theorem ggX7_come_X7_put : GoodIn wsX7_come wsX7_put := goodIn_r _ [12, 8, 13, 14, 15, 16, 17, 18, 19, 20, 21, 22, 23, 24, 25, 26, 27, 28, 29, 30, 31, 32, 33, 34, 35, 36, 37, 38, 39, 40, 41] (by decide +kernel) (by decide +kernel)
set_option maxRecDepth 20000 in
theorem gX7_come_X7_put : GoodIn wsX7_come (wsV RX7 54 RX7 yX7_put wsX7_put) := goodIn_app (goodIn_of _ (by decide +kernel)) ggX7_come_X7_put
theorem dX7_come_0 : decode cX7_come 0 = .ok (.aload_n 0, 1) := by decide +kernel
theorem dX7_come_1 : decode cX7_come 1 = .ok (.iload_n 1, 1) := by decide +kernel
theorem dX7_come_2 : decode cX7_come 2 = .ok (.iconst 0, 1) := by decide +kernel
theorem dX7_come_3 : decode cX7_come 3 = .ok (.aload_n 0, 1) := by decide +kernel
theorem dX7_come_4 : decode cX7_come 4 = .ok (.iload_n 1, 1) := by decide +kernel
theorem dX7_come_5 : decode cX7_come 5 = .ok (.iconst 0, 1) := by decide +kernel
theorem dX7_come_6 : decode cX7_come 6 = .ok (.invokevirtual 65, 3) := by decide +kernel
theorem dX7_come_9 : decode cX7_come 9 = .ok (.iload_n 2, 1) := by decide +kernel
theorem dX7_come_10 : decode cX7_come 10 = .ok (.iadd, 1) := by decide +kernel
theorem dX7_come_11 : decode cX7_come 11 = .ok (.invokevirtual 54, 3) := by decide +kernel
theorem dX7_come_14 : decode cX7_come 14 = .ok (.aload_n 0, 1) := by decide +kernel
theorem dX7_come_15 : decode cX7_come 15 = .ok (.iload_n 1, 1) := by decide +kernel
theorem dX7_come_16 : decode cX7_come 16 = .ok (.iload_n 3, 1) := by decide +kernel
theorem dX7_come_17 : decode cX7_come 17 = .ok (.aload_n 0, 1) := by decide +kernel
theorem dX7_come_18 : decode cX7_come 18 = .ok (.iload_n 1, 1) := by decide +kernel
theorem dX7_come_19 : decode cX7_come 19 = .ok (.iload_n 3, 1) := by decide +kernel
theorem dX7_come_20 : decode cX7_come 20 = .ok (.invokevirtual 65, 3) := by decide +kernel
theorem dX7_come_23 : decode cX7_come 23 = .ok (.iload_n 2, 1) := by decide +kernel
theorem dX7_come_24 : decode cX7_come 24 = .ok (.iadd, 1) := by decide +kernel
theorem dX7_come_25 : decode cX7_come 25 = .ok (.invokevirtual 54, 3) := by decide +kernel
theorem dX7_come_28 : decode cX7_come 28 = .ok (.aload_n 0, 1) := by decide +kernel
theorem dX7_come_29 : decode cX7_come 29 = .ok (.dup, 1) := by decide +kernel
theorem dX7_come_30 : decode cX7_come 30 = .ok (.getfield 80, 3) := by decide +kernel
theorem dX7_come_33 : decode cX7_come 33 = .ok (.aload_n 0, 1) := by decide +kernel
theorem dX7_come_34 : decode cX7_come 34 = .ok (.iload_n 1, 1) := by decide +kernel
theorem dX7_come_35 : decode cX7_come 35 = .ok (.iconst 0, 1) := by decide +kernel
theorem dX7_come_36 : decode cX7_come 36 = .ok (.invokevirtual 65, 3) := by decide +kernel
theorem dX7_come_39 : decode cX7_come 39 = .ok (.ldc 84, 2) := by decide +kernel
theorem dX7_come_41 : decode cX7_come 41 = .ok (.if_icmp .le 7, 3) := by decide +kernel
theorem dX7_come_44 : decode cX7_come 44 = .ok (.iconst 1, 1) := by decide +kernel
theorem dX7_come_45 : decode cX7_come 45 = .ok (.goto 4, 3) := by decide +kernel
theorem dX7_come_48 : decode cX7_come 48 = .ok (.iconst 0, 1) := by decide +kernel
theorem dX7_come_49 : decode cX7_come 49 = .ok (.ior, 1) := by decide +kernel
theorem dX7_come_50 : decode cX7_come 50 = .ok (.putfield 80, 3) := by decide +kernel
theorem dX7_come_53 : decode cX7_come 53 = .ok (.return_, 1) := by decide +kernel
set_option maxRecDepth 20000 in
theorem ggX7_useUp_X7_of : GoodIn wsX7_useUp wsX7_of := goodIn_r _ [5, 6, 17, 18, 19, 20, 21, 22, 23, 24, 25, 26, 27, 28, 29, 30, 31, 32, 33, 34, 35, 36, 37, 38, 39, 40, 41, 42, 43, 44, 45] (by decide +kernel) (by decide +kernel)
set_option maxRecDepth 20000 in
theorem gX7_useUp_X7_of : GoodIn wsX7_useUp (wsV RX7 65 RX7 yX7_of wsX7_of) := goodIn_app (goodIn_of _ (by decide +kernel)) ggX7_useUp_X7_of
set_option maxRecDepth 20000 in
theorem ggX7_useUp_X7_put : GoodIn wsX7_useUp wsX7_put := goodIn_r _ [10, 6, 17, 18, 19, 20, 21, 22, 23, 24, 25, 26, 27, 28, 29, 30, 31, 32, 33, 34, 35, 36, 37, 38, 39, 40, 41, 42, 43, 44, 45] (by decide +kernel) (by decide +kernel)
set_option maxRecDepth 20000 in
theorem gX7_useUp_X7_put : GoodIn wsX7_useUp (wsV RX7 54 RX7 yX7_put wsX7_put) := goodIn_app (goodIn_of _ (by decide +kernel)) ggX7_useUp_X7_put
set_option maxRecDepth 20000 in
theorem ggX7_useUp_X7_come : GoodIn wsX7_useUp wsX7_come := goodIn_r _ [14, 15, 16, 1, 2, 3, 4, 5, 6, 7, 8, 9, 10, 17, 18, 19, 20, 21, 22, 23, 24, 25, 26, 27, 28, 29, 30, 31, 32, 33, 34, 35, 36, 37, 38, 39, 40, 41, 42, 43, 44, 45] (by decide +kernel) (by decide +kernel)
set_option maxRecDepth 20000 in
theorem gX7_useUp_X7_come : GoodIn wsX7_useUp (wsV RX7 85 RX7 yX7_come wsX7_come) := goodIn_app (goodIn_of _ (by decide +kernel)) ggX7_useUp_X7_come
theorem dX7_useUp_0 : decode cX7_useUp 0 = .ok (.aload_n 0, 1) := by decide +kernel
theorem dX7_useUp_1 : decode cX7_useUp 1 = .ok (.iload_n 1, 1) := by decide +kernel
theorem dX7_useUp_2 : decode cX7_useUp 2 = .ok (.iconst 0, 1) := by decide +kernel
theorem dX7_useUp_3 : decode cX7_useUp 3 = .ok (.aload_n 0, 1) := by decide +kernel
theorem dX7_useUp_4 : decode cX7_useUp 4 = .ok (.iload_n 1, 1) := by decide +kernel
theorem dX7_useUp_5 : decode cX7_useUp 5 = .ok (.iconst 0, 1) := by decide +kernel
theorem dX7_useUp_6 : decode cX7_useUp 6 = .ok (.invokevirtual 65, 3) := by decide +kernel
theorem dX7_useUp_9 : decode cX7_useUp 9 = .ok (.iload_n 2, 1) := by decide +kernel
theorem dX7_useUp_10 : decode cX7_useUp 10 = .ok (.isub, 1) := by decide +kernel
theorem dX7_useUp_11 : decode cX7_useUp 11 = .ok (.invokevirtual 54, 3) := by decide +kernel
theorem dX7_useUp_14 : decode cX7_useUp 14 = .ok (.aload_n 0, 1) := by decide +kernel
theorem dX7_useUp_15 : decode cX7_useUp 15 = .ok (.iload_n 1, 1) := by decide +kernel
theorem dX7_useUp_16 : decode cX7_useUp 16 = .ok (.iconst 4, 1) := by decide +kernel
theorem dX7_useUp_17 : decode cX7_useUp 17 = .ok (.aload_n 0, 1) := by decide +kernel
theorem dX7_useUp_18 : decode cX7_useUp 18 = .ok (.iload_n 1, 1) := by decide +kernel
theorem dX7_useUp_19 : decode cX7_useUp 19 = .ok (.iconst 4, 1) := by decide +kernel
theorem dX7_useUp_20 : decode cX7_useUp 20 = .ok (.invokevirtual 65, 3) := by decide +kernel
theorem dX7_useUp_23 : decode cX7_useUp 23 = .ok (.iload_n 2, 1) := by decide +kernel
theorem dX7_useUp_24 : decode cX7_useUp 24 = .ok (.iadd, 1) := by decide +kernel
theorem dX7_useUp_25 : decode cX7_useUp 25 = .ok (.invokevirtual 54, 3) := by decide +kernel
theorem dX7_useUp_28 : decode cX7_useUp 28 = .ok (.aload_n 0, 1) := by decide +kernel
theorem dX7_useUp_29 : decode cX7_useUp 29 = .ok (.iload_n 1, 1) := by decide +kernel
theorem dX7_useUp_30 : decode cX7_useUp 30 = .ok (.iconst 1, 1) := by decide +kernel
theorem dX7_useUp_31 : decode cX7_useUp 31 = .ok (.invokevirtual 65, 3) := by decide +kernel
theorem dX7_useUp_34 : decode cX7_useUp 34 = .ok (.bipush (-9), 2) := by decide +kernel
theorem dX7_useUp_36 : decode cX7_useUp 36 = .ok (.if_icmp .eq 15, 3) := by decide +kernel
theorem dX7_useUp_39 : decode cX7_useUp 39 = .ok (.aload_n 0, 1) := by decide +kernel
theorem dX7_useUp_40 : decode cX7_useUp 40 = .ok (.aload_n 0, 1) := by decide +kernel
theorem dX7_useUp_41 : decode cX7_useUp 41 = .ok (.iload_n 1, 1) := by decide +kernel
theorem dX7_useUp_42 : decode cX7_useUp 42 = .ok (.iconst 1, 1) := by decide +kernel
theorem dX7_useUp_43 : decode cX7_useUp 43 = .ok (.invokevirtual 65, 3) := by decide +kernel
theorem dX7_useUp_46 : decode cX7_useUp 46 = .ok (.iload_n 2, 1) := by decide +kernel
theorem dX7_useUp_47 : decode cX7_useUp 47 = .ok (.iconst 5, 1) := by decide +kernel
theorem dX7_useUp_48 : decode cX7_useUp 48 = .ok (.invokevirtual 85, 3) := by decide +kernel
theorem dX7_useUp_51 : decode cX7_useUp 51 = .ok (.return_, 1) := by decide +kernel
set_option maxRecDepth 20000 in
theorem ggX7_gatherNow_X7_come : GoodIn wsX7_gatherNow wsX7_come := goodIn_r _ [6, 7, 8, 9, 10, 11, 5, 12, 1, 13, 14, 15, 16, 17, 18, 19, 20, 21, 22, 23, 24, 25, 26, 27, 28, 29, 30, 31, 32, 33, 34, 35, 36, 37, 38, 39, 40, 41, 42, 43, 44, 45] (by decide +kernel) (by decide +kernel)
set_option maxRecDepth 20000 in
theorem gX7_gatherNow_X7_come : GoodIn wsX7_gatherNow (wsV RX7 85 RX7 yX7_come wsX7_come) := goodIn_app (goodIn_of _ (by decide +kernel)) ggX7_gatherNow_X7_come
theorem dX7_gatherNow_0 : decode cX7_gatherNow 0 = .ok (.aload_n 0, 1) := by decide +kernel
theorem dX7_gatherNow_1 : decode cX7_gatherNow 1 = .ok (.iload_n 1, 1) := by decide +kernel
theorem dX7_gatherNow_2 : decode cX7_gatherNow 2 = .ok (.iload_n 2, 1) := by decide +kernel
theorem dX7_gatherNow_3 : decode cX7_gatherNow 3 = .ok (.iconst 2, 1) := by decide +kernel
theorem dX7_gatherNow_4 : decode cX7_gatherNow 4 = .ok (.invokevirtual 85, 3) := by decide +kernel
theorem dX7_gatherNow_7 : decode cX7_gatherNow 7 = .ok (.aload_n 0, 1) := by decide +kernel
theorem dX7_gatherNow_8 : decode cX7_gatherNow 8 = .ok (.getfield 7, 3) := by decide +kernel
theorem dX7_gatherNow_11 : decode cX7_gatherNow 11 = .ok (.sipush 460, 3) := by decide +kernel
theorem dX7_gatherNow_14 : decode cX7_gatherNow 14 = .ok (.dup2, 1) := by decide +kernel
theorem dX7_gatherNow_15 : decode cX7_gatherNow 15 = .ok (.iaload, 1) := by decide +kernel
theorem dX7_gatherNow_16 : decode cX7_gatherNow 16 = .ok (.iload_n 2, 1) := by decide +kernel
theorem dX7_gatherNow_17 : decode cX7_gatherNow 17 = .ok (.iadd, 1) := by decide +kernel
theorem dX7_gatherNow_18 : decode cX7_gatherNow 18 = .ok (.iastore, 1) := by decide +kernel
theorem dX7_gatherNow_19 : decode cX7_gatherNow 19 = .ok (.return_, 1) := by decide +kernel
theorem dX7_begin_0 : decode cX7_begin 0 = .ok (.aload_n 0, 1) := by decide +kernel
theorem dX7_begin_1 : decode cX7_begin 1 = .ok (.dup, 1) := by decide +kernel
theorem dX7_begin_2 : decode cX7_begin 2 = .ok (.getfield 88, 3) := by decide +kernel
theorem dX7_begin_5 : decode cX7_begin 5 = .ok (.iload_n 2, 1) := by decide +kernel
theorem dX7_begin_6 : decode cX7_begin 6 = .ok (.iadd, 1) := by decide +kernel
theorem dX7_begin_7 : decode cX7_begin 7 = .ok (.putfield 88, 3) := by decide +kernel
theorem dX7_begin_10 : decode cX7_begin 10 = .ok (.aload_n 0, 1) := by decide +kernel
theorem dX7_begin_11 : decode cX7_begin 11 = .ok (.dup, 1) := by decide +kernel
theorem dX7_begin_12 : decode cX7_begin 12 = .ok (.getfield 80, 3) := by decide +kernel
theorem dX7_begin_15 : decode cX7_begin 15 = .ok (.aload_n 0, 1) := by decide +kernel
theorem dX7_begin_16 : decode cX7_begin 16 = .ok (.getfield 88, 3) := by decide +kernel
theorem dX7_begin_19 : decode cX7_begin 19 = .ok (.sipush 500, 3) := by decide +kernel
theorem dX7_begin_22 : decode cX7_begin 22 = .ok (.if_icmp .le 7, 3) := by decide +kernel
theorem dX7_begin_25 : decode cX7_begin 25 = .ok (.iconst 1, 1) := by decide +kernel
theorem dX7_begin_26 : decode cX7_begin 26 = .ok (.goto 4, 3) := by decide +kernel
theorem dX7_begin_29 : decode cX7_begin 29 = .ok (.iconst 0, 1) := by decide +kernel
theorem dX7_begin_30 : decode cX7_begin 30 = .ok (.ior, 1) := by decide +kernel
theorem dX7_begin_31 : decode cX7_begin 31 = .ok (.putfield 80, 3) := by decide +kernel
theorem dX7_begin_34 : decode cX7_begin 34 = .ok (.aload_n 0, 1) := by decide +kernel
theorem dX7_begin_35 : decode cX7_begin 35 = .ok (.getfield 32, 3) := by decide +kernel
theorem dX7_begin_38 : decode cX7_begin 38 = .ok (.aload_n 0, 1) := by decide +kernel
theorem dX7_begin_39 : decode cX7_begin 39 = .ok (.getfield 91, 3) := by decide +kernel
theorem dX7_begin_42 : decode cX7_begin 42 = .ok (.iload_n 1, 1) := by decide +kernel
theorem dX7_begin_43 : decode cX7_begin 43 = .ok (.iastore, 1) := by decide +kernel
theorem dX7_begin_44 : decode cX7_begin 44 = .ok (.aload_n 0, 1) := by decide +kernel
theorem dX7_begin_45 : decode cX7_begin 45 = .ok (.getfield 35, 3) := by decide +kernel
theorem dX7_begin_48 : decode cX7_begin 48 = .ok (.aload_n 0, 1) := by decide +kernel
theorem dX7_begin_49 : decode cX7_begin 49 = .ok (.getfield 91, 3) := by decide +kernel
theorem dX7_begin_52 : decode cX7_begin 52 = .ok (.iload_n 2, 1) := by decide +kernel
theorem dX7_begin_53 : decode cX7_begin 53 = .ok (.iastore, 1) := by decide +kernel
theorem dX7_begin_54 : decode cX7_begin 54 = .ok (.aload_n 0, 1) := by decide +kernel
theorem dX7_begin_55 : decode cX7_begin 55 = .ok (.getfield 38, 3) := by decide +kernel
theorem dX7_begin_58 : decode cX7_begin 58 = .ok (.aload_n 0, 1) := by decide +kernel
theorem dX7_begin_59 : decode cX7_begin 59 = .ok (.getfield 91, 3) := by decide +kernel
theorem dX7_begin_62 : decode cX7_begin 62 = .ok (.iconst 0, 1) := by decide +kernel
theorem dX7_begin_63 : decode cX7_begin 63 = .ok (.iastore, 1) := by decide +kernel
theorem dX7_begin_64 : decode cX7_begin 64 = .ok (.aload_n 0, 1) := by decide +kernel
theorem dX7_begin_65 : decode cX7_begin 65 = .ok (.getfield 41, 3) := by decide +kernel
theorem dX7_begin_68 : decode cX7_begin 68 = .ok (.aload_n 0, 1) := by decide +kernel
theorem dX7_begin_69 : decode cX7_begin 69 = .ok (.getfield 91, 3) := by decide +kernel
theorem dX7_begin_72 : decode cX7_begin 72 = .ok (.iload_n 3, 1) := by decide +kernel
theorem dX7_begin_73 : decode cX7_begin 73 = .ok (.iastore, 1) := by decide +kernel
theorem dX7_begin_74 : decode cX7_begin 74 = .ok (.aload_n 0, 1) := by decide +kernel
theorem dX7_begin_75 : decode cX7_begin 75 = .ok (.dup, 1) := by decide +kernel
theorem dX7_begin_76 : decode cX7_begin 76 = .ok (.getfield 91, 3) := by decide +kernel
theorem dX7_begin_79 : decode cX7_begin 79 = .ok (.iconst 1, 1) := by decide +kernel
theorem dX7_begin_80 : decode cX7_begin 80 = .ok (.iadd, 1) := by decide +kernel
theorem dX7_begin_81 : decode cX7_begin 81 = .ok (.putfield 91, 3) := by decide +kernel
theorem dX7_begin_84 : decode cX7_begin 84 = .ok (.return_, 1) := by decide +kernel
set_option maxRecDepth 20000 in
theorem ggX7_batchesFor_X7_of : GoodIn wsX7_batchesFor wsX7_of := goodIn_r _ [5, 6, 7, 8, 9, 10, 11, 12, 13, 14, 15, 16, 17, 18, 19, 20, 21, 22, 23, 24, 25, 26, 27, 28, 29, 30, 31, 32, 33, 34, 35] (by decide +kernel) (by decide +kernel)
set_option maxRecDepth 20000 in
theorem gX7_batchesFor_X7_of : GoodIn wsX7_batchesFor (wsV RX7 65 RX7 yX7_of wsX7_of) := goodIn_app (goodIn_of _ (by decide +kernel)) ggX7_batchesFor_X7_of
theorem dX7_batchesFor_0 : decode cX7_batchesFor 0 = .ok (.iload_n 2, 1) := by decide +kernel
theorem dX7_batchesFor_1 : decode cX7_batchesFor 1 = .ok (.aload_n 0, 1) := by decide +kernel
theorem dX7_batchesFor_2 : decode cX7_batchesFor 2 = .ok (.iload_n 1, 1) := by decide +kernel
theorem dX7_batchesFor_3 : decode cX7_batchesFor 3 = .ok (.bipush 7, 2) := by decide +kernel
theorem dX7_batchesFor_5 : decode cX7_batchesFor 5 = .ok (.invokevirtual 65, 3) := by decide +kernel
theorem dX7_batchesFor_8 : decode cX7_batchesFor 8 = .ok (.iadd, 1) := by decide +kernel
theorem dX7_batchesFor_9 : decode cX7_batchesFor 9 = .ok (.iconst 1, 1) := by decide +kernel
theorem dX7_batchesFor_10 : decode cX7_batchesFor 10 = .ok (.isub, 1) := by decide +kernel
theorem dX7_batchesFor_11 : decode cX7_batchesFor 11 = .ok (.aload_n 0, 1) := by decide +kernel
theorem dX7_batchesFor_12 : decode cX7_batchesFor 12 = .ok (.iload_n 1, 1) := by decide +kernel
theorem dX7_batchesFor_13 : decode cX7_batchesFor 13 = .ok (.bipush 7, 2) := by decide +kernel
theorem dX7_batchesFor_15 : decode cX7_batchesFor 15 = .ok (.invokevirtual 65, 3) := by decide +kernel
theorem dX7_batchesFor_18 : decode cX7_batchesFor 18 = .ok (.idiv, 1) := by decide +kernel
theorem dX7_batchesFor_19 : decode cX7_batchesFor 19 = .ok (.ireturn, 1) := by decide +kernel
set_option maxRecDepth 20000 in
theorem ggX7_fromStore_X7_of : GoodIn wsX7_fromStore wsX7_of := goodIn_r _ [5, 6, 21, 22, 23, 24, 25, 26, 27, 28, 29, 30, 31, 32, 33, 34, 35, 36, 37, 38, 39, 40, 41, 42, 43, 44, 45, 46, 47, 48, 49] (by decide +kernel) (by decide +kernel)
set_option maxRecDepth 20000 in
theorem gX7_fromStore_X7_of : GoodIn wsX7_fromStore (wsV RX7 65 RX7 yX7_of wsX7_of) := goodIn_app (goodIn_of _ (by decide +kernel)) ggX7_fromStore_X7_of
set_option maxRecDepth 20000 in
theorem ggX7_fromStore_X7_useUp : GoodIn wsX7_fromStore wsX7_useUp := goodIn_r _ [10, 1, 2, 3, 4, 5, 6, 11, 12, 13, 14, 15, 16, 17, 18, 19, 20, 21, 22, 23, 24, 25, 26, 27, 28, 29, 30, 31, 32, 33, 34, 35, 36, 37, 38, 39, 40, 41, 42, 43, 44, 45, 46, 47, 48, 49] (by decide +kernel) (by decide +kernel)
set_option maxRecDepth 20000 in
theorem gX7_fromStore_X7_useUp : GoodIn wsX7_fromStore (wsV RX7 94 RX7 yX7_useUp wsX7_useUp) := goodIn_app (goodIn_of _ (by decide +kernel)) ggX7_fromStore_X7_useUp
theorem dX7_fromStore_0 : decode cX7_fromStore 0 = .ok (.aload_n 0, 1) := by decide +kernel
theorem dX7_fromStore_1 : decode cX7_fromStore 1 = .ok (.iload_n 1, 1) := by decide +kernel
theorem dX7_fromStore_2 : decode cX7_fromStore 2 = .ok (.iconst 0, 1) := by decide +kernel
theorem dX7_fromStore_3 : decode cX7_fromStore 3 = .ok (.invokevirtual 65, 3) := by decide +kernel
theorem dX7_fromStore_6 : decode cX7_fromStore 6 = .ok (.iload_n 2, 1) := by decide +kernel
theorem dX7_fromStore_7 : decode cX7_fromStore 7 = .ok (.if_icmp .ge 12, 3) := by decide +kernel
theorem dX7_fromStore_10 : decode cX7_fromStore 10 = .ok (.aload_n 0, 1) := by decide +kernel
theorem dX7_fromStore_11 : decode cX7_fromStore 11 = .ok (.iload_n 1, 1) := by decide +kernel
theorem dX7_fromStore_12 : decode cX7_fromStore 12 = .ok (.iconst 0, 1) := by decide +kernel
theorem dX7_fromStore_13 : decode cX7_fromStore 13 = .ok (.invokevirtual 65, 3) := by decide +kernel
theorem dX7_fromStore_16 : decode cX7_fromStore 16 = .ok (.goto 4, 3) := by decide +kernel
theorem dX7_fromStore_19 : decode cX7_fromStore 19 = .ok (.iload_n 2, 1) := by decide +kernel
theorem dX7_fromStore_20 : decode cX7_fromStore 20 = .ok (.istore_n 3, 1) := by decide +kernel
theorem dX7_fromStore_21 : decode cX7_fromStore 21 = .ok (.aload_n 0, 1) := by decide +kernel
theorem dX7_fromStore_22 : decode cX7_fromStore 22 = .ok (.iload_n 1, 1) := by decide +kernel
theorem dX7_fromStore_23 : decode cX7_fromStore 23 = .ok (.iload_n 3, 1) := by decide +kernel
theorem dX7_fromStore_24 : decode cX7_fromStore 24 = .ok (.invokevirtual 94, 3) := by decide +kernel
theorem dX7_fromStore_27 : decode cX7_fromStore 27 = .ok (.iload_n 2, 1) := by decide +kernel
theorem dX7_fromStore_28 : decode cX7_fromStore 28 = .ok (.iload_n 3, 1) := by decide +kernel
theorem dX7_fromStore_29 : decode cX7_fromStore 29 = .ok (.isub, 1) := by decide +kernel
theorem dX7_fromStore_30 : decode cX7_fromStore 30 = .ok (.ireturn, 1) := by decide +kernel
set_option maxRecDepth 20000 in
theorem ggX7_take_X7_fromStore : GoodIn wsX7_take wsX7_fromStore := goodIn_r _ [5, 6, 7, 8, 4, 9, 10, 11, 12, 13, 14, 15, 16, 17, 18, 19, 20, 21, 22, 23, 24, 47, 48, 49, 50, 51, 52, 53, 54, 55, 56, 57, 58, 59, 60, 61, 62, 63, 64, 65, 66, 67, 68, 69, 70, 71, 72, 73, 74, 75] (by decide +kernel) (by decide +kernel)
set_option maxRecDepth 20000 in
theorem gX7_take_X7_fromStore : GoodIn wsX7_take (wsV RX7 98 RX7 yX7_fromStore wsX7_fromStore) := goodIn_app (goodIn_of _ (by decide +kernel)) ggX7_take_X7_fromStore
set_option maxRecDepth 20000 in
theorem ggX7_take_X7_isMade : GoodIn wsX7_take wsX7_isMade := goodIn_r _ [28, 6, 7, 8, 4, 9, 10, 47, 48, 49, 50, 51, 52, 53, 54, 55, 56, 57, 58, 59, 60, 61, 62, 63, 64, 65, 66, 67, 68, 69, 70, 71, 72, 73, 74, 75] (by decide +kernel) (by decide +kernel)
set_option maxRecDepth 20000 in
theorem gX7_take_X7_isMade : GoodIn wsX7_take (wsV RX7 72 RX7 yX7_isMade wsX7_isMade) := goodIn_app (goodIn_of _ (by decide +kernel)) ggX7_take_X7_isMade
set_option maxRecDepth 20000 in
theorem ggX7_take_X7_of : GoodIn wsX7_take wsX7_of := goodIn_r _ [9, 10, 47, 48, 49, 50, 51, 52, 53, 54, 55, 56, 57, 58, 59, 60, 61, 62, 63, 64, 65, 66, 67, 68, 69, 70, 71, 72, 73, 74, 75] (by decide +kernel) (by decide +kernel)
set_option maxRecDepth 20000 in
theorem gX7_take_X7_of : GoodIn wsX7_take (wsV RX7 65 RX7 yX7_of wsX7_of) := goodIn_app (goodIn_of _ (by decide +kernel)) ggX7_take_X7_of
set_option maxRecDepth 20000 in
theorem ggX7_take_X7_batchesFor : GoodIn wsX7_take wsX7_batchesFor := goodIn_r _ [32, 6, 7, 8, 4, 9, 10, 47, 48, 49, 50, 51, 52, 53, 54, 55, 56, 57, 58, 59, 60, 61, 62, 63, 64, 65, 66, 67, 68, 69, 70, 71, 72, 73, 74, 75] (by decide +kernel) (by decide +kernel)
set_option maxRecDepth 20000 in
theorem gX7_take_X7_batchesFor : GoodIn wsX7_take (wsV RX7 101 RX7 yX7_batchesFor wsX7_batchesFor) := goodIn_app (goodIn_of _ (by decide +kernel)) ggX7_take_X7_batchesFor
set_option maxRecDepth 20000 in
theorem ggX7_take_X7_begin : GoodIn wsX7_take wsX7_begin := goodIn_r _ [36, 37, 23, 38, 39, 40, 41, 42, 47, 48, 49, 50, 51, 52, 53, 54, 55, 56, 57, 58, 59, 60, 61, 62, 63, 64, 65, 66, 67, 68, 69, 70, 71, 72, 73, 74, 75] (by decide +kernel) (by decide +kernel)
set_option maxRecDepth 20000 in
theorem gX7_take_X7_begin : GoodIn wsX7_take (wsV RX7 104 RX7 yX7_begin wsX7_begin) := goodIn_app (goodIn_of _ (by decide +kernel)) ggX7_take_X7_begin
set_option maxRecDepth 20000 in
theorem ggX7_take_X7_gatherNow : GoodIn wsX7_take wsX7_gatherNow := goodIn_r _ [46, 10, 19, 20, 21, 4, 22, 23, 24, 6, 7, 8, 9, 15, 16, 17, 18, 47, 48, 49, 50, 51, 52, 53, 54, 55, 56, 57, 58, 59, 60, 61, 62, 63, 64, 65, 66, 67, 68, 69, 70, 71, 72, 73, 74, 75] (by decide +kernel) (by decide +kernel)
set_option maxRecDepth 20000 in
theorem gX7_take_X7_gatherNow : GoodIn wsX7_take (wsV RX7 107 RX7 yX7_gatherNow wsX7_gatherNow) := goodIn_app (goodIn_of _ (by decide +kernel)) ggX7_take_X7_gatherNow
set_option maxRecDepth 20000 in
theorem ggX7_take_X7_useUp : GoodIn wsX7_take wsX7_useUp := goodIn_r _ [14, 6, 7, 8, 4, 9, 10, 15, 16, 17, 18, 19, 20, 21, 22, 23, 24, 47, 48, 49, 50, 51, 52, 53, 54, 55, 56, 57, 58, 59, 60, 61, 62, 63, 64, 65, 66, 67, 68, 69, 70, 71, 72, 73, 74, 75] (by decide +kernel) (by decide +kernel)
set_option maxRecDepth 20000 in
theorem gX7_take_X7_useUp : GoodIn wsX7_take (wsV RX7 94 RX7 yX7_useUp wsX7_useUp) := goodIn_app (goodIn_of _ (by decide +kernel)) ggX7_take_X7_useUp
theorem dX7_take_0 : decode cX7_take 0 = .ok (.aload_n 0, 1) := by decide +kernel
theorem dX7_take_1 : decode cX7_take 1 = .ok (.iload_n 1, 1) := by decide +kernel
theorem dX7_take_2 : decode cX7_take 2 = .ok (.iload_n 2, 1) := by decide +kernel
theorem dX7_take_3 : decode cX7_take 3 = .ok (.invokevirtual 98, 3) := by decide +kernel
theorem dX7_take_6 : decode cX7_take 6 = .ok (.istore_n 3, 1) := by decide +kernel
theorem dX7_take_7 : decode cX7_take 7 = .ok (.aload_n 0, 1) := by decide +kernel
theorem dX7_take_8 : decode cX7_take 8 = .ok (.iload_n 1, 1) := by decide +kernel
theorem dX7_take_9 : decode cX7_take 9 = .ok (.invokevirtual 72, 3) := by decide +kernel
theorem dX7_take_12 : decode cX7_take 12 = .ok (.ifCond .eq 7, 3) := by decide +kernel
theorem dX7_take_15 : decode cX7_take 15 = .ok (.iload_n 1, 1) := by decide +kernel
theorem dX7_take_16 : decode cX7_take 16 = .ok (.goto 5, 3) := by decide +kernel
theorem dX7_take_19 : decode cX7_take 19 = .ok (.bipush (-9), 2) := by decide +kernel
theorem dX7_take_21 : decode cX7_take 21 = .ok (.istore 4, 2) := by decide +kernel
theorem dX7_take_23 : decode cX7_take 23 = .ok (.iconst 0, 1) := by decide +kernel
theorem dX7_take_24 : decode cX7_take 24 = .ok (.istore 5, 2) := by decide +kernel
theorem dX7_take_26 : decode cX7_take 26 = .ok (.iload 5, 2) := by decide +kernel
theorem dX7_take_28 : decode cX7_take 28 = .ok (.aload_n 0, 1) := by decide +kernel
theorem dX7_take_29 : decode cX7_take 29 = .ok (.iload_n 1, 1) := by decide +kernel
theorem dX7_take_30 : decode cX7_take 30 = .ok (.bipush 19, 2) := by decide +kernel
theorem dX7_take_32 : decode cX7_take 32 = .ok (.invokevirtual 65, 3) := by decide +kernel
theorem dX7_take_35 : decode cX7_take 35 = .ok (.if_icmp .ge 54, 3) := by decide +kernel
theorem dX7_take_38 : decode cX7_take 38 = .ok (.aload_n 0, 1) := by decide +kernel
theorem dX7_take_39 : decode cX7_take 39 = .ok (.iload_n 1, 1) := by decide +kernel
theorem dX7_take_40 : decode cX7_take 40 = .ok (.bipush 20, 2) := by decide +kernel
theorem dX7_take_42 : decode cX7_take 42 = .ok (.iload 5, 2) := by decide +kernel
theorem dX7_take_44 : decode cX7_take 44 = .ok (.iadd, 1) := by decide +kernel
theorem dX7_take_45 : decode cX7_take 45 = .ok (.invokevirtual 65, 3) := by decide +kernel
theorem dX7_take_48 : decode cX7_take 48 = .ok (.istore 6, 2) := by decide +kernel
theorem dX7_take_50 : decode cX7_take 50 = .ok (.aload_n 0, 1) := by decide +kernel
theorem dX7_take_51 : decode cX7_take 51 = .ok (.iload 6, 2) := by decide +kernel
theorem dX7_take_53 : decode cX7_take 53 = .ok (.iload_n 3, 1) := by decide +kernel
theorem dX7_take_54 : decode cX7_take 54 = .ok (.invokevirtual 98, 3) := by decide +kernel
theorem dX7_take_57 : decode cX7_take 57 = .ok (.istore_n 3, 1) := by decide +kernel
theorem dX7_take_58 : decode cX7_take 58 = .ok (.iload 4, 2) := by decide +kernel
theorem dX7_take_60 : decode cX7_take 60 = .ok (.bipush (-9), 2) := by decide +kernel
theorem dX7_take_62 : decode cX7_take 62 = .ok (.if_icmp .ne 17, 3) := by decide +kernel
theorem dX7_take_65 : decode cX7_take 65 = .ok (.aload_n 0, 1) := by decide +kernel
theorem dX7_take_66 : decode cX7_take 66 = .ok (.iload 6, 2) := by decide +kernel
theorem dX7_take_68 : decode cX7_take 68 = .ok (.invokevirtual 72, 3) := by decide +kernel
theorem dX7_take_71 : decode cX7_take 71 = .ok (.ifCond .eq 8, 3) := by decide +kernel
theorem dX7_take_74 : decode cX7_take 74 = .ok (.iload 6, 2) := by decide +kernel
theorem dX7_take_76 : decode cX7_take 76 = .ok (.goto 5, 3) := by decide +kernel
theorem dX7_take_79 : decode cX7_take 79 = .ok (.iload 4, 2) := by decide +kernel
theorem dX7_take_81 : decode cX7_take 81 = .ok (.istore 4, 2) := by decide +kernel
theorem dX7_take_83 : decode cX7_take 83 = .ok (.iinc 5 1, 3) := by decide +kernel
theorem dX7_take_86 : decode cX7_take 86 = .ok (.goto (-60), 3) := by decide +kernel
theorem dX7_take_89 : decode cX7_take 89 = .ok (.iload_n 3, 1) := by decide +kernel
theorem dX7_take_90 : decode cX7_take 90 = .ok (.ifCond .le 27, 3) := by decide +kernel
theorem dX7_take_93 : decode cX7_take 93 = .ok (.iload 4, 2) := by decide +kernel
theorem dX7_take_95 : decode cX7_take 95 = .ok (.bipush (-9), 2) := by decide +kernel
theorem dX7_take_97 : decode cX7_take 97 = .ok (.if_icmp .eq 20, 3) := by decide +kernel
theorem dX7_take_100 : decode cX7_take 100 = .ok (.aload_n 0, 1) := by decide +kernel
theorem dX7_take_101 : decode cX7_take 101 = .ok (.iload 4, 2) := by decide +kernel
theorem dX7_take_103 : decode cX7_take 103 = .ok (.aload_n 0, 1) := by decide +kernel
theorem dX7_take_104 : decode cX7_take 104 = .ok (.iload 4, 2) := by decide +kernel
theorem dX7_take_106 : decode cX7_take 106 = .ok (.iload_n 3, 1) := by decide +kernel
theorem dX7_take_107 : decode cX7_take 107 = .ok (.invokevirtual 101, 3) := by decide +kernel
theorem dX7_take_110 : decode cX7_take 110 = .ok (.iload_n 3, 1) := by decide +kernel
theorem dX7_take_111 : decode cX7_take 111 = .ok (.invokevirtual 104, 3) := by decide +kernel
theorem dX7_take_114 : decode cX7_take 114 = .ok (.goto 19, 3) := by decide +kernel
theorem dX7_take_117 : decode cX7_take 117 = .ok (.iload_n 3, 1) := by decide +kernel
theorem dX7_take_118 : decode cX7_take 118 = .ok (.ifCond .le 15, 3) := by decide +kernel
theorem dX7_take_121 : decode cX7_take 121 = .ok (.aload_n 0, 1) := by decide +kernel
theorem dX7_take_122 : decode cX7_take 122 = .ok (.iload_n 1, 1) := by decide +kernel
theorem dX7_take_123 : decode cX7_take 123 = .ok (.iload_n 3, 1) := by decide +kernel
theorem dX7_take_124 : decode cX7_take 124 = .ok (.invokevirtual 107, 3) := by decide +kernel
theorem dX7_take_127 : decode cX7_take 127 = .ok (.aload_n 0, 1) := by decide +kernel
theorem dX7_take_128 : decode cX7_take 128 = .ok (.iload_n 1, 1) := by decide +kernel
theorem dX7_take_129 : decode cX7_take 129 = .ok (.iload_n 3, 1) := by decide +kernel
theorem dX7_take_130 : decode cX7_take 130 = .ok (.invokevirtual 94, 3) := by decide +kernel
theorem dX7_take_133 : decode cX7_take 133 = .ok (.return_, 1) := by decide +kernel
set_option maxRecDepth 20000 in
theorem ggX7_makeBegun_X7_of : GoodIn wsX7_makeBegun wsX7_of := goodIn_r _ [12, 6, 59, 60, 61, 62, 63, 64, 65, 66, 67, 68, 69, 70, 71, 72, 73, 74, 75, 76, 77, 78, 79, 80, 81, 82, 83, 84, 85, 86, 87] (by decide +kernel) (by decide +kernel)
set_option maxRecDepth 20000 in
theorem gX7_makeBegun_X7_of : GoodIn wsX7_makeBegun (wsV RX7 65 RX7 yX7_of wsX7_of) := goodIn_app (goodIn_of _ (by decide +kernel)) ggX7_makeBegun_X7_of
set_option maxRecDepth 20000 in
theorem ggX7_makeBegun_X7_ingredientOf : GoodIn wsX7_makeBegun wsX7_ingredientOf := goodIn_r _ [16, 8, 9, 10, 11, 12, 6, 59, 60, 61, 62, 63, 64, 65, 66, 67, 68, 69, 70, 71, 72, 73, 74, 75, 76, 77, 78, 79, 80, 81, 82, 83, 84, 85, 86, 87] (by decide +kernel) (by decide +kernel)
set_option maxRecDepth 20000 in
theorem gX7_makeBegun_X7_ingredientOf : GoodIn wsX7_makeBegun (wsV RX7 69 RX7 yX7_ingredientOf wsX7_ingredientOf) := goodIn_app (goodIn_of _ (by decide +kernel)) ggX7_makeBegun_X7_ingredientOf
set_option maxRecDepth 20000 in
theorem ggX7_makeBegun_X7_amountOf : GoodIn wsX7_makeBegun wsX7_amountOf := goodIn_r _ [20, 8, 9, 10, 11, 12, 6, 59, 60, 61, 62, 63, 64, 65, 66, 67, 68, 69, 70, 71, 72, 73, 74, 75, 76, 77, 78, 79, 80, 81, 82, 83, 84, 85, 86, 87] (by decide +kernel) (by decide +kernel)
set_option maxRecDepth 20000 in
theorem gX7_makeBegun_X7_amountOf : GoodIn wsX7_makeBegun (wsV RX7 110 RX7 yX7_amountOf wsX7_amountOf) := goodIn_app (goodIn_of _ (by decide +kernel)) ggX7_makeBegun_X7_amountOf
set_option maxRecDepth 20000 in
theorem ggX7_makeBegun_X7_take : GoodIn wsX7_makeBegun wsX7_take := goodIn_r _ [24, 25, 26, 27, 11, 28, 8, 9, 10, 12, 6, 29, 30, 31, 32, 33, 34, 35, 36, 37, 38, 39, 40, 2, 41, 42, 43, 44, 45, 46, 47, 48, 49, 50, 51, 52, 53, 54, 4, 1, 5, 3, 7, 55, 56, 57, 58, 59, 60, 61, 62, 63, 64, 65, 66, 67, 68, 69, 70, 71, 72, 73, 74, 75, 76, 77, 78, 79, 80, 81, 82, 83, 84, 85, 86, 87] (by decide +kernel) (by decide +kernel)
set_option maxRecDepth 20000 in
theorem gX7_makeBegun_X7_take : GoodIn wsX7_makeBegun (wsV RX7 113 RX7 yX7_take wsX7_take) := goodIn_app (goodIn_of _ (by decide +kernel)) ggX7_makeBegun_X7_take
set_option maxRecDepth 20000 in
theorem ggX7_makeBegun_X7_come : GoodIn wsX7_makeBegun wsX7_come := goodIn_r _ [40, 2, 41, 8, 9, 10, 11, 12, 6, 33, 34, 35, 36, 59, 60, 61, 62, 63, 64, 65, 66, 67, 68, 69, 70, 71, 72, 73, 74, 75, 76, 77, 78, 79, 80, 81, 82, 83, 84, 85, 86, 87] (by decide +kernel) (by decide +kernel)
set_option maxRecDepth 20000 in
theorem gX7_makeBegun_X7_come : GoodIn wsX7_makeBegun (wsV RX7 85 RX7 yX7_come wsX7_come) := goodIn_app (goodIn_of _ (by decide +kernel)) ggX7_makeBegun_X7_come
set_option maxRecDepth 20000 in
theorem ggX7_makeBegun_X7_useUp : GoodIn wsX7_makeBegun wsX7_useUp := goodIn_r _ [32, 8, 9, 10, 11, 12, 6, 33, 34, 35, 36, 37, 38, 39, 40, 2, 41, 59, 60, 61, 62, 63, 64, 65, 66, 67, 68, 69, 70, 71, 72, 73, 74, 75, 76, 77, 78, 79, 80, 81, 82, 83, 84, 85, 86, 87] (by decide +kernel) (by decide +kernel)
set_option maxRecDepth 20000 in
theorem gX7_makeBegun_X7_useUp : GoodIn wsX7_makeBegun (wsV RX7 94 RX7 yX7_useUp wsX7_useUp) := goodIn_app (goodIn_of _ (by decide +kernel)) ggX7_makeBegun_X7_useUp
theorem dX7_makeBegun_0 : decode cX7_makeBegun 0 = .ok (.aload_n 0, 1) := by decide +kernel
theorem dX7_makeBegun_1 : decode cX7_makeBegun 1 = .ok (.getfield 91, 3) := by decide +kernel
theorem dX7_makeBegun_4 : decode cX7_makeBegun 4 = .ok (.ifCond .le 167, 3) := by decide +kernel
theorem dX7_makeBegun_7 : decode cX7_makeBegun 7 = .ok (.aload_n 0, 1) := by decide +kernel
theorem dX7_makeBegun_8 : decode cX7_makeBegun 8 = .ok (.getfield 80, 3) := by decide +kernel
theorem dX7_makeBegun_11 : decode cX7_makeBegun 11 = .ok (.ifCond .ne 160, 3) := by decide +kernel
theorem dX7_makeBegun_14 : decode cX7_makeBegun 14 = .ok (.aload_n 0, 1) := by decide +kernel
theorem dX7_makeBegun_15 : decode cX7_makeBegun 15 = .ok (.getfield 91, 3) := by decide +kernel
theorem dX7_makeBegun_18 : decode cX7_makeBegun 18 = .ok (.iconst 1, 1) := by decide +kernel
theorem dX7_makeBegun_19 : decode cX7_makeBegun 19 = .ok (.isub, 1) := by decide +kernel
theorem dX7_makeBegun_20 : decode cX7_makeBegun 20 = .ok (.istore_n 1, 1) := by decide +kernel
theorem dX7_makeBegun_21 : decode cX7_makeBegun 21 = .ok (.aload_n 0, 1) := by decide +kernel
theorem dX7_makeBegun_22 : decode cX7_makeBegun 22 = .ok (.getfield 38, 3) := by decide +kernel
theorem dX7_makeBegun_25 : decode cX7_makeBegun 25 = .ok (.iload_n 1, 1) := by decide +kernel
theorem dX7_makeBegun_26 : decode cX7_makeBegun 26 = .ok (.iaload, 1) := by decide +kernel
theorem dX7_makeBegun_27 : decode cX7_makeBegun 27 = .ok (.aload_n 0, 1) := by decide +kernel
theorem dX7_makeBegun_28 : decode cX7_makeBegun 28 = .ok (.aload_n 0, 1) := by decide +kernel
theorem dX7_makeBegun_29 : decode cX7_makeBegun 29 = .ok (.getfield 32, 3) := by decide +kernel
theorem dX7_makeBegun_32 : decode cX7_makeBegun 32 = .ok (.iload_n 1, 1) := by decide +kernel
theorem dX7_makeBegun_33 : decode cX7_makeBegun 33 = .ok (.iaload, 1) := by decide +kernel
theorem dX7_makeBegun_34 : decode cX7_makeBegun 34 = .ok (.bipush 8, 2) := by decide +kernel
theorem dX7_makeBegun_36 : decode cX7_makeBegun 36 = .ok (.invokevirtual 65, 3) := by decide +kernel
theorem dX7_makeBegun_39 : decode cX7_makeBegun 39 = .ok (.if_icmp .ge 56, 3) := by decide +kernel
theorem dX7_makeBegun_42 : decode cX7_makeBegun 42 = .ok (.aload_n 0, 1) := by decide +kernel
theorem dX7_makeBegun_43 : decode cX7_makeBegun 43 = .ok (.getfield 38, 3) := by decide +kernel
theorem dX7_makeBegun_46 : decode cX7_makeBegun 46 = .ok (.iload_n 1, 1) := by decide +kernel
theorem dX7_makeBegun_47 : decode cX7_makeBegun 47 = .ok (.iaload, 1) := by decide +kernel
theorem dX7_makeBegun_48 : decode cX7_makeBegun 48 = .ok (.istore_n 2, 1) := by decide +kernel
theorem dX7_makeBegun_49 : decode cX7_makeBegun 49 = .ok (.aload_n 0, 1) := by decide +kernel
theorem dX7_makeBegun_50 : decode cX7_makeBegun 50 = .ok (.getfield 38, 3) := by decide +kernel
theorem dX7_makeBegun_53 : decode cX7_makeBegun 53 = .ok (.iload_n 1, 1) := by decide +kernel
theorem dX7_makeBegun_54 : decode cX7_makeBegun 54 = .ok (.dup2, 1) := by decide +kernel
theorem dX7_makeBegun_55 : decode cX7_makeBegun 55 = .ok (.iaload, 1) := by decide +kernel
theorem dX7_makeBegun_56 : decode cX7_makeBegun 56 = .ok (.iconst 1, 1) := by decide +kernel
theorem dX7_makeBegun_57 : decode cX7_makeBegun 57 = .ok (.iadd, 1) := by decide +kernel
theorem dX7_makeBegun_58 : decode cX7_makeBegun 58 = .ok (.iastore, 1) := by decide +kernel
theorem dX7_makeBegun_59 : decode cX7_makeBegun 59 = .ok (.aload_n 0, 1) := by decide +kernel
theorem dX7_makeBegun_60 : decode cX7_makeBegun 60 = .ok (.aload_n 0, 1) := by decide +kernel
theorem dX7_makeBegun_61 : decode cX7_makeBegun 61 = .ok (.aload_n 0, 1) := by decide +kernel
theorem dX7_makeBegun_62 : decode cX7_makeBegun 62 = .ok (.getfield 32, 3) := by decide +kernel
theorem dX7_makeBegun_65 : decode cX7_makeBegun 65 = .ok (.iload_n 1, 1) := by decide +kernel
theorem dX7_makeBegun_66 : decode cX7_makeBegun 66 = .ok (.iaload, 1) := by decide +kernel
theorem dX7_makeBegun_67 : decode cX7_makeBegun 67 = .ok (.iload_n 2, 1) := by decide +kernel
theorem dX7_makeBegun_68 : decode cX7_makeBegun 68 = .ok (.invokevirtual 69, 3) := by decide +kernel
theorem dX7_makeBegun_71 : decode cX7_makeBegun 71 = .ok (.aload_n 0, 1) := by decide +kernel
theorem dX7_makeBegun_72 : decode cX7_makeBegun 72 = .ok (.aload_n 0, 1) := by decide +kernel
theorem dX7_makeBegun_73 : decode cX7_makeBegun 73 = .ok (.getfield 32, 3) := by decide +kernel
theorem dX7_makeBegun_76 : decode cX7_makeBegun 76 = .ok (.iload_n 1, 1) := by decide +kernel
theorem dX7_makeBegun_77 : decode cX7_makeBegun 77 = .ok (.iaload, 1) := by decide +kernel
theorem dX7_makeBegun_78 : decode cX7_makeBegun 78 = .ok (.iload_n 2, 1) := by decide +kernel
theorem dX7_makeBegun_79 : decode cX7_makeBegun 79 = .ok (.invokevirtual 110, 3) := by decide +kernel
theorem dX7_makeBegun_82 : decode cX7_makeBegun 82 = .ok (.aload_n 0, 1) := by decide +kernel
theorem dX7_makeBegun_83 : decode cX7_makeBegun 83 = .ok (.getfield 35, 3) := by decide +kernel
theorem dX7_makeBegun_86 : decode cX7_makeBegun 86 = .ok (.iload_n 1, 1) := by decide +kernel
theorem dX7_makeBegun_87 : decode cX7_makeBegun 87 = .ok (.iaload, 1) := by decide +kernel
theorem dX7_makeBegun_88 : decode cX7_makeBegun 88 = .ok (.imul, 1) := by decide +kernel
theorem dX7_makeBegun_89 : decode cX7_makeBegun 89 = .ok (.invokevirtual 113, 3) := by decide +kernel
theorem dX7_makeBegun_92 : decode cX7_makeBegun 92 = .ok (.goto 76, 3) := by decide +kernel
theorem dX7_makeBegun_95 : decode cX7_makeBegun 95 = .ok (.aload_n 0, 1) := by decide +kernel
theorem dX7_makeBegun_96 : decode cX7_makeBegun 96 = .ok (.aload_n 0, 1) := by decide +kernel
theorem dX7_makeBegun_97 : decode cX7_makeBegun 97 = .ok (.getfield 32, 3) := by decide +kernel
theorem dX7_makeBegun_100 : decode cX7_makeBegun 100 = .ok (.iload_n 1, 1) := by decide +kernel
theorem dX7_makeBegun_101 : decode cX7_makeBegun 101 = .ok (.iaload, 1) := by decide +kernel
theorem dX7_makeBegun_102 : decode cX7_makeBegun 102 = .ok (.aload_n 0, 1) := by decide +kernel
theorem dX7_makeBegun_103 : decode cX7_makeBegun 103 = .ok (.aload_n 0, 1) := by decide +kernel
theorem dX7_makeBegun_104 : decode cX7_makeBegun 104 = .ok (.getfield 32, 3) := by decide +kernel
theorem dX7_makeBegun_107 : decode cX7_makeBegun 107 = .ok (.iload_n 1, 1) := by decide +kernel
theorem dX7_makeBegun_108 : decode cX7_makeBegun 108 = .ok (.iaload, 1) := by decide +kernel
theorem dX7_makeBegun_109 : decode cX7_makeBegun 109 = .ok (.bipush 7, 2) := by decide +kernel
theorem dX7_makeBegun_111 : decode cX7_makeBegun 111 = .ok (.invokevirtual 65, 3) := by decide +kernel
theorem dX7_makeBegun_114 : decode cX7_makeBegun 114 = .ok (.aload_n 0, 1) := by decide +kernel
theorem dX7_makeBegun_115 : decode cX7_makeBegun 115 = .ok (.getfield 35, 3) := by decide +kernel
theorem dX7_makeBegun_118 : decode cX7_makeBegun 118 = .ok (.iload_n 1, 1) := by decide +kernel
theorem dX7_makeBegun_119 : decode cX7_makeBegun 119 = .ok (.iaload, 1) := by decide +kernel
theorem dX7_makeBegun_120 : decode cX7_makeBegun 120 = .ok (.imul, 1) := by decide +kernel
theorem dX7_makeBegun_121 : decode cX7_makeBegun 121 = .ok (.iconst 3, 1) := by decide +kernel
theorem dX7_makeBegun_122 : decode cX7_makeBegun 122 = .ok (.invokevirtual 85, 3) := by decide +kernel
theorem dX7_makeBegun_125 : decode cX7_makeBegun 125 = .ok (.aload_n 0, 1) := by decide +kernel
theorem dX7_makeBegun_126 : decode cX7_makeBegun 126 = .ok (.getfield 7, 3) := by decide +kernel
theorem dX7_makeBegun_129 : decode cX7_makeBegun 129 = .ok (.sipush 461, 3) := by decide +kernel
theorem dX7_makeBegun_132 : decode cX7_makeBegun 132 = .ok (.dup2, 1) := by decide +kernel
theorem dX7_makeBegun_133 : decode cX7_makeBegun 133 = .ok (.iaload, 1) := by decide +kernel
theorem dX7_makeBegun_134 : decode cX7_makeBegun 134 = .ok (.aload_n 0, 1) := by decide +kernel
theorem dX7_makeBegun_135 : decode cX7_makeBegun 135 = .ok (.getfield 35, 3) := by decide +kernel
theorem dX7_makeBegun_138 : decode cX7_makeBegun 138 = .ok (.iload_n 1, 1) := by decide +kernel
theorem dX7_makeBegun_139 : decode cX7_makeBegun 139 = .ok (.iaload, 1) := by decide +kernel
theorem dX7_makeBegun_140 : decode cX7_makeBegun 140 = .ok (.iadd, 1) := by decide +kernel
theorem dX7_makeBegun_141 : decode cX7_makeBegun 141 = .ok (.iastore, 1) := by decide +kernel
theorem dX7_makeBegun_142 : decode cX7_makeBegun 142 = .ok (.aload_n 0, 1) := by decide +kernel
theorem dX7_makeBegun_143 : decode cX7_makeBegun 143 = .ok (.aload_n 0, 1) := by decide +kernel
theorem dX7_makeBegun_144 : decode cX7_makeBegun 144 = .ok (.getfield 32, 3) := by decide +kernel
theorem dX7_makeBegun_147 : decode cX7_makeBegun 147 = .ok (.iload_n 1, 1) := by decide +kernel
theorem dX7_makeBegun_148 : decode cX7_makeBegun 148 = .ok (.iaload, 1) := by decide +kernel
theorem dX7_makeBegun_149 : decode cX7_makeBegun 149 = .ok (.aload_n 0, 1) := by decide +kernel
theorem dX7_makeBegun_150 : decode cX7_makeBegun 150 = .ok (.getfield 41, 3) := by decide +kernel
theorem dX7_makeBegun_153 : decode cX7_makeBegun 153 = .ok (.iload_n 1, 1) := by decide +kernel
theorem dX7_makeBegun_154 : decode cX7_makeBegun 154 = .ok (.iaload, 1) := by decide +kernel
theorem dX7_makeBegun_155 : decode cX7_makeBegun 155 = .ok (.invokevirtual 94, 3) := by decide +kernel
theorem dX7_makeBegun_158 : decode cX7_makeBegun 158 = .ok (.aload_n 0, 1) := by decide +kernel
theorem dX7_makeBegun_159 : decode cX7_makeBegun 159 = .ok (.dup, 1) := by decide +kernel
theorem dX7_makeBegun_160 : decode cX7_makeBegun 160 = .ok (.getfield 91, 3) := by decide +kernel
theorem dX7_makeBegun_163 : decode cX7_makeBegun 163 = .ok (.iconst 1, 1) := by decide +kernel
theorem dX7_makeBegun_164 : decode cX7_makeBegun 164 = .ok (.isub, 1) := by decide +kernel
theorem dX7_makeBegun_165 : decode cX7_makeBegun 165 = .ok (.putfield 91, 3) := by decide +kernel
theorem dX7_makeBegun_168 : decode cX7_makeBegun 168 = .ok (.goto (-168), 3) := by decide +kernel
theorem dX7_makeBegun_171 : decode cX7_makeBegun 171 = .ok (.return_, 1) := by decide +kernel
theorem dX7_beginMaking_0 : decode cX7_beginMaking 0 = .ok (.aload_n 0, 1) := by decide +kernel
theorem dX7_beginMaking_1 : decode cX7_beginMaking 1 = .ok (.iconst 0, 1) := by decide +kernel
theorem dX7_beginMaking_2 : decode cX7_beginMaking 2 = .ok (.putfield 91, 3) := by decide +kernel
theorem dX7_beginMaking_5 : decode cX7_beginMaking 5 = .ok (.aload_n 0, 1) := by decide +kernel
theorem dX7_beginMaking_6 : decode cX7_beginMaking 6 = .ok (.iconst 0, 1) := by decide +kernel
theorem dX7_beginMaking_7 : decode cX7_beginMaking 7 = .ok (.putfield 88, 3) := by decide +kernel
theorem dX7_beginMaking_10 : decode cX7_beginMaking 10 = .ok (.aload_n 0, 1) := by decide +kernel
theorem dX7_beginMaking_11 : decode cX7_beginMaking 11 = .ok (.iconst 0, 1) := by decide +kernel
theorem dX7_beginMaking_12 : decode cX7_beginMaking 12 = .ok (.putfield 80, 3) := by decide +kernel
theorem dX7_beginMaking_15 : decode cX7_beginMaking 15 = .ok (.return_, 1) := by decide +kernel
set_option maxRecDepth 20000 in
theorem ggX7_wishNow_X7_beginMaking : GoodIn wsX7_wishNow wsX7_beginMaking := goodIn_r _ [5, 6, 7, 8, 67, 68, 69, 70, 71, 72, 73, 74, 75, 76, 77, 78, 79, 80, 81, 82, 83, 84, 85, 86, 87, 88, 89, 90, 91, 92, 93, 94, 95] (by decide +kernel) (by decide +kernel)
set_option maxRecDepth 20000 in
theorem gX7_wishNow_X7_beginMaking : GoodIn wsX7_wishNow (wsV RX7 116 RX7 yX7_beginMaking wsX7_beginMaking) := goodIn_app (goodIn_of _ (by decide +kernel)) ggX7_wishNow_X7_beginMaking
set_option maxRecDepth 20000 in
theorem ggX7_wishNow_X7_of : GoodIn wsX7_wishNow wsX7_of := goodIn_r _ [12, 13, 67, 68, 69, 70, 71, 72, 73, 74, 75, 76, 77, 78, 79, 80, 81, 82, 83, 84, 85, 86, 87, 88, 89, 90, 91, 92, 93, 94, 95] (by decide +kernel) (by decide +kernel)
set_option maxRecDepth 20000 in
theorem gX7_wishNow_X7_of : GoodIn wsX7_wishNow (wsV RX7 65 RX7 yX7_of wsX7_of) := goodIn_app (goodIn_of _ (by decide +kernel)) ggX7_wishNow_X7_of
set_option maxRecDepth 20000 in
theorem ggX7_wishNow_X7_isMade : GoodIn wsX7_wishNow wsX7_isMade := goodIn_r _ [17, 9, 10, 11, 4, 12, 13, 67, 68, 69, 70, 71, 72, 73, 74, 75, 76, 77, 78, 79, 80, 81, 82, 83, 84, 85, 86, 87, 88, 89, 90, 91, 92, 93, 94, 95] (by decide +kernel) (by decide +kernel)
set_option maxRecDepth 20000 in
theorem gX7_wishNow_X7_isMade : GoodIn wsX7_wishNow (wsV RX7 72 RX7 yX7_isMade wsX7_isMade) := goodIn_app (goodIn_of _ (by decide +kernel)) ggX7_wishNow_X7_isMade
set_option maxRecDepth 20000 in
theorem ggX7_wishNow_X7_batchesFor : GoodIn wsX7_wishNow wsX7_batchesFor := goodIn_r _ [21, 9, 10, 11, 4, 12, 13, 67, 68, 69, 70, 71, 72, 73, 74, 75, 76, 77, 78, 79, 80, 81, 82, 83, 84, 85, 86, 87, 88, 89, 90, 91, 92, 93, 94, 95] (by decide +kernel) (by decide +kernel)
set_option maxRecDepth 20000 in
theorem gX7_wishNow_X7_batchesFor : GoodIn wsX7_wishNow (wsV RX7 101 RX7 yX7_batchesFor wsX7_batchesFor) := goodIn_app (goodIn_of _ (by decide +kernel)) ggX7_wishNow_X7_batchesFor
set_option maxRecDepth 20000 in
theorem ggX7_wishNow_X7_begin : GoodIn wsX7_wishNow wsX7_begin := goodIn_r _ [25, 7, 8, 26, 6, 27, 28, 29, 67, 68, 69, 70, 71, 72, 73, 74, 75, 76, 77, 78, 79, 80, 81, 82, 83, 84, 85, 86, 87, 88, 89, 90, 91, 92, 93, 94, 95] (by decide +kernel) (by decide +kernel)
set_option maxRecDepth 20000 in
theorem gX7_wishNow_X7_begin : GoodIn wsX7_wishNow (wsV RX7 104 RX7 yX7_begin wsX7_begin) := goodIn_app (goodIn_of _ (by decide +kernel)) ggX7_wishNow_X7_begin
set_option maxRecDepth 20000 in
theorem ggX7_wishNow_X7_makeBegun : GoodIn wsX7_wishNow wsX7_makeBegun := goodIn_r _ [33, 6, 8, 28, 26, 27, 13, 29, 9, 10, 11, 4, 12, 34, 35, 36, 37, 38, 39, 40, 41, 42, 43, 44, 45, 46, 47, 48, 49, 50, 51, 52, 53, 54, 55, 56, 57, 58, 59, 60, 61, 62, 14, 15, 16, 17, 18, 19, 20, 21, 22, 23, 24, 25, 7, 63, 64, 65, 66, 67, 68, 69, 70, 71, 72, 73, 74, 75, 76, 77, 78, 79, 80, 81, 82, 83, 84, 85, 86, 87, 88, 89, 90, 91, 92, 93, 94, 95] (by decide +kernel) (by decide +kernel)
set_option maxRecDepth 20000 in
theorem gX7_wishNow_X7_makeBegun : GoodIn wsX7_wishNow (wsV RX7 119 RX7 yX7_makeBegun wsX7_makeBegun) := goodIn_app (goodIn_of _ (by decide +kernel)) ggX7_wishNow_X7_makeBegun
set_option maxRecDepth 20000 in
theorem ggX7_wishNow_X7_gatherNow : GoodIn wsX7_wishNow wsX7_gatherNow := goodIn_r _ [66, 13, 58, 59, 60, 4, 61, 8, 62, 9, 10, 11, 12, 54, 55, 56, 57, 67, 68, 69, 70, 71, 72, 73, 74, 75, 76, 77, 78, 79, 80, 81, 82, 83, 84, 85, 86, 87, 88, 89, 90, 91, 92, 93, 94, 95] (by decide +kernel) (by decide +kernel)
set_option maxRecDepth 20000 in
theorem gX7_wishNow_X7_gatherNow : GoodIn wsX7_wishNow (wsV RX7 107 RX7 yX7_gatherNow wsX7_gatherNow) := goodIn_app (goodIn_of _ (by decide +kernel)) ggX7_wishNow_X7_gatherNow
theorem dX7_wishNow_0 : decode cX7_wishNow 0 = .ok (.aload_n 0, 1) := by decide +kernel
theorem dX7_wishNow_1 : decode cX7_wishNow 1 = .ok (.invokevirtual 116, 3) := by decide +kernel
theorem dX7_wishNow_4 : decode cX7_wishNow 4 = .ok (.iload_n 2, 1) := by decide +kernel
theorem dX7_wishNow_5 : decode cX7_wishNow 5 = .ok (.aload_n 0, 1) := by decide +kernel
theorem dX7_wishNow_6 : decode cX7_wishNow 6 = .ok (.iload_n 1, 1) := by decide +kernel
theorem dX7_wishNow_7 : decode cX7_wishNow 7 = .ok (.iconst 0, 1) := by decide +kernel
theorem dX7_wishNow_8 : decode cX7_wishNow 8 = .ok (.invokevirtual 65, 3) := by decide +kernel
theorem dX7_wishNow_11 : decode cX7_wishNow 11 = .ok (.isub, 1) := by decide +kernel
theorem dX7_wishNow_12 : decode cX7_wishNow 12 = .ok (.istore_n 3, 1) := by decide +kernel
theorem dX7_wishNow_13 : decode cX7_wishNow 13 = .ok (.iload_n 3, 1) := by decide +kernel
theorem dX7_wishNow_14 : decode cX7_wishNow 14 = .ok (.ifCond .le 30, 3) := by decide +kernel
theorem dX7_wishNow_17 : decode cX7_wishNow 17 = .ok (.aload_n 0, 1) := by decide +kernel
theorem dX7_wishNow_18 : decode cX7_wishNow 18 = .ok (.iload_n 1, 1) := by decide +kernel
theorem dX7_wishNow_19 : decode cX7_wishNow 19 = .ok (.invokevirtual 72, 3) := by decide +kernel
theorem dX7_wishNow_22 : decode cX7_wishNow 22 = .ok (.ifCond .eq 22, 3) := by decide +kernel
theorem dX7_wishNow_25 : decode cX7_wishNow 25 = .ok (.aload_n 0, 1) := by decide +kernel
theorem dX7_wishNow_26 : decode cX7_wishNow 26 = .ok (.iload_n 1, 1) := by decide +kernel
theorem dX7_wishNow_27 : decode cX7_wishNow 27 = .ok (.aload_n 0, 1) := by decide +kernel
theorem dX7_wishNow_28 : decode cX7_wishNow 28 = .ok (.iload_n 1, 1) := by decide +kernel
theorem dX7_wishNow_29 : decode cX7_wishNow 29 = .ok (.iload_n 3, 1) := by decide +kernel
theorem dX7_wishNow_30 : decode cX7_wishNow 30 = .ok (.invokevirtual 101, 3) := by decide +kernel
theorem dX7_wishNow_33 : decode cX7_wishNow 33 = .ok (.iconst 0, 1) := by decide +kernel
theorem dX7_wishNow_34 : decode cX7_wishNow 34 = .ok (.invokevirtual 104, 3) := by decide +kernel
theorem dX7_wishNow_37 : decode cX7_wishNow 37 = .ok (.aload_n 0, 1) := by decide +kernel
theorem dX7_wishNow_38 : decode cX7_wishNow 38 = .ok (.invokevirtual 119, 3) := by decide +kernel
theorem dX7_wishNow_41 : decode cX7_wishNow 41 = .ok (.goto 13, 3) := by decide +kernel
theorem dX7_wishNow_44 : decode cX7_wishNow 44 = .ok (.iload_n 3, 1) := by decide +kernel
theorem dX7_wishNow_45 : decode cX7_wishNow 45 = .ok (.ifCond .le 9, 3) := by decide +kernel
theorem dX7_wishNow_48 : decode cX7_wishNow 48 = .ok (.aload_n 0, 1) := by decide +kernel
theorem dX7_wishNow_49 : decode cX7_wishNow 49 = .ok (.iload_n 1, 1) := by decide +kernel
theorem dX7_wishNow_50 : decode cX7_wishNow 50 = .ok (.iload_n 3, 1) := by decide +kernel
theorem dX7_wishNow_51 : decode cX7_wishNow 51 = .ok (.invokevirtual 107, 3) := by decide +kernel
theorem dX7_wishNow_54 : decode cX7_wishNow 54 = .ok (.return_, 1) := by decide +kernel
theorem dX7_hold_0 : decode cX7_hold 0 = .ok (.iconst 0, 1) := by decide +kernel
theorem dX7_hold_1 : decode cX7_hold 1 = .ok (.istore_n 1, 1) := by decide +kernel
theorem dX7_hold_2 : decode cX7_hold 2 = .ok (.iload_n 1, 1) := by decide +kernel
theorem dX7_hold_3 : decode cX7_hold 3 = .ok (.sipush 462, 3) := by decide +kernel
theorem dX7_hold_6 : decode cX7_hold 6 = .ok (.if_icmp .ge 21, 3) := by decide +kernel
theorem dX7_hold_9 : decode cX7_hold 9 = .ok (.aload_n 0, 1) := by decide +kernel
theorem dX7_hold_10 : decode cX7_hold 10 = .ok (.getfield 44, 3) := by decide +kernel
theorem dX7_hold_13 : decode cX7_hold 13 = .ok (.iload_n 1, 1) := by decide +kernel
theorem dX7_hold_14 : decode cX7_hold 14 = .ok (.aload_n 0, 1) := by decide +kernel
theorem dX7_hold_15 : decode cX7_hold 15 = .ok (.getfield 7, 3) := by decide +kernel
theorem dX7_hold_18 : decode cX7_hold 18 = .ok (.iload_n 1, 1) := by decide +kernel
theorem dX7_hold_19 : decode cX7_hold 19 = .ok (.iaload, 1) := by decide +kernel
theorem dX7_hold_20 : decode cX7_hold 20 = .ok (.iastore, 1) := by decide +kernel
theorem dX7_hold_21 : decode cX7_hold 21 = .ok (.iinc 1 1, 3) := by decide +kernel
theorem dX7_hold_24 : decode cX7_hold 24 = .ok (.goto (-22), 3) := by decide +kernel
theorem dX7_hold_27 : decode cX7_hold 27 = .ok (.return_, 1) := by decide +kernel
theorem dX7_restore_0 : decode cX7_restore 0 = .ok (.iconst 0, 1) := by decide +kernel
theorem dX7_restore_1 : decode cX7_restore 1 = .ok (.istore_n 1, 1) := by decide +kernel
theorem dX7_restore_2 : decode cX7_restore 2 = .ok (.iload_n 1, 1) := by decide +kernel
theorem dX7_restore_3 : decode cX7_restore 3 = .ok (.sipush 462, 3) := by decide +kernel
theorem dX7_restore_6 : decode cX7_restore 6 = .ok (.if_icmp .ge 21, 3) := by decide +kernel
theorem dX7_restore_9 : decode cX7_restore 9 = .ok (.aload_n 0, 1) := by decide +kernel
theorem dX7_restore_10 : decode cX7_restore 10 = .ok (.getfield 7, 3) := by decide +kernel
theorem dX7_restore_13 : decode cX7_restore 13 = .ok (.iload_n 1, 1) := by decide +kernel
theorem dX7_restore_14 : decode cX7_restore 14 = .ok (.aload_n 0, 1) := by decide +kernel
theorem dX7_restore_15 : decode cX7_restore 15 = .ok (.getfield 44, 3) := by decide +kernel
theorem dX7_restore_18 : decode cX7_restore 18 = .ok (.iload_n 1, 1) := by decide +kernel
theorem dX7_restore_19 : decode cX7_restore 19 = .ok (.iaload, 1) := by decide +kernel
theorem dX7_restore_20 : decode cX7_restore 20 = .ok (.iastore, 1) := by decide +kernel
theorem dX7_restore_21 : decode cX7_restore 21 = .ok (.iinc 1 1, 3) := by decide +kernel
theorem dX7_restore_24 : decode cX7_restore 24 = .ok (.goto (-22), 3) := by decide +kernel
theorem dX7_restore_27 : decode cX7_restore 27 = .ok (.return_, 1) := by decide +kernel
set_option maxRecDepth 20000 in
theorem ggX7_endMaking_X7_restore : GoodIn wsX7_endMaking wsX7_restore := goodIn_r _ [8, 2, 3, 15, 16, 17, 18, 19, 20, 21, 22, 23, 24, 25, 26, 27, 28, 29, 30, 31, 32, 33, 34, 35, 36, 37, 38, 39, 40, 41, 42, 43] (by decide +kernel) (by decide +kernel)
set_option maxRecDepth 20000 in
theorem gX7_endMaking_X7_restore : GoodIn wsX7_endMaking (wsV RX7 122 RX7 yX7_restore wsX7_restore) := goodIn_app (goodIn_of _ (by decide +kernel)) ggX7_endMaking_X7_restore
set_option maxRecDepth 20000 in
theorem ggX7_endMaking_X7_remember : GoodIn wsX7_endMaking wsX7_remember := goodIn_r _ [12, 13, 14, 2, 15, 16, 17, 18, 19, 20, 21, 22, 23, 24, 25, 26, 27, 28, 29, 30, 31, 32, 33, 34, 35, 36, 37, 38, 39, 40, 41, 42, 43] (by decide +kernel) (by decide +kernel)
set_option maxRecDepth 20000 in
theorem gX7_endMaking_X7_remember : GoodIn wsX7_endMaking (wsV RX7 125 RX7 yX7_remember wsX7_remember) := goodIn_app (goodIn_of _ (by decide +kernel)) ggX7_endMaking_X7_remember
theorem dX7_endMaking_0 : decode cX7_endMaking 0 = .ok (.aload_n 0, 1) := by decide +kernel
theorem dX7_endMaking_1 : decode cX7_endMaking 1 = .ok (.getfield 80, 3) := by decide +kernel
theorem dX7_endMaking_4 : decode cX7_endMaking 4 = .ok (.ifCond .eq 10, 3) := by decide +kernel
theorem dX7_endMaking_7 : decode cX7_endMaking 7 = .ok (.aload_n 0, 1) := by decide +kernel
theorem dX7_endMaking_8 : decode cX7_endMaking 8 = .ok (.invokevirtual 122, 3) := by decide +kernel
theorem dX7_endMaking_11 : decode cX7_endMaking 11 = .ok (.bipush (-3), 2) := by decide +kernel
theorem dX7_endMaking_13 : decode cX7_endMaking 13 = .ok (.ireturn, 1) := by decide +kernel
theorem dX7_endMaking_14 : decode cX7_endMaking 14 = .ok (.aload_n 0, 1) := by decide +kernel
theorem dX7_endMaking_15 : decode cX7_endMaking 15 = .ok (.getfield 7, 3) := by decide +kernel
theorem dX7_endMaking_18 : decode cX7_endMaking 18 = .ok (.sipush 460, 3) := by decide +kernel
theorem dX7_endMaking_21 : decode cX7_endMaking 21 = .ok (.iaload, 1) := by decide +kernel
theorem dX7_endMaking_22 : decode cX7_endMaking 22 = .ok (.aload_n 0, 1) := by decide +kernel
theorem dX7_endMaking_23 : decode cX7_endMaking 23 = .ok (.getfield 44, 3) := by decide +kernel
theorem dX7_endMaking_26 : decode cX7_endMaking 26 = .ok (.sipush 460, 3) := by decide +kernel
theorem dX7_endMaking_29 : decode cX7_endMaking 29 = .ok (.iaload, 1) := by decide +kernel
theorem dX7_endMaking_30 : decode cX7_endMaking 30 = .ok (.isub, 1) := by decide +kernel
theorem dX7_endMaking_31 : decode cX7_endMaking 31 = .ok (.istore_n 1, 1) := by decide +kernel
theorem dX7_endMaking_32 : decode cX7_endMaking 32 = .ok (.iconst 0, 1) := by decide +kernel
theorem dX7_endMaking_33 : decode cX7_endMaking 33 = .ok (.istore_n 2, 1) := by decide +kernel
theorem dX7_endMaking_34 : decode cX7_endMaking 34 = .ok (.iload_n 2, 1) := by decide +kernel
theorem dX7_endMaking_35 : decode cX7_endMaking 35 = .ok (.sipush 462, 3) := by decide +kernel
theorem dX7_endMaking_38 : decode cX7_endMaking 38 = .ok (.if_icmp .ge 35, 3) := by decide +kernel
theorem dX7_endMaking_41 : decode cX7_endMaking 41 = .ok (.aload_n 0, 1) := by decide +kernel
theorem dX7_endMaking_42 : decode cX7_endMaking 42 = .ok (.getfield 7, 3) := by decide +kernel
theorem dX7_endMaking_45 : decode cX7_endMaking 45 = .ok (.iload_n 2, 1) := by decide +kernel
theorem dX7_endMaking_46 : decode cX7_endMaking 46 = .ok (.iaload, 1) := by decide +kernel
theorem dX7_endMaking_47 : decode cX7_endMaking 47 = .ok (.istore_n 3, 1) := by decide +kernel
theorem dX7_endMaking_48 : decode cX7_endMaking 48 = .ok (.aload_n 0, 1) := by decide +kernel
theorem dX7_endMaking_49 : decode cX7_endMaking 49 = .ok (.getfield 7, 3) := by decide +kernel
theorem dX7_endMaking_52 : decode cX7_endMaking 52 = .ok (.iload_n 2, 1) := by decide +kernel
theorem dX7_endMaking_53 : decode cX7_endMaking 53 = .ok (.aload_n 0, 1) := by decide +kernel
theorem dX7_endMaking_54 : decode cX7_endMaking 54 = .ok (.getfield 44, 3) := by decide +kernel
theorem dX7_endMaking_57 : decode cX7_endMaking 57 = .ok (.iload_n 2, 1) := by decide +kernel
theorem dX7_endMaking_58 : decode cX7_endMaking 58 = .ok (.iaload, 1) := by decide +kernel
theorem dX7_endMaking_59 : decode cX7_endMaking 59 = .ok (.iastore, 1) := by decide +kernel
theorem dX7_endMaking_60 : decode cX7_endMaking 60 = .ok (.aload_n 0, 1) := by decide +kernel
theorem dX7_endMaking_61 : decode cX7_endMaking 61 = .ok (.getfield 44, 3) := by decide +kernel
theorem dX7_endMaking_64 : decode cX7_endMaking 64 = .ok (.iload_n 2, 1) := by decide +kernel
theorem dX7_endMaking_65 : decode cX7_endMaking 65 = .ok (.iload_n 3, 1) := by decide +kernel
theorem dX7_endMaking_66 : decode cX7_endMaking 66 = .ok (.iastore, 1) := by decide +kernel
theorem dX7_endMaking_67 : decode cX7_endMaking 67 = .ok (.iinc 2 1, 3) := by decide +kernel
theorem dX7_endMaking_70 : decode cX7_endMaking 70 = .ok (.goto (-36), 3) := by decide +kernel
theorem dX7_endMaking_73 : decode cX7_endMaking 73 = .ok (.aload_n 0, 1) := by decide +kernel
theorem dX7_endMaking_74 : decode cX7_endMaking 74 = .ok (.invokevirtual 125, 3) := by decide +kernel
theorem dX7_endMaking_77 : decode cX7_endMaking 77 = .ok (.aload_n 0, 1) := by decide +kernel
theorem dX7_endMaking_78 : decode cX7_endMaking 78 = .ok (.invokevirtual 122, 3) := by decide +kernel
theorem dX7_endMaking_81 : decode cX7_endMaking 81 = .ok (.iload_n 1, 1) := by decide +kernel
theorem dX7_endMaking_82 : decode cX7_endMaking 82 = .ok (.ireturn, 1) := by decide +kernel
set_option maxRecDepth 20000 in
theorem ggX7_wish_X7_isThing : GoodIn wsX7_wish wsX7_isThing := goodIn_r _ [4, 5, 6, 3, 7] (by decide +kernel) (by decide +kernel)
set_option maxRecDepth 20000 in
theorem gX7_wish_X7_isThing : GoodIn wsX7_wish (va_wsS RX7 128 yX7_isThing wsX7_isThing) := goodIn_app (goodIn_of _ (by decide +kernel)) ggX7_wish_X7_isThing
set_option maxRecDepth 20000 in
theorem ggX7_wish_X7_isIn : GoodIn wsX7_wish wsX7_isIn := goodIn_r _ [7] (by decide +kernel) (by decide +kernel)
set_option maxRecDepth 20000 in
theorem gX7_wish_X7_isIn : GoodIn wsX7_wish (va_wsS RX7 61 yX7_isIn wsX7_isIn) := goodIn_app (goodIn_of _ (by decide +kernel)) ggX7_wish_X7_isIn
set_option maxRecDepth 20000 in
theorem ggX7_wish_X7_hold : GoodIn wsX7_wish wsX7_hold := goodIn_r _ [11, 12, 13, 96, 97, 98, 99, 100, 101, 102, 103, 104, 105, 106, 107, 108, 109, 110, 111, 112, 113, 114, 115, 116, 117, 118, 119, 120, 121, 122, 123, 124] (by decide +kernel) (by decide +kernel)
set_option maxRecDepth 20000 in
theorem gX7_wish_X7_hold : GoodIn wsX7_wish (wsV RX7 131 RX7 yX7_hold wsX7_hold) := goodIn_app (goodIn_of _ (by decide +kernel)) ggX7_wish_X7_hold
set_option maxRecDepth 20000 in
theorem ggX7_wish_X7_wishNow : GoodIn wsX7_wish wsX7_wishNow := goodIn_r _ [17, 18, 19, 20, 3, 21, 22, 23, 24, 25, 26, 27, 28, 13, 29, 30, 31, 32, 33, 34, 35, 36, 37, 38, 39, 40, 41, 42, 43, 44, 45, 46, 47, 48, 49, 50, 51, 52, 53, 54, 55, 56, 57, 58, 59, 60, 61, 62, 63, 64, 65, 66, 67, 68, 69, 70, 71, 72, 73, 74, 75, 76, 77, 78, 79, 80, 81, 96, 97, 98, 99, 100, 101, 102, 103, 104, 105, 106, 107, 108, 109, 110, 111, 112, 113, 114, 115, 116, 117, 118, 119, 120, 121, 122, 123, 124] (by decide +kernel) (by decide +kernel)
set_option maxRecDepth 20000 in
theorem gX7_wish_X7_wishNow : GoodIn wsX7_wish (wsV RX7 134 RX7 yX7_wishNow wsX7_wishNow) := goodIn_app (goodIn_of _ (by decide +kernel)) ggX7_wish_X7_wishNow
set_option maxRecDepth 20000 in
theorem ggX7_wish_X7_endMaking : GoodIn wsX7_wish wsX7_endMaking := goodIn_r _ [85, 24, 13, 12, 86, 87, 88, 3, 89, 90, 91, 92, 93, 94, 95, 96, 97, 98, 99, 100, 101, 102, 103, 104, 105, 106, 107, 108, 109, 110, 111, 112, 113, 114, 115, 116, 117, 118, 119, 120, 121, 122, 123, 124] (by decide +kernel) (by decide +kernel)
set_option maxRecDepth 20000 in
theorem gX7_wish_X7_endMaking : GoodIn wsX7_wish (wsV RX7 137 RX7 yX7_endMaking wsX7_endMaking) := goodIn_app (goodIn_of _ (by decide +kernel)) ggX7_wish_X7_endMaking
theorem dX7_wish_0 : decode cX7_wish 0 = .ok (.iload_n 1, 1) := by decide +kernel
theorem dX7_wish_1 : decode cX7_wish 1 = .ok (.invokestatic 128, 3) := by decide +kernel
theorem dX7_wish_4 : decode cX7_wish 4 = .ok (.ifCond .eq 14, 3) := by decide +kernel
theorem dX7_wish_7 : decode cX7_wish 7 = .ok (.iload_n 2, 1) := by decide +kernel
theorem dX7_wish_8 : decode cX7_wish 8 = .ok (.iconst 1, 1) := by decide +kernel
theorem dX7_wish_9 : decode cX7_wish 9 = .ok (.sipush 999, 3) := by decide +kernel
theorem dX7_wish_12 : decode cX7_wish 12 = .ok (.invokestatic 61, 3) := by decide +kernel
theorem dX7_wish_15 : decode cX7_wish 15 = .ok (.ifCond .ne 5, 3) := by decide +kernel
theorem dX7_wish_18 : decode cX7_wish 18 = .ok (.iconst (-1), 1) := by decide +kernel
theorem dX7_wish_19 : decode cX7_wish 19 = .ok (.ireturn, 1) := by decide +kernel
theorem dX7_wish_20 : decode cX7_wish 20 = .ok (.aload_n 0, 1) := by decide +kernel
theorem dX7_wish_21 : decode cX7_wish 21 = .ok (.invokevirtual 131, 3) := by decide +kernel
theorem dX7_wish_24 : decode cX7_wish 24 = .ok (.aload_n 0, 1) := by decide +kernel
theorem dX7_wish_25 : decode cX7_wish 25 = .ok (.iload_n 1, 1) := by decide +kernel
theorem dX7_wish_26 : decode cX7_wish 26 = .ok (.iload_n 2, 1) := by decide +kernel
theorem dX7_wish_27 : decode cX7_wish 27 = .ok (.invokevirtual 134, 3) := by decide +kernel
theorem dX7_wish_30 : decode cX7_wish 30 = .ok (.aload_n 0, 1) := by decide +kernel
theorem dX7_wish_31 : decode cX7_wish 31 = .ok (.invokevirtual 137, 3) := by decide +kernel
theorem dX7_wish_34 : decode cX7_wish 34 = .ok (.ireturn, 1) := by decide +kernel
set_option maxRecDepth 20000 in
theorem ggX7_make_X7_isThing : GoodIn wsX7_make wsX7_isThing := goodIn_r _ [4, 5, 6, 3, 7] (by decide +kernel) (by decide +kernel)
set_option maxRecDepth 20000 in
theorem gX7_make_X7_isThing : GoodIn wsX7_make (va_wsS RX7 128 yX7_isThing wsX7_isThing) := goodIn_app (goodIn_of _ (by decide +kernel)) ggX7_make_X7_isThing
set_option maxRecDepth 20000 in
theorem ggX7_make_X7_isIn : GoodIn wsX7_make wsX7_isIn := goodIn_r _ [7] (by decide +kernel) (by decide +kernel)
set_option maxRecDepth 20000 in
theorem gX7_make_X7_isIn : GoodIn wsX7_make (va_wsS RX7 61 yX7_isIn wsX7_isIn) := goodIn_app (goodIn_of _ (by decide +kernel)) ggX7_make_X7_isIn
set_option maxRecDepth 20000 in
theorem ggX7_make_X7_isMade : GoodIn wsX7_make wsX7_isMade := goodIn_r _ [11, 12, 13, 14, 3, 15, 16, 92, 93, 94, 95, 96, 97, 98, 99, 100, 101, 102, 103, 104, 105, 106, 107, 108, 109, 110, 111, 112, 113, 114, 115, 116, 117, 118, 119, 120] (by decide +kernel) (by decide +kernel)
set_option maxRecDepth 20000 in
theorem gX7_make_X7_isMade : GoodIn wsX7_make (wsV RX7 72 RX7 yX7_isMade wsX7_isMade) := goodIn_app (goodIn_of _ (by decide +kernel)) ggX7_make_X7_isMade
set_option maxRecDepth 20000 in
theorem ggX7_make_X7_hold : GoodIn wsX7_make wsX7_hold := goodIn_r _ [20, 21, 16, 92, 93, 94, 95, 96, 97, 98, 99, 100, 101, 102, 103, 104, 105, 106, 107, 108, 109, 110, 111, 112, 113, 114, 115, 116, 117, 118, 119, 120] (by decide +kernel) (by decide +kernel)
set_option maxRecDepth 20000 in
theorem gX7_make_X7_hold : GoodIn wsX7_make (wsV RX7 131 RX7 yX7_hold wsX7_hold) := goodIn_app (goodIn_of _ (by decide +kernel)) ggX7_make_X7_hold
set_option maxRecDepth 20000 in
theorem ggX7_make_X7_beginMaking : GoodIn wsX7_make wsX7_beginMaking := goodIn_r _ [25, 26, 27, 28, 92, 93, 94, 95, 96, 97, 98, 99, 100, 101, 102, 103, 104, 105, 106, 107, 108, 109, 110, 111, 112, 113, 114, 115, 116, 117, 118, 119, 120] (by decide +kernel) (by decide +kernel)
set_option maxRecDepth 20000 in
theorem gX7_make_X7_beginMaking : GoodIn wsX7_make (wsV RX7 116 RX7 yX7_beginMaking wsX7_beginMaking) := goodIn_app (goodIn_of _ (by decide +kernel)) ggX7_make_X7_beginMaking
set_option maxRecDepth 20000 in
theorem ggX7_make_X7_begin : GoodIn wsX7_make wsX7_begin := goodIn_r _ [32, 27, 28, 33, 26, 34, 35, 36, 92, 93, 94, 95, 96, 97, 98, 99, 100, 101, 102, 103, 104, 105, 106, 107, 108, 109, 110, 111, 112, 113, 114, 115, 116, 117, 118, 119, 120] (by decide +kernel) (by decide +kernel)
set_option maxRecDepth 20000 in
theorem gX7_make_X7_begin : GoodIn wsX7_make (wsV RX7 104 RX7 yX7_begin wsX7_begin) := goodIn_app (goodIn_of _ (by decide +kernel)) ggX7_make_X7_begin
set_option maxRecDepth 20000 in
theorem ggX7_make_X7_makeBegun : GoodIn wsX7_make wsX7_makeBegun := goodIn_r _ [40, 26, 28, 35, 33, 34, 16, 36, 12, 13, 14, 3, 15, 41, 42, 43, 44, 45, 46, 47, 48, 49, 50, 51, 52, 53, 54, 55, 56, 57, 58, 59, 60, 61, 62, 63, 64, 65, 66, 67, 68, 69, 8, 9, 10, 11, 70, 71, 72, 73, 29, 30, 31, 32, 27, 74, 75, 76, 77, 92, 93, 94, 95, 96, 97, 98, 99, 100, 101, 102, 103, 104, 105, 106, 107, 108, 109, 110, 111, 112, 113, 114, 115, 116, 117, 118, 119, 120] (by decide +kernel) (by decide +kernel)
set_option maxRecDepth 20000 in
theorem gX7_make_X7_makeBegun : GoodIn wsX7_make (wsV RX7 119 RX7 yX7_makeBegun wsX7_makeBegun) := goodIn_app (goodIn_of _ (by decide +kernel)) ggX7_make_X7_makeBegun
set_option maxRecDepth 20000 in
theorem ggX7_make_X7_endMaking : GoodIn wsX7_make wsX7_endMaking := goodIn_r _ [81, 28, 16, 21, 82, 83, 84, 3, 85, 86, 87, 88, 89, 90, 91, 92, 93, 94, 95, 96, 97, 98, 99, 100, 101, 102, 103, 104, 105, 106, 107, 108, 109, 110, 111, 112, 113, 114, 115, 116, 117, 118, 119, 120] (by decide +kernel) (by decide +kernel)
set_option maxRecDepth 20000 in
theorem gX7_make_X7_endMaking : GoodIn wsX7_make (wsV RX7 137 RX7 yX7_endMaking wsX7_endMaking) := goodIn_app (goodIn_of _ (by decide +kernel)) ggX7_make_X7_endMaking
theorem dX7_make_0 : decode cX7_make 0 = .ok (.iload_n 1, 1) := by decide +kernel
theorem dX7_make_1 : decode cX7_make 1 = .ok (.invokestatic 128, 3) := by decide +kernel
theorem dX7_make_4 : decode cX7_make 4 = .ok (.ifCond .eq 13, 3) := by decide +kernel
theorem dX7_make_7 : decode cX7_make 7 = .ok (.iload_n 2, 1) := by decide +kernel
theorem dX7_make_8 : decode cX7_make 8 = .ok (.iconst 1, 1) := by decide +kernel
theorem dX7_make_9 : decode cX7_make 9 = .ok (.bipush 99, 2) := by decide +kernel
theorem dX7_make_11 : decode cX7_make 11 = .ok (.invokestatic 61, 3) := by decide +kernel
theorem dX7_make_14 : decode cX7_make 14 = .ok (.ifCond .ne 5, 3) := by decide +kernel
theorem dX7_make_17 : decode cX7_make 17 = .ok (.iconst (-1), 1) := by decide +kernel
theorem dX7_make_18 : decode cX7_make 18 = .ok (.ireturn, 1) := by decide +kernel
theorem dX7_make_19 : decode cX7_make 19 = .ok (.aload_n 0, 1) := by decide +kernel
theorem dX7_make_20 : decode cX7_make 20 = .ok (.iload_n 1, 1) := by decide +kernel
theorem dX7_make_21 : decode cX7_make 21 = .ok (.invokevirtual 72, 3) := by decide +kernel
theorem dX7_make_24 : decode cX7_make 24 = .ok (.ifCond .ne 6, 3) := by decide +kernel
theorem dX7_make_27 : decode cX7_make 27 = .ok (.bipush (-2), 2) := by decide +kernel
theorem dX7_make_29 : decode cX7_make 29 = .ok (.ireturn, 1) := by decide +kernel
theorem dX7_make_30 : decode cX7_make 30 = .ok (.aload_n 0, 1) := by decide +kernel
theorem dX7_make_31 : decode cX7_make 31 = .ok (.invokevirtual 131, 3) := by decide +kernel
theorem dX7_make_34 : decode cX7_make 34 = .ok (.aload_n 0, 1) := by decide +kernel
theorem dX7_make_35 : decode cX7_make 35 = .ok (.invokevirtual 116, 3) := by decide +kernel
theorem dX7_make_38 : decode cX7_make 38 = .ok (.aload_n 0, 1) := by decide +kernel
theorem dX7_make_39 : decode cX7_make 39 = .ok (.iload_n 1, 1) := by decide +kernel
theorem dX7_make_40 : decode cX7_make 40 = .ok (.iload_n 2, 1) := by decide +kernel
theorem dX7_make_41 : decode cX7_make 41 = .ok (.iconst 0, 1) := by decide +kernel
theorem dX7_make_42 : decode cX7_make 42 = .ok (.invokevirtual 104, 3) := by decide +kernel
theorem dX7_make_45 : decode cX7_make 45 = .ok (.aload_n 0, 1) := by decide +kernel
theorem dX7_make_46 : decode cX7_make 46 = .ok (.invokevirtual 119, 3) := by decide +kernel
theorem dX7_make_49 : decode cX7_make 49 = .ok (.aload_n 0, 1) := by decide +kernel
theorem dX7_make_50 : decode cX7_make 50 = .ok (.invokevirtual 137, 3) := by decide +kernel
theorem dX7_make_53 : decode cX7_make 53 = .ok (.ireturn, 1) := by decide +kernel
theorem dX7_mark_0 : decode cX7_mark 0 = .ok (.aload_n 0, 1) := by decide +kernel
theorem dX7_mark_1 : decode cX7_mark 1 = .ok (.iload_n 1, 1) := by decide +kernel
theorem dX7_mark_2 : decode cX7_mark 2 = .ok (.putfield 141, 3) := by decide +kernel
theorem dX7_mark_5 : decode cX7_mark 5 = .ok (.aload_n 0, 1) := by decide +kernel
theorem dX7_mark_6 : decode cX7_mark 6 = .ok (.iload_n 2, 1) := by decide +kernel
theorem dX7_mark_7 : decode cX7_mark 7 = .ok (.putfield 144, 3) := by decide +kernel
theorem dX7_mark_10 : decode cX7_mark 10 = .ok (.return_, 1) := by decide +kernel
theorem dX7_isNumber_0 : decode cX7_isNumber 0 = .ok (.aload_n 0, 1) := by decide +kernel
theorem dX7_isNumber_1 : decode cX7_isNumber 1 = .ok (.getfield 147, 3) := by decide +kernel
theorem dX7_isNumber_4 : decode cX7_isNumber 4 = .ok (.iconst 2, 1) := by decide +kernel
theorem dX7_isNumber_5 : decode cX7_isNumber 5 = .ok (.if_icmp .eq 11, 3) := by decide +kernel
theorem dX7_isNumber_8 : decode cX7_isNumber 8 = .ok (.aload_n 0, 1) := by decide +kernel
theorem dX7_isNumber_9 : decode cX7_isNumber 9 = .ok (.getfield 147, 3) := by decide +kernel
theorem dX7_isNumber_12 : decode cX7_isNumber 12 = .ok (.iconst 5, 1) := by decide +kernel
theorem dX7_isNumber_13 : decode cX7_isNumber 13 = .ok (.if_icmp .ne 7, 3) := by decide +kernel
theorem dX7_isNumber_16 : decode cX7_isNumber 16 = .ok (.iconst 1, 1) := by decide +kernel
theorem dX7_isNumber_17 : decode cX7_isNumber 17 = .ok (.goto 4, 3) := by decide +kernel
theorem dX7_isNumber_20 : decode cX7_isNumber 20 = .ok (.iconst 0, 1) := by decide +kernel
theorem dX7_isNumber_21 : decode cX7_isNumber 21 = .ok (.ireturn, 1) := by decide +kernel
set_option maxRecDepth 20000 in
theorem ggX7_endsWell_X7_isNumber : GoodIn wsX7_endsWell wsX7_isNumber := goodIn_r _ [9, 3, 19, 20, 21, 22, 23, 24, 25, 26, 27, 28, 29, 30, 31, 32, 33, 34, 35, 36, 37, 38, 39, 40, 41, 42, 43, 44, 45, 46, 47] (by decide +kernel) (by decide +kernel)
set_option maxRecDepth 20000 in
theorem gX7_endsWell_X7_isNumber : GoodIn wsX7_endsWell (wsV RX7 150 RX7 yX7_isNumber wsX7_isNumber) := goodIn_app (goodIn_of _ (by decide +kernel)) ggX7_endsWell_X7_isNumber
set_option maxRecDepth 20000 in
theorem ggX7_endsWell_X7_isIn : GoodIn wsX7_endsWell wsX7_isIn := goodIn_r _ [12] (by decide +kernel) (by decide +kernel)
set_option maxRecDepth 20000 in
theorem gX7_endsWell_X7_isIn : GoodIn wsX7_endsWell (va_wsS RX7 61 yX7_isIn wsX7_isIn) := goodIn_app (goodIn_of _ (by decide +kernel)) ggX7_endsWell_X7_isIn
set_option maxRecDepth 20000 in
theorem ggX7_endsWell_X7_mark : GoodIn wsX7_endsWell wsX7_mark := goodIn_r _ [16, 17, 18, 19, 20, 21, 22, 23, 24, 25, 26, 27, 28, 29, 30, 31, 32, 33, 34, 35, 36, 37, 38, 39, 40, 41, 42, 43, 44, 45, 46, 47] (by decide +kernel) (by decide +kernel)
set_option maxRecDepth 20000 in
theorem gX7_endsWell_X7_mark : GoodIn wsX7_endsWell (wsV RX7 160 RX7 yX7_mark wsX7_mark) := goodIn_app (goodIn_of _ (by decide +kernel)) ggX7_endsWell_X7_mark
theorem dX7_endsWell_0 : decode cX7_endsWell 0 = .ok (.aload_n 0, 1) := by decide +kernel
theorem dX7_endsWell_1 : decode cX7_endsWell 1 = .ok (.invokevirtual 150, 3) := by decide +kernel
theorem dX7_endsWell_4 : decode cX7_endsWell 4 = .ok (.ifCond .eq 60, 3) := by decide +kernel
theorem dX7_endsWell_7 : decode cX7_endsWell 7 = .ok (.aload_n 0, 1) := by decide +kernel
theorem dX7_endsWell_8 : decode cX7_endsWell 8 = .ok (.getfield 154, 3) := by decide +kernel
theorem dX7_endsWell_11 : decode cX7_endsWell 11 = .ok (.iconst 1, 1) := by decide +kernel
theorem dX7_endsWell_12 : decode cX7_endsWell 12 = .ok (.bipush 20, 2) := by decide +kernel
theorem dX7_endsWell_14 : decode cX7_endsWell 14 = .ok (.invokestatic 61, 3) := by decide +kernel
theorem dX7_endsWell_17 : decode cX7_endsWell 17 = .ok (.ifCond .ne 14, 3) := by decide +kernel
theorem dX7_endsWell_20 : decode cX7_endsWell 20 = .ok (.aload_n 0, 1) := by decide +kernel
theorem dX7_endsWell_21 : decode cX7_endsWell 21 = .ok (.iconst 2, 1) := by decide +kernel
theorem dX7_endsWell_22 : decode cX7_endsWell 22 = .ok (.aload_n 0, 1) := by decide +kernel
theorem dX7_endsWell_23 : decode cX7_endsWell 23 = .ok (.getfield 157, 3) := by decide +kernel
theorem dX7_endsWell_26 : decode cX7_endsWell 26 = .ok (.invokevirtual 160, 3) := by decide +kernel
theorem dX7_endsWell_29 : decode cX7_endsWell 29 = .ok (.iconst 0, 1) := by decide +kernel
theorem dX7_endsWell_30 : decode cX7_endsWell 30 = .ok (.ireturn, 1) := by decide +kernel
theorem dX7_endsWell_31 : decode cX7_endsWell 31 = .ok (.aload_n 0, 1) := by decide +kernel
theorem dX7_endsWell_32 : decode cX7_endsWell 32 = .ok (.aload_n 0, 1) := by decide +kernel
theorem dX7_endsWell_33 : decode cX7_endsWell 33 = .ok (.getfield 147, 3) := by decide +kernel
theorem dX7_endsWell_36 : decode cX7_endsWell 36 = .ok (.iconst 2, 1) := by decide +kernel
theorem dX7_endsWell_37 : decode cX7_endsWell 37 = .ok (.if_icmp .ne 10, 3) := by decide +kernel
theorem dX7_endsWell_40 : decode cX7_endsWell 40 = .ok (.aload_n 0, 1) := by decide +kernel
theorem dX7_endsWell_41 : decode cX7_endsWell 41 = .ok (.getfield 154, 3) := by decide +kernel
theorem dX7_endsWell_44 : decode cX7_endsWell 44 = .ok (.goto 7, 3) := by decide +kernel
theorem dX7_endsWell_47 : decode cX7_endsWell 47 = .ok (.aload_n 0, 1) := by decide +kernel
theorem dX7_endsWell_48 : decode cX7_endsWell 48 = .ok (.getfield 163, 3) := by decide +kernel
theorem dX7_endsWell_51 : decode cX7_endsWell 51 = .ok (.putfield 163, 3) := by decide +kernel
theorem dX7_endsWell_54 : decode cX7_endsWell 54 = .ok (.aload_n 0, 1) := by decide +kernel
theorem dX7_endsWell_55 : decode cX7_endsWell 55 = .ok (.dup, 1) := by decide +kernel
theorem dX7_endsWell_56 : decode cX7_endsWell 56 = .ok (.getfield 147, 3) := by decide +kernel
theorem dX7_endsWell_59 : decode cX7_endsWell 59 = .ok (.iconst 1, 1) := by decide +kernel
theorem dX7_endsWell_60 : decode cX7_endsWell 60 = .ok (.iadd, 1) := by decide +kernel
theorem dX7_endsWell_61 : decode cX7_endsWell 61 = .ok (.putfield 147, 3) := by decide +kernel
theorem dX7_endsWell_64 : decode cX7_endsWell 64 = .ok (.iconst 1, 1) := by decide +kernel
theorem dX7_endsWell_65 : decode cX7_endsWell 65 = .ok (.ireturn, 1) := by decide +kernel
set_option maxRecDepth 20000 in
theorem ggX7_readDigit_X7_isNumber : GoodIn wsX7_readDigit wsX7_isNumber := goodIn_r _ [10, 1, 17, 18, 19, 20, 21, 22, 23, 24, 25, 26, 27, 28, 29, 30, 31, 32, 33, 34, 35, 36, 37, 38, 39, 40, 41, 42, 43, 44, 45] (by decide +kernel) (by decide +kernel)
set_option maxRecDepth 20000 in
theorem gX7_readDigit_X7_isNumber : GoodIn wsX7_readDigit (wsV RX7 150 RX7 yX7_isNumber wsX7_isNumber) := goodIn_app (goodIn_of _ (by decide +kernel)) ggX7_readDigit_X7_isNumber
set_option maxRecDepth 20000 in
theorem ggX7_readDigit_X7_mark : GoodIn wsX7_readDigit wsX7_mark := goodIn_r _ [14, 15, 16, 17, 18, 19, 20, 21, 22, 23, 24, 25, 26, 27, 28, 29, 30, 31, 32, 33, 34, 35, 36, 37, 38, 39, 40, 41, 42, 43, 44, 45] (by decide +kernel) (by decide +kernel)
set_option maxRecDepth 20000 in
theorem gX7_readDigit_X7_mark : GoodIn wsX7_readDigit (wsV RX7 160 RX7 yX7_mark wsX7_mark) := goodIn_app (goodIn_of _ (by decide +kernel)) ggX7_readDigit_X7_mark
theorem dX7_readDigit_0 : decode cX7_readDigit 0 = .ok (.aload_n 0, 1) := by decide +kernel
theorem dX7_readDigit_1 : decode cX7_readDigit 1 = .ok (.getfield 147, 3) := by decide +kernel
theorem dX7_readDigit_4 : decode cX7_readDigit 4 = .ok (.iconst 1, 1) := by decide +kernel
theorem dX7_readDigit_5 : decode cX7_readDigit 5 = .ok (.if_icmp .eq 11, 3) := by decide +kernel
theorem dX7_readDigit_8 : decode cX7_readDigit 8 = .ok (.aload_n 0, 1) := by decide +kernel
theorem dX7_readDigit_9 : decode cX7_readDigit 9 = .ok (.getfield 147, 3) := by decide +kernel
theorem dX7_readDigit_12 : decode cX7_readDigit 12 = .ok (.iconst 4, 1) := by decide +kernel
theorem dX7_readDigit_13 : decode cX7_readDigit 13 = .ok (.if_icmp .ne 39, 3) := by decide +kernel
theorem dX7_readDigit_16 : decode cX7_readDigit 16 = .ok (.aload_n 0, 1) := by decide +kernel
theorem dX7_readDigit_17 : decode cX7_readDigit 17 = .ok (.dup, 1) := by decide +kernel
theorem dX7_readDigit_18 : decode cX7_readDigit 18 = .ok (.getfield 147, 3) := by decide +kernel
theorem dX7_readDigit_21 : decode cX7_readDigit 21 = .ok (.iconst 1, 1) := by decide +kernel
theorem dX7_readDigit_22 : decode cX7_readDigit 22 = .ok (.iadd, 1) := by decide +kernel
theorem dX7_readDigit_23 : decode cX7_readDigit 23 = .ok (.putfield 147, 3) := by decide +kernel
theorem dX7_readDigit_26 : decode cX7_readDigit 26 = .ok (.aload_n 0, 1) := by decide +kernel
theorem dX7_readDigit_27 : decode cX7_readDigit 27 = .ok (.aload_n 0, 1) := by decide +kernel
theorem dX7_readDigit_28 : decode cX7_readDigit 28 = .ok (.getfield 19, 3) := by decide +kernel
theorem dX7_readDigit_31 : decode cX7_readDigit 31 = .ok (.iload_n 1, 1) := by decide +kernel
theorem dX7_readDigit_32 : decode cX7_readDigit 32 = .ok (.iaload, 1) := by decide +kernel
theorem dX7_readDigit_33 : decode cX7_readDigit 33 = .ok (.bipush 48, 2) := by decide +kernel
theorem dX7_readDigit_35 : decode cX7_readDigit 35 = .ok (.isub, 1) := by decide +kernel
theorem dX7_readDigit_36 : decode cX7_readDigit 36 = .ok (.putfield 154, 3) := by decide +kernel
theorem dX7_readDigit_39 : decode cX7_readDigit 39 = .ok (.aload_n 0, 1) := by decide +kernel
theorem dX7_readDigit_40 : decode cX7_readDigit 40 = .ok (.iconst 1, 1) := by decide +kernel
theorem dX7_readDigit_41 : decode cX7_readDigit 41 = .ok (.putfield 166, 3) := by decide +kernel
theorem dX7_readDigit_44 : decode cX7_readDigit 44 = .ok (.aload_n 0, 1) := by decide +kernel
theorem dX7_readDigit_45 : decode cX7_readDigit 45 = .ok (.iload_n 1, 1) := by decide +kernel
theorem dX7_readDigit_46 : decode cX7_readDigit 46 = .ok (.putfield 157, 3) := by decide +kernel
theorem dX7_readDigit_49 : decode cX7_readDigit 49 = .ok (.goto 53, 3) := by decide +kernel
theorem dX7_readDigit_52 : decode cX7_readDigit 52 = .ok (.aload_n 0, 1) := by decide +kernel
theorem dX7_readDigit_53 : decode cX7_readDigit 53 = .ok (.invokevirtual 150, 3) := by decide +kernel
theorem dX7_readDigit_56 : decode cX7_readDigit 56 = .ok (.ifCond .eq 40, 3) := by decide +kernel
theorem dX7_readDigit_59 : decode cX7_readDigit 59 = .ok (.aload_n 0, 1) := by decide +kernel
theorem dX7_readDigit_60 : decode cX7_readDigit 60 = .ok (.getfield 166, 3) := by decide +kernel
theorem dX7_readDigit_63 : decode cX7_readDigit 63 = .ok (.iconst 1, 1) := by decide +kernel
theorem dX7_readDigit_64 : decode cX7_readDigit 64 = .ok (.if_icmp .ne 32, 3) := by decide +kernel
theorem dX7_readDigit_67 : decode cX7_readDigit 67 = .ok (.aload_n 0, 1) := by decide +kernel
theorem dX7_readDigit_68 : decode cX7_readDigit 68 = .ok (.bipush 10, 2) := by decide +kernel
theorem dX7_readDigit_70 : decode cX7_readDigit 70 = .ok (.aload_n 0, 1) := by decide +kernel
theorem dX7_readDigit_71 : decode cX7_readDigit 71 = .ok (.getfield 154, 3) := by decide +kernel
theorem dX7_readDigit_74 : decode cX7_readDigit 74 = .ok (.imul, 1) := by decide +kernel
theorem dX7_readDigit_75 : decode cX7_readDigit 75 = .ok (.aload_n 0, 1) := by decide +kernel
theorem dX7_readDigit_76 : decode cX7_readDigit 76 = .ok (.getfield 19, 3) := by decide +kernel
theorem dX7_readDigit_79 : decode cX7_readDigit 79 = .ok (.iload_n 1, 1) := by decide +kernel
theorem dX7_readDigit_80 : decode cX7_readDigit 80 = .ok (.iaload, 1) := by decide +kernel
theorem dX7_readDigit_81 : decode cX7_readDigit 81 = .ok (.iadd, 1) := by decide +kernel
theorem dX7_readDigit_82 : decode cX7_readDigit 82 = .ok (.bipush 48, 2) := by decide +kernel
theorem dX7_readDigit_84 : decode cX7_readDigit 84 = .ok (.isub, 1) := by decide +kernel
theorem dX7_readDigit_85 : decode cX7_readDigit 85 = .ok (.putfield 154, 3) := by decide +kernel
theorem dX7_readDigit_88 : decode cX7_readDigit 88 = .ok (.aload_n 0, 1) := by decide +kernel
theorem dX7_readDigit_89 : decode cX7_readDigit 89 = .ok (.iconst 2, 1) := by decide +kernel
theorem dX7_readDigit_90 : decode cX7_readDigit 90 = .ok (.putfield 166, 3) := by decide +kernel
theorem dX7_readDigit_93 : decode cX7_readDigit 93 = .ok (.goto 9, 3) := by decide +kernel
theorem dX7_readDigit_96 : decode cX7_readDigit 96 = .ok (.aload_n 0, 1) := by decide +kernel
theorem dX7_readDigit_97 : decode cX7_readDigit 97 = .ok (.iconst 1, 1) := by decide +kernel
theorem dX7_readDigit_98 : decode cX7_readDigit 98 = .ok (.iload_n 1, 1) := by decide +kernel
theorem dX7_readDigit_99 : decode cX7_readDigit 99 = .ok (.invokevirtual 160, 3) := by decide +kernel
theorem dX7_readDigit_102 : decode cX7_readDigit 102 = .ok (.return_, 1) := by decide +kernel
set_option maxRecDepth 20000 in
theorem ggX7_readIngredient_X7_mark : GoodIn wsX7_readIngredient wsX7_mark := goodIn_r _ [8, 9, 10, 11, 12, 13, 14, 15, 16, 17, 18, 19, 20, 21, 22, 23, 24, 25, 26, 27, 28, 29, 30, 31, 32, 33, 34, 35, 36, 37, 38, 39] (by decide +kernel) (by decide +kernel)
set_option maxRecDepth 20000 in
theorem gX7_readIngredient_X7_mark : GoodIn wsX7_readIngredient (wsV RX7 160 RX7 yX7_mark wsX7_mark) := goodIn_app (goodIn_of _ (by decide +kernel)) ggX7_readIngredient_X7_mark
theorem dX7_readIngredient_0 : decode cX7_readIngredient 0 = .ok (.aload_n 0, 1) := by decide +kernel
theorem dX7_readIngredient_1 : decode cX7_readIngredient 1 = .ok (.getfield 169, 3) := by decide +kernel
theorem dX7_readIngredient_4 : decode cX7_readIngredient 4 = .ok (.iconst 5, 1) := by decide +kernel
theorem dX7_readIngredient_5 : decode cX7_readIngredient 5 = .ok (.if_icmp .ne 7, 3) := by decide +kernel
theorem dX7_readIngredient_8 : decode cX7_readIngredient 8 = .ok (.iconst 1, 1) := by decide +kernel
theorem dX7_readIngredient_9 : decode cX7_readIngredient 9 = .ok (.goto 4, 3) := by decide +kernel
theorem dX7_readIngredient_12 : decode cX7_readIngredient 12 = .ok (.iconst 0, 1) := by decide +kernel
theorem dX7_readIngredient_13 : decode cX7_readIngredient 13 = .ok (.istore 4, 2) := by decide +kernel
theorem dX7_readIngredient_15 : decode cX7_readIngredient 15 = .ok (.iconst 0, 1) := by decide +kernel
theorem dX7_readIngredient_16 : decode cX7_readIngredient 16 = .ok (.istore 5, 2) := by decide +kernel
theorem dX7_readIngredient_18 : decode cX7_readIngredient 18 = .ok (.iload 5, 2) := by decide +kernel
theorem dX7_readIngredient_20 : decode cX7_readIngredient 20 = .ok (.aload_n 0, 1) := by decide +kernel
theorem dX7_readIngredient_21 : decode cX7_readIngredient 21 = .ok (.getfield 169, 3) := by decide +kernel
theorem dX7_readIngredient_24 : decode cX7_readIngredient 24 = .ok (.if_icmp .ge 32, 3) := by decide +kernel
theorem dX7_readIngredient_27 : decode cX7_readIngredient 27 = .ok (.iload 4, 2) := by decide +kernel
theorem dX7_readIngredient_29 : decode cX7_readIngredient 29 = .ok (.aload_n 0, 1) := by decide +kernel
theorem dX7_readIngredient_30 : decode cX7_readIngredient 30 = .ok (.getfield 47, 3) := by decide +kernel
theorem dX7_readIngredient_33 : decode cX7_readIngredient 33 = .ok (.iconst 2, 1) := by decide +kernel
theorem dX7_readIngredient_34 : decode cX7_readIngredient 34 = .ok (.iload 5, 2) := by decide +kernel
theorem dX7_readIngredient_36 : decode cX7_readIngredient 36 = .ok (.imul, 1) := by decide +kernel
theorem dX7_readIngredient_37 : decode cX7_readIngredient 37 = .ok (.iaload, 1) := by decide +kernel
theorem dX7_readIngredient_38 : decode cX7_readIngredient 38 = .ok (.iload_n 1, 1) := by decide +kernel
theorem dX7_readIngredient_39 : decode cX7_readIngredient 39 = .ok (.if_icmp .ne 7, 3) := by decide +kernel
theorem dX7_readIngredient_42 : decode cX7_readIngredient 42 = .ok (.iconst 1, 1) := by decide +kernel
theorem dX7_readIngredient_43 : decode cX7_readIngredient 43 = .ok (.goto 4, 3) := by decide +kernel
theorem dX7_readIngredient_46 : decode cX7_readIngredient 46 = .ok (.iconst 0, 1) := by decide +kernel
theorem dX7_readIngredient_47 : decode cX7_readIngredient 47 = .ok (.ior, 1) := by decide +kernel
theorem dX7_readIngredient_48 : decode cX7_readIngredient 48 = .ok (.istore 4, 2) := by decide +kernel
theorem dX7_readIngredient_50 : decode cX7_readIngredient 50 = .ok (.iinc 5 1, 3) := by decide +kernel
theorem dX7_readIngredient_53 : decode cX7_readIngredient 53 = .ok (.goto (-35), 3) := by decide +kernel
theorem dX7_readIngredient_56 : decode cX7_readIngredient 56 = .ok (.iload 4, 2) := by decide +kernel
theorem dX7_readIngredient_58 : decode cX7_readIngredient 58 = .ok (.ifCond .eq 10, 3) := by decide +kernel
theorem dX7_readIngredient_61 : decode cX7_readIngredient 61 = .ok (.aload_n 0, 1) := by decide +kernel
theorem dX7_readIngredient_62 : decode cX7_readIngredient 62 = .ok (.iconst 3, 1) := by decide +kernel
theorem dX7_readIngredient_63 : decode cX7_readIngredient 63 = .ok (.iload_n 3, 1) := by decide +kernel
theorem dX7_readIngredient_64 : decode cX7_readIngredient 64 = .ok (.invokevirtual 160, 3) := by decide +kernel
theorem dX7_readIngredient_67 : decode cX7_readIngredient 67 = .ok (.return_, 1) := by decide +kernel
theorem dX7_readIngredient_68 : decode cX7_readIngredient 68 = .ok (.aload_n 0, 1) := by decide +kernel
theorem dX7_readIngredient_69 : decode cX7_readIngredient 69 = .ok (.getfield 47, 3) := by decide +kernel
theorem dX7_readIngredient_72 : decode cX7_readIngredient 72 = .ok (.iconst 2, 1) := by decide +kernel
theorem dX7_readIngredient_73 : decode cX7_readIngredient 73 = .ok (.aload_n 0, 1) := by decide +kernel
theorem dX7_readIngredient_74 : decode cX7_readIngredient 74 = .ok (.getfield 169, 3) := by decide +kernel
theorem dX7_readIngredient_77 : decode cX7_readIngredient 77 = .ok (.imul, 1) := by decide +kernel
theorem dX7_readIngredient_78 : decode cX7_readIngredient 78 = .ok (.iload_n 1, 1) := by decide +kernel
theorem dX7_readIngredient_79 : decode cX7_readIngredient 79 = .ok (.iastore, 1) := by decide +kernel
theorem dX7_readIngredient_80 : decode cX7_readIngredient 80 = .ok (.aload_n 0, 1) := by decide +kernel
theorem dX7_readIngredient_81 : decode cX7_readIngredient 81 = .ok (.getfield 47, 3) := by decide +kernel
theorem dX7_readIngredient_84 : decode cX7_readIngredient 84 = .ok (.iconst 2, 1) := by decide +kernel
theorem dX7_readIngredient_85 : decode cX7_readIngredient 85 = .ok (.aload_n 0, 1) := by decide +kernel
theorem dX7_readIngredient_86 : decode cX7_readIngredient 86 = .ok (.getfield 169, 3) := by decide +kernel
theorem dX7_readIngredient_89 : decode cX7_readIngredient 89 = .ok (.imul, 1) := by decide +kernel
theorem dX7_readIngredient_90 : decode cX7_readIngredient 90 = .ok (.iconst 1, 1) := by decide +kernel
theorem dX7_readIngredient_91 : decode cX7_readIngredient 91 = .ok (.iadd, 1) := by decide +kernel
theorem dX7_readIngredient_92 : decode cX7_readIngredient 92 = .ok (.iload_n 2, 1) := by decide +kernel
theorem dX7_readIngredient_93 : decode cX7_readIngredient 93 = .ok (.iastore, 1) := by decide +kernel
theorem dX7_readIngredient_94 : decode cX7_readIngredient 94 = .ok (.aload_n 0, 1) := by decide +kernel
theorem dX7_readIngredient_95 : decode cX7_readIngredient 95 = .ok (.dup, 1) := by decide +kernel
theorem dX7_readIngredient_96 : decode cX7_readIngredient 96 = .ok (.getfield 169, 3) := by decide +kernel
theorem dX7_readIngredient_99 : decode cX7_readIngredient 99 = .ok (.iconst 1, 1) := by decide +kernel
theorem dX7_readIngredient_100 : decode cX7_readIngredient 100 = .ok (.iadd, 1) := by decide +kernel
theorem dX7_readIngredient_101 : decode cX7_readIngredient 101 = .ok (.putfield 169, 3) := by decide +kernel
theorem dX7_readIngredient_104 : decode cX7_readIngredient 104 = .ok (.aload_n 0, 1) := by decide +kernel
theorem dX7_readIngredient_105 : decode cX7_readIngredient 105 = .ok (.bipush 7, 2) := by decide +kernel
theorem dX7_readIngredient_107 : decode cX7_readIngredient 107 = .ok (.putfield 147, 3) := by decide +kernel
theorem dX7_readIngredient_110 : decode cX7_readIngredient 110 = .ok (.return_, 1) := by decide +kernel
set_option maxRecDepth 20000 in
theorem ggX7_readOther_X7_endsWell : GoodIn wsX7_readOther wsX7_endsWell := goodIn_r _ [9, 4, 10, 2, 11, 12, 13, 14, 8, 15, 16, 17, 18, 19, 20, 21, 22, 23, 24, 31, 32, 33, 34, 35, 36, 37, 38, 39, 40, 41, 42, 43, 44, 45, 46, 47, 48, 49, 50, 51, 52, 53, 54, 55, 56, 57, 58, 59] (by decide +kernel) (by decide +kernel)
set_option maxRecDepth 20000 in
theorem gX7_readOther_X7_endsWell : GoodIn wsX7_readOther (wsV RX7 172 RX7 yX7_endsWell wsX7_endsWell) := goodIn_app (goodIn_of _ (by decide +kernel)) ggX7_readOther_X7_endsWell
set_option maxRecDepth 20000 in
theorem ggX7_readOther_X7_isIn : GoodIn wsX7_readOther wsX7_isIn := goodIn_r _ [18] (by decide +kernel) (by decide +kernel)
set_option maxRecDepth 20000 in
theorem gX7_readOther_X7_isIn : GoodIn wsX7_readOther (va_wsS RX7 61 yX7_isIn wsX7_isIn) := goodIn_app (goodIn_of _ (by decide +kernel)) ggX7_readOther_X7_isIn
set_option maxRecDepth 20000 in
theorem ggX7_readOther_X7_readIngredient : GoodIn wsX7_readOther wsX7_readIngredient := goodIn_r _ [28, 29, 30, 2, 19, 20, 21, 8, 22, 23, 24, 31, 32, 33, 34, 35, 36, 37, 38, 39, 40, 41, 42, 43, 44, 45, 46, 47, 48, 49, 50, 51, 52, 53, 54, 55, 56, 57, 58, 59] (by decide +kernel) (by decide +kernel)
set_option maxRecDepth 20000 in
theorem gX7_readOther_X7_readIngredient : GoodIn wsX7_readOther (wsV RX7 178 RX7 yX7_readIngredient wsX7_readIngredient) := goodIn_app (goodIn_of _ (by decide +kernel)) ggX7_readOther_X7_readIngredient
set_option maxRecDepth 20000 in
theorem ggX7_readOther_X7_mark : GoodIn wsX7_readOther wsX7_mark := goodIn_r _ [22, 23, 24, 31, 32, 33, 34, 35, 36, 37, 38, 39, 40, 41, 42, 43, 44, 45, 46, 47, 48, 49, 50, 51, 52, 53, 54, 55, 56, 57, 58, 59] (by decide +kernel) (by decide +kernel)
set_option maxRecDepth 20000 in
theorem gX7_readOther_X7_mark : GoodIn wsX7_readOther (wsV RX7 160 RX7 yX7_mark wsX7_mark) := goodIn_app (goodIn_of _ (by decide +kernel)) ggX7_readOther_X7_mark
theorem dX7_readOther_0 : decode cX7_readOther 0 = .ok (.aload_n 0, 1) := by decide +kernel
theorem dX7_readOther_1 : decode cX7_readOther 1 = .ok (.getfield 19, 3) := by decide +kernel
theorem dX7_readOther_4 : decode cX7_readOther 4 = .ok (.iload_n 1, 1) := by decide +kernel
theorem dX7_readOther_5 : decode cX7_readOther 5 = .ok (.iaload, 1) := by decide +kernel
theorem dX7_readOther_6 : decode cX7_readOther 6 = .ok (.istore_n 2, 1) := by decide +kernel
theorem dX7_readOther_7 : decode cX7_readOther 7 = .ok (.aload_n 0, 1) := by decide +kernel
theorem dX7_readOther_8 : decode cX7_readOther 8 = .ok (.invokevirtual 172, 3) := by decide +kernel
theorem dX7_readOther_11 : decode cX7_readOther 11 = .ok (.ifCond .eq 9, 3) := by decide +kernel
theorem dX7_readOther_14 : decode cX7_readOther 14 = .ok (.iload_n 2, 1) := by decide +kernel
theorem dX7_readOther_15 : decode cX7_readOther 15 = .ok (.bipush 32, 2) := by decide +kernel
theorem dX7_readOther_17 : decode cX7_readOther 17 = .ok (.if_icmp .ne 4, 3) := by decide +kernel
theorem dX7_readOther_20 : decode cX7_readOther 20 = .ok (.return_, 1) := by decide +kernel
theorem dX7_readOther_21 : decode cX7_readOther 21 = .ok (.iload_n 2, 1) := by decide +kernel
theorem dX7_readOther_22 : decode cX7_readOther 22 = .ok (.bipush 97, 2) := by decide +kernel
theorem dX7_readOther_24 : decode cX7_readOther 24 = .ok (.bipush 116, 2) := by decide +kernel
theorem dX7_readOther_26 : decode cX7_readOther 26 = .ok (.invokestatic 61, 3) := by decide +kernel
theorem dX7_readOther_29 : decode cX7_readOther 29 = .ok (.istore_n 3, 1) := by decide +kernel
theorem dX7_readOther_30 : decode cX7_readOther 30 = .ok (.aload_n 0, 1) := by decide +kernel
theorem dX7_readOther_31 : decode cX7_readOther 31 = .ok (.getfield 147, 3) := by decide +kernel
theorem dX7_readOther_34 : decode cX7_readOther 34 = .ok (.ifCond .ne 23, 3) := by decide +kernel
theorem dX7_readOther_37 : decode cX7_readOther 37 = .ok (.iload_n 3, 1) := by decide +kernel
theorem dX7_readOther_38 : decode cX7_readOther 38 = .ok (.ifCond .eq 19, 3) := by decide +kernel
theorem dX7_readOther_41 : decode cX7_readOther 41 = .ok (.aload_n 0, 1) := by decide +kernel
theorem dX7_readOther_42 : decode cX7_readOther 42 = .ok (.iload_n 2, 1) := by decide +kernel
theorem dX7_readOther_43 : decode cX7_readOther 43 = .ok (.bipush 97, 2) := by decide +kernel
theorem dX7_readOther_45 : decode cX7_readOther 45 = .ok (.isub, 1) := by decide +kernel
theorem dX7_readOther_46 : decode cX7_readOther 46 = .ok (.putfield 175, 3) := by decide +kernel
theorem dX7_readOther_49 : decode cX7_readOther 49 = .ok (.aload_n 0, 1) := by decide +kernel
theorem dX7_readOther_50 : decode cX7_readOther 50 = .ok (.iconst 1, 1) := by decide +kernel
theorem dX7_readOther_51 : decode cX7_readOther 51 = .ok (.putfield 147, 3) := by decide +kernel
theorem dX7_readOther_54 : decode cX7_readOther 54 = .ok (.goto 112, 3) := by decide +kernel
theorem dX7_readOther_57 : decode cX7_readOther 57 = .ok (.aload_n 0, 1) := by decide +kernel
theorem dX7_readOther_58 : decode cX7_readOther 58 = .ok (.getfield 147, 3) := by decide +kernel
theorem dX7_readOther_61 : decode cX7_readOther 61 = .ok (.iconst 1, 1) := by decide +kernel
theorem dX7_readOther_62 : decode cX7_readOther 62 = .ok (.if_icmp .eq 11, 3) := by decide +kernel
theorem dX7_readOther_65 : decode cX7_readOther 65 = .ok (.aload_n 0, 1) := by decide +kernel
theorem dX7_readOther_66 : decode cX7_readOther 66 = .ok (.getfield 147, 3) := by decide +kernel
theorem dX7_readOther_69 : decode cX7_readOther 69 = .ok (.iconst 3, 1) := by decide +kernel
theorem dX7_readOther_70 : decode cX7_readOther 70 = .ok (.if_icmp .ne 17, 3) := by decide +kernel
theorem dX7_readOther_73 : decode cX7_readOther 73 = .ok (.iload_n 2, 1) := by decide +kernel
theorem dX7_readOther_74 : decode cX7_readOther 74 = .ok (.bipush 61, 2) := by decide +kernel
theorem dX7_readOther_76 : decode cX7_readOther 76 = .ok (.if_icmp .ne 11, 3) := by decide +kernel
theorem dX7_readOther_79 : decode cX7_readOther 79 = .ok (.aload_n 0, 1) := by decide +kernel
theorem dX7_readOther_80 : decode cX7_readOther 80 = .ok (.iconst 4, 1) := by decide +kernel
theorem dX7_readOther_81 : decode cX7_readOther 81 = .ok (.putfield 147, 3) := by decide +kernel
theorem dX7_readOther_84 : decode cX7_readOther 84 = .ok (.goto 82, 3) := by decide +kernel
theorem dX7_readOther_87 : decode cX7_readOther 87 = .ok (.aload_n 0, 1) := by decide +kernel
theorem dX7_readOther_88 : decode cX7_readOther 88 = .ok (.getfield 147, 3) := by decide +kernel
theorem dX7_readOther_91 : decode cX7_readOther 91 = .ok (.iconst 4, 1) := by decide +kernel
theorem dX7_readOther_92 : decode cX7_readOther 92 = .ok (.if_icmp .eq 12, 3) := by decide +kernel
theorem dX7_readOther_95 : decode cX7_readOther 95 = .ok (.aload_n 0, 1) := by decide +kernel
theorem dX7_readOther_96 : decode cX7_readOther 96 = .ok (.getfield 147, 3) := by decide +kernel
theorem dX7_readOther_99 : decode cX7_readOther 99 = .ok (.bipush 6, 2) := by decide +kernel
theorem dX7_readOther_101 : decode cX7_readOther 101 = .ok (.if_icmp .ne 36, 3) := by decide +kernel
theorem dX7_readOther_104 : decode cX7_readOther 104 = .ok (.iload_n 3, 1) := by decide +kernel
theorem dX7_readOther_105 : decode cX7_readOther 105 = .ok (.ifCond .eq 32, 3) := by decide +kernel
theorem dX7_readOther_108 : decode cX7_readOther 108 = .ok (.aload_n 0, 1) := by decide +kernel
theorem dX7_readOther_109 : decode cX7_readOther 109 = .ok (.iload_n 2, 1) := by decide +kernel
theorem dX7_readOther_110 : decode cX7_readOther 110 = .ok (.bipush 97, 2) := by decide +kernel
theorem dX7_readOther_112 : decode cX7_readOther 112 = .ok (.isub, 1) := by decide +kernel
theorem dX7_readOther_113 : decode cX7_readOther 113 = .ok (.aload_n 0, 1) := by decide +kernel
theorem dX7_readOther_114 : decode cX7_readOther 114 = .ok (.getfield 147, 3) := by decide +kernel
theorem dX7_readOther_117 : decode cX7_readOther 117 = .ok (.bipush 6, 2) := by decide +kernel
theorem dX7_readOther_119 : decode cX7_readOther 119 = .ok (.if_icmp .ne 10, 3) := by decide +kernel
theorem dX7_readOther_122 : decode cX7_readOther 122 = .ok (.aload_n 0, 1) := by decide +kernel
theorem dX7_readOther_123 : decode cX7_readOther 123 = .ok (.getfield 154, 3) := by decide +kernel
theorem dX7_readOther_126 : decode cX7_readOther 126 = .ok (.goto 4, 3) := by decide +kernel
theorem dX7_readOther_129 : decode cX7_readOther 129 = .ok (.iconst 1, 1) := by decide +kernel
theorem dX7_readOther_130 : decode cX7_readOther 130 = .ok (.iload_n 1, 1) := by decide +kernel
theorem dX7_readOther_131 : decode cX7_readOther 131 = .ok (.invokevirtual 178, 3) := by decide +kernel
theorem dX7_readOther_134 : decode cX7_readOther 134 = .ok (.goto 32, 3) := by decide +kernel
theorem dX7_readOther_137 : decode cX7_readOther 137 = .ok (.aload_n 0, 1) := by decide +kernel
theorem dX7_readOther_138 : decode cX7_readOther 138 = .ok (.getfield 147, 3) := by decide +kernel
theorem dX7_readOther_141 : decode cX7_readOther 141 = .ok (.bipush 7, 2) := by decide +kernel
theorem dX7_readOther_143 : decode cX7_readOther 143 = .ok (.if_icmp .ne 17, 3) := by decide +kernel
theorem dX7_readOther_146 : decode cX7_readOther 146 = .ok (.iload_n 2, 1) := by decide +kernel
theorem dX7_readOther_147 : decode cX7_readOther 147 = .ok (.bipush 43, 2) := by decide +kernel
theorem dX7_readOther_149 : decode cX7_readOther 149 = .ok (.if_icmp .ne 11, 3) := by decide +kernel
theorem dX7_readOther_152 : decode cX7_readOther 152 = .ok (.aload_n 0, 1) := by decide +kernel
theorem dX7_readOther_153 : decode cX7_readOther 153 = .ok (.iconst 4, 1) := by decide +kernel
theorem dX7_readOther_154 : decode cX7_readOther 154 = .ok (.putfield 147, 3) := by decide +kernel
theorem dX7_readOther_157 : decode cX7_readOther 157 = .ok (.goto 9, 3) := by decide +kernel
theorem dX7_readOther_160 : decode cX7_readOther 160 = .ok (.aload_n 0, 1) := by decide +kernel
theorem dX7_readOther_161 : decode cX7_readOther 161 = .ok (.iconst 1, 1) := by decide +kernel
theorem dX7_readOther_162 : decode cX7_readOther 162 = .ok (.iload_n 1, 1) := by decide +kernel
theorem dX7_readOther_163 : decode cX7_readOther 163 = .ok (.invokevirtual 160, 3) := by decide +kernel
theorem dX7_readOther_166 : decode cX7_readOther 166 = .ok (.return_, 1) := by decide +kernel
set_option maxRecDepth 20000 in
theorem ggX7_readText_X7_mark : GoodIn wsX7_readText wsX7_mark := goodIn_r _ [11, 5, 12, 41, 42, 43, 44, 45, 46, 47, 48, 49, 50, 51, 52, 53, 54, 55, 56, 57, 58, 59, 60, 61, 62, 63, 64, 65, 66, 67, 68, 69] (by decide +kernel) (by decide +kernel)
set_option maxRecDepth 20000 in
theorem gX7_readText_X7_mark : GoodIn wsX7_readText (wsV RX7 160 RX7 yX7_mark wsX7_mark) := goodIn_app (goodIn_of _ (by decide +kernel)) ggX7_readText_X7_mark
set_option maxRecDepth 20000 in
theorem ggX7_readText_X7_isIn : GoodIn wsX7_readText wsX7_isIn := goodIn_r _ [15] (by decide +kernel) (by decide +kernel)
set_option maxRecDepth 20000 in
theorem gX7_readText_X7_isIn : GoodIn wsX7_readText (va_wsS RX7 61 yX7_isIn wsX7_isIn) := goodIn_app (goodIn_of _ (by decide +kernel)) ggX7_readText_X7_isIn
set_option maxRecDepth 20000 in
theorem ggX7_readText_X7_readDigit : GoodIn wsX7_readText wsX7_readDigit := goodIn_r _ [19, 3, 6, 20, 21, 22, 23, 24, 25, 10, 26, 7, 8, 9, 11, 5, 12, 41, 42, 43, 44, 45, 46, 47, 48, 49, 50, 51, 52, 53, 54, 55, 56, 57, 58, 59, 60, 61, 62, 63, 64, 65, 66, 67, 68, 69] (by decide +kernel) (by decide +kernel)
set_option maxRecDepth 20000 in
theorem gX7_readText_X7_readDigit : GoodIn wsX7_readText (wsV RX7 184 RX7 yX7_readDigit wsX7_readDigit) := goodIn_app (goodIn_of _ (by decide +kernel)) ggX7_readText_X7_readDigit
set_option maxRecDepth 20000 in
theorem ggX7_readText_X7_readOther : GoodIn wsX7_readText wsX7_readOther := goodIn_r _ [30, 6, 3, 31, 20, 32, 33, 34, 10, 35, 22, 1, 23, 24, 25, 26, 13, 14, 15, 7, 8, 9, 11, 5, 12, 36, 37, 38, 39, 2, 40, 41, 42, 43, 44, 45, 46, 47, 48, 49, 50, 51, 52, 53, 54, 55, 56, 57, 58, 59, 60, 61, 62, 63, 64, 65, 66, 67, 68, 69] (by decide +kernel) (by decide +kernel)
set_option maxRecDepth 20000 in
theorem gX7_readText_X7_readOther : GoodIn wsX7_readText (wsV RX7 188 RX7 yX7_readOther wsX7_readOther) := goodIn_app (goodIn_of _ (by decide +kernel)) ggX7_readText_X7_readOther
set_option maxRecDepth 20000 in
theorem ggX7_readText_X7_endsWell : GoodIn wsX7_readText wsX7_endsWell := goodIn_r _ [35, 20, 22, 3, 1, 23, 24, 25, 10, 26, 13, 14, 15, 7, 8, 9, 11, 5, 12, 41, 42, 43, 44, 45, 46, 47, 48, 49, 50, 51, 52, 53, 54, 55, 56, 57, 58, 59, 60, 61, 62, 63, 64, 65, 66, 67, 68, 69] (by decide +kernel) (by decide +kernel)
set_option maxRecDepth 20000 in
theorem gX7_readText_X7_endsWell : GoodIn wsX7_readText (wsV RX7 172 RX7 yX7_endsWell wsX7_endsWell) := goodIn_app (goodIn_of _ (by decide +kernel)) ggX7_readText_X7_endsWell
theorem dX7_readText_0 : decode cX7_readText 0 = .ok (.aload_n 0, 1) := by decide +kernel
theorem dX7_readText_1 : decode cX7_readText 1 = .ok (.bipush (-9), 2) := by decide +kernel
theorem dX7_readText_3 : decode cX7_readText 3 = .ok (.bipush (-9), 2) := by decide +kernel
theorem dX7_readText_5 : decode cX7_readText 5 = .ok (.invokevirtual 160, 3) := by decide +kernel
theorem dX7_readText_8 : decode cX7_readText 8 = .ok (.aload_n 0, 1) := by decide +kernel
theorem dX7_readText_9 : decode cX7_readText 9 = .ok (.iconst 1, 1) := by decide +kernel
theorem dX7_readText_10 : decode cX7_readText 10 = .ok (.putfield 163, 3) := by decide +kernel
theorem dX7_readText_13 : decode cX7_readText 13 = .ok (.aload_n 0, 1) := by decide +kernel
theorem dX7_readText_14 : decode cX7_readText 14 = .ok (.iconst 0, 1) := by decide +kernel
theorem dX7_readText_15 : decode cX7_readText 15 = .ok (.putfield 169, 3) := by decide +kernel
theorem dX7_readText_18 : decode cX7_readText 18 = .ok (.aload_n 0, 1) := by decide +kernel
theorem dX7_readText_19 : decode cX7_readText 19 = .ok (.iconst 0, 1) := by decide +kernel
theorem dX7_readText_20 : decode cX7_readText 20 = .ok (.putfield 147, 3) := by decide +kernel
theorem dX7_readText_23 : decode cX7_readText 23 = .ok (.iconst 0, 1) := by decide +kernel
theorem dX7_readText_24 : decode cX7_readText 24 = .ok (.istore_n 1, 1) := by decide +kernel
theorem dX7_readText_25 : decode cX7_readText 25 = .ok (.iload_n 1, 1) := by decide +kernel
theorem dX7_readText_26 : decode cX7_readText 26 = .ok (.aload_n 0, 1) := by decide +kernel
theorem dX7_readText_27 : decode cX7_readText 27 = .ok (.getfield 181, 3) := by decide +kernel
theorem dX7_readText_30 : decode cX7_readText 30 = .ok (.if_icmp .ge 47, 3) := by decide +kernel
theorem dX7_readText_33 : decode cX7_readText 33 = .ok (.aload_n 0, 1) := by decide +kernel
theorem dX7_readText_34 : decode cX7_readText 34 = .ok (.getfield 141, 3) := by decide +kernel
theorem dX7_readText_37 : decode cX7_readText 37 = .ok (.bipush (-9), 2) := by decide +kernel
theorem dX7_readText_39 : decode cX7_readText 39 = .ok (.if_icmp .ne 38, 3) := by decide +kernel
theorem dX7_readText_42 : decode cX7_readText 42 = .ok (.aload_n 0, 1) := by decide +kernel
theorem dX7_readText_43 : decode cX7_readText 43 = .ok (.getfield 19, 3) := by decide +kernel
theorem dX7_readText_46 : decode cX7_readText 46 = .ok (.iload_n 1, 1) := by decide +kernel
theorem dX7_readText_47 : decode cX7_readText 47 = .ok (.iaload, 1) := by decide +kernel
theorem dX7_readText_48 : decode cX7_readText 48 = .ok (.bipush 48, 2) := by decide +kernel
theorem dX7_readText_50 : decode cX7_readText 50 = .ok (.bipush 57, 2) := by decide +kernel
theorem dX7_readText_52 : decode cX7_readText 52 = .ok (.invokestatic 61, 3) := by decide +kernel
theorem dX7_readText_55 : decode cX7_readText 55 = .ok (.ifCond .eq 11, 3) := by decide +kernel
theorem dX7_readText_58 : decode cX7_readText 58 = .ok (.aload_n 0, 1) := by decide +kernel
theorem dX7_readText_59 : decode cX7_readText 59 = .ok (.iload_n 1, 1) := by decide +kernel
theorem dX7_readText_60 : decode cX7_readText 60 = .ok (.invokevirtual 184, 3) := by decide +kernel
theorem dX7_readText_63 : decode cX7_readText 63 = .ok (.goto 8, 3) := by decide +kernel
theorem dX7_readText_66 : decode cX7_readText 66 = .ok (.aload_n 0, 1) := by decide +kernel
theorem dX7_readText_67 : decode cX7_readText 67 = .ok (.iload_n 1, 1) := by decide +kernel
theorem dX7_readText_68 : decode cX7_readText 68 = .ok (.invokevirtual 188, 3) := by decide +kernel
theorem dX7_readText_71 : decode cX7_readText 71 = .ok (.iinc 1 1, 3) := by decide +kernel
theorem dX7_readText_74 : decode cX7_readText 74 = .ok (.goto (-49), 3) := by decide +kernel
theorem dX7_readText_77 : decode cX7_readText 77 = .ok (.aload_n 0, 1) := by decide +kernel
theorem dX7_readText_78 : decode cX7_readText 78 = .ok (.getfield 141, 3) := by decide +kernel
theorem dX7_readText_81 : decode cX7_readText 81 = .ok (.bipush (-9), 2) := by decide +kernel
theorem dX7_readText_83 : decode cX7_readText 83 = .ok (.if_icmp .ne 28, 3) := by decide +kernel
theorem dX7_readText_86 : decode cX7_readText 86 = .ok (.aload_n 0, 1) := by decide +kernel
theorem dX7_readText_87 : decode cX7_readText 87 = .ok (.invokevirtual 172, 3) := by decide +kernel
theorem dX7_readText_90 : decode cX7_readText 90 = .ok (.ifCond .eq 21, 3) := by decide +kernel
theorem dX7_readText_93 : decode cX7_readText 93 = .ok (.aload_n 0, 1) := by decide +kernel
theorem dX7_readText_94 : decode cX7_readText 94 = .ok (.getfield 147, 3) := by decide +kernel
theorem dX7_readText_97 : decode cX7_readText 97 = .ok (.bipush 7, 2) := by decide +kernel
theorem dX7_readText_99 : decode cX7_readText 99 = .ok (.if_icmp .eq 12, 3) := by decide +kernel
theorem dX7_readText_102 : decode cX7_readText 102 = .ok (.aload_n 0, 1) := by decide +kernel
theorem dX7_readText_103 : decode cX7_readText 103 = .ok (.iconst 4, 1) := by decide +kernel
theorem dX7_readText_104 : decode cX7_readText 104 = .ok (.aload_n 0, 1) := by decide +kernel
theorem dX7_readText_105 : decode cX7_readText 105 = .ok (.getfield 181, 3) := by decide +kernel
theorem dX7_readText_108 : decode cX7_readText 108 = .ok (.invokevirtual 160, 3) := by decide +kernel
theorem dX7_readText_111 : decode cX7_readText 111 = .ok (.return_, 1) := by decide +kernel
set_option maxRecDepth 20000 in
theorem ggX7_recipe_X7_readText : GoodIn wsX7_recipe wsX7_readText := goodIn_r _ [15, 6, 7, 16, 17, 1, 18, 19, 20, 21, 14, 22, 3, 23, 24, 25, 26, 27, 28, 29, 30, 31, 32, 33, 34, 35, 36, 37, 38, 39, 40, 5, 41, 42, 43, 44, 45, 46, 47, 48, 8, 93, 94, 95, 96, 97, 98, 99, 100, 101, 102, 103, 104, 105, 106, 107, 108, 109, 110, 111, 112, 113, 114, 115, 116, 117, 118, 119, 120, 121] (by decide +kernel) (by decide +kernel)
set_option maxRecDepth 20000 in
theorem gX7_recipe_X7_readText : GoodIn wsX7_recipe (wsV RX7 191 RX7 yX7_readText wsX7_readText) := goodIn_app (goodIn_of _ (by decide +kernel)) ggX7_recipe_X7_readText
set_option maxRecDepth 20000 in
theorem ggX7_recipe_X7_hold : GoodIn wsX7_recipe wsX7_hold := goodIn_r _ [52, 53, 54, 93, 94, 95, 96, 97, 98, 99, 100, 101, 102, 103, 104, 105, 106, 107, 108, 109, 110, 111, 112, 113, 114, 115, 116, 117, 118, 119, 120, 121] (by decide +kernel) (by decide +kernel)
set_option maxRecDepth 20000 in
theorem gX7_recipe_X7_hold : GoodIn wsX7_recipe (wsV RX7 131 RX7 yX7_hold wsX7_hold) := goodIn_app (goodIn_of _ (by decide +kernel)) ggX7_recipe_X7_hold
set_option maxRecDepth 20000 in
theorem ggX7_recipe_X7_put : GoodIn wsX7_recipe wsX7_put := goodIn_r _ [58, 54, 93, 94, 95, 96, 97, 98, 99, 100, 101, 102, 103, 104, 105, 106, 107, 108, 109, 110, 111, 112, 113, 114, 115, 116, 117, 118, 119, 120, 121] (by decide +kernel) (by decide +kernel)
set_option maxRecDepth 20000 in
theorem gX7_recipe_X7_put : GoodIn wsX7_recipe (wsV RX7 54 RX7 yX7_put wsX7_put) := goodIn_app (goodIn_of _ (by decide +kernel)) ggX7_recipe_X7_put
set_option maxRecDepth 20000 in
theorem ggX7_recipe_X7_areRanks : GoodIn wsX7_recipe wsX7_areRanks := goodIn_r _ [62, 10, 63, 64, 65, 14, 66, 67, 68, 69, 70, 54, 71, 72, 73, 74, 75, 76, 77, 78, 93, 94, 95, 96, 97, 98, 99, 100, 101, 102, 103, 104, 105, 106, 107, 108, 109, 110, 111, 112, 113, 114, 115, 116, 117, 118, 119, 120, 121] (by decide +kernel) (by decide +kernel)
set_option maxRecDepth 20000 in
theorem gX7_recipe_X7_areRanks : GoodIn wsX7_recipe (wsV RX7 194 RX7 yX7_areRanks wsX7_areRanks) := goodIn_app (goodIn_of _ (by decide +kernel)) ggX7_recipe_X7_areRanks
set_option maxRecDepth 20000 in
theorem ggX7_recipe_X7_restore : GoodIn wsX7_recipe wsX7_restore := goodIn_r _ [82, 54, 53, 93, 94, 95, 96, 97, 98, 99, 100, 101, 102, 103, 104, 105, 106, 107, 108, 109, 110, 111, 112, 113, 114, 115, 116, 117, 118, 119, 120, 121] (by decide +kernel) (by decide +kernel)
set_option maxRecDepth 20000 in
theorem gX7_recipe_X7_restore : GoodIn wsX7_recipe (wsV RX7 122 RX7 yX7_restore wsX7_restore) := goodIn_app (goodIn_of _ (by decide +kernel)) ggX7_recipe_X7_restore
set_option maxRecDepth 20000 in
theorem ggX7_recipe_X7_endMaking : GoodIn wsX7_recipe wsX7_endMaking := goodIn_r _ [86, 9, 54, 53, 79, 80, 81, 14, 82, 87, 88, 89, 90, 91, 92, 93, 94, 95, 96, 97, 98, 99, 100, 101, 102, 103, 104, 105, 106, 107, 108, 109, 110, 111, 112, 113, 114, 115, 116, 117, 118, 119, 120, 121] (by decide +kernel) (by decide +kernel)
set_option maxRecDepth 20000 in
theorem gX7_recipe_X7_endMaking : GoodIn wsX7_recipe (wsV RX7 137 RX7 yX7_endMaking wsX7_endMaking) := goodIn_app (goodIn_of _ (by decide +kernel)) ggX7_recipe_X7_endMaking
theorem dX7_recipe_0 : decode cX7_recipe 0 = .ok (.aload_n 0, 1) := by decide +kernel
theorem dX7_recipe_1 : decode cX7_recipe 1 = .ok (.invokevirtual 191, 3) := by decide +kernel
theorem dX7_recipe_4 : decode cX7_recipe 4 = .ok (.aload_n 0, 1) := by decide +kernel
theorem dX7_recipe_5 : decode cX7_recipe 5 = .ok (.getfield 141, 3) := by decide +kernel
theorem dX7_recipe_8 : decode cX7_recipe 8 = .ok (.bipush (-9), 2) := by decide +kernel
theorem dX7_recipe_10 : decode cX7_recipe 10 = .ok (.if_icmp .eq 22, 3) := by decide +kernel
theorem dX7_recipe_13 : decode cX7_recipe 13 = .ok (.aload_n 0, 1) := by decide +kernel
theorem dX7_recipe_14 : decode cX7_recipe 14 = .ok (.aload_n 0, 1) := by decide +kernel
theorem dX7_recipe_15 : decode cX7_recipe 15 = .ok (.getfield 141, 3) := by decide +kernel
theorem dX7_recipe_18 : decode cX7_recipe 18 = .ok (.putfield 22, 3) := by decide +kernel
theorem dX7_recipe_21 : decode cX7_recipe 21 = .ok (.aload_n 0, 1) := by decide +kernel
theorem dX7_recipe_22 : decode cX7_recipe 22 = .ok (.aload_n 0, 1) := by decide +kernel
theorem dX7_recipe_23 : decode cX7_recipe 23 = .ok (.getfield 144, 3) := by decide +kernel
theorem dX7_recipe_26 : decode cX7_recipe 26 = .ok (.putfield 26, 3) := by decide +kernel
theorem dX7_recipe_29 : decode cX7_recipe 29 = .ok (.bipush (-2), 2) := by decide +kernel
theorem dX7_recipe_31 : decode cX7_recipe 31 = .ok (.ireturn, 1) := by decide +kernel
theorem dX7_recipe_32 : decode cX7_recipe 32 = .ok (.aload_n 0, 1) := by decide +kernel
theorem dX7_recipe_33 : decode cX7_recipe 33 = .ok (.invokevirtual 131, 3) := by decide +kernel
theorem dX7_recipe_36 : decode cX7_recipe 36 = .ok (.aload_n 0, 1) := by decide +kernel
theorem dX7_recipe_37 : decode cX7_recipe 37 = .ok (.aload_n 0, 1) := by decide +kernel
theorem dX7_recipe_38 : decode cX7_recipe 38 = .ok (.getfield 175, 3) := by decide +kernel
theorem dX7_recipe_41 : decode cX7_recipe 41 = .ok (.bipush 7, 2) := by decide +kernel
theorem dX7_recipe_43 : decode cX7_recipe 43 = .ok (.aload_n 0, 1) := by decide +kernel
theorem dX7_recipe_44 : decode cX7_recipe 44 = .ok (.getfield 163, 3) := by decide +kernel
theorem dX7_recipe_47 : decode cX7_recipe 47 = .ok (.invokevirtual 54, 3) := by decide +kernel
theorem dX7_recipe_50 : decode cX7_recipe 50 = .ok (.aload_n 0, 1) := by decide +kernel
theorem dX7_recipe_51 : decode cX7_recipe 51 = .ok (.aload_n 0, 1) := by decide +kernel
theorem dX7_recipe_52 : decode cX7_recipe 52 = .ok (.getfield 175, 3) := by decide +kernel
theorem dX7_recipe_55 : decode cX7_recipe 55 = .ok (.bipush 8, 2) := by decide +kernel
theorem dX7_recipe_57 : decode cX7_recipe 57 = .ok (.aload_n 0, 1) := by decide +kernel
theorem dX7_recipe_58 : decode cX7_recipe 58 = .ok (.getfield 169, 3) := by decide +kernel
theorem dX7_recipe_61 : decode cX7_recipe 61 = .ok (.invokevirtual 54, 3) := by decide +kernel
theorem dX7_recipe_64 : decode cX7_recipe 64 = .ok (.iconst 0, 1) := by decide +kernel
theorem dX7_recipe_65 : decode cX7_recipe 65 = .ok (.istore_n 1, 1) := by decide +kernel
theorem dX7_recipe_66 : decode cX7_recipe 66 = .ok (.iload_n 1, 1) := by decide +kernel
theorem dX7_recipe_67 : decode cX7_recipe 67 = .ok (.iconst 2, 1) := by decide +kernel
theorem dX7_recipe_68 : decode cX7_recipe 68 = .ok (.aload_n 0, 1) := by decide +kernel
theorem dX7_recipe_69 : decode cX7_recipe 69 = .ok (.getfield 169, 3) := by decide +kernel
theorem dX7_recipe_72 : decode cX7_recipe 72 = .ok (.imul, 1) := by decide +kernel
theorem dX7_recipe_73 : decode cX7_recipe 73 = .ok (.if_icmp .ge 27, 3) := by decide +kernel
theorem dX7_recipe_76 : decode cX7_recipe 76 = .ok (.aload_n 0, 1) := by decide +kernel
theorem dX7_recipe_77 : decode cX7_recipe 77 = .ok (.aload_n 0, 1) := by decide +kernel
theorem dX7_recipe_78 : decode cX7_recipe 78 = .ok (.getfield 175, 3) := by decide +kernel
theorem dX7_recipe_81 : decode cX7_recipe 81 = .ok (.bipush 9, 2) := by decide +kernel
theorem dX7_recipe_83 : decode cX7_recipe 83 = .ok (.iload_n 1, 1) := by decide +kernel
theorem dX7_recipe_84 : decode cX7_recipe 84 = .ok (.iadd, 1) := by decide +kernel
theorem dX7_recipe_85 : decode cX7_recipe 85 = .ok (.aload_n 0, 1) := by decide +kernel
theorem dX7_recipe_86 : decode cX7_recipe 86 = .ok (.getfield 47, 3) := by decide +kernel
theorem dX7_recipe_89 : decode cX7_recipe 89 = .ok (.iload_n 1, 1) := by decide +kernel
theorem dX7_recipe_90 : decode cX7_recipe 90 = .ok (.iaload, 1) := by decide +kernel
theorem dX7_recipe_91 : decode cX7_recipe 91 = .ok (.invokevirtual 54, 3) := by decide +kernel
theorem dX7_recipe_94 : decode cX7_recipe 94 = .ok (.iinc 1 1, 3) := by decide +kernel
theorem dX7_recipe_97 : decode cX7_recipe 97 = .ok (.goto (-31), 3) := by decide +kernel
theorem dX7_recipe_100 : decode cX7_recipe 100 = .ok (.aload_n 0, 1) := by decide +kernel
theorem dX7_recipe_101 : decode cX7_recipe 101 = .ok (.invokevirtual 194, 3) := by decide +kernel
theorem dX7_recipe_104 : decode cX7_recipe 104 = .ok (.ifCond .ne 10, 3) := by decide +kernel
theorem dX7_recipe_107 : decode cX7_recipe 107 = .ok (.aload_n 0, 1) := by decide +kernel
theorem dX7_recipe_108 : decode cX7_recipe 108 = .ok (.invokevirtual 122, 3) := by decide +kernel
theorem dX7_recipe_111 : decode cX7_recipe 111 = .ok (.bipush (-2), 2) := by decide +kernel
theorem dX7_recipe_113 : decode cX7_recipe 113 = .ok (.ireturn, 1) := by decide +kernel
theorem dX7_recipe_114 : decode cX7_recipe 114 = .ok (.aload_n 0, 1) := by decide +kernel
theorem dX7_recipe_115 : decode cX7_recipe 115 = .ok (.iconst 0, 1) := by decide +kernel
theorem dX7_recipe_116 : decode cX7_recipe 116 = .ok (.putfield 80, 3) := by decide +kernel
theorem dX7_recipe_119 : decode cX7_recipe 119 = .ok (.aload_n 0, 1) := by decide +kernel
theorem dX7_recipe_120 : decode cX7_recipe 120 = .ok (.invokevirtual 137, 3) := by decide +kernel
theorem dX7_recipe_123 : decode cX7_recipe 123 = .ok (.istore_n 1, 1) := by decide +kernel
theorem dX7_recipe_124 : decode cX7_recipe 124 = .ok (.aload_n 0, 1) := by decide +kernel
theorem dX7_recipe_125 : decode cX7_recipe 125 = .ok (.getfield 29, 3) := by decide +kernel
theorem dX7_recipe_128 : decode cX7_recipe 128 = .ok (.aload_n 0, 1) := by decide +kernel
theorem dX7_recipe_129 : decode cX7_recipe 129 = .ok (.getfield 175, 3) := by decide +kernel
theorem dX7_recipe_132 : decode cX7_recipe 132 = .ok (.iaload, 1) := by decide +kernel
theorem dX7_recipe_133 : decode cX7_recipe 133 = .ok (.ireturn, 1) := by decide +kernel
set_option maxRecDepth 20000 in
theorem ggX7_forget_X7_isThing : GoodIn wsX7_forget wsX7_isThing := goodIn_r _ [4, 5, 6, 3, 7] (by decide +kernel) (by decide +kernel)
set_option maxRecDepth 20000 in
theorem gX7_forget_X7_isThing : GoodIn wsX7_forget (va_wsS RX7 128 yX7_isThing wsX7_isThing) := goodIn_app (goodIn_of _ (by decide +kernel)) ggX7_forget_X7_isThing
set_option maxRecDepth 20000 in
theorem ggX7_forget_X7_isMade : GoodIn wsX7_forget wsX7_isMade := goodIn_r _ [11, 12, 13, 14, 3, 15, 16, 27, 28, 29, 30, 31, 32, 33, 34, 35, 36, 37, 38, 39, 40, 41, 42, 43, 44, 45, 46, 47, 48, 49, 50, 51, 52, 53, 54, 55] (by decide +kernel) (by decide +kernel)
set_option maxRecDepth 20000 in
theorem gX7_forget_X7_isMade : GoodIn wsX7_forget (wsV RX7 72 RX7 yX7_isMade wsX7_isMade) := goodIn_app (goodIn_of _ (by decide +kernel)) ggX7_forget_X7_isMade
set_option maxRecDepth 20000 in
theorem ggX7_forget_X7_remember : GoodIn wsX7_forget wsX7_remember := goodIn_r _ [20, 21, 22, 16, 27, 28, 29, 30, 31, 32, 33, 34, 35, 36, 37, 38, 39, 40, 41, 42, 43, 44, 45, 46, 47, 48, 49, 50, 51, 52, 53, 54, 55] (by decide +kernel) (by decide +kernel)
set_option maxRecDepth 20000 in
theorem gX7_forget_X7_remember : GoodIn wsX7_forget (wsV RX7 125 RX7 yX7_remember wsX7_remember) := goodIn_app (goodIn_of _ (by decide +kernel)) ggX7_forget_X7_remember
set_option maxRecDepth 20000 in
theorem ggX7_forget_X7_of : GoodIn wsX7_forget wsX7_of := goodIn_r _ [15, 16, 27, 28, 29, 30, 31, 32, 33, 34, 35, 36, 37, 38, 39, 40, 41, 42, 43, 44, 45, 46, 47, 48, 49, 50, 51, 52, 53, 54, 55] (by decide +kernel) (by decide +kernel)
set_option maxRecDepth 20000 in
theorem gX7_forget_X7_of : GoodIn wsX7_forget (wsV RX7 65 RX7 yX7_of wsX7_of) := goodIn_app (goodIn_of _ (by decide +kernel)) ggX7_forget_X7_of
set_option maxRecDepth 20000 in
theorem ggX7_forget_X7_put : GoodIn wsX7_forget wsX7_put := goodIn_r _ [26, 16, 27, 28, 29, 30, 31, 32, 33, 34, 35, 36, 37, 38, 39, 40, 41, 42, 43, 44, 45, 46, 47, 48, 49, 50, 51, 52, 53, 54, 55] (by decide +kernel) (by decide +kernel)
set_option maxRecDepth 20000 in
theorem gX7_forget_X7_put : GoodIn wsX7_forget (wsV RX7 54 RX7 yX7_put wsX7_put) := goodIn_app (goodIn_of _ (by decide +kernel)) ggX7_forget_X7_put
theorem dX7_forget_0 : decode cX7_forget 0 = .ok (.iload_n 1, 1) := by decide +kernel
theorem dX7_forget_1 : decode cX7_forget 1 = .ok (.invokestatic 128, 3) := by decide +kernel
theorem dX7_forget_4 : decode cX7_forget 4 = .ok (.ifCond .ne 5, 3) := by decide +kernel
theorem dX7_forget_7 : decode cX7_forget 7 = .ok (.iconst (-1), 1) := by decide +kernel
theorem dX7_forget_8 : decode cX7_forget 8 = .ok (.ireturn, 1) := by decide +kernel
theorem dX7_forget_9 : decode cX7_forget 9 = .ok (.aload_n 0, 1) := by decide +kernel
theorem dX7_forget_10 : decode cX7_forget 10 = .ok (.iload_n 1, 1) := by decide +kernel
theorem dX7_forget_11 : decode cX7_forget 11 = .ok (.invokevirtual 72, 3) := by decide +kernel
theorem dX7_forget_14 : decode cX7_forget 14 = .ok (.ifCond .ne 6, 3) := by decide +kernel
theorem dX7_forget_17 : decode cX7_forget 17 = .ok (.bipush (-2), 2) := by decide +kernel
theorem dX7_forget_19 : decode cX7_forget 19 = .ok (.ireturn, 1) := by decide +kernel
theorem dX7_forget_20 : decode cX7_forget 20 = .ok (.aload_n 0, 1) := by decide +kernel
theorem dX7_forget_21 : decode cX7_forget 21 = .ok (.invokevirtual 125, 3) := by decide +kernel
theorem dX7_forget_24 : decode cX7_forget 24 = .ok (.aload_n 0, 1) := by decide +kernel
theorem dX7_forget_25 : decode cX7_forget 25 = .ok (.iload_n 1, 1) := by decide +kernel
theorem dX7_forget_26 : decode cX7_forget 26 = .ok (.bipush 7, 2) := by decide +kernel
theorem dX7_forget_28 : decode cX7_forget 28 = .ok (.invokevirtual 65, 3) := by decide +kernel
theorem dX7_forget_31 : decode cX7_forget 31 = .ok (.istore_n 2, 1) := by decide +kernel
theorem dX7_forget_32 : decode cX7_forget 32 = .ok (.aload_n 0, 1) := by decide +kernel
theorem dX7_forget_33 : decode cX7_forget 33 = .ok (.iload_n 1, 1) := by decide +kernel
theorem dX7_forget_34 : decode cX7_forget 34 = .ok (.bipush 7, 2) := by decide +kernel
theorem dX7_forget_36 : decode cX7_forget 36 = .ok (.iconst 0, 1) := by decide +kernel
theorem dX7_forget_37 : decode cX7_forget 37 = .ok (.invokevirtual 54, 3) := by decide +kernel
theorem dX7_forget_40 : decode cX7_forget 40 = .ok (.aload_n 0, 1) := by decide +kernel
theorem dX7_forget_41 : decode cX7_forget 41 = .ok (.iload_n 1, 1) := by decide +kernel
theorem dX7_forget_42 : decode cX7_forget 42 = .ok (.bipush 8, 2) := by decide +kernel
theorem dX7_forget_44 : decode cX7_forget 44 = .ok (.iconst 0, 1) := by decide +kernel
theorem dX7_forget_45 : decode cX7_forget 45 = .ok (.invokevirtual 54, 3) := by decide +kernel
theorem dX7_forget_48 : decode cX7_forget 48 = .ok (.iload_n 2, 1) := by decide +kernel
theorem dX7_forget_49 : decode cX7_forget 49 = .ok (.ireturn, 1) := by decide +kernel
set_option maxRecDepth 20000 in
theorem ggX7_allow_X7_isThing : GoodIn wsX7_allow wsX7_isThing := goodIn_r _ [5, 6, 7, 4, 8] (by decide +kernel) (by decide +kernel)
set_option maxRecDepth 20000 in
theorem gX7_allow_X7_isThing : GoodIn wsX7_allow (va_wsS RX7 128 yX7_isThing wsX7_isThing) := goodIn_app (goodIn_of _ (by decide +kernel)) ggX7_allow_X7_isThing
set_option maxRecDepth 20000 in
theorem ggX7_allow_X7_of : GoodIn wsX7_allow wsX7_of := goodIn_r _ [12, 13, 54, 55, 56, 57, 58, 59, 60, 61, 62, 63, 64, 65, 66, 67, 68, 69, 70, 71, 72, 73, 74, 75, 76, 77, 78, 79, 80, 81, 82] (by decide +kernel) (by decide +kernel)
set_option maxRecDepth 20000 in
theorem gX7_allow_X7_of : GoodIn wsX7_allow (wsV RX7 65 RX7 yX7_of wsX7_of) := goodIn_app (goodIn_of _ (by decide +kernel)) ggX7_allow_X7_of
set_option maxRecDepth 20000 in
theorem ggX7_allow_X7_hold : GoodIn wsX7_allow wsX7_hold := goodIn_r _ [17, 18, 13, 54, 55, 56, 57, 58, 59, 60, 61, 62, 63, 64, 65, 66, 67, 68, 69, 70, 71, 72, 73, 74, 75, 76, 77, 78, 79, 80, 81, 82] (by decide +kernel) (by decide +kernel)
set_option maxRecDepth 20000 in
theorem gX7_allow_X7_hold : GoodIn wsX7_allow (wsV RX7 131 RX7 yX7_hold wsX7_hold) := goodIn_app (goodIn_of _ (by decide +kernel)) ggX7_allow_X7_hold
set_option maxRecDepth 20000 in
theorem ggX7_allow_X7_put : GoodIn wsX7_allow wsX7_put := goodIn_r _ [22, 13, 54, 55, 56, 57, 58, 59, 60, 61, 62, 63, 64, 65, 66, 67, 68, 69, 70, 71, 72, 73, 74, 75, 76, 77, 78, 79, 80, 81, 82] (by decide +kernel) (by decide +kernel)
set_option maxRecDepth 20000 in
theorem gX7_allow_X7_put : GoodIn wsX7_allow (wsV RX7 54 RX7 yX7_put wsX7_put) := goodIn_app (goodIn_of _ (by decide +kernel)) ggX7_allow_X7_put
set_option maxRecDepth 20000 in
theorem ggX7_allow_X7_areRanks : GoodIn wsX7_allow wsX7_areRanks := goodIn_r _ [26, 27, 28, 29, 30, 4, 31, 9, 10, 11, 12, 13, 32, 33, 34, 35, 36, 37, 38, 39, 54, 55, 56, 57, 58, 59, 60, 61, 62, 63, 64, 65, 66, 67, 68, 69, 70, 71, 72, 73, 74, 75, 76, 77, 78, 79, 80, 81, 82] (by decide +kernel) (by decide +kernel)
set_option maxRecDepth 20000 in
theorem gX7_allow_X7_areRanks : GoodIn wsX7_allow (wsV RX7 194 RX7 yX7_areRanks wsX7_areRanks) := goodIn_app (goodIn_of _ (by decide +kernel)) ggX7_allow_X7_areRanks
set_option maxRecDepth 20000 in
theorem ggX7_allow_X7_restore : GoodIn wsX7_allow wsX7_restore := goodIn_r _ [43, 13, 18, 54, 55, 56, 57, 58, 59, 60, 61, 62, 63, 64, 65, 66, 67, 68, 69, 70, 71, 72, 73, 74, 75, 76, 77, 78, 79, 80, 81, 82] (by decide +kernel) (by decide +kernel)
set_option maxRecDepth 20000 in
theorem gX7_allow_X7_restore : GoodIn wsX7_allow (wsV RX7 122 RX7 yX7_restore wsX7_restore) := goodIn_app (goodIn_of _ (by decide +kernel)) ggX7_allow_X7_restore
set_option maxRecDepth 20000 in
theorem ggX7_allow_X7_endMaking : GoodIn wsX7_allow wsX7_endMaking := goodIn_r _ [47, 1, 13, 18, 40, 41, 42, 4, 43, 48, 49, 50, 51, 52, 53, 54, 55, 56, 57, 58, 59, 60, 61, 62, 63, 64, 65, 66, 67, 68, 69, 70, 71, 72, 73, 74, 75, 76, 77, 78, 79, 80, 81, 82] (by decide +kernel) (by decide +kernel)
set_option maxRecDepth 20000 in
theorem gX7_allow_X7_endMaking : GoodIn wsX7_allow (wsV RX7 137 RX7 yX7_endMaking wsX7_endMaking) := goodIn_app (goodIn_of _ (by decide +kernel)) ggX7_allow_X7_endMaking
theorem dX7_allow_0 : decode cX7_allow 0 = .ok (.iload_n 1, 1) := by decide +kernel
theorem dX7_allow_1 : decode cX7_allow 1 = .ok (.invokestatic 128, 3) := by decide +kernel
theorem dX7_allow_4 : decode cX7_allow 4 = .ok (.ifCond .eq 15, 3) := by decide +kernel
theorem dX7_allow_7 : decode cX7_allow 7 = .ok (.iload_n 2, 1) := by decide +kernel
theorem dX7_allow_8 : decode cX7_allow 8 = .ok (.invokestatic 128, 3) := by decide +kernel
theorem dX7_allow_11 : decode cX7_allow 11 = .ok (.ifCond .eq 8, 3) := by decide +kernel
theorem dX7_allow_14 : decode cX7_allow 14 = .ok (.iload_n 1, 1) := by decide +kernel
theorem dX7_allow_15 : decode cX7_allow 15 = .ok (.iload_n 2, 1) := by decide +kernel
theorem dX7_allow_16 : decode cX7_allow 16 = .ok (.if_icmp .ne 5, 3) := by decide +kernel
theorem dX7_allow_19 : decode cX7_allow 19 = .ok (.iconst (-1), 1) := by decide +kernel
theorem dX7_allow_20 : decode cX7_allow 20 = .ok (.ireturn, 1) := by decide +kernel
theorem dX7_allow_21 : decode cX7_allow 21 = .ok (.aload_n 0, 1) := by decide +kernel
theorem dX7_allow_22 : decode cX7_allow 22 = .ok (.iload_n 1, 1) := by decide +kernel
theorem dX7_allow_23 : decode cX7_allow 23 = .ok (.bipush 19, 2) := by decide +kernel
theorem dX7_allow_25 : decode cX7_allow 25 = .ok (.invokevirtual 65, 3) := by decide +kernel
theorem dX7_allow_28 : decode cX7_allow 28 = .ok (.istore_n 3, 1) := by decide +kernel
theorem dX7_allow_29 : decode cX7_allow 29 = .ok (.iconst 0, 1) := by decide +kernel
theorem dX7_allow_30 : decode cX7_allow 30 = .ok (.istore 4, 2) := by decide +kernel
theorem dX7_allow_32 : decode cX7_allow 32 = .ok (.iload 4, 2) := by decide +kernel
theorem dX7_allow_34 : decode cX7_allow 34 = .ok (.iload_n 3, 1) := by decide +kernel
theorem dX7_allow_35 : decode cX7_allow 35 = .ok (.if_icmp .ge 26, 3) := by decide +kernel
theorem dX7_allow_38 : decode cX7_allow 38 = .ok (.aload_n 0, 1) := by decide +kernel
theorem dX7_allow_39 : decode cX7_allow 39 = .ok (.iload_n 1, 1) := by decide +kernel
theorem dX7_allow_40 : decode cX7_allow 40 = .ok (.bipush 20, 2) := by decide +kernel
theorem dX7_allow_42 : decode cX7_allow 42 = .ok (.iload 4, 2) := by decide +kernel
theorem dX7_allow_44 : decode cX7_allow 44 = .ok (.iadd, 1) := by decide +kernel
theorem dX7_allow_45 : decode cX7_allow 45 = .ok (.invokevirtual 65, 3) := by decide +kernel
theorem dX7_allow_48 : decode cX7_allow 48 = .ok (.iload_n 2, 1) := by decide +kernel
theorem dX7_allow_49 : decode cX7_allow 49 = .ok (.if_icmp .ne 6, 3) := by decide +kernel
theorem dX7_allow_52 : decode cX7_allow 52 = .ok (.bipush (-2), 2) := by decide +kernel
theorem dX7_allow_54 : decode cX7_allow 54 = .ok (.ireturn, 1) := by decide +kernel
theorem dX7_allow_55 : decode cX7_allow 55 = .ok (.iinc 4 1, 3) := by decide +kernel
theorem dX7_allow_58 : decode cX7_allow 58 = .ok (.goto (-26), 3) := by decide +kernel
theorem dX7_allow_61 : decode cX7_allow 61 = .ok (.iload_n 3, 1) := by decide +kernel
theorem dX7_allow_62 : decode cX7_allow 62 = .ok (.iconst 3, 1) := by decide +kernel
theorem dX7_allow_63 : decode cX7_allow 63 = .ok (.if_icmp .ne 6, 3) := by decide +kernel
theorem dX7_allow_66 : decode cX7_allow 66 = .ok (.bipush (-3), 2) := by decide +kernel
theorem dX7_allow_68 : decode cX7_allow 68 = .ok (.ireturn, 1) := by decide +kernel
theorem dX7_allow_69 : decode cX7_allow 69 = .ok (.aload_n 0, 1) := by decide +kernel
theorem dX7_allow_70 : decode cX7_allow 70 = .ok (.invokevirtual 131, 3) := by decide +kernel
theorem dX7_allow_73 : decode cX7_allow 73 = .ok (.aload_n 0, 1) := by decide +kernel
theorem dX7_allow_74 : decode cX7_allow 74 = .ok (.iload_n 1, 1) := by decide +kernel
theorem dX7_allow_75 : decode cX7_allow 75 = .ok (.bipush 20, 2) := by decide +kernel
theorem dX7_allow_77 : decode cX7_allow 77 = .ok (.iload_n 3, 1) := by decide +kernel
theorem dX7_allow_78 : decode cX7_allow 78 = .ok (.iadd, 1) := by decide +kernel
theorem dX7_allow_79 : decode cX7_allow 79 = .ok (.iload_n 2, 1) := by decide +kernel
theorem dX7_allow_80 : decode cX7_allow 80 = .ok (.invokevirtual 54, 3) := by decide +kernel
theorem dX7_allow_83 : decode cX7_allow 83 = .ok (.aload_n 0, 1) := by decide +kernel
theorem dX7_allow_84 : decode cX7_allow 84 = .ok (.iload_n 1, 1) := by decide +kernel
theorem dX7_allow_85 : decode cX7_allow 85 = .ok (.bipush 19, 2) := by decide +kernel
theorem dX7_allow_87 : decode cX7_allow 87 = .ok (.iload_n 3, 1) := by decide +kernel
theorem dX7_allow_88 : decode cX7_allow 88 = .ok (.iconst 1, 1) := by decide +kernel
theorem dX7_allow_89 : decode cX7_allow 89 = .ok (.iadd, 1) := by decide +kernel
theorem dX7_allow_90 : decode cX7_allow 90 = .ok (.invokevirtual 54, 3) := by decide +kernel
theorem dX7_allow_93 : decode cX7_allow 93 = .ok (.aload_n 0, 1) := by decide +kernel
theorem dX7_allow_94 : decode cX7_allow 94 = .ok (.invokevirtual 194, 3) := by decide +kernel
theorem dX7_allow_97 : decode cX7_allow 97 = .ok (.ifCond .ne 10, 3) := by decide +kernel
theorem dX7_allow_100 : decode cX7_allow 100 = .ok (.aload_n 0, 1) := by decide +kernel
theorem dX7_allow_101 : decode cX7_allow 101 = .ok (.invokevirtual 122, 3) := by decide +kernel
theorem dX7_allow_104 : decode cX7_allow 104 = .ok (.bipush (-2), 2) := by decide +kernel
theorem dX7_allow_106 : decode cX7_allow 106 = .ok (.ireturn, 1) := by decide +kernel
theorem dX7_allow_107 : decode cX7_allow 107 = .ok (.aload_n 0, 1) := by decide +kernel
theorem dX7_allow_108 : decode cX7_allow 108 = .ok (.iconst 0, 1) := by decide +kernel
theorem dX7_allow_109 : decode cX7_allow 109 = .ok (.putfield 80, 3) := by decide +kernel
theorem dX7_allow_112 : decode cX7_allow 112 = .ok (.aload_n 0, 1) := by decide +kernel
theorem dX7_allow_113 : decode cX7_allow 113 = .ok (.invokevirtual 137, 3) := by decide +kernel
theorem dX7_allow_116 : decode cX7_allow 116 = .ok (.istore 4, 2) := by decide +kernel
theorem dX7_allow_118 : decode cX7_allow 118 = .ok (.iload_n 3, 1) := by decide +kernel
theorem dX7_allow_119 : decode cX7_allow 119 = .ok (.iconst 1, 1) := by decide +kernel
theorem dX7_allow_120 : decode cX7_allow 120 = .ok (.iadd, 1) := by decide +kernel
theorem dX7_allow_121 : decode cX7_allow 121 = .ok (.ireturn, 1) := by decide +kernel
set_option maxRecDepth 20000 in
theorem ggX7_forbid_X7_isThing : GoodIn wsX7_forbid wsX7_isThing := goodIn_r _ [4, 5, 6, 3, 7] (by decide +kernel) (by decide +kernel)
set_option maxRecDepth 20000 in
theorem gX7_forbid_X7_isThing : GoodIn wsX7_forbid (va_wsS RX7 128 yX7_isThing wsX7_isThing) := goodIn_app (goodIn_of _ (by decide +kernel)) ggX7_forbid_X7_isThing
set_option maxRecDepth 20000 in
theorem ggX7_forbid_X7_of : GoodIn wsX7_forbid wsX7_of := goodIn_r _ [11, 12, 23, 24, 25, 26, 27, 28, 29, 30, 31, 32, 33, 34, 35, 36, 37, 38, 39, 40, 41, 42, 43, 44, 45, 46, 47, 48, 49, 50, 51] (by decide +kernel) (by decide +kernel)
set_option maxRecDepth 20000 in
theorem gX7_forbid_X7_of : GoodIn wsX7_forbid (wsV RX7 65 RX7 yX7_of wsX7_of) := goodIn_app (goodIn_of _ (by decide +kernel)) ggX7_forbid_X7_of
set_option maxRecDepth 20000 in
theorem ggX7_forbid_X7_isIn : GoodIn wsX7_forbid wsX7_isIn := goodIn_r _ [7] (by decide +kernel) (by decide +kernel)
set_option maxRecDepth 20000 in
theorem gX7_forbid_X7_isIn : GoodIn wsX7_forbid (va_wsS RX7 61 yX7_isIn wsX7_isIn) := goodIn_app (goodIn_of _ (by decide +kernel)) ggX7_forbid_X7_isIn
set_option maxRecDepth 20000 in
theorem ggX7_forbid_X7_remember : GoodIn wsX7_forbid wsX7_remember := goodIn_r _ [16, 17, 18, 12, 23, 24, 25, 26, 27, 28, 29, 30, 31, 32, 33, 34, 35, 36, 37, 38, 39, 40, 41, 42, 43, 44, 45, 46, 47, 48, 49, 50, 51] (by decide +kernel) (by decide +kernel)
set_option maxRecDepth 20000 in
theorem gX7_forbid_X7_remember : GoodIn wsX7_forbid (wsV RX7 125 RX7 yX7_remember wsX7_remember) := goodIn_app (goodIn_of _ (by decide +kernel)) ggX7_forbid_X7_remember
set_option maxRecDepth 20000 in
theorem ggX7_forbid_X7_put : GoodIn wsX7_forbid wsX7_put := goodIn_r _ [22, 12, 23, 24, 25, 26, 27, 28, 29, 30, 31, 32, 33, 34, 35, 36, 37, 38, 39, 40, 41, 42, 43, 44, 45, 46, 47, 48, 49, 50, 51] (by decide +kernel) (by decide +kernel)
set_option maxRecDepth 20000 in
theorem gX7_forbid_X7_put : GoodIn wsX7_forbid (wsV RX7 54 RX7 yX7_put wsX7_put) := goodIn_app (goodIn_of _ (by decide +kernel)) ggX7_forbid_X7_put
theorem dX7_forbid_0 : decode cX7_forbid 0 = .ok (.iload_n 1, 1) := by decide +kernel
theorem dX7_forbid_1 : decode cX7_forbid 1 = .ok (.invokestatic 128, 3) := by decide +kernel
theorem dX7_forbid_4 : decode cX7_forbid 4 = .ok (.ifCond .eq 20, 3) := by decide +kernel
theorem dX7_forbid_7 : decode cX7_forbid 7 = .ok (.iload_n 2, 1) := by decide +kernel
theorem dX7_forbid_8 : decode cX7_forbid 8 = .ok (.iconst 0, 1) := by decide +kernel
theorem dX7_forbid_9 : decode cX7_forbid 9 = .ok (.aload_n 0, 1) := by decide +kernel
theorem dX7_forbid_10 : decode cX7_forbid 10 = .ok (.iload_n 1, 1) := by decide +kernel
theorem dX7_forbid_11 : decode cX7_forbid 11 = .ok (.bipush 19, 2) := by decide +kernel
theorem dX7_forbid_13 : decode cX7_forbid 13 = .ok (.invokevirtual 65, 3) := by decide +kernel
theorem dX7_forbid_16 : decode cX7_forbid 16 = .ok (.iconst 1, 1) := by decide +kernel
theorem dX7_forbid_17 : decode cX7_forbid 17 = .ok (.isub, 1) := by decide +kernel
theorem dX7_forbid_18 : decode cX7_forbid 18 = .ok (.invokestatic 61, 3) := by decide +kernel
theorem dX7_forbid_21 : decode cX7_forbid 21 = .ok (.ifCond .ne 5, 3) := by decide +kernel
theorem dX7_forbid_24 : decode cX7_forbid 24 = .ok (.iconst (-1), 1) := by decide +kernel
theorem dX7_forbid_25 : decode cX7_forbid 25 = .ok (.ireturn, 1) := by decide +kernel
theorem dX7_forbid_26 : decode cX7_forbid 26 = .ok (.aload_n 0, 1) := by decide +kernel
theorem dX7_forbid_27 : decode cX7_forbid 27 = .ok (.invokevirtual 125, 3) := by decide +kernel
theorem dX7_forbid_30 : decode cX7_forbid 30 = .ok (.aload_n 0, 1) := by decide +kernel
theorem dX7_forbid_31 : decode cX7_forbid 31 = .ok (.iload_n 1, 1) := by decide +kernel
theorem dX7_forbid_32 : decode cX7_forbid 32 = .ok (.bipush 20, 2) := by decide +kernel
theorem dX7_forbid_34 : decode cX7_forbid 34 = .ok (.iload_n 2, 1) := by decide +kernel
theorem dX7_forbid_35 : decode cX7_forbid 35 = .ok (.iadd, 1) := by decide +kernel
theorem dX7_forbid_36 : decode cX7_forbid 36 = .ok (.invokevirtual 65, 3) := by decide +kernel
theorem dX7_forbid_39 : decode cX7_forbid 39 = .ok (.istore_n 3, 1) := by decide +kernel
theorem dX7_forbid_40 : decode cX7_forbid 40 = .ok (.iload_n 2, 1) := by decide +kernel
theorem dX7_forbid_41 : decode cX7_forbid 41 = .ok (.istore 4, 2) := by decide +kernel
theorem dX7_forbid_43 : decode cX7_forbid 43 = .ok (.iload 4, 2) := by decide +kernel
theorem dX7_forbid_45 : decode cX7_forbid 45 = .ok (.iconst 1, 1) := by decide +kernel
theorem dX7_forbid_46 : decode cX7_forbid 46 = .ok (.iadd, 1) := by decide +kernel
theorem dX7_forbid_47 : decode cX7_forbid 47 = .ok (.aload_n 0, 1) := by decide +kernel
theorem dX7_forbid_48 : decode cX7_forbid 48 = .ok (.iload_n 1, 1) := by decide +kernel
theorem dX7_forbid_49 : decode cX7_forbid 49 = .ok (.bipush 19, 2) := by decide +kernel
theorem dX7_forbid_51 : decode cX7_forbid 51 = .ok (.invokevirtual 65, 3) := by decide +kernel
theorem dX7_forbid_54 : decode cX7_forbid 54 = .ok (.if_icmp .ge 31, 3) := by decide +kernel
theorem dX7_forbid_57 : decode cX7_forbid 57 = .ok (.aload_n 0, 1) := by decide +kernel
theorem dX7_forbid_58 : decode cX7_forbid 58 = .ok (.iload_n 1, 1) := by decide +kernel
theorem dX7_forbid_59 : decode cX7_forbid 59 = .ok (.bipush 20, 2) := by decide +kernel
theorem dX7_forbid_61 : decode cX7_forbid 61 = .ok (.iload 4, 2) := by decide +kernel
theorem dX7_forbid_63 : decode cX7_forbid 63 = .ok (.iadd, 1) := by decide +kernel
theorem dX7_forbid_64 : decode cX7_forbid 64 = .ok (.aload_n 0, 1) := by decide +kernel
theorem dX7_forbid_65 : decode cX7_forbid 65 = .ok (.iload_n 1, 1) := by decide +kernel
theorem dX7_forbid_66 : decode cX7_forbid 66 = .ok (.bipush 20, 2) := by decide +kernel
theorem dX7_forbid_68 : decode cX7_forbid 68 = .ok (.iload 4, 2) := by decide +kernel
theorem dX7_forbid_70 : decode cX7_forbid 70 = .ok (.iadd, 1) := by decide +kernel
theorem dX7_forbid_71 : decode cX7_forbid 71 = .ok (.iconst 1, 1) := by decide +kernel
theorem dX7_forbid_72 : decode cX7_forbid 72 = .ok (.iadd, 1) := by decide +kernel
theorem dX7_forbid_73 : decode cX7_forbid 73 = .ok (.invokevirtual 65, 3) := by decide +kernel
theorem dX7_forbid_76 : decode cX7_forbid 76 = .ok (.invokevirtual 54, 3) := by decide +kernel
theorem dX7_forbid_79 : decode cX7_forbid 79 = .ok (.iinc 4 1, 3) := by decide +kernel
theorem dX7_forbid_82 : decode cX7_forbid 82 = .ok (.goto (-39), 3) := by decide +kernel
theorem dX7_forbid_85 : decode cX7_forbid 85 = .ok (.aload_n 0, 1) := by decide +kernel
theorem dX7_forbid_86 : decode cX7_forbid 86 = .ok (.iload_n 1, 1) := by decide +kernel
theorem dX7_forbid_87 : decode cX7_forbid 87 = .ok (.bipush 19, 2) := by decide +kernel
theorem dX7_forbid_89 : decode cX7_forbid 89 = .ok (.aload_n 0, 1) := by decide +kernel
theorem dX7_forbid_90 : decode cX7_forbid 90 = .ok (.iload_n 1, 1) := by decide +kernel
theorem dX7_forbid_91 : decode cX7_forbid 91 = .ok (.bipush 19, 2) := by decide +kernel
theorem dX7_forbid_93 : decode cX7_forbid 93 = .ok (.invokevirtual 65, 3) := by decide +kernel
theorem dX7_forbid_96 : decode cX7_forbid 96 = .ok (.iconst 1, 1) := by decide +kernel
theorem dX7_forbid_97 : decode cX7_forbid 97 = .ok (.isub, 1) := by decide +kernel
theorem dX7_forbid_98 : decode cX7_forbid 98 = .ok (.invokevirtual 54, 3) := by decide +kernel
theorem dX7_forbid_101 : decode cX7_forbid 101 = .ok (.iload_n 3, 1) := by decide +kernel
theorem dX7_forbid_102 : decode cX7_forbid 102 = .ok (.ireturn, 1) := by decide +kernel
set_option maxRecDepth 20000 in
theorem ggX7_isVessel_X7_of : GoodIn wsX7_isVessel wsX7_of := goodIn_r _ [5, 6, 7, 8, 9, 10, 11, 12, 13, 14, 15, 16, 17, 18, 19, 20, 21, 22, 23, 24, 25, 26, 27, 28, 29, 30, 31, 32, 33, 34, 35] (by decide +kernel) (by decide +kernel)
set_option maxRecDepth 20000 in
theorem gX7_isVessel_X7_of : GoodIn wsX7_isVessel (wsV RX7 65 RX7 yX7_of wsX7_of) := goodIn_app (goodIn_of _ (by decide +kernel)) ggX7_isVessel_X7_of
theorem dX7_isVessel_0 : decode cX7_isVessel 0 = .ok (.iconst 0, 1) := by decide +kernel
theorem dX7_isVessel_1 : decode cX7_isVessel 1 = .ok (.istore_n 2, 1) := by decide +kernel
theorem dX7_isVessel_2 : decode cX7_isVessel 2 = .ok (.iload_n 2, 1) := by decide +kernel
theorem dX7_isVessel_3 : decode cX7_isVessel 3 = .ok (.bipush 20, 2) := by decide +kernel
theorem dX7_isVessel_5 : decode cX7_isVessel 5 = .ok (.if_icmp .ge 21, 3) := by decide +kernel
theorem dX7_isVessel_8 : decode cX7_isVessel 8 = .ok (.aload_n 0, 1) := by decide +kernel
theorem dX7_isVessel_9 : decode cX7_isVessel 9 = .ok (.iload_n 2, 1) := by decide +kernel
theorem dX7_isVessel_10 : decode cX7_isVessel 10 = .ok (.iconst 1, 1) := by decide +kernel
theorem dX7_isVessel_11 : decode cX7_isVessel 11 = .ok (.invokevirtual 65, 3) := by decide +kernel
theorem dX7_isVessel_14 : decode cX7_isVessel 14 = .ok (.iload_n 1, 1) := by decide +kernel
theorem dX7_isVessel_15 : decode cX7_isVessel 15 = .ok (.if_icmp .ne 5, 3) := by decide +kernel
theorem dX7_isVessel_18 : decode cX7_isVessel 18 = .ok (.iconst 1, 1) := by decide +kernel
theorem dX7_isVessel_19 : decode cX7_isVessel 19 = .ok (.ireturn, 1) := by decide +kernel
theorem dX7_isVessel_20 : decode cX7_isVessel 20 = .ok (.iinc 2 1, 3) := by decide +kernel
theorem dX7_isVessel_23 : decode cX7_isVessel 23 = .ok (.goto (-21), 3) := by decide +kernel
theorem dX7_isVessel_26 : decode cX7_isVessel 26 = .ok (.iconst 0, 1) := by decide +kernel
theorem dX7_isVessel_27 : decode cX7_isVessel 27 = .ok (.ireturn, 1) := by decide +kernel
set_option maxRecDepth 20000 in
theorem ggX7_vessel_X7_isThing : GoodIn wsX7_vessel wsX7_isThing := goodIn_r _ [4, 5, 6, 3, 7] (by decide +kernel) (by decide +kernel)
set_option maxRecDepth 20000 in
theorem gX7_vessel_X7_isThing : GoodIn wsX7_vessel (va_wsS RX7 128 yX7_isThing wsX7_isThing) := goodIn_app (goodIn_of _ (by decide +kernel)) ggX7_vessel_X7_isThing
set_option maxRecDepth 20000 in
theorem ggX7_vessel_X7_of : GoodIn wsX7_vessel wsX7_of := goodIn_r _ [11, 12, 27, 28, 29, 30, 31, 32, 33, 34, 35, 36, 37, 38, 39, 40, 41, 42, 43, 44, 45, 46, 47, 48, 49, 50, 51, 52, 53, 54, 55] (by decide +kernel) (by decide +kernel)
set_option maxRecDepth 20000 in
theorem gX7_vessel_X7_of : GoodIn wsX7_vessel (wsV RX7 65 RX7 yX7_of wsX7_of) := goodIn_app (goodIn_of _ (by decide +kernel)) ggX7_vessel_X7_of
set_option maxRecDepth 20000 in
theorem ggX7_vessel_X7_isVessel : GoodIn wsX7_vessel wsX7_isVessel := goodIn_r _ [16, 8, 9, 10, 3, 11, 12, 27, 28, 29, 30, 31, 32, 33, 34, 35, 36, 37, 38, 39, 40, 41, 42, 43, 44, 45, 46, 47, 48, 49, 50, 51, 52, 53, 54, 55] (by decide +kernel) (by decide +kernel)
set_option maxRecDepth 20000 in
theorem gX7_vessel_X7_isVessel : GoodIn wsX7_vessel (wsV RX7 197 RX7 yX7_isVessel wsX7_isVessel) := goodIn_app (goodIn_of _ (by decide +kernel)) ggX7_vessel_X7_isVessel
set_option maxRecDepth 20000 in
theorem ggX7_vessel_X7_remember : GoodIn wsX7_vessel wsX7_remember := goodIn_r _ [20, 21, 22, 12, 27, 28, 29, 30, 31, 32, 33, 34, 35, 36, 37, 38, 39, 40, 41, 42, 43, 44, 45, 46, 47, 48, 49, 50, 51, 52, 53, 54, 55] (by decide +kernel) (by decide +kernel)
set_option maxRecDepth 20000 in
theorem gX7_vessel_X7_remember : GoodIn wsX7_vessel (wsV RX7 125 RX7 yX7_remember wsX7_remember) := goodIn_app (goodIn_of _ (by decide +kernel)) ggX7_vessel_X7_remember
set_option maxRecDepth 20000 in
theorem ggX7_vessel_X7_put : GoodIn wsX7_vessel wsX7_put := goodIn_r _ [26, 12, 27, 28, 29, 30, 31, 32, 33, 34, 35, 36, 37, 38, 39, 40, 41, 42, 43, 44, 45, 46, 47, 48, 49, 50, 51, 52, 53, 54, 55] (by decide +kernel) (by decide +kernel)
set_option maxRecDepth 20000 in
theorem gX7_vessel_X7_put : GoodIn wsX7_vessel (wsV RX7 54 RX7 yX7_put wsX7_put) := goodIn_app (goodIn_of _ (by decide +kernel)) ggX7_vessel_X7_put
theorem dX7_vessel_0 : decode cX7_vessel 0 = .ok (.iload_n 1, 1) := by decide +kernel
theorem dX7_vessel_1 : decode cX7_vessel 1 = .ok (.invokestatic 128, 3) := by decide +kernel
theorem dX7_vessel_4 : decode cX7_vessel 4 = .ok (.ifCond .eq 21, 3) := by decide +kernel
theorem dX7_vessel_7 : decode cX7_vessel 7 = .ok (.iload_n 2, 1) := by decide +kernel
theorem dX7_vessel_8 : decode cX7_vessel 8 = .ok (.bipush (-9), 2) := by decide +kernel
theorem dX7_vessel_10 : decode cX7_vessel 10 = .ok (.if_icmp .eq 10, 3) := by decide +kernel
theorem dX7_vessel_13 : decode cX7_vessel 13 = .ok (.iload_n 2, 1) := by decide +kernel
theorem dX7_vessel_14 : decode cX7_vessel 14 = .ok (.invokestatic 128, 3) := by decide +kernel
theorem dX7_vessel_17 : decode cX7_vessel 17 = .ok (.ifCond .eq 8, 3) := by decide +kernel
theorem dX7_vessel_20 : decode cX7_vessel 20 = .ok (.iload_n 1, 1) := by decide +kernel
theorem dX7_vessel_21 : decode cX7_vessel 21 = .ok (.iload_n 2, 1) := by decide +kernel
theorem dX7_vessel_22 : decode cX7_vessel 22 = .ok (.if_icmp .ne 5, 3) := by decide +kernel
theorem dX7_vessel_25 : decode cX7_vessel 25 = .ok (.iconst (-1), 1) := by decide +kernel
theorem dX7_vessel_26 : decode cX7_vessel 26 = .ok (.ireturn, 1) := by decide +kernel
theorem dX7_vessel_27 : decode cX7_vessel 27 = .ok (.iload_n 2, 1) := by decide +kernel
theorem dX7_vessel_28 : decode cX7_vessel 28 = .ok (.bipush (-9), 2) := by decide +kernel
theorem dX7_vessel_30 : decode cX7_vessel 30 = .ok (.if_icmp .eq 25, 3) := by decide +kernel
theorem dX7_vessel_33 : decode cX7_vessel 33 = .ok (.aload_n 0, 1) := by decide +kernel
theorem dX7_vessel_34 : decode cX7_vessel 34 = .ok (.iload_n 2, 1) := by decide +kernel
theorem dX7_vessel_35 : decode cX7_vessel 35 = .ok (.iconst 1, 1) := by decide +kernel
theorem dX7_vessel_36 : decode cX7_vessel 36 = .ok (.invokevirtual 65, 3) := by decide +kernel
theorem dX7_vessel_39 : decode cX7_vessel 39 = .ok (.bipush (-9), 2) := by decide +kernel
theorem dX7_vessel_41 : decode cX7_vessel 41 = .ok (.if_icmp .ne 11, 3) := by decide +kernel
theorem dX7_vessel_44 : decode cX7_vessel 44 = .ok (.aload_n 0, 1) := by decide +kernel
theorem dX7_vessel_45 : decode cX7_vessel 45 = .ok (.iload_n 1, 1) := by decide +kernel
theorem dX7_vessel_46 : decode cX7_vessel 46 = .ok (.invokevirtual 197, 3) := by decide +kernel
theorem dX7_vessel_49 : decode cX7_vessel 49 = .ok (.ifCond .eq 6, 3) := by decide +kernel
theorem dX7_vessel_52 : decode cX7_vessel 52 = .ok (.bipush (-2), 2) := by decide +kernel
theorem dX7_vessel_54 : decode cX7_vessel 54 = .ok (.ireturn, 1) := by decide +kernel
theorem dX7_vessel_55 : decode cX7_vessel 55 = .ok (.aload_n 0, 1) := by decide +kernel
theorem dX7_vessel_56 : decode cX7_vessel 56 = .ok (.invokevirtual 125, 3) := by decide +kernel
theorem dX7_vessel_59 : decode cX7_vessel 59 = .ok (.aload_n 0, 1) := by decide +kernel
theorem dX7_vessel_60 : decode cX7_vessel 60 = .ok (.iload_n 1, 1) := by decide +kernel
theorem dX7_vessel_61 : decode cX7_vessel 61 = .ok (.iconst 1, 1) := by decide +kernel
theorem dX7_vessel_62 : decode cX7_vessel 62 = .ok (.invokevirtual 65, 3) := by decide +kernel
theorem dX7_vessel_65 : decode cX7_vessel 65 = .ok (.istore_n 3, 1) := by decide +kernel
theorem dX7_vessel_66 : decode cX7_vessel 66 = .ok (.aload_n 0, 1) := by decide +kernel
theorem dX7_vessel_67 : decode cX7_vessel 67 = .ok (.iload_n 1, 1) := by decide +kernel
theorem dX7_vessel_68 : decode cX7_vessel 68 = .ok (.iconst 1, 1) := by decide +kernel
theorem dX7_vessel_69 : decode cX7_vessel 69 = .ok (.iload_n 2, 1) := by decide +kernel
theorem dX7_vessel_70 : decode cX7_vessel 70 = .ok (.invokevirtual 54, 3) := by decide +kernel
theorem dX7_vessel_73 : decode cX7_vessel 73 = .ok (.iload_n 3, 1) := by decide +kernel
theorem dX7_vessel_74 : decode cX7_vessel 74 = .ok (.ireturn, 1) := by decide +kernel
set_option maxRecDepth 20000 in
theorem ggX7_bring_X7_isThing : GoodIn wsX7_bring wsX7_isThing := goodIn_r _ [5, 6, 7, 4, 8] (by decide +kernel) (by decide +kernel)
set_option maxRecDepth 20000 in
theorem gX7_bring_X7_isThing : GoodIn wsX7_bring (va_wsS RX7 128 yX7_isThing wsX7_isThing) := goodIn_app (goodIn_of _ (by decide +kernel)) ggX7_bring_X7_isThing
set_option maxRecDepth 20000 in
theorem ggX7_bring_X7_isIn : GoodIn wsX7_bring wsX7_isIn := goodIn_r _ [8] (by decide +kernel) (by decide +kernel)
set_option maxRecDepth 20000 in
theorem gX7_bring_X7_isIn : GoodIn wsX7_bring (va_wsS RX7 61 yX7_isIn wsX7_isIn) := goodIn_app (goodIn_of _ (by decide +kernel)) ggX7_bring_X7_isIn
set_option maxRecDepth 20000 in
theorem ggX7_bring_X7_of : GoodIn wsX7_bring wsX7_of := goodIn_r _ [12, 13, 24, 25, 26, 27, 28, 29, 30, 31, 32, 33, 34, 35, 36, 37, 38, 39, 40, 41, 42, 43, 44, 45, 46, 47, 48, 49, 50, 51, 52] (by decide +kernel) (by decide +kernel)
set_option maxRecDepth 20000 in
theorem gX7_bring_X7_of : GoodIn wsX7_bring (wsV RX7 65 RX7 yX7_of wsX7_of) := goodIn_app (goodIn_of _ (by decide +kernel)) ggX7_bring_X7_of
set_option maxRecDepth 20000 in
theorem ggX7_bring_X7_remember : GoodIn wsX7_bring wsX7_remember := goodIn_r _ [17, 18, 19, 13, 24, 25, 26, 27, 28, 29, 30, 31, 32, 33, 34, 35, 36, 37, 38, 39, 40, 41, 42, 43, 44, 45, 46, 47, 48, 49, 50, 51, 52] (by decide +kernel) (by decide +kernel)
set_option maxRecDepth 20000 in
theorem gX7_bring_X7_remember : GoodIn wsX7_bring (wsV RX7 125 RX7 yX7_remember wsX7_remember) := goodIn_app (goodIn_of _ (by decide +kernel)) ggX7_bring_X7_remember
set_option maxRecDepth 20000 in
theorem ggX7_bring_X7_put : GoodIn wsX7_bring wsX7_put := goodIn_r _ [23, 13, 24, 25, 26, 27, 28, 29, 30, 31, 32, 33, 34, 35, 36, 37, 38, 39, 40, 41, 42, 43, 44, 45, 46, 47, 48, 49, 50, 51, 52] (by decide +kernel) (by decide +kernel)
set_option maxRecDepth 20000 in
theorem gX7_bring_X7_put : GoodIn wsX7_bring (wsV RX7 54 RX7 yX7_put wsX7_put) := goodIn_app (goodIn_of _ (by decide +kernel)) ggX7_bring_X7_put
theorem dX7_bring_0 : decode cX7_bring 0 = .ok (.iload_n 1, 1) := by decide +kernel
theorem dX7_bring_1 : decode cX7_bring 1 = .ok (.invokestatic 128, 3) := by decide +kernel
theorem dX7_bring_4 : decode cX7_bring 4 = .ok (.ifCond .eq 16, 3) := by decide +kernel
theorem dX7_bring_7 : decode cX7_bring 7 = .ok (.iload_n 2, 1) := by decide +kernel
theorem dX7_bring_8 : decode cX7_bring 8 = .ok (.sipush (-9999), 3) := by decide +kernel
theorem dX7_bring_11 : decode cX7_bring 11 = .ok (.sipush 9999, 3) := by decide +kernel
theorem dX7_bring_14 : decode cX7_bring 14 = .ok (.invokestatic 61, 3) := by decide +kernel
theorem dX7_bring_17 : decode cX7_bring 17 = .ok (.ifCond .ne 5, 3) := by decide +kernel
theorem dX7_bring_20 : decode cX7_bring 20 = .ok (.iconst (-1), 1) := by decide +kernel
theorem dX7_bring_21 : decode cX7_bring 21 = .ok (.ireturn, 1) := by decide +kernel
theorem dX7_bring_22 : decode cX7_bring 22 = .ok (.aload_n 0, 1) := by decide +kernel
theorem dX7_bring_23 : decode cX7_bring 23 = .ok (.iload_n 1, 1) := by decide +kernel
theorem dX7_bring_24 : decode cX7_bring 24 = .ok (.iconst 0, 1) := by decide +kernel
theorem dX7_bring_25 : decode cX7_bring 25 = .ok (.invokevirtual 65, 3) := by decide +kernel
theorem dX7_bring_28 : decode cX7_bring 28 = .ok (.iload_n 2, 1) := by decide +kernel
theorem dX7_bring_29 : decode cX7_bring 29 = .ok (.iadd, 1) := by decide +kernel
theorem dX7_bring_30 : decode cX7_bring 30 = .ok (.ldc 84, 2) := by decide +kernel
theorem dX7_bring_32 : decode cX7_bring 32 = .ok (.if_icmp .le 6, 3) := by decide +kernel
theorem dX7_bring_35 : decode cX7_bring 35 = .ok (.bipush (-3), 2) := by decide +kernel
theorem dX7_bring_37 : decode cX7_bring 37 = .ok (.ireturn, 1) := by decide +kernel
theorem dX7_bring_38 : decode cX7_bring 38 = .ok (.aload_n 0, 1) := by decide +kernel
theorem dX7_bring_39 : decode cX7_bring 39 = .ok (.invokevirtual 125, 3) := by decide +kernel
theorem dX7_bring_42 : decode cX7_bring 42 = .ok (.aload_n 0, 1) := by decide +kernel
theorem dX7_bring_43 : decode cX7_bring 43 = .ok (.iload_n 1, 1) := by decide +kernel
theorem dX7_bring_44 : decode cX7_bring 44 = .ok (.iconst 0, 1) := by decide +kernel
theorem dX7_bring_45 : decode cX7_bring 45 = .ok (.invokevirtual 65, 3) := by decide +kernel
theorem dX7_bring_48 : decode cX7_bring 48 = .ok (.iload_n 2, 1) := by decide +kernel
theorem dX7_bring_49 : decode cX7_bring 49 = .ok (.iadd, 1) := by decide +kernel
theorem dX7_bring_50 : decode cX7_bring 50 = .ok (.ifCond .ge 13, 3) := by decide +kernel
theorem dX7_bring_53 : decode cX7_bring 53 = .ok (.aload_n 0, 1) := by decide +kernel
theorem dX7_bring_54 : decode cX7_bring 54 = .ok (.iload_n 1, 1) := by decide +kernel
theorem dX7_bring_55 : decode cX7_bring 55 = .ok (.iconst 0, 1) := by decide +kernel
theorem dX7_bring_56 : decode cX7_bring 56 = .ok (.invokevirtual 65, 3) := by decide +kernel
theorem dX7_bring_59 : decode cX7_bring 59 = .ok (.ineg, 1) := by decide +kernel
theorem dX7_bring_60 : decode cX7_bring 60 = .ok (.goto 4, 3) := by decide +kernel
theorem dX7_bring_63 : decode cX7_bring 63 = .ok (.iload_n 2, 1) := by decide +kernel
theorem dX7_bring_64 : decode cX7_bring 64 = .ok (.istore_n 3, 1) := by decide +kernel
theorem dX7_bring_65 : decode cX7_bring 65 = .ok (.aload_n 0, 1) := by decide +kernel
theorem dX7_bring_66 : decode cX7_bring 66 = .ok (.iload_n 1, 1) := by decide +kernel
theorem dX7_bring_67 : decode cX7_bring 67 = .ok (.iconst 0, 1) := by decide +kernel
theorem dX7_bring_68 : decode cX7_bring 68 = .ok (.aload_n 0, 1) := by decide +kernel
theorem dX7_bring_69 : decode cX7_bring 69 = .ok (.iload_n 1, 1) := by decide +kernel
theorem dX7_bring_70 : decode cX7_bring 70 = .ok (.iconst 0, 1) := by decide +kernel
theorem dX7_bring_71 : decode cX7_bring 71 = .ok (.invokevirtual 65, 3) := by decide +kernel
theorem dX7_bring_74 : decode cX7_bring 74 = .ok (.iload_n 3, 1) := by decide +kernel
theorem dX7_bring_75 : decode cX7_bring 75 = .ok (.iadd, 1) := by decide +kernel
theorem dX7_bring_76 : decode cX7_bring 76 = .ok (.invokevirtual 54, 3) := by decide +kernel
theorem dX7_bring_79 : decode cX7_bring 79 = .ok (.aload_n 0, 1) := by decide +kernel
theorem dX7_bring_80 : decode cX7_bring 80 = .ok (.iload_n 1, 1) := by decide +kernel
theorem dX7_bring_81 : decode cX7_bring 81 = .ok (.bipush 6, 2) := by decide +kernel
theorem dX7_bring_83 : decode cX7_bring 83 = .ok (.aload_n 0, 1) := by decide +kernel
theorem dX7_bring_84 : decode cX7_bring 84 = .ok (.iload_n 1, 1) := by decide +kernel
theorem dX7_bring_85 : decode cX7_bring 85 = .ok (.bipush 6, 2) := by decide +kernel
theorem dX7_bring_87 : decode cX7_bring 87 = .ok (.invokevirtual 65, 3) := by decide +kernel
theorem dX7_bring_90 : decode cX7_bring 90 = .ok (.iload_n 3, 1) := by decide +kernel
theorem dX7_bring_91 : decode cX7_bring 91 = .ok (.iadd, 1) := by decide +kernel
theorem dX7_bring_92 : decode cX7_bring 92 = .ok (.invokevirtual 54, 3) := by decide +kernel
theorem dX7_bring_95 : decode cX7_bring 95 = .ok (.aload_n 0, 1) := by decide +kernel
theorem dX7_bring_96 : decode cX7_bring 96 = .ok (.iload_n 1, 1) := by decide +kernel
theorem dX7_bring_97 : decode cX7_bring 97 = .ok (.iconst 0, 1) := by decide +kernel
theorem dX7_bring_98 : decode cX7_bring 98 = .ok (.invokevirtual 65, 3) := by decide +kernel
theorem dX7_bring_101 : decode cX7_bring 101 = .ok (.ireturn, 1) := by decide +kernel
theorem dX7_undo_0 : decode cX7_undo 0 = .ok (.aload_n 0, 1) := by decide +kernel
theorem dX7_undo_1 : decode cX7_undo 1 = .ok (.getfield 58, 3) := by decide +kernel
theorem dX7_undo_4 : decode cX7_undo 4 = .ok (.ifCond .ne 6, 3) := by decide +kernel
theorem dX7_undo_7 : decode cX7_undo 7 = .ok (.bipush (-2), 2) := by decide +kernel
theorem dX7_undo_9 : decode cX7_undo 9 = .ok (.ireturn, 1) := by decide +kernel
theorem dX7_undo_10 : decode cX7_undo 10 = .ok (.aload_n 0, 1) := by decide +kernel
theorem dX7_undo_11 : decode cX7_undo 11 = .ok (.dup, 1) := by decide +kernel
theorem dX7_undo_12 : decode cX7_undo 12 = .ok (.getfield 58, 3) := by decide +kernel
theorem dX7_undo_15 : decode cX7_undo 15 = .ok (.iconst 1, 1) := by decide +kernel
theorem dX7_undo_16 : decode cX7_undo 16 = .ok (.isub, 1) := by decide +kernel
theorem dX7_undo_17 : decode cX7_undo 17 = .ok (.putfield 58, 3) := by decide +kernel
theorem dX7_undo_20 : decode cX7_undo 20 = .ok (.iconst 0, 1) := by decide +kernel
theorem dX7_undo_21 : decode cX7_undo 21 = .ok (.istore_n 1, 1) := by decide +kernel
theorem dX7_undo_22 : decode cX7_undo 22 = .ok (.iload_n 1, 1) := by decide +kernel
theorem dX7_undo_23 : decode cX7_undo 23 = .ok (.sipush 462, 3) := by decide +kernel
theorem dX7_undo_26 : decode cX7_undo 26 = .ok (.if_icmp .ge 30, 3) := by decide +kernel
theorem dX7_undo_29 : decode cX7_undo 29 = .ok (.aload_n 0, 1) := by decide +kernel
theorem dX7_undo_30 : decode cX7_undo 30 = .ok (.getfield 7, 3) := by decide +kernel
theorem dX7_undo_33 : decode cX7_undo 33 = .ok (.iload_n 1, 1) := by decide +kernel
theorem dX7_undo_34 : decode cX7_undo 34 = .ok (.aload_n 0, 1) := by decide +kernel
theorem dX7_undo_35 : decode cX7_undo 35 = .ok (.getfield 13, 3) := by decide +kernel
theorem dX7_undo_38 : decode cX7_undo 38 = .ok (.sipush 462, 3) := by decide +kernel
theorem dX7_undo_41 : decode cX7_undo 41 = .ok (.aload_n 0, 1) := by decide +kernel
theorem dX7_undo_42 : decode cX7_undo 42 = .ok (.getfield 58, 3) := by decide +kernel
theorem dX7_undo_45 : decode cX7_undo 45 = .ok (.imul, 1) := by decide +kernel
theorem dX7_undo_46 : decode cX7_undo 46 = .ok (.iload_n 1, 1) := by decide +kernel
theorem dX7_undo_47 : decode cX7_undo 47 = .ok (.iadd, 1) := by decide +kernel
theorem dX7_undo_48 : decode cX7_undo 48 = .ok (.iaload, 1) := by decide +kernel
theorem dX7_undo_49 : decode cX7_undo 49 = .ok (.iastore, 1) := by decide +kernel
theorem dX7_undo_50 : decode cX7_undo 50 = .ok (.iinc 1 1, 3) := by decide +kernel
theorem dX7_undo_53 : decode cX7_undo 53 = .ok (.goto (-31), 3) := by decide +kernel
theorem dX7_undo_56 : decode cX7_undo 56 = .ok (.aload_n 0, 1) := by decide +kernel
theorem dX7_undo_57 : decode cX7_undo 57 = .ok (.getfield 58, 3) := by decide +kernel
theorem dX7_undo_60 : decode cX7_undo 60 = .ok (.ireturn, 1) := by decide +kernel
set_option maxRecDepth 20000 in
theorem ggX7_write_X7_isIn : GoodIn wsX7_write wsX7_isIn := goodIn_r _ [6] (by decide +kernel) (by decide +kernel)
set_option maxRecDepth 20000 in
theorem gX7_write_X7_isIn : GoodIn wsX7_write (va_wsS RX7 61 yX7_isIn wsX7_isIn) := goodIn_app (goodIn_of _ (by decide +kernel)) ggX7_write_X7_isIn
theorem dX7_write_0 : decode cX7_write 0 = .ok (.iload_n 1, 1) := by decide +kernel
theorem dX7_write_1 : decode cX7_write 1 = .ok (.bipush 32, 2) := by decide +kernel
theorem dX7_write_3 : decode cX7_write 3 = .ok (.bipush 126, 2) := by decide +kernel
theorem dX7_write_5 : decode cX7_write 5 = .ok (.invokestatic 61, 3) := by decide +kernel
theorem dX7_write_8 : decode cX7_write 8 = .ok (.ifCond .ne 5, 3) := by decide +kernel
theorem dX7_write_11 : decode cX7_write 11 = .ok (.iconst (-1), 1) := by decide +kernel
theorem dX7_write_12 : decode cX7_write 12 = .ok (.ireturn, 1) := by decide +kernel
theorem dX7_write_13 : decode cX7_write 13 = .ok (.aload_n 0, 1) := by decide +kernel
theorem dX7_write_14 : decode cX7_write 14 = .ok (.getfield 181, 3) := by decide +kernel
theorem dX7_write_17 : decode cX7_write 17 = .ok (.bipush 60, 2) := by decide +kernel
theorem dX7_write_19 : decode cX7_write 19 = .ok (.if_icmp .ne 6, 3) := by decide +kernel
theorem dX7_write_22 : decode cX7_write 22 = .ok (.bipush (-3), 2) := by decide +kernel
theorem dX7_write_24 : decode cX7_write 24 = .ok (.ireturn, 1) := by decide +kernel
theorem dX7_write_25 : decode cX7_write 25 = .ok (.aload_n 0, 1) := by decide +kernel
theorem dX7_write_26 : decode cX7_write 26 = .ok (.getfield 19, 3) := by decide +kernel
theorem dX7_write_29 : decode cX7_write 29 = .ok (.aload_n 0, 1) := by decide +kernel
theorem dX7_write_30 : decode cX7_write 30 = .ok (.getfield 181, 3) := by decide +kernel
theorem dX7_write_33 : decode cX7_write 33 = .ok (.iload_n 1, 1) := by decide +kernel
theorem dX7_write_34 : decode cX7_write 34 = .ok (.iastore, 1) := by decide +kernel
theorem dX7_write_35 : decode cX7_write 35 = .ok (.aload_n 0, 1) := by decide +kernel
theorem dX7_write_36 : decode cX7_write 36 = .ok (.dup, 1) := by decide +kernel
theorem dX7_write_37 : decode cX7_write 37 = .ok (.getfield 181, 3) := by decide +kernel
theorem dX7_write_40 : decode cX7_write 40 = .ok (.iconst 1, 1) := by decide +kernel
theorem dX7_write_41 : decode cX7_write 41 = .ok (.iadd, 1) := by decide +kernel
theorem dX7_write_42 : decode cX7_write 42 = .ok (.putfield 181, 3) := by decide +kernel
theorem dX7_write_45 : decode cX7_write 45 = .ok (.aload_n 0, 1) := by decide +kernel
theorem dX7_write_46 : decode cX7_write 46 = .ok (.getfield 181, 3) := by decide +kernel
theorem dX7_write_49 : decode cX7_write 49 = .ok (.ireturn, 1) := by decide +kernel
theorem dX7_wipe_0 : decode cX7_wipe 0 = .ok (.aload_n 0, 1) := by decide +kernel
theorem dX7_wipe_1 : decode cX7_wipe 1 = .ok (.getfield 181, 3) := by decide +kernel
theorem dX7_wipe_4 : decode cX7_wipe 4 = .ok (.istore_n 1, 1) := by decide +kernel
theorem dX7_wipe_5 : decode cX7_wipe 5 = .ok (.aload_n 0, 1) := by decide +kernel
theorem dX7_wipe_6 : decode cX7_wipe 6 = .ok (.iconst 0, 1) := by decide +kernel
theorem dX7_wipe_7 : decode cX7_wipe 7 = .ok (.putfield 181, 3) := by decide +kernel
theorem dX7_wipe_10 : decode cX7_wipe 10 = .ok (.iload_n 1, 1) := by decide +kernel
theorem dX7_wipe_11 : decode cX7_wipe 11 = .ok (.ireturn, 1) := by decide +kernel
theorem dX7_fault_0 : decode cX7_fault 0 = .ok (.iload_n 1, 1) := by decide +kernel
theorem dX7_fault_1 : decode cX7_fault 1 = .ok (.ifCond .ne 10, 3) := by decide +kernel
theorem dX7_fault_4 : decode cX7_fault 4 = .ok (.aload_n 0, 1) := by decide +kernel
theorem dX7_fault_5 : decode cX7_fault 5 = .ok (.getfield 22, 3) := by decide +kernel
theorem dX7_fault_8 : decode cX7_fault 8 = .ok (.goto 16, 3) := by decide +kernel
theorem dX7_fault_11 : decode cX7_fault 11 = .ok (.iload_n 1, 1) := by decide +kernel
theorem dX7_fault_12 : decode cX7_fault 12 = .ok (.iconst 1, 1) := by decide +kernel
theorem dX7_fault_13 : decode cX7_fault 13 = .ok (.if_icmp .ne 10, 3) := by decide +kernel
theorem dX7_fault_16 : decode cX7_fault 16 = .ok (.aload_n 0, 1) := by decide +kernel
theorem dX7_fault_17 : decode cX7_fault 17 = .ok (.getfield 26, 3) := by decide +kernel
theorem dX7_fault_20 : decode cX7_fault 20 = .ok (.goto 4, 3) := by decide +kernel
theorem dX7_fault_23 : decode cX7_fault 23 = .ok (.iconst (-1), 1) := by decide +kernel
theorem dX7_fault_24 : decode cX7_fault 24 = .ok (.ireturn, 1) := by decide +kernel
set_option maxRecDepth 20000 in
theorem ggX7_recipes_X7_isMade : GoodIn wsX7_recipes wsX7_isMade := goodIn_r _ [5, 6, 7, 8, 4, 9, 10, 11, 12, 13, 14, 15, 16, 17, 18, 19, 20, 21, 22, 23, 24, 25, 26, 27, 28, 29, 30, 31, 32, 33, 34, 35, 36, 37, 38, 39] (by decide +kernel) (by decide +kernel)
set_option maxRecDepth 20000 in
theorem gX7_recipes_X7_isMade : GoodIn wsX7_recipes (wsV RX7 72 RX7 yX7_isMade wsX7_isMade) := goodIn_app (goodIn_of _ (by decide +kernel)) ggX7_recipes_X7_isMade
theorem dX7_recipes_0 : decode cX7_recipes 0 = .ok (.iconst 0, 1) := by decide +kernel
theorem dX7_recipes_1 : decode cX7_recipes 1 = .ok (.istore_n 1, 1) := by decide +kernel
theorem dX7_recipes_2 : decode cX7_recipes 2 = .ok (.iconst 0, 1) := by decide +kernel
theorem dX7_recipes_3 : decode cX7_recipes 3 = .ok (.istore_n 2, 1) := by decide +kernel
theorem dX7_recipes_4 : decode cX7_recipes 4 = .ok (.iload_n 2, 1) := by decide +kernel
theorem dX7_recipes_5 : decode cX7_recipes 5 = .ok (.bipush 20, 2) := by decide +kernel
theorem dX7_recipes_7 : decode cX7_recipes 7 = .ok (.if_icmp .ge 25, 3) := by decide +kernel
theorem dX7_recipes_10 : decode cX7_recipes 10 = .ok (.iload_n 1, 1) := by decide +kernel
theorem dX7_recipes_11 : decode cX7_recipes 11 = .ok (.aload_n 0, 1) := by decide +kernel
theorem dX7_recipes_12 : decode cX7_recipes 12 = .ok (.iload_n 2, 1) := by decide +kernel
theorem dX7_recipes_13 : decode cX7_recipes 13 = .ok (.invokevirtual 72, 3) := by decide +kernel
theorem dX7_recipes_16 : decode cX7_recipes 16 = .ok (.ifCond .eq 7, 3) := by decide +kernel
theorem dX7_recipes_19 : decode cX7_recipes 19 = .ok (.iconst 1, 1) := by decide +kernel
theorem dX7_recipes_20 : decode cX7_recipes 20 = .ok (.goto 4, 3) := by decide +kernel
theorem dX7_recipes_23 : decode cX7_recipes 23 = .ok (.iconst 0, 1) := by decide +kernel
theorem dX7_recipes_24 : decode cX7_recipes 24 = .ok (.iadd, 1) := by decide +kernel
theorem dX7_recipes_25 : decode cX7_recipes 25 = .ok (.istore_n 1, 1) := by decide +kernel
theorem dX7_recipes_26 : decode cX7_recipes 26 = .ok (.iinc 2 1, 3) := by decide +kernel
theorem dX7_recipes_29 : decode cX7_recipes 29 = .ok (.goto (-25), 3) := by decide +kernel
theorem dX7_recipes_32 : decode cX7_recipes 32 = .ok (.iload_n 1, 1) := by decide +kernel
theorem dX7_recipes_33 : decode cX7_recipes 33 = .ok (.ireturn, 1) := by decide +kernel
set_option maxRecDepth 20000 in
theorem ggX7_stored_X7_of : GoodIn wsX7_stored wsX7_of := goodIn_r _ [5, 6, 7, 8, 9, 10, 11, 12, 13, 14, 15, 16, 17, 18, 19, 20, 21, 22, 23, 24, 25, 26, 27, 28, 29, 30, 31, 32, 33, 34, 35] (by decide +kernel) (by decide +kernel)
set_option maxRecDepth 20000 in
theorem gX7_stored_X7_of : GoodIn wsX7_stored (wsV RX7 65 RX7 yX7_of wsX7_of) := goodIn_app (goodIn_of _ (by decide +kernel)) ggX7_stored_X7_of
theorem dX7_stored_0 : decode cX7_stored 0 = .ok (.iconst 0, 1) := by decide +kernel
theorem dX7_stored_1 : decode cX7_stored 1 = .ok (.istore_n 1, 1) := by decide +kernel
theorem dX7_stored_2 : decode cX7_stored 2 = .ok (.iconst 0, 1) := by decide +kernel
theorem dX7_stored_3 : decode cX7_stored 3 = .ok (.istore_n 2, 1) := by decide +kernel
theorem dX7_stored_4 : decode cX7_stored 4 = .ok (.iload_n 2, 1) := by decide +kernel
theorem dX7_stored_5 : decode cX7_stored 5 = .ok (.bipush 20, 2) := by decide +kernel
theorem dX7_stored_7 : decode cX7_stored 7 = .ok (.if_icmp .ge 18, 3) := by decide +kernel
theorem dX7_stored_10 : decode cX7_stored 10 = .ok (.iload_n 1, 1) := by decide +kernel
theorem dX7_stored_11 : decode cX7_stored 11 = .ok (.aload_n 0, 1) := by decide +kernel
theorem dX7_stored_12 : decode cX7_stored 12 = .ok (.iload_n 2, 1) := by decide +kernel
theorem dX7_stored_13 : decode cX7_stored 13 = .ok (.iconst 0, 1) := by decide +kernel
theorem dX7_stored_14 : decode cX7_stored 14 = .ok (.invokevirtual 65, 3) := by decide +kernel
theorem dX7_stored_17 : decode cX7_stored 17 = .ok (.iadd, 1) := by decide +kernel
theorem dX7_stored_18 : decode cX7_stored 18 = .ok (.istore_n 1, 1) := by decide +kernel
theorem dX7_stored_19 : decode cX7_stored 19 = .ok (.iinc 2 1, 3) := by decide +kernel
theorem dX7_stored_22 : decode cX7_stored 22 = .ok (.goto (-18), 3) := by decide +kernel
theorem dX7_stored_25 : decode cX7_stored 25 = .ok (.iload_n 1, 1) := by decide +kernel
theorem dX7_stored_26 : decode cX7_stored 26 = .ok (.ireturn, 1) := by decide +kernel
set_option maxRecDepth 20000 in
theorem ggX7_greatestRank_X7_areRanks : GoodIn wsX7_greatestRank wsX7_areRanks := goodIn_r _ [6, 1, 7, 8, 9, 5, 10, 11, 12, 13, 14, 15, 16, 17, 18, 19, 20, 21, 22, 23, 24, 25, 26, 27, 28, 29, 30, 31, 32, 33, 34, 35, 36, 37, 38, 39, 40, 41, 42, 43, 44, 45, 46, 47, 48, 49, 50, 51, 52] (by decide +kernel) (by decide +kernel)
set_option maxRecDepth 20000 in
theorem gX7_greatestRank_X7_areRanks : GoodIn wsX7_greatestRank (wsV RX7 194 RX7 yX7_areRanks wsX7_areRanks) := goodIn_app (goodIn_of _ (by decide +kernel)) ggX7_greatestRank_X7_areRanks
theorem dX7_greatestRank_0 : decode cX7_greatestRank 0 = .ok (.aload_n 0, 1) := by decide +kernel
theorem dX7_greatestRank_1 : decode cX7_greatestRank 1 = .ok (.invokevirtual 194, 3) := by decide +kernel
theorem dX7_greatestRank_4 : decode cX7_greatestRank 4 = .ok (.istore_n 1, 1) := by decide +kernel
theorem dX7_greatestRank_5 : decode cX7_greatestRank 5 = .ok (.iconst 0, 1) := by decide +kernel
theorem dX7_greatestRank_6 : decode cX7_greatestRank 6 = .ok (.istore_n 2, 1) := by decide +kernel
theorem dX7_greatestRank_7 : decode cX7_greatestRank 7 = .ok (.iconst 0, 1) := by decide +kernel
theorem dX7_greatestRank_8 : decode cX7_greatestRank 8 = .ok (.istore_n 3, 1) := by decide +kernel
theorem dX7_greatestRank_9 : decode cX7_greatestRank 9 = .ok (.iload_n 3, 1) := by decide +kernel
theorem dX7_greatestRank_10 : decode cX7_greatestRank 10 = .ok (.bipush 20, 2) := by decide +kernel
theorem dX7_greatestRank_12 : decode cX7_greatestRank 12 = .ok (.if_icmp .ge 30, 3) := by decide +kernel
theorem dX7_greatestRank_15 : decode cX7_greatestRank 15 = .ok (.aload_n 0, 1) := by decide +kernel
theorem dX7_greatestRank_16 : decode cX7_greatestRank 16 = .ok (.getfield 29, 3) := by decide +kernel
theorem dX7_greatestRank_19 : decode cX7_greatestRank 19 = .ok (.iload_n 3, 1) := by decide +kernel
theorem dX7_greatestRank_20 : decode cX7_greatestRank 20 = .ok (.iaload, 1) := by decide +kernel
theorem dX7_greatestRank_21 : decode cX7_greatestRank 21 = .ok (.iload_n 2, 1) := by decide +kernel
theorem dX7_greatestRank_22 : decode cX7_greatestRank 22 = .ok (.if_icmp .le 12, 3) := by decide +kernel
theorem dX7_greatestRank_25 : decode cX7_greatestRank 25 = .ok (.aload_n 0, 1) := by decide +kernel
theorem dX7_greatestRank_26 : decode cX7_greatestRank 26 = .ok (.getfield 29, 3) := by decide +kernel
theorem dX7_greatestRank_29 : decode cX7_greatestRank 29 = .ok (.iload_n 3, 1) := by decide +kernel
theorem dX7_greatestRank_30 : decode cX7_greatestRank 30 = .ok (.iaload, 1) := by decide +kernel
theorem dX7_greatestRank_31 : decode cX7_greatestRank 31 = .ok (.goto 4, 3) := by decide +kernel
theorem dX7_greatestRank_34 : decode cX7_greatestRank 34 = .ok (.iload_n 2, 1) := by decide +kernel
theorem dX7_greatestRank_35 : decode cX7_greatestRank 35 = .ok (.istore_n 2, 1) := by decide +kernel
theorem dX7_greatestRank_36 : decode cX7_greatestRank 36 = .ok (.iinc 3 1, 3) := by decide +kernel
theorem dX7_greatestRank_39 : decode cX7_greatestRank 39 = .ok (.goto (-30), 3) := by decide +kernel
theorem dX7_greatestRank_42 : decode cX7_greatestRank 42 = .ok (.iload_n 2, 1) := by decide +kernel
theorem dX7_greatestRank_43 : decode cX7_greatestRank 43 = .ok (.ireturn, 1) := by decide +kernel
set_option maxRecDepth 20000 in
theorem ggX7_madeThings_X7_isMade : GoodIn wsX7_madeThings wsX7_isMade := goodIn_r _ [5, 6, 7, 8, 4, 9, 10, 11, 12, 13, 14, 15, 16, 17, 18, 19, 20, 21, 22, 23, 24, 25, 26, 27, 28, 29, 30, 31, 32, 33, 34, 35, 36, 37, 38, 39] (by decide +kernel) (by decide +kernel)
set_option maxRecDepth 20000 in
theorem gX7_madeThings_X7_isMade : GoodIn wsX7_madeThings (wsV RX7 72 RX7 yX7_isMade wsX7_isMade) := goodIn_app (goodIn_of _ (by decide +kernel)) ggX7_madeThings_X7_isMade
theorem dX7_madeThings_0 : decode cX7_madeThings 0 = .ok (.iconst 0, 1) := by decide +kernel
theorem dX7_madeThings_1 : decode cX7_madeThings 1 = .ok (.istore_n 1, 1) := by decide +kernel
theorem dX7_madeThings_2 : decode cX7_madeThings 2 = .ok (.iconst 0, 1) := by decide +kernel
theorem dX7_madeThings_3 : decode cX7_madeThings 3 = .ok (.istore_n 2, 1) := by decide +kernel
theorem dX7_madeThings_4 : decode cX7_madeThings 4 = .ok (.iload_n 2, 1) := by decide +kernel
theorem dX7_madeThings_5 : decode cX7_madeThings 5 = .ok (.bipush 20, 2) := by decide +kernel
theorem dX7_madeThings_7 : decode cX7_madeThings 7 = .ok (.if_icmp .ge 27, 3) := by decide +kernel
theorem dX7_madeThings_10 : decode cX7_madeThings 10 = .ok (.iload_n 1, 1) := by decide +kernel
theorem dX7_madeThings_11 : decode cX7_madeThings 11 = .ok (.aload_n 0, 1) := by decide +kernel
theorem dX7_madeThings_12 : decode cX7_madeThings 12 = .ok (.iload_n 2, 1) := by decide +kernel
theorem dX7_madeThings_13 : decode cX7_madeThings 13 = .ok (.invokevirtual 72, 3) := by decide +kernel
theorem dX7_madeThings_16 : decode cX7_madeThings 16 = .ok (.ifCond .eq 9, 3) := by decide +kernel
theorem dX7_madeThings_19 : decode cX7_madeThings 19 = .ok (.iconst 1, 1) := by decide +kernel
theorem dX7_madeThings_20 : decode cX7_madeThings 20 = .ok (.iload_n 2, 1) := by decide +kernel
theorem dX7_madeThings_21 : decode cX7_madeThings 21 = .ok (.ishl, 1) := by decide +kernel
theorem dX7_madeThings_22 : decode cX7_madeThings 22 = .ok (.goto 4, 3) := by decide +kernel
theorem dX7_madeThings_25 : decode cX7_madeThings 25 = .ok (.iconst 0, 1) := by decide +kernel
theorem dX7_madeThings_26 : decode cX7_madeThings 26 = .ok (.ior, 1) := by decide +kernel
theorem dX7_madeThings_27 : decode cX7_madeThings 27 = .ok (.istore_n 1, 1) := by decide +kernel
theorem dX7_madeThings_28 : decode cX7_madeThings 28 = .ok (.iinc 2 1, 3) := by decide +kernel
theorem dX7_madeThings_31 : decode cX7_madeThings 31 = .ok (.goto (-27), 3) := by decide +kernel
theorem dX7_madeThings_34 : decode cX7_madeThings 34 = .ok (.iload_n 1, 1) := by decide +kernel
theorem dX7_madeThings_35 : decode cX7_madeThings 35 = .ok (.ireturn, 1) := by decide +kernel
set_option maxRecDepth 20000 in
theorem ggX7_told_X7_recipes : GoodIn wsX7_told wsX7_recipes := goodIn_r _ [8, 9, 10, 11, 7, 12, 13, 14, 15, 16, 1, 42, 43, 44, 45, 46, 47, 48, 49, 50, 51, 52, 53, 54, 55, 56, 57, 58, 59, 60, 61, 62, 63, 64, 65, 66, 67, 68, 69, 70] (by decide +kernel) (by decide +kernel)
set_option maxRecDepth 20000 in
theorem gX7_told_X7_recipes : GoodIn wsX7_told (wsV RX7 200 RX7 yX7_recipes wsX7_recipes) := goodIn_app (goodIn_of _ (by decide +kernel)) ggX7_told_X7_recipes
set_option maxRecDepth 20000 in
theorem ggX7_told_X7_stored : GoodIn wsX7_told wsX7_stored := goodIn_r _ [20, 13, 14, 15, 7, 16, 1, 42, 43, 44, 45, 46, 47, 48, 49, 50, 51, 52, 53, 54, 55, 56, 57, 58, 59, 60, 61, 62, 63, 64, 65, 66, 67, 68, 69, 70] (by decide +kernel) (by decide +kernel)
set_option maxRecDepth 20000 in
theorem gX7_told_X7_stored : GoodIn wsX7_told (wsV RX7 203 RX7 yX7_stored wsX7_stored) := goodIn_app (goodIn_of _ (by decide +kernel)) ggX7_told_X7_stored
set_option maxRecDepth 20000 in
theorem ggX7_told_X7_greatestRank : GoodIn wsX7_told wsX7_greatestRank := goodIn_r _ [24, 25, 26, 27, 28, 7, 29, 30, 31, 32, 33, 13, 14, 15, 16, 1, 34, 35, 36, 37, 9, 10, 11, 12, 42, 43, 44, 45, 46, 47, 48, 49, 50, 51, 52, 53, 54, 55, 56, 57, 58, 59, 60, 61, 62, 63, 64, 65, 66, 67, 68, 69, 70] (by decide +kernel) (by decide +kernel)
set_option maxRecDepth 20000 in
theorem gX7_told_X7_greatestRank : GoodIn wsX7_told (wsV RX7 206 RX7 yX7_greatestRank wsX7_greatestRank) := goodIn_app (goodIn_of _ (by decide +kernel)) ggX7_told_X7_greatestRank
set_option maxRecDepth 20000 in
theorem ggX7_told_X7_madeThings : GoodIn wsX7_told wsX7_madeThings := goodIn_r _ [41, 9, 10, 11, 7, 12, 13, 14, 15, 16, 1, 42, 43, 44, 45, 46, 47, 48, 49, 50, 51, 52, 53, 54, 55, 56, 57, 58, 59, 60, 61, 62, 63, 64, 65, 66, 67, 68, 69, 70] (by decide +kernel) (by decide +kernel)
set_option maxRecDepth 20000 in
theorem gX7_told_X7_madeThings : GoodIn wsX7_told (wsV RX7 209 RX7 yX7_madeThings wsX7_madeThings) := goodIn_app (goodIn_of _ (by decide +kernel)) ggX7_told_X7_madeThings
theorem dX7_told_0 : decode cX7_told 0 = .ok (.iload_n 1, 1) := by decide +kernel
theorem dX7_told_1 : decode cX7_told 1 = .ok (.tableswitch 95 0 7 #[47, 52, 57, 66, 75, 80, 85, 90], 47) := by decide +kernel
theorem dX7_told_48 : decode cX7_told 48 = .ok (.aload_n 0, 1) := by decide +kernel
theorem dX7_told_49 : decode cX7_told 49 = .ok (.invokevirtual 200, 3) := by decide +kernel
theorem dX7_told_52 : decode cX7_told 52 = .ok (.ireturn, 1) := by decide +kernel
theorem dX7_told_53 : decode cX7_told 53 = .ok (.aload_n 0, 1) := by decide +kernel
theorem dX7_told_54 : decode cX7_told 54 = .ok (.invokevirtual 203, 3) := by decide +kernel
theorem dX7_told_57 : decode cX7_told 57 = .ok (.ireturn, 1) := by decide +kernel
theorem dX7_told_58 : decode cX7_told 58 = .ok (.aload_n 0, 1) := by decide +kernel
theorem dX7_told_59 : decode cX7_told 59 = .ok (.getfield 7, 3) := by decide +kernel
theorem dX7_told_62 : decode cX7_told 62 = .ok (.sipush 460, 3) := by decide +kernel
theorem dX7_told_65 : decode cX7_told 65 = .ok (.iaload, 1) := by decide +kernel
theorem dX7_told_66 : decode cX7_told 66 = .ok (.ireturn, 1) := by decide +kernel
theorem dX7_told_67 : decode cX7_told 67 = .ok (.aload_n 0, 1) := by decide +kernel
theorem dX7_told_68 : decode cX7_told 68 = .ok (.getfield 7, 3) := by decide +kernel
theorem dX7_told_71 : decode cX7_told 71 = .ok (.sipush 461, 3) := by decide +kernel
theorem dX7_told_74 : decode cX7_told 74 = .ok (.iaload, 1) := by decide +kernel
theorem dX7_told_75 : decode cX7_told 75 = .ok (.ireturn, 1) := by decide +kernel
theorem dX7_told_76 : decode cX7_told 76 = .ok (.aload_n 0, 1) := by decide +kernel
theorem dX7_told_77 : decode cX7_told 77 = .ok (.invokevirtual 206, 3) := by decide +kernel
theorem dX7_told_80 : decode cX7_told 80 = .ok (.ireturn, 1) := by decide +kernel
theorem dX7_told_81 : decode cX7_told 81 = .ok (.aload_n 0, 1) := by decide +kernel
theorem dX7_told_82 : decode cX7_told 82 = .ok (.invokevirtual 209, 3) := by decide +kernel
theorem dX7_told_85 : decode cX7_told 85 = .ok (.ireturn, 1) := by decide +kernel
theorem dX7_told_86 : decode cX7_told 86 = .ok (.aload_n 0, 1) := by decide +kernel
theorem dX7_told_87 : decode cX7_told 87 = .ok (.getfield 181, 3) := by decide +kernel
theorem dX7_told_90 : decode cX7_told 90 = .ok (.ireturn, 1) := by decide +kernel
theorem dX7_told_91 : decode cX7_told 91 = .ok (.aload_n 0, 1) := by decide +kernel
theorem dX7_told_92 : decode cX7_told 92 = .ok (.getfield 58, 3) := by decide +kernel
theorem dX7_told_95 : decode cX7_told 95 = .ok (.ireturn, 1) := by decide +kernel
theorem dX7_told_96 : decode cX7_told 96 = .ok (.iconst (-1), 1) := by decide +kernel
theorem dX7_told_97 : decode cX7_told 97 = .ok (.ireturn, 1) := by decide +kernel
set_option maxRecDepth 20000 in
theorem ggX7_thing_X7_isThing : GoodIn wsX7_thing wsX7_isThing := goodIn_r _ [5, 6, 7, 4, 8] (by decide +kernel) (by decide +kernel)
set_option maxRecDepth 20000 in
theorem gX7_thing_X7_isThing : GoodIn wsX7_thing (va_wsS RX7 128 yX7_isThing wsX7_isThing) := goodIn_app (goodIn_of _ (by decide +kernel)) ggX7_thing_X7_isThing
set_option maxRecDepth 20000 in
theorem ggX7_thing_X7_isIn : GoodIn wsX7_thing wsX7_isIn := goodIn_r _ [8] (by decide +kernel) (by decide +kernel)
set_option maxRecDepth 20000 in
theorem gX7_thing_X7_isIn : GoodIn wsX7_thing (va_wsS RX7 61 yX7_isIn wsX7_isIn) := goodIn_app (goodIn_of _ (by decide +kernel)) ggX7_thing_X7_isIn
set_option maxRecDepth 20000 in
theorem ggX7_thing_X7_of : GoodIn wsX7_thing wsX7_of := goodIn_r _ [12, 13, 30, 31, 32, 33, 34, 35, 36, 37, 38, 39, 40, 41, 42, 43, 44, 45, 46, 47, 48, 49, 50, 51, 52, 53, 54, 55, 56, 57, 58] (by decide +kernel) (by decide +kernel)
set_option maxRecDepth 20000 in
theorem gX7_thing_X7_of : GoodIn wsX7_thing (wsV RX7 65 RX7 yX7_of wsX7_of) := goodIn_app (goodIn_of _ (by decide +kernel)) ggX7_thing_X7_of
set_option maxRecDepth 20000 in
theorem ggX7_thing_X7_areRanks : GoodIn wsX7_thing wsX7_areRanks := goodIn_r _ [17, 1, 18, 19, 20, 4, 21, 9, 10, 11, 12, 13, 22, 23, 24, 25, 26, 27, 28, 29, 30, 31, 32, 33, 34, 35, 36, 37, 38, 39, 40, 41, 42, 43, 44, 45, 46, 47, 48, 49, 50, 51, 52, 53, 54, 55, 56, 57, 58] (by decide +kernel) (by decide +kernel)
set_option maxRecDepth 20000 in
theorem gX7_thing_X7_areRanks : GoodIn wsX7_thing (wsV RX7 194 RX7 yX7_areRanks wsX7_areRanks) := goodIn_app (goodIn_of _ (by decide +kernel)) ggX7_thing_X7_areRanks
set_option maxRecDepth 20000 in
theorem ggX7_thing_X7_isMade : GoodIn wsX7_thing wsX7_isMade := goodIn_r _ [29, 9, 10, 11, 4, 12, 13, 30, 31, 32, 33, 34, 35, 36, 37, 38, 39, 40, 41, 42, 43, 44, 45, 46, 47, 48, 49, 50, 51, 52, 53, 54, 55, 56, 57, 58] (by decide +kernel) (by decide +kernel)
set_option maxRecDepth 20000 in
theorem gX7_thing_X7_isMade : GoodIn wsX7_thing (wsV RX7 72 RX7 yX7_isMade wsX7_isMade) := goodIn_app (goodIn_of _ (by decide +kernel)) ggX7_thing_X7_isMade
theorem dX7_thing_0 : decode cX7_thing 0 = .ok (.iload_n 1, 1) := by decide +kernel
theorem dX7_thing_1 : decode cX7_thing 1 = .ok (.invokestatic 128, 3) := by decide +kernel
theorem dX7_thing_4 : decode cX7_thing 4 = .ok (.ifCond .eq 13, 3) := by decide +kernel
theorem dX7_thing_7 : decode cX7_thing 7 = .ok (.iload_n 2, 1) := by decide +kernel
theorem dX7_thing_8 : decode cX7_thing 8 = .ok (.iconst 0, 1) := by decide +kernel
theorem dX7_thing_9 : decode cX7_thing 9 = .ok (.bipush 10, 2) := by decide +kernel
theorem dX7_thing_11 : decode cX7_thing 11 = .ok (.invokestatic 61, 3) := by decide +kernel
theorem dX7_thing_14 : decode cX7_thing 14 = .ok (.ifCond .ne 5, 3) := by decide +kernel
theorem dX7_thing_17 : decode cX7_thing 17 = .ok (.iconst (-1), 1) := by decide +kernel
theorem dX7_thing_18 : decode cX7_thing 18 = .ok (.ireturn, 1) := by decide +kernel
theorem dX7_thing_19 : decode cX7_thing 19 = .ok (.iload_n 2, 1) := by decide +kernel
theorem dX7_thing_20 : decode cX7_thing 20 = .ok (.tableswitch 116 0 5 #[40, 47, 59, 80, 101, 108], 40) := by decide +kernel
theorem dX7_thing_60 : decode cX7_thing 60 = .ok (.aload_n 0, 1) := by decide +kernel
theorem dX7_thing_61 : decode cX7_thing 61 = .ok (.iload_n 1, 1) := by decide +kernel
theorem dX7_thing_62 : decode cX7_thing 62 = .ok (.iconst 0, 1) := by decide +kernel
theorem dX7_thing_63 : decode cX7_thing 63 = .ok (.invokevirtual 65, 3) := by decide +kernel
theorem dX7_thing_66 : decode cX7_thing 66 = .ok (.ireturn, 1) := by decide +kernel
theorem dX7_thing_67 : decode cX7_thing 67 = .ok (.aload_n 0, 1) := by decide +kernel
theorem dX7_thing_68 : decode cX7_thing 68 = .ok (.invokevirtual 194, 3) := by decide +kernel
theorem dX7_thing_71 : decode cX7_thing 71 = .ok (.istore_n 3, 1) := by decide +kernel
theorem dX7_thing_72 : decode cX7_thing 72 = .ok (.aload_n 0, 1) := by decide +kernel
theorem dX7_thing_73 : decode cX7_thing 73 = .ok (.getfield 29, 3) := by decide +kernel
theorem dX7_thing_76 : decode cX7_thing 76 = .ok (.iload_n 1, 1) := by decide +kernel
theorem dX7_thing_77 : decode cX7_thing 77 = .ok (.iaload, 1) := by decide +kernel
theorem dX7_thing_78 : decode cX7_thing 78 = .ok (.ireturn, 1) := by decide +kernel
theorem dX7_thing_79 : decode cX7_thing 79 = .ok (.aload_n 0, 1) := by decide +kernel
theorem dX7_thing_80 : decode cX7_thing 80 = .ok (.iload_n 1, 1) := by decide +kernel
theorem dX7_thing_81 : decode cX7_thing 81 = .ok (.invokevirtual 72, 3) := by decide +kernel
theorem dX7_thing_84 : decode cX7_thing 84 = .ok (.ifCond .eq 13, 3) := by decide +kernel
theorem dX7_thing_87 : decode cX7_thing 87 = .ok (.aload_n 0, 1) := by decide +kernel
theorem dX7_thing_88 : decode cX7_thing 88 = .ok (.iload_n 1, 1) := by decide +kernel
theorem dX7_thing_89 : decode cX7_thing 89 = .ok (.bipush 7, 2) := by decide +kernel
theorem dX7_thing_91 : decode cX7_thing 91 = .ok (.invokevirtual 65, 3) := by decide +kernel
theorem dX7_thing_94 : decode cX7_thing 94 = .ok (.goto 5, 3) := by decide +kernel
theorem dX7_thing_97 : decode cX7_thing 97 = .ok (.bipush (-9), 2) := by decide +kernel
theorem dX7_thing_99 : decode cX7_thing 99 = .ok (.ireturn, 1) := by decide +kernel
theorem dX7_thing_100 : decode cX7_thing 100 = .ok (.aload_n 0, 1) := by decide +kernel
theorem dX7_thing_101 : decode cX7_thing 101 = .ok (.iload_n 1, 1) := by decide +kernel
theorem dX7_thing_102 : decode cX7_thing 102 = .ok (.invokevirtual 72, 3) := by decide +kernel
theorem dX7_thing_105 : decode cX7_thing 105 = .ok (.ifCond .eq 13, 3) := by decide +kernel
theorem dX7_thing_108 : decode cX7_thing 108 = .ok (.aload_n 0, 1) := by decide +kernel
theorem dX7_thing_109 : decode cX7_thing 109 = .ok (.iload_n 1, 1) := by decide +kernel
theorem dX7_thing_110 : decode cX7_thing 110 = .ok (.bipush 8, 2) := by decide +kernel
theorem dX7_thing_112 : decode cX7_thing 112 = .ok (.invokevirtual 65, 3) := by decide +kernel
theorem dX7_thing_115 : decode cX7_thing 115 = .ok (.goto 5, 3) := by decide +kernel
theorem dX7_thing_118 : decode cX7_thing 118 = .ok (.bipush (-9), 2) := by decide +kernel
theorem dX7_thing_120 : decode cX7_thing 120 = .ok (.ireturn, 1) := by decide +kernel
theorem dX7_thing_121 : decode cX7_thing 121 = .ok (.aload_n 0, 1) := by decide +kernel
theorem dX7_thing_122 : decode cX7_thing 122 = .ok (.iload_n 1, 1) := by decide +kernel
theorem dX7_thing_123 : decode cX7_thing 123 = .ok (.iconst 1, 1) := by decide +kernel
theorem dX7_thing_124 : decode cX7_thing 124 = .ok (.invokevirtual 65, 3) := by decide +kernel
theorem dX7_thing_127 : decode cX7_thing 127 = .ok (.ireturn, 1) := by decide +kernel
theorem dX7_thing_128 : decode cX7_thing 128 = .ok (.aload_n 0, 1) := by decide +kernel
theorem dX7_thing_129 : decode cX7_thing 129 = .ok (.iload_n 1, 1) := by decide +kernel
theorem dX7_thing_130 : decode cX7_thing 130 = .ok (.bipush 19, 2) := by decide +kernel
theorem dX7_thing_132 : decode cX7_thing 132 = .ok (.invokevirtual 65, 3) := by decide +kernel
theorem dX7_thing_135 : decode cX7_thing 135 = .ok (.ireturn, 1) := by decide +kernel
theorem dX7_thing_136 : decode cX7_thing 136 = .ok (.aload_n 0, 1) := by decide +kernel
theorem dX7_thing_137 : decode cX7_thing 137 = .ok (.iload_n 1, 1) := by decide +kernel
theorem dX7_thing_138 : decode cX7_thing 138 = .ok (.iconst 2, 1) := by decide +kernel
theorem dX7_thing_139 : decode cX7_thing 139 = .ok (.iload_n 2, 1) := by decide +kernel
theorem dX7_thing_140 : decode cX7_thing 140 = .ok (.iadd, 1) := by decide +kernel
theorem dX7_thing_141 : decode cX7_thing 141 = .ok (.bipush 6, 2) := by decide +kernel
theorem dX7_thing_143 : decode cX7_thing 143 = .ok (.isub, 1) := by decide +kernel
theorem dX7_thing_144 : decode cX7_thing 144 = .ok (.invokevirtual 65, 3) := by decide +kernel
theorem dX7_thing_147 : decode cX7_thing 147 = .ok (.ireturn, 1) := by decide +kernel
set_option maxRecDepth 20000 in
theorem ggX7_ingredient_X7_isThing : GoodIn wsX7_ingredient wsX7_isThing := goodIn_r _ [4, 5, 6, 3, 7] (by decide +kernel) (by decide +kernel)
set_option maxRecDepth 20000 in
theorem gX7_ingredient_X7_isThing : GoodIn wsX7_ingredient (va_wsS RX7 128 yX7_isThing wsX7_isThing) := goodIn_app (goodIn_of _ (by decide +kernel)) ggX7_ingredient_X7_isThing
set_option maxRecDepth 20000 in
theorem ggX7_ingredient_X7_isIn : GoodIn wsX7_ingredient wsX7_isIn := goodIn_r _ [7] (by decide +kernel) (by decide +kernel)
set_option maxRecDepth 20000 in
theorem gX7_ingredient_X7_isIn : GoodIn wsX7_ingredient (va_wsS RX7 61 yX7_isIn wsX7_isIn) := goodIn_app (goodIn_of _ (by decide +kernel)) ggX7_ingredient_X7_isIn
set_option maxRecDepth 20000 in
theorem ggX7_ingredient_X7_of : GoodIn wsX7_ingredient wsX7_of := goodIn_r _ [11, 12, 13, 14, 15, 16, 17, 18, 19, 20, 21, 22, 23, 24, 25, 26, 27, 28, 29, 30, 31, 32, 33, 34, 35, 36, 37, 38, 39, 40, 41] (by decide +kernel) (by decide +kernel)
set_option maxRecDepth 20000 in
theorem gX7_ingredient_X7_of : GoodIn wsX7_ingredient (wsV RX7 65 RX7 yX7_of wsX7_of) := goodIn_app (goodIn_of _ (by decide +kernel)) ggX7_ingredient_X7_of
theorem dX7_ingredient_0 : decode cX7_ingredient 0 = .ok (.iload_n 1, 1) := by decide +kernel
theorem dX7_ingredient_1 : decode cX7_ingredient 1 = .ok (.invokestatic 128, 3) := by decide +kernel
theorem dX7_ingredient_4 : decode cX7_ingredient 4 = .ok (.ifCond .eq 16, 3) := by decide +kernel
theorem dX7_ingredient_7 : decode cX7_ingredient 7 = .ok (.iload_n 2, 1) := by decide +kernel
theorem dX7_ingredient_8 : decode cX7_ingredient 8 = .ok (.ifCond .lt 12, 3) := by decide +kernel
theorem dX7_ingredient_11 : decode cX7_ingredient 11 = .ok (.iload_n 3, 1) := by decide +kernel
theorem dX7_ingredient_12 : decode cX7_ingredient 12 = .ok (.iconst 0, 1) := by decide +kernel
theorem dX7_ingredient_13 : decode cX7_ingredient 13 = .ok (.iconst 1, 1) := by decide +kernel
theorem dX7_ingredient_14 : decode cX7_ingredient 14 = .ok (.invokestatic 61, 3) := by decide +kernel
theorem dX7_ingredient_17 : decode cX7_ingredient 17 = .ok (.ifCond .ne 5, 3) := by decide +kernel
theorem dX7_ingredient_20 : decode cX7_ingredient 20 = .ok (.iconst (-1), 1) := by decide +kernel
theorem dX7_ingredient_21 : decode cX7_ingredient 21 = .ok (.ireturn, 1) := by decide +kernel
theorem dX7_ingredient_22 : decode cX7_ingredient 22 = .ok (.iload_n 2, 1) := by decide +kernel
theorem dX7_ingredient_23 : decode cX7_ingredient 23 = .ok (.aload_n 0, 1) := by decide +kernel
theorem dX7_ingredient_24 : decode cX7_ingredient 24 = .ok (.iload_n 1, 1) := by decide +kernel
theorem dX7_ingredient_25 : decode cX7_ingredient 25 = .ok (.bipush 8, 2) := by decide +kernel
theorem dX7_ingredient_27 : decode cX7_ingredient 27 = .ok (.invokevirtual 65, 3) := by decide +kernel
theorem dX7_ingredient_30 : decode cX7_ingredient 30 = .ok (.if_icmp .ge 19, 3) := by decide +kernel
theorem dX7_ingredient_33 : decode cX7_ingredient 33 = .ok (.aload_n 0, 1) := by decide +kernel
theorem dX7_ingredient_34 : decode cX7_ingredient 34 = .ok (.iload_n 1, 1) := by decide +kernel
theorem dX7_ingredient_35 : decode cX7_ingredient 35 = .ok (.bipush 9, 2) := by decide +kernel
theorem dX7_ingredient_37 : decode cX7_ingredient 37 = .ok (.iconst 2, 1) := by decide +kernel
theorem dX7_ingredient_38 : decode cX7_ingredient 38 = .ok (.iload_n 2, 1) := by decide +kernel
theorem dX7_ingredient_39 : decode cX7_ingredient 39 = .ok (.imul, 1) := by decide +kernel
theorem dX7_ingredient_40 : decode cX7_ingredient 40 = .ok (.iadd, 1) := by decide +kernel
theorem dX7_ingredient_41 : decode cX7_ingredient 41 = .ok (.iload_n 3, 1) := by decide +kernel
theorem dX7_ingredient_42 : decode cX7_ingredient 42 = .ok (.iadd, 1) := by decide +kernel
theorem dX7_ingredient_43 : decode cX7_ingredient 43 = .ok (.invokevirtual 65, 3) := by decide +kernel
theorem dX7_ingredient_46 : decode cX7_ingredient 46 = .ok (.goto 5, 3) := by decide +kernel
theorem dX7_ingredient_49 : decode cX7_ingredient 49 = .ok (.bipush (-9), 2) := by decide +kernel
theorem dX7_ingredient_51 : decode cX7_ingredient 51 = .ok (.ireturn, 1) := by decide +kernel
set_option maxRecDepth 20000 in
theorem ggX7_substitute_X7_isThing : GoodIn wsX7_substitute wsX7_isThing := goodIn_r _ [4, 5, 6, 3, 7] (by decide +kernel) (by decide +kernel)
set_option maxRecDepth 20000 in
theorem gX7_substitute_X7_isThing : GoodIn wsX7_substitute (va_wsS RX7 128 yX7_isThing wsX7_isThing) := goodIn_app (goodIn_of _ (by decide +kernel)) ggX7_substitute_X7_isThing
set_option maxRecDepth 20000 in
theorem ggX7_substitute_X7_of : GoodIn wsX7_substitute wsX7_of := goodIn_r _ [11, 12, 13, 14, 15, 16, 17, 18, 19, 20, 21, 22, 23, 24, 25, 26, 27, 28, 29, 30, 31, 32, 33, 34, 35, 36, 37, 38, 39, 40, 41] (by decide +kernel) (by decide +kernel)
set_option maxRecDepth 20000 in
theorem gX7_substitute_X7_of : GoodIn wsX7_substitute (wsV RX7 65 RX7 yX7_of wsX7_of) := goodIn_app (goodIn_of _ (by decide +kernel)) ggX7_substitute_X7_of
theorem dX7_substitute_0 : decode cX7_substitute 0 = .ok (.iload_n 1, 1) := by decide +kernel
theorem dX7_substitute_1 : decode cX7_substitute 1 = .ok (.invokestatic 128, 3) := by decide +kernel
theorem dX7_substitute_4 : decode cX7_substitute 4 = .ok (.ifCond .eq 7, 3) := by decide +kernel
theorem dX7_substitute_7 : decode cX7_substitute 7 = .ok (.iload_n 2, 1) := by decide +kernel
theorem dX7_substitute_8 : decode cX7_substitute 8 = .ok (.ifCond .ge 5, 3) := by decide +kernel
theorem dX7_substitute_11 : decode cX7_substitute 11 = .ok (.iconst (-1), 1) := by decide +kernel
theorem dX7_substitute_12 : decode cX7_substitute 12 = .ok (.ireturn, 1) := by decide +kernel
theorem dX7_substitute_13 : decode cX7_substitute 13 = .ok (.iload_n 2, 1) := by decide +kernel
theorem dX7_substitute_14 : decode cX7_substitute 14 = .ok (.aload_n 0, 1) := by decide +kernel
theorem dX7_substitute_15 : decode cX7_substitute 15 = .ok (.iload_n 1, 1) := by decide +kernel
theorem dX7_substitute_16 : decode cX7_substitute 16 = .ok (.bipush 19, 2) := by decide +kernel
theorem dX7_substitute_18 : decode cX7_substitute 18 = .ok (.invokevirtual 65, 3) := by decide +kernel
theorem dX7_substitute_21 : decode cX7_substitute 21 = .ok (.if_icmp .ge 15, 3) := by decide +kernel
theorem dX7_substitute_24 : decode cX7_substitute 24 = .ok (.aload_n 0, 1) := by decide +kernel
theorem dX7_substitute_25 : decode cX7_substitute 25 = .ok (.iload_n 1, 1) := by decide +kernel
theorem dX7_substitute_26 : decode cX7_substitute 26 = .ok (.bipush 20, 2) := by decide +kernel
theorem dX7_substitute_28 : decode cX7_substitute 28 = .ok (.iload_n 2, 1) := by decide +kernel
theorem dX7_substitute_29 : decode cX7_substitute 29 = .ok (.iadd, 1) := by decide +kernel
theorem dX7_substitute_30 : decode cX7_substitute 30 = .ok (.invokevirtual 65, 3) := by decide +kernel
theorem dX7_substitute_33 : decode cX7_substitute 33 = .ok (.goto 5, 3) := by decide +kernel
theorem dX7_substitute_36 : decode cX7_substitute 36 = .ok (.bipush (-9), 2) := by decide +kernel
theorem dX7_substitute_38 : decode cX7_substitute 38 = .ok (.ireturn, 1) := by decide +kernel
set_option maxRecDepth 20000 in
theorem ggX7_reach_X7_of : GoodIn wsX7_reach wsX7_of := goodIn_r _ [6, 7, 12, 13, 14, 15, 16, 17, 18, 19, 20, 21, 22, 23, 24, 25, 26, 27, 28, 29, 30, 31, 32, 33, 34, 35, 36, 37, 38, 39, 40] (by decide +kernel) (by decide +kernel)
set_option maxRecDepth 20000 in
theorem gX7_reach_X7_of : GoodIn wsX7_reach (wsV RX7 65 RX7 yX7_of wsX7_of) := goodIn_app (goodIn_of _ (by decide +kernel)) ggX7_reach_X7_of
set_option maxRecDepth 20000 in
theorem ggX7_reach_X7_ingredientOf : GoodIn wsX7_reach wsX7_ingredientOf := goodIn_r _ [11, 2, 3, 4, 5, 6, 7, 12, 13, 14, 15, 16, 17, 18, 19, 20, 21, 22, 23, 24, 25, 26, 27, 28, 29, 30, 31, 32, 33, 34, 35, 36, 37, 38, 39, 40] (by decide +kernel) (by decide +kernel)
set_option maxRecDepth 20000 in
theorem gX7_reach_X7_ingredientOf : GoodIn wsX7_reach (wsV RX7 69 RX7 yX7_ingredientOf wsX7_ingredientOf) := goodIn_app (goodIn_of _ (by decide +kernel)) ggX7_reach_X7_ingredientOf
theorem dX7_reach_0 : decode cX7_reach 0 = .ok (.iconst 0, 1) := by decide +kernel
theorem dX7_reach_1 : decode cX7_reach 1 = .ok (.istore_n 2, 1) := by decide +kernel
theorem dX7_reach_2 : decode cX7_reach 2 = .ok (.iload_n 2, 1) := by decide +kernel
theorem dX7_reach_3 : decode cX7_reach 3 = .ok (.aload_n 0, 1) := by decide +kernel
theorem dX7_reach_4 : decode cX7_reach 4 = .ok (.iload_n 1, 1) := by decide +kernel
theorem dX7_reach_5 : decode cX7_reach 5 = .ok (.bipush 8, 2) := by decide +kernel
theorem dX7_reach_7 : decode cX7_reach 7 = .ok (.invokevirtual 65, 3) := by decide +kernel
theorem dX7_reach_10 : decode cX7_reach 10 = .ok (.if_icmp .ge 60, 3) := by decide +kernel
theorem dX7_reach_13 : decode cX7_reach 13 = .ok (.aload_n 0, 1) := by decide +kernel
theorem dX7_reach_14 : decode cX7_reach 14 = .ok (.iload_n 1, 1) := by decide +kernel
theorem dX7_reach_15 : decode cX7_reach 15 = .ok (.iload_n 2, 1) := by decide +kernel
theorem dX7_reach_16 : decode cX7_reach 16 = .ok (.invokevirtual 69, 3) := by decide +kernel
theorem dX7_reach_19 : decode cX7_reach 19 = .ok (.istore_n 3, 1) := by decide +kernel
theorem dX7_reach_20 : decode cX7_reach 20 = .ok (.aload_n 0, 1) := by decide +kernel
theorem dX7_reach_21 : decode cX7_reach 21 = .ok (.getfield 50, 3) := by decide +kernel
theorem dX7_reach_24 : decode cX7_reach 24 = .ok (.iload_n 3, 1) := by decide +kernel
theorem dX7_reach_25 : decode cX7_reach 25 = .ok (.iconst 1, 1) := by decide +kernel
theorem dX7_reach_26 : decode cX7_reach 26 = .ok (.bastore, 1) := by decide +kernel
theorem dX7_reach_27 : decode cX7_reach 27 = .ok (.iconst 0, 1) := by decide +kernel
theorem dX7_reach_28 : decode cX7_reach 28 = .ok (.istore 4, 2) := by decide +kernel
theorem dX7_reach_30 : decode cX7_reach 30 = .ok (.iload 4, 2) := by decide +kernel
theorem dX7_reach_32 : decode cX7_reach 32 = .ok (.aload_n 0, 1) := by decide +kernel
theorem dX7_reach_33 : decode cX7_reach 33 = .ok (.iload_n 3, 1) := by decide +kernel
theorem dX7_reach_34 : decode cX7_reach 34 = .ok (.bipush 19, 2) := by decide +kernel
theorem dX7_reach_36 : decode cX7_reach 36 = .ok (.invokevirtual 65, 3) := by decide +kernel
theorem dX7_reach_39 : decode cX7_reach 39 = .ok (.if_icmp .ge 25, 3) := by decide +kernel
theorem dX7_reach_42 : decode cX7_reach 42 = .ok (.aload_n 0, 1) := by decide +kernel
theorem dX7_reach_43 : decode cX7_reach 43 = .ok (.getfield 50, 3) := by decide +kernel
theorem dX7_reach_46 : decode cX7_reach 46 = .ok (.aload_n 0, 1) := by decide +kernel
theorem dX7_reach_47 : decode cX7_reach 47 = .ok (.iload_n 3, 1) := by decide +kernel
theorem dX7_reach_48 : decode cX7_reach 48 = .ok (.bipush 20, 2) := by decide +kernel
theorem dX7_reach_50 : decode cX7_reach 50 = .ok (.iload 4, 2) := by decide +kernel
theorem dX7_reach_52 : decode cX7_reach 52 = .ok (.iadd, 1) := by decide +kernel
theorem dX7_reach_53 : decode cX7_reach 53 = .ok (.invokevirtual 65, 3) := by decide +kernel
theorem dX7_reach_56 : decode cX7_reach 56 = .ok (.iconst 1, 1) := by decide +kernel
theorem dX7_reach_57 : decode cX7_reach 57 = .ok (.bastore, 1) := by decide +kernel
theorem dX7_reach_58 : decode cX7_reach 58 = .ok (.iinc 4 1, 3) := by decide +kernel
theorem dX7_reach_61 : decode cX7_reach 61 = .ok (.goto (-31), 3) := by decide +kernel
theorem dX7_reach_64 : decode cX7_reach 64 = .ok (.iinc 2 1, 3) := by decide +kernel
theorem dX7_reach_67 : decode cX7_reach 67 = .ok (.goto (-65), 3) := by decide +kernel
theorem dX7_reach_70 : decode cX7_reach 70 = .ok (.return_, 1) := by decide +kernel
set_option maxRecDepth 20000 in
theorem ggX7_isNeeded_X7_isThing : GoodIn wsX7_isNeeded wsX7_isThing := goodIn_r _ [5, 6, 7, 4, 8] (by decide +kernel) (by decide +kernel)
set_option maxRecDepth 20000 in
theorem gX7_isNeeded_X7_isThing : GoodIn wsX7_isNeeded (va_wsS RX7 128 yX7_isThing wsX7_isThing) := goodIn_app (goodIn_of _ (by decide +kernel)) ggX7_isNeeded_X7_isThing
set_option maxRecDepth 20000 in
theorem ggX7_isNeeded_X7_reach : GoodIn wsX7_isNeeded wsX7_reach := goodIn_r _ [12, 1, 13, 14, 15, 4, 16, 17, 18, 19, 20, 21, 22, 23, 24, 25, 26, 27, 28, 29, 30, 31, 32, 33, 34, 35, 36, 37, 38, 39, 40, 41, 42, 43, 44, 45, 46, 47, 48, 49, 50] (by decide +kernel) (by decide +kernel)
set_option maxRecDepth 20000 in
theorem gX7_isNeeded_X7_reach : GoodIn wsX7_isNeeded (wsV RX7 212 RX7 yX7_reach wsX7_reach) := goodIn_app (goodIn_of _ (by decide +kernel)) ggX7_isNeeded_X7_reach
theorem dX7_isNeeded_0 : decode cX7_isNeeded 0 = .ok (.iload_n 1, 1) := by decide +kernel
theorem dX7_isNeeded_1 : decode cX7_isNeeded 1 = .ok (.invokestatic 128, 3) := by decide +kernel
theorem dX7_isNeeded_4 : decode cX7_isNeeded 4 = .ok (.ifCond .eq 10, 3) := by decide +kernel
theorem dX7_isNeeded_7 : decode cX7_isNeeded 7 = .ok (.iload_n 2, 1) := by decide +kernel
theorem dX7_isNeeded_8 : decode cX7_isNeeded 8 = .ok (.invokestatic 128, 3) := by decide +kernel
theorem dX7_isNeeded_11 : decode cX7_isNeeded 11 = .ok (.ifCond .ne 5, 3) := by decide +kernel
theorem dX7_isNeeded_14 : decode cX7_isNeeded 14 = .ok (.iconst (-1), 1) := by decide +kernel
theorem dX7_isNeeded_15 : decode cX7_isNeeded 15 = .ok (.ireturn, 1) := by decide +kernel
theorem dX7_isNeeded_16 : decode cX7_isNeeded 16 = .ok (.iconst 0, 1) := by decide +kernel
theorem dX7_isNeeded_17 : decode cX7_isNeeded 17 = .ok (.istore_n 3, 1) := by decide +kernel
theorem dX7_isNeeded_18 : decode cX7_isNeeded 18 = .ok (.iload_n 3, 1) := by decide +kernel
theorem dX7_isNeeded_19 : decode cX7_isNeeded 19 = .ok (.bipush 20, 2) := by decide +kernel
theorem dX7_isNeeded_21 : decode cX7_isNeeded 21 = .ok (.if_icmp .ge 16, 3) := by decide +kernel
theorem dX7_isNeeded_24 : decode cX7_isNeeded 24 = .ok (.aload_n 0, 1) := by decide +kernel
theorem dX7_isNeeded_25 : decode cX7_isNeeded 25 = .ok (.getfield 50, 3) := by decide +kernel
theorem dX7_isNeeded_28 : decode cX7_isNeeded 28 = .ok (.iload_n 3, 1) := by decide +kernel
theorem dX7_isNeeded_29 : decode cX7_isNeeded 29 = .ok (.iconst 0, 1) := by decide +kernel
theorem dX7_isNeeded_30 : decode cX7_isNeeded 30 = .ok (.bastore, 1) := by decide +kernel
theorem dX7_isNeeded_31 : decode cX7_isNeeded 31 = .ok (.iinc 3 1, 3) := by decide +kernel
theorem dX7_isNeeded_34 : decode cX7_isNeeded 34 = .ok (.goto (-16), 3) := by decide +kernel
theorem dX7_isNeeded_37 : decode cX7_isNeeded 37 = .ok (.aload_n 0, 1) := by decide +kernel
theorem dX7_isNeeded_38 : decode cX7_isNeeded 38 = .ok (.iload_n 2, 1) := by decide +kernel
theorem dX7_isNeeded_39 : decode cX7_isNeeded 39 = .ok (.invokevirtual 212, 3) := by decide +kernel
theorem dX7_isNeeded_42 : decode cX7_isNeeded 42 = .ok (.iconst 0, 1) := by decide +kernel
theorem dX7_isNeeded_43 : decode cX7_isNeeded 43 = .ok (.istore_n 3, 1) := by decide +kernel
theorem dX7_isNeeded_44 : decode cX7_isNeeded 44 = .ok (.iload_n 3, 1) := by decide +kernel
theorem dX7_isNeeded_45 : decode cX7_isNeeded 45 = .ok (.bipush 20, 2) := by decide +kernel
theorem dX7_isNeeded_47 : decode cX7_isNeeded 47 = .ok (.if_icmp .ge 41, 3) := by decide +kernel
theorem dX7_isNeeded_50 : decode cX7_isNeeded 50 = .ok (.iconst 0, 1) := by decide +kernel
theorem dX7_isNeeded_51 : decode cX7_isNeeded 51 = .ok (.istore 4, 2) := by decide +kernel
theorem dX7_isNeeded_53 : decode cX7_isNeeded 53 = .ok (.iload 4, 2) := by decide +kernel
theorem dX7_isNeeded_55 : decode cX7_isNeeded 55 = .ok (.bipush 20, 2) := by decide +kernel
theorem dX7_isNeeded_57 : decode cX7_isNeeded 57 = .ok (.if_icmp .ge 25, 3) := by decide +kernel
theorem dX7_isNeeded_60 : decode cX7_isNeeded 60 = .ok (.aload_n 0, 1) := by decide +kernel
theorem dX7_isNeeded_61 : decode cX7_isNeeded 61 = .ok (.getfield 50, 3) := by decide +kernel
theorem dX7_isNeeded_64 : decode cX7_isNeeded 64 = .ok (.iload 4, 2) := by decide +kernel
theorem dX7_isNeeded_66 : decode cX7_isNeeded 66 = .ok (.baload, 1) := by decide +kernel
theorem dX7_isNeeded_67 : decode cX7_isNeeded 67 = .ok (.ifCond .eq 9, 3) := by decide +kernel
theorem dX7_isNeeded_70 : decode cX7_isNeeded 70 = .ok (.aload_n 0, 1) := by decide +kernel
theorem dX7_isNeeded_71 : decode cX7_isNeeded 71 = .ok (.iload 4, 2) := by decide +kernel
theorem dX7_isNeeded_73 : decode cX7_isNeeded 73 = .ok (.invokevirtual 212, 3) := by decide +kernel
theorem dX7_isNeeded_76 : decode cX7_isNeeded 76 = .ok (.iinc 4 1, 3) := by decide +kernel
theorem dX7_isNeeded_79 : decode cX7_isNeeded 79 = .ok (.goto (-26), 3) := by decide +kernel
theorem dX7_isNeeded_82 : decode cX7_isNeeded 82 = .ok (.iinc 3 1, 3) := by decide +kernel
theorem dX7_isNeeded_85 : decode cX7_isNeeded 85 = .ok (.goto (-41), 3) := by decide +kernel
theorem dX7_isNeeded_88 : decode cX7_isNeeded 88 = .ok (.aload_n 0, 1) := by decide +kernel
theorem dX7_isNeeded_89 : decode cX7_isNeeded 89 = .ok (.getfield 50, 3) := by decide +kernel
theorem dX7_isNeeded_92 : decode cX7_isNeeded 92 = .ok (.iload_n 1, 1) := by decide +kernel
theorem dX7_isNeeded_93 : decode cX7_isNeeded 93 = .ok (.baload, 1) := by decide +kernel
theorem dX7_isNeeded_94 : decode cX7_isNeeded 94 = .ok (.ifCond .eq 12, 3) := by decide +kernel
theorem dX7_isNeeded_97 : decode cX7_isNeeded 97 = .ok (.iload_n 1, 1) := by decide +kernel
theorem dX7_isNeeded_98 : decode cX7_isNeeded 98 = .ok (.iload_n 2, 1) := by decide +kernel
theorem dX7_isNeeded_99 : decode cX7_isNeeded 99 = .ok (.if_icmp .eq 7, 3) := by decide +kernel
theorem dX7_isNeeded_102 : decode cX7_isNeeded 102 = .ok (.iconst 1, 1) := by decide +kernel
theorem dX7_isNeeded_103 : decode cX7_isNeeded 103 = .ok (.goto 4, 3) := by decide +kernel
theorem dX7_isNeeded_106 : decode cX7_isNeeded 106 = .ok (.iconst 0, 1) := by decide +kernel
theorem dX7_isNeeded_107 : decode cX7_isNeeded 107 = .ok (.ireturn, 1) := by decide +kernel
set_option maxRecDepth 20000 in
theorem ggX7_share_X7_of : GoodIn wsX7_share wsX7_of := goodIn_r _ [6, 1, 7, 8, 9, 10, 11, 12, 13, 14, 15, 16, 17, 18, 19, 20, 21, 22, 23, 24, 25, 26, 27, 28, 29, 30, 31, 32, 33, 34, 35] (by decide +kernel) (by decide +kernel)
set_option maxRecDepth 20000 in
theorem gX7_share_X7_of : GoodIn wsX7_share (wsV RX7 65 RX7 yX7_of wsX7_of) := goodIn_app (goodIn_of _ (by decide +kernel)) ggX7_share_X7_of
theorem dX7_share_0 : decode cX7_share 0 = .ok (.iconst 0, 1) := by decide +kernel
theorem dX7_share_1 : decode cX7_share 1 = .ok (.istore_n 1, 1) := by decide +kernel
theorem dX7_share_2 : decode cX7_share 2 = .ok (.iconst 0, 1) := by decide +kernel
theorem dX7_share_3 : decode cX7_share 3 = .ok (.istore_n 2, 1) := by decide +kernel
theorem dX7_share_4 : decode cX7_share 4 = .ok (.iload_n 2, 1) := by decide +kernel
theorem dX7_share_5 : decode cX7_share 5 = .ok (.bipush 20, 2) := by decide +kernel
theorem dX7_share_7 : decode cX7_share 7 = .ok (.if_icmp .ge 18, 3) := by decide +kernel
theorem dX7_share_10 : decode cX7_share 10 = .ok (.iload_n 1, 1) := by decide +kernel
theorem dX7_share_11 : decode cX7_share 11 = .ok (.aload_n 0, 1) := by decide +kernel
theorem dX7_share_12 : decode cX7_share 12 = .ok (.iload_n 2, 1) := by decide +kernel
theorem dX7_share_13 : decode cX7_share 13 = .ok (.iconst 3, 1) := by decide +kernel
theorem dX7_share_14 : decode cX7_share 14 = .ok (.invokevirtual 65, 3) := by decide +kernel
theorem dX7_share_17 : decode cX7_share 17 = .ok (.iadd, 1) := by decide +kernel
theorem dX7_share_18 : decode cX7_share 18 = .ok (.istore_n 1, 1) := by decide +kernel
theorem dX7_share_19 : decode cX7_share 19 = .ok (.iinc 2 1, 3) := by decide +kernel
theorem dX7_share_22 : decode cX7_share 22 = .ok (.goto (-18), 3) := by decide +kernel
theorem dX7_share_25 : decode cX7_share 25 = .ok (.iload_n 1, 1) := by decide +kernel
theorem dX7_share_26 : decode cX7_share 26 = .ok (.aload_n 0, 1) := by decide +kernel
theorem dX7_share_27 : decode cX7_share 27 = .ok (.getfield 7, 3) := by decide +kernel
theorem dX7_share_30 : decode cX7_share 30 = .ok (.sipush 460, 3) := by decide +kernel
theorem dX7_share_33 : decode cX7_share 33 = .ok (.iaload, 1) := by decide +kernel
theorem dX7_share_34 : decode cX7_share 34 = .ok (.iadd, 1) := by decide +kernel
theorem dX7_share_35 : decode cX7_share 35 = .ok (.istore_n 2, 1) := by decide +kernel
theorem dX7_share_36 : decode cX7_share 36 = .ok (.iload_n 2, 1) := by decide +kernel
theorem dX7_share_37 : decode cX7_share 37 = .ok (.ifCond .ne 7, 3) := by decide +kernel
theorem dX7_share_40 : decode cX7_share 40 = .ok (.fconst 0, 1) := by decide +kernel
theorem dX7_share_41 : decode cX7_share 41 = .ok (.goto 15, 3) := by decide +kernel
theorem dX7_share_44 : decode cX7_share 44 = .ok (.aload_n 0, 1) := by decide +kernel
theorem dX7_share_45 : decode cX7_share 45 = .ok (.getfield 7, 3) := by decide +kernel
theorem dX7_share_48 : decode cX7_share 48 = .ok (.sipush 460, 3) := by decide +kernel
theorem dX7_share_51 : decode cX7_share 51 = .ok (.iaload, 1) := by decide +kernel
theorem dX7_share_52 : decode cX7_share 52 = .ok (.i2f, 1) := by decide +kernel
theorem dX7_share_53 : decode cX7_share 53 = .ok (.iload_n 2, 1) := by decide +kernel
theorem dX7_share_54 : decode cX7_share 54 = .ok (.i2f, 1) := by decide +kernel
theorem dX7_share_55 : decode cX7_share 55 = .ok (.fdiv, 1) := by decide +kernel
theorem dX7_share_56 : decode cX7_share 56 = .ok (.freturn, 1) := by decide +kernel
set_option maxRecDepth 20000 in
theorem ggX7_tryWish_X7_wishNow : GoodIn wsX7_tryWish wsX7_wishNow := goodIn_r _ [7, 8, 9, 10, 6, 11, 12, 13, 2, 14, 15, 16, 17, 1, 18, 19, 20, 21, 22, 23, 24, 25, 26, 27, 28, 29, 30, 31, 32, 33, 34, 35, 36, 37, 38, 39, 40, 41, 42, 43, 44, 45, 46, 47, 48, 49, 50, 51, 52, 53, 54, 55, 56, 57, 58, 59, 60, 61, 62, 63, 64, 65, 66, 67, 68, 69, 70, 76, 77, 78, 79, 80, 81, 82, 83, 84, 85, 86, 87, 88, 89, 90, 91, 92, 93, 94, 95, 96, 97, 98, 99, 100, 101, 102, 103, 104] (by decide +kernel) (by decide +kernel)
set_option maxRecDepth 20000 in
theorem gX7_tryWish_X7_wishNow : GoodIn wsX7_tryWish (wsV RX7 134 RX7 yX7_wishNow wsX7_wishNow) := goodIn_app (goodIn_of _ (by decide +kernel)) ggX7_tryWish_X7_wishNow
set_option maxRecDepth 20000 in
theorem ggX7_tryWish_X7_of : GoodIn wsX7_tryWish wsX7_of := goodIn_r _ [17, 1, 76, 77, 78, 79, 80, 81, 82, 83, 84, 85, 86, 87, 88, 89, 90, 91, 92, 93, 94, 95, 96, 97, 98, 99, 100, 101, 102, 103, 104] (by decide +kernel) (by decide +kernel)
set_option maxRecDepth 20000 in
theorem gX7_tryWish_X7_of : GoodIn wsX7_tryWish (wsV RX7 65 RX7 yX7_of wsX7_of) := goodIn_app (goodIn_of _ (by decide +kernel)) ggX7_tryWish_X7_of
set_option maxRecDepth 20000 in
theorem ggX7_tryWish_X7_restore : GoodIn wsX7_tryWish wsX7_restore := goodIn_r _ [74, 1, 75, 76, 77, 78, 79, 80, 81, 82, 83, 84, 85, 86, 87, 88, 89, 90, 91, 92, 93, 94, 95, 96, 97, 98, 99, 100, 101, 102, 103, 104] (by decide +kernel) (by decide +kernel)
set_option maxRecDepth 20000 in
theorem gX7_tryWish_X7_restore : GoodIn wsX7_tryWish (wsV RX7 122 RX7 yX7_restore wsX7_restore) := goodIn_app (goodIn_of _ (by decide +kernel)) ggX7_tryWish_X7_restore
theorem dX7_tryWish_0 : decode cX7_tryWish 0 = .ok (.aload_n 0, 1) := by decide +kernel
theorem dX7_tryWish_1 : decode cX7_tryWish 1 = .ok (.iload_n 1, 1) := by decide +kernel
theorem dX7_tryWish_2 : decode cX7_tryWish 2 = .ok (.iload_n 2, 1) := by decide +kernel
theorem dX7_tryWish_3 : decode cX7_tryWish 3 = .ok (.invokevirtual 134, 3) := by decide +kernel
theorem dX7_tryWish_6 : decode cX7_tryWish 6 = .ok (.iload_n 3, 1) := by decide +kernel
theorem dX7_tryWish_7 : decode cX7_tryWish 7 = .ok (.bipush (-9), 2) := by decide +kernel
theorem dX7_tryWish_9 : decode cX7_tryWish 9 = .ok (.if_icmp .ne 14, 3) := by decide +kernel
theorem dX7_tryWish_12 : decode cX7_tryWish 12 = .ok (.aload_n 0, 1) := by decide +kernel
theorem dX7_tryWish_13 : decode cX7_tryWish 13 = .ok (.getfield 7, 3) := by decide +kernel
theorem dX7_tryWish_16 : decode cX7_tryWish 16 = .ok (.sipush 460, 3) := by decide +kernel
theorem dX7_tryWish_19 : decode cX7_tryWish 19 = .ok (.iaload, 1) := by decide +kernel
theorem dX7_tryWish_20 : decode cX7_tryWish 20 = .ok (.goto 9, 3) := by decide +kernel
theorem dX7_tryWish_23 : decode cX7_tryWish 23 = .ok (.aload_n 0, 1) := by decide +kernel
theorem dX7_tryWish_24 : decode cX7_tryWish 24 = .ok (.iload_n 3, 1) := by decide +kernel
theorem dX7_tryWish_25 : decode cX7_tryWish 25 = .ok (.iconst 2, 1) := by decide +kernel
theorem dX7_tryWish_26 : decode cX7_tryWish 26 = .ok (.invokevirtual 65, 3) := by decide +kernel
theorem dX7_tryWish_29 : decode cX7_tryWish 29 = .ok (.istore 4, 2) := by decide +kernel
theorem dX7_tryWish_31 : decode cX7_tryWish 31 = .ok (.aload_n 0, 1) := by decide +kernel
theorem dX7_tryWish_32 : decode cX7_tryWish 32 = .ok (.getfield 80, 3) := by decide +kernel
theorem dX7_tryWish_35 : decode cX7_tryWish 35 = .ok (.istore 5, 2) := by decide +kernel
theorem dX7_tryWish_37 : decode cX7_tryWish 37 = .ok (.aload_n 0, 1) := by decide +kernel
theorem dX7_tryWish_38 : decode cX7_tryWish 38 = .ok (.invokevirtual 122, 3) := by decide +kernel
theorem dX7_tryWish_41 : decode cX7_tryWish 41 = .ok (.iload 5, 2) := by decide +kernel
theorem dX7_tryWish_43 : decode cX7_tryWish 43 = .ok (.ifCond .eq 8, 3) := by decide +kernel
theorem dX7_tryWish_46 : decode cX7_tryWish 46 = .ok (.bipush (-3), 2) := by decide +kernel
theorem dX7_tryWish_48 : decode cX7_tryWish 48 = .ok (.goto 29, 3) := by decide +kernel
theorem dX7_tryWish_51 : decode cX7_tryWish 51 = .ok (.iload 4, 2) := by decide +kernel
theorem dX7_tryWish_53 : decode cX7_tryWish 53 = .ok (.iload_n 3, 1) := by decide +kernel
theorem dX7_tryWish_54 : decode cX7_tryWish 54 = .ok (.bipush (-9), 2) := by decide +kernel
theorem dX7_tryWish_56 : decode cX7_tryWish 56 = .ok (.if_icmp .ne 14, 3) := by decide +kernel
theorem dX7_tryWish_59 : decode cX7_tryWish 59 = .ok (.aload_n 0, 1) := by decide +kernel
theorem dX7_tryWish_60 : decode cX7_tryWish 60 = .ok (.getfield 7, 3) := by decide +kernel
theorem dX7_tryWish_63 : decode cX7_tryWish 63 = .ok (.sipush 460, 3) := by decide +kernel
theorem dX7_tryWish_66 : decode cX7_tryWish 66 = .ok (.iaload, 1) := by decide +kernel
theorem dX7_tryWish_67 : decode cX7_tryWish 67 = .ok (.goto 9, 3) := by decide +kernel
theorem dX7_tryWish_70 : decode cX7_tryWish 70 = .ok (.aload_n 0, 1) := by decide +kernel
theorem dX7_tryWish_71 : decode cX7_tryWish 71 = .ok (.iload_n 3, 1) := by decide +kernel
theorem dX7_tryWish_72 : decode cX7_tryWish 72 = .ok (.iconst 2, 1) := by decide +kernel
theorem dX7_tryWish_73 : decode cX7_tryWish 73 = .ok (.invokevirtual 65, 3) := by decide +kernel
theorem dX7_tryWish_76 : decode cX7_tryWish 76 = .ok (.isub, 1) := by decide +kernel
theorem dX7_tryWish_77 : decode cX7_tryWish 77 = .ok (.ireturn, 1) := by decide +kernel
set_option maxRecDepth 20000 in
theorem ggX7_gather_X7_isThing : GoodIn wsX7_gather wsX7_isThing := goodIn_r _ [4, 5, 6, 3, 7] (by decide +kernel) (by decide +kernel)
set_option maxRecDepth 20000 in
theorem gX7_gather_X7_isThing : GoodIn wsX7_gather (va_wsS RX7 128 yX7_isThing wsX7_isThing) := goodIn_app (goodIn_of _ (by decide +kernel)) ggX7_gather_X7_isThing
set_option maxRecDepth 20000 in
theorem ggX7_gather_X7_isIn : GoodIn wsX7_gather wsX7_isIn := goodIn_r _ [7] (by decide +kernel) (by decide +kernel)
set_option maxRecDepth 20000 in
theorem gX7_gather_X7_isIn : GoodIn wsX7_gather (va_wsS RX7 61 yX7_isIn wsX7_isIn) := goodIn_app (goodIn_of _ (by decide +kernel)) ggX7_gather_X7_isIn
set_option maxRecDepth 20000 in
theorem ggX7_gather_X7_hold : GoodIn wsX7_gather wsX7_hold := goodIn_r _ [11, 12, 13, 90, 91, 92, 93, 94, 95, 96, 97, 98, 99, 100, 101, 102, 103, 104, 105, 106, 107, 108, 109, 110, 111, 112, 113, 114, 115, 116, 117, 118] (by decide +kernel) (by decide +kernel)
set_option maxRecDepth 20000 in
theorem gX7_gather_X7_hold : GoodIn wsX7_gather (wsV RX7 131 RX7 yX7_hold wsX7_hold) := goodIn_app (goodIn_of _ (by decide +kernel)) ggX7_gather_X7_hold
set_option maxRecDepth 20000 in
theorem ggX7_gather_X7_tryWish : GoodIn wsX7_gather wsX7_tryWish := goodIn_r _ [17, 13, 18, 19, 20, 21, 3, 22, 23, 24, 25, 26, 27, 28, 29, 30, 31, 32, 33, 34, 35, 36, 37, 38, 39, 40, 41, 42, 43, 44, 45, 46, 47, 48, 49, 50, 51, 52, 53, 54, 55, 56, 57, 58, 59, 60, 61, 62, 63, 64, 65, 66, 67, 68, 69, 70, 71, 72, 73, 74, 75, 76, 77, 78, 79, 80, 81, 82, 83, 84, 85, 86, 87, 88, 89, 12, 90, 91, 92, 93, 94, 95, 96, 97, 98, 99, 100, 101, 102, 103, 104, 105, 106, 107, 108, 109, 110, 111, 112, 113, 114, 115, 116, 117, 118] (by decide +kernel) (by decide +kernel)
set_option maxRecDepth 20000 in
theorem gX7_gather_X7_tryWish : GoodIn wsX7_gather (wsV RX7 215 RX7 yX7_tryWish wsX7_tryWish) := goodIn_app (goodIn_of _ (by decide +kernel)) ggX7_gather_X7_tryWish
theorem dX7_gather_0 : decode cX7_gather 0 = .ok (.iload_n 1, 1) := by decide +kernel
theorem dX7_gather_1 : decode cX7_gather 1 = .ok (.invokestatic 128, 3) := by decide +kernel
theorem dX7_gather_4 : decode cX7_gather 4 = .ok (.ifCond .eq 27, 3) := by decide +kernel
theorem dX7_gather_7 : decode cX7_gather 7 = .ok (.iload_n 2, 1) := by decide +kernel
theorem dX7_gather_8 : decode cX7_gather 8 = .ok (.iconst 1, 1) := by decide +kernel
theorem dX7_gather_9 : decode cX7_gather 9 = .ok (.sipush 999, 3) := by decide +kernel
theorem dX7_gather_12 : decode cX7_gather 12 = .ok (.invokestatic 61, 3) := by decide +kernel
theorem dX7_gather_15 : decode cX7_gather 15 = .ok (.ifCond .eq 16, 3) := by decide +kernel
theorem dX7_gather_18 : decode cX7_gather 18 = .ok (.iload_n 3, 1) := by decide +kernel
theorem dX7_gather_19 : decode cX7_gather 19 = .ok (.bipush (-9), 2) := by decide +kernel
theorem dX7_gather_21 : decode cX7_gather 21 = .ok (.if_icmp .eq 12, 3) := by decide +kernel
theorem dX7_gather_24 : decode cX7_gather 24 = .ok (.iload_n 3, 1) := by decide +kernel
theorem dX7_gather_25 : decode cX7_gather 25 = .ok (.invokestatic 128, 3) := by decide +kernel
theorem dX7_gather_28 : decode cX7_gather 28 = .ok (.ifCond .ne 5, 3) := by decide +kernel
theorem dX7_gather_31 : decode cX7_gather 31 = .ok (.iconst (-1), 1) := by decide +kernel
theorem dX7_gather_32 : decode cX7_gather 32 = .ok (.ireturn, 1) := by decide +kernel
theorem dX7_gather_33 : decode cX7_gather 33 = .ok (.aload_n 0, 1) := by decide +kernel
theorem dX7_gather_34 : decode cX7_gather 34 = .ok (.invokevirtual 131, 3) := by decide +kernel
theorem dX7_gather_37 : decode cX7_gather 37 = .ok (.aload_n 0, 1) := by decide +kernel
theorem dX7_gather_38 : decode cX7_gather 38 = .ok (.iload_n 1, 1) := by decide +kernel
theorem dX7_gather_39 : decode cX7_gather 39 = .ok (.iload_n 2, 1) := by decide +kernel
theorem dX7_gather_40 : decode cX7_gather 40 = .ok (.iload_n 3, 1) := by decide +kernel
theorem dX7_gather_41 : decode cX7_gather 41 = .ok (.invokevirtual 215, 3) := by decide +kernel
theorem dX7_gather_44 : decode cX7_gather 44 = .ok (.ireturn, 1) := by decide +kernel
set_option maxRecDepth 20000 in
theorem ggX7_canHave_X7_isThing : GoodIn wsX7_canHave wsX7_isThing := goodIn_r _ [4, 5, 6, 3, 7] (by decide +kernel) (by decide +kernel)
set_option maxRecDepth 20000 in
theorem gX7_canHave_X7_isThing : GoodIn wsX7_canHave (va_wsS RX7 128 yX7_isThing wsX7_isThing) := goodIn_app (goodIn_of _ (by decide +kernel)) ggX7_canHave_X7_isThing
set_option maxRecDepth 20000 in
theorem ggX7_canHave_X7_hold : GoodIn wsX7_canHave wsX7_hold := goodIn_r _ [11, 12, 13, 90, 91, 92, 93, 94, 95, 96, 97, 98, 99, 100, 101, 102, 103, 104, 105, 106, 107, 108, 109, 110, 111, 112, 113, 114, 115, 116, 117, 118] (by decide +kernel) (by decide +kernel)
set_option maxRecDepth 20000 in
theorem gX7_canHave_X7_hold : GoodIn wsX7_canHave (wsV RX7 131 RX7 yX7_hold wsX7_hold) := goodIn_app (goodIn_of _ (by decide +kernel)) ggX7_canHave_X7_hold
set_option maxRecDepth 20000 in
theorem ggX7_canHave_X7_tryWish : GoodIn wsX7_canHave wsX7_tryWish := goodIn_r _ [17, 13, 18, 19, 20, 21, 3, 22, 23, 24, 25, 26, 27, 28, 29, 30, 31, 32, 33, 34, 35, 36, 37, 38, 39, 40, 41, 42, 43, 44, 45, 46, 47, 48, 49, 50, 51, 52, 53, 54, 55, 56, 57, 58, 59, 60, 61, 62, 63, 64, 65, 66, 67, 68, 69, 70, 71, 72, 73, 74, 75, 76, 77, 78, 79, 80, 81, 82, 83, 84, 85, 86, 87, 88, 89, 12, 90, 91, 92, 93, 94, 95, 96, 97, 98, 99, 100, 101, 102, 103, 104, 105, 106, 107, 108, 109, 110, 111, 112, 113, 114, 115, 116, 117, 118] (by decide +kernel) (by decide +kernel)
set_option maxRecDepth 20000 in
theorem gX7_canHave_X7_tryWish : GoodIn wsX7_canHave (wsV RX7 215 RX7 yX7_tryWish wsX7_tryWish) := goodIn_app (goodIn_of _ (by decide +kernel)) ggX7_canHave_X7_tryWish
theorem dX7_canHave_0 : decode cX7_canHave 0 = .ok (.iload_n 1, 1) := by decide +kernel
theorem dX7_canHave_1 : decode cX7_canHave 1 = .ok (.invokestatic 128, 3) := by decide +kernel
theorem dX7_canHave_4 : decode cX7_canHave 4 = .ok (.ifCond .ne 5, 3) := by decide +kernel
theorem dX7_canHave_7 : decode cX7_canHave 7 = .ok (.iconst (-1), 1) := by decide +kernel
theorem dX7_canHave_8 : decode cX7_canHave 8 = .ok (.ireturn, 1) := by decide +kernel
theorem dX7_canHave_9 : decode cX7_canHave 9 = .ok (.aload_n 0, 1) := by decide +kernel
theorem dX7_canHave_10 : decode cX7_canHave 10 = .ok (.invokevirtual 131, 3) := by decide +kernel
theorem dX7_canHave_13 : decode cX7_canHave 13 = .ok (.sipush 999, 3) := by decide +kernel
theorem dX7_canHave_16 : decode cX7_canHave 16 = .ok (.istore_n 2, 1) := by decide +kernel
theorem dX7_canHave_17 : decode cX7_canHave 17 = .ok (.iload_n 2, 1) := by decide +kernel
theorem dX7_canHave_18 : decode cX7_canHave 18 = .ok (.ifCond .le 22, 3) := by decide +kernel
theorem dX7_canHave_21 : decode cX7_canHave 21 = .ok (.aload_n 0, 1) := by decide +kernel
theorem dX7_canHave_22 : decode cX7_canHave 22 = .ok (.iload_n 1, 1) := by decide +kernel
theorem dX7_canHave_23 : decode cX7_canHave 23 = .ok (.iload_n 2, 1) := by decide +kernel
theorem dX7_canHave_24 : decode cX7_canHave 24 = .ok (.bipush (-9), 2) := by decide +kernel
theorem dX7_canHave_26 : decode cX7_canHave 26 = .ok (.invokevirtual 215, 3) := by decide +kernel
theorem dX7_canHave_29 : decode cX7_canHave 29 = .ok (.ifCond .ne 5, 3) := by decide +kernel
theorem dX7_canHave_32 : decode cX7_canHave 32 = .ok (.iload_n 2, 1) := by decide +kernel
theorem dX7_canHave_33 : decode cX7_canHave 33 = .ok (.ireturn, 1) := by decide +kernel
theorem dX7_canHave_34 : decode cX7_canHave 34 = .ok (.iinc 2 (-1), 3) := by decide +kernel
theorem dX7_canHave_37 : decode cX7_canHave 37 = .ok (.goto (-20), 3) := by decide +kernel
theorem dX7_canHave_40 : decode cX7_canHave 40 = .ok (.iconst 0, 1) := by decide +kernel
theorem dX7_canHave_41 : decode cX7_canHave 41 = .ok (.ireturn, 1) := by decide +kernel
set_option maxRecDepth 20000 in
theorem ggX7_bestGift_X7_isThing : GoodIn wsX7_bestGift wsX7_isThing := goodIn_r _ [5, 6, 7, 4, 8] (by decide +kernel) (by decide +kernel)
set_option maxRecDepth 20000 in
theorem gX7_bestGift_X7_isThing : GoodIn wsX7_bestGift (va_wsS RX7 128 yX7_isThing wsX7_isThing) := goodIn_app (goodIn_of _ (by decide +kernel)) ggX7_bestGift_X7_isThing
set_option maxRecDepth 20000 in
theorem ggX7_bestGift_X7_isIn : GoodIn wsX7_bestGift wsX7_isIn := goodIn_r _ [8] (by decide +kernel) (by decide +kernel)
set_option maxRecDepth 20000 in
theorem gX7_bestGift_X7_isIn : GoodIn wsX7_bestGift (va_wsS RX7 61 yX7_isIn wsX7_isIn) := goodIn_app (goodIn_of _ (by decide +kernel)) ggX7_bestGift_X7_isIn
set_option maxRecDepth 20000 in
theorem ggX7_bestGift_X7_hold : GoodIn wsX7_bestGift wsX7_hold := goodIn_r _ [12, 13, 14, 90, 91, 92, 93, 94, 95, 96, 97, 98, 99, 100, 101, 102, 103, 104, 105, 106, 107, 108, 109, 110, 111, 112, 113, 114, 115, 116, 117, 118] (by decide +kernel) (by decide +kernel)
set_option maxRecDepth 20000 in
theorem gX7_bestGift_X7_hold : GoodIn wsX7_bestGift (wsV RX7 131 RX7 yX7_hold wsX7_hold) := goodIn_app (goodIn_of _ (by decide +kernel)) ggX7_bestGift_X7_hold
set_option maxRecDepth 20000 in
theorem ggX7_bestGift_X7_tryWish : GoodIn wsX7_bestGift wsX7_tryWish := goodIn_r _ [18, 14, 19, 20, 21, 22, 4, 23, 24, 25, 26, 27, 28, 29, 30, 31, 32, 33, 34, 35, 36, 37, 38, 39, 40, 41, 42, 43, 44, 45, 46, 47, 48, 49, 50, 51, 52, 53, 54, 55, 56, 57, 58, 59, 60, 61, 62, 63, 64, 65, 66, 67, 68, 69, 70, 71, 72, 73, 74, 75, 76, 77, 78, 79, 80, 81, 1, 82, 83, 84, 85, 86, 87, 88, 89, 13, 90, 91, 92, 93, 94, 95, 96, 97, 98, 99, 100, 101, 102, 103, 104, 105, 106, 107, 108, 109, 110, 111, 112, 113, 114, 115, 116, 117, 118] (by decide +kernel) (by decide +kernel)
set_option maxRecDepth 20000 in
theorem gX7_bestGift_X7_tryWish : GoodIn wsX7_bestGift (wsV RX7 215 RX7 yX7_tryWish wsX7_tryWish) := goodIn_app (goodIn_of _ (by decide +kernel)) ggX7_bestGift_X7_tryWish
set_option maxRecDepth 20000 in
theorem ggX7_bestGift_X7_of : GoodIn wsX7_bestGift wsX7_of := goodIn_r _ [33, 14, 90, 91, 92, 93, 94, 95, 96, 97, 98, 99, 100, 101, 102, 103, 104, 105, 106, 107, 108, 109, 110, 111, 112, 113, 114, 115, 116, 117, 118] (by decide +kernel) (by decide +kernel)
set_option maxRecDepth 20000 in
theorem gX7_bestGift_X7_of : GoodIn wsX7_bestGift (wsV RX7 65 RX7 yX7_of wsX7_of) := goodIn_app (goodIn_of _ (by decide +kernel)) ggX7_bestGift_X7_of
set_option maxRecDepth 20000 in
theorem ggX7_bestGift_X7_put : GoodIn wsX7_bestGift wsX7_put := goodIn_r _ [77, 14, 90, 91, 92, 93, 94, 95, 96, 97, 98, 99, 100, 101, 102, 103, 104, 105, 106, 107, 108, 109, 110, 111, 112, 113, 114, 115, 116, 117, 118] (by decide +kernel) (by decide +kernel)
set_option maxRecDepth 20000 in
theorem gX7_bestGift_X7_put : GoodIn wsX7_bestGift (wsV RX7 54 RX7 yX7_put wsX7_put) := goodIn_app (goodIn_of _ (by decide +kernel)) ggX7_bestGift_X7_put
theorem dX7_bestGift_0 : decode cX7_bestGift 0 = .ok (.iload_n 1, 1) := by decide +kernel
theorem dX7_bestGift_1 : decode cX7_bestGift 1 = .ok (.invokestatic 128, 3) := by decide +kernel
theorem dX7_bestGift_4 : decode cX7_bestGift 4 = .ok (.ifCond .eq 14, 3) := by decide +kernel
theorem dX7_bestGift_7 : decode cX7_bestGift 7 = .ok (.iload_n 2, 1) := by decide +kernel
theorem dX7_bestGift_8 : decode cX7_bestGift 8 = .ok (.iconst 1, 1) := by decide +kernel
theorem dX7_bestGift_9 : decode cX7_bestGift 9 = .ok (.sipush 999, 3) := by decide +kernel
theorem dX7_bestGift_12 : decode cX7_bestGift 12 = .ok (.invokestatic 61, 3) := by decide +kernel
theorem dX7_bestGift_15 : decode cX7_bestGift 15 = .ok (.ifCond .ne 5, 3) := by decide +kernel
theorem dX7_bestGift_18 : decode cX7_bestGift 18 = .ok (.iconst (-1), 1) := by decide +kernel
theorem dX7_bestGift_19 : decode cX7_bestGift 19 = .ok (.ireturn, 1) := by decide +kernel
theorem dX7_bestGift_20 : decode cX7_bestGift 20 = .ok (.aload_n 0, 1) := by decide +kernel
theorem dX7_bestGift_21 : decode cX7_bestGift 21 = .ok (.invokevirtual 131, 3) := by decide +kernel
theorem dX7_bestGift_24 : decode cX7_bestGift 24 = .ok (.aload_n 0, 1) := by decide +kernel
theorem dX7_bestGift_25 : decode cX7_bestGift 25 = .ok (.iload_n 1, 1) := by decide +kernel
theorem dX7_bestGift_26 : decode cX7_bestGift 26 = .ok (.iload_n 2, 1) := by decide +kernel
theorem dX7_bestGift_27 : decode cX7_bestGift 27 = .ok (.bipush (-9), 2) := by decide +kernel
theorem dX7_bestGift_29 : decode cX7_bestGift 29 = .ok (.invokevirtual 215, 3) := by decide +kernel
theorem dX7_bestGift_32 : decode cX7_bestGift 32 = .ok (.istore_n 3, 1) := by decide +kernel
theorem dX7_bestGift_33 : decode cX7_bestGift 33 = .ok (.iload_n 3, 1) := by decide +kernel
theorem dX7_bestGift_34 : decode cX7_bestGift 34 = .ok (.bipush (-3), 2) := by decide +kernel
theorem dX7_bestGift_36 : decode cX7_bestGift 36 = .ok (.if_icmp .ne 6, 3) := by decide +kernel
theorem dX7_bestGift_39 : decode cX7_bestGift 39 = .ok (.bipush (-3), 2) := by decide +kernel
theorem dX7_bestGift_41 : decode cX7_bestGift 41 = .ok (.ireturn, 1) := by decide +kernel
theorem dX7_bestGift_42 : decode cX7_bestGift 42 = .ok (.bipush (-9), 2) := by decide +kernel
theorem dX7_bestGift_44 : decode cX7_bestGift 44 = .ok (.istore 4, 2) := by decide +kernel
theorem dX7_bestGift_46 : decode cX7_bestGift 46 = .ok (.iconst 0, 1) := by decide +kernel
theorem dX7_bestGift_47 : decode cX7_bestGift 47 = .ok (.istore 5, 2) := by decide +kernel
theorem dX7_bestGift_49 : decode cX7_bestGift 49 = .ok (.iload 5, 2) := by decide +kernel
theorem dX7_bestGift_51 : decode cX7_bestGift 51 = .ok (.bipush 20, 2) := by decide +kernel
theorem dX7_bestGift_53 : decode cX7_bestGift 53 = .ok (.if_icmp .ge 85, 3) := by decide +kernel
theorem dX7_bestGift_56 : decode cX7_bestGift 56 = .ok (.aload_n 0, 1) := by decide +kernel
theorem dX7_bestGift_57 : decode cX7_bestGift 57 = .ok (.iload 5, 2) := by decide +kernel
theorem dX7_bestGift_59 : decode cX7_bestGift 59 = .ok (.iconst 0, 1) := by decide +kernel
theorem dX7_bestGift_60 : decode cX7_bestGift 60 = .ok (.invokevirtual 65, 3) := by decide +kernel
theorem dX7_bestGift_63 : decode cX7_bestGift 63 = .ok (.ldc 84, 2) := by decide +kernel
theorem dX7_bestGift_65 : decode cX7_bestGift 65 = .ok (.if_icmp .ge 67, 3) := by decide +kernel
theorem dX7_bestGift_68 : decode cX7_bestGift 68 = .ok (.aload_n 0, 1) := by decide +kernel
theorem dX7_bestGift_69 : decode cX7_bestGift 69 = .ok (.iload 5, 2) := by decide +kernel
theorem dX7_bestGift_71 : decode cX7_bestGift 71 = .ok (.iconst 0, 1) := by decide +kernel
theorem dX7_bestGift_72 : decode cX7_bestGift 72 = .ok (.aload_n 0, 1) := by decide +kernel
theorem dX7_bestGift_73 : decode cX7_bestGift 73 = .ok (.iload 5, 2) := by decide +kernel
theorem dX7_bestGift_75 : decode cX7_bestGift 75 = .ok (.iconst 0, 1) := by decide +kernel
theorem dX7_bestGift_76 : decode cX7_bestGift 76 = .ok (.invokevirtual 65, 3) := by decide +kernel
theorem dX7_bestGift_79 : decode cX7_bestGift 79 = .ok (.iconst 1, 1) := by decide +kernel
theorem dX7_bestGift_80 : decode cX7_bestGift 80 = .ok (.iadd, 1) := by decide +kernel
theorem dX7_bestGift_81 : decode cX7_bestGift 81 = .ok (.invokevirtual 54, 3) := by decide +kernel
theorem dX7_bestGift_84 : decode cX7_bestGift 84 = .ok (.aload_n 0, 1) := by decide +kernel
theorem dX7_bestGift_85 : decode cX7_bestGift 85 = .ok (.iload_n 1, 1) := by decide +kernel
theorem dX7_bestGift_86 : decode cX7_bestGift 86 = .ok (.iload_n 2, 1) := by decide +kernel
theorem dX7_bestGift_87 : decode cX7_bestGift 87 = .ok (.bipush (-9), 2) := by decide +kernel
theorem dX7_bestGift_89 : decode cX7_bestGift 89 = .ok (.invokevirtual 215, 3) := by decide +kernel
theorem dX7_bestGift_92 : decode cX7_bestGift 92 = .ok (.istore 6, 2) := by decide +kernel
theorem dX7_bestGift_94 : decode cX7_bestGift 94 = .ok (.iload 6, 2) := by decide +kernel
theorem dX7_bestGift_96 : decode cX7_bestGift 96 = .ok (.ifCond .lt 14, 3) := by decide +kernel
theorem dX7_bestGift_99 : decode cX7_bestGift 99 = .ok (.iload 6, 2) := by decide +kernel
theorem dX7_bestGift_101 : decode cX7_bestGift 101 = .ok (.iload_n 3, 1) := by decide +kernel
theorem dX7_bestGift_102 : decode cX7_bestGift 102 = .ok (.if_icmp .ge 8, 3) := by decide +kernel
theorem dX7_bestGift_105 : decode cX7_bestGift 105 = .ok (.iload 5, 2) := by decide +kernel
theorem dX7_bestGift_107 : decode cX7_bestGift 107 = .ok (.goto 5, 3) := by decide +kernel
theorem dX7_bestGift_110 : decode cX7_bestGift 110 = .ok (.iload 4, 2) := by decide +kernel
theorem dX7_bestGift_112 : decode cX7_bestGift 112 = .ok (.istore 4, 2) := by decide +kernel
theorem dX7_bestGift_114 : decode cX7_bestGift 114 = .ok (.iload 6, 2) := by decide +kernel
theorem dX7_bestGift_116 : decode cX7_bestGift 116 = .ok (.ifCond .lt 14, 3) := by decide +kernel
theorem dX7_bestGift_119 : decode cX7_bestGift 119 = .ok (.iload 6, 2) := by decide +kernel
theorem dX7_bestGift_121 : decode cX7_bestGift 121 = .ok (.iload_n 3, 1) := by decide +kernel
theorem dX7_bestGift_122 : decode cX7_bestGift 122 = .ok (.if_icmp .ge 8, 3) := by decide +kernel
theorem dX7_bestGift_125 : decode cX7_bestGift 125 = .ok (.iload 6, 2) := by decide +kernel
theorem dX7_bestGift_127 : decode cX7_bestGift 127 = .ok (.goto 4, 3) := by decide +kernel
theorem dX7_bestGift_130 : decode cX7_bestGift 130 = .ok (.iload_n 3, 1) := by decide +kernel
theorem dX7_bestGift_131 : decode cX7_bestGift 131 = .ok (.istore_n 3, 1) := by decide +kernel
theorem dX7_bestGift_132 : decode cX7_bestGift 132 = .ok (.iinc 5 1, 3) := by decide +kernel
theorem dX7_bestGift_135 : decode cX7_bestGift 135 = .ok (.goto (-86), 3) := by decide +kernel
theorem dX7_bestGift_138 : decode cX7_bestGift 138 = .ok (.iload 4, 2) := by decide +kernel
theorem dX7_bestGift_140 : decode cX7_bestGift 140 = .ok (.ireturn, 1) := by decide +kernel
set_option maxRecDepth 20000 in
theorem ggX7_isImage_X7_isIn : GoodIn wsX7_isImage wsX7_isIn := goodIn_r _ [4] (by decide +kernel) (by decide +kernel)
set_option maxRecDepth 20000 in
theorem gX7_isImage_X7_isIn : GoodIn wsX7_isImage (va_wsS RX7 61 yX7_isIn wsX7_isIn) := goodIn_app (goodIn_of _ (by decide +kernel)) ggX7_isImage_X7_isIn
theorem dX7_isImage_0 : decode cX7_isImage 0 = .ok (.iload_n 0, 1) := by decide +kernel
theorem dX7_isImage_1 : decode cX7_isImage 1 = .ok (.iconst 0, 1) := by decide +kernel
theorem dX7_isImage_2 : decode cX7_isImage 2 = .ok (.iconst 1, 1) := by decide +kernel
theorem dX7_isImage_3 : decode cX7_isImage 3 = .ok (.invokestatic 61, 3) := by decide +kernel
theorem dX7_isImage_6 : decode cX7_isImage 6 = .ok (.ireturn, 1) := by decide +kernel
set_option maxRecDepth 20000 in
theorem ggX7_keep_X7_isImage : GoodIn wsX7_keep wsX7_isImage := goodIn_r _ [7, 8, 9, 6, 10] (by decide +kernel) (by decide +kernel)
set_option maxRecDepth 20000 in
theorem gX7_keep_X7_isImage : GoodIn wsX7_keep (va_wsS RX7 219 yX7_isImage wsX7_isImage) := goodIn_app (goodIn_of _ (by decide +kernel)) ggX7_keep_X7_isImage
set_option maxRecDepth 20000 in
theorem ggX7_keep_X7_recipes : GoodIn wsX7_keep wsX7_recipes := goodIn_r _ [14, 15, 16, 17, 6, 18, 19, 20, 21, 22, 2, 23, 24, 25, 26, 27, 28, 29, 30, 31, 32, 33, 34, 35, 36, 37, 38, 39, 40, 41, 42, 43, 44, 45, 46, 47, 48, 49, 50, 51] (by decide +kernel) (by decide +kernel)
set_option maxRecDepth 20000 in
theorem gX7_keep_X7_recipes : GoodIn wsX7_keep (wsV RX7 200 RX7 yX7_recipes wsX7_recipes) := goodIn_app (goodIn_of _ (by decide +kernel)) ggX7_keep_X7_recipes
theorem dX7_keep_0 : decode cX7_keep 0 = .ok (.iload_n 1, 1) := by decide +kernel
theorem dX7_keep_1 : decode cX7_keep 1 = .ok (.invokestatic 219, 3) := by decide +kernel
theorem dX7_keep_4 : decode cX7_keep 4 = .ok (.ifCond .ne 5, 3) := by decide +kernel
theorem dX7_keep_7 : decode cX7_keep 7 = .ok (.iconst (-1), 1) := by decide +kernel
theorem dX7_keep_8 : decode cX7_keep 8 = .ok (.ireturn, 1) := by decide +kernel
theorem dX7_keep_9 : decode cX7_keep 9 = .ok (.iconst 0, 1) := by decide +kernel
theorem dX7_keep_10 : decode cX7_keep 10 = .ok (.istore_n 2, 1) := by decide +kernel
theorem dX7_keep_11 : decode cX7_keep 11 = .ok (.iload_n 2, 1) := by decide +kernel
theorem dX7_keep_12 : decode cX7_keep 12 = .ok (.sipush 462, 3) := by decide +kernel
theorem dX7_keep_15 : decode cX7_keep 15 = .ok (.if_icmp .ge 27, 3) := by decide +kernel
theorem dX7_keep_18 : decode cX7_keep 18 = .ok (.aload_n 0, 1) := by decide +kernel
theorem dX7_keep_19 : decode cX7_keep 19 = .ok (.getfield 16, 3) := by decide +kernel
theorem dX7_keep_22 : decode cX7_keep 22 = .ok (.sipush 462, 3) := by decide +kernel
theorem dX7_keep_25 : decode cX7_keep 25 = .ok (.iload_n 1, 1) := by decide +kernel
theorem dX7_keep_26 : decode cX7_keep 26 = .ok (.imul, 1) := by decide +kernel
theorem dX7_keep_27 : decode cX7_keep 27 = .ok (.iload_n 2, 1) := by decide +kernel
theorem dX7_keep_28 : decode cX7_keep 28 = .ok (.iadd, 1) := by decide +kernel
theorem dX7_keep_29 : decode cX7_keep 29 = .ok (.aload_n 0, 1) := by decide +kernel
theorem dX7_keep_30 : decode cX7_keep 30 = .ok (.getfield 7, 3) := by decide +kernel
theorem dX7_keep_33 : decode cX7_keep 33 = .ok (.iload_n 2, 1) := by decide +kernel
theorem dX7_keep_34 : decode cX7_keep 34 = .ok (.iaload, 1) := by decide +kernel
theorem dX7_keep_35 : decode cX7_keep 35 = .ok (.iastore, 1) := by decide +kernel
theorem dX7_keep_36 : decode cX7_keep 36 = .ok (.iinc 2 1, 3) := by decide +kernel
theorem dX7_keep_39 : decode cX7_keep 39 = .ok (.goto (-28), 3) := by decide +kernel
theorem dX7_keep_42 : decode cX7_keep 42 = .ok (.aload_n 0, 1) := by decide +kernel
theorem dX7_keep_43 : decode cX7_keep 43 = .ok (.dup, 1) := by decide +kernel
theorem dX7_keep_44 : decode cX7_keep 44 = .ok (.getfield 222, 3) := by decide +kernel
theorem dX7_keep_47 : decode cX7_keep 47 = .ok (.iconst 1, 1) := by decide +kernel
theorem dX7_keep_48 : decode cX7_keep 48 = .ok (.iload_n 1, 1) := by decide +kernel
theorem dX7_keep_49 : decode cX7_keep 49 = .ok (.ishl, 1) := by decide +kernel
theorem dX7_keep_50 : decode cX7_keep 50 = .ok (.ior, 1) := by decide +kernel
theorem dX7_keep_51 : decode cX7_keep 51 = .ok (.putfield 222, 3) := by decide +kernel
theorem dX7_keep_54 : decode cX7_keep 54 = .ok (.aload_n 0, 1) := by decide +kernel
theorem dX7_keep_55 : decode cX7_keep 55 = .ok (.invokevirtual 200, 3) := by decide +kernel
theorem dX7_keep_58 : decode cX7_keep 58 = .ok (.ireturn, 1) := by decide +kernel
set_option maxRecDepth 20000 in
theorem ggX7_back_X7_isImage : GoodIn wsX7_back wsX7_isImage := goodIn_r _ [7, 8, 9, 6, 10] (by decide +kernel) (by decide +kernel)
set_option maxRecDepth 20000 in
theorem gX7_back_X7_isImage : GoodIn wsX7_back (va_wsS RX7 219 yX7_isImage wsX7_isImage) := goodIn_app (goodIn_of _ (by decide +kernel)) ggX7_back_X7_isImage
set_option maxRecDepth 20000 in
theorem ggX7_back_X7_remember : GoodIn wsX7_back wsX7_remember := goodIn_r _ [14, 15, 16, 2, 29, 30, 31, 32, 33, 34, 35, 36, 37, 38, 39, 40, 41, 42, 43, 44, 45, 46, 47, 48, 49, 50, 51, 52, 53, 54, 55, 56, 57] (by decide +kernel) (by decide +kernel)
set_option maxRecDepth 20000 in
theorem gX7_back_X7_remember : GoodIn wsX7_back (wsV RX7 125 RX7 yX7_remember wsX7_remember) := goodIn_app (goodIn_of _ (by decide +kernel)) ggX7_back_X7_remember
set_option maxRecDepth 20000 in
theorem ggX7_back_X7_recipes : GoodIn wsX7_back wsX7_recipes := goodIn_r _ [20, 21, 22, 23, 6, 24, 25, 26, 27, 28, 2, 29, 30, 31, 32, 33, 34, 35, 36, 37, 38, 39, 40, 41, 42, 43, 44, 45, 46, 47, 48, 49, 50, 51, 52, 53, 54, 55, 56, 57] (by decide +kernel) (by decide +kernel)
set_option maxRecDepth 20000 in
theorem gX7_back_X7_recipes : GoodIn wsX7_back (wsV RX7 200 RX7 yX7_recipes wsX7_recipes) := goodIn_app (goodIn_of _ (by decide +kernel)) ggX7_back_X7_recipes
theorem dX7_back_0 : decode cX7_back 0 = .ok (.iload_n 1, 1) := by decide +kernel
theorem dX7_back_1 : decode cX7_back 1 = .ok (.invokestatic 219, 3) := by decide +kernel
theorem dX7_back_4 : decode cX7_back 4 = .ok (.ifCond .ne 5, 3) := by decide +kernel
theorem dX7_back_7 : decode cX7_back 7 = .ok (.iconst (-1), 1) := by decide +kernel
theorem dX7_back_8 : decode cX7_back 8 = .ok (.ireturn, 1) := by decide +kernel
theorem dX7_back_9 : decode cX7_back 9 = .ok (.aload_n 0, 1) := by decide +kernel
theorem dX7_back_10 : decode cX7_back 10 = .ok (.getfield 222, 3) := by decide +kernel
theorem dX7_back_13 : decode cX7_back 13 = .ok (.iload_n 1, 1) := by decide +kernel
theorem dX7_back_14 : decode cX7_back 14 = .ok (.ishr, 1) := by decide +kernel
theorem dX7_back_15 : decode cX7_back 15 = .ok (.iconst 1, 1) := by decide +kernel
theorem dX7_back_16 : decode cX7_back 16 = .ok (.iand, 1) := by decide +kernel
theorem dX7_back_17 : decode cX7_back 17 = .ok (.ifCond .ne 6, 3) := by decide +kernel
theorem dX7_back_20 : decode cX7_back 20 = .ok (.bipush (-2), 2) := by decide +kernel
theorem dX7_back_22 : decode cX7_back 22 = .ok (.ireturn, 1) := by decide +kernel
theorem dX7_back_23 : decode cX7_back 23 = .ok (.aload_n 0, 1) := by decide +kernel
theorem dX7_back_24 : decode cX7_back 24 = .ok (.invokevirtual 125, 3) := by decide +kernel
theorem dX7_back_27 : decode cX7_back 27 = .ok (.iconst 0, 1) := by decide +kernel
theorem dX7_back_28 : decode cX7_back 28 = .ok (.istore_n 2, 1) := by decide +kernel
theorem dX7_back_29 : decode cX7_back 29 = .ok (.iload_n 2, 1) := by decide +kernel
theorem dX7_back_30 : decode cX7_back 30 = .ok (.sipush 462, 3) := by decide +kernel
theorem dX7_back_33 : decode cX7_back 33 = .ok (.if_icmp .ge 27, 3) := by decide +kernel
theorem dX7_back_36 : decode cX7_back 36 = .ok (.aload_n 0, 1) := by decide +kernel
theorem dX7_back_37 : decode cX7_back 37 = .ok (.getfield 7, 3) := by decide +kernel
theorem dX7_back_40 : decode cX7_back 40 = .ok (.iload_n 2, 1) := by decide +kernel
theorem dX7_back_41 : decode cX7_back 41 = .ok (.aload_n 0, 1) := by decide +kernel
theorem dX7_back_42 : decode cX7_back 42 = .ok (.getfield 16, 3) := by decide +kernel
theorem dX7_back_45 : decode cX7_back 45 = .ok (.sipush 462, 3) := by decide +kernel
theorem dX7_back_48 : decode cX7_back 48 = .ok (.iload_n 1, 1) := by decide +kernel
theorem dX7_back_49 : decode cX7_back 49 = .ok (.imul, 1) := by decide +kernel
theorem dX7_back_50 : decode cX7_back 50 = .ok (.iload_n 2, 1) := by decide +kernel
theorem dX7_back_51 : decode cX7_back 51 = .ok (.iadd, 1) := by decide +kernel
theorem dX7_back_52 : decode cX7_back 52 = .ok (.iaload, 1) := by decide +kernel
theorem dX7_back_53 : decode cX7_back 53 = .ok (.iastore, 1) := by decide +kernel
theorem dX7_back_54 : decode cX7_back 54 = .ok (.iinc 2 1, 3) := by decide +kernel
theorem dX7_back_57 : decode cX7_back 57 = .ok (.goto (-28), 3) := by decide +kernel
theorem dX7_back_60 : decode cX7_back 60 = .ok (.aload_n 0, 1) := by decide +kernel
theorem dX7_back_61 : decode cX7_back 61 = .ok (.invokevirtual 200, 3) := by decide +kernel
theorem dX7_back_64 : decode cX7_back 64 = .ok (.ireturn, 1) := by decide +kernel
theorem dJ6_bitCount_0f7a4_0 : decode cJ6_bitCount_0f7a4 0 = .ok (.iload_n 0, 1) := by decide +kernel
theorem dJ6_bitCount_0f7a4_1 : decode cJ6_bitCount_0f7a4 1 = .ok (.iload_n 0, 1) := by decide +kernel
theorem dJ6_bitCount_0f7a4_2 : decode cJ6_bitCount_0f7a4 2 = .ok (.iconst 1, 1) := by decide +kernel
theorem dJ6_bitCount_0f7a4_3 : decode cJ6_bitCount_0f7a4 3 = .ok (.iushr, 1) := by decide +kernel
theorem dJ6_bitCount_0f7a4_4 : decode cJ6_bitCount_0f7a4 4 = .ok (.ldc_w 265, 3) := by decide +kernel
theorem dJ6_bitCount_0f7a4_7 : decode cJ6_bitCount_0f7a4 7 = .ok (.iand, 1) := by decide +kernel
theorem dJ6_bitCount_0f7a4_8 : decode cJ6_bitCount_0f7a4 8 = .ok (.isub, 1) := by decide +kernel
theorem dJ6_bitCount_0f7a4_9 : decode cJ6_bitCount_0f7a4 9 = .ok (.istore_n 0, 1) := by decide +kernel
theorem dJ6_bitCount_0f7a4_10 : decode cJ6_bitCount_0f7a4 10 = .ok (.iload_n 0, 1) := by decide +kernel
theorem dJ6_bitCount_0f7a4_11 : decode cJ6_bitCount_0f7a4 11 = .ok (.ldc_w 266, 3) := by decide +kernel
theorem dJ6_bitCount_0f7a4_14 : decode cJ6_bitCount_0f7a4 14 = .ok (.iand, 1) := by decide +kernel
theorem dJ6_bitCount_0f7a4_15 : decode cJ6_bitCount_0f7a4 15 = .ok (.iload_n 0, 1) := by decide +kernel
theorem dJ6_bitCount_0f7a4_16 : decode cJ6_bitCount_0f7a4 16 = .ok (.iconst 2, 1) := by decide +kernel
theorem dJ6_bitCount_0f7a4_17 : decode cJ6_bitCount_0f7a4 17 = .ok (.iushr, 1) := by decide +kernel
theorem dJ6_bitCount_0f7a4_18 : decode cJ6_bitCount_0f7a4 18 = .ok (.ldc_w 266, 3) := by decide +kernel
theorem dJ6_bitCount_0f7a4_21 : decode cJ6_bitCount_0f7a4 21 = .ok (.iand, 1) := by decide +kernel
theorem dJ6_bitCount_0f7a4_22 : decode cJ6_bitCount_0f7a4 22 = .ok (.iadd, 1) := by decide +kernel
theorem dJ6_bitCount_0f7a4_23 : decode cJ6_bitCount_0f7a4 23 = .ok (.istore_n 0, 1) := by decide +kernel
theorem dJ6_bitCount_0f7a4_24 : decode cJ6_bitCount_0f7a4 24 = .ok (.iload_n 0, 1) := by decide +kernel
theorem dJ6_bitCount_0f7a4_25 : decode cJ6_bitCount_0f7a4 25 = .ok (.iload_n 0, 1) := by decide +kernel
theorem dJ6_bitCount_0f7a4_26 : decode cJ6_bitCount_0f7a4 26 = .ok (.iconst 4, 1) := by decide +kernel
theorem dJ6_bitCount_0f7a4_27 : decode cJ6_bitCount_0f7a4 27 = .ok (.iushr, 1) := by decide +kernel
theorem dJ6_bitCount_0f7a4_28 : decode cJ6_bitCount_0f7a4 28 = .ok (.iadd, 1) := by decide +kernel
theorem dJ6_bitCount_0f7a4_29 : decode cJ6_bitCount_0f7a4 29 = .ok (.ldc_w 267, 3) := by decide +kernel
theorem dJ6_bitCount_0f7a4_32 : decode cJ6_bitCount_0f7a4 32 = .ok (.iand, 1) := by decide +kernel
theorem dJ6_bitCount_0f7a4_33 : decode cJ6_bitCount_0f7a4 33 = .ok (.istore_n 0, 1) := by decide +kernel
theorem dJ6_bitCount_0f7a4_34 : decode cJ6_bitCount_0f7a4 34 = .ok (.iload_n 0, 1) := by decide +kernel
theorem dJ6_bitCount_0f7a4_35 : decode cJ6_bitCount_0f7a4 35 = .ok (.iload_n 0, 1) := by decide +kernel
theorem dJ6_bitCount_0f7a4_36 : decode cJ6_bitCount_0f7a4 36 = .ok (.bipush 8, 2) := by decide +kernel
theorem dJ6_bitCount_0f7a4_38 : decode cJ6_bitCount_0f7a4 38 = .ok (.iushr, 1) := by decide +kernel
theorem dJ6_bitCount_0f7a4_39 : decode cJ6_bitCount_0f7a4 39 = .ok (.iadd, 1) := by decide +kernel
theorem dJ6_bitCount_0f7a4_40 : decode cJ6_bitCount_0f7a4 40 = .ok (.istore_n 0, 1) := by decide +kernel
theorem dJ6_bitCount_0f7a4_41 : decode cJ6_bitCount_0f7a4 41 = .ok (.iload_n 0, 1) := by decide +kernel
theorem dJ6_bitCount_0f7a4_42 : decode cJ6_bitCount_0f7a4 42 = .ok (.iload_n 0, 1) := by decide +kernel
theorem dJ6_bitCount_0f7a4_43 : decode cJ6_bitCount_0f7a4 43 = .ok (.bipush 16, 2) := by decide +kernel
theorem dJ6_bitCount_0f7a4_45 : decode cJ6_bitCount_0f7a4 45 = .ok (.iushr, 1) := by decide +kernel
theorem dJ6_bitCount_0f7a4_46 : decode cJ6_bitCount_0f7a4 46 = .ok (.iadd, 1) := by decide +kernel
theorem dJ6_bitCount_0f7a4_47 : decode cJ6_bitCount_0f7a4 47 = .ok (.istore_n 0, 1) := by decide +kernel
theorem dJ6_bitCount_0f7a4_48 : decode cJ6_bitCount_0f7a4 48 = .ok (.iload_n 0, 1) := by decide +kernel
theorem dJ6_bitCount_0f7a4_49 : decode cJ6_bitCount_0f7a4 49 = .ok (.bipush 63, 2) := by decide +kernel
theorem dJ6_bitCount_0f7a4_51 : decode cJ6_bitCount_0f7a4 51 = .ok (.iand, 1) := by decide +kernel
theorem dJ6_bitCount_0f7a4_52 : decode cJ6_bitCount_0f7a4 52 = .ok (.ireturn, 1) := by decide +kernel
theorem dJ9_floorMod_7cf53_0 : decode cJ9_floorMod_7cf53 0 = .ok (.iload_n 0, 1) := by decide +kernel
theorem dJ9_floorMod_7cf53_1 : decode cJ9_floorMod_7cf53 1 = .ok (.iload_n 1, 1) := by decide +kernel
theorem dJ9_floorMod_7cf53_2 : decode cJ9_floorMod_7cf53 2 = .ok (.irem, 1) := by decide +kernel
theorem dJ9_floorMod_7cf53_3 : decode cJ9_floorMod_7cf53 3 = .ok (.istore_n 2, 1) := by decide +kernel
theorem dJ9_floorMod_7cf53_4 : decode cJ9_floorMod_7cf53 4 = .ok (.iload_n 0, 1) := by decide +kernel
theorem dJ9_floorMod_7cf53_5 : decode cJ9_floorMod_7cf53 5 = .ok (.iload_n 1, 1) := by decide +kernel
theorem dJ9_floorMod_7cf53_6 : decode cJ9_floorMod_7cf53 6 = .ok (.ixor, 1) := by decide +kernel
theorem dJ9_floorMod_7cf53_7 : decode cJ9_floorMod_7cf53 7 = .ok (.ifCond .ge 11, 3) := by decide +kernel
theorem dJ9_floorMod_7cf53_10 : decode cJ9_floorMod_7cf53 10 = .ok (.iload_n 2, 1) := by decide +kernel
theorem dJ9_floorMod_7cf53_11 : decode cJ9_floorMod_7cf53 11 = .ok (.ifCond .eq 7, 3) := by decide +kernel
theorem dJ9_floorMod_7cf53_14 : decode cJ9_floorMod_7cf53 14 = .ok (.iload_n 2, 1) := by decide +kernel
theorem dJ9_floorMod_7cf53_15 : decode cJ9_floorMod_7cf53 15 = .ok (.iload_n 1, 1) := by decide +kernel
theorem dJ9_floorMod_7cf53_16 : decode cJ9_floorMod_7cf53 16 = .ok (.iadd, 1) := by decide +kernel
theorem dJ9_floorMod_7cf53_17 : decode cJ9_floorMod_7cf53 17 = .ok (.ireturn, 1) := by decide +kernel
theorem dJ9_floorMod_7cf53_18 : decode cJ9_floorMod_7cf53 18 = .ok (.iload_n 2, 1) := by decide +kernel
theorem dJ9_floorMod_7cf53_19 : decode cJ9_floorMod_7cf53 19 = .ok (.ireturn, 1) := by decide +kernel
theorem dJ9_max_7cf53_0 : decode cJ9_max_7cf53 0 = .ok (.iload_n 0, 1) := by decide +kernel
theorem dJ9_max_7cf53_1 : decode cJ9_max_7cf53 1 = .ok (.iload_n 1, 1) := by decide +kernel
theorem dJ9_max_7cf53_2 : decode cJ9_max_7cf53 2 = .ok (.if_icmp .lt 7, 3) := by decide +kernel
theorem dJ9_max_7cf53_5 : decode cJ9_max_7cf53 5 = .ok (.iload_n 0, 1) := by decide +kernel
theorem dJ9_max_7cf53_6 : decode cJ9_max_7cf53 6 = .ok (.goto 4, 3) := by decide +kernel
theorem dJ9_max_7cf53_9 : decode cJ9_max_7cf53 9 = .ok (.iload_n 1, 1) := by decide +kernel
theorem dJ9_max_7cf53_10 : decode cJ9_max_7cf53 10 = .ok (.ireturn, 1) := by decide +kernel
theorem dJ9_min_7cf53_0 : decode cJ9_min_7cf53 0 = .ok (.iload_n 0, 1) := by decide +kernel
theorem dJ9_min_7cf53_1 : decode cJ9_min_7cf53 1 = .ok (.iload_n 1, 1) := by decide +kernel
theorem dJ9_min_7cf53_2 : decode cJ9_min_7cf53 2 = .ok (.if_icmp .gt 7, 3) := by decide +kernel
theorem dJ9_min_7cf53_5 : decode cJ9_min_7cf53 5 = .ok (.iload_n 0, 1) := by decide +kernel
theorem dJ9_min_7cf53_6 : decode cJ9_min_7cf53 6 = .ok (.goto 4, 3) := by decide +kernel
theorem dJ9_min_7cf53_9 : decode cJ9_min_7cf53 9 = .ok (.iload_n 1, 1) := by decide +kernel
theorem dJ9_min_7cf53_10 : decode cJ9_min_7cf53 10 = .ok (.ireturn, 1) := by decide +kernel
theorem dJ7_fill_53178_0 : decode cJ7_fill_53178 0 = .ok (.iconst 0, 1) := by decide +kernel
theorem dJ7_fill_53178_1 : decode cJ7_fill_53178 1 = .ok (.istore_n 2, 1) := by decide +kernel
theorem dJ7_fill_53178_2 : decode cJ7_fill_53178 2 = .ok (.aload_n 0, 1) := by decide +kernel
theorem dJ7_fill_53178_3 : decode cJ7_fill_53178 3 = .ok (.arraylength, 1) := by decide +kernel
theorem dJ7_fill_53178_4 : decode cJ7_fill_53178 4 = .ok (.istore_n 3, 1) := by decide +kernel
theorem dJ7_fill_53178_5 : decode cJ7_fill_53178 5 = .ok (.iload_n 2, 1) := by decide +kernel
theorem dJ7_fill_53178_6 : decode cJ7_fill_53178 6 = .ok (.iload_n 3, 1) := by decide +kernel
theorem dJ7_fill_53178_7 : decode cJ7_fill_53178 7 = .ok (.if_icmp .ge 13, 3) := by decide +kernel
theorem dJ7_fill_53178_10 : decode cJ7_fill_53178 10 = .ok (.aload_n 0, 1) := by decide +kernel
theorem dJ7_fill_53178_11 : decode cJ7_fill_53178 11 = .ok (.iload_n 2, 1) := by decide +kernel
theorem dJ7_fill_53178_12 : decode cJ7_fill_53178 12 = .ok (.iload_n 1, 1) := by decide +kernel
theorem dJ7_fill_53178_13 : decode cJ7_fill_53178 13 = .ok (.iastore, 1) := by decide +kernel
theorem dJ7_fill_53178_14 : decode cJ7_fill_53178 14 = .ok (.iinc 2 1, 3) := by decide +kernel
theorem dJ7_fill_53178_17 : decode cJ7_fill_53178 17 = .ok (.goto (-12), 3) := by decide +kernel
theorem dJ7_fill_53178_20 : decode cJ7_fill_53178 20 = .ok (.return_, 1) := by decide +kernel
