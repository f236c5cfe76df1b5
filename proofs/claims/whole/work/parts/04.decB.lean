set_option maxRecDepth 20000 in
theorem ggX9_init_X4_init : GoodIn wsX9_init wsX4_init := goodIn_r _ [34, 35, 2, 3, 36, 37, 76, 77] (by decide +kernel) (by decide +kernel)
set_option maxRecDepth 20000 in
theorem gX9_init_X4_init_n9 : GoodIn wsX9_init (wsX4_init) := ggX9_init_X4_init
set_option maxRecDepth 20000 in
theorem ggX9_init_X0_init : GoodIn wsX9_init wsX0_init := goodIn_r _ [39, 40, 2, 3, 36, 41, 42, 43, 44, 90, 91, 92, 93] (by decide +kernel) (by decide +kernel)
set_option maxRecDepth 20000 in
theorem gX9_init_X0_init_n24 : GoodIn wsX9_init (wsX0_init) := ggX9_init_X0_init
set_option maxRecDepth 20000 in
theorem ggX9_init_X6_init : GoodIn wsX9_init wsX6_init := goodIn_r _ [46, 47, 2, 3, 36, 48, 49, 50, 94, 95, 96, 97, 98, 99] (by decide +kernel) (by decide +kernel)
set_option maxRecDepth 20000 in
theorem gX9_init_X6_init_n31 : GoodIn wsX9_init (wsX6_init) := ggX9_init_X6_init
set_option maxRecDepth 20000 in
theorem ggX9_init_X8_init : GoodIn wsX9_init wsX8_init := goodIn_r _ [52, 53, 2, 3, 36, 54, 55, 56, 57, 58, 100, 101, 102, 103, 104, 105, 106] (by decide +kernel) (by decide +kernel)
set_option maxRecDepth 20000 in
theorem gX9_init_X8_init_n38 : GoodIn wsX9_init (wsX8_init) := ggX9_init_X8_init
set_option maxRecDepth 20000 in
theorem ggX9_init_X1_init : GoodIn wsX9_init wsX1_init := goodIn_r _ [60, 61, 2, 3, 36, 62, 63, 107, 108, 109, 110, 111] (by decide +kernel) (by decide +kernel)
set_option maxRecDepth 20000 in
theorem gX9_init_X1_init_n45 : GoodIn wsX9_init (wsX1_init) := ggX9_init_X1_init
set_option maxRecDepth 20000 in
theorem ggX9_init_X3_init : GoodIn wsX9_init wsX3_init := goodIn_r _ [65, 66, 2, 3, 36, 67, 68, 69, 70, 112, 113, 114, 115, 116, 117] (by decide +kernel) (by decide +kernel)
set_option maxRecDepth 20000 in
theorem gX9_init_X3_init_n52 : GoodIn wsX9_init (wsX3_init) := ggX9_init_X3_init
set_option maxRecDepth 20000 in
theorem ggX9_init_X5_init : GoodIn wsX9_init wsX5_init := goodIn_r _ [72, 73, 2, 3, 74, 75, 118, 119] (by decide +kernel) (by decide +kernel)
set_option maxRecDepth 20000 in
theorem gX9_init_X5_init_n60 : GoodIn wsX9_init (wsX5_init) := ggX9_init_X5_init
theorem dX9_init_0 : decode cX9_init 0 = .ok (.aload_n 0, 1) := by decide +kernel
theorem dX9_init_1 : decode cX9_init 1 = .ok (.invokespecial 1, 3) := by decide +kernel
theorem dX9_init_4 : decode cX9_init 4 = .ok (.aload_n 0, 1) := by decide +kernel
theorem dX9_init_5 : decode cX9_init 5 = .ok (.new 7, 3) := by decide +kernel
theorem dX9_init_8 : decode cX9_init 8 = .ok (.dup, 1) := by decide +kernel
theorem dX9_init_9 : decode cX9_init 9 = .ok (.invokespecial 9, 3) := by decide +kernel
theorem dX9_init_12 : decode cX9_init 12 = .ok (.putfield 10, 3) := by decide +kernel
theorem dX9_init_15 : decode cX9_init 15 = .ok (.aload_n 0, 1) := by decide +kernel
theorem dX9_init_16 : decode cX9_init 16 = .ok (.iconst 5, 1) := by decide +kernel
theorem dX9_init_17 : decode cX9_init 17 = .ok (.anewarray 16, 3) := by decide +kernel
theorem dX9_init_20 : decode cX9_init 20 = .ok (.putfield 18, 3) := by decide +kernel
theorem dX9_init_23 : decode cX9_init 23 = .ok (.aload_n 0, 1) := by decide +kernel
theorem dX9_init_24 : decode cX9_init 24 = .ok (.new 22, 3) := by decide +kernel
theorem dX9_init_27 : decode cX9_init 27 = .ok (.dup, 1) := by decide +kernel
theorem dX9_init_28 : decode cX9_init 28 = .ok (.invokespecial 24, 3) := by decide +kernel
theorem dX9_init_31 : decode cX9_init 31 = .ok (.putfield 25, 3) := by decide +kernel
theorem dX9_init_34 : decode cX9_init 34 = .ok (.aload_n 0, 1) := by decide +kernel
theorem dX9_init_35 : decode cX9_init 35 = .ok (.new 29, 3) := by decide +kernel
theorem dX9_init_38 : decode cX9_init 38 = .ok (.dup, 1) := by decide +kernel
theorem dX9_init_39 : decode cX9_init 39 = .ok (.invokespecial 31, 3) := by decide +kernel
theorem dX9_init_42 : decode cX9_init 42 = .ok (.putfield 32, 3) := by decide +kernel
theorem dX9_init_45 : decode cX9_init 45 = .ok (.aload_n 0, 1) := by decide +kernel
theorem dX9_init_46 : decode cX9_init 46 = .ok (.new 36, 3) := by decide +kernel
theorem dX9_init_49 : decode cX9_init 49 = .ok (.dup, 1) := by decide +kernel
theorem dX9_init_50 : decode cX9_init 50 = .ok (.invokespecial 38, 3) := by decide +kernel
theorem dX9_init_53 : decode cX9_init 53 = .ok (.putfield 39, 3) := by decide +kernel
theorem dX9_init_56 : decode cX9_init 56 = .ok (.aload_n 0, 1) := by decide +kernel
theorem dX9_init_57 : decode cX9_init 57 = .ok (.new 43, 3) := by decide +kernel
theorem dX9_init_60 : decode cX9_init 60 = .ok (.dup, 1) := by decide +kernel
theorem dX9_init_61 : decode cX9_init 61 = .ok (.invokespecial 45, 3) := by decide +kernel
theorem dX9_init_64 : decode cX9_init 64 = .ok (.putfield 46, 3) := by decide +kernel
theorem dX9_init_67 : decode cX9_init 67 = .ok (.aload_n 0, 1) := by decide +kernel
theorem dX9_init_68 : decode cX9_init 68 = .ok (.new 50, 3) := by decide +kernel
theorem dX9_init_71 : decode cX9_init 71 = .ok (.dup, 1) := by decide +kernel
theorem dX9_init_72 : decode cX9_init 72 = .ok (.invokespecial 52, 3) := by decide +kernel
theorem dX9_init_75 : decode cX9_init 75 = .ok (.putfield 53, 3) := by decide +kernel
theorem dX9_init_78 : decode cX9_init 78 = .ok (.aload_n 0, 1) := by decide +kernel
theorem dX9_init_79 : decode cX9_init 79 = .ok (.new 50, 3) := by decide +kernel
theorem dX9_init_82 : decode cX9_init 82 = .ok (.dup, 1) := by decide +kernel
theorem dX9_init_83 : decode cX9_init 83 = .ok (.invokespecial 52, 3) := by decide +kernel
theorem dX9_init_86 : decode cX9_init 86 = .ok (.putfield 57, 3) := by decide +kernel
theorem dX9_init_89 : decode cX9_init 89 = .ok (.iconst 0, 1) := by decide +kernel
theorem dX9_init_90 : decode cX9_init 90 = .ok (.istore_n 1, 1) := by decide +kernel
theorem dX9_init_91 : decode cX9_init 91 = .ok (.iload_n 1, 1) := by decide +kernel
theorem dX9_init_92 : decode cX9_init 92 = .ok (.iconst 5, 1) := by decide +kernel
theorem dX9_init_93 : decode cX9_init 93 = .ok (.if_icmp .ge 22, 3) := by decide +kernel
theorem dX9_init_96 : decode cX9_init 96 = .ok (.aload_n 0, 1) := by decide +kernel
theorem dX9_init_97 : decode cX9_init 97 = .ok (.getfield 18, 3) := by decide +kernel
theorem dX9_init_100 : decode cX9_init 100 = .ok (.iload_n 1, 1) := by decide +kernel
theorem dX9_init_101 : decode cX9_init 101 = .ok (.new 16, 3) := by decide +kernel
theorem dX9_init_104 : decode cX9_init 104 = .ok (.dup, 1) := by decide +kernel
theorem dX9_init_105 : decode cX9_init 105 = .ok (.invokespecial 60, 3) := by decide +kernel
theorem dX9_init_108 : decode cX9_init 108 = .ok (.aastore, 1) := by decide +kernel
theorem dX9_init_109 : decode cX9_init 109 = .ok (.iinc 1 1, 3) := by decide +kernel
theorem dX9_init_112 : decode cX9_init 112 = .ok (.goto (-21), 3) := by decide +kernel
theorem dX9_init_115 : decode cX9_init 115 = .ok (.return_, 1) := by decide +kernel
set_option maxRecDepth 20000 in
theorem ggX9_letters_X4_add : GoodIn wsX9_letters wsX4_add := goodIn_r _ [6, 7, 8, 9, 10, 5, 11, 12, 13, 14, 15, 28, 29] (by decide +kernel) (by decide +kernel)
set_option maxRecDepth 20000 in
theorem gX9_letters_X4_add : GoodIn wsX9_letters (wsV RX9 61 RX4 yX4_add wsX4_add) := goodIn_app (goodIn_of _ (by decide +kernel)) ggX9_letters_X4_add
theorem dX9_letters_0 : decode cX9_letters 0 = .ok (.aload_n 0, 1) := by decide +kernel
theorem dX9_letters_1 : decode cX9_letters 1 = .ok (.getfield 10, 3) := by decide +kernel
theorem dX9_letters_4 : decode cX9_letters 4 = .ok (.lload_n 1, 1) := by decide +kernel
theorem dX9_letters_5 : decode cX9_letters 5 = .ok (.invokevirtual 61, 3) := by decide +kernel
theorem dX9_letters_8 : decode cX9_letters 8 = .ok (.ireturn, 1) := by decide +kernel
set_option maxRecDepth 20000 in
theorem ggX9_blank_X4_clear : GoodIn wsX9_blank wsX4_clear := goodIn_r _ [6, 7, 20, 21] (by decide +kernel) (by decide +kernel)
set_option maxRecDepth 20000 in
theorem gX9_blank_X4_clear : GoodIn wsX9_blank (wsV RX9 65 RX4 yX4_clear wsX4_clear) := goodIn_app (goodIn_of _ (by decide +kernel)) ggX9_blank_X4_clear
theorem dX9_blank_0 : decode cX9_blank 0 = .ok (.aload_n 0, 1) := by decide +kernel
theorem dX9_blank_1 : decode cX9_blank 1 = .ok (.getfield 10, 3) := by decide +kernel
theorem dX9_blank_4 : decode cX9_blank 4 = .ok (.invokevirtual 65, 3) := by decide +kernel
theorem dX9_blank_7 : decode cX9_blank 7 = .ok (.ireturn, 1) := by decide +kernel
set_option maxRecDepth 20000 in
theorem ggX9_fault_X3_read : GoodIn wsX9_fault wsX3_read := goodIn_r _ [7, 8, 9, 10, 11, 12, 13, 14, 15, 16, 17, 18, 19, 6, 20, 21, 22, 23, 24, 25, 26, 27, 28, 29, 30, 31, 32, 33, 34, 35, 36, 37, 38, 39, 40, 41, 42, 43, 44, 45, 46, 47, 48, 61, 62, 63, 64, 65, 66, 67, 68] (by decide +kernel) (by decide +kernel)
set_option maxRecDepth 20000 in
theorem gX9_fault_X3_read : GoodIn wsX9_fault (wsV RX9 69 RX3 yX3_read wsX3_read) := goodIn_app (goodIn_of _ (by decide +kernel)) ggX9_fault_X3_read
theorem dX9_fault_0 : decode cX9_fault 0 = .ok (.aload_n 0, 1) := by decide +kernel
theorem dX9_fault_1 : decode cX9_fault 1 = .ok (.getfield 57, 3) := by decide +kernel
theorem dX9_fault_4 : decode cX9_fault 4 = .ok (.aload_n 0, 1) := by decide +kernel
theorem dX9_fault_5 : decode cX9_fault 5 = .ok (.getfield 10, 3) := by decide +kernel
theorem dX9_fault_8 : decode cX9_fault 8 = .ok (.invokevirtual 69, 3) := by decide +kernel
theorem dX9_fault_11 : decode cX9_fault 11 = .ok (.ireturn, 1) := by decide +kernel
set_option maxRecDepth 20000 in
theorem ggX9_law_X3_read : GoodIn wsX9_law wsX3_read := goodIn_r _ [16, 17, 18, 19, 20, 21, 22, 23, 24, 25, 26, 27, 28, 15, 29, 30, 31, 32, 33, 34, 35, 36, 37, 38, 39, 40, 41, 42, 43, 44, 45, 46, 47, 48, 49, 50, 51, 52, 53, 54, 55, 56, 57, 105, 106, 107, 108, 109, 110, 91, 92] (by decide +kernel) (by decide +kernel)
set_option maxRecDepth 20000 in
theorem gX9_law_X3_read : GoodIn wsX9_law (wsV RX9 69 RX3 yX3_read wsX3_read) := goodIn_app (goodIn_of _ (by decide +kernel)) ggX9_law_X3_read
set_option maxRecDepth 20000 in
theorem ggX9_law_X3_isWhole : GoodIn wsX9_law wsX3_isWhole := goodIn_r _ [61, 18, 19, 105, 106, 107, 108, 109, 110] (by decide +kernel) (by decide +kernel)
set_option maxRecDepth 20000 in
theorem gX9_law_X3_isWhole : GoodIn wsX9_law (wsV RX9 77 RX3 yX3_isWhole wsX3_isWhole) := goodIn_app (goodIn_of _ (by decide +kernel)) ggX9_law_X3_isWhole
set_option maxRecDepth 20000 in
theorem ggX9_law_X4_clear : GoodIn wsX9_law wsX4_clear := goodIn_r _ [66, 67, 91, 92] (by decide +kernel) (by decide +kernel)
set_option maxRecDepth 20000 in
theorem gX9_law_X4_clear : GoodIn wsX9_law (wsV RX9 65 RX4 yX4_clear wsX4_clear) := goodIn_app (goodIn_of _ (by decide +kernel)) ggX9_law_X4_clear
set_option maxRecDepth 20000 in
theorem ggX9_law_X3_coinsTaken : GoodIn wsX9_law wsX3_coinsTaken := goodIn_r _ [71, 17, 72, 73, 74, 75, 76, 77, 78, 105, 106, 107, 108, 109, 110] (by decide +kernel) (by decide +kernel)
set_option maxRecDepth 20000 in
theorem gX9_law_X3_coinsTaken : GoodIn wsX9_law (wsV RX9 97 RX3 yX3_coinsTaken wsX3_coinsTaken) := goodIn_app (goodIn_of _ (by decide +kernel)) ggX9_law_X3_coinsTaken
theorem dX9_law_0 : decode cX9_law 0 = .ok (.aload_n 0, 1) := by decide +kernel
theorem dX9_law_1 : decode cX9_law 1 = .ok (.getfield 57, 3) := by decide +kernel
theorem dX9_law_4 : decode cX9_law 4 = .ok (.aload_n 0, 1) := by decide +kernel
theorem dX9_law_5 : decode cX9_law 5 = .ok (.getfield 10, 3) := by decide +kernel
theorem dX9_law_8 : decode cX9_law 8 = .ok (.invokevirtual 69, 3) := by decide +kernel
theorem dX9_law_11 : decode cX9_law 11 = .ok (.aload_n 0, 1) := by decide +kernel
theorem dX9_law_12 : decode cX9_law 12 = .ok (.getfield 10, 3) := by decide +kernel
theorem dX9_law_15 : decode cX9_law 15 = .ok (.getfield 73, 3) := by decide +kernel
theorem dX9_law_18 : decode cX9_law 18 = .ok (.if_icmp .ne 13, 3) := by decide +kernel
theorem dX9_law_21 : decode cX9_law 21 = .ok (.aload_n 0, 1) := by decide +kernel
theorem dX9_law_22 : decode cX9_law 22 = .ok (.getfield 57, 3) := by decide +kernel
theorem dX9_law_25 : decode cX9_law 25 = .ok (.invokevirtual 77, 3) := by decide +kernel
theorem dX9_law_28 : decode cX9_law 28 = .ok (.ifCond .ne 6, 3) := by decide +kernel
theorem dX9_law_31 : decode cX9_law 31 = .ok (.bipush (-103), 2) := by decide +kernel
theorem dX9_law_33 : decode cX9_law 33 = .ok (.ireturn, 1) := by decide +kernel
theorem dX9_law_34 : decode cX9_law 34 = .ok (.aload_n 0, 1) := by decide +kernel
theorem dX9_law_35 : decode cX9_law 35 = .ok (.getfield 53, 3) := by decide +kernel
theorem dX9_law_38 : decode cX9_law 38 = .ok (.astore_n 1, 1) := by decide +kernel
theorem dX9_law_39 : decode cX9_law 39 = .ok (.aload_n 0, 1) := by decide +kernel
theorem dX9_law_40 : decode cX9_law 40 = .ok (.aload_n 0, 1) := by decide +kernel
theorem dX9_law_41 : decode cX9_law 41 = .ok (.getfield 57, 3) := by decide +kernel
theorem dX9_law_44 : decode cX9_law 44 = .ok (.putfield 53, 3) := by decide +kernel
theorem dX9_law_47 : decode cX9_law 47 = .ok (.aload_n 0, 1) := by decide +kernel
theorem dX9_law_48 : decode cX9_law 48 = .ok (.aload_n 1, 1) := by decide +kernel
theorem dX9_law_49 : decode cX9_law 49 = .ok (.putfield 57, 3) := by decide +kernel
theorem dX9_law_52 : decode cX9_law 52 = .ok (.aload_n 0, 1) := by decide +kernel
theorem dX9_law_53 : decode cX9_law 53 = .ok (.getfield 10, 3) := by decide +kernel
theorem dX9_law_56 : decode cX9_law 56 = .ok (.invokevirtual 65, 3) := by decide +kernel
theorem dX9_law_59 : decode cX9_law 59 = .ok (.pop, 1) := by decide +kernel
theorem dX9_law_60 : decode cX9_law 60 = .ok (.aload_n 0, 1) := by decide +kernel
theorem dX9_law_61 : decode cX9_law 61 = .ok (.getfield 39, 3) := by decide +kernel
theorem dX9_law_64 : decode cX9_law 64 = .ok (.iconst 0, 1) := by decide +kernel
theorem dX9_law_65 : decode cX9_law 65 = .ok (.putfield 81, 3) := by decide +kernel
theorem dX9_law_68 : decode cX9_law 68 = .ok (.aload_n 0, 1) := by decide +kernel
theorem dX9_law_69 : decode cX9_law 69 = .ok (.getfield 46, 3) := by decide +kernel
theorem dX9_law_72 : decode cX9_law 72 = .ok (.iconst 0, 1) := by decide +kernel
theorem dX9_law_73 : decode cX9_law 73 = .ok (.putfield 85, 3) := by decide +kernel
theorem dX9_law_76 : decode cX9_law 76 = .ok (.aload_n 0, 1) := by decide +kernel
theorem dX9_law_77 : decode cX9_law 77 = .ok (.iconst 0, 1) := by decide +kernel
theorem dX9_law_78 : decode cX9_law 78 = .ok (.putfield 88, 3) := by decide +kernel
theorem dX9_law_81 : decode cX9_law 81 = .ok (.aload_n 0, 1) := by decide +kernel
theorem dX9_law_82 : decode cX9_law 82 = .ok (.iconst 0, 1) := by decide +kernel
theorem dX9_law_83 : decode cX9_law 83 = .ok (.putfield 91, 3) := by decide +kernel
theorem dX9_law_86 : decode cX9_law 86 = .ok (.aload_n 0, 1) := by decide +kernel
theorem dX9_law_87 : decode cX9_law 87 = .ok (.dup, 1) := by decide +kernel
theorem dX9_law_88 : decode cX9_law 88 = .ok (.getfield 94, 3) := by decide +kernel
theorem dX9_law_91 : decode cX9_law 91 = .ok (.iconst 1, 1) := by decide +kernel
theorem dX9_law_92 : decode cX9_law 92 = .ok (.iadd, 1) := by decide +kernel
theorem dX9_law_93 : decode cX9_law 93 = .ok (.putfield 94, 3) := by decide +kernel
theorem dX9_law_96 : decode cX9_law 96 = .ok (.aload_n 0, 1) := by decide +kernel
theorem dX9_law_97 : decode cX9_law 97 = .ok (.getfield 53, 3) := by decide +kernel
theorem dX9_law_100 : decode cX9_law 100 = .ok (.invokevirtual 97, 3) := by decide +kernel
theorem dX9_law_103 : decode cX9_law 103 = .ok (.ireturn, 1) := by decide +kernel
set_option maxRecDepth 20000 in
theorem ggX9_town_X9_isTown : GoodIn wsX9_town wsX9_isTown := goodIn_r _ [9] (by decide +kernel) (by decide +kernel)
set_option maxRecDepth 20000 in
theorem gX9_town_X9_isTown : GoodIn wsX9_town (va_wsS RX9 100 yX9_isTown wsX9_isTown) := goodIn_app (goodIn_of _ (by decide +kernel)) ggX9_town_X9_isTown
set_option maxRecDepth 20000 in
theorem ggX9_town_X9_isLawless : GoodIn wsX9_town wsX9_isLawless := goodIn_r _ [13, 14, 26, 27, 28, 29, 30, 31, 32, 33, 34, 35, 36, 37] (by decide +kernel) (by decide +kernel)
set_option maxRecDepth 20000 in
theorem gX9_town_X9_isLawless : GoodIn wsX9_town (wsV RX9 104 RX9 yX9_isLawless wsX9_isLawless) := goodIn_app (goodIn_of _ (by decide +kernel)) ggX9_town_X9_isLawless
set_option maxRecDepth 20000 in
theorem ggX9_town_X9_peopleIn : GoodIn wsX9_town wsX9_peopleIn := goodIn_r _ [18, 19, 20, 21, 22, 23, 24, 25, 26, 27, 28, 29, 30, 31, 32, 33, 34, 35, 36, 37, 44, 45] (by decide +kernel) (by decide +kernel)
set_option maxRecDepth 20000 in
theorem gX9_town_X9_peopleIn : GoodIn wsX9_town (wsV RX9 120 RX9 yX9_peopleIn wsX9_peopleIn) := goodIn_app (goodIn_of _ (by decide +kernel)) ggX9_town_X9_peopleIn
theorem dX9_town_0 : decode cX9_town 0 = .ok (.iload_n 1, 1) := by decide +kernel
theorem dX9_town_1 : decode cX9_town 1 = .ok (.invokestatic 100, 3) := by decide +kernel
theorem dX9_town_4 : decode cX9_town 4 = .ok (.ifCond .ne 6, 3) := by decide +kernel
theorem dX9_town_7 : decode cX9_town 7 = .ok (.bipush (-101), 2) := by decide +kernel
theorem dX9_town_9 : decode cX9_town 9 = .ok (.ireturn, 1) := by decide +kernel
theorem dX9_town_10 : decode cX9_town 10 = .ok (.iload_n 2, 1) := by decide +kernel
theorem dX9_town_11 : decode cX9_town 11 = .ok (.ifCond .lt 8, 3) := by decide +kernel
theorem dX9_town_14 : decode cX9_town 14 = .ok (.iload_n 2, 1) := by decide +kernel
theorem dX9_town_15 : decode cX9_town 15 = .ok (.iconst 4, 1) := by decide +kernel
theorem dX9_town_16 : decode cX9_town 16 = .ok (.if_icmp .le 6, 3) := by decide +kernel
theorem dX9_town_19 : decode cX9_town 19 = .ok (.bipush (-102), 2) := by decide +kernel
theorem dX9_town_21 : decode cX9_town 21 = .ok (.ireturn, 1) := by decide +kernel
theorem dX9_town_22 : decode cX9_town 22 = .ok (.aload_n 0, 1) := by decide +kernel
theorem dX9_town_23 : decode cX9_town 23 = .ok (.invokevirtual 104, 3) := by decide +kernel
theorem dX9_town_26 : decode cX9_town 26 = .ok (.ifCond .eq 6, 3) := by decide +kernel
theorem dX9_town_29 : decode cX9_town 29 = .ok (.bipush (-103), 2) := by decide +kernel
theorem dX9_town_31 : decode cX9_town 31 = .ok (.ireturn, 1) := by decide +kernel
theorem dX9_town_32 : decode cX9_town 32 = .ok (.iload_n 2, 1) := by decide +kernel
theorem dX9_town_33 : decode cX9_town 33 = .ok (.tableswitch 71 0 3 #[31, 41, 51, 61], 31) := by decide +kernel
theorem dX9_town_64 : decode cX9_town 64 = .ok (.aload_n 0, 1) := by decide +kernel
theorem dX9_town_65 : decode cX9_town 65 = .ok (.getfield 53, 3) := by decide +kernel
theorem dX9_town_68 : decode cX9_town 68 = .ok (.getfield 107, 3) := by decide +kernel
theorem dX9_town_71 : decode cX9_town 71 = .ok (.iload_n 1, 1) := by decide +kernel
theorem dX9_town_72 : decode cX9_town 72 = .ok (.iaload, 1) := by decide +kernel
theorem dX9_town_73 : decode cX9_town 73 = .ok (.ireturn, 1) := by decide +kernel
theorem dX9_town_74 : decode cX9_town 74 = .ok (.aload_n 0, 1) := by decide +kernel
theorem dX9_town_75 : decode cX9_town 75 = .ok (.getfield 53, 3) := by decide +kernel
theorem dX9_town_78 : decode cX9_town 78 = .ok (.getfield 111, 3) := by decide +kernel
theorem dX9_town_81 : decode cX9_town 81 = .ok (.iload_n 1, 1) := by decide +kernel
theorem dX9_town_82 : decode cX9_town 82 = .ok (.iaload, 1) := by decide +kernel
theorem dX9_town_83 : decode cX9_town 83 = .ok (.ireturn, 1) := by decide +kernel
theorem dX9_town_84 : decode cX9_town 84 = .ok (.aload_n 0, 1) := by decide +kernel
theorem dX9_town_85 : decode cX9_town 85 = .ok (.getfield 53, 3) := by decide +kernel
theorem dX9_town_88 : decode cX9_town 88 = .ok (.getfield 114, 3) := by decide +kernel
theorem dX9_town_91 : decode cX9_town 91 = .ok (.iload_n 1, 1) := by decide +kernel
theorem dX9_town_92 : decode cX9_town 92 = .ok (.iaload, 1) := by decide +kernel
theorem dX9_town_93 : decode cX9_town 93 = .ok (.ireturn, 1) := by decide +kernel
theorem dX9_town_94 : decode cX9_town 94 = .ok (.aload_n 0, 1) := by decide +kernel
theorem dX9_town_95 : decode cX9_town 95 = .ok (.getfield 53, 3) := by decide +kernel
theorem dX9_town_98 : decode cX9_town 98 = .ok (.getfield 117, 3) := by decide +kernel
theorem dX9_town_101 : decode cX9_town 101 = .ok (.iload_n 1, 1) := by decide +kernel
theorem dX9_town_102 : decode cX9_town 102 = .ok (.iaload, 1) := by decide +kernel
theorem dX9_town_103 : decode cX9_town 103 = .ok (.ireturn, 1) := by decide +kernel
theorem dX9_town_104 : decode cX9_town 104 = .ok (.aload_n 0, 1) := by decide +kernel
theorem dX9_town_105 : decode cX9_town 105 = .ok (.iload_n 1, 1) := by decide +kernel
theorem dX9_town_106 : decode cX9_town 106 = .ok (.invokevirtual 120, 3) := by decide +kernel
theorem dX9_town_109 : decode cX9_town 109 = .ok (.ireturn, 1) := by decide +kernel
set_option maxRecDepth 20000 in
theorem ggX9_price_X9_isTown : GoodIn wsX9_price wsX9_isTown := goodIn_r _ [6] (by decide +kernel) (by decide +kernel)
set_option maxRecDepth 20000 in
theorem gX9_price_X9_isTown : GoodIn wsX9_price (va_wsS RX9 100 yX9_isTown wsX9_isTown) := goodIn_app (goodIn_of _ (by decide +kernel)) ggX9_price_X9_isTown
set_option maxRecDepth 20000 in
theorem ggX9_price_X9_isPrice : GoodIn wsX9_price wsX9_isPrice := goodIn_r _ [9] (by decide +kernel) (by decide +kernel)
set_option maxRecDepth 20000 in
theorem gX9_price_X9_isPrice : GoodIn wsX9_price (va_wsS RX9 124 yX9_isPrice wsX9_isPrice) := goodIn_app (goodIn_of _ (by decide +kernel)) ggX9_price_X9_isPrice
set_option maxRecDepth 20000 in
theorem ggX9_price_X9_isLawless : GoodIn wsX9_price wsX9_isLawless := goodIn_r _ [13, 14, 15, 16, 17, 18, 19, 20, 21, 22, 23, 24, 25, 26] (by decide +kernel) (by decide +kernel)
set_option maxRecDepth 20000 in
theorem gX9_price_X9_isLawless : GoodIn wsX9_price (wsV RX9 104 RX9 yX9_isLawless wsX9_isLawless) := goodIn_app (goodIn_of _ (by decide +kernel)) ggX9_price_X9_isLawless
theorem dX9_price_0 : decode cX9_price 0 = .ok (.iload_n 1, 1) := by decide +kernel
theorem dX9_price_1 : decode cX9_price 1 = .ok (.invokestatic 100, 3) := by decide +kernel
theorem dX9_price_4 : decode cX9_price 4 = .ok (.ifCond .ne 6, 3) := by decide +kernel
theorem dX9_price_7 : decode cX9_price 7 = .ok (.bipush (-101), 2) := by decide +kernel
theorem dX9_price_9 : decode cX9_price 9 = .ok (.ireturn, 1) := by decide +kernel
theorem dX9_price_10 : decode cX9_price 10 = .ok (.iload_n 2, 1) := by decide +kernel
theorem dX9_price_11 : decode cX9_price 11 = .ok (.invokestatic 124, 3) := by decide +kernel
theorem dX9_price_14 : decode cX9_price 14 = .ok (.ifCond .ne 6, 3) := by decide +kernel
theorem dX9_price_17 : decode cX9_price 17 = .ok (.bipush (-102), 2) := by decide +kernel
theorem dX9_price_19 : decode cX9_price 19 = .ok (.ireturn, 1) := by decide +kernel
theorem dX9_price_20 : decode cX9_price 20 = .ok (.aload_n 0, 1) := by decide +kernel
theorem dX9_price_21 : decode cX9_price 21 = .ok (.invokevirtual 104, 3) := by decide +kernel
theorem dX9_price_24 : decode cX9_price 24 = .ok (.ifCond .eq 6, 3) := by decide +kernel
theorem dX9_price_27 : decode cX9_price 27 = .ok (.bipush (-103), 2) := by decide +kernel
theorem dX9_price_29 : decode cX9_price 29 = .ok (.ireturn, 1) := by decide +kernel
theorem dX9_price_30 : decode cX9_price 30 = .ok (.aload_n 0, 1) := by decide +kernel
theorem dX9_price_31 : decode cX9_price 31 = .ok (.getfield 53, 3) := by decide +kernel
theorem dX9_price_34 : decode cX9_price 34 = .ok (.getfield 114, 3) := by decide +kernel
theorem dX9_price_37 : decode cX9_price 37 = .ok (.iload_n 1, 1) := by decide +kernel
theorem dX9_price_38 : decode cX9_price 38 = .ok (.iaload, 1) := by decide +kernel
theorem dX9_price_39 : decode cX9_price 39 = .ok (.istore_n 3, 1) := by decide +kernel
theorem dX9_price_40 : decode cX9_price 40 = .ok (.aload_n 0, 1) := by decide +kernel
theorem dX9_price_41 : decode cX9_price 41 = .ok (.getfield 53, 3) := by decide +kernel
theorem dX9_price_44 : decode cX9_price 44 = .ok (.getfield 114, 3) := by decide +kernel
theorem dX9_price_47 : decode cX9_price 47 = .ok (.iload_n 1, 1) := by decide +kernel
theorem dX9_price_48 : decode cX9_price 48 = .ok (.iload_n 2, 1) := by decide +kernel
theorem dX9_price_49 : decode cX9_price 49 = .ok (.iastore, 1) := by decide +kernel
theorem dX9_price_50 : decode cX9_price 50 = .ok (.iload_n 3, 1) := by decide +kernel
theorem dX9_price_51 : decode cX9_price 51 = .ok (.ireturn, 1) := by decide +kernel
set_option maxRecDepth 20000 in
theorem ggX9_person_X9_isTown : GoodIn wsX9_person wsX9_isTown := goodIn_r _ [9] (by decide +kernel) (by decide +kernel)
set_option maxRecDepth 20000 in
theorem gX9_person_X9_isTown : GoodIn wsX9_person (va_wsS RX9 100 yX9_isTown wsX9_isTown) := goodIn_app (goodIn_of _ (by decide +kernel)) ggX9_person_X9_isTown
set_option maxRecDepth 20000 in
theorem ggX9_person_X9_isKind : GoodIn wsX9_person wsX9_isKind := goodIn_r _ [12, 3] (by decide +kernel) (by decide +kernel)
set_option maxRecDepth 20000 in
theorem gX9_person_X9_isKind : GoodIn wsX9_person (va_wsS RX9 127 yX9_isKind wsX9_isKind) := goodIn_app (goodIn_of _ (by decide +kernel)) ggX9_person_X9_isKind
set_option maxRecDepth 20000 in
theorem ggX9_person_X9_isLawless : GoodIn wsX9_person wsX9_isLawless := goodIn_r _ [16, 17, 18, 19, 20, 21, 22, 23, 24, 25, 26, 27, 28, 29] (by decide +kernel) (by decide +kernel)
set_option maxRecDepth 20000 in
theorem gX9_person_X9_isLawless : GoodIn wsX9_person (wsV RX9 104 RX9 yX9_isLawless wsX9_isLawless) := goodIn_app (goodIn_of _ (by decide +kernel)) ggX9_person_X9_isLawless
theorem dX9_person_0 : decode cX9_person 0 = .ok (.iload_n 2, 1) := by decide +kernel
theorem dX9_person_1 : decode cX9_person 1 = .ok (.invokestatic 100, 3) := by decide +kernel
theorem dX9_person_4 : decode cX9_person 4 = .ok (.ifCond .ne 6, 3) := by decide +kernel
theorem dX9_person_7 : decode cX9_person 7 = .ok (.bipush (-101), 2) := by decide +kernel
theorem dX9_person_9 : decode cX9_person 9 = .ok (.ireturn, 1) := by decide +kernel
theorem dX9_person_10 : decode cX9_person 10 = .ok (.iload_n 1, 1) := by decide +kernel
theorem dX9_person_11 : decode cX9_person 11 = .ok (.invokestatic 127, 3) := by decide +kernel
theorem dX9_person_14 : decode cX9_person 14 = .ok (.ifCond .ne 6, 3) := by decide +kernel
theorem dX9_person_17 : decode cX9_person 17 = .ok (.bipush (-102), 2) := by decide +kernel
theorem dX9_person_19 : decode cX9_person 19 = .ok (.ireturn, 1) := by decide +kernel
theorem dX9_person_20 : decode cX9_person 20 = .ok (.aload_n 0, 1) := by decide +kernel
theorem dX9_person_21 : decode cX9_person 21 = .ok (.invokevirtual 104, 3) := by decide +kernel
theorem dX9_person_24 : decode cX9_person 24 = .ok (.ifCond .eq 6, 3) := by decide +kernel
theorem dX9_person_27 : decode cX9_person 27 = .ok (.bipush (-103), 2) := by decide +kernel
theorem dX9_person_29 : decode cX9_person 29 = .ok (.ireturn, 1) := by decide +kernel
theorem dX9_person_30 : decode cX9_person 30 = .ok (.aload_n 0, 1) := by decide +kernel
theorem dX9_person_31 : decode cX9_person 31 = .ok (.getfield 88, 3) := by decide +kernel
theorem dX9_person_34 : decode cX9_person 34 = .ok (.iconst 5, 1) := by decide +kernel
theorem dX9_person_35 : decode cX9_person 35 = .ok (.if_icmp .lt 6, 3) := by decide +kernel
theorem dX9_person_38 : decode cX9_person 38 = .ok (.bipush (-104), 2) := by decide +kernel
theorem dX9_person_40 : decode cX9_person 40 = .ok (.ireturn, 1) := by decide +kernel
theorem dX9_person_41 : decode cX9_person 41 = .ok (.aload_n 0, 1) := by decide +kernel
theorem dX9_person_42 : decode cX9_person 42 = .ok (.getfield 18, 3) := by decide +kernel
theorem dX9_person_45 : decode cX9_person 45 = .ok (.aload_n 0, 1) := by decide +kernel
theorem dX9_person_46 : decode cX9_person 46 = .ok (.getfield 88, 3) := by decide +kernel
theorem dX9_person_49 : decode cX9_person 49 = .ok (.aaload, 1) := by decide +kernel
theorem dX9_person_50 : decode cX9_person 50 = .ok (.astore_n 3, 1) := by decide +kernel
theorem dX9_person_51 : decode cX9_person 51 = .ok (.aload_n 3, 1) := by decide +kernel
theorem dX9_person_52 : decode cX9_person 52 = .ok (.getstatic 130, 3) := by decide +kernel
theorem dX9_person_55 : decode cX9_person 55 = .ok (.iload_n 1, 1) := by decide +kernel
theorem dX9_person_56 : decode cX9_person 56 = .ok (.aaload, 1) := by decide +kernel
theorem dX9_person_57 : decode cX9_person 57 = .ok (.putfield 134, 3) := by decide +kernel
theorem dX9_person_60 : decode cX9_person 60 = .ok (.aload_n 3, 1) := by decide +kernel
theorem dX9_person_61 : decode cX9_person 61 = .ok (.iload_n 2, 1) := by decide +kernel
theorem dX9_person_62 : decode cX9_person 62 = .ok (.putfield 138, 3) := by decide +kernel
theorem dX9_person_65 : decode cX9_person 65 = .ok (.aload_n 0, 1) := by decide +kernel
theorem dX9_person_66 : decode cX9_person 66 = .ok (.dup, 1) := by decide +kernel
theorem dX9_person_67 : decode cX9_person 67 = .ok (.getfield 88, 3) := by decide +kernel
theorem dX9_person_70 : decode cX9_person 70 = .ok (.iconst 1, 1) := by decide +kernel
theorem dX9_person_71 : decode cX9_person 71 = .ok (.iadd, 1) := by decide +kernel
theorem dX9_person_72 : decode cX9_person 72 = .ok (.putfield 88, 3) := by decide +kernel
theorem dX9_person_75 : decode cX9_person 75 = .ok (.aload_n 0, 1) := by decide +kernel
theorem dX9_person_76 : decode cX9_person 76 = .ok (.getfield 88, 3) := by decide +kernel
theorem dX9_person_79 : decode cX9_person 79 = .ok (.iconst 1, 1) := by decide +kernel
theorem dX9_person_80 : decode cX9_person 80 = .ok (.isub, 1) := by decide +kernel
theorem dX9_person_81 : decode cX9_person 81 = .ok (.ireturn, 1) := by decide +kernel
set_option maxRecDepth 20000 in
theorem ggX9_about_X9_isPerson : GoodIn wsX9_about wsX9_isPerson := goodIn_r _ [12, 13, 46, 47, 48, 49, 50, 51, 52, 53, 54, 55, 56, 57] (by decide +kernel) (by decide +kernel)
set_option maxRecDepth 20000 in
theorem gX9_about_X9_isPerson : GoodIn wsX9_about (wsV RX9 141 RX9 yX9_isPerson wsX9_isPerson) := goodIn_app (goodIn_of _ (by decide +kernel)) ggX9_about_X9_isPerson
set_option maxRecDepth 20000 in
theorem ggX9_about_X7_townOf : GoodIn wsX9_about wsX7_townOf := goodIn_r _ [17] (by decide +kernel) (by decide +kernel)
set_option maxRecDepth 20000 in
theorem gX9_about_X7_townOf : GoodIn wsX9_about (va_wsS RX9 144 yX7_townOf wsX7_townOf) := goodIn_app (goodIn_of _ (by decide +kernel)) ggX9_about_X7_townOf
set_option maxRecDepth 20000 in
theorem ggX9_about_X7_goodsOf : GoodIn wsX9_about wsX7_goodsOf := goodIn_r _ [20] (by decide +kernel) (by decide +kernel)
set_option maxRecDepth 20000 in
theorem gX9_about_X7_goodsOf : GoodIn wsX9_about (va_wsS RX9 154 yX7_goodsOf wsX7_goodsOf) := goodIn_app (goodIn_of _ (by decide +kernel)) ggX9_about_X7_goodsOf
set_option maxRecDepth 20000 in
theorem ggX9_about_X7_coinsTogether : GoodIn wsX9_about wsX7_coinsTogether := goodIn_r _ [23, 24, 25, 16, 26] (by decide +kernel) (by decide +kernel)
set_option maxRecDepth 20000 in
theorem gX9_about_X7_coinsTogether : GoodIn wsX9_about (va_wsS RX9 157 yX7_coinsTogether wsX7_coinsTogether) := goodIn_app (goodIn_of _ (by decide +kernel)) ggX9_about_X7_coinsTogether
set_option maxRecDepth 20000 in
theorem ggX9_about_X2_cost : GoodIn wsX9_about wsX2_cost := goodIn_r _ [31, 32, 33, 34, 35, 36] (by decide +kernel) (by decide +kernel)
set_option maxRecDepth 20000 in
theorem gX9_about_X2_cost : GoodIn wsX9_about (wsV RX9 160 RX2 yX2_cost wsX2_cost) := goodIn_app (goodIn_of _ (by decide +kernel)) ggX9_about_X2_cost
set_option maxRecDepth 20000 in
theorem ggX9_about_X2_gain : GoodIn wsX9_about wsX2_gain := goodIn_r _ [40, 41] (by decide +kernel) (by decide +kernel)
set_option maxRecDepth 20000 in
theorem gX9_about_X2_gain : GoodIn wsX9_about (wsV RX9 163 RX2 yX2_gain wsX2_gain) := goodIn_app (goodIn_of _ (by decide +kernel)) ggX9_about_X2_gain
set_option maxRecDepth 20000 in
theorem ggX9_about_X9_isCoin : GoodIn wsX9_about wsX9_isCoin := goodIn_r _ [44] (by decide +kernel) (by decide +kernel)
set_option maxRecDepth 20000 in
theorem gX9_about_X9_isCoin : GoodIn wsX9_about (va_wsS RX9 166 yX9_isCoin wsX9_isCoin) := goodIn_app (goodIn_of _ (by decide +kernel)) ggX9_about_X9_isCoin
set_option maxRecDepth 20000 in
theorem ggX9_about_X7_coinsOf : GoodIn wsX9_about wsX7_coinsOf := goodIn_r _ [26] (by decide +kernel) (by decide +kernel)
set_option maxRecDepth 20000 in
theorem gX9_about_X7_coinsOf : GoodIn wsX9_about (va_wsS RX9 169 yX7_coinsOf wsX7_coinsOf) := goodIn_app (goodIn_of _ (by decide +kernel)) ggX9_about_X7_coinsOf
theorem dX9_about_0 : decode cX9_about 0 = .ok (.aload_n 0, 1) := by decide +kernel
theorem dX9_about_1 : decode cX9_about 1 = .ok (.iload_n 1, 1) := by decide +kernel
theorem dX9_about_2 : decode cX9_about 2 = .ok (.invokevirtual 141, 3) := by decide +kernel
theorem dX9_about_5 : decode cX9_about 5 = .ok (.ifCond .ne 6, 3) := by decide +kernel
theorem dX9_about_8 : decode cX9_about 8 = .ok (.bipush (-101), 2) := by decide +kernel
theorem dX9_about_10 : decode cX9_about 10 = .ok (.ireturn, 1) := by decide +kernel
theorem dX9_about_11 : decode cX9_about 11 = .ok (.aload_n 0, 1) := by decide +kernel
theorem dX9_about_12 : decode cX9_about 12 = .ok (.getfield 18, 3) := by decide +kernel
theorem dX9_about_15 : decode cX9_about 15 = .ok (.iload_n 1, 1) := by decide +kernel
theorem dX9_about_16 : decode cX9_about 16 = .ok (.aaload, 1) := by decide +kernel
theorem dX9_about_17 : decode cX9_about 17 = .ok (.astore_n 3, 1) := by decide +kernel
theorem dX9_about_18 : decode cX9_about 18 = .ok (.aload_n 3, 1) := by decide +kernel
theorem dX9_about_19 : decode cX9_about 19 = .ok (.getfield 138, 3) := by decide +kernel
theorem dX9_about_22 : decode cX9_about 22 = .ok (.invokestatic 144, 3) := by decide +kernel
theorem dX9_about_25 : decode cX9_about 25 = .ok (.istore 4, 2) := by decide +kernel
theorem dX9_about_27 : decode cX9_about 27 = .ok (.iload_n 2, 1) := by decide +kernel
theorem dX9_about_28 : decode cX9_about 28 = .ok (.tableswitch 103 0 5 #[40, 48, 51, 59, 67, 85], 40) := by decide +kernel
theorem dX9_about_68 : decode cX9_about 68 = .ok (.aload_n 3, 1) := by decide +kernel
theorem dX9_about_69 : decode cX9_about 69 = .ok (.getfield 134, 3) := by decide +kernel
theorem dX9_about_72 : decode cX9_about 72 = .ok (.getfield 149, 3) := by decide +kernel
theorem dX9_about_75 : decode cX9_about 75 = .ok (.ireturn, 1) := by decide +kernel
theorem dX9_about_76 : decode cX9_about 76 = .ok (.iload 4, 2) := by decide +kernel
theorem dX9_about_78 : decode cX9_about 78 = .ok (.ireturn, 1) := by decide +kernel
theorem dX9_about_79 : decode cX9_about 79 = .ok (.aload_n 3, 1) := by decide +kernel
theorem dX9_about_80 : decode cX9_about 80 = .ok (.getfield 138, 3) := by decide +kernel
theorem dX9_about_83 : decode cX9_about 83 = .ok (.invokestatic 154, 3) := by decide +kernel
theorem dX9_about_86 : decode cX9_about 86 = .ok (.ireturn, 1) := by decide +kernel
theorem dX9_about_87 : decode cX9_about 87 = .ok (.aload_n 3, 1) := by decide +kernel
theorem dX9_about_88 : decode cX9_about 88 = .ok (.getfield 138, 3) := by decide +kernel
theorem dX9_about_91 : decode cX9_about 91 = .ok (.invokestatic 157, 3) := by decide +kernel
theorem dX9_about_94 : decode cX9_about 94 = .ok (.ireturn, 1) := by decide +kernel
theorem dX9_about_95 : decode cX9_about 95 = .ok (.aload_n 3, 1) := by decide +kernel
theorem dX9_about_96 : decode cX9_about 96 = .ok (.getfield 134, 3) := by decide +kernel
theorem dX9_about_99 : decode cX9_about 99 = .ok (.aload_n 0, 1) := by decide +kernel
theorem dX9_about_100 : decode cX9_about 100 = .ok (.getfield 53, 3) := by decide +kernel
theorem dX9_about_103 : decode cX9_about 103 = .ok (.getfield 114, 3) := by decide +kernel
theorem dX9_about_106 : decode cX9_about 106 = .ok (.iload 4, 2) := by decide +kernel
theorem dX9_about_108 : decode cX9_about 108 = .ok (.iaload, 1) := by decide +kernel
theorem dX9_about_109 : decode cX9_about 109 = .ok (.invokevirtual 160, 3) := by decide +kernel
theorem dX9_about_112 : decode cX9_about 112 = .ok (.ireturn, 1) := by decide +kernel
theorem dX9_about_113 : decode cX9_about 113 = .ok (.aload_n 3, 1) := by decide +kernel
theorem dX9_about_114 : decode cX9_about 114 = .ok (.getfield 134, 3) := by decide +kernel
theorem dX9_about_117 : decode cX9_about 117 = .ok (.aload_n 0, 1) := by decide +kernel
theorem dX9_about_118 : decode cX9_about 118 = .ok (.getfield 53, 3) := by decide +kernel
theorem dX9_about_121 : decode cX9_about 121 = .ok (.getfield 117, 3) := by decide +kernel
theorem dX9_about_124 : decode cX9_about 124 = .ok (.iload 4, 2) := by decide +kernel
theorem dX9_about_126 : decode cX9_about 126 = .ok (.iaload, 1) := by decide +kernel
theorem dX9_about_127 : decode cX9_about 127 = .ok (.invokevirtual 163, 3) := by decide +kernel
theorem dX9_about_130 : decode cX9_about 130 = .ok (.ireturn, 1) := by decide +kernel
theorem dX9_about_131 : decode cX9_about 131 = .ok (.iload_n 2, 1) := by decide +kernel
theorem dX9_about_132 : decode cX9_about 132 = .ok (.bipush 10, 2) := by decide +kernel
theorem dX9_about_134 : decode cX9_about 134 = .ok (.isub, 1) := by decide +kernel
theorem dX9_about_135 : decode cX9_about 135 = .ok (.invokestatic 166, 3) := by decide +kernel
theorem dX9_about_138 : decode cX9_about 138 = .ok (.ifCond .eq 17, 3) := by decide +kernel
theorem dX9_about_141 : decode cX9_about 141 = .ok (.aload_n 3, 1) := by decide +kernel
theorem dX9_about_142 : decode cX9_about 142 = .ok (.getfield 138, 3) := by decide +kernel
theorem dX9_about_145 : decode cX9_about 145 = .ok (.iload_n 2, 1) := by decide +kernel
theorem dX9_about_146 : decode cX9_about 146 = .ok (.bipush 10, 2) := by decide +kernel
theorem dX9_about_148 : decode cX9_about 148 = .ok (.isub, 1) := by decide +kernel
theorem dX9_about_149 : decode cX9_about 149 = .ok (.invokestatic 169, 3) := by decide +kernel
theorem dX9_about_152 : decode cX9_about 152 = .ok (.goto 5, 3) := by decide +kernel
theorem dX9_about_155 : decode cX9_about 155 = .ok (.bipush (-102), 2) := by decide +kernel
theorem dX9_about_157 : decode cX9_about 157 = .ok (.ireturn, 1) := by decide +kernel
set_option maxRecDepth 20000 in
theorem ggX9_as_X9_isPerson : GoodIn wsX9_as wsX9_isPerson := goodIn_r _ [8, 9, 21, 22, 23, 24, 25, 26, 27, 28, 29, 30, 31, 32] (by decide +kernel) (by decide +kernel)
set_option maxRecDepth 20000 in
theorem gX9_as_X9_isPerson : GoodIn wsX9_as (wsV RX9 141 RX9 yX9_isPerson wsX9_isPerson) := goodIn_app (goodIn_of _ (by decide +kernel)) ggX9_as_X9_isPerson
set_option maxRecDepth 20000 in
theorem ggX9_as_X9_isKind : GoodIn wsX9_as wsX9_isKind := goodIn_r _ [12, 3] (by decide +kernel) (by decide +kernel)
set_option maxRecDepth 20000 in
theorem gX9_as_X9_isKind : GoodIn wsX9_as (va_wsS RX9 127 yX9_isKind wsX9_isKind) := goodIn_app (goodIn_of _ (by decide +kernel)) ggX9_as_X9_isKind
set_option maxRecDepth 20000 in
theorem ggX9_as_X2_isAlso : GoodIn wsX9_as wsX2_isAlso := goodIn_r _ [17, 18, 19, 20] (by decide +kernel) (by decide +kernel)
set_option maxRecDepth 20000 in
theorem gX9_as_X2_isAlso : GoodIn wsX9_as (wsV RX9 173 RX2 yX2_isAlso wsX2_isAlso) := goodIn_app (goodIn_of _ (by decide +kernel)) ggX9_as_X2_isAlso
theorem dX9_as_0 : decode cX9_as 0 = .ok (.aload_n 0, 1) := by decide +kernel
theorem dX9_as_1 : decode cX9_as 1 = .ok (.iload_n 1, 1) := by decide +kernel
theorem dX9_as_2 : decode cX9_as 2 = .ok (.invokevirtual 141, 3) := by decide +kernel
theorem dX9_as_5 : decode cX9_as 5 = .ok (.ifCond .ne 6, 3) := by decide +kernel
theorem dX9_as_8 : decode cX9_as 8 = .ok (.bipush (-101), 2) := by decide +kernel
theorem dX9_as_10 : decode cX9_as 10 = .ok (.ireturn, 1) := by decide +kernel
theorem dX9_as_11 : decode cX9_as 11 = .ok (.iload_n 2, 1) := by decide +kernel
theorem dX9_as_12 : decode cX9_as 12 = .ok (.invokestatic 127, 3) := by decide +kernel
theorem dX9_as_15 : decode cX9_as 15 = .ok (.ifCond .ne 6, 3) := by decide +kernel
theorem dX9_as_18 : decode cX9_as 18 = .ok (.bipush (-102), 2) := by decide +kernel
theorem dX9_as_20 : decode cX9_as 20 = .ok (.ireturn, 1) := by decide +kernel
theorem dX9_as_21 : decode cX9_as 21 = .ok (.aload_n 0, 1) := by decide +kernel
theorem dX9_as_22 : decode cX9_as 22 = .ok (.getfield 18, 3) := by decide +kernel
theorem dX9_as_25 : decode cX9_as 25 = .ok (.iload_n 1, 1) := by decide +kernel
theorem dX9_as_26 : decode cX9_as 26 = .ok (.aaload, 1) := by decide +kernel
theorem dX9_as_27 : decode cX9_as 27 = .ok (.getfield 134, 3) := by decide +kernel
theorem dX9_as_30 : decode cX9_as 30 = .ok (.getstatic 130, 3) := by decide +kernel
theorem dX9_as_33 : decode cX9_as 33 = .ok (.iload_n 2, 1) := by decide +kernel
theorem dX9_as_34 : decode cX9_as 34 = .ok (.aaload, 1) := by decide +kernel
theorem dX9_as_35 : decode cX9_as 35 = .ok (.invokevirtual 173, 3) := by decide +kernel
theorem dX9_as_38 : decode cX9_as 38 = .ok (.ifCond .eq 7, 3) := by decide +kernel
theorem dX9_as_41 : decode cX9_as 41 = .ok (.iload_n 1, 1) := by decide +kernel
theorem dX9_as_42 : decode cX9_as 42 = .ok (.goto 4, 3) := by decide +kernel
theorem dX9_as_45 : decode cX9_as 45 = .ok (.iconst (-1), 1) := by decide +kernel
theorem dX9_as_46 : decode cX9_as 46 = .ok (.ireturn, 1) := by decide +kernel
set_option maxRecDepth 20000 in
theorem ggX9_purse_X9_isPerson : GoodIn wsX9_purse wsX9_isPerson := goodIn_r _ [7, 8, 19, 20, 21, 22, 23, 24, 25, 26, 27, 28, 29, 30] (by decide +kernel) (by decide +kernel)
set_option maxRecDepth 20000 in
theorem gX9_purse_X9_isPerson : GoodIn wsX9_purse (wsV RX9 141 RX9 yX9_isPerson wsX9_isPerson) := goodIn_app (goodIn_of _ (by decide +kernel)) ggX9_purse_X9_isPerson
set_option maxRecDepth 20000 in
theorem ggX9_purse_X9_isCoin : GoodIn wsX9_purse wsX9_isCoin := goodIn_r _ [11] (by decide +kernel) (by decide +kernel)
set_option maxRecDepth 20000 in
theorem gX9_purse_X9_isCoin : GoodIn wsX9_purse (va_wsS RX9 166 yX9_isCoin wsX9_isCoin) := goodIn_app (goodIn_of _ (by decide +kernel)) ggX9_purse_X9_isCoin
set_option maxRecDepth 20000 in
theorem ggX9_purse_X7_coinsOf : GoodIn wsX9_purse wsX7_coinsOf := goodIn_r _ [15] (by decide +kernel) (by decide +kernel)
set_option maxRecDepth 20000 in
theorem gX9_purse_X7_coinsOf : GoodIn wsX9_purse (va_wsS RX9 169 yX7_coinsOf wsX7_coinsOf) := goodIn_app (goodIn_of _ (by decide +kernel)) ggX9_purse_X7_coinsOf
set_option maxRecDepth 20000 in
theorem ggX9_purse_X7_withMore : GoodIn wsX9_purse wsX7_withMore := goodIn_r _ [18] (by decide +kernel) (by decide +kernel)
set_option maxRecDepth 20000 in
theorem gX9_purse_X7_withMore : GoodIn wsX9_purse (va_wsS RX9 177 yX7_withMore wsX7_withMore) := goodIn_app (goodIn_of _ (by decide +kernel)) ggX9_purse_X7_withMore
theorem dX9_purse_0 : decode cX9_purse 0 = .ok (.aload_n 0, 1) := by decide +kernel
theorem dX9_purse_1 : decode cX9_purse 1 = .ok (.iload_n 1, 1) := by decide +kernel
theorem dX9_purse_2 : decode cX9_purse 2 = .ok (.invokevirtual 141, 3) := by decide +kernel
theorem dX9_purse_5 : decode cX9_purse 5 = .ok (.ifCond .eq 10, 3) := by decide +kernel
theorem dX9_purse_8 : decode cX9_purse 8 = .ok (.iload_n 2, 1) := by decide +kernel
theorem dX9_purse_9 : decode cX9_purse 9 = .ok (.invokestatic 166, 3) := by decide +kernel
theorem dX9_purse_12 : decode cX9_purse 12 = .ok (.ifCond .ne 6, 3) := by decide +kernel
theorem dX9_purse_15 : decode cX9_purse 15 = .ok (.bipush (-101), 2) := by decide +kernel
theorem dX9_purse_17 : decode cX9_purse 17 = .ok (.ireturn, 1) := by decide +kernel
theorem dX9_purse_18 : decode cX9_purse 18 = .ok (.iload_n 3, 1) := by decide +kernel
theorem dX9_purse_19 : decode cX9_purse 19 = .ok (.ifCond .lt 8, 3) := by decide +kernel
theorem dX9_purse_22 : decode cX9_purse 22 = .ok (.iload_n 3, 1) := by decide +kernel
theorem dX9_purse_23 : decode cX9_purse 23 = .ok (.iconst 4, 1) := by decide +kernel
theorem dX9_purse_24 : decode cX9_purse 24 = .ok (.if_icmp .le 6, 3) := by decide +kernel
theorem dX9_purse_27 : decode cX9_purse 27 = .ok (.bipush (-102), 2) := by decide +kernel
theorem dX9_purse_29 : decode cX9_purse 29 = .ok (.ireturn, 1) := by decide +kernel
theorem dX9_purse_30 : decode cX9_purse 30 = .ok (.aload_n 0, 1) := by decide +kernel
theorem dX9_purse_31 : decode cX9_purse 31 = .ok (.getfield 18, 3) := by decide +kernel
theorem dX9_purse_34 : decode cX9_purse 34 = .ok (.iload_n 1, 1) := by decide +kernel
theorem dX9_purse_35 : decode cX9_purse 35 = .ok (.aaload, 1) := by decide +kernel
theorem dX9_purse_36 : decode cX9_purse 36 = .ok (.astore 4, 2) := by decide +kernel
theorem dX9_purse_38 : decode cX9_purse 38 = .ok (.aload 4, 2) := by decide +kernel
theorem dX9_purse_40 : decode cX9_purse 40 = .ok (.getfield 138, 3) := by decide +kernel
theorem dX9_purse_43 : decode cX9_purse 43 = .ok (.iload_n 2, 1) := by decide +kernel
theorem dX9_purse_44 : decode cX9_purse 44 = .ok (.invokestatic 169, 3) := by decide +kernel
theorem dX9_purse_47 : decode cX9_purse 47 = .ok (.istore 5, 2) := by decide +kernel
theorem dX9_purse_49 : decode cX9_purse 49 = .ok (.aload 4, 2) := by decide +kernel
theorem dX9_purse_51 : decode cX9_purse 51 = .ok (.aload 4, 2) := by decide +kernel
theorem dX9_purse_53 : decode cX9_purse 53 = .ok (.getfield 138, 3) := by decide +kernel
theorem dX9_purse_56 : decode cX9_purse 56 = .ok (.iload_n 2, 1) := by decide +kernel
theorem dX9_purse_57 : decode cX9_purse 57 = .ok (.iload_n 3, 1) := by decide +kernel
theorem dX9_purse_58 : decode cX9_purse 58 = .ok (.iload 5, 2) := by decide +kernel
theorem dX9_purse_60 : decode cX9_purse 60 = .ok (.isub, 1) := by decide +kernel
theorem dX9_purse_61 : decode cX9_purse 61 = .ok (.invokestatic 177, 3) := by decide +kernel
theorem dX9_purse_64 : decode cX9_purse 64 = .ok (.putfield 138, 3) := by decide +kernel
theorem dX9_purse_67 : decode cX9_purse 67 = .ok (.iload 5, 2) := by decide +kernel
theorem dX9_purse_69 : decode cX9_purse 69 = .ok (.ireturn, 1) := by decide +kernel
set_option maxRecDepth 20000 in
theorem ggX9_may_X9_isPerson : GoodIn wsX9_may wsX9_isPerson := goodIn_r _ [7, 8, 87, 88, 89, 90, 91, 92, 93, 94, 95, 96, 97, 98] (by decide +kernel) (by decide +kernel)
set_option maxRecDepth 20000 in
theorem gX9_may_X9_isPerson : GoodIn wsX9_may (wsV RX9 141 RX9 yX9_isPerson wsX9_isPerson) := goodIn_app (goodIn_of _ (by decide +kernel)) ggX9_may_X9_isPerson
set_option maxRecDepth 20000 in
theorem ggX9_may_X9_isAct : GoodIn wsX9_may wsX9_isAct := goodIn_r _ [11, 12] (by decide +kernel) (by decide +kernel)
set_option maxRecDepth 20000 in
theorem gX9_may_X9_isAct : GoodIn wsX9_may (va_wsS RX9 181 yX9_isAct wsX9_isAct) := goodIn_app (goodIn_of _ (by decide +kernel)) ggX9_may_X9_isAct
set_option maxRecDepth 20000 in
theorem ggX9_may_X9_dealFor : GoodIn wsX9_may wsX9_dealFor := goodIn_r _ [16, 17, 18, 1, 19, 20, 21, 22, 23, 24, 25, 26, 27, 28, 29, 30, 31, 32, 33, 34, 35, 36, 37, 38, 39, 40, 41, 42, 43, 44, 45, 46, 47, 48, 87, 88, 89, 90, 91, 92, 93, 94, 95, 96, 97, 98, 99, 100, 101, 102, 103, 104, 105, 106, 107, 108, 109, 110] (by decide +kernel) (by decide +kernel)
set_option maxRecDepth 20000 in
theorem gX9_may_X9_dealFor : GoodIn wsX9_may (wsV RX9 184 RX9 yX9_dealFor wsX9_dealFor) := goodIn_app (goodIn_of _ (by decide +kernel)) ggX9_may_X9_dealFor
set_option maxRecDepth 20000 in
theorem ggX9_may_X0_after : GoodIn wsX9_may wsX0_after := goodIn_r _ [52, 53, 54, 23, 55, 56, 57, 58, 59, 60, 61, 62, 63, 64, 65, 66, 25, 67, 68, 69, 70, 71, 72, 73, 74, 75, 76, 31, 77, 78, 79, 80, 81, 82, 83, 84, 85, 86, 29, 27, 101, 102, 103, 104] (by decide +kernel) (by decide +kernel)
set_option maxRecDepth 20000 in
theorem gX9_may_X0_after : GoodIn wsX9_may (wsV RX9 188 RX0 yX0_after wsX0_after) := goodIn_app (goodIn_of _ (by decide +kernel)) ggX9_may_X0_after
theorem dX9_may_0 : decode cX9_may 0 = .ok (.aload_n 0, 1) := by decide +kernel
theorem dX9_may_1 : decode cX9_may 1 = .ok (.iload_n 1, 1) := by decide +kernel
theorem dX9_may_2 : decode cX9_may 2 = .ok (.invokevirtual 141, 3) := by decide +kernel
theorem dX9_may_5 : decode cX9_may 5 = .ok (.ifCond .eq 10, 3) := by decide +kernel
theorem dX9_may_8 : decode cX9_may 8 = .ok (.iload_n 2, 1) := by decide +kernel
theorem dX9_may_9 : decode cX9_may 9 = .ok (.invokestatic 181, 3) := by decide +kernel
theorem dX9_may_12 : decode cX9_may 12 = .ok (.ifCond .ne 6, 3) := by decide +kernel
theorem dX9_may_15 : decode cX9_may 15 = .ok (.bipush (-101), 2) := by decide +kernel
theorem dX9_may_17 : decode cX9_may 17 = .ok (.ireturn, 1) := by decide +kernel
theorem dX9_may_18 : decode cX9_may 18 = .ok (.aload_n 0, 1) := by decide +kernel
theorem dX9_may_19 : decode cX9_may 19 = .ok (.iload_n 1, 1) := by decide +kernel
theorem dX9_may_20 : decode cX9_may 20 = .ok (.invokevirtual 184, 3) := by decide +kernel
theorem dX9_may_23 : decode cX9_may 23 = .ok (.aload_n 0, 1) := by decide +kernel
theorem dX9_may_24 : decode cX9_may 24 = .ok (.getfield 18, 3) := by decide +kernel
theorem dX9_may_27 : decode cX9_may 27 = .ok (.iload_n 1, 1) := by decide +kernel
theorem dX9_may_28 : decode cX9_may 28 = .ok (.aaload, 1) := by decide +kernel
theorem dX9_may_29 : decode cX9_may 29 = .ok (.getfield 138, 3) := by decide +kernel
theorem dX9_may_32 : decode cX9_may 32 = .ok (.iload_n 2, 1) := by decide +kernel
theorem dX9_may_33 : decode cX9_may 33 = .ok (.invokevirtual 188, 3) := by decide +kernel
theorem dX9_may_36 : decode cX9_may 36 = .ok (.iconst (-1), 1) := by decide +kernel
theorem dX9_may_37 : decode cX9_may 37 = .ok (.if_icmp .ne 7, 3) := by decide +kernel
theorem dX9_may_40 : decode cX9_may 40 = .ok (.iconst 0, 1) := by decide +kernel
theorem dX9_may_41 : decode cX9_may 41 = .ok (.goto 4, 3) := by decide +kernel
theorem dX9_may_44 : decode cX9_may 44 = .ok (.iconst 1, 1) := by decide +kernel
theorem dX9_may_45 : decode cX9_may 45 = .ok (.ireturn, 1) := by decide +kernel
set_option maxRecDepth 20000 in
theorem ggX9_act_X9_isPerson : GoodIn wsX9_act wsX9_isPerson := goodIn_r _ [8, 9, 92, 93, 94, 95, 96, 97, 98, 99, 100, 101, 102, 103] (by decide +kernel) (by decide +kernel)
set_option maxRecDepth 20000 in
theorem gX9_act_X9_isPerson : GoodIn wsX9_act (wsV RX9 141 RX9 yX9_isPerson wsX9_isPerson) := goodIn_app (goodIn_of _ (by decide +kernel)) ggX9_act_X9_isPerson
set_option maxRecDepth 20000 in
theorem ggX9_act_X9_isAct : GoodIn wsX9_act wsX9_isAct := goodIn_r _ [12, 13] (by decide +kernel) (by decide +kernel)
set_option maxRecDepth 20000 in
theorem gX9_act_X9_isAct : GoodIn wsX9_act (va_wsS RX9 181 yX9_isAct wsX9_isAct) := goodIn_app (goodIn_of _ (by decide +kernel)) ggX9_act_X9_isAct
set_option maxRecDepth 20000 in
theorem ggX9_act_X9_dealFor : GoodIn wsX9_act wsX9_dealFor := goodIn_r _ [17, 18, 19, 1, 20, 21, 22, 23, 24, 25, 26, 27, 28, 29, 30, 31, 32, 33, 34, 35, 36, 37, 38, 39, 40, 41, 42, 43, 44, 45, 46, 47, 48, 49, 92, 93, 94, 95, 96, 97, 98, 99, 100, 101, 102, 103, 104, 105, 106, 107, 108, 109, 110, 111, 112, 113, 114, 115] (by decide +kernel) (by decide +kernel)
set_option maxRecDepth 20000 in
theorem gX9_act_X9_dealFor : GoodIn wsX9_act (wsV RX9 184 RX9 yX9_dealFor wsX9_dealFor) := goodIn_app (goodIn_of _ (by decide +kernel)) ggX9_act_X9_dealFor
set_option maxRecDepth 20000 in
theorem ggX9_act_X0_after : GoodIn wsX9_act wsX0_after := goodIn_r _ [53, 54, 55, 24, 56, 57, 58, 59, 60, 61, 62, 63, 64, 65, 66, 67, 26, 68, 69, 70, 71, 72, 73, 74, 75, 76, 77, 32, 78, 79, 80, 81, 82, 83, 84, 85, 86, 87, 30, 28, 106, 107, 108, 109] (by decide +kernel) (by decide +kernel)
set_option maxRecDepth 20000 in
theorem gX9_act_X0_after : GoodIn wsX9_act (wsV RX9 188 RX0 yX0_after wsX0_after) := goodIn_app (goodIn_of _ (by decide +kernel)) ggX9_act_X0_after
set_option maxRecDepth 20000 in
theorem ggX9_act_X7_coinsTogether : GoodIn wsX9_act wsX7_coinsTogether := goodIn_r _ [90, 91, 72, 59, 73] (by decide +kernel) (by decide +kernel)
set_option maxRecDepth 20000 in
theorem gX9_act_X7_coinsTogether : GoodIn wsX9_act (va_wsS RX9 157 yX7_coinsTogether wsX7_coinsTogether) := goodIn_app (goodIn_of _ (by decide +kernel)) ggX9_act_X7_coinsTogether
theorem dX9_act_0 : decode cX9_act 0 = .ok (.aload_n 0, 1) := by decide +kernel
theorem dX9_act_1 : decode cX9_act 1 = .ok (.iload_n 1, 1) := by decide +kernel
theorem dX9_act_2 : decode cX9_act 2 = .ok (.invokevirtual 141, 3) := by decide +kernel
theorem dX9_act_5 : decode cX9_act 5 = .ok (.ifCond .eq 10, 3) := by decide +kernel
theorem dX9_act_8 : decode cX9_act 8 = .ok (.iload_n 2, 1) := by decide +kernel
theorem dX9_act_9 : decode cX9_act 9 = .ok (.invokestatic 181, 3) := by decide +kernel
theorem dX9_act_12 : decode cX9_act 12 = .ok (.ifCond .ne 6, 3) := by decide +kernel
theorem dX9_act_15 : decode cX9_act 15 = .ok (.bipush (-101), 2) := by decide +kernel
theorem dX9_act_17 : decode cX9_act 17 = .ok (.ireturn, 1) := by decide +kernel
theorem dX9_act_18 : decode cX9_act 18 = .ok (.aload_n 0, 1) := by decide +kernel
theorem dX9_act_19 : decode cX9_act 19 = .ok (.getfield 18, 3) := by decide +kernel
theorem dX9_act_22 : decode cX9_act 22 = .ok (.iload_n 1, 1) := by decide +kernel
theorem dX9_act_23 : decode cX9_act 23 = .ok (.aaload, 1) := by decide +kernel
theorem dX9_act_24 : decode cX9_act 24 = .ok (.astore_n 3, 1) := by decide +kernel
theorem dX9_act_25 : decode cX9_act 25 = .ok (.aload_n 0, 1) := by decide +kernel
theorem dX9_act_26 : decode cX9_act 26 = .ok (.iload_n 1, 1) := by decide +kernel
theorem dX9_act_27 : decode cX9_act 27 = .ok (.invokevirtual 184, 3) := by decide +kernel
theorem dX9_act_30 : decode cX9_act 30 = .ok (.aload_n 3, 1) := by decide +kernel
theorem dX9_act_31 : decode cX9_act 31 = .ok (.getfield 138, 3) := by decide +kernel
theorem dX9_act_34 : decode cX9_act 34 = .ok (.iload_n 2, 1) := by decide +kernel
theorem dX9_act_35 : decode cX9_act 35 = .ok (.invokevirtual 188, 3) := by decide +kernel
theorem dX9_act_38 : decode cX9_act 38 = .ok (.istore 4, 2) := by decide +kernel
theorem dX9_act_40 : decode cX9_act 40 = .ok (.iload 4, 2) := by decide +kernel
theorem dX9_act_42 : decode cX9_act 42 = .ok (.iconst (-1), 1) := by decide +kernel
theorem dX9_act_43 : decode cX9_act 43 = .ok (.if_icmp .ne 6, 3) := by decide +kernel
theorem dX9_act_46 : decode cX9_act 46 = .ok (.bipush (-103), 2) := by decide +kernel
theorem dX9_act_48 : decode cX9_act 48 = .ok (.ireturn, 1) := by decide +kernel
theorem dX9_act_49 : decode cX9_act 49 = .ok (.aload_n 3, 1) := by decide +kernel
theorem dX9_act_50 : decode cX9_act 50 = .ok (.iload 4, 2) := by decide +kernel
theorem dX9_act_52 : decode cX9_act 52 = .ok (.putfield 138, 3) := by decide +kernel
theorem dX9_act_55 : decode cX9_act 55 = .ok (.aload_n 0, 1) := by decide +kernel
theorem dX9_act_56 : decode cX9_act 56 = .ok (.dup, 1) := by decide +kernel
theorem dX9_act_57 : decode cX9_act 57 = .ok (.getfield 91, 3) := by decide +kernel
theorem dX9_act_60 : decode cX9_act 60 = .ok (.iconst 1, 1) := by decide +kernel
theorem dX9_act_61 : decode cX9_act 61 = .ok (.iadd, 1) := by decide +kernel
theorem dX9_act_62 : decode cX9_act 62 = .ok (.putfield 91, 3) := by decide +kernel
theorem dX9_act_65 : decode cX9_act 65 = .ok (.iload 4, 2) := by decide +kernel
theorem dX9_act_67 : decode cX9_act 67 = .ok (.invokestatic 157, 3) := by decide +kernel
theorem dX9_act_70 : decode cX9_act 70 = .ok (.ireturn, 1) := by decide +kernel
set_option maxRecDepth 20000 in
theorem ggX9_change_X9_isPerson : GoodIn wsX9_change wsX9_isPerson := goodIn_r _ [7, 8, 33, 34, 35, 36, 37, 38, 39, 40, 41, 42, 43, 44] (by decide +kernel) (by decide +kernel)
set_option maxRecDepth 20000 in
theorem gX9_change_X9_isPerson : GoodIn wsX9_change (wsV RX9 141 RX9 yX9_isPerson wsX9_isPerson) := goodIn_app (goodIn_of _ (by decide +kernel)) ggX9_change_X9_isPerson
set_option maxRecDepth 20000 in
theorem ggX9_change_X9_isCoin : GoodIn wsX9_change wsX9_isCoin := goodIn_r _ [11] (by decide +kernel) (by decide +kernel)
set_option maxRecDepth 20000 in
theorem gX9_change_X9_isCoin : GoodIn wsX9_change (va_wsS RX9 166 yX9_isCoin wsX9_isCoin) := goodIn_app (goodIn_of _ (by decide +kernel)) ggX9_change_X9_isCoin
set_option maxRecDepth 20000 in
theorem ggX9_change_X7_townOf : GoodIn wsX9_change wsX7_townOf := goodIn_r _ [15] (by decide +kernel) (by decide +kernel)
set_option maxRecDepth 20000 in
theorem gX9_change_X7_townOf : GoodIn wsX9_change (va_wsS RX9 144 yX7_townOf wsX7_townOf) := goodIn_app (goodIn_of _ (by decide +kernel)) ggX9_change_X7_townOf
set_option maxRecDepth 20000 in
theorem ggX9_change_X5_canSwap : GoodIn wsX9_change wsX5_canSwap := goodIn_r _ [20, 21, 22, 23, 14, 24, 45, 46] (by decide +kernel) (by decide +kernel)
set_option maxRecDepth 20000 in
theorem gX9_change_X5_canSwap : GoodIn wsX9_change (wsV RX9 191 RX5 yX5_canSwap wsX5_canSwap) := goodIn_app (goodIn_of _ (by decide +kernel)) ggX9_change_X5_canSwap
set_option maxRecDepth 20000 in
theorem ggX9_change_X5_swap : GoodIn wsX9_change wsX5_swap := goodIn_r _ [28, 21, 29, 30, 14, 31, 45, 46] (by decide +kernel) (by decide +kernel)
set_option maxRecDepth 20000 in
theorem gX9_change_X5_swap : GoodIn wsX9_change (wsV RX9 195 RX5 yX5_swap wsX5_swap) := goodIn_app (goodIn_of _ (by decide +kernel)) ggX9_change_X5_swap
set_option maxRecDepth 20000 in
theorem ggX9_change_X7_coinsOf : GoodIn wsX9_change wsX7_coinsOf := goodIn_r _ [24] (by decide +kernel) (by decide +kernel)
set_option maxRecDepth 20000 in
theorem gX9_change_X7_coinsOf : GoodIn wsX9_change (va_wsS RX9 169 yX7_coinsOf wsX7_coinsOf) := goodIn_app (goodIn_of _ (by decide +kernel)) ggX9_change_X7_coinsOf
theorem dX9_change_0 : decode cX9_change 0 = .ok (.aload_n 0, 1) := by decide +kernel
theorem dX9_change_1 : decode cX9_change 1 = .ok (.iload_n 1, 1) := by decide +kernel
theorem dX9_change_2 : decode cX9_change 2 = .ok (.invokevirtual 141, 3) := by decide +kernel
theorem dX9_change_5 : decode cX9_change 5 = .ok (.ifCond .eq 31, 3) := by decide +kernel
theorem dX9_change_8 : decode cX9_change 8 = .ok (.aload_n 0, 1) := by decide +kernel
theorem dX9_change_9 : decode cX9_change 9 = .ok (.iload_n 3, 1) := by decide +kernel
theorem dX9_change_10 : decode cX9_change 10 = .ok (.invokevirtual 141, 3) := by decide +kernel
theorem dX9_change_13 : decode cX9_change 13 = .ok (.ifCond .eq 23, 3) := by decide +kernel
theorem dX9_change_16 : decode cX9_change 16 = .ok (.iload_n 1, 1) := by decide +kernel
theorem dX9_change_17 : decode cX9_change 17 = .ok (.iload_n 3, 1) := by decide +kernel
theorem dX9_change_18 : decode cX9_change 18 = .ok (.if_icmp .eq 18, 3) := by decide +kernel
theorem dX9_change_21 : decode cX9_change 21 = .ok (.iload_n 2, 1) := by decide +kernel
theorem dX9_change_22 : decode cX9_change 22 = .ok (.invokestatic 166, 3) := by decide +kernel
theorem dX9_change_25 : decode cX9_change 25 = .ok (.ifCond .eq 11, 3) := by decide +kernel
theorem dX9_change_28 : decode cX9_change 28 = .ok (.iload 4, 2) := by decide +kernel
theorem dX9_change_30 : decode cX9_change 30 = .ok (.invokestatic 166, 3) := by decide +kernel
theorem dX9_change_33 : decode cX9_change 33 = .ok (.ifCond .ne 6, 3) := by decide +kernel
theorem dX9_change_36 : decode cX9_change 36 = .ok (.bipush (-101), 2) := by decide +kernel
theorem dX9_change_38 : decode cX9_change 38 = .ok (.ireturn, 1) := by decide +kernel
theorem dX9_change_39 : decode cX9_change 39 = .ok (.aload_n 0, 1) := by decide +kernel
theorem dX9_change_40 : decode cX9_change 40 = .ok (.getfield 18, 3) := by decide +kernel
theorem dX9_change_43 : decode cX9_change 43 = .ok (.iload_n 1, 1) := by decide +kernel
theorem dX9_change_44 : decode cX9_change 44 = .ok (.aaload, 1) := by decide +kernel
theorem dX9_change_45 : decode cX9_change 45 = .ok (.astore 5, 2) := by decide +kernel
theorem dX9_change_47 : decode cX9_change 47 = .ok (.aload_n 0, 1) := by decide +kernel
theorem dX9_change_48 : decode cX9_change 48 = .ok (.getfield 18, 3) := by decide +kernel
theorem dX9_change_51 : decode cX9_change 51 = .ok (.iload_n 3, 1) := by decide +kernel
theorem dX9_change_52 : decode cX9_change 52 = .ok (.aaload, 1) := by decide +kernel
theorem dX9_change_53 : decode cX9_change 53 = .ok (.astore 6, 2) := by decide +kernel
theorem dX9_change_55 : decode cX9_change 55 = .ok (.aload 5, 2) := by decide +kernel
theorem dX9_change_57 : decode cX9_change 57 = .ok (.getfield 138, 3) := by decide +kernel
theorem dX9_change_60 : decode cX9_change 60 = .ok (.invokestatic 144, 3) := by decide +kernel
theorem dX9_change_63 : decode cX9_change 63 = .ok (.aload 6, 2) := by decide +kernel
theorem dX9_change_65 : decode cX9_change 65 = .ok (.getfield 138, 3) := by decide +kernel
theorem dX9_change_68 : decode cX9_change 68 = .ok (.invokestatic 144, 3) := by decide +kernel
theorem dX9_change_71 : decode cX9_change 71 = .ok (.if_icmp .ne 25, 3) := by decide +kernel
theorem dX9_change_74 : decode cX9_change 74 = .ok (.aload 5, 2) := by decide +kernel
theorem dX9_change_76 : decode cX9_change 76 = .ok (.iload_n 2, 1) := by decide +kernel
theorem dX9_change_77 : decode cX9_change 77 = .ok (.iload 4, 2) := by decide +kernel
theorem dX9_change_79 : decode cX9_change 79 = .ok (.invokevirtual 191, 3) := by decide +kernel
theorem dX9_change_82 : decode cX9_change 82 = .ok (.ifCond .eq 14, 3) := by decide +kernel
theorem dX9_change_85 : decode cX9_change 85 = .ok (.aload 6, 2) := by decide +kernel
theorem dX9_change_87 : decode cX9_change 87 = .ok (.iload 4, 2) := by decide +kernel
theorem dX9_change_89 : decode cX9_change 89 = .ok (.iload_n 2, 1) := by decide +kernel
theorem dX9_change_90 : decode cX9_change 90 = .ok (.invokevirtual 191, 3) := by decide +kernel
theorem dX9_change_93 : decode cX9_change 93 = .ok (.ifCond .ne 6, 3) := by decide +kernel
theorem dX9_change_96 : decode cX9_change 96 = .ok (.bipush (-103), 2) := by decide +kernel
theorem dX9_change_98 : decode cX9_change 98 = .ok (.ireturn, 1) := by decide +kernel
theorem dX9_change_99 : decode cX9_change 99 = .ok (.aload 5, 2) := by decide +kernel
theorem dX9_change_101 : decode cX9_change 101 = .ok (.iload_n 2, 1) := by decide +kernel
theorem dX9_change_102 : decode cX9_change 102 = .ok (.iload 4, 2) := by decide +kernel
theorem dX9_change_104 : decode cX9_change 104 = .ok (.invokevirtual 195, 3) := by decide +kernel
theorem dX9_change_107 : decode cX9_change 107 = .ok (.aload 6, 2) := by decide +kernel
theorem dX9_change_109 : decode cX9_change 109 = .ok (.iload 4, 2) := by decide +kernel
theorem dX9_change_111 : decode cX9_change 111 = .ok (.iload_n 2, 1) := by decide +kernel
theorem dX9_change_112 : decode cX9_change 112 = .ok (.invokevirtual 195, 3) := by decide +kernel
theorem dX9_change_115 : decode cX9_change 115 = .ok (.aload 5, 2) := by decide +kernel
theorem dX9_change_117 : decode cX9_change 117 = .ok (.getfield 138, 3) := by decide +kernel
theorem dX9_change_120 : decode cX9_change 120 = .ok (.iload_n 2, 1) := by decide +kernel
theorem dX9_change_121 : decode cX9_change 121 = .ok (.invokestatic 169, 3) := by decide +kernel
theorem dX9_change_124 : decode cX9_change 124 = .ok (.ireturn, 1) := by decide +kernel
set_option maxRecDepth 20000 in
theorem ggX9_fewest_X9_isPerson : GoodIn wsX9_fewest wsX9_isPerson := goodIn_r _ [10, 11, 135, 136, 137, 138, 139, 140, 141, 142, 143, 144, 145, 146] (by decide +kernel) (by decide +kernel)
set_option maxRecDepth 20000 in
theorem gX9_fewest_X9_isPerson : GoodIn wsX9_fewest (wsV RX9 141 RX9 yX9_isPerson wsX9_isPerson) := goodIn_app (goodIn_of _ (by decide +kernel)) ggX9_fewest_X9_isPerson
set_option maxRecDepth 20000 in
theorem ggX9_fewest_X9_isTown : GoodIn wsX9_fewest wsX9_isTown := goodIn_r _ [14] (by decide +kernel) (by decide +kernel)
set_option maxRecDepth 20000 in
theorem gX9_fewest_X9_isTown : GoodIn wsX9_fewest (va_wsS RX9 100 yX9_isTown wsX9_isTown) := goodIn_app (goodIn_of _ (by decide +kernel)) ggX9_fewest_X9_isTown
set_option maxRecDepth 20000 in
theorem ggX9_fewest_X7_hasGood : GoodIn wsX9_fewest wsX7_hasGood := goodIn_r _ [18] (by decide +kernel) (by decide +kernel)
set_option maxRecDepth 20000 in
theorem gX9_fewest_X7_hasGood : GoodIn wsX9_fewest (va_wsS RX9 202 yX7_hasGood wsX7_hasGood) := goodIn_app (goodIn_of _ (by decide +kernel)) ggX9_fewest_X7_hasGood
set_option maxRecDepth 20000 in
theorem ggX9_fewest_X9_dealFor : GoodIn wsX9_fewest wsX9_dealFor := goodIn_r _ [22, 23, 24, 2, 25, 26, 27, 28, 29, 30, 31, 32, 33, 34, 35, 36, 37, 38, 39, 40, 41, 42, 43, 44, 45, 46, 47, 48, 49, 50, 51, 52, 53, 54, 135, 136, 137, 138, 139, 140, 141, 142, 143, 144, 145, 146, 147, 148, 155, 156, 157, 158, 159, 160, 161, 162, 163, 164] (by decide +kernel) (by decide +kernel)
set_option maxRecDepth 20000 in
theorem gX9_fewest_X9_dealFor : GoodIn wsX9_fewest (wsV RX9 184 RX9 yX9_dealFor wsX9_dealFor) := goodIn_app (goodIn_of _ (by decide +kernel)) ggX9_fewest_X9_dealFor
set_option maxRecDepth 20000 in
theorem ggX9_fewest_X6_firstToward : GoodIn wsX9_fewest wsX6_firstToward := goodIn_r _ [59, 60, 61, 62, 63, 64, 65, 66, 58, 67, 68, 69, 70, 71, 72, 73, 74, 75, 76, 77, 78, 79, 80, 81, 82, 83, 84, 85, 86, 87, 88, 89, 90, 17, 91, 92, 93, 94, 95, 96, 97, 29, 98, 37, 99, 100, 101, 102, 103, 104, 105, 106, 107, 108, 109, 110, 111, 112, 113, 114, 115, 116, 117, 118, 119, 120, 121, 31, 122, 16, 18, 123, 124, 125, 126, 127, 128, 129, 130, 131, 132, 133, 134, 35, 33, 149, 150, 151, 152, 153, 154, 155, 156, 157, 158] (by decide +kernel) (by decide +kernel)
set_option maxRecDepth 20000 in
theorem gX9_fewest_X6_firstToward : GoodIn wsX9_fewest (wsV RX9 205 RX6 yX6_firstToward wsX6_firstToward) := goodIn_app (goodIn_of _ (by decide +kernel)) ggX9_fewest_X6_firstToward
theorem dX9_fewest_0 : decode cX9_fewest 0 = .ok (.aload_n 0, 1) := by decide +kernel
theorem dX9_fewest_1 : decode cX9_fewest 1 = .ok (.iload_n 1, 1) := by decide +kernel
theorem dX9_fewest_2 : decode cX9_fewest 2 = .ok (.invokevirtual 141, 3) := by decide +kernel
theorem dX9_fewest_5 : decode cX9_fewest 5 = .ok (.ifCond .eq 10, 3) := by decide +kernel
theorem dX9_fewest_8 : decode cX9_fewest 8 = .ok (.iload_n 2, 1) := by decide +kernel
theorem dX9_fewest_9 : decode cX9_fewest 9 = .ok (.invokestatic 100, 3) := by decide +kernel
theorem dX9_fewest_12 : decode cX9_fewest 12 = .ok (.ifCond .ne 6, 3) := by decide +kernel
theorem dX9_fewest_15 : decode cX9_fewest 15 = .ok (.bipush (-101), 2) := by decide +kernel
theorem dX9_fewest_17 : decode cX9_fewest 17 = .ok (.ireturn, 1) := by decide +kernel
theorem dX9_fewest_18 : decode cX9_fewest 18 = .ok (.iload_n 3, 1) := by decide +kernel
theorem dX9_fewest_19 : decode cX9_fewest 19 = .ok (.ifCond .lt 8, 3) := by decide +kernel
theorem dX9_fewest_22 : decode cX9_fewest 22 = .ok (.iload_n 3, 1) := by decide +kernel
theorem dX9_fewest_23 : decode cX9_fewest 23 = .ok (.iconst 1, 1) := by decide +kernel
theorem dX9_fewest_24 : decode cX9_fewest 24 = .ok (.if_icmp .le 6, 3) := by decide +kernel
theorem dX9_fewest_27 : decode cX9_fewest 27 = .ok (.bipush (-102), 2) := by decide +kernel
theorem dX9_fewest_29 : decode cX9_fewest 29 = .ok (.ireturn, 1) := by decide +kernel
theorem dX9_fewest_30 : decode cX9_fewest 30 = .ok (.aload_n 0, 1) := by decide +kernel
theorem dX9_fewest_31 : decode cX9_fewest 31 = .ok (.getfield 199, 3) := by decide +kernel
theorem dX9_fewest_34 : decode cX9_fewest 34 = .ok (.bipush 40, 2) := by decide +kernel
theorem dX9_fewest_36 : decode cX9_fewest 36 = .ok (.if_icmp .lt 6, 3) := by decide +kernel
theorem dX9_fewest_39 : decode cX9_fewest 39 = .ok (.bipush (-103), 2) := by decide +kernel
theorem dX9_fewest_41 : decode cX9_fewest 41 = .ok (.ireturn, 1) := by decide +kernel
theorem dX9_fewest_42 : decode cX9_fewest 42 = .ok (.aload_n 0, 1) := by decide +kernel
theorem dX9_fewest_43 : decode cX9_fewest 43 = .ok (.dup, 1) := by decide +kernel
theorem dX9_fewest_44 : decode cX9_fewest 44 = .ok (.getfield 199, 3) := by decide +kernel
theorem dX9_fewest_47 : decode cX9_fewest 47 = .ok (.iconst 1, 1) := by decide +kernel
theorem dX9_fewest_48 : decode cX9_fewest 48 = .ok (.iadd, 1) := by decide +kernel
theorem dX9_fewest_49 : decode cX9_fewest 49 = .ok (.putfield 199, 3) := by decide +kernel
theorem dX9_fewest_52 : decode cX9_fewest 52 = .ok (.aload_n 0, 1) := by decide +kernel
theorem dX9_fewest_53 : decode cX9_fewest 53 = .ok (.getfield 18, 3) := by decide +kernel
theorem dX9_fewest_56 : decode cX9_fewest 56 = .ok (.iload_n 1, 1) := by decide +kernel
theorem dX9_fewest_57 : decode cX9_fewest 57 = .ok (.aaload, 1) := by decide +kernel
theorem dX9_fewest_58 : decode cX9_fewest 58 = .ok (.getfield 138, 3) := by decide +kernel
theorem dX9_fewest_61 : decode cX9_fewest 61 = .ok (.istore 4, 2) := by decide +kernel
theorem dX9_fewest_63 : decode cX9_fewest 63 = .ok (.iload 4, 2) := by decide +kernel
theorem dX9_fewest_65 : decode cX9_fewest 65 = .ok (.iload_n 2, 1) := by decide +kernel
theorem dX9_fewest_66 : decode cX9_fewest 66 = .ok (.invokestatic 202, 3) := by decide +kernel
theorem dX9_fewest_69 : decode cX9_fewest 69 = .ok (.ifCond .eq 13, 3) := by decide +kernel
theorem dX9_fewest_72 : decode cX9_fewest 72 = .ok (.iload_n 3, 1) := by decide +kernel
theorem dX9_fewest_73 : decode cX9_fewest 73 = .ok (.ifCond .ne 7, 3) := by decide +kernel
theorem dX9_fewest_76 : decode cX9_fewest 76 = .ok (.iconst 0, 1) := by decide +kernel
theorem dX9_fewest_77 : decode cX9_fewest 77 = .ok (.goto 4, 3) := by decide +kernel
theorem dX9_fewest_80 : decode cX9_fewest 80 = .ok (.iconst (-1), 1) := by decide +kernel
theorem dX9_fewest_81 : decode cX9_fewest 81 = .ok (.ireturn, 1) := by decide +kernel
theorem dX9_fewest_82 : decode cX9_fewest 82 = .ok (.aload_n 0, 1) := by decide +kernel
theorem dX9_fewest_83 : decode cX9_fewest 83 = .ok (.getfield 32, 3) := by decide +kernel
theorem dX9_fewest_86 : decode cX9_fewest 86 = .ok (.aload_n 0, 1) := by decide +kernel
theorem dX9_fewest_87 : decode cX9_fewest 87 = .ok (.iload_n 1, 1) := by decide +kernel
theorem dX9_fewest_88 : decode cX9_fewest 88 = .ok (.invokevirtual 184, 3) := by decide +kernel
theorem dX9_fewest_91 : decode cX9_fewest 91 = .ok (.iload 4, 2) := by decide +kernel
theorem dX9_fewest_93 : decode cX9_fewest 93 = .ok (.iload_n 2, 1) := by decide +kernel
theorem dX9_fewest_94 : decode cX9_fewest 94 = .ok (.invokevirtual 205, 3) := by decide +kernel
theorem dX9_fewest_97 : decode cX9_fewest 97 = .ok (.istore 5, 2) := by decide +kernel
theorem dX9_fewest_99 : decode cX9_fewest 99 = .ok (.iload_n 3, 1) := by decide +kernel
theorem dX9_fewest_100 : decode cX9_fewest 100 = .ok (.iconst 1, 1) := by decide +kernel
theorem dX9_fewest_101 : decode cX9_fewest 101 = .ok (.if_icmp .eq 9, 3) := by decide +kernel
theorem dX9_fewest_104 : decode cX9_fewest 104 = .ok (.iload 5, 2) := by decide +kernel
theorem dX9_fewest_106 : decode cX9_fewest 106 = .ok (.iconst (-1), 1) := by decide +kernel
theorem dX9_fewest_107 : decode cX9_fewest 107 = .ok (.if_icmp .ne 8, 3) := by decide +kernel
theorem dX9_fewest_110 : decode cX9_fewest 110 = .ok (.iload 5, 2) := by decide +kernel
theorem dX9_fewest_112 : decode cX9_fewest 112 = .ok (.goto 12, 3) := by decide +kernel
theorem dX9_fewest_115 : decode cX9_fewest 115 = .ok (.aload_n 0, 1) := by decide +kernel
theorem dX9_fewest_116 : decode cX9_fewest 116 = .ok (.getfield 32, 3) := by decide +kernel
theorem dX9_fewest_119 : decode cX9_fewest 119 = .ok (.getfield 209, 3) := by decide +kernel
theorem dX9_fewest_122 : decode cX9_fewest 122 = .ok (.iconst 1, 1) := by decide +kernel
theorem dX9_fewest_123 : decode cX9_fewest 123 = .ok (.iadd, 1) := by decide +kernel
theorem dX9_fewest_124 : decode cX9_fewest 124 = .ok (.ireturn, 1) := by decide +kernel
set_option maxRecDepth 20000 in
theorem ggX9_richest_X9_isPerson : GoodIn wsX9_richest wsX9_isPerson := goodIn_r _ [9, 10, 126, 127, 128, 129, 130, 131, 132, 133, 134, 135, 136, 137] (by decide +kernel) (by decide +kernel)
set_option maxRecDepth 20000 in
theorem gX9_richest_X9_isPerson : GoodIn wsX9_richest (wsV RX9 141 RX9 yX9_isPerson wsX9_isPerson) := goodIn_app (goodIn_of _ (by decide +kernel)) ggX9_richest_X9_isPerson
set_option maxRecDepth 20000 in
theorem ggX9_richest_X9_dealFor : GoodIn wsX9_richest wsX9_dealFor := goodIn_r _ [14, 15, 16, 3, 17, 18, 19, 20, 21, 22, 23, 24, 25, 26, 27, 28, 29, 30, 31, 32, 33, 34, 35, 36, 37, 38, 39, 40, 41, 42, 43, 44, 45, 46, 126, 127, 128, 129, 130, 131, 132, 133, 134, 135, 136, 137, 138, 139, 140, 141, 142, 143, 144, 145, 146, 147, 148, 149] (by decide +kernel) (by decide +kernel)
set_option maxRecDepth 20000 in
theorem gX9_richest_X9_dealFor : GoodIn wsX9_richest (wsV RX9 184 RX9 yX9_dealFor wsX9_dealFor) := goodIn_app (goodIn_of _ (by decide +kernel)) ggX9_richest_X9_dealFor
set_option maxRecDepth 20000 in
theorem ggX9_richest_X6_mostCoins : GoodIn wsX9_richest wsX6_mostCoins := goodIn_r _ [51, 52, 53, 54, 39, 40, 41, 55, 56, 57, 50, 58, 59, 60, 61, 62, 63, 64, 65, 66, 67, 68, 69, 70, 71, 72, 73, 74, 75, 76, 77, 78, 79, 80, 81, 82, 21, 83, 84, 85, 86, 87, 88, 89, 90, 91, 92, 93, 94, 95, 96, 97, 23, 98, 99, 100, 101, 102, 103, 104, 105, 106, 107, 29, 108, 109, 110, 111, 112, 113, 114, 115, 116, 117, 27, 25, 118, 119, 120, 121, 122, 123, 124, 125, 150, 151, 152, 153, 154, 155, 140, 141, 142, 143] (by decide +kernel) (by decide +kernel)
set_option maxRecDepth 20000 in
theorem gX9_richest_X6_mostCoins : GoodIn wsX9_richest (wsV RX9 212 RX6 yX6_mostCoins wsX6_mostCoins) := goodIn_app (goodIn_of _ (by decide +kernel)) ggX9_richest_X6_mostCoins
theorem dX9_richest_0 : decode cX9_richest 0 = .ok (.aload_n 0, 1) := by decide +kernel
theorem dX9_richest_1 : decode cX9_richest 1 = .ok (.iload_n 1, 1) := by decide +kernel
theorem dX9_richest_2 : decode cX9_richest 2 = .ok (.invokevirtual 141, 3) := by decide +kernel
theorem dX9_richest_5 : decode cX9_richest 5 = .ok (.ifCond .ne 6, 3) := by decide +kernel
theorem dX9_richest_8 : decode cX9_richest 8 = .ok (.bipush (-101), 2) := by decide +kernel
theorem dX9_richest_10 : decode cX9_richest 10 = .ok (.ireturn, 1) := by decide +kernel
theorem dX9_richest_11 : decode cX9_richest 11 = .ok (.iload_n 2, 1) := by decide +kernel
theorem dX9_richest_12 : decode cX9_richest 12 = .ok (.ifCond .lt 9, 3) := by decide +kernel
theorem dX9_richest_15 : decode cX9_richest 15 = .ok (.iload_n 2, 1) := by decide +kernel
theorem dX9_richest_16 : decode cX9_richest 16 = .ok (.bipush 8, 2) := by decide +kernel
theorem dX9_richest_18 : decode cX9_richest 18 = .ok (.if_icmp .le 6, 3) := by decide +kernel
theorem dX9_richest_21 : decode cX9_richest 21 = .ok (.bipush (-102), 2) := by decide +kernel
theorem dX9_richest_23 : decode cX9_richest 23 = .ok (.ireturn, 1) := by decide +kernel
theorem dX9_richest_24 : decode cX9_richest 24 = .ok (.aload_n 0, 1) := by decide +kernel
theorem dX9_richest_25 : decode cX9_richest 25 = .ok (.getfield 199, 3) := by decide +kernel
theorem dX9_richest_28 : decode cX9_richest 28 = .ok (.bipush 40, 2) := by decide +kernel
theorem dX9_richest_30 : decode cX9_richest 30 = .ok (.if_icmp .lt 6, 3) := by decide +kernel
theorem dX9_richest_33 : decode cX9_richest 33 = .ok (.bipush (-103), 2) := by decide +kernel
theorem dX9_richest_35 : decode cX9_richest 35 = .ok (.ireturn, 1) := by decide +kernel
theorem dX9_richest_36 : decode cX9_richest 36 = .ok (.aload_n 0, 1) := by decide +kernel
theorem dX9_richest_37 : decode cX9_richest 37 = .ok (.dup, 1) := by decide +kernel
theorem dX9_richest_38 : decode cX9_richest 38 = .ok (.getfield 199, 3) := by decide +kernel
theorem dX9_richest_41 : decode cX9_richest 41 = .ok (.iconst 1, 1) := by decide +kernel
theorem dX9_richest_42 : decode cX9_richest 42 = .ok (.iadd, 1) := by decide +kernel
theorem dX9_richest_43 : decode cX9_richest 43 = .ok (.putfield 199, 3) := by decide +kernel
theorem dX9_richest_46 : decode cX9_richest 46 = .ok (.aload_n 0, 1) := by decide +kernel
theorem dX9_richest_47 : decode cX9_richest 47 = .ok (.getfield 32, 3) := by decide +kernel
theorem dX9_richest_50 : decode cX9_richest 50 = .ok (.aload_n 0, 1) := by decide +kernel
theorem dX9_richest_51 : decode cX9_richest 51 = .ok (.iload_n 1, 1) := by decide +kernel
theorem dX9_richest_52 : decode cX9_richest 52 = .ok (.invokevirtual 184, 3) := by decide +kernel
theorem dX9_richest_55 : decode cX9_richest 55 = .ok (.aload_n 0, 1) := by decide +kernel
theorem dX9_richest_56 : decode cX9_richest 56 = .ok (.getfield 18, 3) := by decide +kernel
theorem dX9_richest_59 : decode cX9_richest 59 = .ok (.iload_n 1, 1) := by decide +kernel
theorem dX9_richest_60 : decode cX9_richest 60 = .ok (.aaload, 1) := by decide +kernel
theorem dX9_richest_61 : decode cX9_richest 61 = .ok (.getfield 138, 3) := by decide +kernel
theorem dX9_richest_64 : decode cX9_richest 64 = .ok (.iload_n 2, 1) := by decide +kernel
theorem dX9_richest_65 : decode cX9_richest 65 = .ok (.invokevirtual 212, 3) := by decide +kernel
theorem dX9_richest_68 : decode cX9_richest 68 = .ok (.ireturn, 1) := by decide +kernel
set_option maxRecDepth 20000 in
theorem ggX9_dead_X9_isPerson : GoodIn wsX9_dead wsX9_isPerson := goodIn_r _ [7, 8, 53, 54, 55, 56, 57, 58, 59, 60, 61, 62, 63, 64] (by decide +kernel) (by decide +kernel)
set_option maxRecDepth 20000 in
theorem gX9_dead_X9_isPerson : GoodIn wsX9_dead (wsV RX9 141 RX9 yX9_isPerson wsX9_isPerson) := goodIn_app (goodIn_of _ (by decide +kernel)) ggX9_dead_X9_isPerson
set_option maxRecDepth 20000 in
theorem ggX9_dead_X9_dealFor : GoodIn wsX9_dead wsX9_dealFor := goodIn_r _ [12, 13, 14, 1, 15, 16, 17, 18, 19, 20, 21, 22, 23, 24, 25, 26, 27, 28, 29, 30, 31, 32, 33, 34, 35, 36, 37, 38, 39, 40, 41, 42, 43, 44, 53, 54, 55, 56, 57, 58, 59, 60, 61, 62, 63, 64, 65, 66, 67, 68, 69, 70, 71, 72, 73, 74, 75, 76] (by decide +kernel) (by decide +kernel)
set_option maxRecDepth 20000 in
theorem gX9_dead_X9_dealFor : GoodIn wsX9_dead (wsV RX9 184 RX9 yX9_dealFor wsX9_dealFor) := goodIn_app (goodIn_of _ (by decide +kernel)) ggX9_dead_X9_dealFor
set_option maxRecDepth 20000 in
theorem ggX9_dead_X0_paysAnywhere : GoodIn wsX9_dead wsX0_paysAnywhere := goodIn_r _ [48, 27, 67, 68, 69, 70] (by decide +kernel) (by decide +kernel)
set_option maxRecDepth 20000 in
theorem gX9_dead_X0_paysAnywhere : GoodIn wsX9_dead (wsV RX9 215 RX0 yX0_paysAnywhere wsX0_paysAnywhere) := goodIn_app (goodIn_of _ (by decide +kernel)) ggX9_dead_X0_paysAnywhere
set_option maxRecDepth 20000 in
theorem ggX9_dead_X7_coinsOf : GoodIn wsX9_dead wsX7_coinsOf := goodIn_r _ [52] (by decide +kernel) (by decide +kernel)
set_option maxRecDepth 20000 in
theorem gX9_dead_X7_coinsOf : GoodIn wsX9_dead (va_wsS RX9 169 yX7_coinsOf wsX7_coinsOf) := goodIn_app (goodIn_of _ (by decide +kernel)) ggX9_dead_X7_coinsOf
theorem dX9_dead_0 : decode cX9_dead 0 = .ok (.aload_n 0, 1) := by decide +kernel
theorem dX9_dead_1 : decode cX9_dead 1 = .ok (.iload_n 1, 1) := by decide +kernel
theorem dX9_dead_2 : decode cX9_dead 2 = .ok (.invokevirtual 141, 3) := by decide +kernel
theorem dX9_dead_5 : decode cX9_dead 5 = .ok (.ifCond .ne 6, 3) := by decide +kernel
theorem dX9_dead_8 : decode cX9_dead 8 = .ok (.bipush (-101), 2) := by decide +kernel
theorem dX9_dead_10 : decode cX9_dead 10 = .ok (.ireturn, 1) := by decide +kernel
theorem dX9_dead_11 : decode cX9_dead 11 = .ok (.aload_n 0, 1) := by decide +kernel
theorem dX9_dead_12 : decode cX9_dead 12 = .ok (.iload_n 1, 1) := by decide +kernel
theorem dX9_dead_13 : decode cX9_dead 13 = .ok (.invokevirtual 184, 3) := by decide +kernel
theorem dX9_dead_16 : decode cX9_dead 16 = .ok (.astore_n 2, 1) := by decide +kernel
theorem dX9_dead_17 : decode cX9_dead 17 = .ok (.iconst 0, 1) := by decide +kernel
theorem dX9_dead_18 : decode cX9_dead 18 = .ok (.istore_n 3, 1) := by decide +kernel
theorem dX9_dead_19 : decode cX9_dead 19 = .ok (.iconst 0, 1) := by decide +kernel
theorem dX9_dead_20 : decode cX9_dead 20 = .ok (.istore 4, 2) := by decide +kernel
theorem dX9_dead_22 : decode cX9_dead 22 = .ok (.iload 4, 2) := by decide +kernel
theorem dX9_dead_24 : decode cX9_dead 24 = .ok (.iconst 4, 1) := by decide +kernel
theorem dX9_dead_25 : decode cX9_dead 25 = .ok (.if_icmp .ge 35, 3) := by decide +kernel
theorem dX9_dead_28 : decode cX9_dead 28 = .ok (.aload_n 2, 1) := by decide +kernel
theorem dX9_dead_29 : decode cX9_dead 29 = .ok (.iload 4, 2) := by decide +kernel
theorem dX9_dead_31 : decode cX9_dead 31 = .ok (.invokevirtual 215, 3) := by decide +kernel
theorem dX9_dead_34 : decode cX9_dead 34 = .ok (.ifCond .ne 20, 3) := by decide +kernel
theorem dX9_dead_37 : decode cX9_dead 37 = .ok (.iload_n 3, 1) := by decide +kernel
theorem dX9_dead_38 : decode cX9_dead 38 = .ok (.aload_n 0, 1) := by decide +kernel
theorem dX9_dead_39 : decode cX9_dead 39 = .ok (.getfield 18, 3) := by decide +kernel
theorem dX9_dead_42 : decode cX9_dead 42 = .ok (.iload_n 1, 1) := by decide +kernel
theorem dX9_dead_43 : decode cX9_dead 43 = .ok (.aaload, 1) := by decide +kernel
theorem dX9_dead_44 : decode cX9_dead 44 = .ok (.getfield 138, 3) := by decide +kernel
theorem dX9_dead_47 : decode cX9_dead 47 = .ok (.iload 4, 2) := by decide +kernel
theorem dX9_dead_49 : decode cX9_dead 49 = .ok (.invokestatic 169, 3) := by decide +kernel
theorem dX9_dead_52 : decode cX9_dead 52 = .ok (.iadd, 1) := by decide +kernel
theorem dX9_dead_53 : decode cX9_dead 53 = .ok (.istore_n 3, 1) := by decide +kernel
theorem dX9_dead_54 : decode cX9_dead 54 = .ok (.iinc 4 1, 3) := by decide +kernel
theorem dX9_dead_57 : decode cX9_dead 57 = .ok (.goto (-35), 3) := by decide +kernel
theorem dX9_dead_60 : decode cX9_dead 60 = .ok (.iload_n 3, 1) := by decide +kernel
theorem dX9_dead_61 : decode cX9_dead 61 = .ok (.ireturn, 1) := by decide +kernel
set_option maxRecDepth 20000 in
theorem ggX9_gains_X9_isTown : GoodIn wsX9_gains wsX9_isTown := goodIn_r _ [9] (by decide +kernel) (by decide +kernel)
set_option maxRecDepth 20000 in
theorem gX9_gains_X9_isTown : GoodIn wsX9_gains (va_wsS RX9 100 yX9_isTown wsX9_isTown) := goodIn_app (goodIn_of _ (by decide +kernel)) ggX9_gains_X9_isTown
set_option maxRecDepth 20000 in
theorem ggX9_gains_X9_isPrice : GoodIn wsX9_gains wsX9_isPrice := goodIn_r _ [12] (by decide +kernel) (by decide +kernel)
set_option maxRecDepth 20000 in
theorem gX9_gains_X9_isPrice : GoodIn wsX9_gains (va_wsS RX9 124 yX9_isPrice wsX9_isPrice) := goodIn_app (goodIn_of _ (by decide +kernel)) ggX9_gains_X9_isPrice
set_option maxRecDepth 20000 in
theorem ggX9_gains_X9_isLawless : GoodIn wsX9_gains wsX9_isLawless := goodIn_r _ [16, 17, 138, 139, 140, 141, 142, 143, 144, 145, 146, 147, 148, 149] (by decide +kernel) (by decide +kernel)
set_option maxRecDepth 20000 in
theorem gX9_gains_X9_isLawless : GoodIn wsX9_gains (wsV RX9 104 RX9 yX9_isLawless wsX9_isLawless) := goodIn_app (goodIn_of _ (by decide +kernel)) ggX9_gains_X9_isLawless
set_option maxRecDepth 20000 in
theorem ggX9_gains_X9_dealFor : GoodIn wsX9_gains wsX9_dealFor := goodIn_r _ [21, 22, 23, 2, 5, 24, 25, 26, 27, 28, 29, 30, 31, 32, 33, 34, 35, 36, 37, 38, 39, 40, 41, 42, 43, 44, 45, 46, 47, 48, 49, 50, 51, 52, 138, 139, 140, 141, 142, 143, 144, 145, 146, 147, 148, 149, 150, 151, 152, 153, 154, 155, 156, 157, 158, 159, 160, 161] (by decide +kernel) (by decide +kernel)
set_option maxRecDepth 20000 in
theorem gX9_gains_X9_dealFor : GoodIn wsX9_gains (wsV RX9 184 RX9 yX9_dealFor wsX9_dealFor) := goodIn_app (goodIn_of _ (by decide +kernel)) ggX9_gains_X9_dealFor
set_option maxRecDepth 20000 in
theorem ggX9_gains_X2_cost : GoodIn wsX9_gains wsX2_cost := goodIn_r _ [42, 43, 44, 45, 46, 47] (by decide +kernel) (by decide +kernel)
set_option maxRecDepth 20000 in
theorem gX9_gains_X2_cost : GoodIn wsX9_gains (wsV RX9 160 RX2 yX2_cost wsX2_cost) := goodIn_app (goodIn_of _ (by decide +kernel)) ggX9_gains_X2_cost
set_option maxRecDepth 20000 in
theorem ggX9_gains_X6_isSooner : GoodIn wsX9_gains wsX6_isSooner := goodIn_r _ [58, 59, 60, 61, 62, 63, 64, 65, 66, 67, 68, 69, 57, 70, 71, 72, 73, 74, 75, 76, 77, 78, 79, 80, 81, 82, 83, 84, 85, 86, 87, 88, 89, 90, 91, 92, 93, 94, 95, 96, 97, 98, 99, 100, 27, 101, 35, 102, 103, 104, 105, 106, 107, 108, 109, 110, 111, 112, 113, 114, 115, 116, 117, 118, 119, 120, 121, 122, 123, 124, 29, 125, 126, 127, 128, 129, 130, 131, 132, 133, 134, 135, 136, 137, 33, 31, 152, 153, 154, 155, 162, 163, 164, 165, 166, 167] (by decide +kernel) (by decide +kernel)
set_option maxRecDepth 20000 in
theorem gX9_gains_X6_isSooner : GoodIn wsX9_gains (wsV RX9 218 RX6 yX6_isSooner wsX6_isSooner) := goodIn_app (goodIn_of _ (by decide +kernel)) ggX9_gains_X6_isSooner
theorem dX9_gains_0 : decode cX9_gains 0 = .ok (.iload_n 1, 1) := by decide +kernel
theorem dX9_gains_1 : decode cX9_gains 1 = .ok (.invokestatic 100, 3) := by decide +kernel
theorem dX9_gains_4 : decode cX9_gains 4 = .ok (.ifCond .ne 6, 3) := by decide +kernel
theorem dX9_gains_7 : decode cX9_gains 7 = .ok (.bipush (-101), 2) := by decide +kernel
theorem dX9_gains_9 : decode cX9_gains 9 = .ok (.ireturn, 1) := by decide +kernel
theorem dX9_gains_10 : decode cX9_gains 10 = .ok (.iload_n 2, 1) := by decide +kernel
theorem dX9_gains_11 : decode cX9_gains 11 = .ok (.invokestatic 124, 3) := by decide +kernel
theorem dX9_gains_14 : decode cX9_gains 14 = .ok (.ifCond .ne 6, 3) := by decide +kernel
theorem dX9_gains_17 : decode cX9_gains 17 = .ok (.bipush (-102), 2) := by decide +kernel
theorem dX9_gains_19 : decode cX9_gains 19 = .ok (.ireturn, 1) := by decide +kernel
theorem dX9_gains_20 : decode cX9_gains 20 = .ok (.aload_n 0, 1) := by decide +kernel
theorem dX9_gains_21 : decode cX9_gains 21 = .ok (.invokevirtual 104, 3) := by decide +kernel
theorem dX9_gains_24 : decode cX9_gains 24 = .ok (.ifCond .eq 6, 3) := by decide +kernel
theorem dX9_gains_27 : decode cX9_gains 27 = .ok (.bipush (-103), 2) := by decide +kernel
theorem dX9_gains_29 : decode cX9_gains 29 = .ok (.ireturn, 1) := by decide +kernel
theorem dX9_gains_30 : decode cX9_gains 30 = .ok (.iconst 0, 1) := by decide +kernel
theorem dX9_gains_31 : decode cX9_gains 31 = .ok (.istore_n 3, 1) := by decide +kernel
theorem dX9_gains_32 : decode cX9_gains 32 = .ok (.iconst 0, 1) := by decide +kernel
theorem dX9_gains_33 : decode cX9_gains 33 = .ok (.istore 4, 2) := by decide +kernel
theorem dX9_gains_35 : decode cX9_gains 35 = .ok (.iload 4, 2) := by decide +kernel
theorem dX9_gains_37 : decode cX9_gains 37 = .ok (.aload_n 0, 1) := by decide +kernel
theorem dX9_gains_38 : decode cX9_gains 38 = .ok (.getfield 88, 3) := by decide +kernel
theorem dX9_gains_41 : decode cX9_gains 41 = .ok (.if_icmp .ge 56, 3) := by decide +kernel
theorem dX9_gains_44 : decode cX9_gains 44 = .ok (.aload_n 0, 1) := by decide +kernel
theorem dX9_gains_45 : decode cX9_gains 45 = .ok (.getfield 18, 3) := by decide +kernel
theorem dX9_gains_48 : decode cX9_gains 48 = .ok (.iload 4, 2) := by decide +kernel
theorem dX9_gains_50 : decode cX9_gains 50 = .ok (.aaload, 1) := by decide +kernel
theorem dX9_gains_51 : decode cX9_gains 51 = .ok (.astore 5, 2) := by decide +kernel
theorem dX9_gains_53 : decode cX9_gains 53 = .ok (.aload_n 0, 1) := by decide +kernel
theorem dX9_gains_54 : decode cX9_gains 54 = .ok (.getfield 32, 3) := by decide +kernel
theorem dX9_gains_57 : decode cX9_gains 57 = .ok (.aload_n 0, 1) := by decide +kernel
theorem dX9_gains_58 : decode cX9_gains 58 = .ok (.iload 4, 2) := by decide +kernel
theorem dX9_gains_60 : decode cX9_gains 60 = .ok (.invokevirtual 184, 3) := by decide +kernel
theorem dX9_gains_63 : decode cX9_gains 63 = .ok (.aload 5, 2) := by decide +kernel
theorem dX9_gains_65 : decode cX9_gains 65 = .ok (.getfield 138, 3) := by decide +kernel
theorem dX9_gains_68 : decode cX9_gains 68 = .ok (.iload_n 1, 1) := by decide +kernel
theorem dX9_gains_69 : decode cX9_gains 69 = .ok (.aload 5, 2) := by decide +kernel
theorem dX9_gains_71 : decode cX9_gains 71 = .ok (.getfield 134, 3) := by decide +kernel
theorem dX9_gains_74 : decode cX9_gains 74 = .ok (.iload_n 2, 1) := by decide +kernel
theorem dX9_gains_75 : decode cX9_gains 75 = .ok (.invokevirtual 160, 3) := by decide +kernel
theorem dX9_gains_78 : decode cX9_gains 78 = .ok (.invokevirtual 218, 3) := by decide +kernel
theorem dX9_gains_81 : decode cX9_gains 81 = .ok (.ifCond .eq 10, 3) := by decide +kernel
theorem dX9_gains_84 : decode cX9_gains 84 = .ok (.iload_n 3, 1) := by decide +kernel
theorem dX9_gains_85 : decode cX9_gains 85 = .ok (.iconst 1, 1) := by decide +kernel
theorem dX9_gains_86 : decode cX9_gains 86 = .ok (.iload 4, 2) := by decide +kernel
theorem dX9_gains_88 : decode cX9_gains 88 = .ok (.ishl, 1) := by decide +kernel
theorem dX9_gains_89 : decode cX9_gains 89 = .ok (.ior, 1) := by decide +kernel
theorem dX9_gains_90 : decode cX9_gains 90 = .ok (.istore_n 3, 1) := by decide +kernel
theorem dX9_gains_91 : decode cX9_gains 91 = .ok (.iinc 4 1, 3) := by decide +kernel
theorem dX9_gains_94 : decode cX9_gains 94 = .ok (.goto (-59), 3) := by decide +kernel
theorem dX9_gains_97 : decode cX9_gains 97 = .ok (.iload_n 3, 1) := by decide +kernel
theorem dX9_gains_98 : decode cX9_gains 98 = .ok (.ireturn, 1) := by decide +kernel
set_option maxRecDepth 20000 in
theorem ggX9_trail_X9_isPerson : GoodIn wsX9_trail wsX9_isPerson := goodIn_r _ [7, 8, 24, 25, 26, 27, 28, 29, 30, 31, 32, 33, 34, 35] (by decide +kernel) (by decide +kernel)
set_option maxRecDepth 20000 in
theorem gX9_trail_X9_isPerson : GoodIn wsX9_trail (wsV RX9 141 RX9 yX9_isPerson wsX9_isPerson) := goodIn_app (goodIn_of _ (by decide +kernel)) ggX9_trail_X9_isPerson
set_option maxRecDepth 20000 in
theorem ggX9_trail_X8_pursesTold : GoodIn wsX9_trail wsX8_pursesTold := goodIn_r _ [13, 14, 15, 36, 37, 38, 39, 40, 41, 42] (by decide +kernel) (by decide +kernel)
set_option maxRecDepth 20000 in
theorem gX9_trail_X8_pursesTold : GoodIn wsX9_trail (wsV RX9 222 RX8 yX8_pursesTold wsX8_pursesTold) := goodIn_app (goodIn_of _ (by decide +kernel)) ggX9_trail_X8_pursesTold
set_option maxRecDepth 20000 in
theorem ggX9_trail_X8_begin : GoodIn wsX9_trail wsX8_begin := goodIn_r _ [19, 14, 20, 21, 22, 23, 15, 36, 37, 38, 39, 40, 41, 42, 43, 44] (by decide +kernel) (by decide +kernel)
set_option maxRecDepth 20000 in
theorem gX9_trail_X8_begin : GoodIn wsX9_trail (wsV RX9 225 RX8 yX8_begin wsX8_begin) := goodIn_app (goodIn_of _ (by decide +kernel)) ggX9_trail_X8_begin
theorem dX9_trail_0 : decode cX9_trail 0 = .ok (.aload_n 0, 1) := by decide +kernel
theorem dX9_trail_1 : decode cX9_trail 1 = .ok (.iload_n 1, 1) := by decide +kernel
theorem dX9_trail_2 : decode cX9_trail 2 = .ok (.invokevirtual 141, 3) := by decide +kernel
theorem dX9_trail_5 : decode cX9_trail 5 = .ok (.ifCond .ne 6, 3) := by decide +kernel
theorem dX9_trail_8 : decode cX9_trail 8 = .ok (.bipush (-101), 2) := by decide +kernel
theorem dX9_trail_10 : decode cX9_trail 10 = .ok (.ireturn, 1) := by decide +kernel
theorem dX9_trail_11 : decode cX9_trail 11 = .ok (.aload_n 0, 1) := by decide +kernel
theorem dX9_trail_12 : decode cX9_trail 12 = .ok (.getfield 39, 3) := by decide +kernel
theorem dX9_trail_15 : decode cX9_trail 15 = .ok (.invokevirtual 222, 3) := by decide +kernel
theorem dX9_trail_18 : decode cX9_trail 18 = .ok (.istore_n 2, 1) := by decide +kernel
theorem dX9_trail_19 : decode cX9_trail 19 = .ok (.aload_n 0, 1) := by decide +kernel
theorem dX9_trail_20 : decode cX9_trail 20 = .ok (.getfield 39, 3) := by decide +kernel
theorem dX9_trail_23 : decode cX9_trail 23 = .ok (.aload_n 0, 1) := by decide +kernel
theorem dX9_trail_24 : decode cX9_trail 24 = .ok (.getfield 18, 3) := by decide +kernel
theorem dX9_trail_27 : decode cX9_trail 27 = .ok (.iload_n 1, 1) := by decide +kernel
theorem dX9_trail_28 : decode cX9_trail 28 = .ok (.aaload, 1) := by decide +kernel
theorem dX9_trail_29 : decode cX9_trail 29 = .ok (.invokevirtual 225, 3) := by decide +kernel
theorem dX9_trail_32 : decode cX9_trail 32 = .ok (.iload_n 2, 1) := by decide +kernel
theorem dX9_trail_33 : decode cX9_trail 33 = .ok (.ireturn, 1) := by decide +kernel
set_option maxRecDepth 20000 in
theorem ggX9_next_X7_purseOf : GoodIn wsX9_next wsX7_purseOf := goodIn_r _ [6, 7, 8, 5, 9] (by decide +kernel) (by decide +kernel)
set_option maxRecDepth 20000 in
theorem gX9_next_X7_purseOf : GoodIn wsX9_next (va_wsS RX9 229 yX7_purseOf wsX7_purseOf) := goodIn_app (goodIn_of _ (by decide +kernel)) ggX9_next_X7_purseOf
set_option maxRecDepth 20000 in
theorem ggX9_next_X8_add : GoodIn wsX9_next wsX8_add := goodIn_r _ [14, 15, 16, 29, 30, 31, 32, 33, 34, 35] (by decide +kernel) (by decide +kernel)
set_option maxRecDepth 20000 in
theorem gX9_next_X8_add : GoodIn wsX9_next (wsV RX9 232 RX8 yX8_add wsX8_add) := goodIn_app (goodIn_of _ (by decide +kernel)) ggX9_next_X8_add
theorem dX9_next_0 : decode cX9_next 0 = .ok (.aload_n 0, 1) := by decide +kernel
theorem dX9_next_1 : decode cX9_next 1 = .ok (.getfield 39, 3) := by decide +kernel
theorem dX9_next_4 : decode cX9_next 4 = .ok (.getfield 81, 3) := by decide +kernel
theorem dX9_next_7 : decode cX9_next 7 = .ok (.ifCond .ne 6, 3) := by decide +kernel
theorem dX9_next_10 : decode cX9_next 10 = .ok (.bipush (-103), 2) := by decide +kernel
theorem dX9_next_12 : decode cX9_next 12 = .ok (.ireturn, 1) := by decide +kernel
theorem dX9_next_13 : decode cX9_next 13 = .ok (.iload_n 1, 1) := by decide +kernel
theorem dX9_next_14 : decode cX9_next 14 = .ok (.ifCond .lt 10, 3) := by decide +kernel
theorem dX9_next_17 : decode cX9_next 17 = .ok (.iload_n 1, 1) := by decide +kernel
theorem dX9_next_18 : decode cX9_next 18 = .ok (.sipush 625, 3) := by decide +kernel
theorem dX9_next_21 : decode cX9_next 21 = .ok (.if_icmp .lt 6, 3) := by decide +kernel
theorem dX9_next_24 : decode cX9_next 24 = .ok (.bipush (-102), 2) := by decide +kernel
theorem dX9_next_26 : decode cX9_next 26 = .ok (.ireturn, 1) := by decide +kernel
theorem dX9_next_27 : decode cX9_next 27 = .ok (.aload_n 0, 1) := by decide +kernel
theorem dX9_next_28 : decode cX9_next 28 = .ok (.getfield 39, 3) := by decide +kernel
theorem dX9_next_31 : decode cX9_next 31 = .ok (.iload_n 1, 1) := by decide +kernel
theorem dX9_next_32 : decode cX9_next 32 = .ok (.invokestatic 229, 3) := by decide +kernel
theorem dX9_next_35 : decode cX9_next 35 = .ok (.invokevirtual 232, 3) := by decide +kernel
theorem dX9_next_38 : decode cX9_next 38 = .ok (.ireturn, 1) := by decide +kernel
set_option maxRecDepth 20000 in
theorem ggX9_ways_X0_set : GoodIn wsX9_ways wsX0_set := goodIn_r _ [10, 11, 12, 13, 14, 15, 16, 17, 18, 19, 20, 21, 22, 23, 24, 25, 26, 27, 28, 29, 30, 31, 32, 33, 34, 120, 121, 122, 123, 124, 125, 126, 127, 128, 129] (by decide +kernel) (by decide +kernel)
set_option maxRecDepth 20000 in
theorem gX9_ways_X0_set : GoodIn wsX9_ways (wsV RX9 235 RX0 yX0_set wsX0_set) := goodIn_app (goodIn_of _ (by decide +kernel)) ggX9_ways_X0_set
set_option maxRecDepth 20000 in
theorem ggX9_ways_X8_follow : GoodIn wsX9_ways wsX8_follow := goodIn_r _ [39, 40, 41, 42, 43, 44, 45, 46, 47, 48, 49, 50, 51, 52, 53, 54, 55, 56, 57, 38, 58, 59, 60, 61, 62, 9, 63, 64, 65, 66, 67, 68, 69, 70, 71, 72, 73, 74, 75, 76, 11, 77, 78, 79, 80, 81, 82, 83, 84, 85, 86, 17, 87, 88, 89, 90, 91, 92, 93, 94, 95, 96, 15, 13, 113, 114, 115, 116, 117, 118, 119, 120, 121, 122, 123] (by decide +kernel) (by decide +kernel)
set_option maxRecDepth 20000 in
theorem gX9_ways_X8_follow : GoodIn wsX9_ways (wsV RX9 239 RX8 yX8_follow wsX8_follow) := goodIn_app (goodIn_of _ (by decide +kernel)) ggX9_ways_X8_follow
set_option maxRecDepth 20000 in
theorem ggX9_ways_X8_rows : GoodIn wsX9_ways wsX8_rows := goodIn_r _ [100, 40, 113, 114, 115, 116, 117, 118, 119] (by decide +kernel) (by decide +kernel)
set_option maxRecDepth 20000 in
theorem gX9_ways_X8_rows : GoodIn wsX9_ways (wsV RX9 243 RX8 yX8_rows wsX8_rows) := goodIn_app (goodIn_of _ (by decide +kernel)) ggX9_ways_X8_rows
theorem dX9_ways_0 : decode cX9_ways 0 = .ok (.aload_n 0, 1) := by decide +kernel
theorem dX9_ways_1 : decode cX9_ways 1 = .ok (.getfield 39, 3) := by decide +kernel
theorem dX9_ways_4 : decode cX9_ways 4 = .ok (.getfield 81, 3) := by decide +kernel
theorem dX9_ways_7 : decode cX9_ways 7 = .ok (.ifCond .ne 6, 3) := by decide +kernel
theorem dX9_ways_10 : decode cX9_ways 10 = .ok (.bipush (-103), 2) := by decide +kernel
theorem dX9_ways_12 : decode cX9_ways 12 = .ok (.ireturn, 1) := by decide +kernel
theorem dX9_ways_13 : decode cX9_ways 13 = .ok (.aload_n 0, 1) := by decide +kernel
theorem dX9_ways_14 : decode cX9_ways 14 = .ok (.getfield 39, 3) := by decide +kernel
theorem dX9_ways_17 : decode cX9_ways 17 = .ok (.aload_n 0, 1) := by decide +kernel
theorem dX9_ways_18 : decode cX9_ways 18 = .ok (.getfield 25, 3) := by decide +kernel
theorem dX9_ways_21 : decode cX9_ways 21 = .ok (.aload_n 0, 1) := by decide +kernel
theorem dX9_ways_22 : decode cX9_ways 22 = .ok (.getfield 53, 3) := by decide +kernel
theorem dX9_ways_25 : decode cX9_ways 25 = .ok (.aload_n 0, 1) := by decide +kernel
theorem dX9_ways_26 : decode cX9_ways 26 = .ok (.getfield 39, 3) := by decide +kernel
theorem dX9_ways_29 : decode cX9_ways 29 = .ok (.getfield 234, 3) := by decide +kernel
theorem dX9_ways_32 : decode cX9_ways 32 = .ok (.invokevirtual 235, 3) := by decide +kernel
theorem dX9_ways_35 : decode cX9_ways 35 = .ok (.invokevirtual 239, 3) := by decide +kernel
theorem dX9_ways_38 : decode cX9_ways 38 = .ok (.aload_n 0, 1) := by decide +kernel
theorem dX9_ways_39 : decode cX9_ways 39 = .ok (.getfield 39, 3) := by decide +kernel
theorem dX9_ways_42 : decode cX9_ways 42 = .ok (.invokevirtual 243, 3) := by decide +kernel
theorem dX9_ways_45 : decode cX9_ways 45 = .ok (.ireturn, 1) := by decide +kernel
set_option maxRecDepth 20000 in
theorem ggX9_ends_X0_set : GoodIn wsX9_ends wsX0_set := goodIn_r _ [10, 11, 12, 13, 14, 15, 16, 17, 18, 19, 20, 21, 22, 23, 24, 25, 26, 27, 28, 29, 30, 31, 32, 33, 34, 121, 122, 123, 124, 125, 126, 127, 128, 129, 130] (by decide +kernel) (by decide +kernel)
set_option maxRecDepth 20000 in
theorem gX9_ends_X0_set : GoodIn wsX9_ends (wsV RX9 235 RX0 yX0_set wsX0_set) := goodIn_app (goodIn_of _ (by decide +kernel)) ggX9_ends_X0_set
set_option maxRecDepth 20000 in
theorem ggX9_ends_X8_follow : GoodIn wsX9_ends wsX8_follow := goodIn_r _ [39, 40, 41, 42, 43, 44, 45, 46, 47, 48, 49, 50, 51, 52, 53, 54, 55, 56, 57, 38, 58, 59, 60, 61, 62, 9, 63, 64, 65, 66, 67, 68, 69, 70, 71, 72, 73, 74, 75, 76, 11, 77, 78, 79, 80, 81, 82, 83, 84, 85, 86, 17, 87, 88, 89, 90, 91, 92, 93, 94, 95, 96, 15, 13, 114, 115, 116, 117, 118, 119, 120, 121, 122, 123, 124] (by decide +kernel) (by decide +kernel)
set_option maxRecDepth 20000 in
theorem gX9_ends_X8_follow : GoodIn wsX9_ends (wsV RX9 239 RX8 yX8_follow wsX8_follow) := goodIn_app (goodIn_of _ (by decide +kernel)) ggX9_ends_X8_follow
set_option maxRecDepth 20000 in
theorem ggX9_ends_X8_towns : GoodIn wsX9_ends wsX8_towns := goodIn_r _ [100, 40, 101, 68, 50, 69, 114, 115, 116, 117, 118, 119, 120] (by decide +kernel) (by decide +kernel)
set_option maxRecDepth 20000 in
theorem gX9_ends_X8_towns : GoodIn wsX9_ends (wsV RX9 246 RX8 yX8_towns wsX8_towns) := goodIn_app (goodIn_of _ (by decide +kernel)) ggX9_ends_X8_towns
theorem dX9_ends_0 : decode cX9_ends 0 = .ok (.aload_n 0, 1) := by decide +kernel
theorem dX9_ends_1 : decode cX9_ends 1 = .ok (.getfield 39, 3) := by decide +kernel
theorem dX9_ends_4 : decode cX9_ends 4 = .ok (.getfield 81, 3) := by decide +kernel
theorem dX9_ends_7 : decode cX9_ends 7 = .ok (.ifCond .ne 6, 3) := by decide +kernel
theorem dX9_ends_10 : decode cX9_ends 10 = .ok (.bipush (-103), 2) := by decide +kernel
theorem dX9_ends_12 : decode cX9_ends 12 = .ok (.ireturn, 1) := by decide +kernel
theorem dX9_ends_13 : decode cX9_ends 13 = .ok (.aload_n 0, 1) := by decide +kernel
theorem dX9_ends_14 : decode cX9_ends 14 = .ok (.getfield 39, 3) := by decide +kernel
theorem dX9_ends_17 : decode cX9_ends 17 = .ok (.aload_n 0, 1) := by decide +kernel
theorem dX9_ends_18 : decode cX9_ends 18 = .ok (.getfield 25, 3) := by decide +kernel
theorem dX9_ends_21 : decode cX9_ends 21 = .ok (.aload_n 0, 1) := by decide +kernel
theorem dX9_ends_22 : decode cX9_ends 22 = .ok (.getfield 53, 3) := by decide +kernel
theorem dX9_ends_25 : decode cX9_ends 25 = .ok (.aload_n 0, 1) := by decide +kernel
theorem dX9_ends_26 : decode cX9_ends 26 = .ok (.getfield 39, 3) := by decide +kernel
theorem dX9_ends_29 : decode cX9_ends 29 = .ok (.getfield 234, 3) := by decide +kernel
theorem dX9_ends_32 : decode cX9_ends 32 = .ok (.invokevirtual 235, 3) := by decide +kernel
theorem dX9_ends_35 : decode cX9_ends 35 = .ok (.invokevirtual 239, 3) := by decide +kernel
theorem dX9_ends_38 : decode cX9_ends 38 = .ok (.aload_n 0, 1) := by decide +kernel
theorem dX9_ends_39 : decode cX9_ends 39 = .ok (.getfield 39, 3) := by decide +kernel
theorem dX9_ends_42 : decode cX9_ends 42 = .ok (.invokevirtual 246, 3) := by decide +kernel
theorem dX9_ends_45 : decode cX9_ends 45 = .ok (.ireturn, 1) := by decide +kernel
set_option maxRecDepth 20000 in
theorem ggX9_walk_X9_isPerson : GoodIn wsX9_walk wsX9_isPerson := goodIn_r _ [8, 9, 106, 107, 108, 109, 110, 111, 112, 113, 114, 115, 116, 117] (by decide +kernel) (by decide +kernel)
set_option maxRecDepth 20000 in
theorem gX9_walk_X9_isPerson : GoodIn wsX9_walk (wsV RX9 141 RX9 yX9_isPerson wsX9_isPerson) := goodIn_app (goodIn_of _ (by decide +kernel)) ggX9_walk_X9_isPerson
set_option maxRecDepth 20000 in
theorem ggX9_walk_X9_dealFor : GoodIn wsX9_walk wsX9_dealFor := goodIn_r _ [13, 14, 15, 1, 16, 17, 18, 19, 20, 21, 22, 23, 24, 25, 26, 27, 28, 29, 30, 31, 32, 33, 34, 35, 36, 37, 38, 39, 40, 41, 42, 43, 44, 45, 106, 107, 108, 109, 110, 111, 112, 113, 114, 115, 116, 117, 118, 119, 120, 121, 122, 123, 124, 125, 126, 127, 128, 129] (by decide +kernel) (by decide +kernel)
set_option maxRecDepth 20000 in
theorem gX9_walk_X9_dealFor : GoodIn wsX9_walk (wsV RX9 184 RX9 yX9_dealFor wsX9_dealFor) := goodIn_app (goodIn_of _ (by decide +kernel)) ggX9_walk_X9_dealFor
set_option maxRecDepth 20000 in
theorem ggX9_walk_X9_seedBehind : GoodIn wsX9_walk wsX9_seedBehind := goodIn_r _ [48, 49, 50, 51] (by decide +kernel) (by decide +kernel)
set_option maxRecDepth 20000 in
theorem gX9_walk_X9_seedBehind : GoodIn wsX9_walk (va_wsS RX9 249 yX9_seedBehind wsX9_seedBehind) := goodIn_app (goodIn_of _ (by decide +kernel)) ggX9_walk_X9_seedBehind
set_option maxRecDepth 20000 in
theorem ggX9_walk_X0_afterDraw : GoodIn wsX9_walk wsX0_afterDraw := goodIn_r _ [55, 56, 57, 58, 20, 59, 60, 61, 62, 63, 64, 65, 66, 67, 68, 69, 70, 71, 72, 73, 74, 75, 76, 77, 22, 78, 79, 80, 81, 82, 83, 84, 85, 86, 87, 28, 88, 89, 90, 91, 92, 93, 94, 95, 96, 97, 26, 24, 120, 121, 122, 123] (by decide +kernel) (by decide +kernel)
set_option maxRecDepth 20000 in
theorem gX9_walk_X0_afterDraw : GoodIn wsX9_walk (wsV RX9 253 RX0 yX0_afterDraw wsX0_afterDraw) := goodIn_app (goodIn_of _ (by decide +kernel)) ggX9_walk_X0_afterDraw
set_option maxRecDepth 20000 in
theorem ggX9_walk_X7_townOf : GoodIn wsX9_walk wsX7_townOf := goodIn_r _ [70] (by decide +kernel) (by decide +kernel)
set_option maxRecDepth 20000 in
theorem gX9_walk_X7_townOf : GoodIn wsX9_walk (va_wsS RX9 144 yX7_townOf wsX7_townOf) := goodIn_app (goodIn_of _ (by decide +kernel)) ggX9_walk_X7_townOf
set_option maxRecDepth 20000 in
theorem ggX9_walk_X7_coinsTogether : GoodIn wsX9_walk wsX7_coinsTogether := goodIn_r _ [101, 102, 82, 69, 83] (by decide +kernel) (by decide +kernel)
set_option maxRecDepth 20000 in
theorem gX9_walk_X7_coinsTogether : GoodIn wsX9_walk (va_wsS RX9 157 yX7_coinsTogether wsX7_coinsTogether) := goodIn_app (goodIn_of _ (by decide +kernel)) ggX9_walk_X7_coinsTogether
set_option maxRecDepth 20000 in
theorem ggX9_walk_X7_goodsOf : GoodIn wsX9_walk wsX7_goodsOf := goodIn_r _ [105] (by decide +kernel) (by decide +kernel)
set_option maxRecDepth 20000 in
theorem gX9_walk_X7_goodsOf : GoodIn wsX9_walk (va_wsS RX9 154 yX7_goodsOf wsX7_goodsOf) := goodIn_app (goodIn_of _ (by decide +kernel)) ggX9_walk_X7_goodsOf
theorem dX9_walk_0 : decode cX9_walk 0 = .ok (.aload_n 0, 1) := by decide +kernel
theorem dX9_walk_1 : decode cX9_walk 1 = .ok (.iload_n 1, 1) := by decide +kernel
theorem dX9_walk_2 : decode cX9_walk 2 = .ok (.invokevirtual 141, 3) := by decide +kernel
theorem dX9_walk_5 : decode cX9_walk 5 = .ok (.ifCond .ne 6, 3) := by decide +kernel
theorem dX9_walk_8 : decode cX9_walk 8 = .ok (.bipush (-101), 2) := by decide +kernel
theorem dX9_walk_10 : decode cX9_walk 10 = .ok (.ireturn, 1) := by decide +kernel
theorem dX9_walk_11 : decode cX9_walk 11 = .ok (.iload_n 2, 1) := by decide +kernel
theorem dX9_walk_12 : decode cX9_walk 12 = .ok (.iconst 1, 1) := by decide +kernel
theorem dX9_walk_13 : decode cX9_walk 13 = .ok (.if_icmp .lt 24, 3) := by decide +kernel
theorem dX9_walk_16 : decode cX9_walk 16 = .ok (.iload_n 2, 1) := by decide +kernel
theorem dX9_walk_17 : decode cX9_walk 17 = .ok (.bipush 60, 2) := by decide +kernel
theorem dX9_walk_19 : decode cX9_walk 19 = .ok (.if_icmp .gt 18, 3) := by decide +kernel
theorem dX9_walk_22 : decode cX9_walk 22 = .ok (.iload_n 3, 1) := by decide +kernel
theorem dX9_walk_23 : decode cX9_walk 23 = .ok (.ifCond .lt 14, 3) := by decide +kernel
theorem dX9_walk_26 : decode cX9_walk 26 = .ok (.iload 4, 2) := by decide +kernel
theorem dX9_walk_28 : decode cX9_walk 28 = .ok (.ifCond .lt 9, 3) := by decide +kernel
theorem dX9_walk_31 : decode cX9_walk 31 = .ok (.iload 4, 2) := by decide +kernel
theorem dX9_walk_33 : decode cX9_walk 33 = .ok (.iconst 3, 1) := by decide +kernel
theorem dX9_walk_34 : decode cX9_walk 34 = .ok (.if_icmp .le 6, 3) := by decide +kernel
theorem dX9_walk_37 : decode cX9_walk 37 = .ok (.bipush (-102), 2) := by decide +kernel
theorem dX9_walk_39 : decode cX9_walk 39 = .ok (.ireturn, 1) := by decide +kernel
theorem dX9_walk_40 : decode cX9_walk 40 = .ok (.aload_n 0, 1) := by decide +kernel
theorem dX9_walk_41 : decode cX9_walk 41 = .ok (.iload_n 1, 1) := by decide +kernel
theorem dX9_walk_42 : decode cX9_walk 42 = .ok (.invokevirtual 184, 3) := by decide +kernel
theorem dX9_walk_45 : decode cX9_walk 45 = .ok (.astore 5, 2) := by decide +kernel
theorem dX9_walk_47 : decode cX9_walk 47 = .ok (.aload_n 0, 1) := by decide +kernel
theorem dX9_walk_48 : decode cX9_walk 48 = .ok (.getfield 18, 3) := by decide +kernel
theorem dX9_walk_51 : decode cX9_walk 51 = .ok (.iload_n 1, 1) := by decide +kernel
theorem dX9_walk_52 : decode cX9_walk 52 = .ok (.aaload, 1) := by decide +kernel
theorem dX9_walk_53 : decode cX9_walk 53 = .ok (.getfield 138, 3) := by decide +kernel
theorem dX9_walk_56 : decode cX9_walk 56 = .ok (.istore 6, 2) := by decide +kernel
theorem dX9_walk_58 : decode cX9_walk 58 = .ok (.iload_n 3, 1) := by decide +kernel
theorem dX9_walk_59 : decode cX9_walk 59 = .ok (.istore 7, 2) := by decide +kernel
theorem dX9_walk_61 : decode cX9_walk 61 = .ok (.iconst 0, 1) := by decide +kernel
theorem dX9_walk_62 : decode cX9_walk 62 = .ok (.istore 8, 2) := by decide +kernel
theorem dX9_walk_64 : decode cX9_walk 64 = .ok (.iload 8, 2) := by decide +kernel
theorem dX9_walk_66 : decode cX9_walk 66 = .ok (.iload_n 2, 1) := by decide +kernel
theorem dX9_walk_67 : decode cX9_walk 67 = .ok (.if_icmp .ge 30, 3) := by decide +kernel
theorem dX9_walk_70 : decode cX9_walk 70 = .ok (.iload 7, 2) := by decide +kernel
theorem dX9_walk_72 : decode cX9_walk 72 = .ok (.invokestatic 249, 3) := by decide +kernel
theorem dX9_walk_75 : decode cX9_walk 75 = .ok (.istore 7, 2) := by decide +kernel
theorem dX9_walk_77 : decode cX9_walk 77 = .ok (.aload 5, 2) := by decide +kernel
theorem dX9_walk_79 : decode cX9_walk 79 = .ok (.iload 6, 2) := by decide +kernel
theorem dX9_walk_81 : decode cX9_walk 81 = .ok (.iload 7, 2) := by decide +kernel
theorem dX9_walk_83 : decode cX9_walk 83 = .ok (.ldc 252, 2) := by decide +kernel
theorem dX9_walk_85 : decode cX9_walk 85 = .ok (.idiv, 1) := by decide +kernel
theorem dX9_walk_86 : decode cX9_walk 86 = .ok (.invokevirtual 253, 3) := by decide +kernel
theorem dX9_walk_89 : decode cX9_walk 89 = .ok (.istore 6, 2) := by decide +kernel
theorem dX9_walk_91 : decode cX9_walk 91 = .ok (.iinc 8 1, 3) := by decide +kernel
theorem dX9_walk_94 : decode cX9_walk 94 = .ok (.goto (-30), 3) := by decide +kernel
theorem dX9_walk_97 : decode cX9_walk 97 = .ok (.iload 4, 2) := by decide +kernel
theorem dX9_walk_99 : decode cX9_walk 99 = .ok (.tableswitch 43 0 2 #[25, 31, 37], 25) := by decide +kernel
theorem dX9_walk_124 : decode cX9_walk 124 = .ok (.iload 6, 2) := by decide +kernel
theorem dX9_walk_126 : decode cX9_walk 126 = .ok (.invokestatic 144, 3) := by decide +kernel
theorem dX9_walk_129 : decode cX9_walk 129 = .ok (.ireturn, 1) := by decide +kernel
theorem dX9_walk_130 : decode cX9_walk 130 = .ok (.iload 6, 2) := by decide +kernel
theorem dX9_walk_132 : decode cX9_walk 132 = .ok (.invokestatic 157, 3) := by decide +kernel
theorem dX9_walk_135 : decode cX9_walk 135 = .ok (.ireturn, 1) := by decide +kernel
theorem dX9_walk_136 : decode cX9_walk 136 = .ok (.iload 6, 2) := by decide +kernel
theorem dX9_walk_138 : decode cX9_walk 138 = .ok (.invokestatic 154, 3) := by decide +kernel
theorem dX9_walk_141 : decode cX9_walk 141 = .ok (.ireturn, 1) := by decide +kernel
theorem dX9_walk_142 : decode cX9_walk 142 = .ok (.iload 7, 2) := by decide +kernel
theorem dX9_walk_144 : decode cX9_walk 144 = .ok (.ireturn, 1) := by decide +kernel
set_option maxRecDepth 20000 in
theorem ggX9_image_X9_isLawless : GoodIn wsX9_image wsX9_isLawless := goodIn_r _ [17, 18, 19, 20, 21, 22, 23, 24, 25, 26, 27, 28, 29, 30] (by decide +kernel) (by decide +kernel)
set_option maxRecDepth 20000 in
theorem gX9_image_X9_isLawless : GoodIn wsX9_image (wsV RX9 104 RX9 yX9_isLawless wsX9_isLawless) := goodIn_app (goodIn_of _ (by decide +kernel)) ggX9_image_X9_isLawless
theorem dX9_image_0 : decode cX9_image 0 = .ok (.aload_n 0, 1) := by decide +kernel
theorem dX9_image_1 : decode cX9_image 1 = .ok (.invokevirtual 104, 3) := by decide +kernel
theorem dX9_image_4 : decode cX9_image 4 = .ok (.ifCond .eq 6, 3) := by decide +kernel
theorem dX9_image_7 : decode cX9_image 7 = .ok (.bipush (-103), 2) := by decide +kernel
theorem dX9_image_9 : decode cX9_image 9 = .ok (.ireturn, 1) := by decide +kernel
theorem dX9_image_10 : decode cX9_image 10 = .ok (.aload_n 0, 1) := by decide +kernel
theorem dX9_image_11 : decode cX9_image 11 = .ok (.getfield 46, 3) := by decide +kernel
theorem dX9_image_14 : decode cX9_image 14 = .ok (.iconst 1, 1) := by decide +kernel
theorem dX9_image_15 : decode cX9_image 15 = .ok (.putfield 85, 3) := by decide +kernel
theorem dX9_image_18 : decode cX9_image 18 = .ok (.aload_n 0, 1) := by decide +kernel
theorem dX9_image_19 : decode cX9_image 19 = .ok (.getfield 46, 3) := by decide +kernel
theorem dX9_image_22 : decode cX9_image 22 = .ok (.aload_n 0, 1) := by decide +kernel
theorem dX9_image_23 : decode cX9_image 23 = .ok (.getfield 88, 3) := by decide +kernel
theorem dX9_image_26 : decode cX9_image 26 = .ok (.putfield 256, 3) := by decide +kernel
theorem dX9_image_29 : decode cX9_image 29 = .ok (.aload_n 0, 1) := by decide +kernel
theorem dX9_image_30 : decode cX9_image 30 = .ok (.getfield 46, 3) := by decide +kernel
theorem dX9_image_33 : decode cX9_image 33 = .ok (.aload_n 0, 1) := by decide +kernel
theorem dX9_image_34 : decode cX9_image 34 = .ok (.getfield 91, 3) := by decide +kernel
theorem dX9_image_37 : decode cX9_image 37 = .ok (.putfield 257, 3) := by decide +kernel
theorem dX9_image_40 : decode cX9_image 40 = .ok (.iconst 0, 1) := by decide +kernel
theorem dX9_image_41 : decode cX9_image 41 = .ok (.istore_n 1, 1) := by decide +kernel
theorem dX9_image_42 : decode cX9_image 42 = .ok (.iload_n 1, 1) := by decide +kernel
theorem dX9_image_43 : decode cX9_image 43 = .ok (.iconst 5, 1) := by decide +kernel
theorem dX9_image_44 : decode cX9_image 44 = .ok (.if_icmp .ge 27, 3) := by decide +kernel
theorem dX9_image_47 : decode cX9_image 47 = .ok (.aload_n 0, 1) := by decide +kernel
theorem dX9_image_48 : decode cX9_image 48 = .ok (.getfield 46, 3) := by decide +kernel
theorem dX9_image_51 : decode cX9_image 51 = .ok (.getfield 258, 3) := by decide +kernel
theorem dX9_image_54 : decode cX9_image 54 = .ok (.iload_n 1, 1) := by decide +kernel
theorem dX9_image_55 : decode cX9_image 55 = .ok (.aload_n 0, 1) := by decide +kernel
theorem dX9_image_56 : decode cX9_image 56 = .ok (.getfield 18, 3) := by decide +kernel
theorem dX9_image_59 : decode cX9_image 59 = .ok (.iload_n 1, 1) := by decide +kernel
theorem dX9_image_60 : decode cX9_image 60 = .ok (.aaload, 1) := by decide +kernel
theorem dX9_image_61 : decode cX9_image 61 = .ok (.getfield 138, 3) := by decide +kernel
theorem dX9_image_64 : decode cX9_image 64 = .ok (.iastore, 1) := by decide +kernel
theorem dX9_image_65 : decode cX9_image 65 = .ok (.iinc 1 1, 3) := by decide +kernel
theorem dX9_image_68 : decode cX9_image 68 = .ok (.goto (-26), 3) := by decide +kernel
theorem dX9_image_71 : decode cX9_image 71 = .ok (.iconst 0, 1) := by decide +kernel
theorem dX9_image_72 : decode cX9_image 72 = .ok (.istore_n 1, 1) := by decide +kernel
theorem dX9_image_73 : decode cX9_image 73 = .ok (.iload_n 1, 1) := by decide +kernel
theorem dX9_image_74 : decode cX9_image 74 = .ok (.iconst 4, 1) := by decide +kernel
theorem dX9_image_75 : decode cX9_image 75 = .ok (.if_icmp .ge 27, 3) := by decide +kernel
theorem dX9_image_78 : decode cX9_image 78 = .ok (.aload_n 0, 1) := by decide +kernel
theorem dX9_image_79 : decode cX9_image 79 = .ok (.getfield 46, 3) := by decide +kernel
theorem dX9_image_82 : decode cX9_image 82 = .ok (.getfield 260, 3) := by decide +kernel
theorem dX9_image_85 : decode cX9_image 85 = .ok (.iload_n 1, 1) := by decide +kernel
theorem dX9_image_86 : decode cX9_image 86 = .ok (.aload_n 0, 1) := by decide +kernel
theorem dX9_image_87 : decode cX9_image 87 = .ok (.getfield 53, 3) := by decide +kernel
theorem dX9_image_90 : decode cX9_image 90 = .ok (.getfield 114, 3) := by decide +kernel
theorem dX9_image_93 : decode cX9_image 93 = .ok (.iload_n 1, 1) := by decide +kernel
theorem dX9_image_94 : decode cX9_image 94 = .ok (.iaload, 1) := by decide +kernel
theorem dX9_image_95 : decode cX9_image 95 = .ok (.iastore, 1) := by decide +kernel
theorem dX9_image_96 : decode cX9_image 96 = .ok (.iinc 1 1, 3) := by decide +kernel
theorem dX9_image_99 : decode cX9_image 99 = .ok (.goto (-26), 3) := by decide +kernel
theorem dX9_image_102 : decode cX9_image 102 = .ok (.aload_n 0, 1) := by decide +kernel
theorem dX9_image_103 : decode cX9_image 103 = .ok (.getfield 88, 3) := by decide +kernel
theorem dX9_image_106 : decode cX9_image 106 = .ok (.ireturn, 1) := by decide +kernel
theorem dX9_restore_0 : decode cX9_restore 0 = .ok (.aload_n 0, 1) := by decide +kernel
theorem dX9_restore_1 : decode cX9_restore 1 = .ok (.getfield 46, 3) := by decide +kernel
theorem dX9_restore_4 : decode cX9_restore 4 = .ok (.getfield 85, 3) := by decide +kernel
theorem dX9_restore_7 : decode cX9_restore 7 = .ok (.ifCond .ne 6, 3) := by decide +kernel
theorem dX9_restore_10 : decode cX9_restore 10 = .ok (.bipush (-103), 2) := by decide +kernel
theorem dX9_restore_12 : decode cX9_restore 12 = .ok (.ireturn, 1) := by decide +kernel
theorem dX9_restore_13 : decode cX9_restore 13 = .ok (.aload_n 0, 1) := by decide +kernel
theorem dX9_restore_14 : decode cX9_restore 14 = .ok (.getfield 39, 3) := by decide +kernel
theorem dX9_restore_17 : decode cX9_restore 17 = .ok (.iconst 0, 1) := by decide +kernel
theorem dX9_restore_18 : decode cX9_restore 18 = .ok (.putfield 81, 3) := by decide +kernel
theorem dX9_restore_21 : decode cX9_restore 21 = .ok (.aload_n 0, 1) := by decide +kernel
theorem dX9_restore_22 : decode cX9_restore 22 = .ok (.aload_n 0, 1) := by decide +kernel
theorem dX9_restore_23 : decode cX9_restore 23 = .ok (.getfield 46, 3) := by decide +kernel
theorem dX9_restore_26 : decode cX9_restore 26 = .ok (.getfield 256, 3) := by decide +kernel
theorem dX9_restore_29 : decode cX9_restore 29 = .ok (.putfield 88, 3) := by decide +kernel
theorem dX9_restore_32 : decode cX9_restore 32 = .ok (.aload_n 0, 1) := by decide +kernel
theorem dX9_restore_33 : decode cX9_restore 33 = .ok (.aload_n 0, 1) := by decide +kernel
theorem dX9_restore_34 : decode cX9_restore 34 = .ok (.getfield 46, 3) := by decide +kernel
theorem dX9_restore_37 : decode cX9_restore 37 = .ok (.getfield 257, 3) := by decide +kernel
theorem dX9_restore_40 : decode cX9_restore 40 = .ok (.putfield 91, 3) := by decide +kernel
theorem dX9_restore_43 : decode cX9_restore 43 = .ok (.iconst 0, 1) := by decide +kernel
theorem dX9_restore_44 : decode cX9_restore 44 = .ok (.istore_n 1, 1) := by decide +kernel
theorem dX9_restore_45 : decode cX9_restore 45 = .ok (.iload_n 1, 1) := by decide +kernel
theorem dX9_restore_46 : decode cX9_restore 46 = .ok (.iconst 5, 1) := by decide +kernel
theorem dX9_restore_47 : decode cX9_restore 47 = .ok (.if_icmp .ge 27, 3) := by decide +kernel
theorem dX9_restore_50 : decode cX9_restore 50 = .ok (.aload_n 0, 1) := by decide +kernel
theorem dX9_restore_51 : decode cX9_restore 51 = .ok (.getfield 18, 3) := by decide +kernel
theorem dX9_restore_54 : decode cX9_restore 54 = .ok (.iload_n 1, 1) := by decide +kernel
theorem dX9_restore_55 : decode cX9_restore 55 = .ok (.aaload, 1) := by decide +kernel
theorem dX9_restore_56 : decode cX9_restore 56 = .ok (.aload_n 0, 1) := by decide +kernel
theorem dX9_restore_57 : decode cX9_restore 57 = .ok (.getfield 46, 3) := by decide +kernel
theorem dX9_restore_60 : decode cX9_restore 60 = .ok (.getfield 258, 3) := by decide +kernel
theorem dX9_restore_63 : decode cX9_restore 63 = .ok (.iload_n 1, 1) := by decide +kernel
theorem dX9_restore_64 : decode cX9_restore 64 = .ok (.iaload, 1) := by decide +kernel
theorem dX9_restore_65 : decode cX9_restore 65 = .ok (.putfield 138, 3) := by decide +kernel
theorem dX9_restore_68 : decode cX9_restore 68 = .ok (.iinc 1 1, 3) := by decide +kernel
theorem dX9_restore_71 : decode cX9_restore 71 = .ok (.goto (-26), 3) := by decide +kernel
theorem dX9_restore_74 : decode cX9_restore 74 = .ok (.iconst 0, 1) := by decide +kernel
theorem dX9_restore_75 : decode cX9_restore 75 = .ok (.istore_n 1, 1) := by decide +kernel
theorem dX9_restore_76 : decode cX9_restore 76 = .ok (.iload_n 1, 1) := by decide +kernel
theorem dX9_restore_77 : decode cX9_restore 77 = .ok (.iconst 4, 1) := by decide +kernel
theorem dX9_restore_78 : decode cX9_restore 78 = .ok (.if_icmp .ge 27, 3) := by decide +kernel
theorem dX9_restore_81 : decode cX9_restore 81 = .ok (.aload_n 0, 1) := by decide +kernel
theorem dX9_restore_82 : decode cX9_restore 82 = .ok (.getfield 53, 3) := by decide +kernel
theorem dX9_restore_85 : decode cX9_restore 85 = .ok (.getfield 114, 3) := by decide +kernel
theorem dX9_restore_88 : decode cX9_restore 88 = .ok (.iload_n 1, 1) := by decide +kernel
theorem dX9_restore_89 : decode cX9_restore 89 = .ok (.aload_n 0, 1) := by decide +kernel
theorem dX9_restore_90 : decode cX9_restore 90 = .ok (.getfield 46, 3) := by decide +kernel
theorem dX9_restore_93 : decode cX9_restore 93 = .ok (.getfield 260, 3) := by decide +kernel
theorem dX9_restore_96 : decode cX9_restore 96 = .ok (.iload_n 1, 1) := by decide +kernel
theorem dX9_restore_97 : decode cX9_restore 97 = .ok (.iaload, 1) := by decide +kernel
theorem dX9_restore_98 : decode cX9_restore 98 = .ok (.iastore, 1) := by decide +kernel
theorem dX9_restore_99 : decode cX9_restore 99 = .ok (.iinc 1 1, 3) := by decide +kernel
theorem dX9_restore_102 : decode cX9_restore 102 = .ok (.goto (-26), 3) := by decide +kernel
theorem dX9_restore_105 : decode cX9_restore 105 = .ok (.aload_n 0, 1) := by decide +kernel
theorem dX9_restore_106 : decode cX9_restore 106 = .ok (.getfield 88, 3) := by decide +kernel
theorem dX9_restore_109 : decode cX9_restore 109 = .ok (.ireturn, 1) := by decide +kernel
set_option maxRecDepth 20000 in
theorem ggX9_count_X9_coinsOfAll : GoodIn wsX9_count wsX9_coinsOfAll := goodIn_r _ [12, 1, 13, 14, 15, 16, 17, 18, 19, 20, 21, 43, 44, 45, 46, 47, 48, 49, 50, 51, 52, 53, 54, 57, 58] (by decide +kernel) (by decide +kernel)
set_option maxRecDepth 20000 in
theorem gX9_count_X9_coinsOfAll : GoodIn wsX9_count (wsV RX9 261 RX9 yX9_coinsOfAll wsX9_coinsOfAll) := goodIn_app (goodIn_of _ (by decide +kernel)) ggX9_count_X9_coinsOfAll
set_option maxRecDepth 20000 in
theorem ggX9_count_X9_goodsOfAll : GoodIn wsX9_count wsX9_goodsOfAll := goodIn_r _ [25, 1, 13, 14, 26, 27, 17, 28, 29, 30, 31, 32, 33, 34, 35, 43, 44, 45, 46, 47, 48, 49, 50, 51, 52, 53, 54, 57, 58] (by decide +kernel) (by decide +kernel)
set_option maxRecDepth 20000 in
theorem gX9_count_X9_goodsOfAll : GoodIn wsX9_count (wsV RX9 264 RX9 yX9_goodsOfAll wsX9_goodsOfAll) := goodIn_app (goodIn_of _ (by decide +kernel)) ggX9_count_X9_goodsOfAll
set_option maxRecDepth 20000 in
theorem ggX9_count_X8_pursesTold : GoodIn wsX9_count wsX8_pursesTold := goodIn_r _ [40, 41, 42, 59, 60, 61, 62, 63, 64, 65] (by decide +kernel) (by decide +kernel)
set_option maxRecDepth 20000 in
theorem gX9_count_X8_pursesTold : GoodIn wsX9_count (wsV RX9 222 RX8 yX8_pursesTold wsX8_pursesTold) := goodIn_app (goodIn_of _ (by decide +kernel)) ggX9_count_X8_pursesTold
theorem dX9_count_0 : decode cX9_count 0 = .ok (.iload_n 1, 1) := by decide +kernel
theorem dX9_count_1 : decode cX9_count 1 = .ok (.tableswitch 93 0 7 #[47, 52, 57, 62, 67, 75, 83, 88], 47) := by decide +kernel
theorem dX9_count_48 : decode cX9_count 48 = .ok (.aload_n 0, 1) := by decide +kernel
theorem dX9_count_49 : decode cX9_count 49 = .ok (.invokevirtual 261, 3) := by decide +kernel
theorem dX9_count_52 : decode cX9_count 52 = .ok (.ireturn, 1) := by decide +kernel
theorem dX9_count_53 : decode cX9_count 53 = .ok (.aload_n 0, 1) := by decide +kernel
theorem dX9_count_54 : decode cX9_count 54 = .ok (.getfield 88, 3) := by decide +kernel
theorem dX9_count_57 : decode cX9_count 57 = .ok (.ireturn, 1) := by decide +kernel
theorem dX9_count_58 : decode cX9_count 58 = .ok (.aload_n 0, 1) := by decide +kernel
theorem dX9_count_59 : decode cX9_count 59 = .ok (.invokevirtual 264, 3) := by decide +kernel
theorem dX9_count_62 : decode cX9_count 62 = .ok (.ireturn, 1) := by decide +kernel
theorem dX9_count_63 : decode cX9_count 63 = .ok (.aload_n 0, 1) := by decide +kernel
theorem dX9_count_64 : decode cX9_count 64 = .ok (.getfield 91, 3) := by decide +kernel
theorem dX9_count_67 : decode cX9_count 67 = .ok (.ireturn, 1) := by decide +kernel
theorem dX9_count_68 : decode cX9_count 68 = .ok (.aload_n 0, 1) := by decide +kernel
theorem dX9_count_69 : decode cX9_count 69 = .ok (.getfield 39, 3) := by decide +kernel
theorem dX9_count_72 : decode cX9_count 72 = .ok (.invokevirtual 222, 3) := by decide +kernel
theorem dX9_count_75 : decode cX9_count 75 = .ok (.ireturn, 1) := by decide +kernel
theorem dX9_count_76 : decode cX9_count 76 = .ok (.aload_n 0, 1) := by decide +kernel
theorem dX9_count_77 : decode cX9_count 77 = .ok (.getfield 10, 3) := by decide +kernel
theorem dX9_count_80 : decode cX9_count 80 = .ok (.getfield 73, 3) := by decide +kernel
theorem dX9_count_83 : decode cX9_count 83 = .ok (.ireturn, 1) := by decide +kernel
theorem dX9_count_84 : decode cX9_count 84 = .ok (.aload_n 0, 1) := by decide +kernel
theorem dX9_count_85 : decode cX9_count 85 = .ok (.getfield 94, 3) := by decide +kernel
theorem dX9_count_88 : decode cX9_count 88 = .ok (.ireturn, 1) := by decide +kernel
theorem dX9_count_89 : decode cX9_count 89 = .ok (.aload_n 0, 1) := by decide +kernel
theorem dX9_count_90 : decode cX9_count 90 = .ok (.getfield 199, 3) := by decide +kernel
theorem dX9_count_93 : decode cX9_count 93 = .ok (.ireturn, 1) := by decide +kernel
theorem dX9_count_94 : decode cX9_count 94 = .ok (.bipush (-102), 2) := by decide +kernel
theorem dX9_count_96 : decode cX9_count 96 = .ok (.ireturn, 1) := by decide +kernel
set_option maxRecDepth 20000 in
theorem ggX9_digest_X9_isLawless : GoodIn wsX9_digest wsX9_isLawless := goodIn_r _ [12, 13, 217, 218, 219, 220, 221, 222, 223, 224, 225, 226, 227, 228] (by decide +kernel) (by decide +kernel)
set_option maxRecDepth 20000 in
theorem gX9_digest_X9_isLawless : GoodIn wsX9_digest (wsV RX9 104 RX9 yX9_isLawless wsX9_isLawless) := goodIn_app (goodIn_of _ (by decide +kernel)) ggX9_digest_X9_isLawless
set_option maxRecDepth 20000 in
theorem ggX9_digest_X9_town : GoodIn wsX9_digest wsX9_town := goodIn_r _ [17, 18, 19, 20, 21, 22, 23, 24, 11, 25, 8, 9, 10, 12, 13, 26, 27, 28, 29, 2, 30, 31, 32, 33, 34, 35, 217, 218, 219, 220, 221, 222, 223, 224, 225, 226, 227, 228, 238, 239, 240, 241, 242, 243, 244, 245] (by decide +kernel) (by decide +kernel)
set_option maxRecDepth 20000 in
theorem gX9_digest_X9_town : GoodIn wsX9_digest (wsV RX9 269 RX9 yX9_town wsX9_town) := goodIn_app (goodIn_of _ (by decide +kernel)) ggX9_digest_X9_town
set_option maxRecDepth 20000 in
theorem ggX9_digest_X9_fold : GoodIn wsX9_digest wsX9_fold := goodIn_r _ [38, 39] (by decide +kernel) (by decide +kernel)
set_option maxRecDepth 20000 in
theorem gX9_digest_X9_fold : GoodIn wsX9_digest (va_wsS RX9 272 yX9_fold wsX9_fold) := goodIn_app (goodIn_of _ (by decide +kernel)) ggX9_digest_X9_fold
set_option maxRecDepth 20000 in
theorem ggX9_digest_X9_foldPerson : GoodIn wsX9_digest wsX9_foldPerson := goodIn_r _ [43, 30, 31, 44, 45, 46, 11, 47, 48, 49, 18, 21, 22, 50, 51, 52, 53, 2, 32, 33, 34, 35, 54, 55, 56, 57, 58, 59, 60, 61, 62, 63, 64, 65, 66, 67, 68, 69, 70, 71, 72, 73, 74, 75, 76, 77, 78, 79, 80, 81, 36, 37, 38, 39, 82, 83, 84, 85, 86, 87, 88, 89, 90, 91, 92, 93, 94, 95, 96, 97, 98, 99, 100, 101, 102, 103, 104, 105, 106, 107, 108, 109, 110, 111, 112, 113, 114, 115, 116, 117, 118, 119, 120, 121, 122, 123, 124, 125, 126, 127, 128, 129, 130, 131, 132, 133, 134, 135, 136, 137, 138, 139, 140, 141, 142, 143, 144, 145, 146, 147, 217, 218, 219, 220, 221, 222, 223, 224, 225, 226, 227, 228, 244, 245, 238, 239, 240, 241, 242, 243, 246, 247, 248, 249] (by decide +kernel) (by decide +kernel)
set_option maxRecDepth 20000 in
theorem gX9_digest_X9_foldPerson : GoodIn wsX9_digest (wsV RX9 276 RX9 yX9_foldPerson wsX9_foldPerson) := goodIn_app (goodIn_of _ (by decide +kernel)) ggX9_digest_X9_foldPerson
set_option maxRecDepth 20000 in
theorem ggX9_digest_X9_ways : GoodIn wsX9_digest wsX9_ways := goodIn_r _ [151, 3, 4, 90, 18, 152, 91, 92, 93, 94, 95, 96, 97, 98, 99, 100, 101, 102, 103, 104, 105, 64, 65, 66, 67, 68, 69, 70, 71, 72, 106, 74, 75, 76, 77, 153, 154, 155, 156, 157, 158, 159, 160, 161, 162, 163, 164, 165, 166, 167, 34, 168, 169, 170, 171, 172, 173, 174, 175, 176, 177, 116, 117, 118, 119, 120, 121, 122, 33, 35, 123, 124, 125, 126, 127, 128, 129, 130, 131, 132, 133, 61, 62, 134, 135, 136, 137, 138, 139, 140, 141, 142, 143, 144, 145, 146, 147, 178, 179, 180, 181, 217, 218, 219, 220, 221, 222, 223, 224, 225, 226, 227, 228, 229, 230, 231, 232, 233, 234, 235, 246, 247, 248, 249, 238, 239, 240, 241, 242, 243] (by decide +kernel) (by decide +kernel)
set_option maxRecDepth 20000 in
theorem gX9_digest_X9_ways : GoodIn wsX9_digest (wsV RX9 280 RX9 yX9_ways wsX9_ways) := goodIn_app (goodIn_of _ (by decide +kernel)) ggX9_digest_X9_ways
set_option maxRecDepth 20000 in
theorem ggX9_digest_X9_ends : GoodIn wsX9_digest wsX9_ends := goodIn_r _ [185, 3, 4, 90, 18, 152, 91, 92, 93, 94, 95, 96, 97, 98, 99, 100, 101, 102, 103, 104, 105, 64, 65, 66, 67, 68, 69, 70, 71, 72, 106, 74, 75, 76, 77, 153, 154, 155, 156, 157, 158, 159, 160, 161, 162, 163, 164, 165, 166, 167, 34, 168, 169, 170, 171, 172, 173, 174, 175, 176, 177, 116, 117, 118, 119, 120, 121, 122, 33, 35, 123, 124, 125, 126, 127, 128, 129, 130, 131, 132, 133, 61, 62, 134, 135, 136, 137, 138, 139, 140, 141, 142, 143, 144, 145, 146, 147, 186, 187, 188, 189, 190, 217, 218, 219, 220, 221, 222, 223, 224, 225, 226, 227, 228, 229, 230, 231, 232, 233, 234, 235, 246, 247, 248, 249, 238, 239, 240, 241, 242, 243] (by decide +kernel) (by decide +kernel)
set_option maxRecDepth 20000 in
theorem gX9_digest_X9_ends : GoodIn wsX9_digest (wsV RX9 283 RX9 yX9_ends wsX9_ends) := goodIn_app (goodIn_of _ (by decide +kernel)) ggX9_digest_X9_ends
set_option maxRecDepth 20000 in
theorem ggX9_digest_X9_count : GoodIn wsX9_digest wsX9_count := goodIn_r _ [194, 2, 195, 3, 5, 6, 13, 196, 197, 198, 199, 11, 200, 30, 31, 57, 58, 34, 59, 60, 61, 62, 201, 202, 203, 204, 54, 55, 56, 205, 206, 207, 208, 209, 210, 211, 212, 213, 214, 156, 215, 216, 160, 217, 218, 219, 220, 221, 222, 223, 224, 225, 226, 227, 228, 236, 237, 244, 245, 229, 230, 231, 232, 233, 234, 235] (by decide +kernel) (by decide +kernel)
set_option maxRecDepth 20000 in
theorem gX9_digest_X9_count : GoodIn wsX9_digest (wsV RX9 289 RX9 yX9_count wsX9_count) := goodIn_app (goodIn_of _ (by decide +kernel)) ggX9_digest_X9_count
theorem dX9_digest_0 : decode cX9_digest 0 = .ok (.ldc2_w 267, 3) := by decide +kernel
theorem dX9_digest_3 : decode cX9_digest 3 = .ok (.lstore_n 1, 1) := by decide +kernel
theorem dX9_digest_4 : decode cX9_digest 4 = .ok (.aload_n 0, 1) := by decide +kernel
theorem dX9_digest_5 : decode cX9_digest 5 = .ok (.invokevirtual 104, 3) := by decide +kernel
theorem dX9_digest_8 : decode cX9_digest 8 = .ok (.ifCond .ne 44, 3) := by decide +kernel
theorem dX9_digest_11 : decode cX9_digest 11 = .ok (.iconst 0, 1) := by decide +kernel
theorem dX9_digest_12 : decode cX9_digest 12 = .ok (.istore_n 3, 1) := by decide +kernel
theorem dX9_digest_13 : decode cX9_digest 13 = .ok (.iload_n 3, 1) := by decide +kernel
theorem dX9_digest_14 : decode cX9_digest 14 = .ok (.iconst 4, 1) := by decide +kernel
theorem dX9_digest_15 : decode cX9_digest 15 = .ok (.if_icmp .ge 37, 3) := by decide +kernel
theorem dX9_digest_18 : decode cX9_digest 18 = .ok (.iconst 0, 1) := by decide +kernel
theorem dX9_digest_19 : decode cX9_digest 19 = .ok (.istore 4, 2) := by decide +kernel
theorem dX9_digest_21 : decode cX9_digest 21 = .ok (.iload 4, 2) := by decide +kernel
theorem dX9_digest_23 : decode cX9_digest 23 = .ok (.iconst 4, 1) := by decide +kernel
theorem dX9_digest_24 : decode cX9_digest 24 = .ok (.if_icmp .gt 22, 3) := by decide +kernel
theorem dX9_digest_27 : decode cX9_digest 27 = .ok (.lload_n 1, 1) := by decide +kernel
theorem dX9_digest_28 : decode cX9_digest 28 = .ok (.aload_n 0, 1) := by decide +kernel
theorem dX9_digest_29 : decode cX9_digest 29 = .ok (.iload_n 3, 1) := by decide +kernel
theorem dX9_digest_30 : decode cX9_digest 30 = .ok (.iload 4, 2) := by decide +kernel
theorem dX9_digest_32 : decode cX9_digest 32 = .ok (.invokevirtual 269, 3) := by decide +kernel
theorem dX9_digest_35 : decode cX9_digest 35 = .ok (.i2l, 1) := by decide +kernel
theorem dX9_digest_36 : decode cX9_digest 36 = .ok (.invokestatic 272, 3) := by decide +kernel
theorem dX9_digest_39 : decode cX9_digest 39 = .ok (.lstore_n 1, 1) := by decide +kernel
theorem dX9_digest_40 : decode cX9_digest 40 = .ok (.iinc 4 1, 3) := by decide +kernel
theorem dX9_digest_43 : decode cX9_digest 43 = .ok (.goto (-22), 3) := by decide +kernel
theorem dX9_digest_46 : decode cX9_digest 46 = .ok (.iinc 3 1, 3) := by decide +kernel
theorem dX9_digest_49 : decode cX9_digest 49 = .ok (.goto (-36), 3) := by decide +kernel
theorem dX9_digest_52 : decode cX9_digest 52 = .ok (.iconst 0, 1) := by decide +kernel
theorem dX9_digest_53 : decode cX9_digest 53 = .ok (.istore_n 3, 1) := by decide +kernel
theorem dX9_digest_54 : decode cX9_digest 54 = .ok (.iload_n 3, 1) := by decide +kernel
theorem dX9_digest_55 : decode cX9_digest 55 = .ok (.aload_n 0, 1) := by decide +kernel
theorem dX9_digest_56 : decode cX9_digest 56 = .ok (.getfield 88, 3) := by decide +kernel
theorem dX9_digest_59 : decode cX9_digest 59 = .ok (.if_icmp .ge 16, 3) := by decide +kernel
theorem dX9_digest_62 : decode cX9_digest 62 = .ok (.aload_n 0, 1) := by decide +kernel
theorem dX9_digest_63 : decode cX9_digest 63 = .ok (.lload_n 1, 1) := by decide +kernel
theorem dX9_digest_64 : decode cX9_digest 64 = .ok (.iload_n 3, 1) := by decide +kernel
theorem dX9_digest_65 : decode cX9_digest 65 = .ok (.invokevirtual 276, 3) := by decide +kernel
theorem dX9_digest_68 : decode cX9_digest 68 = .ok (.lstore_n 1, 1) := by decide +kernel
theorem dX9_digest_69 : decode cX9_digest 69 = .ok (.iinc 3 1, 3) := by decide +kernel
theorem dX9_digest_72 : decode cX9_digest 72 = .ok (.goto (-18), 3) := by decide +kernel
theorem dX9_digest_75 : decode cX9_digest 75 = .ok (.aload_n 0, 1) := by decide +kernel
theorem dX9_digest_76 : decode cX9_digest 76 = .ok (.getfield 39, 3) := by decide +kernel
theorem dX9_digest_79 : decode cX9_digest 79 = .ok (.getfield 81, 3) := by decide +kernel
theorem dX9_digest_82 : decode cX9_digest 82 = .ok (.ifCond .eq 21, 3) := by decide +kernel
theorem dX9_digest_85 : decode cX9_digest 85 = .ok (.lload_n 1, 1) := by decide +kernel
theorem dX9_digest_86 : decode cX9_digest 86 = .ok (.aload_n 0, 1) := by decide +kernel
theorem dX9_digest_87 : decode cX9_digest 87 = .ok (.invokevirtual 280, 3) := by decide +kernel
theorem dX9_digest_90 : decode cX9_digest 90 = .ok (.i2l, 1) := by decide +kernel
theorem dX9_digest_91 : decode cX9_digest 91 = .ok (.invokestatic 272, 3) := by decide +kernel
theorem dX9_digest_94 : decode cX9_digest 94 = .ok (.aload_n 0, 1) := by decide +kernel
theorem dX9_digest_95 : decode cX9_digest 95 = .ok (.invokevirtual 283, 3) := by decide +kernel
theorem dX9_digest_98 : decode cX9_digest 98 = .ok (.i2l, 1) := by decide +kernel
theorem dX9_digest_99 : decode cX9_digest 99 = .ok (.invokestatic 272, 3) := by decide +kernel
theorem dX9_digest_102 : decode cX9_digest 102 = .ok (.lstore_n 1, 1) := by decide +kernel
theorem dX9_digest_103 : decode cX9_digest 103 = .ok (.iconst 0, 1) := by decide +kernel
theorem dX9_digest_104 : decode cX9_digest 104 = .ok (.istore_n 3, 1) := by decide +kernel
theorem dX9_digest_105 : decode cX9_digest 105 = .ok (.iload_n 3, 1) := by decide +kernel
theorem dX9_digest_106 : decode cX9_digest 106 = .ok (.aload_n 0, 1) := by decide +kernel
theorem dX9_digest_107 : decode cX9_digest 107 = .ok (.getfield 10, 3) := by decide +kernel
theorem dX9_digest_110 : decode cX9_digest 110 = .ok (.getfield 73, 3) := by decide +kernel
theorem dX9_digest_113 : decode cX9_digest 113 = .ok (.if_icmp .ge 24, 3) := by decide +kernel
theorem dX9_digest_116 : decode cX9_digest 116 = .ok (.lload_n 1, 1) := by decide +kernel
theorem dX9_digest_117 : decode cX9_digest 117 = .ok (.aload_n 0, 1) := by decide +kernel
theorem dX9_digest_118 : decode cX9_digest 118 = .ok (.getfield 10, 3) := by decide +kernel
theorem dX9_digest_121 : decode cX9_digest 121 = .ok (.getfield 286, 3) := by decide +kernel
theorem dX9_digest_124 : decode cX9_digest 124 = .ok (.iload_n 3, 1) := by decide +kernel
theorem dX9_digest_125 : decode cX9_digest 125 = .ok (.iaload, 1) := by decide +kernel
theorem dX9_digest_126 : decode cX9_digest 126 = .ok (.i2l, 1) := by decide +kernel
theorem dX9_digest_127 : decode cX9_digest 127 = .ok (.invokestatic 272, 3) := by decide +kernel
theorem dX9_digest_130 : decode cX9_digest 130 = .ok (.lstore_n 1, 1) := by decide +kernel
theorem dX9_digest_131 : decode cX9_digest 131 = .ok (.iinc 3 1, 3) := by decide +kernel
theorem dX9_digest_134 : decode cX9_digest 134 = .ok (.goto (-29), 3) := by decide +kernel
theorem dX9_digest_137 : decode cX9_digest 137 = .ok (.iconst 0, 1) := by decide +kernel
theorem dX9_digest_138 : decode cX9_digest 138 = .ok (.istore_n 3, 1) := by decide +kernel
theorem dX9_digest_139 : decode cX9_digest 139 = .ok (.iload_n 3, 1) := by decide +kernel
theorem dX9_digest_140 : decode cX9_digest 140 = .ok (.bipush 7, 2) := by decide +kernel
theorem dX9_digest_142 : decode cX9_digest 142 = .ok (.if_icmp .gt 20, 3) := by decide +kernel
theorem dX9_digest_145 : decode cX9_digest 145 = .ok (.lload_n 1, 1) := by decide +kernel
theorem dX9_digest_146 : decode cX9_digest 146 = .ok (.aload_n 0, 1) := by decide +kernel
theorem dX9_digest_147 : decode cX9_digest 147 = .ok (.iload_n 3, 1) := by decide +kernel
theorem dX9_digest_148 : decode cX9_digest 148 = .ok (.invokevirtual 289, 3) := by decide +kernel
theorem dX9_digest_151 : decode cX9_digest 151 = .ok (.i2l, 1) := by decide +kernel
theorem dX9_digest_152 : decode cX9_digest 152 = .ok (.invokestatic 272, 3) := by decide +kernel
theorem dX9_digest_155 : decode cX9_digest 155 = .ok (.lstore_n 1, 1) := by decide +kernel
theorem dX9_digest_156 : decode cX9_digest 156 = .ok (.iinc 3 1, 3) := by decide +kernel
theorem dX9_digest_159 : decode cX9_digest 159 = .ok (.goto (-20), 3) := by decide +kernel
theorem dX9_digest_162 : decode cX9_digest 162 = .ok (.lload_n 1, 1) := by decide +kernel
theorem dX9_digest_163 : decode cX9_digest 163 = .ok (.lreturn, 1) := by decide +kernel
theorem dX9_fold_0 : decode cX9_fold 0 = .ok (.ldc2_w 292, 3) := by decide +kernel
theorem dX9_fold_3 : decode cX9_fold 3 = .ok (.lload_n 0, 1) := by decide +kernel
theorem dX9_fold_4 : decode cX9_fold 4 = .ok (.lmul, 1) := by decide +kernel
theorem dX9_fold_5 : decode cX9_fold 5 = .ok (.lload_n 2, 1) := by decide +kernel
theorem dX9_fold_6 : decode cX9_fold 6 = .ok (.ladd, 1) := by decide +kernel
theorem dX9_fold_7 : decode cX9_fold 7 = .ok (.lreturn, 1) := by decide +kernel
set_option maxRecDepth 20000 in
theorem ggX9_foldPerson_X9_about : GoodIn wsX9_foldPerson wsX9_about := goodIn_r _ [7, 1, 2, 8, 9, 10, 11, 12, 13, 14, 15, 6, 16, 17, 18, 19, 20, 21, 22, 23, 24, 25, 26, 27, 28, 29, 30, 31, 32, 33, 34, 35, 36, 37, 38, 39, 40, 41, 42, 43, 44, 45, 46, 47, 48, 49, 120, 121, 122, 123, 124, 125, 126, 127, 128, 129, 130, 131, 132, 133, 134, 135, 136, 137, 138, 139] (by decide +kernel) (by decide +kernel)
set_option maxRecDepth 20000 in
theorem gX9_foldPerson_X9_about : GoodIn wsX9_foldPerson (wsV RX9 294 RX9 yX9_about wsX9_about) := goodIn_app (goodIn_of _ (by decide +kernel)) ggX9_foldPerson_X9_about
set_option maxRecDepth 20000 in
theorem ggX9_foldPerson_X9_fold : GoodIn wsX9_foldPerson wsX9_fold := goodIn_r _ [52, 53] (by decide +kernel) (by decide +kernel)
set_option maxRecDepth 20000 in
theorem gX9_foldPerson_X9_fold : GoodIn wsX9_foldPerson (va_wsS RX9 272 yX9_fold wsX9_fold) := goodIn_app (goodIn_of _ (by decide +kernel)) ggX9_foldPerson_X9_fold
set_option maxRecDepth 20000 in
theorem ggX9_foldPerson_X9_dead : GoodIn wsX9_foldPerson wsX9_dead := goodIn_r _ [57, 1, 2, 13, 14, 15, 6, 16, 17, 58, 59, 60, 61, 62, 10, 8, 63, 64, 65, 66, 67, 68, 69, 70, 71, 72, 73, 74, 75, 76, 77, 32, 33, 34, 35, 36, 37, 38, 39, 40, 78, 42, 43, 44, 45, 79, 80, 81, 82, 49, 29, 20, 30, 120, 121, 122, 123, 124, 125, 126, 127, 128, 129, 130, 131, 132, 133, 140, 141, 142, 143, 134, 135, 136, 137, 138, 139] (by decide +kernel) (by decide +kernel)
set_option maxRecDepth 20000 in
theorem gX9_foldPerson_X9_dead : GoodIn wsX9_foldPerson (wsV RX9 297 RX9 yX9_dead wsX9_dead) := goodIn_app (goodIn_of _ (by decide +kernel)) ggX9_foldPerson_X9_dead
set_option maxRecDepth 20000 in
theorem ggX9_foldPerson_X9_dealFor : GoodIn wsX9_foldPerson wsX9_dealFor := goodIn_r _ [61, 62, 10, 1, 8, 63, 64, 65, 66, 67, 68, 69, 70, 71, 72, 73, 74, 75, 76, 77, 32, 33, 34, 35, 36, 37, 38, 39, 40, 78, 42, 43, 44, 45, 120, 121, 122, 123, 124, 125, 126, 127, 128, 129, 130, 131, 132, 133, 140, 141, 142, 143, 134, 135, 136, 137, 138, 139] (by decide +kernel) (by decide +kernel)
set_option maxRecDepth 20000 in
theorem gX9_foldPerson_X9_dealFor : GoodIn wsX9_foldPerson (wsV RX9 184 RX9 yX9_dealFor wsX9_dealFor) := goodIn_app (goodIn_of _ (by decide +kernel)) ggX9_foldPerson_X9_dealFor
set_option maxRecDepth 20000 in
theorem ggX9_foldPerson_X0_actsOpen : GoodIn wsX9_foldPerson wsX0_actsOpen := goodIn_r _ [86, 87, 88, 89, 66, 90, 91, 92, 93, 94, 19, 20, 21, 95, 96, 97, 98, 99, 100, 101, 68, 102, 103, 104, 105, 29, 30, 106, 107, 108, 109, 74, 110, 111, 112, 113, 114, 115, 116, 117, 118, 119, 72, 70, 140, 141, 142, 143] (by decide +kernel) (by decide +kernel)
set_option maxRecDepth 20000 in
theorem gX9_foldPerson_X0_actsOpen : GoodIn wsX9_foldPerson (wsV RX9 300 RX0 yX0_actsOpen wsX0_actsOpen) := goodIn_app (goodIn_of _ (by decide +kernel)) ggX9_foldPerson_X0_actsOpen
theorem dX9_foldPerson_0 : decode cX9_foldPerson 0 = .ok (.lload_n 1, 1) := by decide +kernel
theorem dX9_foldPerson_1 : decode cX9_foldPerson 1 = .ok (.lstore 4, 2) := by decide +kernel
theorem dX9_foldPerson_3 : decode cX9_foldPerson 3 = .ok (.iconst 0, 1) := by decide +kernel
theorem dX9_foldPerson_4 : decode cX9_foldPerson 4 = .ok (.istore 6, 2) := by decide +kernel
theorem dX9_foldPerson_6 : decode cX9_foldPerson 6 = .ok (.iload 6, 2) := by decide +kernel
theorem dX9_foldPerson_8 : decode cX9_foldPerson 8 = .ok (.iconst 5, 1) := by decide +kernel
theorem dX9_foldPerson_9 : decode cX9_foldPerson 9 = .ok (.if_icmp .gt 24, 3) := by decide +kernel
theorem dX9_foldPerson_12 : decode cX9_foldPerson 12 = .ok (.lload 4, 2) := by decide +kernel
theorem dX9_foldPerson_14 : decode cX9_foldPerson 14 = .ok (.aload_n 0, 1) := by decide +kernel
theorem dX9_foldPerson_15 : decode cX9_foldPerson 15 = .ok (.iload_n 3, 1) := by decide +kernel
theorem dX9_foldPerson_16 : decode cX9_foldPerson 16 = .ok (.iload 6, 2) := by decide +kernel
theorem dX9_foldPerson_18 : decode cX9_foldPerson 18 = .ok (.invokevirtual 294, 3) := by decide +kernel
theorem dX9_foldPerson_21 : decode cX9_foldPerson 21 = .ok (.i2l, 1) := by decide +kernel
theorem dX9_foldPerson_22 : decode cX9_foldPerson 22 = .ok (.invokestatic 272, 3) := by decide +kernel
theorem dX9_foldPerson_25 : decode cX9_foldPerson 25 = .ok (.lstore 4, 2) := by decide +kernel
theorem dX9_foldPerson_27 : decode cX9_foldPerson 27 = .ok (.iinc 6 1, 3) := by decide +kernel
theorem dX9_foldPerson_30 : decode cX9_foldPerson 30 = .ok (.goto (-24), 3) := by decide +kernel
theorem dX9_foldPerson_33 : decode cX9_foldPerson 33 = .ok (.bipush 10, 2) := by decide +kernel
theorem dX9_foldPerson_35 : decode cX9_foldPerson 35 = .ok (.istore 6, 2) := by decide +kernel
theorem dX9_foldPerson_37 : decode cX9_foldPerson 37 = .ok (.iload 6, 2) := by decide +kernel
theorem dX9_foldPerson_39 : decode cX9_foldPerson 39 = .ok (.bipush 13, 2) := by decide +kernel
theorem dX9_foldPerson_41 : decode cX9_foldPerson 41 = .ok (.if_icmp .gt 24, 3) := by decide +kernel
theorem dX9_foldPerson_44 : decode cX9_foldPerson 44 = .ok (.lload 4, 2) := by decide +kernel
theorem dX9_foldPerson_46 : decode cX9_foldPerson 46 = .ok (.aload_n 0, 1) := by decide +kernel
theorem dX9_foldPerson_47 : decode cX9_foldPerson 47 = .ok (.iload_n 3, 1) := by decide +kernel
theorem dX9_foldPerson_48 : decode cX9_foldPerson 48 = .ok (.iload 6, 2) := by decide +kernel
theorem dX9_foldPerson_50 : decode cX9_foldPerson 50 = .ok (.invokevirtual 294, 3) := by decide +kernel
theorem dX9_foldPerson_53 : decode cX9_foldPerson 53 = .ok (.i2l, 1) := by decide +kernel
theorem dX9_foldPerson_54 : decode cX9_foldPerson 54 = .ok (.invokestatic 272, 3) := by decide +kernel
theorem dX9_foldPerson_57 : decode cX9_foldPerson 57 = .ok (.lstore 4, 2) := by decide +kernel
theorem dX9_foldPerson_59 : decode cX9_foldPerson 59 = .ok (.iinc 6 1, 3) := by decide +kernel
theorem dX9_foldPerson_62 : decode cX9_foldPerson 62 = .ok (.goto (-25), 3) := by decide +kernel
theorem dX9_foldPerson_65 : decode cX9_foldPerson 65 = .ok (.lload 4, 2) := by decide +kernel
theorem dX9_foldPerson_67 : decode cX9_foldPerson 67 = .ok (.aload_n 0, 1) := by decide +kernel
theorem dX9_foldPerson_68 : decode cX9_foldPerson 68 = .ok (.iload_n 3, 1) := by decide +kernel
theorem dX9_foldPerson_69 : decode cX9_foldPerson 69 = .ok (.invokevirtual 297, 3) := by decide +kernel
theorem dX9_foldPerson_72 : decode cX9_foldPerson 72 = .ok (.i2l, 1) := by decide +kernel
theorem dX9_foldPerson_73 : decode cX9_foldPerson 73 = .ok (.invokestatic 272, 3) := by decide +kernel
theorem dX9_foldPerson_76 : decode cX9_foldPerson 76 = .ok (.lstore 4, 2) := by decide +kernel
theorem dX9_foldPerson_78 : decode cX9_foldPerson 78 = .ok (.lload 4, 2) := by decide +kernel
theorem dX9_foldPerson_80 : decode cX9_foldPerson 80 = .ok (.aload_n 0, 1) := by decide +kernel
theorem dX9_foldPerson_81 : decode cX9_foldPerson 81 = .ok (.iload_n 3, 1) := by decide +kernel
theorem dX9_foldPerson_82 : decode cX9_foldPerson 82 = .ok (.invokevirtual 184, 3) := by decide +kernel
theorem dX9_foldPerson_85 : decode cX9_foldPerson 85 = .ok (.aload_n 0, 1) := by decide +kernel
theorem dX9_foldPerson_86 : decode cX9_foldPerson 86 = .ok (.getfield 18, 3) := by decide +kernel
theorem dX9_foldPerson_89 : decode cX9_foldPerson 89 = .ok (.iload_n 3, 1) := by decide +kernel
theorem dX9_foldPerson_90 : decode cX9_foldPerson 90 = .ok (.aaload, 1) := by decide +kernel
theorem dX9_foldPerson_91 : decode cX9_foldPerson 91 = .ok (.getfield 138, 3) := by decide +kernel
theorem dX9_foldPerson_94 : decode cX9_foldPerson 94 = .ok (.invokevirtual 300, 3) := by decide +kernel
theorem dX9_foldPerson_97 : decode cX9_foldPerson 97 = .ok (.i2l, 1) := by decide +kernel
theorem dX9_foldPerson_98 : decode cX9_foldPerson 98 = .ok (.invokestatic 272, 3) := by decide +kernel
theorem dX9_foldPerson_101 : decode cX9_foldPerson 101 = .ok (.lreturn, 1) := by decide +kernel
theorem dX9_isTown_0 : decode cX9_isTown 0 = .ok (.iload_n 0, 1) := by decide +kernel
theorem dX9_isTown_1 : decode cX9_isTown 1 = .ok (.ifCond .lt 12, 3) := by decide +kernel
theorem dX9_isTown_4 : decode cX9_isTown 4 = .ok (.iload_n 0, 1) := by decide +kernel
theorem dX9_isTown_5 : decode cX9_isTown 5 = .ok (.iconst 4, 1) := by decide +kernel
theorem dX9_isTown_6 : decode cX9_isTown 6 = .ok (.if_icmp .ge 7, 3) := by decide +kernel
theorem dX9_isTown_9 : decode cX9_isTown 9 = .ok (.iconst 1, 1) := by decide +kernel
theorem dX9_isTown_10 : decode cX9_isTown 10 = .ok (.goto 4, 3) := by decide +kernel
theorem dX9_isTown_13 : decode cX9_isTown 13 = .ok (.iconst 0, 1) := by decide +kernel
theorem dX9_isTown_14 : decode cX9_isTown 14 = .ok (.ireturn, 1) := by decide +kernel
theorem dX9_isCoin_0 : decode cX9_isCoin 0 = .ok (.iload_n 0, 1) := by decide +kernel
theorem dX9_isCoin_1 : decode cX9_isCoin 1 = .ok (.ifCond .lt 12, 3) := by decide +kernel
theorem dX9_isCoin_4 : decode cX9_isCoin 4 = .ok (.iload_n 0, 1) := by decide +kernel
theorem dX9_isCoin_5 : decode cX9_isCoin 5 = .ok (.iconst 4, 1) := by decide +kernel
theorem dX9_isCoin_6 : decode cX9_isCoin 6 = .ok (.if_icmp .ge 7, 3) := by decide +kernel
theorem dX9_isCoin_9 : decode cX9_isCoin 9 = .ok (.iconst 1, 1) := by decide +kernel
theorem dX9_isCoin_10 : decode cX9_isCoin 10 = .ok (.goto 4, 3) := by decide +kernel
theorem dX9_isCoin_13 : decode cX9_isCoin 13 = .ok (.iconst 0, 1) := by decide +kernel
theorem dX9_isCoin_14 : decode cX9_isCoin 14 = .ok (.ireturn, 1) := by decide +kernel
theorem dX9_isKind_0 : decode cX9_isKind 0 = .ok (.iload_n 0, 1) := by decide +kernel
theorem dX9_isKind_1 : decode cX9_isKind 1 = .ok (.ifCond .lt 15, 3) := by decide +kernel
theorem dX9_isKind_4 : decode cX9_isKind 4 = .ok (.iload_n 0, 1) := by decide +kernel
theorem dX9_isKind_5 : decode cX9_isKind 5 = .ok (.getstatic 130, 3) := by decide +kernel
theorem dX9_isKind_8 : decode cX9_isKind 8 = .ok (.arraylength, 1) := by decide +kernel
theorem dX9_isKind_9 : decode cX9_isKind 9 = .ok (.if_icmp .ge 7, 3) := by decide +kernel
theorem dX9_isKind_12 : decode cX9_isKind 12 = .ok (.iconst 1, 1) := by decide +kernel
theorem dX9_isKind_13 : decode cX9_isKind 13 = .ok (.goto 4, 3) := by decide +kernel
theorem dX9_isKind_16 : decode cX9_isKind 16 = .ok (.iconst 0, 1) := by decide +kernel
theorem dX9_isKind_17 : decode cX9_isKind 17 = .ok (.ireturn, 1) := by decide +kernel
theorem dX9_isPrice_0 : decode cX9_isPrice 0 = .ok (.iload_n 0, 1) := by decide +kernel
theorem dX9_isPrice_1 : decode cX9_isPrice 1 = .ok (.iconst 1, 1) := by decide +kernel
theorem dX9_isPrice_2 : decode cX9_isPrice 2 = .ok (.if_icmp .lt 12, 3) := by decide +kernel
theorem dX9_isPrice_5 : decode cX9_isPrice 5 = .ok (.iload_n 0, 1) := by decide +kernel
theorem dX9_isPrice_6 : decode cX9_isPrice 6 = .ok (.iconst 4, 1) := by decide +kernel
theorem dX9_isPrice_7 : decode cX9_isPrice 7 = .ok (.if_icmp .gt 7, 3) := by decide +kernel
theorem dX9_isPrice_10 : decode cX9_isPrice 10 = .ok (.iconst 1, 1) := by decide +kernel
theorem dX9_isPrice_11 : decode cX9_isPrice 11 = .ok (.goto 4, 3) := by decide +kernel
theorem dX9_isPrice_14 : decode cX9_isPrice 14 = .ok (.iconst 0, 1) := by decide +kernel
theorem dX9_isPrice_15 : decode cX9_isPrice 15 = .ok (.ireturn, 1) := by decide +kernel
theorem dX9_isAct_0 : decode cX9_isAct 0 = .ok (.getstatic 303, 3) := by decide +kernel
theorem dX9_isAct_3 : decode cX9_isAct 3 = .ok (.astore_n 1, 1) := by decide +kernel
theorem dX9_isAct_4 : decode cX9_isAct 4 = .ok (.aload_n 1, 1) := by decide +kernel
theorem dX9_isAct_5 : decode cX9_isAct 5 = .ok (.arraylength, 1) := by decide +kernel
theorem dX9_isAct_6 : decode cX9_isAct 6 = .ok (.istore_n 2, 1) := by decide +kernel
theorem dX9_isAct_7 : decode cX9_isAct 7 = .ok (.iconst 0, 1) := by decide +kernel
theorem dX9_isAct_8 : decode cX9_isAct 8 = .ok (.istore_n 3, 1) := by decide +kernel
theorem dX9_isAct_9 : decode cX9_isAct 9 = .ok (.iload_n 3, 1) := by decide +kernel
theorem dX9_isAct_10 : decode cX9_isAct 10 = .ok (.iload_n 2, 1) := by decide +kernel
theorem dX9_isAct_11 : decode cX9_isAct 11 = .ok (.if_icmp .ge 22, 3) := by decide +kernel
theorem dX9_isAct_14 : decode cX9_isAct 14 = .ok (.aload_n 1, 1) := by decide +kernel
theorem dX9_isAct_15 : decode cX9_isAct 15 = .ok (.iload_n 3, 1) := by decide +kernel
theorem dX9_isAct_16 : decode cX9_isAct 16 = .ok (.iaload, 1) := by decide +kernel
theorem dX9_isAct_17 : decode cX9_isAct 17 = .ok (.istore 4, 2) := by decide +kernel
theorem dX9_isAct_19 : decode cX9_isAct 19 = .ok (.iload 4, 2) := by decide +kernel
theorem dX9_isAct_21 : decode cX9_isAct 21 = .ok (.iload_n 0, 1) := by decide +kernel
theorem dX9_isAct_22 : decode cX9_isAct 22 = .ok (.if_icmp .ne 5, 3) := by decide +kernel
theorem dX9_isAct_25 : decode cX9_isAct 25 = .ok (.iconst 1, 1) := by decide +kernel
theorem dX9_isAct_26 : decode cX9_isAct 26 = .ok (.ireturn, 1) := by decide +kernel
theorem dX9_isAct_27 : decode cX9_isAct 27 = .ok (.iinc 3 1, 3) := by decide +kernel
theorem dX9_isAct_30 : decode cX9_isAct 30 = .ok (.goto (-21), 3) := by decide +kernel
theorem dX9_isAct_33 : decode cX9_isAct 33 = .ok (.iconst 0, 1) := by decide +kernel
theorem dX9_isAct_34 : decode cX9_isAct 34 = .ok (.ireturn, 1) := by decide +kernel
theorem dX9_seedBehind_0 : decode cX9_seedBehind 0 = .ok (.ldc2_w 306, 3) := by decide +kernel
theorem dX9_seedBehind_3 : decode cX9_seedBehind 3 = .ok (.iload_n 0, 1) := by decide +kernel
theorem dX9_seedBehind_4 : decode cX9_seedBehind 4 = .ok (.i2l, 1) := by decide +kernel
theorem dX9_seedBehind_5 : decode cX9_seedBehind 5 = .ok (.lmul, 1) := by decide +kernel
theorem dX9_seedBehind_6 : decode cX9_seedBehind 6 = .ok (.ldc2_w 308, 3) := by decide +kernel
theorem dX9_seedBehind_9 : decode cX9_seedBehind 9 = .ok (.ladd, 1) := by decide +kernel
theorem dX9_seedBehind_10 : decode cX9_seedBehind 10 = .ok (.ldc2_w 310, 3) := by decide +kernel
theorem dX9_seedBehind_13 : decode cX9_seedBehind 13 = .ok (.lrem, 1) := by decide +kernel
theorem dX9_seedBehind_14 : decode cX9_seedBehind 14 = .ok (.l2i, 1) := by decide +kernel
theorem dX9_seedBehind_15 : decode cX9_seedBehind 15 = .ok (.ireturn, 1) := by decide +kernel
theorem dX9_isPerson_0 : decode cX9_isPerson 0 = .ok (.iload_n 1, 1) := by decide +kernel
theorem dX9_isPerson_1 : decode cX9_isPerson 1 = .ok (.ifCond .lt 15, 3) := by decide +kernel
theorem dX9_isPerson_4 : decode cX9_isPerson 4 = .ok (.iload_n 1, 1) := by decide +kernel
theorem dX9_isPerson_5 : decode cX9_isPerson 5 = .ok (.aload_n 0, 1) := by decide +kernel
theorem dX9_isPerson_6 : decode cX9_isPerson 6 = .ok (.getfield 88, 3) := by decide +kernel
theorem dX9_isPerson_9 : decode cX9_isPerson 9 = .ok (.if_icmp .ge 7, 3) := by decide +kernel
theorem dX9_isPerson_12 : decode cX9_isPerson 12 = .ok (.iconst 1, 1) := by decide +kernel
theorem dX9_isPerson_13 : decode cX9_isPerson 13 = .ok (.goto 4, 3) := by decide +kernel
theorem dX9_isPerson_16 : decode cX9_isPerson 16 = .ok (.iconst 0, 1) := by decide +kernel
theorem dX9_isPerson_17 : decode cX9_isPerson 17 = .ok (.ireturn, 1) := by decide +kernel
theorem dX9_isLawless_0 : decode cX9_isLawless 0 = .ok (.aload_n 0, 1) := by decide +kernel
theorem dX9_isLawless_1 : decode cX9_isLawless 1 = .ok (.getfield 94, 3) := by decide +kernel
theorem dX9_isLawless_4 : decode cX9_isLawless 4 = .ok (.ifCond .ne 7, 3) := by decide +kernel
theorem dX9_isLawless_7 : decode cX9_isLawless 7 = .ok (.iconst 1, 1) := by decide +kernel
theorem dX9_isLawless_8 : decode cX9_isLawless 8 = .ok (.goto 4, 3) := by decide +kernel
theorem dX9_isLawless_11 : decode cX9_isLawless 11 = .ok (.iconst 0, 1) := by decide +kernel
theorem dX9_isLawless_12 : decode cX9_isLawless 12 = .ok (.ireturn, 1) := by decide +kernel
set_option maxRecDepth 20000 in
theorem ggX9_dealFor_X0_set : GoodIn wsX9_dealFor wsX0_set := goodIn_r _ [9, 10, 11, 12, 13, 14, 15, 16, 17, 18, 19, 20, 21, 22, 23, 24, 25, 26, 27, 28, 29, 30, 31, 32, 33, 48, 49, 50, 51, 52, 53, 54, 55, 56, 57] (by decide +kernel) (by decide +kernel)
set_option maxRecDepth 20000 in
theorem gX9_dealFor_X0_set : GoodIn wsX9_dealFor (wsV RX9 235 RX0 yX0_set wsX0_set) := goodIn_app (goodIn_of _ (by decide +kernel)) ggX9_dealFor_X0_set
theorem dX9_dealFor_0 : decode cX9_dealFor 0 = .ok (.aload_n 0, 1) := by decide +kernel
theorem dX9_dealFor_1 : decode cX9_dealFor 1 = .ok (.getfield 25, 3) := by decide +kernel
theorem dX9_dealFor_4 : decode cX9_dealFor 4 = .ok (.aload_n 0, 1) := by decide +kernel
theorem dX9_dealFor_5 : decode cX9_dealFor 5 = .ok (.getfield 53, 3) := by decide +kernel
theorem dX9_dealFor_8 : decode cX9_dealFor 8 = .ok (.aload_n 0, 1) := by decide +kernel
theorem dX9_dealFor_9 : decode cX9_dealFor 9 = .ok (.getfield 18, 3) := by decide +kernel
theorem dX9_dealFor_12 : decode cX9_dealFor 12 = .ok (.iload_n 1, 1) := by decide +kernel
theorem dX9_dealFor_13 : decode cX9_dealFor 13 = .ok (.aaload, 1) := by decide +kernel
theorem dX9_dealFor_14 : decode cX9_dealFor 14 = .ok (.getfield 134, 3) := by decide +kernel
theorem dX9_dealFor_17 : decode cX9_dealFor 17 = .ok (.invokevirtual 235, 3) := by decide +kernel
theorem dX9_dealFor_20 : decode cX9_dealFor 20 = .ok (.areturn, 1) := by decide +kernel
set_option maxRecDepth 20000 in
theorem ggX9_peopleIn_X7_townOf : GoodIn wsX9_peopleIn wsX7_townOf := goodIn_r _ [7] (by decide +kernel) (by decide +kernel)
set_option maxRecDepth 20000 in
theorem gX9_peopleIn_X7_townOf : GoodIn wsX9_peopleIn (va_wsS RX9 144 yX7_townOf wsX7_townOf) := goodIn_app (goodIn_of _ (by decide +kernel)) ggX9_peopleIn_X7_townOf
theorem dX9_peopleIn_0 : decode cX9_peopleIn 0 = .ok (.iconst 0, 1) := by decide +kernel
theorem dX9_peopleIn_1 : decode cX9_peopleIn 1 = .ok (.istore_n 2, 1) := by decide +kernel
theorem dX9_peopleIn_2 : decode cX9_peopleIn 2 = .ok (.iconst 0, 1) := by decide +kernel
theorem dX9_peopleIn_3 : decode cX9_peopleIn 3 = .ok (.istore_n 3, 1) := by decide +kernel
theorem dX9_peopleIn_4 : decode cX9_peopleIn 4 = .ok (.iload_n 3, 1) := by decide +kernel
theorem dX9_peopleIn_5 : decode cX9_peopleIn 5 = .ok (.aload_n 0, 1) := by decide +kernel
theorem dX9_peopleIn_6 : decode cX9_peopleIn 6 = .ok (.getfield 88, 3) := by decide +kernel
theorem dX9_peopleIn_9 : decode cX9_peopleIn 9 = .ok (.if_icmp .ge 28, 3) := by decide +kernel
theorem dX9_peopleIn_12 : decode cX9_peopleIn 12 = .ok (.aload_n 0, 1) := by decide +kernel
theorem dX9_peopleIn_13 : decode cX9_peopleIn 13 = .ok (.getfield 18, 3) := by decide +kernel
theorem dX9_peopleIn_16 : decode cX9_peopleIn 16 = .ok (.iload_n 3, 1) := by decide +kernel
theorem dX9_peopleIn_17 : decode cX9_peopleIn 17 = .ok (.aaload, 1) := by decide +kernel
theorem dX9_peopleIn_18 : decode cX9_peopleIn 18 = .ok (.getfield 138, 3) := by decide +kernel
theorem dX9_peopleIn_21 : decode cX9_peopleIn 21 = .ok (.invokestatic 144, 3) := by decide +kernel
theorem dX9_peopleIn_24 : decode cX9_peopleIn 24 = .ok (.iload_n 1, 1) := by decide +kernel
theorem dX9_peopleIn_25 : decode cX9_peopleIn 25 = .ok (.if_icmp .ne 6, 3) := by decide +kernel
theorem dX9_peopleIn_28 : decode cX9_peopleIn 28 = .ok (.iinc 2 1, 3) := by decide +kernel
theorem dX9_peopleIn_31 : decode cX9_peopleIn 31 = .ok (.iinc 3 1, 3) := by decide +kernel
theorem dX9_peopleIn_34 : decode cX9_peopleIn 34 = .ok (.goto (-30), 3) := by decide +kernel
theorem dX9_peopleIn_37 : decode cX9_peopleIn 37 = .ok (.iload_n 2, 1) := by decide +kernel
theorem dX9_peopleIn_38 : decode cX9_peopleIn 38 = .ok (.ireturn, 1) := by decide +kernel
set_option maxRecDepth 20000 in
theorem ggX9_coinsOfAll_X7_coinsTogether : GoodIn wsX9_coinsOfAll wsX7_coinsTogether := goodIn_r _ [7, 8, 9, 6, 10] (by decide +kernel) (by decide +kernel)
set_option maxRecDepth 20000 in
theorem gX9_coinsOfAll_X7_coinsTogether : GoodIn wsX9_coinsOfAll (va_wsS RX9 157 yX7_coinsTogether wsX7_coinsTogether) := goodIn_app (goodIn_of _ (by decide +kernel)) ggX9_coinsOfAll_X7_coinsTogether
theorem dX9_coinsOfAll_0 : decode cX9_coinsOfAll 0 = .ok (.iconst 0, 1) := by decide +kernel
theorem dX9_coinsOfAll_1 : decode cX9_coinsOfAll 1 = .ok (.istore_n 1, 1) := by decide +kernel
theorem dX9_coinsOfAll_2 : decode cX9_coinsOfAll 2 = .ok (.iconst 0, 1) := by decide +kernel
theorem dX9_coinsOfAll_3 : decode cX9_coinsOfAll 3 = .ok (.istore_n 2, 1) := by decide +kernel
theorem dX9_coinsOfAll_4 : decode cX9_coinsOfAll 4 = .ok (.iload_n 2, 1) := by decide +kernel
theorem dX9_coinsOfAll_5 : decode cX9_coinsOfAll 5 = .ok (.aload_n 0, 1) := by decide +kernel
theorem dX9_coinsOfAll_6 : decode cX9_coinsOfAll 6 = .ok (.getfield 88, 3) := by decide +kernel
theorem dX9_coinsOfAll_9 : decode cX9_coinsOfAll 9 = .ok (.if_icmp .ge 24, 3) := by decide +kernel
theorem dX9_coinsOfAll_12 : decode cX9_coinsOfAll 12 = .ok (.iload_n 1, 1) := by decide +kernel
theorem dX9_coinsOfAll_13 : decode cX9_coinsOfAll 13 = .ok (.aload_n 0, 1) := by decide +kernel
theorem dX9_coinsOfAll_14 : decode cX9_coinsOfAll 14 = .ok (.getfield 18, 3) := by decide +kernel
theorem dX9_coinsOfAll_17 : decode cX9_coinsOfAll 17 = .ok (.iload_n 2, 1) := by decide +kernel
theorem dX9_coinsOfAll_18 : decode cX9_coinsOfAll 18 = .ok (.aaload, 1) := by decide +kernel
theorem dX9_coinsOfAll_19 : decode cX9_coinsOfAll 19 = .ok (.getfield 138, 3) := by decide +kernel
theorem dX9_coinsOfAll_22 : decode cX9_coinsOfAll 22 = .ok (.invokestatic 157, 3) := by decide +kernel
theorem dX9_coinsOfAll_25 : decode cX9_coinsOfAll 25 = .ok (.iadd, 1) := by decide +kernel
theorem dX9_coinsOfAll_26 : decode cX9_coinsOfAll 26 = .ok (.istore_n 1, 1) := by decide +kernel
theorem dX9_coinsOfAll_27 : decode cX9_coinsOfAll 27 = .ok (.iinc 2 1, 3) := by decide +kernel
theorem dX9_coinsOfAll_30 : decode cX9_coinsOfAll 30 = .ok (.goto (-26), 3) := by decide +kernel
theorem dX9_coinsOfAll_33 : decode cX9_coinsOfAll 33 = .ok (.iload_n 1, 1) := by decide +kernel
theorem dX9_coinsOfAll_34 : decode cX9_coinsOfAll 34 = .ok (.ireturn, 1) := by decide +kernel
set_option maxRecDepth 20000 in
theorem ggX9_goodsOfAll_X7_goodsOf : GoodIn wsX9_goodsOfAll wsX7_goodsOf := goodIn_r _ [7] (by decide +kernel) (by decide +kernel)
set_option maxRecDepth 20000 in
theorem gX9_goodsOfAll_X7_goodsOf : GoodIn wsX9_goodsOfAll (va_wsS RX9 154 yX7_goodsOf wsX7_goodsOf) := goodIn_app (goodIn_of _ (by decide +kernel)) ggX9_goodsOfAll_X7_goodsOf
set_option maxRecDepth 20000 in
theorem ggX9_goodsOfAll_J6_bitCount_0f7a4 : GoodIn wsX9_goodsOfAll wsJ6_bitCount_0f7a4 := goodIn_r _ [11, 12, 13, 14] (by decide +kernel) (by decide +kernel)
set_option maxRecDepth 20000 in
theorem gX9_goodsOfAll_J6_bitCount_0f7a4 : GoodIn wsX9_goodsOfAll (va_wsS RX9 312 yJ6_bitCount_0f7a4 wsJ6_bitCount_0f7a4) := goodIn_app (goodIn_of _ (by decide +kernel)) ggX9_goodsOfAll_J6_bitCount_0f7a4
theorem dX9_goodsOfAll_0 : decode cX9_goodsOfAll 0 = .ok (.iconst 0, 1) := by decide +kernel
theorem dX9_goodsOfAll_1 : decode cX9_goodsOfAll 1 = .ok (.istore_n 1, 1) := by decide +kernel
theorem dX9_goodsOfAll_2 : decode cX9_goodsOfAll 2 = .ok (.iconst 0, 1) := by decide +kernel
theorem dX9_goodsOfAll_3 : decode cX9_goodsOfAll 3 = .ok (.istore_n 2, 1) := by decide +kernel
theorem dX9_goodsOfAll_4 : decode cX9_goodsOfAll 4 = .ok (.iload_n 2, 1) := by decide +kernel
theorem dX9_goodsOfAll_5 : decode cX9_goodsOfAll 5 = .ok (.aload_n 0, 1) := by decide +kernel
theorem dX9_goodsOfAll_6 : decode cX9_goodsOfAll 6 = .ok (.getfield 88, 3) := by decide +kernel
theorem dX9_goodsOfAll_9 : decode cX9_goodsOfAll 9 = .ok (.if_icmp .ge 27, 3) := by decide +kernel
theorem dX9_goodsOfAll_12 : decode cX9_goodsOfAll 12 = .ok (.iload_n 1, 1) := by decide +kernel
theorem dX9_goodsOfAll_13 : decode cX9_goodsOfAll 13 = .ok (.aload_n 0, 1) := by decide +kernel
theorem dX9_goodsOfAll_14 : decode cX9_goodsOfAll 14 = .ok (.getfield 18, 3) := by decide +kernel
theorem dX9_goodsOfAll_17 : decode cX9_goodsOfAll 17 = .ok (.iload_n 2, 1) := by decide +kernel
theorem dX9_goodsOfAll_18 : decode cX9_goodsOfAll 18 = .ok (.aaload, 1) := by decide +kernel
theorem dX9_goodsOfAll_19 : decode cX9_goodsOfAll 19 = .ok (.getfield 138, 3) := by decide +kernel
theorem dX9_goodsOfAll_22 : decode cX9_goodsOfAll 22 = .ok (.invokestatic 154, 3) := by decide +kernel
theorem dX9_goodsOfAll_25 : decode cX9_goodsOfAll 25 = .ok (.invokestatic 312, 3) := by decide +kernel
theorem dX9_goodsOfAll_28 : decode cX9_goodsOfAll 28 = .ok (.iadd, 1) := by decide +kernel
theorem dX9_goodsOfAll_29 : decode cX9_goodsOfAll 29 = .ok (.istore_n 1, 1) := by decide +kernel
theorem dX9_goodsOfAll_30 : decode cX9_goodsOfAll 30 = .ok (.iinc 2 1, 3) := by decide +kernel
theorem dX9_goodsOfAll_33 : decode cX9_goodsOfAll 33 = .ok (.goto (-29), 3) := by decide +kernel
theorem dX9_goodsOfAll_36 : decode cX9_goodsOfAll 36 = .ok (.iload_n 1, 1) := by decide +kernel
theorem dX9_goodsOfAll_37 : decode cX9_goodsOfAll 37 = .ok (.ireturn, 1) := by decide +kernel
