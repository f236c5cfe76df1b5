theorem dX10_layQueue_48 : decode cX10_layQueue 48 = .ok (.return_, 1) := by decide +kernel
set_option maxRecDepth 20000 in
theorem ggX10_goFrom_X10_isAct : GoodIn wsX10_goFrom wsX10_isAct := goodIn_r _ [7, 8, 9, 6, 10] (by decide +kernel) (by decide +kernel)
set_option maxRecDepth 20000 in
theorem gX10_goFrom_X10_isAct : GoodIn wsX10_goFrom (va_wsS RX10 163 yX10_isAct wsX10_isAct) := goodIn_app (goodIn_of _ (by decide +kernel)) ggX10_goFrom_X10_isAct
set_option maxRecDepth 20000 in
theorem ggX10_goFrom_X10_behind : GoodIn wsX10_goFrom wsX10_behind := goodIn_r _ [14, 15, 16, 17, 6, 18, 19, 20, 21, 22, 23, 24, 25, 26, 27, 28, 29, 30, 31, 32, 33, 34, 35, 36, 37, 38, 39, 40, 41, 42, 43, 44, 45, 46, 47, 48, 49, 50, 51, 52, 53, 54, 55, 56, 57, 58, 59, 60, 61, 62, 63, 64, 65, 66, 67, 68, 69, 70, 71, 72, 73, 74, 75, 76, 77, 78, 79, 80, 81, 82, 83, 84, 85, 86, 87, 88, 89] (by decide +kernel) (by decide +kernel)
set_option maxRecDepth 20000 in
theorem gX10_goFrom_X10_behind : GoodIn wsX10_goFrom (wsV RX10 166 RX10 yX10_behind wsX10_behind) := goodIn_app (goodIn_of _ (by decide +kernel)) ggX10_goFrom_X10_behind
theorem dX10_goFrom_0 : decode cX10_goFrom 0 = .ok (.iconst 0, 1) := by decide +kernel
theorem dX10_goFrom_1 : decode cX10_goFrom 1 = .ok (.istore_n 3, 1) := by decide +kernel
theorem dX10_goFrom_2 : decode cX10_goFrom 2 = .ok (.iload_n 3, 1) := by decide +kernel
theorem dX10_goFrom_3 : decode cX10_goFrom 3 = .ok (.bipush 24, 2) := by decide +kernel
theorem dX10_goFrom_5 : decode cX10_goFrom 5 = .ok (.if_icmp .ge 97, 3) := by decide +kernel
theorem dX10_goFrom_8 : decode cX10_goFrom 8 = .ok (.iload_n 3, 1) := by decide +kernel
theorem dX10_goFrom_9 : decode cX10_goFrom 9 = .ok (.invokestatic 163, 3) := by decide +kernel
theorem dX10_goFrom_12 : decode cX10_goFrom 12 = .ok (.ifCond .eq 13, 3) := by decide +kernel
theorem dX10_goFrom_15 : decode cX10_goFrom 15 = .ok (.aload_n 0, 1) := by decide +kernel
theorem dX10_goFrom_16 : decode cX10_goFrom 16 = .ok (.iload_n 1, 1) := by decide +kernel
theorem dX10_goFrom_17 : decode cX10_goFrom 17 = .ok (.iload_n 2, 1) := by decide +kernel
theorem dX10_goFrom_18 : decode cX10_goFrom 18 = .ok (.iload_n 3, 1) := by decide +kernel
theorem dX10_goFrom_19 : decode cX10_goFrom 19 = .ok (.invokevirtual 166, 3) := by decide +kernel
theorem dX10_goFrom_22 : decode cX10_goFrom 22 = .ok (.goto 4, 3) := by decide +kernel
theorem dX10_goFrom_25 : decode cX10_goFrom 25 = .ok (.iconst (-1), 1) := by decide +kernel
theorem dX10_goFrom_26 : decode cX10_goFrom 26 = .ok (.istore 4, 2) := by decide +kernel
theorem dX10_goFrom_28 : decode cX10_goFrom 28 = .ok (.iload 4, 2) := by decide +kernel
theorem dX10_goFrom_30 : decode cX10_goFrom 30 = .ok (.iconst (-1), 1) := by decide +kernel
theorem dX10_goFrom_31 : decode cX10_goFrom 31 = .ok (.if_icmp .eq 65, 3) := by decide +kernel
theorem dX10_goFrom_34 : decode cX10_goFrom 34 = .ok (.aload_n 0, 1) := by decide +kernel
theorem dX10_goFrom_35 : decode cX10_goFrom 35 = .ok (.getfield 52, 3) := by decide +kernel
theorem dX10_goFrom_38 : decode cX10_goFrom 38 = .ok (.iload 4, 2) := by decide +kernel
theorem dX10_goFrom_40 : decode cX10_goFrom 40 = .ok (.baload, 1) := by decide +kernel
theorem dX10_goFrom_41 : decode cX10_goFrom 41 = .ok (.ifCond .ne 55, 3) := by decide +kernel
theorem dX10_goFrom_44 : decode cX10_goFrom 44 = .ok (.aload_n 0, 1) := by decide +kernel
theorem dX10_goFrom_45 : decode cX10_goFrom 45 = .ok (.getfield 52, 3) := by decide +kernel
theorem dX10_goFrom_48 : decode cX10_goFrom 48 = .ok (.iload 4, 2) := by decide +kernel
theorem dX10_goFrom_50 : decode cX10_goFrom 50 = .ok (.aload_n 0, 1) := by decide +kernel
theorem dX10_goFrom_51 : decode cX10_goFrom 51 = .ok (.getfield 52, 3) := by decide +kernel
theorem dX10_goFrom_54 : decode cX10_goFrom 54 = .ok (.iload_n 2, 1) := by decide +kernel
theorem dX10_goFrom_55 : decode cX10_goFrom 55 = .ok (.baload, 1) := by decide +kernel
theorem dX10_goFrom_56 : decode cX10_goFrom 56 = .ok (.bipush 99, 2) := by decide +kernel
theorem dX10_goFrom_58 : decode cX10_goFrom 58 = .ok (.if_icmp .ne 10, 3) := by decide +kernel
theorem dX10_goFrom_61 : decode cX10_goFrom 61 = .ok (.iload_n 3, 1) := by decide +kernel
theorem dX10_goFrom_62 : decode cX10_goFrom 62 = .ok (.iconst 1, 1) := by decide +kernel
theorem dX10_goFrom_63 : decode cX10_goFrom 63 = .ok (.iadd, 1) := by decide +kernel
theorem dX10_goFrom_64 : decode cX10_goFrom 64 = .ok (.i2b, 1) := by decide +kernel
theorem dX10_goFrom_65 : decode cX10_goFrom 65 = .ok (.goto 9, 3) := by decide +kernel
theorem dX10_goFrom_68 : decode cX10_goFrom 68 = .ok (.aload_n 0, 1) := by decide +kernel
theorem dX10_goFrom_69 : decode cX10_goFrom 69 = .ok (.getfield 52, 3) := by decide +kernel
theorem dX10_goFrom_72 : decode cX10_goFrom 72 = .ok (.iload_n 2, 1) := by decide +kernel
theorem dX10_goFrom_73 : decode cX10_goFrom 73 = .ok (.baload, 1) := by decide +kernel
theorem dX10_goFrom_74 : decode cX10_goFrom 74 = .ok (.bastore, 1) := by decide +kernel
theorem dX10_goFrom_75 : decode cX10_goFrom 75 = .ok (.aload_n 0, 1) := by decide +kernel
theorem dX10_goFrom_76 : decode cX10_goFrom 76 = .ok (.getfield 55, 3) := by decide +kernel
theorem dX10_goFrom_79 : decode cX10_goFrom 79 = .ok (.aload_n 0, 1) := by decide +kernel
theorem dX10_goFrom_80 : decode cX10_goFrom 80 = .ok (.getfield 169, 3) := by decide +kernel
theorem dX10_goFrom_83 : decode cX10_goFrom 83 = .ok (.iload 4, 2) := by decide +kernel
theorem dX10_goFrom_85 : decode cX10_goFrom 85 = .ok (.iastore, 1) := by decide +kernel
theorem dX10_goFrom_86 : decode cX10_goFrom 86 = .ok (.aload_n 0, 1) := by decide +kernel
theorem dX10_goFrom_87 : decode cX10_goFrom 87 = .ok (.dup, 1) := by decide +kernel
theorem dX10_goFrom_88 : decode cX10_goFrom 88 = .ok (.getfield 169, 3) := by decide +kernel
theorem dX10_goFrom_91 : decode cX10_goFrom 91 = .ok (.iconst 1, 1) := by decide +kernel
theorem dX10_goFrom_92 : decode cX10_goFrom 92 = .ok (.iadd, 1) := by decide +kernel
theorem dX10_goFrom_93 : decode cX10_goFrom 93 = .ok (.putfield 169, 3) := by decide +kernel
theorem dX10_goFrom_96 : decode cX10_goFrom 96 = .ok (.iinc 3 1, 3) := by decide +kernel
theorem dX10_goFrom_99 : decode cX10_goFrom 99 = .ok (.goto (-97), 3) := by decide +kernel
theorem dX10_goFrom_102 : decode cX10_goFrom 102 = .ok (.return_, 1) := by decide +kernel
set_option maxRecDepth 20000 in
theorem ggX10_fewestOf_X10_goodsIn : GoodIn wsX10_fewestOf wsX10_goodsIn := goodIn_r _ [10] (by decide +kernel) (by decide +kernel)
set_option maxRecDepth 20000 in
theorem gX10_fewestOf_X10_goodsIn : GoodIn wsX10_fewestOf (va_wsS RX10 141 yX10_goodsIn wsX10_goodsIn) := goodIn_app (goodIn_of _ (by decide +kernel)) ggX10_fewestOf_X10_goodsIn
set_option maxRecDepth 20000 in
theorem ggX10_fewestOf_X10_has : GoodIn wsX10_fewestOf wsX10_has := goodIn_r _ [13] (by decide +kernel) (by decide +kernel)
set_option maxRecDepth 20000 in
theorem gX10_fewestOf_X10_has : GoodIn wsX10_fewestOf (va_wsS RX10 82 yX10_has wsX10_has) := goodIn_app (goodIn_of _ (by decide +kernel)) ggX10_fewestOf_X10_has
set_option maxRecDepth 20000 in
theorem ggX10_fewestOf_X10_layQueue : GoodIn wsX10_fewestOf wsX10_layQueue := goodIn_r _ [17, 3, 6, 5, 63, 64, 65, 66, 67, 68, 69, 70, 71, 72, 73, 74, 75, 76, 77, 78, 79, 80, 81, 82, 83, 84, 85, 86, 87, 88, 89, 90, 91, 92, 93, 94, 95, 96, 97, 98, 99, 100] (by decide +kernel) (by decide +kernel)
set_option maxRecDepth 20000 in
theorem gX10_fewestOf_X10_layQueue : GoodIn wsX10_fewestOf (wsV RX10 175 RX10 yX10_layQueue wsX10_layQueue) := goodIn_app (goodIn_of _ (by decide +kernel)) ggX10_fewestOf_X10_layQueue
set_option maxRecDepth 20000 in
theorem ggX10_fewestOf_X10_goFrom : GoodIn wsX10_fewestOf wsX10_goFrom := goodIn_r _ [21, 6, 5, 3, 22, 23, 9, 24, 25, 26, 27, 28, 29, 30, 31, 32, 33, 34, 35, 36, 37, 38, 39, 40, 11, 12, 13, 7, 8, 10, 41, 42, 43, 44, 45, 46, 47, 48, 49, 50, 51, 52, 53, 54, 55, 56, 57, 58, 59, 60, 61, 62, 63, 64, 65, 66, 67, 68, 69, 70, 71, 72, 73, 74, 75, 76, 77, 78, 79, 80, 81, 82, 83, 84, 85, 86, 87, 88, 89, 90, 91, 92, 93, 94, 95, 96, 97, 98, 99, 100] (by decide +kernel) (by decide +kernel)
set_option maxRecDepth 20000 in
theorem gX10_fewestOf_X10_goFrom : GoodIn wsX10_fewestOf (wsV RX10 179 RX10 yX10_goFrom wsX10_goFrom) := goodIn_app (goodIn_of _ (by decide +kernel)) ggX10_fewestOf_X10_goFrom
theorem dX10_fewestOf_0 : decode cX10_fewestOf 0 = .ok (.aload_n 0, 1) := by decide +kernel
theorem dX10_fewestOf_1 : decode cX10_fewestOf 1 = .ok (.iconst (-1), 1) := by decide +kernel
theorem dX10_fewestOf_2 : decode cX10_fewestOf 2 = .ok (.putfield 172, 3) := by decide +kernel
theorem dX10_fewestOf_5 : decode cX10_fewestOf 5 = .ok (.aload_n 0, 1) := by decide +kernel
theorem dX10_fewestOf_6 : decode cX10_fewestOf 6 = .ok (.getfield 25, 3) := by decide +kernel
theorem dX10_fewestOf_9 : decode cX10_fewestOf 9 = .ok (.iload_n 1, 1) := by decide +kernel
theorem dX10_fewestOf_10 : decode cX10_fewestOf 10 = .ok (.iaload, 1) := by decide +kernel
theorem dX10_fewestOf_11 : decode cX10_fewestOf 11 = .ok (.invokestatic 141, 3) := by decide +kernel
theorem dX10_fewestOf_14 : decode cX10_fewestOf 14 = .ok (.iload_n 2, 1) := by decide +kernel
theorem dX10_fewestOf_15 : decode cX10_fewestOf 15 = .ok (.invokestatic 82, 3) := by decide +kernel
theorem dX10_fewestOf_18 : decode cX10_fewestOf 18 = .ok (.ifCond .eq 5, 3) := by decide +kernel
theorem dX10_fewestOf_21 : decode cX10_fewestOf 21 = .ok (.iconst 0, 1) := by decide +kernel
theorem dX10_fewestOf_22 : decode cX10_fewestOf 22 = .ok (.ireturn, 1) := by decide +kernel
theorem dX10_fewestOf_23 : decode cX10_fewestOf 23 = .ok (.aload_n 0, 1) := by decide +kernel
theorem dX10_fewestOf_24 : decode cX10_fewestOf 24 = .ok (.aload_n 0, 1) := by decide +kernel
theorem dX10_fewestOf_25 : decode cX10_fewestOf 25 = .ok (.getfield 25, 3) := by decide +kernel
theorem dX10_fewestOf_28 : decode cX10_fewestOf 28 = .ok (.iload_n 1, 1) := by decide +kernel
theorem dX10_fewestOf_29 : decode cX10_fewestOf 29 = .ok (.iaload, 1) := by decide +kernel
theorem dX10_fewestOf_30 : decode cX10_fewestOf 30 = .ok (.invokevirtual 175, 3) := by decide +kernel
theorem dX10_fewestOf_33 : decode cX10_fewestOf 33 = .ok (.iconst 0, 1) := by decide +kernel
theorem dX10_fewestOf_34 : decode cX10_fewestOf 34 = .ok (.istore_n 3, 1) := by decide +kernel
theorem dX10_fewestOf_35 : decode cX10_fewestOf 35 = .ok (.iconst 0, 1) := by decide +kernel
theorem dX10_fewestOf_36 : decode cX10_fewestOf 36 = .ok (.istore 4, 2) := by decide +kernel
theorem dX10_fewestOf_38 : decode cX10_fewestOf 38 = .ok (.iload_n 3, 1) := by decide +kernel
theorem dX10_fewestOf_39 : decode cX10_fewestOf 39 = .ok (.aload_n 0, 1) := by decide +kernel
theorem dX10_fewestOf_40 : decode cX10_fewestOf 40 = .ok (.getfield 169, 3) := by decide +kernel
theorem dX10_fewestOf_43 : decode cX10_fewestOf 43 = .ok (.if_icmp .ge 100, 3) := by decide +kernel
theorem dX10_fewestOf_46 : decode cX10_fewestOf 46 = .ok (.aload_n 0, 1) := by decide +kernel
theorem dX10_fewestOf_47 : decode cX10_fewestOf 47 = .ok (.getfield 169, 3) := by decide +kernel
theorem dX10_fewestOf_50 : decode cX10_fewestOf 50 = .ok (.istore 5, 2) := by decide +kernel
theorem dX10_fewestOf_52 : decode cX10_fewestOf 52 = .ok (.iinc 4 1, 3) := by decide +kernel
theorem dX10_fewestOf_55 : decode cX10_fewestOf 55 = .ok (.iload_n 3, 1) := by decide +kernel
theorem dX10_fewestOf_56 : decode cX10_fewestOf 56 = .ok (.iload 5, 2) := by decide +kernel
theorem dX10_fewestOf_58 : decode cX10_fewestOf 58 = .ok (.if_icmp .ge 25, 3) := by decide +kernel
theorem dX10_fewestOf_61 : decode cX10_fewestOf 61 = .ok (.aload_n 0, 1) := by decide +kernel
theorem dX10_fewestOf_62 : decode cX10_fewestOf 62 = .ok (.aload_n 0, 1) := by decide +kernel
theorem dX10_fewestOf_63 : decode cX10_fewestOf 63 = .ok (.getfield 22, 3) := by decide +kernel
theorem dX10_fewestOf_66 : decode cX10_fewestOf 66 = .ok (.iload_n 1, 1) := by decide +kernel
theorem dX10_fewestOf_67 : decode cX10_fewestOf 67 = .ok (.iaload, 1) := by decide +kernel
theorem dX10_fewestOf_68 : decode cX10_fewestOf 68 = .ok (.aload_n 0, 1) := by decide +kernel
theorem dX10_fewestOf_69 : decode cX10_fewestOf 69 = .ok (.getfield 55, 3) := by decide +kernel
theorem dX10_fewestOf_72 : decode cX10_fewestOf 72 = .ok (.iload_n 3, 1) := by decide +kernel
theorem dX10_fewestOf_73 : decode cX10_fewestOf 73 = .ok (.iaload, 1) := by decide +kernel
theorem dX10_fewestOf_74 : decode cX10_fewestOf 74 = .ok (.invokevirtual 179, 3) := by decide +kernel
theorem dX10_fewestOf_77 : decode cX10_fewestOf 77 = .ok (.iinc 3 1, 3) := by decide +kernel
theorem dX10_fewestOf_80 : decode cX10_fewestOf 80 = .ok (.goto (-25), 3) := by decide +kernel
theorem dX10_fewestOf_83 : decode cX10_fewestOf 83 = .ok (.iload 5, 2) := by decide +kernel
theorem dX10_fewestOf_85 : decode cX10_fewestOf 85 = .ok (.istore 6, 2) := by decide +kernel
theorem dX10_fewestOf_87 : decode cX10_fewestOf 87 = .ok (.iload 6, 2) := by decide +kernel
theorem dX10_fewestOf_89 : decode cX10_fewestOf 89 = .ok (.aload_n 0, 1) := by decide +kernel
theorem dX10_fewestOf_90 : decode cX10_fewestOf 90 = .ok (.getfield 169, 3) := by decide +kernel
theorem dX10_fewestOf_93 : decode cX10_fewestOf 93 = .ok (.if_icmp .ge 47, 3) := by decide +kernel
theorem dX10_fewestOf_96 : decode cX10_fewestOf 96 = .ok (.aload_n 0, 1) := by decide +kernel
theorem dX10_fewestOf_97 : decode cX10_fewestOf 97 = .ok (.getfield 55, 3) := by decide +kernel
theorem dX10_fewestOf_100 : decode cX10_fewestOf 100 = .ok (.iload 6, 2) := by decide +kernel
theorem dX10_fewestOf_102 : decode cX10_fewestOf 102 = .ok (.iaload, 1) := by decide +kernel
theorem dX10_fewestOf_103 : decode cX10_fewestOf 103 = .ok (.invokestatic 141, 3) := by decide +kernel
theorem dX10_fewestOf_106 : decode cX10_fewestOf 106 = .ok (.iload_n 2, 1) := by decide +kernel
theorem dX10_fewestOf_107 : decode cX10_fewestOf 107 = .ok (.invokestatic 82, 3) := by decide +kernel
theorem dX10_fewestOf_110 : decode cX10_fewestOf 110 = .ok (.ifCond .eq 24, 3) := by decide +kernel
theorem dX10_fewestOf_113 : decode cX10_fewestOf 113 = .ok (.aload_n 0, 1) := by decide +kernel
theorem dX10_fewestOf_114 : decode cX10_fewestOf 114 = .ok (.aload_n 0, 1) := by decide +kernel
theorem dX10_fewestOf_115 : decode cX10_fewestOf 115 = .ok (.getfield 52, 3) := by decide +kernel
theorem dX10_fewestOf_118 : decode cX10_fewestOf 118 = .ok (.aload_n 0, 1) := by decide +kernel
theorem dX10_fewestOf_119 : decode cX10_fewestOf 119 = .ok (.getfield 55, 3) := by decide +kernel
theorem dX10_fewestOf_122 : decode cX10_fewestOf 122 = .ok (.iload 6, 2) := by decide +kernel
theorem dX10_fewestOf_124 : decode cX10_fewestOf 124 = .ok (.iaload, 1) := by decide +kernel
theorem dX10_fewestOf_125 : decode cX10_fewestOf 125 = .ok (.baload, 1) := by decide +kernel
theorem dX10_fewestOf_126 : decode cX10_fewestOf 126 = .ok (.iconst 1, 1) := by decide +kernel
theorem dX10_fewestOf_127 : decode cX10_fewestOf 127 = .ok (.isub, 1) := by decide +kernel
theorem dX10_fewestOf_128 : decode cX10_fewestOf 128 = .ok (.putfield 172, 3) := by decide +kernel
theorem dX10_fewestOf_131 : decode cX10_fewestOf 131 = .ok (.iload 4, 2) := by decide +kernel
theorem dX10_fewestOf_133 : decode cX10_fewestOf 133 = .ok (.ireturn, 1) := by decide +kernel
theorem dX10_fewestOf_134 : decode cX10_fewestOf 134 = .ok (.iinc 6 1, 3) := by decide +kernel
theorem dX10_fewestOf_137 : decode cX10_fewestOf 137 = .ok (.goto (-50), 3) := by decide +kernel
theorem dX10_fewestOf_140 : decode cX10_fewestOf 140 = .ok (.goto (-102), 3) := by decide +kernel
theorem dX10_fewestOf_143 : decode cX10_fewestOf 143 = .ok (.iconst (-1), 1) := by decide +kernel
theorem dX10_fewestOf_144 : decode cX10_fewestOf 144 = .ok (.ireturn, 1) := by decide +kernel
set_option maxRecDepth 20000 in
theorem ggX10_fewest_X10_isPerson : GoodIn wsX10_fewest wsX10_isPerson := goodIn_r _ [7, 8, 9, 10, 6, 11, 76, 77, 78, 79, 80, 81, 82, 83, 84, 85, 86, 87, 88, 89, 90, 91, 92, 93, 94, 95, 96, 97, 98, 99, 100, 101, 102, 103, 104, 105, 106, 107, 108, 109, 110, 111, 112, 113] (by decide +kernel) (by decide +kernel)
set_option maxRecDepth 20000 in
theorem gX10_fewest_X10_isPerson : GoodIn wsX10_fewest (wsV RX10 157 RX10 yX10_isPerson wsX10_isPerson) := goodIn_app (goodIn_of _ (by decide +kernel)) ggX10_fewest_X10_isPerson
set_option maxRecDepth 20000 in
theorem ggX10_fewest_X10_isTown : GoodIn wsX10_fewest wsX10_isTown := goodIn_r _ [14, 9, 10, 6, 11] (by decide +kernel) (by decide +kernel)
set_option maxRecDepth 20000 in
theorem gX10_fewest_X10_isTown : GoodIn wsX10_fewest (va_wsS RX10 122 yX10_isTown wsX10_isTown) := goodIn_app (goodIn_of _ (by decide +kernel)) ggX10_fewest_X10_isTown
set_option maxRecDepth 20000 in
theorem ggX10_fewest_X10_within : GoodIn wsX10_fewest wsX10_within := goodIn_r _ [11] (by decide +kernel) (by decide +kernel)
set_option maxRecDepth 20000 in
theorem gX10_fewest_X10_within : GoodIn wsX10_fewest (va_wsS RX10 75 yX10_within wsX10_within) := goodIn_app (goodIn_of _ (by decide +kernel)) ggX10_fewest_X10_within
set_option maxRecDepth 20000 in
theorem ggX10_fewest_X10_fewestOf : GoodIn wsX10_fewest wsX10_fewestOf := goodIn_r _ [18, 2, 19, 20, 21, 22, 23, 24, 25, 6, 26, 27, 28, 29, 30, 31, 32, 33, 34, 35, 36, 37, 38, 39, 40, 9, 10, 11, 41, 42, 43, 44, 45, 46, 47, 48, 49, 50, 51, 52, 53, 54, 55, 56, 57, 58, 59, 60, 61, 62, 63, 64, 65, 66, 67, 68, 69, 70, 71, 72, 73, 74, 75, 76, 77, 78, 79, 80, 81, 82, 83, 84, 85, 86, 87, 88, 89, 90, 91, 92, 93, 94, 95, 96, 97, 98, 99, 100, 101, 102, 103, 104, 105, 106, 107, 108, 109, 110, 111, 112, 113] (by decide +kernel) (by decide +kernel)
set_option maxRecDepth 20000 in
theorem gX10_fewest_X10_fewestOf : GoodIn wsX10_fewest (wsV RX10 186 RX10 yX10_fewestOf wsX10_fewestOf) := goodIn_app (goodIn_of _ (by decide +kernel)) ggX10_fewest_X10_fewestOf
theorem dX10_fewest_0 : decode cX10_fewest 0 = .ok (.aload_n 0, 1) := by decide +kernel
theorem dX10_fewest_1 : decode cX10_fewest 1 = .ok (.iload_n 1, 1) := by decide +kernel
theorem dX10_fewest_2 : decode cX10_fewest 2 = .ok (.invokevirtual 157, 3) := by decide +kernel
theorem dX10_fewest_5 : decode cX10_fewest 5 = .ok (.ifCond .eq 10, 3) := by decide +kernel
theorem dX10_fewest_8 : decode cX10_fewest 8 = .ok (.iload_n 2, 1) := by decide +kernel
theorem dX10_fewest_9 : decode cX10_fewest 9 = .ok (.invokestatic 122, 3) := by decide +kernel
theorem dX10_fewest_12 : decode cX10_fewest 12 = .ok (.ifCond .ne 6, 3) := by decide +kernel
theorem dX10_fewest_15 : decode cX10_fewest 15 = .ok (.bipush (-101), 2) := by decide +kernel
theorem dX10_fewest_17 : decode cX10_fewest 17 = .ok (.ireturn, 1) := by decide +kernel
theorem dX10_fewest_18 : decode cX10_fewest 18 = .ok (.iload_n 3, 1) := by decide +kernel
theorem dX10_fewest_19 : decode cX10_fewest 19 = .ok (.iconst 0, 1) := by decide +kernel
theorem dX10_fewest_20 : decode cX10_fewest 20 = .ok (.iconst 1, 1) := by decide +kernel
theorem dX10_fewest_21 : decode cX10_fewest 21 = .ok (.invokestatic 75, 3) := by decide +kernel
theorem dX10_fewest_24 : decode cX10_fewest 24 = .ok (.ifCond .ne 6, 3) := by decide +kernel
theorem dX10_fewest_27 : decode cX10_fewest 27 = .ok (.bipush (-102), 2) := by decide +kernel
theorem dX10_fewest_29 : decode cX10_fewest 29 = .ok (.ireturn, 1) := by decide +kernel
theorem dX10_fewest_30 : decode cX10_fewest 30 = .ok (.aload_n 0, 1) := by decide +kernel
theorem dX10_fewest_31 : decode cX10_fewest 31 = .ok (.getfield 183, 3) := by decide +kernel
theorem dX10_fewest_34 : decode cX10_fewest 34 = .ok (.bipush 40, 2) := by decide +kernel
theorem dX10_fewest_36 : decode cX10_fewest 36 = .ok (.if_icmp .ne 6, 3) := by decide +kernel
theorem dX10_fewest_39 : decode cX10_fewest 39 = .ok (.bipush (-103), 2) := by decide +kernel
theorem dX10_fewest_41 : decode cX10_fewest 41 = .ok (.ireturn, 1) := by decide +kernel
theorem dX10_fewest_42 : decode cX10_fewest 42 = .ok (.aload_n 0, 1) := by decide +kernel
theorem dX10_fewest_43 : decode cX10_fewest 43 = .ok (.dup, 1) := by decide +kernel
theorem dX10_fewest_44 : decode cX10_fewest 44 = .ok (.getfield 183, 3) := by decide +kernel
theorem dX10_fewest_47 : decode cX10_fewest 47 = .ok (.iconst 1, 1) := by decide +kernel
theorem dX10_fewest_48 : decode cX10_fewest 48 = .ok (.iadd, 1) := by decide +kernel
theorem dX10_fewest_49 : decode cX10_fewest 49 = .ok (.putfield 183, 3) := by decide +kernel
theorem dX10_fewest_52 : decode cX10_fewest 52 = .ok (.aload_n 0, 1) := by decide +kernel
theorem dX10_fewest_53 : decode cX10_fewest 53 = .ok (.iload_n 1, 1) := by decide +kernel
theorem dX10_fewest_54 : decode cX10_fewest 54 = .ok (.iload_n 2, 1) := by decide +kernel
theorem dX10_fewest_55 : decode cX10_fewest 55 = .ok (.invokevirtual 186, 3) := by decide +kernel
theorem dX10_fewest_58 : decode cX10_fewest 58 = .ok (.istore 4, 2) := by decide +kernel
theorem dX10_fewest_60 : decode cX10_fewest 60 = .ok (.iload_n 3, 1) := by decide +kernel
theorem dX10_fewest_61 : decode cX10_fewest 61 = .ok (.ifCond .ne 8, 3) := by decide +kernel
theorem dX10_fewest_64 : decode cX10_fewest 64 = .ok (.iload 4, 2) := by decide +kernel
theorem dX10_fewest_66 : decode cX10_fewest 66 = .ok (.goto 7, 3) := by decide +kernel
theorem dX10_fewest_69 : decode cX10_fewest 69 = .ok (.aload_n 0, 1) := by decide +kernel
theorem dX10_fewest_70 : decode cX10_fewest 70 = .ok (.getfield 172, 3) := by decide +kernel
theorem dX10_fewest_73 : decode cX10_fewest 73 = .ok (.ireturn, 1) := by decide +kernel
set_option maxRecDepth 20000 in
theorem ggX10_richestOf_X10_layQueue : GoodIn wsX10_richestOf wsX10_layQueue := goodIn_r _ [9, 2, 10, 4, 65, 66, 67, 68, 69, 70, 71, 72, 73, 74, 75, 76, 77, 78, 79, 80, 81, 82, 83, 84, 85, 86, 87, 88, 89, 90, 91, 92, 93, 94, 95, 96, 97, 98, 99, 100, 101, 102] (by decide +kernel) (by decide +kernel)
set_option maxRecDepth 20000 in
theorem gX10_richestOf_X10_layQueue : GoodIn wsX10_richestOf (wsV RX10 175 RX10 yX10_layQueue wsX10_layQueue) := goodIn_app (goodIn_of _ (by decide +kernel)) ggX10_richestOf_X10_layQueue
set_option maxRecDepth 20000 in
theorem ggX10_richestOf_X10_goFrom : GoodIn wsX10_richestOf wsX10_goFrom := goodIn_r _ [14, 10, 4, 2, 15, 16, 8, 17, 18, 19, 20, 21, 22, 23, 24, 25, 26, 27, 28, 29, 30, 31, 32, 33, 34, 35, 36, 37, 38, 39, 40, 41, 42, 43, 44, 45, 46, 47, 48, 49, 50, 51, 52, 53, 54, 55, 56, 57, 58, 59, 60, 61, 65, 66, 67, 68, 69, 70, 71, 72, 73, 74, 75, 76, 77, 78, 79, 80, 81, 82, 83, 84, 85, 86, 87, 88, 89, 90, 91, 92, 93, 94, 95, 96, 97, 98, 99, 100, 101, 102] (by decide +kernel) (by decide +kernel)
set_option maxRecDepth 20000 in
theorem gX10_richestOf_X10_goFrom : GoodIn wsX10_richestOf (wsV RX10 179 RX10 yX10_goFrom wsX10_goFrom) := goodIn_app (goodIn_of _ (by decide +kernel)) ggX10_richestOf_X10_goFrom
set_option maxRecDepth 20000 in
theorem ggX10_richestOf_X10_coinsAll : GoodIn wsX10_richestOf wsX10_coinsAll := goodIn_r _ [64, 40, 41, 8, 42, 43, 44, 45, 46, 47, 48] (by decide +kernel) (by decide +kernel)
set_option maxRecDepth 20000 in
theorem gX10_richestOf_X10_coinsAll : GoodIn wsX10_richestOf (va_wsS RX10 154 yX10_coinsAll wsX10_coinsAll) := goodIn_app (goodIn_of _ (by decide +kernel)) ggX10_richestOf_X10_coinsAll
theorem dX10_richestOf_0 : decode cX10_richestOf 0 = .ok (.aload_n 0, 1) := by decide +kernel
theorem dX10_richestOf_1 : decode cX10_richestOf 1 = .ok (.aload_n 0, 1) := by decide +kernel
theorem dX10_richestOf_2 : decode cX10_richestOf 2 = .ok (.getfield 25, 3) := by decide +kernel
theorem dX10_richestOf_5 : decode cX10_richestOf 5 = .ok (.iload_n 1, 1) := by decide +kernel
theorem dX10_richestOf_6 : decode cX10_richestOf 6 = .ok (.iaload, 1) := by decide +kernel
theorem dX10_richestOf_7 : decode cX10_richestOf 7 = .ok (.invokevirtual 175, 3) := by decide +kernel
theorem dX10_richestOf_10 : decode cX10_richestOf 10 = .ok (.iconst 0, 1) := by decide +kernel
theorem dX10_richestOf_11 : decode cX10_richestOf 11 = .ok (.istore_n 3, 1) := by decide +kernel
theorem dX10_richestOf_12 : decode cX10_richestOf 12 = .ok (.iconst 0, 1) := by decide +kernel
theorem dX10_richestOf_13 : decode cX10_richestOf 13 = .ok (.istore 4, 2) := by decide +kernel
theorem dX10_richestOf_15 : decode cX10_richestOf 15 = .ok (.iload 4, 2) := by decide +kernel
theorem dX10_richestOf_17 : decode cX10_richestOf 17 = .ok (.iload_n 2, 1) := by decide +kernel
theorem dX10_richestOf_18 : decode cX10_richestOf 18 = .ok (.if_icmp .ge 43, 3) := by decide +kernel
theorem dX10_richestOf_21 : decode cX10_richestOf 21 = .ok (.aload_n 0, 1) := by decide +kernel
theorem dX10_richestOf_22 : decode cX10_richestOf 22 = .ok (.getfield 169, 3) := by decide +kernel
theorem dX10_richestOf_25 : decode cX10_richestOf 25 = .ok (.istore 5, 2) := by decide +kernel
theorem dX10_richestOf_27 : decode cX10_richestOf 27 = .ok (.iload_n 3, 1) := by decide +kernel
theorem dX10_richestOf_28 : decode cX10_richestOf 28 = .ok (.iload 5, 2) := by decide +kernel
theorem dX10_richestOf_30 : decode cX10_richestOf 30 = .ok (.if_icmp .ge 25, 3) := by decide +kernel
theorem dX10_richestOf_33 : decode cX10_richestOf 33 = .ok (.aload_n 0, 1) := by decide +kernel
theorem dX10_richestOf_34 : decode cX10_richestOf 34 = .ok (.aload_n 0, 1) := by decide +kernel
theorem dX10_richestOf_35 : decode cX10_richestOf 35 = .ok (.getfield 22, 3) := by decide +kernel
theorem dX10_richestOf_38 : decode cX10_richestOf 38 = .ok (.iload_n 1, 1) := by decide +kernel
theorem dX10_richestOf_39 : decode cX10_richestOf 39 = .ok (.iaload, 1) := by decide +kernel
theorem dX10_richestOf_40 : decode cX10_richestOf 40 = .ok (.aload_n 0, 1) := by decide +kernel
theorem dX10_richestOf_41 : decode cX10_richestOf 41 = .ok (.getfield 55, 3) := by decide +kernel
theorem dX10_richestOf_44 : decode cX10_richestOf 44 = .ok (.iload_n 3, 1) := by decide +kernel
theorem dX10_richestOf_45 : decode cX10_richestOf 45 = .ok (.iaload, 1) := by decide +kernel
theorem dX10_richestOf_46 : decode cX10_richestOf 46 = .ok (.invokevirtual 179, 3) := by decide +kernel
theorem dX10_richestOf_49 : decode cX10_richestOf 49 = .ok (.iinc 3 1, 3) := by decide +kernel
theorem dX10_richestOf_52 : decode cX10_richestOf 52 = .ok (.goto (-25), 3) := by decide +kernel
theorem dX10_richestOf_55 : decode cX10_richestOf 55 = .ok (.iinc 4 1, 3) := by decide +kernel
theorem dX10_richestOf_58 : decode cX10_richestOf 58 = .ok (.goto (-43), 3) := by decide +kernel
theorem dX10_richestOf_61 : decode cX10_richestOf 61 = .ok (.iconst 0, 1) := by decide +kernel
theorem dX10_richestOf_62 : decode cX10_richestOf 62 = .ok (.istore 4, 2) := by decide +kernel
theorem dX10_richestOf_64 : decode cX10_richestOf 64 = .ok (.iconst 0, 1) := by decide +kernel
theorem dX10_richestOf_65 : decode cX10_richestOf 65 = .ok (.istore 5, 2) := by decide +kernel
theorem dX10_richestOf_67 : decode cX10_richestOf 67 = .ok (.iload 5, 2) := by decide +kernel
theorem dX10_richestOf_69 : decode cX10_richestOf 69 = .ok (.aload_n 0, 1) := by decide +kernel
theorem dX10_richestOf_70 : decode cX10_richestOf 70 = .ok (.getfield 169, 3) := by decide +kernel
theorem dX10_richestOf_73 : decode cX10_richestOf 73 = .ok (.if_icmp .ge 41, 3) := by decide +kernel
theorem dX10_richestOf_76 : decode cX10_richestOf 76 = .ok (.aload_n 0, 1) := by decide +kernel
theorem dX10_richestOf_77 : decode cX10_richestOf 77 = .ok (.getfield 55, 3) := by decide +kernel
theorem dX10_richestOf_80 : decode cX10_richestOf 80 = .ok (.iload 5, 2) := by decide +kernel
theorem dX10_richestOf_82 : decode cX10_richestOf 82 = .ok (.iaload, 1) := by decide +kernel
theorem dX10_richestOf_83 : decode cX10_richestOf 83 = .ok (.invokestatic 154, 3) := by decide +kernel
theorem dX10_richestOf_86 : decode cX10_richestOf 86 = .ok (.iload 4, 2) := by decide +kernel
theorem dX10_richestOf_88 : decode cX10_richestOf 88 = .ok (.if_icmp .le 16, 3) := by decide +kernel
theorem dX10_richestOf_91 : decode cX10_richestOf 91 = .ok (.aload_n 0, 1) := by decide +kernel
theorem dX10_richestOf_92 : decode cX10_richestOf 92 = .ok (.getfield 55, 3) := by decide +kernel
theorem dX10_richestOf_95 : decode cX10_richestOf 95 = .ok (.iload 5, 2) := by decide +kernel
theorem dX10_richestOf_97 : decode cX10_richestOf 97 = .ok (.iaload, 1) := by decide +kernel
theorem dX10_richestOf_98 : decode cX10_richestOf 98 = .ok (.invokestatic 154, 3) := by decide +kernel
theorem dX10_richestOf_101 : decode cX10_richestOf 101 = .ok (.goto 5, 3) := by decide +kernel
theorem dX10_richestOf_104 : decode cX10_richestOf 104 = .ok (.iload 4, 2) := by decide +kernel
theorem dX10_richestOf_106 : decode cX10_richestOf 106 = .ok (.istore 4, 2) := by decide +kernel
theorem dX10_richestOf_108 : decode cX10_richestOf 108 = .ok (.iinc 5 1, 3) := by decide +kernel
theorem dX10_richestOf_111 : decode cX10_richestOf 111 = .ok (.goto (-44), 3) := by decide +kernel
theorem dX10_richestOf_114 : decode cX10_richestOf 114 = .ok (.iload 4, 2) := by decide +kernel
theorem dX10_richestOf_116 : decode cX10_richestOf 116 = .ok (.ireturn, 1) := by decide +kernel
set_option maxRecDepth 20000 in
theorem ggX10_richest_X10_isPerson : GoodIn wsX10_richest wsX10_isPerson := goodIn_r _ [6, 7, 8, 9, 5, 10, 75, 76, 77, 78, 79, 80, 81, 82, 83, 84, 85, 86, 87, 88, 89, 90, 91, 92, 93, 94, 95, 96, 97, 98, 99, 100, 101, 102, 103, 104, 105, 106, 107, 108, 109, 110, 111, 112] (by decide +kernel) (by decide +kernel)
set_option maxRecDepth 20000 in
theorem gX10_richest_X10_isPerson : GoodIn wsX10_richest (wsV RX10 157 RX10 yX10_isPerson wsX10_isPerson) := goodIn_app (goodIn_of _ (by decide +kernel)) ggX10_richest_X10_isPerson
set_option maxRecDepth 20000 in
theorem ggX10_richest_X10_within : GoodIn wsX10_richest wsX10_within := goodIn_r _ [10] (by decide +kernel) (by decide +kernel)
set_option maxRecDepth 20000 in
theorem gX10_richest_X10_within : GoodIn wsX10_richest (va_wsS RX10 75 yX10_within wsX10_within) := goodIn_app (goodIn_of _ (by decide +kernel)) ggX10_richest_X10_within
set_option maxRecDepth 20000 in
theorem ggX10_richest_X10_richestOf : GoodIn wsX10_richest wsX10_richestOf := goodIn_r _ [14, 15, 16, 17, 18, 19, 20, 21, 5, 22, 23, 24, 25, 26, 27, 28, 29, 30, 8, 9, 10, 31, 32, 33, 34, 35, 36, 37, 38, 39, 40, 41, 42, 43, 44, 45, 46, 47, 48, 49, 50, 51, 52, 53, 54, 55, 56, 57, 58, 59, 60, 61, 62, 63, 64, 65, 66, 67, 68, 69, 70, 71, 72, 73, 74, 75, 76, 77, 78, 79, 80, 81, 82, 83, 84, 85, 86, 87, 88, 89, 90, 91, 92, 93, 94, 95, 96, 97, 98, 99, 100, 101, 102, 103, 104, 105, 106, 107, 108, 109, 110, 111, 112] (by decide +kernel) (by decide +kernel)
set_option maxRecDepth 20000 in
theorem gX10_richest_X10_richestOf : GoodIn wsX10_richest (wsV RX10 189 RX10 yX10_richestOf wsX10_richestOf) := goodIn_app (goodIn_of _ (by decide +kernel)) ggX10_richest_X10_richestOf
theorem dX10_richest_0 : decode cX10_richest 0 = .ok (.aload_n 0, 1) := by decide +kernel
theorem dX10_richest_1 : decode cX10_richest 1 = .ok (.iload_n 1, 1) := by decide +kernel
theorem dX10_richest_2 : decode cX10_richest 2 = .ok (.invokevirtual 157, 3) := by decide +kernel
theorem dX10_richest_5 : decode cX10_richest 5 = .ok (.ifCond .ne 6, 3) := by decide +kernel
theorem dX10_richest_8 : decode cX10_richest 8 = .ok (.bipush (-101), 2) := by decide +kernel
theorem dX10_richest_10 : decode cX10_richest 10 = .ok (.ireturn, 1) := by decide +kernel
theorem dX10_richest_11 : decode cX10_richest 11 = .ok (.iload_n 2, 1) := by decide +kernel
theorem dX10_richest_12 : decode cX10_richest 12 = .ok (.iconst 0, 1) := by decide +kernel
theorem dX10_richest_13 : decode cX10_richest 13 = .ok (.bipush 8, 2) := by decide +kernel
theorem dX10_richest_15 : decode cX10_richest 15 = .ok (.invokestatic 75, 3) := by decide +kernel
theorem dX10_richest_18 : decode cX10_richest 18 = .ok (.ifCond .ne 6, 3) := by decide +kernel
theorem dX10_richest_21 : decode cX10_richest 21 = .ok (.bipush (-102), 2) := by decide +kernel
theorem dX10_richest_23 : decode cX10_richest 23 = .ok (.ireturn, 1) := by decide +kernel
theorem dX10_richest_24 : decode cX10_richest 24 = .ok (.aload_n 0, 1) := by decide +kernel
theorem dX10_richest_25 : decode cX10_richest 25 = .ok (.getfield 183, 3) := by decide +kernel
theorem dX10_richest_28 : decode cX10_richest 28 = .ok (.bipush 40, 2) := by decide +kernel
theorem dX10_richest_30 : decode cX10_richest 30 = .ok (.if_icmp .ne 6, 3) := by decide +kernel
theorem dX10_richest_33 : decode cX10_richest 33 = .ok (.bipush (-103), 2) := by decide +kernel
theorem dX10_richest_35 : decode cX10_richest 35 = .ok (.ireturn, 1) := by decide +kernel
theorem dX10_richest_36 : decode cX10_richest 36 = .ok (.aload_n 0, 1) := by decide +kernel
theorem dX10_richest_37 : decode cX10_richest 37 = .ok (.dup, 1) := by decide +kernel
theorem dX10_richest_38 : decode cX10_richest 38 = .ok (.getfield 183, 3) := by decide +kernel
theorem dX10_richest_41 : decode cX10_richest 41 = .ok (.iconst 1, 1) := by decide +kernel
theorem dX10_richest_42 : decode cX10_richest 42 = .ok (.iadd, 1) := by decide +kernel
theorem dX10_richest_43 : decode cX10_richest 43 = .ok (.putfield 183, 3) := by decide +kernel
theorem dX10_richest_46 : decode cX10_richest 46 = .ok (.aload_n 0, 1) := by decide +kernel
theorem dX10_richest_47 : decode cX10_richest 47 = .ok (.iload_n 1, 1) := by decide +kernel
theorem dX10_richest_48 : decode cX10_richest 48 = .ok (.iload_n 2, 1) := by decide +kernel
theorem dX10_richest_49 : decode cX10_richest 49 = .ok (.invokevirtual 189, 3) := by decide +kernel
theorem dX10_richest_52 : decode cX10_richest 52 = .ok (.ireturn, 1) := by decide +kernel
set_option maxRecDepth 20000 in
theorem ggX10_deadNow_X10_mayPay : GoodIn wsX10_deadNow wsX10_mayPay := goodIn_r _ [7, 8, 9, 10, 6, 11, 21, 22, 23, 24, 25, 26, 27, 28, 29, 30, 31, 32, 33, 34, 35, 36, 37, 38, 39, 40, 41, 42, 43, 44, 45, 46, 47, 48, 49, 50, 51, 52, 53, 54, 55, 56, 57, 58] (by decide +kernel) (by decide +kernel)
set_option maxRecDepth 20000 in
theorem gX10_deadNow_X10_mayPay : GoodIn wsX10_deadNow (wsV RX10 138 RX10 yX10_mayPay wsX10_mayPay) := goodIn_app (goodIn_of _ (by decide +kernel)) ggX10_deadNow_X10_mayPay
set_option maxRecDepth 20000 in
theorem ggX10_deadNow_X10_coins : GoodIn wsX10_deadNow wsX10_coins := goodIn_r _ [14, 15, 16, 6, 17, 18, 19, 20] (by decide +kernel) (by decide +kernel)
set_option maxRecDepth 20000 in
theorem gX10_deadNow_X10_coins : GoodIn wsX10_deadNow (va_wsS RX10 135 yX10_coins wsX10_coins) := goodIn_app (goodIn_of _ (by decide +kernel)) ggX10_deadNow_X10_coins
theorem dX10_deadNow_0 : decode cX10_deadNow 0 = .ok (.iconst 0, 1) := by decide +kernel
theorem dX10_deadNow_1 : decode cX10_deadNow 1 = .ok (.istore_n 2, 1) := by decide +kernel
theorem dX10_deadNow_2 : decode cX10_deadNow 2 = .ok (.iconst 0, 1) := by decide +kernel
theorem dX10_deadNow_3 : decode cX10_deadNow 3 = .ok (.istore_n 3, 1) := by decide +kernel
theorem dX10_deadNow_4 : decode cX10_deadNow 4 = .ok (.iload_n 3, 1) := by decide +kernel
theorem dX10_deadNow_5 : decode cX10_deadNow 5 = .ok (.iconst 4, 1) := by decide +kernel
theorem dX10_deadNow_6 : decode cX10_deadNow 6 = .ok (.if_icmp .ge 77, 3) := by decide +kernel
theorem dX10_deadNow_9 : decode cX10_deadNow 9 = .ok (.iconst 0, 1) := by decide +kernel
theorem dX10_deadNow_10 : decode cX10_deadNow 10 = .ok (.istore 4, 2) := by decide +kernel
theorem dX10_deadNow_12 : decode cX10_deadNow 12 = .ok (.iconst 0, 1) := by decide +kernel
theorem dX10_deadNow_13 : decode cX10_deadNow 13 = .ok (.istore 5, 2) := by decide +kernel
theorem dX10_deadNow_15 : decode cX10_deadNow 15 = .ok (.iload 5, 2) := by decide +kernel
theorem dX10_deadNow_17 : decode cX10_deadNow 17 = .ok (.iconst 4, 1) := by decide +kernel
theorem dX10_deadNow_18 : decode cX10_deadNow 18 = .ok (.if_icmp .ge 37, 3) := by decide +kernel
theorem dX10_deadNow_21 : decode cX10_deadNow 21 = .ok (.iload 4, 2) := by decide +kernel
theorem dX10_deadNow_23 : decode cX10_deadNow 23 = .ok (.ifCond .ne 19, 3) := by decide +kernel
theorem dX10_deadNow_26 : decode cX10_deadNow 26 = .ok (.aload_n 0, 1) := by decide +kernel
theorem dX10_deadNow_27 : decode cX10_deadNow 27 = .ok (.aload_n 0, 1) := by decide +kernel
theorem dX10_deadNow_28 : decode cX10_deadNow 28 = .ok (.getfield 22, 3) := by decide +kernel
theorem dX10_deadNow_31 : decode cX10_deadNow 31 = .ok (.iload_n 1, 1) := by decide +kernel
theorem dX10_deadNow_32 : decode cX10_deadNow 32 = .ok (.iaload, 1) := by decide +kernel
theorem dX10_deadNow_33 : decode cX10_deadNow 33 = .ok (.iload 5, 2) := by decide +kernel
theorem dX10_deadNow_35 : decode cX10_deadNow 35 = .ok (.iload_n 3, 1) := by decide +kernel
theorem dX10_deadNow_36 : decode cX10_deadNow 36 = .ok (.invokevirtual 138, 3) := by decide +kernel
theorem dX10_deadNow_39 : decode cX10_deadNow 39 = .ok (.ifCond .eq 7, 3) := by decide +kernel
theorem dX10_deadNow_42 : decode cX10_deadNow 42 = .ok (.iconst 1, 1) := by decide +kernel
theorem dX10_deadNow_43 : decode cX10_deadNow 43 = .ok (.goto 4, 3) := by decide +kernel
theorem dX10_deadNow_46 : decode cX10_deadNow 46 = .ok (.iconst 0, 1) := by decide +kernel
theorem dX10_deadNow_47 : decode cX10_deadNow 47 = .ok (.istore 4, 2) := by decide +kernel
theorem dX10_deadNow_49 : decode cX10_deadNow 49 = .ok (.iinc 5 1, 3) := by decide +kernel
theorem dX10_deadNow_52 : decode cX10_deadNow 52 = .ok (.goto (-37), 3) := by decide +kernel
theorem dX10_deadNow_55 : decode cX10_deadNow 55 = .ok (.iload_n 2, 1) := by decide +kernel
theorem dX10_deadNow_56 : decode cX10_deadNow 56 = .ok (.iload 4, 2) := by decide +kernel
theorem dX10_deadNow_58 : decode cX10_deadNow 58 = .ok (.ifCond .eq 7, 3) := by decide +kernel
theorem dX10_deadNow_61 : decode cX10_deadNow 61 = .ok (.iconst 0, 1) := by decide +kernel
theorem dX10_deadNow_62 : decode cX10_deadNow 62 = .ok (.goto 13, 3) := by decide +kernel
theorem dX10_deadNow_65 : decode cX10_deadNow 65 = .ok (.aload_n 0, 1) := by decide +kernel
theorem dX10_deadNow_66 : decode cX10_deadNow 66 = .ok (.getfield 25, 3) := by decide +kernel
theorem dX10_deadNow_69 : decode cX10_deadNow 69 = .ok (.iload_n 1, 1) := by decide +kernel
theorem dX10_deadNow_70 : decode cX10_deadNow 70 = .ok (.iaload, 1) := by decide +kernel
theorem dX10_deadNow_71 : decode cX10_deadNow 71 = .ok (.iload_n 3, 1) := by decide +kernel
theorem dX10_deadNow_72 : decode cX10_deadNow 72 = .ok (.invokestatic 135, 3) := by decide +kernel
theorem dX10_deadNow_75 : decode cX10_deadNow 75 = .ok (.iadd, 1) := by decide +kernel
theorem dX10_deadNow_76 : decode cX10_deadNow 76 = .ok (.istore_n 2, 1) := by decide +kernel
theorem dX10_deadNow_77 : decode cX10_deadNow 77 = .ok (.iinc 3 1, 3) := by decide +kernel
theorem dX10_deadNow_80 : decode cX10_deadNow 80 = .ok (.goto (-76), 3) := by decide +kernel
theorem dX10_deadNow_83 : decode cX10_deadNow 83 = .ok (.iload_n 2, 1) := by decide +kernel
theorem dX10_deadNow_84 : decode cX10_deadNow 84 = .ok (.ireturn, 1) := by decide +kernel
set_option maxRecDepth 20000 in
theorem ggX10_dead_X10_isPerson : GoodIn wsX10_dead wsX10_isPerson := goodIn_r _ [5, 6, 7, 8, 4, 9, 33, 34, 35, 36, 37, 38, 39, 40, 41, 42, 43, 44, 45, 46, 47, 48, 49, 50, 51, 52, 53, 54, 55, 56, 57, 58, 59, 60, 61, 62, 63, 64, 65, 66, 67, 68, 69, 70] (by decide +kernel) (by decide +kernel)
set_option maxRecDepth 20000 in
theorem gX10_dead_X10_isPerson : GoodIn wsX10_dead (wsV RX10 157 RX10 yX10_isPerson wsX10_isPerson) := goodIn_app (goodIn_of _ (by decide +kernel)) ggX10_dead_X10_isPerson
set_option maxRecDepth 20000 in
theorem ggX10_dead_X10_deadNow : GoodIn wsX10_dead wsX10_deadNow := goodIn_r _ [13, 14, 15, 16, 17, 18, 4, 19, 20, 21, 22, 23, 24, 25, 26, 27, 28, 29, 30, 31, 32, 33, 34, 35, 36, 37, 38, 39, 40, 41, 42, 43, 44, 45, 46, 47, 48, 49, 50, 51, 52, 53, 54, 55, 56, 57, 58, 59, 60, 61, 62, 63, 64, 65, 66, 67, 68, 69, 70] (by decide +kernel) (by decide +kernel)
set_option maxRecDepth 20000 in
theorem gX10_dead_X10_deadNow : GoodIn wsX10_dead (wsV RX10 192 RX10 yX10_deadNow wsX10_deadNow) := goodIn_app (goodIn_of _ (by decide +kernel)) ggX10_dead_X10_deadNow
theorem dX10_dead_0 : decode cX10_dead 0 = .ok (.aload_n 0, 1) := by decide +kernel
theorem dX10_dead_1 : decode cX10_dead 1 = .ok (.iload_n 1, 1) := by decide +kernel
theorem dX10_dead_2 : decode cX10_dead 2 = .ok (.invokevirtual 157, 3) := by decide +kernel
theorem dX10_dead_5 : decode cX10_dead 5 = .ok (.ifCond .eq 11, 3) := by decide +kernel
theorem dX10_dead_8 : decode cX10_dead 8 = .ok (.aload_n 0, 1) := by decide +kernel
theorem dX10_dead_9 : decode cX10_dead 9 = .ok (.iload_n 1, 1) := by decide +kernel
theorem dX10_dead_10 : decode cX10_dead 10 = .ok (.invokevirtual 192, 3) := by decide +kernel
theorem dX10_dead_13 : decode cX10_dead 13 = .ok (.goto 5, 3) := by decide +kernel
theorem dX10_dead_16 : decode cX10_dead 16 = .ok (.bipush (-101), 2) := by decide +kernel
theorem dX10_dead_18 : decode cX10_dead 18 = .ok (.ireturn, 1) := by decide +kernel
set_option maxRecDepth 20000 in
theorem ggX10_gainsNow_X10_fewestOf : GoodIn wsX10_gainsNow wsX10_fewestOf := goodIn_r _ [7, 8, 9, 10, 11, 12, 13, 14, 15, 6, 16, 17, 18, 19, 20, 21, 22, 23, 24, 25, 26, 27, 28, 29, 30, 31, 32, 33, 34, 35, 36, 37, 38, 39, 40, 41, 42, 43, 44, 45, 46, 47, 48, 49, 50, 51, 52, 53, 54, 55, 56, 57, 58, 59, 1, 60, 61, 62, 63, 64, 65, 66, 67, 68, 69, 70, 71, 72, 73, 74, 75, 76, 77, 78, 79, 80, 81, 82, 83, 84, 85, 86, 87, 88, 89, 90, 91, 92, 93, 94, 95, 96, 97, 98, 99, 100, 101, 102, 103, 104, 105] (by decide +kernel) (by decide +kernel)
set_option maxRecDepth 20000 in
theorem gX10_gainsNow_X10_fewestOf : GoodIn wsX10_gainsNow (wsV RX10 186 RX10 yX10_fewestOf wsX10_fewestOf) := goodIn_app (goodIn_of _ (by decide +kernel)) ggX10_gainsNow_X10_fewestOf
theorem dX10_gainsNow_0 : decode cX10_gainsNow 0 = .ok (.iconst 0, 1) := by decide +kernel
theorem dX10_gainsNow_1 : decode cX10_gainsNow 1 = .ok (.istore_n 3, 1) := by decide +kernel
theorem dX10_gainsNow_2 : decode cX10_gainsNow 2 = .ok (.aload_n 0, 1) := by decide +kernel
theorem dX10_gainsNow_3 : decode cX10_gainsNow 3 = .ok (.getfield 16, 3) := by decide +kernel
theorem dX10_gainsNow_6 : decode cX10_gainsNow 6 = .ok (.iload_n 1, 1) := by decide +kernel
theorem dX10_gainsNow_7 : decode cX10_gainsNow 7 = .ok (.iaload, 1) := by decide +kernel
theorem dX10_gainsNow_8 : decode cX10_gainsNow 8 = .ok (.istore 4, 2) := by decide +kernel
theorem dX10_gainsNow_10 : decode cX10_gainsNow 10 = .ok (.iconst 0, 1) := by decide +kernel
theorem dX10_gainsNow_11 : decode cX10_gainsNow 11 = .ok (.istore 5, 2) := by decide +kernel
theorem dX10_gainsNow_13 : decode cX10_gainsNow 13 = .ok (.iload 5, 2) := by decide +kernel
theorem dX10_gainsNow_15 : decode cX10_gainsNow 15 = .ok (.aload_n 0, 1) := by decide +kernel
theorem dX10_gainsNow_16 : decode cX10_gainsNow 16 = .ok (.getfield 110, 3) := by decide +kernel
theorem dX10_gainsNow_19 : decode cX10_gainsNow 19 = .ok (.if_icmp .ge 72, 3) := by decide +kernel
theorem dX10_gainsNow_22 : decode cX10_gainsNow 22 = .ok (.aload_n 0, 1) := by decide +kernel
theorem dX10_gainsNow_23 : decode cX10_gainsNow 23 = .ok (.iload 5, 2) := by decide +kernel
theorem dX10_gainsNow_25 : decode cX10_gainsNow 25 = .ok (.iload_n 1, 1) := by decide +kernel
theorem dX10_gainsNow_26 : decode cX10_gainsNow 26 = .ok (.invokevirtual 186, 3) := by decide +kernel
theorem dX10_gainsNow_29 : decode cX10_gainsNow 29 = .ok (.istore 6, 2) := by decide +kernel
theorem dX10_gainsNow_31 : decode cX10_gainsNow 31 = .ok (.aload_n 0, 1) := by decide +kernel
theorem dX10_gainsNow_32 : decode cX10_gainsNow 32 = .ok (.getfield 16, 3) := by decide +kernel
theorem dX10_gainsNow_35 : decode cX10_gainsNow 35 = .ok (.iload_n 1, 1) := by decide +kernel
theorem dX10_gainsNow_36 : decode cX10_gainsNow 36 = .ok (.iload_n 2, 1) := by decide +kernel
theorem dX10_gainsNow_37 : decode cX10_gainsNow 37 = .ok (.iastore, 1) := by decide +kernel
theorem dX10_gainsNow_38 : decode cX10_gainsNow 38 = .ok (.aload_n 0, 1) := by decide +kernel
theorem dX10_gainsNow_39 : decode cX10_gainsNow 39 = .ok (.iload 5, 2) := by decide +kernel
theorem dX10_gainsNow_41 : decode cX10_gainsNow 41 = .ok (.iload_n 1, 1) := by decide +kernel
theorem dX10_gainsNow_42 : decode cX10_gainsNow 42 = .ok (.invokevirtual 186, 3) := by decide +kernel
theorem dX10_gainsNow_45 : decode cX10_gainsNow 45 = .ok (.istore 7, 2) := by decide +kernel
theorem dX10_gainsNow_47 : decode cX10_gainsNow 47 = .ok (.aload_n 0, 1) := by decide +kernel
theorem dX10_gainsNow_48 : decode cX10_gainsNow 48 = .ok (.getfield 16, 3) := by decide +kernel
theorem dX10_gainsNow_51 : decode cX10_gainsNow 51 = .ok (.iload_n 1, 1) := by decide +kernel
theorem dX10_gainsNow_52 : decode cX10_gainsNow 52 = .ok (.iload 4, 2) := by decide +kernel
theorem dX10_gainsNow_54 : decode cX10_gainsNow 54 = .ok (.iastore, 1) := by decide +kernel
theorem dX10_gainsNow_55 : decode cX10_gainsNow 55 = .ok (.iload_n 3, 1) := by decide +kernel
theorem dX10_gainsNow_56 : decode cX10_gainsNow 56 = .ok (.iload 7, 2) := by decide +kernel
theorem dX10_gainsNow_58 : decode cX10_gainsNow 58 = .ok (.iconst (-1), 1) := by decide +kernel
theorem dX10_gainsNow_59 : decode cX10_gainsNow 59 = .ok (.if_icmp .eq 23, 3) := by decide +kernel
theorem dX10_gainsNow_62 : decode cX10_gainsNow 62 = .ok (.iload 6, 2) := by decide +kernel
theorem dX10_gainsNow_64 : decode cX10_gainsNow 64 = .ok (.iconst (-1), 1) := by decide +kernel
theorem dX10_gainsNow_65 : decode cX10_gainsNow 65 = .ok (.if_icmp .eq 10, 3) := by decide +kernel
theorem dX10_gainsNow_68 : decode cX10_gainsNow 68 = .ok (.iload 7, 2) := by decide +kernel
theorem dX10_gainsNow_70 : decode cX10_gainsNow 70 = .ok (.iload 6, 2) := by decide +kernel
theorem dX10_gainsNow_72 : decode cX10_gainsNow 72 = .ok (.if_icmp .ge 10, 3) := by decide +kernel
theorem dX10_gainsNow_75 : decode cX10_gainsNow 75 = .ok (.iconst 1, 1) := by decide +kernel
theorem dX10_gainsNow_76 : decode cX10_gainsNow 76 = .ok (.iload 5, 2) := by decide +kernel
theorem dX10_gainsNow_78 : decode cX10_gainsNow 78 = .ok (.ishl, 1) := by decide +kernel
theorem dX10_gainsNow_79 : decode cX10_gainsNow 79 = .ok (.goto 4, 3) := by decide +kernel
theorem dX10_gainsNow_82 : decode cX10_gainsNow 82 = .ok (.iconst 0, 1) := by decide +kernel
theorem dX10_gainsNow_83 : decode cX10_gainsNow 83 = .ok (.ior, 1) := by decide +kernel
theorem dX10_gainsNow_84 : decode cX10_gainsNow 84 = .ok (.istore_n 3, 1) := by decide +kernel
theorem dX10_gainsNow_85 : decode cX10_gainsNow 85 = .ok (.iinc 5 1, 3) := by decide +kernel
theorem dX10_gainsNow_88 : decode cX10_gainsNow 88 = .ok (.goto (-75), 3) := by decide +kernel
theorem dX10_gainsNow_91 : decode cX10_gainsNow 91 = .ok (.iload_n 3, 1) := by decide +kernel
theorem dX10_gainsNow_92 : decode cX10_gainsNow 92 = .ok (.ireturn, 1) := by decide +kernel
set_option maxRecDepth 20000 in
theorem ggX10_gains_X10_isTown : GoodIn wsX10_gains wsX10_isTown := goodIn_r _ [5, 6, 7, 4, 8] (by decide +kernel) (by decide +kernel)
set_option maxRecDepth 20000 in
theorem gX10_gains_X10_isTown : GoodIn wsX10_gains (va_wsS RX10 122 yX10_isTown wsX10_isTown) := goodIn_app (goodIn_of _ (by decide +kernel)) ggX10_gains_X10_isTown
set_option maxRecDepth 20000 in
theorem ggX10_gains_X10_within : GoodIn wsX10_gains wsX10_within := goodIn_r _ [8] (by decide +kernel) (by decide +kernel)
set_option maxRecDepth 20000 in
theorem gX10_gains_X10_within : GoodIn wsX10_gains (va_wsS RX10 75 yX10_within wsX10_within) := goodIn_app (goodIn_of _ (by decide +kernel)) ggX10_gains_X10_within
set_option maxRecDepth 20000 in
theorem ggX10_gains_X10_gainsNow : GoodIn wsX10_gains wsX10_gainsNow := goodIn_r _ [12, 13, 14, 15, 16, 17, 4, 18, 19, 20, 21, 22, 23, 24, 25, 26, 27, 28, 29, 30, 31, 32, 33, 34, 35, 36, 37, 38, 39, 40, 41, 6, 7, 8, 42, 43, 44, 45, 46, 47, 48, 49, 50, 51, 52, 53, 54, 55, 56, 57, 58, 59, 60, 61, 62, 63, 64, 65, 66, 67, 68, 69, 70, 71, 72, 73, 74, 75, 76, 77, 78, 79, 80, 81, 82, 83, 84, 85, 86, 87, 88, 89, 90, 91, 92, 93, 94, 95, 96, 97, 98, 99, 100, 101, 102, 103, 104, 105, 106, 107, 108, 109, 110, 111, 112, 113] (by decide +kernel) (by decide +kernel)
set_option maxRecDepth 20000 in
theorem gX10_gains_X10_gainsNow : GoodIn wsX10_gains (wsV RX10 195 RX10 yX10_gainsNow wsX10_gainsNow) := goodIn_app (goodIn_of _ (by decide +kernel)) ggX10_gains_X10_gainsNow
theorem dX10_gains_0 : decode cX10_gains 0 = .ok (.iload_n 1, 1) := by decide +kernel
theorem dX10_gains_1 : decode cX10_gains 1 = .ok (.invokestatic 122, 3) := by decide +kernel
theorem dX10_gains_4 : decode cX10_gains 4 = .ok (.ifCond .ne 6, 3) := by decide +kernel
theorem dX10_gains_7 : decode cX10_gains 7 = .ok (.bipush (-101), 2) := by decide +kernel
theorem dX10_gains_9 : decode cX10_gains 9 = .ok (.ireturn, 1) := by decide +kernel
theorem dX10_gains_10 : decode cX10_gains 10 = .ok (.iload_n 2, 1) := by decide +kernel
theorem dX10_gains_11 : decode cX10_gains 11 = .ok (.iconst 1, 1) := by decide +kernel
theorem dX10_gains_12 : decode cX10_gains 12 = .ok (.iconst 4, 1) := by decide +kernel
theorem dX10_gains_13 : decode cX10_gains 13 = .ok (.invokestatic 75, 3) := by decide +kernel
theorem dX10_gains_16 : decode cX10_gains 16 = .ok (.ifCond .ne 6, 3) := by decide +kernel
theorem dX10_gains_19 : decode cX10_gains 19 = .ok (.bipush (-102), 2) := by decide +kernel
theorem dX10_gains_21 : decode cX10_gains 21 = .ok (.ireturn, 1) := by decide +kernel
theorem dX10_gains_22 : decode cX10_gains 22 = .ok (.aload_n 0, 1) := by decide +kernel
theorem dX10_gains_23 : decode cX10_gains 23 = .ok (.getfield 104, 3) := by decide +kernel
theorem dX10_gains_26 : decode cX10_gains 26 = .ok (.ifCond .eq 12, 3) := by decide +kernel
theorem dX10_gains_29 : decode cX10_gains 29 = .ok (.aload_n 0, 1) := by decide +kernel
theorem dX10_gains_30 : decode cX10_gains 30 = .ok (.iload_n 1, 1) := by decide +kernel
theorem dX10_gains_31 : decode cX10_gains 31 = .ok (.iload_n 2, 1) := by decide +kernel
theorem dX10_gains_32 : decode cX10_gains 32 = .ok (.invokevirtual 195, 3) := by decide +kernel
theorem dX10_gains_35 : decode cX10_gains 35 = .ok (.goto 5, 3) := by decide +kernel
theorem dX10_gains_38 : decode cX10_gains 38 = .ok (.bipush (-103), 2) := by decide +kernel
theorem dX10_gains_40 : decode cX10_gains 40 = .ok (.ireturn, 1) := by decide +kernel
set_option maxRecDepth 20000 in
theorem ggX10_trail_X10_isPerson : GoodIn wsX10_trail wsX10_isPerson := goodIn_r _ [9, 10, 11, 12, 8, 13, 14, 15, 16, 17, 18, 19, 20, 21, 22, 23, 24, 25, 26, 27, 28, 29, 30, 31, 32, 33, 34, 35, 36, 37, 38, 39, 40, 41, 42, 43, 44, 45, 46, 47, 48, 49, 50, 51] (by decide +kernel) (by decide +kernel)
set_option maxRecDepth 20000 in
theorem gX10_trail_X10_isPerson : GoodIn wsX10_trail (wsV RX10 157 RX10 yX10_isPerson wsX10_isPerson) := goodIn_app (goodIn_of _ (by decide +kernel)) ggX10_trail_X10_isPerson
theorem dX10_trail_0 : decode cX10_trail 0 = .ok (.aload_n 0, 1) := by decide +kernel
theorem dX10_trail_1 : decode cX10_trail 1 = .ok (.iload_n 1, 1) := by decide +kernel
theorem dX10_trail_2 : decode cX10_trail 2 = .ok (.invokevirtual 157, 3) := by decide +kernel
theorem dX10_trail_5 : decode cX10_trail 5 = .ok (.ifCond .ne 6, 3) := by decide +kernel
theorem dX10_trail_8 : decode cX10_trail 8 = .ok (.bipush (-101), 2) := by decide +kernel
theorem dX10_trail_10 : decode cX10_trail 10 = .ok (.ireturn, 1) := by decide +kernel
theorem dX10_trail_11 : decode cX10_trail 11 = .ok (.aload_n 0, 1) := by decide +kernel
theorem dX10_trail_12 : decode cX10_trail 12 = .ok (.getfield 116, 3) := by decide +kernel
theorem dX10_trail_15 : decode cX10_trail 15 = .ok (.istore_n 2, 1) := by decide +kernel
theorem dX10_trail_16 : decode cX10_trail 16 = .ok (.aload_n 0, 1) := by decide +kernel
theorem dX10_trail_17 : decode cX10_trail 17 = .ok (.iload_n 1, 1) := by decide +kernel
theorem dX10_trail_18 : decode cX10_trail 18 = .ok (.putfield 28, 3) := by decide +kernel
theorem dX10_trail_21 : decode cX10_trail 21 = .ok (.aload_n 0, 1) := by decide +kernel
theorem dX10_trail_22 : decode cX10_trail 22 = .ok (.aload_n 0, 1) := by decide +kernel
theorem dX10_trail_23 : decode cX10_trail 23 = .ok (.getfield 25, 3) := by decide +kernel
theorem dX10_trail_26 : decode cX10_trail 26 = .ok (.iload_n 1, 1) := by decide +kernel
theorem dX10_trail_27 : decode cX10_trail 27 = .ok (.iaload, 1) := by decide +kernel
theorem dX10_trail_28 : decode cX10_trail 28 = .ok (.putfield 198, 3) := by decide +kernel
theorem dX10_trail_31 : decode cX10_trail 31 = .ok (.aload_n 0, 1) := by decide +kernel
theorem dX10_trail_32 : decode cX10_trail 32 = .ok (.iconst 0, 1) := by decide +kernel
theorem dX10_trail_33 : decode cX10_trail 33 = .ok (.putfield 116, 3) := by decide +kernel
theorem dX10_trail_36 : decode cX10_trail 36 = .ok (.iload_n 2, 1) := by decide +kernel
theorem dX10_trail_37 : decode cX10_trail 37 = .ok (.ireturn, 1) := by decide +kernel
set_option maxRecDepth 20000 in
theorem ggX10_next_X10_within : GoodIn wsX10_next wsX10_within := goodIn_r _ [7] (by decide +kernel) (by decide +kernel)
set_option maxRecDepth 20000 in
theorem gX10_next_X10_within : GoodIn wsX10_next (va_wsS RX10 75 yX10_within wsX10_within) := goodIn_app (goodIn_of _ (by decide +kernel)) ggX10_next_X10_within
theorem dX10_next_0 : decode cX10_next 0 = .ok (.aload_n 0, 1) := by decide +kernel
theorem dX10_next_1 : decode cX10_next 1 = .ok (.getfield 28, 3) := by decide +kernel
theorem dX10_next_4 : decode cX10_next 4 = .ok (.iconst (-1), 1) := by decide +kernel
theorem dX10_next_5 : decode cX10_next 5 = .ok (.if_icmp .ne 6, 3) := by decide +kernel
theorem dX10_next_8 : decode cX10_next 8 = .ok (.bipush (-103), 2) := by decide +kernel
theorem dX10_next_10 : decode cX10_next 10 = .ok (.ireturn, 1) := by decide +kernel
theorem dX10_next_11 : decode cX10_next 11 = .ok (.iload_n 1, 1) := by decide +kernel
theorem dX10_next_12 : decode cX10_next 12 = .ok (.iconst 0, 1) := by decide +kernel
theorem dX10_next_13 : decode cX10_next 13 = .ok (.sipush 624, 3) := by decide +kernel
theorem dX10_next_16 : decode cX10_next 16 = .ok (.invokestatic 75, 3) := by decide +kernel
theorem dX10_next_19 : decode cX10_next 19 = .ok (.ifCond .ne 6, 3) := by decide +kernel
theorem dX10_next_22 : decode cX10_next 22 = .ok (.bipush (-102), 2) := by decide +kernel
theorem dX10_next_24 : decode cX10_next 24 = .ok (.ireturn, 1) := by decide +kernel
theorem dX10_next_25 : decode cX10_next 25 = .ok (.aload_n 0, 1) := by decide +kernel
theorem dX10_next_26 : decode cX10_next 26 = .ok (.getfield 116, 3) := by decide +kernel
theorem dX10_next_29 : decode cX10_next 29 = .ok (.iconst 5, 1) := by decide +kernel
theorem dX10_next_30 : decode cX10_next 30 = .ok (.if_icmp .ne 6, 3) := by decide +kernel
theorem dX10_next_33 : decode cX10_next 33 = .ok (.bipush (-104), 2) := by decide +kernel
theorem dX10_next_35 : decode cX10_next 35 = .ok (.ireturn, 1) := by decide +kernel
theorem dX10_next_36 : decode cX10_next 36 = .ok (.aload_n 0, 1) := by decide +kernel
theorem dX10_next_37 : decode cX10_next 37 = .ok (.getfield 32, 3) := by decide +kernel
theorem dX10_next_40 : decode cX10_next 40 = .ok (.aload_n 0, 1) := by decide +kernel
theorem dX10_next_41 : decode cX10_next 41 = .ok (.getfield 116, 3) := by decide +kernel
theorem dX10_next_44 : decode cX10_next 44 = .ok (.iload_n 1, 1) := by decide +kernel
theorem dX10_next_45 : decode cX10_next 45 = .ok (.iastore, 1) := by decide +kernel
theorem dX10_next_46 : decode cX10_next 46 = .ok (.aload_n 0, 1) := by decide +kernel
theorem dX10_next_47 : decode cX10_next 47 = .ok (.dup, 1) := by decide +kernel
theorem dX10_next_48 : decode cX10_next 48 = .ok (.getfield 116, 3) := by decide +kernel
theorem dX10_next_51 : decode cX10_next 51 = .ok (.iconst 1, 1) := by decide +kernel
theorem dX10_next_52 : decode cX10_next 52 = .ok (.iadd, 1) := by decide +kernel
theorem dX10_next_53 : decode cX10_next 53 = .ok (.putfield 116, 3) := by decide +kernel
theorem dX10_next_56 : decode cX10_next 56 = .ok (.aload_n 0, 1) := by decide +kernel
theorem dX10_next_57 : decode cX10_next 57 = .ok (.getfield 116, 3) := by decide +kernel
theorem dX10_next_60 : decode cX10_next 60 = .ok (.ireturn, 1) := by decide +kernel
set_option maxRecDepth 20000 in
theorem ggX10_goTrail_X10_isAct : GoodIn wsX10_goTrail wsX10_isAct := goodIn_r _ [8, 9, 10, 7, 11] (by decide +kernel) (by decide +kernel)
set_option maxRecDepth 20000 in
theorem gX10_goTrail_X10_isAct : GoodIn wsX10_goTrail (va_wsS RX10 163 yX10_isAct wsX10_isAct) := goodIn_app (goodIn_of _ (by decide +kernel)) ggX10_goTrail_X10_isAct
set_option maxRecDepth 20000 in
theorem ggX10_goTrail_X10_behind : GoodIn wsX10_goTrail wsX10_behind := goodIn_r _ [15, 16, 17, 18, 7, 19, 20, 21, 22, 23, 24, 25, 26, 27, 28, 29, 30, 31, 32, 33, 34, 35, 36, 37, 38, 39, 40, 41, 42, 43, 44, 45, 46, 47, 48, 49, 50, 51, 52, 53, 54, 55, 56, 57, 58, 59, 60, 61, 62, 63, 64, 65, 66, 67, 68, 69, 70, 71, 72, 73, 74, 75, 76, 77, 78, 79, 80, 81, 82, 83, 84, 85, 86, 87, 88, 89, 90] (by decide +kernel) (by decide +kernel)
set_option maxRecDepth 20000 in
theorem gX10_goTrail_X10_behind : GoodIn wsX10_goTrail (wsV RX10 166 RX10 yX10_behind wsX10_behind) := goodIn_app (goodIn_of _ (by decide +kernel)) ggX10_goTrail_X10_behind
set_option maxRecDepth 20000 in
theorem ggX10_goTrail_X10_purseIn : GoodIn wsX10_goTrail wsX10_purseIn := goodIn_r _ [36] (by decide +kernel) (by decide +kernel)
set_option maxRecDepth 20000 in
theorem gX10_goTrail_X10_purseIn : GoodIn wsX10_goTrail (va_wsS RX10 129 yX10_purseIn wsX10_purseIn) := goodIn_app (goodIn_of _ (by decide +kernel)) ggX10_goTrail_X10_purseIn
set_option maxRecDepth 20000 in
theorem ggX10_goTrail_X10_townIn : GoodIn wsX10_goTrail wsX10_townIn := goodIn_r _ [19] (by decide +kernel) (by decide +kernel)
set_option maxRecDepth 20000 in
theorem gX10_goTrail_X10_townIn : GoodIn wsX10_goTrail (va_wsS RX10 119 yX10_townIn wsX10_townIn) := goodIn_app (goodIn_of _ (by decide +kernel)) ggX10_goTrail_X10_townIn
set_option maxRecDepth 20000 in
theorem ggX10_goTrail_X10_goodsIn : GoodIn wsX10_goTrail wsX10_goodsIn := goodIn_r _ [30] (by decide +kernel) (by decide +kernel)
set_option maxRecDepth 20000 in
theorem gX10_goTrail_X10_goodsIn : GoodIn wsX10_goTrail (va_wsS RX10 141 yX10_goodsIn wsX10_goodsIn) := goodIn_app (goodIn_of _ (by decide +kernel)) ggX10_goTrail_X10_goodsIn
theorem dX10_goTrail_0 : decode cX10_goTrail 0 = .ok (.iconst 0, 1) := by decide +kernel
theorem dX10_goTrail_1 : decode cX10_goTrail 1 = .ok (.istore_n 3, 1) := by decide +kernel
theorem dX10_goTrail_2 : decode cX10_goTrail 2 = .ok (.iload_n 3, 1) := by decide +kernel
theorem dX10_goTrail_3 : decode cX10_goTrail 3 = .ok (.bipush 64, 2) := by decide +kernel
theorem dX10_goTrail_5 : decode cX10_goTrail 5 = .ok (.if_icmp .ge 16, 3) := by decide +kernel
theorem dX10_goTrail_8 : decode cX10_goTrail 8 = .ok (.aload_n 0, 1) := by decide +kernel
theorem dX10_goTrail_9 : decode cX10_goTrail 9 = .ok (.getfield 61, 3) := by decide +kernel
theorem dX10_goTrail_12 : decode cX10_goTrail 12 = .ok (.iload_n 3, 1) := by decide +kernel
theorem dX10_goTrail_13 : decode cX10_goTrail 13 = .ok (.iconst 0, 1) := by decide +kernel
theorem dX10_goTrail_14 : decode cX10_goTrail 14 = .ok (.iastore, 1) := by decide +kernel
theorem dX10_goTrail_15 : decode cX10_goTrail 15 = .ok (.iinc 3 1, 3) := by decide +kernel
theorem dX10_goTrail_18 : decode cX10_goTrail 18 = .ok (.goto (-16), 3) := by decide +kernel
theorem dX10_goTrail_21 : decode cX10_goTrail 21 = .ok (.iconst 0, 1) := by decide +kernel
theorem dX10_goTrail_22 : decode cX10_goTrail 22 = .ok (.istore_n 3, 1) := by decide +kernel
theorem dX10_goTrail_23 : decode cX10_goTrail 23 = .ok (.iload_n 3, 1) := by decide +kernel
theorem dX10_goTrail_24 : decode cX10_goTrail 24 = .ok (.bipush 64, 2) := by decide +kernel
theorem dX10_goTrail_26 : decode cX10_goTrail 26 = .ok (.if_icmp .ge 124, 3) := by decide +kernel
theorem dX10_goTrail_29 : decode cX10_goTrail 29 = .ok (.iload_n 3, 1) := by decide +kernel
theorem dX10_goTrail_30 : decode cX10_goTrail 30 = .ok (.iconst 4, 1) := by decide +kernel
theorem dX10_goTrail_31 : decode cX10_goTrail 31 = .ok (.irem, 1) := by decide +kernel
theorem dX10_goTrail_32 : decode cX10_goTrail 32 = .ok (.iconst 4, 1) := by decide +kernel
theorem dX10_goTrail_33 : decode cX10_goTrail 33 = .ok (.iload_n 1, 1) := by decide +kernel
theorem dX10_goTrail_34 : decode cX10_goTrail 34 = .ok (.imul, 1) := by decide +kernel
theorem dX10_goTrail_35 : decode cX10_goTrail 35 = .ok (.iadd, 1) := by decide +kernel
theorem dX10_goTrail_36 : decode cX10_goTrail 36 = .ok (.sipush 2500, 3) := by decide +kernel
theorem dX10_goTrail_39 : decode cX10_goTrail 39 = .ok (.iload_n 3, 1) := by decide +kernel
theorem dX10_goTrail_40 : decode cX10_goTrail 40 = .ok (.iconst 4, 1) := by decide +kernel
theorem dX10_goTrail_41 : decode cX10_goTrail 41 = .ok (.idiv, 1) := by decide +kernel
theorem dX10_goTrail_42 : decode cX10_goTrail 42 = .ok (.imul, 1) := by decide +kernel
theorem dX10_goTrail_43 : decode cX10_goTrail 43 = .ok (.iadd, 1) := by decide +kernel
theorem dX10_goTrail_44 : decode cX10_goTrail 44 = .ok (.istore 4, 2) := by decide +kernel
theorem dX10_goTrail_46 : decode cX10_goTrail 46 = .ok (.iconst 0, 1) := by decide +kernel
theorem dX10_goTrail_47 : decode cX10_goTrail 47 = .ok (.istore 5, 2) := by decide +kernel
theorem dX10_goTrail_49 : decode cX10_goTrail 49 = .ok (.iload 5, 2) := by decide +kernel
theorem dX10_goTrail_51 : decode cX10_goTrail 51 = .ok (.bipush 24, 2) := by decide +kernel
theorem dX10_goTrail_53 : decode cX10_goTrail 53 = .ok (.if_icmp .ge 91, 3) := by decide +kernel
theorem dX10_goTrail_56 : decode cX10_goTrail 56 = .ok (.aload_n 0, 1) := by decide +kernel
theorem dX10_goTrail_57 : decode cX10_goTrail 57 = .ok (.getfield 58, 3) := by decide +kernel
theorem dX10_goTrail_60 : decode cX10_goTrail 60 = .ok (.iload_n 3, 1) := by decide +kernel
theorem dX10_goTrail_61 : decode cX10_goTrail 61 = .ok (.iaload, 1) := by decide +kernel
theorem dX10_goTrail_62 : decode cX10_goTrail 62 = .ok (.ifCond .le 82, 3) := by decide +kernel
theorem dX10_goTrail_65 : decode cX10_goTrail 65 = .ok (.iload 5, 2) := by decide +kernel
theorem dX10_goTrail_67 : decode cX10_goTrail 67 = .ok (.invokestatic 163, 3) := by decide +kernel
theorem dX10_goTrail_70 : decode cX10_goTrail 70 = .ok (.ifCond .eq 23, 3) := by decide +kernel
theorem dX10_goTrail_73 : decode cX10_goTrail 73 = .ok (.aload_n 0, 1) := by decide +kernel
theorem dX10_goTrail_74 : decode cX10_goTrail 74 = .ok (.aload_n 0, 1) := by decide +kernel
theorem dX10_goTrail_75 : decode cX10_goTrail 75 = .ok (.getfield 22, 3) := by decide +kernel
theorem dX10_goTrail_78 : decode cX10_goTrail 78 = .ok (.aload_n 0, 1) := by decide +kernel
theorem dX10_goTrail_79 : decode cX10_goTrail 79 = .ok (.getfield 28, 3) := by decide +kernel
theorem dX10_goTrail_82 : decode cX10_goTrail 82 = .ok (.iaload, 1) := by decide +kernel
theorem dX10_goTrail_83 : decode cX10_goTrail 83 = .ok (.iload 4, 2) := by decide +kernel
theorem dX10_goTrail_85 : decode cX10_goTrail 85 = .ok (.iload 5, 2) := by decide +kernel
theorem dX10_goTrail_87 : decode cX10_goTrail 87 = .ok (.invokevirtual 166, 3) := by decide +kernel
theorem dX10_goTrail_90 : decode cX10_goTrail 90 = .ok (.goto 4, 3) := by decide +kernel
theorem dX10_goTrail_93 : decode cX10_goTrail 93 = .ok (.iconst (-1), 1) := by decide +kernel
theorem dX10_goTrail_94 : decode cX10_goTrail 94 = .ok (.istore 6, 2) := by decide +kernel
theorem dX10_goTrail_96 : decode cX10_goTrail 96 = .ok (.iload 6, 2) := by decide +kernel
theorem dX10_goTrail_98 : decode cX10_goTrail 98 = .ok (.iconst (-1), 1) := by decide +kernel
theorem dX10_goTrail_99 : decode cX10_goTrail 99 = .ok (.if_icmp .eq 39, 3) := by decide +kernel
theorem dX10_goTrail_102 : decode cX10_goTrail 102 = .ok (.iload 6, 2) := by decide +kernel
theorem dX10_goTrail_104 : decode cX10_goTrail 104 = .ok (.invokestatic 129, 3) := by decide +kernel
theorem dX10_goTrail_107 : decode cX10_goTrail 107 = .ok (.iload_n 2, 1) := by decide +kernel
theorem dX10_goTrail_108 : decode cX10_goTrail 108 = .ok (.if_icmp .ne 30, 3) := by decide +kernel
theorem dX10_goTrail_111 : decode cX10_goTrail 111 = .ok (.aload_n 0, 1) := by decide +kernel
theorem dX10_goTrail_112 : decode cX10_goTrail 112 = .ok (.getfield 61, 3) := by decide +kernel
theorem dX10_goTrail_115 : decode cX10_goTrail 115 = .ok (.iload 6, 2) := by decide +kernel
theorem dX10_goTrail_117 : decode cX10_goTrail 117 = .ok (.invokestatic 119, 3) := by decide +kernel
theorem dX10_goTrail_120 : decode cX10_goTrail 120 = .ok (.iconst 4, 1) := by decide +kernel
theorem dX10_goTrail_121 : decode cX10_goTrail 121 = .ok (.iload 6, 2) := by decide +kernel
theorem dX10_goTrail_123 : decode cX10_goTrail 123 = .ok (.invokestatic 141, 3) := by decide +kernel
theorem dX10_goTrail_126 : decode cX10_goTrail 126 = .ok (.imul, 1) := by decide +kernel
theorem dX10_goTrail_127 : decode cX10_goTrail 127 = .ok (.iadd, 1) := by decide +kernel
theorem dX10_goTrail_128 : decode cX10_goTrail 128 = .ok (.dup2, 1) := by decide +kernel
theorem dX10_goTrail_129 : decode cX10_goTrail 129 = .ok (.iaload, 1) := by decide +kernel
theorem dX10_goTrail_130 : decode cX10_goTrail 130 = .ok (.aload_n 0, 1) := by decide +kernel
theorem dX10_goTrail_131 : decode cX10_goTrail 131 = .ok (.getfield 58, 3) := by decide +kernel
theorem dX10_goTrail_134 : decode cX10_goTrail 134 = .ok (.iload_n 3, 1) := by decide +kernel
theorem dX10_goTrail_135 : decode cX10_goTrail 135 = .ok (.iaload, 1) := by decide +kernel
theorem dX10_goTrail_136 : decode cX10_goTrail 136 = .ok (.iadd, 1) := by decide +kernel
theorem dX10_goTrail_137 : decode cX10_goTrail 137 = .ok (.iastore, 1) := by decide +kernel
theorem dX10_goTrail_138 : decode cX10_goTrail 138 = .ok (.iinc 5 1, 3) := by decide +kernel
theorem dX10_goTrail_141 : decode cX10_goTrail 141 = .ok (.goto (-92), 3) := by decide +kernel
theorem dX10_goTrail_144 : decode cX10_goTrail 144 = .ok (.iinc 3 1, 3) := by decide +kernel
theorem dX10_goTrail_147 : decode cX10_goTrail 147 = .ok (.goto (-124), 3) := by decide +kernel
theorem dX10_goTrail_150 : decode cX10_goTrail 150 = .ok (.iconst 0, 1) := by decide +kernel
theorem dX10_goTrail_151 : decode cX10_goTrail 151 = .ok (.istore_n 3, 1) := by decide +kernel
theorem dX10_goTrail_152 : decode cX10_goTrail 152 = .ok (.iload_n 3, 1) := by decide +kernel
theorem dX10_goTrail_153 : decode cX10_goTrail 153 = .ok (.bipush 64, 2) := by decide +kernel
theorem dX10_goTrail_155 : decode cX10_goTrail 155 = .ok (.if_icmp .ge 21, 3) := by decide +kernel
theorem dX10_goTrail_158 : decode cX10_goTrail 158 = .ok (.aload_n 0, 1) := by decide +kernel
theorem dX10_goTrail_159 : decode cX10_goTrail 159 = .ok (.getfield 58, 3) := by decide +kernel
theorem dX10_goTrail_162 : decode cX10_goTrail 162 = .ok (.iload_n 3, 1) := by decide +kernel
theorem dX10_goTrail_163 : decode cX10_goTrail 163 = .ok (.aload_n 0, 1) := by decide +kernel
theorem dX10_goTrail_164 : decode cX10_goTrail 164 = .ok (.getfield 61, 3) := by decide +kernel
theorem dX10_goTrail_167 : decode cX10_goTrail 167 = .ok (.iload_n 3, 1) := by decide +kernel
theorem dX10_goTrail_168 : decode cX10_goTrail 168 = .ok (.iaload, 1) := by decide +kernel
theorem dX10_goTrail_169 : decode cX10_goTrail 169 = .ok (.iastore, 1) := by decide +kernel
theorem dX10_goTrail_170 : decode cX10_goTrail 170 = .ok (.iinc 3 1, 3) := by decide +kernel
theorem dX10_goTrail_173 : decode cX10_goTrail 173 = .ok (.goto (-21), 3) := by decide +kernel
theorem dX10_goTrail_176 : decode cX10_goTrail 176 = .ok (.return_, 1) := by decide +kernel
set_option maxRecDepth 20000 in
theorem ggX10_layTrail_X10_townIn : GoodIn wsX10_layTrail wsX10_townIn := goodIn_r _ [8] (by decide +kernel) (by decide +kernel)
set_option maxRecDepth 20000 in
theorem gX10_layTrail_X10_townIn : GoodIn wsX10_layTrail (va_wsS RX10 119 yX10_townIn wsX10_townIn) := goodIn_app (goodIn_of _ (by decide +kernel)) ggX10_layTrail_X10_townIn
set_option maxRecDepth 20000 in
theorem ggX10_layTrail_X10_goodsIn : GoodIn wsX10_layTrail wsX10_goodsIn := goodIn_r _ [11] (by decide +kernel) (by decide +kernel)
set_option maxRecDepth 20000 in
theorem gX10_layTrail_X10_goodsIn : GoodIn wsX10_layTrail (va_wsS RX10 141 yX10_goodsIn wsX10_goodsIn) := goodIn_app (goodIn_of _ (by decide +kernel)) ggX10_layTrail_X10_goodsIn
set_option maxRecDepth 20000 in
theorem ggX10_layTrail_X10_purseIn : GoodIn wsX10_layTrail wsX10_purseIn := goodIn_r _ [14] (by decide +kernel) (by decide +kernel)
set_option maxRecDepth 20000 in
theorem gX10_layTrail_X10_purseIn : GoodIn wsX10_layTrail (va_wsS RX10 129 yX10_purseIn wsX10_purseIn) := goodIn_app (goodIn_of _ (by decide +kernel)) ggX10_layTrail_X10_purseIn
set_option maxRecDepth 20000 in
theorem ggX10_layTrail_X10_goTrail : GoodIn wsX10_layTrail wsX10_goTrail := goodIn_r _ [18, 19, 1, 20, 21, 22, 23, 7, 24, 25, 26, 27, 28, 29, 30, 31, 32, 5, 6, 8, 33, 34, 35, 36, 37, 38, 39, 40, 9, 10, 11, 41, 42, 43, 12, 13, 14, 44, 45, 46, 47, 48, 49, 50, 51, 52, 53, 54, 55, 56, 57, 58, 59, 60, 61, 62, 63, 64, 65, 66, 67, 68, 69, 70, 71, 72, 73, 74, 75, 76, 77, 78, 79, 80, 81, 82, 83, 84, 85, 86, 87, 88, 89, 90, 91, 92, 93, 94, 95, 96, 97] (by decide +kernel) (by decide +kernel)
set_option maxRecDepth 20000 in
theorem gX10_layTrail_X10_goTrail : GoodIn wsX10_layTrail (wsV RX10 201 RX10 yX10_goTrail wsX10_goTrail) := goodIn_app (goodIn_of _ (by decide +kernel)) ggX10_layTrail_X10_goTrail
theorem dX10_layTrail_0 : decode cX10_layTrail 0 = .ok (.iconst 0, 1) := by decide +kernel
theorem dX10_layTrail_1 : decode cX10_layTrail 1 = .ok (.istore_n 1, 1) := by decide +kernel
theorem dX10_layTrail_2 : decode cX10_layTrail 2 = .ok (.iload_n 1, 1) := by decide +kernel
theorem dX10_layTrail_3 : decode cX10_layTrail 3 = .ok (.bipush 64, 2) := by decide +kernel
theorem dX10_layTrail_5 : decode cX10_layTrail 5 = .ok (.if_icmp .ge 41, 3) := by decide +kernel
theorem dX10_layTrail_8 : decode cX10_layTrail 8 = .ok (.aload_n 0, 1) := by decide +kernel
theorem dX10_layTrail_9 : decode cX10_layTrail 9 = .ok (.getfield 58, 3) := by decide +kernel
theorem dX10_layTrail_12 : decode cX10_layTrail 12 = .ok (.iload_n 1, 1) := by decide +kernel
theorem dX10_layTrail_13 : decode cX10_layTrail 13 = .ok (.iload_n 1, 1) := by decide +kernel
theorem dX10_layTrail_14 : decode cX10_layTrail 14 = .ok (.aload_n 0, 1) := by decide +kernel
theorem dX10_layTrail_15 : decode cX10_layTrail 15 = .ok (.getfield 198, 3) := by decide +kernel
theorem dX10_layTrail_18 : decode cX10_layTrail 18 = .ok (.invokestatic 119, 3) := by decide +kernel
theorem dX10_layTrail_21 : decode cX10_layTrail 21 = .ok (.iconst 4, 1) := by decide +kernel
theorem dX10_layTrail_22 : decode cX10_layTrail 22 = .ok (.aload_n 0, 1) := by decide +kernel
theorem dX10_layTrail_23 : decode cX10_layTrail 23 = .ok (.getfield 198, 3) := by decide +kernel
theorem dX10_layTrail_26 : decode cX10_layTrail 26 = .ok (.invokestatic 141, 3) := by decide +kernel
theorem dX10_layTrail_29 : decode cX10_layTrail 29 = .ok (.imul, 1) := by decide +kernel
theorem dX10_layTrail_30 : decode cX10_layTrail 30 = .ok (.iadd, 1) := by decide +kernel
theorem dX10_layTrail_31 : decode cX10_layTrail 31 = .ok (.if_icmp .ne 7, 3) := by decide +kernel
theorem dX10_layTrail_34 : decode cX10_layTrail 34 = .ok (.iconst 1, 1) := by decide +kernel
theorem dX10_layTrail_35 : decode cX10_layTrail 35 = .ok (.goto 4, 3) := by decide +kernel
theorem dX10_layTrail_38 : decode cX10_layTrail 38 = .ok (.iconst 0, 1) := by decide +kernel
theorem dX10_layTrail_39 : decode cX10_layTrail 39 = .ok (.iastore, 1) := by decide +kernel
theorem dX10_layTrail_40 : decode cX10_layTrail 40 = .ok (.iinc 1 1, 3) := by decide +kernel
theorem dX10_layTrail_43 : decode cX10_layTrail 43 = .ok (.goto (-41), 3) := by decide +kernel
theorem dX10_layTrail_46 : decode cX10_layTrail 46 = .ok (.iconst 0, 1) := by decide +kernel
theorem dX10_layTrail_47 : decode cX10_layTrail 47 = .ok (.istore_n 1, 1) := by decide +kernel
theorem dX10_layTrail_48 : decode cX10_layTrail 48 = .ok (.iload_n 1, 1) := by decide +kernel
theorem dX10_layTrail_49 : decode cX10_layTrail 49 = .ok (.aload_n 0, 1) := by decide +kernel
theorem dX10_layTrail_50 : decode cX10_layTrail 50 = .ok (.getfield 116, 3) := by decide +kernel
theorem dX10_layTrail_53 : decode cX10_layTrail 53 = .ok (.if_icmp .ge 41, 3) := by decide +kernel
theorem dX10_layTrail_56 : decode cX10_layTrail 56 = .ok (.aload_n 0, 1) := by decide +kernel
theorem dX10_layTrail_57 : decode cX10_layTrail 57 = .ok (.iload_n 1, 1) := by decide +kernel
theorem dX10_layTrail_58 : decode cX10_layTrail 58 = .ok (.ifCond .ne 13, 3) := by decide +kernel
theorem dX10_layTrail_61 : decode cX10_layTrail 61 = .ok (.aload_n 0, 1) := by decide +kernel
theorem dX10_layTrail_62 : decode cX10_layTrail 62 = .ok (.getfield 198, 3) := by decide +kernel
theorem dX10_layTrail_65 : decode cX10_layTrail 65 = .ok (.invokestatic 129, 3) := by decide +kernel
theorem dX10_layTrail_68 : decode cX10_layTrail 68 = .ok (.goto 11, 3) := by decide +kernel
theorem dX10_layTrail_71 : decode cX10_layTrail 71 = .ok (.aload_n 0, 1) := by decide +kernel
theorem dX10_layTrail_72 : decode cX10_layTrail 72 = .ok (.getfield 32, 3) := by decide +kernel
theorem dX10_layTrail_75 : decode cX10_layTrail 75 = .ok (.iload_n 1, 1) := by decide +kernel
theorem dX10_layTrail_76 : decode cX10_layTrail 76 = .ok (.iconst 1, 1) := by decide +kernel
theorem dX10_layTrail_77 : decode cX10_layTrail 77 = .ok (.isub, 1) := by decide +kernel
theorem dX10_layTrail_78 : decode cX10_layTrail 78 = .ok (.iaload, 1) := by decide +kernel
theorem dX10_layTrail_79 : decode cX10_layTrail 79 = .ok (.aload_n 0, 1) := by decide +kernel
theorem dX10_layTrail_80 : decode cX10_layTrail 80 = .ok (.getfield 32, 3) := by decide +kernel
theorem dX10_layTrail_83 : decode cX10_layTrail 83 = .ok (.iload_n 1, 1) := by decide +kernel
theorem dX10_layTrail_84 : decode cX10_layTrail 84 = .ok (.iaload, 1) := by decide +kernel
theorem dX10_layTrail_85 : decode cX10_layTrail 85 = .ok (.invokevirtual 201, 3) := by decide +kernel
theorem dX10_layTrail_88 : decode cX10_layTrail 88 = .ok (.iinc 1 1, 3) := by decide +kernel
theorem dX10_layTrail_91 : decode cX10_layTrail 91 = .ok (.goto (-43), 3) := by decide +kernel
theorem dX10_layTrail_94 : decode cX10_layTrail 94 = .ok (.return_, 1) := by decide +kernel
set_option maxRecDepth 20000 in
theorem ggX10_waysNow_X10_layTrail : GoodIn wsX10_waysNow wsX10_layTrail := goodIn_r _ [6, 1, 7, 8, 9, 10, 11, 5, 12, 13, 14, 15, 16, 17, 18, 19, 20, 21, 22, 23, 24, 25, 26, 27, 28, 29, 30, 31, 32, 33, 34, 35, 36, 37, 38, 39, 40, 41, 42, 43, 44, 45, 46, 47, 48, 49, 50, 51, 52, 53, 54, 55, 56, 57, 58, 59, 60, 61, 62, 63, 64, 65, 66, 67, 68, 69, 70, 71, 72, 73, 74, 75, 76, 77, 78, 79, 80, 81, 82, 83, 84, 85, 86, 87, 88, 89, 90, 91, 92, 93, 94, 95, 96, 97, 98, 99, 100, 101] (by decide +kernel) (by decide +kernel)
set_option maxRecDepth 20000 in
theorem gX10_waysNow_X10_layTrail : GoodIn wsX10_waysNow (wsV RX10 204 RX10 yX10_layTrail wsX10_layTrail) := goodIn_app (goodIn_of _ (by decide +kernel)) ggX10_waysNow_X10_layTrail
theorem dX10_waysNow_0 : decode cX10_waysNow 0 = .ok (.aload_n 0, 1) := by decide +kernel
theorem dX10_waysNow_1 : decode cX10_waysNow 1 = .ok (.invokevirtual 204, 3) := by decide +kernel
theorem dX10_waysNow_4 : decode cX10_waysNow 4 = .ok (.iconst 0, 1) := by decide +kernel
theorem dX10_waysNow_5 : decode cX10_waysNow 5 = .ok (.istore_n 1, 1) := by decide +kernel
theorem dX10_waysNow_6 : decode cX10_waysNow 6 = .ok (.iconst 0, 1) := by decide +kernel
theorem dX10_waysNow_7 : decode cX10_waysNow 7 = .ok (.istore_n 2, 1) := by decide +kernel
theorem dX10_waysNow_8 : decode cX10_waysNow 8 = .ok (.iload_n 2, 1) := by decide +kernel
theorem dX10_waysNow_9 : decode cX10_waysNow 9 = .ok (.bipush 64, 2) := by decide +kernel
theorem dX10_waysNow_11 : decode cX10_waysNow 11 = .ok (.if_icmp .ge 18, 3) := by decide +kernel
theorem dX10_waysNow_14 : decode cX10_waysNow 14 = .ok (.iload_n 1, 1) := by decide +kernel
theorem dX10_waysNow_15 : decode cX10_waysNow 15 = .ok (.aload_n 0, 1) := by decide +kernel
theorem dX10_waysNow_16 : decode cX10_waysNow 16 = .ok (.getfield 58, 3) := by decide +kernel
theorem dX10_waysNow_19 : decode cX10_waysNow 19 = .ok (.iload_n 2, 1) := by decide +kernel
theorem dX10_waysNow_20 : decode cX10_waysNow 20 = .ok (.iaload, 1) := by decide +kernel
theorem dX10_waysNow_21 : decode cX10_waysNow 21 = .ok (.iadd, 1) := by decide +kernel
theorem dX10_waysNow_22 : decode cX10_waysNow 22 = .ok (.istore_n 1, 1) := by decide +kernel
theorem dX10_waysNow_23 : decode cX10_waysNow 23 = .ok (.iinc 2 1, 3) := by decide +kernel
theorem dX10_waysNow_26 : decode cX10_waysNow 26 = .ok (.goto (-18), 3) := by decide +kernel
theorem dX10_waysNow_29 : decode cX10_waysNow 29 = .ok (.iload_n 1, 1) := by decide +kernel
theorem dX10_waysNow_30 : decode cX10_waysNow 30 = .ok (.ireturn, 1) := by decide +kernel
set_option maxRecDepth 20000 in
theorem ggX10_endsNow_X10_layTrail : GoodIn wsX10_endsNow wsX10_layTrail := goodIn_r _ [6, 1, 7, 8, 9, 10, 11, 5, 12, 13, 14, 15, 16, 17, 18, 19, 20, 21, 22, 23, 24, 25, 26, 27, 28, 29, 30, 31, 32, 33, 34, 35, 36, 37, 38, 39, 40, 41, 42, 43, 44, 45, 46, 47, 48, 49, 50, 51, 52, 53, 54, 55, 56, 57, 58, 59, 60, 61, 62, 63, 64, 65, 66, 67, 68, 69, 70, 71, 72, 73, 74, 75, 76, 77, 78, 79, 80, 81, 82, 83, 84, 85, 86, 87, 88, 89, 90, 91, 92, 93, 94, 95, 96, 97, 98, 99, 100, 101] (by decide +kernel) (by decide +kernel)
set_option maxRecDepth 20000 in
theorem gX10_endsNow_X10_layTrail : GoodIn wsX10_endsNow (wsV RX10 204 RX10 yX10_layTrail wsX10_layTrail) := goodIn_app (goodIn_of _ (by decide +kernel)) ggX10_endsNow_X10_layTrail
theorem dX10_endsNow_0 : decode cX10_endsNow 0 = .ok (.aload_n 0, 1) := by decide +kernel
theorem dX10_endsNow_1 : decode cX10_endsNow 1 = .ok (.invokevirtual 204, 3) := by decide +kernel
theorem dX10_endsNow_4 : decode cX10_endsNow 4 = .ok (.iconst 0, 1) := by decide +kernel
theorem dX10_endsNow_5 : decode cX10_endsNow 5 = .ok (.istore_n 1, 1) := by decide +kernel
theorem dX10_endsNow_6 : decode cX10_endsNow 6 = .ok (.iconst 0, 1) := by decide +kernel
theorem dX10_endsNow_7 : decode cX10_endsNow 7 = .ok (.istore_n 2, 1) := by decide +kernel
theorem dX10_endsNow_8 : decode cX10_endsNow 8 = .ok (.iload_n 2, 1) := by decide +kernel
theorem dX10_endsNow_9 : decode cX10_endsNow 9 = .ok (.bipush 64, 2) := by decide +kernel
theorem dX10_endsNow_11 : decode cX10_endsNow 11 = .ok (.if_icmp .ge 30, 3) := by decide +kernel
theorem dX10_endsNow_14 : decode cX10_endsNow 14 = .ok (.iload_n 1, 1) := by decide +kernel
theorem dX10_endsNow_15 : decode cX10_endsNow 15 = .ok (.aload_n 0, 1) := by decide +kernel
theorem dX10_endsNow_16 : decode cX10_endsNow 16 = .ok (.getfield 58, 3) := by decide +kernel
theorem dX10_endsNow_19 : decode cX10_endsNow 19 = .ok (.iload_n 2, 1) := by decide +kernel
theorem dX10_endsNow_20 : decode cX10_endsNow 20 = .ok (.iaload, 1) := by decide +kernel
theorem dX10_endsNow_21 : decode cX10_endsNow 21 = .ok (.ifCond .le 11, 3) := by decide +kernel
theorem dX10_endsNow_24 : decode cX10_endsNow 24 = .ok (.iconst 1, 1) := by decide +kernel
theorem dX10_endsNow_25 : decode cX10_endsNow 25 = .ok (.iload_n 2, 1) := by decide +kernel
theorem dX10_endsNow_26 : decode cX10_endsNow 26 = .ok (.iconst 4, 1) := by decide +kernel
theorem dX10_endsNow_27 : decode cX10_endsNow 27 = .ok (.irem, 1) := by decide +kernel
theorem dX10_endsNow_28 : decode cX10_endsNow 28 = .ok (.ishl, 1) := by decide +kernel
theorem dX10_endsNow_29 : decode cX10_endsNow 29 = .ok (.goto 4, 3) := by decide +kernel
theorem dX10_endsNow_32 : decode cX10_endsNow 32 = .ok (.iconst 0, 1) := by decide +kernel
theorem dX10_endsNow_33 : decode cX10_endsNow 33 = .ok (.ior, 1) := by decide +kernel
theorem dX10_endsNow_34 : decode cX10_endsNow 34 = .ok (.istore_n 1, 1) := by decide +kernel
theorem dX10_endsNow_35 : decode cX10_endsNow 35 = .ok (.iinc 2 1, 3) := by decide +kernel
theorem dX10_endsNow_38 : decode cX10_endsNow 38 = .ok (.goto (-30), 3) := by decide +kernel
theorem dX10_endsNow_41 : decode cX10_endsNow 41 = .ok (.iload_n 1, 1) := by decide +kernel
theorem dX10_endsNow_42 : decode cX10_endsNow 42 = .ok (.ireturn, 1) := by decide +kernel
set_option maxRecDepth 20000 in
theorem ggX10_ways_X10_waysNow : GoodIn wsX10_ways wsX10_waysNow := goodIn_r _ [6, 7, 8, 9, 10, 5, 11, 12, 13, 14, 15, 16, 17, 18, 19, 20, 21, 22, 23, 24, 25, 26, 27, 28, 29, 1, 30, 31, 32, 33, 34, 35, 36, 37, 38, 39, 40, 41, 42, 43, 44, 45, 46, 47, 48, 49, 50, 51, 52, 53, 54, 55, 56, 57, 58, 59, 60, 61, 62, 63, 64, 65, 66, 67, 68, 69, 70, 71, 72, 73, 74, 75, 76, 77, 78, 79, 80, 81, 82, 83, 84, 85, 86, 87, 88, 89, 90, 91, 92, 93, 94, 95, 96, 97, 98, 99, 100, 101, 102, 103, 104, 105] (by decide +kernel) (by decide +kernel)
set_option maxRecDepth 20000 in
theorem gX10_ways_X10_waysNow : GoodIn wsX10_ways (wsV RX10 207 RX10 yX10_waysNow wsX10_waysNow) := goodIn_app (goodIn_of _ (by decide +kernel)) ggX10_ways_X10_waysNow
theorem dX10_ways_0 : decode cX10_ways 0 = .ok (.aload_n 0, 1) := by decide +kernel
theorem dX10_ways_1 : decode cX10_ways 1 = .ok (.getfield 28, 3) := by decide +kernel
theorem dX10_ways_4 : decode cX10_ways 4 = .ok (.iconst (-1), 1) := by decide +kernel
theorem dX10_ways_5 : decode cX10_ways 5 = .ok (.if_icmp .ne 8, 3) := by decide +kernel
theorem dX10_ways_8 : decode cX10_ways 8 = .ok (.bipush (-103), 2) := by decide +kernel
theorem dX10_ways_10 : decode cX10_ways 10 = .ok (.goto 7, 3) := by decide +kernel
theorem dX10_ways_13 : decode cX10_ways 13 = .ok (.aload_n 0, 1) := by decide +kernel
theorem dX10_ways_14 : decode cX10_ways 14 = .ok (.invokevirtual 207, 3) := by decide +kernel
theorem dX10_ways_17 : decode cX10_ways 17 = .ok (.ireturn, 1) := by decide +kernel
set_option maxRecDepth 20000 in
theorem ggX10_ends_X10_endsNow : GoodIn wsX10_ends wsX10_endsNow := goodIn_r _ [6, 7, 8, 9, 10, 5, 11, 12, 13, 14, 15, 16, 17, 18, 19, 20, 21, 22, 23, 24, 25, 26, 27, 28, 29, 1, 30, 31, 32, 33, 34, 35, 36, 37, 38, 39, 40, 41, 42, 43, 44, 45, 46, 47, 48, 49, 50, 51, 52, 53, 54, 55, 56, 57, 58, 59, 60, 61, 62, 63, 64, 65, 66, 67, 68, 69, 70, 71, 72, 73, 74, 75, 76, 77, 78, 79, 80, 81, 82, 83, 84, 85, 86, 87, 88, 89, 90, 91, 92, 93, 94, 95, 96, 97, 98, 99, 100, 101, 102, 103, 104, 105] (by decide +kernel) (by decide +kernel)
set_option maxRecDepth 20000 in
theorem gX10_ends_X10_endsNow : GoodIn wsX10_ends (wsV RX10 211 RX10 yX10_endsNow wsX10_endsNow) := goodIn_app (goodIn_of _ (by decide +kernel)) ggX10_ends_X10_endsNow
theorem dX10_ends_0 : decode cX10_ends 0 = .ok (.aload_n 0, 1) := by decide +kernel
theorem dX10_ends_1 : decode cX10_ends 1 = .ok (.getfield 28, 3) := by decide +kernel
theorem dX10_ends_4 : decode cX10_ends 4 = .ok (.iconst (-1), 1) := by decide +kernel
theorem dX10_ends_5 : decode cX10_ends 5 = .ok (.if_icmp .ne 8, 3) := by decide +kernel
theorem dX10_ends_8 : decode cX10_ends 8 = .ok (.bipush (-103), 2) := by decide +kernel
theorem dX10_ends_10 : decode cX10_ends 10 = .ok (.goto 7, 3) := by decide +kernel
theorem dX10_ends_13 : decode cX10_ends 13 = .ok (.aload_n 0, 1) := by decide +kernel
theorem dX10_ends_14 : decode cX10_ends 14 = .ok (.invokevirtual 211, 3) := by decide +kernel
theorem dX10_ends_17 : decode cX10_ends 17 = .ok (.ireturn, 1) := by decide +kernel
theorem dX10_draw_0 : decode cX10_draw 0 = .ok (.aload_n 0, 1) := by decide +kernel
theorem dX10_draw_1 : decode cX10_draw 1 = .ok (.ldc2_w 214, 3) := by decide +kernel
theorem dX10_draw_4 : decode cX10_draw 4 = .ok (.aload_n 0, 1) := by decide +kernel
theorem dX10_draw_5 : decode cX10_draw 5 = .ok (.getfield 216, 3) := by decide +kernel
theorem dX10_draw_8 : decode cX10_draw 8 = .ok (.lmul, 1) := by decide +kernel
theorem dX10_draw_9 : decode cX10_draw 9 = .ok (.ldc2_w 220, 3) := by decide +kernel
theorem dX10_draw_12 : decode cX10_draw 12 = .ok (.ladd, 1) := by decide +kernel
theorem dX10_draw_13 : decode cX10_draw 13 = .ok (.ldc2_w 222, 3) := by decide +kernel
theorem dX10_draw_16 : decode cX10_draw 16 = .ok (.land, 1) := by decide +kernel
theorem dX10_draw_17 : decode cX10_draw 17 = .ok (.putfield 216, 3) := by decide +kernel
theorem dX10_draw_20 : decode cX10_draw 20 = .ok (.aload_n 0, 1) := by decide +kernel
theorem dX10_draw_21 : decode cX10_draw 21 = .ok (.getfield 216, 3) := by decide +kernel
theorem dX10_draw_24 : decode cX10_draw 24 = .ok (.ldc2_w 224, 3) := by decide +kernel
theorem dX10_draw_27 : decode cX10_draw 27 = .ok (.ldiv, 1) := by decide +kernel
theorem dX10_draw_28 : decode cX10_draw 28 = .ok (.iload_n 1, 1) := by decide +kernel
theorem dX10_draw_29 : decode cX10_draw 29 = .ok (.i2l, 1) := by decide +kernel
theorem dX10_draw_30 : decode cX10_draw 30 = .ok (.lrem, 1) := by decide +kernel
theorem dX10_draw_31 : decode cX10_draw 31 = .ok (.l2i, 1) := by decide +kernel
theorem dX10_draw_32 : decode cX10_draw 32 = .ok (.ireturn, 1) := by decide +kernel
set_option maxRecDepth 20000 in
theorem ggX10_mayMany_X10_isAct : GoodIn wsX10_mayMany wsX10_isAct := goodIn_r _ [4, 5, 6, 3, 7] (by decide +kernel) (by decide +kernel)
set_option maxRecDepth 20000 in
theorem gX10_mayMany_X10_isAct : GoodIn wsX10_mayMany (va_wsS RX10 163 yX10_isAct wsX10_isAct) := goodIn_app (goodIn_of _ (by decide +kernel)) ggX10_mayMany_X10_isAct
set_option maxRecDepth 20000 in
theorem ggX10_mayMany_X10_behind : GoodIn wsX10_mayMany wsX10_behind := goodIn_r _ [11, 12, 13, 14, 3, 15, 16, 17, 18, 19, 20, 21, 22, 23, 24, 25, 26, 27, 28, 29, 30, 31, 32, 33, 34, 35, 36, 37, 38, 39, 40, 41, 42, 43, 44, 45, 46, 47, 48, 49, 50, 51, 52, 53, 54, 55, 56, 57, 58, 59, 60, 61, 62, 63, 64, 65, 66, 67, 68, 69, 70, 71, 72, 73, 74, 75, 76, 77, 78, 79, 80, 81, 82, 83, 84, 85, 86] (by decide +kernel) (by decide +kernel)
set_option maxRecDepth 20000 in
theorem gX10_mayMany_X10_behind : GoodIn wsX10_mayMany (wsV RX10 166 RX10 yX10_behind wsX10_behind) := goodIn_app (goodIn_of _ (by decide +kernel)) ggX10_mayMany_X10_behind
theorem dX10_mayMany_0 : decode cX10_mayMany 0 = .ok (.iconst 0, 1) := by decide +kernel
theorem dX10_mayMany_1 : decode cX10_mayMany 1 = .ok (.istore_n 3, 1) := by decide +kernel
theorem dX10_mayMany_2 : decode cX10_mayMany 2 = .ok (.iconst 0, 1) := by decide +kernel
theorem dX10_mayMany_3 : decode cX10_mayMany 3 = .ok (.istore 4, 2) := by decide +kernel
theorem dX10_mayMany_5 : decode cX10_mayMany 5 = .ok (.iload 4, 2) := by decide +kernel
theorem dX10_mayMany_7 : decode cX10_mayMany 7 = .ok (.bipush 24, 2) := by decide +kernel
theorem dX10_mayMany_9 : decode cX10_mayMany 9 = .ok (.if_icmp .ge 37, 3) := by decide +kernel
theorem dX10_mayMany_12 : decode cX10_mayMany 12 = .ok (.iload_n 3, 1) := by decide +kernel
theorem dX10_mayMany_13 : decode cX10_mayMany 13 = .ok (.iload 4, 2) := by decide +kernel
theorem dX10_mayMany_15 : decode cX10_mayMany 15 = .ok (.invokestatic 163, 3) := by decide +kernel
theorem dX10_mayMany_18 : decode cX10_mayMany 18 = .ok (.ifCond .eq 19, 3) := by decide +kernel
theorem dX10_mayMany_21 : decode cX10_mayMany 21 = .ok (.aload_n 0, 1) := by decide +kernel
theorem dX10_mayMany_22 : decode cX10_mayMany 22 = .ok (.iload_n 1, 1) := by decide +kernel
theorem dX10_mayMany_23 : decode cX10_mayMany 23 = .ok (.iload_n 2, 1) := by decide +kernel
theorem dX10_mayMany_24 : decode cX10_mayMany 24 = .ok (.iload 4, 2) := by decide +kernel
theorem dX10_mayMany_26 : decode cX10_mayMany 26 = .ok (.invokevirtual 166, 3) := by decide +kernel
theorem dX10_mayMany_29 : decode cX10_mayMany 29 = .ok (.iconst (-1), 1) := by decide +kernel
theorem dX10_mayMany_30 : decode cX10_mayMany 30 = .ok (.if_icmp .eq 7, 3) := by decide +kernel
theorem dX10_mayMany_33 : decode cX10_mayMany 33 = .ok (.iconst 1, 1) := by decide +kernel
theorem dX10_mayMany_34 : decode cX10_mayMany 34 = .ok (.goto 4, 3) := by decide +kernel
theorem dX10_mayMany_37 : decode cX10_mayMany 37 = .ok (.iconst 0, 1) := by decide +kernel
theorem dX10_mayMany_38 : decode cX10_mayMany 38 = .ok (.iadd, 1) := by decide +kernel
theorem dX10_mayMany_39 : decode cX10_mayMany 39 = .ok (.istore_n 3, 1) := by decide +kernel
theorem dX10_mayMany_40 : decode cX10_mayMany 40 = .ok (.iinc 4 1, 3) := by decide +kernel
theorem dX10_mayMany_43 : decode cX10_mayMany 43 = .ok (.goto (-38), 3) := by decide +kernel
theorem dX10_mayMany_46 : decode cX10_mayMany 46 = .ok (.iload_n 3, 1) := by decide +kernel
theorem dX10_mayMany_47 : decode cX10_mayMany 47 = .ok (.ireturn, 1) := by decide +kernel
set_option maxRecDepth 20000 in
theorem ggX10_actBy_X10_isAct : GoodIn wsX10_actBy wsX10_isAct := goodIn_r _ [4, 5, 6, 3, 7] (by decide +kernel) (by decide +kernel)
set_option maxRecDepth 20000 in
theorem gX10_actBy_X10_isAct : GoodIn wsX10_actBy (va_wsS RX10 163 yX10_isAct wsX10_isAct) := goodIn_app (goodIn_of _ (by decide +kernel)) ggX10_actBy_X10_isAct
set_option maxRecDepth 20000 in
theorem ggX10_actBy_X10_behind : GoodIn wsX10_actBy wsX10_behind := goodIn_r _ [11, 12, 13, 14, 3, 15, 16, 17, 18, 19, 20, 21, 22, 23, 24, 25, 26, 27, 28, 29, 30, 31, 32, 33, 34, 35, 36, 37, 38, 39, 40, 41, 42, 43, 44, 45, 46, 47, 48, 49, 50, 51, 52, 53, 54, 55, 56, 57, 58, 59, 60, 61, 62, 63, 64, 65, 66, 67, 68, 69, 70, 71, 72, 73, 74, 75, 76, 77, 78, 79, 80, 81, 82, 83, 84, 85, 86] (by decide +kernel) (by decide +kernel)
set_option maxRecDepth 20000 in
theorem gX10_actBy_X10_behind : GoodIn wsX10_actBy (wsV RX10 166 RX10 yX10_behind wsX10_behind) := goodIn_app (goodIn_of _ (by decide +kernel)) ggX10_actBy_X10_behind
theorem dX10_actBy_0 : decode cX10_actBy 0 = .ok (.iload_n 3, 1) := by decide +kernel
theorem dX10_actBy_1 : decode cX10_actBy 1 = .ok (.istore 4, 2) := by decide +kernel
theorem dX10_actBy_3 : decode cX10_actBy 3 = .ok (.iload_n 2, 1) := by decide +kernel
theorem dX10_actBy_4 : decode cX10_actBy 4 = .ok (.istore 5, 2) := by decide +kernel
theorem dX10_actBy_6 : decode cX10_actBy 6 = .ok (.iconst 0, 1) := by decide +kernel
theorem dX10_actBy_7 : decode cX10_actBy 7 = .ok (.istore 6, 2) := by decide +kernel
theorem dX10_actBy_9 : decode cX10_actBy 9 = .ok (.iload 6, 2) := by decide +kernel
theorem dX10_actBy_11 : decode cX10_actBy 11 = .ok (.bipush 24, 2) := by decide +kernel
theorem dX10_actBy_13 : decode cX10_actBy 13 = .ok (.if_icmp .ge 67, 3) := by decide +kernel
theorem dX10_actBy_16 : decode cX10_actBy 16 = .ok (.iload 6, 2) := by decide +kernel
theorem dX10_actBy_18 : decode cX10_actBy 18 = .ok (.invokestatic 163, 3) := by decide +kernel
theorem dX10_actBy_21 : decode cX10_actBy 21 = .ok (.ifCond .eq 14, 3) := by decide +kernel
theorem dX10_actBy_24 : decode cX10_actBy 24 = .ok (.aload_n 0, 1) := by decide +kernel
theorem dX10_actBy_25 : decode cX10_actBy 25 = .ok (.iload_n 1, 1) := by decide +kernel
theorem dX10_actBy_26 : decode cX10_actBy 26 = .ok (.iload_n 2, 1) := by decide +kernel
theorem dX10_actBy_27 : decode cX10_actBy 27 = .ok (.iload 6, 2) := by decide +kernel
theorem dX10_actBy_29 : decode cX10_actBy 29 = .ok (.invokevirtual 166, 3) := by decide +kernel
theorem dX10_actBy_32 : decode cX10_actBy 32 = .ok (.goto 4, 3) := by decide +kernel
theorem dX10_actBy_35 : decode cX10_actBy 35 = .ok (.iconst (-1), 1) := by decide +kernel
theorem dX10_actBy_36 : decode cX10_actBy 36 = .ok (.istore 7, 2) := by decide +kernel
theorem dX10_actBy_38 : decode cX10_actBy 38 = .ok (.iload 7, 2) := by decide +kernel
theorem dX10_actBy_40 : decode cX10_actBy 40 = .ok (.iconst (-1), 1) := by decide +kernel
theorem dX10_actBy_41 : decode cX10_actBy 41 = .ok (.if_icmp .eq 13, 3) := by decide +kernel
theorem dX10_actBy_44 : decode cX10_actBy 44 = .ok (.iload 4, 2) := by decide +kernel
theorem dX10_actBy_46 : decode cX10_actBy 46 = .ok (.ifCond .ne 8, 3) := by decide +kernel
theorem dX10_actBy_49 : decode cX10_actBy 49 = .ok (.iload 7, 2) := by decide +kernel
theorem dX10_actBy_51 : decode cX10_actBy 51 = .ok (.goto 5, 3) := by decide +kernel
theorem dX10_actBy_54 : decode cX10_actBy 54 = .ok (.iload 5, 2) := by decide +kernel
theorem dX10_actBy_56 : decode cX10_actBy 56 = .ok (.istore 5, 2) := by decide +kernel
theorem dX10_actBy_58 : decode cX10_actBy 58 = .ok (.iload 4, 2) := by decide +kernel
theorem dX10_actBy_60 : decode cX10_actBy 60 = .ok (.iload 7, 2) := by decide +kernel
theorem dX10_actBy_62 : decode cX10_actBy 62 = .ok (.iconst (-1), 1) := by decide +kernel
theorem dX10_actBy_63 : decode cX10_actBy 63 = .ok (.if_icmp .ne 7, 3) := by decide +kernel
theorem dX10_actBy_66 : decode cX10_actBy 66 = .ok (.iconst 0, 1) := by decide +kernel
theorem dX10_actBy_67 : decode cX10_actBy 67 = .ok (.goto 4, 3) := by decide +kernel
theorem dX10_actBy_70 : decode cX10_actBy 70 = .ok (.iconst 1, 1) := by decide +kernel
theorem dX10_actBy_71 : decode cX10_actBy 71 = .ok (.isub, 1) := by decide +kernel
theorem dX10_actBy_72 : decode cX10_actBy 72 = .ok (.istore 4, 2) := by decide +kernel
theorem dX10_actBy_74 : decode cX10_actBy 74 = .ok (.iinc 6 1, 3) := by decide +kernel
theorem dX10_actBy_77 : decode cX10_actBy 77 = .ok (.goto (-68), 3) := by decide +kernel
theorem dX10_actBy_80 : decode cX10_actBy 80 = .ok (.iload 5, 2) := by decide +kernel
theorem dX10_actBy_82 : decode cX10_actBy 82 = .ok (.ireturn, 1) := by decide +kernel
set_option maxRecDepth 20000 in
theorem ggX10_walkNow_X10_mayMany : GoodIn wsX10_walkNow wsX10_mayMany := goodIn_r _ [8, 9, 10, 7, 11, 12, 13, 14, 15, 16, 17, 18, 19, 20, 21, 22, 23, 24, 25, 26, 27, 28, 29, 30, 31, 32, 33, 34, 35, 36, 37, 38, 39, 40, 41, 42, 43, 44, 45, 46, 47, 48, 49, 50, 51, 52, 53, 54, 55, 71, 72, 73, 74, 75, 76, 77, 78, 79, 80, 81, 82, 83, 84, 85, 86, 87, 88, 89, 90, 91, 92, 93, 94, 95, 96, 97, 98, 99, 100, 101, 102, 103, 104, 105, 106, 107, 108] (by decide +kernel) (by decide +kernel)
set_option maxRecDepth 20000 in
theorem gX10_walkNow_X10_mayMany : GoodIn wsX10_walkNow (wsV RX10 226 RX10 yX10_mayMany wsX10_mayMany) := goodIn_app (goodIn_of _ (by decide +kernel)) ggX10_walkNow_X10_mayMany
set_option maxRecDepth 20000 in
theorem ggX10_walkNow_X10_draw : GoodIn wsX10_walkNow wsX10_draw := goodIn_r _ [59, 60, 1, 61, 62, 63, 71, 72, 73, 74, 75, 76, 77, 78, 79, 80, 81, 82, 83, 84, 85, 86, 87, 88, 89, 90, 91, 92, 93, 94, 95, 96, 97, 98, 99, 100, 101, 102, 103, 104, 105, 106, 107, 108] (by decide +kernel) (by decide +kernel)
set_option maxRecDepth 20000 in
theorem gX10_walkNow_X10_draw : GoodIn wsX10_walkNow (wsV RX10 229 RX10 yX10_draw wsX10_draw) := goodIn_app (goodIn_of _ (by decide +kernel)) ggX10_walkNow_X10_draw
set_option maxRecDepth 20000 in
theorem ggX10_walkNow_X10_actBy : GoodIn wsX10_walkNow wsX10_actBy := goodIn_r _ [67, 9, 10, 7, 11, 12, 13, 14, 15, 16, 17, 18, 19, 20, 21, 22, 23, 24, 25, 26, 27, 28, 29, 30, 31, 32, 33, 34, 35, 36, 37, 38, 39, 40, 41, 42, 43, 44, 45, 46, 47, 48, 49, 50, 51, 52, 53, 54, 55, 71, 72, 73, 74, 75, 76, 77, 78, 79, 80, 81, 82, 83, 84, 85, 86, 87, 88, 89, 90, 91, 92, 93, 94, 95, 96, 97, 98, 99, 100, 101, 102, 103, 104, 105, 106, 107, 108] (by decide +kernel) (by decide +kernel)
set_option maxRecDepth 20000 in
theorem gX10_walkNow_X10_actBy : GoodIn wsX10_walkNow (wsV RX10 232 RX10 yX10_actBy wsX10_actBy) := goodIn_app (goodIn_of _ (by decide +kernel)) ggX10_walkNow_X10_actBy
set_option maxRecDepth 20000 in
theorem ggX10_walkNow_X10_townIn : GoodIn wsX10_walkNow wsX10_townIn := goodIn_r _ [22] (by decide +kernel) (by decide +kernel)
set_option maxRecDepth 20000 in
theorem gX10_walkNow_X10_townIn : GoodIn wsX10_walkNow (va_wsS RX10 119 yX10_townIn wsX10_townIn) := goodIn_app (goodIn_of _ (by decide +kernel)) ggX10_walkNow_X10_townIn
set_option maxRecDepth 20000 in
theorem ggX10_walkNow_X10_coinsAll : GoodIn wsX10_walkNow wsX10_coinsAll := goodIn_r _ [70, 34, 35, 7, 36, 37, 38, 39, 40, 41, 42] (by decide +kernel) (by decide +kernel)
set_option maxRecDepth 20000 in
theorem gX10_walkNow_X10_coinsAll : GoodIn wsX10_walkNow (va_wsS RX10 154 yX10_coinsAll wsX10_coinsAll) := goodIn_app (goodIn_of _ (by decide +kernel)) ggX10_walkNow_X10_coinsAll
set_option maxRecDepth 20000 in
theorem ggX10_walkNow_X10_goodsIn : GoodIn wsX10_walkNow wsX10_goodsIn := goodIn_r _ [33] (by decide +kernel) (by decide +kernel)
set_option maxRecDepth 20000 in
theorem gX10_walkNow_X10_goodsIn : GoodIn wsX10_walkNow (va_wsS RX10 141 yX10_goodsIn wsX10_goodsIn) := goodIn_app (goodIn_of _ (by decide +kernel)) ggX10_walkNow_X10_goodsIn
theorem dX10_walkNow_0 : decode cX10_walkNow 0 = .ok (.aload_n 0, 1) := by decide +kernel
theorem dX10_walkNow_1 : decode cX10_walkNow 1 = .ok (.iload_n 3, 1) := by decide +kernel
theorem dX10_walkNow_2 : decode cX10_walkNow 2 = .ok (.i2l, 1) := by decide +kernel
theorem dX10_walkNow_3 : decode cX10_walkNow 3 = .ok (.putfield 216, 3) := by decide +kernel
theorem dX10_walkNow_6 : decode cX10_walkNow 6 = .ok (.aload_n 0, 1) := by decide +kernel
theorem dX10_walkNow_7 : decode cX10_walkNow 7 = .ok (.getfield 25, 3) := by decide +kernel
theorem dX10_walkNow_10 : decode cX10_walkNow 10 = .ok (.iload_n 1, 1) := by decide +kernel
theorem dX10_walkNow_11 : decode cX10_walkNow 11 = .ok (.iaload, 1) := by decide +kernel
theorem dX10_walkNow_12 : decode cX10_walkNow 12 = .ok (.istore 5, 2) := by decide +kernel
theorem dX10_walkNow_14 : decode cX10_walkNow 14 = .ok (.iconst 0, 1) := by decide +kernel
theorem dX10_walkNow_15 : decode cX10_walkNow 15 = .ok (.istore 6, 2) := by decide +kernel
theorem dX10_walkNow_17 : decode cX10_walkNow 17 = .ok (.iload 6, 2) := by decide +kernel
theorem dX10_walkNow_19 : decode cX10_walkNow 19 = .ok (.iload_n 2, 1) := by decide +kernel
theorem dX10_walkNow_20 : decode cX10_walkNow 20 = .ok (.if_icmp .ge 39, 3) := by decide +kernel
theorem dX10_walkNow_23 : decode cX10_walkNow 23 = .ok (.aload_n 0, 1) := by decide +kernel
theorem dX10_walkNow_24 : decode cX10_walkNow 24 = .ok (.aload_n 0, 1) := by decide +kernel
theorem dX10_walkNow_25 : decode cX10_walkNow 25 = .ok (.getfield 22, 3) := by decide +kernel
theorem dX10_walkNow_28 : decode cX10_walkNow 28 = .ok (.iload_n 1, 1) := by decide +kernel
theorem dX10_walkNow_29 : decode cX10_walkNow 29 = .ok (.iaload, 1) := by decide +kernel
theorem dX10_walkNow_30 : decode cX10_walkNow 30 = .ok (.iload 5, 2) := by decide +kernel
theorem dX10_walkNow_32 : decode cX10_walkNow 32 = .ok (.aload_n 0, 1) := by decide +kernel
theorem dX10_walkNow_33 : decode cX10_walkNow 33 = .ok (.aload_n 0, 1) := by decide +kernel
theorem dX10_walkNow_34 : decode cX10_walkNow 34 = .ok (.aload_n 0, 1) := by decide +kernel
theorem dX10_walkNow_35 : decode cX10_walkNow 35 = .ok (.getfield 22, 3) := by decide +kernel
theorem dX10_walkNow_38 : decode cX10_walkNow 38 = .ok (.iload_n 1, 1) := by decide +kernel
theorem dX10_walkNow_39 : decode cX10_walkNow 39 = .ok (.iaload, 1) := by decide +kernel
theorem dX10_walkNow_40 : decode cX10_walkNow 40 = .ok (.iload 5, 2) := by decide +kernel
theorem dX10_walkNow_42 : decode cX10_walkNow 42 = .ok (.invokevirtual 226, 3) := by decide +kernel
theorem dX10_walkNow_45 : decode cX10_walkNow 45 = .ok (.invokevirtual 229, 3) := by decide +kernel
theorem dX10_walkNow_48 : decode cX10_walkNow 48 = .ok (.invokevirtual 232, 3) := by decide +kernel
theorem dX10_walkNow_51 : decode cX10_walkNow 51 = .ok (.istore 5, 2) := by decide +kernel
theorem dX10_walkNow_53 : decode cX10_walkNow 53 = .ok (.iinc 6 1, 3) := by decide +kernel
theorem dX10_walkNow_56 : decode cX10_walkNow 56 = .ok (.goto (-39), 3) := by decide +kernel
theorem dX10_walkNow_59 : decode cX10_walkNow 59 = .ok (.iload 4, 2) := by decide +kernel
theorem dX10_walkNow_61 : decode cX10_walkNow 61 = .ok (.ifCond .ne 11, 3) := by decide +kernel
theorem dX10_walkNow_64 : decode cX10_walkNow 64 = .ok (.iload 5, 2) := by decide +kernel
theorem dX10_walkNow_66 : decode cX10_walkNow 66 = .ok (.invokestatic 119, 3) := by decide +kernel
theorem dX10_walkNow_69 : decode cX10_walkNow 69 = .ok (.goto 36, 3) := by decide +kernel
theorem dX10_walkNow_72 : decode cX10_walkNow 72 = .ok (.iload 4, 2) := by decide +kernel
theorem dX10_walkNow_74 : decode cX10_walkNow 74 = .ok (.iconst 1, 1) := by decide +kernel
theorem dX10_walkNow_75 : decode cX10_walkNow 75 = .ok (.if_icmp .ne 11, 3) := by decide +kernel
theorem dX10_walkNow_78 : decode cX10_walkNow 78 = .ok (.iload 5, 2) := by decide +kernel
theorem dX10_walkNow_80 : decode cX10_walkNow 80 = .ok (.invokestatic 154, 3) := by decide +kernel
theorem dX10_walkNow_83 : decode cX10_walkNow 83 = .ok (.goto 22, 3) := by decide +kernel
theorem dX10_walkNow_86 : decode cX10_walkNow 86 = .ok (.iload 4, 2) := by decide +kernel
theorem dX10_walkNow_88 : decode cX10_walkNow 88 = .ok (.iconst 2, 1) := by decide +kernel
theorem dX10_walkNow_89 : decode cX10_walkNow 89 = .ok (.if_icmp .ne 11, 3) := by decide +kernel
theorem dX10_walkNow_92 : decode cX10_walkNow 92 = .ok (.iload 5, 2) := by decide +kernel
theorem dX10_walkNow_94 : decode cX10_walkNow 94 = .ok (.invokestatic 141, 3) := by decide +kernel
theorem dX10_walkNow_97 : decode cX10_walkNow 97 = .ok (.goto 8, 3) := by decide +kernel
theorem dX10_walkNow_100 : decode cX10_walkNow 100 = .ok (.aload_n 0, 1) := by decide +kernel
theorem dX10_walkNow_101 : decode cX10_walkNow 101 = .ok (.getfield 216, 3) := by decide +kernel
theorem dX10_walkNow_104 : decode cX10_walkNow 104 = .ok (.l2i, 1) := by decide +kernel
theorem dX10_walkNow_105 : decode cX10_walkNow 105 = .ok (.ireturn, 1) := by decide +kernel
set_option maxRecDepth 20000 in
theorem ggX10_walk_X10_isPerson : GoodIn wsX10_walk wsX10_isPerson := goodIn_r _ [5, 6, 7, 8, 4, 9, 80, 81, 82, 83, 84, 85, 86, 87, 88, 89, 90, 91, 92, 93, 94, 95, 96, 97, 98, 99, 100, 101, 102, 103, 104, 105, 106, 107, 108, 109, 110, 111, 112, 113, 114, 115, 116, 117] (by decide +kernel) (by decide +kernel)
set_option maxRecDepth 20000 in
theorem gX10_walk_X10_isPerson : GoodIn wsX10_walk (wsV RX10 157 RX10 yX10_isPerson wsX10_isPerson) := goodIn_app (goodIn_of _ (by decide +kernel)) ggX10_walk_X10_isPerson
set_option maxRecDepth 20000 in
theorem ggX10_walk_X10_within : GoodIn wsX10_walk wsX10_within := goodIn_r _ [9] (by decide +kernel) (by decide +kernel)
set_option maxRecDepth 20000 in
theorem gX10_walk_X10_within : GoodIn wsX10_walk (va_wsS RX10 75 yX10_within wsX10_within) := goodIn_app (goodIn_of _ (by decide +kernel)) ggX10_walk_X10_within
set_option maxRecDepth 20000 in
theorem ggX10_walk_X10_walkNow : GoodIn wsX10_walk wsX10_walkNow := goodIn_r _ [13, 14, 15, 16, 17, 18, 19, 4, 20, 21, 22, 23, 7, 8, 9, 24, 25, 26, 27, 28, 29, 30, 31, 32, 33, 34, 35, 36, 37, 38, 39, 40, 41, 42, 43, 44, 45, 46, 47, 48, 49, 50, 51, 52, 53, 54, 55, 56, 57, 58, 59, 60, 61, 62, 63, 64, 65, 66, 67, 68, 69, 70, 71, 72, 73, 74, 75, 76, 77, 78, 79, 80, 81, 82, 83, 84, 85, 86, 87, 88, 89, 90, 91, 92, 93, 94, 95, 96, 97, 98, 99, 100, 101, 102, 103, 104, 105, 106, 107, 108, 109, 110, 111, 112, 113, 114, 115, 116, 117] (by decide +kernel) (by decide +kernel)
set_option maxRecDepth 20000 in
theorem gX10_walk_X10_walkNow : GoodIn wsX10_walk (wsV RX10 235 RX10 yX10_walkNow wsX10_walkNow) := goodIn_app (goodIn_of _ (by decide +kernel)) ggX10_walk_X10_walkNow
theorem dX10_walk_0 : decode cX10_walk 0 = .ok (.aload_n 0, 1) := by decide +kernel
theorem dX10_walk_1 : decode cX10_walk 1 = .ok (.iload_n 1, 1) := by decide +kernel
theorem dX10_walk_2 : decode cX10_walk 2 = .ok (.invokevirtual 157, 3) := by decide +kernel
theorem dX10_walk_5 : decode cX10_walk 5 = .ok (.ifCond .ne 6, 3) := by decide +kernel
theorem dX10_walk_8 : decode cX10_walk 8 = .ok (.bipush (-101), 2) := by decide +kernel
theorem dX10_walk_10 : decode cX10_walk 10 = .ok (.ireturn, 1) := by decide +kernel
theorem dX10_walk_11 : decode cX10_walk 11 = .ok (.iload_n 2, 1) := by decide +kernel
theorem dX10_walk_12 : decode cX10_walk 12 = .ok (.iconst 1, 1) := by decide +kernel
theorem dX10_walk_13 : decode cX10_walk 13 = .ok (.bipush 60, 2) := by decide +kernel
theorem dX10_walk_15 : decode cX10_walk 15 = .ok (.invokestatic 75, 3) := by decide +kernel
theorem dX10_walk_18 : decode cX10_walk 18 = .ok (.ifCond .eq 17, 3) := by decide +kernel
theorem dX10_walk_21 : decode cX10_walk 21 = .ok (.iload_n 3, 1) := by decide +kernel
theorem dX10_walk_22 : decode cX10_walk 22 = .ok (.ifCond .lt 13, 3) := by decide +kernel
theorem dX10_walk_25 : decode cX10_walk 25 = .ok (.iload 4, 2) := by decide +kernel
theorem dX10_walk_27 : decode cX10_walk 27 = .ok (.iconst 0, 1) := by decide +kernel
theorem dX10_walk_28 : decode cX10_walk 28 = .ok (.iconst 3, 1) := by decide +kernel
theorem dX10_walk_29 : decode cX10_walk 29 = .ok (.invokestatic 75, 3) := by decide +kernel
theorem dX10_walk_32 : decode cX10_walk 32 = .ok (.ifCond .ne 6, 3) := by decide +kernel
theorem dX10_walk_35 : decode cX10_walk 35 = .ok (.bipush (-102), 2) := by decide +kernel
theorem dX10_walk_37 : decode cX10_walk 37 = .ok (.ireturn, 1) := by decide +kernel
theorem dX10_walk_38 : decode cX10_walk 38 = .ok (.aload_n 0, 1) := by decide +kernel
theorem dX10_walk_39 : decode cX10_walk 39 = .ok (.iload_n 1, 1) := by decide +kernel
theorem dX10_walk_40 : decode cX10_walk 40 = .ok (.iload_n 2, 1) := by decide +kernel
theorem dX10_walk_41 : decode cX10_walk 41 = .ok (.iload_n 3, 1) := by decide +kernel
theorem dX10_walk_42 : decode cX10_walk 42 = .ok (.iload 4, 2) := by decide +kernel
theorem dX10_walk_44 : decode cX10_walk 44 = .ok (.invokevirtual 235, 3) := by decide +kernel
theorem dX10_walk_47 : decode cX10_walk 47 = .ok (.ireturn, 1) := by decide +kernel
theorem dX10_image_0 : decode cX10_image 0 = .ok (.aload_n 0, 1) := by decide +kernel
theorem dX10_image_1 : decode cX10_image 1 = .ok (.getfield 104, 3) := by decide +kernel
theorem dX10_image_4 : decode cX10_image 4 = .ok (.ifCond .ne 6, 3) := by decide +kernel
theorem dX10_image_7 : decode cX10_image 7 = .ok (.bipush (-103), 2) := by decide +kernel
theorem dX10_image_9 : decode cX10_image 9 = .ok (.ireturn, 1) := by decide +kernel
theorem dX10_image_10 : decode cX10_image 10 = .ok (.aload_n 0, 1) := by decide +kernel
theorem dX10_image_11 : decode cX10_image 11 = .ok (.iconst 1, 1) := by decide +kernel
theorem dX10_image_12 : decode cX10_image 12 = .ok (.putfield 239, 3) := by decide +kernel
theorem dX10_image_15 : decode cX10_image 15 = .ok (.aload_n 0, 1) := by decide +kernel
theorem dX10_image_16 : decode cX10_image 16 = .ok (.aload_n 0, 1) := by decide +kernel
theorem dX10_image_17 : decode cX10_image 17 = .ok (.getfield 107, 3) := by decide +kernel
theorem dX10_image_20 : decode cX10_image 20 = .ok (.putfield 242, 3) := by decide +kernel
theorem dX10_image_23 : decode cX10_image 23 = .ok (.aload_n 0, 1) := by decide +kernel
theorem dX10_image_24 : decode cX10_image 24 = .ok (.aload_n 0, 1) := by decide +kernel
theorem dX10_image_25 : decode cX10_image 25 = .ok (.getfield 110, 3) := by decide +kernel
theorem dX10_image_28 : decode cX10_image 28 = .ok (.putfield 245, 3) := by decide +kernel
theorem dX10_image_31 : decode cX10_image 31 = .ok (.aload_n 0, 1) := by decide +kernel
theorem dX10_image_32 : decode cX10_image 32 = .ok (.aload_n 0, 1) := by decide +kernel
theorem dX10_image_33 : decode cX10_image 33 = .ok (.getfield 113, 3) := by decide +kernel
theorem dX10_image_36 : decode cX10_image 36 = .ok (.putfield 248, 3) := by decide +kernel
theorem dX10_image_39 : decode cX10_image 39 = .ok (.iconst 0, 1) := by decide +kernel
theorem dX10_image_40 : decode cX10_image 40 = .ok (.istore_n 1, 1) := by decide +kernel
theorem dX10_image_41 : decode cX10_image 41 = .ok (.iload_n 1, 1) := by decide +kernel
theorem dX10_image_42 : decode cX10_image 42 = .ok (.iconst 5, 1) := by decide +kernel
theorem dX10_image_43 : decode cX10_image 43 = .ok (.if_icmp .ge 21, 3) := by decide +kernel
theorem dX10_image_46 : decode cX10_image 46 = .ok (.aload_n 0, 1) := by decide +kernel
theorem dX10_image_47 : decode cX10_image 47 = .ok (.getfield 64, 3) := by decide +kernel
theorem dX10_image_50 : decode cX10_image 50 = .ok (.iload_n 1, 1) := by decide +kernel
theorem dX10_image_51 : decode cX10_image 51 = .ok (.aload_n 0, 1) := by decide +kernel
theorem dX10_image_52 : decode cX10_image 52 = .ok (.getfield 25, 3) := by decide +kernel
theorem dX10_image_55 : decode cX10_image 55 = .ok (.iload_n 1, 1) := by decide +kernel
theorem dX10_image_56 : decode cX10_image 56 = .ok (.iaload, 1) := by decide +kernel
theorem dX10_image_57 : decode cX10_image 57 = .ok (.iastore, 1) := by decide +kernel
theorem dX10_image_58 : decode cX10_image 58 = .ok (.iinc 1 1, 3) := by decide +kernel
theorem dX10_image_61 : decode cX10_image 61 = .ok (.goto (-20), 3) := by decide +kernel
theorem dX10_image_64 : decode cX10_image 64 = .ok (.iconst 0, 1) := by decide +kernel
theorem dX10_image_65 : decode cX10_image 65 = .ok (.istore_n 1, 1) := by decide +kernel
theorem dX10_image_66 : decode cX10_image 66 = .ok (.iload_n 1, 1) := by decide +kernel
theorem dX10_image_67 : decode cX10_image 67 = .ok (.iconst 4, 1) := by decide +kernel
theorem dX10_image_68 : decode cX10_image 68 = .ok (.if_icmp .ge 21, 3) := by decide +kernel
theorem dX10_image_71 : decode cX10_image 71 = .ok (.aload_n 0, 1) := by decide +kernel
theorem dX10_image_72 : decode cX10_image 72 = .ok (.getfield 67, 3) := by decide +kernel
theorem dX10_image_75 : decode cX10_image 75 = .ok (.iload_n 1, 1) := by decide +kernel
theorem dX10_image_76 : decode cX10_image 76 = .ok (.aload_n 0, 1) := by decide +kernel
theorem dX10_image_77 : decode cX10_image 77 = .ok (.getfield 16, 3) := by decide +kernel
theorem dX10_image_80 : decode cX10_image 80 = .ok (.iload_n 1, 1) := by decide +kernel
theorem dX10_image_81 : decode cX10_image 81 = .ok (.iaload, 1) := by decide +kernel
theorem dX10_image_82 : decode cX10_image 82 = .ok (.iastore, 1) := by decide +kernel
theorem dX10_image_83 : decode cX10_image 83 = .ok (.iinc 1 1, 3) := by decide +kernel
theorem dX10_image_86 : decode cX10_image 86 = .ok (.goto (-20), 3) := by decide +kernel
theorem dX10_image_89 : decode cX10_image 89 = .ok (.aload_n 0, 1) := by decide +kernel
theorem dX10_image_90 : decode cX10_image 90 = .ok (.getfield 110, 3) := by decide +kernel
theorem dX10_image_93 : decode cX10_image 93 = .ok (.ireturn, 1) := by decide +kernel
theorem dX10_restore_0 : decode cX10_restore 0 = .ok (.aload_n 0, 1) := by decide +kernel
theorem dX10_restore_1 : decode cX10_restore 1 = .ok (.getfield 239, 3) := by decide +kernel
theorem dX10_restore_4 : decode cX10_restore 4 = .ok (.ifCond .eq 14, 3) := by decide +kernel
theorem dX10_restore_7 : decode cX10_restore 7 = .ok (.aload_n 0, 1) := by decide +kernel
theorem dX10_restore_8 : decode cX10_restore 8 = .ok (.getfield 242, 3) := by decide +kernel
theorem dX10_restore_11 : decode cX10_restore 11 = .ok (.aload_n 0, 1) := by decide +kernel
theorem dX10_restore_12 : decode cX10_restore 12 = .ok (.getfield 107, 3) := by decide +kernel
theorem dX10_restore_15 : decode cX10_restore 15 = .ok (.if_icmp .eq 6, 3) := by decide +kernel
theorem dX10_restore_18 : decode cX10_restore 18 = .ok (.bipush (-103), 2) := by decide +kernel
theorem dX10_restore_20 : decode cX10_restore 20 = .ok (.ireturn, 1) := by decide +kernel
theorem dX10_restore_21 : decode cX10_restore 21 = .ok (.aload_n 0, 1) := by decide +kernel
theorem dX10_restore_22 : decode cX10_restore 22 = .ok (.aload_n 0, 1) := by decide +kernel
theorem dX10_restore_23 : decode cX10_restore 23 = .ok (.getfield 245, 3) := by decide +kernel
theorem dX10_restore_26 : decode cX10_restore 26 = .ok (.putfield 110, 3) := by decide +kernel
theorem dX10_restore_29 : decode cX10_restore 29 = .ok (.aload_n 0, 1) := by decide +kernel
theorem dX10_restore_30 : decode cX10_restore 30 = .ok (.aload_n 0, 1) := by decide +kernel
theorem dX10_restore_31 : decode cX10_restore 31 = .ok (.getfield 248, 3) := by decide +kernel
theorem dX10_restore_34 : decode cX10_restore 34 = .ok (.putfield 113, 3) := by decide +kernel
theorem dX10_restore_37 : decode cX10_restore 37 = .ok (.aload_n 0, 1) := by decide +kernel
theorem dX10_restore_38 : decode cX10_restore 38 = .ok (.iconst (-1), 1) := by decide +kernel
theorem dX10_restore_39 : decode cX10_restore 39 = .ok (.putfield 28, 3) := by decide +kernel
theorem dX10_restore_42 : decode cX10_restore 42 = .ok (.aload_n 0, 1) := by decide +kernel
theorem dX10_restore_43 : decode cX10_restore 43 = .ok (.iconst 0, 1) := by decide +kernel
theorem dX10_restore_44 : decode cX10_restore 44 = .ok (.putfield 116, 3) := by decide +kernel
theorem dX10_restore_47 : decode cX10_restore 47 = .ok (.iconst 0, 1) := by decide +kernel
theorem dX10_restore_48 : decode cX10_restore 48 = .ok (.istore_n 1, 1) := by decide +kernel
theorem dX10_restore_49 : decode cX10_restore 49 = .ok (.iload_n 1, 1) := by decide +kernel
theorem dX10_restore_50 : decode cX10_restore 50 = .ok (.iconst 5, 1) := by decide +kernel
theorem dX10_restore_51 : decode cX10_restore 51 = .ok (.if_icmp .ge 21, 3) := by decide +kernel
theorem dX10_restore_54 : decode cX10_restore 54 = .ok (.aload_n 0, 1) := by decide +kernel
theorem dX10_restore_55 : decode cX10_restore 55 = .ok (.getfield 25, 3) := by decide +kernel
theorem dX10_restore_58 : decode cX10_restore 58 = .ok (.iload_n 1, 1) := by decide +kernel
theorem dX10_restore_59 : decode cX10_restore 59 = .ok (.aload_n 0, 1) := by decide +kernel
theorem dX10_restore_60 : decode cX10_restore 60 = .ok (.getfield 64, 3) := by decide +kernel
theorem dX10_restore_63 : decode cX10_restore 63 = .ok (.iload_n 1, 1) := by decide +kernel
theorem dX10_restore_64 : decode cX10_restore 64 = .ok (.iaload, 1) := by decide +kernel
theorem dX10_restore_65 : decode cX10_restore 65 = .ok (.iastore, 1) := by decide +kernel
theorem dX10_restore_66 : decode cX10_restore 66 = .ok (.iinc 1 1, 3) := by decide +kernel
theorem dX10_restore_69 : decode cX10_restore 69 = .ok (.goto (-20), 3) := by decide +kernel
theorem dX10_restore_72 : decode cX10_restore 72 = .ok (.iconst 0, 1) := by decide +kernel
theorem dX10_restore_73 : decode cX10_restore 73 = .ok (.istore_n 1, 1) := by decide +kernel
theorem dX10_restore_74 : decode cX10_restore 74 = .ok (.iload_n 1, 1) := by decide +kernel
theorem dX10_restore_75 : decode cX10_restore 75 = .ok (.iconst 4, 1) := by decide +kernel
theorem dX10_restore_76 : decode cX10_restore 76 = .ok (.if_icmp .ge 21, 3) := by decide +kernel
theorem dX10_restore_79 : decode cX10_restore 79 = .ok (.aload_n 0, 1) := by decide +kernel
theorem dX10_restore_80 : decode cX10_restore 80 = .ok (.getfield 16, 3) := by decide +kernel
theorem dX10_restore_83 : decode cX10_restore 83 = .ok (.iload_n 1, 1) := by decide +kernel
theorem dX10_restore_84 : decode cX10_restore 84 = .ok (.aload_n 0, 1) := by decide +kernel
theorem dX10_restore_85 : decode cX10_restore 85 = .ok (.getfield 67, 3) := by decide +kernel
theorem dX10_restore_88 : decode cX10_restore 88 = .ok (.iload_n 1, 1) := by decide +kernel
theorem dX10_restore_89 : decode cX10_restore 89 = .ok (.iaload, 1) := by decide +kernel
theorem dX10_restore_90 : decode cX10_restore 90 = .ok (.iastore, 1) := by decide +kernel
theorem dX10_restore_91 : decode cX10_restore 91 = .ok (.iinc 1 1, 3) := by decide +kernel
theorem dX10_restore_94 : decode cX10_restore 94 = .ok (.goto (-20), 3) := by decide +kernel
theorem dX10_restore_97 : decode cX10_restore 97 = .ok (.aload_n 0, 1) := by decide +kernel
theorem dX10_restore_98 : decode cX10_restore 98 = .ok (.getfield 110, 3) := by decide +kernel
theorem dX10_restore_101 : decode cX10_restore 101 = .ok (.ireturn, 1) := by decide +kernel
set_option maxRecDepth 20000 in
theorem ggX10_howMany_X10_coinsAll : GoodIn wsX10_howMany wsX10_coinsAll := goodIn_r _ [11, 12, 13, 10, 14, 15, 16, 17, 18, 19, 20] (by decide +kernel) (by decide +kernel)
set_option maxRecDepth 20000 in
theorem gX10_howMany_X10_coinsAll : GoodIn wsX10_howMany (va_wsS RX10 154 yX10_coinsAll wsX10_coinsAll) := goodIn_app (goodIn_of _ (by decide +kernel)) ggX10_howMany_X10_coinsAll
set_option maxRecDepth 20000 in
theorem ggX10_howMany_X10_goodsIn : GoodIn wsX10_howMany wsX10_goodsIn := goodIn_r _ [23] (by decide +kernel) (by decide +kernel)
set_option maxRecDepth 20000 in
theorem gX10_howMany_X10_goodsIn : GoodIn wsX10_howMany (va_wsS RX10 141 yX10_goodsIn wsX10_goodsIn) := goodIn_app (goodIn_of _ (by decide +kernel)) ggX10_howMany_X10_goodsIn
set_option maxRecDepth 20000 in
theorem ggX10_howMany_X10_size : GoodIn wsX10_howMany wsX10_size := goodIn_r _ [26] (by decide +kernel) (by decide +kernel)
set_option maxRecDepth 20000 in
theorem gX10_howMany_X10_size : GoodIn wsX10_howMany (va_wsS RX10 100 yX10_size wsX10_size) := goodIn_app (goodIn_of _ (by decide +kernel)) ggX10_howMany_X10_size
theorem dX10_howMany_0 : decode cX10_howMany 0 = .ok (.iconst 0, 1) := by decide +kernel
theorem dX10_howMany_1 : decode cX10_howMany 1 = .ok (.istore_n 2, 1) := by decide +kernel
theorem dX10_howMany_2 : decode cX10_howMany 2 = .ok (.iload_n 1, 1) := by decide +kernel
theorem dX10_howMany_3 : decode cX10_howMany 3 = .ok (.tableswitch 138 0 7 #[45, 75, 80, 113, 118, 123, 128, 133], 45) := by decide +kernel
theorem dX10_howMany_48 : decode cX10_howMany 48 = .ok (.iconst 0, 1) := by decide +kernel
theorem dX10_howMany_49 : decode cX10_howMany 49 = .ok (.istore_n 3, 1) := by decide +kernel
theorem dX10_howMany_50 : decode cX10_howMany 50 = .ok (.iload_n 3, 1) := by decide +kernel
theorem dX10_howMany_51 : decode cX10_howMany 51 = .ok (.aload_n 0, 1) := by decide +kernel
theorem dX10_howMany_52 : decode cX10_howMany 52 = .ok (.getfield 110, 3) := by decide +kernel
theorem dX10_howMany_55 : decode cX10_howMany 55 = .ok (.if_icmp .ge 21, 3) := by decide +kernel
theorem dX10_howMany_58 : decode cX10_howMany 58 = .ok (.iload_n 2, 1) := by decide +kernel
theorem dX10_howMany_59 : decode cX10_howMany 59 = .ok (.aload_n 0, 1) := by decide +kernel
theorem dX10_howMany_60 : decode cX10_howMany 60 = .ok (.getfield 25, 3) := by decide +kernel
theorem dX10_howMany_63 : decode cX10_howMany 63 = .ok (.iload_n 3, 1) := by decide +kernel
theorem dX10_howMany_64 : decode cX10_howMany 64 = .ok (.iaload, 1) := by decide +kernel
theorem dX10_howMany_65 : decode cX10_howMany 65 = .ok (.invokestatic 154, 3) := by decide +kernel
theorem dX10_howMany_68 : decode cX10_howMany 68 = .ok (.iadd, 1) := by decide +kernel
theorem dX10_howMany_69 : decode cX10_howMany 69 = .ok (.istore_n 2, 1) := by decide +kernel
theorem dX10_howMany_70 : decode cX10_howMany 70 = .ok (.iinc 3 1, 3) := by decide +kernel
theorem dX10_howMany_73 : decode cX10_howMany 73 = .ok (.goto (-23), 3) := by decide +kernel
theorem dX10_howMany_76 : decode cX10_howMany 76 = .ok (.iload_n 2, 1) := by decide +kernel
theorem dX10_howMany_77 : decode cX10_howMany 77 = .ok (.ireturn, 1) := by decide +kernel
theorem dX10_howMany_78 : decode cX10_howMany 78 = .ok (.aload_n 0, 1) := by decide +kernel
theorem dX10_howMany_79 : decode cX10_howMany 79 = .ok (.getfield 110, 3) := by decide +kernel
theorem dX10_howMany_82 : decode cX10_howMany 82 = .ok (.ireturn, 1) := by decide +kernel
theorem dX10_howMany_83 : decode cX10_howMany 83 = .ok (.iconst 0, 1) := by decide +kernel
theorem dX10_howMany_84 : decode cX10_howMany 84 = .ok (.istore_n 3, 1) := by decide +kernel
theorem dX10_howMany_85 : decode cX10_howMany 85 = .ok (.iload_n 3, 1) := by decide +kernel
theorem dX10_howMany_86 : decode cX10_howMany 86 = .ok (.aload_n 0, 1) := by decide +kernel
theorem dX10_howMany_87 : decode cX10_howMany 87 = .ok (.getfield 110, 3) := by decide +kernel
theorem dX10_howMany_90 : decode cX10_howMany 90 = .ok (.if_icmp .ge 24, 3) := by decide +kernel
theorem dX10_howMany_93 : decode cX10_howMany 93 = .ok (.iload_n 2, 1) := by decide +kernel
theorem dX10_howMany_94 : decode cX10_howMany 94 = .ok (.aload_n 0, 1) := by decide +kernel
theorem dX10_howMany_95 : decode cX10_howMany 95 = .ok (.getfield 25, 3) := by decide +kernel
theorem dX10_howMany_98 : decode cX10_howMany 98 = .ok (.iload_n 3, 1) := by decide +kernel
theorem dX10_howMany_99 : decode cX10_howMany 99 = .ok (.iaload, 1) := by decide +kernel
theorem dX10_howMany_100 : decode cX10_howMany 100 = .ok (.invokestatic 141, 3) := by decide +kernel
theorem dX10_howMany_103 : decode cX10_howMany 103 = .ok (.invokestatic 100, 3) := by decide +kernel
theorem dX10_howMany_106 : decode cX10_howMany 106 = .ok (.iadd, 1) := by decide +kernel
theorem dX10_howMany_107 : decode cX10_howMany 107 = .ok (.istore_n 2, 1) := by decide +kernel
theorem dX10_howMany_108 : decode cX10_howMany 108 = .ok (.iinc 3 1, 3) := by decide +kernel
theorem dX10_howMany_111 : decode cX10_howMany 111 = .ok (.goto (-26), 3) := by decide +kernel
theorem dX10_howMany_114 : decode cX10_howMany 114 = .ok (.iload_n 2, 1) := by decide +kernel
theorem dX10_howMany_115 : decode cX10_howMany 115 = .ok (.ireturn, 1) := by decide +kernel
theorem dX10_howMany_116 : decode cX10_howMany 116 = .ok (.aload_n 0, 1) := by decide +kernel
theorem dX10_howMany_117 : decode cX10_howMany 117 = .ok (.getfield 113, 3) := by decide +kernel
theorem dX10_howMany_120 : decode cX10_howMany 120 = .ok (.ireturn, 1) := by decide +kernel
theorem dX10_howMany_121 : decode cX10_howMany 121 = .ok (.aload_n 0, 1) := by decide +kernel
theorem dX10_howMany_122 : decode cX10_howMany 122 = .ok (.getfield 116, 3) := by decide +kernel
theorem dX10_howMany_125 : decode cX10_howMany 125 = .ok (.ireturn, 1) := by decide +kernel
theorem dX10_howMany_126 : decode cX10_howMany 126 = .ok (.aload_n 0, 1) := by decide +kernel
theorem dX10_howMany_127 : decode cX10_howMany 127 = .ok (.getfield 72, 3) := by decide +kernel
theorem dX10_howMany_130 : decode cX10_howMany 130 = .ok (.ireturn, 1) := by decide +kernel
theorem dX10_howMany_131 : decode cX10_howMany 131 = .ok (.aload_n 0, 1) := by decide +kernel
theorem dX10_howMany_132 : decode cX10_howMany 132 = .ok (.getfield 107, 3) := by decide +kernel
theorem dX10_howMany_135 : decode cX10_howMany 135 = .ok (.ireturn, 1) := by decide +kernel
theorem dX10_howMany_136 : decode cX10_howMany 136 = .ok (.aload_n 0, 1) := by decide +kernel
theorem dX10_howMany_137 : decode cX10_howMany 137 = .ok (.getfield 183, 3) := by decide +kernel
theorem dX10_howMany_140 : decode cX10_howMany 140 = .ok (.ireturn, 1) := by decide +kernel
theorem dX10_howMany_141 : decode cX10_howMany 141 = .ok (.bipush (-102), 2) := by decide +kernel
theorem dX10_howMany_143 : decode cX10_howMany 143 = .ok (.ireturn, 1) := by decide +kernel
set_option maxRecDepth 20000 in
theorem ggX10_count_X10_howMany : GoodIn wsX10_count wsX10_howMany := goodIn_r _ [5, 6, 7, 8, 9, 10, 11, 12, 13, 14, 4, 15, 16, 17, 18, 19, 20, 21, 22, 23, 24, 25, 26, 27, 28, 29, 30, 31, 32, 33, 34, 35, 36, 37, 38, 39, 40, 41, 42, 43, 44, 45, 46, 47, 48, 49, 50, 51, 52, 53, 54, 55, 56, 57, 58, 59, 60, 61, 62, 63, 64, 65, 66, 67, 68] (by decide +kernel) (by decide +kernel)
set_option maxRecDepth 20000 in
theorem gX10_count_X10_howMany : GoodIn wsX10_count (wsV RX10 251 RX10 yX10_howMany wsX10_howMany) := goodIn_app (goodIn_of _ (by decide +kernel)) ggX10_count_X10_howMany
theorem dX10_count_0 : decode cX10_count 0 = .ok (.aload_n 0, 1) := by decide +kernel
theorem dX10_count_1 : decode cX10_count 1 = .ok (.iload_n 1, 1) := by decide +kernel
theorem dX10_count_2 : decode cX10_count 2 = .ok (.invokevirtual 251, 3) := by decide +kernel
theorem dX10_count_5 : decode cX10_count 5 = .ok (.ireturn, 1) := by decide +kernel
theorem dX10_mix_0 : decode cX10_mix 0 = .ok (.aload_n 0, 1) := by decide +kernel
theorem dX10_mix_1 : decode cX10_mix 1 = .ok (.ldc2_w 254, 3) := by decide +kernel
theorem dX10_mix_4 : decode cX10_mix 4 = .ok (.aload_n 0, 1) := by decide +kernel
theorem dX10_mix_5 : decode cX10_mix 5 = .ok (.getfield 256, 3) := by decide +kernel
theorem dX10_mix_8 : decode cX10_mix 8 = .ok (.lmul, 1) := by decide +kernel
theorem dX10_mix_9 : decode cX10_mix 9 = .ok (.lload_n 1, 1) := by decide +kernel
theorem dX10_mix_10 : decode cX10_mix 10 = .ok (.ladd, 1) := by decide +kernel
theorem dX10_mix_11 : decode cX10_mix 11 = .ok (.putfield 256, 3) := by decide +kernel
theorem dX10_mix_14 : decode cX10_mix 14 = .ok (.return_, 1) := by decide +kernel
set_option maxRecDepth 20000 in
theorem ggX10_mixPerson_X10_personNow : GoodIn wsX10_mixPerson wsX10_personNow := goodIn_r _ [7, 2, 1, 8, 9, 6, 10, 11, 12, 13, 14, 15, 16, 17, 18, 19, 20, 21, 22, 23, 24, 25, 26, 27, 28, 29, 30, 31, 32, 33, 34, 35, 72, 73, 74, 75, 76, 77, 78, 79, 80, 81, 82, 83, 84, 85, 86, 87, 88, 89, 90, 91, 92, 93, 94, 95, 96, 97, 98, 99, 100, 101, 102, 103, 104, 105, 106, 107, 108, 109] (by decide +kernel) (by decide +kernel)
set_option maxRecDepth 20000 in
theorem gX10_mixPerson_X10_personNow : GoodIn wsX10_mixPerson (wsV RX10 160 RX10 yX10_personNow wsX10_personNow) := goodIn_app (goodIn_of _ (by decide +kernel)) ggX10_mixPerson_X10_personNow
set_option maxRecDepth 20000 in
theorem ggX10_mixPerson_X10_mix : GoodIn wsX10_mixPerson wsX10_mix := goodIn_r _ [39, 40, 41, 72, 73, 74, 75, 76, 77, 78, 79, 80, 81, 82, 83, 84, 85, 86, 87, 88, 89, 90, 91, 92, 93, 94, 95, 96, 97, 98, 99, 100, 101, 102, 103, 104, 105, 106, 107, 108, 109] (by decide +kernel) (by decide +kernel)
set_option maxRecDepth 20000 in
theorem gX10_mixPerson_X10_mix : GoodIn wsX10_mixPerson (wsV RX10 259 RX10 yX10_mix wsX10_mix) := goodIn_app (goodIn_of _ (by decide +kernel)) ggX10_mixPerson_X10_mix
set_option maxRecDepth 20000 in
theorem ggX10_mixPerson_X10_deadNow : GoodIn wsX10_mixPerson wsX10_deadNow := goodIn_r _ [45, 1, 2, 46, 47, 48, 6, 49, 50, 51, 52, 53, 17, 18, 19, 20, 21, 22, 23, 24, 25, 72, 73, 74, 75, 76, 77, 78, 79, 80, 81, 82, 83, 84, 85, 86, 87, 88, 89, 90, 91, 92, 93, 94, 95, 96, 97, 98, 99, 100, 101, 102, 103, 104, 105, 106, 107, 108, 109] (by decide +kernel) (by decide +kernel)
set_option maxRecDepth 20000 in
theorem gX10_mixPerson_X10_deadNow : GoodIn wsX10_mixPerson (wsV RX10 192 RX10 yX10_deadNow wsX10_deadNow) := goodIn_app (goodIn_of _ (by decide +kernel)) ggX10_mixPerson_X10_deadNow
set_option maxRecDepth 20000 in
theorem ggX10_mixPerson_X10_mayMany : GoodIn wsX10_mixPerson wsX10_mayMany := goodIn_r _ [57, 58, 59, 6, 60, 61, 62, 63, 64, 65, 66, 67, 68, 8, 9, 10, 46, 47, 48, 49, 50, 51, 52, 53, 11, 12, 13, 17, 18, 19, 20, 21, 22, 23, 24, 25, 26, 27, 28, 29, 30, 69, 70, 71, 31, 32, 33, 34, 35, 72, 73, 74, 75, 76, 77, 78, 79, 80, 81, 82, 83, 84, 85, 86, 87, 88, 89, 90, 91, 92, 93, 94, 95, 96, 97, 98, 99, 100, 101, 102, 103, 104, 105, 106, 107, 108, 109] (by decide +kernel) (by decide +kernel)
set_option maxRecDepth 20000 in
theorem gX10_mixPerson_X10_mayMany : GoodIn wsX10_mixPerson (wsV RX10 226 RX10 yX10_mayMany wsX10_mayMany) := goodIn_app (goodIn_of _ (by decide +kernel)) ggX10_mixPerson_X10_mayMany
theorem dX10_mixPerson_0 : decode cX10_mixPerson 0 = .ok (.iconst 0, 1) := by decide +kernel
theorem dX10_mixPerson_1 : decode cX10_mixPerson 1 = .ok (.istore_n 2, 1) := by decide +kernel
theorem dX10_mixPerson_2 : decode cX10_mixPerson 2 = .ok (.iload_n 2, 1) := by decide +kernel
theorem dX10_mixPerson_3 : decode cX10_mixPerson 3 = .ok (.bipush 10, 2) := by decide +kernel
theorem dX10_mixPerson_5 : decode cX10_mixPerson 5 = .ok (.if_icmp .ge 32, 3) := by decide +kernel
theorem dX10_mixPerson_8 : decode cX10_mixPerson 8 = .ok (.aload_n 0, 1) := by decide +kernel
theorem dX10_mixPerson_9 : decode cX10_mixPerson 9 = .ok (.aload_n 0, 1) := by decide +kernel
theorem dX10_mixPerson_10 : decode cX10_mixPerson 10 = .ok (.iload_n 1, 1) := by decide +kernel
theorem dX10_mixPerson_11 : decode cX10_mixPerson 11 = .ok (.iload_n 2, 1) := by decide +kernel
theorem dX10_mixPerson_12 : decode cX10_mixPerson 12 = .ok (.bipush 6, 2) := by decide +kernel
theorem dX10_mixPerson_14 : decode cX10_mixPerson 14 = .ok (.if_icmp .ge 7, 3) := by decide +kernel
theorem dX10_mixPerson_17 : decode cX10_mixPerson 17 = .ok (.iload_n 2, 1) := by decide +kernel
theorem dX10_mixPerson_18 : decode cX10_mixPerson 18 = .ok (.goto 6, 3) := by decide +kernel
theorem dX10_mixPerson_21 : decode cX10_mixPerson 21 = .ok (.iload_n 2, 1) := by decide +kernel
theorem dX10_mixPerson_22 : decode cX10_mixPerson 22 = .ok (.iconst 4, 1) := by decide +kernel
theorem dX10_mixPerson_23 : decode cX10_mixPerson 23 = .ok (.iadd, 1) := by decide +kernel
theorem dX10_mixPerson_24 : decode cX10_mixPerson 24 = .ok (.invokevirtual 160, 3) := by decide +kernel
theorem dX10_mixPerson_27 : decode cX10_mixPerson 27 = .ok (.i2l, 1) := by decide +kernel
theorem dX10_mixPerson_28 : decode cX10_mixPerson 28 = .ok (.invokevirtual 259, 3) := by decide +kernel
theorem dX10_mixPerson_31 : decode cX10_mixPerson 31 = .ok (.iinc 2 1, 3) := by decide +kernel
theorem dX10_mixPerson_34 : decode cX10_mixPerson 34 = .ok (.goto (-32), 3) := by decide +kernel
theorem dX10_mixPerson_37 : decode cX10_mixPerson 37 = .ok (.aload_n 0, 1) := by decide +kernel
theorem dX10_mixPerson_38 : decode cX10_mixPerson 38 = .ok (.aload_n 0, 1) := by decide +kernel
theorem dX10_mixPerson_39 : decode cX10_mixPerson 39 = .ok (.iload_n 1, 1) := by decide +kernel
theorem dX10_mixPerson_40 : decode cX10_mixPerson 40 = .ok (.invokevirtual 192, 3) := by decide +kernel
theorem dX10_mixPerson_43 : decode cX10_mixPerson 43 = .ok (.i2l, 1) := by decide +kernel
theorem dX10_mixPerson_44 : decode cX10_mixPerson 44 = .ok (.invokevirtual 259, 3) := by decide +kernel
theorem dX10_mixPerson_47 : decode cX10_mixPerson 47 = .ok (.aload_n 0, 1) := by decide +kernel
theorem dX10_mixPerson_48 : decode cX10_mixPerson 48 = .ok (.aload_n 0, 1) := by decide +kernel
theorem dX10_mixPerson_49 : decode cX10_mixPerson 49 = .ok (.aload_n 0, 1) := by decide +kernel
theorem dX10_mixPerson_50 : decode cX10_mixPerson 50 = .ok (.getfield 22, 3) := by decide +kernel
theorem dX10_mixPerson_53 : decode cX10_mixPerson 53 = .ok (.iload_n 1, 1) := by decide +kernel
theorem dX10_mixPerson_54 : decode cX10_mixPerson 54 = .ok (.iaload, 1) := by decide +kernel
theorem dX10_mixPerson_55 : decode cX10_mixPerson 55 = .ok (.aload_n 0, 1) := by decide +kernel
theorem dX10_mixPerson_56 : decode cX10_mixPerson 56 = .ok (.getfield 25, 3) := by decide +kernel
theorem dX10_mixPerson_59 : decode cX10_mixPerson 59 = .ok (.iload_n 1, 1) := by decide +kernel
theorem dX10_mixPerson_60 : decode cX10_mixPerson 60 = .ok (.iaload, 1) := by decide +kernel
theorem dX10_mixPerson_61 : decode cX10_mixPerson 61 = .ok (.invokevirtual 226, 3) := by decide +kernel
theorem dX10_mixPerson_64 : decode cX10_mixPerson 64 = .ok (.i2l, 1) := by decide +kernel
theorem dX10_mixPerson_65 : decode cX10_mixPerson 65 = .ok (.invokevirtual 259, 3) := by decide +kernel
theorem dX10_mixPerson_68 : decode cX10_mixPerson 68 = .ok (.return_, 1) := by decide +kernel
set_option maxRecDepth 20000 in
theorem ggX10_digest_X10_townNow : GoodIn wsX10_digest wsX10_townNow := goodIn_r _ [12, 13, 14, 15, 16, 4, 17, 18, 19, 11, 20, 117, 118, 119, 120, 121, 122, 123, 124, 125, 126, 127, 128, 129, 130, 131, 132, 133, 134, 135, 136, 137, 138, 139, 140, 141, 142, 143, 144, 145, 146, 147, 148, 149, 150, 151, 152, 153, 154] (by decide +kernel) (by decide +kernel)
set_option maxRecDepth 20000 in
theorem gX10_digest_X10_townNow : GoodIn wsX10_digest (wsV RX10 126 RX10 yX10_townNow wsX10_townNow) := goodIn_app (goodIn_of _ (by decide +kernel)) ggX10_digest_X10_townNow
set_option maxRecDepth 20000 in
theorem ggX10_digest_X10_mix : GoodIn wsX10_digest wsX10_mix := goodIn_r _ [24, 25, 2, 117, 118, 119, 120, 121, 122, 123, 124, 125, 126, 127, 128, 129, 130, 131, 132, 133, 134, 135, 136, 137, 138, 139, 140, 141, 142, 143, 144, 145, 146, 147, 148, 149, 150, 151, 152, 153, 154] (by decide +kernel) (by decide +kernel)
set_option maxRecDepth 20000 in
theorem gX10_digest_X10_mix : GoodIn wsX10_digest (wsV RX10 259 RX10 yX10_mix wsX10_mix) := goodIn_app (goodIn_of _ (by decide +kernel)) ggX10_digest_X10_mix
set_option maxRecDepth 20000 in
theorem ggX10_digest_X10_mixPerson : GoodIn wsX10_digest wsX10_mixPerson := goodIn_r _ [29, 30, 17, 31, 32, 33, 11, 34, 18, 19, 20, 35, 36, 37, 38, 39, 40, 41, 42, 43, 44, 45, 46, 47, 48, 49, 50, 51, 52, 53, 15, 54, 55, 56, 57, 16, 21, 22, 23, 24, 25, 2, 58, 59, 60, 61, 62, 63, 64, 65, 13, 66, 67, 68, 69, 70, 71, 72, 73, 74, 75, 76, 77, 78, 79, 80, 81, 82, 14, 83, 84, 85, 117, 118, 119, 120, 121, 122, 123, 124, 125, 126, 127, 128, 129, 130, 131, 132, 133, 134, 135, 136, 137, 138, 139, 140, 141, 142, 143, 144, 145, 146, 147, 148, 149, 150, 151, 152, 153, 154] (by decide +kernel) (by decide +kernel)
set_option maxRecDepth 20000 in
theorem gX10_digest_X10_mixPerson : GoodIn wsX10_digest (wsV RX10 265 RX10 yX10_mixPerson wsX10_mixPerson) := goodIn_app (goodIn_of _ (by decide +kernel)) ggX10_digest_X10_mixPerson
set_option maxRecDepth 20000 in
theorem ggX10_digest_X10_waysNow : GoodIn wsX10_digest wsX10_waysNow := goodIn_r _ [89, 90, 91, 92, 93, 11, 94, 95, 96, 97, 18, 19, 20, 35, 36, 37, 44, 45, 46, 98, 99, 100, 101, 102, 30, 5, 73, 74, 75, 76, 77, 78, 79, 80, 81, 82, 14, 62, 63, 64, 65, 13, 66, 67, 68, 41, 42, 43, 47, 48, 49, 50, 51, 52, 53, 15, 83, 84, 85, 54, 55, 56, 57, 16, 117, 118, 119, 120, 121, 122, 123, 124, 125, 126, 127, 128, 129, 130, 131, 132, 133, 134, 135, 136, 137, 138, 139, 140, 141, 142, 143, 144, 145, 146, 147, 148, 149, 150, 151, 152, 153, 154] (by decide +kernel) (by decide +kernel)
set_option maxRecDepth 20000 in
theorem gX10_digest_X10_waysNow : GoodIn wsX10_digest (wsV RX10 207 RX10 yX10_waysNow wsX10_waysNow) := goodIn_app (goodIn_of _ (by decide +kernel)) ggX10_digest_X10_waysNow
set_option maxRecDepth 20000 in
theorem ggX10_digest_X10_endsNow : GoodIn wsX10_digest wsX10_endsNow := goodIn_r _ [106, 90, 91, 92, 93, 11, 94, 95, 96, 97, 18, 19, 20, 35, 36, 37, 44, 45, 46, 98, 99, 100, 101, 102, 30, 5, 73, 74, 75, 76, 77, 78, 79, 80, 81, 82, 14, 62, 63, 64, 65, 13, 66, 67, 68, 41, 42, 43, 47, 48, 49, 50, 51, 52, 53, 15, 83, 84, 85, 54, 55, 56, 57, 16, 117, 118, 119, 120, 121, 122, 123, 124, 125, 126, 127, 128, 129, 130, 131, 132, 133, 134, 135, 136, 137, 138, 139, 140, 141, 142, 143, 144, 145, 146, 147, 148, 149, 150, 151, 152, 153, 154] (by decide +kernel) (by decide +kernel)
set_option maxRecDepth 20000 in
theorem gX10_digest_X10_endsNow : GoodIn wsX10_digest (wsV RX10 211 RX10 yX10_endsNow wsX10_endsNow) := goodIn_app (goodIn_of _ (by decide +kernel)) ggX10_digest_X10_endsNow
set_option maxRecDepth 20000 in
theorem ggX10_digest_X10_howMany : GoodIn wsX10_digest wsX10_howMany := goodIn_r _ [110, 4, 17, 111, 96, 6, 112, 113, 38, 39, 11, 40, 41, 42, 43, 44, 45, 46, 47, 48, 49, 35, 36, 37, 114, 115, 116, 117, 118, 119, 120, 121, 122, 123, 124, 125, 126, 127, 128, 129, 130, 131, 132, 133, 134, 135, 136, 137, 138, 139, 140, 141, 142, 143, 144, 145, 146, 147, 148, 149, 150, 151, 152, 153, 154] (by decide +kernel) (by decide +kernel)
set_option maxRecDepth 20000 in
theorem gX10_digest_X10_howMany : GoodIn wsX10_digest (wsV RX10 251 RX10 yX10_howMany wsX10_howMany) := goodIn_app (goodIn_of _ (by decide +kernel)) ggX10_digest_X10_howMany
theorem dX10_digest_0 : decode cX10_digest 0 = .ok (.aload_n 0, 1) := by decide +kernel
theorem dX10_digest_1 : decode cX10_digest 1 = .ok (.ldc2_w 263, 3) := by decide +kernel
theorem dX10_digest_4 : decode cX10_digest 4 = .ok (.putfield 256, 3) := by decide +kernel
theorem dX10_digest_7 : decode cX10_digest 7 = .ok (.iconst 0, 1) := by decide +kernel
theorem dX10_digest_8 : decode cX10_digest 8 = .ok (.istore_n 1, 1) := by decide +kernel
theorem dX10_digest_9 : decode cX10_digest 9 = .ok (.iload_n 1, 1) := by decide +kernel
theorem dX10_digest_10 : decode cX10_digest 10 = .ok (.iconst 4, 1) := by decide +kernel
theorem dX10_digest_11 : decode cX10_digest 11 = .ok (.if_icmp .ge 40, 3) := by decide +kernel
theorem dX10_digest_14 : decode cX10_digest 14 = .ok (.aload_n 0, 1) := by decide +kernel
theorem dX10_digest_15 : decode cX10_digest 15 = .ok (.getfield 104, 3) := by decide +kernel
theorem dX10_digest_18 : decode cX10_digest 18 = .ok (.ifCond .eq 33, 3) := by decide +kernel
theorem dX10_digest_21 : decode cX10_digest 21 = .ok (.iconst 0, 1) := by decide +kernel
theorem dX10_digest_22 : decode cX10_digest 22 = .ok (.istore_n 2, 1) := by decide +kernel
theorem dX10_digest_23 : decode cX10_digest 23 = .ok (.iload_n 2, 1) := by decide +kernel
theorem dX10_digest_24 : decode cX10_digest 24 = .ok (.iconst 5, 1) := by decide +kernel
theorem dX10_digest_25 : decode cX10_digest 25 = .ok (.if_icmp .ge 20, 3) := by decide +kernel
theorem dX10_digest_28 : decode cX10_digest 28 = .ok (.aload_n 0, 1) := by decide +kernel
theorem dX10_digest_29 : decode cX10_digest 29 = .ok (.aload_n 0, 1) := by decide +kernel
theorem dX10_digest_30 : decode cX10_digest 30 = .ok (.iload_n 1, 1) := by decide +kernel
theorem dX10_digest_31 : decode cX10_digest 31 = .ok (.iload_n 2, 1) := by decide +kernel
theorem dX10_digest_32 : decode cX10_digest 32 = .ok (.invokevirtual 126, 3) := by decide +kernel
theorem dX10_digest_35 : decode cX10_digest 35 = .ok (.i2l, 1) := by decide +kernel
theorem dX10_digest_36 : decode cX10_digest 36 = .ok (.invokevirtual 259, 3) := by decide +kernel
theorem dX10_digest_39 : decode cX10_digest 39 = .ok (.iinc 2 1, 3) := by decide +kernel
theorem dX10_digest_42 : decode cX10_digest 42 = .ok (.goto (-19), 3) := by decide +kernel
theorem dX10_digest_45 : decode cX10_digest 45 = .ok (.iinc 1 1, 3) := by decide +kernel
theorem dX10_digest_48 : decode cX10_digest 48 = .ok (.goto (-39), 3) := by decide +kernel
theorem dX10_digest_51 : decode cX10_digest 51 = .ok (.iconst 0, 1) := by decide +kernel
theorem dX10_digest_52 : decode cX10_digest 52 = .ok (.istore_n 1, 1) := by decide +kernel
theorem dX10_digest_53 : decode cX10_digest 53 = .ok (.iload_n 1, 1) := by decide +kernel
theorem dX10_digest_54 : decode cX10_digest 54 = .ok (.aload_n 0, 1) := by decide +kernel
theorem dX10_digest_55 : decode cX10_digest 55 = .ok (.getfield 110, 3) := by decide +kernel
theorem dX10_digest_58 : decode cX10_digest 58 = .ok (.if_icmp .ge 14, 3) := by decide +kernel
theorem dX10_digest_61 : decode cX10_digest 61 = .ok (.aload_n 0, 1) := by decide +kernel
theorem dX10_digest_62 : decode cX10_digest 62 = .ok (.iload_n 1, 1) := by decide +kernel
theorem dX10_digest_63 : decode cX10_digest 63 = .ok (.invokevirtual 265, 3) := by decide +kernel
theorem dX10_digest_66 : decode cX10_digest 66 = .ok (.iinc 1 1, 3) := by decide +kernel
theorem dX10_digest_69 : decode cX10_digest 69 = .ok (.goto (-16), 3) := by decide +kernel
theorem dX10_digest_72 : decode cX10_digest 72 = .ok (.aload_n 0, 1) := by decide +kernel
theorem dX10_digest_73 : decode cX10_digest 73 = .ok (.getfield 28, 3) := by decide +kernel
theorem dX10_digest_76 : decode cX10_digest 76 = .ok (.iconst (-1), 1) := by decide +kernel
theorem dX10_digest_77 : decode cX10_digest 77 = .ok (.if_icmp .eq 21, 3) := by decide +kernel
theorem dX10_digest_80 : decode cX10_digest 80 = .ok (.aload_n 0, 1) := by decide +kernel
theorem dX10_digest_81 : decode cX10_digest 81 = .ok (.aload_n 0, 1) := by decide +kernel
theorem dX10_digest_82 : decode cX10_digest 82 = .ok (.invokevirtual 207, 3) := by decide +kernel
theorem dX10_digest_85 : decode cX10_digest 85 = .ok (.i2l, 1) := by decide +kernel
theorem dX10_digest_86 : decode cX10_digest 86 = .ok (.invokevirtual 259, 3) := by decide +kernel
theorem dX10_digest_89 : decode cX10_digest 89 = .ok (.aload_n 0, 1) := by decide +kernel
theorem dX10_digest_90 : decode cX10_digest 90 = .ok (.aload_n 0, 1) := by decide +kernel
theorem dX10_digest_91 : decode cX10_digest 91 = .ok (.invokevirtual 211, 3) := by decide +kernel
theorem dX10_digest_94 : decode cX10_digest 94 = .ok (.i2l, 1) := by decide +kernel
theorem dX10_digest_95 : decode cX10_digest 95 = .ok (.invokevirtual 259, 3) := by decide +kernel
theorem dX10_digest_98 : decode cX10_digest 98 = .ok (.iconst 0, 1) := by decide +kernel
theorem dX10_digest_99 : decode cX10_digest 99 = .ok (.istore_n 1, 1) := by decide +kernel
theorem dX10_digest_100 : decode cX10_digest 100 = .ok (.iload_n 1, 1) := by decide +kernel
theorem dX10_digest_101 : decode cX10_digest 101 = .ok (.aload_n 0, 1) := by decide +kernel
theorem dX10_digest_102 : decode cX10_digest 102 = .ok (.getfield 72, 3) := by decide +kernel
theorem dX10_digest_105 : decode cX10_digest 105 = .ok (.if_icmp .ge 20, 3) := by decide +kernel
theorem dX10_digest_108 : decode cX10_digest 108 = .ok (.aload_n 0, 1) := by decide +kernel
theorem dX10_digest_109 : decode cX10_digest 109 = .ok (.aload_n 0, 1) := by decide +kernel
theorem dX10_digest_110 : decode cX10_digest 110 = .ok (.getfield 35, 3) := by decide +kernel
theorem dX10_digest_113 : decode cX10_digest 113 = .ok (.iload_n 1, 1) := by decide +kernel
theorem dX10_digest_114 : decode cX10_digest 114 = .ok (.baload, 1) := by decide +kernel
theorem dX10_digest_115 : decode cX10_digest 115 = .ok (.i2l, 1) := by decide +kernel
theorem dX10_digest_116 : decode cX10_digest 116 = .ok (.invokevirtual 259, 3) := by decide +kernel
theorem dX10_digest_119 : decode cX10_digest 119 = .ok (.iinc 1 1, 3) := by decide +kernel
theorem dX10_digest_122 : decode cX10_digest 122 = .ok (.goto (-22), 3) := by decide +kernel
theorem dX10_digest_125 : decode cX10_digest 125 = .ok (.iconst 0, 1) := by decide +kernel
theorem dX10_digest_126 : decode cX10_digest 126 = .ok (.istore_n 1, 1) := by decide +kernel
theorem dX10_digest_127 : decode cX10_digest 127 = .ok (.iload_n 1, 1) := by decide +kernel
theorem dX10_digest_128 : decode cX10_digest 128 = .ok (.bipush 8, 2) := by decide +kernel
theorem dX10_digest_130 : decode cX10_digest 130 = .ok (.if_icmp .ge 19, 3) := by decide +kernel
theorem dX10_digest_133 : decode cX10_digest 133 = .ok (.aload_n 0, 1) := by decide +kernel
theorem dX10_digest_134 : decode cX10_digest 134 = .ok (.aload_n 0, 1) := by decide +kernel
theorem dX10_digest_135 : decode cX10_digest 135 = .ok (.iload_n 1, 1) := by decide +kernel
theorem dX10_digest_136 : decode cX10_digest 136 = .ok (.invokevirtual 251, 3) := by decide +kernel
theorem dX10_digest_139 : decode cX10_digest 139 = .ok (.i2l, 1) := by decide +kernel
theorem dX10_digest_140 : decode cX10_digest 140 = .ok (.invokevirtual 259, 3) := by decide +kernel
theorem dX10_digest_143 : decode cX10_digest 143 = .ok (.iinc 1 1, 3) := by decide +kernel
theorem dX10_digest_146 : decode cX10_digest 146 = .ok (.goto (-19), 3) := by decide +kernel
theorem dX10_digest_149 : decode cX10_digest 149 = .ok (.aload_n 0, 1) := by decide +kernel
theorem dX10_digest_150 : decode cX10_digest 150 = .ok (.getfield 256, 3) := by decide +kernel
theorem dX10_digest_153 : decode cX10_digest 153 = .ok (.lreturn, 1) := by decide +kernel
theorem dJ6_bitCount_0f7a4_0 : decode cJ6_bitCount_0f7a4 0 = .ok (.iload_n 0, 1) := by decide +kernel
theorem dJ6_bitCount_0f7a4_1 : decode cJ6_bitCount_0f7a4 1 = .ok (.iload_n 0, 1) := by decide +kernel
theorem dJ6_bitCount_0f7a4_2 : decode cJ6_bitCount_0f7a4 2 = .ok (.iconst 1, 1) := by decide +kernel
theorem dJ6_bitCount_0f7a4_3 : decode cJ6_bitCount_0f7a4 3 = .ok (.iushr, 1) := by decide +kernel
theorem dJ6_bitCount_0f7a4_4 : decode cJ6_bitCount_0f7a4 4 = .ok (.ldc_w 265, 3) := by decide +kernel
theorem dJ6_bitCount_0f7a4_7 : decode cJ6_bitCount_0f7a4 7 = .ok (.iand, 1) := by decide +kernel
theorem dJ6_bitCount_0f7a4_8 : decode cJ6_bitCount_0f7a4 8 = .ok (.isub, 1) := by decide +kernel
theorem dJ6_bitCount_0f7a4_9 : decode cJ6_bitCount_0f7a4 9 = .ok (.istore_n 0, 1) := by decide +kernel
theorem dJ6_bitCount_0f7a4_10 : decode cJ6_bitCount_0f7a4 10 = .ok (.iload_n 0, 1) := by decide +kernel
theorem dJ6_bitCount_0f7a4_11 : decode cJ6_bitCount_0f7a4 11 = .ok (.ldc_w 266, 3) := by decide +kernel
theorem dJ6_bitCount_0f7a4_14 : decode cJ6_bitCount_0f7a4 14 = .ok (.iand, 1) := by decide +kernel
theorem dJ6_bitCount_0f7a4_15 : decode cJ6_bitCount_0f7a4 15 = .ok (.iload_n 0, 1) := by decide +kernel
theorem dJ6_bitCount_0f7a4_16 : decode cJ6_bitCount_0f7a4 16 = .ok (.iconst 2, 1) := by decide +kernel
theorem dJ6_bitCount_0f7a4_17 : decode cJ6_bitCount_0f7a4 17 = .ok (.iushr, 1) := by decide +kernel
theorem dJ6_bitCount_0f7a4_18 : decode cJ6_bitCount_0f7a4 18 = .ok (.ldc_w 266, 3) := by decide +kernel
theorem dJ6_bitCount_0f7a4_21 : decode cJ6_bitCount_0f7a4 21 = .ok (.iand, 1) := by decide +kernel
theorem dJ6_bitCount_0f7a4_22 : decode cJ6_bitCount_0f7a4 22 = .ok (.iadd, 1) := by decide +kernel
theorem dJ6_bitCount_0f7a4_23 : decode cJ6_bitCount_0f7a4 23 = .ok (.istore_n 0, 1) := by decide +kernel
theorem dJ6_bitCount_0f7a4_24 : decode cJ6_bitCount_0f7a4 24 = .ok (.iload_n 0, 1) := by decide +kernel
theorem dJ6_bitCount_0f7a4_25 : decode cJ6_bitCount_0f7a4 25 = .ok (.iload_n 0, 1) := by decide +kernel
theorem dJ6_bitCount_0f7a4_26 : decode cJ6_bitCount_0f7a4 26 = .ok (.iconst 4, 1) := by decide +kernel
theorem dJ6_bitCount_0f7a4_27 : decode cJ6_bitCount_0f7a4 27 = .ok (.iushr, 1) := by decide +kernel
theorem dJ6_bitCount_0f7a4_28 : decode cJ6_bitCount_0f7a4 28 = .ok (.iadd, 1) := by decide +kernel
theorem dJ6_bitCount_0f7a4_29 : decode cJ6_bitCount_0f7a4 29 = .ok (.ldc_w 267, 3) := by decide +kernel
theorem dJ6_bitCount_0f7a4_32 : decode cJ6_bitCount_0f7a4 32 = .ok (.iand, 1) := by decide +kernel
theorem dJ6_bitCount_0f7a4_33 : decode cJ6_bitCount_0f7a4 33 = .ok (.istore_n 0, 1) := by decide +kernel
theorem dJ6_bitCount_0f7a4_34 : decode cJ6_bitCount_0f7a4 34 = .ok (.iload_n 0, 1) := by decide +kernel
theorem dJ6_bitCount_0f7a4_35 : decode cJ6_bitCount_0f7a4 35 = .ok (.iload_n 0, 1) := by decide +kernel
theorem dJ6_bitCount_0f7a4_36 : decode cJ6_bitCount_0f7a4 36 = .ok (.bipush 8, 2) := by decide +kernel
theorem dJ6_bitCount_0f7a4_38 : decode cJ6_bitCount_0f7a4 38 = .ok (.iushr, 1) := by decide +kernel
theorem dJ6_bitCount_0f7a4_39 : decode cJ6_bitCount_0f7a4 39 = .ok (.iadd, 1) := by decide +kernel
theorem dJ6_bitCount_0f7a4_40 : decode cJ6_bitCount_0f7a4 40 = .ok (.istore_n 0, 1) := by decide +kernel
theorem dJ6_bitCount_0f7a4_41 : decode cJ6_bitCount_0f7a4 41 = .ok (.iload_n 0, 1) := by decide +kernel
theorem dJ6_bitCount_0f7a4_42 : decode cJ6_bitCount_0f7a4 42 = .ok (.iload_n 0, 1) := by decide +kernel
theorem dJ6_bitCount_0f7a4_43 : decode cJ6_bitCount_0f7a4 43 = .ok (.bipush 16, 2) := by decide +kernel
theorem dJ6_bitCount_0f7a4_45 : decode cJ6_bitCount_0f7a4 45 = .ok (.iushr, 1) := by decide +kernel
theorem dJ6_bitCount_0f7a4_46 : decode cJ6_bitCount_0f7a4 46 = .ok (.iadd, 1) := by decide +kernel
theorem dJ6_bitCount_0f7a4_47 : decode cJ6_bitCount_0f7a4 47 = .ok (.istore_n 0, 1) := by decide +kernel
theorem dJ6_bitCount_0f7a4_48 : decode cJ6_bitCount_0f7a4 48 = .ok (.iload_n 0, 1) := by decide +kernel
theorem dJ6_bitCount_0f7a4_49 : decode cJ6_bitCount_0f7a4 49 = .ok (.bipush 63, 2) := by decide +kernel
theorem dJ6_bitCount_0f7a4_51 : decode cJ6_bitCount_0f7a4 51 = .ok (.iand, 1) := by decide +kernel
theorem dJ6_bitCount_0f7a4_52 : decode cJ6_bitCount_0f7a4 52 = .ok (.ireturn, 1) := by decide +kernel
theorem dJ9_max_7cf53_0 : decode cJ9_max_7cf53 0 = .ok (.iload_n 0, 1) := by decide +kernel
theorem dJ9_max_7cf53_1 : decode cJ9_max_7cf53 1 = .ok (.iload_n 1, 1) := by decide +kernel
theorem dJ9_max_7cf53_2 : decode cJ9_max_7cf53 2 = .ok (.if_icmp .lt 7, 3) := by decide +kernel
theorem dJ9_max_7cf53_5 : decode cJ9_max_7cf53 5 = .ok (.iload_n 0, 1) := by decide +kernel
theorem dJ9_max_7cf53_6 : decode cJ9_max_7cf53 6 = .ok (.goto 4, 3) := by decide +kernel
theorem dJ9_max_7cf53_9 : decode cJ9_max_7cf53 9 = .ok (.iload_n 1, 1) := by decide +kernel
theorem dJ9_max_7cf53_10 : decode cJ9_max_7cf53 10 = .ok (.ireturn, 1) := by decide +kernel
theorem dJ7_fill_53178_0 : decode cJ7_fill_53178 0 = .ok (.iconst 0, 1) := by decide +kernel
theorem dJ7_fill_53178_1 : decode cJ7_fill_53178 1 = .ok (.istore_n 2, 1) := by decide +kernel
theorem dJ7_fill_53178_2 : decode cJ7_fill_53178 2 = .ok (.aload_n 0, 1) := by decide +kernel
theorem dJ7_fill_53178_3 : decode cJ7_fill_53178 3 = .ok (.arraylength, 1) := by decide +kernel
theorem dJ7_fill_53178_4 : decode cJ7_fill_53178 4 = .ok (.istore_n 3, 1) := by decide +kernel
theorem dJ7_fill_53178_5 : decode cJ7_fill_53178 5 = .ok (.iload_n 2, 1) := by decide +kernel
theorem dJ7_fill_53178_6 : decode cJ7_fill_53178 6 = .ok (.iload_n 3, 1) := by decide +kernel
theorem dJ7_fill_53178_7 : decode cJ7_fill_53178 7 = .ok (.if_icmp .ge 13, 3) := by decide +kernel
theorem dJ7_fill_53178_10 : decode cJ7_fill_53178 10 = .ok (.aload_n 0, 1) := by decide +kernel
theorem dJ7_fill_53178_11 : decode cJ7_fill_53178 11 = .ok (.iload_n 2, 1) := by decide +kernel
theorem dJ7_fill_53178_12 : decode cJ7_fill_53178 12 = .ok (.iload_n 1, 1) := by decide +kernel
theorem dJ7_fill_53178_13 : decode cJ7_fill_53178 13 = .ok (.iastore, 1) := by decide +kernel
theorem dJ7_fill_53178_14 : decode cJ7_fill_53178 14 = .ok (.iinc 2 1, 3) := by decide +kernel
theorem dJ7_fill_53178_17 : decode cJ7_fill_53178 17 = .ok (.goto (-12), 3) := by decide +kernel
theorem dJ7_fill_53178_20 : decode cJ7_fill_53178 20 = .ok (.return_, 1) := by decide +kernel
