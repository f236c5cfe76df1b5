theorem dX10_init_0 : decode cX10_init 0 = .ok (.aload_n 0, 1) := by decide +kernel
theorem dX10_init_1 : decode cX10_init 1 = .ok (.invokespecial 1, 3) := by decide +kernel
theorem dX10_init_4 : decode cX10_init 4 = .ok (.aload_n 0, 1) := by decide +kernel
theorem dX10_init_5 : decode cX10_init 5 = .ok (.iconst 4, 1) := by decide +kernel
theorem dX10_init_6 : decode cX10_init 6 = .ok (.newarray .int, 2) := by decide +kernel
theorem dX10_init_8 : decode cX10_init 8 = .ok (.putfield 7, 3) := by decide +kernel
theorem dX10_init_11 : decode cX10_init 11 = .ok (.aload_n 0, 1) := by decide +kernel
theorem dX10_init_12 : decode cX10_init 12 = .ok (.iconst 4, 1) := by decide +kernel
theorem dX10_init_13 : decode cX10_init 13 = .ok (.newarray .int, 2) := by decide +kernel
theorem dX10_init_15 : decode cX10_init 15 = .ok (.putfield 13, 3) := by decide +kernel
theorem dX10_init_18 : decode cX10_init 18 = .ok (.aload_n 0, 1) := by decide +kernel
theorem dX10_init_19 : decode cX10_init 19 = .ok (.iconst 4, 1) := by decide +kernel
theorem dX10_init_20 : decode cX10_init 20 = .ok (.newarray .int, 2) := by decide +kernel
theorem dX10_init_22 : decode cX10_init 22 = .ok (.putfield 16, 3) := by decide +kernel
theorem dX10_init_25 : decode cX10_init 25 = .ok (.aload_n 0, 1) := by decide +kernel
theorem dX10_init_26 : decode cX10_init 26 = .ok (.iconst 4, 1) := by decide +kernel
theorem dX10_init_27 : decode cX10_init 27 = .ok (.newarray .int, 2) := by decide +kernel
theorem dX10_init_29 : decode cX10_init 29 = .ok (.putfield 19, 3) := by decide +kernel
theorem dX10_init_32 : decode cX10_init 32 = .ok (.aload_n 0, 1) := by decide +kernel
theorem dX10_init_33 : decode cX10_init 33 = .ok (.iconst 5, 1) := by decide +kernel
theorem dX10_init_34 : decode cX10_init 34 = .ok (.newarray .int, 2) := by decide +kernel
theorem dX10_init_36 : decode cX10_init 36 = .ok (.putfield 22, 3) := by decide +kernel
theorem dX10_init_39 : decode cX10_init 39 = .ok (.aload_n 0, 1) := by decide +kernel
theorem dX10_init_40 : decode cX10_init 40 = .ok (.iconst 5, 1) := by decide +kernel
theorem dX10_init_41 : decode cX10_init 41 = .ok (.newarray .int, 2) := by decide +kernel
theorem dX10_init_43 : decode cX10_init 43 = .ok (.putfield 25, 3) := by decide +kernel
theorem dX10_init_46 : decode cX10_init 46 = .ok (.aload_n 0, 1) := by decide +kernel
theorem dX10_init_47 : decode cX10_init 47 = .ok (.iconst (-1), 1) := by decide +kernel
theorem dX10_init_48 : decode cX10_init 48 = .ok (.putfield 28, 3) := by decide +kernel
theorem dX10_init_51 : decode cX10_init 51 = .ok (.aload_n 0, 1) := by decide +kernel
theorem dX10_init_52 : decode cX10_init 52 = .ok (.iconst 5, 1) := by decide +kernel
theorem dX10_init_53 : decode cX10_init 53 = .ok (.newarray .int, 2) := by decide +kernel
theorem dX10_init_55 : decode cX10_init 55 = .ok (.putfield 32, 3) := by decide +kernel
theorem dX10_init_58 : decode cX10_init 58 = .ok (.aload_n 0, 1) := by decide +kernel
theorem dX10_init_59 : decode cX10_init 59 = .ok (.bipush 32, 2) := by decide +kernel
theorem dX10_init_61 : decode cX10_init 61 = .ok (.newarray .byte, 2) := by decide +kernel
theorem dX10_init_63 : decode cX10_init 63 = .ok (.putfield 35, 3) := by decide +kernel
theorem dX10_init_66 : decode cX10_init 66 = .ok (.aload_n 0, 1) := by decide +kernel
theorem dX10_init_67 : decode cX10_init 67 = .ok (.iconst 4, 1) := by decide +kernel
theorem dX10_init_68 : decode cX10_init 68 = .ok (.newarray .int, 2) := by decide +kernel
theorem dX10_init_70 : decode cX10_init 70 = .ok (.putfield 39, 3) := by decide +kernel
theorem dX10_init_73 : decode cX10_init 73 = .ok (.aload_n 0, 1) := by decide +kernel
theorem dX10_init_74 : decode cX10_init 74 = .ok (.iconst 4, 1) := by decide +kernel
theorem dX10_init_75 : decode cX10_init 75 = .ok (.newarray .int, 2) := by decide +kernel
theorem dX10_init_77 : decode cX10_init 77 = .ok (.putfield 42, 3) := by decide +kernel
theorem dX10_init_80 : decode cX10_init 80 = .ok (.aload_n 0, 1) := by decide +kernel
theorem dX10_init_81 : decode cX10_init 81 = .ok (.iconst 4, 1) := by decide +kernel
theorem dX10_init_82 : decode cX10_init 82 = .ok (.newarray .int, 2) := by decide +kernel
theorem dX10_init_84 : decode cX10_init 84 = .ok (.putfield 45, 3) := by decide +kernel
theorem dX10_init_87 : decode cX10_init 87 = .ok (.aload_n 0, 1) := by decide +kernel
theorem dX10_init_88 : decode cX10_init 88 = .ok (.iconst 4, 1) := by decide +kernel
theorem dX10_init_89 : decode cX10_init 89 = .ok (.newarray .int, 2) := by decide +kernel
theorem dX10_init_91 : decode cX10_init 91 = .ok (.putfield 48, 3) := by decide +kernel
theorem dX10_init_94 : decode cX10_init 94 = .ok (.aload_n 0, 1) := by decide +kernel
theorem dX10_init_95 : decode cX10_init 95 = .ok (.ldc 51, 2) := by decide +kernel
theorem dX10_init_97 : decode cX10_init 97 = .ok (.newarray .byte, 2) := by decide +kernel
theorem dX10_init_99 : decode cX10_init 99 = .ok (.putfield 52, 3) := by decide +kernel
theorem dX10_init_102 : decode cX10_init 102 = .ok (.aload_n 0, 1) := by decide +kernel
theorem dX10_init_103 : decode cX10_init 103 = .ok (.ldc 51, 2) := by decide +kernel
theorem dX10_init_105 : decode cX10_init 105 = .ok (.newarray .int, 2) := by decide +kernel
theorem dX10_init_107 : decode cX10_init 107 = .ok (.putfield 55, 3) := by decide +kernel
theorem dX10_init_110 : decode cX10_init 110 = .ok (.aload_n 0, 1) := by decide +kernel
theorem dX10_init_111 : decode cX10_init 111 = .ok (.bipush 64, 2) := by decide +kernel
theorem dX10_init_113 : decode cX10_init 113 = .ok (.newarray .int, 2) := by decide +kernel
theorem dX10_init_115 : decode cX10_init 115 = .ok (.putfield 58, 3) := by decide +kernel
theorem dX10_init_118 : decode cX10_init 118 = .ok (.aload_n 0, 1) := by decide +kernel
theorem dX10_init_119 : decode cX10_init 119 = .ok (.bipush 64, 2) := by decide +kernel
theorem dX10_init_121 : decode cX10_init 121 = .ok (.newarray .int, 2) := by decide +kernel
theorem dX10_init_123 : decode cX10_init 123 = .ok (.putfield 61, 3) := by decide +kernel
theorem dX10_init_126 : decode cX10_init 126 = .ok (.aload_n 0, 1) := by decide +kernel
theorem dX10_init_127 : decode cX10_init 127 = .ok (.iconst 5, 1) := by decide +kernel
theorem dX10_init_128 : decode cX10_init 128 = .ok (.newarray .int, 2) := by decide +kernel
theorem dX10_init_130 : decode cX10_init 130 = .ok (.putfield 64, 3) := by decide +kernel
theorem dX10_init_133 : decode cX10_init 133 = .ok (.aload_n 0, 1) := by decide +kernel
theorem dX10_init_134 : decode cX10_init 134 = .ok (.iconst 4, 1) := by decide +kernel
theorem dX10_init_135 : decode cX10_init 135 = .ok (.newarray .int, 2) := by decide +kernel
theorem dX10_init_137 : decode cX10_init 137 = .ok (.putfield 67, 3) := by decide +kernel
theorem dX10_init_140 : decode cX10_init 140 = .ok (.return_, 1) := by decide +kernel
theorem dX10_within_0 : decode cX10_within 0 = .ok (.iload_n 0, 1) := by decide +kernel
theorem dX10_within_1 : decode cX10_within 1 = .ok (.iload_n 1, 1) := by decide +kernel
theorem dX10_within_2 : decode cX10_within 2 = .ok (.if_icmp .lt 12, 3) := by decide +kernel
theorem dX10_within_5 : decode cX10_within 5 = .ok (.iload_n 0, 1) := by decide +kernel
theorem dX10_within_6 : decode cX10_within 6 = .ok (.iload_n 2, 1) := by decide +kernel
theorem dX10_within_7 : decode cX10_within 7 = .ok (.if_icmp .gt 7, 3) := by decide +kernel
theorem dX10_within_10 : decode cX10_within 10 = .ok (.iconst 1, 1) := by decide +kernel
theorem dX10_within_11 : decode cX10_within 11 = .ok (.goto 4, 3) := by decide +kernel
theorem dX10_within_14 : decode cX10_within 14 = .ok (.iconst 0, 1) := by decide +kernel
theorem dX10_within_15 : decode cX10_within 15 = .ok (.ireturn, 1) := by decide +kernel
theorem dX10_has_0 : decode cX10_has 0 = .ok (.iload_n 0, 1) := by decide +kernel
theorem dX10_has_1 : decode cX10_has 1 = .ok (.iload_n 1, 1) := by decide +kernel
theorem dX10_has_2 : decode cX10_has 2 = .ok (.ishr, 1) := by decide +kernel
theorem dX10_has_3 : decode cX10_has 3 = .ok (.iconst 1, 1) := by decide +kernel
theorem dX10_has_4 : decode cX10_has 4 = .ok (.iand, 1) := by decide +kernel
theorem dX10_has_5 : decode cX10_has 5 = .ok (.iconst 1, 1) := by decide +kernel
theorem dX10_has_6 : decode cX10_has 6 = .ok (.if_icmp .ne 7, 3) := by decide +kernel
theorem dX10_has_9 : decode cX10_has 9 = .ok (.iconst 1, 1) := by decide +kernel
theorem dX10_has_10 : decode cX10_has 10 = .ok (.goto 4, 3) := by decide +kernel
theorem dX10_has_13 : decode cX10_has 13 = .ok (.iconst 0, 1) := by decide +kernel
theorem dX10_has_14 : decode cX10_has 14 = .ok (.ireturn, 1) := by decide +kernel
theorem dX10_size_0 : decode cX10_size 0 = .ok (.iconst 0, 1) := by decide +kernel
theorem dX10_size_1 : decode cX10_size 1 = .ok (.istore_n 1, 1) := by decide +kernel
theorem dX10_size_2 : decode cX10_size 2 = .ok (.iconst 0, 1) := by decide +kernel
theorem dX10_size_3 : decode cX10_size 3 = .ok (.istore_n 2, 1) := by decide +kernel
theorem dX10_size_4 : decode cX10_size 4 = .ok (.iload_n 2, 1) := by decide +kernel
theorem dX10_size_5 : decode cX10_size 5 = .ok (.iconst 4, 1) := by decide +kernel
theorem dX10_size_6 : decode cX10_size 6 = .ok (.if_icmp .ge 17, 3) := by decide +kernel
theorem dX10_size_9 : decode cX10_size 9 = .ok (.iload_n 1, 1) := by decide +kernel
theorem dX10_size_10 : decode cX10_size 10 = .ok (.iload_n 0, 1) := by decide +kernel
theorem dX10_size_11 : decode cX10_size 11 = .ok (.iload_n 2, 1) := by decide +kernel
theorem dX10_size_12 : decode cX10_size 12 = .ok (.ishr, 1) := by decide +kernel
theorem dX10_size_13 : decode cX10_size 13 = .ok (.iconst 1, 1) := by decide +kernel
theorem dX10_size_14 : decode cX10_size 14 = .ok (.iand, 1) := by decide +kernel
theorem dX10_size_15 : decode cX10_size 15 = .ok (.iadd, 1) := by decide +kernel
theorem dX10_size_16 : decode cX10_size 16 = .ok (.istore_n 1, 1) := by decide +kernel
theorem dX10_size_17 : decode cX10_size 17 = .ok (.iinc 2 1, 3) := by decide +kernel
theorem dX10_size_20 : decode cX10_size 20 = .ok (.goto (-16), 3) := by decide +kernel
theorem dX10_size_23 : decode cX10_size 23 = .ok (.iload_n 1, 1) := by decide +kernel
theorem dX10_size_24 : decode cX10_size 24 = .ok (.ireturn, 1) := by decide +kernel
theorem dX10_letters_0 : decode cX10_letters 0 = .ok (.iconst 0, 1) := by decide +kernel
theorem dX10_letters_1 : decode cX10_letters 1 = .ok (.istore_n 3, 1) := by decide +kernel
theorem dX10_letters_2 : decode cX10_letters 2 = .ok (.iconst 0, 1) := by decide +kernel
theorem dX10_letters_3 : decode cX10_letters 3 = .ok (.istore 4, 2) := by decide +kernel
theorem dX10_letters_5 : decode cX10_letters 5 = .ok (.iconst 0, 1) := by decide +kernel
theorem dX10_letters_6 : decode cX10_letters 6 = .ok (.istore 5, 2) := by decide +kernel
theorem dX10_letters_8 : decode cX10_letters 8 = .ok (.iload 5, 2) := by decide +kernel
theorem dX10_letters_10 : decode cX10_letters 10 = .ok (.bipush 8, 2) := by decide +kernel
theorem dX10_letters_12 : decode cX10_letters 12 = .ok (.if_icmp .ge 73, 3) := by decide +kernel
theorem dX10_letters_15 : decode cX10_letters 15 = .ok (.lload_n 1, 1) := by decide +kernel
theorem dX10_letters_16 : decode cX10_letters 16 = .ok (.bipush 8, 2) := by decide +kernel
theorem dX10_letters_18 : decode cX10_letters 18 = .ok (.iload 5, 2) := by decide +kernel
theorem dX10_letters_20 : decode cX10_letters 20 = .ok (.imul, 1) := by decide +kernel
theorem dX10_letters_21 : decode cX10_letters 21 = .ok (.lshr, 1) := by decide +kernel
theorem dX10_letters_22 : decode cX10_letters 22 = .ok (.ldc2_w 70, 3) := by decide +kernel
theorem dX10_letters_25 : decode cX10_letters 25 = .ok (.land, 1) := by decide +kernel
theorem dX10_letters_26 : decode cX10_letters 26 = .ok (.l2i, 1) := by decide +kernel
theorem dX10_letters_27 : decode cX10_letters 27 = .ok (.istore 6, 2) := by decide +kernel
theorem dX10_letters_29 : decode cX10_letters 29 = .ok (.iload 6, 2) := by decide +kernel
theorem dX10_letters_31 : decode cX10_letters 31 = .ok (.bipush 126, 2) := by decide +kernel
theorem dX10_letters_33 : decode cX10_letters 33 = .ok (.if_icmp .gt 13, 3) := by decide +kernel
theorem dX10_letters_36 : decode cX10_letters 36 = .ok (.iload 4, 2) := by decide +kernel
theorem dX10_letters_38 : decode cX10_letters 38 = .ok (.ifCond .eq 11, 3) := by decide +kernel
theorem dX10_letters_41 : decode cX10_letters 41 = .ok (.iload 6, 2) := by decide +kernel
theorem dX10_letters_43 : decode cX10_letters 43 = .ok (.ifCond .eq 6, 3) := by decide +kernel
theorem dX10_letters_46 : decode cX10_letters 46 = .ok (.bipush (-102), 2) := by decide +kernel
theorem dX10_letters_48 : decode cX10_letters 48 = .ok (.ireturn, 1) := by decide +kernel
theorem dX10_letters_49 : decode cX10_letters 49 = .ok (.iload 4, 2) := by decide +kernel
theorem dX10_letters_51 : decode cX10_letters 51 = .ok (.ifCond .ne 8, 3) := by decide +kernel
theorem dX10_letters_54 : decode cX10_letters 54 = .ok (.iload 6, 2) := by decide +kernel
theorem dX10_letters_56 : decode cX10_letters 56 = .ok (.ifCond .ne 7, 3) := by decide +kernel
theorem dX10_letters_59 : decode cX10_letters 59 = .ok (.iconst 1, 1) := by decide +kernel
theorem dX10_letters_60 : decode cX10_letters 60 = .ok (.goto 4, 3) := by decide +kernel
theorem dX10_letters_63 : decode cX10_letters 63 = .ok (.iconst 0, 1) := by decide +kernel
theorem dX10_letters_64 : decode cX10_letters 64 = .ok (.istore 4, 2) := by decide +kernel
theorem dX10_letters_66 : decode cX10_letters 66 = .ok (.iload_n 3, 1) := by decide +kernel
theorem dX10_letters_67 : decode cX10_letters 67 = .ok (.iload 6, 2) := by decide +kernel
theorem dX10_letters_69 : decode cX10_letters 69 = .ok (.ifCond .ne 7, 3) := by decide +kernel
theorem dX10_letters_72 : decode cX10_letters 72 = .ok (.iconst 0, 1) := by decide +kernel
theorem dX10_letters_73 : decode cX10_letters 73 = .ok (.goto 4, 3) := by decide +kernel
theorem dX10_letters_76 : decode cX10_letters 76 = .ok (.iconst 1, 1) := by decide +kernel
theorem dX10_letters_77 : decode cX10_letters 77 = .ok (.iadd, 1) := by decide +kernel
theorem dX10_letters_78 : decode cX10_letters 78 = .ok (.istore_n 3, 1) := by decide +kernel
theorem dX10_letters_79 : decode cX10_letters 79 = .ok (.iinc 5 1, 3) := by decide +kernel
theorem dX10_letters_82 : decode cX10_letters 82 = .ok (.goto (-74), 3) := by decide +kernel
theorem dX10_letters_85 : decode cX10_letters 85 = .ok (.aload_n 0, 1) := by decide +kernel
theorem dX10_letters_86 : decode cX10_letters 86 = .ok (.getfield 72, 3) := by decide +kernel
theorem dX10_letters_89 : decode cX10_letters 89 = .ok (.iload_n 3, 1) := by decide +kernel
theorem dX10_letters_90 : decode cX10_letters 90 = .ok (.iadd, 1) := by decide +kernel
theorem dX10_letters_91 : decode cX10_letters 91 = .ok (.bipush 32, 2) := by decide +kernel
theorem dX10_letters_93 : decode cX10_letters 93 = .ok (.if_icmp .le 6, 3) := by decide +kernel
theorem dX10_letters_96 : decode cX10_letters 96 = .ok (.bipush (-104), 2) := by decide +kernel
theorem dX10_letters_98 : decode cX10_letters 98 = .ok (.ireturn, 1) := by decide +kernel
theorem dX10_letters_99 : decode cX10_letters 99 = .ok (.iconst 0, 1) := by decide +kernel
theorem dX10_letters_100 : decode cX10_letters 100 = .ok (.istore 5, 2) := by decide +kernel
theorem dX10_letters_102 : decode cX10_letters 102 = .ok (.iload 5, 2) := by decide +kernel
theorem dX10_letters_104 : decode cX10_letters 104 = .ok (.iload_n 3, 1) := by decide +kernel
theorem dX10_letters_105 : decode cX10_letters 105 = .ok (.if_icmp .ge 30, 3) := by decide +kernel
theorem dX10_letters_108 : decode cX10_letters 108 = .ok (.aload_n 0, 1) := by decide +kernel
theorem dX10_letters_109 : decode cX10_letters 109 = .ok (.getfield 35, 3) := by decide +kernel
theorem dX10_letters_112 : decode cX10_letters 112 = .ok (.aload_n 0, 1) := by decide +kernel
theorem dX10_letters_113 : decode cX10_letters 113 = .ok (.getfield 72, 3) := by decide +kernel
theorem dX10_letters_116 : decode cX10_letters 116 = .ok (.iload 5, 2) := by decide +kernel
theorem dX10_letters_118 : decode cX10_letters 118 = .ok (.iadd, 1) := by decide +kernel
theorem dX10_letters_119 : decode cX10_letters 119 = .ok (.lload_n 1, 1) := by decide +kernel
theorem dX10_letters_120 : decode cX10_letters 120 = .ok (.bipush 8, 2) := by decide +kernel
theorem dX10_letters_122 : decode cX10_letters 122 = .ok (.iload 5, 2) := by decide +kernel
theorem dX10_letters_124 : decode cX10_letters 124 = .ok (.imul, 1) := by decide +kernel
theorem dX10_letters_125 : decode cX10_letters 125 = .ok (.lshr, 1) := by decide +kernel
theorem dX10_letters_126 : decode cX10_letters 126 = .ok (.l2i, 1) := by decide +kernel
theorem dX10_letters_127 : decode cX10_letters 127 = .ok (.i2b, 1) := by decide +kernel
theorem dX10_letters_128 : decode cX10_letters 128 = .ok (.bastore, 1) := by decide +kernel
theorem dX10_letters_129 : decode cX10_letters 129 = .ok (.iinc 5 1, 3) := by decide +kernel
theorem dX10_letters_132 : decode cX10_letters 132 = .ok (.goto (-30), 3) := by decide +kernel
theorem dX10_letters_135 : decode cX10_letters 135 = .ok (.aload_n 0, 1) := by decide +kernel
theorem dX10_letters_136 : decode cX10_letters 136 = .ok (.dup, 1) := by decide +kernel
theorem dX10_letters_137 : decode cX10_letters 137 = .ok (.getfield 72, 3) := by decide +kernel
theorem dX10_letters_140 : decode cX10_letters 140 = .ok (.iload_n 3, 1) := by decide +kernel
theorem dX10_letters_141 : decode cX10_letters 141 = .ok (.iadd, 1) := by decide +kernel
theorem dX10_letters_142 : decode cX10_letters 142 = .ok (.putfield 72, 3) := by decide +kernel
theorem dX10_letters_145 : decode cX10_letters 145 = .ok (.aload_n 0, 1) := by decide +kernel
theorem dX10_letters_146 : decode cX10_letters 146 = .ok (.getfield 72, 3) := by decide +kernel
theorem dX10_letters_149 : decode cX10_letters 149 = .ok (.ireturn, 1) := by decide +kernel
theorem dX10_blank_0 : decode cX10_blank 0 = .ok (.aload_n 0, 1) := by decide +kernel
theorem dX10_blank_1 : decode cX10_blank 1 = .ok (.getfield 72, 3) := by decide +kernel
theorem dX10_blank_4 : decode cX10_blank 4 = .ok (.istore_n 1, 1) := by decide +kernel
theorem dX10_blank_5 : decode cX10_blank 5 = .ok (.aload_n 0, 1) := by decide +kernel
theorem dX10_blank_6 : decode cX10_blank 6 = .ok (.iconst 0, 1) := by decide +kernel
theorem dX10_blank_7 : decode cX10_blank 7 = .ok (.putfield 72, 3) := by decide +kernel
theorem dX10_blank_10 : decode cX10_blank 10 = .ok (.iload_n 1, 1) := by decide +kernel
theorem dX10_blank_11 : decode cX10_blank 11 = .ok (.ireturn, 1) := by decide +kernel
set_option maxRecDepth 20000 in
theorem ggX10_nextState_X10_within : GoodIn wsX10_nextState wsX10_within := goodIn_r _ [9] (by decide +kernel) (by decide +kernel)
set_option maxRecDepth 20000 in
theorem gX10_nextState_X10_within : GoodIn wsX10_nextState (va_wsS RX10 75 yX10_within wsX10_within) := goodIn_app (goodIn_of _ (by decide +kernel)) ggX10_nextState_X10_within
set_option maxRecDepth 20000 in
theorem ggX10_nextState_X10_has : GoodIn wsX10_nextState wsX10_has := goodIn_r _ [12] (by decide +kernel) (by decide +kernel)
set_option maxRecDepth 20000 in
theorem gX10_nextState_X10_has : GoodIn wsX10_nextState (va_wsS RX10 82 yX10_has wsX10_has) := goodIn_app (goodIn_of _ (by decide +kernel)) ggX10_nextState_X10_has
theorem dX10_nextState_0 : decode cX10_nextState 0 = .ok (.iload_n 2, 1) := by decide +kernel
theorem dX10_nextState_1 : decode cX10_nextState 1 = .ok (.bipush 48, 2) := by decide +kernel
theorem dX10_nextState_3 : decode cX10_nextState 3 = .ok (.isub, 1) := by decide +kernel
theorem dX10_nextState_4 : decode cX10_nextState 4 = .ok (.istore_n 3, 1) := by decide +kernel
theorem dX10_nextState_5 : decode cX10_nextState 5 = .ok (.iload_n 3, 1) := by decide +kernel
theorem dX10_nextState_6 : decode cX10_nextState 6 = .ok (.iconst 0, 1) := by decide +kernel
theorem dX10_nextState_7 : decode cX10_nextState 7 = .ok (.iconst 3, 1) := by decide +kernel
theorem dX10_nextState_8 : decode cX10_nextState 8 = .ok (.invokestatic 75, 3) := by decide +kernel
theorem dX10_nextState_11 : decode cX10_nextState 11 = .ok (.ifCond .eq 15, 3) := by decide +kernel
theorem dX10_nextState_14 : decode cX10_nextState 14 = .ok (.iload_n 3, 1) := by decide +kernel
theorem dX10_nextState_15 : decode cX10_nextState 15 = .ok (.aload_n 0, 1) := by decide +kernel
theorem dX10_nextState_16 : decode cX10_nextState 16 = .ok (.getfield 79, 3) := by decide +kernel
theorem dX10_nextState_19 : decode cX10_nextState 19 = .ok (.if_icmp .eq 7, 3) := by decide +kernel
theorem dX10_nextState_22 : decode cX10_nextState 22 = .ok (.iconst 1, 1) := by decide +kernel
theorem dX10_nextState_23 : decode cX10_nextState 23 = .ok (.goto 4, 3) := by decide +kernel
theorem dX10_nextState_26 : decode cX10_nextState 26 = .ok (.iconst 0, 1) := by decide +kernel
theorem dX10_nextState_27 : decode cX10_nextState 27 = .ok (.istore 4, 2) := by decide +kernel
theorem dX10_nextState_29 : decode cX10_nextState 29 = .ok (.iload_n 1, 1) := by decide +kernel
theorem dX10_nextState_30 : decode cX10_nextState 30 = .ok (.iconst 2, 1) := by decide +kernel
theorem dX10_nextState_31 : decode cX10_nextState 31 = .ok (.if_icmp .ge 58, 3) := by decide +kernel
theorem dX10_nextState_34 : decode cX10_nextState 34 = .ok (.iload 4, 2) := by decide +kernel
theorem dX10_nextState_36 : decode cX10_nextState 36 = .ok (.ifCond .eq 36, 3) := by decide +kernel
theorem dX10_nextState_39 : decode cX10_nextState 39 = .ok (.aload_n 0, 1) := by decide +kernel
theorem dX10_nextState_40 : decode cX10_nextState 40 = .ok (.getfield 39, 3) := by decide +kernel
theorem dX10_nextState_43 : decode cX10_nextState 43 = .ok (.aload_n 0, 1) := by decide +kernel
theorem dX10_nextState_44 : decode cX10_nextState 44 = .ok (.getfield 79, 3) := by decide +kernel
theorem dX10_nextState_47 : decode cX10_nextState 47 = .ok (.iaload, 1) := by decide +kernel
theorem dX10_nextState_48 : decode cX10_nextState 48 = .ok (.iload_n 3, 1) := by decide +kernel
theorem dX10_nextState_49 : decode cX10_nextState 49 = .ok (.invokestatic 82, 3) := by decide +kernel
theorem dX10_nextState_52 : decode cX10_nextState 52 = .ok (.ifCond .ne 20, 3) := by decide +kernel
theorem dX10_nextState_55 : decode cX10_nextState 55 = .ok (.aload_n 0, 1) := by decide +kernel
theorem dX10_nextState_56 : decode cX10_nextState 56 = .ok (.getfield 39, 3) := by decide +kernel
theorem dX10_nextState_59 : decode cX10_nextState 59 = .ok (.aload_n 0, 1) := by decide +kernel
theorem dX10_nextState_60 : decode cX10_nextState 60 = .ok (.getfield 79, 3) := by decide +kernel
theorem dX10_nextState_63 : decode cX10_nextState 63 = .ok (.dup2, 1) := by decide +kernel
theorem dX10_nextState_64 : decode cX10_nextState 64 = .ok (.iaload, 1) := by decide +kernel
theorem dX10_nextState_65 : decode cX10_nextState 65 = .ok (.iconst 1, 1) := by decide +kernel
theorem dX10_nextState_66 : decode cX10_nextState 66 = .ok (.iload_n 3, 1) := by decide +kernel
theorem dX10_nextState_67 : decode cX10_nextState 67 = .ok (.ishl, 1) := by decide +kernel
theorem dX10_nextState_68 : decode cX10_nextState 68 = .ok (.ior, 1) := by decide +kernel
theorem dX10_nextState_69 : decode cX10_nextState 69 = .ok (.iastore, 1) := by decide +kernel
theorem dX10_nextState_70 : decode cX10_nextState 70 = .ok (.iconst 1, 1) := by decide +kernel
theorem dX10_nextState_71 : decode cX10_nextState 71 = .ok (.ireturn, 1) := by decide +kernel
theorem dX10_nextState_72 : decode cX10_nextState 72 = .ok (.iload_n 1, 1) := by decide +kernel
theorem dX10_nextState_73 : decode cX10_nextState 73 = .ok (.iconst 1, 1) := by decide +kernel
theorem dX10_nextState_74 : decode cX10_nextState 74 = .ok (.if_icmp .ne 13, 3) := by decide +kernel
theorem dX10_nextState_77 : decode cX10_nextState 77 = .ok (.iload_n 2, 1) := by decide +kernel
theorem dX10_nextState_78 : decode cX10_nextState 78 = .ok (.bipush 58, 2) := by decide +kernel
theorem dX10_nextState_80 : decode cX10_nextState 80 = .ok (.if_icmp .ne 7, 3) := by decide +kernel
theorem dX10_nextState_83 : decode cX10_nextState 83 = .ok (.iconst 2, 1) := by decide +kernel
theorem dX10_nextState_84 : decode cX10_nextState 84 = .ok (.goto 4, 3) := by decide +kernel
theorem dX10_nextState_87 : decode cX10_nextState 87 = .ok (.iconst (-1), 1) := by decide +kernel
theorem dX10_nextState_88 : decode cX10_nextState 88 = .ok (.ireturn, 1) := by decide +kernel
theorem dX10_nextState_89 : decode cX10_nextState 89 = .ok (.iload_n 1, 1) := by decide +kernel
theorem dX10_nextState_90 : decode cX10_nextState 90 = .ok (.iconst 2, 1) := by decide +kernel
theorem dX10_nextState_91 : decode cX10_nextState 91 = .ok (.if_icmp .ne 24, 3) := by decide +kernel
theorem dX10_nextState_94 : decode cX10_nextState 94 = .ok (.aload_n 0, 1) := by decide +kernel
theorem dX10_nextState_95 : decode cX10_nextState 95 = .ok (.getfield 42, 3) := by decide +kernel
theorem dX10_nextState_98 : decode cX10_nextState 98 = .ok (.aload_n 0, 1) := by decide +kernel
theorem dX10_nextState_99 : decode cX10_nextState 99 = .ok (.getfield 79, 3) := by decide +kernel
theorem dX10_nextState_102 : decode cX10_nextState 102 = .ok (.iload_n 3, 1) := by decide +kernel
theorem dX10_nextState_103 : decode cX10_nextState 103 = .ok (.iastore, 1) := by decide +kernel
theorem dX10_nextState_104 : decode cX10_nextState 104 = .ok (.iload 4, 2) := by decide +kernel
theorem dX10_nextState_106 : decode cX10_nextState 106 = .ok (.ifCond .eq 7, 3) := by decide +kernel
theorem dX10_nextState_109 : decode cX10_nextState 109 = .ok (.iconst 3, 1) := by decide +kernel
theorem dX10_nextState_110 : decode cX10_nextState 110 = .ok (.goto 4, 3) := by decide +kernel
theorem dX10_nextState_113 : decode cX10_nextState 113 = .ok (.iconst (-1), 1) := by decide +kernel
theorem dX10_nextState_114 : decode cX10_nextState 114 = .ok (.ireturn, 1) := by decide +kernel
theorem dX10_nextState_115 : decode cX10_nextState 115 = .ok (.iload_n 1, 1) := by decide +kernel
theorem dX10_nextState_116 : decode cX10_nextState 116 = .ok (.iconst 3, 1) := by decide +kernel
theorem dX10_nextState_117 : decode cX10_nextState 117 = .ok (.if_icmp .ne 28, 3) := by decide +kernel
theorem dX10_nextState_120 : decode cX10_nextState 120 = .ok (.aload_n 0, 1) := by decide +kernel
theorem dX10_nextState_121 : decode cX10_nextState 121 = .ok (.getfield 45, 3) := by decide +kernel
theorem dX10_nextState_124 : decode cX10_nextState 124 = .ok (.aload_n 0, 1) := by decide +kernel
theorem dX10_nextState_125 : decode cX10_nextState 125 = .ok (.getfield 79, 3) := by decide +kernel
theorem dX10_nextState_128 : decode cX10_nextState 128 = .ok (.iload_n 3, 1) := by decide +kernel
theorem dX10_nextState_129 : decode cX10_nextState 129 = .ok (.iastore, 1) := by decide +kernel
theorem dX10_nextState_130 : decode cX10_nextState 130 = .ok (.iload_n 3, 1) := by decide +kernel
theorem dX10_nextState_131 : decode cX10_nextState 131 = .ok (.iconst 1, 1) := by decide +kernel
theorem dX10_nextState_132 : decode cX10_nextState 132 = .ok (.iconst 4, 1) := by decide +kernel
theorem dX10_nextState_133 : decode cX10_nextState 133 = .ok (.invokestatic 75, 3) := by decide +kernel
theorem dX10_nextState_136 : decode cX10_nextState 136 = .ok (.ifCond .eq 7, 3) := by decide +kernel
theorem dX10_nextState_139 : decode cX10_nextState 139 = .ok (.iconst 4, 1) := by decide +kernel
theorem dX10_nextState_140 : decode cX10_nextState 140 = .ok (.goto 4, 3) := by decide +kernel
theorem dX10_nextState_143 : decode cX10_nextState 143 = .ok (.iconst (-1), 1) := by decide +kernel
theorem dX10_nextState_144 : decode cX10_nextState 144 = .ok (.ireturn, 1) := by decide +kernel
theorem dX10_nextState_145 : decode cX10_nextState 145 = .ok (.iload_n 1, 1) := by decide +kernel
theorem dX10_nextState_146 : decode cX10_nextState 146 = .ok (.iconst 4, 1) := by decide +kernel
theorem dX10_nextState_147 : decode cX10_nextState 147 = .ok (.if_icmp .ne 28, 3) := by decide +kernel
theorem dX10_nextState_150 : decode cX10_nextState 150 = .ok (.aload_n 0, 1) := by decide +kernel
theorem dX10_nextState_151 : decode cX10_nextState 151 = .ok (.getfield 48, 3) := by decide +kernel
theorem dX10_nextState_154 : decode cX10_nextState 154 = .ok (.aload_n 0, 1) := by decide +kernel
theorem dX10_nextState_155 : decode cX10_nextState 155 = .ok (.getfield 79, 3) := by decide +kernel
theorem dX10_nextState_158 : decode cX10_nextState 158 = .ok (.iload_n 3, 1) := by decide +kernel
theorem dX10_nextState_159 : decode cX10_nextState 159 = .ok (.iastore, 1) := by decide +kernel
theorem dX10_nextState_160 : decode cX10_nextState 160 = .ok (.iload_n 3, 1) := by decide +kernel
theorem dX10_nextState_161 : decode cX10_nextState 161 = .ok (.iconst 0, 1) := by decide +kernel
theorem dX10_nextState_162 : decode cX10_nextState 162 = .ok (.iconst 4, 1) := by decide +kernel
theorem dX10_nextState_163 : decode cX10_nextState 163 = .ok (.invokestatic 75, 3) := by decide +kernel
theorem dX10_nextState_166 : decode cX10_nextState 166 = .ok (.ifCond .eq 7, 3) := by decide +kernel
theorem dX10_nextState_169 : decode cX10_nextState 169 = .ok (.iconst 5, 1) := by decide +kernel
theorem dX10_nextState_170 : decode cX10_nextState 170 = .ok (.goto 4, 3) := by decide +kernel
theorem dX10_nextState_173 : decode cX10_nextState 173 = .ok (.iconst (-1), 1) := by decide +kernel
theorem dX10_nextState_174 : decode cX10_nextState 174 = .ok (.ireturn, 1) := by decide +kernel
theorem dX10_nextState_175 : decode cX10_nextState 175 = .ok (.iload_n 2, 1) := by decide +kernel
theorem dX10_nextState_176 : decode cX10_nextState 176 = .ok (.bipush 47, 2) := by decide +kernel
theorem dX10_nextState_178 : decode cX10_nextState 178 = .ok (.if_icmp .ne 11, 3) := by decide +kernel
theorem dX10_nextState_181 : decode cX10_nextState 181 = .ok (.aload_n 0, 1) := by decide +kernel
theorem dX10_nextState_182 : decode cX10_nextState 182 = .ok (.getfield 79, 3) := by decide +kernel
theorem dX10_nextState_185 : decode cX10_nextState 185 = .ok (.iconst 3, 1) := by decide +kernel
theorem dX10_nextState_186 : decode cX10_nextState 186 = .ok (.if_icmp .ne 5, 3) := by decide +kernel
theorem dX10_nextState_189 : decode cX10_nextState 189 = .ok (.iconst (-1), 1) := by decide +kernel
theorem dX10_nextState_190 : decode cX10_nextState 190 = .ok (.ireturn, 1) := by decide +kernel
theorem dX10_nextState_191 : decode cX10_nextState 191 = .ok (.aload_n 0, 1) := by decide +kernel
theorem dX10_nextState_192 : decode cX10_nextState 192 = .ok (.dup, 1) := by decide +kernel
theorem dX10_nextState_193 : decode cX10_nextState 193 = .ok (.getfield 79, 3) := by decide +kernel
theorem dX10_nextState_196 : decode cX10_nextState 196 = .ok (.iconst 1, 1) := by decide +kernel
theorem dX10_nextState_197 : decode cX10_nextState 197 = .ok (.iadd, 1) := by decide +kernel
theorem dX10_nextState_198 : decode cX10_nextState 198 = .ok (.putfield 79, 3) := by decide +kernel
theorem dX10_nextState_201 : decode cX10_nextState 201 = .ok (.iconst 0, 1) := by decide +kernel
theorem dX10_nextState_202 : decode cX10_nextState 202 = .ok (.ireturn, 1) := by decide +kernel
set_option maxRecDepth 20000 in
theorem ggX10_readLaw_X10_nextState : GoodIn wsX10_readLaw wsX10_nextState := goodIn_r _ [11, 1, 2, 12, 13, 14, 15, 16, 10, 17, 18, 19, 20, 21, 22, 23, 24, 25, 26, 27, 28, 29, 30, 31, 32, 33, 34, 35, 36, 37, 38, 39, 40, 41, 42, 43, 44, 45, 46, 47, 48, 49, 50, 51, 52, 53, 54, 55, 56, 57, 58] (by decide +kernel) (by decide +kernel)
set_option maxRecDepth 20000 in
theorem gX10_readLaw_X10_nextState : GoodIn wsX10_readLaw (wsV RX10 86 RX10 yX10_nextState wsX10_nextState) := goodIn_app (goodIn_of _ (by decide +kernel)) ggX10_readLaw_X10_nextState
theorem dX10_readLaw_0 : decode cX10_readLaw 0 = .ok (.aload_n 0, 1) := by decide +kernel
theorem dX10_readLaw_1 : decode cX10_readLaw 1 = .ok (.iconst 0, 1) := by decide +kernel
theorem dX10_readLaw_2 : decode cX10_readLaw 2 = .ok (.putfield 79, 3) := by decide +kernel
theorem dX10_readLaw_5 : decode cX10_readLaw 5 = .ok (.iconst 0, 1) := by decide +kernel
theorem dX10_readLaw_6 : decode cX10_readLaw 6 = .ok (.istore_n 1, 1) := by decide +kernel
theorem dX10_readLaw_7 : decode cX10_readLaw 7 = .ok (.iload_n 1, 1) := by decide +kernel
theorem dX10_readLaw_8 : decode cX10_readLaw 8 = .ok (.iconst 4, 1) := by decide +kernel
theorem dX10_readLaw_9 : decode cX10_readLaw 9 = .ok (.if_icmp .ge 16, 3) := by decide +kernel
theorem dX10_readLaw_12 : decode cX10_readLaw 12 = .ok (.aload_n 0, 1) := by decide +kernel
theorem dX10_readLaw_13 : decode cX10_readLaw 13 = .ok (.getfield 39, 3) := by decide +kernel
theorem dX10_readLaw_16 : decode cX10_readLaw 16 = .ok (.iload_n 1, 1) := by decide +kernel
theorem dX10_readLaw_17 : decode cX10_readLaw 17 = .ok (.iconst 0, 1) := by decide +kernel
theorem dX10_readLaw_18 : decode cX10_readLaw 18 = .ok (.iastore, 1) := by decide +kernel
theorem dX10_readLaw_19 : decode cX10_readLaw 19 = .ok (.iinc 1 1, 3) := by decide +kernel
theorem dX10_readLaw_22 : decode cX10_readLaw 22 = .ok (.goto (-15), 3) := by decide +kernel
theorem dX10_readLaw_25 : decode cX10_readLaw 25 = .ok (.iconst 0, 1) := by decide +kernel
theorem dX10_readLaw_26 : decode cX10_readLaw 26 = .ok (.istore_n 1, 1) := by decide +kernel
theorem dX10_readLaw_27 : decode cX10_readLaw 27 = .ok (.iconst 0, 1) := by decide +kernel
theorem dX10_readLaw_28 : decode cX10_readLaw 28 = .ok (.istore_n 2, 1) := by decide +kernel
theorem dX10_readLaw_29 : decode cX10_readLaw 29 = .ok (.iconst 1, 1) := by decide +kernel
theorem dX10_readLaw_30 : decode cX10_readLaw 30 = .ok (.istore_n 3, 1) := by decide +kernel
theorem dX10_readLaw_31 : decode cX10_readLaw 31 = .ok (.iload_n 2, 1) := by decide +kernel
theorem dX10_readLaw_32 : decode cX10_readLaw 32 = .ok (.aload_n 0, 1) := by decide +kernel
theorem dX10_readLaw_33 : decode cX10_readLaw 33 = .ok (.getfield 72, 3) := by decide +kernel
theorem dX10_readLaw_36 : decode cX10_readLaw 36 = .ok (.if_icmp .ge 58, 3) := by decide +kernel
theorem dX10_readLaw_39 : decode cX10_readLaw 39 = .ok (.iload_n 3, 1) := by decide +kernel
theorem dX10_readLaw_40 : decode cX10_readLaw 40 = .ok (.ifCond .eq 54, 3) := by decide +kernel
theorem dX10_readLaw_43 : decode cX10_readLaw 43 = .ok (.aload_n 0, 1) := by decide +kernel
theorem dX10_readLaw_44 : decode cX10_readLaw 44 = .ok (.iload_n 1, 1) := by decide +kernel
theorem dX10_readLaw_45 : decode cX10_readLaw 45 = .ok (.aload_n 0, 1) := by decide +kernel
theorem dX10_readLaw_46 : decode cX10_readLaw 46 = .ok (.getfield 35, 3) := by decide +kernel
theorem dX10_readLaw_49 : decode cX10_readLaw 49 = .ok (.iload_n 2, 1) := by decide +kernel
theorem dX10_readLaw_50 : decode cX10_readLaw 50 = .ok (.baload, 1) := by decide +kernel
theorem dX10_readLaw_51 : decode cX10_readLaw 51 = .ok (.invokevirtual 86, 3) := by decide +kernel
theorem dX10_readLaw_54 : decode cX10_readLaw 54 = .ok (.istore 4, 2) := by decide +kernel
theorem dX10_readLaw_56 : decode cX10_readLaw 56 = .ok (.iload 4, 2) := by decide +kernel
theorem dX10_readLaw_58 : decode cX10_readLaw 58 = .ok (.iconst (-1), 1) := by decide +kernel
theorem dX10_readLaw_59 : decode cX10_readLaw 59 = .ok (.if_icmp .eq 7, 3) := by decide +kernel
theorem dX10_readLaw_62 : decode cX10_readLaw 62 = .ok (.iconst 1, 1) := by decide +kernel
theorem dX10_readLaw_63 : decode cX10_readLaw 63 = .ok (.goto 4, 3) := by decide +kernel
theorem dX10_readLaw_66 : decode cX10_readLaw 66 = .ok (.iconst 0, 1) := by decide +kernel
theorem dX10_readLaw_67 : decode cX10_readLaw 67 = .ok (.istore_n 3, 1) := by decide +kernel
theorem dX10_readLaw_68 : decode cX10_readLaw 68 = .ok (.iload_n 3, 1) := by decide +kernel
theorem dX10_readLaw_69 : decode cX10_readLaw 69 = .ok (.ifCond .eq 8, 3) := by decide +kernel
theorem dX10_readLaw_72 : decode cX10_readLaw 72 = .ok (.iload 4, 2) := by decide +kernel
theorem dX10_readLaw_74 : decode cX10_readLaw 74 = .ok (.goto 4, 3) := by decide +kernel
theorem dX10_readLaw_77 : decode cX10_readLaw 77 = .ok (.iload_n 1, 1) := by decide +kernel
theorem dX10_readLaw_78 : decode cX10_readLaw 78 = .ok (.istore_n 1, 1) := by decide +kernel
theorem dX10_readLaw_79 : decode cX10_readLaw 79 = .ok (.iload_n 2, 1) := by decide +kernel
theorem dX10_readLaw_80 : decode cX10_readLaw 80 = .ok (.iload_n 3, 1) := by decide +kernel
theorem dX10_readLaw_81 : decode cX10_readLaw 81 = .ok (.ifCond .eq 7, 3) := by decide +kernel
theorem dX10_readLaw_84 : decode cX10_readLaw 84 = .ok (.iconst 1, 1) := by decide +kernel
theorem dX10_readLaw_85 : decode cX10_readLaw 85 = .ok (.goto 4, 3) := by decide +kernel
theorem dX10_readLaw_88 : decode cX10_readLaw 88 = .ok (.iconst 0, 1) := by decide +kernel
theorem dX10_readLaw_89 : decode cX10_readLaw 89 = .ok (.iadd, 1) := by decide +kernel
theorem dX10_readLaw_90 : decode cX10_readLaw 90 = .ok (.istore_n 2, 1) := by decide +kernel
theorem dX10_readLaw_91 : decode cX10_readLaw 91 = .ok (.goto (-60), 3) := by decide +kernel
theorem dX10_readLaw_94 : decode cX10_readLaw 94 = .ok (.aload_n 0, 1) := by decide +kernel
theorem dX10_readLaw_95 : decode cX10_readLaw 95 = .ok (.iload_n 2, 1) := by decide +kernel
theorem dX10_readLaw_96 : decode cX10_readLaw 96 = .ok (.putfield 90, 3) := by decide +kernel
theorem dX10_readLaw_99 : decode cX10_readLaw 99 = .ok (.aload_n 0, 1) := by decide +kernel
theorem dX10_readLaw_100 : decode cX10_readLaw 100 = .ok (.iload_n 2, 1) := by decide +kernel
theorem dX10_readLaw_101 : decode cX10_readLaw 101 = .ok (.aload_n 0, 1) := by decide +kernel
theorem dX10_readLaw_102 : decode cX10_readLaw 102 = .ok (.getfield 72, 3) := by decide +kernel
theorem dX10_readLaw_105 : decode cX10_readLaw 105 = .ok (.if_icmp .ne 20, 3) := by decide +kernel
theorem dX10_readLaw_108 : decode cX10_readLaw 108 = .ok (.iload_n 1, 1) := by decide +kernel
theorem dX10_readLaw_109 : decode cX10_readLaw 109 = .ok (.iconst 5, 1) := by decide +kernel
theorem dX10_readLaw_110 : decode cX10_readLaw 110 = .ok (.if_icmp .ne 15, 3) := by decide +kernel
theorem dX10_readLaw_113 : decode cX10_readLaw 113 = .ok (.aload_n 0, 1) := by decide +kernel
theorem dX10_readLaw_114 : decode cX10_readLaw 114 = .ok (.getfield 79, 3) := by decide +kernel
theorem dX10_readLaw_117 : decode cX10_readLaw 117 = .ok (.iconst 3, 1) := by decide +kernel
theorem dX10_readLaw_118 : decode cX10_readLaw 118 = .ok (.if_icmp .ne 7, 3) := by decide +kernel
theorem dX10_readLaw_121 : decode cX10_readLaw 121 = .ok (.iconst 1, 1) := by decide +kernel
theorem dX10_readLaw_122 : decode cX10_readLaw 122 = .ok (.goto 4, 3) := by decide +kernel
theorem dX10_readLaw_125 : decode cX10_readLaw 125 = .ok (.iconst 0, 1) := by decide +kernel
theorem dX10_readLaw_126 : decode cX10_readLaw 126 = .ok (.putfield 93, 3) := by decide +kernel
theorem dX10_readLaw_129 : decode cX10_readLaw 129 = .ok (.return_, 1) := by decide +kernel
set_option maxRecDepth 20000 in
theorem ggX10_fault_X10_readLaw : GoodIn wsX10_fault wsX10_readLaw := goodIn_r _ [6, 7, 8, 9, 10, 1, 11, 12, 13, 14, 5, 15, 16, 17, 18, 19, 20, 21, 22, 23, 24, 25, 26, 27, 28, 29, 30, 31, 32, 33, 34, 35, 36, 37, 38, 39, 40, 41, 42, 43, 44, 45, 46, 47, 48, 49, 50, 51, 52, 53, 54, 55, 56, 57, 58, 59, 60, 61, 62] (by decide +kernel) (by decide +kernel)
set_option maxRecDepth 20000 in
theorem gX10_fault_X10_readLaw : GoodIn wsX10_fault (wsV RX10 97 RX10 yX10_readLaw wsX10_readLaw) := goodIn_app (goodIn_of _ (by decide +kernel)) ggX10_fault_X10_readLaw
theorem dX10_fault_0 : decode cX10_fault 0 = .ok (.aload_n 0, 1) := by decide +kernel
theorem dX10_fault_1 : decode cX10_fault 1 = .ok (.invokevirtual 97, 3) := by decide +kernel
theorem dX10_fault_4 : decode cX10_fault 4 = .ok (.aload_n 0, 1) := by decide +kernel
theorem dX10_fault_5 : decode cX10_fault 5 = .ok (.getfield 90, 3) := by decide +kernel
theorem dX10_fault_8 : decode cX10_fault 8 = .ok (.ireturn, 1) := by decide +kernel
set_option maxRecDepth 20000 in
theorem ggX10_law_X10_readLaw : GoodIn wsX10_law wsX10_readLaw := goodIn_r _ [21, 22, 3, 16, 23, 24, 1, 25, 26, 27, 20, 28, 5, 7, 9, 29, 30, 31, 32, 33, 34, 38, 39, 40, 41, 42, 43, 44, 45, 46, 47, 48, 49, 50, 51, 52, 53, 54, 55, 56, 57, 58, 59, 60, 61, 62, 63, 64, 65, 66, 67, 68, 69, 70, 71, 72, 73, 74, 75] (by decide +kernel) (by decide +kernel)
set_option maxRecDepth 20000 in
theorem gX10_law_X10_readLaw : GoodIn wsX10_law (wsV RX10 97 RX10 yX10_readLaw wsX10_readLaw) := goodIn_app (goodIn_of _ (by decide +kernel)) ggX10_law_X10_readLaw
set_option maxRecDepth 20000 in
theorem ggX10_law_X10_size : GoodIn wsX10_law wsX10_size := goodIn_r _ [37] (by decide +kernel) (by decide +kernel)
set_option maxRecDepth 20000 in
theorem gX10_law_X10_size : GoodIn wsX10_law (va_wsS RX10 100 yX10_size wsX10_size) := goodIn_app (goodIn_of _ (by decide +kernel)) ggX10_law_X10_size
theorem dX10_law_0 : decode cX10_law 0 = .ok (.aload_n 0, 1) := by decide +kernel
theorem dX10_law_1 : decode cX10_law 1 = .ok (.invokevirtual 97, 3) := by decide +kernel
theorem dX10_law_4 : decode cX10_law 4 = .ok (.aload_n 0, 1) := by decide +kernel
theorem dX10_law_5 : decode cX10_law 5 = .ok (.getfield 93, 3) := by decide +kernel
theorem dX10_law_8 : decode cX10_law 8 = .ok (.ifCond .ne 6, 3) := by decide +kernel
theorem dX10_law_11 : decode cX10_law 11 = .ok (.bipush (-103), 2) := by decide +kernel
theorem dX10_law_13 : decode cX10_law 13 = .ok (.ireturn, 1) := by decide +kernel
theorem dX10_law_14 : decode cX10_law 14 = .ok (.iconst 0, 1) := by decide +kernel
theorem dX10_law_15 : decode cX10_law 15 = .ok (.istore_n 1, 1) := by decide +kernel
theorem dX10_law_16 : decode cX10_law 16 = .ok (.iconst 0, 1) := by decide +kernel
theorem dX10_law_17 : decode cX10_law 17 = .ok (.istore_n 2, 1) := by decide +kernel
theorem dX10_law_18 : decode cX10_law 18 = .ok (.iload_n 2, 1) := by decide +kernel
theorem dX10_law_19 : decode cX10_law 19 = .ok (.iconst 4, 1) := by decide +kernel
theorem dX10_law_20 : decode cX10_law 20 = .ok (.if_icmp .ge 69, 3) := by decide +kernel
theorem dX10_law_23 : decode cX10_law 23 = .ok (.aload_n 0, 1) := by decide +kernel
theorem dX10_law_24 : decode cX10_law 24 = .ok (.getfield 7, 3) := by decide +kernel
theorem dX10_law_27 : decode cX10_law 27 = .ok (.iload_n 2, 1) := by decide +kernel
theorem dX10_law_28 : decode cX10_law 28 = .ok (.aload_n 0, 1) := by decide +kernel
theorem dX10_law_29 : decode cX10_law 29 = .ok (.getfield 39, 3) := by decide +kernel
theorem dX10_law_32 : decode cX10_law 32 = .ok (.iload_n 2, 1) := by decide +kernel
theorem dX10_law_33 : decode cX10_law 33 = .ok (.iaload, 1) := by decide +kernel
theorem dX10_law_34 : decode cX10_law 34 = .ok (.iastore, 1) := by decide +kernel
theorem dX10_law_35 : decode cX10_law 35 = .ok (.aload_n 0, 1) := by decide +kernel
theorem dX10_law_36 : decode cX10_law 36 = .ok (.getfield 13, 3) := by decide +kernel
theorem dX10_law_39 : decode cX10_law 39 = .ok (.iload_n 2, 1) := by decide +kernel
theorem dX10_law_40 : decode cX10_law 40 = .ok (.aload_n 0, 1) := by decide +kernel
theorem dX10_law_41 : decode cX10_law 41 = .ok (.getfield 42, 3) := by decide +kernel
theorem dX10_law_44 : decode cX10_law 44 = .ok (.iload_n 2, 1) := by decide +kernel
theorem dX10_law_45 : decode cX10_law 45 = .ok (.iaload, 1) := by decide +kernel
theorem dX10_law_46 : decode cX10_law 46 = .ok (.iastore, 1) := by decide +kernel
theorem dX10_law_47 : decode cX10_law 47 = .ok (.aload_n 0, 1) := by decide +kernel
theorem dX10_law_48 : decode cX10_law 48 = .ok (.getfield 16, 3) := by decide +kernel
theorem dX10_law_51 : decode cX10_law 51 = .ok (.iload_n 2, 1) := by decide +kernel
theorem dX10_law_52 : decode cX10_law 52 = .ok (.aload_n 0, 1) := by decide +kernel
theorem dX10_law_53 : decode cX10_law 53 = .ok (.getfield 45, 3) := by decide +kernel
theorem dX10_law_56 : decode cX10_law 56 = .ok (.iload_n 2, 1) := by decide +kernel
theorem dX10_law_57 : decode cX10_law 57 = .ok (.iaload, 1) := by decide +kernel
theorem dX10_law_58 : decode cX10_law 58 = .ok (.iastore, 1) := by decide +kernel
theorem dX10_law_59 : decode cX10_law 59 = .ok (.aload_n 0, 1) := by decide +kernel
theorem dX10_law_60 : decode cX10_law 60 = .ok (.getfield 19, 3) := by decide +kernel
theorem dX10_law_63 : decode cX10_law 63 = .ok (.iload_n 2, 1) := by decide +kernel
theorem dX10_law_64 : decode cX10_law 64 = .ok (.aload_n 0, 1) := by decide +kernel
theorem dX10_law_65 : decode cX10_law 65 = .ok (.getfield 48, 3) := by decide +kernel
theorem dX10_law_68 : decode cX10_law 68 = .ok (.iload_n 2, 1) := by decide +kernel
theorem dX10_law_69 : decode cX10_law 69 = .ok (.iaload, 1) := by decide +kernel
theorem dX10_law_70 : decode cX10_law 70 = .ok (.iastore, 1) := by decide +kernel
theorem dX10_law_71 : decode cX10_law 71 = .ok (.iload_n 1, 1) := by decide +kernel
theorem dX10_law_72 : decode cX10_law 72 = .ok (.aload_n 0, 1) := by decide +kernel
theorem dX10_law_73 : decode cX10_law 73 = .ok (.getfield 39, 3) := by decide +kernel
theorem dX10_law_76 : decode cX10_law 76 = .ok (.iload_n 2, 1) := by decide +kernel
theorem dX10_law_77 : decode cX10_law 77 = .ok (.iaload, 1) := by decide +kernel
theorem dX10_law_78 : decode cX10_law 78 = .ok (.invokestatic 100, 3) := by decide +kernel
theorem dX10_law_81 : decode cX10_law 81 = .ok (.iadd, 1) := by decide +kernel
theorem dX10_law_82 : decode cX10_law 82 = .ok (.istore_n 1, 1) := by decide +kernel
theorem dX10_law_83 : decode cX10_law 83 = .ok (.iinc 2 1, 3) := by decide +kernel
theorem dX10_law_86 : decode cX10_law 86 = .ok (.goto (-68), 3) := by decide +kernel
theorem dX10_law_89 : decode cX10_law 89 = .ok (.aload_n 0, 1) := by decide +kernel
theorem dX10_law_90 : decode cX10_law 90 = .ok (.iconst 1, 1) := by decide +kernel
theorem dX10_law_91 : decode cX10_law 91 = .ok (.putfield 104, 3) := by decide +kernel
theorem dX10_law_94 : decode cX10_law 94 = .ok (.aload_n 0, 1) := by decide +kernel
theorem dX10_law_95 : decode cX10_law 95 = .ok (.dup, 1) := by decide +kernel
theorem dX10_law_96 : decode cX10_law 96 = .ok (.getfield 107, 3) := by decide +kernel
theorem dX10_law_99 : decode cX10_law 99 = .ok (.iconst 1, 1) := by decide +kernel
theorem dX10_law_100 : decode cX10_law 100 = .ok (.iadd, 1) := by decide +kernel
theorem dX10_law_101 : decode cX10_law 101 = .ok (.putfield 107, 3) := by decide +kernel
theorem dX10_law_104 : decode cX10_law 104 = .ok (.aload_n 0, 1) := by decide +kernel
theorem dX10_law_105 : decode cX10_law 105 = .ok (.iconst 0, 1) := by decide +kernel
theorem dX10_law_106 : decode cX10_law 106 = .ok (.putfield 110, 3) := by decide +kernel
theorem dX10_law_109 : decode cX10_law 109 = .ok (.aload_n 0, 1) := by decide +kernel
theorem dX10_law_110 : decode cX10_law 110 = .ok (.iconst 0, 1) := by decide +kernel
theorem dX10_law_111 : decode cX10_law 111 = .ok (.putfield 113, 3) := by decide +kernel
theorem dX10_law_114 : decode cX10_law 114 = .ok (.aload_n 0, 1) := by decide +kernel
theorem dX10_law_115 : decode cX10_law 115 = .ok (.iconst (-1), 1) := by decide +kernel
theorem dX10_law_116 : decode cX10_law 116 = .ok (.putfield 28, 3) := by decide +kernel
theorem dX10_law_119 : decode cX10_law 119 = .ok (.aload_n 0, 1) := by decide +kernel
theorem dX10_law_120 : decode cX10_law 120 = .ok (.iconst 0, 1) := by decide +kernel
theorem dX10_law_121 : decode cX10_law 121 = .ok (.putfield 116, 3) := by decide +kernel
theorem dX10_law_124 : decode cX10_law 124 = .ok (.aload_n 0, 1) := by decide +kernel
theorem dX10_law_125 : decode cX10_law 125 = .ok (.iconst 0, 1) := by decide +kernel
theorem dX10_law_126 : decode cX10_law 126 = .ok (.putfield 72, 3) := by decide +kernel
theorem dX10_law_129 : decode cX10_law 129 = .ok (.iload_n 1, 1) := by decide +kernel
theorem dX10_law_130 : decode cX10_law 130 = .ok (.ireturn, 1) := by decide +kernel
set_option maxRecDepth 20000 in
theorem ggX10_isTown_X10_within : GoodIn wsX10_isTown wsX10_within := goodIn_r _ [4] (by decide +kernel) (by decide +kernel)
set_option maxRecDepth 20000 in
theorem gX10_isTown_X10_within : GoodIn wsX10_isTown (va_wsS RX10 75 yX10_within wsX10_within) := goodIn_app (goodIn_of _ (by decide +kernel)) ggX10_isTown_X10_within
theorem dX10_isTown_0 : decode cX10_isTown 0 = .ok (.iload_n 0, 1) := by decide +kernel
theorem dX10_isTown_1 : decode cX10_isTown 1 = .ok (.iconst 0, 1) := by decide +kernel
theorem dX10_isTown_2 : decode cX10_isTown 2 = .ok (.iconst 3, 1) := by decide +kernel
theorem dX10_isTown_3 : decode cX10_isTown 3 = .ok (.invokestatic 75, 3) := by decide +kernel
theorem dX10_isTown_6 : decode cX10_isTown 6 = .ok (.ireturn, 1) := by decide +kernel
set_option maxRecDepth 20000 in
theorem ggX10_townNow_X10_townIn : GoodIn wsX10_townNow wsX10_townIn := goodIn_r _ [10] (by decide +kernel) (by decide +kernel)
set_option maxRecDepth 20000 in
theorem gX10_townNow_X10_townIn : GoodIn wsX10_townNow (va_wsS RX10 119 yX10_townIn wsX10_townIn) := goodIn_app (goodIn_of _ (by decide +kernel)) ggX10_townNow_X10_townIn
theorem dX10_townNow_0 : decode cX10_townNow 0 = .ok (.iload_n 2, 1) := by decide +kernel
theorem dX10_townNow_1 : decode cX10_townNow 1 = .ok (.tableswitch 59 0 3 #[31, 38, 45, 52], 31) := by decide +kernel
theorem dX10_townNow_32 : decode cX10_townNow 32 = .ok (.aload_n 0, 1) := by decide +kernel
theorem dX10_townNow_33 : decode cX10_townNow 33 = .ok (.getfield 7, 3) := by decide +kernel
theorem dX10_townNow_36 : decode cX10_townNow 36 = .ok (.iload_n 1, 1) := by decide +kernel
theorem dX10_townNow_37 : decode cX10_townNow 37 = .ok (.iaload, 1) := by decide +kernel
theorem dX10_townNow_38 : decode cX10_townNow 38 = .ok (.ireturn, 1) := by decide +kernel
theorem dX10_townNow_39 : decode cX10_townNow 39 = .ok (.aload_n 0, 1) := by decide +kernel
theorem dX10_townNow_40 : decode cX10_townNow 40 = .ok (.getfield 13, 3) := by decide +kernel
theorem dX10_townNow_43 : decode cX10_townNow 43 = .ok (.iload_n 1, 1) := by decide +kernel
theorem dX10_townNow_44 : decode cX10_townNow 44 = .ok (.iaload, 1) := by decide +kernel
theorem dX10_townNow_45 : decode cX10_townNow 45 = .ok (.ireturn, 1) := by decide +kernel
theorem dX10_townNow_46 : decode cX10_townNow 46 = .ok (.aload_n 0, 1) := by decide +kernel
theorem dX10_townNow_47 : decode cX10_townNow 47 = .ok (.getfield 16, 3) := by decide +kernel
theorem dX10_townNow_50 : decode cX10_townNow 50 = .ok (.iload_n 1, 1) := by decide +kernel
theorem dX10_townNow_51 : decode cX10_townNow 51 = .ok (.iaload, 1) := by decide +kernel
theorem dX10_townNow_52 : decode cX10_townNow 52 = .ok (.ireturn, 1) := by decide +kernel
theorem dX10_townNow_53 : decode cX10_townNow 53 = .ok (.aload_n 0, 1) := by decide +kernel
theorem dX10_townNow_54 : decode cX10_townNow 54 = .ok (.getfield 19, 3) := by decide +kernel
theorem dX10_townNow_57 : decode cX10_townNow 57 = .ok (.iload_n 1, 1) := by decide +kernel
theorem dX10_townNow_58 : decode cX10_townNow 58 = .ok (.iaload, 1) := by decide +kernel
theorem dX10_townNow_59 : decode cX10_townNow 59 = .ok (.ireturn, 1) := by decide +kernel
theorem dX10_townNow_60 : decode cX10_townNow 60 = .ok (.iconst 0, 1) := by decide +kernel
theorem dX10_townNow_61 : decode cX10_townNow 61 = .ok (.istore_n 3, 1) := by decide +kernel
theorem dX10_townNow_62 : decode cX10_townNow 62 = .ok (.iconst 0, 1) := by decide +kernel
theorem dX10_townNow_63 : decode cX10_townNow 63 = .ok (.istore 4, 2) := by decide +kernel
theorem dX10_townNow_65 : decode cX10_townNow 65 = .ok (.iload 4, 2) := by decide +kernel
theorem dX10_townNow_67 : decode cX10_townNow 67 = .ok (.aload_n 0, 1) := by decide +kernel
theorem dX10_townNow_68 : decode cX10_townNow 68 = .ok (.getfield 110, 3) := by decide +kernel
theorem dX10_townNow_71 : decode cX10_townNow 71 = .ok (.if_icmp .ge 31, 3) := by decide +kernel
theorem dX10_townNow_74 : decode cX10_townNow 74 = .ok (.iload_n 3, 1) := by decide +kernel
theorem dX10_townNow_75 : decode cX10_townNow 75 = .ok (.aload_n 0, 1) := by decide +kernel
theorem dX10_townNow_76 : decode cX10_townNow 76 = .ok (.getfield 25, 3) := by decide +kernel
theorem dX10_townNow_79 : decode cX10_townNow 79 = .ok (.iload 4, 2) := by decide +kernel
theorem dX10_townNow_81 : decode cX10_townNow 81 = .ok (.iaload, 1) := by decide +kernel
theorem dX10_townNow_82 : decode cX10_townNow 82 = .ok (.invokestatic 119, 3) := by decide +kernel
theorem dX10_townNow_85 : decode cX10_townNow 85 = .ok (.iload_n 1, 1) := by decide +kernel
theorem dX10_townNow_86 : decode cX10_townNow 86 = .ok (.if_icmp .ne 7, 3) := by decide +kernel
theorem dX10_townNow_89 : decode cX10_townNow 89 = .ok (.iconst 1, 1) := by decide +kernel
theorem dX10_townNow_90 : decode cX10_townNow 90 = .ok (.goto 4, 3) := by decide +kernel
theorem dX10_townNow_93 : decode cX10_townNow 93 = .ok (.iconst 0, 1) := by decide +kernel
theorem dX10_townNow_94 : decode cX10_townNow 94 = .ok (.iadd, 1) := by decide +kernel
theorem dX10_townNow_95 : decode cX10_townNow 95 = .ok (.istore_n 3, 1) := by decide +kernel
theorem dX10_townNow_96 : decode cX10_townNow 96 = .ok (.iinc 4 1, 3) := by decide +kernel
theorem dX10_townNow_99 : decode cX10_townNow 99 = .ok (.goto (-34), 3) := by decide +kernel
theorem dX10_townNow_102 : decode cX10_townNow 102 = .ok (.iload_n 3, 1) := by decide +kernel
theorem dX10_townNow_103 : decode cX10_townNow 103 = .ok (.ireturn, 1) := by decide +kernel
set_option maxRecDepth 20000 in
theorem ggX10_town_X10_isTown : GoodIn wsX10_town wsX10_isTown := goodIn_r _ [5, 6, 7, 4, 8] (by decide +kernel) (by decide +kernel)
set_option maxRecDepth 20000 in
theorem gX10_town_X10_isTown : GoodIn wsX10_town (va_wsS RX10 122 yX10_isTown wsX10_isTown) := goodIn_app (goodIn_of _ (by decide +kernel)) ggX10_town_X10_isTown
set_option maxRecDepth 20000 in
theorem ggX10_town_X10_within : GoodIn wsX10_town wsX10_within := goodIn_r _ [8] (by decide +kernel) (by decide +kernel)
set_option maxRecDepth 20000 in
theorem gX10_town_X10_within : GoodIn wsX10_town (va_wsS RX10 75 yX10_within wsX10_within) := goodIn_app (goodIn_of _ (by decide +kernel)) ggX10_town_X10_within
set_option maxRecDepth 20000 in
theorem ggX10_town_X10_townNow : GoodIn wsX10_town wsX10_townNow := goodIn_r _ [12, 13, 14, 15, 16, 17, 18, 19, 20, 4, 21, 22, 23, 24, 25, 26, 27, 28, 29, 30, 31, 32, 33, 34, 35, 36, 37, 38, 39, 40, 41, 42, 43, 44, 45, 46, 47, 48, 49, 50, 51, 52, 53, 54, 55, 56, 57, 58, 59] (by decide +kernel) (by decide +kernel)
set_option maxRecDepth 20000 in
theorem gX10_town_X10_townNow : GoodIn wsX10_town (wsV RX10 126 RX10 yX10_townNow wsX10_townNow) := goodIn_app (goodIn_of _ (by decide +kernel)) ggX10_town_X10_townNow
theorem dX10_town_0 : decode cX10_town 0 = .ok (.iload_n 1, 1) := by decide +kernel
theorem dX10_town_1 : decode cX10_town 1 = .ok (.invokestatic 122, 3) := by decide +kernel
theorem dX10_town_4 : decode cX10_town 4 = .ok (.ifCond .ne 6, 3) := by decide +kernel
theorem dX10_town_7 : decode cX10_town 7 = .ok (.bipush (-101), 2) := by decide +kernel
theorem dX10_town_9 : decode cX10_town 9 = .ok (.ireturn, 1) := by decide +kernel
theorem dX10_town_10 : decode cX10_town 10 = .ok (.iload_n 2, 1) := by decide +kernel
theorem dX10_town_11 : decode cX10_town 11 = .ok (.iconst 0, 1) := by decide +kernel
theorem dX10_town_12 : decode cX10_town 12 = .ok (.iconst 4, 1) := by decide +kernel
theorem dX10_town_13 : decode cX10_town 13 = .ok (.invokestatic 75, 3) := by decide +kernel
theorem dX10_town_16 : decode cX10_town 16 = .ok (.ifCond .ne 6, 3) := by decide +kernel
theorem dX10_town_19 : decode cX10_town 19 = .ok (.bipush (-102), 2) := by decide +kernel
theorem dX10_town_21 : decode cX10_town 21 = .ok (.ireturn, 1) := by decide +kernel
theorem dX10_town_22 : decode cX10_town 22 = .ok (.aload_n 0, 1) := by decide +kernel
theorem dX10_town_23 : decode cX10_town 23 = .ok (.getfield 104, 3) := by decide +kernel
theorem dX10_town_26 : decode cX10_town 26 = .ok (.ifCond .eq 12, 3) := by decide +kernel
theorem dX10_town_29 : decode cX10_town 29 = .ok (.aload_n 0, 1) := by decide +kernel
theorem dX10_town_30 : decode cX10_town 30 = .ok (.iload_n 1, 1) := by decide +kernel
theorem dX10_town_31 : decode cX10_town 31 = .ok (.iload_n 2, 1) := by decide +kernel
theorem dX10_town_32 : decode cX10_town 32 = .ok (.invokevirtual 126, 3) := by decide +kernel
theorem dX10_town_35 : decode cX10_town 35 = .ok (.goto 5, 3) := by decide +kernel
theorem dX10_town_38 : decode cX10_town 38 = .ok (.bipush (-103), 2) := by decide +kernel
theorem dX10_town_40 : decode cX10_town 40 = .ok (.ireturn, 1) := by decide +kernel
set_option maxRecDepth 20000 in
theorem ggX10_price_X10_isTown : GoodIn wsX10_price wsX10_isTown := goodIn_r _ [6, 7, 8, 5, 9] (by decide +kernel) (by decide +kernel)
set_option maxRecDepth 20000 in
theorem gX10_price_X10_isTown : GoodIn wsX10_price (va_wsS RX10 122 yX10_isTown wsX10_isTown) := goodIn_app (goodIn_of _ (by decide +kernel)) ggX10_price_X10_isTown
set_option maxRecDepth 20000 in
theorem ggX10_price_X10_within : GoodIn wsX10_price wsX10_within := goodIn_r _ [9] (by decide +kernel) (by decide +kernel)
set_option maxRecDepth 20000 in
theorem gX10_price_X10_within : GoodIn wsX10_price (va_wsS RX10 75 yX10_within wsX10_within) := goodIn_app (goodIn_of _ (by decide +kernel)) ggX10_price_X10_within
theorem dX10_price_0 : decode cX10_price 0 = .ok (.iload_n 1, 1) := by decide +kernel
theorem dX10_price_1 : decode cX10_price 1 = .ok (.invokestatic 122, 3) := by decide +kernel
theorem dX10_price_4 : decode cX10_price 4 = .ok (.ifCond .ne 6, 3) := by decide +kernel
theorem dX10_price_7 : decode cX10_price 7 = .ok (.bipush (-101), 2) := by decide +kernel
theorem dX10_price_9 : decode cX10_price 9 = .ok (.ireturn, 1) := by decide +kernel
theorem dX10_price_10 : decode cX10_price 10 = .ok (.iload_n 2, 1) := by decide +kernel
theorem dX10_price_11 : decode cX10_price 11 = .ok (.iconst 1, 1) := by decide +kernel
theorem dX10_price_12 : decode cX10_price 12 = .ok (.iconst 4, 1) := by decide +kernel
theorem dX10_price_13 : decode cX10_price 13 = .ok (.invokestatic 75, 3) := by decide +kernel
theorem dX10_price_16 : decode cX10_price 16 = .ok (.ifCond .ne 6, 3) := by decide +kernel
theorem dX10_price_19 : decode cX10_price 19 = .ok (.bipush (-102), 2) := by decide +kernel
theorem dX10_price_21 : decode cX10_price 21 = .ok (.ireturn, 1) := by decide +kernel
theorem dX10_price_22 : decode cX10_price 22 = .ok (.aload_n 0, 1) := by decide +kernel
theorem dX10_price_23 : decode cX10_price 23 = .ok (.getfield 104, 3) := by decide +kernel
theorem dX10_price_26 : decode cX10_price 26 = .ok (.ifCond .ne 6, 3) := by decide +kernel
theorem dX10_price_29 : decode cX10_price 29 = .ok (.bipush (-103), 2) := by decide +kernel
theorem dX10_price_31 : decode cX10_price 31 = .ok (.ireturn, 1) := by decide +kernel
theorem dX10_price_32 : decode cX10_price 32 = .ok (.aload_n 0, 1) := by decide +kernel
theorem dX10_price_33 : decode cX10_price 33 = .ok (.getfield 16, 3) := by decide +kernel
theorem dX10_price_36 : decode cX10_price 36 = .ok (.iload_n 1, 1) := by decide +kernel
theorem dX10_price_37 : decode cX10_price 37 = .ok (.iaload, 1) := by decide +kernel
theorem dX10_price_38 : decode cX10_price 38 = .ok (.istore_n 3, 1) := by decide +kernel
theorem dX10_price_39 : decode cX10_price 39 = .ok (.aload_n 0, 1) := by decide +kernel
theorem dX10_price_40 : decode cX10_price 40 = .ok (.getfield 16, 3) := by decide +kernel
theorem dX10_price_43 : decode cX10_price 43 = .ok (.iload_n 1, 1) := by decide +kernel
theorem dX10_price_44 : decode cX10_price 44 = .ok (.iload_n 2, 1) := by decide +kernel
theorem dX10_price_45 : decode cX10_price 45 = .ok (.iastore, 1) := by decide +kernel
theorem dX10_price_46 : decode cX10_price 46 = .ok (.iload_n 3, 1) := by decide +kernel
theorem dX10_price_47 : decode cX10_price 47 = .ok (.ireturn, 1) := by decide +kernel
theorem dX10_townIn_0 : decode cX10_townIn 0 = .ok (.iload_n 0, 1) := by decide +kernel
theorem dX10_townIn_1 : decode cX10_townIn 1 = .ok (.iconst 4, 1) := by decide +kernel
theorem dX10_townIn_2 : decode cX10_townIn 2 = .ok (.irem, 1) := by decide +kernel
theorem dX10_townIn_3 : decode cX10_townIn 3 = .ok (.ireturn, 1) := by decide +kernel
theorem dX10_purseIn_0 : decode cX10_purseIn 0 = .ok (.iload_n 0, 1) := by decide +kernel
theorem dX10_purseIn_1 : decode cX10_purseIn 1 = .ok (.iconst 4, 1) := by decide +kernel
theorem dX10_purseIn_2 : decode cX10_purseIn 2 = .ok (.idiv, 1) := by decide +kernel
theorem dX10_purseIn_3 : decode cX10_purseIn 3 = .ok (.sipush 625, 3) := by decide +kernel
theorem dX10_purseIn_6 : decode cX10_purseIn 6 = .ok (.irem, 1) := by decide +kernel
theorem dX10_purseIn_7 : decode cX10_purseIn 7 = .ok (.ireturn, 1) := by decide +kernel
theorem dX10_goodsIn_0 : decode cX10_goodsIn 0 = .ok (.iload_n 0, 1) := by decide +kernel
theorem dX10_goodsIn_1 : decode cX10_goodsIn 1 = .ok (.sipush 2500, 3) := by decide +kernel
theorem dX10_goodsIn_4 : decode cX10_goodsIn 4 = .ok (.idiv, 1) := by decide +kernel
theorem dX10_goodsIn_5 : decode cX10_goodsIn 5 = .ok (.ireturn, 1) := by decide +kernel
theorem dX10_weight_0 : decode cX10_weight 0 = .ok (.iload_n 0, 1) := by decide +kernel
theorem dX10_weight_1 : decode cX10_weight 1 = .ok (.ifCond .ne 7, 3) := by decide +kernel
theorem dX10_weight_4 : decode cX10_weight 4 = .ok (.iconst 1, 1) := by decide +kernel
theorem dX10_weight_5 : decode cX10_weight 5 = .ok (.goto 24, 3) := by decide +kernel
theorem dX10_weight_8 : decode cX10_weight 8 = .ok (.iload_n 0, 1) := by decide +kernel
theorem dX10_weight_9 : decode cX10_weight 9 = .ok (.iconst 1, 1) := by decide +kernel
theorem dX10_weight_10 : decode cX10_weight 10 = .ok (.if_icmp .ne 7, 3) := by decide +kernel
theorem dX10_weight_13 : decode cX10_weight 13 = .ok (.iconst 5, 1) := by decide +kernel
theorem dX10_weight_14 : decode cX10_weight 14 = .ok (.goto 15, 3) := by decide +kernel
theorem dX10_weight_17 : decode cX10_weight 17 = .ok (.iload_n 0, 1) := by decide +kernel
theorem dX10_weight_18 : decode cX10_weight 18 = .ok (.iconst 2, 1) := by decide +kernel
theorem dX10_weight_19 : decode cX10_weight 19 = .ok (.if_icmp .ne 8, 3) := by decide +kernel
theorem dX10_weight_22 : decode cX10_weight 22 = .ok (.bipush 25, 2) := by decide +kernel
theorem dX10_weight_24 : decode cX10_weight 24 = .ok (.goto 5, 3) := by decide +kernel
theorem dX10_weight_27 : decode cX10_weight 27 = .ok (.bipush 125, 2) := by decide +kernel
theorem dX10_weight_29 : decode cX10_weight 29 = .ok (.ireturn, 1) := by decide +kernel
set_option maxRecDepth 20000 in
theorem ggX10_coins_X10_purseIn : GoodIn wsX10_coins wsX10_purseIn := goodIn_r _ [4] (by decide +kernel) (by decide +kernel)
set_option maxRecDepth 20000 in
theorem gX10_coins_X10_purseIn : GoodIn wsX10_coins (va_wsS RX10 129 yX10_purseIn wsX10_purseIn) := goodIn_app (goodIn_of _ (by decide +kernel)) ggX10_coins_X10_purseIn
set_option maxRecDepth 20000 in
theorem ggX10_coins_X10_weight : GoodIn wsX10_coins wsX10_weight := goodIn_r _ [7] (by decide +kernel) (by decide +kernel)
set_option maxRecDepth 20000 in
theorem gX10_coins_X10_weight : GoodIn wsX10_coins (va_wsS RX10 132 yX10_weight wsX10_weight) := goodIn_app (goodIn_of _ (by decide +kernel)) ggX10_coins_X10_weight
theorem dX10_coins_0 : decode cX10_coins 0 = .ok (.iload_n 0, 1) := by decide +kernel
theorem dX10_coins_1 : decode cX10_coins 1 = .ok (.invokestatic 129, 3) := by decide +kernel
theorem dX10_coins_4 : decode cX10_coins 4 = .ok (.iload_n 1, 1) := by decide +kernel
theorem dX10_coins_5 : decode cX10_coins 5 = .ok (.invokestatic 132, 3) := by decide +kernel
theorem dX10_coins_8 : decode cX10_coins 8 = .ok (.idiv, 1) := by decide +kernel
theorem dX10_coins_9 : decode cX10_coins 9 = .ok (.iconst 5, 1) := by decide +kernel
theorem dX10_coins_10 : decode cX10_coins 10 = .ok (.irem, 1) := by decide +kernel
theorem dX10_coins_11 : decode cX10_coins 11 = .ok (.ireturn, 1) := by decide +kernel
set_option maxRecDepth 20000 in
theorem ggX10_coinsAll_X10_coins : GoodIn wsX10_coinsAll wsX10_coins := goodIn_r _ [4, 5, 6, 3, 7, 8, 9, 10] (by decide +kernel) (by decide +kernel)
set_option maxRecDepth 20000 in
theorem gX10_coinsAll_X10_coins : GoodIn wsX10_coinsAll (va_wsS RX10 135 yX10_coins wsX10_coins) := goodIn_app (goodIn_of _ (by decide +kernel)) ggX10_coinsAll_X10_coins
theorem dX10_coinsAll_0 : decode cX10_coinsAll 0 = .ok (.iload_n 0, 1) := by decide +kernel
theorem dX10_coinsAll_1 : decode cX10_coinsAll 1 = .ok (.iconst 0, 1) := by decide +kernel
theorem dX10_coinsAll_2 : decode cX10_coinsAll 2 = .ok (.invokestatic 135, 3) := by decide +kernel
theorem dX10_coinsAll_5 : decode cX10_coinsAll 5 = .ok (.iload_n 0, 1) := by decide +kernel
theorem dX10_coinsAll_6 : decode cX10_coinsAll 6 = .ok (.iconst 1, 1) := by decide +kernel
theorem dX10_coinsAll_7 : decode cX10_coinsAll 7 = .ok (.invokestatic 135, 3) := by decide +kernel
theorem dX10_coinsAll_10 : decode cX10_coinsAll 10 = .ok (.iadd, 1) := by decide +kernel
theorem dX10_coinsAll_11 : decode cX10_coinsAll 11 = .ok (.iload_n 0, 1) := by decide +kernel
theorem dX10_coinsAll_12 : decode cX10_coinsAll 12 = .ok (.iconst 2, 1) := by decide +kernel
theorem dX10_coinsAll_13 : decode cX10_coinsAll 13 = .ok (.invokestatic 135, 3) := by decide +kernel
theorem dX10_coinsAll_16 : decode cX10_coinsAll 16 = .ok (.iadd, 1) := by decide +kernel
theorem dX10_coinsAll_17 : decode cX10_coinsAll 17 = .ok (.iload_n 0, 1) := by decide +kernel
theorem dX10_coinsAll_18 : decode cX10_coinsAll 18 = .ok (.iconst 3, 1) := by decide +kernel
theorem dX10_coinsAll_19 : decode cX10_coinsAll 19 = .ok (.invokestatic 135, 3) := by decide +kernel
theorem dX10_coinsAll_22 : decode cX10_coinsAll 22 = .ok (.iadd, 1) := by decide +kernel
theorem dX10_coinsAll_23 : decode cX10_coinsAll 23 = .ok (.ireturn, 1) := by decide +kernel
set_option maxRecDepth 20000 in
theorem ggX10_withCoins_X10_weight : GoodIn wsX10_withCoins wsX10_weight := goodIn_r _ [4] (by decide +kernel) (by decide +kernel)
set_option maxRecDepth 20000 in
theorem gX10_withCoins_X10_weight : GoodIn wsX10_withCoins (va_wsS RX10 132 yX10_weight wsX10_weight) := goodIn_app (goodIn_of _ (by decide +kernel)) ggX10_withCoins_X10_weight
theorem dX10_withCoins_0 : decode cX10_withCoins 0 = .ok (.iload_n 0, 1) := by decide +kernel
theorem dX10_withCoins_1 : decode cX10_withCoins 1 = .ok (.iconst 4, 1) := by decide +kernel
theorem dX10_withCoins_2 : decode cX10_withCoins 2 = .ok (.iload_n 1, 1) := by decide +kernel
theorem dX10_withCoins_3 : decode cX10_withCoins 3 = .ok (.invokestatic 132, 3) := by decide +kernel
theorem dX10_withCoins_6 : decode cX10_withCoins 6 = .ok (.imul, 1) := by decide +kernel
theorem dX10_withCoins_7 : decode cX10_withCoins 7 = .ok (.iload_n 2, 1) := by decide +kernel
theorem dX10_withCoins_8 : decode cX10_withCoins 8 = .ok (.imul, 1) := by decide +kernel
theorem dX10_withCoins_9 : decode cX10_withCoins 9 = .ok (.iadd, 1) := by decide +kernel
theorem dX10_withCoins_10 : decode cX10_withCoins 10 = .ok (.ireturn, 1) := by decide +kernel
theorem dX10_costs_0 : decode cX10_costs 0 = .ok (.iload_n 1, 1) := by decide +kernel
theorem dX10_costs_1 : decode cX10_costs 1 = .ok (.iconst 1, 1) := by decide +kernel
theorem dX10_costs_2 : decode cX10_costs 2 = .ok (.if_icmp .ne 24, 3) := by decide +kernel
theorem dX10_costs_5 : decode cX10_costs 5 = .ok (.aload_n 0, 1) := by decide +kernel
theorem dX10_costs_6 : decode cX10_costs 6 = .ok (.getfield 16, 3) := by decide +kernel
theorem dX10_costs_9 : decode cX10_costs 9 = .ok (.iload_n 2, 1) := by decide +kernel
theorem dX10_costs_10 : decode cX10_costs 10 = .ok (.iaload, 1) := by decide +kernel
theorem dX10_costs_11 : decode cX10_costs 11 = .ok (.iconst 1, 1) := by decide +kernel
theorem dX10_costs_12 : decode cX10_costs 12 = .ok (.if_icmp .le 14, 3) := by decide +kernel
theorem dX10_costs_15 : decode cX10_costs 15 = .ok (.aload_n 0, 1) := by decide +kernel
theorem dX10_costs_16 : decode cX10_costs 16 = .ok (.getfield 16, 3) := by decide +kernel
theorem dX10_costs_19 : decode cX10_costs 19 = .ok (.iload_n 2, 1) := by decide +kernel
theorem dX10_costs_20 : decode cX10_costs 20 = .ok (.iaload, 1) := by decide +kernel
theorem dX10_costs_21 : decode cX10_costs 21 = .ok (.iconst 1, 1) := by decide +kernel
theorem dX10_costs_22 : decode cX10_costs 22 = .ok (.isub, 1) := by decide +kernel
theorem dX10_costs_23 : decode cX10_costs 23 = .ok (.goto 9, 3) := by decide +kernel
theorem dX10_costs_26 : decode cX10_costs 26 = .ok (.aload_n 0, 1) := by decide +kernel
theorem dX10_costs_27 : decode cX10_costs 27 = .ok (.getfield 16, 3) := by decide +kernel
theorem dX10_costs_30 : decode cX10_costs 30 = .ok (.iload_n 2, 1) := by decide +kernel
theorem dX10_costs_31 : decode cX10_costs 31 = .ok (.iaload, 1) := by decide +kernel
theorem dX10_costs_32 : decode cX10_costs 32 = .ok (.ireturn, 1) := by decide +kernel
theorem dX10_gets_0 : decode cX10_gets 0 = .ok (.aload_n 0, 1) := by decide +kernel
theorem dX10_gets_1 : decode cX10_gets 1 = .ok (.getfield 19, 3) := by decide +kernel
theorem dX10_gets_4 : decode cX10_gets 4 = .ok (.iload_n 2, 1) := by decide +kernel
theorem dX10_gets_5 : decode cX10_gets 5 = .ok (.iaload, 1) := by decide +kernel
theorem dX10_gets_6 : decode cX10_gets 6 = .ok (.iload_n 1, 1) := by decide +kernel
theorem dX10_gets_7 : decode cX10_gets 7 = .ok (.iconst 3, 1) := by decide +kernel
theorem dX10_gets_8 : decode cX10_gets 8 = .ok (.if_icmp .ne 7, 3) := by decide +kernel
theorem dX10_gets_11 : decode cX10_gets 11 = .ok (.iconst 1, 1) := by decide +kernel
theorem dX10_gets_12 : decode cX10_gets 12 = .ok (.goto 13, 3) := by decide +kernel
theorem dX10_gets_15 : decode cX10_gets 15 = .ok (.iload_n 1, 1) := by decide +kernel
theorem dX10_gets_16 : decode cX10_gets 16 = .ok (.iconst 4, 1) := by decide +kernel
theorem dX10_gets_17 : decode cX10_gets 17 = .ok (.if_icmp .ne 7, 3) := by decide +kernel
theorem dX10_gets_20 : decode cX10_gets 20 = .ok (.iconst 2, 1) := by decide +kernel
theorem dX10_gets_21 : decode cX10_gets 21 = .ok (.goto 4, 3) := by decide +kernel
theorem dX10_gets_24 : decode cX10_gets 24 = .ok (.iconst 0, 1) := by decide +kernel
theorem dX10_gets_25 : decode cX10_gets 25 = .ok (.iadd, 1) := by decide +kernel
theorem dX10_gets_26 : decode cX10_gets 26 = .ok (.ireturn, 1) := by decide +kernel
set_option maxRecDepth 20000 in
theorem ggX10_mayPay_X10_has : GoodIn wsX10_mayPay wsX10_has := goodIn_r _ [5] (by decide +kernel) (by decide +kernel)
set_option maxRecDepth 20000 in
theorem gX10_mayPay_X10_has : GoodIn wsX10_mayPay (va_wsS RX10 82 yX10_has wsX10_has) := goodIn_app (goodIn_of _ (by decide +kernel)) ggX10_mayPay_X10_has
theorem dX10_mayPay_0 : decode cX10_mayPay 0 = .ok (.iload_n 1, 1) := by decide +kernel
theorem dX10_mayPay_1 : decode cX10_mayPay 1 = .ok (.iconst 2, 1) := by decide +kernel
theorem dX10_mayPay_2 : decode cX10_mayPay 2 = .ok (.if_icmp .eq 21, 3) := by decide +kernel
theorem dX10_mayPay_5 : decode cX10_mayPay 5 = .ok (.iload_n 1, 1) := by decide +kernel
theorem dX10_mayPay_6 : decode cX10_mayPay 6 = .ok (.iconst 4, 1) := by decide +kernel
theorem dX10_mayPay_7 : decode cX10_mayPay 7 = .ok (.if_icmp .eq 16, 3) := by decide +kernel
theorem dX10_mayPay_10 : decode cX10_mayPay 10 = .ok (.aload_n 0, 1) := by decide +kernel
theorem dX10_mayPay_11 : decode cX10_mayPay 11 = .ok (.getfield 7, 3) := by decide +kernel
theorem dX10_mayPay_14 : decode cX10_mayPay 14 = .ok (.iload_n 2, 1) := by decide +kernel
theorem dX10_mayPay_15 : decode cX10_mayPay 15 = .ok (.iaload, 1) := by decide +kernel
theorem dX10_mayPay_16 : decode cX10_mayPay 16 = .ok (.iload_n 3, 1) := by decide +kernel
theorem dX10_mayPay_17 : decode cX10_mayPay 17 = .ok (.invokestatic 82, 3) := by decide +kernel
theorem dX10_mayPay_20 : decode cX10_mayPay 20 = .ok (.ifCond .eq 7, 3) := by decide +kernel
theorem dX10_mayPay_23 : decode cX10_mayPay 23 = .ok (.iconst 1, 1) := by decide +kernel
theorem dX10_mayPay_24 : decode cX10_mayPay 24 = .ok (.goto 4, 3) := by decide +kernel
theorem dX10_mayPay_27 : decode cX10_mayPay 27 = .ok (.iconst 0, 1) := by decide +kernel
theorem dX10_mayPay_28 : decode cX10_mayPay 28 = .ok (.ireturn, 1) := by decide +kernel
set_option maxRecDepth 20000 in
theorem ggX10_behind_X10_townIn : GoodIn wsX10_behind wsX10_townIn := goodIn_r _ [5] (by decide +kernel) (by decide +kernel)
set_option maxRecDepth 20000 in
theorem gX10_behind_X10_townIn : GoodIn wsX10_behind (va_wsS RX10 119 yX10_townIn wsX10_townIn) := goodIn_app (goodIn_of _ (by decide +kernel)) ggX10_behind_X10_townIn
set_option maxRecDepth 20000 in
theorem ggX10_behind_X10_mayPay : GoodIn wsX10_behind wsX10_mayPay := goodIn_r _ [9, 10, 11, 12, 4, 13, 39, 40, 41, 42, 43, 44, 45, 46, 47, 48, 49, 50, 51, 52, 53, 54, 55, 56, 57, 58, 59, 60, 61, 62, 63, 64, 65, 66, 67, 68, 69, 70, 71, 72, 73, 74, 75, 76] (by decide +kernel) (by decide +kernel)
set_option maxRecDepth 20000 in
theorem gX10_behind_X10_mayPay : GoodIn wsX10_behind (wsV RX10 138 RX10 yX10_mayPay wsX10_mayPay) := goodIn_app (goodIn_of _ (by decide +kernel)) ggX10_behind_X10_mayPay
set_option maxRecDepth 20000 in
theorem ggX10_behind_X10_goodsIn : GoodIn wsX10_behind wsX10_goodsIn := goodIn_r _ [16] (by decide +kernel) (by decide +kernel)
set_option maxRecDepth 20000 in
theorem gX10_behind_X10_goodsIn : GoodIn wsX10_behind (va_wsS RX10 141 yX10_goodsIn wsX10_goodsIn) := goodIn_app (goodIn_of _ (by decide +kernel)) ggX10_behind_X10_goodsIn
set_option maxRecDepth 20000 in
theorem ggX10_behind_X10_has : GoodIn wsX10_behind wsX10_has := goodIn_r _ [13] (by decide +kernel) (by decide +kernel)
set_option maxRecDepth 20000 in
theorem gX10_behind_X10_has : GoodIn wsX10_behind (va_wsS RX10 82 yX10_has wsX10_has) := goodIn_app (goodIn_of _ (by decide +kernel)) ggX10_behind_X10_has
set_option maxRecDepth 20000 in
theorem ggX10_behind_X10_coins : GoodIn wsX10_behind wsX10_coins := goodIn_r _ [19, 20, 21, 4, 22, 23, 24, 25] (by decide +kernel) (by decide +kernel)
set_option maxRecDepth 20000 in
theorem gX10_behind_X10_coins : GoodIn wsX10_behind (va_wsS RX10 135 yX10_coins wsX10_coins) := goodIn_app (goodIn_of _ (by decide +kernel)) ggX10_behind_X10_coins
set_option maxRecDepth 20000 in
theorem ggX10_behind_X10_costs : GoodIn wsX10_behind wsX10_costs := goodIn_r _ [29, 30, 39, 40, 41, 42, 43, 44, 45, 46, 47, 48, 49, 50, 51, 52, 53, 54, 55, 56, 57, 58, 59, 60, 61, 62, 63, 64, 65, 66, 67, 68, 69, 70, 71, 72, 73, 74, 75, 76] (by decide +kernel) (by decide +kernel)
set_option maxRecDepth 20000 in
theorem gX10_behind_X10_costs : GoodIn wsX10_behind (wsV RX10 144 RX10 yX10_costs wsX10_costs) := goodIn_app (goodIn_of _ (by decide +kernel)) ggX10_behind_X10_costs
set_option maxRecDepth 20000 in
theorem ggX10_behind_X10_withCoins : GoodIn wsX10_behind wsX10_withCoins := goodIn_r _ [33, 23, 24, 4, 25] (by decide +kernel) (by decide +kernel)
set_option maxRecDepth 20000 in
theorem gX10_behind_X10_withCoins : GoodIn wsX10_behind (va_wsS RX10 147 yX10_withCoins wsX10_withCoins) := goodIn_app (goodIn_of _ (by decide +kernel)) ggX10_behind_X10_withCoins
set_option maxRecDepth 20000 in
theorem ggX10_behind_X10_gets : GoodIn wsX10_behind wsX10_gets := goodIn_r _ [37, 38, 39, 40, 41, 42, 43, 44, 45, 46, 47, 48, 49, 50, 51, 52, 53, 54, 55, 56, 57, 58, 59, 60, 61, 62, 63, 64, 65, 66, 67, 68, 69, 70, 71, 72, 73, 74, 75, 76] (by decide +kernel) (by decide +kernel)
set_option maxRecDepth 20000 in
theorem gX10_behind_X10_gets : GoodIn wsX10_behind (wsV RX10 151 RX10 yX10_gets wsX10_gets) := goodIn_app (goodIn_of _ (by decide +kernel)) ggX10_behind_X10_gets
theorem dX10_behind_0 : decode cX10_behind 0 = .ok (.iload_n 2, 1) := by decide +kernel
theorem dX10_behind_1 : decode cX10_behind 1 = .ok (.invokestatic 119, 3) := by decide +kernel
theorem dX10_behind_4 : decode cX10_behind 4 = .ok (.istore 4, 2) := by decide +kernel
theorem dX10_behind_6 : decode cX10_behind 6 = .ok (.iload_n 3, 1) := by decide +kernel
theorem dX10_behind_7 : decode cX10_behind 7 = .ok (.bipush 10, 2) := by decide +kernel
theorem dX10_behind_9 : decode cX10_behind 9 = .ok (.irem, 1) := by decide +kernel
theorem dX10_behind_10 : decode cX10_behind 10 = .ok (.istore 5, 2) := by decide +kernel
theorem dX10_behind_12 : decode cX10_behind 12 = .ok (.iload_n 3, 1) := by decide +kernel
theorem dX10_behind_13 : decode cX10_behind 13 = .ok (.bipush 10, 2) := by decide +kernel
theorem dX10_behind_15 : decode cX10_behind 15 = .ok (.if_icmp .ge 49, 3) := by decide +kernel
theorem dX10_behind_18 : decode cX10_behind 18 = .ok (.iload 4, 2) := by decide +kernel
theorem dX10_behind_20 : decode cX10_behind 20 = .ok (.iconst 1, 1) := by decide +kernel
theorem dX10_behind_21 : decode cX10_behind 21 = .ok (.iadd, 1) := by decide +kernel
theorem dX10_behind_22 : decode cX10_behind 22 = .ok (.iconst 4, 1) := by decide +kernel
theorem dX10_behind_23 : decode cX10_behind 23 = .ok (.irem, 1) := by decide +kernel
theorem dX10_behind_24 : decode cX10_behind 24 = .ok (.iload 5, 2) := by decide +kernel
theorem dX10_behind_26 : decode cX10_behind 26 = .ok (.if_icmp .eq 14, 3) := by decide +kernel
theorem dX10_behind_29 : decode cX10_behind 29 = .ok (.iload 5, 2) := by decide +kernel
theorem dX10_behind_31 : decode cX10_behind 31 = .ok (.iconst 1, 1) := by decide +kernel
theorem dX10_behind_32 : decode cX10_behind 32 = .ok (.iadd, 1) := by decide +kernel
theorem dX10_behind_33 : decode cX10_behind 33 = .ok (.iconst 4, 1) := by decide +kernel
theorem dX10_behind_34 : decode cX10_behind 34 = .ok (.irem, 1) := by decide +kernel
theorem dX10_behind_35 : decode cX10_behind 35 = .ok (.iload 4, 2) := by decide +kernel
theorem dX10_behind_37 : decode cX10_behind 37 = .ok (.if_icmp .ne 7, 3) := by decide +kernel
theorem dX10_behind_40 : decode cX10_behind 40 = .ok (.iconst 1, 1) := by decide +kernel
theorem dX10_behind_41 : decode cX10_behind 41 = .ok (.goto 4, 3) := by decide +kernel
theorem dX10_behind_44 : decode cX10_behind 44 = .ok (.iconst 0, 1) := by decide +kernel
theorem dX10_behind_45 : decode cX10_behind 45 = .ok (.istore 6, 2) := by decide +kernel
theorem dX10_behind_47 : decode cX10_behind 47 = .ok (.iload 6, 2) := by decide +kernel
theorem dX10_behind_49 : decode cX10_behind 49 = .ok (.ifCond .eq 13, 3) := by decide +kernel
theorem dX10_behind_52 : decode cX10_behind 52 = .ok (.iload_n 2, 1) := by decide +kernel
theorem dX10_behind_53 : decode cX10_behind 53 = .ok (.iload 4, 2) := by decide +kernel
theorem dX10_behind_55 : decode cX10_behind 55 = .ok (.isub, 1) := by decide +kernel
theorem dX10_behind_56 : decode cX10_behind 56 = .ok (.iload 5, 2) := by decide +kernel
theorem dX10_behind_58 : decode cX10_behind 58 = .ok (.iadd, 1) := by decide +kernel
theorem dX10_behind_59 : decode cX10_behind 59 = .ok (.goto 4, 3) := by decide +kernel
theorem dX10_behind_62 : decode cX10_behind 62 = .ok (.iconst (-1), 1) := by decide +kernel
theorem dX10_behind_63 : decode cX10_behind 63 = .ok (.ireturn, 1) := by decide +kernel
theorem dX10_behind_64 : decode cX10_behind 64 = .ok (.iload_n 3, 1) := by decide +kernel
theorem dX10_behind_65 : decode cX10_behind 65 = .ok (.bipush 20, 2) := by decide +kernel
theorem dX10_behind_67 : decode cX10_behind 67 = .ok (.if_icmp .ge 83, 3) := by decide +kernel
theorem dX10_behind_70 : decode cX10_behind 70 = .ok (.aload_n 0, 1) := by decide +kernel
theorem dX10_behind_71 : decode cX10_behind 71 = .ok (.iload_n 1, 1) := by decide +kernel
theorem dX10_behind_72 : decode cX10_behind 72 = .ok (.iload 4, 2) := by decide +kernel
theorem dX10_behind_74 : decode cX10_behind 74 = .ok (.iload 5, 2) := by decide +kernel
theorem dX10_behind_76 : decode cX10_behind 76 = .ok (.invokevirtual 138, 3) := by decide +kernel
theorem dX10_behind_79 : decode cX10_behind 79 = .ok (.ifCond .eq 35, 3) := by decide +kernel
theorem dX10_behind_82 : decode cX10_behind 82 = .ok (.iload_n 2, 1) := by decide +kernel
theorem dX10_behind_83 : decode cX10_behind 83 = .ok (.invokestatic 141, 3) := by decide +kernel
theorem dX10_behind_86 : decode cX10_behind 86 = .ok (.iload 4, 2) := by decide +kernel
theorem dX10_behind_88 : decode cX10_behind 88 = .ok (.invokestatic 82, 3) := by decide +kernel
theorem dX10_behind_91 : decode cX10_behind 91 = .ok (.ifCond .ne 23, 3) := by decide +kernel
theorem dX10_behind_94 : decode cX10_behind 94 = .ok (.iload_n 2, 1) := by decide +kernel
theorem dX10_behind_95 : decode cX10_behind 95 = .ok (.iload 5, 2) := by decide +kernel
theorem dX10_behind_97 : decode cX10_behind 97 = .ok (.invokestatic 135, 3) := by decide +kernel
theorem dX10_behind_100 : decode cX10_behind 100 = .ok (.aload_n 0, 1) := by decide +kernel
theorem dX10_behind_101 : decode cX10_behind 101 = .ok (.iload_n 1, 1) := by decide +kernel
theorem dX10_behind_102 : decode cX10_behind 102 = .ok (.iload 4, 2) := by decide +kernel
theorem dX10_behind_104 : decode cX10_behind 104 = .ok (.invokevirtual 144, 3) := by decide +kernel
theorem dX10_behind_107 : decode cX10_behind 107 = .ok (.if_icmp .lt 7, 3) := by decide +kernel
theorem dX10_behind_110 : decode cX10_behind 110 = .ok (.iconst 1, 1) := by decide +kernel
theorem dX10_behind_111 : decode cX10_behind 111 = .ok (.goto 4, 3) := by decide +kernel
theorem dX10_behind_114 : decode cX10_behind 114 = .ok (.iconst 0, 1) := by decide +kernel
theorem dX10_behind_115 : decode cX10_behind 115 = .ok (.istore 6, 2) := by decide +kernel
theorem dX10_behind_117 : decode cX10_behind 117 = .ok (.iload 6, 2) := by decide +kernel
theorem dX10_behind_119 : decode cX10_behind 119 = .ok (.ifCond .eq 29, 3) := by decide +kernel
theorem dX10_behind_122 : decode cX10_behind 122 = .ok (.iload_n 2, 1) := by decide +kernel
theorem dX10_behind_123 : decode cX10_behind 123 = .ok (.iload 5, 2) := by decide +kernel
theorem dX10_behind_125 : decode cX10_behind 125 = .ok (.aload_n 0, 1) := by decide +kernel
theorem dX10_behind_126 : decode cX10_behind 126 = .ok (.iload_n 1, 1) := by decide +kernel
theorem dX10_behind_127 : decode cX10_behind 127 = .ok (.iload 4, 2) := by decide +kernel
theorem dX10_behind_129 : decode cX10_behind 129 = .ok (.invokevirtual 144, 3) := by decide +kernel
theorem dX10_behind_132 : decode cX10_behind 132 = .ok (.ineg, 1) := by decide +kernel
theorem dX10_behind_133 : decode cX10_behind 133 = .ok (.invokestatic 147, 3) := by decide +kernel
theorem dX10_behind_136 : decode cX10_behind 136 = .ok (.sipush 2500, 3) := by decide +kernel
theorem dX10_behind_139 : decode cX10_behind 139 = .ok (.iconst 1, 1) := by decide +kernel
theorem dX10_behind_140 : decode cX10_behind 140 = .ok (.iload 4, 2) := by decide +kernel
theorem dX10_behind_142 : decode cX10_behind 142 = .ok (.ishl, 1) := by decide +kernel
theorem dX10_behind_143 : decode cX10_behind 143 = .ok (.imul, 1) := by decide +kernel
theorem dX10_behind_144 : decode cX10_behind 144 = .ok (.iadd, 1) := by decide +kernel
theorem dX10_behind_145 : decode cX10_behind 145 = .ok (.goto 4, 3) := by decide +kernel
theorem dX10_behind_148 : decode cX10_behind 148 = .ok (.iconst (-1), 1) := by decide +kernel
theorem dX10_behind_149 : decode cX10_behind 149 = .ok (.ireturn, 1) := by decide +kernel
theorem dX10_behind_150 : decode cX10_behind 150 = .ok (.iload_n 2, 1) := by decide +kernel
theorem dX10_behind_151 : decode cX10_behind 151 = .ok (.invokestatic 141, 3) := by decide +kernel
theorem dX10_behind_154 : decode cX10_behind 154 = .ok (.iload 5, 2) := by decide +kernel
theorem dX10_behind_156 : decode cX10_behind 156 = .ok (.invokestatic 82, 3) := by decide +kernel
theorem dX10_behind_159 : decode cX10_behind 159 = .ok (.ifCond .eq 37, 3) := by decide +kernel
theorem dX10_behind_162 : decode cX10_behind 162 = .ok (.iload 5, 2) := by decide +kernel
theorem dX10_behind_164 : decode cX10_behind 164 = .ok (.iload 4, 2) := by decide +kernel
theorem dX10_behind_166 : decode cX10_behind 166 = .ok (.if_icmp .eq 30, 3) := by decide +kernel
theorem dX10_behind_169 : decode cX10_behind 169 = .ok (.iload_n 2, 1) := by decide +kernel
theorem dX10_behind_170 : decode cX10_behind 170 = .ok (.aload_n 0, 1) := by decide +kernel
theorem dX10_behind_171 : decode cX10_behind 171 = .ok (.getfield 13, 3) := by decide +kernel
theorem dX10_behind_174 : decode cX10_behind 174 = .ok (.iload 4, 2) := by decide +kernel
theorem dX10_behind_176 : decode cX10_behind 176 = .ok (.iaload, 1) := by decide +kernel
theorem dX10_behind_177 : decode cX10_behind 177 = .ok (.invokestatic 135, 3) := by decide +kernel
theorem dX10_behind_180 : decode cX10_behind 180 = .ok (.aload_n 0, 1) := by decide +kernel
theorem dX10_behind_181 : decode cX10_behind 181 = .ok (.iload_n 1, 1) := by decide +kernel
theorem dX10_behind_182 : decode cX10_behind 182 = .ok (.iload 4, 2) := by decide +kernel
theorem dX10_behind_184 : decode cX10_behind 184 = .ok (.invokevirtual 151, 3) := by decide +kernel
theorem dX10_behind_187 : decode cX10_behind 187 = .ok (.iadd, 1) := by decide +kernel
theorem dX10_behind_188 : decode cX10_behind 188 = .ok (.iconst 4, 1) := by decide +kernel
theorem dX10_behind_189 : decode cX10_behind 189 = .ok (.if_icmp .gt 7, 3) := by decide +kernel
theorem dX10_behind_192 : decode cX10_behind 192 = .ok (.iconst 1, 1) := by decide +kernel
theorem dX10_behind_193 : decode cX10_behind 193 = .ok (.goto 4, 3) := by decide +kernel
theorem dX10_behind_196 : decode cX10_behind 196 = .ok (.iconst 0, 1) := by decide +kernel
theorem dX10_behind_197 : decode cX10_behind 197 = .ok (.istore 6, 2) := by decide +kernel
theorem dX10_behind_199 : decode cX10_behind 199 = .ok (.iload 6, 2) := by decide +kernel
theorem dX10_behind_201 : decode cX10_behind 201 = .ok (.ifCond .eq 33, 3) := by decide +kernel
theorem dX10_behind_204 : decode cX10_behind 204 = .ok (.iload_n 2, 1) := by decide +kernel
theorem dX10_behind_205 : decode cX10_behind 205 = .ok (.aload_n 0, 1) := by decide +kernel
theorem dX10_behind_206 : decode cX10_behind 206 = .ok (.getfield 13, 3) := by decide +kernel
theorem dX10_behind_209 : decode cX10_behind 209 = .ok (.iload 4, 2) := by decide +kernel
theorem dX10_behind_211 : decode cX10_behind 211 = .ok (.iaload, 1) := by decide +kernel
theorem dX10_behind_212 : decode cX10_behind 212 = .ok (.aload_n 0, 1) := by decide +kernel
theorem dX10_behind_213 : decode cX10_behind 213 = .ok (.iload_n 1, 1) := by decide +kernel
theorem dX10_behind_214 : decode cX10_behind 214 = .ok (.iload 4, 2) := by decide +kernel
theorem dX10_behind_216 : decode cX10_behind 216 = .ok (.invokevirtual 151, 3) := by decide +kernel
theorem dX10_behind_219 : decode cX10_behind 219 = .ok (.invokestatic 147, 3) := by decide +kernel
theorem dX10_behind_222 : decode cX10_behind 222 = .ok (.sipush 2500, 3) := by decide +kernel
theorem dX10_behind_225 : decode cX10_behind 225 = .ok (.iconst 1, 1) := by decide +kernel
theorem dX10_behind_226 : decode cX10_behind 226 = .ok (.iload 5, 2) := by decide +kernel
theorem dX10_behind_228 : decode cX10_behind 228 = .ok (.ishl, 1) := by decide +kernel
theorem dX10_behind_229 : decode cX10_behind 229 = .ok (.imul, 1) := by decide +kernel
theorem dX10_behind_230 : decode cX10_behind 230 = .ok (.isub, 1) := by decide +kernel
theorem dX10_behind_231 : decode cX10_behind 231 = .ok (.goto 4, 3) := by decide +kernel
theorem dX10_behind_234 : decode cX10_behind 234 = .ok (.iconst (-1), 1) := by decide +kernel
theorem dX10_behind_235 : decode cX10_behind 235 = .ok (.ireturn, 1) := by decide +kernel
set_option maxRecDepth 20000 in
theorem ggX10_isAct_X10_within : GoodIn wsX10_isAct wsX10_within := goodIn_r _ [4] (by decide +kernel) (by decide +kernel)
set_option maxRecDepth 20000 in
theorem gX10_isAct_X10_within : GoodIn wsX10_isAct (va_wsS RX10 75 yX10_within wsX10_within) := goodIn_app (goodIn_of _ (by decide +kernel)) ggX10_isAct_X10_within
theorem dX10_isAct_0 : decode cX10_isAct 0 = .ok (.iload_n 0, 1) := by decide +kernel
theorem dX10_isAct_1 : decode cX10_isAct 1 = .ok (.iconst 0, 1) := by decide +kernel
theorem dX10_isAct_2 : decode cX10_isAct 2 = .ok (.iconst 3, 1) := by decide +kernel
theorem dX10_isAct_3 : decode cX10_isAct 3 = .ok (.invokestatic 75, 3) := by decide +kernel
theorem dX10_isAct_6 : decode cX10_isAct 6 = .ok (.ifCond .ne 25, 3) := by decide +kernel
theorem dX10_isAct_9 : decode cX10_isAct 9 = .ok (.iload_n 0, 1) := by decide +kernel
theorem dX10_isAct_10 : decode cX10_isAct 10 = .ok (.bipush 10, 2) := by decide +kernel
theorem dX10_isAct_12 : decode cX10_isAct 12 = .ok (.bipush 13, 2) := by decide +kernel
theorem dX10_isAct_14 : decode cX10_isAct 14 = .ok (.invokestatic 75, 3) := by decide +kernel
theorem dX10_isAct_17 : decode cX10_isAct 17 = .ok (.ifCond .ne 14, 3) := by decide +kernel
theorem dX10_isAct_20 : decode cX10_isAct 20 = .ok (.iload_n 0, 1) := by decide +kernel
theorem dX10_isAct_21 : decode cX10_isAct 21 = .ok (.bipush 20, 2) := by decide +kernel
theorem dX10_isAct_23 : decode cX10_isAct 23 = .ok (.bipush 23, 2) := by decide +kernel
theorem dX10_isAct_25 : decode cX10_isAct 25 = .ok (.invokestatic 75, 3) := by decide +kernel
theorem dX10_isAct_28 : decode cX10_isAct 28 = .ok (.ifCond .eq 7, 3) := by decide +kernel
theorem dX10_isAct_31 : decode cX10_isAct 31 = .ok (.iconst 1, 1) := by decide +kernel
theorem dX10_isAct_32 : decode cX10_isAct 32 = .ok (.goto 4, 3) := by decide +kernel
theorem dX10_isAct_35 : decode cX10_isAct 35 = .ok (.iconst 0, 1) := by decide +kernel
theorem dX10_isAct_36 : decode cX10_isAct 36 = .ok (.ireturn, 1) := by decide +kernel
set_option maxRecDepth 20000 in
theorem ggX10_isPerson_X10_within : GoodIn wsX10_isPerson wsX10_within := goodIn_r _ [5] (by decide +kernel) (by decide +kernel)
set_option maxRecDepth 20000 in
theorem gX10_isPerson_X10_within : GoodIn wsX10_isPerson (va_wsS RX10 75 yX10_within wsX10_within) := goodIn_app (goodIn_of _ (by decide +kernel)) ggX10_isPerson_X10_within
theorem dX10_isPerson_0 : decode cX10_isPerson 0 = .ok (.iload_n 1, 1) := by decide +kernel
theorem dX10_isPerson_1 : decode cX10_isPerson 1 = .ok (.iconst 0, 1) := by decide +kernel
theorem dX10_isPerson_2 : decode cX10_isPerson 2 = .ok (.aload_n 0, 1) := by decide +kernel
theorem dX10_isPerson_3 : decode cX10_isPerson 3 = .ok (.getfield 110, 3) := by decide +kernel
theorem dX10_isPerson_6 : decode cX10_isPerson 6 = .ok (.iconst 1, 1) := by decide +kernel
theorem dX10_isPerson_7 : decode cX10_isPerson 7 = .ok (.isub, 1) := by decide +kernel
theorem dX10_isPerson_8 : decode cX10_isPerson 8 = .ok (.invokestatic 75, 3) := by decide +kernel
theorem dX10_isPerson_11 : decode cX10_isPerson 11 = .ok (.ireturn, 1) := by decide +kernel
set_option maxRecDepth 20000 in
theorem ggX10_person_X10_isTown : GoodIn wsX10_person wsX10_isTown := goodIn_r _ [8, 9, 10, 7, 11] (by decide +kernel) (by decide +kernel)
set_option maxRecDepth 20000 in
theorem gX10_person_X10_isTown : GoodIn wsX10_person (va_wsS RX10 122 yX10_isTown wsX10_isTown) := goodIn_app (goodIn_of _ (by decide +kernel)) ggX10_person_X10_isTown
set_option maxRecDepth 20000 in
theorem ggX10_person_X10_within : GoodIn wsX10_person wsX10_within := goodIn_r _ [11] (by decide +kernel) (by decide +kernel)
set_option maxRecDepth 20000 in
theorem gX10_person_X10_within : GoodIn wsX10_person (va_wsS RX10 75 yX10_within wsX10_within) := goodIn_app (goodIn_of _ (by decide +kernel)) ggX10_person_X10_within
theorem dX10_person_0 : decode cX10_person 0 = .ok (.iload_n 2, 1) := by decide +kernel
theorem dX10_person_1 : decode cX10_person 1 = .ok (.invokestatic 122, 3) := by decide +kernel
theorem dX10_person_4 : decode cX10_person 4 = .ok (.ifCond .ne 6, 3) := by decide +kernel
theorem dX10_person_7 : decode cX10_person 7 = .ok (.bipush (-101), 2) := by decide +kernel
theorem dX10_person_9 : decode cX10_person 9 = .ok (.ireturn, 1) := by decide +kernel
theorem dX10_person_10 : decode cX10_person 10 = .ok (.iload_n 1, 1) := by decide +kernel
theorem dX10_person_11 : decode cX10_person 11 = .ok (.iconst 0, 1) := by decide +kernel
theorem dX10_person_12 : decode cX10_person 12 = .ok (.iconst 4, 1) := by decide +kernel
theorem dX10_person_13 : decode cX10_person 13 = .ok (.invokestatic 75, 3) := by decide +kernel
theorem dX10_person_16 : decode cX10_person 16 = .ok (.ifCond .ne 6, 3) := by decide +kernel
theorem dX10_person_19 : decode cX10_person 19 = .ok (.bipush (-102), 2) := by decide +kernel
theorem dX10_person_21 : decode cX10_person 21 = .ok (.ireturn, 1) := by decide +kernel
theorem dX10_person_22 : decode cX10_person 22 = .ok (.aload_n 0, 1) := by decide +kernel
theorem dX10_person_23 : decode cX10_person 23 = .ok (.getfield 104, 3) := by decide +kernel
theorem dX10_person_26 : decode cX10_person 26 = .ok (.ifCond .ne 6, 3) := by decide +kernel
theorem dX10_person_29 : decode cX10_person 29 = .ok (.bipush (-103), 2) := by decide +kernel
theorem dX10_person_31 : decode cX10_person 31 = .ok (.ireturn, 1) := by decide +kernel
theorem dX10_person_32 : decode cX10_person 32 = .ok (.aload_n 0, 1) := by decide +kernel
theorem dX10_person_33 : decode cX10_person 33 = .ok (.getfield 110, 3) := by decide +kernel
theorem dX10_person_36 : decode cX10_person 36 = .ok (.iconst 5, 1) := by decide +kernel
theorem dX10_person_37 : decode cX10_person 37 = .ok (.if_icmp .ne 6, 3) := by decide +kernel
theorem dX10_person_40 : decode cX10_person 40 = .ok (.bipush (-104), 2) := by decide +kernel
theorem dX10_person_42 : decode cX10_person 42 = .ok (.ireturn, 1) := by decide +kernel
theorem dX10_person_43 : decode cX10_person 43 = .ok (.aload_n 0, 1) := by decide +kernel
theorem dX10_person_44 : decode cX10_person 44 = .ok (.getfield 22, 3) := by decide +kernel
theorem dX10_person_47 : decode cX10_person 47 = .ok (.aload_n 0, 1) := by decide +kernel
theorem dX10_person_48 : decode cX10_person 48 = .ok (.getfield 110, 3) := by decide +kernel
theorem dX10_person_51 : decode cX10_person 51 = .ok (.iload_n 1, 1) := by decide +kernel
theorem dX10_person_52 : decode cX10_person 52 = .ok (.iastore, 1) := by decide +kernel
theorem dX10_person_53 : decode cX10_person 53 = .ok (.aload_n 0, 1) := by decide +kernel
theorem dX10_person_54 : decode cX10_person 54 = .ok (.getfield 25, 3) := by decide +kernel
theorem dX10_person_57 : decode cX10_person 57 = .ok (.aload_n 0, 1) := by decide +kernel
theorem dX10_person_58 : decode cX10_person 58 = .ok (.getfield 110, 3) := by decide +kernel
theorem dX10_person_61 : decode cX10_person 61 = .ok (.iload_n 2, 1) := by decide +kernel
theorem dX10_person_62 : decode cX10_person 62 = .ok (.iastore, 1) := by decide +kernel
theorem dX10_person_63 : decode cX10_person 63 = .ok (.aload_n 0, 1) := by decide +kernel
theorem dX10_person_64 : decode cX10_person 64 = .ok (.dup, 1) := by decide +kernel
theorem dX10_person_65 : decode cX10_person 65 = .ok (.getfield 110, 3) := by decide +kernel
theorem dX10_person_68 : decode cX10_person 68 = .ok (.iconst 1, 1) := by decide +kernel
theorem dX10_person_69 : decode cX10_person 69 = .ok (.iadd, 1) := by decide +kernel
theorem dX10_person_70 : decode cX10_person 70 = .ok (.putfield 110, 3) := by decide +kernel
theorem dX10_person_73 : decode cX10_person 73 = .ok (.aload_n 0, 1) := by decide +kernel
theorem dX10_person_74 : decode cX10_person 74 = .ok (.getfield 110, 3) := by decide +kernel
theorem dX10_person_77 : decode cX10_person 77 = .ok (.iconst 1, 1) := by decide +kernel
theorem dX10_person_78 : decode cX10_person 78 = .ok (.isub, 1) := by decide +kernel
theorem dX10_person_79 : decode cX10_person 79 = .ok (.ireturn, 1) := by decide +kernel
set_option maxRecDepth 20000 in
theorem ggX10_personNow_X10_townIn : GoodIn wsX10_personNow wsX10_townIn := goodIn_r _ [6] (by decide +kernel) (by decide +kernel)
set_option maxRecDepth 20000 in
theorem gX10_personNow_X10_townIn : GoodIn wsX10_personNow (va_wsS RX10 119 yX10_townIn wsX10_townIn) := goodIn_app (goodIn_of _ (by decide +kernel)) ggX10_personNow_X10_townIn
set_option maxRecDepth 20000 in
theorem ggX10_personNow_X10_goodsIn : GoodIn wsX10_personNow wsX10_goodsIn := goodIn_r _ [9] (by decide +kernel) (by decide +kernel)
set_option maxRecDepth 20000 in
theorem gX10_personNow_X10_goodsIn : GoodIn wsX10_personNow (va_wsS RX10 141 yX10_goodsIn wsX10_goodsIn) := goodIn_app (goodIn_of _ (by decide +kernel)) ggX10_personNow_X10_goodsIn
set_option maxRecDepth 20000 in
theorem ggX10_personNow_X10_coinsAll : GoodIn wsX10_personNow wsX10_coinsAll := goodIn_r _ [12, 13, 14, 5, 15, 16, 17, 18, 19, 20, 21] (by decide +kernel) (by decide +kernel)
set_option maxRecDepth 20000 in
theorem gX10_personNow_X10_coinsAll : GoodIn wsX10_personNow (va_wsS RX10 154 yX10_coinsAll wsX10_coinsAll) := goodIn_app (goodIn_of _ (by decide +kernel)) ggX10_personNow_X10_coinsAll
set_option maxRecDepth 20000 in
theorem ggX10_personNow_X10_costs : GoodIn wsX10_personNow wsX10_costs := goodIn_r _ [25, 26, 32, 33, 34, 35, 36, 37, 38, 39, 40, 41, 42, 43, 44, 45, 46, 47, 48, 49, 50, 51, 52, 53, 54, 55, 56, 57, 58, 59, 60, 61, 62, 63, 64, 65, 66, 67, 68, 69] (by decide +kernel) (by decide +kernel)
set_option maxRecDepth 20000 in
theorem gX10_personNow_X10_costs : GoodIn wsX10_personNow (wsV RX10 144 RX10 yX10_costs wsX10_costs) := goodIn_app (goodIn_of _ (by decide +kernel)) ggX10_personNow_X10_costs
set_option maxRecDepth 20000 in
theorem ggX10_personNow_X10_gets : GoodIn wsX10_personNow wsX10_gets := goodIn_r _ [30, 31, 32, 33, 34, 35, 36, 37, 38, 39, 40, 41, 42, 43, 44, 45, 46, 47, 48, 49, 50, 51, 52, 53, 54, 55, 56, 57, 58, 59, 60, 61, 62, 63, 64, 65, 66, 67, 68, 69] (by decide +kernel) (by decide +kernel)
set_option maxRecDepth 20000 in
theorem gX10_personNow_X10_gets : GoodIn wsX10_personNow (wsV RX10 151 RX10 yX10_gets wsX10_gets) := goodIn_app (goodIn_of _ (by decide +kernel)) ggX10_personNow_X10_gets
set_option maxRecDepth 20000 in
theorem ggX10_personNow_X10_coins : GoodIn wsX10_personNow wsX10_coins := goodIn_r _ [15, 16, 17, 5, 18, 19, 20, 21] (by decide +kernel) (by decide +kernel)
set_option maxRecDepth 20000 in
theorem gX10_personNow_X10_coins : GoodIn wsX10_personNow (va_wsS RX10 135 yX10_coins wsX10_coins) := goodIn_app (goodIn_of _ (by decide +kernel)) ggX10_personNow_X10_coins
theorem dX10_personNow_0 : decode cX10_personNow 0 = .ok (.aload_n 0, 1) := by decide +kernel
theorem dX10_personNow_1 : decode cX10_personNow 1 = .ok (.getfield 25, 3) := by decide +kernel
theorem dX10_personNow_4 : decode cX10_personNow 4 = .ok (.iload_n 1, 1) := by decide +kernel
theorem dX10_personNow_5 : decode cX10_personNow 5 = .ok (.iaload, 1) := by decide +kernel
theorem dX10_personNow_6 : decode cX10_personNow 6 = .ok (.istore_n 3, 1) := by decide +kernel
theorem dX10_personNow_7 : decode cX10_personNow 7 = .ok (.iload_n 2, 1) := by decide +kernel
theorem dX10_personNow_8 : decode cX10_personNow 8 = .ok (.tableswitch 92 0 5 #[40, 47, 52, 57, 62, 77], 40) := by decide +kernel
theorem dX10_personNow_48 : decode cX10_personNow 48 = .ok (.aload_n 0, 1) := by decide +kernel
theorem dX10_personNow_49 : decode cX10_personNow 49 = .ok (.getfield 22, 3) := by decide +kernel
theorem dX10_personNow_52 : decode cX10_personNow 52 = .ok (.iload_n 1, 1) := by decide +kernel
theorem dX10_personNow_53 : decode cX10_personNow 53 = .ok (.iaload, 1) := by decide +kernel
theorem dX10_personNow_54 : decode cX10_personNow 54 = .ok (.ireturn, 1) := by decide +kernel
theorem dX10_personNow_55 : decode cX10_personNow 55 = .ok (.iload_n 3, 1) := by decide +kernel
theorem dX10_personNow_56 : decode cX10_personNow 56 = .ok (.invokestatic 119, 3) := by decide +kernel
theorem dX10_personNow_59 : decode cX10_personNow 59 = .ok (.ireturn, 1) := by decide +kernel
theorem dX10_personNow_60 : decode cX10_personNow 60 = .ok (.iload_n 3, 1) := by decide +kernel
theorem dX10_personNow_61 : decode cX10_personNow 61 = .ok (.invokestatic 141, 3) := by decide +kernel
theorem dX10_personNow_64 : decode cX10_personNow 64 = .ok (.ireturn, 1) := by decide +kernel
theorem dX10_personNow_65 : decode cX10_personNow 65 = .ok (.iload_n 3, 1) := by decide +kernel
theorem dX10_personNow_66 : decode cX10_personNow 66 = .ok (.invokestatic 154, 3) := by decide +kernel
theorem dX10_personNow_69 : decode cX10_personNow 69 = .ok (.ireturn, 1) := by decide +kernel
theorem dX10_personNow_70 : decode cX10_personNow 70 = .ok (.aload_n 0, 1) := by decide +kernel
theorem dX10_personNow_71 : decode cX10_personNow 71 = .ok (.aload_n 0, 1) := by decide +kernel
theorem dX10_personNow_72 : decode cX10_personNow 72 = .ok (.getfield 22, 3) := by decide +kernel
theorem dX10_personNow_75 : decode cX10_personNow 75 = .ok (.iload_n 1, 1) := by decide +kernel
theorem dX10_personNow_76 : decode cX10_personNow 76 = .ok (.iaload, 1) := by decide +kernel
theorem dX10_personNow_77 : decode cX10_personNow 77 = .ok (.iload_n 3, 1) := by decide +kernel
theorem dX10_personNow_78 : decode cX10_personNow 78 = .ok (.invokestatic 119, 3) := by decide +kernel
theorem dX10_personNow_81 : decode cX10_personNow 81 = .ok (.invokevirtual 144, 3) := by decide +kernel
theorem dX10_personNow_84 : decode cX10_personNow 84 = .ok (.ireturn, 1) := by decide +kernel
theorem dX10_personNow_85 : decode cX10_personNow 85 = .ok (.aload_n 0, 1) := by decide +kernel
theorem dX10_personNow_86 : decode cX10_personNow 86 = .ok (.aload_n 0, 1) := by decide +kernel
theorem dX10_personNow_87 : decode cX10_personNow 87 = .ok (.getfield 22, 3) := by decide +kernel
theorem dX10_personNow_90 : decode cX10_personNow 90 = .ok (.iload_n 1, 1) := by decide +kernel
theorem dX10_personNow_91 : decode cX10_personNow 91 = .ok (.iaload, 1) := by decide +kernel
theorem dX10_personNow_92 : decode cX10_personNow 92 = .ok (.iload_n 3, 1) := by decide +kernel
theorem dX10_personNow_93 : decode cX10_personNow 93 = .ok (.invokestatic 119, 3) := by decide +kernel
theorem dX10_personNow_96 : decode cX10_personNow 96 = .ok (.invokevirtual 151, 3) := by decide +kernel
theorem dX10_personNow_99 : decode cX10_personNow 99 = .ok (.ireturn, 1) := by decide +kernel
theorem dX10_personNow_100 : decode cX10_personNow 100 = .ok (.iload_n 3, 1) := by decide +kernel
theorem dX10_personNow_101 : decode cX10_personNow 101 = .ok (.iload_n 2, 1) := by decide +kernel
theorem dX10_personNow_102 : decode cX10_personNow 102 = .ok (.bipush 10, 2) := by decide +kernel
theorem dX10_personNow_104 : decode cX10_personNow 104 = .ok (.isub, 1) := by decide +kernel
theorem dX10_personNow_105 : decode cX10_personNow 105 = .ok (.invokestatic 135, 3) := by decide +kernel
theorem dX10_personNow_108 : decode cX10_personNow 108 = .ok (.ireturn, 1) := by decide +kernel
set_option maxRecDepth 20000 in
theorem ggX10_about_X10_isPerson : GoodIn wsX10_about wsX10_isPerson := goodIn_r _ [5, 6, 7, 8, 4, 9, 44, 45, 46, 47, 48, 49, 50, 51, 52, 53, 54, 55, 56, 57, 58, 59, 60, 61, 62, 63, 64, 65, 66, 67, 68, 69, 70, 71, 72, 73, 74, 75, 76, 77, 78, 79, 80, 81] (by decide +kernel) (by decide +kernel)
set_option maxRecDepth 20000 in
theorem gX10_about_X10_isPerson : GoodIn wsX10_about (wsV RX10 157 RX10 yX10_isPerson wsX10_isPerson) := goodIn_app (goodIn_of _ (by decide +kernel)) ggX10_about_X10_isPerson
set_option maxRecDepth 20000 in
theorem ggX10_about_X10_within : GoodIn wsX10_about wsX10_within := goodIn_r _ [9] (by decide +kernel) (by decide +kernel)
set_option maxRecDepth 20000 in
theorem gX10_about_X10_within : GoodIn wsX10_about (va_wsS RX10 75 yX10_within wsX10_within) := goodIn_app (goodIn_of _ (by decide +kernel)) ggX10_about_X10_within
set_option maxRecDepth 20000 in
theorem ggX10_about_X10_personNow : GoodIn wsX10_about wsX10_personNow := goodIn_r _ [13, 14, 15, 16, 17, 4, 18, 19, 20, 21, 22, 23, 24, 25, 26, 27, 28, 29, 30, 31, 32, 33, 34, 35, 36, 37, 38, 39, 40, 41, 42, 43, 44, 45, 46, 47, 48, 49, 50, 51, 52, 53, 54, 55, 56, 57, 58, 59, 60, 61, 62, 63, 64, 65, 66, 67, 68, 69, 70, 71, 72, 73, 74, 75, 76, 77, 78, 79, 80, 81] (by decide +kernel) (by decide +kernel)
set_option maxRecDepth 20000 in
theorem gX10_about_X10_personNow : GoodIn wsX10_about (wsV RX10 160 RX10 yX10_personNow wsX10_personNow) := goodIn_app (goodIn_of _ (by decide +kernel)) ggX10_about_X10_personNow
theorem dX10_about_0 : decode cX10_about 0 = .ok (.aload_n 0, 1) := by decide +kernel
theorem dX10_about_1 : decode cX10_about 1 = .ok (.iload_n 1, 1) := by decide +kernel
theorem dX10_about_2 : decode cX10_about 2 = .ok (.invokevirtual 157, 3) := by decide +kernel
theorem dX10_about_5 : decode cX10_about 5 = .ok (.ifCond .ne 6, 3) := by decide +kernel
theorem dX10_about_8 : decode cX10_about 8 = .ok (.bipush (-101), 2) := by decide +kernel
theorem dX10_about_10 : decode cX10_about 10 = .ok (.ireturn, 1) := by decide +kernel
theorem dX10_about_11 : decode cX10_about 11 = .ok (.iload_n 2, 1) := by decide +kernel
theorem dX10_about_12 : decode cX10_about 12 = .ok (.iconst 0, 1) := by decide +kernel
theorem dX10_about_13 : decode cX10_about 13 = .ok (.iconst 5, 1) := by decide +kernel
theorem dX10_about_14 : decode cX10_about 14 = .ok (.invokestatic 75, 3) := by decide +kernel
theorem dX10_about_17 : decode cX10_about 17 = .ok (.ifCond .ne 14, 3) := by decide +kernel
theorem dX10_about_20 : decode cX10_about 20 = .ok (.iload_n 2, 1) := by decide +kernel
theorem dX10_about_21 : decode cX10_about 21 = .ok (.bipush 10, 2) := by decide +kernel
theorem dX10_about_23 : decode cX10_about 23 = .ok (.bipush 13, 2) := by decide +kernel
theorem dX10_about_25 : decode cX10_about 25 = .ok (.invokestatic 75, 3) := by decide +kernel
theorem dX10_about_28 : decode cX10_about 28 = .ok (.ifCond .eq 12, 3) := by decide +kernel
theorem dX10_about_31 : decode cX10_about 31 = .ok (.aload_n 0, 1) := by decide +kernel
theorem dX10_about_32 : decode cX10_about 32 = .ok (.iload_n 1, 1) := by decide +kernel
theorem dX10_about_33 : decode cX10_about 33 = .ok (.iload_n 2, 1) := by decide +kernel
theorem dX10_about_34 : decode cX10_about 34 = .ok (.invokevirtual 160, 3) := by decide +kernel
theorem dX10_about_37 : decode cX10_about 37 = .ok (.goto 5, 3) := by decide +kernel
theorem dX10_about_40 : decode cX10_about 40 = .ok (.bipush (-102), 2) := by decide +kernel
theorem dX10_about_42 : decode cX10_about 42 = .ok (.ireturn, 1) := by decide +kernel
set_option maxRecDepth 20000 in
theorem ggX10_as_X10_isPerson : GoodIn wsX10_as wsX10_isPerson := goodIn_r _ [6, 7, 8, 9, 5, 10, 11, 12, 13, 14, 15, 16, 17, 18, 19, 20, 21, 22, 23, 24, 25, 26, 27, 28, 29, 30, 31, 32, 33, 34, 35, 36, 37, 38, 39, 40, 41, 42, 43, 44, 45, 46, 47, 48] (by decide +kernel) (by decide +kernel)
set_option maxRecDepth 20000 in
theorem gX10_as_X10_isPerson : GoodIn wsX10_as (wsV RX10 157 RX10 yX10_isPerson wsX10_isPerson) := goodIn_app (goodIn_of _ (by decide +kernel)) ggX10_as_X10_isPerson
set_option maxRecDepth 20000 in
theorem ggX10_as_X10_within : GoodIn wsX10_as wsX10_within := goodIn_r _ [10] (by decide +kernel) (by decide +kernel)
set_option maxRecDepth 20000 in
theorem gX10_as_X10_within : GoodIn wsX10_as (va_wsS RX10 75 yX10_within wsX10_within) := goodIn_app (goodIn_of _ (by decide +kernel)) ggX10_as_X10_within
theorem dX10_as_0 : decode cX10_as 0 = .ok (.aload_n 0, 1) := by decide +kernel
theorem dX10_as_1 : decode cX10_as 1 = .ok (.iload_n 1, 1) := by decide +kernel
theorem dX10_as_2 : decode cX10_as 2 = .ok (.invokevirtual 157, 3) := by decide +kernel
theorem dX10_as_5 : decode cX10_as 5 = .ok (.ifCond .ne 6, 3) := by decide +kernel
theorem dX10_as_8 : decode cX10_as 8 = .ok (.bipush (-101), 2) := by decide +kernel
theorem dX10_as_10 : decode cX10_as 10 = .ok (.ireturn, 1) := by decide +kernel
theorem dX10_as_11 : decode cX10_as 11 = .ok (.iload_n 2, 1) := by decide +kernel
theorem dX10_as_12 : decode cX10_as 12 = .ok (.iconst 0, 1) := by decide +kernel
theorem dX10_as_13 : decode cX10_as 13 = .ok (.iconst 4, 1) := by decide +kernel
theorem dX10_as_14 : decode cX10_as 14 = .ok (.invokestatic 75, 3) := by decide +kernel
theorem dX10_as_17 : decode cX10_as 17 = .ok (.ifCond .ne 6, 3) := by decide +kernel
theorem dX10_as_20 : decode cX10_as 20 = .ok (.bipush (-102), 2) := by decide +kernel
theorem dX10_as_22 : decode cX10_as 22 = .ok (.ireturn, 1) := by decide +kernel
theorem dX10_as_23 : decode cX10_as 23 = .ok (.aload_n 0, 1) := by decide +kernel
theorem dX10_as_24 : decode cX10_as 24 = .ok (.getfield 22, 3) := by decide +kernel
theorem dX10_as_27 : decode cX10_as 27 = .ok (.iload_n 1, 1) := by decide +kernel
theorem dX10_as_28 : decode cX10_as 28 = .ok (.iaload, 1) := by decide +kernel
theorem dX10_as_29 : decode cX10_as 29 = .ok (.istore_n 3, 1) := by decide +kernel
theorem dX10_as_30 : decode cX10_as 30 = .ok (.iload_n 2, 1) := by decide +kernel
theorem dX10_as_31 : decode cX10_as 31 = .ok (.ifCond .eq 18, 3) := by decide +kernel
theorem dX10_as_34 : decode cX10_as 34 = .ok (.iload_n 3, 1) := by decide +kernel
theorem dX10_as_35 : decode cX10_as 35 = .ok (.iload_n 2, 1) := by decide +kernel
theorem dX10_as_36 : decode cX10_as 36 = .ok (.if_icmp .eq 13, 3) := by decide +kernel
theorem dX10_as_39 : decode cX10_as 39 = .ok (.iload_n 2, 1) := by decide +kernel
theorem dX10_as_40 : decode cX10_as 40 = .ok (.iconst 3, 1) := by decide +kernel
theorem dX10_as_41 : decode cX10_as 41 = .ok (.if_icmp .ne 12, 3) := by decide +kernel
theorem dX10_as_44 : decode cX10_as 44 = .ok (.iload_n 3, 1) := by decide +kernel
theorem dX10_as_45 : decode cX10_as 45 = .ok (.iconst 4, 1) := by decide +kernel
theorem dX10_as_46 : decode cX10_as 46 = .ok (.if_icmp .ne 7, 3) := by decide +kernel
theorem dX10_as_49 : decode cX10_as 49 = .ok (.iload_n 1, 1) := by decide +kernel
theorem dX10_as_50 : decode cX10_as 50 = .ok (.goto 4, 3) := by decide +kernel
theorem dX10_as_53 : decode cX10_as 53 = .ok (.iconst (-1), 1) := by decide +kernel
theorem dX10_as_54 : decode cX10_as 54 = .ok (.ireturn, 1) := by decide +kernel
set_option maxRecDepth 20000 in
theorem ggX10_purse_X10_isPerson : GoodIn wsX10_purse wsX10_isPerson := goodIn_r _ [6, 7, 8, 9, 5, 10, 26, 27, 28, 29, 30, 31, 32, 33, 34, 35, 36, 37, 38, 39, 40, 41, 42, 43, 44, 45, 46, 47, 48, 49, 50, 51, 52, 53, 54, 55, 56, 57, 58, 59, 60, 61, 62, 63] (by decide +kernel) (by decide +kernel)
set_option maxRecDepth 20000 in
theorem gX10_purse_X10_isPerson : GoodIn wsX10_purse (wsV RX10 157 RX10 yX10_isPerson wsX10_isPerson) := goodIn_app (goodIn_of _ (by decide +kernel)) ggX10_purse_X10_isPerson
set_option maxRecDepth 20000 in
theorem ggX10_purse_X10_isTown : GoodIn wsX10_purse wsX10_isTown := goodIn_r _ [13, 8, 9, 5, 10] (by decide +kernel) (by decide +kernel)
set_option maxRecDepth 20000 in
theorem gX10_purse_X10_isTown : GoodIn wsX10_purse (va_wsS RX10 122 yX10_isTown wsX10_isTown) := goodIn_app (goodIn_of _ (by decide +kernel)) ggX10_purse_X10_isTown
set_option maxRecDepth 20000 in
theorem ggX10_purse_X10_within : GoodIn wsX10_purse wsX10_within := goodIn_r _ [10] (by decide +kernel) (by decide +kernel)
set_option maxRecDepth 20000 in
theorem gX10_purse_X10_within : GoodIn wsX10_purse (va_wsS RX10 75 yX10_within wsX10_within) := goodIn_app (goodIn_of _ (by decide +kernel)) ggX10_purse_X10_within
set_option maxRecDepth 20000 in
theorem ggX10_purse_X10_coins : GoodIn wsX10_purse wsX10_coins := goodIn_r _ [16, 17, 18, 5, 19, 20, 21, 22] (by decide +kernel) (by decide +kernel)
set_option maxRecDepth 20000 in
theorem gX10_purse_X10_coins : GoodIn wsX10_purse (va_wsS RX10 135 yX10_coins wsX10_coins) := goodIn_app (goodIn_of _ (by decide +kernel)) ggX10_purse_X10_coins
set_option maxRecDepth 20000 in
theorem ggX10_purse_X10_withCoins : GoodIn wsX10_purse wsX10_withCoins := goodIn_r _ [25, 20, 21, 5, 22] (by decide +kernel) (by decide +kernel)
set_option maxRecDepth 20000 in
theorem gX10_purse_X10_withCoins : GoodIn wsX10_purse (va_wsS RX10 147 yX10_withCoins wsX10_withCoins) := goodIn_app (goodIn_of _ (by decide +kernel)) ggX10_purse_X10_withCoins
theorem dX10_purse_0 : decode cX10_purse 0 = .ok (.aload_n 0, 1) := by decide +kernel
theorem dX10_purse_1 : decode cX10_purse 1 = .ok (.iload_n 1, 1) := by decide +kernel
theorem dX10_purse_2 : decode cX10_purse 2 = .ok (.invokevirtual 157, 3) := by decide +kernel
theorem dX10_purse_5 : decode cX10_purse 5 = .ok (.ifCond .eq 10, 3) := by decide +kernel
theorem dX10_purse_8 : decode cX10_purse 8 = .ok (.iload_n 2, 1) := by decide +kernel
theorem dX10_purse_9 : decode cX10_purse 9 = .ok (.invokestatic 122, 3) := by decide +kernel
theorem dX10_purse_12 : decode cX10_purse 12 = .ok (.ifCond .ne 6, 3) := by decide +kernel
theorem dX10_purse_15 : decode cX10_purse 15 = .ok (.bipush (-101), 2) := by decide +kernel
theorem dX10_purse_17 : decode cX10_purse 17 = .ok (.ireturn, 1) := by decide +kernel
theorem dX10_purse_18 : decode cX10_purse 18 = .ok (.iload_n 3, 1) := by decide +kernel
theorem dX10_purse_19 : decode cX10_purse 19 = .ok (.iconst 0, 1) := by decide +kernel
theorem dX10_purse_20 : decode cX10_purse 20 = .ok (.iconst 4, 1) := by decide +kernel
theorem dX10_purse_21 : decode cX10_purse 21 = .ok (.invokestatic 75, 3) := by decide +kernel
theorem dX10_purse_24 : decode cX10_purse 24 = .ok (.ifCond .ne 6, 3) := by decide +kernel
theorem dX10_purse_27 : decode cX10_purse 27 = .ok (.bipush (-102), 2) := by decide +kernel
theorem dX10_purse_29 : decode cX10_purse 29 = .ok (.ireturn, 1) := by decide +kernel
theorem dX10_purse_30 : decode cX10_purse 30 = .ok (.aload_n 0, 1) := by decide +kernel
theorem dX10_purse_31 : decode cX10_purse 31 = .ok (.getfield 25, 3) := by decide +kernel
theorem dX10_purse_34 : decode cX10_purse 34 = .ok (.iload_n 1, 1) := by decide +kernel
theorem dX10_purse_35 : decode cX10_purse 35 = .ok (.iaload, 1) := by decide +kernel
theorem dX10_purse_36 : decode cX10_purse 36 = .ok (.iload_n 2, 1) := by decide +kernel
theorem dX10_purse_37 : decode cX10_purse 37 = .ok (.invokestatic 135, 3) := by decide +kernel
theorem dX10_purse_40 : decode cX10_purse 40 = .ok (.istore 4, 2) := by decide +kernel
theorem dX10_purse_42 : decode cX10_purse 42 = .ok (.aload_n 0, 1) := by decide +kernel
theorem dX10_purse_43 : decode cX10_purse 43 = .ok (.getfield 25, 3) := by decide +kernel
theorem dX10_purse_46 : decode cX10_purse 46 = .ok (.iload_n 1, 1) := by decide +kernel
theorem dX10_purse_47 : decode cX10_purse 47 = .ok (.aload_n 0, 1) := by decide +kernel
theorem dX10_purse_48 : decode cX10_purse 48 = .ok (.getfield 25, 3) := by decide +kernel
theorem dX10_purse_51 : decode cX10_purse 51 = .ok (.iload_n 1, 1) := by decide +kernel
theorem dX10_purse_52 : decode cX10_purse 52 = .ok (.iaload, 1) := by decide +kernel
theorem dX10_purse_53 : decode cX10_purse 53 = .ok (.iload_n 2, 1) := by decide +kernel
theorem dX10_purse_54 : decode cX10_purse 54 = .ok (.iload_n 3, 1) := by decide +kernel
theorem dX10_purse_55 : decode cX10_purse 55 = .ok (.iload 4, 2) := by decide +kernel
theorem dX10_purse_57 : decode cX10_purse 57 = .ok (.isub, 1) := by decide +kernel
theorem dX10_purse_58 : decode cX10_purse 58 = .ok (.invokestatic 147, 3) := by decide +kernel
theorem dX10_purse_61 : decode cX10_purse 61 = .ok (.iastore, 1) := by decide +kernel
theorem dX10_purse_62 : decode cX10_purse 62 = .ok (.iload 4, 2) := by decide +kernel
theorem dX10_purse_64 : decode cX10_purse 64 = .ok (.ireturn, 1) := by decide +kernel
set_option maxRecDepth 20000 in
theorem ggX10_may_X10_isPerson : GoodIn wsX10_may wsX10_isPerson := goodIn_r _ [7, 8, 9, 10, 6, 11, 56, 57, 58, 59, 60, 61, 62, 63, 64, 65, 66, 67, 68, 69, 70, 71, 72, 73, 74, 75, 76, 77, 78, 79, 80, 81, 82, 83, 84, 85, 86, 87, 88, 89, 90, 91, 92, 93] (by decide +kernel) (by decide +kernel)
set_option maxRecDepth 20000 in
theorem gX10_may_X10_isPerson : GoodIn wsX10_may (wsV RX10 157 RX10 yX10_isPerson wsX10_isPerson) := goodIn_app (goodIn_of _ (by decide +kernel)) ggX10_may_X10_isPerson
set_option maxRecDepth 20000 in
theorem ggX10_may_X10_isAct : GoodIn wsX10_may wsX10_isAct := goodIn_r _ [14, 9, 10, 6, 11] (by decide +kernel) (by decide +kernel)
set_option maxRecDepth 20000 in
theorem gX10_may_X10_isAct : GoodIn wsX10_may (va_wsS RX10 163 yX10_isAct wsX10_isAct) := goodIn_app (goodIn_of _ (by decide +kernel)) ggX10_may_X10_isAct
set_option maxRecDepth 20000 in
theorem ggX10_may_X10_behind : GoodIn wsX10_may wsX10_behind := goodIn_r _ [18, 19, 20, 21, 6, 22, 23, 24, 25, 26, 27, 28, 29, 30, 31, 32, 33, 34, 35, 36, 37, 38, 39, 40, 41, 42, 43, 44, 45, 46, 47, 48, 49, 50, 51, 52, 53, 54, 55, 56, 57, 58, 59, 60, 61, 62, 63, 64, 65, 66, 67, 68, 69, 70, 71, 72, 73, 74, 75, 76, 77, 78, 79, 80, 81, 82, 83, 84, 85, 86, 87, 88, 89, 90, 91, 92, 93] (by decide +kernel) (by decide +kernel)
set_option maxRecDepth 20000 in
theorem gX10_may_X10_behind : GoodIn wsX10_may (wsV RX10 166 RX10 yX10_behind wsX10_behind) := goodIn_app (goodIn_of _ (by decide +kernel)) ggX10_may_X10_behind
theorem dX10_may_0 : decode cX10_may 0 = .ok (.aload_n 0, 1) := by decide +kernel
theorem dX10_may_1 : decode cX10_may 1 = .ok (.iload_n 1, 1) := by decide +kernel
theorem dX10_may_2 : decode cX10_may 2 = .ok (.invokevirtual 157, 3) := by decide +kernel
theorem dX10_may_5 : decode cX10_may 5 = .ok (.ifCond .eq 10, 3) := by decide +kernel
theorem dX10_may_8 : decode cX10_may 8 = .ok (.iload_n 2, 1) := by decide +kernel
theorem dX10_may_9 : decode cX10_may 9 = .ok (.invokestatic 163, 3) := by decide +kernel
theorem dX10_may_12 : decode cX10_may 12 = .ok (.ifCond .ne 6, 3) := by decide +kernel
theorem dX10_may_15 : decode cX10_may 15 = .ok (.bipush (-101), 2) := by decide +kernel
theorem dX10_may_17 : decode cX10_may 17 = .ok (.ireturn, 1) := by decide +kernel
theorem dX10_may_18 : decode cX10_may 18 = .ok (.aload_n 0, 1) := by decide +kernel
theorem dX10_may_19 : decode cX10_may 19 = .ok (.aload_n 0, 1) := by decide +kernel
theorem dX10_may_20 : decode cX10_may 20 = .ok (.getfield 22, 3) := by decide +kernel
theorem dX10_may_23 : decode cX10_may 23 = .ok (.iload_n 1, 1) := by decide +kernel
theorem dX10_may_24 : decode cX10_may 24 = .ok (.iaload, 1) := by decide +kernel
theorem dX10_may_25 : decode cX10_may 25 = .ok (.aload_n 0, 1) := by decide +kernel
theorem dX10_may_26 : decode cX10_may 26 = .ok (.getfield 25, 3) := by decide +kernel
theorem dX10_may_29 : decode cX10_may 29 = .ok (.iload_n 1, 1) := by decide +kernel
theorem dX10_may_30 : decode cX10_may 30 = .ok (.iaload, 1) := by decide +kernel
theorem dX10_may_31 : decode cX10_may 31 = .ok (.iload_n 2, 1) := by decide +kernel
theorem dX10_may_32 : decode cX10_may 32 = .ok (.invokevirtual 166, 3) := by decide +kernel
theorem dX10_may_35 : decode cX10_may 35 = .ok (.iconst (-1), 1) := by decide +kernel
theorem dX10_may_36 : decode cX10_may 36 = .ok (.if_icmp .ne 7, 3) := by decide +kernel
theorem dX10_may_39 : decode cX10_may 39 = .ok (.iconst 0, 1) := by decide +kernel
theorem dX10_may_40 : decode cX10_may 40 = .ok (.goto 4, 3) := by decide +kernel
theorem dX10_may_43 : decode cX10_may 43 = .ok (.iconst 1, 1) := by decide +kernel
theorem dX10_may_44 : decode cX10_may 44 = .ok (.ireturn, 1) := by decide +kernel
set_option maxRecDepth 20000 in
theorem ggX10_act_X10_isPerson : GoodIn wsX10_act wsX10_isPerson := goodIn_r _ [8, 9, 10, 11, 7, 12, 60, 61, 62, 63, 64, 65, 66, 67, 68, 69, 70, 71, 72, 73, 74, 75, 76, 77, 78, 79, 80, 81, 82, 83, 84, 85, 86, 87, 88, 89, 90, 91, 92, 93, 94, 95, 96, 97] (by decide +kernel) (by decide +kernel)
set_option maxRecDepth 20000 in
theorem gX10_act_X10_isPerson : GoodIn wsX10_act (wsV RX10 157 RX10 yX10_isPerson wsX10_isPerson) := goodIn_app (goodIn_of _ (by decide +kernel)) ggX10_act_X10_isPerson
set_option maxRecDepth 20000 in
theorem ggX10_act_X10_isAct : GoodIn wsX10_act wsX10_isAct := goodIn_r _ [15, 10, 11, 7, 12] (by decide +kernel) (by decide +kernel)
set_option maxRecDepth 20000 in
theorem gX10_act_X10_isAct : GoodIn wsX10_act (va_wsS RX10 163 yX10_isAct wsX10_isAct) := goodIn_app (goodIn_of _ (by decide +kernel)) ggX10_act_X10_isAct
set_option maxRecDepth 20000 in
theorem ggX10_act_X10_behind : GoodIn wsX10_act wsX10_behind := goodIn_r _ [19, 20, 21, 22, 7, 23, 24, 25, 26, 27, 28, 29, 30, 31, 32, 33, 34, 35, 36, 37, 38, 39, 40, 41, 42, 43, 44, 45, 46, 47, 48, 49, 50, 51, 52, 53, 54, 55, 56, 60, 61, 62, 63, 64, 65, 66, 67, 68, 69, 70, 71, 72, 73, 74, 75, 76, 77, 78, 79, 80, 81, 82, 83, 84, 85, 86, 87, 88, 89, 90, 91, 92, 93, 94, 95, 96, 97] (by decide +kernel) (by decide +kernel)
set_option maxRecDepth 20000 in
theorem gX10_act_X10_behind : GoodIn wsX10_act (wsV RX10 166 RX10 yX10_behind wsX10_behind) := goodIn_app (goodIn_of _ (by decide +kernel)) ggX10_act_X10_behind
set_option maxRecDepth 20000 in
theorem ggX10_act_X10_coinsAll : GoodIn wsX10_act wsX10_coinsAll := goodIn_r _ [59, 35, 36, 7, 37, 38, 39, 40, 41, 42, 43] (by decide +kernel) (by decide +kernel)
set_option maxRecDepth 20000 in
theorem gX10_act_X10_coinsAll : GoodIn wsX10_act (va_wsS RX10 154 yX10_coinsAll wsX10_coinsAll) := goodIn_app (goodIn_of _ (by decide +kernel)) ggX10_act_X10_coinsAll
theorem dX10_act_0 : decode cX10_act 0 = .ok (.aload_n 0, 1) := by decide +kernel
theorem dX10_act_1 : decode cX10_act 1 = .ok (.iload_n 1, 1) := by decide +kernel
theorem dX10_act_2 : decode cX10_act 2 = .ok (.invokevirtual 157, 3) := by decide +kernel
theorem dX10_act_5 : decode cX10_act 5 = .ok (.ifCond .eq 10, 3) := by decide +kernel
theorem dX10_act_8 : decode cX10_act 8 = .ok (.iload_n 2, 1) := by decide +kernel
theorem dX10_act_9 : decode cX10_act 9 = .ok (.invokestatic 163, 3) := by decide +kernel
theorem dX10_act_12 : decode cX10_act 12 = .ok (.ifCond .ne 6, 3) := by decide +kernel
theorem dX10_act_15 : decode cX10_act 15 = .ok (.bipush (-101), 2) := by decide +kernel
theorem dX10_act_17 : decode cX10_act 17 = .ok (.ireturn, 1) := by decide +kernel
theorem dX10_act_18 : decode cX10_act 18 = .ok (.aload_n 0, 1) := by decide +kernel
theorem dX10_act_19 : decode cX10_act 19 = .ok (.aload_n 0, 1) := by decide +kernel
theorem dX10_act_20 : decode cX10_act 20 = .ok (.getfield 22, 3) := by decide +kernel
theorem dX10_act_23 : decode cX10_act 23 = .ok (.iload_n 1, 1) := by decide +kernel
theorem dX10_act_24 : decode cX10_act 24 = .ok (.iaload, 1) := by decide +kernel
theorem dX10_act_25 : decode cX10_act 25 = .ok (.aload_n 0, 1) := by decide +kernel
theorem dX10_act_26 : decode cX10_act 26 = .ok (.getfield 25, 3) := by decide +kernel
theorem dX10_act_29 : decode cX10_act 29 = .ok (.iload_n 1, 1) := by decide +kernel
theorem dX10_act_30 : decode cX10_act 30 = .ok (.iaload, 1) := by decide +kernel
theorem dX10_act_31 : decode cX10_act 31 = .ok (.iload_n 2, 1) := by decide +kernel
theorem dX10_act_32 : decode cX10_act 32 = .ok (.invokevirtual 166, 3) := by decide +kernel
theorem dX10_act_35 : decode cX10_act 35 = .ok (.istore_n 3, 1) := by decide +kernel
theorem dX10_act_36 : decode cX10_act 36 = .ok (.iload_n 3, 1) := by decide +kernel
theorem dX10_act_37 : decode cX10_act 37 = .ok (.iconst (-1), 1) := by decide +kernel
theorem dX10_act_38 : decode cX10_act 38 = .ok (.if_icmp .ne 6, 3) := by decide +kernel
theorem dX10_act_41 : decode cX10_act 41 = .ok (.bipush (-103), 2) := by decide +kernel
theorem dX10_act_43 : decode cX10_act 43 = .ok (.ireturn, 1) := by decide +kernel
theorem dX10_act_44 : decode cX10_act 44 = .ok (.aload_n 0, 1) := by decide +kernel
theorem dX10_act_45 : decode cX10_act 45 = .ok (.getfield 25, 3) := by decide +kernel
theorem dX10_act_48 : decode cX10_act 48 = .ok (.iload_n 1, 1) := by decide +kernel
theorem dX10_act_49 : decode cX10_act 49 = .ok (.iload_n 3, 1) := by decide +kernel
theorem dX10_act_50 : decode cX10_act 50 = .ok (.iastore, 1) := by decide +kernel
theorem dX10_act_51 : decode cX10_act 51 = .ok (.aload_n 0, 1) := by decide +kernel
theorem dX10_act_52 : decode cX10_act 52 = .ok (.dup, 1) := by decide +kernel
theorem dX10_act_53 : decode cX10_act 53 = .ok (.getfield 113, 3) := by decide +kernel
theorem dX10_act_56 : decode cX10_act 56 = .ok (.iconst 1, 1) := by decide +kernel
theorem dX10_act_57 : decode cX10_act 57 = .ok (.iadd, 1) := by decide +kernel
theorem dX10_act_58 : decode cX10_act 58 = .ok (.putfield 113, 3) := by decide +kernel
theorem dX10_act_61 : decode cX10_act 61 = .ok (.iload_n 3, 1) := by decide +kernel
theorem dX10_act_62 : decode cX10_act 62 = .ok (.invokestatic 154, 3) := by decide +kernel
theorem dX10_act_65 : decode cX10_act 65 = .ok (.ireturn, 1) := by decide +kernel
set_option maxRecDepth 20000 in
theorem ggX10_change_X10_isPerson : GoodIn wsX10_change wsX10_isPerson := goodIn_r _ [6, 7, 8, 9, 5, 10, 29, 30, 31, 32, 33, 34, 35, 36, 37, 38, 39, 40, 41, 42, 43, 44, 45, 46, 47, 48, 49, 50, 51, 52, 53, 54, 55, 56, 57, 58, 59, 60, 61, 62, 63, 64, 65, 66] (by decide +kernel) (by decide +kernel)
set_option maxRecDepth 20000 in
theorem gX10_change_X10_isPerson : GoodIn wsX10_change (wsV RX10 157 RX10 yX10_isPerson wsX10_isPerson) := goodIn_app (goodIn_of _ (by decide +kernel)) ggX10_change_X10_isPerson
set_option maxRecDepth 20000 in
theorem ggX10_change_X10_isTown : GoodIn wsX10_change wsX10_isTown := goodIn_r _ [13, 8, 9, 5, 10] (by decide +kernel) (by decide +kernel)
set_option maxRecDepth 20000 in
theorem gX10_change_X10_isTown : GoodIn wsX10_change (va_wsS RX10 122 yX10_isTown wsX10_isTown) := goodIn_app (goodIn_of _ (by decide +kernel)) ggX10_change_X10_isTown
set_option maxRecDepth 20000 in
theorem ggX10_change_X10_coins : GoodIn wsX10_change wsX10_coins := goodIn_r _ [16, 17, 18, 5, 19, 20, 21, 22] (by decide +kernel) (by decide +kernel)
set_option maxRecDepth 20000 in
theorem gX10_change_X10_coins : GoodIn wsX10_change (va_wsS RX10 135 yX10_coins wsX10_coins) := goodIn_app (goodIn_of _ (by decide +kernel)) ggX10_change_X10_coins
set_option maxRecDepth 20000 in
theorem ggX10_change_X10_townIn : GoodIn wsX10_change wsX10_townIn := goodIn_r _ [25] (by decide +kernel) (by decide +kernel)
set_option maxRecDepth 20000 in
theorem gX10_change_X10_townIn : GoodIn wsX10_change (va_wsS RX10 119 yX10_townIn wsX10_townIn) := goodIn_app (goodIn_of _ (by decide +kernel)) ggX10_change_X10_townIn
set_option maxRecDepth 20000 in
theorem ggX10_change_X10_withCoins : GoodIn wsX10_change wsX10_withCoins := goodIn_r _ [28, 20, 21, 5, 22] (by decide +kernel) (by decide +kernel)
set_option maxRecDepth 20000 in
theorem gX10_change_X10_withCoins : GoodIn wsX10_change (va_wsS RX10 147 yX10_withCoins wsX10_withCoins) := goodIn_app (goodIn_of _ (by decide +kernel)) ggX10_change_X10_withCoins
theorem dX10_change_0 : decode cX10_change 0 = .ok (.aload_n 0, 1) := by decide +kernel
theorem dX10_change_1 : decode cX10_change 1 = .ok (.iload_n 1, 1) := by decide +kernel
theorem dX10_change_2 : decode cX10_change 2 = .ok (.invokevirtual 157, 3) := by decide +kernel
theorem dX10_change_5 : decode cX10_change 5 = .ok (.ifCond .eq 31, 3) := by decide +kernel
theorem dX10_change_8 : decode cX10_change 8 = .ok (.aload_n 0, 1) := by decide +kernel
theorem dX10_change_9 : decode cX10_change 9 = .ok (.iload_n 3, 1) := by decide +kernel
theorem dX10_change_10 : decode cX10_change 10 = .ok (.invokevirtual 157, 3) := by decide +kernel
theorem dX10_change_13 : decode cX10_change 13 = .ok (.ifCond .eq 23, 3) := by decide +kernel
theorem dX10_change_16 : decode cX10_change 16 = .ok (.iload_n 1, 1) := by decide +kernel
theorem dX10_change_17 : decode cX10_change 17 = .ok (.iload_n 3, 1) := by decide +kernel
theorem dX10_change_18 : decode cX10_change 18 = .ok (.if_icmp .eq 18, 3) := by decide +kernel
theorem dX10_change_21 : decode cX10_change 21 = .ok (.iload_n 2, 1) := by decide +kernel
theorem dX10_change_22 : decode cX10_change 22 = .ok (.invokestatic 122, 3) := by decide +kernel
theorem dX10_change_25 : decode cX10_change 25 = .ok (.ifCond .eq 11, 3) := by decide +kernel
theorem dX10_change_28 : decode cX10_change 28 = .ok (.iload 4, 2) := by decide +kernel
theorem dX10_change_30 : decode cX10_change 30 = .ok (.invokestatic 122, 3) := by decide +kernel
theorem dX10_change_33 : decode cX10_change 33 = .ok (.ifCond .ne 6, 3) := by decide +kernel
theorem dX10_change_36 : decode cX10_change 36 = .ok (.bipush (-101), 2) := by decide +kernel
theorem dX10_change_38 : decode cX10_change 38 = .ok (.ireturn, 1) := by decide +kernel
theorem dX10_change_39 : decode cX10_change 39 = .ok (.aload_n 0, 1) := by decide +kernel
theorem dX10_change_40 : decode cX10_change 40 = .ok (.getfield 25, 3) := by decide +kernel
theorem dX10_change_43 : decode cX10_change 43 = .ok (.iload_n 1, 1) := by decide +kernel
theorem dX10_change_44 : decode cX10_change 44 = .ok (.iaload, 1) := by decide +kernel
theorem dX10_change_45 : decode cX10_change 45 = .ok (.iload_n 2, 1) := by decide +kernel
theorem dX10_change_46 : decode cX10_change 46 = .ok (.invokestatic 135, 3) := by decide +kernel
theorem dX10_change_49 : decode cX10_change 49 = .ok (.ifCond .le 42, 3) := by decide +kernel
theorem dX10_change_52 : decode cX10_change 52 = .ok (.aload_n 0, 1) := by decide +kernel
theorem dX10_change_53 : decode cX10_change 53 = .ok (.getfield 25, 3) := by decide +kernel
theorem dX10_change_56 : decode cX10_change 56 = .ok (.iload_n 3, 1) := by decide +kernel
theorem dX10_change_57 : decode cX10_change 57 = .ok (.iaload, 1) := by decide +kernel
theorem dX10_change_58 : decode cX10_change 58 = .ok (.iload 4, 2) := by decide +kernel
theorem dX10_change_60 : decode cX10_change 60 = .ok (.invokestatic 135, 3) := by decide +kernel
theorem dX10_change_63 : decode cX10_change 63 = .ok (.ifCond .le 28, 3) := by decide +kernel
theorem dX10_change_66 : decode cX10_change 66 = .ok (.aload_n 0, 1) := by decide +kernel
theorem dX10_change_67 : decode cX10_change 67 = .ok (.getfield 25, 3) := by decide +kernel
theorem dX10_change_70 : decode cX10_change 70 = .ok (.iload_n 1, 1) := by decide +kernel
theorem dX10_change_71 : decode cX10_change 71 = .ok (.iaload, 1) := by decide +kernel
theorem dX10_change_72 : decode cX10_change 72 = .ok (.invokestatic 119, 3) := by decide +kernel
theorem dX10_change_75 : decode cX10_change 75 = .ok (.aload_n 0, 1) := by decide +kernel
theorem dX10_change_76 : decode cX10_change 76 = .ok (.getfield 25, 3) := by decide +kernel
theorem dX10_change_79 : decode cX10_change 79 = .ok (.iload_n 3, 1) := by decide +kernel
theorem dX10_change_80 : decode cX10_change 80 = .ok (.iaload, 1) := by decide +kernel
theorem dX10_change_81 : decode cX10_change 81 = .ok (.invokestatic 119, 3) := by decide +kernel
theorem dX10_change_84 : decode cX10_change 84 = .ok (.if_icmp .ne 7, 3) := by decide +kernel
theorem dX10_change_87 : decode cX10_change 87 = .ok (.iconst 1, 1) := by decide +kernel
theorem dX10_change_88 : decode cX10_change 88 = .ok (.goto 4, 3) := by decide +kernel
theorem dX10_change_91 : decode cX10_change 91 = .ok (.iconst 0, 1) := by decide +kernel
theorem dX10_change_92 : decode cX10_change 92 = .ok (.istore 5, 2) := by decide +kernel
theorem dX10_change_94 : decode cX10_change 94 = .ok (.iload_n 2, 1) := by decide +kernel
theorem dX10_change_95 : decode cX10_change 95 = .ok (.iload 4, 2) := by decide +kernel
theorem dX10_change_97 : decode cX10_change 97 = .ok (.if_icmp .eq 32, 3) := by decide +kernel
theorem dX10_change_100 : decode cX10_change 100 = .ok (.aload_n 0, 1) := by decide +kernel
theorem dX10_change_101 : decode cX10_change 101 = .ok (.getfield 25, 3) := by decide +kernel
theorem dX10_change_104 : decode cX10_change 104 = .ok (.iload_n 1, 1) := by decide +kernel
theorem dX10_change_105 : decode cX10_change 105 = .ok (.iaload, 1) := by decide +kernel
theorem dX10_change_106 : decode cX10_change 106 = .ok (.iload 4, 2) := by decide +kernel
theorem dX10_change_108 : decode cX10_change 108 = .ok (.invokestatic 135, 3) := by decide +kernel
theorem dX10_change_111 : decode cX10_change 111 = .ok (.iconst 4, 1) := by decide +kernel
theorem dX10_change_112 : decode cX10_change 112 = .ok (.if_icmp .ge 21, 3) := by decide +kernel
theorem dX10_change_115 : decode cX10_change 115 = .ok (.aload_n 0, 1) := by decide +kernel
theorem dX10_change_116 : decode cX10_change 116 = .ok (.getfield 25, 3) := by decide +kernel
theorem dX10_change_119 : decode cX10_change 119 = .ok (.iload_n 3, 1) := by decide +kernel
theorem dX10_change_120 : decode cX10_change 120 = .ok (.iaload, 1) := by decide +kernel
theorem dX10_change_121 : decode cX10_change 121 = .ok (.iload_n 2, 1) := by decide +kernel
theorem dX10_change_122 : decode cX10_change 122 = .ok (.invokestatic 135, 3) := by decide +kernel
theorem dX10_change_125 : decode cX10_change 125 = .ok (.iconst 4, 1) := by decide +kernel
theorem dX10_change_126 : decode cX10_change 126 = .ok (.if_icmp .ge 7, 3) := by decide +kernel
theorem dX10_change_129 : decode cX10_change 129 = .ok (.iconst 1, 1) := by decide +kernel
theorem dX10_change_130 : decode cX10_change 130 = .ok (.goto 4, 3) := by decide +kernel
theorem dX10_change_133 : decode cX10_change 133 = .ok (.iconst 0, 1) := by decide +kernel
theorem dX10_change_134 : decode cX10_change 134 = .ok (.istore 6, 2) := by decide +kernel
theorem dX10_change_136 : decode cX10_change 136 = .ok (.iload 5, 2) := by decide +kernel
theorem dX10_change_138 : decode cX10_change 138 = .ok (.ifCond .eq 8, 3) := by decide +kernel
theorem dX10_change_141 : decode cX10_change 141 = .ok (.iload 6, 2) := by decide +kernel
theorem dX10_change_143 : decode cX10_change 143 = .ok (.ifCond .ne 6, 3) := by decide +kernel
theorem dX10_change_146 : decode cX10_change 146 = .ok (.bipush (-103), 2) := by decide +kernel
theorem dX10_change_148 : decode cX10_change 148 = .ok (.ireturn, 1) := by decide +kernel
theorem dX10_change_149 : decode cX10_change 149 = .ok (.iload_n 2, 1) := by decide +kernel
theorem dX10_change_150 : decode cX10_change 150 = .ok (.iload 4, 2) := by decide +kernel
theorem dX10_change_152 : decode cX10_change 152 = .ok (.if_icmp .eq 49, 3) := by decide +kernel
theorem dX10_change_155 : decode cX10_change 155 = .ok (.aload_n 0, 1) := by decide +kernel
theorem dX10_change_156 : decode cX10_change 156 = .ok (.getfield 25, 3) := by decide +kernel
theorem dX10_change_159 : decode cX10_change 159 = .ok (.iload_n 1, 1) := by decide +kernel
theorem dX10_change_160 : decode cX10_change 160 = .ok (.aload_n 0, 1) := by decide +kernel
theorem dX10_change_161 : decode cX10_change 161 = .ok (.getfield 25, 3) := by decide +kernel
theorem dX10_change_164 : decode cX10_change 164 = .ok (.iload_n 1, 1) := by decide +kernel
theorem dX10_change_165 : decode cX10_change 165 = .ok (.iaload, 1) := by decide +kernel
theorem dX10_change_166 : decode cX10_change 166 = .ok (.iload_n 2, 1) := by decide +kernel
theorem dX10_change_167 : decode cX10_change 167 = .ok (.iconst (-1), 1) := by decide +kernel
theorem dX10_change_168 : decode cX10_change 168 = .ok (.invokestatic 147, 3) := by decide +kernel
theorem dX10_change_171 : decode cX10_change 171 = .ok (.iload 4, 2) := by decide +kernel
theorem dX10_change_173 : decode cX10_change 173 = .ok (.iconst 1, 1) := by decide +kernel
theorem dX10_change_174 : decode cX10_change 174 = .ok (.invokestatic 147, 3) := by decide +kernel
theorem dX10_change_177 : decode cX10_change 177 = .ok (.iastore, 1) := by decide +kernel
theorem dX10_change_178 : decode cX10_change 178 = .ok (.aload_n 0, 1) := by decide +kernel
theorem dX10_change_179 : decode cX10_change 179 = .ok (.getfield 25, 3) := by decide +kernel
theorem dX10_change_182 : decode cX10_change 182 = .ok (.iload_n 3, 1) := by decide +kernel
theorem dX10_change_183 : decode cX10_change 183 = .ok (.aload_n 0, 1) := by decide +kernel
theorem dX10_change_184 : decode cX10_change 184 = .ok (.getfield 25, 3) := by decide +kernel
theorem dX10_change_187 : decode cX10_change 187 = .ok (.iload_n 3, 1) := by decide +kernel
theorem dX10_change_188 : decode cX10_change 188 = .ok (.iaload, 1) := by decide +kernel
theorem dX10_change_189 : decode cX10_change 189 = .ok (.iload 4, 2) := by decide +kernel
theorem dX10_change_191 : decode cX10_change 191 = .ok (.iconst (-1), 1) := by decide +kernel
theorem dX10_change_192 : decode cX10_change 192 = .ok (.invokestatic 147, 3) := by decide +kernel
theorem dX10_change_195 : decode cX10_change 195 = .ok (.iload_n 2, 1) := by decide +kernel
theorem dX10_change_196 : decode cX10_change 196 = .ok (.iconst 1, 1) := by decide +kernel
theorem dX10_change_197 : decode cX10_change 197 = .ok (.invokestatic 147, 3) := by decide +kernel
theorem dX10_change_200 : decode cX10_change 200 = .ok (.iastore, 1) := by decide +kernel
theorem dX10_change_201 : decode cX10_change 201 = .ok (.aload_n 0, 1) := by decide +kernel
theorem dX10_change_202 : decode cX10_change 202 = .ok (.getfield 25, 3) := by decide +kernel
theorem dX10_change_205 : decode cX10_change 205 = .ok (.iload_n 1, 1) := by decide +kernel
theorem dX10_change_206 : decode cX10_change 206 = .ok (.iaload, 1) := by decide +kernel
theorem dX10_change_207 : decode cX10_change 207 = .ok (.iload_n 2, 1) := by decide +kernel
theorem dX10_change_208 : decode cX10_change 208 = .ok (.invokestatic 135, 3) := by decide +kernel
theorem dX10_change_211 : decode cX10_change 211 = .ok (.ireturn, 1) := by decide +kernel
theorem dX10_layQueue_0 : decode cX10_layQueue 0 = .ok (.iconst 0, 1) := by decide +kernel
theorem dX10_layQueue_1 : decode cX10_layQueue 1 = .ok (.istore_n 2, 1) := by decide +kernel
theorem dX10_layQueue_2 : decode cX10_layQueue 2 = .ok (.iload_n 2, 1) := by decide +kernel
theorem dX10_layQueue_3 : decode cX10_layQueue 3 = .ok (.aload_n 0, 1) := by decide +kernel
theorem dX10_layQueue_4 : decode cX10_layQueue 4 = .ok (.getfield 169, 3) := by decide +kernel
theorem dX10_layQueue_7 : decode cX10_layQueue 7 = .ok (.if_icmp .ge 21, 3) := by decide +kernel
theorem dX10_layQueue_10 : decode cX10_layQueue 10 = .ok (.aload_n 0, 1) := by decide +kernel
theorem dX10_layQueue_11 : decode cX10_layQueue 11 = .ok (.getfield 52, 3) := by decide +kernel
theorem dX10_layQueue_14 : decode cX10_layQueue 14 = .ok (.aload_n 0, 1) := by decide +kernel
theorem dX10_layQueue_15 : decode cX10_layQueue 15 = .ok (.getfield 55, 3) := by decide +kernel
theorem dX10_layQueue_18 : decode cX10_layQueue 18 = .ok (.iload_n 2, 1) := by decide +kernel
theorem dX10_layQueue_19 : decode cX10_layQueue 19 = .ok (.iaload, 1) := by decide +kernel
theorem dX10_layQueue_20 : decode cX10_layQueue 20 = .ok (.iconst 0, 1) := by decide +kernel
theorem dX10_layQueue_21 : decode cX10_layQueue 21 = .ok (.bastore, 1) := by decide +kernel
theorem dX10_layQueue_22 : decode cX10_layQueue 22 = .ok (.iinc 2 1, 3) := by decide +kernel
theorem dX10_layQueue_25 : decode cX10_layQueue 25 = .ok (.goto (-23), 3) := by decide +kernel
theorem dX10_layQueue_28 : decode cX10_layQueue 28 = .ok (.aload_n 0, 1) := by decide +kernel
theorem dX10_layQueue_29 : decode cX10_layQueue 29 = .ok (.getfield 52, 3) := by decide +kernel
theorem dX10_layQueue_32 : decode cX10_layQueue 32 = .ok (.iload_n 1, 1) := by decide +kernel
theorem dX10_layQueue_33 : decode cX10_layQueue 33 = .ok (.bipush 99, 2) := by decide +kernel
theorem dX10_layQueue_35 : decode cX10_layQueue 35 = .ok (.bastore, 1) := by decide +kernel
theorem dX10_layQueue_36 : decode cX10_layQueue 36 = .ok (.aload_n 0, 1) := by decide +kernel
theorem dX10_layQueue_37 : decode cX10_layQueue 37 = .ok (.getfield 55, 3) := by decide +kernel
theorem dX10_layQueue_40 : decode cX10_layQueue 40 = .ok (.iconst 0, 1) := by decide +kernel
theorem dX10_layQueue_41 : decode cX10_layQueue 41 = .ok (.iload_n 1, 1) := by decide +kernel
theorem dX10_layQueue_42 : decode cX10_layQueue 42 = .ok (.iastore, 1) := by decide +kernel
theorem dX10_layQueue_43 : decode cX10_layQueue 43 = .ok (.aload_n 0, 1) := by decide +kernel
theorem dX10_layQueue_44 : decode cX10_layQueue 44 = .ok (.iconst 1, 1) := by decide +kernel
theorem dX10_layQueue_45 : decode cX10_layQueue 45 = .ok (.putfield 169, 3) := by decide +kernel
