theorem dX0_init_0 : decode cX0_init 0 = .ok (.aload_n 0, 1) := by decide +kernel
theorem dX0_init_1 : decode cX0_init 1 = .ok (.invokespecial 3, 3) := by decide +kernel
theorem dX0_init_4 : decode cX0_init 4 = .ok (.aload_n 0, 1) := by decide +kernel
theorem dX0_init_5 : decode cX0_init 5 = .ok (.iconst 4, 1) := by decide +kernel
theorem dX0_init_6 : decode cX0_init 6 = .ok (.newarray .int, 2) := by decide +kernel
theorem dX0_init_8 : decode cX0_init 8 = .ok (.putfield 9, 3) := by decide +kernel
theorem dX0_init_11 : decode cX0_init 11 = .ok (.aload_n 0, 1) := by decide +kernel
theorem dX0_init_12 : decode cX0_init 12 = .ok (.iconst 4, 1) := by decide +kernel
theorem dX0_init_13 : decode cX0_init 13 = .ok (.newarray .int, 2) := by decide +kernel
theorem dX0_init_15 : decode cX0_init 15 = .ok (.putfield 15, 3) := by decide +kernel
theorem dX0_init_18 : decode cX0_init 18 = .ok (.aload_n 0, 1) := by decide +kernel
theorem dX0_init_19 : decode cX0_init 19 = .ok (.iconst 4, 1) := by decide +kernel
theorem dX0_init_20 : decode cX0_init 20 = .ok (.newarray .int, 2) := by decide +kernel
theorem dX0_init_22 : decode cX0_init 22 = .ok (.putfield 18, 3) := by decide +kernel
theorem dX0_init_25 : decode cX0_init 25 = .ok (.aload_n 0, 1) := by decide +kernel
theorem dX0_init_26 : decode cX0_init 26 = .ok (.iconst 4, 1) := by decide +kernel
theorem dX0_init_27 : decode cX0_init 27 = .ok (.newarray .int, 2) := by decide +kernel
theorem dX0_init_29 : decode cX0_init 29 = .ok (.putfield 21, 3) := by decide +kernel
theorem dX0_init_32 : decode cX0_init 32 = .ok (.return_, 1) := by decide +kernel
set_option maxRecDepth 20000 in
theorem ggX0_set_X2_cost : GoodIn wsX0_set wsX2_cost := goodIn_r _ [14, 15, 16, 17, 18, 19] (by decide +kernel) (by decide +kernel)
set_option maxRecDepth 20000 in
theorem gX0_set_X2_cost : GoodIn wsX0_set (wsV RX0 29 RX2 yX2_cost wsX2_cost) := goodIn_app (goodIn_of _ (by decide +kernel)) ggX0_set_X2_cost
set_option maxRecDepth 20000 in
theorem ggX0_set_X2_gain : GoodIn wsX0_set wsX2_gain := goodIn_r _ [23, 24] (by decide +kernel) (by decide +kernel)
set_option maxRecDepth 20000 in
theorem gX0_set_X2_gain : GoodIn wsX0_set (wsV RX0 37 RX2 yX2_gain wsX2_gain) := goodIn_app (goodIn_of _ (by decide +kernel)) ggX0_set_X2_gain
theorem dX0_set_0 : decode cX0_set 0 = .ok (.iconst 0, 1) := by decide +kernel
theorem dX0_set_1 : decode cX0_set 1 = .ok (.istore_n 3, 1) := by decide +kernel
theorem dX0_set_2 : decode cX0_set 2 = .ok (.iload_n 3, 1) := by decide +kernel
theorem dX0_set_3 : decode cX0_set 3 = .ok (.iconst 4, 1) := by decide +kernel
theorem dX0_set_4 : decode cX0_set 4 = .ok (.if_icmp .ge 77, 3) := by decide +kernel
theorem dX0_set_7 : decode cX0_set 7 = .ok (.aload_n 0, 1) := by decide +kernel
theorem dX0_set_8 : decode cX0_set 8 = .ok (.getfield 9, 3) := by decide +kernel
theorem dX0_set_11 : decode cX0_set 11 = .ok (.iload_n 3, 1) := by decide +kernel
theorem dX0_set_12 : decode cX0_set 12 = .ok (.aload_n 2, 1) := by decide +kernel
theorem dX0_set_13 : decode cX0_set 13 = .ok (.aload_n 1, 1) := by decide +kernel
theorem dX0_set_14 : decode cX0_set 14 = .ok (.getfield 24, 3) := by decide +kernel
theorem dX0_set_17 : decode cX0_set 17 = .ok (.iload_n 3, 1) := by decide +kernel
theorem dX0_set_18 : decode cX0_set 18 = .ok (.iaload, 1) := by decide +kernel
theorem dX0_set_19 : decode cX0_set 19 = .ok (.invokevirtual 29, 3) := by decide +kernel
theorem dX0_set_22 : decode cX0_set 22 = .ok (.iastore, 1) := by decide +kernel
theorem dX0_set_23 : decode cX0_set 23 = .ok (.aload_n 0, 1) := by decide +kernel
theorem dX0_set_24 : decode cX0_set 24 = .ok (.getfield 15, 3) := by decide +kernel
theorem dX0_set_27 : decode cX0_set 27 = .ok (.iload_n 3, 1) := by decide +kernel
theorem dX0_set_28 : decode cX0_set 28 = .ok (.aload_n 2, 1) := by decide +kernel
theorem dX0_set_29 : decode cX0_set 29 = .ok (.aload_n 1, 1) := by decide +kernel
theorem dX0_set_30 : decode cX0_set 30 = .ok (.getfield 34, 3) := by decide +kernel
theorem dX0_set_33 : decode cX0_set 33 = .ok (.iload_n 3, 1) := by decide +kernel
theorem dX0_set_34 : decode cX0_set 34 = .ok (.iaload, 1) := by decide +kernel
theorem dX0_set_35 : decode cX0_set 35 = .ok (.invokevirtual 37, 3) := by decide +kernel
theorem dX0_set_38 : decode cX0_set 38 = .ok (.iastore, 1) := by decide +kernel
theorem dX0_set_39 : decode cX0_set 39 = .ok (.aload_n 0, 1) := by decide +kernel
theorem dX0_set_40 : decode cX0_set 40 = .ok (.getfield 18, 3) := by decide +kernel
theorem dX0_set_43 : decode cX0_set 43 = .ok (.iload_n 3, 1) := by decide +kernel
theorem dX0_set_44 : decode cX0_set 44 = .ok (.aload_n 1, 1) := by decide +kernel
theorem dX0_set_45 : decode cX0_set 45 = .ok (.getfield 40, 3) := by decide +kernel
theorem dX0_set_48 : decode cX0_set 48 = .ok (.iload_n 3, 1) := by decide +kernel
theorem dX0_set_49 : decode cX0_set 49 = .ok (.iaload, 1) := by decide +kernel
theorem dX0_set_50 : decode cX0_set 50 = .ok (.iastore, 1) := by decide +kernel
theorem dX0_set_51 : decode cX0_set 51 = .ok (.aload_n 0, 1) := by decide +kernel
theorem dX0_set_52 : decode cX0_set 52 = .ok (.getfield 21, 3) := by decide +kernel
theorem dX0_set_55 : decode cX0_set 55 = .ok (.iload_n 3, 1) := by decide +kernel
theorem dX0_set_56 : decode cX0_set 56 = .ok (.aload_n 2, 1) := by decide +kernel
theorem dX0_set_57 : decode cX0_set 57 = .ok (.getfield 41, 3) := by decide +kernel
theorem dX0_set_60 : decode cX0_set 60 = .ok (.ifCond .eq 8, 3) := by decide +kernel
theorem dX0_set_63 : decode cX0_set 63 = .ok (.bipush 15, 2) := by decide +kernel
theorem dX0_set_65 : decode cX0_set 65 = .ok (.goto 9, 3) := by decide +kernel
theorem dX0_set_68 : decode cX0_set 68 = .ok (.aload_n 1, 1) := by decide +kernel
theorem dX0_set_69 : decode cX0_set 69 = .ok (.getfield 45, 3) := by decide +kernel
theorem dX0_set_72 : decode cX0_set 72 = .ok (.iload_n 3, 1) := by decide +kernel
theorem dX0_set_73 : decode cX0_set 73 = .ok (.iaload, 1) := by decide +kernel
theorem dX0_set_74 : decode cX0_set 74 = .ok (.iastore, 1) := by decide +kernel
theorem dX0_set_75 : decode cX0_set 75 = .ok (.iinc 3 1, 3) := by decide +kernel
theorem dX0_set_78 : decode cX0_set 78 = .ok (.goto (-76), 3) := by decide +kernel
theorem dX0_set_81 : decode cX0_set 81 = .ok (.aload_n 0, 1) := by decide +kernel
theorem dX0_set_82 : decode cX0_set 82 = .ok (.areturn, 1) := by decide +kernel
theorem dX0_paysAnywhere_0 : decode cX0_paysAnywhere 0 = .ok (.aload_n 0, 1) := by decide +kernel
theorem dX0_paysAnywhere_1 : decode cX0_paysAnywhere 1 = .ok (.getfield 21, 3) := by decide +kernel
theorem dX0_paysAnywhere_4 : decode cX0_paysAnywhere 4 = .ok (.iconst 0, 1) := by decide +kernel
theorem dX0_paysAnywhere_5 : decode cX0_paysAnywhere 5 = .ok (.iaload, 1) := by decide +kernel
theorem dX0_paysAnywhere_6 : decode cX0_paysAnywhere 6 = .ok (.aload_n 0, 1) := by decide +kernel
theorem dX0_paysAnywhere_7 : decode cX0_paysAnywhere 7 = .ok (.getfield 21, 3) := by decide +kernel
theorem dX0_paysAnywhere_10 : decode cX0_paysAnywhere 10 = .ok (.iconst 1, 1) := by decide +kernel
theorem dX0_paysAnywhere_11 : decode cX0_paysAnywhere 11 = .ok (.iaload, 1) := by decide +kernel
theorem dX0_paysAnywhere_12 : decode cX0_paysAnywhere 12 = .ok (.ior, 1) := by decide +kernel
theorem dX0_paysAnywhere_13 : decode cX0_paysAnywhere 13 = .ok (.aload_n 0, 1) := by decide +kernel
theorem dX0_paysAnywhere_14 : decode cX0_paysAnywhere 14 = .ok (.getfield 21, 3) := by decide +kernel
theorem dX0_paysAnywhere_17 : decode cX0_paysAnywhere 17 = .ok (.iconst 2, 1) := by decide +kernel
theorem dX0_paysAnywhere_18 : decode cX0_paysAnywhere 18 = .ok (.iaload, 1) := by decide +kernel
theorem dX0_paysAnywhere_19 : decode cX0_paysAnywhere 19 = .ok (.ior, 1) := by decide +kernel
theorem dX0_paysAnywhere_20 : decode cX0_paysAnywhere 20 = .ok (.aload_n 0, 1) := by decide +kernel
theorem dX0_paysAnywhere_21 : decode cX0_paysAnywhere 21 = .ok (.getfield 21, 3) := by decide +kernel
theorem dX0_paysAnywhere_24 : decode cX0_paysAnywhere 24 = .ok (.iconst 3, 1) := by decide +kernel
theorem dX0_paysAnywhere_25 : decode cX0_paysAnywhere 25 = .ok (.iaload, 1) := by decide +kernel
theorem dX0_paysAnywhere_26 : decode cX0_paysAnywhere 26 = .ok (.ior, 1) := by decide +kernel
theorem dX0_paysAnywhere_27 : decode cX0_paysAnywhere 27 = .ok (.iload_n 1, 1) := by decide +kernel
theorem dX0_paysAnywhere_28 : decode cX0_paysAnywhere 28 = .ok (.ishr, 1) := by decide +kernel
theorem dX0_paysAnywhere_29 : decode cX0_paysAnywhere 29 = .ok (.iconst 1, 1) := by decide +kernel
theorem dX0_paysAnywhere_30 : decode cX0_paysAnywhere 30 = .ok (.iand, 1) := by decide +kernel
theorem dX0_paysAnywhere_31 : decode cX0_paysAnywhere 31 = .ok (.iconst 1, 1) := by decide +kernel
theorem dX0_paysAnywhere_32 : decode cX0_paysAnywhere 32 = .ok (.if_icmp .ne 7, 3) := by decide +kernel
theorem dX0_paysAnywhere_35 : decode cX0_paysAnywhere 35 = .ok (.iconst 1, 1) := by decide +kernel
theorem dX0_paysAnywhere_36 : decode cX0_paysAnywhere 36 = .ok (.goto 4, 3) := by decide +kernel
theorem dX0_paysAnywhere_39 : decode cX0_paysAnywhere 39 = .ok (.iconst 0, 1) := by decide +kernel
theorem dX0_paysAnywhere_40 : decode cX0_paysAnywhere 40 = .ok (.ireturn, 1) := by decide +kernel
set_option maxRecDepth 20000 in
theorem ggX0_after_X0_afterGoing : GoodIn wsX0_after wsX0_afterGoing := goodIn_r _ [4, 5, 6, 7, 8, 9, 10, 11] (by decide +kernel) (by decide +kernel)
set_option maxRecDepth 20000 in
theorem gX0_after_X0_afterGoing : GoodIn wsX0_after (va_wsS RX0 48 yX0_afterGoing wsX0_afterGoing) := goodIn_app (goodIn_of _ (by decide +kernel)) ggX0_after_X0_afterGoing
set_option maxRecDepth 20000 in
theorem ggX0_after_X0_afterBuying : GoodIn wsX0_after wsX0_afterBuying := goodIn_r _ [15, 16, 5, 6, 7, 8, 17, 18, 19, 20, 21, 22, 23, 24, 25, 3, 26, 27, 28, 29, 30, 31, 32, 33, 40, 41, 42, 43] (by decide +kernel) (by decide +kernel)
set_option maxRecDepth 20000 in
theorem gX0_after_X0_afterBuying : GoodIn wsX0_after (wsV RX0 52 RX0 yX0_afterBuying wsX0_afterBuying) := goodIn_app (goodIn_of _ (by decide +kernel)) ggX0_after_X0_afterBuying
set_option maxRecDepth 20000 in
theorem ggX0_after_X0_afterSelling : GoodIn wsX0_after wsX0_afterSelling := goodIn_r _ [37, 38, 39, 5, 6, 7, 8, 17, 18, 19, 20, 21, 22, 28, 29, 30, 31, 32, 33, 40, 41, 42, 43] (by decide +kernel) (by decide +kernel)
set_option maxRecDepth 20000 in
theorem gX0_after_X0_afterSelling : GoodIn wsX0_after (wsV RX0 55 RX0 yX0_afterSelling wsX0_afterSelling) := goodIn_app (goodIn_of _ (by decide +kernel)) ggX0_after_X0_afterSelling
theorem dX0_after_0 : decode cX0_after 0 = .ok (.iload_n 2, 1) := by decide +kernel
theorem dX0_after_1 : decode cX0_after 1 = .ok (.bipush 10, 2) := by decide +kernel
theorem dX0_after_3 : decode cX0_after 3 = .ok (.if_icmp .ge 9, 3) := by decide +kernel
theorem dX0_after_6 : decode cX0_after 6 = .ok (.iload_n 1, 1) := by decide +kernel
theorem dX0_after_7 : decode cX0_after 7 = .ok (.iload_n 2, 1) := by decide +kernel
theorem dX0_after_8 : decode cX0_after 8 = .ok (.invokestatic 48, 3) := by decide +kernel
theorem dX0_after_11 : decode cX0_after 11 = .ok (.ireturn, 1) := by decide +kernel
theorem dX0_after_12 : decode cX0_after 12 = .ok (.iload_n 2, 1) := by decide +kernel
theorem dX0_after_13 : decode cX0_after 13 = .ok (.bipush 20, 2) := by decide +kernel
theorem dX0_after_15 : decode cX0_after 15 = .ok (.if_icmp .ge 15, 3) := by decide +kernel
theorem dX0_after_18 : decode cX0_after 18 = .ok (.aload_n 0, 1) := by decide +kernel
theorem dX0_after_19 : decode cX0_after 19 = .ok (.iload_n 1, 1) := by decide +kernel
theorem dX0_after_20 : decode cX0_after 20 = .ok (.iload_n 2, 1) := by decide +kernel
theorem dX0_after_21 : decode cX0_after 21 = .ok (.bipush 10, 2) := by decide +kernel
theorem dX0_after_23 : decode cX0_after 23 = .ok (.isub, 1) := by decide +kernel
theorem dX0_after_24 : decode cX0_after 24 = .ok (.invokevirtual 52, 3) := by decide +kernel
theorem dX0_after_27 : decode cX0_after 27 = .ok (.goto 12, 3) := by decide +kernel
theorem dX0_after_30 : decode cX0_after 30 = .ok (.aload_n 0, 1) := by decide +kernel
theorem dX0_after_31 : decode cX0_after 31 = .ok (.iload_n 1, 1) := by decide +kernel
theorem dX0_after_32 : decode cX0_after 32 = .ok (.iload_n 2, 1) := by decide +kernel
theorem dX0_after_33 : decode cX0_after 33 = .ok (.bipush 20, 2) := by decide +kernel
theorem dX0_after_35 : decode cX0_after 35 = .ok (.isub, 1) := by decide +kernel
theorem dX0_after_36 : decode cX0_after 36 = .ok (.invokevirtual 55, 3) := by decide +kernel
theorem dX0_after_39 : decode cX0_after 39 = .ok (.ireturn, 1) := by decide +kernel
set_option maxRecDepth 20000 in
theorem ggX0_actsOpen_X0_after : GoodIn wsX0_actsOpen wsX0_after := goodIn_r _ [5, 6, 7, 4, 8, 9, 10, 11, 12, 13, 14, 15, 16, 17, 18, 19, 20, 21, 22, 23, 24, 25, 26, 27, 28, 29, 30, 31, 32, 33, 34, 35, 36, 37, 38, 39, 40, 41, 42, 43, 44, 45, 46, 47] (by decide +kernel) (by decide +kernel)
set_option maxRecDepth 20000 in
theorem gX0_actsOpen_X0_after : GoodIn wsX0_actsOpen (wsV RX0 61 RX0 yX0_after wsX0_after) := goodIn_app (goodIn_of _ (by decide +kernel)) ggX0_actsOpen_X0_after
theorem dX0_actsOpen_0 : decode cX0_actsOpen 0 = .ok (.iconst 0, 1) := by decide +kernel
theorem dX0_actsOpen_1 : decode cX0_actsOpen 1 = .ok (.istore_n 2, 1) := by decide +kernel
theorem dX0_actsOpen_2 : decode cX0_actsOpen 2 = .ok (.getstatic 58, 3) := by decide +kernel
theorem dX0_actsOpen_5 : decode cX0_actsOpen 5 = .ok (.astore_n 3, 1) := by decide +kernel
theorem dX0_actsOpen_6 : decode cX0_actsOpen 6 = .ok (.aload_n 3, 1) := by decide +kernel
theorem dX0_actsOpen_7 : decode cX0_actsOpen 7 = .ok (.arraylength, 1) := by decide +kernel
theorem dX0_actsOpen_8 : decode cX0_actsOpen 8 = .ok (.istore 4, 2) := by decide +kernel
theorem dX0_actsOpen_10 : decode cX0_actsOpen 10 = .ok (.iconst 0, 1) := by decide +kernel
theorem dX0_actsOpen_11 : decode cX0_actsOpen 11 = .ok (.istore 5, 2) := by decide +kernel
theorem dX0_actsOpen_13 : decode cX0_actsOpen 13 = .ok (.iload 5, 2) := by decide +kernel
theorem dX0_actsOpen_15 : decode cX0_actsOpen 15 = .ok (.iload 4, 2) := by decide +kernel
theorem dX0_actsOpen_17 : decode cX0_actsOpen 17 = .ok (.if_icmp .ge 29, 3) := by decide +kernel
theorem dX0_actsOpen_20 : decode cX0_actsOpen 20 = .ok (.aload_n 3, 1) := by decide +kernel
theorem dX0_actsOpen_21 : decode cX0_actsOpen 21 = .ok (.iload 5, 2) := by decide +kernel
theorem dX0_actsOpen_23 : decode cX0_actsOpen 23 = .ok (.iaload, 1) := by decide +kernel
theorem dX0_actsOpen_24 : decode cX0_actsOpen 24 = .ok (.istore 6, 2) := by decide +kernel
theorem dX0_actsOpen_26 : decode cX0_actsOpen 26 = .ok (.aload_n 0, 1) := by decide +kernel
theorem dX0_actsOpen_27 : decode cX0_actsOpen 27 = .ok (.iload_n 1, 1) := by decide +kernel
theorem dX0_actsOpen_28 : decode cX0_actsOpen 28 = .ok (.iload 6, 2) := by decide +kernel
theorem dX0_actsOpen_30 : decode cX0_actsOpen 30 = .ok (.invokevirtual 61, 3) := by decide +kernel
theorem dX0_actsOpen_33 : decode cX0_actsOpen 33 = .ok (.iconst (-1), 1) := by decide +kernel
theorem dX0_actsOpen_34 : decode cX0_actsOpen 34 = .ok (.if_icmp .eq 6, 3) := by decide +kernel
theorem dX0_actsOpen_37 : decode cX0_actsOpen 37 = .ok (.iinc 2 1, 3) := by decide +kernel
theorem dX0_actsOpen_40 : decode cX0_actsOpen 40 = .ok (.iinc 5 1, 3) := by decide +kernel
theorem dX0_actsOpen_43 : decode cX0_actsOpen 43 = .ok (.goto (-30), 3) := by decide +kernel
theorem dX0_actsOpen_46 : decode cX0_actsOpen 46 = .ok (.iload_n 2, 1) := by decide +kernel
theorem dX0_actsOpen_47 : decode cX0_actsOpen 47 = .ok (.ireturn, 1) := by decide +kernel
set_option maxRecDepth 20000 in
theorem ggX0_afterDraw_X0_actsOpen : GoodIn wsX0_afterDraw wsX0_actsOpen := goodIn_r _ [5, 6, 7, 8, 4, 9, 10, 11, 12, 13, 14, 15, 16, 17, 18, 19, 20, 21, 22, 23, 24, 25, 26, 27, 28, 29, 30, 31, 32, 33, 34, 35, 36, 37, 38, 39, 40, 41, 42, 43, 44, 45, 46, 47, 48, 49, 50, 51] (by decide +kernel) (by decide +kernel)
set_option maxRecDepth 20000 in
theorem gX0_afterDraw_X0_actsOpen : GoodIn wsX0_afterDraw (wsV RX0 64 RX0 yX0_actsOpen wsX0_actsOpen) := goodIn_app (goodIn_of _ (by decide +kernel)) ggX0_afterDraw_X0_actsOpen
set_option maxRecDepth 20000 in
theorem ggX0_afterDraw_X0_after : GoodIn wsX0_afterDraw wsX0_after := goodIn_r _ [9, 10, 11, 4, 12, 13, 14, 15, 16, 17, 18, 19, 20, 21, 22, 23, 24, 25, 26, 27, 28, 29, 30, 31, 32, 33, 34, 35, 36, 37, 38, 39, 40, 41, 42, 43, 44, 45, 46, 47, 48, 49, 50, 51] (by decide +kernel) (by decide +kernel)
set_option maxRecDepth 20000 in
theorem gX0_afterDraw_X0_after : GoodIn wsX0_afterDraw (wsV RX0 61 RX0 yX0_after wsX0_after) := goodIn_app (goodIn_of _ (by decide +kernel)) ggX0_afterDraw_X0_after
theorem dX0_afterDraw_0 : decode cX0_afterDraw 0 = .ok (.aload_n 0, 1) := by decide +kernel
theorem dX0_afterDraw_1 : decode cX0_afterDraw 1 = .ok (.iload_n 1, 1) := by decide +kernel
theorem dX0_afterDraw_2 : decode cX0_afterDraw 2 = .ok (.invokevirtual 64, 3) := by decide +kernel
theorem dX0_afterDraw_5 : decode cX0_afterDraw 5 = .ok (.istore_n 3, 1) := by decide +kernel
theorem dX0_afterDraw_6 : decode cX0_afterDraw 6 = .ok (.iload_n 3, 1) := by decide +kernel
theorem dX0_afterDraw_7 : decode cX0_afterDraw 7 = .ok (.ifCond .gt 5, 3) := by decide +kernel
theorem dX0_afterDraw_10 : decode cX0_afterDraw 10 = .ok (.iload_n 1, 1) := by decide +kernel
theorem dX0_afterDraw_11 : decode cX0_afterDraw 11 = .ok (.ireturn, 1) := by decide +kernel
theorem dX0_afterDraw_12 : decode cX0_afterDraw 12 = .ok (.iload_n 2, 1) := by decide +kernel
theorem dX0_afterDraw_13 : decode cX0_afterDraw 13 = .ok (.iload_n 3, 1) := by decide +kernel
theorem dX0_afterDraw_14 : decode cX0_afterDraw 14 = .ok (.irem, 1) := by decide +kernel
theorem dX0_afterDraw_15 : decode cX0_afterDraw 15 = .ok (.istore 4, 2) := by decide +kernel
theorem dX0_afterDraw_17 : decode cX0_afterDraw 17 = .ok (.getstatic 58, 3) := by decide +kernel
theorem dX0_afterDraw_20 : decode cX0_afterDraw 20 = .ok (.astore 5, 2) := by decide +kernel
theorem dX0_afterDraw_22 : decode cX0_afterDraw 22 = .ok (.aload 5, 2) := by decide +kernel
theorem dX0_afterDraw_24 : decode cX0_afterDraw 24 = .ok (.arraylength, 1) := by decide +kernel
theorem dX0_afterDraw_25 : decode cX0_afterDraw 25 = .ok (.istore 6, 2) := by decide +kernel
theorem dX0_afterDraw_27 : decode cX0_afterDraw 27 = .ok (.iconst 0, 1) := by decide +kernel
theorem dX0_afterDraw_28 : decode cX0_afterDraw 28 = .ok (.istore 7, 2) := by decide +kernel
theorem dX0_afterDraw_30 : decode cX0_afterDraw 30 = .ok (.iload 7, 2) := by decide +kernel
theorem dX0_afterDraw_32 : decode cX0_afterDraw 32 = .ok (.iload 6, 2) := by decide +kernel
theorem dX0_afterDraw_34 : decode cX0_afterDraw 34 = .ok (.if_icmp .ge 42, 3) := by decide +kernel
theorem dX0_afterDraw_37 : decode cX0_afterDraw 37 = .ok (.aload 5, 2) := by decide +kernel
theorem dX0_afterDraw_39 : decode cX0_afterDraw 39 = .ok (.iload 7, 2) := by decide +kernel
theorem dX0_afterDraw_41 : decode cX0_afterDraw 41 = .ok (.iaload, 1) := by decide +kernel
theorem dX0_afterDraw_42 : decode cX0_afterDraw 42 = .ok (.istore 8, 2) := by decide +kernel
theorem dX0_afterDraw_44 : decode cX0_afterDraw 44 = .ok (.aload_n 0, 1) := by decide +kernel
theorem dX0_afterDraw_45 : decode cX0_afterDraw 45 = .ok (.iload_n 1, 1) := by decide +kernel
theorem dX0_afterDraw_46 : decode cX0_afterDraw 46 = .ok (.iload 8, 2) := by decide +kernel
theorem dX0_afterDraw_48 : decode cX0_afterDraw 48 = .ok (.invokevirtual 61, 3) := by decide +kernel
theorem dX0_afterDraw_51 : decode cX0_afterDraw 51 = .ok (.istore 9, 2) := by decide +kernel
theorem dX0_afterDraw_53 : decode cX0_afterDraw 53 = .ok (.iload 9, 2) := by decide +kernel
theorem dX0_afterDraw_55 : decode cX0_afterDraw 55 = .ok (.iconst (-1), 1) := by decide +kernel
theorem dX0_afterDraw_56 : decode cX0_afterDraw 56 = .ok (.if_icmp .eq 14, 3) := by decide +kernel
theorem dX0_afterDraw_59 : decode cX0_afterDraw 59 = .ok (.iload 4, 2) := by decide +kernel
theorem dX0_afterDraw_61 : decode cX0_afterDraw 61 = .ok (.ifCond .ne 6, 3) := by decide +kernel
theorem dX0_afterDraw_64 : decode cX0_afterDraw 64 = .ok (.iload 9, 2) := by decide +kernel
theorem dX0_afterDraw_66 : decode cX0_afterDraw 66 = .ok (.ireturn, 1) := by decide +kernel
theorem dX0_afterDraw_67 : decode cX0_afterDraw 67 = .ok (.iinc 4 (-1), 3) := by decide +kernel
theorem dX0_afterDraw_70 : decode cX0_afterDraw 70 = .ok (.iinc 7 1, 3) := by decide +kernel
theorem dX0_afterDraw_73 : decode cX0_afterDraw 73 = .ok (.goto (-43), 3) := by decide +kernel
theorem dX0_afterDraw_76 : decode cX0_afterDraw 76 = .ok (.iload_n 1, 1) := by decide +kernel
theorem dX0_afterDraw_77 : decode cX0_afterDraw 77 = .ok (.ireturn, 1) := by decide +kernel
theorem dX0_canPay_0 : decode cX0_canPay 0 = .ok (.aload_n 0, 1) := by decide +kernel
theorem dX0_canPay_1 : decode cX0_canPay 1 = .ok (.getfield 21, 3) := by decide +kernel
theorem dX0_canPay_4 : decode cX0_canPay 4 = .ok (.iload_n 1, 1) := by decide +kernel
theorem dX0_canPay_5 : decode cX0_canPay 5 = .ok (.iaload, 1) := by decide +kernel
theorem dX0_canPay_6 : decode cX0_canPay 6 = .ok (.iload_n 2, 1) := by decide +kernel
theorem dX0_canPay_7 : decode cX0_canPay 7 = .ok (.ishr, 1) := by decide +kernel
theorem dX0_canPay_8 : decode cX0_canPay 8 = .ok (.iconst 1, 1) := by decide +kernel
theorem dX0_canPay_9 : decode cX0_canPay 9 = .ok (.iand, 1) := by decide +kernel
theorem dX0_canPay_10 : decode cX0_canPay 10 = .ok (.iconst 1, 1) := by decide +kernel
theorem dX0_canPay_11 : decode cX0_canPay 11 = .ok (.if_icmp .ne 13, 3) := by decide +kernel
theorem dX0_canPay_14 : decode cX0_canPay 14 = .ok (.iload_n 3, 1) := by decide +kernel
theorem dX0_canPay_15 : decode cX0_canPay 15 = .ok (.iload 4, 2) := by decide +kernel
theorem dX0_canPay_17 : decode cX0_canPay 17 = .ok (.if_icmp .lt 7, 3) := by decide +kernel
theorem dX0_canPay_20 : decode cX0_canPay 20 = .ok (.iconst 1, 1) := by decide +kernel
theorem dX0_canPay_21 : decode cX0_canPay 21 = .ok (.goto 4, 3) := by decide +kernel
theorem dX0_canPay_24 : decode cX0_canPay 24 = .ok (.iconst 0, 1) := by decide +kernel
theorem dX0_canPay_25 : decode cX0_canPay 25 = .ok (.ireturn, 1) := by decide +kernel
set_option maxRecDepth 20000 in
theorem ggX0_afterGoing_X7_townOf : GoodIn wsX0_afterGoing wsX7_townOf := goodIn_r _ [4] (by decide +kernel) (by decide +kernel)
set_option maxRecDepth 20000 in
theorem gX0_afterGoing_X7_townOf : GoodIn wsX0_afterGoing (va_wsS RX0 67 yX7_townOf wsX7_townOf) := goodIn_app (goodIn_of _ (by decide +kernel)) ggX0_afterGoing_X7_townOf
set_option maxRecDepth 20000 in
theorem ggX0_afterGoing_X7_withTown : GoodIn wsX0_afterGoing wsX7_withTown := goodIn_r _ [7] (by decide +kernel) (by decide +kernel)
set_option maxRecDepth 20000 in
theorem gX0_afterGoing_X7_withTown : GoodIn wsX0_afterGoing (va_wsS RX0 72 yX7_withTown wsX7_withTown) := goodIn_app (goodIn_of _ (by decide +kernel)) ggX0_afterGoing_X7_withTown
theorem dX0_afterGoing_0 : decode cX0_afterGoing 0 = .ok (.iload_n 0, 1) := by decide +kernel
theorem dX0_afterGoing_1 : decode cX0_afterGoing 1 = .ok (.invokestatic 67, 3) := by decide +kernel
theorem dX0_afterGoing_4 : decode cX0_afterGoing 4 = .ok (.iload_n 1, 1) := by decide +kernel
theorem dX0_afterGoing_5 : decode cX0_afterGoing 5 = .ok (.iadd, 1) := by decide +kernel
theorem dX0_afterGoing_6 : decode cX0_afterGoing 6 = .ok (.iconst 1, 1) := by decide +kernel
theorem dX0_afterGoing_7 : decode cX0_afterGoing 7 = .ok (.iand, 1) := by decide +kernel
theorem dX0_afterGoing_8 : decode cX0_afterGoing 8 = .ok (.iconst 1, 1) := by decide +kernel
theorem dX0_afterGoing_9 : decode cX0_afterGoing 9 = .ok (.if_icmp .ne 7, 3) := by decide +kernel
theorem dX0_afterGoing_12 : decode cX0_afterGoing 12 = .ok (.iconst 1, 1) := by decide +kernel
theorem dX0_afterGoing_13 : decode cX0_afterGoing 13 = .ok (.goto 4, 3) := by decide +kernel
theorem dX0_afterGoing_16 : decode cX0_afterGoing 16 = .ok (.iconst 0, 1) := by decide +kernel
theorem dX0_afterGoing_17 : decode cX0_afterGoing 17 = .ok (.istore_n 2, 1) := by decide +kernel
theorem dX0_afterGoing_18 : decode cX0_afterGoing 18 = .ok (.iload_n 2, 1) := by decide +kernel
theorem dX0_afterGoing_19 : decode cX0_afterGoing 19 = .ok (.ifCond .eq 11, 3) := by decide +kernel
theorem dX0_afterGoing_22 : decode cX0_afterGoing 22 = .ok (.iload_n 0, 1) := by decide +kernel
theorem dX0_afterGoing_23 : decode cX0_afterGoing 23 = .ok (.iload_n 1, 1) := by decide +kernel
theorem dX0_afterGoing_24 : decode cX0_afterGoing 24 = .ok (.invokestatic 72, 3) := by decide +kernel
theorem dX0_afterGoing_27 : decode cX0_afterGoing 27 = .ok (.goto 4, 3) := by decide +kernel
theorem dX0_afterGoing_30 : decode cX0_afterGoing 30 = .ok (.iconst (-1), 1) := by decide +kernel
theorem dX0_afterGoing_31 : decode cX0_afterGoing 31 = .ok (.ireturn, 1) := by decide +kernel
set_option maxRecDepth 20000 in
theorem ggX0_afterBuying_X7_townOf : GoodIn wsX0_afterBuying wsX7_townOf := goodIn_r _ [5] (by decide +kernel) (by decide +kernel)
set_option maxRecDepth 20000 in
theorem gX0_afterBuying_X7_townOf : GoodIn wsX0_afterBuying (va_wsS RX0 67 yX7_townOf wsX7_townOf) := goodIn_app (goodIn_of _ (by decide +kernel)) ggX0_afterBuying_X7_townOf
set_option maxRecDepth 20000 in
theorem ggX0_afterBuying_X7_hasGood : GoodIn wsX0_afterBuying wsX7_hasGood := goodIn_r _ [8] (by decide +kernel) (by decide +kernel)
set_option maxRecDepth 20000 in
theorem gX0_afterBuying_X7_hasGood : GoodIn wsX0_afterBuying (va_wsS RX0 75 yX7_hasGood wsX7_hasGood) := goodIn_app (goodIn_of _ (by decide +kernel)) ggX0_afterBuying_X7_hasGood
set_option maxRecDepth 20000 in
theorem ggX0_afterBuying_X7_coinsOf : GoodIn wsX0_afterBuying wsX7_coinsOf := goodIn_r _ [11] (by decide +kernel) (by decide +kernel)
set_option maxRecDepth 20000 in
theorem gX0_afterBuying_X7_coinsOf : GoodIn wsX0_afterBuying (va_wsS RX0 79 yX7_coinsOf wsX7_coinsOf) := goodIn_app (goodIn_of _ (by decide +kernel)) ggX0_afterBuying_X7_coinsOf
set_option maxRecDepth 20000 in
theorem ggX0_afterBuying_X0_canPay : GoodIn wsX0_afterBuying wsX0_canPay := goodIn_r _ [16, 17, 24, 25, 26, 27] (by decide +kernel) (by decide +kernel)
set_option maxRecDepth 20000 in
theorem gX0_afterBuying_X0_canPay : GoodIn wsX0_afterBuying (wsV RX0 82 RX0 yX0_canPay wsX0_canPay) := goodIn_app (goodIn_of _ (by decide +kernel)) ggX0_afterBuying_X0_canPay
set_option maxRecDepth 20000 in
theorem ggX0_afterBuying_X7_withMore : GoodIn wsX0_afterBuying wsX7_withMore := goodIn_r _ [20] (by decide +kernel) (by decide +kernel)
set_option maxRecDepth 20000 in
theorem gX0_afterBuying_X7_withMore : GoodIn wsX0_afterBuying (va_wsS RX0 86 yX7_withMore wsX7_withMore) := goodIn_app (goodIn_of _ (by decide +kernel)) ggX0_afterBuying_X7_withMore
set_option maxRecDepth 20000 in
theorem ggX0_afterBuying_X7_withOtherGood : GoodIn wsX0_afterBuying wsX7_withOtherGood := goodIn_r _ [23] (by decide +kernel) (by decide +kernel)
set_option maxRecDepth 20000 in
theorem gX0_afterBuying_X7_withOtherGood : GoodIn wsX0_afterBuying (va_wsS RX0 90 yX7_withOtherGood wsX7_withOtherGood) := goodIn_app (goodIn_of _ (by decide +kernel)) ggX0_afterBuying_X7_withOtherGood
theorem dX0_afterBuying_0 : decode cX0_afterBuying 0 = .ok (.iload_n 1, 1) := by decide +kernel
theorem dX0_afterBuying_1 : decode cX0_afterBuying 1 = .ok (.invokestatic 67, 3) := by decide +kernel
theorem dX0_afterBuying_4 : decode cX0_afterBuying 4 = .ok (.istore_n 3, 1) := by decide +kernel
theorem dX0_afterBuying_5 : decode cX0_afterBuying 5 = .ok (.iload_n 1, 1) := by decide +kernel
theorem dX0_afterBuying_6 : decode cX0_afterBuying 6 = .ok (.iload_n 3, 1) := by decide +kernel
theorem dX0_afterBuying_7 : decode cX0_afterBuying 7 = .ok (.invokestatic 75, 3) := by decide +kernel
theorem dX0_afterBuying_10 : decode cX0_afterBuying 10 = .ok (.ifCond .ne 23, 3) := by decide +kernel
theorem dX0_afterBuying_13 : decode cX0_afterBuying 13 = .ok (.aload_n 0, 1) := by decide +kernel
theorem dX0_afterBuying_14 : decode cX0_afterBuying 14 = .ok (.iload_n 3, 1) := by decide +kernel
theorem dX0_afterBuying_15 : decode cX0_afterBuying 15 = .ok (.iload_n 2, 1) := by decide +kernel
theorem dX0_afterBuying_16 : decode cX0_afterBuying 16 = .ok (.iload_n 1, 1) := by decide +kernel
theorem dX0_afterBuying_17 : decode cX0_afterBuying 17 = .ok (.iload_n 2, 1) := by decide +kernel
theorem dX0_afterBuying_18 : decode cX0_afterBuying 18 = .ok (.invokestatic 79, 3) := by decide +kernel
theorem dX0_afterBuying_21 : decode cX0_afterBuying 21 = .ok (.aload_n 0, 1) := by decide +kernel
theorem dX0_afterBuying_22 : decode cX0_afterBuying 22 = .ok (.getfield 9, 3) := by decide +kernel
theorem dX0_afterBuying_25 : decode cX0_afterBuying 25 = .ok (.iload_n 3, 1) := by decide +kernel
theorem dX0_afterBuying_26 : decode cX0_afterBuying 26 = .ok (.iaload, 1) := by decide +kernel
theorem dX0_afterBuying_27 : decode cX0_afterBuying 27 = .ok (.invokevirtual 82, 3) := by decide +kernel
theorem dX0_afterBuying_30 : decode cX0_afterBuying 30 = .ok (.ifCond .ne 5, 3) := by decide +kernel
theorem dX0_afterBuying_33 : decode cX0_afterBuying 33 = .ok (.iconst (-1), 1) := by decide +kernel
theorem dX0_afterBuying_34 : decode cX0_afterBuying 34 = .ok (.ireturn, 1) := by decide +kernel
theorem dX0_afterBuying_35 : decode cX0_afterBuying 35 = .ok (.iload_n 1, 1) := by decide +kernel
theorem dX0_afterBuying_36 : decode cX0_afterBuying 36 = .ok (.iload_n 2, 1) := by decide +kernel
theorem dX0_afterBuying_37 : decode cX0_afterBuying 37 = .ok (.aload_n 0, 1) := by decide +kernel
theorem dX0_afterBuying_38 : decode cX0_afterBuying 38 = .ok (.getfield 9, 3) := by decide +kernel
theorem dX0_afterBuying_41 : decode cX0_afterBuying 41 = .ok (.iload_n 3, 1) := by decide +kernel
theorem dX0_afterBuying_42 : decode cX0_afterBuying 42 = .ok (.iaload, 1) := by decide +kernel
theorem dX0_afterBuying_43 : decode cX0_afterBuying 43 = .ok (.ineg, 1) := by decide +kernel
theorem dX0_afterBuying_44 : decode cX0_afterBuying 44 = .ok (.invokestatic 86, 3) := by decide +kernel
theorem dX0_afterBuying_47 : decode cX0_afterBuying 47 = .ok (.iload_n 3, 1) := by decide +kernel
theorem dX0_afterBuying_48 : decode cX0_afterBuying 48 = .ok (.invokestatic 90, 3) := by decide +kernel
theorem dX0_afterBuying_51 : decode cX0_afterBuying 51 = .ok (.ireturn, 1) := by decide +kernel
set_option maxRecDepth 20000 in
theorem ggX0_afterSelling_X7_townOf : GoodIn wsX0_afterSelling wsX7_townOf := goodIn_r _ [6] (by decide +kernel) (by decide +kernel)
set_option maxRecDepth 20000 in
theorem gX0_afterSelling_X7_townOf : GoodIn wsX0_afterSelling (va_wsS RX0 67 yX7_townOf wsX7_townOf) := goodIn_app (goodIn_of _ (by decide +kernel)) ggX0_afterSelling_X7_townOf
set_option maxRecDepth 20000 in
theorem ggX0_afterSelling_X7_hasGood : GoodIn wsX0_afterSelling wsX7_hasGood := goodIn_r _ [9] (by decide +kernel) (by decide +kernel)
set_option maxRecDepth 20000 in
theorem gX0_afterSelling_X7_hasGood : GoodIn wsX0_afterSelling (va_wsS RX0 75 yX7_hasGood wsX7_hasGood) := goodIn_app (goodIn_of _ (by decide +kernel)) ggX0_afterSelling_X7_hasGood
set_option maxRecDepth 20000 in
theorem ggX0_afterSelling_X7_coinsOf : GoodIn wsX0_afterSelling wsX7_coinsOf := goodIn_r _ [12] (by decide +kernel) (by decide +kernel)
set_option maxRecDepth 20000 in
theorem gX0_afterSelling_X7_coinsOf : GoodIn wsX0_afterSelling (va_wsS RX0 79 yX7_coinsOf wsX7_coinsOf) := goodIn_app (goodIn_of _ (by decide +kernel)) ggX0_afterSelling_X7_coinsOf
set_option maxRecDepth 20000 in
theorem ggX0_afterSelling_X7_withMore : GoodIn wsX0_afterSelling wsX7_withMore := goodIn_r _ [15] (by decide +kernel) (by decide +kernel)
set_option maxRecDepth 20000 in
theorem gX0_afterSelling_X7_withMore : GoodIn wsX0_afterSelling (va_wsS RX0 86 yX7_withMore wsX7_withMore) := goodIn_app (goodIn_of _ (by decide +kernel)) ggX0_afterSelling_X7_withMore
set_option maxRecDepth 20000 in
theorem ggX0_afterSelling_X7_withOtherGood : GoodIn wsX0_afterSelling wsX7_withOtherGood := goodIn_r _ [18] (by decide +kernel) (by decide +kernel)
set_option maxRecDepth 20000 in
theorem gX0_afterSelling_X7_withOtherGood : GoodIn wsX0_afterSelling (va_wsS RX0 90 yX7_withOtherGood wsX7_withOtherGood) := goodIn_app (goodIn_of _ (by decide +kernel)) ggX0_afterSelling_X7_withOtherGood
theorem dX0_afterSelling_0 : decode cX0_afterSelling 0 = .ok (.iload_n 1, 1) := by decide +kernel
theorem dX0_afterSelling_1 : decode cX0_afterSelling 1 = .ok (.invokestatic 67, 3) := by decide +kernel
theorem dX0_afterSelling_4 : decode cX0_afterSelling 4 = .ok (.istore_n 3, 1) := by decide +kernel
theorem dX0_afterSelling_5 : decode cX0_afterSelling 5 = .ok (.iload_n 1, 1) := by decide +kernel
theorem dX0_afterSelling_6 : decode cX0_afterSelling 6 = .ok (.iload_n 2, 1) := by decide +kernel
theorem dX0_afterSelling_7 : decode cX0_afterSelling 7 = .ok (.invokestatic 75, 3) := by decide +kernel
theorem dX0_afterSelling_10 : decode cX0_afterSelling 10 = .ok (.ifCond .eq 29, 3) := by decide +kernel
theorem dX0_afterSelling_13 : decode cX0_afterSelling 13 = .ok (.iload_n 2, 1) := by decide +kernel
theorem dX0_afterSelling_14 : decode cX0_afterSelling 14 = .ok (.iload_n 3, 1) := by decide +kernel
theorem dX0_afterSelling_15 : decode cX0_afterSelling 15 = .ok (.if_icmp .eq 24, 3) := by decide +kernel
theorem dX0_afterSelling_18 : decode cX0_afterSelling 18 = .ok (.iload_n 1, 1) := by decide +kernel
theorem dX0_afterSelling_19 : decode cX0_afterSelling 19 = .ok (.aload_n 0, 1) := by decide +kernel
theorem dX0_afterSelling_20 : decode cX0_afterSelling 20 = .ok (.getfield 18, 3) := by decide +kernel
theorem dX0_afterSelling_23 : decode cX0_afterSelling 23 = .ok (.iload_n 3, 1) := by decide +kernel
theorem dX0_afterSelling_24 : decode cX0_afterSelling 24 = .ok (.iaload, 1) := by decide +kernel
theorem dX0_afterSelling_25 : decode cX0_afterSelling 25 = .ok (.invokestatic 79, 3) := by decide +kernel
theorem dX0_afterSelling_28 : decode cX0_afterSelling 28 = .ok (.aload_n 0, 1) := by decide +kernel
theorem dX0_afterSelling_29 : decode cX0_afterSelling 29 = .ok (.getfield 15, 3) := by decide +kernel
theorem dX0_afterSelling_32 : decode cX0_afterSelling 32 = .ok (.iload_n 3, 1) := by decide +kernel
theorem dX0_afterSelling_33 : decode cX0_afterSelling 33 = .ok (.iaload, 1) := by decide +kernel
theorem dX0_afterSelling_34 : decode cX0_afterSelling 34 = .ok (.iadd, 1) := by decide +kernel
theorem dX0_afterSelling_35 : decode cX0_afterSelling 35 = .ok (.iconst 4, 1) := by decide +kernel
theorem dX0_afterSelling_36 : decode cX0_afterSelling 36 = .ok (.if_icmp .le 5, 3) := by decide +kernel
theorem dX0_afterSelling_39 : decode cX0_afterSelling 39 = .ok (.iconst (-1), 1) := by decide +kernel
theorem dX0_afterSelling_40 : decode cX0_afterSelling 40 = .ok (.ireturn, 1) := by decide +kernel
theorem dX0_afterSelling_41 : decode cX0_afterSelling 41 = .ok (.iload_n 1, 1) := by decide +kernel
theorem dX0_afterSelling_42 : decode cX0_afterSelling 42 = .ok (.aload_n 0, 1) := by decide +kernel
theorem dX0_afterSelling_43 : decode cX0_afterSelling 43 = .ok (.getfield 18, 3) := by decide +kernel
theorem dX0_afterSelling_46 : decode cX0_afterSelling 46 = .ok (.iload_n 3, 1) := by decide +kernel
theorem dX0_afterSelling_47 : decode cX0_afterSelling 47 = .ok (.iaload, 1) := by decide +kernel
theorem dX0_afterSelling_48 : decode cX0_afterSelling 48 = .ok (.aload_n 0, 1) := by decide +kernel
theorem dX0_afterSelling_49 : decode cX0_afterSelling 49 = .ok (.getfield 15, 3) := by decide +kernel
theorem dX0_afterSelling_52 : decode cX0_afterSelling 52 = .ok (.iload_n 3, 1) := by decide +kernel
theorem dX0_afterSelling_53 : decode cX0_afterSelling 53 = .ok (.iaload, 1) := by decide +kernel
theorem dX0_afterSelling_54 : decode cX0_afterSelling 54 = .ok (.invokestatic 86, 3) := by decide +kernel
theorem dX0_afterSelling_57 : decode cX0_afterSelling 57 = .ok (.iload_n 2, 1) := by decide +kernel
theorem dX0_afterSelling_58 : decode cX0_afterSelling 58 = .ok (.invokestatic 90, 3) := by decide +kernel
theorem dX0_afterSelling_61 : decode cX0_afterSelling 61 = .ok (.ireturn, 1) := by decide +kernel
theorem dX1_init_0 : decode cX1_init 0 = .ok (.aload_n 0, 1) := by decide +kernel
theorem dX1_init_1 : decode cX1_init 1 = .ok (.invokespecial 3, 3) := by decide +kernel
theorem dX1_init_4 : decode cX1_init 4 = .ok (.aload_n 0, 1) := by decide +kernel
theorem dX1_init_5 : decode cX1_init 5 = .ok (.iconst 5, 1) := by decide +kernel
theorem dX1_init_6 : decode cX1_init 6 = .ok (.newarray .int, 2) := by decide +kernel
theorem dX1_init_8 : decode cX1_init 8 = .ok (.putfield 9, 3) := by decide +kernel
theorem dX1_init_11 : decode cX1_init 11 = .ok (.aload_n 0, 1) := by decide +kernel
theorem dX1_init_12 : decode cX1_init 12 = .ok (.iconst 4, 1) := by decide +kernel
theorem dX1_init_13 : decode cX1_init 13 = .ok (.newarray .int, 2) := by decide +kernel
theorem dX1_init_15 : decode cX1_init 15 = .ok (.putfield 15, 3) := by decide +kernel
theorem dX1_init_18 : decode cX1_init 18 = .ok (.return_, 1) := by decide +kernel
theorem dX2_cost_0 : decode cX2_cost 0 = .ok (.iconst 1, 1) := by decide +kernel
theorem dX2_cost_1 : decode cX2_cost 1 = .ok (.iload_n 1, 1) := by decide +kernel
theorem dX2_cost_2 : decode cX2_cost 2 = .ok (.aload_n 0, 1) := by decide +kernel
theorem dX2_cost_3 : decode cX2_cost 3 = .ok (.getfield 42, 3) := by decide +kernel
theorem dX2_cost_6 : decode cX2_cost 6 = .ok (.isub, 1) := by decide +kernel
theorem dX2_cost_7 : decode cX2_cost 7 = .ok (.invokestatic 52, 3) := by decide +kernel
theorem dX2_cost_10 : decode cX2_cost 10 = .ok (.ireturn, 1) := by decide +kernel
theorem dX2_gain_0 : decode cX2_gain 0 = .ok (.iload_n 1, 1) := by decide +kernel
theorem dX2_gain_1 : decode cX2_gain 1 = .ok (.aload_n 0, 1) := by decide +kernel
theorem dX2_gain_2 : decode cX2_gain 2 = .ok (.getfield 45, 3) := by decide +kernel
theorem dX2_gain_5 : decode cX2_gain 5 = .ok (.iadd, 1) := by decide +kernel
theorem dX2_gain_6 : decode cX2_gain 6 = .ok (.ireturn, 1) := by decide +kernel
theorem dX2_isAlso_0 : decode cX2_isAlso 0 = .ok (.aload_n 1, 1) := by decide +kernel
theorem dX2_isAlso_1 : decode cX2_isAlso 1 = .ok (.aload_n 0, 1) := by decide +kernel
theorem dX2_isAlso_2 : decode cX2_isAlso 2 = .ok (.if_acmp .eq 24, 3) := by decide +kernel
theorem dX2_isAlso_5 : decode cX2_isAlso 5 = .ok (.aload_n 1, 1) := by decide +kernel
theorem dX2_isAlso_6 : decode cX2_isAlso 6 = .ok (.getstatic 3, 3) := by decide +kernel
theorem dX2_isAlso_9 : decode cX2_isAlso 9 = .ok (.if_acmp .eq 17, 3) := by decide +kernel
theorem dX2_isAlso_12 : decode cX2_isAlso 12 = .ok (.aload_n 0, 1) := by decide +kernel
theorem dX2_isAlso_13 : decode cX2_isAlso 13 = .ok (.getstatic 16, 3) := by decide +kernel
theorem dX2_isAlso_16 : decode cX2_isAlso 16 = .ok (.if_acmp .ne 14, 3) := by decide +kernel
theorem dX2_isAlso_19 : decode cX2_isAlso 19 = .ok (.aload_n 1, 1) := by decide +kernel
theorem dX2_isAlso_20 : decode cX2_isAlso 20 = .ok (.getstatic 13, 3) := by decide +kernel
theorem dX2_isAlso_23 : decode cX2_isAlso 23 = .ok (.if_acmp .ne 7, 3) := by decide +kernel
theorem dX2_isAlso_26 : decode cX2_isAlso 26 = .ok (.iconst 1, 1) := by decide +kernel
theorem dX2_isAlso_27 : decode cX2_isAlso 27 = .ok (.goto 4, 3) := by decide +kernel
theorem dX2_isAlso_30 : decode cX2_isAlso 30 = .ok (.iconst 0, 1) := by decide +kernel
theorem dX2_isAlso_31 : decode cX2_isAlso 31 = .ok (.ireturn, 1) := by decide +kernel
theorem dX3_init_0 : decode cX3_init 0 = .ok (.aload_n 0, 1) := by decide +kernel
theorem dX3_init_1 : decode cX3_init 1 = .ok (.invokespecial 3, 3) := by decide +kernel
theorem dX3_init_4 : decode cX3_init 4 = .ok (.aload_n 0, 1) := by decide +kernel
theorem dX3_init_5 : decode cX3_init 5 = .ok (.iconst 4, 1) := by decide +kernel
theorem dX3_init_6 : decode cX3_init 6 = .ok (.newarray .int, 2) := by decide +kernel
theorem dX3_init_8 : decode cX3_init 8 = .ok (.putfield 9, 3) := by decide +kernel
theorem dX3_init_11 : decode cX3_init 11 = .ok (.aload_n 0, 1) := by decide +kernel
theorem dX3_init_12 : decode cX3_init 12 = .ok (.iconst 4, 1) := by decide +kernel
theorem dX3_init_13 : decode cX3_init 13 = .ok (.newarray .int, 2) := by decide +kernel
theorem dX3_init_15 : decode cX3_init 15 = .ok (.putfield 15, 3) := by decide +kernel
theorem dX3_init_18 : decode cX3_init 18 = .ok (.aload_n 0, 1) := by decide +kernel
theorem dX3_init_19 : decode cX3_init 19 = .ok (.iconst 4, 1) := by decide +kernel
theorem dX3_init_20 : decode cX3_init 20 = .ok (.newarray .int, 2) := by decide +kernel
theorem dX3_init_22 : decode cX3_init 22 = .ok (.putfield 18, 3) := by decide +kernel
theorem dX3_init_25 : decode cX3_init 25 = .ok (.aload_n 0, 1) := by decide +kernel
theorem dX3_init_26 : decode cX3_init 26 = .ok (.iconst 4, 1) := by decide +kernel
theorem dX3_init_27 : decode cX3_init 27 = .ok (.newarray .int, 2) := by decide +kernel
theorem dX3_init_29 : decode cX3_init 29 = .ok (.putfield 21, 3) := by decide +kernel
theorem dX3_init_32 : decode cX3_init 32 = .ok (.return_, 1) := by decide +kernel
set_option maxRecDepth 20000 in
theorem ggX3_read_J7_fill_53178 : GoodIn wsX3_read wsJ7_fill_53178 := goodIn_r _ [9] (by decide +kernel) (by decide +kernel)
set_option maxRecDepth 20000 in
theorem gX3_read_J7_fill_53178 : GoodIn wsX3_read (va_wsS RX3 24 yJ7_fill_53178 wsJ7_fill_53178) := goodIn_app (goodIn_of _ (by decide +kernel)) ggX3_read_J7_fill_53178
set_option maxRecDepth 20000 in
theorem ggX3_read_X3_readLetter : GoodIn wsX3_read wsX3_readLetter := goodIn_r _ [14, 3, 15, 16, 17, 18, 19, 20, 13, 21, 1, 2, 22, 23, 24, 25, 26, 27, 28, 29, 30, 31, 32, 33, 34, 35, 36, 37, 38, 39, 40, 41, 42, 43, 44, 45, 46, 47, 48] (by decide +kernel) (by decide +kernel)
set_option maxRecDepth 20000 in
theorem gX3_read_X3_readLetter : GoodIn wsX3_read (wsV RX3 45 RX3 yX3_readLetter wsX3_readLetter) := goodIn_app (goodIn_of _ (by decide +kernel)) ggX3_read_X3_readLetter
theorem dX3_read_0 : decode cX3_read 0 = .ok (.aload_n 0, 1) := by decide +kernel
theorem dX3_read_1 : decode cX3_read 1 = .ok (.getfield 9, 3) := by decide +kernel
theorem dX3_read_4 : decode cX3_read 4 = .ok (.iconst 0, 1) := by decide +kernel
theorem dX3_read_5 : decode cX3_read 5 = .ok (.invokestatic 24, 3) := by decide +kernel
theorem dX3_read_8 : decode cX3_read 8 = .ok (.aload_n 0, 1) := by decide +kernel
theorem dX3_read_9 : decode cX3_read 9 = .ok (.iconst 0, 1) := by decide +kernel
theorem dX3_read_10 : decode cX3_read 10 = .ok (.putfield 30, 3) := by decide +kernel
theorem dX3_read_13 : decode cX3_read 13 = .ok (.aload_n 0, 1) := by decide +kernel
theorem dX3_read_14 : decode cX3_read 14 = .ok (.iconst 0, 1) := by decide +kernel
theorem dX3_read_15 : decode cX3_read 15 = .ok (.putfield 34, 3) := by decide +kernel
theorem dX3_read_18 : decode cX3_read 18 = .ok (.iconst 0, 1) := by decide +kernel
theorem dX3_read_19 : decode cX3_read 19 = .ok (.istore_n 2, 1) := by decide +kernel
theorem dX3_read_20 : decode cX3_read 20 = .ok (.iload_n 2, 1) := by decide +kernel
theorem dX3_read_21 : decode cX3_read 21 = .ok (.aload_n 1, 1) := by decide +kernel
theorem dX3_read_22 : decode cX3_read 22 = .ok (.getfield 37, 3) := by decide +kernel
theorem dX3_read_25 : decode cX3_read 25 = .ok (.if_icmp .ge 24, 3) := by decide +kernel
theorem dX3_read_28 : decode cX3_read 28 = .ok (.aload_n 0, 1) := by decide +kernel
theorem dX3_read_29 : decode cX3_read 29 = .ok (.aload_n 1, 1) := by decide +kernel
theorem dX3_read_30 : decode cX3_read 30 = .ok (.getfield 42, 3) := by decide +kernel
theorem dX3_read_33 : decode cX3_read 33 = .ok (.iload_n 2, 1) := by decide +kernel
theorem dX3_read_34 : decode cX3_read 34 = .ok (.iaload, 1) := by decide +kernel
theorem dX3_read_35 : decode cX3_read 35 = .ok (.invokevirtual 45, 3) := by decide +kernel
theorem dX3_read_38 : decode cX3_read 38 = .ok (.ifCond .ne 5, 3) := by decide +kernel
theorem dX3_read_41 : decode cX3_read 41 = .ok (.iload_n 2, 1) := by decide +kernel
theorem dX3_read_42 : decode cX3_read 42 = .ok (.ireturn, 1) := by decide +kernel
theorem dX3_read_43 : decode cX3_read 43 = .ok (.iinc 2 1, 3) := by decide +kernel
theorem dX3_read_46 : decode cX3_read 46 = .ok (.goto (-26), 3) := by decide +kernel
theorem dX3_read_49 : decode cX3_read 49 = .ok (.aload_n 1, 1) := by decide +kernel
theorem dX3_read_50 : decode cX3_read 50 = .ok (.getfield 37, 3) := by decide +kernel
theorem dX3_read_53 : decode cX3_read 53 = .ok (.ireturn, 1) := by decide +kernel
theorem dX3_isWhole_0 : decode cX3_isWhole 0 = .ok (.aload_n 0, 1) := by decide +kernel
theorem dX3_isWhole_1 : decode cX3_isWhole 1 = .ok (.getfield 30, 3) := by decide +kernel
theorem dX3_isWhole_4 : decode cX3_isWhole 4 = .ok (.iconst 3, 1) := by decide +kernel
theorem dX3_isWhole_5 : decode cX3_isWhole 5 = .ok (.if_icmp .ne 15, 3) := by decide +kernel
theorem dX3_isWhole_8 : decode cX3_isWhole 8 = .ok (.aload_n 0, 1) := by decide +kernel
theorem dX3_isWhole_9 : decode cX3_isWhole 9 = .ok (.getfield 34, 3) := by decide +kernel
theorem dX3_isWhole_12 : decode cX3_isWhole 12 = .ok (.iconst 4, 1) := by decide +kernel
theorem dX3_isWhole_13 : decode cX3_isWhole 13 = .ok (.if_icmp .ne 7, 3) := by decide +kernel
theorem dX3_isWhole_16 : decode cX3_isWhole 16 = .ok (.iconst 1, 1) := by decide +kernel
theorem dX3_isWhole_17 : decode cX3_isWhole 17 = .ok (.goto 4, 3) := by decide +kernel
theorem dX3_isWhole_20 : decode cX3_isWhole 20 = .ok (.iconst 0, 1) := by decide +kernel
theorem dX3_isWhole_21 : decode cX3_isWhole 21 = .ok (.ireturn, 1) := by decide +kernel
set_option maxRecDepth 20000 in
theorem ggX3_coinsTaken_J6_bitCount_0f7a4 : GoodIn wsX3_coinsTaken wsJ6_bitCount_0f7a4 := goodIn_r _ [5, 6, 7, 8] (by decide +kernel) (by decide +kernel)
set_option maxRecDepth 20000 in
theorem gX3_coinsTaken_J6_bitCount_0f7a4 : GoodIn wsX3_coinsTaken (va_wsS RX3 49 yJ6_bitCount_0f7a4 wsJ6_bitCount_0f7a4) := goodIn_app (goodIn_of _ (by decide +kernel)) ggX3_coinsTaken_J6_bitCount_0f7a4
theorem dX3_coinsTaken_0 : decode cX3_coinsTaken 0 = .ok (.iconst 0, 1) := by decide +kernel
theorem dX3_coinsTaken_1 : decode cX3_coinsTaken 1 = .ok (.istore_n 1, 1) := by decide +kernel
theorem dX3_coinsTaken_2 : decode cX3_coinsTaken 2 = .ok (.iconst 0, 1) := by decide +kernel
theorem dX3_coinsTaken_3 : decode cX3_coinsTaken 3 = .ok (.istore_n 2, 1) := by decide +kernel
theorem dX3_coinsTaken_4 : decode cX3_coinsTaken 4 = .ok (.iload_n 2, 1) := by decide +kernel
theorem dX3_coinsTaken_5 : decode cX3_coinsTaken 5 = .ok (.iconst 4, 1) := by decide +kernel
theorem dX3_coinsTaken_6 : decode cX3_coinsTaken 6 = .ok (.if_icmp .ge 21, 3) := by decide +kernel
theorem dX3_coinsTaken_9 : decode cX3_coinsTaken 9 = .ok (.iload_n 1, 1) := by decide +kernel
theorem dX3_coinsTaken_10 : decode cX3_coinsTaken 10 = .ok (.aload_n 0, 1) := by decide +kernel
theorem dX3_coinsTaken_11 : decode cX3_coinsTaken 11 = .ok (.getfield 9, 3) := by decide +kernel
theorem dX3_coinsTaken_14 : decode cX3_coinsTaken 14 = .ok (.iload_n 2, 1) := by decide +kernel
theorem dX3_coinsTaken_15 : decode cX3_coinsTaken 15 = .ok (.iaload, 1) := by decide +kernel
theorem dX3_coinsTaken_16 : decode cX3_coinsTaken 16 = .ok (.invokestatic 49, 3) := by decide +kernel
theorem dX3_coinsTaken_19 : decode cX3_coinsTaken 19 = .ok (.iadd, 1) := by decide +kernel
theorem dX3_coinsTaken_20 : decode cX3_coinsTaken 20 = .ok (.istore_n 1, 1) := by decide +kernel
theorem dX3_coinsTaken_21 : decode cX3_coinsTaken 21 = .ok (.iinc 2 1, 3) := by decide +kernel
theorem dX3_coinsTaken_24 : decode cX3_coinsTaken 24 = .ok (.goto (-20), 3) := by decide +kernel
theorem dX3_coinsTaken_27 : decode cX3_coinsTaken 27 = .ok (.iload_n 1, 1) := by decide +kernel
theorem dX3_coinsTaken_28 : decode cX3_coinsTaken 28 = .ok (.ireturn, 1) := by decide +kernel
set_option maxRecDepth 20000 in
theorem ggX3_readLetter_X3_endTakes : GoodIn wsX3_readLetter wsX3_endTakes := goodIn_r _ [9, 10, 11, 1, 33, 34, 35, 36, 37, 38] (by decide +kernel) (by decide +kernel)
set_option maxRecDepth 20000 in
theorem gX3_readLetter_X3_endTakes : GoodIn wsX3_readLetter (wsV RX3 55 RX3 yX3_endTakes wsX3_endTakes) := goodIn_app (goodIn_of _ (by decide +kernel)) ggX3_readLetter_X3_endTakes
set_option maxRecDepth 20000 in
theorem ggX3_readLetter_X3_readTaken : GoodIn wsX3_readLetter wsX3_readTaken := goodIn_r _ [15, 10, 11, 16, 17, 18, 8, 19, 20, 21, 22, 33, 34, 35, 36, 37, 38] (by decide +kernel) (by decide +kernel)
set_option maxRecDepth 20000 in
theorem gX3_readLetter_X3_readTaken : GoodIn wsX3_readLetter (wsV RX3 59 RX3 yX3_readTaken wsX3_readTaken) := goodIn_app (goodIn_of _ (by decide +kernel)) ggX3_readLetter_X3_readTaken
set_option maxRecDepth 20000 in
theorem ggX3_readLetter_X3_isForeign : GoodIn wsX3_readLetter wsX3_isForeign := goodIn_r _ [19, 11, 20, 21, 22, 33, 34, 35, 36, 37, 38] (by decide +kernel) (by decide +kernel)
set_option maxRecDepth 20000 in
theorem gX3_readLetter_X3_isForeign : GoodIn wsX3_readLetter (wsV RX3 62 RX3 yX3_isForeign wsX3_isForeign) := goodIn_app (goodIn_of _ (by decide +kernel)) ggX3_readLetter_X3_isForeign
set_option maxRecDepth 20000 in
theorem ggX3_readLetter_X3_put : GoodIn wsX3_readLetter wsX3_put := goodIn_r _ [26, 11, 1, 33, 34, 35, 36, 37, 38] (by decide +kernel) (by decide +kernel)
set_option maxRecDepth 20000 in
theorem gX3_readLetter_X3_put : GoodIn wsX3_readLetter (wsV RX3 65 RX3 yX3_put wsX3_put) := goodIn_app (goodIn_of _ (by decide +kernel)) ggX3_readLetter_X3_put
set_option maxRecDepth 20000 in
theorem ggX3_readLetter_X9_isPrice : GoodIn wsX3_readLetter wsX9_isPrice := goodIn_r _ [28] (by decide +kernel) (by decide +kernel)
set_option maxRecDepth 20000 in
theorem gX3_readLetter_X9_isPrice_n69 : GoodIn wsX3_readLetter (wsX9_isPrice) := ggX3_readLetter_X9_isPrice
set_option maxRecDepth 20000 in
theorem ggX3_readLetter_X3_nextPart : GoodIn wsX3_readLetter wsX3_nextPart := goodIn_r _ [32, 11, 1, 33, 34, 35, 36, 37, 38] (by decide +kernel) (by decide +kernel)
set_option maxRecDepth 20000 in
theorem gX3_readLetter_X3_nextPart : GoodIn wsX3_readLetter (wsV RX3 72 RX3 yX3_nextPart wsX3_nextPart) := goodIn_app (goodIn_of _ (by decide +kernel)) ggX3_readLetter_X3_nextPart
theorem dX3_readLetter_0 : decode cX3_readLetter 0 = .ok (.iload_n 1, 1) := by decide +kernel
theorem dX3_readLetter_1 : decode cX3_readLetter 1 = .ok (.bipush 48, 2) := by decide +kernel
theorem dX3_readLetter_3 : decode cX3_readLetter 3 = .ok (.isub, 1) := by decide +kernel
theorem dX3_readLetter_4 : decode cX3_readLetter 4 = .ok (.istore_n 2, 1) := by decide +kernel
theorem dX3_readLetter_5 : decode cX3_readLetter 5 = .ok (.aload_n 0, 1) := by decide +kernel
theorem dX3_readLetter_6 : decode cX3_readLetter 6 = .ok (.getfield 34, 3) := by decide +kernel
theorem dX3_readLetter_9 : decode cX3_readLetter 9 = .ok (.tableswitch 128 0 3 #[31, 50, 76, 101], 31) := by decide +kernel
theorem dX3_readLetter_40 : decode cX3_readLetter 40 = .ok (.iload_n 1, 1) := by decide +kernel
theorem dX3_readLetter_41 : decode cX3_readLetter 41 = .ok (.bipush 58, 2) := by decide +kernel
theorem dX3_readLetter_43 : decode cX3_readLetter 43 = .ok (.if_icmp .ne 10, 3) := by decide +kernel
theorem dX3_readLetter_46 : decode cX3_readLetter 46 = .ok (.aload_n 0, 1) := by decide +kernel
theorem dX3_readLetter_47 : decode cX3_readLetter 47 = .ok (.invokevirtual 55, 3) := by decide +kernel
theorem dX3_readLetter_50 : decode cX3_readLetter 50 = .ok (.goto 8, 3) := by decide +kernel
theorem dX3_readLetter_53 : decode cX3_readLetter 53 = .ok (.aload_n 0, 1) := by decide +kernel
theorem dX3_readLetter_54 : decode cX3_readLetter 54 = .ok (.iload_n 2, 1) := by decide +kernel
theorem dX3_readLetter_55 : decode cX3_readLetter 55 = .ok (.invokevirtual 59, 3) := by decide +kernel
theorem dX3_readLetter_58 : decode cX3_readLetter 58 = .ok (.ireturn, 1) := by decide +kernel
theorem dX3_readLetter_59 : decode cX3_readLetter 59 = .ok (.aload_n 0, 1) := by decide +kernel
theorem dX3_readLetter_60 : decode cX3_readLetter 60 = .ok (.iload_n 2, 1) := by decide +kernel
theorem dX3_readLetter_61 : decode cX3_readLetter 61 = .ok (.invokevirtual 62, 3) := by decide +kernel
theorem dX3_readLetter_64 : decode cX3_readLetter 64 = .ok (.ifCond .eq 19, 3) := by decide +kernel
theorem dX3_readLetter_67 : decode cX3_readLetter 67 = .ok (.aload_n 0, 1) := by decide +kernel
theorem dX3_readLetter_68 : decode cX3_readLetter 68 = .ok (.aload_n 0, 1) := by decide +kernel
theorem dX3_readLetter_69 : decode cX3_readLetter 69 = .ok (.getfield 15, 3) := by decide +kernel
theorem dX3_readLetter_72 : decode cX3_readLetter 72 = .ok (.iload_n 2, 1) := by decide +kernel
theorem dX3_readLetter_73 : decode cX3_readLetter 73 = .ok (.invokevirtual 65, 3) := by decide +kernel
theorem dX3_readLetter_76 : decode cX3_readLetter 76 = .ok (.ifCond .eq 7, 3) := by decide +kernel
theorem dX3_readLetter_79 : decode cX3_readLetter 79 = .ok (.iconst 1, 1) := by decide +kernel
theorem dX3_readLetter_80 : decode cX3_readLetter 80 = .ok (.goto 4, 3) := by decide +kernel
theorem dX3_readLetter_83 : decode cX3_readLetter 83 = .ok (.iconst 0, 1) := by decide +kernel
theorem dX3_readLetter_84 : decode cX3_readLetter 84 = .ok (.ireturn, 1) := by decide +kernel
theorem dX3_readLetter_85 : decode cX3_readLetter 85 = .ok (.iload_n 2, 1) := by decide +kernel
theorem dX3_readLetter_86 : decode cX3_readLetter 86 = .ok (.invokestatic 69, 3) := by decide +kernel
theorem dX3_readLetter_89 : decode cX3_readLetter 89 = .ok (.ifCond .eq 19, 3) := by decide +kernel
theorem dX3_readLetter_92 : decode cX3_readLetter 92 = .ok (.aload_n 0, 1) := by decide +kernel
theorem dX3_readLetter_93 : decode cX3_readLetter 93 = .ok (.aload_n 0, 1) := by decide +kernel
theorem dX3_readLetter_94 : decode cX3_readLetter 94 = .ok (.getfield 18, 3) := by decide +kernel
theorem dX3_readLetter_97 : decode cX3_readLetter 97 = .ok (.iload_n 2, 1) := by decide +kernel
theorem dX3_readLetter_98 : decode cX3_readLetter 98 = .ok (.invokevirtual 65, 3) := by decide +kernel
theorem dX3_readLetter_101 : decode cX3_readLetter 101 = .ok (.ifCond .eq 7, 3) := by decide +kernel
theorem dX3_readLetter_104 : decode cX3_readLetter 104 = .ok (.iconst 1, 1) := by decide +kernel
theorem dX3_readLetter_105 : decode cX3_readLetter 105 = .ok (.goto 4, 3) := by decide +kernel
theorem dX3_readLetter_108 : decode cX3_readLetter 108 = .ok (.iconst 0, 1) := by decide +kernel
theorem dX3_readLetter_109 : decode cX3_readLetter 109 = .ok (.ireturn, 1) := by decide +kernel
theorem dX3_readLetter_110 : decode cX3_readLetter 110 = .ok (.iload_n 2, 1) := by decide +kernel
theorem dX3_readLetter_111 : decode cX3_readLetter 111 = .ok (.ifCond .lt 24, 3) := by decide +kernel
theorem dX3_readLetter_114 : decode cX3_readLetter 114 = .ok (.iload_n 2, 1) := by decide +kernel
theorem dX3_readLetter_115 : decode cX3_readLetter 115 = .ok (.iconst 4, 1) := by decide +kernel
theorem dX3_readLetter_116 : decode cX3_readLetter 116 = .ok (.if_icmp .gt 19, 3) := by decide +kernel
theorem dX3_readLetter_119 : decode cX3_readLetter 119 = .ok (.aload_n 0, 1) := by decide +kernel
theorem dX3_readLetter_120 : decode cX3_readLetter 120 = .ok (.aload_n 0, 1) := by decide +kernel
theorem dX3_readLetter_121 : decode cX3_readLetter 121 = .ok (.getfield 21, 3) := by decide +kernel
theorem dX3_readLetter_124 : decode cX3_readLetter 124 = .ok (.iload_n 2, 1) := by decide +kernel
theorem dX3_readLetter_125 : decode cX3_readLetter 125 = .ok (.invokevirtual 65, 3) := by decide +kernel
theorem dX3_readLetter_128 : decode cX3_readLetter 128 = .ok (.ifCond .eq 7, 3) := by decide +kernel
theorem dX3_readLetter_131 : decode cX3_readLetter 131 = .ok (.iconst 1, 1) := by decide +kernel
theorem dX3_readLetter_132 : decode cX3_readLetter 132 = .ok (.goto 4, 3) := by decide +kernel
theorem dX3_readLetter_135 : decode cX3_readLetter 135 = .ok (.iconst 0, 1) := by decide +kernel
theorem dX3_readLetter_136 : decode cX3_readLetter 136 = .ok (.ireturn, 1) := by decide +kernel
theorem dX3_readLetter_137 : decode cX3_readLetter 137 = .ok (.iload_n 1, 1) := by decide +kernel
theorem dX3_readLetter_138 : decode cX3_readLetter 138 = .ok (.bipush 47, 2) := by decide +kernel
theorem dX3_readLetter_140 : decode cX3_readLetter 140 = .ok (.if_icmp .ne 14, 3) := by decide +kernel
theorem dX3_readLetter_143 : decode cX3_readLetter 143 = .ok (.aload_n 0, 1) := by decide +kernel
theorem dX3_readLetter_144 : decode cX3_readLetter 144 = .ok (.invokevirtual 72, 3) := by decide +kernel
theorem dX3_readLetter_147 : decode cX3_readLetter 147 = .ok (.ifCond .eq 7, 3) := by decide +kernel
theorem dX3_readLetter_150 : decode cX3_readLetter 150 = .ok (.iconst 1, 1) := by decide +kernel
theorem dX3_readLetter_151 : decode cX3_readLetter 151 = .ok (.goto 4, 3) := by decide +kernel
theorem dX3_readLetter_154 : decode cX3_readLetter 154 = .ok (.iconst 0, 1) := by decide +kernel
theorem dX3_readLetter_155 : decode cX3_readLetter 155 = .ok (.ireturn, 1) := by decide +kernel
set_option maxRecDepth 20000 in
theorem ggX3_isForeign_X9_isCoin : GoodIn wsX3_isForeign wsX9_isCoin := goodIn_r _ [4] (by decide +kernel) (by decide +kernel)
set_option maxRecDepth 20000 in
theorem gX3_isForeign_X9_isCoin_n75 : GoodIn wsX3_isForeign (wsX9_isCoin) := ggX3_isForeign_X9_isCoin
theorem dX3_isForeign_0 : decode cX3_isForeign 0 = .ok (.iload_n 1, 1) := by decide +kernel
theorem dX3_isForeign_1 : decode cX3_isForeign 1 = .ok (.invokestatic 75, 3) := by decide +kernel
theorem dX3_isForeign_4 : decode cX3_isForeign 4 = .ok (.ifCond .eq 15, 3) := by decide +kernel
theorem dX3_isForeign_7 : decode cX3_isForeign 7 = .ok (.iload_n 1, 1) := by decide +kernel
theorem dX3_isForeign_8 : decode cX3_isForeign 8 = .ok (.aload_n 0, 1) := by decide +kernel
theorem dX3_isForeign_9 : decode cX3_isForeign 9 = .ok (.getfield 30, 3) := by decide +kernel
theorem dX3_isForeign_12 : decode cX3_isForeign 12 = .ok (.if_icmp .eq 7, 3) := by decide +kernel
theorem dX3_isForeign_15 : decode cX3_isForeign 15 = .ok (.iconst 1, 1) := by decide +kernel
theorem dX3_isForeign_16 : decode cX3_isForeign 16 = .ok (.goto 4, 3) := by decide +kernel
theorem dX3_isForeign_19 : decode cX3_isForeign 19 = .ok (.iconst 0, 1) := by decide +kernel
theorem dX3_isForeign_20 : decode cX3_isForeign 20 = .ok (.ireturn, 1) := by decide +kernel
theorem dX3_endTakes_0 : decode cX3_endTakes 0 = .ok (.aload_n 0, 1) := by decide +kernel
theorem dX3_endTakes_1 : decode cX3_endTakes 1 = .ok (.getfield 9, 3) := by decide +kernel
theorem dX3_endTakes_4 : decode cX3_endTakes 4 = .ok (.aload_n 0, 1) := by decide +kernel
theorem dX3_endTakes_5 : decode cX3_endTakes 5 = .ok (.getfield 30, 3) := by decide +kernel
theorem dX3_endTakes_8 : decode cX3_endTakes 8 = .ok (.iaload, 1) := by decide +kernel
theorem dX3_endTakes_9 : decode cX3_endTakes 9 = .ok (.ifCond .ne 5, 3) := by decide +kernel
theorem dX3_endTakes_12 : decode cX3_endTakes 12 = .ok (.iconst 0, 1) := by decide +kernel
theorem dX3_endTakes_13 : decode cX3_endTakes 13 = .ok (.ireturn, 1) := by decide +kernel
theorem dX3_endTakes_14 : decode cX3_endTakes 14 = .ok (.aload_n 0, 1) := by decide +kernel
theorem dX3_endTakes_15 : decode cX3_endTakes 15 = .ok (.iconst 1, 1) := by decide +kernel
theorem dX3_endTakes_16 : decode cX3_endTakes 16 = .ok (.putfield 34, 3) := by decide +kernel
theorem dX3_endTakes_19 : decode cX3_endTakes 19 = .ok (.iconst 1, 1) := by decide +kernel
theorem dX3_endTakes_20 : decode cX3_endTakes 20 = .ok (.ireturn, 1) := by decide +kernel
set_option maxRecDepth 20000 in
theorem ggX3_readTaken_X3_isForeign : GoodIn wsX3_readTaken wsX3_isForeign := goodIn_r _ [7, 2, 8, 9, 10, 11, 12, 13, 14, 15, 16] (by decide +kernel) (by decide +kernel)
set_option maxRecDepth 20000 in
theorem gX3_readTaken_X3_isForeign : GoodIn wsX3_readTaken (wsV RX3 62 RX3 yX3_isForeign wsX3_isForeign) := goodIn_app (goodIn_of _ (by decide +kernel)) ggX3_readTaken_X3_isForeign
theorem dX3_readTaken_0 : decode cX3_readTaken 0 = .ok (.aload_n 0, 1) := by decide +kernel
theorem dX3_readTaken_1 : decode cX3_readTaken 1 = .ok (.iload_n 1, 1) := by decide +kernel
theorem dX3_readTaken_2 : decode cX3_readTaken 2 = .ok (.invokevirtual 62, 3) := by decide +kernel
theorem dX3_readTaken_5 : decode cX3_readTaken 5 = .ok (.ifCond .eq 20, 3) := by decide +kernel
theorem dX3_readTaken_8 : decode cX3_readTaken 8 = .ok (.aload_n 0, 1) := by decide +kernel
theorem dX3_readTaken_9 : decode cX3_readTaken 9 = .ok (.getfield 9, 3) := by decide +kernel
theorem dX3_readTaken_12 : decode cX3_readTaken 12 = .ok (.aload_n 0, 1) := by decide +kernel
theorem dX3_readTaken_13 : decode cX3_readTaken 13 = .ok (.getfield 30, 3) := by decide +kernel
theorem dX3_readTaken_16 : decode cX3_readTaken 16 = .ok (.iaload, 1) := by decide +kernel
theorem dX3_readTaken_17 : decode cX3_readTaken 17 = .ok (.iload_n 1, 1) := by decide +kernel
theorem dX3_readTaken_18 : decode cX3_readTaken 18 = .ok (.ishr, 1) := by decide +kernel
theorem dX3_readTaken_19 : decode cX3_readTaken 19 = .ok (.iconst 1, 1) := by decide +kernel
theorem dX3_readTaken_20 : decode cX3_readTaken 20 = .ok (.iand, 1) := by decide +kernel
theorem dX3_readTaken_21 : decode cX3_readTaken 21 = .ok (.iconst 1, 1) := by decide +kernel
theorem dX3_readTaken_22 : decode cX3_readTaken 22 = .ok (.if_icmp .ne 5, 3) := by decide +kernel
theorem dX3_readTaken_25 : decode cX3_readTaken 25 = .ok (.iconst 0, 1) := by decide +kernel
theorem dX3_readTaken_26 : decode cX3_readTaken 26 = .ok (.ireturn, 1) := by decide +kernel
theorem dX3_readTaken_27 : decode cX3_readTaken 27 = .ok (.aload_n 0, 1) := by decide +kernel
theorem dX3_readTaken_28 : decode cX3_readTaken 28 = .ok (.getfield 9, 3) := by decide +kernel
theorem dX3_readTaken_31 : decode cX3_readTaken 31 = .ok (.aload_n 0, 1) := by decide +kernel
theorem dX3_readTaken_32 : decode cX3_readTaken 32 = .ok (.getfield 30, 3) := by decide +kernel
theorem dX3_readTaken_35 : decode cX3_readTaken 35 = .ok (.dup2, 1) := by decide +kernel
theorem dX3_readTaken_36 : decode cX3_readTaken 36 = .ok (.iaload, 1) := by decide +kernel
theorem dX3_readTaken_37 : decode cX3_readTaken 37 = .ok (.iconst 1, 1) := by decide +kernel
theorem dX3_readTaken_38 : decode cX3_readTaken 38 = .ok (.iload_n 1, 1) := by decide +kernel
theorem dX3_readTaken_39 : decode cX3_readTaken 39 = .ok (.ishl, 1) := by decide +kernel
theorem dX3_readTaken_40 : decode cX3_readTaken 40 = .ok (.ior, 1) := by decide +kernel
theorem dX3_readTaken_41 : decode cX3_readTaken 41 = .ok (.iastore, 1) := by decide +kernel
theorem dX3_readTaken_42 : decode cX3_readTaken 42 = .ok (.iconst 1, 1) := by decide +kernel
theorem dX3_readTaken_43 : decode cX3_readTaken 43 = .ok (.ireturn, 1) := by decide +kernel
theorem dX3_put_0 : decode cX3_put 0 = .ok (.aload_n 1, 1) := by decide +kernel
theorem dX3_put_1 : decode cX3_put 1 = .ok (.aload_n 0, 1) := by decide +kernel
theorem dX3_put_2 : decode cX3_put 2 = .ok (.getfield 30, 3) := by decide +kernel
theorem dX3_put_5 : decode cX3_put 5 = .ok (.iload_n 2, 1) := by decide +kernel
theorem dX3_put_6 : decode cX3_put 6 = .ok (.iastore, 1) := by decide +kernel
theorem dX3_put_7 : decode cX3_put 7 = .ok (.aload_n 0, 1) := by decide +kernel
theorem dX3_put_8 : decode cX3_put 8 = .ok (.dup, 1) := by decide +kernel
theorem dX3_put_9 : decode cX3_put 9 = .ok (.getfield 34, 3) := by decide +kernel
theorem dX3_put_12 : decode cX3_put 12 = .ok (.iconst 1, 1) := by decide +kernel
theorem dX3_put_13 : decode cX3_put 13 = .ok (.iadd, 1) := by decide +kernel
theorem dX3_put_14 : decode cX3_put 14 = .ok (.putfield 34, 3) := by decide +kernel
theorem dX3_put_17 : decode cX3_put 17 = .ok (.iconst 1, 1) := by decide +kernel
theorem dX3_put_18 : decode cX3_put 18 = .ok (.ireturn, 1) := by decide +kernel
theorem dX3_nextPart_0 : decode cX3_nextPart 0 = .ok (.aload_n 0, 1) := by decide +kernel
theorem dX3_nextPart_1 : decode cX3_nextPart 1 = .ok (.getfield 30, 3) := by decide +kernel
theorem dX3_nextPart_4 : decode cX3_nextPart 4 = .ok (.iconst 3, 1) := by decide +kernel
theorem dX3_nextPart_5 : decode cX3_nextPart 5 = .ok (.if_icmp .lt 5, 3) := by decide +kernel
theorem dX3_nextPart_8 : decode cX3_nextPart 8 = .ok (.iconst 0, 1) := by decide +kernel
theorem dX3_nextPart_9 : decode cX3_nextPart 9 = .ok (.ireturn, 1) := by decide +kernel
theorem dX3_nextPart_10 : decode cX3_nextPart 10 = .ok (.aload_n 0, 1) := by decide +kernel
theorem dX3_nextPart_11 : decode cX3_nextPart 11 = .ok (.dup, 1) := by decide +kernel
theorem dX3_nextPart_12 : decode cX3_nextPart 12 = .ok (.getfield 30, 3) := by decide +kernel
theorem dX3_nextPart_15 : decode cX3_nextPart 15 = .ok (.iconst 1, 1) := by decide +kernel
theorem dX3_nextPart_16 : decode cX3_nextPart 16 = .ok (.iadd, 1) := by decide +kernel
theorem dX3_nextPart_17 : decode cX3_nextPart 17 = .ok (.putfield 30, 3) := by decide +kernel
theorem dX3_nextPart_20 : decode cX3_nextPart 20 = .ok (.aload_n 0, 1) := by decide +kernel
theorem dX3_nextPart_21 : decode cX3_nextPart 21 = .ok (.iconst 0, 1) := by decide +kernel
theorem dX3_nextPart_22 : decode cX3_nextPart 22 = .ok (.putfield 34, 3) := by decide +kernel
theorem dX3_nextPart_25 : decode cX3_nextPart 25 = .ok (.iconst 1, 1) := by decide +kernel
theorem dX3_nextPart_26 : decode cX3_nextPart 26 = .ok (.ireturn, 1) := by decide +kernel
theorem dX4_init_0 : decode cX4_init 0 = .ok (.aload_n 0, 1) := by decide +kernel
theorem dX4_init_1 : decode cX4_init 1 = .ok (.invokespecial 3, 3) := by decide +kernel
theorem dX4_init_4 : decode cX4_init 4 = .ok (.aload_n 0, 1) := by decide +kernel
theorem dX4_init_5 : decode cX4_init 5 = .ok (.bipush 32, 2) := by decide +kernel
theorem dX4_init_7 : decode cX4_init 7 = .ok (.newarray .int, 2) := by decide +kernel
theorem dX4_init_9 : decode cX4_init 9 = .ok (.putfield 9, 3) := by decide +kernel
theorem dX4_init_12 : decode cX4_init 12 = .ok (.return_, 1) := by decide +kernel
set_option maxRecDepth 20000 in
theorem ggX4_add_X4_lettersIn : GoodIn wsX4_add wsX4_lettersIn := goodIn_r _ [6, 7, 8, 5, 9, 10] (by decide +kernel) (by decide +kernel)
set_option maxRecDepth 20000 in
theorem gX4_add_X4_lettersIn : GoodIn wsX4_add (va_wsS RX4 15 yX4_lettersIn wsX4_lettersIn) := goodIn_app (goodIn_of _ (by decide +kernel)) ggX4_add_X4_lettersIn
set_option maxRecDepth 20000 in
theorem ggX4_add_X4_codeAt : GoodIn wsX4_add wsX4_codeAt := goodIn_r _ [9, 10] (by decide +kernel) (by decide +kernel)
set_option maxRecDepth 20000 in
theorem gX4_add_X4_codeAt : GoodIn wsX4_add (va_wsS RX4 23 yX4_codeAt wsX4_codeAt) := goodIn_app (goodIn_of _ (by decide +kernel)) ggX4_add_X4_codeAt
theorem dX4_add_0 : decode cX4_add 0 = .ok (.lload_n 1, 1) := by decide +kernel
theorem dX4_add_1 : decode cX4_add 1 = .ok (.invokestatic 15, 3) := by decide +kernel
theorem dX4_add_4 : decode cX4_add 4 = .ok (.istore_n 3, 1) := by decide +kernel
theorem dX4_add_5 : decode cX4_add 5 = .ok (.iload_n 3, 1) := by decide +kernel
theorem dX4_add_6 : decode cX4_add 6 = .ok (.bipush (-102), 2) := by decide +kernel
theorem dX4_add_8 : decode cX4_add 8 = .ok (.if_icmp .ne 6, 3) := by decide +kernel
theorem dX4_add_11 : decode cX4_add 11 = .ok (.bipush (-102), 2) := by decide +kernel
theorem dX4_add_13 : decode cX4_add 13 = .ok (.ireturn, 1) := by decide +kernel
theorem dX4_add_14 : decode cX4_add 14 = .ok (.aload_n 0, 1) := by decide +kernel
theorem dX4_add_15 : decode cX4_add 15 = .ok (.getfield 19, 3) := by decide +kernel
theorem dX4_add_18 : decode cX4_add 18 = .ok (.iload_n 3, 1) := by decide +kernel
theorem dX4_add_19 : decode cX4_add 19 = .ok (.iadd, 1) := by decide +kernel
theorem dX4_add_20 : decode cX4_add 20 = .ok (.aload_n 0, 1) := by decide +kernel
theorem dX4_add_21 : decode cX4_add 21 = .ok (.getfield 9, 3) := by decide +kernel
theorem dX4_add_24 : decode cX4_add 24 = .ok (.arraylength, 1) := by decide +kernel
theorem dX4_add_25 : decode cX4_add 25 = .ok (.if_icmp .le 6, 3) := by decide +kernel
theorem dX4_add_28 : decode cX4_add 28 = .ok (.bipush (-104), 2) := by decide +kernel
theorem dX4_add_30 : decode cX4_add 30 = .ok (.ireturn, 1) := by decide +kernel
theorem dX4_add_31 : decode cX4_add 31 = .ok (.iconst 0, 1) := by decide +kernel
theorem dX4_add_32 : decode cX4_add 32 = .ok (.istore 4, 2) := by decide +kernel
theorem dX4_add_34 : decode cX4_add 34 = .ok (.iload 4, 2) := by decide +kernel
theorem dX4_add_36 : decode cX4_add 36 = .ok (.iload_n 3, 1) := by decide +kernel
theorem dX4_add_37 : decode cX4_add 37 = .ok (.if_icmp .ge 27, 3) := by decide +kernel
theorem dX4_add_40 : decode cX4_add 40 = .ok (.aload_n 0, 1) := by decide +kernel
theorem dX4_add_41 : decode cX4_add 41 = .ok (.getfield 9, 3) := by decide +kernel
theorem dX4_add_44 : decode cX4_add 44 = .ok (.aload_n 0, 1) := by decide +kernel
theorem dX4_add_45 : decode cX4_add 45 = .ok (.getfield 19, 3) := by decide +kernel
theorem dX4_add_48 : decode cX4_add 48 = .ok (.iload 4, 2) := by decide +kernel
theorem dX4_add_50 : decode cX4_add 50 = .ok (.iadd, 1) := by decide +kernel
theorem dX4_add_51 : decode cX4_add 51 = .ok (.lload_n 1, 1) := by decide +kernel
theorem dX4_add_52 : decode cX4_add 52 = .ok (.iload 4, 2) := by decide +kernel
theorem dX4_add_54 : decode cX4_add 54 = .ok (.invokestatic 23, 3) := by decide +kernel
theorem dX4_add_57 : decode cX4_add 57 = .ok (.iastore, 1) := by decide +kernel
theorem dX4_add_58 : decode cX4_add 58 = .ok (.iinc 4 1, 3) := by decide +kernel
theorem dX4_add_61 : decode cX4_add 61 = .ok (.goto (-27), 3) := by decide +kernel
theorem dX4_add_64 : decode cX4_add 64 = .ok (.aload_n 0, 1) := by decide +kernel
theorem dX4_add_65 : decode cX4_add 65 = .ok (.dup, 1) := by decide +kernel
theorem dX4_add_66 : decode cX4_add 66 = .ok (.getfield 19, 3) := by decide +kernel
theorem dX4_add_69 : decode cX4_add 69 = .ok (.iload_n 3, 1) := by decide +kernel
theorem dX4_add_70 : decode cX4_add 70 = .ok (.iadd, 1) := by decide +kernel
theorem dX4_add_71 : decode cX4_add 71 = .ok (.putfield 19, 3) := by decide +kernel
theorem dX4_add_74 : decode cX4_add 74 = .ok (.aload_n 0, 1) := by decide +kernel
theorem dX4_add_75 : decode cX4_add 75 = .ok (.getfield 19, 3) := by decide +kernel
theorem dX4_add_78 : decode cX4_add 78 = .ok (.ireturn, 1) := by decide +kernel
theorem dX4_clear_0 : decode cX4_clear 0 = .ok (.aload_n 0, 1) := by decide +kernel
theorem dX4_clear_1 : decode cX4_clear 1 = .ok (.getfield 19, 3) := by decide +kernel
theorem dX4_clear_4 : decode cX4_clear 4 = .ok (.istore_n 1, 1) := by decide +kernel
theorem dX4_clear_5 : decode cX4_clear 5 = .ok (.aload_n 0, 1) := by decide +kernel
theorem dX4_clear_6 : decode cX4_clear 6 = .ok (.iconst 0, 1) := by decide +kernel
theorem dX4_clear_7 : decode cX4_clear 7 = .ok (.putfield 19, 3) := by decide +kernel
theorem dX4_clear_10 : decode cX4_clear 10 = .ok (.iload_n 1, 1) := by decide +kernel
theorem dX4_clear_11 : decode cX4_clear 11 = .ok (.ireturn, 1) := by decide +kernel
theorem dX4_codeAt_0 : decode cX4_codeAt 0 = .ok (.lload_n 0, 1) := by decide +kernel
theorem dX4_codeAt_1 : decode cX4_codeAt 1 = .ok (.bipush 8, 2) := by decide +kernel
theorem dX4_codeAt_3 : decode cX4_codeAt 3 = .ok (.iload_n 2, 1) := by decide +kernel
theorem dX4_codeAt_4 : decode cX4_codeAt 4 = .ok (.imul, 1) := by decide +kernel
theorem dX4_codeAt_5 : decode cX4_codeAt 5 = .ok (.lushr, 1) := by decide +kernel
theorem dX4_codeAt_6 : decode cX4_codeAt 6 = .ok (.ldc2_w 27, 3) := by decide +kernel
theorem dX4_codeAt_9 : decode cX4_codeAt 9 = .ok (.land, 1) := by decide +kernel
theorem dX4_codeAt_10 : decode cX4_codeAt 10 = .ok (.l2i, 1) := by decide +kernel
theorem dX4_codeAt_11 : decode cX4_codeAt 11 = .ok (.ireturn, 1) := by decide +kernel
set_option maxRecDepth 20000 in
theorem ggX4_lettersIn_X4_codeAt : GoodIn wsX4_lettersIn wsX4_codeAt := goodIn_r _ [4, 5] (by decide +kernel) (by decide +kernel)
set_option maxRecDepth 20000 in
theorem gX4_lettersIn_X4_codeAt : GoodIn wsX4_lettersIn (va_wsS RX4 23 yX4_codeAt wsX4_codeAt) := goodIn_app (goodIn_of _ (by decide +kernel)) ggX4_lettersIn_X4_codeAt
theorem dX4_lettersIn_0 : decode cX4_lettersIn 0 = .ok (.iconst 0, 1) := by decide +kernel
theorem dX4_lettersIn_1 : decode cX4_lettersIn 1 = .ok (.istore_n 2, 1) := by decide +kernel
theorem dX4_lettersIn_2 : decode cX4_lettersIn 2 = .ok (.iconst 0, 1) := by decide +kernel
theorem dX4_lettersIn_3 : decode cX4_lettersIn 3 = .ok (.istore_n 3, 1) := by decide +kernel
theorem dX4_lettersIn_4 : decode cX4_lettersIn 4 = .ok (.iload_n 3, 1) := by decide +kernel
theorem dX4_lettersIn_5 : decode cX4_lettersIn 5 = .ok (.bipush 8, 2) := by decide +kernel
theorem dX4_lettersIn_7 : decode cX4_lettersIn 7 = .ok (.if_icmp .ge 56, 3) := by decide +kernel
theorem dX4_lettersIn_10 : decode cX4_lettersIn 10 = .ok (.lload_n 0, 1) := by decide +kernel
theorem dX4_lettersIn_11 : decode cX4_lettersIn 11 = .ok (.iload_n 3, 1) := by decide +kernel
theorem dX4_lettersIn_12 : decode cX4_lettersIn 12 = .ok (.invokestatic 23, 3) := by decide +kernel
theorem dX4_lettersIn_15 : decode cX4_lettersIn 15 = .ok (.istore 4, 2) := by decide +kernel
theorem dX4_lettersIn_17 : decode cX4_lettersIn 17 = .ok (.iload_n 2, 1) := by decide +kernel
theorem dX4_lettersIn_18 : decode cX4_lettersIn 18 = .ok (.iload_n 3, 1) := by decide +kernel
theorem dX4_lettersIn_19 : decode cX4_lettersIn 19 = .ok (.if_icmp .ge 7, 3) := by decide +kernel
theorem dX4_lettersIn_22 : decode cX4_lettersIn 22 = .ok (.iconst 1, 1) := by decide +kernel
theorem dX4_lettersIn_23 : decode cX4_lettersIn 23 = .ok (.goto 4, 3) := by decide +kernel
theorem dX4_lettersIn_26 : decode cX4_lettersIn 26 = .ok (.iconst 0, 1) := by decide +kernel
theorem dX4_lettersIn_27 : decode cX4_lettersIn 27 = .ok (.istore 5, 2) := by decide +kernel
theorem dX4_lettersIn_29 : decode cX4_lettersIn 29 = .ok (.iload 4, 2) := by decide +kernel
theorem dX4_lettersIn_31 : decode cX4_lettersIn 31 = .ok (.bipush 126, 2) := by decide +kernel
theorem dX4_lettersIn_33 : decode cX4_lettersIn 33 = .ok (.if_icmp .gt 13, 3) := by decide +kernel
theorem dX4_lettersIn_36 : decode cX4_lettersIn 36 = .ok (.iload 4, 2) := by decide +kernel
theorem dX4_lettersIn_38 : decode cX4_lettersIn 38 = .ok (.ifCond .eq 11, 3) := by decide +kernel
theorem dX4_lettersIn_41 : decode cX4_lettersIn 41 = .ok (.iload 5, 2) := by decide +kernel
theorem dX4_lettersIn_43 : decode cX4_lettersIn 43 = .ok (.ifCond .eq 6, 3) := by decide +kernel
theorem dX4_lettersIn_46 : decode cX4_lettersIn 46 = .ok (.bipush (-102), 2) := by decide +kernel
theorem dX4_lettersIn_48 : decode cX4_lettersIn 48 = .ok (.ireturn, 1) := by decide +kernel
theorem dX4_lettersIn_49 : decode cX4_lettersIn 49 = .ok (.iload 4, 2) := by decide +kernel
theorem dX4_lettersIn_51 : decode cX4_lettersIn 51 = .ok (.ifCond .eq 6, 3) := by decide +kernel
theorem dX4_lettersIn_54 : decode cX4_lettersIn 54 = .ok (.iinc 2 1, 3) := by decide +kernel
theorem dX4_lettersIn_57 : decode cX4_lettersIn 57 = .ok (.iinc 3 1, 3) := by decide +kernel
theorem dX4_lettersIn_60 : decode cX4_lettersIn 60 = .ok (.goto (-56), 3) := by decide +kernel
theorem dX4_lettersIn_63 : decode cX4_lettersIn 63 = .ok (.iload_n 2, 1) := by decide +kernel
theorem dX4_lettersIn_64 : decode cX4_lettersIn 64 = .ok (.ireturn, 1) := by decide +kernel
theorem dX5_init_0 : decode cX5_init 0 = .ok (.aload_n 0, 1) := by decide +kernel
theorem dX5_init_1 : decode cX5_init 1 = .ok (.invokespecial 3, 3) := by decide +kernel
theorem dX5_init_4 : decode cX5_init 4 = .ok (.aload_n 0, 1) := by decide +kernel
theorem dX5_init_5 : decode cX5_init 5 = .ok (.getstatic 9, 3) := by decide +kernel
theorem dX5_init_8 : decode cX5_init 8 = .ok (.putfield 15, 3) := by decide +kernel
theorem dX5_init_11 : decode cX5_init 11 = .ok (.return_, 1) := by decide +kernel
set_option maxRecDepth 20000 in
theorem ggX5_canSwap_X7_coinsOf : GoodIn wsX5_canSwap wsX7_coinsOf := goodIn_r _ [5] (by decide +kernel) (by decide +kernel)
set_option maxRecDepth 20000 in
theorem gX5_canSwap_X7_coinsOf : GoodIn wsX5_canSwap (va_wsS RX5 24 yX7_coinsOf wsX7_coinsOf) := goodIn_app (goodIn_of _ (by decide +kernel)) ggX5_canSwap_X7_coinsOf
theorem dX5_canSwap_0 : decode cX5_canSwap 0 = .ok (.aload_n 0, 1) := by decide +kernel
theorem dX5_canSwap_1 : decode cX5_canSwap 1 = .ok (.getfield 20, 3) := by decide +kernel
theorem dX5_canSwap_4 : decode cX5_canSwap 4 = .ok (.iload_n 1, 1) := by decide +kernel
theorem dX5_canSwap_5 : decode cX5_canSwap 5 = .ok (.invokestatic 24, 3) := by decide +kernel
theorem dX5_canSwap_8 : decode cX5_canSwap 8 = .ok (.ifCond .le 24, 3) := by decide +kernel
theorem dX5_canSwap_11 : decode cX5_canSwap 11 = .ok (.iload_n 1, 1) := by decide +kernel
theorem dX5_canSwap_12 : decode cX5_canSwap 12 = .ok (.iload_n 2, 1) := by decide +kernel
theorem dX5_canSwap_13 : decode cX5_canSwap 13 = .ok (.if_icmp .eq 15, 3) := by decide +kernel
theorem dX5_canSwap_16 : decode cX5_canSwap 16 = .ok (.aload_n 0, 1) := by decide +kernel
theorem dX5_canSwap_17 : decode cX5_canSwap 17 = .ok (.getfield 20, 3) := by decide +kernel
theorem dX5_canSwap_20 : decode cX5_canSwap 20 = .ok (.iload_n 2, 1) := by decide +kernel
theorem dX5_canSwap_21 : decode cX5_canSwap 21 = .ok (.invokestatic 24, 3) := by decide +kernel
theorem dX5_canSwap_24 : decode cX5_canSwap 24 = .ok (.iconst 4, 1) := by decide +kernel
theorem dX5_canSwap_25 : decode cX5_canSwap 25 = .ok (.if_icmp .ge 7, 3) := by decide +kernel
theorem dX5_canSwap_28 : decode cX5_canSwap 28 = .ok (.iconst 1, 1) := by decide +kernel
theorem dX5_canSwap_29 : decode cX5_canSwap 29 = .ok (.goto 4, 3) := by decide +kernel
theorem dX5_canSwap_32 : decode cX5_canSwap 32 = .ok (.iconst 0, 1) := by decide +kernel
theorem dX5_canSwap_33 : decode cX5_canSwap 33 = .ok (.ireturn, 1) := by decide +kernel
set_option maxRecDepth 20000 in
theorem ggX5_swap_X7_withMore : GoodIn wsX5_swap wsX7_withMore := goodIn_r _ [5] (by decide +kernel) (by decide +kernel)
set_option maxRecDepth 20000 in
theorem gX5_swap_X7_withMore : GoodIn wsX5_swap (va_wsS RX5 30 yX7_withMore wsX7_withMore) := goodIn_app (goodIn_of _ (by decide +kernel)) ggX5_swap_X7_withMore
theorem dX5_swap_0 : decode cX5_swap 0 = .ok (.aload_n 0, 1) := by decide +kernel
theorem dX5_swap_1 : decode cX5_swap 1 = .ok (.aload_n 0, 1) := by decide +kernel
theorem dX5_swap_2 : decode cX5_swap 2 = .ok (.getfield 20, 3) := by decide +kernel
theorem dX5_swap_5 : decode cX5_swap 5 = .ok (.iload_n 1, 1) := by decide +kernel
theorem dX5_swap_6 : decode cX5_swap 6 = .ok (.iconst (-1), 1) := by decide +kernel
theorem dX5_swap_7 : decode cX5_swap 7 = .ok (.invokestatic 30, 3) := by decide +kernel
theorem dX5_swap_10 : decode cX5_swap 10 = .ok (.iload_n 2, 1) := by decide +kernel
theorem dX5_swap_11 : decode cX5_swap 11 = .ok (.iconst 1, 1) := by decide +kernel
theorem dX5_swap_12 : decode cX5_swap 12 = .ok (.invokestatic 30, 3) := by decide +kernel
theorem dX5_swap_15 : decode cX5_swap 15 = .ok (.putfield 20, 3) := by decide +kernel
theorem dX5_swap_18 : decode cX5_swap 18 = .ok (.return_, 1) := by decide +kernel
theorem dX6_init_0 : decode cX6_init 0 = .ok (.aload_n 0, 1) := by decide +kernel
theorem dX6_init_1 : decode cX6_init 1 = .ok (.invokespecial 3, 3) := by decide +kernel
theorem dX6_init_4 : decode cX6_init 4 = .ok (.aload_n 0, 1) := by decide +kernel
theorem dX6_init_5 : decode cX6_init 5 = .ok (.sipush 8192, 3) := by decide +kernel
theorem dX6_init_8 : decode cX6_init 8 = .ok (.newarray .int, 2) := by decide +kernel
theorem dX6_init_10 : decode cX6_init 10 = .ok (.putfield 11, 3) := by decide +kernel
theorem dX6_init_13 : decode cX6_init 13 = .ok (.aload_n 0, 1) := by decide +kernel
theorem dX6_init_14 : decode cX6_init 14 = .ok (.ldc 17, 2) := by decide +kernel
theorem dX6_init_16 : decode cX6_init 16 = .ok (.newarray .int, 2) := by decide +kernel
theorem dX6_init_18 : decode cX6_init 18 = .ok (.putfield 18, 3) := by decide +kernel
theorem dX6_init_21 : decode cX6_init 21 = .ok (.return_, 1) := by decide +kernel
set_option maxRecDepth 20000 in
theorem ggX6_firstToward_X6_begin : GoodIn wsX6_firstToward wsX6_begin := goodIn_r _ [9, 10, 11, 12, 2, 3, 13, 14, 15, 16, 17, 18, 19, 8, 20, 21, 85, 86, 87, 88, 89, 90] (by decide +kernel) (by decide +kernel)
set_option maxRecDepth 20000 in
theorem gX6_firstToward_X6_begin : GoodIn wsX6_firstToward (wsV RX6 21 RX6 yX6_begin wsX6_begin) := goodIn_app (goodIn_of _ (by decide +kernel)) ggX6_firstToward_X6_begin
set_option maxRecDepth 20000 in
theorem ggX6_firstToward_X6_firstToBuy : GoodIn wsX6_firstToward wsX6_firstToBuy := goodIn_r _ [25, 2, 3, 26, 27, 28, 8, 29, 21, 30, 31, 32, 33, 34, 35, 36, 37, 38, 39, 40, 41, 42, 43, 44, 45, 46, 47, 12, 85, 86, 87, 88, 89, 90, 91, 92, 93, 94] (by decide +kernel) (by decide +kernel)
set_option maxRecDepth 20000 in
theorem gX6_firstToward_X6_firstToBuy : GoodIn wsX6_firstToward (wsV RX6 37 RX6 yX6_firstToBuy wsX6_firstToBuy) := goodIn_app (goodIn_of _ (by decide +kernel)) ggX6_firstToward_X6_firstToBuy
set_option maxRecDepth 20000 in
theorem ggX6_firstToward_X6_deepen : GoodIn wsX6_firstToward wsX6_deepen := goodIn_r _ [51, 2, 3, 11, 12, 26, 27, 28, 8, 29, 21, 30, 52, 53, 54, 41, 55, 56, 57, 58, 59, 32, 33, 34, 60, 61, 62, 63, 64, 65, 66, 67, 68, 69, 70, 71, 36, 37, 72, 39, 40, 42, 43, 73, 74, 75, 76, 77, 78, 79, 80, 81, 82, 83, 84, 44, 45, 46, 47, 17, 18, 19, 20, 10, 85, 86, 87, 88, 89, 90, 91, 92, 93, 94] (by decide +kernel) (by decide +kernel)
set_option maxRecDepth 20000 in
theorem gX6_firstToward_X6_deepen : GoodIn wsX6_firstToward (wsV RX6 41 RX6 yX6_deepen wsX6_deepen) := goodIn_app (goodIn_of _ (by decide +kernel)) ggX6_firstToward_X6_deepen
theorem dX6_firstToward_0 : decode cX6_firstToward 0 = .ok (.aload_n 0, 1) := by decide +kernel
theorem dX6_firstToward_1 : decode cX6_firstToward 1 = .ok (.iload_n 2, 1) := by decide +kernel
theorem dX6_firstToward_2 : decode cX6_firstToward 2 = .ok (.invokevirtual 21, 3) := by decide +kernel
theorem dX6_firstToward_5 : decode cX6_firstToward 5 = .ok (.iconst 0, 1) := by decide +kernel
theorem dX6_firstToward_6 : decode cX6_firstToward 6 = .ok (.istore 4, 2) := by decide +kernel
theorem dX6_firstToward_8 : decode cX6_firstToward 8 = .ok (.iload 4, 2) := by decide +kernel
theorem dX6_firstToward_10 : decode cX6_firstToward 10 = .ok (.ldc 17, 2) := by decide +kernel
theorem dX6_firstToward_12 : decode cX6_firstToward 12 = .ok (.if_icmp .ge 48, 3) := by decide +kernel
theorem dX6_firstToward_15 : decode cX6_firstToward 15 = .ok (.aload_n 0, 1) := by decide +kernel
theorem dX6_firstToward_16 : decode cX6_firstToward 16 = .ok (.getfield 25, 3) := by decide +kernel
theorem dX6_firstToward_19 : decode cX6_firstToward 19 = .ok (.aload_n 0, 1) := by decide +kernel
theorem dX6_firstToward_20 : decode cX6_firstToward 20 = .ok (.getfield 29, 3) := by decide +kernel
theorem dX6_firstToward_23 : decode cX6_firstToward 23 = .ok (.if_icmp .ge 37, 3) := by decide +kernel
theorem dX6_firstToward_26 : decode cX6_firstToward 26 = .ok (.aload_n 0, 1) := by decide +kernel
theorem dX6_firstToward_27 : decode cX6_firstToward 27 = .ok (.aload_n 1, 1) := by decide +kernel
theorem dX6_firstToward_28 : decode cX6_firstToward 28 = .ok (.iload_n 3, 1) := by decide +kernel
theorem dX6_firstToward_29 : decode cX6_firstToward 29 = .ok (.aload_n 1, 1) := by decide +kernel
theorem dX6_firstToward_30 : decode cX6_firstToward 30 = .ok (.getfield 32, 3) := by decide +kernel
theorem dX6_firstToward_33 : decode cX6_firstToward 33 = .ok (.iload_n 3, 1) := by decide +kernel
theorem dX6_firstToward_34 : decode cX6_firstToward 34 = .ok (.iaload, 1) := by decide +kernel
theorem dX6_firstToward_35 : decode cX6_firstToward 35 = .ok (.invokevirtual 37, 3) := by decide +kernel
theorem dX6_firstToward_38 : decode cX6_firstToward 38 = .ok (.istore 5, 2) := by decide +kernel
theorem dX6_firstToward_40 : decode cX6_firstToward 40 = .ok (.iload 5, 2) := by decide +kernel
theorem dX6_firstToward_42 : decode cX6_firstToward 42 = .ok (.iconst (-1), 1) := by decide +kernel
theorem dX6_firstToward_43 : decode cX6_firstToward 43 = .ok (.if_icmp .eq 6, 3) := by decide +kernel
theorem dX6_firstToward_46 : decode cX6_firstToward 46 = .ok (.iload 5, 2) := by decide +kernel
theorem dX6_firstToward_48 : decode cX6_firstToward 48 = .ok (.ireturn, 1) := by decide +kernel
theorem dX6_firstToward_49 : decode cX6_firstToward 49 = .ok (.aload_n 0, 1) := by decide +kernel
theorem dX6_firstToward_50 : decode cX6_firstToward 50 = .ok (.aload_n 1, 1) := by decide +kernel
theorem dX6_firstToward_51 : decode cX6_firstToward 51 = .ok (.invokevirtual 41, 3) := by decide +kernel
theorem dX6_firstToward_54 : decode cX6_firstToward 54 = .ok (.iinc 4 1, 3) := by decide +kernel
theorem dX6_firstToward_57 : decode cX6_firstToward 57 = .ok (.goto (-49), 3) := by decide +kernel
theorem dX6_firstToward_60 : decode cX6_firstToward 60 = .ok (.iconst (-1), 1) := by decide +kernel
theorem dX6_firstToward_61 : decode cX6_firstToward 61 = .ok (.ireturn, 1) := by decide +kernel
set_option maxRecDepth 20000 in
theorem ggX6_isSooner_X7_hasGood : GoodIn wsX6_isSooner wsX7_hasGood := goodIn_r _ [8] (by decide +kernel) (by decide +kernel)
set_option maxRecDepth 20000 in
theorem gX6_isSooner_X7_hasGood : GoodIn wsX6_isSooner (va_wsS RX6 45 yX7_hasGood wsX7_hasGood) := goodIn_app (goodIn_of _ (by decide +kernel)) ggX6_isSooner_X7_hasGood
set_option maxRecDepth 20000 in
theorem ggX6_isSooner_X6_begin : GoodIn wsX6_isSooner wsX6_begin := goodIn_r _ [13, 14, 15, 16, 3, 4, 17, 18, 19, 20, 21, 22, 23, 12, 24, 25, 90, 91, 92, 93, 94, 95] (by decide +kernel) (by decide +kernel)
set_option maxRecDepth 20000 in
theorem gX6_isSooner_X6_begin : GoodIn wsX6_isSooner (wsV RX6 21 RX6 yX6_begin wsX6_begin) := goodIn_app (goodIn_of _ (by decide +kernel)) ggX6_isSooner_X6_begin
set_option maxRecDepth 20000 in
theorem ggX6_isSooner_X6_firstToBuy : GoodIn wsX6_isSooner wsX6_firstToBuy := goodIn_r _ [29, 3, 4, 30, 31, 32, 12, 33, 25, 34, 35, 36, 7, 37, 38, 39, 40, 41, 42, 43, 44, 45, 46, 47, 48, 49, 50, 16, 90, 91, 92, 93, 94, 95, 86, 87, 88, 89] (by decide +kernel) (by decide +kernel)
set_option maxRecDepth 20000 in
theorem gX6_isSooner_X6_firstToBuy : GoodIn wsX6_isSooner (wsV RX6 37 RX6 yX6_firstToBuy wsX6_firstToBuy) := goodIn_app (goodIn_of _ (by decide +kernel)) ggX6_isSooner_X6_firstToBuy
set_option maxRecDepth 20000 in
theorem ggX6_isSooner_X6_deepen : GoodIn wsX6_isSooner wsX6_deepen := goodIn_r _ [54, 3, 4, 15, 16, 30, 31, 32, 12, 33, 25, 34, 55, 56, 57, 44, 58, 59, 60, 61, 62, 36, 7, 37, 63, 64, 65, 66, 67, 68, 69, 70, 71, 6, 8, 72, 39, 40, 73, 42, 43, 45, 46, 74, 75, 76, 77, 78, 79, 80, 81, 82, 83, 84, 85, 47, 48, 49, 50, 21, 22, 23, 24, 14, 90, 91, 92, 93, 94, 95, 86, 87, 88, 89] (by decide +kernel) (by decide +kernel)
set_option maxRecDepth 20000 in
theorem gX6_isSooner_X6_deepen : GoodIn wsX6_isSooner (wsV RX6 41 RX6 yX6_deepen wsX6_deepen) := goodIn_app (goodIn_of _ (by decide +kernel)) ggX6_isSooner_X6_deepen
theorem dX6_isSooner_0 : decode cX6_isSooner 0 = .ok (.iload 4, 2) := by decide +kernel
theorem dX6_isSooner_2 : decode cX6_isSooner 2 = .ok (.aload_n 1, 1) := by decide +kernel
theorem dX6_isSooner_3 : decode cX6_isSooner 3 = .ok (.getfield 32, 3) := by decide +kernel
theorem dX6_isSooner_6 : decode cX6_isSooner 6 = .ok (.iload_n 3, 1) := by decide +kernel
theorem dX6_isSooner_7 : decode cX6_isSooner 7 = .ok (.iaload, 1) := by decide +kernel
theorem dX6_isSooner_8 : decode cX6_isSooner 8 = .ok (.if_icmp .ge 11, 3) := by decide +kernel
theorem dX6_isSooner_11 : decode cX6_isSooner 11 = .ok (.iload_n 2, 1) := by decide +kernel
theorem dX6_isSooner_12 : decode cX6_isSooner 12 = .ok (.iload_n 3, 1) := by decide +kernel
theorem dX6_isSooner_13 : decode cX6_isSooner 13 = .ok (.invokestatic 45, 3) := by decide +kernel
theorem dX6_isSooner_16 : decode cX6_isSooner 16 = .ok (.ifCond .eq 5, 3) := by decide +kernel
theorem dX6_isSooner_19 : decode cX6_isSooner 19 = .ok (.iconst 0, 1) := by decide +kernel
theorem dX6_isSooner_20 : decode cX6_isSooner 20 = .ok (.ireturn, 1) := by decide +kernel
theorem dX6_isSooner_21 : decode cX6_isSooner 21 = .ok (.aload_n 0, 1) := by decide +kernel
theorem dX6_isSooner_22 : decode cX6_isSooner 22 = .ok (.iload_n 2, 1) := by decide +kernel
theorem dX6_isSooner_23 : decode cX6_isSooner 23 = .ok (.invokevirtual 21, 3) := by decide +kernel
theorem dX6_isSooner_26 : decode cX6_isSooner 26 = .ok (.iconst 0, 1) := by decide +kernel
theorem dX6_isSooner_27 : decode cX6_isSooner 27 = .ok (.istore 5, 2) := by decide +kernel
theorem dX6_isSooner_29 : decode cX6_isSooner 29 = .ok (.iload 5, 2) := by decide +kernel
theorem dX6_isSooner_31 : decode cX6_isSooner 31 = .ok (.ldc 17, 2) := by decide +kernel
theorem dX6_isSooner_33 : decode cX6_isSooner 33 = .ok (.if_icmp .ge 57, 3) := by decide +kernel
theorem dX6_isSooner_36 : decode cX6_isSooner 36 = .ok (.aload_n 0, 1) := by decide +kernel
theorem dX6_isSooner_37 : decode cX6_isSooner 37 = .ok (.getfield 25, 3) := by decide +kernel
theorem dX6_isSooner_40 : decode cX6_isSooner 40 = .ok (.aload_n 0, 1) := by decide +kernel
theorem dX6_isSooner_41 : decode cX6_isSooner 41 = .ok (.getfield 29, 3) := by decide +kernel
theorem dX6_isSooner_44 : decode cX6_isSooner 44 = .ok (.if_icmp .ge 46, 3) := by decide +kernel
theorem dX6_isSooner_47 : decode cX6_isSooner 47 = .ok (.aload_n 0, 1) := by decide +kernel
theorem dX6_isSooner_48 : decode cX6_isSooner 48 = .ok (.aload_n 1, 1) := by decide +kernel
theorem dX6_isSooner_49 : decode cX6_isSooner 49 = .ok (.iload_n 3, 1) := by decide +kernel
theorem dX6_isSooner_50 : decode cX6_isSooner 50 = .ok (.aload_n 1, 1) := by decide +kernel
theorem dX6_isSooner_51 : decode cX6_isSooner 51 = .ok (.getfield 32, 3) := by decide +kernel
theorem dX6_isSooner_54 : decode cX6_isSooner 54 = .ok (.iload_n 3, 1) := by decide +kernel
theorem dX6_isSooner_55 : decode cX6_isSooner 55 = .ok (.iaload, 1) := by decide +kernel
theorem dX6_isSooner_56 : decode cX6_isSooner 56 = .ok (.invokevirtual 37, 3) := by decide +kernel
theorem dX6_isSooner_59 : decode cX6_isSooner 59 = .ok (.iconst (-1), 1) := by decide +kernel
theorem dX6_isSooner_60 : decode cX6_isSooner 60 = .ok (.if_icmp .eq 5, 3) := by decide +kernel
theorem dX6_isSooner_63 : decode cX6_isSooner 63 = .ok (.iconst 0, 1) := by decide +kernel
theorem dX6_isSooner_64 : decode cX6_isSooner 64 = .ok (.ireturn, 1) := by decide +kernel
theorem dX6_isSooner_65 : decode cX6_isSooner 65 = .ok (.aload_n 0, 1) := by decide +kernel
theorem dX6_isSooner_66 : decode cX6_isSooner 66 = .ok (.aload_n 1, 1) := by decide +kernel
theorem dX6_isSooner_67 : decode cX6_isSooner 67 = .ok (.iload_n 3, 1) := by decide +kernel
theorem dX6_isSooner_68 : decode cX6_isSooner 68 = .ok (.iload 4, 2) := by decide +kernel
theorem dX6_isSooner_70 : decode cX6_isSooner 70 = .ok (.invokevirtual 37, 3) := by decide +kernel
theorem dX6_isSooner_73 : decode cX6_isSooner 73 = .ok (.iconst (-1), 1) := by decide +kernel
theorem dX6_isSooner_74 : decode cX6_isSooner 74 = .ok (.if_icmp .eq 5, 3) := by decide +kernel
theorem dX6_isSooner_77 : decode cX6_isSooner 77 = .ok (.iconst 1, 1) := by decide +kernel
theorem dX6_isSooner_78 : decode cX6_isSooner 78 = .ok (.ireturn, 1) := by decide +kernel
theorem dX6_isSooner_79 : decode cX6_isSooner 79 = .ok (.aload_n 0, 1) := by decide +kernel
theorem dX6_isSooner_80 : decode cX6_isSooner 80 = .ok (.aload_n 1, 1) := by decide +kernel
theorem dX6_isSooner_81 : decode cX6_isSooner 81 = .ok (.invokevirtual 41, 3) := by decide +kernel
theorem dX6_isSooner_84 : decode cX6_isSooner 84 = .ok (.iinc 5 1, 3) := by decide +kernel
theorem dX6_isSooner_87 : decode cX6_isSooner 87 = .ok (.goto (-58), 3) := by decide +kernel
theorem dX6_isSooner_90 : decode cX6_isSooner 90 = .ok (.iconst 0, 1) := by decide +kernel
theorem dX6_isSooner_91 : decode cX6_isSooner 91 = .ok (.ireturn, 1) := by decide +kernel
set_option maxRecDepth 20000 in
theorem ggX6_mostCoins_X6_begin : GoodIn wsX6_mostCoins wsX6_begin := goodIn_r _ [11, 12, 1, 13, 14, 15, 16, 17, 18, 19, 20, 21, 22, 10, 23, 2, 84, 85, 86, 87, 88, 89] (by decide +kernel) (by decide +kernel)
set_option maxRecDepth 20000 in
theorem gX6_mostCoins_X6_begin : GoodIn wsX6_mostCoins (wsV RX6 21 RX6 yX6_begin wsX6_begin) := goodIn_app (goodIn_of _ (by decide +kernel)) ggX6_mostCoins_X6_begin
set_option maxRecDepth 20000 in
theorem ggX6_mostCoins_X6_deepen : GoodIn wsX6_mostCoins wsX6_deepen := goodIn_r _ [27, 14, 15, 1, 13, 28, 29, 30, 10, 31, 2, 32, 33, 34, 35, 36, 37, 38, 39, 40, 41, 42, 43, 44, 45, 46, 47, 48, 49, 50, 51, 52, 53, 54, 55, 56, 57, 58, 59, 60, 61, 62, 63, 64, 65, 66, 67, 68, 69, 70, 71, 72, 73, 74, 75, 76, 77, 78, 79, 20, 21, 22, 23, 12, 84, 85, 86, 87, 88, 89, 90, 91, 92, 93] (by decide +kernel) (by decide +kernel)
set_option maxRecDepth 20000 in
theorem gX6_mostCoins_X6_deepen : GoodIn wsX6_mostCoins (wsV RX6 41 RX6 yX6_deepen wsX6_deepen) := goodIn_app (goodIn_of _ (by decide +kernel)) ggX6_mostCoins_X6_deepen
set_option maxRecDepth 20000 in
theorem ggX6_mostCoins_X7_coinsTogether : GoodIn wsX6_mostCoins wsX7_coinsTogether := goodIn_r _ [82, 83, 57, 43, 58] (by decide +kernel) (by decide +kernel)
set_option maxRecDepth 20000 in
theorem gX6_mostCoins_X7_coinsTogether : GoodIn wsX6_mostCoins (va_wsS RX6 52 yX7_coinsTogether wsX7_coinsTogether) := goodIn_app (goodIn_of _ (by decide +kernel)) ggX6_mostCoins_X7_coinsTogether
theorem dX6_mostCoins_0 : decode cX6_mostCoins 0 = .ok (.aload_n 0, 1) := by decide +kernel
theorem dX6_mostCoins_1 : decode cX6_mostCoins 1 = .ok (.iload_n 2, 1) := by decide +kernel
theorem dX6_mostCoins_2 : decode cX6_mostCoins 2 = .ok (.invokevirtual 21, 3) := by decide +kernel
theorem dX6_mostCoins_5 : decode cX6_mostCoins 5 = .ok (.iconst 0, 1) := by decide +kernel
theorem dX6_mostCoins_6 : decode cX6_mostCoins 6 = .ok (.istore 4, 2) := by decide +kernel
theorem dX6_mostCoins_8 : decode cX6_mostCoins 8 = .ok (.iload 4, 2) := by decide +kernel
theorem dX6_mostCoins_10 : decode cX6_mostCoins 10 = .ok (.iload_n 3, 1) := by decide +kernel
theorem dX6_mostCoins_11 : decode cX6_mostCoins 11 = .ok (.if_icmp .ge 14, 3) := by decide +kernel
theorem dX6_mostCoins_14 : decode cX6_mostCoins 14 = .ok (.aload_n 0, 1) := by decide +kernel
theorem dX6_mostCoins_15 : decode cX6_mostCoins 15 = .ok (.aload_n 1, 1) := by decide +kernel
theorem dX6_mostCoins_16 : decode cX6_mostCoins 16 = .ok (.invokevirtual 41, 3) := by decide +kernel
theorem dX6_mostCoins_19 : decode cX6_mostCoins 19 = .ok (.iinc 4 1, 3) := by decide +kernel
theorem dX6_mostCoins_22 : decode cX6_mostCoins 22 = .ok (.goto (-14), 3) := by decide +kernel
theorem dX6_mostCoins_25 : decode cX6_mostCoins 25 = .ok (.iconst 0, 1) := by decide +kernel
theorem dX6_mostCoins_26 : decode cX6_mostCoins 26 = .ok (.istore 4, 2) := by decide +kernel
theorem dX6_mostCoins_28 : decode cX6_mostCoins 28 = .ok (.iconst 0, 1) := by decide +kernel
theorem dX6_mostCoins_29 : decode cX6_mostCoins 29 = .ok (.istore 5, 2) := by decide +kernel
theorem dX6_mostCoins_31 : decode cX6_mostCoins 31 = .ok (.iload 5, 2) := by decide +kernel
theorem dX6_mostCoins_33 : decode cX6_mostCoins 33 = .ok (.aload_n 0, 1) := by decide +kernel
theorem dX6_mostCoins_34 : decode cX6_mostCoins 34 = .ok (.getfield 49, 3) := by decide +kernel
theorem dX6_mostCoins_37 : decode cX6_mostCoins 37 = .ok (.if_icmp .ge 26, 3) := by decide +kernel
theorem dX6_mostCoins_40 : decode cX6_mostCoins 40 = .ok (.iload 4, 2) := by decide +kernel
theorem dX6_mostCoins_42 : decode cX6_mostCoins 42 = .ok (.aload_n 0, 1) := by decide +kernel
theorem dX6_mostCoins_43 : decode cX6_mostCoins 43 = .ok (.getfield 18, 3) := by decide +kernel
theorem dX6_mostCoins_46 : decode cX6_mostCoins 46 = .ok (.iload 5, 2) := by decide +kernel
theorem dX6_mostCoins_48 : decode cX6_mostCoins 48 = .ok (.iaload, 1) := by decide +kernel
theorem dX6_mostCoins_49 : decode cX6_mostCoins 49 = .ok (.invokestatic 52, 3) := by decide +kernel
theorem dX6_mostCoins_52 : decode cX6_mostCoins 52 = .ok (.invokestatic 56, 3) := by decide +kernel
theorem dX6_mostCoins_55 : decode cX6_mostCoins 55 = .ok (.istore 4, 2) := by decide +kernel
theorem dX6_mostCoins_57 : decode cX6_mostCoins 57 = .ok (.iinc 5 1, 3) := by decide +kernel
theorem dX6_mostCoins_60 : decode cX6_mostCoins 60 = .ok (.goto (-29), 3) := by decide +kernel
theorem dX6_mostCoins_63 : decode cX6_mostCoins 63 = .ok (.iload 4, 2) := by decide +kernel
theorem dX6_mostCoins_65 : decode cX6_mostCoins 65 = .ok (.ireturn, 1) := by decide +kernel
set_option maxRecDepth 20000 in
theorem ggX6_begin_J7_fill_53178 : GoodIn wsX6_begin wsJ7_fill_53178 := goodIn_r _ [9] (by decide +kernel) (by decide +kernel)
set_option maxRecDepth 20000 in
theorem gX6_begin_J7_fill_53178 : GoodIn wsX6_begin (va_wsS RX6 62 yJ7_fill_53178 wsJ7_fill_53178) := goodIn_app (goodIn_of _ (by decide +kernel)) ggX6_begin_J7_fill_53178
set_option maxRecDepth 20000 in
theorem ggX6_begin_X6_find : GoodIn wsX6_begin wsX6_find := goodIn_r _ [14, 1, 2, 15, 16, 17, 18, 19, 20, 21] (by decide +kernel) (by decide +kernel)
set_option maxRecDepth 20000 in
theorem gX6_begin_X6_find : GoodIn wsX6_begin (wsV RX6 71 RX6 yX6_find wsX6_find) := goodIn_app (goodIn_of _ (by decide +kernel)) ggX6_begin_X6_find
theorem dX6_begin_0 : decode cX6_begin 0 = .ok (.aload_n 0, 1) := by decide +kernel
theorem dX6_begin_1 : decode cX6_begin 1 = .ok (.getfield 11, 3) := by decide +kernel
theorem dX6_begin_4 : decode cX6_begin 4 = .ok (.iconst 0, 1) := by decide +kernel
theorem dX6_begin_5 : decode cX6_begin 5 = .ok (.invokestatic 62, 3) := by decide +kernel
theorem dX6_begin_8 : decode cX6_begin 8 = .ok (.aload_n 0, 1) := by decide +kernel
theorem dX6_begin_9 : decode cX6_begin 9 = .ok (.iconst 0, 1) := by decide +kernel
theorem dX6_begin_10 : decode cX6_begin 10 = .ok (.putfield 49, 3) := by decide +kernel
theorem dX6_begin_13 : decode cX6_begin 13 = .ok (.aload_n 0, 1) := by decide +kernel
theorem dX6_begin_14 : decode cX6_begin 14 = .ok (.iconst 0, 1) := by decide +kernel
theorem dX6_begin_15 : decode cX6_begin 15 = .ok (.putfield 68, 3) := by decide +kernel
theorem dX6_begin_18 : decode cX6_begin 18 = .ok (.aload_n 0, 1) := by decide +kernel
theorem dX6_begin_19 : decode cX6_begin 19 = .ok (.iload_n 1, 1) := by decide +kernel
theorem dX6_begin_20 : decode cX6_begin 20 = .ok (.iconst 0, 1) := by decide +kernel
theorem dX6_begin_21 : decode cX6_begin 21 = .ok (.invokevirtual 71, 3) := by decide +kernel
theorem dX6_begin_24 : decode cX6_begin 24 = .ok (.aload_n 0, 1) := by decide +kernel
theorem dX6_begin_25 : decode cX6_begin 25 = .ok (.iconst 0, 1) := by decide +kernel
theorem dX6_begin_26 : decode cX6_begin 26 = .ok (.putfield 25, 3) := by decide +kernel
theorem dX6_begin_29 : decode cX6_begin 29 = .ok (.aload_n 0, 1) := by decide +kernel
theorem dX6_begin_30 : decode cX6_begin 30 = .ok (.aload_n 0, 1) := by decide +kernel
theorem dX6_begin_31 : decode cX6_begin 31 = .ok (.getfield 49, 3) := by decide +kernel
theorem dX6_begin_34 : decode cX6_begin 34 = .ok (.putfield 29, 3) := by decide +kernel
theorem dX6_begin_37 : decode cX6_begin 37 = .ok (.return_, 1) := by decide +kernel
set_option maxRecDepth 20000 in
theorem ggX6_deepen_X6_standingAt : GoodIn wsX6_deepen wsX6_standingAt := goodIn_r _ [9, 10, 11, 64, 65, 66, 67, 68, 69] (by decide +kernel) (by decide +kernel)
set_option maxRecDepth 20000 in
theorem gX6_deepen_X6_standingAt : GoodIn wsX6_deepen (wsV RX6 75 RX6 yX6_standingAt wsX6_standingAt) := goodIn_app (goodIn_of _ (by decide +kernel)) ggX6_deepen_X6_standingAt
set_option maxRecDepth 20000 in
theorem ggX6_deepen_X0_after : GoodIn wsX6_deepen wsX0_after := goodIn_r _ [16, 17, 18, 15, 19, 20, 21, 22, 23, 24, 25, 26, 27, 28, 29, 30, 31, 32, 33, 34, 35, 36, 37, 38, 39, 40, 41, 42, 43, 44, 45, 46, 47, 48, 49, 50, 51, 52, 53, 54, 70, 71, 72, 73] (by decide +kernel) (by decide +kernel)
set_option maxRecDepth 20000 in
theorem gX6_deepen_X0_after : GoodIn wsX6_deepen (wsV RX6 81 RX0 yX0_after wsX0_after) := goodIn_app (goodIn_of _ (by decide +kernel)) ggX6_deepen_X0_after
set_option maxRecDepth 20000 in
theorem ggX6_deepen_X6_firstActTo : GoodIn wsX6_deepen wsX6_firstActTo := goodIn_r _ [58, 4, 10, 64, 65, 66, 67, 68, 69] (by decide +kernel) (by decide +kernel)
set_option maxRecDepth 20000 in
theorem gX6_deepen_X6_firstActTo : GoodIn wsX6_deepen (wsV RX6 84 RX6 yX6_firstActTo wsX6_firstActTo) := goodIn_app (goodIn_of _ (by decide +kernel)) ggX6_deepen_X6_firstActTo
set_option maxRecDepth 20000 in
theorem ggX6_deepen_X6_find : GoodIn wsX6_deepen wsX6_find := goodIn_r _ [62, 63, 3, 10, 64, 65, 66, 67, 68, 69] (by decide +kernel) (by decide +kernel)
set_option maxRecDepth 20000 in
theorem gX6_deepen_X6_find : GoodIn wsX6_deepen (wsV RX6 71 RX6 yX6_find wsX6_find) := goodIn_app (goodIn_of _ (by decide +kernel)) ggX6_deepen_X6_find
theorem dX6_deepen_0 : decode cX6_deepen 0 = .ok (.aload_n 0, 1) := by decide +kernel
theorem dX6_deepen_1 : decode cX6_deepen 1 = .ok (.getfield 25, 3) := by decide +kernel
theorem dX6_deepen_4 : decode cX6_deepen 4 = .ok (.istore_n 2, 1) := by decide +kernel
theorem dX6_deepen_5 : decode cX6_deepen 5 = .ok (.iload_n 2, 1) := by decide +kernel
theorem dX6_deepen_6 : decode cX6_deepen 6 = .ok (.aload_n 0, 1) := by decide +kernel
theorem dX6_deepen_7 : decode cX6_deepen 7 = .ok (.getfield 29, 3) := by decide +kernel
theorem dX6_deepen_10 : decode cX6_deepen 10 = .ok (.if_icmp .ge 76, 3) := by decide +kernel
theorem dX6_deepen_13 : decode cX6_deepen 13 = .ok (.aload_n 0, 1) := by decide +kernel
theorem dX6_deepen_14 : decode cX6_deepen 14 = .ok (.iload_n 2, 1) := by decide +kernel
theorem dX6_deepen_15 : decode cX6_deepen 15 = .ok (.invokevirtual 75, 3) := by decide +kernel
theorem dX6_deepen_18 : decode cX6_deepen 18 = .ok (.istore_n 3, 1) := by decide +kernel
theorem dX6_deepen_19 : decode cX6_deepen 19 = .ok (.getstatic 78, 3) := by decide +kernel
theorem dX6_deepen_22 : decode cX6_deepen 22 = .ok (.astore 4, 2) := by decide +kernel
theorem dX6_deepen_24 : decode cX6_deepen 24 = .ok (.aload 4, 2) := by decide +kernel
theorem dX6_deepen_26 : decode cX6_deepen 26 = .ok (.arraylength, 1) := by decide +kernel
theorem dX6_deepen_27 : decode cX6_deepen 27 = .ok (.istore 5, 2) := by decide +kernel
theorem dX6_deepen_29 : decode cX6_deepen 29 = .ok (.iconst 0, 1) := by decide +kernel
theorem dX6_deepen_30 : decode cX6_deepen 30 = .ok (.istore 6, 2) := by decide +kernel
theorem dX6_deepen_32 : decode cX6_deepen 32 = .ok (.iload 6, 2) := by decide +kernel
theorem dX6_deepen_34 : decode cX6_deepen 34 = .ok (.iload 5, 2) := by decide +kernel
theorem dX6_deepen_36 : decode cX6_deepen 36 = .ok (.if_icmp .ge 44, 3) := by decide +kernel
theorem dX6_deepen_39 : decode cX6_deepen 39 = .ok (.aload 4, 2) := by decide +kernel
theorem dX6_deepen_41 : decode cX6_deepen 41 = .ok (.iload 6, 2) := by decide +kernel
theorem dX6_deepen_43 : decode cX6_deepen 43 = .ok (.iaload, 1) := by decide +kernel
theorem dX6_deepen_44 : decode cX6_deepen 44 = .ok (.istore 7, 2) := by decide +kernel
theorem dX6_deepen_46 : decode cX6_deepen 46 = .ok (.aload_n 1, 1) := by decide +kernel
theorem dX6_deepen_47 : decode cX6_deepen 47 = .ok (.iload_n 3, 1) := by decide +kernel
theorem dX6_deepen_48 : decode cX6_deepen 48 = .ok (.iload 7, 2) := by decide +kernel
theorem dX6_deepen_50 : decode cX6_deepen 50 = .ok (.invokevirtual 81, 3) := by decide +kernel
theorem dX6_deepen_53 : decode cX6_deepen 53 = .ok (.istore 8, 2) := by decide +kernel
theorem dX6_deepen_55 : decode cX6_deepen 55 = .ok (.iload 8, 2) := by decide +kernel
theorem dX6_deepen_57 : decode cX6_deepen 57 = .ok (.iconst (-1), 1) := by decide +kernel
theorem dX6_deepen_58 : decode cX6_deepen 58 = .ok (.if_icmp .eq 16, 3) := by decide +kernel
theorem dX6_deepen_61 : decode cX6_deepen 61 = .ok (.aload_n 0, 1) := by decide +kernel
theorem dX6_deepen_62 : decode cX6_deepen 62 = .ok (.iload 8, 2) := by decide +kernel
theorem dX6_deepen_64 : decode cX6_deepen 64 = .ok (.aload_n 0, 1) := by decide +kernel
theorem dX6_deepen_65 : decode cX6_deepen 65 = .ok (.iload_n 2, 1) := by decide +kernel
theorem dX6_deepen_66 : decode cX6_deepen 66 = .ok (.iload 7, 2) := by decide +kernel
theorem dX6_deepen_68 : decode cX6_deepen 68 = .ok (.invokevirtual 84, 3) := by decide +kernel
theorem dX6_deepen_71 : decode cX6_deepen 71 = .ok (.invokevirtual 71, 3) := by decide +kernel
theorem dX6_deepen_74 : decode cX6_deepen 74 = .ok (.iinc 6 1, 3) := by decide +kernel
theorem dX6_deepen_77 : decode cX6_deepen 77 = .ok (.goto (-45), 3) := by decide +kernel
theorem dX6_deepen_80 : decode cX6_deepen 80 = .ok (.iinc 2 1, 3) := by decide +kernel
theorem dX6_deepen_83 : decode cX6_deepen 83 = .ok (.goto (-78), 3) := by decide +kernel
theorem dX6_deepen_86 : decode cX6_deepen 86 = .ok (.aload_n 0, 1) := by decide +kernel
theorem dX6_deepen_87 : decode cX6_deepen 87 = .ok (.aload_n 0, 1) := by decide +kernel
theorem dX6_deepen_88 : decode cX6_deepen 88 = .ok (.getfield 29, 3) := by decide +kernel
theorem dX6_deepen_91 : decode cX6_deepen 91 = .ok (.putfield 25, 3) := by decide +kernel
theorem dX6_deepen_94 : decode cX6_deepen 94 = .ok (.aload_n 0, 1) := by decide +kernel
theorem dX6_deepen_95 : decode cX6_deepen 95 = .ok (.aload_n 0, 1) := by decide +kernel
theorem dX6_deepen_96 : decode cX6_deepen 96 = .ok (.getfield 49, 3) := by decide +kernel
theorem dX6_deepen_99 : decode cX6_deepen 99 = .ok (.putfield 29, 3) := by decide +kernel
theorem dX6_deepen_102 : decode cX6_deepen 102 = .ok (.aload_n 0, 1) := by decide +kernel
theorem dX6_deepen_103 : decode cX6_deepen 103 = .ok (.dup, 1) := by decide +kernel
theorem dX6_deepen_104 : decode cX6_deepen 104 = .ok (.getfield 68, 3) := by decide +kernel
theorem dX6_deepen_107 : decode cX6_deepen 107 = .ok (.iconst 1, 1) := by decide +kernel
theorem dX6_deepen_108 : decode cX6_deepen 108 = .ok (.iadd, 1) := by decide +kernel
theorem dX6_deepen_109 : decode cX6_deepen 109 = .ok (.putfield 68, 3) := by decide +kernel
theorem dX6_deepen_112 : decode cX6_deepen 112 = .ok (.return_, 1) := by decide +kernel
theorem dX6_find_0 : decode cX6_find 0 = .ok (.iload_n 1, 1) := by decide +kernel
theorem dX6_find_1 : decode cX6_find 1 = .ok (.iconst 5, 1) := by decide +kernel
theorem dX6_find_2 : decode cX6_find 2 = .ok (.ishr, 1) := by decide +kernel
theorem dX6_find_3 : decode cX6_find 3 = .ok (.aload_n 0, 1) := by decide +kernel
theorem dX6_find_4 : decode cX6_find 4 = .ok (.getfield 11, 3) := by decide +kernel
theorem dX6_find_7 : decode cX6_find 7 = .ok (.arraylength, 1) := by decide +kernel
theorem dX6_find_8 : decode cX6_find 8 = .ok (.iconst 1, 1) := by decide +kernel
theorem dX6_find_9 : decode cX6_find 9 = .ok (.isub, 1) := by decide +kernel
theorem dX6_find_10 : decode cX6_find 10 = .ok (.iand, 1) := by decide +kernel
theorem dX6_find_11 : decode cX6_find 11 = .ok (.istore_n 3, 1) := by decide +kernel
theorem dX6_find_12 : decode cX6_find 12 = .ok (.iconst 1, 1) := by decide +kernel
theorem dX6_find_13 : decode cX6_find 13 = .ok (.iload_n 1, 1) := by decide +kernel
theorem dX6_find_14 : decode cX6_find 14 = .ok (.bipush 31, 2) := by decide +kernel
theorem dX6_find_16 : decode cX6_find 16 = .ok (.iand, 1) := by decide +kernel
theorem dX6_find_17 : decode cX6_find 17 = .ok (.ishl, 1) := by decide +kernel
theorem dX6_find_18 : decode cX6_find 18 = .ok (.istore 4, 2) := by decide +kernel
theorem dX6_find_20 : decode cX6_find 20 = .ok (.aload_n 0, 1) := by decide +kernel
theorem dX6_find_21 : decode cX6_find 21 = .ok (.getfield 11, 3) := by decide +kernel
theorem dX6_find_24 : decode cX6_find 24 = .ok (.iload_n 3, 1) := by decide +kernel
theorem dX6_find_25 : decode cX6_find 25 = .ok (.iaload, 1) := by decide +kernel
theorem dX6_find_26 : decode cX6_find 26 = .ok (.iload 4, 2) := by decide +kernel
theorem dX6_find_28 : decode cX6_find 28 = .ok (.iand, 1) := by decide +kernel
theorem dX6_find_29 : decode cX6_find 29 = .ok (.ifCond .ne 51, 3) := by decide +kernel
theorem dX6_find_32 : decode cX6_find 32 = .ok (.aload_n 0, 1) := by decide +kernel
theorem dX6_find_33 : decode cX6_find 33 = .ok (.getfield 49, 3) := by decide +kernel
theorem dX6_find_36 : decode cX6_find 36 = .ok (.aload_n 0, 1) := by decide +kernel
theorem dX6_find_37 : decode cX6_find 37 = .ok (.getfield 18, 3) := by decide +kernel
theorem dX6_find_40 : decode cX6_find 40 = .ok (.arraylength, 1) := by decide +kernel
theorem dX6_find_41 : decode cX6_find 41 = .ok (.if_icmp .ge 39, 3) := by decide +kernel
theorem dX6_find_44 : decode cX6_find 44 = .ok (.aload_n 0, 1) := by decide +kernel
theorem dX6_find_45 : decode cX6_find 45 = .ok (.getfield 11, 3) := by decide +kernel
theorem dX6_find_48 : decode cX6_find 48 = .ok (.iload_n 3, 1) := by decide +kernel
theorem dX6_find_49 : decode cX6_find 49 = .ok (.dup2, 1) := by decide +kernel
theorem dX6_find_50 : decode cX6_find 50 = .ok (.iaload, 1) := by decide +kernel
theorem dX6_find_51 : decode cX6_find 51 = .ok (.iload 4, 2) := by decide +kernel
theorem dX6_find_53 : decode cX6_find 53 = .ok (.ior, 1) := by decide +kernel
theorem dX6_find_54 : decode cX6_find 54 = .ok (.iastore, 1) := by decide +kernel
theorem dX6_find_55 : decode cX6_find 55 = .ok (.aload_n 0, 1) := by decide +kernel
theorem dX6_find_56 : decode cX6_find 56 = .ok (.getfield 18, 3) := by decide +kernel
theorem dX6_find_59 : decode cX6_find 59 = .ok (.aload_n 0, 1) := by decide +kernel
theorem dX6_find_60 : decode cX6_find 60 = .ok (.getfield 49, 3) := by decide +kernel
theorem dX6_find_63 : decode cX6_find 63 = .ok (.iload_n 1, 1) := by decide +kernel
theorem dX6_find_64 : decode cX6_find 64 = .ok (.iload_n 2, 1) := by decide +kernel
theorem dX6_find_65 : decode cX6_find 65 = .ok (.bipush 18, 2) := by decide +kernel
theorem dX6_find_67 : decode cX6_find 67 = .ok (.ishl, 1) := by decide +kernel
theorem dX6_find_68 : decode cX6_find 68 = .ok (.ior, 1) := by decide +kernel
theorem dX6_find_69 : decode cX6_find 69 = .ok (.iastore, 1) := by decide +kernel
theorem dX6_find_70 : decode cX6_find 70 = .ok (.aload_n 0, 1) := by decide +kernel
theorem dX6_find_71 : decode cX6_find 71 = .ok (.dup, 1) := by decide +kernel
theorem dX6_find_72 : decode cX6_find 72 = .ok (.getfield 49, 3) := by decide +kernel
theorem dX6_find_75 : decode cX6_find 75 = .ok (.iconst 1, 1) := by decide +kernel
theorem dX6_find_76 : decode cX6_find 76 = .ok (.iadd, 1) := by decide +kernel
theorem dX6_find_77 : decode cX6_find 77 = .ok (.putfield 49, 3) := by decide +kernel
theorem dX6_find_80 : decode cX6_find 80 = .ok (.return_, 1) := by decide +kernel
set_option maxRecDepth 20000 in
theorem ggX6_firstToBuy_X6_standingAt : GoodIn wsX6_firstToBuy wsX6_standingAt := goodIn_r _ [7, 8, 9, 28, 29, 30, 31, 32, 33] (by decide +kernel) (by decide +kernel)
set_option maxRecDepth 20000 in
theorem gX6_firstToBuy_X6_standingAt : GoodIn wsX6_firstToBuy (wsV RX6 75 RX6 yX6_standingAt wsX6_standingAt) := goodIn_app (goodIn_of _ (by decide +kernel)) ggX6_firstToBuy_X6_standingAt
set_option maxRecDepth 20000 in
theorem ggX6_firstToBuy_X7_townOf : GoodIn wsX6_firstToBuy wsX7_townOf := goodIn_r _ [13] (by decide +kernel) (by decide +kernel)
set_option maxRecDepth 20000 in
theorem gX6_firstToBuy_X7_townOf : GoodIn wsX6_firstToBuy (va_wsS RX6 87 yX7_townOf wsX7_townOf) := goodIn_app (goodIn_of _ (by decide +kernel)) ggX6_firstToBuy_X7_townOf
set_option maxRecDepth 20000 in
theorem ggX6_firstToBuy_X7_coinsOf : GoodIn wsX6_firstToBuy wsX7_coinsOf := goodIn_r _ [16] (by decide +kernel) (by decide +kernel)
set_option maxRecDepth 20000 in
theorem gX6_firstToBuy_X7_coinsOf : GoodIn wsX6_firstToBuy (va_wsS RX6 90 yX7_coinsOf wsX7_coinsOf) := goodIn_app (goodIn_of _ (by decide +kernel)) ggX6_firstToBuy_X7_coinsOf
set_option maxRecDepth 20000 in
theorem ggX6_firstToBuy_X0_canPay : GoodIn wsX6_firstToBuy wsX0_canPay := goodIn_r _ [21, 22, 34, 35, 36, 37] (by decide +kernel) (by decide +kernel)
set_option maxRecDepth 20000 in
theorem gX6_firstToBuy_X0_canPay : GoodIn wsX6_firstToBuy (wsV RX6 93 RX0 yX0_canPay wsX0_canPay) := goodIn_app (goodIn_of _ (by decide +kernel)) ggX6_firstToBuy_X0_canPay
set_option maxRecDepth 20000 in
theorem ggX6_firstToBuy_X6_firstActTo : GoodIn wsX6_firstToBuy wsX6_firstActTo := goodIn_r _ [26, 27, 8, 28, 29, 30, 31, 32, 33] (by decide +kernel) (by decide +kernel)
set_option maxRecDepth 20000 in
theorem gX6_firstToBuy_X6_firstActTo : GoodIn wsX6_firstToBuy (wsV RX6 84 RX6 yX6_firstActTo wsX6_firstActTo) := goodIn_app (goodIn_of _ (by decide +kernel)) ggX6_firstToBuy_X6_firstActTo
theorem dX6_firstToBuy_0 : decode cX6_firstToBuy 0 = .ok (.aload_n 0, 1) := by decide +kernel
theorem dX6_firstToBuy_1 : decode cX6_firstToBuy 1 = .ok (.getfield 25, 3) := by decide +kernel
theorem dX6_firstToBuy_4 : decode cX6_firstToBuy 4 = .ok (.istore 4, 2) := by decide +kernel
theorem dX6_firstToBuy_6 : decode cX6_firstToBuy 6 = .ok (.iload 4, 2) := by decide +kernel
theorem dX6_firstToBuy_8 : decode cX6_firstToBuy 8 = .ok (.aload_n 0, 1) := by decide +kernel
theorem dX6_firstToBuy_9 : decode cX6_firstToBuy 9 = .ok (.getfield 29, 3) := by decide +kernel
theorem dX6_firstToBuy_12 : decode cX6_firstToBuy 12 = .ok (.if_icmp .ge 71, 3) := by decide +kernel
theorem dX6_firstToBuy_15 : decode cX6_firstToBuy 15 = .ok (.aload_n 0, 1) := by decide +kernel
theorem dX6_firstToBuy_16 : decode cX6_firstToBuy 16 = .ok (.iload 4, 2) := by decide +kernel
theorem dX6_firstToBuy_18 : decode cX6_firstToBuy 18 = .ok (.invokevirtual 75, 3) := by decide +kernel
theorem dX6_firstToBuy_21 : decode cX6_firstToBuy 21 = .ok (.istore 5, 2) := by decide +kernel
theorem dX6_firstToBuy_23 : decode cX6_firstToBuy 23 = .ok (.iconst 0, 1) := by decide +kernel
theorem dX6_firstToBuy_24 : decode cX6_firstToBuy 24 = .ok (.istore 6, 2) := by decide +kernel
theorem dX6_firstToBuy_26 : decode cX6_firstToBuy 26 = .ok (.iload 6, 2) := by decide +kernel
theorem dX6_firstToBuy_28 : decode cX6_firstToBuy 28 = .ok (.iconst 4, 1) := by decide +kernel
theorem dX6_firstToBuy_29 : decode cX6_firstToBuy 29 = .ok (.if_icmp .ge 48, 3) := by decide +kernel
theorem dX6_firstToBuy_32 : decode cX6_firstToBuy 32 = .ok (.iload 5, 2) := by decide +kernel
theorem dX6_firstToBuy_34 : decode cX6_firstToBuy 34 = .ok (.invokestatic 87, 3) := by decide +kernel
theorem dX6_firstToBuy_37 : decode cX6_firstToBuy 37 = .ok (.iload_n 2, 1) := by decide +kernel
theorem dX6_firstToBuy_38 : decode cX6_firstToBuy 38 = .ok (.if_icmp .ne 39, 3) := by decide +kernel
theorem dX6_firstToBuy_41 : decode cX6_firstToBuy 41 = .ok (.aload_n 1, 1) := by decide +kernel
theorem dX6_firstToBuy_42 : decode cX6_firstToBuy 42 = .ok (.iload_n 2, 1) := by decide +kernel
theorem dX6_firstToBuy_43 : decode cX6_firstToBuy 43 = .ok (.iload 6, 2) := by decide +kernel
theorem dX6_firstToBuy_45 : decode cX6_firstToBuy 45 = .ok (.iload 5, 2) := by decide +kernel
theorem dX6_firstToBuy_47 : decode cX6_firstToBuy 47 = .ok (.iload 6, 2) := by decide +kernel
theorem dX6_firstToBuy_49 : decode cX6_firstToBuy 49 = .ok (.invokestatic 90, 3) := by decide +kernel
theorem dX6_firstToBuy_52 : decode cX6_firstToBuy 52 = .ok (.iload_n 3, 1) := by decide +kernel
theorem dX6_firstToBuy_53 : decode cX6_firstToBuy 53 = .ok (.invokevirtual 93, 3) := by decide +kernel
theorem dX6_firstToBuy_56 : decode cX6_firstToBuy 56 = .ok (.ifCond .eq 15, 3) := by decide +kernel
theorem dX6_firstToBuy_59 : decode cX6_firstToBuy 59 = .ok (.aload_n 0, 1) := by decide +kernel
theorem dX6_firstToBuy_60 : decode cX6_firstToBuy 60 = .ok (.iload 4, 2) := by decide +kernel
theorem dX6_firstToBuy_62 : decode cX6_firstToBuy 62 = .ok (.bipush 10, 2) := by decide +kernel
theorem dX6_firstToBuy_64 : decode cX6_firstToBuy 64 = .ok (.iload 6, 2) := by decide +kernel
theorem dX6_firstToBuy_66 : decode cX6_firstToBuy 66 = .ok (.iadd, 1) := by decide +kernel
theorem dX6_firstToBuy_67 : decode cX6_firstToBuy 67 = .ok (.invokevirtual 84, 3) := by decide +kernel
theorem dX6_firstToBuy_70 : decode cX6_firstToBuy 70 = .ok (.ireturn, 1) := by decide +kernel
theorem dX6_firstToBuy_71 : decode cX6_firstToBuy 71 = .ok (.iinc 6 1, 3) := by decide +kernel
theorem dX6_firstToBuy_74 : decode cX6_firstToBuy 74 = .ok (.goto (-48), 3) := by decide +kernel
theorem dX6_firstToBuy_77 : decode cX6_firstToBuy 77 = .ok (.iinc 4 1, 3) := by decide +kernel
theorem dX6_firstToBuy_80 : decode cX6_firstToBuy 80 = .ok (.goto (-74), 3) := by decide +kernel
theorem dX6_firstToBuy_83 : decode cX6_firstToBuy 83 = .ok (.iconst (-1), 1) := by decide +kernel
theorem dX6_firstToBuy_84 : decode cX6_firstToBuy 84 = .ok (.ireturn, 1) := by decide +kernel
theorem dX6_standingAt_0 : decode cX6_standingAt 0 = .ok (.aload_n 0, 1) := by decide +kernel
theorem dX6_standingAt_1 : decode cX6_standingAt 1 = .ok (.getfield 18, 3) := by decide +kernel
theorem dX6_standingAt_4 : decode cX6_standingAt 4 = .ok (.iload_n 1, 1) := by decide +kernel
theorem dX6_standingAt_5 : decode cX6_standingAt 5 = .ok (.iaload, 1) := by decide +kernel
theorem dX6_standingAt_6 : decode cX6_standingAt 6 = .ok (.ldc 97, 2) := by decide +kernel
theorem dX6_standingAt_8 : decode cX6_standingAt 8 = .ok (.iand, 1) := by decide +kernel
theorem dX6_standingAt_9 : decode cX6_standingAt 9 = .ok (.ireturn, 1) := by decide +kernel
theorem dX6_firstActTo_0 : decode cX6_firstActTo 0 = .ok (.aload_n 0, 1) := by decide +kernel
theorem dX6_firstActTo_1 : decode cX6_firstActTo 1 = .ok (.getfield 68, 3) := by decide +kernel
theorem dX6_firstActTo_4 : decode cX6_firstActTo 4 = .ok (.ifCond .ne 7, 3) := by decide +kernel
theorem dX6_firstActTo_7 : decode cX6_firstActTo 7 = .ok (.iload_n 2, 1) := by decide +kernel
theorem dX6_firstActTo_8 : decode cX6_firstActTo 8 = .ok (.goto 12, 3) := by decide +kernel
theorem dX6_firstActTo_11 : decode cX6_firstActTo 11 = .ok (.aload_n 0, 1) := by decide +kernel
theorem dX6_firstActTo_12 : decode cX6_firstActTo 12 = .ok (.getfield 18, 3) := by decide +kernel
theorem dX6_firstActTo_15 : decode cX6_firstActTo 15 = .ok (.iload_n 1, 1) := by decide +kernel
theorem dX6_firstActTo_16 : decode cX6_firstActTo 16 = .ok (.iaload, 1) := by decide +kernel
theorem dX6_firstActTo_17 : decode cX6_firstActTo 17 = .ok (.bipush 18, 2) := by decide +kernel
theorem dX6_firstActTo_19 : decode cX6_firstActTo 19 = .ok (.ishr, 1) := by decide +kernel
theorem dX6_firstActTo_20 : decode cX6_firstActTo 20 = .ok (.ireturn, 1) := by decide +kernel
theorem dX7_townOf_0 : decode cX7_townOf 0 = .ok (.iload_n 0, 1) := by decide +kernel
theorem dX7_townOf_1 : decode cX7_townOf 1 = .ok (.iconst 3, 1) := by decide +kernel
theorem dX7_townOf_2 : decode cX7_townOf 2 = .ok (.iand, 1) := by decide +kernel
theorem dX7_townOf_3 : decode cX7_townOf 3 = .ok (.ireturn, 1) := by decide +kernel
theorem dX7_goodsOf_0 : decode cX7_goodsOf 0 = .ok (.iload_n 0, 1) := by decide +kernel
theorem dX7_goodsOf_1 : decode cX7_goodsOf 1 = .ok (.iconst 2, 1) := by decide +kernel
theorem dX7_goodsOf_2 : decode cX7_goodsOf 2 = .ok (.ishr, 1) := by decide +kernel
theorem dX7_goodsOf_3 : decode cX7_goodsOf 3 = .ok (.bipush 15, 2) := by decide +kernel
theorem dX7_goodsOf_5 : decode cX7_goodsOf 5 = .ok (.iand, 1) := by decide +kernel
theorem dX7_goodsOf_6 : decode cX7_goodsOf 6 = .ok (.ireturn, 1) := by decide +kernel
theorem dX7_hasGood_0 : decode cX7_hasGood 0 = .ok (.iload_n 0, 1) := by decide +kernel
theorem dX7_hasGood_1 : decode cX7_hasGood 1 = .ok (.iconst 2, 1) := by decide +kernel
theorem dX7_hasGood_2 : decode cX7_hasGood 2 = .ok (.iload_n 1, 1) := by decide +kernel
theorem dX7_hasGood_3 : decode cX7_hasGood 3 = .ok (.iadd, 1) := by decide +kernel
theorem dX7_hasGood_4 : decode cX7_hasGood 4 = .ok (.ishr, 1) := by decide +kernel
theorem dX7_hasGood_5 : decode cX7_hasGood 5 = .ok (.iconst 1, 1) := by decide +kernel
theorem dX7_hasGood_6 : decode cX7_hasGood 6 = .ok (.iand, 1) := by decide +kernel
theorem dX7_hasGood_7 : decode cX7_hasGood 7 = .ok (.iconst 1, 1) := by decide +kernel
theorem dX7_hasGood_8 : decode cX7_hasGood 8 = .ok (.if_icmp .ne 7, 3) := by decide +kernel
theorem dX7_hasGood_11 : decode cX7_hasGood 11 = .ok (.iconst 1, 1) := by decide +kernel
theorem dX7_hasGood_12 : decode cX7_hasGood 12 = .ok (.goto 4, 3) := by decide +kernel
theorem dX7_hasGood_15 : decode cX7_hasGood 15 = .ok (.iconst 0, 1) := by decide +kernel
theorem dX7_hasGood_16 : decode cX7_hasGood 16 = .ok (.ireturn, 1) := by decide +kernel
theorem dX7_coinsOf_0 : decode cX7_coinsOf 0 = .ok (.iload_n 0, 1) := by decide +kernel
theorem dX7_coinsOf_1 : decode cX7_coinsOf 1 = .ok (.bipush 6, 2) := by decide +kernel
theorem dX7_coinsOf_3 : decode cX7_coinsOf 3 = .ok (.iconst 3, 1) := by decide +kernel
theorem dX7_coinsOf_4 : decode cX7_coinsOf 4 = .ok (.iload_n 1, 1) := by decide +kernel
theorem dX7_coinsOf_5 : decode cX7_coinsOf 5 = .ok (.imul, 1) := by decide +kernel
theorem dX7_coinsOf_6 : decode cX7_coinsOf 6 = .ok (.iadd, 1) := by decide +kernel
theorem dX7_coinsOf_7 : decode cX7_coinsOf 7 = .ok (.ishr, 1) := by decide +kernel
theorem dX7_coinsOf_8 : decode cX7_coinsOf 8 = .ok (.bipush 7, 2) := by decide +kernel
theorem dX7_coinsOf_10 : decode cX7_coinsOf 10 = .ok (.iand, 1) := by decide +kernel
theorem dX7_coinsOf_11 : decode cX7_coinsOf 11 = .ok (.ireturn, 1) := by decide +kernel
set_option maxRecDepth 20000 in
theorem ggX7_coinsTogether_X7_coinsOf : GoodIn wsX7_coinsTogether wsX7_coinsOf := goodIn_r _ [4] (by decide +kernel) (by decide +kernel)
set_option maxRecDepth 20000 in
theorem gX7_coinsTogether_X7_coinsOf : GoodIn wsX7_coinsTogether (va_wsS RX7 11 yX7_coinsOf wsX7_coinsOf) := goodIn_app (goodIn_of _ (by decide +kernel)) ggX7_coinsTogether_X7_coinsOf
theorem dX7_coinsTogether_0 : decode cX7_coinsTogether 0 = .ok (.iload_n 0, 1) := by decide +kernel
theorem dX7_coinsTogether_1 : decode cX7_coinsTogether 1 = .ok (.iconst 0, 1) := by decide +kernel
theorem dX7_coinsTogether_2 : decode cX7_coinsTogether 2 = .ok (.invokestatic 11, 3) := by decide +kernel
theorem dX7_coinsTogether_5 : decode cX7_coinsTogether 5 = .ok (.iload_n 0, 1) := by decide +kernel
theorem dX7_coinsTogether_6 : decode cX7_coinsTogether 6 = .ok (.iconst 1, 1) := by decide +kernel
theorem dX7_coinsTogether_7 : decode cX7_coinsTogether 7 = .ok (.invokestatic 11, 3) := by decide +kernel
theorem dX7_coinsTogether_10 : decode cX7_coinsTogether 10 = .ok (.iadd, 1) := by decide +kernel
theorem dX7_coinsTogether_11 : decode cX7_coinsTogether 11 = .ok (.iload_n 0, 1) := by decide +kernel
theorem dX7_coinsTogether_12 : decode cX7_coinsTogether 12 = .ok (.iconst 2, 1) := by decide +kernel
theorem dX7_coinsTogether_13 : decode cX7_coinsTogether 13 = .ok (.invokestatic 11, 3) := by decide +kernel
theorem dX7_coinsTogether_16 : decode cX7_coinsTogether 16 = .ok (.iadd, 1) := by decide +kernel
theorem dX7_coinsTogether_17 : decode cX7_coinsTogether 17 = .ok (.iload_n 0, 1) := by decide +kernel
theorem dX7_coinsTogether_18 : decode cX7_coinsTogether 18 = .ok (.iconst 3, 1) := by decide +kernel
theorem dX7_coinsTogether_19 : decode cX7_coinsTogether 19 = .ok (.invokestatic 11, 3) := by decide +kernel
theorem dX7_coinsTogether_22 : decode cX7_coinsTogether 22 = .ok (.iadd, 1) := by decide +kernel
theorem dX7_coinsTogether_23 : decode cX7_coinsTogether 23 = .ok (.ireturn, 1) := by decide +kernel
theorem dX7_withMore_0 : decode cX7_withMore 0 = .ok (.iload_n 0, 1) := by decide +kernel
theorem dX7_withMore_1 : decode cX7_withMore 1 = .ok (.iload_n 2, 1) := by decide +kernel
theorem dX7_withMore_2 : decode cX7_withMore 2 = .ok (.iconst 1, 1) := by decide +kernel
theorem dX7_withMore_3 : decode cX7_withMore 3 = .ok (.bipush 6, 2) := by decide +kernel
theorem dX7_withMore_5 : decode cX7_withMore 5 = .ok (.iconst 3, 1) := by decide +kernel
theorem dX7_withMore_6 : decode cX7_withMore 6 = .ok (.iload_n 1, 1) := by decide +kernel
theorem dX7_withMore_7 : decode cX7_withMore 7 = .ok (.imul, 1) := by decide +kernel
theorem dX7_withMore_8 : decode cX7_withMore 8 = .ok (.iadd, 1) := by decide +kernel
theorem dX7_withMore_9 : decode cX7_withMore 9 = .ok (.ishl, 1) := by decide +kernel
theorem dX7_withMore_10 : decode cX7_withMore 10 = .ok (.imul, 1) := by decide +kernel
theorem dX7_withMore_11 : decode cX7_withMore 11 = .ok (.iadd, 1) := by decide +kernel
theorem dX7_withMore_12 : decode cX7_withMore 12 = .ok (.ireturn, 1) := by decide +kernel
theorem dX7_withTown_0 : decode cX7_withTown 0 = .ok (.iload_n 0, 1) := by decide +kernel
theorem dX7_withTown_1 : decode cX7_withTown 1 = .ok (.bipush (-4), 2) := by decide +kernel
theorem dX7_withTown_3 : decode cX7_withTown 3 = .ok (.iand, 1) := by decide +kernel
theorem dX7_withTown_4 : decode cX7_withTown 4 = .ok (.iload_n 1, 1) := by decide +kernel
theorem dX7_withTown_5 : decode cX7_withTown 5 = .ok (.ior, 1) := by decide +kernel
theorem dX7_withTown_6 : decode cX7_withTown 6 = .ok (.ireturn, 1) := by decide +kernel
theorem dX7_withOtherGood_0 : decode cX7_withOtherGood 0 = .ok (.iload_n 0, 1) := by decide +kernel
theorem dX7_withOtherGood_1 : decode cX7_withOtherGood 1 = .ok (.iconst 1, 1) := by decide +kernel
theorem dX7_withOtherGood_2 : decode cX7_withOtherGood 2 = .ok (.iconst 2, 1) := by decide +kernel
theorem dX7_withOtherGood_3 : decode cX7_withOtherGood 3 = .ok (.iload_n 1, 1) := by decide +kernel
theorem dX7_withOtherGood_4 : decode cX7_withOtherGood 4 = .ok (.iadd, 1) := by decide +kernel
theorem dX7_withOtherGood_5 : decode cX7_withOtherGood 5 = .ok (.ishl, 1) := by decide +kernel
theorem dX7_withOtherGood_6 : decode cX7_withOtherGood 6 = .ok (.ixor, 1) := by decide +kernel
theorem dX7_withOtherGood_7 : decode cX7_withOtherGood 7 = .ok (.ireturn, 1) := by decide +kernel
theorem dX7_placeOf_0 : decode cX7_placeOf 0 = .ok (.iload_n 0, 1) := by decide +kernel
theorem dX7_placeOf_1 : decode cX7_placeOf 1 = .ok (.bipush 63, 2) := by decide +kernel
theorem dX7_placeOf_3 : decode cX7_placeOf 3 = .ok (.iand, 1) := by decide +kernel
theorem dX7_placeOf_4 : decode cX7_placeOf 4 = .ok (.ireturn, 1) := by decide +kernel
theorem dX7_withoutPlace_0 : decode cX7_withoutPlace 0 = .ok (.iload_n 0, 1) := by decide +kernel
theorem dX7_withoutPlace_1 : decode cX7_withoutPlace 1 = .ok (.bipush (-64), 2) := by decide +kernel
theorem dX7_withoutPlace_3 : decode cX7_withoutPlace 3 = .ok (.iand, 1) := by decide +kernel
theorem dX7_withoutPlace_4 : decode cX7_withoutPlace 4 = .ok (.ireturn, 1) := by decide +kernel
set_option maxRecDepth 20000 in
theorem ggX7_purseOf_X7_withMore : GoodIn wsX7_purseOf wsX7_withMore := goodIn_r _ [4] (by decide +kernel) (by decide +kernel)
set_option maxRecDepth 20000 in
theorem gX7_purseOf_X7_withMore : GoodIn wsX7_purseOf (va_wsS RX7 15 yX7_withMore wsX7_withMore) := goodIn_app (goodIn_of _ (by decide +kernel)) ggX7_purseOf_X7_withMore
theorem dX7_purseOf_0 : decode cX7_purseOf 0 = .ok (.iconst 0, 1) := by decide +kernel
theorem dX7_purseOf_1 : decode cX7_purseOf 1 = .ok (.istore_n 1, 1) := by decide +kernel
theorem dX7_purseOf_2 : decode cX7_purseOf 2 = .ok (.iload_n 0, 1) := by decide +kernel
theorem dX7_purseOf_3 : decode cX7_purseOf 3 = .ok (.istore_n 2, 1) := by decide +kernel
theorem dX7_purseOf_4 : decode cX7_purseOf 4 = .ok (.iconst 0, 1) := by decide +kernel
theorem dX7_purseOf_5 : decode cX7_purseOf 5 = .ok (.istore_n 3, 1) := by decide +kernel
theorem dX7_purseOf_6 : decode cX7_purseOf 6 = .ok (.iload_n 3, 1) := by decide +kernel
theorem dX7_purseOf_7 : decode cX7_purseOf 7 = .ok (.iconst 4, 1) := by decide +kernel
theorem dX7_purseOf_8 : decode cX7_purseOf 8 = .ok (.if_icmp .ge 22, 3) := by decide +kernel
theorem dX7_purseOf_11 : decode cX7_purseOf 11 = .ok (.iload_n 1, 1) := by decide +kernel
theorem dX7_purseOf_12 : decode cX7_purseOf 12 = .ok (.iload_n 3, 1) := by decide +kernel
theorem dX7_purseOf_13 : decode cX7_purseOf 13 = .ok (.iload_n 2, 1) := by decide +kernel
theorem dX7_purseOf_14 : decode cX7_purseOf 14 = .ok (.iconst 5, 1) := by decide +kernel
theorem dX7_purseOf_15 : decode cX7_purseOf 15 = .ok (.irem, 1) := by decide +kernel
theorem dX7_purseOf_16 : decode cX7_purseOf 16 = .ok (.invokestatic 15, 3) := by decide +kernel
theorem dX7_purseOf_19 : decode cX7_purseOf 19 = .ok (.istore_n 1, 1) := by decide +kernel
theorem dX7_purseOf_20 : decode cX7_purseOf 20 = .ok (.iload_n 2, 1) := by decide +kernel
theorem dX7_purseOf_21 : decode cX7_purseOf 21 = .ok (.iconst 5, 1) := by decide +kernel
theorem dX7_purseOf_22 : decode cX7_purseOf 22 = .ok (.idiv, 1) := by decide +kernel
theorem dX7_purseOf_23 : decode cX7_purseOf 23 = .ok (.istore_n 2, 1) := by decide +kernel
theorem dX7_purseOf_24 : decode cX7_purseOf 24 = .ok (.iinc 3 1, 3) := by decide +kernel
theorem dX7_purseOf_27 : decode cX7_purseOf 27 = .ok (.goto (-21), 3) := by decide +kernel
theorem dX7_purseOf_30 : decode cX7_purseOf 30 = .ok (.iload_n 1, 1) := by decide +kernel
theorem dX7_purseOf_31 : decode cX7_purseOf 31 = .ok (.ireturn, 1) := by decide +kernel
theorem dX8_init_0 : decode cX8_init 0 = .ok (.aload_n 0, 1) := by decide +kernel
theorem dX8_init_1 : decode cX8_init 1 = .ok (.invokespecial 3, 3) := by decide +kernel
theorem dX8_init_4 : decode cX8_init 4 = .ok (.aload_n 0, 1) := by decide +kernel
theorem dX8_init_5 : decode cX8_init 5 = .ok (.iconst 5, 1) := by decide +kernel
theorem dX8_init_6 : decode cX8_init 6 = .ok (.newarray .int, 2) := by decide +kernel
theorem dX8_init_8 : decode cX8_init 8 = .ok (.putfield 9, 3) := by decide +kernel
theorem dX8_init_11 : decode cX8_init 11 = .ok (.aload_n 0, 1) := by decide +kernel
theorem dX8_init_12 : decode cX8_init 12 = .ok (.bipush 64, 2) := by decide +kernel
theorem dX8_init_14 : decode cX8_init 14 = .ok (.newarray .int, 2) := by decide +kernel
theorem dX8_init_16 : decode cX8_init 16 = .ok (.putfield 17, 3) := by decide +kernel
theorem dX8_init_19 : decode cX8_init 19 = .ok (.aload_n 0, 1) := by decide +kernel
theorem dX8_init_20 : decode cX8_init 20 = .ok (.bipush 64, 2) := by decide +kernel
theorem dX8_init_22 : decode cX8_init 22 = .ok (.newarray .int, 2) := by decide +kernel
theorem dX8_init_24 : decode cX8_init 24 = .ok (.putfield 20, 3) := by decide +kernel
theorem dX8_init_27 : decode cX8_init 27 = .ok (.aload_n 0, 1) := by decide +kernel
theorem dX8_init_28 : decode cX8_init 28 = .ok (.getstatic 23, 3) := by decide +kernel
theorem dX8_init_31 : decode cX8_init 31 = .ok (.putfield 29, 3) := by decide +kernel
theorem dX8_init_34 : decode cX8_init 34 = .ok (.return_, 1) := by decide +kernel
theorem dX8_begin_0 : decode cX8_begin 0 = .ok (.aload_n 0, 1) := by decide +kernel
theorem dX8_begin_1 : decode cX8_begin 1 = .ok (.iconst 1, 1) := by decide +kernel
theorem dX8_begin_2 : decode cX8_begin 2 = .ok (.putfield 32, 3) := by decide +kernel
theorem dX8_begin_5 : decode cX8_begin 5 = .ok (.aload_n 0, 1) := by decide +kernel
theorem dX8_begin_6 : decode cX8_begin 6 = .ok (.aload_n 1, 1) := by decide +kernel
theorem dX8_begin_7 : decode cX8_begin 7 = .ok (.getfield 36, 3) := by decide +kernel
theorem dX8_begin_10 : decode cX8_begin 10 = .ok (.putfield 29, 3) := by decide +kernel
theorem dX8_begin_13 : decode cX8_begin 13 = .ok (.aload_n 0, 1) := by decide +kernel
theorem dX8_begin_14 : decode cX8_begin 14 = .ok (.aload_n 1, 1) := by decide +kernel
theorem dX8_begin_15 : decode cX8_begin 15 = .ok (.getfield 39, 3) := by decide +kernel
theorem dX8_begin_18 : decode cX8_begin 18 = .ok (.putfield 43, 3) := by decide +kernel
theorem dX8_begin_21 : decode cX8_begin 21 = .ok (.aload_n 0, 1) := by decide +kernel
theorem dX8_begin_22 : decode cX8_begin 22 = .ok (.iconst 0, 1) := by decide +kernel
theorem dX8_begin_23 : decode cX8_begin 23 = .ok (.putfield 46, 3) := by decide +kernel
theorem dX8_begin_26 : decode cX8_begin 26 = .ok (.return_, 1) := by decide +kernel
theorem dX8_add_0 : decode cX8_add 0 = .ok (.aload_n 0, 1) := by decide +kernel
theorem dX8_add_1 : decode cX8_add 1 = .ok (.getfield 46, 3) := by decide +kernel
theorem dX8_add_4 : decode cX8_add 4 = .ok (.aload_n 0, 1) := by decide +kernel
theorem dX8_add_5 : decode cX8_add 5 = .ok (.getfield 9, 3) := by decide +kernel
theorem dX8_add_8 : decode cX8_add 8 = .ok (.arraylength, 1) := by decide +kernel
theorem dX8_add_9 : decode cX8_add 9 = .ok (.if_icmp .lt 6, 3) := by decide +kernel
theorem dX8_add_12 : decode cX8_add 12 = .ok (.bipush (-104), 2) := by decide +kernel
theorem dX8_add_14 : decode cX8_add 14 = .ok (.ireturn, 1) := by decide +kernel
theorem dX8_add_15 : decode cX8_add 15 = .ok (.aload_n 0, 1) := by decide +kernel
theorem dX8_add_16 : decode cX8_add 16 = .ok (.getfield 9, 3) := by decide +kernel
theorem dX8_add_19 : decode cX8_add 19 = .ok (.aload_n 0, 1) := by decide +kernel
theorem dX8_add_20 : decode cX8_add 20 = .ok (.getfield 46, 3) := by decide +kernel
theorem dX8_add_23 : decode cX8_add 23 = .ok (.iload_n 1, 1) := by decide +kernel
theorem dX8_add_24 : decode cX8_add 24 = .ok (.iastore, 1) := by decide +kernel
theorem dX8_add_25 : decode cX8_add 25 = .ok (.aload_n 0, 1) := by decide +kernel
theorem dX8_add_26 : decode cX8_add 26 = .ok (.dup, 1) := by decide +kernel
theorem dX8_add_27 : decode cX8_add 27 = .ok (.getfield 46, 3) := by decide +kernel
theorem dX8_add_30 : decode cX8_add 30 = .ok (.iconst 1, 1) := by decide +kernel
theorem dX8_add_31 : decode cX8_add 31 = .ok (.iadd, 1) := by decide +kernel
theorem dX8_add_32 : decode cX8_add 32 = .ok (.putfield 46, 3) := by decide +kernel
theorem dX8_add_35 : decode cX8_add 35 = .ok (.aload_n 0, 1) := by decide +kernel
theorem dX8_add_36 : decode cX8_add 36 = .ok (.getfield 46, 3) := by decide +kernel
theorem dX8_add_39 : decode cX8_add 39 = .ok (.ireturn, 1) := by decide +kernel
theorem dX8_pursesTold_0 : decode cX8_pursesTold 0 = .ok (.aload_n 0, 1) := by decide +kernel
theorem dX8_pursesTold_1 : decode cX8_pursesTold 1 = .ok (.getfield 32, 3) := by decide +kernel
theorem dX8_pursesTold_4 : decode cX8_pursesTold 4 = .ok (.ifCond .eq 10, 3) := by decide +kernel
theorem dX8_pursesTold_7 : decode cX8_pursesTold 7 = .ok (.aload_n 0, 1) := by decide +kernel
theorem dX8_pursesTold_8 : decode cX8_pursesTold 8 = .ok (.getfield 46, 3) := by decide +kernel
theorem dX8_pursesTold_11 : decode cX8_pursesTold 11 = .ok (.goto 4, 3) := by decide +kernel
theorem dX8_pursesTold_14 : decode cX8_pursesTold 14 = .ok (.iconst 0, 1) := by decide +kernel
theorem dX8_pursesTold_15 : decode cX8_pursesTold 15 = .ok (.ireturn, 1) := by decide +kernel
set_option maxRecDepth 20000 in
theorem ggX8_follow_J7_fill_53178 : GoodIn wsX8_follow wsJ7_fill_53178 := goodIn_r _ [8] (by decide +kernel) (by decide +kernel)
set_option maxRecDepth 20000 in
theorem gX8_follow_J7_fill_53178 : GoodIn wsX8_follow (va_wsS RX8 49 yJ7_fill_53178 wsJ7_fill_53178) := goodIn_app (goodIn_of _ (by decide +kernel)) ggX8_follow_J7_fill_53178
set_option maxRecDepth 20000 in
theorem ggX8_follow_X7_placeOf : GoodIn wsX8_follow wsX7_placeOf := goodIn_r _ [12] (by decide +kernel) (by decide +kernel)
set_option maxRecDepth 20000 in
theorem gX8_follow_X7_placeOf : GoodIn wsX8_follow (va_wsS RX8 55 yX7_placeOf wsX7_placeOf) := goodIn_app (goodIn_of _ (by decide +kernel)) ggX8_follow_X7_placeOf
set_option maxRecDepth 20000 in
theorem ggX8_follow_X7_withoutPlace : GoodIn wsX8_follow wsX7_withoutPlace := goodIn_r _ [15] (by decide +kernel) (by decide +kernel)
set_option maxRecDepth 20000 in
theorem gX8_follow_X7_withoutPlace : GoodIn wsX8_follow (va_wsS RX8 59 yX7_withoutPlace wsX7_withoutPlace) := goodIn_app (goodIn_of _ (by decide +kernel)) ggX8_follow_X7_withoutPlace
set_option maxRecDepth 20000 in
theorem ggX8_follow_X8_followAct : GoodIn wsX8_follow wsX8_followAct := goodIn_r _ [20, 21, 1, 5, 6, 7, 8, 22, 23, 24, 25, 26, 27, 28, 29, 30, 31, 11, 32, 33, 34, 35, 36, 37, 38, 39, 40, 41, 42, 43, 44, 45, 46, 47, 48, 49, 50, 51, 52, 53, 54, 55, 56, 57, 58, 59, 60, 61, 62, 63, 13, 14, 15, 9, 10, 12, 64, 65, 66, 67, 68, 69, 70, 71, 72, 73, 74] (by decide +kernel) (by decide +kernel)
set_option maxRecDepth 20000 in
theorem gX8_follow_X8_followAct : GoodIn wsX8_follow (wsV RX8 62 RX8 yX8_followAct wsX8_followAct) := goodIn_app (goodIn_of _ (by decide +kernel)) ggX8_follow_X8_followAct
theorem dX8_follow_0 : decode cX8_follow 0 = .ok (.aload_n 0, 1) := by decide +kernel
theorem dX8_follow_1 : decode cX8_follow 1 = .ok (.getfield 17, 3) := by decide +kernel
theorem dX8_follow_4 : decode cX8_follow 4 = .ok (.iconst 0, 1) := by decide +kernel
theorem dX8_follow_5 : decode cX8_follow 5 = .ok (.invokestatic 49, 3) := by decide +kernel
theorem dX8_follow_8 : decode cX8_follow 8 = .ok (.aload_n 0, 1) := by decide +kernel
theorem dX8_follow_9 : decode cX8_follow 9 = .ok (.getfield 17, 3) := by decide +kernel
theorem dX8_follow_12 : decode cX8_follow 12 = .ok (.aload_n 0, 1) := by decide +kernel
theorem dX8_follow_13 : decode cX8_follow 13 = .ok (.getfield 43, 3) := by decide +kernel
theorem dX8_follow_16 : decode cX8_follow 16 = .ok (.invokestatic 55, 3) := by decide +kernel
theorem dX8_follow_19 : decode cX8_follow 19 = .ok (.iconst 1, 1) := by decide +kernel
theorem dX8_follow_20 : decode cX8_follow 20 = .ok (.iastore, 1) := by decide +kernel
theorem dX8_follow_21 : decode cX8_follow 21 = .ok (.aload_n 0, 1) := by decide +kernel
theorem dX8_follow_22 : decode cX8_follow 22 = .ok (.getfield 43, 3) := by decide +kernel
theorem dX8_follow_25 : decode cX8_follow 25 = .ok (.invokestatic 59, 3) := by decide +kernel
theorem dX8_follow_28 : decode cX8_follow 28 = .ok (.istore_n 2, 1) := by decide +kernel
theorem dX8_follow_29 : decode cX8_follow 29 = .ok (.iconst 0, 1) := by decide +kernel
theorem dX8_follow_30 : decode cX8_follow 30 = .ok (.istore_n 3, 1) := by decide +kernel
theorem dX8_follow_31 : decode cX8_follow 31 = .ok (.iload_n 3, 1) := by decide +kernel
theorem dX8_follow_32 : decode cX8_follow 32 = .ok (.aload_n 0, 1) := by decide +kernel
theorem dX8_follow_33 : decode cX8_follow 33 = .ok (.getfield 46, 3) := by decide +kernel
theorem dX8_follow_36 : decode cX8_follow 36 = .ok (.if_icmp .ge 28, 3) := by decide +kernel
theorem dX8_follow_39 : decode cX8_follow 39 = .ok (.aload_n 0, 1) := by decide +kernel
theorem dX8_follow_40 : decode cX8_follow 40 = .ok (.aload_n 1, 1) := by decide +kernel
theorem dX8_follow_41 : decode cX8_follow 41 = .ok (.iload_n 2, 1) := by decide +kernel
theorem dX8_follow_42 : decode cX8_follow 42 = .ok (.aload_n 0, 1) := by decide +kernel
theorem dX8_follow_43 : decode cX8_follow 43 = .ok (.getfield 9, 3) := by decide +kernel
theorem dX8_follow_46 : decode cX8_follow 46 = .ok (.iload_n 3, 1) := by decide +kernel
theorem dX8_follow_47 : decode cX8_follow 47 = .ok (.iaload, 1) := by decide +kernel
theorem dX8_follow_48 : decode cX8_follow 48 = .ok (.invokevirtual 62, 3) := by decide +kernel
theorem dX8_follow_51 : decode cX8_follow 51 = .ok (.aload_n 0, 1) := by decide +kernel
theorem dX8_follow_52 : decode cX8_follow 52 = .ok (.getfield 9, 3) := by decide +kernel
theorem dX8_follow_55 : decode cX8_follow 55 = .ok (.iload_n 3, 1) := by decide +kernel
theorem dX8_follow_56 : decode cX8_follow 56 = .ok (.iaload, 1) := by decide +kernel
theorem dX8_follow_57 : decode cX8_follow 57 = .ok (.istore_n 2, 1) := by decide +kernel
theorem dX8_follow_58 : decode cX8_follow 58 = .ok (.iinc 3 1, 3) := by decide +kernel
theorem dX8_follow_61 : decode cX8_follow 61 = .ok (.goto (-30), 3) := by decide +kernel
theorem dX8_follow_64 : decode cX8_follow 64 = .ok (.return_, 1) := by decide +kernel
theorem dX8_rows_0 : decode cX8_rows 0 = .ok (.iconst 0, 1) := by decide +kernel
theorem dX8_rows_1 : decode cX8_rows 1 = .ok (.istore_n 1, 1) := by decide +kernel
theorem dX8_rows_2 : decode cX8_rows 2 = .ok (.iconst 0, 1) := by decide +kernel
theorem dX8_rows_3 : decode cX8_rows 3 = .ok (.istore_n 2, 1) := by decide +kernel
theorem dX8_rows_4 : decode cX8_rows 4 = .ok (.iload_n 2, 1) := by decide +kernel
theorem dX8_rows_5 : decode cX8_rows 5 = .ok (.bipush 64, 2) := by decide +kernel
theorem dX8_rows_7 : decode cX8_rows 7 = .ok (.if_icmp .ge 18, 3) := by decide +kernel
theorem dX8_rows_10 : decode cX8_rows 10 = .ok (.iload_n 1, 1) := by decide +kernel
theorem dX8_rows_11 : decode cX8_rows 11 = .ok (.aload_n 0, 1) := by decide +kernel
theorem dX8_rows_12 : decode cX8_rows 12 = .ok (.getfield 17, 3) := by decide +kernel
theorem dX8_rows_15 : decode cX8_rows 15 = .ok (.iload_n 2, 1) := by decide +kernel
theorem dX8_rows_16 : decode cX8_rows 16 = .ok (.iaload, 1) := by decide +kernel
theorem dX8_rows_17 : decode cX8_rows 17 = .ok (.iadd, 1) := by decide +kernel
theorem dX8_rows_18 : decode cX8_rows 18 = .ok (.istore_n 1, 1) := by decide +kernel
theorem dX8_rows_19 : decode cX8_rows 19 = .ok (.iinc 2 1, 3) := by decide +kernel
theorem dX8_rows_22 : decode cX8_rows 22 = .ok (.goto (-18), 3) := by decide +kernel
theorem dX8_rows_25 : decode cX8_rows 25 = .ok (.iload_n 1, 1) := by decide +kernel
theorem dX8_rows_26 : decode cX8_rows 26 = .ok (.ireturn, 1) := by decide +kernel
set_option maxRecDepth 20000 in
theorem ggX8_towns_X7_townOf : GoodIn wsX8_towns wsX7_townOf := goodIn_r _ [5] (by decide +kernel) (by decide +kernel)
set_option maxRecDepth 20000 in
theorem gX8_towns_X7_townOf : GoodIn wsX8_towns (va_wsS RX8 66 yX7_townOf wsX7_townOf) := goodIn_app (goodIn_of _ (by decide +kernel)) ggX8_towns_X7_townOf
theorem dX8_towns_0 : decode cX8_towns 0 = .ok (.iconst 0, 1) := by decide +kernel
theorem dX8_towns_1 : decode cX8_towns 1 = .ok (.istore_n 1, 1) := by decide +kernel
theorem dX8_towns_2 : decode cX8_towns 2 = .ok (.iconst 0, 1) := by decide +kernel
theorem dX8_towns_3 : decode cX8_towns 3 = .ok (.istore_n 2, 1) := by decide +kernel
theorem dX8_towns_4 : decode cX8_towns 4 = .ok (.iload_n 2, 1) := by decide +kernel
theorem dX8_towns_5 : decode cX8_towns 5 = .ok (.bipush 64, 2) := by decide +kernel
theorem dX8_towns_7 : decode cX8_towns 7 = .ok (.if_icmp .ge 27, 3) := by decide +kernel
theorem dX8_towns_10 : decode cX8_towns 10 = .ok (.aload_n 0, 1) := by decide +kernel
theorem dX8_towns_11 : decode cX8_towns 11 = .ok (.getfield 17, 3) := by decide +kernel
theorem dX8_towns_14 : decode cX8_towns 14 = .ok (.iload_n 2, 1) := by decide +kernel
theorem dX8_towns_15 : decode cX8_towns 15 = .ok (.iaload, 1) := by decide +kernel
theorem dX8_towns_16 : decode cX8_towns 16 = .ok (.ifCond .le 12, 3) := by decide +kernel
theorem dX8_towns_19 : decode cX8_towns 19 = .ok (.iload_n 1, 1) := by decide +kernel
theorem dX8_towns_20 : decode cX8_towns 20 = .ok (.iconst 1, 1) := by decide +kernel
theorem dX8_towns_21 : decode cX8_towns 21 = .ok (.iload_n 2, 1) := by decide +kernel
theorem dX8_towns_22 : decode cX8_towns 22 = .ok (.invokestatic 66, 3) := by decide +kernel
theorem dX8_towns_25 : decode cX8_towns 25 = .ok (.ishl, 1) := by decide +kernel
theorem dX8_towns_26 : decode cX8_towns 26 = .ok (.ior, 1) := by decide +kernel
theorem dX8_towns_27 : decode cX8_towns 27 = .ok (.istore_n 1, 1) := by decide +kernel
theorem dX8_towns_28 : decode cX8_towns 28 = .ok (.iinc 2 1, 3) := by decide +kernel
theorem dX8_towns_31 : decode cX8_towns 31 = .ok (.goto (-27), 3) := by decide +kernel
theorem dX8_towns_34 : decode cX8_towns 34 = .ok (.iload_n 1, 1) := by decide +kernel
theorem dX8_towns_35 : decode cX8_towns 35 = .ok (.ireturn, 1) := by decide +kernel
set_option maxRecDepth 20000 in
theorem ggX8_followAct_J7_fill_53178 : GoodIn wsX8_followAct wsJ7_fill_53178 := goodIn_r _ [6] (by decide +kernel) (by decide +kernel)
set_option maxRecDepth 20000 in
theorem gX8_followAct_J7_fill_53178 : GoodIn wsX8_followAct (va_wsS RX8 49 yJ7_fill_53178 wsJ7_fill_53178) := goodIn_app (goodIn_of _ (by decide +kernel)) ggX8_followAct_J7_fill_53178
set_option maxRecDepth 20000 in
theorem ggX8_followAct_X0_after : GoodIn wsX8_followAct wsX0_after := goodIn_r _ [11, 12, 13, 10, 14, 15, 16, 17, 18, 19, 20, 21, 22, 23, 24, 25, 26, 27, 28, 29, 30, 31, 32, 33, 34, 35, 36, 37, 38, 39, 40, 41, 42, 43, 44, 45, 46, 47, 48, 49, 63, 64, 65, 66] (by decide +kernel) (by decide +kernel)
set_option maxRecDepth 20000 in
theorem gX8_followAct_X0_after : GoodIn wsX8_followAct (wsV RX8 74 RX0 yX0_after wsX0_after) := goodIn_app (goodIn_of _ (by decide +kernel)) ggX8_followAct_X0_after
set_option maxRecDepth 20000 in
theorem ggX8_followAct_X7_withoutPlace : GoodIn wsX8_followAct wsX7_withoutPlace := goodIn_r _ [52] (by decide +kernel) (by decide +kernel)
set_option maxRecDepth 20000 in
theorem gX8_followAct_X7_withoutPlace : GoodIn wsX8_followAct (va_wsS RX8 59 yX7_withoutPlace wsX7_withoutPlace) := goodIn_app (goodIn_of _ (by decide +kernel)) ggX8_followAct_X7_withoutPlace
set_option maxRecDepth 20000 in
theorem ggX8_followAct_X7_placeOf : GoodIn wsX8_followAct wsX7_placeOf := goodIn_r _ [55] (by decide +kernel) (by decide +kernel)
set_option maxRecDepth 20000 in
theorem gX8_followAct_X7_placeOf : GoodIn wsX8_followAct (va_wsS RX8 55 yX7_placeOf wsX7_placeOf) := goodIn_app (goodIn_of _ (by decide +kernel)) ggX8_followAct_X7_placeOf
theorem dX8_followAct_0 : decode cX8_followAct 0 = .ok (.aload_n 0, 1) := by decide +kernel
theorem dX8_followAct_1 : decode cX8_followAct 1 = .ok (.getfield 20, 3) := by decide +kernel
theorem dX8_followAct_4 : decode cX8_followAct 4 = .ok (.iconst 0, 1) := by decide +kernel
theorem dX8_followAct_5 : decode cX8_followAct 5 = .ok (.invokestatic 49, 3) := by decide +kernel
theorem dX8_followAct_8 : decode cX8_followAct 8 = .ok (.iconst 0, 1) := by decide +kernel
theorem dX8_followAct_9 : decode cX8_followAct 9 = .ok (.istore 4, 2) := by decide +kernel
theorem dX8_followAct_11 : decode cX8_followAct 11 = .ok (.iload 4, 2) := by decide +kernel
theorem dX8_followAct_13 : decode cX8_followAct 13 = .ok (.bipush 64, 2) := by decide +kernel
theorem dX8_followAct_15 : decode cX8_followAct 15 = .ok (.if_icmp .ge 103, 3) := by decide +kernel
theorem dX8_followAct_18 : decode cX8_followAct 18 = .ok (.getstatic 69, 3) := by decide +kernel
theorem dX8_followAct_21 : decode cX8_followAct 21 = .ok (.astore 5, 2) := by decide +kernel
theorem dX8_followAct_23 : decode cX8_followAct 23 = .ok (.aload 5, 2) := by decide +kernel
theorem dX8_followAct_25 : decode cX8_followAct 25 = .ok (.arraylength, 1) := by decide +kernel
theorem dX8_followAct_26 : decode cX8_followAct 26 = .ok (.istore 6, 2) := by decide +kernel
theorem dX8_followAct_28 : decode cX8_followAct 28 = .ok (.iconst 0, 1) := by decide +kernel
theorem dX8_followAct_29 : decode cX8_followAct 29 = .ok (.istore 7, 2) := by decide +kernel
theorem dX8_followAct_31 : decode cX8_followAct 31 = .ok (.iload 7, 2) := by decide +kernel
theorem dX8_followAct_33 : decode cX8_followAct 33 = .ok (.iload 6, 2) := by decide +kernel
theorem dX8_followAct_35 : decode cX8_followAct 35 = .ok (.if_icmp .ge 77, 3) := by decide +kernel
theorem dX8_followAct_38 : decode cX8_followAct 38 = .ok (.aload 5, 2) := by decide +kernel
theorem dX8_followAct_40 : decode cX8_followAct 40 = .ok (.iload 7, 2) := by decide +kernel
theorem dX8_followAct_42 : decode cX8_followAct 42 = .ok (.iaload, 1) := by decide +kernel
theorem dX8_followAct_43 : decode cX8_followAct 43 = .ok (.istore 8, 2) := by decide +kernel
theorem dX8_followAct_45 : decode cX8_followAct 45 = .ok (.aload_n 0, 1) := by decide +kernel
theorem dX8_followAct_46 : decode cX8_followAct 46 = .ok (.getfield 17, 3) := by decide +kernel
theorem dX8_followAct_49 : decode cX8_followAct 49 = .ok (.iload 4, 2) := by decide +kernel
theorem dX8_followAct_51 : decode cX8_followAct 51 = .ok (.iaload, 1) := by decide +kernel
theorem dX8_followAct_52 : decode cX8_followAct 52 = .ok (.ifCond .ne 7, 3) := by decide +kernel
theorem dX8_followAct_55 : decode cX8_followAct 55 = .ok (.iconst (-1), 1) := by decide +kernel
theorem dX8_followAct_56 : decode cX8_followAct 56 = .ok (.goto 13, 3) := by decide +kernel
theorem dX8_followAct_59 : decode cX8_followAct 59 = .ok (.aload_n 1, 1) := by decide +kernel
theorem dX8_followAct_60 : decode cX8_followAct 60 = .ok (.iload_n 2, 1) := by decide +kernel
theorem dX8_followAct_61 : decode cX8_followAct 61 = .ok (.iload 4, 2) := by decide +kernel
theorem dX8_followAct_63 : decode cX8_followAct 63 = .ok (.ior, 1) := by decide +kernel
theorem dX8_followAct_64 : decode cX8_followAct 64 = .ok (.iload 8, 2) := by decide +kernel
theorem dX8_followAct_66 : decode cX8_followAct 66 = .ok (.invokevirtual 74, 3) := by decide +kernel
theorem dX8_followAct_69 : decode cX8_followAct 69 = .ok (.istore 9, 2) := by decide +kernel
theorem dX8_followAct_71 : decode cX8_followAct 71 = .ok (.iload 9, 2) := by decide +kernel
theorem dX8_followAct_73 : decode cX8_followAct 73 = .ok (.iconst (-1), 1) := by decide +kernel
theorem dX8_followAct_74 : decode cX8_followAct 74 = .ok (.if_icmp .eq 32, 3) := by decide +kernel
theorem dX8_followAct_77 : decode cX8_followAct 77 = .ok (.iload 9, 2) := by decide +kernel
theorem dX8_followAct_79 : decode cX8_followAct 79 = .ok (.invokestatic 59, 3) := by decide +kernel
theorem dX8_followAct_82 : decode cX8_followAct 82 = .ok (.iload_n 3, 1) := by decide +kernel
theorem dX8_followAct_83 : decode cX8_followAct 83 = .ok (.if_icmp .ne 23, 3) := by decide +kernel
theorem dX8_followAct_86 : decode cX8_followAct 86 = .ok (.aload_n 0, 1) := by decide +kernel
theorem dX8_followAct_87 : decode cX8_followAct 87 = .ok (.getfield 20, 3) := by decide +kernel
theorem dX8_followAct_90 : decode cX8_followAct 90 = .ok (.iload 9, 2) := by decide +kernel
theorem dX8_followAct_92 : decode cX8_followAct 92 = .ok (.invokestatic 55, 3) := by decide +kernel
theorem dX8_followAct_95 : decode cX8_followAct 95 = .ok (.dup2, 1) := by decide +kernel
theorem dX8_followAct_96 : decode cX8_followAct 96 = .ok (.iaload, 1) := by decide +kernel
theorem dX8_followAct_97 : decode cX8_followAct 97 = .ok (.aload_n 0, 1) := by decide +kernel
theorem dX8_followAct_98 : decode cX8_followAct 98 = .ok (.getfield 17, 3) := by decide +kernel
theorem dX8_followAct_101 : decode cX8_followAct 101 = .ok (.iload 4, 2) := by decide +kernel
theorem dX8_followAct_103 : decode cX8_followAct 103 = .ok (.iaload, 1) := by decide +kernel
theorem dX8_followAct_104 : decode cX8_followAct 104 = .ok (.iadd, 1) := by decide +kernel
theorem dX8_followAct_105 : decode cX8_followAct 105 = .ok (.iastore, 1) := by decide +kernel
theorem dX8_followAct_106 : decode cX8_followAct 106 = .ok (.iinc 7 1, 3) := by decide +kernel
theorem dX8_followAct_109 : decode cX8_followAct 109 = .ok (.goto (-78), 3) := by decide +kernel
theorem dX8_followAct_112 : decode cX8_followAct 112 = .ok (.iinc 4 1, 3) := by decide +kernel
theorem dX8_followAct_115 : decode cX8_followAct 115 = .ok (.goto (-104), 3) := by decide +kernel
theorem dX8_followAct_118 : decode cX8_followAct 118 = .ok (.aload_n 0, 1) := by decide +kernel
theorem dX8_followAct_119 : decode cX8_followAct 119 = .ok (.getfield 17, 3) := by decide +kernel
theorem dX8_followAct_122 : decode cX8_followAct 122 = .ok (.astore 4, 2) := by decide +kernel
theorem dX8_followAct_124 : decode cX8_followAct 124 = .ok (.aload_n 0, 1) := by decide +kernel
theorem dX8_followAct_125 : decode cX8_followAct 125 = .ok (.aload_n 0, 1) := by decide +kernel
theorem dX8_followAct_126 : decode cX8_followAct 126 = .ok (.getfield 20, 3) := by decide +kernel
theorem dX8_followAct_129 : decode cX8_followAct 129 = .ok (.putfield 17, 3) := by decide +kernel
theorem dX8_followAct_132 : decode cX8_followAct 132 = .ok (.aload_n 0, 1) := by decide +kernel
theorem dX8_followAct_133 : decode cX8_followAct 133 = .ok (.aload 4, 2) := by decide +kernel
theorem dX8_followAct_135 : decode cX8_followAct 135 = .ok (.putfield 20, 3) := by decide +kernel
theorem dX8_followAct_138 : decode cX8_followAct 138 = .ok (.return_, 1) := by decide +kernel
