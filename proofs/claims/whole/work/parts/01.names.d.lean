theorem dX7_at_31 : decode cX7_at 31 = .ok (.ireturn, 1) := by decide +kernel
theorem dX7_empty_0 : decode cX7_empty 0 = .ok (.aload_n 0, 1) := by decide +kernel
theorem dX7_empty_1 : decode cX7_empty 1 = .ok (.iconst 0, 1) := by decide +kernel
theorem dX7_empty_2 : decode cX7_empty 2 = .ok (.putfield 15, 3) := by decide +kernel
theorem dX7_empty_5 : decode cX7_empty 5 = .ok (.return_, 1) := by decide +kernel
theorem dX8_init_0 : decode cX8_init 0 = .ok (.aload_n 0, 1) := by decide +kernel
theorem dX8_init_1 : decode cX8_init 1 = .ok (.invokespecial 3, 3) := by decide +kernel
theorem dX8_init_4 : decode cX8_init 4 = .ok (.aload_n 0, 1) := by decide +kernel
theorem dX8_init_5 : decode cX8_init 5 = .ok (.iload_n 1, 1) := by decide +kernel
theorem dX8_init_6 : decode cX8_init 6 = .ok (.putfield 9, 3) := by decide +kernel
theorem dX8_init_9 : decode cX8_init 9 = .ok (.return_, 1) := by decide +kernel
set_option maxRecDepth 20000 in
theorem ggX8_renew_X8_becomeFree : GoodIn wsX8_renew wsX8_becomeFree := goodIn_r _ [8, 9, 10, 11, 12, 13, 14, 15, 16, 17, 18, 19, 20] (by decide +kernel) (by decide +kernel)
set_option maxRecDepth 20000 in
theorem gX8_renew_X8_becomeFree : GoodIn wsX8_renew (wsV RX8 15 RX8 yX8_becomeFree wsX8_becomeFree) := goodIn_app (goodIn_of _ (by decide +kernel)) ggX8_renew_X8_becomeFree
theorem dX8_renew_0 : decode cX8_renew 0 = .ok (.aload_n 0, 1) := by decide +kernel
theorem dX8_renew_1 : decode cX8_renew 1 = .ok (.invokevirtual 15, 3) := by decide +kernel
theorem dX8_renew_4 : decode cX8_renew 4 = .ok (.aload_n 0, 1) := by decide +kernel
theorem dX8_renew_5 : decode cX8_renew 5 = .ok (.iconst 0, 1) := by decide +kernel
theorem dX8_renew_6 : decode cX8_renew 6 = .ok (.putfield 18, 3) := by decide +kernel
theorem dX8_renew_9 : decode cX8_renew 9 = .ok (.aload_n 0, 1) := by decide +kernel
theorem dX8_renew_10 : decode cX8_renew 10 = .ok (.iconst 0, 1) := by decide +kernel
theorem dX8_renew_11 : decode cX8_renew 11 = .ok (.putfield 21, 3) := by decide +kernel
theorem dX8_renew_14 : decode cX8_renew 14 = .ok (.aload_n 0, 1) := by decide +kernel
theorem dX8_renew_15 : decode cX8_renew 15 = .ok (.iconst 0, 1) := by decide +kernel
theorem dX8_renew_16 : decode cX8_renew 16 = .ok (.putfield 24, 3) := by decide +kernel
theorem dX8_renew_19 : decode cX8_renew 19 = .ok (.return_, 1) := by decide +kernel
theorem dX8_becomeFree_0 : decode cX8_becomeFree 0 = .ok (.aload_n 0, 1) := by decide +kernel
theorem dX8_becomeFree_1 : decode cX8_becomeFree 1 = .ok (.iconst 0, 1) := by decide +kernel
theorem dX8_becomeFree_2 : decode cX8_becomeFree 2 = .ok (.putfield 28, 3) := by decide +kernel
theorem dX8_becomeFree_5 : decode cX8_becomeFree 5 = .ok (.aload_n 0, 1) := by decide +kernel
theorem dX8_becomeFree_6 : decode cX8_becomeFree 6 = .ok (.iconst (-1), 1) := by decide +kernel
theorem dX8_becomeFree_7 : decode cX8_becomeFree 7 = .ok (.putfield 31, 3) := by decide +kernel
theorem dX8_becomeFree_10 : decode cX8_becomeFree 10 = .ok (.aload_n 0, 1) := by decide +kernel
theorem dX8_becomeFree_11 : decode cX8_becomeFree 11 = .ok (.iconst (-1), 1) := by decide +kernel
theorem dX8_becomeFree_12 : decode cX8_becomeFree 12 = .ok (.putfield 34, 3) := by decide +kernel
theorem dX8_becomeFree_15 : decode cX8_becomeFree 15 = .ok (.aload_n 0, 1) := by decide +kernel
theorem dX8_becomeFree_16 : decode cX8_becomeFree 16 = .ok (.iconst 0, 1) := by decide +kernel
theorem dX8_becomeFree_17 : decode cX8_becomeFree 17 = .ok (.putfield 37, 3) := by decide +kernel
theorem dX8_becomeFree_20 : decode cX8_becomeFree 20 = .ok (.return_, 1) := by decide +kernel
theorem dX8_choose_0 : decode cX8_choose 0 = .ok (.aload_n 0, 1) := by decide +kernel
theorem dX8_choose_1 : decode cX8_choose 1 = .ok (.iload_n 1, 1) := by decide +kernel
theorem dX8_choose_2 : decode cX8_choose 2 = .ok (.putfield 31, 3) := by decide +kernel
theorem dX8_choose_5 : decode cX8_choose 5 = .ok (.aload_n 0, 1) := by decide +kernel
theorem dX8_choose_6 : decode cX8_choose 6 = .ok (.iload_n 2, 1) := by decide +kernel
theorem dX8_choose_7 : decode cX8_choose 7 = .ok (.putfield 37, 3) := by decide +kernel
theorem dX8_choose_10 : decode cX8_choose 10 = .ok (.return_, 1) := by decide +kernel
theorem dX8_waitInLine_0 : decode cX8_waitInLine 0 = .ok (.aload_n 0, 1) := by decide +kernel
theorem dX8_waitInLine_1 : decode cX8_waitInLine 1 = .ok (.iconst 1, 1) := by decide +kernel
theorem dX8_waitInLine_2 : decode cX8_waitInLine 2 = .ok (.putfield 28, 3) := by decide +kernel
theorem dX8_waitInLine_5 : decode cX8_waitInLine 5 = .ok (.return_, 1) := by decide +kernel
theorem dX8_startWork_0 : decode cX8_startWork 0 = .ok (.aload_n 0, 1) := by decide +kernel
theorem dX8_startWork_1 : decode cX8_startWork 1 = .ok (.iconst 2, 1) := by decide +kernel
theorem dX8_startWork_2 : decode cX8_startWork 2 = .ok (.putfield 28, 3) := by decide +kernel
theorem dX8_startWork_5 : decode cX8_startWork 5 = .ok (.aload_n 0, 1) := by decide +kernel
theorem dX8_startWork_6 : decode cX8_startWork 6 = .ok (.iconst 0, 1) := by decide +kernel
theorem dX8_startWork_7 : decode cX8_startWork 7 = .ok (.putfield 34, 3) := by decide +kernel
theorem dX8_startWork_10 : decode cX8_startWork 10 = .ok (.return_, 1) := by decide +kernel
theorem dX8_holdPack_0 : decode cX8_holdPack 0 = .ok (.aload_n 0, 1) := by decide +kernel
theorem dX8_holdPack_1 : decode cX8_holdPack 1 = .ok (.iconst 3, 1) := by decide +kernel
theorem dX8_holdPack_2 : decode cX8_holdPack 2 = .ok (.putfield 28, 3) := by decide +kernel
theorem dX8_holdPack_5 : decode cX8_holdPack 5 = .ok (.aload_n 0, 1) := by decide +kernel
theorem dX8_holdPack_6 : decode cX8_holdPack 6 = .ok (.iconst (-1), 1) := by decide +kernel
theorem dX8_holdPack_7 : decode cX8_holdPack 7 = .ok (.putfield 34, 3) := by decide +kernel
theorem dX8_holdPack_10 : decode cX8_holdPack 10 = .ok (.aload_n 0, 1) := by decide +kernel
theorem dX8_holdPack_11 : decode cX8_holdPack 11 = .ok (.dup, 1) := by decide +kernel
theorem dX8_holdPack_12 : decode cX8_holdPack 12 = .ok (.getfield 18, 3) := by decide +kernel
theorem dX8_holdPack_15 : decode cX8_holdPack 15 = .ok (.iconst 1, 1) := by decide +kernel
theorem dX8_holdPack_16 : decode cX8_holdPack 16 = .ok (.iadd, 1) := by decide +kernel
theorem dX8_holdPack_17 : decode cX8_holdPack 17 = .ok (.putfield 18, 3) := by decide +kernel
theorem dX8_holdPack_20 : decode cX8_holdPack 20 = .ok (.return_, 1) := by decide +kernel
set_option maxRecDepth 20000 in
theorem ggX8_end_X8_becomeFree : GoodIn wsX8_end wsX8_becomeFree := goodIn_r _ [7, 1, 8, 9, 10, 11, 12, 13, 14, 15, 16, 17, 18] (by decide +kernel) (by decide +kernel)
set_option maxRecDepth 20000 in
theorem gX8_end_X8_becomeFree : GoodIn wsX8_end (wsV RX8 15 RX8 yX8_becomeFree wsX8_becomeFree) := goodIn_app (goodIn_of _ (by decide +kernel)) ggX8_end_X8_becomeFree
theorem dX8_end_0 : decode cX8_end 0 = .ok (.aload_n 0, 1) := by decide +kernel
theorem dX8_end_1 : decode cX8_end 1 = .ok (.invokevirtual 15, 3) := by decide +kernel
theorem dX8_end_4 : decode cX8_end 4 = .ok (.aload_n 0, 1) := by decide +kernel
theorem dX8_end_5 : decode cX8_end 5 = .ok (.iconst 4, 1) := by decide +kernel
theorem dX8_end_6 : decode cX8_end 6 = .ok (.putfield 28, 3) := by decide +kernel
theorem dX8_end_9 : decode cX8_end 9 = .ok (.aload_n 0, 1) := by decide +kernel
theorem dX8_end_10 : decode cX8_end 10 = .ok (.dup, 1) := by decide +kernel
theorem dX8_end_11 : decode cX8_end 11 = .ok (.getfield 21, 3) := by decide +kernel
theorem dX8_end_14 : decode cX8_end 14 = .ok (.iconst 1, 1) := by decide +kernel
theorem dX8_end_15 : decode cX8_end 15 = .ok (.iadd, 1) := by decide +kernel
theorem dX8_end_16 : decode cX8_end 16 = .ok (.putfield 21, 3) := by decide +kernel
theorem dX8_end_19 : decode cX8_end 19 = .ok (.return_, 1) := by decide +kernel
set_option maxRecDepth 20000 in
theorem ggX9_init_X7_init : GoodIn wsX9_init wsX7_init := goodIn_r _ [26, 27, 2, 3, 28, 29, 94, 95] (by decide +kernel) (by decide +kernel)
set_option maxRecDepth 20000 in
theorem gX9_init_X7_init_n11 : GoodIn wsX9_init (wsX7_init) := ggX9_init_X7_init
set_option maxRecDepth 20000 in
theorem ggX9_init_X5_init : GoodIn wsX9_init wsX5_init := goodIn_r _ [31, 32, 2, 3, 33, 34, 35, 36, 102, 103, 104, 105] (by decide +kernel) (by decide +kernel)
set_option maxRecDepth 20000 in
theorem gX9_init_X5_init_n18 : GoodIn wsX9_init (wsX5_init) := ggX9_init_X5_init
set_option maxRecDepth 20000 in
theorem ggX9_init_X3_init : GoodIn wsX9_init wsX3_init := goodIn_r _ [38, 39, 2, 3, 28, 40, 41, 42, 43, 106, 107, 108] (by decide +kernel) (by decide +kernel)
set_option maxRecDepth 20000 in
theorem gX9_init_X3_init_n25 : GoodIn wsX9_init (wsX3_init) := ggX9_init_X3_init
set_option maxRecDepth 20000 in
theorem ggX9_init_X2_init : GoodIn wsX9_init wsX2_init := goodIn_r _ [46, 47, 2, 3, 28, 48, 49, 50, 51, 52, 109, 110, 111, 112, 113, 114, 115, 116, 117] (by decide +kernel) (by decide +kernel)
set_option maxRecDepth 20000 in
theorem gX9_init_X2_init : GoodIn wsX9_init (wsX2_init) := ggX9_init_X2_init
set_option maxRecDepth 20000 in
theorem ggX9_init_X6_init : GoodIn wsX9_init wsX6_init := goodIn_r _ [55, 56, 2, 3, 57, 58, 59, 60, 61, 62, 63, 64, 65, 66, 67, 68, 69, 70, 71, 72, 73, 74, 75, 76, 77, 78, 79, 80, 81, 82, 42, 83, 84, 85, 86, 87, 28, 88, 89, 90, 91, 92, 93, 118, 119, 120, 121, 122, 123, 124, 125, 126, 127, 128, 129, 130, 131, 132, 133, 134, 135, 136, 137, 138, 139, 140, 141, 142, 143, 144, 145, 146, 147, 148] (by decide +kernel) (by decide +kernel)
set_option maxRecDepth 20000 in
theorem gX9_init_X6_init : GoodIn wsX9_init (wsX6_init) := ggX9_init_X6_init
theorem dX9_init_0 : decode cX9_init 0 = .ok (.aload_n 0, 1) := by decide +kernel
theorem dX9_init_1 : decode cX9_init 1 = .ok (.invokespecial 3, 3) := by decide +kernel
theorem dX9_init_4 : decode cX9_init 4 = .ok (.aload_n 0, 1) := by decide +kernel
theorem dX9_init_5 : decode cX9_init 5 = .ok (.new 9, 3) := by decide +kernel
theorem dX9_init_8 : decode cX9_init 8 = .ok (.dup, 1) := by decide +kernel
theorem dX9_init_9 : decode cX9_init 9 = .ok (.invokespecial 11, 3) := by decide +kernel
theorem dX9_init_12 : decode cX9_init 12 = .ok (.putfield 12, 3) := by decide +kernel
theorem dX9_init_15 : decode cX9_init 15 = .ok (.aload_n 0, 1) := by decide +kernel
theorem dX9_init_16 : decode cX9_init 16 = .ok (.new 16, 3) := by decide +kernel
theorem dX9_init_19 : decode cX9_init 19 = .ok (.dup, 1) := by decide +kernel
theorem dX9_init_20 : decode cX9_init 20 = .ok (.invokespecial 18, 3) := by decide +kernel
theorem dX9_init_23 : decode cX9_init 23 = .ok (.putfield 19, 3) := by decide +kernel
theorem dX9_init_26 : decode cX9_init 26 = .ok (.aload_n 0, 1) := by decide +kernel
theorem dX9_init_27 : decode cX9_init 27 = .ok (.new 23, 3) := by decide +kernel
theorem dX9_init_30 : decode cX9_init 30 = .ok (.dup, 1) := by decide +kernel
theorem dX9_init_31 : decode cX9_init 31 = .ok (.invokespecial 25, 3) := by decide +kernel
theorem dX9_init_34 : decode cX9_init 34 = .ok (.putfield 26, 3) := by decide +kernel
theorem dX9_init_37 : decode cX9_init 37 = .ok (.aload_n 0, 1) := by decide +kernel
theorem dX9_init_38 : decode cX9_init 38 = .ok (.new 30, 3) := by decide +kernel
theorem dX9_init_41 : decode cX9_init 41 = .ok (.dup, 1) := by decide +kernel
theorem dX9_init_42 : decode cX9_init 42 = .ok (.aload_n 0, 1) := by decide +kernel
theorem dX9_init_43 : decode cX9_init 43 = .ok (.getfield 12, 3) := by decide +kernel
theorem dX9_init_46 : decode cX9_init 46 = .ok (.aload_n 0, 1) := by decide +kernel
theorem dX9_init_47 : decode cX9_init 47 = .ok (.getfield 19, 3) := by decide +kernel
theorem dX9_init_50 : decode cX9_init 50 = .ok (.invokespecial 32, 3) := by decide +kernel
theorem dX9_init_53 : decode cX9_init 53 = .ok (.putfield 35, 3) := by decide +kernel
theorem dX9_init_56 : decode cX9_init 56 = .ok (.aload_n 0, 1) := by decide +kernel
theorem dX9_init_57 : decode cX9_init 57 = .ok (.new 39, 3) := by decide +kernel
theorem dX9_init_60 : decode cX9_init 60 = .ok (.dup, 1) := by decide +kernel
theorem dX9_init_61 : decode cX9_init 61 = .ok (.aload_n 0, 1) := by decide +kernel
theorem dX9_init_62 : decode cX9_init 62 = .ok (.getfield 35, 3) := by decide +kernel
theorem dX9_init_65 : decode cX9_init 65 = .ok (.aload_n 0, 1) := by decide +kernel
theorem dX9_init_66 : decode cX9_init 66 = .ok (.getfield 26, 3) := by decide +kernel
theorem dX9_init_69 : decode cX9_init 69 = .ok (.invokespecial 41, 3) := by decide +kernel
theorem dX9_init_72 : decode cX9_init 72 = .ok (.putfield 44, 3) := by decide +kernel
theorem dX9_init_75 : decode cX9_init 75 = .ok (.aload_n 0, 1) := by decide +kernel
theorem dX9_init_76 : decode cX9_init 76 = .ok (.iconst 0, 1) := by decide +kernel
theorem dX9_init_77 : decode cX9_init 77 = .ok (.putfield 48, 3) := by decide +kernel
theorem dX9_init_80 : decode cX9_init 80 = .ok (.return_, 1) := by decide +kernel
set_option maxRecDepth 20000 in
theorem ggX9_type_X7_isFull : GoodIn wsX9_type wsX7_isFull := goodIn_r _ [8, 9, 10, 31, 32] (by decide +kernel) (by decide +kernel)
set_option maxRecDepth 20000 in
theorem gX9_type_X7_isFull : GoodIn wsX9_type (wsV RX9 52 RX7 yX7_isFull wsX7_isFull) := goodIn_app (goodIn_of _ (by decide +kernel)) ggX9_type_X7_isFull
set_option maxRecDepth 20000 in
theorem ggX9_type_X7_add : GoodIn wsX9_type wsX7_add := goodIn_r _ [14, 9, 10, 31, 32] (by decide +kernel) (by decide +kernel)
set_option maxRecDepth 20000 in
theorem gX9_type_X7_add : GoodIn wsX9_type (wsV RX9 56 RX7 yX7_add wsX7_add) := goodIn_app (goodIn_of _ (by decide +kernel)) ggX9_type_X7_add
set_option maxRecDepth 20000 in
theorem ggX9_type_X2_forget : GoodIn wsX9_type wsX2_forget := goodIn_r _ [19, 20, 33, 34, 35, 36, 37, 38, 39, 40, 41] (by decide +kernel) (by decide +kernel)
set_option maxRecDepth 20000 in
theorem gX9_type_X2_forget : GoodIn wsX9_type (wsV RX9 60 RX2 yX2_forget wsX2_forget) := goodIn_app (goodIn_of _ (by decide +kernel)) ggX9_type_X2_forget
set_option maxRecDepth 20000 in
theorem ggX9_type_X7_length : GoodIn wsX9_type wsX7_length := goodIn_r _ [24, 9, 31, 32] (by decide +kernel) (by decide +kernel)
set_option maxRecDepth 20000 in
theorem gX9_type_X7_length : GoodIn wsX9_type (wsV RX9 63 RX7 yX7_length wsX7_length) := goodIn_app (goodIn_of _ (by decide +kernel)) ggX9_type_X7_length
theorem dX9_type_0 : decode cX9_type 0 = .ok (.iload_n 1, 1) := by decide +kernel
theorem dX9_type_1 : decode cX9_type 1 = .ok (.ifCond .lt 10, 3) := by decide +kernel
theorem dX9_type_4 : decode cX9_type 4 = .ok (.iload_n 1, 1) := by decide +kernel
theorem dX9_type_5 : decode cX9_type 5 = .ok (.sipush 255, 3) := by decide +kernel
theorem dX9_type_8 : decode cX9_type 8 = .ok (.if_icmp .le 6, 3) := by decide +kernel
theorem dX9_type_11 : decode cX9_type 11 = .ok (.bipush (-2), 2) := by decide +kernel
theorem dX9_type_13 : decode cX9_type 13 = .ok (.ireturn, 1) := by decide +kernel
theorem dX9_type_14 : decode cX9_type 14 = .ok (.aload_n 0, 1) := by decide +kernel
theorem dX9_type_15 : decode cX9_type 15 = .ok (.getfield 48, 3) := by decide +kernel
theorem dX9_type_18 : decode cX9_type 18 = .ok (.ifCond .eq 6, 3) := by decide +kernel
theorem dX9_type_21 : decode cX9_type 21 = .ok (.bipush (-3), 2) := by decide +kernel
theorem dX9_type_23 : decode cX9_type 23 = .ok (.ireturn, 1) := by decide +kernel
theorem dX9_type_24 : decode cX9_type 24 = .ok (.aload_n 0, 1) := by decide +kernel
theorem dX9_type_25 : decode cX9_type 25 = .ok (.getfield 12, 3) := by decide +kernel
theorem dX9_type_28 : decode cX9_type 28 = .ok (.invokevirtual 52, 3) := by decide +kernel
theorem dX9_type_31 : decode cX9_type 31 = .ok (.ifCond .eq 6, 3) := by decide +kernel
theorem dX9_type_34 : decode cX9_type 34 = .ok (.bipush (-4), 2) := by decide +kernel
theorem dX9_type_36 : decode cX9_type 36 = .ok (.ireturn, 1) := by decide +kernel
theorem dX9_type_37 : decode cX9_type 37 = .ok (.aload_n 0, 1) := by decide +kernel
theorem dX9_type_38 : decode cX9_type 38 = .ok (.getfield 12, 3) := by decide +kernel
theorem dX9_type_41 : decode cX9_type 41 = .ok (.iload_n 1, 1) := by decide +kernel
theorem dX9_type_42 : decode cX9_type 42 = .ok (.invokevirtual 56, 3) := by decide +kernel
theorem dX9_type_45 : decode cX9_type 45 = .ok (.aload_n 0, 1) := by decide +kernel
theorem dX9_type_46 : decode cX9_type 46 = .ok (.getfield 35, 3) := by decide +kernel
theorem dX9_type_49 : decode cX9_type 49 = .ok (.invokevirtual 60, 3) := by decide +kernel
theorem dX9_type_52 : decode cX9_type 52 = .ok (.aload_n 0, 1) := by decide +kernel
theorem dX9_type_53 : decode cX9_type 53 = .ok (.getfield 12, 3) := by decide +kernel
theorem dX9_type_56 : decode cX9_type 56 = .ok (.invokevirtual 63, 3) := by decide +kernel
theorem dX9_type_59 : decode cX9_type 59 = .ok (.ireturn, 1) := by decide +kernel
set_option maxRecDepth 20000 in
theorem ggX9_set_X5_allows : GoodIn wsX9_set wsX5_allows := goodIn_r _ [8, 9, 10] (by decide +kernel) (by decide +kernel)
set_option maxRecDepth 20000 in
theorem gX9_set_X5_allows : GoodIn wsX9_set (wsV RX9 67 RX5 yX5_allows wsX5_allows) := goodIn_app (goodIn_of _ (by decide +kernel)) ggX9_set_X5_allows
set_option maxRecDepth 20000 in
theorem ggX9_set_X2_forget : GoodIn wsX9_set wsX2_forget := goodIn_r _ [15, 16, 31, 32, 33, 34, 35, 36, 37, 38, 39] (by decide +kernel) (by decide +kernel)
set_option maxRecDepth 20000 in
theorem gX9_set_X2_forget : GoodIn wsX9_set (wsV RX9 60 RX2 yX2_forget wsX2_forget) := goodIn_app (goodIn_of _ (by decide +kernel)) ggX9_set_X2_forget
set_option maxRecDepth 20000 in
theorem ggX9_set_X5_replace : GoodIn wsX9_set wsX5_replace := goodIn_r _ [20, 21, 22, 23, 24, 40, 41, 42, 43] (by decide +kernel) (by decide +kernel)
set_option maxRecDepth 20000 in
theorem gX9_set_X5_replace : GoodIn wsX9_set (wsV RX9 71 RX5 yX5_replace wsX5_replace) := goodIn_app (goodIn_of _ (by decide +kernel)) ggX9_set_X5_replace
theorem dX9_set_0 : decode cX9_set 0 = .ok (.aload_n 0, 1) := by decide +kernel
theorem dX9_set_1 : decode cX9_set 1 = .ok (.getfield 19, 3) := by decide +kernel
theorem dX9_set_4 : decode cX9_set 4 = .ok (.iload_n 1, 1) := by decide +kernel
theorem dX9_set_5 : decode cX9_set 5 = .ok (.iload_n 2, 1) := by decide +kernel
theorem dX9_set_6 : decode cX9_set 6 = .ok (.invokevirtual 67, 3) := by decide +kernel
theorem dX9_set_9 : decode cX9_set 9 = .ok (.ifCond .ne 6, 3) := by decide +kernel
theorem dX9_set_12 : decode cX9_set 12 = .ok (.bipush (-2), 2) := by decide +kernel
theorem dX9_set_14 : decode cX9_set 14 = .ok (.ireturn, 1) := by decide +kernel
theorem dX9_set_15 : decode cX9_set 15 = .ok (.aload_n 0, 1) := by decide +kernel
theorem dX9_set_16 : decode cX9_set 16 = .ok (.getfield 48, 3) := by decide +kernel
theorem dX9_set_19 : decode cX9_set 19 = .ok (.ifCond .eq 6, 3) := by decide +kernel
theorem dX9_set_22 : decode cX9_set 22 = .ok (.bipush (-3), 2) := by decide +kernel
theorem dX9_set_24 : decode cX9_set 24 = .ok (.ireturn, 1) := by decide +kernel
theorem dX9_set_25 : decode cX9_set 25 = .ok (.aload_n 0, 1) := by decide +kernel
theorem dX9_set_26 : decode cX9_set 26 = .ok (.getfield 35, 3) := by decide +kernel
theorem dX9_set_29 : decode cX9_set 29 = .ok (.invokevirtual 60, 3) := by decide +kernel
theorem dX9_set_32 : decode cX9_set 32 = .ok (.aload_n 0, 1) := by decide +kernel
theorem dX9_set_33 : decode cX9_set 33 = .ok (.getfield 19, 3) := by decide +kernel
theorem dX9_set_36 : decode cX9_set 36 = .ok (.iload_n 1, 1) := by decide +kernel
theorem dX9_set_37 : decode cX9_set 37 = .ok (.iload_n 2, 1) := by decide +kernel
theorem dX9_set_38 : decode cX9_set 38 = .ok (.invokevirtual 71, 3) := by decide +kernel
theorem dX9_set_41 : decode cX9_set 41 = .ok (.ireturn, 1) := by decide +kernel
set_option maxRecDepth 20000 in
theorem ggX9_plant_X3_put : GoodIn wsX9_plant wsX3_put := goodIn_r _ [7, 8, 9, 10, 17, 18, 19] (by decide +kernel) (by decide +kernel)
set_option maxRecDepth 20000 in
theorem gX9_plant_X3_put : GoodIn wsX9_plant (wsV RX9 75 RX3 yX3_put wsX3_put) := goodIn_app (goodIn_of _ (by decide +kernel)) ggX9_plant_X3_put
theorem dX9_plant_0 : decode cX9_plant 0 = .ok (.iload_n 1, 1) := by decide +kernel
theorem dX9_plant_1 : decode cX9_plant 1 = .ok (.ifCond .lt 30, 3) := by decide +kernel
theorem dX9_plant_4 : decode cX9_plant 4 = .ok (.iload_n 1, 1) := by decide +kernel
theorem dX9_plant_5 : decode cX9_plant 5 = .ok (.bipush 40, 2) := by decide +kernel
theorem dX9_plant_7 : decode cX9_plant 7 = .ok (.if_icmp .ge 24, 3) := by decide +kernel
theorem dX9_plant_10 : decode cX9_plant 10 = .ok (.iload_n 2, 1) := by decide +kernel
theorem dX9_plant_11 : decode cX9_plant 11 = .ok (.ifCond .lt 20, 3) := by decide +kernel
theorem dX9_plant_14 : decode cX9_plant 14 = .ok (.iload_n 2, 1) := by decide +kernel
theorem dX9_plant_15 : decode cX9_plant 15 = .ok (.bipush 32, 2) := by decide +kernel
theorem dX9_plant_17 : decode cX9_plant 17 = .ok (.if_icmp .ge 14, 3) := by decide +kernel
theorem dX9_plant_20 : decode cX9_plant 20 = .ok (.iload_n 3, 1) := by decide +kernel
theorem dX9_plant_21 : decode cX9_plant 21 = .ok (.iconst 1, 1) := by decide +kernel
theorem dX9_plant_22 : decode cX9_plant 22 = .ok (.if_icmp .lt 9, 3) := by decide +kernel
theorem dX9_plant_25 : decode cX9_plant 25 = .ok (.iload_n 3, 1) := by decide +kernel
theorem dX9_plant_26 : decode cX9_plant 26 = .ok (.bipush 6, 2) := by decide +kernel
theorem dX9_plant_28 : decode cX9_plant 28 = .ok (.if_icmp .le 6, 3) := by decide +kernel
theorem dX9_plant_31 : decode cX9_plant 31 = .ok (.bipush (-2), 2) := by decide +kernel
theorem dX9_plant_33 : decode cX9_plant 33 = .ok (.ireturn, 1) := by decide +kernel
theorem dX9_plant_34 : decode cX9_plant 34 = .ok (.aload_n 0, 1) := by decide +kernel
theorem dX9_plant_35 : decode cX9_plant 35 = .ok (.getfield 48, 3) := by decide +kernel
theorem dX9_plant_38 : decode cX9_plant 38 = .ok (.ifCond .eq 6, 3) := by decide +kernel
theorem dX9_plant_41 : decode cX9_plant 41 = .ok (.bipush (-3), 2) := by decide +kernel
theorem dX9_plant_43 : decode cX9_plant 43 = .ok (.ireturn, 1) := by decide +kernel
theorem dX9_plant_44 : decode cX9_plant 44 = .ok (.aload_n 0, 1) := by decide +kernel
theorem dX9_plant_45 : decode cX9_plant 45 = .ok (.getfield 26, 3) := by decide +kernel
theorem dX9_plant_48 : decode cX9_plant 48 = .ok (.iload_n 1, 1) := by decide +kernel
theorem dX9_plant_49 : decode cX9_plant 49 = .ok (.iload_n 2, 1) := by decide +kernel
theorem dX9_plant_50 : decode cX9_plant 50 = .ok (.iload_n 3, 1) := by decide +kernel
theorem dX9_plant_51 : decode cX9_plant 51 = .ok (.iload 4, 2) := by decide +kernel
theorem dX9_plant_53 : decode cX9_plant 53 = .ok (.invokevirtual 75, 3) := by decide +kernel
theorem dX9_plant_56 : decode cX9_plant 56 = .ok (.iconst 1, 1) := by decide +kernel
theorem dX9_plant_57 : decode cX9_plant 57 = .ok (.ireturn, 1) := by decide +kernel
set_option maxRecDepth 20000 in
theorem ggX9_begin_X2_make : GoodIn wsX9_begin wsX2_make := goodIn_r _ [9, 10, 11, 12, 13, 14, 15, 16, 17, 18, 8, 19, 20, 21, 22, 23, 24, 25, 26, 27, 28, 29, 30, 31, 32, 33, 34, 35, 36, 37, 38, 39, 40, 41, 42, 43, 44, 45, 46, 47, 48, 49, 50, 51, 52, 53, 54, 55, 56, 57, 58, 59, 60, 61, 62, 63, 64, 65, 66, 67, 68, 69, 70, 71, 72, 73, 74, 75, 76, 77, 78, 79, 155, 156, 157, 158, 159, 160, 161, 162, 163, 164, 165, 166, 167, 168, 169] (by decide +kernel) (by decide +kernel)
set_option maxRecDepth 20000 in
theorem gX9_begin_X2_make : GoodIn wsX9_begin (wsV RX9 79 RX2 yX2_make wsX2_make) := goodIn_app (goodIn_of _ (by decide +kernel)) ggX9_begin_X2_make
set_option maxRecDepth 20000 in
theorem ggX9_begin_X5_cells : GoodIn wsX9_begin wsX5_cells := goodIn_r _ [83, 84, 164, 165, 166, 167] (by decide +kernel) (by decide +kernel)
set_option maxRecDepth 20000 in
theorem gX9_begin_X5_cells : GoodIn wsX9_begin (wsV RX9 82 RX5 yX5_cells wsX5_cells) := goodIn_app (goodIn_of _ (by decide +kernel)) ggX9_begin_X5_cells
set_option maxRecDepth 20000 in
theorem ggX9_begin_X5_rowLimit : GoodIn wsX9_begin wsX5_rowLimit := goodIn_r _ [88, 89, 164, 165, 166, 167] (by decide +kernel) (by decide +kernel)
set_option maxRecDepth 20000 in
theorem gX9_begin_X5_rowLimit : GoodIn wsX9_begin (wsV RX9 85 RX5 yX5_rowLimit wsX5_rowLimit) := goodIn_app (goodIn_of _ (by decide +kernel)) ggX9_begin_X5_rowLimit
set_option maxRecDepth 20000 in
theorem ggX9_begin_X6_start : GoodIn wsX9_begin wsX6_start := goodIn_r _ [94, 95, 96, 97, 98, 99, 100, 101, 102, 103, 104, 105, 106, 107, 108, 109, 110, 111, 112, 113, 114, 115, 116, 117, 118, 119, 120, 121, 122, 123, 124, 125, 126, 127, 128, 129, 130, 131, 132, 133, 134, 135, 136, 137, 138, 139, 140, 141, 142, 143, 144, 170, 171, 172, 173, 174, 175, 176, 177, 178, 179, 180, 181, 182, 183, 184, 185, 186, 187, 188, 189, 190, 191, 192, 193, 194, 195, 196, 197, 198, 199, 200] (by decide +kernel) (by decide +kernel)
set_option maxRecDepth 20000 in
theorem gX9_begin_X6_start : GoodIn wsX9_begin (wsV RX9 88 RX6 yX6_start wsX6_start) := goodIn_app (goodIn_of _ (by decide +kernel)) ggX9_begin_X6_start
set_option maxRecDepth 20000 in
theorem ggX9_begin_X2_blocks : GoodIn wsX9_begin wsX2_blocks := goodIn_r _ [148, 12, 155, 156, 157, 158, 159, 160, 161, 162, 163] (by decide +kernel) (by decide +kernel)
set_option maxRecDepth 20000 in
theorem gX9_begin_X2_blocks : GoodIn wsX9_begin (wsV RX9 92 RX2 yX2_blocks wsX2_blocks) := goodIn_app (goodIn_of _ (by decide +kernel)) ggX9_begin_X2_blocks
theorem dX9_begin_0 : decode cX9_begin 0 = .ok (.iload_n 1, 1) := by decide +kernel
theorem dX9_begin_1 : decode cX9_begin 1 = .ok (.iconst 1, 1) := by decide +kernel
theorem dX9_begin_2 : decode cX9_begin 2 = .ok (.if_icmp .lt 9, 3) := by decide +kernel
theorem dX9_begin_5 : decode cX9_begin 5 = .ok (.iload_n 1, 1) := by decide +kernel
theorem dX9_begin_6 : decode cX9_begin 6 = .ok (.bipush 6, 2) := by decide +kernel
theorem dX9_begin_8 : decode cX9_begin 8 = .ok (.if_icmp .le 6, 3) := by decide +kernel
theorem dX9_begin_11 : decode cX9_begin 11 = .ok (.bipush (-2), 2) := by decide +kernel
theorem dX9_begin_13 : decode cX9_begin 13 = .ok (.ireturn, 1) := by decide +kernel
theorem dX9_begin_14 : decode cX9_begin 14 = .ok (.aload_n 0, 1) := by decide +kernel
theorem dX9_begin_15 : decode cX9_begin 15 = .ok (.getfield 48, 3) := by decide +kernel
theorem dX9_begin_18 : decode cX9_begin 18 = .ok (.ifCond .eq 6, 3) := by decide +kernel
theorem dX9_begin_21 : decode cX9_begin 21 = .ok (.bipush (-3), 2) := by decide +kernel
theorem dX9_begin_23 : decode cX9_begin 23 = .ok (.ireturn, 1) := by decide +kernel
theorem dX9_begin_24 : decode cX9_begin 24 = .ok (.aload_n 0, 1) := by decide +kernel
theorem dX9_begin_25 : decode cX9_begin 25 = .ok (.getfield 35, 3) := by decide +kernel
theorem dX9_begin_28 : decode cX9_begin 28 = .ok (.invokevirtual 79, 3) := by decide +kernel
theorem dX9_begin_31 : decode cX9_begin 31 = .ok (.aload_n 0, 1) := by decide +kernel
theorem dX9_begin_32 : decode cX9_begin 32 = .ok (.getfield 44, 3) := by decide +kernel
theorem dX9_begin_35 : decode cX9_begin 35 = .ok (.iload_n 1, 1) := by decide +kernel
theorem dX9_begin_36 : decode cX9_begin 36 = .ok (.aload_n 0, 1) := by decide +kernel
theorem dX9_begin_37 : decode cX9_begin 37 = .ok (.getfield 19, 3) := by decide +kernel
theorem dX9_begin_40 : decode cX9_begin 40 = .ok (.invokevirtual 82, 3) := by decide +kernel
theorem dX9_begin_43 : decode cX9_begin 43 = .ok (.aload_n 0, 1) := by decide +kernel
theorem dX9_begin_44 : decode cX9_begin 44 = .ok (.getfield 19, 3) := by decide +kernel
theorem dX9_begin_47 : decode cX9_begin 47 = .ok (.invokevirtual 85, 3) := by decide +kernel
theorem dX9_begin_50 : decode cX9_begin 50 = .ok (.invokevirtual 88, 3) := by decide +kernel
theorem dX9_begin_53 : decode cX9_begin 53 = .ok (.aload_n 0, 1) := by decide +kernel
theorem dX9_begin_54 : decode cX9_begin 54 = .ok (.iconst 1, 1) := by decide +kernel
theorem dX9_begin_55 : decode cX9_begin 55 = .ok (.putfield 48, 3) := by decide +kernel
theorem dX9_begin_58 : decode cX9_begin 58 = .ok (.aload_n 0, 1) := by decide +kernel
theorem dX9_begin_59 : decode cX9_begin 59 = .ok (.getfield 35, 3) := by decide +kernel
theorem dX9_begin_62 : decode cX9_begin 62 = .ok (.invokevirtual 92, 3) := by decide +kernel
theorem dX9_begin_65 : decode cX9_begin 65 = .ok (.ireturn, 1) := by decide +kernel
set_option maxRecDepth 20000 in
theorem ggX9_turn_X9_isThread : GoodIn wsX9_turn wsX9_isThread := goodIn_r _ [7, 1, 2, 8, 9, 10, 11, 12, 13, 187, 188, 189, 190, 191, 192, 193, 194, 195, 196, 197, 198, 199, 200, 201, 202, 203, 204, 205] (by decide +kernel) (by decide +kernel)
set_option maxRecDepth 20000 in
theorem gX9_turn_X9_isThread : GoodIn wsX9_turn (wsV RX9 95 RX9 yX9_isThread wsX9_isThread) := goodIn_app (goodIn_of _ (by decide +kernel)) ggX9_turn_X9_isThread
set_option maxRecDepth 20000 in
theorem ggX9_turn_X6_giveTurn : GoodIn wsX9_turn wsX6_giveTurn := goodIn_r _ [17, 18, 19, 20, 21, 22, 11, 23, 13, 24, 25, 26, 27, 28, 29, 30, 31, 32, 33, 34, 35, 36, 37, 38, 39, 40, 41, 42, 43, 44, 45, 46, 47, 48, 49, 50, 51, 52, 53, 54, 55, 56, 57, 58, 59, 60, 61, 62, 63, 64, 65, 66, 67, 68, 69, 70, 71, 72, 73, 74, 75, 76, 77, 78, 79, 80, 81, 82, 83, 84, 85, 86, 87, 88, 89, 90, 91, 92, 93, 94, 95, 96, 97, 98, 99, 100, 101, 102, 103, 104, 105, 106, 107, 108, 109, 110, 111, 112, 113, 114, 115, 116, 117, 118, 119, 120, 121, 122, 123, 124, 125, 126, 127, 128, 129, 130, 131, 132, 133, 134, 135, 136, 137, 138, 139, 140, 141, 142, 143, 144, 145, 146, 147, 148, 149, 150, 151, 152, 153, 154, 155, 156, 157, 158, 159, 160, 161, 162, 163, 164, 165, 166, 167, 168, 169, 170, 171, 172, 173, 174, 175, 176, 177, 178, 179, 180, 181, 182, 183, 184, 185, 186, 193, 194, 195, 196, 197, 198, 199, 200, 201, 202, 203, 204, 205, 206, 207, 208, 209, 210, 211, 212, 213, 214, 215, 216, 217, 218, 219, 220, 221, 222, 223, 224, 225, 226, 227, 228, 229, 230, 231, 232, 233, 234, 235, 236, 237, 238, 239, 240, 241] (by decide +kernel) (by decide +kernel)
set_option maxRecDepth 20000 in
theorem gX9_turn_X6_giveTurn : GoodIn wsX9_turn (wsV RX9 99 RX6 yX6_giveTurn wsX6_giveTurn) := goodIn_app (goodIn_of _ (by decide +kernel)) ggX9_turn_X6_giveTurn
theorem dX9_turn_0 : decode cX9_turn 0 = .ok (.aload_n 0, 1) := by decide +kernel
theorem dX9_turn_1 : decode cX9_turn 1 = .ok (.iload_n 1, 1) := by decide +kernel
theorem dX9_turn_2 : decode cX9_turn 2 = .ok (.invokevirtual 95, 3) := by decide +kernel
theorem dX9_turn_5 : decode cX9_turn 5 = .ok (.ifCond .ne 6, 3) := by decide +kernel
theorem dX9_turn_8 : decode cX9_turn 8 = .ok (.bipush (-2), 2) := by decide +kernel
theorem dX9_turn_10 : decode cX9_turn 10 = .ok (.ireturn, 1) := by decide +kernel
theorem dX9_turn_11 : decode cX9_turn 11 = .ok (.aload_n 0, 1) := by decide +kernel
theorem dX9_turn_12 : decode cX9_turn 12 = .ok (.getfield 48, 3) := by decide +kernel
theorem dX9_turn_15 : decode cX9_turn 15 = .ok (.ifCond .ne 6, 3) := by decide +kernel
theorem dX9_turn_18 : decode cX9_turn 18 = .ok (.bipush (-3), 2) := by decide +kernel
theorem dX9_turn_20 : decode cX9_turn 20 = .ok (.ireturn, 1) := by decide +kernel
theorem dX9_turn_21 : decode cX9_turn 21 = .ok (.aload_n 0, 1) := by decide +kernel
theorem dX9_turn_22 : decode cX9_turn 22 = .ok (.getfield 44, 3) := by decide +kernel
theorem dX9_turn_25 : decode cX9_turn 25 = .ok (.iload_n 1, 1) := by decide +kernel
theorem dX9_turn_26 : decode cX9_turn 26 = .ok (.invokevirtual 99, 3) := by decide +kernel
theorem dX9_turn_29 : decode cX9_turn 29 = .ok (.ifCond .eq 7, 3) := by decide +kernel
theorem dX9_turn_32 : decode cX9_turn 32 = .ok (.iconst 1, 1) := by decide +kernel
theorem dX9_turn_33 : decode cX9_turn 33 = .ok (.goto 4, 3) := by decide +kernel
theorem dX9_turn_36 : decode cX9_turn 36 = .ok (.iconst 0, 1) := by decide +kernel
theorem dX9_turn_37 : decode cX9_turn 37 = .ok (.ireturn, 1) := by decide +kernel
set_option maxRecDepth 20000 in
theorem ggX9_run_X6_giveTurnsInRing : GoodIn wsX9_run wsX6_giveTurnsInRing := goodIn_r _ [7, 8, 9, 10, 11, 12, 6, 13, 14, 15, 16, 17, 18, 19, 20, 21, 22, 23, 24, 25, 26, 27, 28, 29, 30, 31, 32, 33, 34, 35, 36, 37, 38, 39, 40, 41, 42, 43, 44, 45, 46, 47, 48, 49, 50, 51, 52, 53, 54, 55, 56, 57, 58, 59, 60, 61, 62, 63, 64, 65, 66, 67, 68, 69, 70, 71, 72, 73, 74, 75, 76, 77, 78, 79, 80, 81, 82, 83, 84, 85, 86, 87, 88, 89, 90, 91, 92, 93, 94, 95, 96, 97, 98, 99, 100, 101, 102, 103, 104, 105, 106, 107, 108, 109, 110, 111, 112, 113, 114, 115, 116, 117, 118, 119, 120, 121, 122, 123, 124, 125, 126, 127, 128, 129, 130, 131, 132, 133, 134, 135, 136, 137, 138, 139, 140, 141, 142, 143, 144, 145, 146, 147, 148, 149, 150, 151, 152, 153, 154, 155, 156, 157, 158, 159, 160, 161, 162, 163, 164, 165, 166, 167, 168, 169, 170, 171, 172, 173, 174, 175, 176, 177, 178, 179, 180, 181, 182, 183, 184, 185, 192, 193, 194, 195, 196, 197, 198, 199, 200, 201, 202, 203, 204, 205, 206, 207, 208, 209, 210, 211, 212, 213, 214, 215, 216, 217, 218, 219, 220, 221, 222, 223, 224, 225, 226, 227, 228, 229, 230, 231, 232, 233, 234, 235, 236, 237, 238, 239, 240] (by decide +kernel) (by decide +kernel)
set_option maxRecDepth 20000 in
theorem gX9_run_X6_giveTurnsInRing : GoodIn wsX9_run (wsV RX9 102 RX6 yX6_giveTurnsInRing wsX6_giveTurnsInRing) := goodIn_app (goodIn_of _ (by decide +kernel)) ggX9_run_X6_giveTurnsInRing
theorem dX9_run_0 : decode cX9_run 0 = .ok (.iload_n 1, 1) := by decide +kernel
theorem dX9_run_1 : decode cX9_run 1 = .ok (.ifCond .lt 10, 3) := by decide +kernel
theorem dX9_run_4 : decode cX9_run 4 = .ok (.iload_n 1, 1) := by decide +kernel
theorem dX9_run_5 : decode cX9_run 5 = .ok (.sipush 400, 3) := by decide +kernel
theorem dX9_run_8 : decode cX9_run 8 = .ok (.if_icmp .le 6, 3) := by decide +kernel
theorem dX9_run_11 : decode cX9_run 11 = .ok (.bipush (-2), 2) := by decide +kernel
theorem dX9_run_13 : decode cX9_run 13 = .ok (.ireturn, 1) := by decide +kernel
theorem dX9_run_14 : decode cX9_run 14 = .ok (.aload_n 0, 1) := by decide +kernel
theorem dX9_run_15 : decode cX9_run 15 = .ok (.getfield 48, 3) := by decide +kernel
theorem dX9_run_18 : decode cX9_run 18 = .ok (.ifCond .ne 6, 3) := by decide +kernel
theorem dX9_run_21 : decode cX9_run 21 = .ok (.bipush (-3), 2) := by decide +kernel
theorem dX9_run_23 : decode cX9_run 23 = .ok (.ireturn, 1) := by decide +kernel
theorem dX9_run_24 : decode cX9_run 24 = .ok (.aload_n 0, 1) := by decide +kernel
theorem dX9_run_25 : decode cX9_run 25 = .ok (.getfield 44, 3) := by decide +kernel
theorem dX9_run_28 : decode cX9_run 28 = .ok (.iload_n 1, 1) := by decide +kernel
theorem dX9_run_29 : decode cX9_run 29 = .ok (.invokevirtual 102, 3) := by decide +kernel
theorem dX9_run_32 : decode cX9_run 32 = .ok (.ireturn, 1) := by decide +kernel
set_option maxRecDepth 20000 in
theorem ggX9_interrupt_X9_isThread : GoodIn wsX9_interrupt wsX9_isThread := goodIn_r _ [7, 1, 2, 8, 9, 10, 11, 12, 13, 23, 24, 25, 26, 27, 28, 29, 30, 31, 32, 33, 34, 35, 36, 37, 38, 39, 40, 41] (by decide +kernel) (by decide +kernel)
set_option maxRecDepth 20000 in
theorem gX9_interrupt_X9_isThread : GoodIn wsX9_interrupt (wsV RX9 95 RX9 yX9_isThread wsX9_isThread) := goodIn_app (goodIn_of _ (by decide +kernel)) ggX9_interrupt_X9_isThread
set_option maxRecDepth 20000 in
theorem ggX9_interrupt_X6_markInterrupted : GoodIn wsX9_interrupt wsX6_markInterrupted := goodIn_r _ [17, 18, 19, 20, 11, 21, 13, 22, 42, 43, 44, 45, 46, 47, 48, 49, 29, 30, 31, 32, 33, 34, 35, 36, 37, 38, 39, 40, 41] (by decide +kernel) (by decide +kernel)
set_option maxRecDepth 20000 in
theorem gX9_interrupt_X6_markInterrupted : GoodIn wsX9_interrupt (wsV RX9 106 RX6 yX6_markInterrupted wsX6_markInterrupted) := goodIn_app (goodIn_of _ (by decide +kernel)) ggX9_interrupt_X6_markInterrupted
theorem dX9_interrupt_0 : decode cX9_interrupt 0 = .ok (.aload_n 0, 1) := by decide +kernel
theorem dX9_interrupt_1 : decode cX9_interrupt 1 = .ok (.iload_n 1, 1) := by decide +kernel
theorem dX9_interrupt_2 : decode cX9_interrupt 2 = .ok (.invokevirtual 95, 3) := by decide +kernel
theorem dX9_interrupt_5 : decode cX9_interrupt 5 = .ok (.ifCond .ne 6, 3) := by decide +kernel
theorem dX9_interrupt_8 : decode cX9_interrupt 8 = .ok (.bipush (-2), 2) := by decide +kernel
theorem dX9_interrupt_10 : decode cX9_interrupt 10 = .ok (.ireturn, 1) := by decide +kernel
theorem dX9_interrupt_11 : decode cX9_interrupt 11 = .ok (.aload_n 0, 1) := by decide +kernel
theorem dX9_interrupt_12 : decode cX9_interrupt 12 = .ok (.getfield 48, 3) := by decide +kernel
theorem dX9_interrupt_15 : decode cX9_interrupt 15 = .ok (.ifCond .ne 6, 3) := by decide +kernel
theorem dX9_interrupt_18 : decode cX9_interrupt 18 = .ok (.bipush (-3), 2) := by decide +kernel
theorem dX9_interrupt_20 : decode cX9_interrupt 20 = .ok (.ireturn, 1) := by decide +kernel
theorem dX9_interrupt_21 : decode cX9_interrupt 21 = .ok (.aload_n 0, 1) := by decide +kernel
theorem dX9_interrupt_22 : decode cX9_interrupt 22 = .ok (.getfield 44, 3) := by decide +kernel
theorem dX9_interrupt_25 : decode cX9_interrupt 25 = .ok (.iload_n 1, 1) := by decide +kernel
theorem dX9_interrupt_26 : decode cX9_interrupt 26 = .ok (.invokevirtual 106, 3) := by decide +kernel
theorem dX9_interrupt_29 : decode cX9_interrupt 29 = .ok (.ifCond .eq 7, 3) := by decide +kernel
theorem dX9_interrupt_32 : decode cX9_interrupt 32 = .ok (.iconst 1, 1) := by decide +kernel
theorem dX9_interrupt_33 : decode cX9_interrupt 33 = .ok (.goto 4, 3) := by decide +kernel
theorem dX9_interrupt_36 : decode cX9_interrupt 36 = .ok (.iconst 0, 1) := by decide +kernel
theorem dX9_interrupt_37 : decode cX9_interrupt 37 = .ok (.ireturn, 1) := by decide +kernel
set_option maxRecDepth 20000 in
theorem ggX9_thread_X9_isThread : GoodIn wsX9_thread wsX9_isThread := goodIn_r _ [7, 1, 2, 8, 9, 10, 11, 12, 13, 23, 24, 25, 26, 27, 28, 29, 30, 31, 32, 33, 34, 35, 36, 37, 38, 39, 40, 41] (by decide +kernel) (by decide +kernel)
set_option maxRecDepth 20000 in
theorem gX9_thread_X9_isThread : GoodIn wsX9_thread (wsV RX9 95 RX9 yX9_isThread wsX9_isThread) := goodIn_app (goodIn_of _ (by decide +kernel)) ggX9_thread_X9_isThread
set_option maxRecDepth 20000 in
theorem ggX9_thread_X6_tellOfThread : GoodIn wsX9_thread wsX6_tellOfThread := goodIn_r _ [17, 18, 19, 20, 11, 21, 13, 22, 42, 43, 44, 45, 46, 47, 48, 49, 29, 30, 31, 32, 33, 34, 35, 36, 37, 38, 39, 40, 41] (by decide +kernel) (by decide +kernel)
set_option maxRecDepth 20000 in
theorem gX9_thread_X6_tellOfThread : GoodIn wsX9_thread (wsV RX9 109 RX6 yX6_tellOfThread wsX6_tellOfThread) := goodIn_app (goodIn_of _ (by decide +kernel)) ggX9_thread_X6_tellOfThread
theorem dX9_thread_0 : decode cX9_thread 0 = .ok (.aload_n 0, 1) := by decide +kernel
theorem dX9_thread_1 : decode cX9_thread 1 = .ok (.iload_n 1, 1) := by decide +kernel
theorem dX9_thread_2 : decode cX9_thread 2 = .ok (.invokevirtual 95, 3) := by decide +kernel
theorem dX9_thread_5 : decode cX9_thread 5 = .ok (.ifCond .eq 12, 3) := by decide +kernel
theorem dX9_thread_8 : decode cX9_thread 8 = .ok (.iload_n 2, 1) := by decide +kernel
theorem dX9_thread_9 : decode cX9_thread 9 = .ok (.ifCond .lt 8, 3) := by decide +kernel
theorem dX9_thread_12 : decode cX9_thread 12 = .ok (.iload_n 2, 1) := by decide +kernel
theorem dX9_thread_13 : decode cX9_thread 13 = .ok (.iconst 4, 1) := by decide +kernel
theorem dX9_thread_14 : decode cX9_thread 14 = .ok (.if_icmp .le 6, 3) := by decide +kernel
theorem dX9_thread_17 : decode cX9_thread 17 = .ok (.bipush (-2), 2) := by decide +kernel
theorem dX9_thread_19 : decode cX9_thread 19 = .ok (.ireturn, 1) := by decide +kernel
theorem dX9_thread_20 : decode cX9_thread 20 = .ok (.aload_n 0, 1) := by decide +kernel
theorem dX9_thread_21 : decode cX9_thread 21 = .ok (.getfield 48, 3) := by decide +kernel
theorem dX9_thread_24 : decode cX9_thread 24 = .ok (.ifCond .ne 6, 3) := by decide +kernel
theorem dX9_thread_27 : decode cX9_thread 27 = .ok (.bipush (-3), 2) := by decide +kernel
theorem dX9_thread_29 : decode cX9_thread 29 = .ok (.ireturn, 1) := by decide +kernel
theorem dX9_thread_30 : decode cX9_thread 30 = .ok (.aload_n 0, 1) := by decide +kernel
theorem dX9_thread_31 : decode cX9_thread 31 = .ok (.getfield 44, 3) := by decide +kernel
theorem dX9_thread_34 : decode cX9_thread 34 = .ok (.iload_n 1, 1) := by decide +kernel
theorem dX9_thread_35 : decode cX9_thread 35 = .ok (.iload_n 2, 1) := by decide +kernel
theorem dX9_thread_36 : decode cX9_thread 36 = .ok (.invokevirtual 109, 3) := by decide +kernel
theorem dX9_thread_39 : decode cX9_thread 39 = .ok (.ireturn, 1) := by decide +kernel
set_option maxRecDepth 20000 in
theorem ggX9_out_X6_joinedBytes : GoodIn wsX9_out wsX6_joinedBytes := goodIn_r _ [8, 9, 10, 11, 12, 13, 14, 15, 16, 29, 30, 31, 32, 33, 34, 35, 36, 37, 38, 39, 40, 41, 42, 43, 44, 45, 46, 47, 48, 49, 50, 51, 52, 53, 54] (by decide +kernel) (by decide +kernel)
set_option maxRecDepth 20000 in
theorem gX9_out_X6_joinedBytes : GoodIn wsX9_out (wsV RX9 112 RX6 yX6_joinedBytes wsX6_joinedBytes) := goodIn_app (goodIn_of _ (by decide +kernel)) ggX9_out_X6_joinedBytes
set_option maxRecDepth 20000 in
theorem ggX9_out_X2_byteAt : GoodIn wsX9_out wsX2_byteAt := goodIn_r _ [20, 21, 22, 46, 47, 48, 49, 50, 51, 52, 53, 54] (by decide +kernel) (by decide +kernel)
set_option maxRecDepth 20000 in
theorem gX9_out_X2_byteAt : GoodIn wsX9_out (wsV RX9 115 RX2 yX2_byteAt wsX2_byteAt) := goodIn_app (goodIn_of _ (by decide +kernel)) ggX9_out_X2_byteAt
theorem dX9_out_0 : decode cX9_out 0 = .ok (.aload_n 0, 1) := by decide +kernel
theorem dX9_out_1 : decode cX9_out 1 = .ok (.getfield 48, 3) := by decide +kernel
theorem dX9_out_4 : decode cX9_out 4 = .ok (.ifCond .eq 18, 3) := by decide +kernel
theorem dX9_out_7 : decode cX9_out 7 = .ok (.iload_n 1, 1) := by decide +kernel
theorem dX9_out_8 : decode cX9_out 8 = .ok (.ifCond .lt 14, 3) := by decide +kernel
theorem dX9_out_11 : decode cX9_out 11 = .ok (.iload_n 1, 1) := by decide +kernel
theorem dX9_out_12 : decode cX9_out 12 = .ok (.aload_n 0, 1) := by decide +kernel
theorem dX9_out_13 : decode cX9_out 13 = .ok (.getfield 44, 3) := by decide +kernel
theorem dX9_out_16 : decode cX9_out 16 = .ok (.invokevirtual 112, 3) := by decide +kernel
theorem dX9_out_19 : decode cX9_out 19 = .ok (.if_icmp .lt 5, 3) := by decide +kernel
theorem dX9_out_22 : decode cX9_out 22 = .ok (.iconst (-1), 1) := by decide +kernel
theorem dX9_out_23 : decode cX9_out 23 = .ok (.ireturn, 1) := by decide +kernel
theorem dX9_out_24 : decode cX9_out 24 = .ok (.aload_n 0, 1) := by decide +kernel
theorem dX9_out_25 : decode cX9_out 25 = .ok (.getfield 35, 3) := by decide +kernel
theorem dX9_out_28 : decode cX9_out 28 = .ok (.iload_n 1, 1) := by decide +kernel
theorem dX9_out_29 : decode cX9_out 29 = .ok (.invokevirtual 115, 3) := by decide +kernel
theorem dX9_out_32 : decode cX9_out 32 = .ok (.ireturn, 1) := by decide +kernel
set_option maxRecDepth 20000 in
theorem ggX9_told_X6_tellOfStores : GoodIn wsX9_told wsX6_tellOfStores := goodIn_r _ [7, 8, 9, 10, 11, 12, 13, 14, 15, 16, 17, 18, 19, 6, 20, 21, 22, 23, 24, 25, 41, 42, 43, 44, 45, 46, 47, 48, 49, 50, 51, 52, 53, 54, 55, 56, 57, 58, 59, 60, 61, 62, 63, 64, 65, 66, 67, 68, 69] (by decide +kernel) (by decide +kernel)
set_option maxRecDepth 20000 in
theorem gX9_told_X6_tellOfStores : GoodIn wsX9_told (wsV RX9 118 RX6 yX6_tellOfStores wsX6_tellOfStores) := goodIn_app (goodIn_of _ (by decide +kernel)) ggX9_told_X6_tellOfStores
set_option maxRecDepth 20000 in
theorem ggX9_told_X6_tellOfCourse : GoodIn wsX9_told wsX6_tellOfCourse := goodIn_r _ [29, 30, 31, 32, 33, 34, 41, 42, 43, 44, 45, 46, 47, 48, 49, 50, 51, 52, 53, 70, 71, 72] (by decide +kernel) (by decide +kernel)
set_option maxRecDepth 20000 in
theorem gX9_told_X6_tellOfCourse : GoodIn wsX9_told (wsV RX9 121 RX6 yX6_tellOfCourse wsX6_tellOfCourse) := goodIn_app (goodIn_of _ (by decide +kernel)) ggX9_told_X6_tellOfCourse
theorem dX9_told_0 : decode cX9_told 0 = .ok (.iload_n 1, 1) := by decide +kernel
theorem dX9_told_1 : decode cX9_told 1 = .ok (.ifCond .lt 9, 3) := by decide +kernel
theorem dX9_told_4 : decode cX9_told 4 = .ok (.iload_n 1, 1) := by decide +kernel
theorem dX9_told_5 : decode cX9_told 5 = .ok (.bipush 10, 2) := by decide +kernel
theorem dX9_told_7 : decode cX9_told 7 = .ok (.if_icmp .le 6, 3) := by decide +kernel
theorem dX9_told_10 : decode cX9_told 10 = .ok (.bipush (-2), 2) := by decide +kernel
theorem dX9_told_12 : decode cX9_told 12 = .ok (.ireturn, 1) := by decide +kernel
theorem dX9_told_13 : decode cX9_told 13 = .ok (.aload_n 0, 1) := by decide +kernel
theorem dX9_told_14 : decode cX9_told 14 = .ok (.getfield 48, 3) := by decide +kernel
theorem dX9_told_17 : decode cX9_told 17 = .ok (.ifCond .ne 6, 3) := by decide +kernel
theorem dX9_told_20 : decode cX9_told 20 = .ok (.bipush (-3), 2) := by decide +kernel
theorem dX9_told_22 : decode cX9_told 22 = .ok (.ireturn, 1) := by decide +kernel
theorem dX9_told_23 : decode cX9_told 23 = .ok (.iload_n 1, 1) := by decide +kernel
theorem dX9_told_24 : decode cX9_told 24 = .ok (.bipush 6, 2) := by decide +kernel
theorem dX9_told_26 : decode cX9_told 26 = .ok (.if_icmp .ge 14, 3) := by decide +kernel
theorem dX9_told_29 : decode cX9_told 29 = .ok (.aload_n 0, 1) := by decide +kernel
theorem dX9_told_30 : decode cX9_told 30 = .ok (.getfield 44, 3) := by decide +kernel
theorem dX9_told_33 : decode cX9_told 33 = .ok (.iload_n 1, 1) := by decide +kernel
theorem dX9_told_34 : decode cX9_told 34 = .ok (.invokevirtual 118, 3) := by decide +kernel
theorem dX9_told_37 : decode cX9_told 37 = .ok (.goto 11, 3) := by decide +kernel
theorem dX9_told_40 : decode cX9_told 40 = .ok (.aload_n 0, 1) := by decide +kernel
theorem dX9_told_41 : decode cX9_told 41 = .ok (.getfield 44, 3) := by decide +kernel
theorem dX9_told_44 : decode cX9_told 44 = .ok (.iload_n 1, 1) := by decide +kernel
theorem dX9_told_45 : decode cX9_told 45 = .ok (.invokevirtual 121, 3) := by decide +kernel
theorem dX9_told_48 : decode cX9_told 48 = .ok (.ireturn, 1) := by decide +kernel
set_option maxRecDepth 20000 in
theorem ggX9_waiting_X6_numberInLine : GoodIn wsX9_waiting wsX6_numberInLine := goodIn_r _ [7, 8, 9, 10, 11, 12, 13, 14, 15, 22, 23, 24, 25, 26, 27, 28, 29, 30, 31, 32, 33, 34, 35, 36, 37, 38, 39, 40, 41, 42, 43, 44, 45] (by decide +kernel) (by decide +kernel)
set_option maxRecDepth 20000 in
theorem gX9_waiting_X6_numberInLine : GoodIn wsX9_waiting (wsV RX9 124 RX6 yX6_numberInLine wsX6_numberInLine) := goodIn_app (goodIn_of _ (by decide +kernel)) ggX9_waiting_X6_numberInLine
theorem dX9_waiting_0 : decode cX9_waiting 0 = .ok (.aload_n 0, 1) := by decide +kernel
theorem dX9_waiting_1 : decode cX9_waiting 1 = .ok (.getfield 48, 3) := by decide +kernel
theorem dX9_waiting_4 : decode cX9_waiting 4 = .ok (.ifCond .ne 6, 3) := by decide +kernel
theorem dX9_waiting_7 : decode cX9_waiting 7 = .ok (.bipush (-3), 2) := by decide +kernel
theorem dX9_waiting_9 : decode cX9_waiting 9 = .ok (.ireturn, 1) := by decide +kernel
theorem dX9_waiting_10 : decode cX9_waiting 10 = .ok (.aload_n 0, 1) := by decide +kernel
theorem dX9_waiting_11 : decode cX9_waiting 11 = .ok (.getfield 44, 3) := by decide +kernel
theorem dX9_waiting_14 : decode cX9_waiting 14 = .ok (.iload_n 1, 1) := by decide +kernel
theorem dX9_waiting_15 : decode cX9_waiting 15 = .ok (.invokevirtual 124, 3) := by decide +kernel
theorem dX9_waiting_18 : decode cX9_waiting 18 = .ok (.ireturn, 1) := by decide +kernel
set_option maxRecDepth 20000 in
theorem ggX9_plain_X2_make : GoodIn wsX9_plain wsX2_make := goodIn_r _ [6, 7, 8, 9, 10, 11, 12, 13, 14, 15, 5, 16, 17, 18, 19, 20, 21, 22, 23, 24, 25, 26, 27, 28, 29, 30, 31, 32, 33, 34, 35, 36, 37, 38, 39, 40, 41, 42, 43, 44, 45, 46, 47, 48, 49, 50, 51, 52, 53, 54, 55, 56, 57, 58, 59, 60, 61, 62, 63, 64, 65, 66, 67, 68, 69, 70, 71, 72, 73, 74, 75, 76, 87, 88, 89, 90, 91, 92, 93, 94, 95, 96, 97, 98, 99, 100, 101] (by decide +kernel) (by decide +kernel)
set_option maxRecDepth 20000 in
theorem gX9_plain_X2_make : GoodIn wsX9_plain (wsV RX9 79 RX2 yX2_make wsX2_make) := goodIn_app (goodIn_of _ (by decide +kernel)) ggX9_plain_X2_make
set_option maxRecDepth 20000 in
theorem ggX9_plain_X2_byteAt : GoodIn wsX9_plain wsX2_byteAt := goodIn_r _ [80, 8, 68, 87, 88, 89, 90, 91, 92, 93, 94, 95] (by decide +kernel) (by decide +kernel)
set_option maxRecDepth 20000 in
theorem gX9_plain_X2_byteAt : GoodIn wsX9_plain (wsV RX9 115 RX2 yX2_byteAt wsX2_byteAt) := goodIn_app (goodIn_of _ (by decide +kernel)) ggX9_plain_X2_byteAt
theorem dX9_plain_0 : decode cX9_plain 0 = .ok (.aload_n 0, 1) := by decide +kernel
theorem dX9_plain_1 : decode cX9_plain 1 = .ok (.getfield 35, 3) := by decide +kernel
theorem dX9_plain_4 : decode cX9_plain 4 = .ok (.invokevirtual 79, 3) := by decide +kernel
theorem dX9_plain_7 : decode cX9_plain 7 = .ok (.aload_n 0, 1) := by decide +kernel
theorem dX9_plain_8 : decode cX9_plain 8 = .ok (.getfield 35, 3) := by decide +kernel
theorem dX9_plain_11 : decode cX9_plain 11 = .ok (.iload_n 1, 1) := by decide +kernel
theorem dX9_plain_12 : decode cX9_plain 12 = .ok (.invokevirtual 115, 3) := by decide +kernel
theorem dX9_plain_15 : decode cX9_plain 15 = .ok (.ireturn, 1) := by decide +kernel
set_option maxRecDepth 20000 in
theorem ggX9_close_X6_endAll : GoodIn wsX9_close wsX6_endAll := goodIn_r _ [7, 8, 9, 10, 11, 12, 13, 14, 15, 16, 17, 18, 19, 20, 21, 22, 23, 24, 25, 26, 27, 28, 29, 30, 31, 32, 33, 34, 35, 36, 37, 38, 39, 40, 47, 48, 49, 50, 51, 52, 53, 54, 55, 56, 57, 58, 59, 60, 61, 62, 63, 64, 65, 66, 67, 68, 69, 70] (by decide +kernel) (by decide +kernel)
set_option maxRecDepth 20000 in
theorem gX9_close_X6_endAll : GoodIn wsX9_close (wsV RX9 127 RX6 yX6_endAll wsX6_endAll) := goodIn_app (goodIn_of _ (by decide +kernel)) ggX9_close_X6_endAll
theorem dX9_close_0 : decode cX9_close 0 = .ok (.aload_n 0, 1) := by decide +kernel
theorem dX9_close_1 : decode cX9_close 1 = .ok (.getfield 48, 3) := by decide +kernel
theorem dX9_close_4 : decode cX9_close 4 = .ok (.ifCond .ne 6, 3) := by decide +kernel
theorem dX9_close_7 : decode cX9_close 7 = .ok (.bipush (-3), 2) := by decide +kernel
theorem dX9_close_9 : decode cX9_close 9 = .ok (.ireturn, 1) := by decide +kernel
theorem dX9_close_10 : decode cX9_close 10 = .ok (.aload_n 0, 1) := by decide +kernel
theorem dX9_close_11 : decode cX9_close 11 = .ok (.getfield 44, 3) := by decide +kernel
theorem dX9_close_14 : decode cX9_close 14 = .ok (.invokevirtual 127, 3) := by decide +kernel
theorem dX9_close_17 : decode cX9_close 17 = .ok (.ireturn, 1) := by decide +kernel
set_option maxRecDepth 20000 in
theorem ggX9_clear_X7_length : GoodIn wsX9_clear wsX7_length := goodIn_r _ [9, 10, 33, 34] (by decide +kernel) (by decide +kernel)
set_option maxRecDepth 20000 in
theorem gX9_clear_X7_length : GoodIn wsX9_clear (wsV RX9 63 RX7 yX7_length wsX7_length) := goodIn_app (goodIn_of _ (by decide +kernel)) ggX9_clear_X7_length
set_option maxRecDepth 20000 in
theorem ggX9_clear_X7_empty : GoodIn wsX9_clear wsX7_empty := goodIn_r _ [14, 10, 33, 34] (by decide +kernel) (by decide +kernel)
set_option maxRecDepth 20000 in
theorem gX9_clear_X7_empty : GoodIn wsX9_clear (wsV RX9 130 RX7 yX7_empty wsX7_empty) := goodIn_app (goodIn_of _ (by decide +kernel)) ggX9_clear_X7_empty
set_option maxRecDepth 20000 in
theorem ggX9_clear_X3_removeAll : GoodIn wsX9_clear wsX3_removeAll := goodIn_r _ [19, 20, 35, 36, 37] (by decide +kernel) (by decide +kernel)
set_option maxRecDepth 20000 in
theorem gX9_clear_X3_removeAll : GoodIn wsX9_clear (wsV RX9 133 RX3 yX3_removeAll wsX3_removeAll) := goodIn_app (goodIn_of _ (by decide +kernel)) ggX9_clear_X3_removeAll
set_option maxRecDepth 20000 in
theorem ggX9_clear_X2_forget : GoodIn wsX9_clear wsX2_forget := goodIn_r _ [25, 26, 38, 39, 40, 41, 42, 43, 44, 45, 46] (by decide +kernel) (by decide +kernel)
set_option maxRecDepth 20000 in
theorem gX9_clear_X2_forget : GoodIn wsX9_clear (wsV RX9 60 RX2 yX2_forget wsX2_forget) := goodIn_app (goodIn_of _ (by decide +kernel)) ggX9_clear_X2_forget
theorem dX9_clear_0 : decode cX9_clear 0 = .ok (.aload_n 0, 1) := by decide +kernel
theorem dX9_clear_1 : decode cX9_clear 1 = .ok (.getfield 12, 3) := by decide +kernel
theorem dX9_clear_4 : decode cX9_clear 4 = .ok (.invokevirtual 63, 3) := by decide +kernel
theorem dX9_clear_7 : decode cX9_clear 7 = .ok (.istore_n 1, 1) := by decide +kernel
theorem dX9_clear_8 : decode cX9_clear 8 = .ok (.aload_n 0, 1) := by decide +kernel
theorem dX9_clear_9 : decode cX9_clear 9 = .ok (.getfield 12, 3) := by decide +kernel
theorem dX9_clear_12 : decode cX9_clear 12 = .ok (.invokevirtual 130, 3) := by decide +kernel
theorem dX9_clear_15 : decode cX9_clear 15 = .ok (.aload_n 0, 1) := by decide +kernel
theorem dX9_clear_16 : decode cX9_clear 16 = .ok (.getfield 26, 3) := by decide +kernel
theorem dX9_clear_19 : decode cX9_clear 19 = .ok (.invokevirtual 133, 3) := by decide +kernel
theorem dX9_clear_22 : decode cX9_clear 22 = .ok (.aload_n 0, 1) := by decide +kernel
theorem dX9_clear_23 : decode cX9_clear 23 = .ok (.getfield 35, 3) := by decide +kernel
theorem dX9_clear_26 : decode cX9_clear 26 = .ok (.invokevirtual 60, 3) := by decide +kernel
theorem dX9_clear_29 : decode cX9_clear 29 = .ok (.aload_n 0, 1) := by decide +kernel
theorem dX9_clear_30 : decode cX9_clear 30 = .ok (.iconst 0, 1) := by decide +kernel
theorem dX9_clear_31 : decode cX9_clear 31 = .ok (.putfield 48, 3) := by decide +kernel
theorem dX9_clear_34 : decode cX9_clear 34 = .ok (.iload_n 1, 1) := by decide +kernel
theorem dX9_clear_35 : decode cX9_clear 35 = .ok (.ireturn, 1) := by decide +kernel
set_option maxRecDepth 20000 in
theorem ggX9_isThread_X6_threads : GoodIn wsX9_isThread wsX6_threads := goodIn_r _ [7, 8, 15, 16, 17, 18, 19, 20, 21, 22, 23, 24, 25, 26, 27] (by decide +kernel) (by decide +kernel)
set_option maxRecDepth 20000 in
theorem gX9_isThread_X6_threads : GoodIn wsX9_isThread (wsV RX9 136 RX6 yX6_threads wsX6_threads) := goodIn_app (goodIn_of _ (by decide +kernel)) ggX9_isThread_X6_threads
theorem dX9_isThread_0 : decode cX9_isThread 0 = .ok (.aload_n 0, 1) := by decide +kernel
theorem dX9_isThread_1 : decode cX9_isThread 1 = .ok (.getfield 48, 3) := by decide +kernel
theorem dX9_isThread_4 : decode cX9_isThread 4 = .ok (.ifCond .eq 13, 3) := by decide +kernel
theorem dX9_isThread_7 : decode cX9_isThread 7 = .ok (.aload_n 0, 1) := by decide +kernel
theorem dX9_isThread_8 : decode cX9_isThread 8 = .ok (.getfield 44, 3) := by decide +kernel
theorem dX9_isThread_11 : decode cX9_isThread 11 = .ok (.invokevirtual 136, 3) := by decide +kernel
theorem dX9_isThread_14 : decode cX9_isThread 14 = .ok (.goto 5, 3) := by decide +kernel
theorem dX9_isThread_17 : decode cX9_isThread 17 = .ok (.bipush 6, 2) := by decide +kernel
theorem dX9_isThread_19 : decode cX9_isThread 19 = .ok (.istore_n 2, 1) := by decide +kernel
theorem dX9_isThread_20 : decode cX9_isThread 20 = .ok (.iload_n 1, 1) := by decide +kernel
theorem dX9_isThread_21 : decode cX9_isThread 21 = .ok (.ifCond .lt 12, 3) := by decide +kernel
theorem dX9_isThread_24 : decode cX9_isThread 24 = .ok (.iload_n 1, 1) := by decide +kernel
theorem dX9_isThread_25 : decode cX9_isThread 25 = .ok (.iload_n 2, 1) := by decide +kernel
theorem dX9_isThread_26 : decode cX9_isThread 26 = .ok (.if_icmp .ge 7, 3) := by decide +kernel
theorem dX9_isThread_29 : decode cX9_isThread 29 = .ok (.iconst 1, 1) := by decide +kernel
theorem dX9_isThread_30 : decode cX9_isThread 30 = .ok (.goto 4, 3) := by decide +kernel
theorem dX9_isThread_33 : decode cX9_isThread 33 = .ok (.iconst 0, 1) := by decide +kernel
theorem dX9_isThread_34 : decode cX9_isThread 34 = .ok (.ireturn, 1) := by decide +kernel
theorem dX10_init_0 : decode cX10_init 0 = .ok (.aload_n 0, 1) := by decide +kernel
theorem dX10_init_1 : decode cX10_init 1 = .ok (.invokespecial 1, 3) := by decide +kernel
theorem dX10_init_4 : decode cX10_init 4 = .ok (.aload_n 0, 1) := by decide +kernel
theorem dX10_init_5 : decode cX10_init 5 = .ok (.sipush 160, 3) := by decide +kernel
theorem dX10_init_8 : decode cX10_init 8 = .ok (.newarray .int, 2) := by decide +kernel
theorem dX10_init_10 : decode cX10_init 10 = .ok (.putfield 7, 3) := by decide +kernel
theorem dX10_init_13 : decode cX10_init 13 = .ok (.aload_n 0, 1) := by decide +kernel
theorem dX10_init_14 : decode cX10_init 14 = .ok (.bipush 8, 2) := by decide +kernel
theorem dX10_init_16 : decode cX10_init 16 = .ok (.putfield 13, 3) := by decide +kernel
theorem dX10_init_19 : decode cX10_init 19 = .ok (.aload_n 0, 1) := by decide +kernel
theorem dX10_init_20 : decode cX10_init 20 = .ok (.bipush 16, 2) := by decide +kernel
theorem dX10_init_22 : decode cX10_init 22 = .ok (.putfield 17, 3) := by decide +kernel
theorem dX10_init_25 : decode cX10_init 25 = .ok (.aload_n 0, 1) := by decide +kernel
theorem dX10_init_26 : decode cX10_init 26 = .ok (.bipush 64, 2) := by decide +kernel
theorem dX10_init_28 : decode cX10_init 28 = .ok (.putfield 20, 3) := by decide +kernel
theorem dX10_init_31 : decode cX10_init 31 = .ok (.aload_n 0, 1) := by decide +kernel
theorem dX10_init_32 : decode cX10_init 32 = .ok (.iconst 2, 1) := by decide +kernel
theorem dX10_init_33 : decode cX10_init 33 = .ok (.putfield 23, 3) := by decide +kernel
theorem dX10_init_36 : decode cX10_init 36 = .ok (.aload_n 0, 1) := by decide +kernel
theorem dX10_init_37 : decode cX10_init 37 = .ok (.bipush 40, 2) := by decide +kernel
theorem dX10_init_39 : decode cX10_init 39 = .ok (.newarray .int, 2) := by decide +kernel
theorem dX10_init_41 : decode cX10_init 41 = .ok (.putfield 26, 3) := by decide +kernel
theorem dX10_init_44 : decode cX10_init 44 = .ok (.aload_n 0, 1) := by decide +kernel
theorem dX10_init_45 : decode cX10_init 45 = .ok (.bipush 40, 2) := by decide +kernel
theorem dX10_init_47 : decode cX10_init 47 = .ok (.newarray .int, 2) := by decide +kernel
theorem dX10_init_49 : decode cX10_init 49 = .ok (.putfield 29, 3) := by decide +kernel
theorem dX10_init_52 : decode cX10_init 52 = .ok (.aload_n 0, 1) := by decide +kernel
theorem dX10_init_53 : decode cX10_init 53 = .ok (.bipush 40, 2) := by decide +kernel
theorem dX10_init_55 : decode cX10_init 55 = .ok (.newarray .boolean, 2) := by decide +kernel
theorem dX10_init_57 : decode cX10_init 57 = .ok (.putfield 32, 3) := by decide +kernel
theorem dX10_init_60 : decode cX10_init 60 = .ok (.aload_n 0, 1) := by decide +kernel
theorem dX10_init_61 : decode cX10_init 61 = .ok (.sipush 700, 3) := by decide +kernel
theorem dX10_init_64 : decode cX10_init 64 = .ok (.newarray .int, 2) := by decide +kernel
theorem dX10_init_66 : decode cX10_init 66 = .ok (.putfield 36, 3) := by decide +kernel
theorem dX10_init_69 : decode cX10_init 69 = .ok (.aload_n 0, 1) := by decide +kernel
theorem dX10_init_70 : decode cX10_init 70 = .ok (.bipush 40, 2) := by decide +kernel
theorem dX10_init_72 : decode cX10_init 72 = .ok (.newarray .int, 2) := by decide +kernel
theorem dX10_init_74 : decode cX10_init 74 = .ok (.putfield 39, 3) := by decide +kernel
theorem dX10_init_77 : decode cX10_init 77 = .ok (.aload_n 0, 1) := by decide +kernel
theorem dX10_init_78 : decode cX10_init 78 = .ok (.bipush 40, 2) := by decide +kernel
theorem dX10_init_80 : decode cX10_init 80 = .ok (.newarray .int, 2) := by decide +kernel
theorem dX10_init_82 : decode cX10_init 82 = .ok (.putfield 42, 3) := by decide +kernel
theorem dX10_init_85 : decode cX10_init 85 = .ok (.aload_n 0, 1) := by decide +kernel
theorem dX10_init_86 : decode cX10_init 86 = .ok (.bipush 6, 2) := by decide +kernel
theorem dX10_init_88 : decode cX10_init 88 = .ok (.newarray .int, 2) := by decide +kernel
theorem dX10_init_90 : decode cX10_init 90 = .ok (.putfield 45, 3) := by decide +kernel
theorem dX10_init_93 : decode cX10_init 93 = .ok (.aload_n 0, 1) := by decide +kernel
theorem dX10_init_94 : decode cX10_init 94 = .ok (.bipush 6, 2) := by decide +kernel
theorem dX10_init_96 : decode cX10_init 96 = .ok (.newarray .int, 2) := by decide +kernel
theorem dX10_init_98 : decode cX10_init 98 = .ok (.putfield 48, 3) := by decide +kernel
theorem dX10_init_101 : decode cX10_init 101 = .ok (.aload_n 0, 1) := by decide +kernel
theorem dX10_init_102 : decode cX10_init 102 = .ok (.bipush 6, 2) := by decide +kernel
theorem dX10_init_104 : decode cX10_init 104 = .ok (.newarray .int, 2) := by decide +kernel
theorem dX10_init_106 : decode cX10_init 106 = .ok (.putfield 51, 3) := by decide +kernel
theorem dX10_init_109 : decode cX10_init 109 = .ok (.aload_n 0, 1) := by decide +kernel
theorem dX10_init_110 : decode cX10_init 110 = .ok (.bipush 6, 2) := by decide +kernel
theorem dX10_init_112 : decode cX10_init 112 = .ok (.newarray .int, 2) := by decide +kernel
theorem dX10_init_114 : decode cX10_init 114 = .ok (.putfield 54, 3) := by decide +kernel
theorem dX10_init_117 : decode cX10_init 117 = .ok (.aload_n 0, 1) := by decide +kernel
theorem dX10_init_118 : decode cX10_init 118 = .ok (.bipush 6, 2) := by decide +kernel
theorem dX10_init_120 : decode cX10_init 120 = .ok (.newarray .int, 2) := by decide +kernel
theorem dX10_init_122 : decode cX10_init 122 = .ok (.putfield 57, 3) := by decide +kernel
theorem dX10_init_125 : decode cX10_init 125 = .ok (.aload_n 0, 1) := by decide +kernel
theorem dX10_init_126 : decode cX10_init 126 = .ok (.bipush 6, 2) := by decide +kernel
theorem dX10_init_128 : decode cX10_init 128 = .ok (.newarray .boolean, 2) := by decide +kernel
theorem dX10_init_130 : decode cX10_init 130 = .ok (.putfield 60, 3) := by decide +kernel
theorem dX10_init_133 : decode cX10_init 133 = .ok (.aload_n 0, 1) := by decide +kernel
theorem dX10_init_134 : decode cX10_init 134 = .ok (.bipush 40, 2) := by decide +kernel
theorem dX10_init_136 : decode cX10_init 136 = .ok (.newarray .boolean, 2) := by decide +kernel
theorem dX10_init_138 : decode cX10_init 138 = .ok (.putfield 63, 3) := by decide +kernel
theorem dX10_init_141 : decode cX10_init 141 = .ok (.aload_n 0, 1) := by decide +kernel
theorem dX10_init_142 : decode cX10_init 142 = .ok (.bipush 40, 2) := by decide +kernel
theorem dX10_init_144 : decode cX10_init 144 = .ok (.newarray .int, 2) := by decide +kernel
theorem dX10_init_146 : decode cX10_init 146 = .ok (.putfield 66, 3) := by decide +kernel
theorem dX10_init_149 : decode cX10_init 149 = .ok (.aload_n 0, 1) := by decide +kernel
theorem dX10_init_150 : decode cX10_init 150 = .ok (.bipush 40, 2) := by decide +kernel
theorem dX10_init_152 : decode cX10_init 152 = .ok (.newarray .boolean, 2) := by decide +kernel
theorem dX10_init_154 : decode cX10_init 154 = .ok (.putfield 69, 3) := by decide +kernel
theorem dX10_init_157 : decode cX10_init 157 = .ok (.aload_n 0, 1) := by decide +kernel
theorem dX10_init_158 : decode cX10_init 158 = .ok (.bipush 6, 2) := by decide +kernel
theorem dX10_init_160 : decode cX10_init 160 = .ok (.newarray .int, 2) := by decide +kernel
theorem dX10_init_162 : decode cX10_init 162 = .ok (.putfield 72, 3) := by decide +kernel
theorem dX10_init_165 : decode cX10_init 165 = .ok (.aload_n 0, 1) := by decide +kernel
theorem dX10_init_166 : decode cX10_init 166 = .ok (.iconst 0, 1) := by decide +kernel
theorem dX10_init_167 : decode cX10_init 167 = .ok (.putfield 75, 3) := by decide +kernel
theorem dX10_init_170 : decode cX10_init 170 = .ok (.return_, 1) := by decide +kernel
theorem dX10_in_0 : decode cX10_in 0 = .ok (.iload_n 0, 1) := by decide +kernel
theorem dX10_in_1 : decode cX10_in 1 = .ok (.iload_n 1, 1) := by decide +kernel
theorem dX10_in_2 : decode cX10_in 2 = .ok (.if_icmp .lt 12, 3) := by decide +kernel
theorem dX10_in_5 : decode cX10_in 5 = .ok (.iload_n 0, 1) := by decide +kernel
theorem dX10_in_6 : decode cX10_in 6 = .ok (.iload_n 2, 1) := by decide +kernel
theorem dX10_in_7 : decode cX10_in 7 = .ok (.if_icmp .gt 7, 3) := by decide +kernel
theorem dX10_in_10 : decode cX10_in 10 = .ok (.iconst 1, 1) := by decide +kernel
theorem dX10_in_11 : decode cX10_in 11 = .ok (.goto 4, 3) := by decide +kernel
theorem dX10_in_14 : decode cX10_in 14 = .ok (.iconst 0, 1) := by decide +kernel
theorem dX10_in_15 : decode cX10_in 15 = .ok (.ireturn, 1) := by decide +kernel
set_option maxRecDepth 20000 in
theorem ggX10_type_X10_in : GoodIn wsX10_type wsX10_in := goodIn_r _ [8] (by decide +kernel) (by decide +kernel)
set_option maxRecDepth 20000 in
theorem gX10_type_X10_in : GoodIn wsX10_type (va_wsS RX10 78 yX10_in wsX10_in) := goodIn_app (goodIn_of _ (by decide +kernel)) ggX10_type_X10_in
theorem dX10_type_0 : decode cX10_type 0 = .ok (.iload_n 1, 1) := by decide +kernel
theorem dX10_type_1 : decode cX10_type 1 = .ok (.iconst 0, 1) := by decide +kernel
theorem dX10_type_2 : decode cX10_type 2 = .ok (.sipush 255, 3) := by decide +kernel
theorem dX10_type_5 : decode cX10_type 5 = .ok (.invokestatic 78, 3) := by decide +kernel
theorem dX10_type_8 : decode cX10_type 8 = .ok (.ifCond .ne 6, 3) := by decide +kernel
theorem dX10_type_11 : decode cX10_type 11 = .ok (.bipush (-2), 2) := by decide +kernel
theorem dX10_type_13 : decode cX10_type 13 = .ok (.ireturn, 1) := by decide +kernel
theorem dX10_type_14 : decode cX10_type 14 = .ok (.aload_n 0, 1) := by decide +kernel
theorem dX10_type_15 : decode cX10_type 15 = .ok (.getfield 82, 3) := by decide +kernel
theorem dX10_type_18 : decode cX10_type 18 = .ok (.ifCond .eq 6, 3) := by decide +kernel
theorem dX10_type_21 : decode cX10_type 21 = .ok (.bipush (-3), 2) := by decide +kernel
theorem dX10_type_23 : decode cX10_type 23 = .ok (.ireturn, 1) := by decide +kernel
theorem dX10_type_24 : decode cX10_type 24 = .ok (.aload_n 0, 1) := by decide +kernel
theorem dX10_type_25 : decode cX10_type 25 = .ok (.getfield 75, 3) := by decide +kernel
theorem dX10_type_28 : decode cX10_type 28 = .ok (.sipush 160, 3) := by decide +kernel
theorem dX10_type_31 : decode cX10_type 31 = .ok (.if_icmp .ne 6, 3) := by decide +kernel
theorem dX10_type_34 : decode cX10_type 34 = .ok (.bipush (-4), 2) := by decide +kernel
theorem dX10_type_36 : decode cX10_type 36 = .ok (.ireturn, 1) := by decide +kernel
theorem dX10_type_37 : decode cX10_type 37 = .ok (.aload_n 0, 1) := by decide +kernel
theorem dX10_type_38 : decode cX10_type 38 = .ok (.getfield 7, 3) := by decide +kernel
theorem dX10_type_41 : decode cX10_type 41 = .ok (.aload_n 0, 1) := by decide +kernel
theorem dX10_type_42 : decode cX10_type 42 = .ok (.getfield 75, 3) := by decide +kernel
theorem dX10_type_45 : decode cX10_type 45 = .ok (.iload_n 1, 1) := by decide +kernel
theorem dX10_type_46 : decode cX10_type 46 = .ok (.iastore, 1) := by decide +kernel
theorem dX10_type_47 : decode cX10_type 47 = .ok (.aload_n 0, 1) := by decide +kernel
theorem dX10_type_48 : decode cX10_type 48 = .ok (.dup, 1) := by decide +kernel
theorem dX10_type_49 : decode cX10_type 49 = .ok (.getfield 75, 3) := by decide +kernel
theorem dX10_type_52 : decode cX10_type 52 = .ok (.iconst 1, 1) := by decide +kernel
theorem dX10_type_53 : decode cX10_type 53 = .ok (.iadd, 1) := by decide +kernel
theorem dX10_type_54 : decode cX10_type 54 = .ok (.putfield 75, 3) := by decide +kernel
theorem dX10_type_57 : decode cX10_type 57 = .ok (.aload_n 0, 1) := by decide +kernel
theorem dX10_type_58 : decode cX10_type 58 = .ok (.iconst 0, 1) := by decide +kernel
theorem dX10_type_59 : decode cX10_type 59 = .ok (.putfield 86, 3) := by decide +kernel
theorem dX10_type_62 : decode cX10_type 62 = .ok (.aload_n 0, 1) := by decide +kernel
theorem dX10_type_63 : decode cX10_type 63 = .ok (.getfield 75, 3) := by decide +kernel
theorem dX10_type_66 : decode cX10_type 66 = .ok (.ireturn, 1) := by decide +kernel
set_option maxRecDepth 20000 in
theorem ggX10_set_X10_in : GoodIn wsX10_set wsX10_in := goodIn_r _ [10] (by decide +kernel) (by decide +kernel)
set_option maxRecDepth 20000 in
theorem gX10_set_X10_in : GoodIn wsX10_set (va_wsS RX10 78 yX10_in wsX10_in) := goodIn_app (goodIn_of _ (by decide +kernel)) ggX10_set_X10_in
theorem dX10_set_0 : decode cX10_set 0 = .ok (.iload_n 1, 1) := by decide +kernel
theorem dX10_set_1 : decode cX10_set 1 = .ok (.ifCond .ne 13, 3) := by decide +kernel
theorem dX10_set_4 : decode cX10_set 4 = .ok (.iload_n 2, 1) := by decide +kernel
theorem dX10_set_5 : decode cX10_set 5 = .ok (.iconst 4, 1) := by decide +kernel
theorem dX10_set_6 : decode cX10_set 6 = .ok (.bipush 32, 2) := by decide +kernel
theorem dX10_set_8 : decode cX10_set 8 = .ok (.invokestatic 78, 3) := by decide +kernel
theorem dX10_set_11 : decode cX10_set 11 = .ok (.goto 55, 3) := by decide +kernel
theorem dX10_set_14 : decode cX10_set 14 = .ok (.iload_n 1, 1) := by decide +kernel
theorem dX10_set_15 : decode cX10_set 15 = .ok (.iconst 1, 1) := by decide +kernel
theorem dX10_set_16 : decode cX10_set 16 = .ok (.if_icmp .ne 13, 3) := by decide +kernel
theorem dX10_set_19 : decode cX10_set 19 = .ok (.iload_n 2, 1) := by decide +kernel
theorem dX10_set_20 : decode cX10_set 20 = .ok (.iconst 0, 1) := by decide +kernel
theorem dX10_set_21 : decode cX10_set 21 = .ok (.bipush 64, 2) := by decide +kernel
theorem dX10_set_23 : decode cX10_set 23 = .ok (.invokestatic 78, 3) := by decide +kernel
theorem dX10_set_26 : decode cX10_set 26 = .ok (.goto 40, 3) := by decide +kernel
theorem dX10_set_29 : decode cX10_set 29 = .ok (.iload_n 1, 1) := by decide +kernel
theorem dX10_set_30 : decode cX10_set 30 = .ok (.iconst 2, 1) := by decide +kernel
theorem dX10_set_31 : decode cX10_set 31 = .ok (.if_icmp .ne 15, 3) := by decide +kernel
theorem dX10_set_34 : decode cX10_set 34 = .ok (.iload_n 2, 1) := by decide +kernel
theorem dX10_set_35 : decode cX10_set 35 = .ok (.bipush 32, 2) := by decide +kernel
theorem dX10_set_37 : decode cX10_set 37 = .ok (.sipush 200, 3) := by decide +kernel
theorem dX10_set_40 : decode cX10_set 40 = .ok (.invokestatic 78, 3) := by decide +kernel
theorem dX10_set_43 : decode cX10_set 43 = .ok (.goto 23, 3) := by decide +kernel
theorem dX10_set_46 : decode cX10_set 46 = .ok (.iload_n 1, 1) := by decide +kernel
theorem dX10_set_47 : decode cX10_set 47 = .ok (.iconst 3, 1) := by decide +kernel
theorem dX10_set_48 : decode cX10_set 48 = .ok (.if_icmp .ne 17, 3) := by decide +kernel
theorem dX10_set_51 : decode cX10_set 51 = .ok (.iload_n 2, 1) := by decide +kernel
theorem dX10_set_52 : decode cX10_set 52 = .ok (.iconst 1, 1) := by decide +kernel
theorem dX10_set_53 : decode cX10_set 53 = .ok (.bipush 8, 2) := by decide +kernel
theorem dX10_set_55 : decode cX10_set 55 = .ok (.invokestatic 78, 3) := by decide +kernel
theorem dX10_set_58 : decode cX10_set 58 = .ok (.ifCond .eq 7, 3) := by decide +kernel
theorem dX10_set_61 : decode cX10_set 61 = .ok (.iconst 1, 1) := by decide +kernel
theorem dX10_set_62 : decode cX10_set 62 = .ok (.goto 4, 3) := by decide +kernel
theorem dX10_set_65 : decode cX10_set 65 = .ok (.iconst 0, 1) := by decide +kernel
theorem dX10_set_66 : decode cX10_set 66 = .ok (.istore_n 3, 1) := by decide +kernel
theorem dX10_set_67 : decode cX10_set 67 = .ok (.iload_n 3, 1) := by decide +kernel
theorem dX10_set_68 : decode cX10_set 68 = .ok (.ifCond .ne 6, 3) := by decide +kernel
theorem dX10_set_71 : decode cX10_set 71 = .ok (.bipush (-2), 2) := by decide +kernel
theorem dX10_set_73 : decode cX10_set 73 = .ok (.ireturn, 1) := by decide +kernel
theorem dX10_set_74 : decode cX10_set 74 = .ok (.aload_n 0, 1) := by decide +kernel
theorem dX10_set_75 : decode cX10_set 75 = .ok (.getfield 82, 3) := by decide +kernel
theorem dX10_set_78 : decode cX10_set 78 = .ok (.ifCond .eq 6, 3) := by decide +kernel
theorem dX10_set_81 : decode cX10_set 81 = .ok (.bipush (-3), 2) := by decide +kernel
theorem dX10_set_83 : decode cX10_set 83 = .ok (.ireturn, 1) := by decide +kernel
theorem dX10_set_84 : decode cX10_set 84 = .ok (.iload_n 1, 1) := by decide +kernel
theorem dX10_set_85 : decode cX10_set 85 = .ok (.ifCond .ne 10, 3) := by decide +kernel
theorem dX10_set_88 : decode cX10_set 88 = .ok (.aload_n 0, 1) := by decide +kernel
theorem dX10_set_89 : decode cX10_set 89 = .ok (.getfield 13, 3) := by decide +kernel
theorem dX10_set_92 : decode cX10_set 92 = .ok (.goto 31, 3) := by decide +kernel
theorem dX10_set_95 : decode cX10_set 95 = .ok (.iload_n 1, 1) := by decide +kernel
theorem dX10_set_96 : decode cX10_set 96 = .ok (.iconst 1, 1) := by decide +kernel
theorem dX10_set_97 : decode cX10_set 97 = .ok (.if_icmp .ne 10, 3) := by decide +kernel
theorem dX10_set_100 : decode cX10_set 100 = .ok (.aload_n 0, 1) := by decide +kernel
theorem dX10_set_101 : decode cX10_set 101 = .ok (.getfield 17, 3) := by decide +kernel
theorem dX10_set_104 : decode cX10_set 104 = .ok (.goto 19, 3) := by decide +kernel
theorem dX10_set_107 : decode cX10_set 107 = .ok (.iload_n 1, 1) := by decide +kernel
theorem dX10_set_108 : decode cX10_set 108 = .ok (.iconst 2, 1) := by decide +kernel
theorem dX10_set_109 : decode cX10_set 109 = .ok (.if_icmp .ne 10, 3) := by decide +kernel
theorem dX10_set_112 : decode cX10_set 112 = .ok (.aload_n 0, 1) := by decide +kernel
theorem dX10_set_113 : decode cX10_set 113 = .ok (.getfield 20, 3) := by decide +kernel
theorem dX10_set_116 : decode cX10_set 116 = .ok (.goto 7, 3) := by decide +kernel
theorem dX10_set_119 : decode cX10_set 119 = .ok (.aload_n 0, 1) := by decide +kernel
theorem dX10_set_120 : decode cX10_set 120 = .ok (.getfield 23, 3) := by decide +kernel
theorem dX10_set_123 : decode cX10_set 123 = .ok (.istore 4, 2) := by decide +kernel
theorem dX10_set_125 : decode cX10_set 125 = .ok (.aload_n 0, 1) := by decide +kernel
theorem dX10_set_126 : decode cX10_set 126 = .ok (.iload_n 1, 1) := by decide +kernel
theorem dX10_set_127 : decode cX10_set 127 = .ok (.ifCond .ne 7, 3) := by decide +kernel
theorem dX10_set_130 : decode cX10_set 130 = .ok (.iload_n 2, 1) := by decide +kernel
theorem dX10_set_131 : decode cX10_set 131 = .ok (.goto 7, 3) := by decide +kernel
theorem dX10_set_134 : decode cX10_set 134 = .ok (.aload_n 0, 1) := by decide +kernel
theorem dX10_set_135 : decode cX10_set 135 = .ok (.getfield 13, 3) := by decide +kernel
theorem dX10_set_138 : decode cX10_set 138 = .ok (.putfield 13, 3) := by decide +kernel
theorem dX10_set_141 : decode cX10_set 141 = .ok (.aload_n 0, 1) := by decide +kernel
theorem dX10_set_142 : decode cX10_set 142 = .ok (.iload_n 1, 1) := by decide +kernel
theorem dX10_set_143 : decode cX10_set 143 = .ok (.iconst 1, 1) := by decide +kernel
theorem dX10_set_144 : decode cX10_set 144 = .ok (.if_icmp .ne 7, 3) := by decide +kernel
theorem dX10_set_147 : decode cX10_set 147 = .ok (.iload_n 2, 1) := by decide +kernel
theorem dX10_set_148 : decode cX10_set 148 = .ok (.goto 7, 3) := by decide +kernel
theorem dX10_set_151 : decode cX10_set 151 = .ok (.aload_n 0, 1) := by decide +kernel
theorem dX10_set_152 : decode cX10_set 152 = .ok (.getfield 17, 3) := by decide +kernel
theorem dX10_set_155 : decode cX10_set 155 = .ok (.putfield 17, 3) := by decide +kernel
theorem dX10_set_158 : decode cX10_set 158 = .ok (.aload_n 0, 1) := by decide +kernel
theorem dX10_set_159 : decode cX10_set 159 = .ok (.iload_n 1, 1) := by decide +kernel
theorem dX10_set_160 : decode cX10_set 160 = .ok (.iconst 2, 1) := by decide +kernel
theorem dX10_set_161 : decode cX10_set 161 = .ok (.if_icmp .ne 7, 3) := by decide +kernel
theorem dX10_set_164 : decode cX10_set 164 = .ok (.iload_n 2, 1) := by decide +kernel
theorem dX10_set_165 : decode cX10_set 165 = .ok (.goto 7, 3) := by decide +kernel
theorem dX10_set_168 : decode cX10_set 168 = .ok (.aload_n 0, 1) := by decide +kernel
theorem dX10_set_169 : decode cX10_set 169 = .ok (.getfield 20, 3) := by decide +kernel
theorem dX10_set_172 : decode cX10_set 172 = .ok (.putfield 20, 3) := by decide +kernel
theorem dX10_set_175 : decode cX10_set 175 = .ok (.aload_n 0, 1) := by decide +kernel
theorem dX10_set_176 : decode cX10_set 176 = .ok (.iload_n 1, 1) := by decide +kernel
theorem dX10_set_177 : decode cX10_set 177 = .ok (.iconst 3, 1) := by decide +kernel
theorem dX10_set_178 : decode cX10_set 178 = .ok (.if_icmp .ne 7, 3) := by decide +kernel
theorem dX10_set_181 : decode cX10_set 181 = .ok (.iload_n 2, 1) := by decide +kernel
theorem dX10_set_182 : decode cX10_set 182 = .ok (.goto 7, 3) := by decide +kernel
theorem dX10_set_185 : decode cX10_set 185 = .ok (.aload_n 0, 1) := by decide +kernel
theorem dX10_set_186 : decode cX10_set 186 = .ok (.getfield 23, 3) := by decide +kernel
theorem dX10_set_189 : decode cX10_set 189 = .ok (.putfield 23, 3) := by decide +kernel
theorem dX10_set_192 : decode cX10_set 192 = .ok (.aload_n 0, 1) := by decide +kernel
theorem dX10_set_193 : decode cX10_set 193 = .ok (.iconst 0, 1) := by decide +kernel
theorem dX10_set_194 : decode cX10_set 194 = .ok (.putfield 86, 3) := by decide +kernel
theorem dX10_set_197 : decode cX10_set 197 = .ok (.iload 4, 2) := by decide +kernel
theorem dX10_set_199 : decode cX10_set 199 = .ok (.ireturn, 1) := by decide +kernel
set_option maxRecDepth 20000 in
theorem ggX10_plant_X10_in : GoodIn wsX10_plant wsX10_in := goodIn_r _ [8] (by decide +kernel) (by decide +kernel)
set_option maxRecDepth 20000 in
theorem gX10_plant_X10_in : GoodIn wsX10_plant (va_wsS RX10 78 yX10_in wsX10_in) := goodIn_app (goodIn_of _ (by decide +kernel)) ggX10_plant_X10_in
theorem dX10_plant_0 : decode cX10_plant 0 = .ok (.iload_n 1, 1) := by decide +kernel
theorem dX10_plant_1 : decode cX10_plant 1 = .ok (.iconst 0, 1) := by decide +kernel
theorem dX10_plant_2 : decode cX10_plant 2 = .ok (.bipush 39, 2) := by decide +kernel
theorem dX10_plant_4 : decode cX10_plant 4 = .ok (.invokestatic 78, 3) := by decide +kernel
theorem dX10_plant_7 : decode cX10_plant 7 = .ok (.ifCond .eq 23, 3) := by decide +kernel
theorem dX10_plant_10 : decode cX10_plant 10 = .ok (.iload_n 2, 1) := by decide +kernel
theorem dX10_plant_11 : decode cX10_plant 11 = .ok (.iconst 0, 1) := by decide +kernel
theorem dX10_plant_12 : decode cX10_plant 12 = .ok (.bipush 31, 2) := by decide +kernel
theorem dX10_plant_14 : decode cX10_plant 14 = .ok (.invokestatic 78, 3) := by decide +kernel
theorem dX10_plant_17 : decode cX10_plant 17 = .ok (.ifCond .eq 13, 3) := by decide +kernel
theorem dX10_plant_20 : decode cX10_plant 20 = .ok (.iload_n 3, 1) := by decide +kernel
theorem dX10_plant_21 : decode cX10_plant 21 = .ok (.iconst 1, 1) := by decide +kernel
theorem dX10_plant_22 : decode cX10_plant 22 = .ok (.bipush 6, 2) := by decide +kernel
theorem dX10_plant_24 : decode cX10_plant 24 = .ok (.invokestatic 78, 3) := by decide +kernel
theorem dX10_plant_27 : decode cX10_plant 27 = .ok (.ifCond .ne 6, 3) := by decide +kernel
theorem dX10_plant_30 : decode cX10_plant 30 = .ok (.bipush (-2), 2) := by decide +kernel
theorem dX10_plant_32 : decode cX10_plant 32 = .ok (.ireturn, 1) := by decide +kernel
theorem dX10_plant_33 : decode cX10_plant 33 = .ok (.aload_n 0, 1) := by decide +kernel
theorem dX10_plant_34 : decode cX10_plant 34 = .ok (.getfield 82, 3) := by decide +kernel
theorem dX10_plant_37 : decode cX10_plant 37 = .ok (.ifCond .eq 6, 3) := by decide +kernel
theorem dX10_plant_40 : decode cX10_plant 40 = .ok (.bipush (-3), 2) := by decide +kernel
theorem dX10_plant_42 : decode cX10_plant 42 = .ok (.ireturn, 1) := by decide +kernel
theorem dX10_plant_43 : decode cX10_plant 43 = .ok (.aload_n 0, 1) := by decide +kernel
theorem dX10_plant_44 : decode cX10_plant 44 = .ok (.getfield 26, 3) := by decide +kernel
theorem dX10_plant_47 : decode cX10_plant 47 = .ok (.iload_n 1, 1) := by decide +kernel
theorem dX10_plant_48 : decode cX10_plant 48 = .ok (.iload_n 3, 1) := by decide +kernel
theorem dX10_plant_49 : decode cX10_plant 49 = .ok (.iastore, 1) := by decide +kernel
theorem dX10_plant_50 : decode cX10_plant 50 = .ok (.aload_n 0, 1) := by decide +kernel
theorem dX10_plant_51 : decode cX10_plant 51 = .ok (.getfield 29, 3) := by decide +kernel
theorem dX10_plant_54 : decode cX10_plant 54 = .ok (.iload_n 1, 1) := by decide +kernel
theorem dX10_plant_55 : decode cX10_plant 55 = .ok (.iload_n 2, 1) := by decide +kernel
theorem dX10_plant_56 : decode cX10_plant 56 = .ok (.iastore, 1) := by decide +kernel
theorem dX10_plant_57 : decode cX10_plant 57 = .ok (.aload_n 0, 1) := by decide +kernel
theorem dX10_plant_58 : decode cX10_plant 58 = .ok (.getfield 32, 3) := by decide +kernel
theorem dX10_plant_61 : decode cX10_plant 61 = .ok (.iload_n 1, 1) := by decide +kernel
theorem dX10_plant_62 : decode cX10_plant 62 = .ok (.iload 4, 2) := by decide +kernel
theorem dX10_plant_64 : decode cX10_plant 64 = .ok (.bastore, 1) := by decide +kernel
theorem dX10_plant_65 : decode cX10_plant 65 = .ok (.iconst 1, 1) := by decide +kernel
theorem dX10_plant_66 : decode cX10_plant 66 = .ok (.ireturn, 1) := by decide +kernel
theorem dX10_many_0 : decode cX10_many 0 = .ok (.aload_n 0, 1) := by decide +kernel
theorem dX10_many_1 : decode cX10_many 1 = .ok (.getfield 75, 3) := by decide +kernel
theorem dX10_many_4 : decode cX10_many 4 = .ok (.aload_n 0, 1) := by decide +kernel
theorem dX10_many_5 : decode cX10_many 5 = .ok (.getfield 13, 3) := by decide +kernel
theorem dX10_many_8 : decode cX10_many 8 = .ok (.iadd, 1) := by decide +kernel
theorem dX10_many_9 : decode cX10_many 9 = .ok (.iconst 1, 1) := by decide +kernel
theorem dX10_many_10 : decode cX10_many 10 = .ok (.isub, 1) := by decide +kernel
theorem dX10_many_11 : decode cX10_many 11 = .ok (.aload_n 0, 1) := by decide +kernel
theorem dX10_many_12 : decode cX10_many 12 = .ok (.getfield 13, 3) := by decide +kernel
theorem dX10_many_15 : decode cX10_many 15 = .ok (.idiv, 1) := by decide +kernel
theorem dX10_many_16 : decode cX10_many 16 = .ok (.ireturn, 1) := by decide +kernel
theorem dX10_lengthOf_0 : decode cX10_lengthOf 0 = .ok (.aload_n 0, 1) := by decide +kernel
theorem dX10_lengthOf_1 : decode cX10_lengthOf 1 = .ok (.getfield 75, 3) := by decide +kernel
theorem dX10_lengthOf_4 : decode cX10_lengthOf 4 = .ok (.iload_n 1, 1) := by decide +kernel
theorem dX10_lengthOf_5 : decode cX10_lengthOf 5 = .ok (.aload_n 0, 1) := by decide +kernel
theorem dX10_lengthOf_6 : decode cX10_lengthOf 6 = .ok (.getfield 13, 3) := by decide +kernel
theorem dX10_lengthOf_9 : decode cX10_lengthOf 9 = .ok (.imul, 1) := by decide +kernel
theorem dX10_lengthOf_10 : decode cX10_lengthOf 10 = .ok (.isub, 1) := by decide +kernel
theorem dX10_lengthOf_11 : decode cX10_lengthOf 11 = .ok (.istore_n 2, 1) := by decide +kernel
theorem dX10_lengthOf_12 : decode cX10_lengthOf 12 = .ok (.iload_n 2, 1) := by decide +kernel
theorem dX10_lengthOf_13 : decode cX10_lengthOf 13 = .ok (.aload_n 0, 1) := by decide +kernel
theorem dX10_lengthOf_14 : decode cX10_lengthOf 14 = .ok (.getfield 13, 3) := by decide +kernel
theorem dX10_lengthOf_17 : decode cX10_lengthOf 17 = .ok (.if_icmp .ge 7, 3) := by decide +kernel
theorem dX10_lengthOf_20 : decode cX10_lengthOf 20 = .ok (.iload_n 2, 1) := by decide +kernel
theorem dX10_lengthOf_21 : decode cX10_lengthOf 21 = .ok (.goto 7, 3) := by decide +kernel
theorem dX10_lengthOf_24 : decode cX10_lengthOf 24 = .ok (.aload_n 0, 1) := by decide +kernel
theorem dX10_lengthOf_25 : decode cX10_lengthOf 25 = .ok (.getfield 13, 3) := by decide +kernel
theorem dX10_lengthOf_28 : decode cX10_lengthOf 28 = .ok (.ireturn, 1) := by decide +kernel
theorem dX10_alike_0 : decode cX10_alike 0 = .ok (.iconst 0, 1) := by decide +kernel
theorem dX10_alike_1 : decode cX10_alike 1 = .ok (.istore 4, 2) := by decide +kernel
theorem dX10_alike_3 : decode cX10_alike 3 = .ok (.iload_n 1, 1) := by decide +kernel
theorem dX10_alike_4 : decode cX10_alike 4 = .ok (.iload 4, 2) := by decide +kernel
theorem dX10_alike_6 : decode cX10_alike 6 = .ok (.iadd, 1) := by decide +kernel
theorem dX10_alike_7 : decode cX10_alike 7 = .ok (.iload_n 2, 1) := by decide +kernel
theorem dX10_alike_8 : decode cX10_alike 8 = .ok (.if_icmp .ge 32, 3) := by decide +kernel
