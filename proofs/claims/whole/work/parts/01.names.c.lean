theorem dX5_allows_20 : decode cX5_allows 20 = .ok (.iload_n 2, 1) := by decide +kernel
theorem dX5_allows_21 : decode cX5_allows 21 = .ok (.getstatic 22, 3) := by decide +kernel
theorem dX5_allows_24 : decode cX5_allows 24 = .ok (.iload_n 1, 1) := by decide +kernel
theorem dX5_allows_25 : decode cX5_allows 25 = .ok (.iaload, 1) := by decide +kernel
theorem dX5_allows_26 : decode cX5_allows 26 = .ok (.if_icmp .lt 16, 3) := by decide +kernel
theorem dX5_allows_29 : decode cX5_allows 29 = .ok (.iload_n 2, 1) := by decide +kernel
theorem dX5_allows_30 : decode cX5_allows 30 = .ok (.getstatic 26, 3) := by decide +kernel
theorem dX5_allows_33 : decode cX5_allows 33 = .ok (.iload_n 1, 1) := by decide +kernel
theorem dX5_allows_34 : decode cX5_allows 34 = .ok (.iaload, 1) := by decide +kernel
theorem dX5_allows_35 : decode cX5_allows 35 = .ok (.if_icmp .gt 7, 3) := by decide +kernel
theorem dX5_allows_38 : decode cX5_allows 38 = .ok (.iconst 1, 1) := by decide +kernel
theorem dX5_allows_39 : decode cX5_allows 39 = .ok (.goto 4, 3) := by decide +kernel
theorem dX5_allows_42 : decode cX5_allows 42 = .ok (.iconst 0, 1) := by decide +kernel
theorem dX5_allows_43 : decode cX5_allows 43 = .ok (.ireturn, 1) := by decide +kernel
theorem dX5_replace_0 : decode cX5_replace 0 = .ok (.iload_n 1, 1) := by decide +kernel
theorem dX5_replace_1 : decode cX5_replace 1 = .ok (.tableswitch 63 0 2 #[27, 39, 51], 27) := by decide +kernel
theorem dX5_replace_28 : decode cX5_replace 28 = .ok (.aload_n 0, 1) := by decide +kernel
theorem dX5_replace_29 : decode cX5_replace 29 = .ok (.getfield 7, 3) := by decide +kernel
theorem dX5_replace_32 : decode cX5_replace 32 = .ok (.istore_n 3, 1) := by decide +kernel
theorem dX5_replace_33 : decode cX5_replace 33 = .ok (.aload_n 0, 1) := by decide +kernel
theorem dX5_replace_34 : decode cX5_replace 34 = .ok (.iload_n 2, 1) := by decide +kernel
theorem dX5_replace_35 : decode cX5_replace 35 = .ok (.putfield 7, 3) := by decide +kernel
theorem dX5_replace_38 : decode cX5_replace 38 = .ok (.iload_n 3, 1) := by decide +kernel
theorem dX5_replace_39 : decode cX5_replace 39 = .ok (.ireturn, 1) := by decide +kernel
theorem dX5_replace_40 : decode cX5_replace 40 = .ok (.aload_n 0, 1) := by decide +kernel
theorem dX5_replace_41 : decode cX5_replace 41 = .ok (.getfield 13, 3) := by decide +kernel
theorem dX5_replace_44 : decode cX5_replace 44 = .ok (.istore_n 3, 1) := by decide +kernel
theorem dX5_replace_45 : decode cX5_replace 45 = .ok (.aload_n 0, 1) := by decide +kernel
theorem dX5_replace_46 : decode cX5_replace 46 = .ok (.iload_n 2, 1) := by decide +kernel
theorem dX5_replace_47 : decode cX5_replace 47 = .ok (.putfield 13, 3) := by decide +kernel
theorem dX5_replace_50 : decode cX5_replace 50 = .ok (.iload_n 3, 1) := by decide +kernel
theorem dX5_replace_51 : decode cX5_replace 51 = .ok (.ireturn, 1) := by decide +kernel
theorem dX5_replace_52 : decode cX5_replace 52 = .ok (.aload_n 0, 1) := by decide +kernel
theorem dX5_replace_53 : decode cX5_replace 53 = .ok (.getfield 16, 3) := by decide +kernel
theorem dX5_replace_56 : decode cX5_replace 56 = .ok (.istore_n 3, 1) := by decide +kernel
theorem dX5_replace_57 : decode cX5_replace 57 = .ok (.aload_n 0, 1) := by decide +kernel
theorem dX5_replace_58 : decode cX5_replace 58 = .ok (.iload_n 2, 1) := by decide +kernel
theorem dX5_replace_59 : decode cX5_replace 59 = .ok (.putfield 16, 3) := by decide +kernel
theorem dX5_replace_62 : decode cX5_replace 62 = .ok (.iload_n 3, 1) := by decide +kernel
theorem dX5_replace_63 : decode cX5_replace 63 = .ok (.ireturn, 1) := by decide +kernel
theorem dX5_replace_64 : decode cX5_replace 64 = .ok (.aload_n 0, 1) := by decide +kernel
theorem dX5_replace_65 : decode cX5_replace 65 = .ok (.getfield 19, 3) := by decide +kernel
theorem dX5_replace_68 : decode cX5_replace 68 = .ok (.istore_n 3, 1) := by decide +kernel
theorem dX5_replace_69 : decode cX5_replace 69 = .ok (.aload_n 0, 1) := by decide +kernel
theorem dX5_replace_70 : decode cX5_replace 70 = .ok (.iload_n 2, 1) := by decide +kernel
theorem dX5_replace_71 : decode cX5_replace 71 = .ok (.putfield 19, 3) := by decide +kernel
theorem dX5_replace_74 : decode cX5_replace 74 = .ok (.iload_n 3, 1) := by decide +kernel
theorem dX5_replace_75 : decode cX5_replace 75 = .ok (.ireturn, 1) := by decide +kernel
theorem dX5_size_0 : decode cX5_size 0 = .ok (.aload_n 0, 1) := by decide +kernel
theorem dX5_size_1 : decode cX5_size 1 = .ok (.getfield 7, 3) := by decide +kernel
theorem dX5_size_4 : decode cX5_size 4 = .ok (.ireturn, 1) := by decide +kernel
theorem dX5_window_0 : decode cX5_window 0 = .ok (.aload_n 0, 1) := by decide +kernel
theorem dX5_window_1 : decode cX5_window 1 = .ok (.getfield 13, 3) := by decide +kernel
theorem dX5_window_4 : decode cX5_window 4 = .ok (.ireturn, 1) := by decide +kernel
theorem dX5_cells_0 : decode cX5_cells 0 = .ok (.aload_n 0, 1) := by decide +kernel
theorem dX5_cells_1 : decode cX5_cells 1 = .ok (.getfield 16, 3) := by decide +kernel
theorem dX5_cells_4 : decode cX5_cells 4 = .ok (.ireturn, 1) := by decide +kernel
theorem dX5_rowLimit_0 : decode cX5_rowLimit 0 = .ok (.aload_n 0, 1) := by decide +kernel
theorem dX5_rowLimit_1 : decode cX5_rowLimit 1 = .ok (.getfield 19, 3) := by decide +kernel
theorem dX5_rowLimit_4 : decode cX5_rowLimit 4 = .ok (.ireturn, 1) := by decide +kernel
set_option maxRecDepth 20000 in
theorem ggX6_init_X1_init : GoodIn wsX6_init wsX1_init := goodIn_r _ [23, 24, 2, 3, 25, 26, 56, 57, 58] (by decide +kernel) (by decide +kernel)
set_option maxRecDepth 20000 in
theorem gX6_init_X1_init_n19 : GoodIn wsX6_init (wsX1_init) := ggX6_init_X1_init
set_option maxRecDepth 20000 in
theorem ggX6_init_X4_init : GoodIn wsX6_init wsX4_init := goodIn_r _ [28, 29, 2, 3, 30, 31, 59, 60, 61, 62] (by decide +kernel) (by decide +kernel)
set_option maxRecDepth 20000 in
theorem gX6_init_X4_init_n26 : GoodIn wsX6_init (wsX4_init) := ggX6_init_X4_init
set_option maxRecDepth 20000 in
theorem ggX6_init_X0_init : GoodIn wsX6_init wsX0_init := goodIn_r _ [33, 34, 2, 3, 30, 35, 36, 37, 63, 64, 65] (by decide +kernel) (by decide +kernel)
set_option maxRecDepth 20000 in
theorem gX6_init_X0_init_n33 : GoodIn wsX6_init (wsX0_init) := ggX6_init_X0_init
set_option maxRecDepth 20000 in
theorem ggX6_init_X8_init : GoodIn wsX6_init wsX8_init := goodIn_r _ [40, 41, 2, 3, 42, 66, 67, 68, 69, 70, 71, 72, 73] (by decide +kernel) (by decide +kernel)
set_option maxRecDepth 20000 in
theorem gX6_init_X8_init : GoodIn wsX6_init (wsX8_init) := ggX6_init_X8_init
theorem dX6_init_0 : decode cX6_init 0 = .ok (.aload_n 0, 1) := by decide +kernel
theorem dX6_init_1 : decode cX6_init 1 = .ok (.invokespecial 3, 3) := by decide +kernel
theorem dX6_init_4 : decode cX6_init 4 = .ok (.aload_n 0, 1) := by decide +kernel
theorem dX6_init_5 : decode cX6_init 5 = .ok (.bipush 6, 2) := by decide +kernel
theorem dX6_init_7 : decode cX6_init 7 = .ok (.anewarray 9, 3) := by decide +kernel
theorem dX6_init_10 : decode cX6_init 10 = .ok (.putfield 11, 3) := by decide +kernel
theorem dX6_init_13 : decode cX6_init 13 = .ok (.aload_n 0, 1) := by decide +kernel
theorem dX6_init_14 : decode cX6_init 14 = .ok (.new 17, 3) := by decide +kernel
theorem dX6_init_17 : decode cX6_init 17 = .ok (.dup, 1) := by decide +kernel
theorem dX6_init_18 : decode cX6_init 18 = .ok (.invokespecial 19, 3) := by decide +kernel
theorem dX6_init_21 : decode cX6_init 21 = .ok (.putfield 20, 3) := by decide +kernel
theorem dX6_init_24 : decode cX6_init 24 = .ok (.aload_n 0, 1) := by decide +kernel
theorem dX6_init_25 : decode cX6_init 25 = .ok (.new 24, 3) := by decide +kernel
theorem dX6_init_28 : decode cX6_init 28 = .ok (.dup, 1) := by decide +kernel
theorem dX6_init_29 : decode cX6_init 29 = .ok (.invokespecial 26, 3) := by decide +kernel
theorem dX6_init_32 : decode cX6_init 32 = .ok (.putfield 27, 3) := by decide +kernel
theorem dX6_init_35 : decode cX6_init 35 = .ok (.aload_n 0, 1) := by decide +kernel
theorem dX6_init_36 : decode cX6_init 36 = .ok (.new 31, 3) := by decide +kernel
theorem dX6_init_39 : decode cX6_init 39 = .ok (.dup, 1) := by decide +kernel
theorem dX6_init_40 : decode cX6_init 40 = .ok (.invokespecial 33, 3) := by decide +kernel
theorem dX6_init_43 : decode cX6_init 43 = .ok (.putfield 34, 3) := by decide +kernel
theorem dX6_init_46 : decode cX6_init 46 = .ok (.aload_n 0, 1) := by decide +kernel
theorem dX6_init_47 : decode cX6_init 47 = .ok (.aload_n 1, 1) := by decide +kernel
theorem dX6_init_48 : decode cX6_init 48 = .ok (.putfield 38, 3) := by decide +kernel
theorem dX6_init_51 : decode cX6_init 51 = .ok (.aload_n 0, 1) := by decide +kernel
theorem dX6_init_52 : decode cX6_init 52 = .ok (.aload_n 2, 1) := by decide +kernel
theorem dX6_init_53 : decode cX6_init 53 = .ok (.putfield 42, 3) := by decide +kernel
theorem dX6_init_56 : decode cX6_init 56 = .ok (.iconst 0, 1) := by decide +kernel
theorem dX6_init_57 : decode cX6_init 57 = .ok (.istore_n 3, 1) := by decide +kernel
theorem dX6_init_58 : decode cX6_init 58 = .ok (.iload_n 3, 1) := by decide +kernel
theorem dX6_init_59 : decode cX6_init 59 = .ok (.aload_n 0, 1) := by decide +kernel
theorem dX6_init_60 : decode cX6_init 60 = .ok (.getfield 11, 3) := by decide +kernel
theorem dX6_init_63 : decode cX6_init 63 = .ok (.arraylength, 1) := by decide +kernel
theorem dX6_init_64 : decode cX6_init 64 = .ok (.if_icmp .ge 23, 3) := by decide +kernel
theorem dX6_init_67 : decode cX6_init 67 = .ok (.aload_n 0, 1) := by decide +kernel
theorem dX6_init_68 : decode cX6_init 68 = .ok (.getfield 11, 3) := by decide +kernel
theorem dX6_init_71 : decode cX6_init 71 = .ok (.iload_n 3, 1) := by decide +kernel
theorem dX6_init_72 : decode cX6_init 72 = .ok (.new 9, 3) := by decide +kernel
theorem dX6_init_75 : decode cX6_init 75 = .ok (.dup, 1) := by decide +kernel
theorem dX6_init_76 : decode cX6_init 76 = .ok (.iload_n 3, 1) := by decide +kernel
theorem dX6_init_77 : decode cX6_init 77 = .ok (.invokespecial 46, 3) := by decide +kernel
theorem dX6_init_80 : decode cX6_init 80 = .ok (.aastore, 1) := by decide +kernel
theorem dX6_init_81 : decode cX6_init 81 = .ok (.iinc 3 1, 3) := by decide +kernel
theorem dX6_init_84 : decode cX6_init 84 = .ok (.goto (-26), 3) := by decide +kernel
theorem dX6_init_87 : decode cX6_init 87 = .ok (.return_, 1) := by decide +kernel
set_option maxRecDepth 20000 in
theorem ggX6_start_X8_renew : GoodIn wsX6_start wsX8_renew := goodIn_r _ [16, 17, 18, 19, 20, 21, 22, 15, 23, 24, 25, 26, 27, 64, 65, 66, 67, 68, 69, 70, 71] (by decide +kernel) (by decide +kernel)
set_option maxRecDepth 20000 in
theorem gX6_start_X8_renew : GoodIn wsX6_start (wsV RX6 53 RX8 yX8_renew wsX8_renew) := goodIn_app (goodIn_of _ (by decide +kernel)) ggX6_start_X8_renew
set_option maxRecDepth 20000 in
theorem ggX6_start_X1_fill : GoodIn wsX6_start wsX1_fill := goodIn_r _ [32, 33, 34, 72, 73, 74] (by decide +kernel) (by decide +kernel)
set_option maxRecDepth 20000 in
theorem gX6_start_X1_fill : GoodIn wsX6_start (wsV RX6 56 RX1 yX1_fill wsX1_fill) := goodIn_app (goodIn_of _ (by decide +kernel)) ggX6_start_X1_fill
set_option maxRecDepth 20000 in
theorem ggX6_start_X4_renew : GoodIn wsX6_start wsX4_renew := goodIn_r _ [39, 40, 41, 42, 43, 75, 76, 77, 78] (by decide +kernel) (by decide +kernel)
set_option maxRecDepth 20000 in
theorem gX6_start_X4_renew : GoodIn wsX6_start (wsV RX6 59 RX4 yX4_renew wsX4_renew) := goodIn_app (goodIn_of _ (by decide +kernel)) ggX6_start_X4_renew
set_option maxRecDepth 20000 in
theorem ggX6_start_X0_renew : GoodIn wsX6_start wsX0_renew := goodIn_r _ [48, 49, 50, 79, 80, 81] (by decide +kernel) (by decide +kernel)
set_option maxRecDepth 20000 in
theorem gX6_start_X0_renew : GoodIn wsX6_start (wsV RX6 61 RX0 yX0_renew wsX0_renew) := goodIn_app (goodIn_of _ (by decide +kernel)) ggX6_start_X0_renew
theorem dX6_start_0 : decode cX6_start 0 = .ok (.aload_n 0, 1) := by decide +kernel
theorem dX6_start_1 : decode cX6_start 1 = .ok (.iload_n 1, 1) := by decide +kernel
theorem dX6_start_2 : decode cX6_start 2 = .ok (.putfield 49, 3) := by decide +kernel
theorem dX6_start_5 : decode cX6_start 5 = .ok (.iconst 0, 1) := by decide +kernel
theorem dX6_start_6 : decode cX6_start 6 = .ok (.istore 4, 2) := by decide +kernel
theorem dX6_start_8 : decode cX6_start 8 = .ok (.iload 4, 2) := by decide +kernel
theorem dX6_start_10 : decode cX6_start 10 = .ok (.aload_n 0, 1) := by decide +kernel
theorem dX6_start_11 : decode cX6_start 11 = .ok (.getfield 11, 3) := by decide +kernel
theorem dX6_start_14 : decode cX6_start 14 = .ok (.arraylength, 1) := by decide +kernel
theorem dX6_start_15 : decode cX6_start 15 = .ok (.if_icmp .ge 19, 3) := by decide +kernel
theorem dX6_start_18 : decode cX6_start 18 = .ok (.aload_n 0, 1) := by decide +kernel
theorem dX6_start_19 : decode cX6_start 19 = .ok (.getfield 11, 3) := by decide +kernel
theorem dX6_start_22 : decode cX6_start 22 = .ok (.iload 4, 2) := by decide +kernel
theorem dX6_start_24 : decode cX6_start 24 = .ok (.aaload, 1) := by decide +kernel
theorem dX6_start_25 : decode cX6_start 25 = .ok (.invokevirtual 53, 3) := by decide +kernel
theorem dX6_start_28 : decode cX6_start 28 = .ok (.iinc 4 1, 3) := by decide +kernel
theorem dX6_start_31 : decode cX6_start 31 = .ok (.goto (-23), 3) := by decide +kernel
theorem dX6_start_34 : decode cX6_start 34 = .ok (.aload_n 0, 1) := by decide +kernel
theorem dX6_start_35 : decode cX6_start 35 = .ok (.getfield 20, 3) := by decide +kernel
theorem dX6_start_38 : decode cX6_start 38 = .ok (.iload_n 2, 1) := by decide +kernel
theorem dX6_start_39 : decode cX6_start 39 = .ok (.invokevirtual 56, 3) := by decide +kernel
theorem dX6_start_42 : decode cX6_start 42 = .ok (.aload_n 0, 1) := by decide +kernel
theorem dX6_start_43 : decode cX6_start 43 = .ok (.getfield 27, 3) := by decide +kernel
theorem dX6_start_46 : decode cX6_start 46 = .ok (.iload_n 3, 1) := by decide +kernel
theorem dX6_start_47 : decode cX6_start 47 = .ok (.invokevirtual 59, 3) := by decide +kernel
theorem dX6_start_50 : decode cX6_start 50 = .ok (.aload_n 0, 1) := by decide +kernel
theorem dX6_start_51 : decode cX6_start 51 = .ok (.getfield 34, 3) := by decide +kernel
theorem dX6_start_54 : decode cX6_start 54 = .ok (.invokevirtual 61, 3) := by decide +kernel
theorem dX6_start_57 : decode cX6_start 57 = .ok (.aload_n 0, 1) := by decide +kernel
theorem dX6_start_58 : decode cX6_start 58 = .ok (.iconst (-1), 1) := by decide +kernel
theorem dX6_start_59 : decode cX6_start 59 = .ok (.putfield 62, 3) := by decide +kernel
theorem dX6_start_62 : decode cX6_start 62 = .ok (.aload_n 0, 1) := by decide +kernel
theorem dX6_start_63 : decode cX6_start 63 = .ok (.iconst 0, 1) := by decide +kernel
theorem dX6_start_64 : decode cX6_start 64 = .ok (.putfield 65, 3) := by decide +kernel
theorem dX6_start_67 : decode cX6_start 67 = .ok (.aload_n 0, 1) := by decide +kernel
theorem dX6_start_68 : decode cX6_start 68 = .ok (.iconst (-1), 1) := by decide +kernel
theorem dX6_start_69 : decode cX6_start 69 = .ok (.putfield 68, 3) := by decide +kernel
theorem dX6_start_72 : decode cX6_start 72 = .ok (.aload_n 0, 1) := by decide +kernel
theorem dX6_start_73 : decode cX6_start 73 = .ok (.iconst 0, 1) := by decide +kernel
theorem dX6_start_74 : decode cX6_start 74 = .ok (.putfield 71, 3) := by decide +kernel
theorem dX6_start_77 : decode cX6_start 77 = .ok (.aload_n 0, 1) := by decide +kernel
theorem dX6_start_78 : decode cX6_start 78 = .ok (.iconst 0, 1) := by decide +kernel
theorem dX6_start_79 : decode cX6_start 79 = .ok (.putfield 74, 3) := by decide +kernel
theorem dX6_start_82 : decode cX6_start 82 = .ok (.aload_n 0, 1) := by decide +kernel
theorem dX6_start_83 : decode cX6_start 83 = .ok (.iconst 0, 1) := by decide +kernel
theorem dX6_start_84 : decode cX6_start 84 = .ok (.putfield 77, 3) := by decide +kernel
theorem dX6_start_87 : decode cX6_start 87 = .ok (.return_, 1) := by decide +kernel
theorem dX6_threads_0 : decode cX6_threads 0 = .ok (.aload_n 0, 1) := by decide +kernel
theorem dX6_threads_1 : decode cX6_threads 1 = .ok (.getfield 49, 3) := by decide +kernel
theorem dX6_threads_4 : decode cX6_threads 4 = .ok (.ireturn, 1) := by decide +kernel
theorem dX6_worker_0 : decode cX6_worker 0 = .ok (.iload_n 1, 1) := by decide +kernel
theorem dX6_worker_1 : decode cX6_worker 1 = .ok (.ifCond .lt 29, 3) := by decide +kernel
theorem dX6_worker_4 : decode cX6_worker 4 = .ok (.iload_n 1, 1) := by decide +kernel
theorem dX6_worker_5 : decode cX6_worker 5 = .ok (.aload_n 0, 1) := by decide +kernel
theorem dX6_worker_6 : decode cX6_worker 6 = .ok (.getfield 49, 3) := by decide +kernel
theorem dX6_worker_9 : decode cX6_worker 9 = .ok (.if_icmp .ge 21, 3) := by decide +kernel
theorem dX6_worker_12 : decode cX6_worker 12 = .ok (.iload_n 1, 1) := by decide +kernel
theorem dX6_worker_13 : decode cX6_worker 13 = .ok (.aload_n 0, 1) := by decide +kernel
theorem dX6_worker_14 : decode cX6_worker 14 = .ok (.getfield 11, 3) := by decide +kernel
theorem dX6_worker_17 : decode cX6_worker 17 = .ok (.arraylength, 1) := by decide +kernel
theorem dX6_worker_18 : decode cX6_worker 18 = .ok (.if_icmp .ge 12, 3) := by decide +kernel
theorem dX6_worker_21 : decode cX6_worker 21 = .ok (.aload_n 0, 1) := by decide +kernel
theorem dX6_worker_22 : decode cX6_worker 22 = .ok (.getfield 11, 3) := by decide +kernel
theorem dX6_worker_25 : decode cX6_worker 25 = .ok (.iload_n 1, 1) := by decide +kernel
theorem dX6_worker_26 : decode cX6_worker 26 = .ok (.aaload, 1) := by decide +kernel
theorem dX6_worker_27 : decode cX6_worker 27 = .ok (.goto 4, 3) := by decide +kernel
theorem dX6_worker_30 : decode cX6_worker 30 = .ok (.aconst_null, 1) := by decide +kernel
theorem dX6_worker_31 : decode cX6_worker 31 = .ok (.areturn, 1) := by decide +kernel
set_option maxRecDepth 20000 in
theorem ggX6_giveTurnsInRing_X6_allEnded : GoodIn wsX6_giveTurnsInRing wsX6_allEnded := goodIn_r _ [7, 2, 8, 180, 181, 182, 183, 184, 185, 186, 187, 188, 189, 190, 191, 192, 193, 194, 195, 196, 197, 198, 199, 200] (by decide +kernel) (by decide +kernel)
set_option maxRecDepth 20000 in
theorem gX6_giveTurnsInRing_X6_allEnded : GoodIn wsX6_giveTurnsInRing (wsV RX6 80 RX6 yX6_allEnded wsX6_allEnded) := goodIn_app (goodIn_of _ (by decide +kernel)) ggX6_giveTurnsInRing_X6_allEnded
set_option maxRecDepth 20000 in
theorem ggX6_giveTurnsInRing_X6_giveTurn : GoodIn wsX6_giveTurnsInRing wsX6_giveTurn := goodIn_r _ [12, 1, 13, 14, 15, 16, 6, 17, 2, 8, 18, 19, 20, 21, 22, 23, 24, 25, 26, 27, 28, 29, 30, 31, 32, 33, 34, 35, 36, 37, 38, 39, 40, 41, 42, 43, 44, 45, 46, 47, 48, 49, 50, 51, 52, 53, 54, 55, 56, 57, 58, 59, 60, 61, 62, 63, 64, 65, 66, 67, 68, 69, 70, 71, 72, 73, 74, 75, 76, 77, 78, 79, 80, 81, 82, 83, 84, 85, 86, 87, 88, 89, 90, 91, 92, 93, 94, 95, 96, 97, 98, 99, 100, 101, 102, 103, 104, 105, 106, 107, 108, 109, 110, 111, 112, 113, 114, 115, 116, 117, 118, 119, 120, 121, 122, 123, 124, 125, 126, 127, 128, 129, 130, 131, 132, 133, 134, 135, 136, 137, 138, 139, 140, 141, 142, 143, 144, 145, 146, 147, 148, 149, 150, 151, 152, 153, 154, 155, 156, 157, 158, 159, 160, 161, 162, 163, 164, 165, 166, 167, 168, 169, 170, 171, 172, 173, 174, 175, 176, 177, 178, 179, 180, 181, 182, 183, 184, 185, 186, 187, 188, 189, 190, 191, 192, 193, 194, 195, 196, 197, 198, 199, 200, 201, 202, 203, 204, 205, 206, 207, 208, 209, 210, 211, 212, 213, 214, 215, 216, 217, 218, 219, 220, 221, 222, 223, 224, 225, 226, 227, 228] (by decide +kernel) (by decide +kernel)
set_option maxRecDepth 20000 in
theorem gX6_giveTurnsInRing_X6_giveTurn : GoodIn wsX6_giveTurnsInRing (wsV RX6 84 RX6 yX6_giveTurn wsX6_giveTurn) := goodIn_app (goodIn_of _ (by decide +kernel)) ggX6_giveTurnsInRing_X6_giveTurn
theorem dX6_giveTurnsInRing_0 : decode cX6_giveTurnsInRing 0 = .ok (.iconst 0, 1) := by decide +kernel
theorem dX6_giveTurnsInRing_1 : decode cX6_giveTurnsInRing 1 = .ok (.istore_n 2, 1) := by decide +kernel
theorem dX6_giveTurnsInRing_2 : decode cX6_giveTurnsInRing 2 = .ok (.iconst 0, 1) := by decide +kernel
theorem dX6_giveTurnsInRing_3 : decode cX6_giveTurnsInRing 3 = .ok (.istore_n 3, 1) := by decide +kernel
theorem dX6_giveTurnsInRing_4 : decode cX6_giveTurnsInRing 4 = .ok (.iload_n 3, 1) := by decide +kernel
theorem dX6_giveTurnsInRing_5 : decode cX6_giveTurnsInRing 5 = .ok (.iload_n 1, 1) := by decide +kernel
theorem dX6_giveTurnsInRing_6 : decode cX6_giveTurnsInRing 6 = .ok (.if_icmp .ge 53, 3) := by decide +kernel
theorem dX6_giveTurnsInRing_9 : decode cX6_giveTurnsInRing 9 = .ok (.aload_n 0, 1) := by decide +kernel
theorem dX6_giveTurnsInRing_10 : decode cX6_giveTurnsInRing 10 = .ok (.invokevirtual 80, 3) := by decide +kernel
theorem dX6_giveTurnsInRing_13 : decode cX6_giveTurnsInRing 13 = .ok (.ifCond .ne 46, 3) := by decide +kernel
theorem dX6_giveTurnsInRing_16 : decode cX6_giveTurnsInRing 16 = .ok (.aload_n 0, 1) := by decide +kernel
theorem dX6_giveTurnsInRing_17 : decode cX6_giveTurnsInRing 17 = .ok (.getfield 62, 3) := by decide +kernel
theorem dX6_giveTurnsInRing_20 : decode cX6_giveTurnsInRing 20 = .ok (.iconst 1, 1) := by decide +kernel
theorem dX6_giveTurnsInRing_21 : decode cX6_giveTurnsInRing 21 = .ok (.iadd, 1) := by decide +kernel
theorem dX6_giveTurnsInRing_22 : decode cX6_giveTurnsInRing 22 = .ok (.aload_n 0, 1) := by decide +kernel
theorem dX6_giveTurnsInRing_23 : decode cX6_giveTurnsInRing 23 = .ok (.getfield 49, 3) := by decide +kernel
theorem dX6_giveTurnsInRing_26 : decode cX6_giveTurnsInRing 26 = .ok (.if_icmp .ge 12, 3) := by decide +kernel
theorem dX6_giveTurnsInRing_29 : decode cX6_giveTurnsInRing 29 = .ok (.aload_n 0, 1) := by decide +kernel
theorem dX6_giveTurnsInRing_30 : decode cX6_giveTurnsInRing 30 = .ok (.getfield 62, 3) := by decide +kernel
theorem dX6_giveTurnsInRing_33 : decode cX6_giveTurnsInRing 33 = .ok (.iconst 1, 1) := by decide +kernel
theorem dX6_giveTurnsInRing_34 : decode cX6_giveTurnsInRing 34 = .ok (.iadd, 1) := by decide +kernel
theorem dX6_giveTurnsInRing_35 : decode cX6_giveTurnsInRing 35 = .ok (.goto 4, 3) := by decide +kernel
theorem dX6_giveTurnsInRing_38 : decode cX6_giveTurnsInRing 38 = .ok (.iconst 0, 1) := by decide +kernel
theorem dX6_giveTurnsInRing_39 : decode cX6_giveTurnsInRing 39 = .ok (.istore 4, 2) := by decide +kernel
theorem dX6_giveTurnsInRing_41 : decode cX6_giveTurnsInRing 41 = .ok (.aload_n 0, 1) := by decide +kernel
theorem dX6_giveTurnsInRing_42 : decode cX6_giveTurnsInRing 42 = .ok (.iload 4, 2) := by decide +kernel
theorem dX6_giveTurnsInRing_44 : decode cX6_giveTurnsInRing 44 = .ok (.invokevirtual 84, 3) := by decide +kernel
theorem dX6_giveTurnsInRing_47 : decode cX6_giveTurnsInRing 47 = .ok (.ifCond .eq 6, 3) := by decide +kernel
theorem dX6_giveTurnsInRing_50 : decode cX6_giveTurnsInRing 50 = .ok (.iinc 2 1, 3) := by decide +kernel
theorem dX6_giveTurnsInRing_53 : decode cX6_giveTurnsInRing 53 = .ok (.iinc 3 1, 3) := by decide +kernel
theorem dX6_giveTurnsInRing_56 : decode cX6_giveTurnsInRing 56 = .ok (.goto (-52), 3) := by decide +kernel
theorem dX6_giveTurnsInRing_59 : decode cX6_giveTurnsInRing 59 = .ok (.iload_n 2, 1) := by decide +kernel
theorem dX6_giveTurnsInRing_60 : decode cX6_giveTurnsInRing 60 = .ok (.ireturn, 1) := by decide +kernel
set_option maxRecDepth 20000 in
theorem ggX6_giveTurn_X6_worker : GoodIn wsX6_giveTurn wsX6_worker := goodIn_r _ [7, 8, 9, 172, 173, 174, 175, 176, 177, 178, 179, 180, 181, 182, 183, 184] (by decide +kernel) (by decide +kernel)
set_option maxRecDepth 20000 in
theorem gX6_giveTurn_X6_worker : GoodIn wsX6_giveTurn (wsV RX6 88 RX6 yX6_worker wsX6_worker) := goodIn_app (goodIn_of _ (by decide +kernel)) ggX6_giveTurn_X6_worker
set_option maxRecDepth 20000 in
theorem ggX6_giveTurn_X6_doFree : GoodIn wsX6_giveTurn wsX6_doFree := goodIn_r _ [13, 14, 15, 16, 17, 18, 19, 20, 6, 21, 22, 23, 24, 25, 26, 27, 28, 29, 30, 31, 32, 33, 34, 35, 36, 37, 38, 39, 40, 41, 42, 43, 44, 45, 46, 9, 47, 48, 49, 50, 51, 52, 53, 54, 55, 56, 57, 58, 59, 60, 61, 62, 63, 64, 65, 66, 67, 68, 69, 70, 71, 72, 73, 74, 75, 76, 77, 78, 79, 80, 81, 82, 83, 84, 85, 86, 87, 88, 89, 90, 91, 92, 93, 94, 95, 96, 97, 98, 99, 100, 101, 102, 103, 104, 105, 106, 107, 108, 109, 110, 111, 112, 185, 186, 187, 188, 189, 190, 191, 192, 172, 173, 174, 175, 176, 177, 178, 179, 180, 181, 182, 183, 184, 193, 194, 195, 196, 197, 198, 199, 200, 201, 202, 203, 204, 205, 206, 207, 208, 209, 210, 211, 212, 213, 214, 215, 216, 217] (by decide +kernel) (by decide +kernel)
set_option maxRecDepth 20000 in
theorem gX6_giveTurn_X6_doFree : GoodIn wsX6_giveTurn (wsV RX6 95 RX6 yX6_doFree wsX6_doFree) := goodIn_app (goodIn_of _ (by decide +kernel)) ggX6_giveTurn_X6_doFree
set_option maxRecDepth 20000 in
theorem ggX6_giveTurn_X6_doWork : GoodIn wsX6_giveTurn wsX6_doWork := goodIn_r _ [116, 117, 16, 15, 67, 47, 48, 49, 50, 51, 52, 118, 119, 120, 121, 122, 123, 124, 125, 126, 127, 128, 6, 129, 130, 22, 131, 132, 133, 134, 100, 135, 103, 102, 104, 136, 137, 138, 139, 105, 106, 107, 32, 108, 34, 41, 140, 37, 38, 39, 40, 42, 141, 142, 143, 144, 61, 62, 145, 146, 147, 26, 148, 149, 150, 151, 152, 153, 154, 155, 156, 157, 158, 14, 159, 160, 161, 162, 163, 164, 165, 166, 167, 185, 186, 187, 188, 189, 190, 191, 192, 172, 173, 174, 175, 176, 177, 178, 179, 180, 181, 182, 183, 184, 197, 198, 199, 218, 219, 220, 215, 216, 217, 200, 201, 202, 203, 204, 205, 206, 207, 208, 193, 194, 195, 196] (by decide +kernel) (by decide +kernel)
set_option maxRecDepth 20000 in
theorem gX6_giveTurn_X6_doWork : GoodIn wsX6_giveTurn (wsV RX6 99 RX6 yX6_doWork wsX6_doWork) := goodIn_app (goodIn_of _ (by decide +kernel)) ggX6_giveTurn_X6_doWork
set_option maxRecDepth 20000 in
theorem ggX6_giveTurn_X6_doHolding : GoodIn wsX6_giveTurn wsX6_doHolding := goodIn_r _ [171, 18, 19, 20, 6, 21, 22, 29, 30, 31, 32, 33, 34, 35, 36, 37, 38, 39, 40, 41, 42, 155, 156, 157, 158, 14, 159, 160, 161, 162, 163, 164, 165, 166, 167, 140, 172, 173, 174, 175, 176, 177, 178, 179, 180, 181, 182, 183, 184, 185, 186, 187, 188, 189, 190, 191, 192, 193, 194, 195, 196] (by decide +kernel) (by decide +kernel)
set_option maxRecDepth 20000 in
theorem gX6_giveTurn_X6_doHolding : GoodIn wsX6_giveTurn (wsV RX6 102 RX6 yX6_doHolding wsX6_doHolding) := goodIn_app (goodIn_of _ (by decide +kernel)) ggX6_giveTurn_X6_doHolding
theorem dX6_giveTurn_0 : decode cX6_giveTurn 0 = .ok (.aload_n 0, 1) := by decide +kernel
theorem dX6_giveTurn_1 : decode cX6_giveTurn 1 = .ok (.iload_n 1, 1) := by decide +kernel
theorem dX6_giveTurn_2 : decode cX6_giveTurn 2 = .ok (.invokevirtual 88, 3) := by decide +kernel
theorem dX6_giveTurn_5 : decode cX6_giveTurn 5 = .ok (.astore_n 2, 1) := by decide +kernel
theorem dX6_giveTurn_6 : decode cX6_giveTurn 6 = .ok (.aload_n 2, 1) := by decide +kernel
theorem dX6_giveTurn_7 : decode cX6_giveTurn 7 = .ok (.ifnonnull 5, 3) := by decide +kernel
theorem dX6_giveTurn_10 : decode cX6_giveTurn 10 = .ok (.iconst 0, 1) := by decide +kernel
theorem dX6_giveTurn_11 : decode cX6_giveTurn 11 = .ok (.ireturn, 1) := by decide +kernel
theorem dX6_giveTurn_12 : decode cX6_giveTurn 12 = .ok (.aload_n 0, 1) := by decide +kernel
theorem dX6_giveTurn_13 : decode cX6_giveTurn 13 = .ok (.iload_n 1, 1) := by decide +kernel
theorem dX6_giveTurn_14 : decode cX6_giveTurn 14 = .ok (.putfield 62, 3) := by decide +kernel
theorem dX6_giveTurn_17 : decode cX6_giveTurn 17 = .ok (.iconst 0, 1) := by decide +kernel
theorem dX6_giveTurn_18 : decode cX6_giveTurn 18 = .ok (.istore_n 3, 1) := by decide +kernel
theorem dX6_giveTurn_19 : decode cX6_giveTurn 19 = .ok (.aload_n 2, 1) := by decide +kernel
theorem dX6_giveTurn_20 : decode cX6_giveTurn 20 = .ok (.getfield 92, 3) := by decide +kernel
theorem dX6_giveTurn_23 : decode cX6_giveTurn 23 = .ok (.tableswitch 56 0 3 #[29, 56, 38, 47], 29) := by decide +kernel
theorem dX6_giveTurn_52 : decode cX6_giveTurn 52 = .ok (.aload_n 0, 1) := by decide +kernel
theorem dX6_giveTurn_53 : decode cX6_giveTurn 53 = .ok (.aload_n 2, 1) := by decide +kernel
theorem dX6_giveTurn_54 : decode cX6_giveTurn 54 = .ok (.invokevirtual 95, 3) := by decide +kernel
theorem dX6_giveTurn_57 : decode cX6_giveTurn 57 = .ok (.istore_n 3, 1) := by decide +kernel
theorem dX6_giveTurn_58 : decode cX6_giveTurn 58 = .ok (.goto 21, 3) := by decide +kernel
theorem dX6_giveTurn_61 : decode cX6_giveTurn 61 = .ok (.aload_n 0, 1) := by decide +kernel
theorem dX6_giveTurn_62 : decode cX6_giveTurn 62 = .ok (.aload_n 2, 1) := by decide +kernel
theorem dX6_giveTurn_63 : decode cX6_giveTurn 63 = .ok (.invokevirtual 99, 3) := by decide +kernel
theorem dX6_giveTurn_66 : decode cX6_giveTurn 66 = .ok (.istore_n 3, 1) := by decide +kernel
theorem dX6_giveTurn_67 : decode cX6_giveTurn 67 = .ok (.goto 12, 3) := by decide +kernel
theorem dX6_giveTurn_70 : decode cX6_giveTurn 70 = .ok (.aload_n 0, 1) := by decide +kernel
theorem dX6_giveTurn_71 : decode cX6_giveTurn 71 = .ok (.aload_n 2, 1) := by decide +kernel
theorem dX6_giveTurn_72 : decode cX6_giveTurn 72 = .ok (.invokevirtual 102, 3) := by decide +kernel
theorem dX6_giveTurn_75 : decode cX6_giveTurn 75 = .ok (.istore_n 3, 1) := by decide +kernel
theorem dX6_giveTurn_76 : decode cX6_giveTurn 76 = .ok (.goto 3, 3) := by decide +kernel
theorem dX6_giveTurn_79 : decode cX6_giveTurn 79 = .ok (.iload_n 3, 1) := by decide +kernel
theorem dX6_giveTurn_80 : decode cX6_giveTurn 80 = .ok (.ifCond .eq 13, 3) := by decide +kernel
theorem dX6_giveTurn_83 : decode cX6_giveTurn 83 = .ok (.aload_n 0, 1) := by decide +kernel
theorem dX6_giveTurn_84 : decode cX6_giveTurn 84 = .ok (.dup, 1) := by decide +kernel
theorem dX6_giveTurn_85 : decode cX6_giveTurn 85 = .ok (.getfield 77, 3) := by decide +kernel
theorem dX6_giveTurn_88 : decode cX6_giveTurn 88 = .ok (.iconst 1, 1) := by decide +kernel
theorem dX6_giveTurn_89 : decode cX6_giveTurn 89 = .ok (.iadd, 1) := by decide +kernel
theorem dX6_giveTurn_90 : decode cX6_giveTurn 90 = .ok (.putfield 77, 3) := by decide +kernel
theorem dX6_giveTurn_93 : decode cX6_giveTurn 93 = .ok (.iload_n 3, 1) := by decide +kernel
theorem dX6_giveTurn_94 : decode cX6_giveTurn 94 = .ok (.ireturn, 1) := by decide +kernel
set_option maxRecDepth 20000 in
theorem ggX6_doFree_X6_hasStopped : GoodIn wsX6_doFree wsX6_hasStopped := goodIn_r _ [9, 10, 110, 111, 112, 113, 114, 115, 116, 117, 118, 119, 120, 121, 122] (by decide +kernel) (by decide +kernel)
set_option maxRecDepth 20000 in
theorem gX6_doFree_X6_hasStopped : GoodIn wsX6_doFree (wsV RX6 109 RX6 yX6_hasStopped wsX6_hasStopped) := goodIn_app (goodIn_of _ (by decide +kernel)) ggX6_doFree_X6_hasStopped
set_option maxRecDepth 20000 in
theorem ggX6_doFree_X2_blocks : GoodIn wsX6_doFree wsX2_blocks := goodIn_r _ [15, 16, 130, 131, 132, 133, 134, 135, 136, 137, 138] (by decide +kernel) (by decide +kernel)
set_option maxRecDepth 20000 in
theorem gX6_doFree_X2_blocks : GoodIn wsX6_doFree (wsV RX6 115 RX2 yX2_blocks wsX2_blocks) := goodIn_app (goodIn_of _ (by decide +kernel)) ggX6_doFree_X2_blocks
set_option maxRecDepth 20000 in
theorem ggX6_doFree_X8_end : GoodIn wsX6_doFree wsX8_end := goodIn_r _ [21, 22, 23, 24, 25, 26, 20, 27, 28, 29, 30, 102, 103, 104, 105, 106, 107, 108, 109] (by decide +kernel) (by decide +kernel)
set_option maxRecDepth 20000 in
theorem gX6_doFree_X8_end : GoodIn wsX6_doFree (wsV RX6 121 RX8 yX8_end wsX8_end) := goodIn_app (goodIn_of _ (by decide +kernel)) ggX6_doFree_X8_end
set_option maxRecDepth 20000 in
theorem ggX6_doFree_X6_isBlockDoneAgain : GoodIn wsX6_doFree wsX6_isBlockDoneAgain := goodIn_r _ [34, 35, 3, 36, 37, 38, 39, 40, 41, 110, 111, 112, 113, 114, 115, 116, 117, 118, 119, 120, 121, 122, 102, 103, 104, 105, 106, 107, 108, 109, 127, 128, 129] (by decide +kernel) (by decide +kernel)
set_option maxRecDepth 20000 in
theorem gX6_doFree_X6_isBlockDoneAgain : GoodIn wsX6_doFree (wsV RX6 124 RX6 yX6_isBlockDoneAgain wsX6_isBlockDoneAgain) := goodIn_app (goodIn_of _ (by decide +kernel)) ggX6_doFree_X6_isBlockDoneAgain
set_option maxRecDepth 20000 in
theorem ggX6_doFree_X6_isAnyAtWork : GoodIn wsX6_doFree wsX6_isAnyAtWork := goodIn_r _ [45, 35, 110, 111, 112, 113, 114, 115, 116, 117, 118, 119, 120, 121, 122, 102, 103, 104, 105, 106, 107, 108, 109] (by decide +kernel) (by decide +kernel)
set_option maxRecDepth 20000 in
theorem gX6_doFree_X6_isAnyAtWork : GoodIn wsX6_doFree (wsV RX6 130 RX6 yX6_isAnyAtWork wsX6_isAnyAtWork) := goodIn_app (goodIn_of _ (by decide +kernel)) ggX6_doFree_X6_isAnyAtWork
set_option maxRecDepth 20000 in
theorem ggX6_doFree_X0_takeFirst : GoodIn wsX6_doFree wsX0_takeFirst := goodIn_r _ [49, 50, 51, 127, 128, 129] (by decide +kernel) (by decide +kernel)
set_option maxRecDepth 20000 in
theorem gX6_doFree_X0_takeFirst : GoodIn wsX6_doFree (wsV RX6 133 RX0 yX0_takeFirst wsX0_takeFirst) := goodIn_app (goodIn_of _ (by decide +kernel)) ggX6_doFree_X0_takeFirst
set_option maxRecDepth 20000 in
theorem ggX6_doFree_X6_take : GoodIn wsX6_doFree wsX6_take := goodIn_r _ [55, 2, 56, 57, 58, 59, 14, 60, 61, 62, 63, 64, 65, 66, 67, 68, 69, 70, 71, 72, 73, 74, 75, 76, 77, 78, 79, 80, 81, 82, 83, 84, 20, 85, 28, 30, 86, 87, 88, 89, 90, 91, 92, 93, 94, 95, 96, 97, 22, 29, 98, 99, 100, 101, 110, 111, 112, 113, 114, 115, 116, 117, 118, 119, 120, 121, 122, 130, 131, 132, 133, 134, 135, 136, 137, 138, 139, 140, 141, 142, 143, 144, 102, 103, 104, 105, 106, 107, 108, 109, 145, 146, 147] (by decide +kernel) (by decide +kernel)
set_option maxRecDepth 20000 in
theorem gX6_doFree_X6_take : GoodIn wsX6_doFree (wsV RX6 136 RX6 yX6_take wsX6_take) := goodIn_app (goodIn_of _ (by decide +kernel)) ggX6_doFree_X6_take
theorem dX6_doFree_0 : decode cX6_doFree 0 = .ok (.aload_n 1, 1) := by decide +kernel
theorem dX6_doFree_1 : decode cX6_doFree 1 = .ok (.getfield 105, 3) := by decide +kernel
theorem dX6_doFree_4 : decode cX6_doFree 4 = .ok (.ifCond .ne 27, 3) := by decide +kernel
theorem dX6_doFree_7 : decode cX6_doFree 7 = .ok (.aload_n 0, 1) := by decide +kernel
theorem dX6_doFree_8 : decode cX6_doFree 8 = .ok (.invokevirtual 109, 3) := by decide +kernel
theorem dX6_doFree_11 : decode cX6_doFree 11 = .ok (.ifCond .ne 20, 3) := by decide +kernel
theorem dX6_doFree_14 : decode cX6_doFree 14 = .ok (.aload_n 0, 1) := by decide +kernel
theorem dX6_doFree_15 : decode cX6_doFree 15 = .ok (.getfield 27, 3) := by decide +kernel
theorem dX6_doFree_18 : decode cX6_doFree 18 = .ok (.getfield 112, 3) := by decide +kernel
theorem dX6_doFree_21 : decode cX6_doFree 21 = .ok (.aload_n 0, 1) := by decide +kernel
theorem dX6_doFree_22 : decode cX6_doFree 22 = .ok (.getfield 38, 3) := by decide +kernel
theorem dX6_doFree_25 : decode cX6_doFree 25 = .ok (.invokevirtual 115, 3) := by decide +kernel
theorem dX6_doFree_28 : decode cX6_doFree 28 = .ok (.if_icmp .lt 9, 3) := by decide +kernel
theorem dX6_doFree_31 : decode cX6_doFree 31 = .ok (.aload_n 1, 1) := by decide +kernel
theorem dX6_doFree_32 : decode cX6_doFree 32 = .ok (.invokevirtual 121, 3) := by decide +kernel
theorem dX6_doFree_35 : decode cX6_doFree 35 = .ok (.iconst 1, 1) := by decide +kernel
theorem dX6_doFree_36 : decode cX6_doFree 36 = .ok (.ireturn, 1) := by decide +kernel
theorem dX6_doFree_37 : decode cX6_doFree 37 = .ok (.aload_n 0, 1) := by decide +kernel
theorem dX6_doFree_38 : decode cX6_doFree 38 = .ok (.invokevirtual 124, 3) := by decide +kernel
theorem dX6_doFree_41 : decode cX6_doFree 41 = .ok (.ifCond .eq 5, 3) := by decide +kernel
theorem dX6_doFree_44 : decode cX6_doFree 44 = .ok (.iconst 0, 1) := by decide +kernel
theorem dX6_doFree_45 : decode cX6_doFree 45 = .ok (.ireturn, 1) := by decide +kernel
theorem dX6_doFree_46 : decode cX6_doFree 46 = .ok (.aload_n 0, 1) := by decide +kernel
theorem dX6_doFree_47 : decode cX6_doFree 47 = .ok (.getfield 34, 3) := by decide +kernel
theorem dX6_doFree_50 : decode cX6_doFree 50 = .ok (.getfield 127, 3) := by decide +kernel
theorem dX6_doFree_53 : decode cX6_doFree 53 = .ok (.ifCond .le 26, 3) := by decide +kernel
theorem dX6_doFree_56 : decode cX6_doFree 56 = .ok (.aload_n 0, 1) := by decide +kernel
theorem dX6_doFree_57 : decode cX6_doFree 57 = .ok (.invokevirtual 130, 3) := by decide +kernel
theorem dX6_doFree_60 : decode cX6_doFree 60 = .ok (.ifCond .eq 5, 3) := by decide +kernel
theorem dX6_doFree_63 : decode cX6_doFree 63 = .ok (.iconst 0, 1) := by decide +kernel
theorem dX6_doFree_64 : decode cX6_doFree 64 = .ok (.ireturn, 1) := by decide +kernel
theorem dX6_doFree_65 : decode cX6_doFree 65 = .ok (.aload_n 0, 1) := by decide +kernel
theorem dX6_doFree_66 : decode cX6_doFree 66 = .ok (.aload_n 1, 1) := by decide +kernel
theorem dX6_doFree_67 : decode cX6_doFree 67 = .ok (.aload_n 0, 1) := by decide +kernel
theorem dX6_doFree_68 : decode cX6_doFree 68 = .ok (.getfield 34, 3) := by decide +kernel
theorem dX6_doFree_71 : decode cX6_doFree 71 = .ok (.invokevirtual 133, 3) := by decide +kernel
theorem dX6_doFree_74 : decode cX6_doFree 74 = .ok (.invokevirtual 136, 3) := by decide +kernel
theorem dX6_doFree_77 : decode cX6_doFree 77 = .ok (.iconst 1, 1) := by decide +kernel
theorem dX6_doFree_78 : decode cX6_doFree 78 = .ok (.ireturn, 1) := by decide +kernel
theorem dX6_doFree_79 : decode cX6_doFree 79 = .ok (.aload_n 0, 1) := by decide +kernel
theorem dX6_doFree_80 : decode cX6_doFree 80 = .ok (.getfield 65, 3) := by decide +kernel
theorem dX6_doFree_83 : decode cX6_doFree 83 = .ok (.aload_n 0, 1) := by decide +kernel
theorem dX6_doFree_84 : decode cX6_doFree 84 = .ok (.getfield 38, 3) := by decide +kernel
theorem dX6_doFree_87 : decode cX6_doFree 87 = .ok (.invokevirtual 115, 3) := by decide +kernel
theorem dX6_doFree_90 : decode cX6_doFree 90 = .ok (.if_icmp .lt 5, 3) := by decide +kernel
theorem dX6_doFree_93 : decode cX6_doFree 93 = .ok (.iconst 0, 1) := by decide +kernel
theorem dX6_doFree_94 : decode cX6_doFree 94 = .ok (.ireturn, 1) := by decide +kernel
theorem dX6_doFree_95 : decode cX6_doFree 95 = .ok (.aload_n 0, 1) := by decide +kernel
theorem dX6_doFree_96 : decode cX6_doFree 96 = .ok (.aload_n 1, 1) := by decide +kernel
theorem dX6_doFree_97 : decode cX6_doFree 97 = .ok (.aload_n 0, 1) := by decide +kernel
theorem dX6_doFree_98 : decode cX6_doFree 98 = .ok (.getfield 65, 3) := by decide +kernel
theorem dX6_doFree_101 : decode cX6_doFree 101 = .ok (.invokevirtual 136, 3) := by decide +kernel
theorem dX6_doFree_104 : decode cX6_doFree 104 = .ok (.aload_n 0, 1) := by decide +kernel
theorem dX6_doFree_105 : decode cX6_doFree 105 = .ok (.dup, 1) := by decide +kernel
theorem dX6_doFree_106 : decode cX6_doFree 106 = .ok (.getfield 65, 3) := by decide +kernel
theorem dX6_doFree_109 : decode cX6_doFree 109 = .ok (.iconst 1, 1) := by decide +kernel
theorem dX6_doFree_110 : decode cX6_doFree 110 = .ok (.iadd, 1) := by decide +kernel
theorem dX6_doFree_111 : decode cX6_doFree 111 = .ok (.putfield 65, 3) := by decide +kernel
theorem dX6_doFree_114 : decode cX6_doFree 114 = .ok (.iconst 1, 1) := by decide +kernel
theorem dX6_doFree_115 : decode cX6_doFree 115 = .ok (.ireturn, 1) := by decide +kernel
set_option maxRecDepth 20000 in
theorem ggX6_take_X2_bytesOf : GoodIn wsX6_take wsX2_bytesOf := goodIn_r _ [7, 8, 9, 10, 11, 12, 13, 14, 15, 16, 17, 18, 19, 20, 21, 22, 23, 24, 25, 26, 27, 28, 67, 68, 69, 70, 71, 72, 73, 74, 75, 76, 77, 78, 79, 80, 81] (by decide +kernel) (by decide +kernel)
set_option maxRecDepth 20000 in
theorem gX6_take_X2_bytesOf : GoodIn wsX6_take (wsV RX6 140 RX2 yX2_bytesOf wsX2_bytesOf) := goodIn_app (goodIn_of _ (by decide +kernel)) ggX6_take_X2_bytesOf
set_option maxRecDepth 20000 in
theorem ggX6_take_X8_choose : GoodIn wsX6_take wsX8_choose := goodIn_r _ [33, 34, 35, 82, 83, 84, 85, 86, 87, 88, 89] (by decide +kernel) (by decide +kernel)
set_option maxRecDepth 20000 in
theorem gX6_take_X8_choose : GoodIn wsX6_take (wsV RX6 144 RX8 yX8_choose wsX8_choose) := goodIn_app (goodIn_of _ (by decide +kernel)) ggX6_take_X8_choose
set_option maxRecDepth 20000 in
theorem ggX6_take_X1_ask : GoodIn wsX6_take wsX1_ask := goodIn_r _ [40, 41, 42, 43, 44, 45, 46, 32, 47, 48, 49, 50, 51, 52, 53, 90, 91, 92, 82, 83, 84, 85, 86, 87, 88, 89] (by decide +kernel) (by decide +kernel)
set_option maxRecDepth 20000 in
theorem gX6_take_X1_ask : GoodIn wsX6_take (wsV RX6 148 RX1 yX1_ask wsX1_ask) := goodIn_app (goodIn_of _ (by decide +kernel)) ggX6_take_X1_ask
theorem dX6_take_0 : decode cX6_take 0 = .ok (.aload_n 1, 1) := by decide +kernel
theorem dX6_take_1 : decode cX6_take 1 = .ok (.iload_n 2, 1) := by decide +kernel
theorem dX6_take_2 : decode cX6_take 2 = .ok (.aload_n 0, 1) := by decide +kernel
theorem dX6_take_3 : decode cX6_take 3 = .ok (.getfield 38, 3) := by decide +kernel
theorem dX6_take_6 : decode cX6_take 6 = .ok (.iload_n 2, 1) := by decide +kernel
theorem dX6_take_7 : decode cX6_take 7 = .ok (.invokevirtual 140, 3) := by decide +kernel
theorem dX6_take_10 : decode cX6_take 10 = .ok (.invokevirtual 144, 3) := by decide +kernel
theorem dX6_take_13 : decode cX6_take 13 = .ok (.aload_n 0, 1) := by decide +kernel
theorem dX6_take_14 : decode cX6_take 14 = .ok (.getfield 20, 3) := by decide +kernel
theorem dX6_take_17 : decode cX6_take 17 = .ok (.aload_n 1, 1) := by decide +kernel
theorem dX6_take_18 : decode cX6_take 18 = .ok (.invokevirtual 148, 3) := by decide +kernel
theorem dX6_take_21 : decode cX6_take 21 = .ok (.return_, 1) := by decide +kernel
set_option maxRecDepth 20000 in
theorem ggX6_doWork_X0_has : GoodIn wsX6_doWork wsX0_has := goodIn_r _ [9, 10, 104, 105, 106] (by decide +kernel) (by decide +kernel)
set_option maxRecDepth 20000 in
theorem gX6_doWork_X0_has : GoodIn wsX6_doWork (wsV RX6 158 RX0 yX0_has wsX0_has) := goodIn_app (goodIn_of _ (by decide +kernel)) ggX6_doWork_X0_has
set_option maxRecDepth 20000 in
theorem ggX6_doWork_X3_kindAt : GoodIn wsX6_doWork wsX3_kindAt := goodIn_r _ [15, 16, 17, 18, 107, 108, 109] (by decide +kernel) (by decide +kernel)
set_option maxRecDepth 20000 in
theorem gX6_doWork_X3_kindAt : GoodIn wsX6_doWork (wsV RX6 161 RX3 yX3_kindAt wsX3_kindAt) := goodIn_app (goodIn_of _ (by decide +kernel)) ggX6_doWork_X3_kindAt
set_option maxRecDepth 20000 in
theorem ggX6_doWork_X6_fail : GoodIn wsX6_doWork wsX6_fail := goodIn_r _ [23, 4, 24, 2, 25, 26, 27, 28, 29, 30, 31, 32, 33, 34, 35, 36, 37, 38, 39, 40, 41, 42, 43, 44, 45, 46, 47, 48, 49, 50, 51, 5, 6, 7, 8, 9, 10, 52, 53, 54, 55, 56, 57, 83, 84, 85, 86, 87, 88, 89, 90, 91, 92, 93, 94, 95, 96, 97, 98, 99, 100, 101, 102, 103, 110, 111, 112, 104, 105, 106] (by decide +kernel) (by decide +kernel)
set_option maxRecDepth 20000 in
theorem gX6_doWork_X6_fail : GoodIn wsX6_doWork (wsV RX6 167 RX6 yX6_fail wsX6_fail) := goodIn_app (goodIn_of _ (by decide +kernel)) ggX6_doWork_X6_fail
set_option maxRecDepth 20000 in
theorem ggX6_doWork_X2_tokensOf : GoodIn wsX6_doWork wsX2_tokensOf := goodIn_r _ [62, 63, 113, 114, 115, 116, 117, 118, 119, 120, 121] (by decide +kernel) (by decide +kernel)
set_option maxRecDepth 20000 in
theorem gX6_doWork_X2_tokensOf : GoodIn wsX6_doWork (wsV RX6 170 RX2 yX2_tokensOf wsX2_tokensOf) := goodIn_app (goodIn_of _ (by decide +kernel)) ggX6_doWork_X2_tokensOf
set_option maxRecDepth 20000 in
theorem ggX6_doWork_X1_giveBack : GoodIn wsX6_doWork wsX1_giveBack := goodIn_r _ [31, 32, 33, 34, 35, 36, 37, 30, 38, 39, 40, 41, 42, 43, 44, 45, 110, 111, 112, 83, 84, 85, 86, 87, 88, 89, 90] (by decide +kernel) (by decide +kernel)
set_option maxRecDepth 20000 in
theorem gX6_doWork_X1_giveBack : GoodIn wsX6_doWork (wsV RX6 176 RX1 yX1_giveBack wsX1_giveBack) := goodIn_app (goodIn_of _ (by decide +kernel)) ggX6_doWork_X1_giveBack
set_option maxRecDepth 20000 in
theorem ggX6_doWork_X8_holdPack : GoodIn wsX6_doWork wsX8_holdPack := goodIn_r _ [67, 44, 45, 68, 83, 84, 85, 86, 87, 88, 89, 90] (by decide +kernel) (by decide +kernel)
set_option maxRecDepth 20000 in
theorem gX6_doWork_X8_holdPack : GoodIn wsX6_doWork (wsV RX6 179 RX8 yX8_holdPack wsX8_holdPack) := goodIn_app (goodIn_of _ (by decide +kernel)) ggX6_doWork_X8_holdPack
set_option maxRecDepth 20000 in
theorem ggX6_doWork_X6_layPack : GoodIn wsX6_doWork wsX6_layPack := goodIn_r _ [72, 73, 74, 75, 76, 77, 78, 79, 80, 81, 82, 46, 47, 48, 42, 49, 44, 50, 45, 51, 91, 92, 93, 94, 95, 96, 97, 98, 99, 100, 101, 102, 103, 83, 84, 85, 86, 87, 88, 89, 90, 122, 123, 124, 125] (by decide +kernel) (by decide +kernel)
set_option maxRecDepth 20000 in
theorem gX6_doWork_X6_layPack : GoodIn wsX6_doWork (wsV RX6 182 RX6 yX6_layPack wsX6_layPack) := goodIn_app (goodIn_of _ (by decide +kernel)) ggX6_doWork_X6_layPack
theorem dX6_doWork_0 : decode cX6_doWork 0 = .ok (.aload_n 1, 1) := by decide +kernel
theorem dX6_doWork_1 : decode cX6_doWork 1 = .ok (.getfield 152, 3) := by decide +kernel
theorem dX6_doWork_4 : decode cX6_doWork 4 = .ok (.istore_n 2, 1) := by decide +kernel
theorem dX6_doWork_5 : decode cX6_doWork 5 = .ok (.aload_n 0, 1) := by decide +kernel
theorem dX6_doWork_6 : decode cX6_doWork 6 = .ok (.getfield 42, 3) := by decide +kernel
theorem dX6_doWork_9 : decode cX6_doWork 9 = .ok (.iload_n 2, 1) := by decide +kernel
theorem dX6_doWork_10 : decode cX6_doWork 10 = .ok (.aload_n 1, 1) := by decide +kernel
theorem dX6_doWork_11 : decode cX6_doWork 11 = .ok (.getfield 155, 3) := by decide +kernel
theorem dX6_doWork_14 : decode cX6_doWork 14 = .ok (.aload_n 0, 1) := by decide +kernel
theorem dX6_doWork_15 : decode cX6_doWork 15 = .ok (.getfield 34, 3) := by decide +kernel
theorem dX6_doWork_18 : decode cX6_doWork 18 = .ok (.iload_n 2, 1) := by decide +kernel
theorem dX6_doWork_19 : decode cX6_doWork 19 = .ok (.invokevirtual 158, 3) := by decide +kernel
theorem dX6_doWork_22 : decode cX6_doWork 22 = .ok (.invokevirtual 161, 3) := by decide +kernel
theorem dX6_doWork_25 : decode cX6_doWork 25 = .ok (.istore_n 3, 1) := by decide +kernel
theorem dX6_doWork_26 : decode cX6_doWork 26 = .ok (.iload_n 3, 1) := by decide +kernel
theorem dX6_doWork_27 : decode cX6_doWork 27 = .ok (.ifCond .eq 11, 3) := by decide +kernel
theorem dX6_doWork_30 : decode cX6_doWork 30 = .ok (.aload_n 0, 1) := by decide +kernel
theorem dX6_doWork_31 : decode cX6_doWork 31 = .ok (.aload_n 1, 1) := by decide +kernel
theorem dX6_doWork_32 : decode cX6_doWork 32 = .ok (.iload_n 3, 1) := by decide +kernel
theorem dX6_doWork_33 : decode cX6_doWork 33 = .ok (.invokevirtual 167, 3) := by decide +kernel
theorem dX6_doWork_36 : decode cX6_doWork 36 = .ok (.iconst 1, 1) := by decide +kernel
theorem dX6_doWork_37 : decode cX6_doWork 37 = .ok (.ireturn, 1) := by decide +kernel
theorem dX6_doWork_38 : decode cX6_doWork 38 = .ok (.aload_n 1, 1) := by decide +kernel
theorem dX6_doWork_39 : decode cX6_doWork 39 = .ok (.dup, 1) := by decide +kernel
theorem dX6_doWork_40 : decode cX6_doWork 40 = .ok (.getfield 155, 3) := by decide +kernel
theorem dX6_doWork_43 : decode cX6_doWork 43 = .ok (.iconst 1, 1) := by decide +kernel
theorem dX6_doWork_44 : decode cX6_doWork 44 = .ok (.iadd, 1) := by decide +kernel
theorem dX6_doWork_45 : decode cX6_doWork 45 = .ok (.putfield 155, 3) := by decide +kernel
theorem dX6_doWork_48 : decode cX6_doWork 48 = .ok (.aload_n 1, 1) := by decide +kernel
theorem dX6_doWork_49 : decode cX6_doWork 49 = .ok (.getfield 155, 3) := by decide +kernel
theorem dX6_doWork_52 : decode cX6_doWork 52 = .ok (.aload_n 0, 1) := by decide +kernel
theorem dX6_doWork_53 : decode cX6_doWork 53 = .ok (.getfield 38, 3) := by decide +kernel
theorem dX6_doWork_56 : decode cX6_doWork 56 = .ok (.iload_n 2, 1) := by decide +kernel
theorem dX6_doWork_57 : decode cX6_doWork 57 = .ok (.invokevirtual 170, 3) := by decide +kernel
theorem dX6_doWork_60 : decode cX6_doWork 60 = .ok (.if_icmp .lt 24, 3) := by decide +kernel
theorem dX6_doWork_63 : decode cX6_doWork 63 = .ok (.aload_n 0, 1) := by decide +kernel
theorem dX6_doWork_64 : decode cX6_doWork 64 = .ok (.getfield 20, 3) := by decide +kernel
theorem dX6_doWork_67 : decode cX6_doWork 67 = .ok (.aload_n 1, 1) := by decide +kernel
theorem dX6_doWork_68 : decode cX6_doWork 68 = .ok (.getfield 173, 3) := by decide +kernel
theorem dX6_doWork_71 : decode cX6_doWork 71 = .ok (.invokevirtual 176, 3) := by decide +kernel
theorem dX6_doWork_74 : decode cX6_doWork 74 = .ok (.aload_n 1, 1) := by decide +kernel
theorem dX6_doWork_75 : decode cX6_doWork 75 = .ok (.invokevirtual 179, 3) := by decide +kernel
theorem dX6_doWork_78 : decode cX6_doWork 78 = .ok (.aload_n 0, 1) := by decide +kernel
theorem dX6_doWork_79 : decode cX6_doWork 79 = .ok (.aload_n 1, 1) := by decide +kernel
theorem dX6_doWork_80 : decode cX6_doWork 80 = .ok (.invokevirtual 182, 3) := by decide +kernel
theorem dX6_doWork_83 : decode cX6_doWork 83 = .ok (.pop, 1) := by decide +kernel
theorem dX6_doWork_84 : decode cX6_doWork 84 = .ok (.iconst 1, 1) := by decide +kernel
theorem dX6_doWork_85 : decode cX6_doWork 85 = .ok (.ireturn, 1) := by decide +kernel
set_option maxRecDepth 20000 in
theorem ggX6_fail_X1_giveBack : GoodIn wsX6_fail wsX1_giveBack := goodIn_r _ [10, 11, 12, 13, 14, 15, 16, 9, 17, 18, 19, 20, 21, 22, 23, 24, 64, 65, 66, 43, 44, 45, 46, 47, 48, 49, 50] (by decide +kernel) (by decide +kernel)
set_option maxRecDepth 20000 in
theorem gX6_fail_X1_giveBack : GoodIn wsX6_fail (wsV RX6 176 RX1 yX1_giveBack wsX1_giveBack) := goodIn_app (goodIn_of _ (by decide +kernel)) ggX6_fail_X1_giveBack
set_option maxRecDepth 20000 in
theorem ggX6_fail_X8_becomeFree : GoodIn wsX6_fail wsX8_becomeFree := goodIn_r _ [28, 23, 29, 24, 30, 43, 44, 45, 46, 47, 48, 49, 50] (by decide +kernel) (by decide +kernel)
set_option maxRecDepth 20000 in
theorem gX6_fail_X8_becomeFree : GoodIn wsX6_fail (wsV RX6 185 RX8 yX8_becomeFree wsX8_becomeFree) := goodIn_app (goodIn_of _ (by decide +kernel)) ggX6_fail_X8_becomeFree
set_option maxRecDepth 20000 in
theorem ggX6_fail_X0_has : GoodIn wsX6_fail wsX0_has := goodIn_r _ [35, 36, 67, 68, 69] (by decide +kernel) (by decide +kernel)
set_option maxRecDepth 20000 in
theorem gX6_fail_X0_has : GoodIn wsX6_fail (wsV RX6 158 RX0 yX0_has wsX0_has) := goodIn_app (goodIn_of _ (by decide +kernel)) ggX6_fail_X0_has
set_option maxRecDepth 20000 in
theorem ggX6_fail_X0_add : GoodIn wsX6_fail wsX0_add := goodIn_r _ [40, 36, 41, 42, 67, 68, 69] (by decide +kernel) (by decide +kernel)
set_option maxRecDepth 20000 in
theorem gX6_fail_X0_add : GoodIn wsX6_fail (wsV RX6 188 RX0 yX0_add wsX0_add) := goodIn_app (goodIn_of _ (by decide +kernel)) ggX6_fail_X0_add
theorem dX6_fail_0 : decode cX6_fail 0 = .ok (.aload_n 1, 1) := by decide +kernel
theorem dX6_fail_1 : decode cX6_fail 1 = .ok (.getfield 152, 3) := by decide +kernel
theorem dX6_fail_4 : decode cX6_fail 4 = .ok (.istore_n 3, 1) := by decide +kernel
theorem dX6_fail_5 : decode cX6_fail 5 = .ok (.aload_n 0, 1) := by decide +kernel
theorem dX6_fail_6 : decode cX6_fail 6 = .ok (.getfield 20, 3) := by decide +kernel
theorem dX6_fail_9 : decode cX6_fail 9 = .ok (.aload_n 1, 1) := by decide +kernel
theorem dX6_fail_10 : decode cX6_fail 10 = .ok (.getfield 173, 3) := by decide +kernel
theorem dX6_fail_13 : decode cX6_fail 13 = .ok (.invokevirtual 176, 3) := by decide +kernel
theorem dX6_fail_16 : decode cX6_fail 16 = .ok (.aload_n 1, 1) := by decide +kernel
theorem dX6_fail_17 : decode cX6_fail 17 = .ok (.invokevirtual 185, 3) := by decide +kernel
theorem dX6_fail_20 : decode cX6_fail 20 = .ok (.aload_n 0, 1) := by decide +kernel
theorem dX6_fail_21 : decode cX6_fail 21 = .ok (.dup, 1) := by decide +kernel
theorem dX6_fail_22 : decode cX6_fail 22 = .ok (.getfield 74, 3) := by decide +kernel
theorem dX6_fail_25 : decode cX6_fail 25 = .ok (.iconst 1, 1) := by decide +kernel
theorem dX6_fail_26 : decode cX6_fail 26 = .ok (.iadd, 1) := by decide +kernel
theorem dX6_fail_27 : decode cX6_fail 27 = .ok (.putfield 74, 3) := by decide +kernel
theorem dX6_fail_30 : decode cX6_fail 30 = .ok (.aload_n 0, 1) := by decide +kernel
theorem dX6_fail_31 : decode cX6_fail 31 = .ok (.getfield 34, 3) := by decide +kernel
theorem dX6_fail_34 : decode cX6_fail 34 = .ok (.iload_n 3, 1) := by decide +kernel
theorem dX6_fail_35 : decode cX6_fail 35 = .ok (.invokevirtual 158, 3) := by decide +kernel
theorem dX6_fail_38 : decode cX6_fail 38 = .ok (.ifCond .eq 16, 3) := by decide +kernel
theorem dX6_fail_41 : decode cX6_fail 41 = .ok (.aload_n 0, 1) := by decide +kernel
theorem dX6_fail_42 : decode cX6_fail 42 = .ok (.iload_n 3, 1) := by decide +kernel
theorem dX6_fail_43 : decode cX6_fail 43 = .ok (.putfield 68, 3) := by decide +kernel
theorem dX6_fail_46 : decode cX6_fail 46 = .ok (.aload_n 0, 1) := by decide +kernel
theorem dX6_fail_47 : decode cX6_fail 47 = .ok (.iload_n 2, 1) := by decide +kernel
theorem dX6_fail_48 : decode cX6_fail 48 = .ok (.putfield 71, 3) := by decide +kernel
theorem dX6_fail_51 : decode cX6_fail 51 = .ok (.goto 11, 3) := by decide +kernel
theorem dX6_fail_54 : decode cX6_fail 54 = .ok (.aload_n 0, 1) := by decide +kernel
theorem dX6_fail_55 : decode cX6_fail 55 = .ok (.getfield 34, 3) := by decide +kernel
theorem dX6_fail_58 : decode cX6_fail 58 = .ok (.iload_n 3, 1) := by decide +kernel
theorem dX6_fail_59 : decode cX6_fail 59 = .ok (.invokevirtual 188, 3) := by decide +kernel
theorem dX6_fail_62 : decode cX6_fail 62 = .ok (.return_, 1) := by decide +kernel
set_option maxRecDepth 20000 in
theorem ggX6_doHolding_X6_hasStopped : GoodIn wsX6_doHolding wsX6_hasStopped := goodIn_r _ [5, 6, 36, 37, 38, 39, 40, 41, 42, 43, 44, 45, 46, 47, 48] (by decide +kernel) (by decide +kernel)
set_option maxRecDepth 20000 in
theorem gX6_doHolding_X6_hasStopped : GoodIn wsX6_doHolding (wsV RX6 109 RX6 yX6_hasStopped wsX6_hasStopped) := goodIn_app (goodIn_of _ (by decide +kernel)) ggX6_doHolding_X6_hasStopped
set_option maxRecDepth 20000 in
theorem ggX6_doHolding_X8_end : GoodIn wsX6_doHolding wsX8_end := goodIn_r _ [11, 12, 13, 14, 15, 16, 10, 17, 18, 19, 20, 49, 50, 51, 52, 53, 54, 55, 56] (by decide +kernel) (by decide +kernel)
set_option maxRecDepth 20000 in
theorem gX6_doHolding_X8_end : GoodIn wsX6_doHolding (wsV RX6 121 RX8 yX8_end wsX8_end) := goodIn_app (goodIn_of _ (by decide +kernel)) ggX6_doHolding_X8_end
set_option maxRecDepth 20000 in
theorem ggX6_doHolding_X6_layPack : GoodIn wsX6_doHolding wsX6_layPack := goodIn_r _ [24, 25, 26, 27, 28, 29, 30, 31, 32, 33, 34, 35, 15, 16, 10, 17, 12, 18, 19, 20, 36, 37, 38, 39, 40, 41, 42, 43, 44, 45, 46, 47, 48, 49, 50, 51, 52, 53, 54, 55, 56, 57, 58, 59, 60] (by decide +kernel) (by decide +kernel)
set_option maxRecDepth 20000 in
theorem gX6_doHolding_X6_layPack : GoodIn wsX6_doHolding (wsV RX6 182 RX6 yX6_layPack wsX6_layPack) := goodIn_app (goodIn_of _ (by decide +kernel)) ggX6_doHolding_X6_layPack
theorem dX6_doHolding_0 : decode cX6_doHolding 0 = .ok (.aload_n 0, 1) := by decide +kernel
theorem dX6_doHolding_1 : decode cX6_doHolding 1 = .ok (.invokevirtual 109, 3) := by decide +kernel
theorem dX6_doHolding_4 : decode cX6_doHolding 4 = .ok (.ifCond .eq 9, 3) := by decide +kernel
theorem dX6_doHolding_7 : decode cX6_doHolding 7 = .ok (.aload_n 1, 1) := by decide +kernel
theorem dX6_doHolding_8 : decode cX6_doHolding 8 = .ok (.invokevirtual 121, 3) := by decide +kernel
theorem dX6_doHolding_11 : decode cX6_doHolding 11 = .ok (.iconst 1, 1) := by decide +kernel
theorem dX6_doHolding_12 : decode cX6_doHolding 12 = .ok (.ireturn, 1) := by decide +kernel
theorem dX6_doHolding_13 : decode cX6_doHolding 13 = .ok (.aload_n 0, 1) := by decide +kernel
theorem dX6_doHolding_14 : decode cX6_doHolding 14 = .ok (.aload_n 1, 1) := by decide +kernel
theorem dX6_doHolding_15 : decode cX6_doHolding 15 = .ok (.invokevirtual 182, 3) := by decide +kernel
theorem dX6_doHolding_18 : decode cX6_doHolding 18 = .ok (.ireturn, 1) := by decide +kernel
set_option maxRecDepth 20000 in
theorem ggX6_layPack_X4_lay : GoodIn wsX6_layPack wsX4_lay := goodIn_r _ [6, 7, 8, 9, 10, 41, 42, 43, 44] (by decide +kernel) (by decide +kernel)
set_option maxRecDepth 20000 in
theorem gX6_layPack_X4_lay : GoodIn wsX6_layPack (wsV RX6 191 RX4 yX4_lay wsX4_lay) := goodIn_app (goodIn_of _ (by decide +kernel)) ggX6_layPack_X4_lay
set_option maxRecDepth 20000 in
theorem ggX6_layPack_X8_becomeFree : GoodIn wsX6_layPack wsX8_becomeFree := goodIn_r _ [15, 16, 17, 18, 19, 33, 34, 35, 36, 37, 38, 39, 40] (by decide +kernel) (by decide +kernel)
set_option maxRecDepth 20000 in
theorem gX6_layPack_X8_becomeFree : GoodIn wsX6_layPack (wsV RX6 185 RX8 yX8_becomeFree wsX8_becomeFree) := goodIn_app (goodIn_of _ (by decide +kernel)) ggX6_layPack_X8_becomeFree
theorem dX6_layPack_0 : decode cX6_layPack 0 = .ok (.aload_n 0, 1) := by decide +kernel
theorem dX6_layPack_1 : decode cX6_layPack 1 = .ok (.getfield 27, 3) := by decide +kernel
theorem dX6_layPack_4 : decode cX6_layPack 4 = .ok (.aload_n 1, 1) := by decide +kernel
theorem dX6_layPack_5 : decode cX6_layPack 5 = .ok (.getfield 152, 3) := by decide +kernel
theorem dX6_layPack_8 : decode cX6_layPack 8 = .ok (.invokevirtual 191, 3) := by decide +kernel
theorem dX6_layPack_11 : decode cX6_layPack 11 = .ok (.ifCond .ne 5, 3) := by decide +kernel
theorem dX6_layPack_14 : decode cX6_layPack 14 = .ok (.iconst 0, 1) := by decide +kernel
theorem dX6_layPack_15 : decode cX6_layPack 15 = .ok (.ireturn, 1) := by decide +kernel
theorem dX6_layPack_16 : decode cX6_layPack 16 = .ok (.aload_n 1, 1) := by decide +kernel
theorem dX6_layPack_17 : decode cX6_layPack 17 = .ok (.invokevirtual 185, 3) := by decide +kernel
theorem dX6_layPack_20 : decode cX6_layPack 20 = .ok (.iconst 1, 1) := by decide +kernel
theorem dX6_layPack_21 : decode cX6_layPack 21 = .ok (.ireturn, 1) := by decide +kernel
theorem dX6_hasStopped_0 : decode cX6_hasStopped 0 = .ok (.aload_n 0, 1) := by decide +kernel
theorem dX6_hasStopped_1 : decode cX6_hasStopped 1 = .ok (.getfield 68, 3) := by decide +kernel
theorem dX6_hasStopped_4 : decode cX6_hasStopped 4 = .ok (.iconst (-1), 1) := by decide +kernel
theorem dX6_hasStopped_5 : decode cX6_hasStopped 5 = .ok (.if_icmp .eq 7, 3) := by decide +kernel
theorem dX6_hasStopped_8 : decode cX6_hasStopped 8 = .ok (.iconst 1, 1) := by decide +kernel
theorem dX6_hasStopped_9 : decode cX6_hasStopped 9 = .ok (.goto 4, 3) := by decide +kernel
theorem dX6_hasStopped_12 : decode cX6_hasStopped 12 = .ok (.iconst 0, 1) := by decide +kernel
theorem dX6_hasStopped_13 : decode cX6_hasStopped 13 = .ok (.ireturn, 1) := by decide +kernel
set_option maxRecDepth 20000 in
theorem ggX6_isBlockDoneAgain_X0_has : GoodIn wsX6_isBlockDoneAgain wsX0_has := goodIn_r _ [7, 8, 30, 31, 32] (by decide +kernel) (by decide +kernel)
set_option maxRecDepth 20000 in
theorem gX6_isBlockDoneAgain_X0_has : GoodIn wsX6_isBlockDoneAgain (wsV RX6 158 RX0 yX0_has wsX0_has) := goodIn_app (goodIn_of _ (by decide +kernel)) ggX6_isBlockDoneAgain_X0_has
theorem dX6_isBlockDoneAgain_0 : decode cX6_isBlockDoneAgain 0 = .ok (.iconst 0, 1) := by decide +kernel
theorem dX6_isBlockDoneAgain_1 : decode cX6_isBlockDoneAgain 1 = .ok (.istore_n 1, 1) := by decide +kernel
theorem dX6_isBlockDoneAgain_2 : decode cX6_isBlockDoneAgain 2 = .ok (.iload_n 1, 1) := by decide +kernel
theorem dX6_isBlockDoneAgain_3 : decode cX6_isBlockDoneAgain 3 = .ok (.aload_n 0, 1) := by decide +kernel
theorem dX6_isBlockDoneAgain_4 : decode cX6_isBlockDoneAgain 4 = .ok (.getfield 11, 3) := by decide +kernel
theorem dX6_isBlockDoneAgain_7 : decode cX6_isBlockDoneAgain 7 = .ok (.arraylength, 1) := by decide +kernel
theorem dX6_isBlockDoneAgain_8 : decode cX6_isBlockDoneAgain 8 = .ok (.if_icmp .ge 40, 3) := by decide +kernel
theorem dX6_isBlockDoneAgain_11 : decode cX6_isBlockDoneAgain 11 = .ok (.aload_n 0, 1) := by decide +kernel
theorem dX6_isBlockDoneAgain_12 : decode cX6_isBlockDoneAgain 12 = .ok (.getfield 11, 3) := by decide +kernel
theorem dX6_isBlockDoneAgain_15 : decode cX6_isBlockDoneAgain 15 = .ok (.iload_n 1, 1) := by decide +kernel
theorem dX6_isBlockDoneAgain_16 : decode cX6_isBlockDoneAgain 16 = .ok (.aaload, 1) := by decide +kernel
theorem dX6_isBlockDoneAgain_17 : decode cX6_isBlockDoneAgain 17 = .ok (.astore_n 2, 1) := by decide +kernel
theorem dX6_isBlockDoneAgain_18 : decode cX6_isBlockDoneAgain 18 = .ok (.aload_n 2, 1) := by decide +kernel
theorem dX6_isBlockDoneAgain_19 : decode cX6_isBlockDoneAgain 19 = .ok (.getfield 92, 3) := by decide +kernel
theorem dX6_isBlockDoneAgain_22 : decode cX6_isBlockDoneAgain 22 = .ok (.iconst 2, 1) := by decide +kernel
theorem dX6_isBlockDoneAgain_23 : decode cX6_isBlockDoneAgain 23 = .ok (.if_icmp .ne 19, 3) := by decide +kernel
theorem dX6_isBlockDoneAgain_26 : decode cX6_isBlockDoneAgain 26 = .ok (.aload_n 0, 1) := by decide +kernel
theorem dX6_isBlockDoneAgain_27 : decode cX6_isBlockDoneAgain 27 = .ok (.getfield 34, 3) := by decide +kernel
theorem dX6_isBlockDoneAgain_30 : decode cX6_isBlockDoneAgain 30 = .ok (.aload_n 2, 1) := by decide +kernel
theorem dX6_isBlockDoneAgain_31 : decode cX6_isBlockDoneAgain 31 = .ok (.getfield 152, 3) := by decide +kernel
theorem dX6_isBlockDoneAgain_34 : decode cX6_isBlockDoneAgain 34 = .ok (.invokevirtual 158, 3) := by decide +kernel
theorem dX6_isBlockDoneAgain_37 : decode cX6_isBlockDoneAgain 37 = .ok (.ifCond .eq 5, 3) := by decide +kernel
theorem dX6_isBlockDoneAgain_40 : decode cX6_isBlockDoneAgain 40 = .ok (.iconst 1, 1) := by decide +kernel
theorem dX6_isBlockDoneAgain_41 : decode cX6_isBlockDoneAgain 41 = .ok (.ireturn, 1) := by decide +kernel
theorem dX6_isBlockDoneAgain_42 : decode cX6_isBlockDoneAgain 42 = .ok (.iinc 1 1, 3) := by decide +kernel
theorem dX6_isBlockDoneAgain_45 : decode cX6_isBlockDoneAgain 45 = .ok (.goto (-43), 3) := by decide +kernel
theorem dX6_isBlockDoneAgain_48 : decode cX6_isBlockDoneAgain 48 = .ok (.iconst 0, 1) := by decide +kernel
theorem dX6_isBlockDoneAgain_49 : decode cX6_isBlockDoneAgain 49 = .ok (.ireturn, 1) := by decide +kernel
theorem dX6_isAnyAtWork_0 : decode cX6_isAnyAtWork 0 = .ok (.iconst 0, 1) := by decide +kernel
theorem dX6_isAnyAtWork_1 : decode cX6_isAnyAtWork 1 = .ok (.istore_n 1, 1) := by decide +kernel
theorem dX6_isAnyAtWork_2 : decode cX6_isAnyAtWork 2 = .ok (.iload_n 1, 1) := by decide +kernel
theorem dX6_isAnyAtWork_3 : decode cX6_isAnyAtWork 3 = .ok (.aload_n 0, 1) := by decide +kernel
theorem dX6_isAnyAtWork_4 : decode cX6_isAnyAtWork 4 = .ok (.getfield 11, 3) := by decide +kernel
theorem dX6_isAnyAtWork_7 : decode cX6_isAnyAtWork 7 = .ok (.arraylength, 1) := by decide +kernel
theorem dX6_isAnyAtWork_8 : decode cX6_isAnyAtWork 8 = .ok (.if_icmp .ge 24, 3) := by decide +kernel
theorem dX6_isAnyAtWork_11 : decode cX6_isAnyAtWork 11 = .ok (.aload_n 0, 1) := by decide +kernel
theorem dX6_isAnyAtWork_12 : decode cX6_isAnyAtWork 12 = .ok (.getfield 11, 3) := by decide +kernel
theorem dX6_isAnyAtWork_15 : decode cX6_isAnyAtWork 15 = .ok (.iload_n 1, 1) := by decide +kernel
theorem dX6_isAnyAtWork_16 : decode cX6_isAnyAtWork 16 = .ok (.aaload, 1) := by decide +kernel
theorem dX6_isAnyAtWork_17 : decode cX6_isAnyAtWork 17 = .ok (.getfield 92, 3) := by decide +kernel
theorem dX6_isAnyAtWork_20 : decode cX6_isAnyAtWork 20 = .ok (.iconst 2, 1) := by decide +kernel
theorem dX6_isAnyAtWork_21 : decode cX6_isAnyAtWork 21 = .ok (.if_icmp .ne 5, 3) := by decide +kernel
theorem dX6_isAnyAtWork_24 : decode cX6_isAnyAtWork 24 = .ok (.iconst 1, 1) := by decide +kernel
theorem dX6_isAnyAtWork_25 : decode cX6_isAnyAtWork 25 = .ok (.ireturn, 1) := by decide +kernel
theorem dX6_isAnyAtWork_26 : decode cX6_isAnyAtWork 26 = .ok (.iinc 1 1, 3) := by decide +kernel
theorem dX6_isAnyAtWork_29 : decode cX6_isAnyAtWork 29 = .ok (.goto (-27), 3) := by decide +kernel
theorem dX6_isAnyAtWork_32 : decode cX6_isAnyAtWork 32 = .ok (.iconst 0, 1) := by decide +kernel
theorem dX6_isAnyAtWork_33 : decode cX6_isAnyAtWork 33 = .ok (.ireturn, 1) := by decide +kernel
theorem dX6_allEnded_0 : decode cX6_allEnded 0 = .ok (.iconst 0, 1) := by decide +kernel
theorem dX6_allEnded_1 : decode cX6_allEnded 1 = .ok (.istore_n 1, 1) := by decide +kernel
theorem dX6_allEnded_2 : decode cX6_allEnded 2 = .ok (.iload_n 1, 1) := by decide +kernel
theorem dX6_allEnded_3 : decode cX6_allEnded 3 = .ok (.aload_n 0, 1) := by decide +kernel
theorem dX6_allEnded_4 : decode cX6_allEnded 4 = .ok (.getfield 49, 3) := by decide +kernel
theorem dX6_allEnded_7 : decode cX6_allEnded 7 = .ok (.if_icmp .ge 33, 3) := by decide +kernel
theorem dX6_allEnded_10 : decode cX6_allEnded 10 = .ok (.iload_n 1, 1) := by decide +kernel
theorem dX6_allEnded_11 : decode cX6_allEnded 11 = .ok (.aload_n 0, 1) := by decide +kernel
theorem dX6_allEnded_12 : decode cX6_allEnded 12 = .ok (.getfield 11, 3) := by decide +kernel
theorem dX6_allEnded_15 : decode cX6_allEnded 15 = .ok (.arraylength, 1) := by decide +kernel
theorem dX6_allEnded_16 : decode cX6_allEnded 16 = .ok (.if_icmp .ge 24, 3) := by decide +kernel
theorem dX6_allEnded_19 : decode cX6_allEnded 19 = .ok (.aload_n 0, 1) := by decide +kernel
theorem dX6_allEnded_20 : decode cX6_allEnded 20 = .ok (.getfield 11, 3) := by decide +kernel
theorem dX6_allEnded_23 : decode cX6_allEnded 23 = .ok (.iload_n 1, 1) := by decide +kernel
theorem dX6_allEnded_24 : decode cX6_allEnded 24 = .ok (.aaload, 1) := by decide +kernel
theorem dX6_allEnded_25 : decode cX6_allEnded 25 = .ok (.getfield 92, 3) := by decide +kernel
theorem dX6_allEnded_28 : decode cX6_allEnded 28 = .ok (.iconst 4, 1) := by decide +kernel
theorem dX6_allEnded_29 : decode cX6_allEnded 29 = .ok (.if_icmp .eq 5, 3) := by decide +kernel
theorem dX6_allEnded_32 : decode cX6_allEnded 32 = .ok (.iconst 0, 1) := by decide +kernel
theorem dX6_allEnded_33 : decode cX6_allEnded 33 = .ok (.ireturn, 1) := by decide +kernel
theorem dX6_allEnded_34 : decode cX6_allEnded 34 = .ok (.iinc 1 1, 3) := by decide +kernel
theorem dX6_allEnded_37 : decode cX6_allEnded 37 = .ok (.goto (-35), 3) := by decide +kernel
theorem dX6_allEnded_40 : decode cX6_allEnded 40 = .ok (.iconst 1, 1) := by decide +kernel
theorem dX6_allEnded_41 : decode cX6_allEnded 41 = .ok (.ireturn, 1) := by decide +kernel
set_option maxRecDepth 20000 in
theorem ggX6_markInterrupted_X6_worker : GoodIn wsX6_markInterrupted wsX6_worker := goodIn_r _ [5, 6, 7, 16, 17, 18, 19, 20, 21, 22, 23, 24, 25, 26, 27, 28] (by decide +kernel) (by decide +kernel)
set_option maxRecDepth 20000 in
theorem gX6_markInterrupted_X6_worker : GoodIn wsX6_markInterrupted (wsV RX6 88 RX6 yX6_worker wsX6_worker) := goodIn_app (goodIn_of _ (by decide +kernel)) ggX6_markInterrupted_X6_worker
theorem dX6_markInterrupted_0 : decode cX6_markInterrupted 0 = .ok (.aload_n 0, 1) := by decide +kernel
theorem dX6_markInterrupted_1 : decode cX6_markInterrupted 1 = .ok (.iload_n 1, 1) := by decide +kernel
theorem dX6_markInterrupted_2 : decode cX6_markInterrupted 2 = .ok (.invokevirtual 88, 3) := by decide +kernel
theorem dX6_markInterrupted_5 : decode cX6_markInterrupted 5 = .ok (.astore_n 2, 1) := by decide +kernel
theorem dX6_markInterrupted_6 : decode cX6_markInterrupted 6 = .ok (.aload_n 2, 1) := by decide +kernel
theorem dX6_markInterrupted_7 : decode cX6_markInterrupted 7 = .ok (.ifnull 18, 3) := by decide +kernel
theorem dX6_markInterrupted_10 : decode cX6_markInterrupted 10 = .ok (.aload_n 2, 1) := by decide +kernel
theorem dX6_markInterrupted_11 : decode cX6_markInterrupted 11 = .ok (.getfield 105, 3) := by decide +kernel
theorem dX6_markInterrupted_14 : decode cX6_markInterrupted 14 = .ok (.ifCond .ne 11, 3) := by decide +kernel
theorem dX6_markInterrupted_17 : decode cX6_markInterrupted 17 = .ok (.aload_n 2, 1) := by decide +kernel
theorem dX6_markInterrupted_18 : decode cX6_markInterrupted 18 = .ok (.getfield 92, 3) := by decide +kernel
theorem dX6_markInterrupted_21 : decode cX6_markInterrupted 21 = .ok (.iconst 4, 1) := by decide +kernel
theorem dX6_markInterrupted_22 : decode cX6_markInterrupted 22 = .ok (.if_icmp .ne 5, 3) := by decide +kernel
theorem dX6_markInterrupted_25 : decode cX6_markInterrupted 25 = .ok (.iconst 0, 1) := by decide +kernel
theorem dX6_markInterrupted_26 : decode cX6_markInterrupted 26 = .ok (.ireturn, 1) := by decide +kernel
theorem dX6_markInterrupted_27 : decode cX6_markInterrupted 27 = .ok (.aload_n 2, 1) := by decide +kernel
theorem dX6_markInterrupted_28 : decode cX6_markInterrupted 28 = .ok (.iconst 1, 1) := by decide +kernel
theorem dX6_markInterrupted_29 : decode cX6_markInterrupted 29 = .ok (.putfield 105, 3) := by decide +kernel
theorem dX6_markInterrupted_32 : decode cX6_markInterrupted 32 = .ok (.iconst 1, 1) := by decide +kernel
theorem dX6_markInterrupted_33 : decode cX6_markInterrupted 33 = .ok (.ireturn, 1) := by decide +kernel
set_option maxRecDepth 20000 in
theorem ggX6_endAll_X1_giveBack : GoodIn wsX6_endAll wsX1_giveBack := goodIn_r _ [8, 9, 10, 11, 12, 13, 14, 7, 15, 16, 17, 18, 19, 20, 21, 22, 47, 48, 49, 50, 51, 52, 53, 54, 55, 56, 57] (by decide +kernel) (by decide +kernel)
set_option maxRecDepth 20000 in
theorem gX6_endAll_X1_giveBack : GoodIn wsX6_endAll (wsV RX6 176 RX1 yX1_giveBack wsX1_giveBack) := goodIn_app (goodIn_of _ (by decide +kernel)) ggX6_endAll_X1_giveBack
set_option maxRecDepth 20000 in
theorem ggX6_endAll_X8_end : GoodIn wsX6_endAll wsX8_end := goodIn_r _ [26, 21, 27, 28, 29, 30, 19, 31, 32, 22, 33, 50, 51, 52, 53, 54, 55, 56, 57] (by decide +kernel) (by decide +kernel)
set_option maxRecDepth 20000 in
theorem gX6_endAll_X8_end : GoodIn wsX6_endAll (wsV RX6 121 RX8 yX8_end wsX8_end) := goodIn_app (goodIn_of _ (by decide +kernel)) ggX6_endAll_X8_end
theorem dX6_endAll_0 : decode cX6_endAll 0 = .ok (.iconst 0, 1) := by decide +kernel
theorem dX6_endAll_1 : decode cX6_endAll 1 = .ok (.istore_n 1, 1) := by decide +kernel
theorem dX6_endAll_2 : decode cX6_endAll 2 = .ok (.aload_n 0, 1) := by decide +kernel
theorem dX6_endAll_3 : decode cX6_endAll 3 = .ok (.getfield 20, 3) := by decide +kernel
theorem dX6_endAll_6 : decode cX6_endAll 6 = .ok (.iconst 0, 1) := by decide +kernel
theorem dX6_endAll_7 : decode cX6_endAll 7 = .ok (.putfield 194, 3) := by decide +kernel
theorem dX6_endAll_10 : decode cX6_endAll 10 = .ok (.iconst 0, 1) := by decide +kernel
theorem dX6_endAll_11 : decode cX6_endAll 11 = .ok (.istore_n 2, 1) := by decide +kernel
theorem dX6_endAll_12 : decode cX6_endAll 12 = .ok (.iload_n 2, 1) := by decide +kernel
theorem dX6_endAll_13 : decode cX6_endAll 13 = .ok (.aload_n 0, 1) := by decide +kernel
theorem dX6_endAll_14 : decode cX6_endAll 14 = .ok (.getfield 49, 3) := by decide +kernel
theorem dX6_endAll_17 : decode cX6_endAll 17 = .ok (.if_icmp .ge 59, 3) := by decide +kernel
theorem dX6_endAll_20 : decode cX6_endAll 20 = .ok (.iload_n 2, 1) := by decide +kernel
theorem dX6_endAll_21 : decode cX6_endAll 21 = .ok (.aload_n 0, 1) := by decide +kernel
theorem dX6_endAll_22 : decode cX6_endAll 22 = .ok (.getfield 11, 3) := by decide +kernel
theorem dX6_endAll_25 : decode cX6_endAll 25 = .ok (.arraylength, 1) := by decide +kernel
theorem dX6_endAll_26 : decode cX6_endAll 26 = .ok (.if_icmp .ge 50, 3) := by decide +kernel
theorem dX6_endAll_29 : decode cX6_endAll 29 = .ok (.aload_n 0, 1) := by decide +kernel
theorem dX6_endAll_30 : decode cX6_endAll 30 = .ok (.getfield 11, 3) := by decide +kernel
theorem dX6_endAll_33 : decode cX6_endAll 33 = .ok (.iload_n 2, 1) := by decide +kernel
theorem dX6_endAll_34 : decode cX6_endAll 34 = .ok (.aaload, 1) := by decide +kernel
theorem dX6_endAll_35 : decode cX6_endAll 35 = .ok (.astore_n 3, 1) := by decide +kernel
theorem dX6_endAll_36 : decode cX6_endAll 36 = .ok (.aload_n 3, 1) := by decide +kernel
theorem dX6_endAll_37 : decode cX6_endAll 37 = .ok (.getfield 92, 3) := by decide +kernel
theorem dX6_endAll_40 : decode cX6_endAll 40 = .ok (.iconst 2, 1) := by decide +kernel
theorem dX6_endAll_41 : decode cX6_endAll 41 = .ok (.if_icmp .ne 14, 3) := by decide +kernel
theorem dX6_endAll_44 : decode cX6_endAll 44 = .ok (.aload_n 0, 1) := by decide +kernel
theorem dX6_endAll_45 : decode cX6_endAll 45 = .ok (.getfield 20, 3) := by decide +kernel
theorem dX6_endAll_48 : decode cX6_endAll 48 = .ok (.aload_n 3, 1) := by decide +kernel
theorem dX6_endAll_49 : decode cX6_endAll 49 = .ok (.getfield 173, 3) := by decide +kernel
theorem dX6_endAll_52 : decode cX6_endAll 52 = .ok (.invokevirtual 176, 3) := by decide +kernel
theorem dX6_endAll_55 : decode cX6_endAll 55 = .ok (.aload_n 3, 1) := by decide +kernel
theorem dX6_endAll_56 : decode cX6_endAll 56 = .ok (.getfield 92, 3) := by decide +kernel
theorem dX6_endAll_59 : decode cX6_endAll 59 = .ok (.iconst 4, 1) := by decide +kernel
theorem dX6_endAll_60 : decode cX6_endAll 60 = .ok (.if_icmp .eq 10, 3) := by decide +kernel
theorem dX6_endAll_63 : decode cX6_endAll 63 = .ok (.aload_n 3, 1) := by decide +kernel
theorem dX6_endAll_64 : decode cX6_endAll 64 = .ok (.invokevirtual 121, 3) := by decide +kernel
theorem dX6_endAll_67 : decode cX6_endAll 67 = .ok (.iinc 1 1, 3) := by decide +kernel
theorem dX6_endAll_70 : decode cX6_endAll 70 = .ok (.iinc 2 1, 3) := by decide +kernel
theorem dX6_endAll_73 : decode cX6_endAll 73 = .ok (.goto (-61), 3) := by decide +kernel
theorem dX6_endAll_76 : decode cX6_endAll 76 = .ok (.iload_n 1, 1) := by decide +kernel
theorem dX6_endAll_77 : decode cX6_endAll 77 = .ok (.ireturn, 1) := by decide +kernel
set_option maxRecDepth 20000 in
theorem ggX6_joinedBytes_X2_lengthOfFirst : GoodIn wsX6_joinedBytes wsX2_lengthOfFirst := goodIn_r _ [7, 8, 26, 27, 28, 29, 30, 31, 32, 33, 34] (by decide +kernel) (by decide +kernel)
set_option maxRecDepth 20000 in
theorem gX6_joinedBytes_X2_lengthOfFirst : GoodIn wsX6_joinedBytes (wsV RX6 195 RX2 yX2_lengthOfFirst wsX2_lengthOfFirst) := goodIn_app (goodIn_of _ (by decide +kernel)) ggX6_joinedBytes_X2_lengthOfFirst
theorem dX6_joinedBytes_0 : decode cX6_joinedBytes 0 = .ok (.aload_n 0, 1) := by decide +kernel
theorem dX6_joinedBytes_1 : decode cX6_joinedBytes 1 = .ok (.getfield 38, 3) := by decide +kernel
theorem dX6_joinedBytes_4 : decode cX6_joinedBytes 4 = .ok (.aload_n 0, 1) := by decide +kernel
theorem dX6_joinedBytes_5 : decode cX6_joinedBytes 5 = .ok (.getfield 27, 3) := by decide +kernel
theorem dX6_joinedBytes_8 : decode cX6_joinedBytes 8 = .ok (.getfield 112, 3) := by decide +kernel
theorem dX6_joinedBytes_11 : decode cX6_joinedBytes 11 = .ok (.invokevirtual 195, 3) := by decide +kernel
theorem dX6_joinedBytes_14 : decode cX6_joinedBytes 14 = .ok (.ireturn, 1) := by decide +kernel
set_option maxRecDepth 20000 in
theorem ggX6_numberInLine_X1_numberAt : GoodIn wsX6_numberInLine wsX1_numberAt := goodIn_r _ [6, 7, 8, 22, 23, 24, 25, 26, 27, 28, 29, 30, 31, 32] (by decide +kernel) (by decide +kernel)
set_option maxRecDepth 20000 in
theorem gX6_numberInLine_X1_numberAt : GoodIn wsX6_numberInLine (wsV RX6 198 RX1 yX1_numberAt wsX1_numberAt) := goodIn_app (goodIn_of _ (by decide +kernel)) ggX6_numberInLine_X1_numberAt
theorem dX6_numberInLine_0 : decode cX6_numberInLine 0 = .ok (.aload_n 0, 1) := by decide +kernel
theorem dX6_numberInLine_1 : decode cX6_numberInLine 1 = .ok (.getfield 20, 3) := by decide +kernel
theorem dX6_numberInLine_4 : decode cX6_numberInLine 4 = .ok (.iload_n 1, 1) := by decide +kernel
theorem dX6_numberInLine_5 : decode cX6_numberInLine 5 = .ok (.invokevirtual 198, 3) := by decide +kernel
theorem dX6_numberInLine_8 : decode cX6_numberInLine 8 = .ok (.ireturn, 1) := by decide +kernel
set_option maxRecDepth 20000 in
theorem ggX6_tellOfThread_X6_worker : GoodIn wsX6_tellOfThread wsX6_worker := goodIn_r _ [5, 6, 7, 16, 17, 18, 19, 20, 21, 22, 23, 24, 25, 26, 27, 28] (by decide +kernel) (by decide +kernel)
set_option maxRecDepth 20000 in
theorem gX6_tellOfThread_X6_worker : GoodIn wsX6_tellOfThread (wsV RX6 88 RX6 yX6_worker wsX6_worker) := goodIn_app (goodIn_of _ (by decide +kernel)) ggX6_tellOfThread_X6_worker
theorem dX6_tellOfThread_0 : decode cX6_tellOfThread 0 = .ok (.aload_n 0, 1) := by decide +kernel
theorem dX6_tellOfThread_1 : decode cX6_tellOfThread 1 = .ok (.iload_n 1, 1) := by decide +kernel
theorem dX6_tellOfThread_2 : decode cX6_tellOfThread 2 = .ok (.invokevirtual 88, 3) := by decide +kernel
theorem dX6_tellOfThread_5 : decode cX6_tellOfThread 5 = .ok (.astore_n 3, 1) := by decide +kernel
theorem dX6_tellOfThread_6 : decode cX6_tellOfThread 6 = .ok (.aload_n 3, 1) := by decide +kernel
theorem dX6_tellOfThread_7 : decode cX6_tellOfThread 7 = .ok (.ifnonnull 6, 3) := by decide +kernel
theorem dX6_tellOfThread_10 : decode cX6_tellOfThread 10 = .ok (.bipush (-2), 2) := by decide +kernel
theorem dX6_tellOfThread_12 : decode cX6_tellOfThread 12 = .ok (.ireturn, 1) := by decide +kernel
theorem dX6_tellOfThread_13 : decode cX6_tellOfThread 13 = .ok (.iload_n 2, 1) := by decide +kernel
theorem dX6_tellOfThread_14 : decode cX6_tellOfThread 14 = .ok (.tableswitch 50 0 3 #[30, 35, 40, 45], 30) := by decide +kernel
theorem dX6_tellOfThread_44 : decode cX6_tellOfThread 44 = .ok (.aload_n 3, 1) := by decide +kernel
theorem dX6_tellOfThread_45 : decode cX6_tellOfThread 45 = .ok (.getfield 92, 3) := by decide +kernel
theorem dX6_tellOfThread_48 : decode cX6_tellOfThread 48 = .ok (.ireturn, 1) := by decide +kernel
theorem dX6_tellOfThread_49 : decode cX6_tellOfThread 49 = .ok (.aload_n 3, 1) := by decide +kernel
theorem dX6_tellOfThread_50 : decode cX6_tellOfThread 50 = .ok (.getfield 152, 3) := by decide +kernel
theorem dX6_tellOfThread_53 : decode cX6_tellOfThread 53 = .ok (.ireturn, 1) := by decide +kernel
theorem dX6_tellOfThread_54 : decode cX6_tellOfThread 54 = .ok (.aload_n 3, 1) := by decide +kernel
theorem dX6_tellOfThread_55 : decode cX6_tellOfThread 55 = .ok (.getfield 155, 3) := by decide +kernel
theorem dX6_tellOfThread_58 : decode cX6_tellOfThread 58 = .ok (.ireturn, 1) := by decide +kernel
theorem dX6_tellOfThread_59 : decode cX6_tellOfThread 59 = .ok (.aload_n 3, 1) := by decide +kernel
theorem dX6_tellOfThread_60 : decode cX6_tellOfThread 60 = .ok (.getfield 201, 3) := by decide +kernel
theorem dX6_tellOfThread_63 : decode cX6_tellOfThread 63 = .ok (.ireturn, 1) := by decide +kernel
theorem dX6_tellOfThread_64 : decode cX6_tellOfThread 64 = .ok (.aload_n 3, 1) := by decide +kernel
theorem dX6_tellOfThread_65 : decode cX6_tellOfThread 65 = .ok (.getfield 204, 3) := by decide +kernel
theorem dX6_tellOfThread_68 : decode cX6_tellOfThread 68 = .ok (.ireturn, 1) := by decide +kernel
set_option maxRecDepth 20000 in
theorem ggX6_tellOfStores_X2_blocks : GoodIn wsX6_tellOfStores wsX2_blocks := goodIn_r _ [8, 9, 40, 41, 42, 43, 44, 45, 46, 47, 48] (by decide +kernel) (by decide +kernel)
set_option maxRecDepth 20000 in
theorem gX6_tellOfStores_X2_blocks : GoodIn wsX6_tellOfStores (wsV RX6 115 RX2 yX2_blocks wsX2_blocks) := goodIn_app (goodIn_of _ (by decide +kernel)) ggX6_tellOfStores_X2_blocks
set_option maxRecDepth 20000 in
theorem ggX6_tellOfStores_X6_joinedBytes : GoodIn wsX6_tellOfStores wsX6_joinedBytes := goodIn_r _ [14, 1, 2, 15, 16, 17, 7, 18, 19, 20, 21, 22, 23, 24, 25, 26, 27, 28, 29, 30, 31, 32, 33, 34, 35, 36, 40, 41, 42, 43, 44, 45, 46, 47, 48] (by decide +kernel) (by decide +kernel)
set_option maxRecDepth 20000 in
theorem gX6_tellOfStores_X6_joinedBytes : GoodIn wsX6_tellOfStores (wsV RX6 207 RX6 yX6_joinedBytes wsX6_joinedBytes) := goodIn_app (goodIn_of _ (by decide +kernel)) ggX6_tellOfStores_X6_joinedBytes
theorem dX6_tellOfStores_0 : decode cX6_tellOfStores 0 = .ok (.iload_n 1, 1) := by decide +kernel
theorem dX6_tellOfStores_1 : decode cX6_tellOfStores 1 = .ok (.tableswitch 72 0 4 #[35, 43, 51, 56, 64], 35) := by decide +kernel
theorem dX6_tellOfStores_36 : decode cX6_tellOfStores 36 = .ok (.aload_n 0, 1) := by decide +kernel
theorem dX6_tellOfStores_37 : decode cX6_tellOfStores 37 = .ok (.getfield 38, 3) := by decide +kernel
theorem dX6_tellOfStores_40 : decode cX6_tellOfStores 40 = .ok (.invokevirtual 115, 3) := by decide +kernel
theorem dX6_tellOfStores_43 : decode cX6_tellOfStores 43 = .ok (.ireturn, 1) := by decide +kernel
theorem dX6_tellOfStores_44 : decode cX6_tellOfStores 44 = .ok (.aload_n 0, 1) := by decide +kernel
theorem dX6_tellOfStores_45 : decode cX6_tellOfStores 45 = .ok (.getfield 27, 3) := by decide +kernel
theorem dX6_tellOfStores_48 : decode cX6_tellOfStores 48 = .ok (.getfield 112, 3) := by decide +kernel
theorem dX6_tellOfStores_51 : decode cX6_tellOfStores 51 = .ok (.ireturn, 1) := by decide +kernel
theorem dX6_tellOfStores_52 : decode cX6_tellOfStores 52 = .ok (.aload_n 0, 1) := by decide +kernel
theorem dX6_tellOfStores_53 : decode cX6_tellOfStores 53 = .ok (.invokevirtual 207, 3) := by decide +kernel
theorem dX6_tellOfStores_56 : decode cX6_tellOfStores 56 = .ok (.ireturn, 1) := by decide +kernel
theorem dX6_tellOfStores_57 : decode cX6_tellOfStores 57 = .ok (.aload_n 0, 1) := by decide +kernel
theorem dX6_tellOfStores_58 : decode cX6_tellOfStores 58 = .ok (.getfield 20, 3) := by decide +kernel
theorem dX6_tellOfStores_61 : decode cX6_tellOfStores 61 = .ok (.getfield 210, 3) := by decide +kernel
theorem dX6_tellOfStores_64 : decode cX6_tellOfStores 64 = .ok (.ireturn, 1) := by decide +kernel
theorem dX6_tellOfStores_65 : decode cX6_tellOfStores 65 = .ok (.aload_n 0, 1) := by decide +kernel
theorem dX6_tellOfStores_66 : decode cX6_tellOfStores 66 = .ok (.getfield 20, 3) := by decide +kernel
theorem dX6_tellOfStores_69 : decode cX6_tellOfStores 69 = .ok (.getfield 194, 3) := by decide +kernel
theorem dX6_tellOfStores_72 : decode cX6_tellOfStores 72 = .ok (.ireturn, 1) := by decide +kernel
theorem dX6_tellOfStores_73 : decode cX6_tellOfStores 73 = .ok (.aload_n 0, 1) := by decide +kernel
theorem dX6_tellOfStores_74 : decode cX6_tellOfStores 74 = .ok (.getfield 27, 3) := by decide +kernel
theorem dX6_tellOfStores_77 : decode cX6_tellOfStores 77 = .ok (.getfield 213, 3) := by decide +kernel
theorem dX6_tellOfStores_80 : decode cX6_tellOfStores 80 = .ok (.ireturn, 1) := by decide +kernel
theorem dX6_tellOfCourse_0 : decode cX6_tellOfCourse 0 = .ok (.iload_n 1, 1) := by decide +kernel
theorem dX6_tellOfCourse_1 : decode cX6_tellOfCourse 1 = .ok (.tableswitch 51 6 9 #[31, 36, 41, 46], 31) := by decide +kernel
theorem dX6_tellOfCourse_32 : decode cX6_tellOfCourse 32 = .ok (.aload_n 0, 1) := by decide +kernel
theorem dX6_tellOfCourse_33 : decode cX6_tellOfCourse 33 = .ok (.getfield 68, 3) := by decide +kernel
theorem dX6_tellOfCourse_36 : decode cX6_tellOfCourse 36 = .ok (.ireturn, 1) := by decide +kernel
theorem dX6_tellOfCourse_37 : decode cX6_tellOfCourse 37 = .ok (.aload_n 0, 1) := by decide +kernel
theorem dX6_tellOfCourse_38 : decode cX6_tellOfCourse 38 = .ok (.getfield 71, 3) := by decide +kernel
theorem dX6_tellOfCourse_41 : decode cX6_tellOfCourse 41 = .ok (.ireturn, 1) := by decide +kernel
theorem dX6_tellOfCourse_42 : decode cX6_tellOfCourse 42 = .ok (.aload_n 0, 1) := by decide +kernel
theorem dX6_tellOfCourse_43 : decode cX6_tellOfCourse 43 = .ok (.getfield 74, 3) := by decide +kernel
theorem dX6_tellOfCourse_46 : decode cX6_tellOfCourse 46 = .ok (.ireturn, 1) := by decide +kernel
theorem dX6_tellOfCourse_47 : decode cX6_tellOfCourse 47 = .ok (.aload_n 0, 1) := by decide +kernel
theorem dX6_tellOfCourse_48 : decode cX6_tellOfCourse 48 = .ok (.getfield 77, 3) := by decide +kernel
theorem dX6_tellOfCourse_51 : decode cX6_tellOfCourse 51 = .ok (.ireturn, 1) := by decide +kernel
theorem dX6_tellOfCourse_52 : decode cX6_tellOfCourse 52 = .ok (.aload_n 0, 1) := by decide +kernel
theorem dX6_tellOfCourse_53 : decode cX6_tellOfCourse 53 = .ok (.getfield 34, 3) := by decide +kernel
theorem dX6_tellOfCourse_56 : decode cX6_tellOfCourse 56 = .ok (.getfield 127, 3) := by decide +kernel
theorem dX6_tellOfCourse_59 : decode cX6_tellOfCourse 59 = .ok (.ireturn, 1) := by decide +kernel
theorem dX7_init_0 : decode cX7_init 0 = .ok (.aload_n 0, 1) := by decide +kernel
theorem dX7_init_1 : decode cX7_init 1 = .ok (.invokespecial 3, 3) := by decide +kernel
theorem dX7_init_4 : decode cX7_init 4 = .ok (.aload_n 0, 1) := by decide +kernel
theorem dX7_init_5 : decode cX7_init 5 = .ok (.sipush 160, 3) := by decide +kernel
theorem dX7_init_8 : decode cX7_init 8 = .ok (.newarray .int, 2) := by decide +kernel
theorem dX7_init_10 : decode cX7_init 10 = .ok (.putfield 9, 3) := by decide +kernel
theorem dX7_init_13 : decode cX7_init 13 = .ok (.return_, 1) := by decide +kernel
theorem dX7_length_0 : decode cX7_length 0 = .ok (.aload_n 0, 1) := by decide +kernel
theorem dX7_length_1 : decode cX7_length 1 = .ok (.getfield 15, 3) := by decide +kernel
theorem dX7_length_4 : decode cX7_length 4 = .ok (.ireturn, 1) := by decide +kernel
theorem dX7_isFull_0 : decode cX7_isFull 0 = .ok (.aload_n 0, 1) := by decide +kernel
theorem dX7_isFull_1 : decode cX7_isFull 1 = .ok (.getfield 15, 3) := by decide +kernel
theorem dX7_isFull_4 : decode cX7_isFull 4 = .ok (.aload_n 0, 1) := by decide +kernel
theorem dX7_isFull_5 : decode cX7_isFull 5 = .ok (.getfield 9, 3) := by decide +kernel
theorem dX7_isFull_8 : decode cX7_isFull 8 = .ok (.arraylength, 1) := by decide +kernel
theorem dX7_isFull_9 : decode cX7_isFull 9 = .ok (.if_icmp .lt 7, 3) := by decide +kernel
theorem dX7_isFull_12 : decode cX7_isFull 12 = .ok (.iconst 1, 1) := by decide +kernel
theorem dX7_isFull_13 : decode cX7_isFull 13 = .ok (.goto 4, 3) := by decide +kernel
theorem dX7_isFull_16 : decode cX7_isFull 16 = .ok (.iconst 0, 1) := by decide +kernel
theorem dX7_isFull_17 : decode cX7_isFull 17 = .ok (.ireturn, 1) := by decide +kernel
theorem dX7_add_0 : decode cX7_add 0 = .ok (.aload_n 0, 1) := by decide +kernel
theorem dX7_add_1 : decode cX7_add 1 = .ok (.getfield 15, 3) := by decide +kernel
theorem dX7_add_4 : decode cX7_add 4 = .ok (.ifCond .lt 35, 3) := by decide +kernel
theorem dX7_add_7 : decode cX7_add 7 = .ok (.aload_n 0, 1) := by decide +kernel
theorem dX7_add_8 : decode cX7_add 8 = .ok (.getfield 15, 3) := by decide +kernel
theorem dX7_add_11 : decode cX7_add 11 = .ok (.aload_n 0, 1) := by decide +kernel
theorem dX7_add_12 : decode cX7_add 12 = .ok (.getfield 9, 3) := by decide +kernel
theorem dX7_add_15 : decode cX7_add 15 = .ok (.arraylength, 1) := by decide +kernel
theorem dX7_add_16 : decode cX7_add 16 = .ok (.if_icmp .ge 23, 3) := by decide +kernel
theorem dX7_add_19 : decode cX7_add 19 = .ok (.aload_n 0, 1) := by decide +kernel
theorem dX7_add_20 : decode cX7_add 20 = .ok (.getfield 9, 3) := by decide +kernel
theorem dX7_add_23 : decode cX7_add 23 = .ok (.aload_n 0, 1) := by decide +kernel
theorem dX7_add_24 : decode cX7_add 24 = .ok (.getfield 15, 3) := by decide +kernel
theorem dX7_add_27 : decode cX7_add 27 = .ok (.iload_n 1, 1) := by decide +kernel
theorem dX7_add_28 : decode cX7_add 28 = .ok (.iastore, 1) := by decide +kernel
theorem dX7_add_29 : decode cX7_add 29 = .ok (.aload_n 0, 1) := by decide +kernel
theorem dX7_add_30 : decode cX7_add 30 = .ok (.dup, 1) := by decide +kernel
theorem dX7_add_31 : decode cX7_add 31 = .ok (.getfield 15, 3) := by decide +kernel
theorem dX7_add_34 : decode cX7_add 34 = .ok (.iconst 1, 1) := by decide +kernel
theorem dX7_add_35 : decode cX7_add 35 = .ok (.iadd, 1) := by decide +kernel
theorem dX7_add_36 : decode cX7_add 36 = .ok (.putfield 15, 3) := by decide +kernel
theorem dX7_add_39 : decode cX7_add 39 = .ok (.return_, 1) := by decide +kernel
theorem dX7_at_0 : decode cX7_at 0 = .ok (.iload_n 1, 1) := by decide +kernel
theorem dX7_at_1 : decode cX7_at 1 = .ok (.ifCond .lt 29, 3) := by decide +kernel
theorem dX7_at_4 : decode cX7_at 4 = .ok (.iload_n 1, 1) := by decide +kernel
theorem dX7_at_5 : decode cX7_at 5 = .ok (.aload_n 0, 1) := by decide +kernel
theorem dX7_at_6 : decode cX7_at 6 = .ok (.getfield 15, 3) := by decide +kernel
theorem dX7_at_9 : decode cX7_at 9 = .ok (.if_icmp .ge 21, 3) := by decide +kernel
theorem dX7_at_12 : decode cX7_at 12 = .ok (.iload_n 1, 1) := by decide +kernel
theorem dX7_at_13 : decode cX7_at 13 = .ok (.aload_n 0, 1) := by decide +kernel
theorem dX7_at_14 : decode cX7_at 14 = .ok (.getfield 9, 3) := by decide +kernel
theorem dX7_at_17 : decode cX7_at 17 = .ok (.arraylength, 1) := by decide +kernel
theorem dX7_at_18 : decode cX7_at 18 = .ok (.if_icmp .ge 12, 3) := by decide +kernel
theorem dX7_at_21 : decode cX7_at 21 = .ok (.aload_n 0, 1) := by decide +kernel
theorem dX7_at_22 : decode cX7_at 22 = .ok (.getfield 9, 3) := by decide +kernel
theorem dX7_at_25 : decode cX7_at 25 = .ok (.iload_n 1, 1) := by decide +kernel
theorem dX7_at_26 : decode cX7_at 26 = .ok (.iaload, 1) := by decide +kernel
theorem dX7_at_27 : decode cX7_at 27 = .ok (.goto 4, 3) := by decide +kernel
theorem dX7_at_30 : decode cX7_at 30 = .ok (.iconst (-1), 1) := by decide +kernel
