theorem dX0_init_0 : decode cX0_init 0 = .ok (.aload_n 0, 1) := by decide +kernel
theorem dX0_init_1 : decode cX0_init 1 = .ok (.invokespecial 3, 3) := by decide +kernel
theorem dX0_init_4 : decode cX0_init 4 = .ok (.aload_n 0, 1) := by decide +kernel
theorem dX0_init_5 : decode cX0_init 5 = .ok (.bipush 40, 2) := by decide +kernel
theorem dX0_init_7 : decode cX0_init 7 = .ok (.newarray .boolean, 2) := by decide +kernel
theorem dX0_init_9 : decode cX0_init 9 = .ok (.putfield 9, 3) := by decide +kernel
theorem dX0_init_12 : decode cX0_init 12 = .ok (.aload_n 0, 1) := by decide +kernel
theorem dX0_init_13 : decode cX0_init 13 = .ok (.bipush 40, 2) := by decide +kernel
theorem dX0_init_15 : decode cX0_init 15 = .ok (.newarray .int, 2) := by decide +kernel
theorem dX0_init_17 : decode cX0_init 17 = .ok (.putfield 15, 3) := by decide +kernel
theorem dX0_init_20 : decode cX0_init 20 = .ok (.return_, 1) := by decide +kernel
theorem dX0_renew_0 : decode cX0_renew 0 = .ok (.iconst 0, 1) := by decide +kernel
theorem dX0_renew_1 : decode cX0_renew 1 = .ok (.istore_n 1, 1) := by decide +kernel
theorem dX0_renew_2 : decode cX0_renew 2 = .ok (.iload_n 1, 1) := by decide +kernel
theorem dX0_renew_3 : decode cX0_renew 3 = .ok (.aload_n 0, 1) := by decide +kernel
theorem dX0_renew_4 : decode cX0_renew 4 = .ok (.getfield 9, 3) := by decide +kernel
theorem dX0_renew_7 : decode cX0_renew 7 = .ok (.arraylength, 1) := by decide +kernel
theorem dX0_renew_8 : decode cX0_renew 8 = .ok (.if_icmp .ge 16, 3) := by decide +kernel
theorem dX0_renew_11 : decode cX0_renew 11 = .ok (.aload_n 0, 1) := by decide +kernel
theorem dX0_renew_12 : decode cX0_renew 12 = .ok (.getfield 9, 3) := by decide +kernel
theorem dX0_renew_15 : decode cX0_renew 15 = .ok (.iload_n 1, 1) := by decide +kernel
theorem dX0_renew_16 : decode cX0_renew 16 = .ok (.iconst 0, 1) := by decide +kernel
theorem dX0_renew_17 : decode cX0_renew 17 = .ok (.bastore, 1) := by decide +kernel
theorem dX0_renew_18 : decode cX0_renew 18 = .ok (.iinc 1 1, 3) := by decide +kernel
theorem dX0_renew_21 : decode cX0_renew 21 = .ok (.goto (-19), 3) := by decide +kernel
theorem dX0_renew_24 : decode cX0_renew 24 = .ok (.aload_n 0, 1) := by decide +kernel
theorem dX0_renew_25 : decode cX0_renew 25 = .ok (.iconst 0, 1) := by decide +kernel
theorem dX0_renew_26 : decode cX0_renew 26 = .ok (.putfield 19, 3) := by decide +kernel
theorem dX0_renew_29 : decode cX0_renew 29 = .ok (.return_, 1) := by decide +kernel
theorem dX0_has_0 : decode cX0_has 0 = .ok (.iload_n 1, 1) := by decide +kernel
theorem dX0_has_1 : decode cX0_has 1 = .ok (.ifCond .lt 25, 3) := by decide +kernel
theorem dX0_has_4 : decode cX0_has 4 = .ok (.iload_n 1, 1) := by decide +kernel
theorem dX0_has_5 : decode cX0_has 5 = .ok (.aload_n 0, 1) := by decide +kernel
theorem dX0_has_6 : decode cX0_has 6 = .ok (.getfield 9, 3) := by decide +kernel
theorem dX0_has_9 : decode cX0_has 9 = .ok (.arraylength, 1) := by decide +kernel
theorem dX0_has_10 : decode cX0_has 10 = .ok (.if_icmp .ge 16, 3) := by decide +kernel
theorem dX0_has_13 : decode cX0_has 13 = .ok (.aload_n 0, 1) := by decide +kernel
theorem dX0_has_14 : decode cX0_has 14 = .ok (.getfield 9, 3) := by decide +kernel
theorem dX0_has_17 : decode cX0_has 17 = .ok (.iload_n 1, 1) := by decide +kernel
theorem dX0_has_18 : decode cX0_has 18 = .ok (.baload, 1) := by decide +kernel
theorem dX0_has_19 : decode cX0_has 19 = .ok (.ifCond .eq 7, 3) := by decide +kernel
theorem dX0_has_22 : decode cX0_has 22 = .ok (.iconst 1, 1) := by decide +kernel
theorem dX0_has_23 : decode cX0_has 23 = .ok (.goto 4, 3) := by decide +kernel
theorem dX0_has_26 : decode cX0_has 26 = .ok (.iconst 0, 1) := by decide +kernel
theorem dX0_has_27 : decode cX0_has 27 = .ok (.ireturn, 1) := by decide +kernel
theorem dX0_add_0 : decode cX0_add 0 = .ok (.iload_n 1, 1) := by decide +kernel
theorem dX0_add_1 : decode cX0_add 1 = .ok (.ifCond .lt 58, 3) := by decide +kernel
theorem dX0_add_4 : decode cX0_add 4 = .ok (.iload_n 1, 1) := by decide +kernel
theorem dX0_add_5 : decode cX0_add 5 = .ok (.aload_n 0, 1) := by decide +kernel
theorem dX0_add_6 : decode cX0_add 6 = .ok (.getfield 9, 3) := by decide +kernel
theorem dX0_add_9 : decode cX0_add 9 = .ok (.arraylength, 1) := by decide +kernel
theorem dX0_add_10 : decode cX0_add 10 = .ok (.if_icmp .ge 49, 3) := by decide +kernel
theorem dX0_add_13 : decode cX0_add 13 = .ok (.aload_n 0, 1) := by decide +kernel
theorem dX0_add_14 : decode cX0_add 14 = .ok (.getfield 19, 3) := by decide +kernel
theorem dX0_add_17 : decode cX0_add 17 = .ok (.ifCond .lt 42, 3) := by decide +kernel
theorem dX0_add_20 : decode cX0_add 20 = .ok (.aload_n 0, 1) := by decide +kernel
theorem dX0_add_21 : decode cX0_add 21 = .ok (.getfield 19, 3) := by decide +kernel
theorem dX0_add_24 : decode cX0_add 24 = .ok (.aload_n 0, 1) := by decide +kernel
theorem dX0_add_25 : decode cX0_add 25 = .ok (.getfield 15, 3) := by decide +kernel
theorem dX0_add_28 : decode cX0_add 28 = .ok (.arraylength, 1) := by decide +kernel
theorem dX0_add_29 : decode cX0_add 29 = .ok (.if_icmp .ge 30, 3) := by decide +kernel
theorem dX0_add_32 : decode cX0_add 32 = .ok (.aload_n 0, 1) := by decide +kernel
theorem dX0_add_33 : decode cX0_add 33 = .ok (.getfield 9, 3) := by decide +kernel
theorem dX0_add_36 : decode cX0_add 36 = .ok (.iload_n 1, 1) := by decide +kernel
theorem dX0_add_37 : decode cX0_add 37 = .ok (.iconst 1, 1) := by decide +kernel
theorem dX0_add_38 : decode cX0_add 38 = .ok (.bastore, 1) := by decide +kernel
theorem dX0_add_39 : decode cX0_add 39 = .ok (.aload_n 0, 1) := by decide +kernel
theorem dX0_add_40 : decode cX0_add 40 = .ok (.getfield 15, 3) := by decide +kernel
theorem dX0_add_43 : decode cX0_add 43 = .ok (.aload_n 0, 1) := by decide +kernel
theorem dX0_add_44 : decode cX0_add 44 = .ok (.getfield 19, 3) := by decide +kernel
theorem dX0_add_47 : decode cX0_add 47 = .ok (.iload_n 1, 1) := by decide +kernel
theorem dX0_add_48 : decode cX0_add 48 = .ok (.iastore, 1) := by decide +kernel
theorem dX0_add_49 : decode cX0_add 49 = .ok (.aload_n 0, 1) := by decide +kernel
theorem dX0_add_50 : decode cX0_add 50 = .ok (.dup, 1) := by decide +kernel
theorem dX0_add_51 : decode cX0_add 51 = .ok (.getfield 19, 3) := by decide +kernel
theorem dX0_add_54 : decode cX0_add 54 = .ok (.iconst 1, 1) := by decide +kernel
theorem dX0_add_55 : decode cX0_add 55 = .ok (.iadd, 1) := by decide +kernel
theorem dX0_add_56 : decode cX0_add 56 = .ok (.putfield 19, 3) := by decide +kernel
theorem dX0_add_59 : decode cX0_add 59 = .ok (.return_, 1) := by decide +kernel
theorem dX0_takeFirst_0 : decode cX0_takeFirst 0 = .ok (.aload_n 0, 1) := by decide +kernel
theorem dX0_takeFirst_1 : decode cX0_takeFirst 1 = .ok (.getfield 19, 3) := by decide +kernel
theorem dX0_takeFirst_4 : decode cX0_takeFirst 4 = .ok (.ifCond .gt 5, 3) := by decide +kernel
theorem dX0_takeFirst_7 : decode cX0_takeFirst 7 = .ok (.iconst (-1), 1) := by decide +kernel
theorem dX0_takeFirst_8 : decode cX0_takeFirst 8 = .ok (.ireturn, 1) := by decide +kernel
theorem dX0_takeFirst_9 : decode cX0_takeFirst 9 = .ok (.aload_n 0, 1) := by decide +kernel
theorem dX0_takeFirst_10 : decode cX0_takeFirst 10 = .ok (.getfield 15, 3) := by decide +kernel
theorem dX0_takeFirst_13 : decode cX0_takeFirst 13 = .ok (.iconst 0, 1) := by decide +kernel
theorem dX0_takeFirst_14 : decode cX0_takeFirst 14 = .ok (.iaload, 1) := by decide +kernel
theorem dX0_takeFirst_15 : decode cX0_takeFirst 15 = .ok (.istore_n 1, 1) := by decide +kernel
theorem dX0_takeFirst_16 : decode cX0_takeFirst 16 = .ok (.iconst 1, 1) := by decide +kernel
theorem dX0_takeFirst_17 : decode cX0_takeFirst 17 = .ok (.istore_n 2, 1) := by decide +kernel
theorem dX0_takeFirst_18 : decode cX0_takeFirst 18 = .ok (.iload_n 2, 1) := by decide +kernel
theorem dX0_takeFirst_19 : decode cX0_takeFirst 19 = .ok (.aload_n 0, 1) := by decide +kernel
theorem dX0_takeFirst_20 : decode cX0_takeFirst 20 = .ok (.getfield 19, 3) := by decide +kernel
theorem dX0_takeFirst_23 : decode cX0_takeFirst 23 = .ok (.if_icmp .ge 32, 3) := by decide +kernel
theorem dX0_takeFirst_26 : decode cX0_takeFirst 26 = .ok (.iload_n 2, 1) := by decide +kernel
theorem dX0_takeFirst_27 : decode cX0_takeFirst 27 = .ok (.aload_n 0, 1) := by decide +kernel
theorem dX0_takeFirst_28 : decode cX0_takeFirst 28 = .ok (.getfield 15, 3) := by decide +kernel
theorem dX0_takeFirst_31 : decode cX0_takeFirst 31 = .ok (.arraylength, 1) := by decide +kernel
theorem dX0_takeFirst_32 : decode cX0_takeFirst 32 = .ok (.if_icmp .ge 23, 3) := by decide +kernel
theorem dX0_takeFirst_35 : decode cX0_takeFirst 35 = .ok (.aload_n 0, 1) := by decide +kernel
theorem dX0_takeFirst_36 : decode cX0_takeFirst 36 = .ok (.getfield 15, 3) := by decide +kernel
theorem dX0_takeFirst_39 : decode cX0_takeFirst 39 = .ok (.iload_n 2, 1) := by decide +kernel
theorem dX0_takeFirst_40 : decode cX0_takeFirst 40 = .ok (.iconst 1, 1) := by decide +kernel
theorem dX0_takeFirst_41 : decode cX0_takeFirst 41 = .ok (.isub, 1) := by decide +kernel
theorem dX0_takeFirst_42 : decode cX0_takeFirst 42 = .ok (.aload_n 0, 1) := by decide +kernel
theorem dX0_takeFirst_43 : decode cX0_takeFirst 43 = .ok (.getfield 15, 3) := by decide +kernel
theorem dX0_takeFirst_46 : decode cX0_takeFirst 46 = .ok (.iload_n 2, 1) := by decide +kernel
theorem dX0_takeFirst_47 : decode cX0_takeFirst 47 = .ok (.iaload, 1) := by decide +kernel
theorem dX0_takeFirst_48 : decode cX0_takeFirst 48 = .ok (.iastore, 1) := by decide +kernel
theorem dX0_takeFirst_49 : decode cX0_takeFirst 49 = .ok (.iinc 2 1, 3) := by decide +kernel
theorem dX0_takeFirst_52 : decode cX0_takeFirst 52 = .ok (.goto (-34), 3) := by decide +kernel
theorem dX0_takeFirst_55 : decode cX0_takeFirst 55 = .ok (.aload_n 0, 1) := by decide +kernel
theorem dX0_takeFirst_56 : decode cX0_takeFirst 56 = .ok (.dup, 1) := by decide +kernel
theorem dX0_takeFirst_57 : decode cX0_takeFirst 57 = .ok (.getfield 19, 3) := by decide +kernel
theorem dX0_takeFirst_60 : decode cX0_takeFirst 60 = .ok (.iconst 1, 1) := by decide +kernel
theorem dX0_takeFirst_61 : decode cX0_takeFirst 61 = .ok (.isub, 1) := by decide +kernel
theorem dX0_takeFirst_62 : decode cX0_takeFirst 62 = .ok (.putfield 19, 3) := by decide +kernel
theorem dX0_takeFirst_65 : decode cX0_takeFirst 65 = .ok (.iload_n 1, 1) := by decide +kernel
theorem dX0_takeFirst_66 : decode cX0_takeFirst 66 = .ok (.ireturn, 1) := by decide +kernel
theorem dX1_init_0 : decode cX1_init 0 = .ok (.aload_n 0, 1) := by decide +kernel
theorem dX1_init_1 : decode cX1_init 1 = .ok (.invokespecial 3, 3) := by decide +kernel
theorem dX1_init_4 : decode cX1_init 4 = .ok (.aload_n 0, 1) := by decide +kernel
theorem dX1_init_5 : decode cX1_init 5 = .ok (.bipush 6, 2) := by decide +kernel
theorem dX1_init_7 : decode cX1_init 7 = .ok (.anewarray 9, 3) := by decide +kernel
theorem dX1_init_10 : decode cX1_init 10 = .ok (.putfield 11, 3) := by decide +kernel
theorem dX1_init_13 : decode cX1_init 13 = .ok (.return_, 1) := by decide +kernel
theorem dX1_fill_0 : decode cX1_fill 0 = .ok (.aload_n 0, 1) := by decide +kernel
theorem dX1_fill_1 : decode cX1_fill 1 = .ok (.iload_n 1, 1) := by decide +kernel
theorem dX1_fill_2 : decode cX1_fill 2 = .ok (.putfield 17, 3) := by decide +kernel
theorem dX1_fill_5 : decode cX1_fill 5 = .ok (.aload_n 0, 1) := by decide +kernel
theorem dX1_fill_6 : decode cX1_fill 6 = .ok (.iconst 0, 1) := by decide +kernel
theorem dX1_fill_7 : decode cX1_fill 7 = .ok (.putfield 21, 3) := by decide +kernel
theorem dX1_fill_10 : decode cX1_fill 10 = .ok (.return_, 1) := by decide +kernel
set_option maxRecDepth 20000 in
theorem ggX1_ask_X8_startWork : GoodIn wsX1_ask wsX8_startWork := goodIn_r _ [8, 9, 10, 18, 19, 20, 21, 22, 23, 24, 25] (by decide +kernel) (by decide +kernel)
set_option maxRecDepth 20000 in
theorem gX1_ask_X8_startWork : GoodIn wsX1_ask (wsV RX1 27 RX8 yX8_startWork wsX8_startWork) := goodIn_app (goodIn_of _ (by decide +kernel)) ggX1_ask_X8_startWork
set_option maxRecDepth 20000 in
theorem ggX1_ask_X8_waitInLine : GoodIn wsX1_ask wsX8_waitInLine := goodIn_r _ [14, 9, 18, 19, 20, 21, 22, 23, 24, 25] (by decide +kernel) (by decide +kernel)
set_option maxRecDepth 20000 in
theorem gX1_ask_X8_waitInLine : GoodIn wsX1_ask (wsV RX1 30 RX8 yX8_waitInLine wsX8_waitInLine) := goodIn_app (goodIn_of _ (by decide +kernel)) ggX1_ask_X8_waitInLine
theorem dX1_ask_0 : decode cX1_ask 0 = .ok (.aload_n 0, 1) := by decide +kernel
theorem dX1_ask_1 : decode cX1_ask 1 = .ok (.getfield 21, 3) := by decide +kernel
theorem dX1_ask_4 : decode cX1_ask 4 = .ok (.ifCond .ne 34, 3) := by decide +kernel
theorem dX1_ask_7 : decode cX1_ask 7 = .ok (.aload_n 1, 1) := by decide +kernel
theorem dX1_ask_8 : decode cX1_ask 8 = .ok (.getfield 24, 3) := by decide +kernel
theorem dX1_ask_11 : decode cX1_ask 11 = .ok (.aload_n 0, 1) := by decide +kernel
theorem dX1_ask_12 : decode cX1_ask 12 = .ok (.getfield 17, 3) := by decide +kernel
theorem dX1_ask_15 : decode cX1_ask 15 = .ok (.if_icmp .gt 23, 3) := by decide +kernel
theorem dX1_ask_18 : decode cX1_ask 18 = .ok (.aload_n 0, 1) := by decide +kernel
theorem dX1_ask_19 : decode cX1_ask 19 = .ok (.dup, 1) := by decide +kernel
theorem dX1_ask_20 : decode cX1_ask 20 = .ok (.getfield 17, 3) := by decide +kernel
theorem dX1_ask_23 : decode cX1_ask 23 = .ok (.aload_n 1, 1) := by decide +kernel
theorem dX1_ask_24 : decode cX1_ask 24 = .ok (.getfield 24, 3) := by decide +kernel
theorem dX1_ask_27 : decode cX1_ask 27 = .ok (.isub, 1) := by decide +kernel
theorem dX1_ask_28 : decode cX1_ask 28 = .ok (.putfield 17, 3) := by decide +kernel
theorem dX1_ask_31 : decode cX1_ask 31 = .ok (.aload_n 1, 1) := by decide +kernel
theorem dX1_ask_32 : decode cX1_ask 32 = .ok (.invokevirtual 27, 3) := by decide +kernel
theorem dX1_ask_35 : decode cX1_ask 35 = .ok (.goto 46, 3) := by decide +kernel
theorem dX1_ask_38 : decode cX1_ask 38 = .ok (.aload_n 0, 1) := by decide +kernel
theorem dX1_ask_39 : decode cX1_ask 39 = .ok (.getfield 21, 3) := by decide +kernel
theorem dX1_ask_42 : decode cX1_ask 42 = .ok (.ifCond .lt 39, 3) := by decide +kernel
theorem dX1_ask_45 : decode cX1_ask 45 = .ok (.aload_n 0, 1) := by decide +kernel
theorem dX1_ask_46 : decode cX1_ask 46 = .ok (.getfield 21, 3) := by decide +kernel
theorem dX1_ask_49 : decode cX1_ask 49 = .ok (.aload_n 0, 1) := by decide +kernel
theorem dX1_ask_50 : decode cX1_ask 50 = .ok (.getfield 11, 3) := by decide +kernel
theorem dX1_ask_53 : decode cX1_ask 53 = .ok (.arraylength, 1) := by decide +kernel
theorem dX1_ask_54 : decode cX1_ask 54 = .ok (.if_icmp .ge 27, 3) := by decide +kernel
theorem dX1_ask_57 : decode cX1_ask 57 = .ok (.aload_n 0, 1) := by decide +kernel
theorem dX1_ask_58 : decode cX1_ask 58 = .ok (.getfield 11, 3) := by decide +kernel
theorem dX1_ask_61 : decode cX1_ask 61 = .ok (.aload_n 0, 1) := by decide +kernel
theorem dX1_ask_62 : decode cX1_ask 62 = .ok (.getfield 21, 3) := by decide +kernel
theorem dX1_ask_65 : decode cX1_ask 65 = .ok (.aload_n 1, 1) := by decide +kernel
theorem dX1_ask_66 : decode cX1_ask 66 = .ok (.aastore, 1) := by decide +kernel
theorem dX1_ask_67 : decode cX1_ask 67 = .ok (.aload_n 0, 1) := by decide +kernel
theorem dX1_ask_68 : decode cX1_ask 68 = .ok (.dup, 1) := by decide +kernel
theorem dX1_ask_69 : decode cX1_ask 69 = .ok (.getfield 21, 3) := by decide +kernel
theorem dX1_ask_72 : decode cX1_ask 72 = .ok (.iconst 1, 1) := by decide +kernel
theorem dX1_ask_73 : decode cX1_ask 73 = .ok (.iadd, 1) := by decide +kernel
theorem dX1_ask_74 : decode cX1_ask 74 = .ok (.putfield 21, 3) := by decide +kernel
theorem dX1_ask_77 : decode cX1_ask 77 = .ok (.aload_n 1, 1) := by decide +kernel
theorem dX1_ask_78 : decode cX1_ask 78 = .ok (.invokevirtual 30, 3) := by decide +kernel
theorem dX1_ask_81 : decode cX1_ask 81 = .ok (.return_, 1) := by decide +kernel
set_option maxRecDepth 20000 in
theorem ggX1_giveBack_X1_dropFirst : GoodIn wsX1_giveBack wsX1_dropFirst := goodIn_r _ [8, 2, 3, 16, 17, 18] (by decide +kernel) (by decide +kernel)
set_option maxRecDepth 20000 in
theorem gX1_giveBack_X1_dropFirst : GoodIn wsX1_giveBack (wsV RX1 33 RX1 yX1_dropFirst wsX1_dropFirst) := goodIn_app (goodIn_of _ (by decide +kernel)) ggX1_giveBack_X1_dropFirst
set_option maxRecDepth 20000 in
theorem ggX1_giveBack_X8_startWork : GoodIn wsX1_giveBack wsX8_startWork := goodIn_r _ [13, 14, 15, 19, 20, 21, 22, 23, 24, 25, 26] (by decide +kernel) (by decide +kernel)
set_option maxRecDepth 20000 in
theorem gX1_giveBack_X8_startWork : GoodIn wsX1_giveBack (wsV RX1 27 RX8 yX8_startWork wsX8_startWork) := goodIn_app (goodIn_of _ (by decide +kernel)) ggX1_giveBack_X8_startWork
theorem dX1_giveBack_0 : decode cX1_giveBack 0 = .ok (.aload_n 0, 1) := by decide +kernel
theorem dX1_giveBack_1 : decode cX1_giveBack 1 = .ok (.dup, 1) := by decide +kernel
theorem dX1_giveBack_2 : decode cX1_giveBack 2 = .ok (.getfield 17, 3) := by decide +kernel
theorem dX1_giveBack_5 : decode cX1_giveBack 5 = .ok (.iload_n 1, 1) := by decide +kernel
theorem dX1_giveBack_6 : decode cX1_giveBack 6 = .ok (.iadd, 1) := by decide +kernel
theorem dX1_giveBack_7 : decode cX1_giveBack 7 = .ok (.putfield 17, 3) := by decide +kernel
theorem dX1_giveBack_10 : decode cX1_giveBack 10 = .ok (.aload_n 0, 1) := by decide +kernel
theorem dX1_giveBack_11 : decode cX1_giveBack 11 = .ok (.getfield 21, 3) := by decide +kernel
theorem dX1_giveBack_14 : decode cX1_giveBack 14 = .ok (.istore_n 2, 1) := by decide +kernel
theorem dX1_giveBack_15 : decode cX1_giveBack 15 = .ok (.iload_n 2, 1) := by decide +kernel
theorem dX1_giveBack_16 : decode cX1_giveBack 16 = .ok (.ifCond .le 53, 3) := by decide +kernel
theorem dX1_giveBack_19 : decode cX1_giveBack 19 = .ok (.aload_n 0, 1) := by decide +kernel
theorem dX1_giveBack_20 : decode cX1_giveBack 20 = .ok (.getfield 11, 3) := by decide +kernel
theorem dX1_giveBack_23 : decode cX1_giveBack 23 = .ok (.iconst 0, 1) := by decide +kernel
theorem dX1_giveBack_24 : decode cX1_giveBack 24 = .ok (.aaload, 1) := by decide +kernel
theorem dX1_giveBack_25 : decode cX1_giveBack 25 = .ok (.astore_n 3, 1) := by decide +kernel
theorem dX1_giveBack_26 : decode cX1_giveBack 26 = .ok (.aload_n 3, 1) := by decide +kernel
theorem dX1_giveBack_27 : decode cX1_giveBack 27 = .ok (.ifnull 14, 3) := by decide +kernel
theorem dX1_giveBack_30 : decode cX1_giveBack 30 = .ok (.aload_n 3, 1) := by decide +kernel
theorem dX1_giveBack_31 : decode cX1_giveBack 31 = .ok (.getfield 24, 3) := by decide +kernel
theorem dX1_giveBack_34 : decode cX1_giveBack 34 = .ok (.aload_n 0, 1) := by decide +kernel
theorem dX1_giveBack_35 : decode cX1_giveBack 35 = .ok (.getfield 17, 3) := by decide +kernel
theorem dX1_giveBack_38 : decode cX1_giveBack 38 = .ok (.if_icmp .le 4, 3) := by decide +kernel
theorem dX1_giveBack_41 : decode cX1_giveBack 41 = .ok (.return_, 1) := by decide +kernel
theorem dX1_giveBack_42 : decode cX1_giveBack 42 = .ok (.aload_n 0, 1) := by decide +kernel
theorem dX1_giveBack_43 : decode cX1_giveBack 43 = .ok (.invokevirtual 33, 3) := by decide +kernel
theorem dX1_giveBack_46 : decode cX1_giveBack 46 = .ok (.aload_n 0, 1) := by decide +kernel
theorem dX1_giveBack_47 : decode cX1_giveBack 47 = .ok (.dup, 1) := by decide +kernel
theorem dX1_giveBack_48 : decode cX1_giveBack 48 = .ok (.getfield 17, 3) := by decide +kernel
theorem dX1_giveBack_51 : decode cX1_giveBack 51 = .ok (.aload_n 3, 1) := by decide +kernel
theorem dX1_giveBack_52 : decode cX1_giveBack 52 = .ok (.getfield 24, 3) := by decide +kernel
theorem dX1_giveBack_55 : decode cX1_giveBack 55 = .ok (.isub, 1) := by decide +kernel
theorem dX1_giveBack_56 : decode cX1_giveBack 56 = .ok (.putfield 17, 3) := by decide +kernel
theorem dX1_giveBack_59 : decode cX1_giveBack 59 = .ok (.aload_n 3, 1) := by decide +kernel
theorem dX1_giveBack_60 : decode cX1_giveBack 60 = .ok (.invokevirtual 27, 3) := by decide +kernel
theorem dX1_giveBack_63 : decode cX1_giveBack 63 = .ok (.iinc 2 (-1), 3) := by decide +kernel
theorem dX1_giveBack_66 : decode cX1_giveBack 66 = .ok (.goto (-51), 3) := by decide +kernel
theorem dX1_giveBack_69 : decode cX1_giveBack 69 = .ok (.return_, 1) := by decide +kernel
theorem dX1_dropFirst_0 : decode cX1_dropFirst 0 = .ok (.iconst 1, 1) := by decide +kernel
theorem dX1_dropFirst_1 : decode cX1_dropFirst 1 = .ok (.istore_n 1, 1) := by decide +kernel
theorem dX1_dropFirst_2 : decode cX1_dropFirst 2 = .ok (.iload_n 1, 1) := by decide +kernel
theorem dX1_dropFirst_3 : decode cX1_dropFirst 3 = .ok (.aload_n 0, 1) := by decide +kernel
theorem dX1_dropFirst_4 : decode cX1_dropFirst 4 = .ok (.getfield 21, 3) := by decide +kernel
theorem dX1_dropFirst_7 : decode cX1_dropFirst 7 = .ok (.if_icmp .ge 32, 3) := by decide +kernel
theorem dX1_dropFirst_10 : decode cX1_dropFirst 10 = .ok (.iload_n 1, 1) := by decide +kernel
theorem dX1_dropFirst_11 : decode cX1_dropFirst 11 = .ok (.aload_n 0, 1) := by decide +kernel
theorem dX1_dropFirst_12 : decode cX1_dropFirst 12 = .ok (.getfield 11, 3) := by decide +kernel
theorem dX1_dropFirst_15 : decode cX1_dropFirst 15 = .ok (.arraylength, 1) := by decide +kernel
theorem dX1_dropFirst_16 : decode cX1_dropFirst 16 = .ok (.if_icmp .ge 23, 3) := by decide +kernel
theorem dX1_dropFirst_19 : decode cX1_dropFirst 19 = .ok (.aload_n 0, 1) := by decide +kernel
theorem dX1_dropFirst_20 : decode cX1_dropFirst 20 = .ok (.getfield 11, 3) := by decide +kernel
theorem dX1_dropFirst_23 : decode cX1_dropFirst 23 = .ok (.iload_n 1, 1) := by decide +kernel
theorem dX1_dropFirst_24 : decode cX1_dropFirst 24 = .ok (.iconst 1, 1) := by decide +kernel
theorem dX1_dropFirst_25 : decode cX1_dropFirst 25 = .ok (.isub, 1) := by decide +kernel
theorem dX1_dropFirst_26 : decode cX1_dropFirst 26 = .ok (.aload_n 0, 1) := by decide +kernel
theorem dX1_dropFirst_27 : decode cX1_dropFirst 27 = .ok (.getfield 11, 3) := by decide +kernel
theorem dX1_dropFirst_30 : decode cX1_dropFirst 30 = .ok (.iload_n 1, 1) := by decide +kernel
theorem dX1_dropFirst_31 : decode cX1_dropFirst 31 = .ok (.aaload, 1) := by decide +kernel
theorem dX1_dropFirst_32 : decode cX1_dropFirst 32 = .ok (.aastore, 1) := by decide +kernel
theorem dX1_dropFirst_33 : decode cX1_dropFirst 33 = .ok (.iinc 1 1, 3) := by decide +kernel
theorem dX1_dropFirst_36 : decode cX1_dropFirst 36 = .ok (.goto (-34), 3) := by decide +kernel
theorem dX1_dropFirst_39 : decode cX1_dropFirst 39 = .ok (.aload_n 0, 1) := by decide +kernel
theorem dX1_dropFirst_40 : decode cX1_dropFirst 40 = .ok (.dup, 1) := by decide +kernel
theorem dX1_dropFirst_41 : decode cX1_dropFirst 41 = .ok (.getfield 21, 3) := by decide +kernel
theorem dX1_dropFirst_44 : decode cX1_dropFirst 44 = .ok (.iconst 1, 1) := by decide +kernel
theorem dX1_dropFirst_45 : decode cX1_dropFirst 45 = .ok (.isub, 1) := by decide +kernel
theorem dX1_dropFirst_46 : decode cX1_dropFirst 46 = .ok (.putfield 21, 3) := by decide +kernel
theorem dX1_dropFirst_49 : decode cX1_dropFirst 49 = .ok (.return_, 1) := by decide +kernel
theorem dX1_numberAt_0 : decode cX1_numberAt 0 = .ok (.iload_n 1, 1) := by decide +kernel
theorem dX1_numberAt_1 : decode cX1_numberAt 1 = .ok (.ifCond .lt 20, 3) := by decide +kernel
theorem dX1_numberAt_4 : decode cX1_numberAt 4 = .ok (.iload_n 1, 1) := by decide +kernel
theorem dX1_numberAt_5 : decode cX1_numberAt 5 = .ok (.aload_n 0, 1) := by decide +kernel
theorem dX1_numberAt_6 : decode cX1_numberAt 6 = .ok (.getfield 21, 3) := by decide +kernel
theorem dX1_numberAt_9 : decode cX1_numberAt 9 = .ok (.if_icmp .ge 12, 3) := by decide +kernel
theorem dX1_numberAt_12 : decode cX1_numberAt 12 = .ok (.iload_n 1, 1) := by decide +kernel
theorem dX1_numberAt_13 : decode cX1_numberAt 13 = .ok (.aload_n 0, 1) := by decide +kernel
theorem dX1_numberAt_14 : decode cX1_numberAt 14 = .ok (.getfield 11, 3) := by decide +kernel
theorem dX1_numberAt_17 : decode cX1_numberAt 17 = .ok (.arraylength, 1) := by decide +kernel
theorem dX1_numberAt_18 : decode cX1_numberAt 18 = .ok (.if_icmp .lt 5, 3) := by decide +kernel
theorem dX1_numberAt_21 : decode cX1_numberAt 21 = .ok (.iconst (-1), 1) := by decide +kernel
theorem dX1_numberAt_22 : decode cX1_numberAt 22 = .ok (.ireturn, 1) := by decide +kernel
theorem dX1_numberAt_23 : decode cX1_numberAt 23 = .ok (.aload_n 0, 1) := by decide +kernel
theorem dX1_numberAt_24 : decode cX1_numberAt 24 = .ok (.getfield 11, 3) := by decide +kernel
theorem dX1_numberAt_27 : decode cX1_numberAt 27 = .ok (.iload_n 1, 1) := by decide +kernel
theorem dX1_numberAt_28 : decode cX1_numberAt 28 = .ok (.aaload, 1) := by decide +kernel
theorem dX1_numberAt_29 : decode cX1_numberAt 29 = .ok (.astore_n 2, 1) := by decide +kernel
theorem dX1_numberAt_30 : decode cX1_numberAt 30 = .ok (.aload_n 2, 1) := by decide +kernel
theorem dX1_numberAt_31 : decode cX1_numberAt 31 = .ok (.ifnonnull 7, 3) := by decide +kernel
theorem dX1_numberAt_34 : decode cX1_numberAt 34 = .ok (.iconst (-1), 1) := by decide +kernel
theorem dX1_numberAt_35 : decode cX1_numberAt 35 = .ok (.goto 7, 3) := by decide +kernel
theorem dX1_numberAt_38 : decode cX1_numberAt 38 = .ok (.aload_n 2, 1) := by decide +kernel
theorem dX1_numberAt_39 : decode cX1_numberAt 39 = .ok (.getfield 36, 3) := by decide +kernel
theorem dX1_numberAt_42 : decode cX1_numberAt 42 = .ok (.ireturn, 1) := by decide +kernel
theorem dX2_init_0 : decode cX2_init 0 = .ok (.aload_n 0, 1) := by decide +kernel
theorem dX2_init_1 : decode cX2_init 1 = .ok (.invokespecial 3, 3) := by decide +kernel
theorem dX2_init_4 : decode cX2_init 4 = .ok (.aload_n 0, 1) := by decide +kernel
theorem dX2_init_5 : decode cX2_init 5 = .ok (.sipush 240, 3) := by decide +kernel
theorem dX2_init_8 : decode cX2_init 8 = .ok (.newarray .int, 2) := by decide +kernel
theorem dX2_init_10 : decode cX2_init 10 = .ok (.putfield 9, 3) := by decide +kernel
theorem dX2_init_13 : decode cX2_init 13 = .ok (.aload_n 0, 1) := by decide +kernel
theorem dX2_init_14 : decode cX2_init 14 = .ok (.bipush 40, 2) := by decide +kernel
theorem dX2_init_16 : decode cX2_init 16 = .ok (.newarray .int, 2) := by decide +kernel
theorem dX2_init_18 : decode cX2_init 18 = .ok (.putfield 15, 3) := by decide +kernel
theorem dX2_init_21 : decode cX2_init 21 = .ok (.aload_n 0, 1) := by decide +kernel
theorem dX2_init_22 : decode cX2_init 22 = .ok (.bipush 40, 2) := by decide +kernel
theorem dX2_init_24 : decode cX2_init 24 = .ok (.newarray .int, 2) := by decide +kernel
theorem dX2_init_26 : decode cX2_init 26 = .ok (.putfield 18, 3) := by decide +kernel
theorem dX2_init_29 : decode cX2_init 29 = .ok (.aload_n 0, 1) := by decide +kernel
theorem dX2_init_30 : decode cX2_init 30 = .ok (.aload_n 1, 1) := by decide +kernel
theorem dX2_init_31 : decode cX2_init 31 = .ok (.putfield 21, 3) := by decide +kernel
theorem dX2_init_34 : decode cX2_init 34 = .ok (.aload_n 0, 1) := by decide +kernel
theorem dX2_init_35 : decode cX2_init 35 = .ok (.aload_n 2, 1) := by decide +kernel
theorem dX2_init_36 : decode cX2_init 36 = .ok (.putfield 25, 3) := by decide +kernel
theorem dX2_init_39 : decode cX2_init 39 = .ok (.return_, 1) := by decide +kernel
theorem dX2_forget_0 : decode cX2_forget 0 = .ok (.aload_n 0, 1) := by decide +kernel
theorem dX2_forget_1 : decode cX2_forget 1 = .ok (.iconst 0, 1) := by decide +kernel
theorem dX2_forget_2 : decode cX2_forget 2 = .ok (.putfield 29, 3) := by decide +kernel
theorem dX2_forget_5 : decode cX2_forget 5 = .ok (.return_, 1) := by decide +kernel
set_option maxRecDepth 20000 in
theorem ggX2_make_X2_blocksOfText : GoodIn wsX2_make wsX2_blocksOfText := goodIn_r _ [11, 4, 12, 13, 14, 15, 16, 17, 18, 19, 20, 21, 22, 23, 24, 72, 73, 74, 75, 76, 77, 78, 79, 80, 81, 82, 83, 84, 85, 86] (by decide +kernel) (by decide +kernel)
set_option maxRecDepth 20000 in
theorem gX2_make_X2_blocksOfText : GoodIn wsX2_make (wsV RX2 37 RX2 yX2_blocksOfText wsX2_blocksOfText) := goodIn_app (goodIn_of _ (by decide +kernel)) ggX2_make_X2_blocksOfText
set_option maxRecDepth 20000 in
theorem ggX2_make_X5_size : GoodIn wsX2_make wsX5_size := goodIn_r _ [17, 18, 81, 82, 83, 84] (by decide +kernel) (by decide +kernel)
set_option maxRecDepth 20000 in
theorem gX2_make_X5_size : GoodIn wsX2_make (wsV RX2 44 RX5 yX5_size wsX5_size) := goodIn_app (goodIn_of _ (by decide +kernel)) ggX2_make_X5_size
set_option maxRecDepth 20000 in
theorem ggX2_make_X2_bytesOf : GoodIn wsX2_make wsX2_bytesOf := goodIn_r _ [28, 4, 12, 29, 30, 31, 32, 33, 34, 35, 13, 14, 15, 16, 17, 18, 19, 20, 21, 22, 23, 24, 72, 73, 74, 75, 76, 77, 78, 79, 80, 81, 82, 83, 84, 85, 86] (by decide +kernel) (by decide +kernel)
set_option maxRecDepth 20000 in
theorem gX2_make_X2_bytesOf : GoodIn wsX2_make (wsV RX2 49 RX2 yX2_bytesOf wsX2_bytesOf) := goodIn_app (goodIn_of _ (by decide +kernel)) ggX2_make_X2_bytesOf
set_option maxRecDepth 20000 in
theorem ggX2_make_X2_packBytes : GoodIn wsX2_make wsX2_packBytes := goodIn_r _ [39, 40, 12, 33, 34, 31, 35, 41, 42, 43, 10, 44, 4, 29, 30, 32, 45, 46, 47, 16, 48, 49, 50, 51, 52, 53, 54, 55, 56, 22, 57, 24, 58, 59, 60, 61, 62, 2, 63, 64, 65, 66, 67, 68, 69, 70, 71, 72, 73, 74, 75, 76, 77, 78, 79, 80, 81, 82, 83, 84, 85, 86] (by decide +kernel) (by decide +kernel)
set_option maxRecDepth 20000 in
theorem gX2_make_X2_packBytes : GoodIn wsX2_make (wsV RX2 53 RX2 yX2_packBytes wsX2_packBytes) := goodIn_app (goodIn_of _ (by decide +kernel)) ggX2_make_X2_packBytes
theorem dX2_make_0 : decode cX2_make 0 = .ok (.aload_n 0, 1) := by decide +kernel
theorem dX2_make_1 : decode cX2_make 1 = .ok (.getfield 29, 3) := by decide +kernel
theorem dX2_make_4 : decode cX2_make 4 = .ok (.ifCond .eq 4, 3) := by decide +kernel
theorem dX2_make_7 : decode cX2_make 7 = .ok (.return_, 1) := by decide +kernel
theorem dX2_make_8 : decode cX2_make 8 = .ok (.aload_n 0, 1) := by decide +kernel
theorem dX2_make_9 : decode cX2_make 9 = .ok (.iconst 0, 1) := by decide +kernel
theorem dX2_make_10 : decode cX2_make 10 = .ok (.putfield 33, 3) := by decide +kernel
theorem dX2_make_13 : decode cX2_make 13 = .ok (.aload_n 0, 1) := by decide +kernel
theorem dX2_make_14 : decode cX2_make 14 = .ok (.aload_n 0, 1) := by decide +kernel
theorem dX2_make_15 : decode cX2_make 15 = .ok (.invokevirtual 37, 3) := by decide +kernel
theorem dX2_make_18 : decode cX2_make 18 = .ok (.putfield 41, 3) := by decide +kernel
theorem dX2_make_21 : decode cX2_make 21 = .ok (.iconst 0, 1) := by decide +kernel
theorem dX2_make_22 : decode cX2_make 22 = .ok (.istore_n 1, 1) := by decide +kernel
theorem dX2_make_23 : decode cX2_make 23 = .ok (.iload_n 1, 1) := by decide +kernel
theorem dX2_make_24 : decode cX2_make 24 = .ok (.aload_n 0, 1) := by decide +kernel
theorem dX2_make_25 : decode cX2_make 25 = .ok (.getfield 41, 3) := by decide +kernel
theorem dX2_make_28 : decode cX2_make 28 = .ok (.if_icmp .ge 53, 3) := by decide +kernel
theorem dX2_make_31 : decode cX2_make 31 = .ok (.iload_n 1, 1) := by decide +kernel
theorem dX2_make_32 : decode cX2_make 32 = .ok (.bipush 40, 2) := by decide +kernel
theorem dX2_make_34 : decode cX2_make 34 = .ok (.if_icmp .ge 47, 3) := by decide +kernel
theorem dX2_make_37 : decode cX2_make 37 = .ok (.iload_n 1, 1) := by decide +kernel
theorem dX2_make_38 : decode cX2_make 38 = .ok (.aload_n 0, 1) := by decide +kernel
theorem dX2_make_39 : decode cX2_make 39 = .ok (.getfield 25, 3) := by decide +kernel
theorem dX2_make_42 : decode cX2_make 42 = .ok (.invokevirtual 44, 3) := by decide +kernel
theorem dX2_make_45 : decode cX2_make 45 = .ok (.imul, 1) := by decide +kernel
theorem dX2_make_46 : decode cX2_make 46 = .ok (.istore_n 2, 1) := by decide +kernel
theorem dX2_make_47 : decode cX2_make 47 = .ok (.aload_n 0, 1) := by decide +kernel
theorem dX2_make_48 : decode cX2_make 48 = .ok (.getfield 18, 3) := by decide +kernel
theorem dX2_make_51 : decode cX2_make 51 = .ok (.iload_n 1, 1) := by decide +kernel
theorem dX2_make_52 : decode cX2_make 52 = .ok (.aload_n 0, 1) := by decide +kernel
theorem dX2_make_53 : decode cX2_make 53 = .ok (.iload_n 2, 1) := by decide +kernel
theorem dX2_make_54 : decode cX2_make 54 = .ok (.iload_n 2, 1) := by decide +kernel
theorem dX2_make_55 : decode cX2_make 55 = .ok (.aload_n 0, 1) := by decide +kernel
theorem dX2_make_56 : decode cX2_make 56 = .ok (.iload_n 1, 1) := by decide +kernel
theorem dX2_make_57 : decode cX2_make 57 = .ok (.invokevirtual 49, 3) := by decide +kernel
theorem dX2_make_60 : decode cX2_make 60 = .ok (.iadd, 1) := by decide +kernel
theorem dX2_make_61 : decode cX2_make 61 = .ok (.invokevirtual 53, 3) := by decide +kernel
theorem dX2_make_64 : decode cX2_make 64 = .ok (.iastore, 1) := by decide +kernel
theorem dX2_make_65 : decode cX2_make 65 = .ok (.aload_n 0, 1) := by decide +kernel
theorem dX2_make_66 : decode cX2_make 66 = .ok (.getfield 15, 3) := by decide +kernel
theorem dX2_make_69 : decode cX2_make 69 = .ok (.iload_n 1, 1) := by decide +kernel
theorem dX2_make_70 : decode cX2_make 70 = .ok (.aload_n 0, 1) := by decide +kernel
theorem dX2_make_71 : decode cX2_make 71 = .ok (.getfield 33, 3) := by decide +kernel
theorem dX2_make_74 : decode cX2_make 74 = .ok (.iastore, 1) := by decide +kernel
theorem dX2_make_75 : decode cX2_make 75 = .ok (.iinc 1 1, 3) := by decide +kernel
theorem dX2_make_78 : decode cX2_make 78 = .ok (.goto (-55), 3) := by decide +kernel
theorem dX2_make_81 : decode cX2_make 81 = .ok (.aload_n 0, 1) := by decide +kernel
theorem dX2_make_82 : decode cX2_make 82 = .ok (.iconst 1, 1) := by decide +kernel
theorem dX2_make_83 : decode cX2_make 83 = .ok (.putfield 29, 3) := by decide +kernel
theorem dX2_make_86 : decode cX2_make 86 = .ok (.return_, 1) := by decide +kernel
set_option maxRecDepth 20000 in
theorem ggX2_blocksOfText_X5_size : GoodIn wsX2_blocksOfText wsX5_size := goodIn_r _ [7, 8, 24, 25, 26, 27] (by decide +kernel) (by decide +kernel)
set_option maxRecDepth 20000 in
theorem gX2_blocksOfText_X5_size : GoodIn wsX2_blocksOfText (wsV RX2 44 RX5 yX5_size wsX5_size) := goodIn_app (goodIn_of _ (by decide +kernel)) ggX2_blocksOfText_X5_size
set_option maxRecDepth 20000 in
theorem ggX2_blocksOfText_X7_length : GoodIn wsX2_blocksOfText wsX7_length := goodIn_r _ [13, 14, 28, 29] (by decide +kernel) (by decide +kernel)
set_option maxRecDepth 20000 in
theorem gX2_blocksOfText_X7_length : GoodIn wsX2_blocksOfText (wsV RX2 57 RX7 yX7_length wsX7_length) := goodIn_app (goodIn_of _ (by decide +kernel)) ggX2_blocksOfText_X7_length
theorem dX2_blocksOfText_0 : decode cX2_blocksOfText 0 = .ok (.aload_n 0, 1) := by decide +kernel
theorem dX2_blocksOfText_1 : decode cX2_blocksOfText 1 = .ok (.getfield 25, 3) := by decide +kernel
theorem dX2_blocksOfText_4 : decode cX2_blocksOfText 4 = .ok (.invokevirtual 44, 3) := by decide +kernel
theorem dX2_blocksOfText_7 : decode cX2_blocksOfText 7 = .ok (.istore_n 1, 1) := by decide +kernel
theorem dX2_blocksOfText_8 : decode cX2_blocksOfText 8 = .ok (.iload_n 1, 1) := by decide +kernel
theorem dX2_blocksOfText_9 : decode cX2_blocksOfText 9 = .ok (.ifCond .gt 7, 3) := by decide +kernel
theorem dX2_blocksOfText_12 : decode cX2_blocksOfText 12 = .ok (.iconst 0, 1) := by decide +kernel
theorem dX2_blocksOfText_13 : decode cX2_blocksOfText 13 = .ok (.goto 16, 3) := by decide +kernel
theorem dX2_blocksOfText_16 : decode cX2_blocksOfText 16 = .ok (.aload_n 0, 1) := by decide +kernel
theorem dX2_blocksOfText_17 : decode cX2_blocksOfText 17 = .ok (.getfield 21, 3) := by decide +kernel
theorem dX2_blocksOfText_20 : decode cX2_blocksOfText 20 = .ok (.invokevirtual 57, 3) := by decide +kernel
theorem dX2_blocksOfText_23 : decode cX2_blocksOfText 23 = .ok (.iload_n 1, 1) := by decide +kernel
theorem dX2_blocksOfText_24 : decode cX2_blocksOfText 24 = .ok (.iadd, 1) := by decide +kernel
theorem dX2_blocksOfText_25 : decode cX2_blocksOfText 25 = .ok (.iconst 1, 1) := by decide +kernel
theorem dX2_blocksOfText_26 : decode cX2_blocksOfText 26 = .ok (.isub, 1) := by decide +kernel
theorem dX2_blocksOfText_27 : decode cX2_blocksOfText 27 = .ok (.iload_n 1, 1) := by decide +kernel
theorem dX2_blocksOfText_28 : decode cX2_blocksOfText 28 = .ok (.idiv, 1) := by decide +kernel
theorem dX2_blocksOfText_29 : decode cX2_blocksOfText 29 = .ok (.ireturn, 1) := by decide +kernel
set_option maxRecDepth 20000 in
theorem ggX2_packBytes_X2_bestDistance : GoodIn wsX2_packBytes wsX2_bestDistance := goodIn_r _ [11, 12, 13, 14, 5, 15, 16, 17, 18, 19, 20, 21, 22, 23, 24, 10, 25, 2, 26, 27, 28, 29, 30, 31, 32, 47, 48, 49, 50, 51, 52, 53, 54, 55, 56, 57, 58, 59, 60, 61] (by decide +kernel) (by decide +kernel)
set_option maxRecDepth 20000 in
theorem gX2_packBytes_X2_bestDistance : GoodIn wsX2_packBytes (wsV RX2 65 RX2 yX2_bestDistance wsX2_bestDistance) := goodIn_app (goodIn_of _ (by decide +kernel)) ggX2_packBytes_X2_bestDistance
set_option maxRecDepth 20000 in
theorem ggX2_packBytes_X2_alike : GoodIn wsX2_packBytes wsX2_alike := goodIn_r _ [25, 2, 26, 27, 28, 29, 30, 31, 32, 47, 48, 49, 50, 51, 52, 53, 54, 55, 60, 61] (by decide +kernel) (by decide +kernel)
set_option maxRecDepth 20000 in
theorem gX2_packBytes_X2_alike : GoodIn wsX2_packBytes (wsV RX2 68 RX2 yX2_alike wsX2_alike) := goodIn_app (goodIn_of _ (by decide +kernel)) ggX2_packBytes_X2_alike
set_option maxRecDepth 20000 in
theorem ggX2_packBytes_X7_at : GoodIn wsX2_packBytes wsX7_at := goodIn_r _ [30, 31, 32, 60, 61] (by decide +kernel) (by decide +kernel)
set_option maxRecDepth 20000 in
theorem gX2_packBytes_X7_at : GoodIn wsX2_packBytes (wsV RX2 72 RX7 yX7_at wsX7_at) := goodIn_app (goodIn_of _ (by decide +kernel)) ggX2_packBytes_X7_at
set_option maxRecDepth 20000 in
theorem ggX2_packBytes_X2_putByte : GoodIn wsX2_packBytes wsX2_putByte := goodIn_r _ [36, 1, 37, 38, 39, 40, 41, 10, 42, 47, 48, 49, 50, 51, 52, 53, 54, 55] (by decide +kernel) (by decide +kernel)
set_option maxRecDepth 20000 in
theorem gX2_packBytes_X2_putByte : GoodIn wsX2_packBytes (wsV RX2 75 RX2 yX2_putByte wsX2_putByte) := goodIn_app (goodIn_of _ (by decide +kernel)) ggX2_packBytes_X2_putByte
set_option maxRecDepth 20000 in
theorem ggX2_packBytes_X2_putCopy : GoodIn wsX2_packBytes wsX2_putCopy := goodIn_r _ [46, 1, 39, 40, 41, 10, 42, 37, 38, 47, 48, 49, 50, 51, 52, 53, 54, 55] (by decide +kernel) (by decide +kernel)
set_option maxRecDepth 20000 in
theorem gX2_packBytes_X2_putCopy : GoodIn wsX2_packBytes (wsV RX2 79 RX2 yX2_putCopy wsX2_putCopy) := goodIn_app (goodIn_of _ (by decide +kernel)) ggX2_packBytes_X2_putCopy
set_option maxRecDepth 20000 in
theorem ggX2_packBytes_X2_put : GoodIn wsX2_packBytes wsX2_put := goodIn_r _ [42, 37, 38, 47, 48, 49, 50, 51, 52, 53, 54, 55] (by decide +kernel) (by decide +kernel)
set_option maxRecDepth 20000 in
theorem gX2_packBytes_X2_put : GoodIn wsX2_packBytes (wsV RX2 88 RX2 yX2_put wsX2_put) := goodIn_app (goodIn_of _ (by decide +kernel)) ggX2_packBytes_X2_put
theorem dX2_packBytes_0 : decode cX2_packBytes 0 = .ok (.iconst 0, 1) := by decide +kernel
theorem dX2_packBytes_1 : decode cX2_packBytes 1 = .ok (.istore_n 3, 1) := by decide +kernel
theorem dX2_packBytes_2 : decode cX2_packBytes 2 = .ok (.aload_n 0, 1) := by decide +kernel
theorem dX2_packBytes_3 : decode cX2_packBytes 3 = .ok (.iconst (-1), 1) := by decide +kernel
theorem dX2_packBytes_4 : decode cX2_packBytes 4 = .ok (.putfield 62, 3) := by decide +kernel
theorem dX2_packBytes_7 : decode cX2_packBytes 7 = .ok (.iload_n 1, 1) := by decide +kernel
theorem dX2_packBytes_8 : decode cX2_packBytes 8 = .ok (.istore 5, 2) := by decide +kernel
theorem dX2_packBytes_10 : decode cX2_packBytes 10 = .ok (.iload 5, 2) := by decide +kernel
theorem dX2_packBytes_12 : decode cX2_packBytes 12 = .ok (.iload_n 2, 1) := by decide +kernel
theorem dX2_packBytes_13 : decode cX2_packBytes 13 = .ok (.if_icmp .ge 78, 3) := by decide +kernel
theorem dX2_packBytes_16 : decode cX2_packBytes 16 = .ok (.aload_n 0, 1) := by decide +kernel
theorem dX2_packBytes_17 : decode cX2_packBytes 17 = .ok (.iload 5, 2) := by decide +kernel
theorem dX2_packBytes_19 : decode cX2_packBytes 19 = .ok (.iload_n 2, 1) := by decide +kernel
theorem dX2_packBytes_20 : decode cX2_packBytes 20 = .ok (.invokevirtual 65, 3) := by decide +kernel
theorem dX2_packBytes_23 : decode cX2_packBytes 23 = .ok (.istore 6, 2) := by decide +kernel
theorem dX2_packBytes_25 : decode cX2_packBytes 25 = .ok (.iload 6, 2) := by decide +kernel
theorem dX2_packBytes_27 : decode cX2_packBytes 27 = .ok (.ifCond .ne 7, 3) := by decide +kernel
theorem dX2_packBytes_30 : decode cX2_packBytes 30 = .ok (.iconst 1, 1) := by decide +kernel
theorem dX2_packBytes_31 : decode cX2_packBytes 31 = .ok (.goto 12, 3) := by decide +kernel
theorem dX2_packBytes_34 : decode cX2_packBytes 34 = .ok (.aload_n 0, 1) := by decide +kernel
theorem dX2_packBytes_35 : decode cX2_packBytes 35 = .ok (.iload 5, 2) := by decide +kernel
theorem dX2_packBytes_37 : decode cX2_packBytes 37 = .ok (.iload_n 2, 1) := by decide +kernel
theorem dX2_packBytes_38 : decode cX2_packBytes 38 = .ok (.iload 6, 2) := by decide +kernel
theorem dX2_packBytes_40 : decode cX2_packBytes 40 = .ok (.invokevirtual 68, 3) := by decide +kernel
theorem dX2_packBytes_43 : decode cX2_packBytes 43 = .ok (.istore 4, 2) := by decide +kernel
theorem dX2_packBytes_45 : decode cX2_packBytes 45 = .ok (.iload 6, 2) := by decide +kernel
theorem dX2_packBytes_47 : decode cX2_packBytes 47 = .ok (.ifCond .ne 19, 3) := by decide +kernel
theorem dX2_packBytes_50 : decode cX2_packBytes 50 = .ok (.aload_n 0, 1) := by decide +kernel
theorem dX2_packBytes_51 : decode cX2_packBytes 51 = .ok (.aload_n 0, 1) := by decide +kernel
theorem dX2_packBytes_52 : decode cX2_packBytes 52 = .ok (.getfield 21, 3) := by decide +kernel
theorem dX2_packBytes_55 : decode cX2_packBytes 55 = .ok (.iload 5, 2) := by decide +kernel
theorem dX2_packBytes_57 : decode cX2_packBytes 57 = .ok (.invokevirtual 72, 3) := by decide +kernel
theorem dX2_packBytes_60 : decode cX2_packBytes 60 = .ok (.invokevirtual 75, 3) := by decide +kernel
theorem dX2_packBytes_63 : decode cX2_packBytes 63 = .ok (.goto 11, 3) := by decide +kernel
theorem dX2_packBytes_66 : decode cX2_packBytes 66 = .ok (.aload_n 0, 1) := by decide +kernel
theorem dX2_packBytes_67 : decode cX2_packBytes 67 = .ok (.iload 4, 2) := by decide +kernel
theorem dX2_packBytes_69 : decode cX2_packBytes 69 = .ok (.iload 6, 2) := by decide +kernel
theorem dX2_packBytes_71 : decode cX2_packBytes 71 = .ok (.invokevirtual 79, 3) := by decide +kernel
theorem dX2_packBytes_74 : decode cX2_packBytes 74 = .ok (.iinc 3 1, 3) := by decide +kernel
theorem dX2_packBytes_77 : decode cX2_packBytes 77 = .ok (.iload 5, 2) := by decide +kernel
theorem dX2_packBytes_79 : decode cX2_packBytes 79 = .ok (.iconst 1, 1) := by decide +kernel
theorem dX2_packBytes_80 : decode cX2_packBytes 80 = .ok (.iload 4, 2) := by decide +kernel
theorem dX2_packBytes_82 : decode cX2_packBytes 82 = .ok (.invokestatic 83, 3) := by decide +kernel
theorem dX2_packBytes_85 : decode cX2_packBytes 85 = .ok (.iadd, 1) := by decide +kernel
theorem dX2_packBytes_86 : decode cX2_packBytes 86 = .ok (.istore 5, 2) := by decide +kernel
theorem dX2_packBytes_88 : decode cX2_packBytes 88 = .ok (.goto (-78), 3) := by decide +kernel
theorem dX2_packBytes_91 : decode cX2_packBytes 91 = .ok (.aload_n 0, 1) := by decide +kernel
theorem dX2_packBytes_92 : decode cX2_packBytes 92 = .ok (.iconst 0, 1) := by decide +kernel
theorem dX2_packBytes_93 : decode cX2_packBytes 93 = .ok (.invokevirtual 88, 3) := by decide +kernel
theorem dX2_packBytes_96 : decode cX2_packBytes 96 = .ok (.iload_n 3, 1) := by decide +kernel
theorem dX2_packBytes_97 : decode cX2_packBytes 97 = .ok (.ireturn, 1) := by decide +kernel
set_option maxRecDepth 20000 in
theorem ggX2_bestDistance_X5_window : GoodIn wsX2_bestDistance wsX5_window := goodIn_r _ [10, 11, 34, 35, 36, 37] (by decide +kernel) (by decide +kernel)
set_option maxRecDepth 20000 in
theorem gX2_bestDistance_X5_window : GoodIn wsX2_bestDistance (wsV RX2 91 RX5 yX5_window wsX5_window) := goodIn_app (goodIn_of _ (by decide +kernel)) ggX2_bestDistance_X5_window
set_option maxRecDepth 20000 in
theorem ggX2_bestDistance_X2_alike : GoodIn wsX2_bestDistance wsX2_alike := goodIn_r _ [16, 17, 18, 19, 20, 21, 22, 23, 24, 25, 26, 27, 28, 29, 30, 31, 32, 33, 38, 39] (by decide +kernel) (by decide +kernel)
set_option maxRecDepth 20000 in
theorem gX2_bestDistance_X2_alike : GoodIn wsX2_bestDistance (wsV RX2 68 RX2 yX2_alike wsX2_alike) := goodIn_app (goodIn_of _ (by decide +kernel)) ggX2_bestDistance_X2_alike
theorem dX2_bestDistance_0 : decode cX2_bestDistance 0 = .ok (.iconst 0, 1) := by decide +kernel
theorem dX2_bestDistance_1 : decode cX2_bestDistance 1 = .ok (.istore_n 3, 1) := by decide +kernel
theorem dX2_bestDistance_2 : decode cX2_bestDistance 2 = .ok (.iconst 2, 1) := by decide +kernel
theorem dX2_bestDistance_3 : decode cX2_bestDistance 3 = .ok (.istore 4, 2) := by decide +kernel
theorem dX2_bestDistance_5 : decode cX2_bestDistance 5 = .ok (.aload_n 0, 1) := by decide +kernel
theorem dX2_bestDistance_6 : decode cX2_bestDistance 6 = .ok (.getfield 25, 3) := by decide +kernel
theorem dX2_bestDistance_9 : decode cX2_bestDistance 9 = .ok (.invokevirtual 91, 3) := by decide +kernel
theorem dX2_bestDistance_12 : decode cX2_bestDistance 12 = .ok (.iload_n 1, 1) := by decide +kernel
theorem dX2_bestDistance_13 : decode cX2_bestDistance 13 = .ok (.invokestatic 94, 3) := by decide +kernel
theorem dX2_bestDistance_16 : decode cX2_bestDistance 16 = .ok (.istore 5, 2) := by decide +kernel
theorem dX2_bestDistance_18 : decode cX2_bestDistance 18 = .ok (.iconst 1, 1) := by decide +kernel
theorem dX2_bestDistance_19 : decode cX2_bestDistance 19 = .ok (.istore 6, 2) := by decide +kernel
theorem dX2_bestDistance_21 : decode cX2_bestDistance 21 = .ok (.iload 6, 2) := by decide +kernel
theorem dX2_bestDistance_23 : decode cX2_bestDistance 23 = .ok (.iload 5, 2) := by decide +kernel
theorem dX2_bestDistance_25 : decode cX2_bestDistance 25 = .ok (.if_icmp .gt 41, 3) := by decide +kernel
theorem dX2_bestDistance_28 : decode cX2_bestDistance 28 = .ok (.iload 4, 2) := by decide +kernel
theorem dX2_bestDistance_30 : decode cX2_bestDistance 30 = .ok (.iload_n 2, 1) := by decide +kernel
theorem dX2_bestDistance_31 : decode cX2_bestDistance 31 = .ok (.iload_n 1, 1) := by decide +kernel
theorem dX2_bestDistance_32 : decode cX2_bestDistance 32 = .ok (.isub, 1) := by decide +kernel
theorem dX2_bestDistance_33 : decode cX2_bestDistance 33 = .ok (.if_icmp .ge 33, 3) := by decide +kernel
theorem dX2_bestDistance_36 : decode cX2_bestDistance 36 = .ok (.aload_n 0, 1) := by decide +kernel
theorem dX2_bestDistance_37 : decode cX2_bestDistance 37 = .ok (.iload_n 1, 1) := by decide +kernel
theorem dX2_bestDistance_38 : decode cX2_bestDistance 38 = .ok (.iload_n 2, 1) := by decide +kernel
theorem dX2_bestDistance_39 : decode cX2_bestDistance 39 = .ok (.iload 6, 2) := by decide +kernel
theorem dX2_bestDistance_41 : decode cX2_bestDistance 41 = .ok (.invokevirtual 68, 3) := by decide +kernel
theorem dX2_bestDistance_44 : decode cX2_bestDistance 44 = .ok (.istore 7, 2) := by decide +kernel
theorem dX2_bestDistance_46 : decode cX2_bestDistance 46 = .ok (.iload 7, 2) := by decide +kernel
theorem dX2_bestDistance_48 : decode cX2_bestDistance 48 = .ok (.iload 4, 2) := by decide +kernel
theorem dX2_bestDistance_50 : decode cX2_bestDistance 50 = .ok (.if_icmp .le 10, 3) := by decide +kernel
theorem dX2_bestDistance_53 : decode cX2_bestDistance 53 = .ok (.iload 7, 2) := by decide +kernel
theorem dX2_bestDistance_55 : decode cX2_bestDistance 55 = .ok (.istore 4, 2) := by decide +kernel
theorem dX2_bestDistance_57 : decode cX2_bestDistance 57 = .ok (.iload 6, 2) := by decide +kernel
theorem dX2_bestDistance_59 : decode cX2_bestDistance 59 = .ok (.istore_n 3, 1) := by decide +kernel
theorem dX2_bestDistance_60 : decode cX2_bestDistance 60 = .ok (.iinc 6 1, 3) := by decide +kernel
theorem dX2_bestDistance_63 : decode cX2_bestDistance 63 = .ok (.goto (-42), 3) := by decide +kernel
theorem dX2_bestDistance_66 : decode cX2_bestDistance 66 = .ok (.iload_n 3, 1) := by decide +kernel
theorem dX2_bestDistance_67 : decode cX2_bestDistance 67 = .ok (.ireturn, 1) := by decide +kernel
set_option maxRecDepth 20000 in
theorem ggX2_alike_X7_at : GoodIn wsX2_alike wsX7_at := goodIn_r _ [6, 7, 8, 18, 19] (by decide +kernel) (by decide +kernel)
set_option maxRecDepth 20000 in
theorem gX2_alike_X7_at : GoodIn wsX2_alike (wsV RX2 72 RX7 yX7_at wsX7_at) := goodIn_app (goodIn_of _ (by decide +kernel)) ggX2_alike_X7_at
theorem dX2_alike_0 : decode cX2_alike 0 = .ok (.iload_n 1, 1) := by decide +kernel
theorem dX2_alike_1 : decode cX2_alike 1 = .ok (.istore 4, 2) := by decide +kernel
theorem dX2_alike_3 : decode cX2_alike 3 = .ok (.iload 4, 2) := by decide +kernel
theorem dX2_alike_5 : decode cX2_alike 5 = .ok (.iload_n 2, 1) := by decide +kernel
theorem dX2_alike_6 : decode cX2_alike 6 = .ok (.if_icmp .ge 32, 3) := by decide +kernel
theorem dX2_alike_9 : decode cX2_alike 9 = .ok (.aload_n 0, 1) := by decide +kernel
theorem dX2_alike_10 : decode cX2_alike 10 = .ok (.getfield 21, 3) := by decide +kernel
theorem dX2_alike_13 : decode cX2_alike 13 = .ok (.iload 4, 2) := by decide +kernel
theorem dX2_alike_15 : decode cX2_alike 15 = .ok (.invokevirtual 72, 3) := by decide +kernel
theorem dX2_alike_18 : decode cX2_alike 18 = .ok (.aload_n 0, 1) := by decide +kernel
theorem dX2_alike_19 : decode cX2_alike 19 = .ok (.getfield 21, 3) := by decide +kernel
theorem dX2_alike_22 : decode cX2_alike 22 = .ok (.iload 4, 2) := by decide +kernel
theorem dX2_alike_24 : decode cX2_alike 24 = .ok (.iload_n 3, 1) := by decide +kernel
theorem dX2_alike_25 : decode cX2_alike 25 = .ok (.isub, 1) := by decide +kernel
theorem dX2_alike_26 : decode cX2_alike 26 = .ok (.invokevirtual 72, 3) := by decide +kernel
theorem dX2_alike_29 : decode cX2_alike 29 = .ok (.if_icmp .ne 9, 3) := by decide +kernel
theorem dX2_alike_32 : decode cX2_alike 32 = .ok (.iinc 4 1, 3) := by decide +kernel
theorem dX2_alike_35 : decode cX2_alike 35 = .ok (.goto (-32), 3) := by decide +kernel
theorem dX2_alike_38 : decode cX2_alike 38 = .ok (.iload 4, 2) := by decide +kernel
theorem dX2_alike_40 : decode cX2_alike 40 = .ok (.iload_n 1, 1) := by decide +kernel
theorem dX2_alike_41 : decode cX2_alike 41 = .ok (.isub, 1) := by decide +kernel
theorem dX2_alike_42 : decode cX2_alike 42 = .ok (.ireturn, 1) := by decide +kernel
set_option maxRecDepth 20000 in
theorem ggX2_putByte_X2_put : GoodIn wsX2_putByte wsX2_put := goodIn_r _ [8, 2, 3, 9, 10, 11, 12, 13, 14, 15, 16, 17] (by decide +kernel) (by decide +kernel)
set_option maxRecDepth 20000 in
theorem gX2_putByte_X2_put : GoodIn wsX2_putByte (wsV RX2 88 RX2 yX2_put wsX2_put) := goodIn_app (goodIn_of _ (by decide +kernel)) ggX2_putByte_X2_put
theorem dX2_putByte_0 : decode cX2_putByte 0 = .ok (.aload_n 0, 1) := by decide +kernel
theorem dX2_putByte_1 : decode cX2_putByte 1 = .ok (.getfield 62, 3) := by decide +kernel
theorem dX2_putByte_4 : decode cX2_putByte 4 = .ok (.iconst (-1), 1) := by decide +kernel
theorem dX2_putByte_5 : decode cX2_putByte 5 = .ok (.if_icmp .ne 16, 3) := by decide +kernel
theorem dX2_putByte_8 : decode cX2_putByte 8 = .ok (.aload_n 0, 1) := by decide +kernel
theorem dX2_putByte_9 : decode cX2_putByte 9 = .ok (.aload_n 0, 1) := by decide +kernel
theorem dX2_putByte_10 : decode cX2_putByte 10 = .ok (.getfield 33, 3) := by decide +kernel
theorem dX2_putByte_13 : decode cX2_putByte 13 = .ok (.putfield 62, 3) := by decide +kernel
theorem dX2_putByte_16 : decode cX2_putByte 16 = .ok (.aload_n 0, 1) := by decide +kernel
theorem dX2_putByte_17 : decode cX2_putByte 17 = .ok (.iconst 0, 1) := by decide +kernel
theorem dX2_putByte_18 : decode cX2_putByte 18 = .ok (.invokevirtual 88, 3) := by decide +kernel
theorem dX2_putByte_21 : decode cX2_putByte 21 = .ok (.aload_n 0, 1) := by decide +kernel
theorem dX2_putByte_22 : decode cX2_putByte 22 = .ok (.getfield 62, 3) := by decide +kernel
theorem dX2_putByte_25 : decode cX2_putByte 25 = .ok (.ifCond .lt 28, 3) := by decide +kernel
theorem dX2_putByte_28 : decode cX2_putByte 28 = .ok (.aload_n 0, 1) := by decide +kernel
theorem dX2_putByte_29 : decode cX2_putByte 29 = .ok (.getfield 62, 3) := by decide +kernel
theorem dX2_putByte_32 : decode cX2_putByte 32 = .ok (.aload_n 0, 1) := by decide +kernel
theorem dX2_putByte_33 : decode cX2_putByte 33 = .ok (.getfield 9, 3) := by decide +kernel
theorem dX2_putByte_36 : decode cX2_putByte 36 = .ok (.arraylength, 1) := by decide +kernel
theorem dX2_putByte_37 : decode cX2_putByte 37 = .ok (.if_icmp .ge 16, 3) := by decide +kernel
theorem dX2_putByte_40 : decode cX2_putByte 40 = .ok (.aload_n 0, 1) := by decide +kernel
theorem dX2_putByte_41 : decode cX2_putByte 41 = .ok (.getfield 9, 3) := by decide +kernel
theorem dX2_putByte_44 : decode cX2_putByte 44 = .ok (.aload_n 0, 1) := by decide +kernel
theorem dX2_putByte_45 : decode cX2_putByte 45 = .ok (.getfield 62, 3) := by decide +kernel
theorem dX2_putByte_48 : decode cX2_putByte 48 = .ok (.dup2, 1) := by decide +kernel
theorem dX2_putByte_49 : decode cX2_putByte 49 = .ok (.iaload, 1) := by decide +kernel
theorem dX2_putByte_50 : decode cX2_putByte 50 = .ok (.iconst 1, 1) := by decide +kernel
theorem dX2_putByte_51 : decode cX2_putByte 51 = .ok (.iadd, 1) := by decide +kernel
theorem dX2_putByte_52 : decode cX2_putByte 52 = .ok (.iastore, 1) := by decide +kernel
theorem dX2_putByte_53 : decode cX2_putByte 53 = .ok (.aload_n 0, 1) := by decide +kernel
theorem dX2_putByte_54 : decode cX2_putByte 54 = .ok (.iload_n 1, 1) := by decide +kernel
theorem dX2_putByte_55 : decode cX2_putByte 55 = .ok (.invokevirtual 88, 3) := by decide +kernel
theorem dX2_putByte_58 : decode cX2_putByte 58 = .ok (.return_, 1) := by decide +kernel
set_option maxRecDepth 20000 in
theorem ggX2_putCopy_X2_put : GoodIn wsX2_putCopy wsX2_put := goodIn_r _ [6, 7, 8, 9, 10, 11, 12, 13, 14, 15, 16, 17] (by decide +kernel) (by decide +kernel)
set_option maxRecDepth 20000 in
theorem gX2_putCopy_X2_put : GoodIn wsX2_putCopy (wsV RX2 88 RX2 yX2_put wsX2_put) := goodIn_app (goodIn_of _ (by decide +kernel)) ggX2_putCopy_X2_put
theorem dX2_putCopy_0 : decode cX2_putCopy 0 = .ok (.aload_n 0, 1) := by decide +kernel
theorem dX2_putCopy_1 : decode cX2_putCopy 1 = .ok (.sipush 128, 3) := by decide +kernel
theorem dX2_putCopy_4 : decode cX2_putCopy 4 = .ok (.iload_n 1, 1) := by decide +kernel
theorem dX2_putCopy_5 : decode cX2_putCopy 5 = .ok (.iadd, 1) := by decide +kernel
theorem dX2_putCopy_6 : decode cX2_putCopy 6 = .ok (.iconst 3, 1) := by decide +kernel
theorem dX2_putCopy_7 : decode cX2_putCopy 7 = .ok (.isub, 1) := by decide +kernel
theorem dX2_putCopy_8 : decode cX2_putCopy 8 = .ok (.invokevirtual 88, 3) := by decide +kernel
theorem dX2_putCopy_11 : decode cX2_putCopy 11 = .ok (.aload_n 0, 1) := by decide +kernel
theorem dX2_putCopy_12 : decode cX2_putCopy 12 = .ok (.iload_n 2, 1) := by decide +kernel
theorem dX2_putCopy_13 : decode cX2_putCopy 13 = .ok (.iconst 1, 1) := by decide +kernel
theorem dX2_putCopy_14 : decode cX2_putCopy 14 = .ok (.isub, 1) := by decide +kernel
theorem dX2_putCopy_15 : decode cX2_putCopy 15 = .ok (.invokevirtual 88, 3) := by decide +kernel
theorem dX2_putCopy_18 : decode cX2_putCopy 18 = .ok (.aload_n 0, 1) := by decide +kernel
theorem dX2_putCopy_19 : decode cX2_putCopy 19 = .ok (.iconst (-1), 1) := by decide +kernel
theorem dX2_putCopy_20 : decode cX2_putCopy 20 = .ok (.putfield 62, 3) := by decide +kernel
theorem dX2_putCopy_23 : decode cX2_putCopy 23 = .ok (.return_, 1) := by decide +kernel
theorem dX2_put_0 : decode cX2_put 0 = .ok (.aload_n 0, 1) := by decide +kernel
theorem dX2_put_1 : decode cX2_put 1 = .ok (.getfield 33, 3) := by decide +kernel
theorem dX2_put_4 : decode cX2_put 4 = .ok (.ifCond .lt 35, 3) := by decide +kernel
theorem dX2_put_7 : decode cX2_put 7 = .ok (.aload_n 0, 1) := by decide +kernel
theorem dX2_put_8 : decode cX2_put 8 = .ok (.getfield 33, 3) := by decide +kernel
theorem dX2_put_11 : decode cX2_put 11 = .ok (.aload_n 0, 1) := by decide +kernel
theorem dX2_put_12 : decode cX2_put 12 = .ok (.getfield 9, 3) := by decide +kernel
theorem dX2_put_15 : decode cX2_put 15 = .ok (.arraylength, 1) := by decide +kernel
theorem dX2_put_16 : decode cX2_put 16 = .ok (.if_icmp .ge 23, 3) := by decide +kernel
theorem dX2_put_19 : decode cX2_put 19 = .ok (.aload_n 0, 1) := by decide +kernel
theorem dX2_put_20 : decode cX2_put 20 = .ok (.getfield 9, 3) := by decide +kernel
theorem dX2_put_23 : decode cX2_put 23 = .ok (.aload_n 0, 1) := by decide +kernel
theorem dX2_put_24 : decode cX2_put 24 = .ok (.getfield 33, 3) := by decide +kernel
theorem dX2_put_27 : decode cX2_put 27 = .ok (.iload_n 1, 1) := by decide +kernel
theorem dX2_put_28 : decode cX2_put 28 = .ok (.iastore, 1) := by decide +kernel
theorem dX2_put_29 : decode cX2_put 29 = .ok (.aload_n 0, 1) := by decide +kernel
theorem dX2_put_30 : decode cX2_put 30 = .ok (.dup, 1) := by decide +kernel
theorem dX2_put_31 : decode cX2_put 31 = .ok (.getfield 33, 3) := by decide +kernel
theorem dX2_put_34 : decode cX2_put 34 = .ok (.iconst 1, 1) := by decide +kernel
theorem dX2_put_35 : decode cX2_put 35 = .ok (.iadd, 1) := by decide +kernel
theorem dX2_put_36 : decode cX2_put 36 = .ok (.putfield 33, 3) := by decide +kernel
theorem dX2_put_39 : decode cX2_put 39 = .ok (.return_, 1) := by decide +kernel
theorem dX2_blocks_0 : decode cX2_blocks 0 = .ok (.aload_n 0, 1) := by decide +kernel
theorem dX2_blocks_1 : decode cX2_blocks 1 = .ok (.getfield 41, 3) := by decide +kernel
theorem dX2_blocks_4 : decode cX2_blocks 4 = .ok (.ireturn, 1) := by decide +kernel
set_option maxRecDepth 20000 in
theorem ggX2_bytesOf_X5_size : GoodIn wsX2_bytesOf wsX5_size := goodIn_r _ [14, 15, 31, 32, 33, 34] (by decide +kernel) (by decide +kernel)
set_option maxRecDepth 20000 in
theorem gX2_bytesOf_X5_size : GoodIn wsX2_bytesOf (wsV RX2 44 RX5 yX5_size wsX5_size) := goodIn_app (goodIn_of _ (by decide +kernel)) ggX2_bytesOf_X5_size
set_option maxRecDepth 20000 in
theorem ggX2_bytesOf_X7_length : GoodIn wsX2_bytesOf wsX7_length := goodIn_r _ [20, 21, 35, 36] (by decide +kernel) (by decide +kernel)
set_option maxRecDepth 20000 in
theorem gX2_bytesOf_X7_length : GoodIn wsX2_bytesOf (wsV RX2 57 RX7 yX7_length wsX7_length) := goodIn_app (goodIn_of _ (by decide +kernel)) ggX2_bytesOf_X7_length
theorem dX2_bytesOf_0 : decode cX2_bytesOf 0 = .ok (.aload_n 0, 1) := by decide +kernel
theorem dX2_bytesOf_1 : decode cX2_bytesOf 1 = .ok (.getfield 25, 3) := by decide +kernel
theorem dX2_bytesOf_4 : decode cX2_bytesOf 4 = .ok (.invokevirtual 44, 3) := by decide +kernel
theorem dX2_bytesOf_7 : decode cX2_bytesOf 7 = .ok (.istore_n 2, 1) := by decide +kernel
theorem dX2_bytesOf_8 : decode cX2_bytesOf 8 = .ok (.iconst 0, 1) := by decide +kernel
theorem dX2_bytesOf_9 : decode cX2_bytesOf 9 = .ok (.iload_n 2, 1) := by decide +kernel
theorem dX2_bytesOf_10 : decode cX2_bytesOf 10 = .ok (.aload_n 0, 1) := by decide +kernel
theorem dX2_bytesOf_11 : decode cX2_bytesOf 11 = .ok (.getfield 21, 3) := by decide +kernel
theorem dX2_bytesOf_14 : decode cX2_bytesOf 14 = .ok (.invokevirtual 57, 3) := by decide +kernel
theorem dX2_bytesOf_17 : decode cX2_bytesOf 17 = .ok (.iload_n 1, 1) := by decide +kernel
theorem dX2_bytesOf_18 : decode cX2_bytesOf 18 = .ok (.iload_n 2, 1) := by decide +kernel
theorem dX2_bytesOf_19 : decode cX2_bytesOf 19 = .ok (.imul, 1) := by decide +kernel
theorem dX2_bytesOf_20 : decode cX2_bytesOf 20 = .ok (.isub, 1) := by decide +kernel
theorem dX2_bytesOf_21 : decode cX2_bytesOf 21 = .ok (.invokestatic 94, 3) := by decide +kernel
theorem dX2_bytesOf_24 : decode cX2_bytesOf 24 = .ok (.invokestatic 83, 3) := by decide +kernel
theorem dX2_bytesOf_27 : decode cX2_bytesOf 27 = .ok (.ireturn, 1) := by decide +kernel
theorem dX2_tokensOf_0 : decode cX2_tokensOf 0 = .ok (.iload_n 1, 1) := by decide +kernel
theorem dX2_tokensOf_1 : decode cX2_tokensOf 1 = .ok (.ifCond .lt 21, 3) := by decide +kernel
theorem dX2_tokensOf_4 : decode cX2_tokensOf 4 = .ok (.iload_n 1, 1) := by decide +kernel
theorem dX2_tokensOf_5 : decode cX2_tokensOf 5 = .ok (.aload_n 0, 1) := by decide +kernel
theorem dX2_tokensOf_6 : decode cX2_tokensOf 6 = .ok (.getfield 18, 3) := by decide +kernel
theorem dX2_tokensOf_9 : decode cX2_tokensOf 9 = .ok (.arraylength, 1) := by decide +kernel
theorem dX2_tokensOf_10 : decode cX2_tokensOf 10 = .ok (.if_icmp .ge 12, 3) := by decide +kernel
theorem dX2_tokensOf_13 : decode cX2_tokensOf 13 = .ok (.aload_n 0, 1) := by decide +kernel
theorem dX2_tokensOf_14 : decode cX2_tokensOf 14 = .ok (.getfield 18, 3) := by decide +kernel
theorem dX2_tokensOf_17 : decode cX2_tokensOf 17 = .ok (.iload_n 1, 1) := by decide +kernel
theorem dX2_tokensOf_18 : decode cX2_tokensOf 18 = .ok (.iaload, 1) := by decide +kernel
theorem dX2_tokensOf_19 : decode cX2_tokensOf 19 = .ok (.goto 4, 3) := by decide +kernel
theorem dX2_tokensOf_22 : decode cX2_tokensOf 22 = .ok (.iconst 0, 1) := by decide +kernel
theorem dX2_tokensOf_23 : decode cX2_tokensOf 23 = .ok (.ireturn, 1) := by decide +kernel
theorem dX2_byteAt_0 : decode cX2_byteAt 0 = .ok (.iload_n 1, 1) := by decide +kernel
theorem dX2_byteAt_1 : decode cX2_byteAt 1 = .ok (.ifCond .lt 29, 3) := by decide +kernel
theorem dX2_byteAt_4 : decode cX2_byteAt 4 = .ok (.iload_n 1, 1) := by decide +kernel
theorem dX2_byteAt_5 : decode cX2_byteAt 5 = .ok (.aload_n 0, 1) := by decide +kernel
theorem dX2_byteAt_6 : decode cX2_byteAt 6 = .ok (.getfield 33, 3) := by decide +kernel
theorem dX2_byteAt_9 : decode cX2_byteAt 9 = .ok (.if_icmp .ge 21, 3) := by decide +kernel
theorem dX2_byteAt_12 : decode cX2_byteAt 12 = .ok (.iload_n 1, 1) := by decide +kernel
theorem dX2_byteAt_13 : decode cX2_byteAt 13 = .ok (.aload_n 0, 1) := by decide +kernel
theorem dX2_byteAt_14 : decode cX2_byteAt 14 = .ok (.getfield 9, 3) := by decide +kernel
theorem dX2_byteAt_17 : decode cX2_byteAt 17 = .ok (.arraylength, 1) := by decide +kernel
theorem dX2_byteAt_18 : decode cX2_byteAt 18 = .ok (.if_icmp .ge 12, 3) := by decide +kernel
theorem dX2_byteAt_21 : decode cX2_byteAt 21 = .ok (.aload_n 0, 1) := by decide +kernel
theorem dX2_byteAt_22 : decode cX2_byteAt 22 = .ok (.getfield 9, 3) := by decide +kernel
theorem dX2_byteAt_25 : decode cX2_byteAt 25 = .ok (.iload_n 1, 1) := by decide +kernel
theorem dX2_byteAt_26 : decode cX2_byteAt 26 = .ok (.iaload, 1) := by decide +kernel
theorem dX2_byteAt_27 : decode cX2_byteAt 27 = .ok (.goto 4, 3) := by decide +kernel
theorem dX2_byteAt_30 : decode cX2_byteAt 30 = .ok (.iconst (-1), 1) := by decide +kernel
theorem dX2_byteAt_31 : decode cX2_byteAt 31 = .ok (.ireturn, 1) := by decide +kernel
theorem dX2_lengthOfFirst_0 : decode cX2_lengthOfFirst 0 = .ok (.iload_n 1, 1) := by decide +kernel
theorem dX2_lengthOfFirst_1 : decode cX2_lengthOfFirst 1 = .ok (.iconst 1, 1) := by decide +kernel
theorem dX2_lengthOfFirst_2 : decode cX2_lengthOfFirst 2 = .ok (.if_icmp .lt 23, 3) := by decide +kernel
theorem dX2_lengthOfFirst_5 : decode cX2_lengthOfFirst 5 = .ok (.iload_n 1, 1) := by decide +kernel
theorem dX2_lengthOfFirst_6 : decode cX2_lengthOfFirst 6 = .ok (.aload_n 0, 1) := by decide +kernel
theorem dX2_lengthOfFirst_7 : decode cX2_lengthOfFirst 7 = .ok (.getfield 15, 3) := by decide +kernel
theorem dX2_lengthOfFirst_10 : decode cX2_lengthOfFirst 10 = .ok (.arraylength, 1) := by decide +kernel
theorem dX2_lengthOfFirst_11 : decode cX2_lengthOfFirst 11 = .ok (.if_icmp .gt 14, 3) := by decide +kernel
theorem dX2_lengthOfFirst_14 : decode cX2_lengthOfFirst 14 = .ok (.aload_n 0, 1) := by decide +kernel
theorem dX2_lengthOfFirst_15 : decode cX2_lengthOfFirst 15 = .ok (.getfield 15, 3) := by decide +kernel
theorem dX2_lengthOfFirst_18 : decode cX2_lengthOfFirst 18 = .ok (.iload_n 1, 1) := by decide +kernel
theorem dX2_lengthOfFirst_19 : decode cX2_lengthOfFirst 19 = .ok (.iconst 1, 1) := by decide +kernel
theorem dX2_lengthOfFirst_20 : decode cX2_lengthOfFirst 20 = .ok (.isub, 1) := by decide +kernel
theorem dX2_lengthOfFirst_21 : decode cX2_lengthOfFirst 21 = .ok (.iaload, 1) := by decide +kernel
theorem dX2_lengthOfFirst_22 : decode cX2_lengthOfFirst 22 = .ok (.goto 4, 3) := by decide +kernel
theorem dX2_lengthOfFirst_25 : decode cX2_lengthOfFirst 25 = .ok (.iconst 0, 1) := by decide +kernel
theorem dX2_lengthOfFirst_26 : decode cX2_lengthOfFirst 26 = .ok (.ireturn, 1) := by decide +kernel
theorem dX3_init_0 : decode cX3_init 0 = .ok (.aload_n 0, 1) := by decide +kernel
theorem dX3_init_1 : decode cX3_init 1 = .ok (.invokespecial 3, 3) := by decide +kernel
theorem dX3_init_4 : decode cX3_init 4 = .ok (.aload_n 0, 1) := by decide +kernel
theorem dX3_init_5 : decode cX3_init 5 = .ok (.bipush 40, 2) := by decide +kernel
theorem dX3_init_7 : decode cX3_init 7 = .ok (.newarray .int, 2) := by decide +kernel
theorem dX3_init_9 : decode cX3_init 9 = .ok (.putfield 9, 3) := by decide +kernel
theorem dX3_init_12 : decode cX3_init 12 = .ok (.aload_n 0, 1) := by decide +kernel
theorem dX3_init_13 : decode cX3_init 13 = .ok (.bipush 40, 2) := by decide +kernel
theorem dX3_init_15 : decode cX3_init 15 = .ok (.newarray .int, 2) := by decide +kernel
theorem dX3_init_17 : decode cX3_init 17 = .ok (.putfield 15, 3) := by decide +kernel
theorem dX3_init_20 : decode cX3_init 20 = .ok (.aload_n 0, 1) := by decide +kernel
theorem dX3_init_21 : decode cX3_init 21 = .ok (.bipush 40, 2) := by decide +kernel
theorem dX3_init_23 : decode cX3_init 23 = .ok (.newarray .boolean, 2) := by decide +kernel
theorem dX3_init_25 : decode cX3_init 25 = .ok (.putfield 18, 3) := by decide +kernel
theorem dX3_init_28 : decode cX3_init 28 = .ok (.return_, 1) := by decide +kernel
theorem dX3_put_0 : decode cX3_put 0 = .ok (.iload_n 1, 1) := by decide +kernel
theorem dX3_put_1 : decode cX3_put 1 = .ok (.ifCond .lt 31, 3) := by decide +kernel
theorem dX3_put_4 : decode cX3_put 4 = .ok (.iload_n 1, 1) := by decide +kernel
theorem dX3_put_5 : decode cX3_put 5 = .ok (.bipush 40, 2) := by decide +kernel
theorem dX3_put_7 : decode cX3_put 7 = .ok (.if_icmp .ge 25, 3) := by decide +kernel
theorem dX3_put_10 : decode cX3_put 10 = .ok (.aload_n 0, 1) := by decide +kernel
theorem dX3_put_11 : decode cX3_put 11 = .ok (.getfield 9, 3) := by decide +kernel
theorem dX3_put_14 : decode cX3_put 14 = .ok (.iload_n 1, 1) := by decide +kernel
theorem dX3_put_15 : decode cX3_put 15 = .ok (.iload_n 2, 1) := by decide +kernel
theorem dX3_put_16 : decode cX3_put 16 = .ok (.iastore, 1) := by decide +kernel
theorem dX3_put_17 : decode cX3_put 17 = .ok (.aload_n 0, 1) := by decide +kernel
theorem dX3_put_18 : decode cX3_put 18 = .ok (.getfield 15, 3) := by decide +kernel
theorem dX3_put_21 : decode cX3_put 21 = .ok (.iload_n 1, 1) := by decide +kernel
theorem dX3_put_22 : decode cX3_put 22 = .ok (.iload_n 3, 1) := by decide +kernel
theorem dX3_put_23 : decode cX3_put 23 = .ok (.iastore, 1) := by decide +kernel
theorem dX3_put_24 : decode cX3_put 24 = .ok (.aload_n 0, 1) := by decide +kernel
theorem dX3_put_25 : decode cX3_put 25 = .ok (.getfield 18, 3) := by decide +kernel
theorem dX3_put_28 : decode cX3_put 28 = .ok (.iload_n 1, 1) := by decide +kernel
theorem dX3_put_29 : decode cX3_put 29 = .ok (.iload 4, 2) := by decide +kernel
theorem dX3_put_31 : decode cX3_put 31 = .ok (.bastore, 1) := by decide +kernel
theorem dX3_put_32 : decode cX3_put 32 = .ok (.return_, 1) := by decide +kernel
theorem dX3_kindAt_0 : decode cX3_kindAt 0 = .ok (.iload_n 1, 1) := by decide +kernel
theorem dX3_kindAt_1 : decode cX3_kindAt 1 = .ok (.ifCond .lt 19, 3) := by decide +kernel
theorem dX3_kindAt_4 : decode cX3_kindAt 4 = .ok (.iload_n 1, 1) := by decide +kernel
theorem dX3_kindAt_5 : decode cX3_kindAt 5 = .ok (.bipush 40, 2) := by decide +kernel
theorem dX3_kindAt_7 : decode cX3_kindAt 7 = .ok (.if_icmp .ge 13, 3) := by decide +kernel
theorem dX3_kindAt_10 : decode cX3_kindAt 10 = .ok (.aload_n 0, 1) := by decide +kernel
theorem dX3_kindAt_11 : decode cX3_kindAt 11 = .ok (.getfield 9, 3) := by decide +kernel
theorem dX3_kindAt_14 : decode cX3_kindAt 14 = .ok (.iload_n 1, 1) := by decide +kernel
theorem dX3_kindAt_15 : decode cX3_kindAt 15 = .ok (.iaload, 1) := by decide +kernel
theorem dX3_kindAt_16 : decode cX3_kindAt 16 = .ok (.iload_n 2, 1) := by decide +kernel
theorem dX3_kindAt_17 : decode cX3_kindAt 17 = .ok (.if_icmp .eq 5, 3) := by decide +kernel
theorem dX3_kindAt_20 : decode cX3_kindAt 20 = .ok (.iconst 0, 1) := by decide +kernel
theorem dX3_kindAt_21 : decode cX3_kindAt 21 = .ok (.ireturn, 1) := by decide +kernel
theorem dX3_kindAt_22 : decode cX3_kindAt 22 = .ok (.iload_n 3, 1) := by decide +kernel
theorem dX3_kindAt_23 : decode cX3_kindAt 23 = .ok (.ifCond .eq 16, 3) := by decide +kernel
theorem dX3_kindAt_26 : decode cX3_kindAt 26 = .ok (.aload_n 0, 1) := by decide +kernel
theorem dX3_kindAt_27 : decode cX3_kindAt 27 = .ok (.getfield 18, 3) := by decide +kernel
theorem dX3_kindAt_30 : decode cX3_kindAt 30 = .ok (.iload_n 1, 1) := by decide +kernel
theorem dX3_kindAt_31 : decode cX3_kindAt 31 = .ok (.baload, 1) := by decide +kernel
theorem dX3_kindAt_32 : decode cX3_kindAt 32 = .ok (.ifCond .ne 7, 3) := by decide +kernel
theorem dX3_kindAt_35 : decode cX3_kindAt 35 = .ok (.iconst 0, 1) := by decide +kernel
theorem dX3_kindAt_36 : decode cX3_kindAt 36 = .ok (.goto 9, 3) := by decide +kernel
theorem dX3_kindAt_39 : decode cX3_kindAt 39 = .ok (.aload_n 0, 1) := by decide +kernel
theorem dX3_kindAt_40 : decode cX3_kindAt 40 = .ok (.getfield 15, 3) := by decide +kernel
theorem dX3_kindAt_43 : decode cX3_kindAt 43 = .ok (.iload_n 1, 1) := by decide +kernel
theorem dX3_kindAt_44 : decode cX3_kindAt 44 = .ok (.iaload, 1) := by decide +kernel
theorem dX3_kindAt_45 : decode cX3_kindAt 45 = .ok (.ireturn, 1) := by decide +kernel
theorem dX3_removeAll_0 : decode cX3_removeAll 0 = .ok (.iconst 0, 1) := by decide +kernel
theorem dX3_removeAll_1 : decode cX3_removeAll 1 = .ok (.istore_n 1, 1) := by decide +kernel
theorem dX3_removeAll_2 : decode cX3_removeAll 2 = .ok (.iload_n 1, 1) := by decide +kernel
theorem dX3_removeAll_3 : decode cX3_removeAll 3 = .ok (.bipush 40, 2) := by decide +kernel
theorem dX3_removeAll_5 : decode cX3_removeAll 5 = .ok (.if_icmp .ge 16, 3) := by decide +kernel
theorem dX3_removeAll_8 : decode cX3_removeAll 8 = .ok (.aload_n 0, 1) := by decide +kernel
theorem dX3_removeAll_9 : decode cX3_removeAll 9 = .ok (.getfield 15, 3) := by decide +kernel
theorem dX3_removeAll_12 : decode cX3_removeAll 12 = .ok (.iload_n 1, 1) := by decide +kernel
theorem dX3_removeAll_13 : decode cX3_removeAll 13 = .ok (.iconst 0, 1) := by decide +kernel
theorem dX3_removeAll_14 : decode cX3_removeAll 14 = .ok (.iastore, 1) := by decide +kernel
theorem dX3_removeAll_15 : decode cX3_removeAll 15 = .ok (.iinc 1 1, 3) := by decide +kernel
theorem dX3_removeAll_18 : decode cX3_removeAll 18 = .ok (.goto (-16), 3) := by decide +kernel
theorem dX3_removeAll_21 : decode cX3_removeAll 21 = .ok (.return_, 1) := by decide +kernel
theorem dX4_init_0 : decode cX4_init 0 = .ok (.aload_n 0, 1) := by decide +kernel
theorem dX4_init_1 : decode cX4_init 1 = .ok (.invokespecial 3, 3) := by decide +kernel
theorem dX4_init_4 : decode cX4_init 4 = .ok (.aload_n 0, 1) := by decide +kernel
theorem dX4_init_5 : decode cX4_init 5 = .ok (.bipush 40, 2) := by decide +kernel
theorem dX4_init_7 : decode cX4_init 7 = .ok (.newarray .boolean, 2) := by decide +kernel
theorem dX4_init_9 : decode cX4_init 9 = .ok (.putfield 9, 3) := by decide +kernel
theorem dX4_init_12 : decode cX4_init 12 = .ok (.return_, 1) := by decide +kernel
theorem dX4_renew_0 : decode cX4_renew 0 = .ok (.iconst 0, 1) := by decide +kernel
theorem dX4_renew_1 : decode cX4_renew 1 = .ok (.istore_n 2, 1) := by decide +kernel
theorem dX4_renew_2 : decode cX4_renew 2 = .ok (.iload_n 2, 1) := by decide +kernel
theorem dX4_renew_3 : decode cX4_renew 3 = .ok (.aload_n 0, 1) := by decide +kernel
theorem dX4_renew_4 : decode cX4_renew 4 = .ok (.getfield 9, 3) := by decide +kernel
theorem dX4_renew_7 : decode cX4_renew 7 = .ok (.arraylength, 1) := by decide +kernel
theorem dX4_renew_8 : decode cX4_renew 8 = .ok (.if_icmp .ge 16, 3) := by decide +kernel
theorem dX4_renew_11 : decode cX4_renew 11 = .ok (.aload_n 0, 1) := by decide +kernel
theorem dX4_renew_12 : decode cX4_renew 12 = .ok (.getfield 9, 3) := by decide +kernel
theorem dX4_renew_15 : decode cX4_renew 15 = .ok (.iload_n 2, 1) := by decide +kernel
theorem dX4_renew_16 : decode cX4_renew 16 = .ok (.iconst 0, 1) := by decide +kernel
theorem dX4_renew_17 : decode cX4_renew 17 = .ok (.bastore, 1) := by decide +kernel
theorem dX4_renew_18 : decode cX4_renew 18 = .ok (.iinc 2 1, 3) := by decide +kernel
theorem dX4_renew_21 : decode cX4_renew 21 = .ok (.goto (-19), 3) := by decide +kernel
theorem dX4_renew_24 : decode cX4_renew 24 = .ok (.aload_n 0, 1) := by decide +kernel
theorem dX4_renew_25 : decode cX4_renew 25 = .ok (.iconst 0, 1) := by decide +kernel
theorem dX4_renew_26 : decode cX4_renew 26 = .ok (.putfield 15, 3) := by decide +kernel
theorem dX4_renew_29 : decode cX4_renew 29 = .ok (.aload_n 0, 1) := by decide +kernel
theorem dX4_renew_30 : decode cX4_renew 30 = .ok (.iload_n 1, 1) := by decide +kernel
theorem dX4_renew_31 : decode cX4_renew 31 = .ok (.putfield 19, 3) := by decide +kernel
theorem dX4_renew_34 : decode cX4_renew 34 = .ok (.aload_n 0, 1) := by decide +kernel
theorem dX4_renew_35 : decode cX4_renew 35 = .ok (.iconst 0, 1) := by decide +kernel
theorem dX4_renew_36 : decode cX4_renew 36 = .ok (.putfield 22, 3) := by decide +kernel
theorem dX4_renew_39 : decode cX4_renew 39 = .ok (.return_, 1) := by decide +kernel
theorem dX4_lay_0 : decode cX4_lay 0 = .ok (.iload_n 1, 1) := by decide +kernel
theorem dX4_lay_1 : decode cX4_lay 1 = .ok (.ifCond .lt 31, 3) := by decide +kernel
theorem dX4_lay_4 : decode cX4_lay 4 = .ok (.iload_n 1, 1) := by decide +kernel
theorem dX4_lay_5 : decode cX4_lay 5 = .ok (.aload_n 0, 1) := by decide +kernel
theorem dX4_lay_6 : decode cX4_lay 6 = .ok (.getfield 9, 3) := by decide +kernel
theorem dX4_lay_9 : decode cX4_lay 9 = .ok (.arraylength, 1) := by decide +kernel
theorem dX4_lay_10 : decode cX4_lay 10 = .ok (.if_icmp .ge 22, 3) := by decide +kernel
theorem dX4_lay_13 : decode cX4_lay 13 = .ok (.iload_n 1, 1) := by decide +kernel
theorem dX4_lay_14 : decode cX4_lay 14 = .ok (.aload_n 0, 1) := by decide +kernel
theorem dX4_lay_15 : decode cX4_lay 15 = .ok (.getfield 22, 3) := by decide +kernel
theorem dX4_lay_18 : decode cX4_lay 18 = .ok (.if_icmp .eq 16, 3) := by decide +kernel
theorem dX4_lay_21 : decode cX4_lay 21 = .ok (.aload_n 0, 1) := by decide +kernel
theorem dX4_lay_22 : decode cX4_lay 22 = .ok (.getfield 15, 3) := by decide +kernel
theorem dX4_lay_25 : decode cX4_lay 25 = .ok (.aload_n 0, 1) := by decide +kernel
theorem dX4_lay_26 : decode cX4_lay 26 = .ok (.getfield 19, 3) := by decide +kernel
theorem dX4_lay_29 : decode cX4_lay 29 = .ok (.if_icmp .lt 5, 3) := by decide +kernel
theorem dX4_lay_32 : decode cX4_lay 32 = .ok (.iconst 0, 1) := by decide +kernel
theorem dX4_lay_33 : decode cX4_lay 33 = .ok (.ireturn, 1) := by decide +kernel
theorem dX4_lay_34 : decode cX4_lay 34 = .ok (.aload_n 0, 1) := by decide +kernel
theorem dX4_lay_35 : decode cX4_lay 35 = .ok (.getfield 9, 3) := by decide +kernel
theorem dX4_lay_38 : decode cX4_lay 38 = .ok (.iload_n 1, 1) := by decide +kernel
theorem dX4_lay_39 : decode cX4_lay 39 = .ok (.iconst 1, 1) := by decide +kernel
theorem dX4_lay_40 : decode cX4_lay 40 = .ok (.bastore, 1) := by decide +kernel
theorem dX4_lay_41 : decode cX4_lay 41 = .ok (.aload_n 0, 1) := by decide +kernel
theorem dX4_lay_42 : decode cX4_lay 42 = .ok (.dup, 1) := by decide +kernel
theorem dX4_lay_43 : decode cX4_lay 43 = .ok (.getfield 15, 3) := by decide +kernel
theorem dX4_lay_46 : decode cX4_lay 46 = .ok (.iconst 1, 1) := by decide +kernel
theorem dX4_lay_47 : decode cX4_lay 47 = .ok (.iadd, 1) := by decide +kernel
theorem dX4_lay_48 : decode cX4_lay 48 = .ok (.putfield 15, 3) := by decide +kernel
theorem dX4_lay_51 : decode cX4_lay 51 = .ok (.aload_n 0, 1) := by decide +kernel
theorem dX4_lay_52 : decode cX4_lay 52 = .ok (.getfield 22, 3) := by decide +kernel
theorem dX4_lay_55 : decode cX4_lay 55 = .ok (.ifCond .lt 60, 3) := by decide +kernel
theorem dX4_lay_58 : decode cX4_lay 58 = .ok (.aload_n 0, 1) := by decide +kernel
theorem dX4_lay_59 : decode cX4_lay 59 = .ok (.getfield 22, 3) := by decide +kernel
theorem dX4_lay_62 : decode cX4_lay 62 = .ok (.aload_n 0, 1) := by decide +kernel
theorem dX4_lay_63 : decode cX4_lay 63 = .ok (.getfield 9, 3) := by decide +kernel
theorem dX4_lay_66 : decode cX4_lay 66 = .ok (.arraylength, 1) := by decide +kernel
theorem dX4_lay_67 : decode cX4_lay 67 = .ok (.if_icmp .ge 48, 3) := by decide +kernel
theorem dX4_lay_70 : decode cX4_lay 70 = .ok (.aload_n 0, 1) := by decide +kernel
theorem dX4_lay_71 : decode cX4_lay 71 = .ok (.getfield 9, 3) := by decide +kernel
theorem dX4_lay_74 : decode cX4_lay 74 = .ok (.aload_n 0, 1) := by decide +kernel
theorem dX4_lay_75 : decode cX4_lay 75 = .ok (.getfield 22, 3) := by decide +kernel
theorem dX4_lay_78 : decode cX4_lay 78 = .ok (.baload, 1) := by decide +kernel
theorem dX4_lay_79 : decode cX4_lay 79 = .ok (.ifCond .eq 36, 3) := by decide +kernel
theorem dX4_lay_82 : decode cX4_lay 82 = .ok (.aload_n 0, 1) := by decide +kernel
theorem dX4_lay_83 : decode cX4_lay 83 = .ok (.getfield 9, 3) := by decide +kernel
theorem dX4_lay_86 : decode cX4_lay 86 = .ok (.aload_n 0, 1) := by decide +kernel
theorem dX4_lay_87 : decode cX4_lay 87 = .ok (.getfield 22, 3) := by decide +kernel
theorem dX4_lay_90 : decode cX4_lay 90 = .ok (.iconst 0, 1) := by decide +kernel
theorem dX4_lay_91 : decode cX4_lay 91 = .ok (.bastore, 1) := by decide +kernel
theorem dX4_lay_92 : decode cX4_lay 92 = .ok (.aload_n 0, 1) := by decide +kernel
theorem dX4_lay_93 : decode cX4_lay 93 = .ok (.dup, 1) := by decide +kernel
theorem dX4_lay_94 : decode cX4_lay 94 = .ok (.getfield 15, 3) := by decide +kernel
theorem dX4_lay_97 : decode cX4_lay 97 = .ok (.iconst 1, 1) := by decide +kernel
theorem dX4_lay_98 : decode cX4_lay 98 = .ok (.isub, 1) := by decide +kernel
theorem dX4_lay_99 : decode cX4_lay 99 = .ok (.putfield 15, 3) := by decide +kernel
theorem dX4_lay_102 : decode cX4_lay 102 = .ok (.aload_n 0, 1) := by decide +kernel
theorem dX4_lay_103 : decode cX4_lay 103 = .ok (.dup, 1) := by decide +kernel
theorem dX4_lay_104 : decode cX4_lay 104 = .ok (.getfield 22, 3) := by decide +kernel
theorem dX4_lay_107 : decode cX4_lay 107 = .ok (.iconst 1, 1) := by decide +kernel
theorem dX4_lay_108 : decode cX4_lay 108 = .ok (.iadd, 1) := by decide +kernel
theorem dX4_lay_109 : decode cX4_lay 109 = .ok (.putfield 22, 3) := by decide +kernel
theorem dX4_lay_112 : decode cX4_lay 112 = .ok (.goto (-61), 3) := by decide +kernel
theorem dX4_lay_115 : decode cX4_lay 115 = .ok (.iconst 1, 1) := by decide +kernel
theorem dX4_lay_116 : decode cX4_lay 116 = .ok (.ireturn, 1) := by decide +kernel
theorem dX5_init_0 : decode cX5_init 0 = .ok (.aload_n 0, 1) := by decide +kernel
theorem dX5_init_1 : decode cX5_init 1 = .ok (.invokespecial 1, 3) := by decide +kernel
theorem dX5_init_4 : decode cX5_init 4 = .ok (.aload_n 0, 1) := by decide +kernel
theorem dX5_init_5 : decode cX5_init 5 = .ok (.bipush 8, 2) := by decide +kernel
theorem dX5_init_7 : decode cX5_init 7 = .ok (.putfield 7, 3) := by decide +kernel
theorem dX5_init_10 : decode cX5_init 10 = .ok (.aload_n 0, 1) := by decide +kernel
theorem dX5_init_11 : decode cX5_init 11 = .ok (.bipush 16, 2) := by decide +kernel
theorem dX5_init_13 : decode cX5_init 13 = .ok (.putfield 13, 3) := by decide +kernel
theorem dX5_init_16 : decode cX5_init 16 = .ok (.aload_n 0, 1) := by decide +kernel
theorem dX5_init_17 : decode cX5_init 17 = .ok (.bipush 64, 2) := by decide +kernel
theorem dX5_init_19 : decode cX5_init 19 = .ok (.putfield 16, 3) := by decide +kernel
theorem dX5_init_22 : decode cX5_init 22 = .ok (.aload_n 0, 1) := by decide +kernel
theorem dX5_init_23 : decode cX5_init 23 = .ok (.iconst 2, 1) := by decide +kernel
theorem dX5_init_24 : decode cX5_init 24 = .ok (.putfield 19, 3) := by decide +kernel
theorem dX5_init_27 : decode cX5_init 27 = .ok (.return_, 1) := by decide +kernel
theorem dX5_allows_0 : decode cX5_allows 0 = .ok (.iload_n 1, 1) := by decide +kernel
theorem dX5_allows_1 : decode cX5_allows 1 = .ok (.ifCond .lt 41, 3) := by decide +kernel
theorem dX5_allows_4 : decode cX5_allows 4 = .ok (.iload_n 1, 1) := by decide +kernel
theorem dX5_allows_5 : decode cX5_allows 5 = .ok (.getstatic 22, 3) := by decide +kernel
theorem dX5_allows_8 : decode cX5_allows 8 = .ok (.arraylength, 1) := by decide +kernel
theorem dX5_allows_9 : decode cX5_allows 9 = .ok (.if_icmp .ge 33, 3) := by decide +kernel
theorem dX5_allows_12 : decode cX5_allows 12 = .ok (.iload_n 1, 1) := by decide +kernel
theorem dX5_allows_13 : decode cX5_allows 13 = .ok (.getstatic 26, 3) := by decide +kernel
theorem dX5_allows_16 : decode cX5_allows 16 = .ok (.arraylength, 1) := by decide +kernel
theorem dX5_allows_17 : decode cX5_allows 17 = .ok (.if_icmp .ge 25, 3) := by decide +kernel
