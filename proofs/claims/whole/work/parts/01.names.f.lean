theorem dX10_lays_97 : decode cX10_lays 97 = .ok (.iconst 1, 1) := by decide +kernel
theorem dX10_lays_98 : decode cX10_lays 98 = .ok (.isub, 1) := by decide +kernel
theorem dX10_lays_99 : decode cX10_lays 99 = .ok (.putfield 133, 3) := by decide +kernel
theorem dX10_lays_102 : decode cX10_lays 102 = .ok (.aload_n 0, 1) := by decide +kernel
theorem dX10_lays_103 : decode cX10_lays 103 = .ok (.dup, 1) := by decide +kernel
theorem dX10_lays_104 : decode cX10_lays 104 = .ok (.getfield 136, 3) := by decide +kernel
theorem dX10_lays_107 : decode cX10_lays 107 = .ok (.iconst 1, 1) := by decide +kernel
theorem dX10_lays_108 : decode cX10_lays 108 = .ok (.iadd, 1) := by decide +kernel
theorem dX10_lays_109 : decode cX10_lays 109 = .ok (.putfield 136, 3) := by decide +kernel
theorem dX10_lays_112 : decode cX10_lays 112 = .ok (.goto (-53), 3) := by decide +kernel
theorem dX10_lays_115 : decode cX10_lays 115 = .ok (.iconst 1, 1) := by decide +kernel
theorem dX10_lays_116 : decode cX10_lays 116 = .ok (.ireturn, 1) := by decide +kernel
set_option maxRecDepth 20000 in
theorem ggX10_act_X10_free : GoodIn wsX10_act wsX10_free := goodIn_r _ [8, 9, 10, 11, 12, 13, 14, 15, 16, 17, 7, 18, 19, 20, 21, 22, 23, 2, 24, 25, 26, 27, 28, 29, 30, 31, 32, 33, 34, 35, 36, 37, 38, 39, 40, 41, 42, 43, 44, 45, 46, 47, 48, 49, 76, 77, 78, 79, 80, 81, 82, 83, 84, 85, 86, 87, 88, 89, 90, 91, 92, 93, 94, 95, 96, 97, 98, 99, 100, 101, 102, 103, 104, 105, 106, 107, 108, 109, 110, 111, 112, 113] (by decide +kernel) (by decide +kernel)
set_option maxRecDepth 20000 in
theorem gX10_act_X10_free : GoodIn wsX10_act (wsV RX10 183 RX10 yX10_free wsX10_free) := goodIn_app (goodIn_of _ (by decide +kernel)) ggX10_act_X10_free
set_option maxRecDepth 20000 in
theorem ggX10_act_X10_work : GoodIn wsX10_act wsX10_work := goodIn_r _ [53, 24, 54, 55, 49, 31, 56, 57, 2, 58, 19, 13, 12, 59, 60, 39, 40, 41, 7, 42, 43, 44, 15, 16, 17, 18, 20, 21, 22, 23, 25, 61, 62, 63, 64, 37, 36, 38, 65, 66, 67, 68, 45, 46, 47, 48, 69, 70, 71, 72, 10, 73, 74, 75, 11, 76, 77, 78, 79, 80, 81, 82, 83, 84, 85, 86, 87, 88, 89, 90, 91, 92, 93, 94, 95, 96, 97, 98, 99, 100, 101, 102, 103, 104, 105, 106, 107, 108, 109, 110, 111, 112, 113] (by decide +kernel) (by decide +kernel)
set_option maxRecDepth 20000 in
theorem gX10_act_X10_work : GoodIn wsX10_act (wsV RX10 186 RX10 yX10_work wsX10_work) := goodIn_app (goodIn_of _ (by decide +kernel)) ggX10_act_X10_work
set_option maxRecDepth 20000 in
theorem ggX10_act_X10_isStopped : GoodIn wsX10_act wsX10_isStopped := goodIn_r _ [18, 19, 76, 77, 78, 79, 80, 81, 82, 83, 84, 85, 86, 87, 88, 89, 90, 91, 92, 93, 94, 95, 96, 97, 98, 99, 100, 101, 102, 103, 104, 105, 106, 107, 108, 109, 110, 111, 112, 113] (by decide +kernel) (by decide +kernel)
set_option maxRecDepth 20000 in
theorem gX10_act_X10_isStopped : GoodIn wsX10_act (wsV RX10 163 RX10 yX10_isStopped wsX10_isStopped) := goodIn_app (goodIn_of _ (by decide +kernel)) ggX10_act_X10_isStopped
set_option maxRecDepth 20000 in
theorem ggX10_act_X10_leaves : GoodIn wsX10_act wsX10_leaves := goodIn_r _ [68, 36, 38, 76, 77, 78, 79, 80, 81, 82, 83, 84, 85, 86, 87, 88, 89, 90, 91, 92, 93, 94, 95, 96, 97, 98, 99, 100, 101, 102, 103, 104, 105, 106, 107, 108, 109, 110, 111, 112, 113] (by decide +kernel) (by decide +kernel)
set_option maxRecDepth 20000 in
theorem gX10_act_X10_leaves : GoodIn wsX10_act (wsV RX10 160 RX10 yX10_leaves wsX10_leaves) := goodIn_app (goodIn_of _ (by decide +kernel)) ggX10_act_X10_leaves
set_option maxRecDepth 20000 in
theorem ggX10_act_X10_ends : GoodIn wsX10_act wsX10_ends := goodIn_r _ [23, 2, 24, 25, 76, 77, 78, 79, 80, 81, 82, 83, 84, 85, 86, 87, 88, 89, 90, 91, 92, 93, 94, 95, 96, 97, 98, 99, 100, 101, 102, 103, 104, 105, 106, 107, 108, 109, 110, 111, 112, 113] (by decide +kernel) (by decide +kernel)
set_option maxRecDepth 20000 in
theorem gX10_act_X10_ends : GoodIn wsX10_act (wsV RX10 167 RX10 yX10_ends wsX10_ends) := goodIn_app (goodIn_of _ (by decide +kernel)) ggX10_act_X10_ends
set_option maxRecDepth 20000 in
theorem ggX10_act_X10_lays : GoodIn wsX10_act wsX10_lays := goodIn_r _ [72, 24, 10, 73, 74, 75, 2, 11, 76, 77, 78, 79, 80, 81, 82, 83, 84, 85, 86, 87, 88, 89, 90, 91, 92, 93, 94, 95, 96, 97, 98, 99, 100, 101, 102, 103, 104, 105, 106, 107, 108, 109, 110, 111, 112, 113] (by decide +kernel) (by decide +kernel)
set_option maxRecDepth 20000 in
theorem gX10_act_X10_lays : GoodIn wsX10_act (wsV RX10 180 RX10 yX10_lays wsX10_lays) := goodIn_app (goodIn_of _ (by decide +kernel)) ggX10_act_X10_lays
theorem dX10_act_0 : decode cX10_act 0 = .ok (.aload_n 0, 1) := by decide +kernel
theorem dX10_act_1 : decode cX10_act 1 = .ok (.iload_n 1, 1) := by decide +kernel
theorem dX10_act_2 : decode cX10_act 2 = .ok (.putfield 124, 3) := by decide +kernel
theorem dX10_act_5 : decode cX10_act 5 = .ok (.iconst 0, 1) := by decide +kernel
theorem dX10_act_6 : decode cX10_act 6 = .ok (.istore_n 2, 1) := by decide +kernel
theorem dX10_act_7 : decode cX10_act 7 = .ok (.aload_n 0, 1) := by decide +kernel
theorem dX10_act_8 : decode cX10_act 8 = .ok (.getfield 45, 3) := by decide +kernel
theorem dX10_act_11 : decode cX10_act 11 = .ok (.iload_n 1, 1) := by decide +kernel
theorem dX10_act_12 : decode cX10_act 12 = .ok (.iaload, 1) := by decide +kernel
theorem dX10_act_13 : decode cX10_act 13 = .ok (.ifCond .ne 12, 3) := by decide +kernel
theorem dX10_act_16 : decode cX10_act 16 = .ok (.aload_n 0, 1) := by decide +kernel
theorem dX10_act_17 : decode cX10_act 17 = .ok (.iload_n 1, 1) := by decide +kernel
theorem dX10_act_18 : decode cX10_act 18 = .ok (.invokevirtual 183, 3) := by decide +kernel
theorem dX10_act_21 : decode cX10_act 21 = .ok (.istore_n 2, 1) := by decide +kernel
theorem dX10_act_22 : decode cX10_act 22 = .ok (.goto 70, 3) := by decide +kernel
theorem dX10_act_25 : decode cX10_act 25 = .ok (.aload_n 0, 1) := by decide +kernel
theorem dX10_act_26 : decode cX10_act 26 = .ok (.getfield 45, 3) := by decide +kernel
theorem dX10_act_29 : decode cX10_act 29 = .ok (.iload_n 1, 1) := by decide +kernel
theorem dX10_act_30 : decode cX10_act 30 = .ok (.iaload, 1) := by decide +kernel
theorem dX10_act_31 : decode cX10_act 31 = .ok (.iconst 2, 1) := by decide +kernel
theorem dX10_act_32 : decode cX10_act 32 = .ok (.if_icmp .ne 12, 3) := by decide +kernel
theorem dX10_act_35 : decode cX10_act 35 = .ok (.aload_n 0, 1) := by decide +kernel
theorem dX10_act_36 : decode cX10_act 36 = .ok (.iload_n 1, 1) := by decide +kernel
theorem dX10_act_37 : decode cX10_act 37 = .ok (.invokevirtual 186, 3) := by decide +kernel
theorem dX10_act_40 : decode cX10_act 40 = .ok (.istore_n 2, 1) := by decide +kernel
theorem dX10_act_41 : decode cX10_act 41 = .ok (.goto 51, 3) := by decide +kernel
theorem dX10_act_44 : decode cX10_act 44 = .ok (.aload_n 0, 1) := by decide +kernel
theorem dX10_act_45 : decode cX10_act 45 = .ok (.getfield 45, 3) := by decide +kernel
theorem dX10_act_48 : decode cX10_act 48 = .ok (.iload_n 1, 1) := by decide +kernel
theorem dX10_act_49 : decode cX10_act 49 = .ok (.iaload, 1) := by decide +kernel
theorem dX10_act_50 : decode cX10_act 50 = .ok (.iconst 4, 1) := by decide +kernel
theorem dX10_act_51 : decode cX10_act 51 = .ok (.if_icmp .eq 25, 3) := by decide +kernel
theorem dX10_act_54 : decode cX10_act 54 = .ok (.aload_n 0, 1) := by decide +kernel
theorem dX10_act_55 : decode cX10_act 55 = .ok (.invokevirtual 163, 3) := by decide +kernel
theorem dX10_act_58 : decode cX10_act 58 = .ok (.ifCond .eq 18, 3) := by decide +kernel
theorem dX10_act_61 : decode cX10_act 61 = .ok (.aload_n 0, 1) := by decide +kernel
theorem dX10_act_62 : decode cX10_act 62 = .ok (.iload_n 1, 1) := by decide +kernel
theorem dX10_act_63 : decode cX10_act 63 = .ok (.invokevirtual 160, 3) := by decide +kernel
theorem dX10_act_66 : decode cX10_act 66 = .ok (.aload_n 0, 1) := by decide +kernel
theorem dX10_act_67 : decode cX10_act 67 = .ok (.iload_n 1, 1) := by decide +kernel
theorem dX10_act_68 : decode cX10_act 68 = .ok (.invokevirtual 167, 3) := by decide +kernel
theorem dX10_act_71 : decode cX10_act 71 = .ok (.iconst 1, 1) := by decide +kernel
theorem dX10_act_72 : decode cX10_act 72 = .ok (.istore_n 2, 1) := by decide +kernel
theorem dX10_act_73 : decode cX10_act 73 = .ok (.goto 19, 3) := by decide +kernel
theorem dX10_act_76 : decode cX10_act 76 = .ok (.aload_n 0, 1) := by decide +kernel
theorem dX10_act_77 : decode cX10_act 77 = .ok (.getfield 45, 3) := by decide +kernel
theorem dX10_act_80 : decode cX10_act 80 = .ok (.iload_n 1, 1) := by decide +kernel
theorem dX10_act_81 : decode cX10_act 81 = .ok (.iaload, 1) := by decide +kernel
theorem dX10_act_82 : decode cX10_act 82 = .ok (.iconst 3, 1) := by decide +kernel
theorem dX10_act_83 : decode cX10_act 83 = .ok (.if_icmp .ne 9, 3) := by decide +kernel
theorem dX10_act_86 : decode cX10_act 86 = .ok (.aload_n 0, 1) := by decide +kernel
theorem dX10_act_87 : decode cX10_act 87 = .ok (.iload_n 1, 1) := by decide +kernel
theorem dX10_act_88 : decode cX10_act 88 = .ok (.invokevirtual 180, 3) := by decide +kernel
theorem dX10_act_91 : decode cX10_act 91 = .ok (.istore_n 2, 1) := by decide +kernel
theorem dX10_act_92 : decode cX10_act 92 = .ok (.aload_n 0, 1) := by decide +kernel
theorem dX10_act_93 : decode cX10_act 93 = .ok (.dup, 1) := by decide +kernel
theorem dX10_act_94 : decode cX10_act 94 = .ok (.getfield 154, 3) := by decide +kernel
theorem dX10_act_97 : decode cX10_act 97 = .ok (.iload_n 2, 1) := by decide +kernel
theorem dX10_act_98 : decode cX10_act 98 = .ok (.iadd, 1) := by decide +kernel
theorem dX10_act_99 : decode cX10_act 99 = .ok (.putfield 154, 3) := by decide +kernel
theorem dX10_act_102 : decode cX10_act 102 = .ok (.iload_n 2, 1) := by decide +kernel
theorem dX10_act_103 : decode cX10_act 103 = .ok (.ireturn, 1) := by decide +kernel
set_option maxRecDepth 20000 in
theorem ggX10_isThread_X10_in : GoodIn wsX10_isThread wsX10_in := goodIn_r _ [6] (by decide +kernel) (by decide +kernel)
set_option maxRecDepth 20000 in
theorem gX10_isThread_X10_in : GoodIn wsX10_isThread (va_wsS RX10 78 yX10_in wsX10_in) := goodIn_app (goodIn_of _ (by decide +kernel)) ggX10_isThread_X10_in
theorem dX10_isThread_0 : decode cX10_isThread 0 = .ok (.iload_n 1, 1) := by decide +kernel
theorem dX10_isThread_1 : decode cX10_isThread 1 = .ok (.iconst 0, 1) := by decide +kernel
theorem dX10_isThread_2 : decode cX10_isThread 2 = .ok (.aload_n 0, 1) := by decide +kernel
theorem dX10_isThread_3 : decode cX10_isThread 3 = .ok (.getfield 82, 3) := by decide +kernel
theorem dX10_isThread_6 : decode cX10_isThread 6 = .ok (.ifCond .eq 12, 3) := by decide +kernel
theorem dX10_isThread_9 : decode cX10_isThread 9 = .ok (.aload_n 0, 1) := by decide +kernel
theorem dX10_isThread_10 : decode cX10_isThread 10 = .ok (.getfield 118, 3) := by decide +kernel
theorem dX10_isThread_13 : decode cX10_isThread 13 = .ok (.iconst 1, 1) := by decide +kernel
theorem dX10_isThread_14 : decode cX10_isThread 14 = .ok (.isub, 1) := by decide +kernel
theorem dX10_isThread_15 : decode cX10_isThread 15 = .ok (.goto 4, 3) := by decide +kernel
theorem dX10_isThread_18 : decode cX10_isThread 18 = .ok (.iconst 5, 1) := by decide +kernel
theorem dX10_isThread_19 : decode cX10_isThread 19 = .ok (.invokestatic 78, 3) := by decide +kernel
theorem dX10_isThread_22 : decode cX10_isThread 22 = .ok (.ireturn, 1) := by decide +kernel
set_option maxRecDepth 20000 in
theorem ggX10_turn_X10_isThread : GoodIn wsX10_turn wsX10_isThread := goodIn_r _ [6, 1, 7, 8, 9, 5, 10, 88, 89, 90, 91, 92, 93, 94, 95, 96, 97, 98, 99, 100, 101, 102, 103, 104, 105, 106, 107, 108, 109, 110, 111, 112, 113, 114, 115, 116, 117, 118, 119, 120, 121, 122, 123, 124, 125] (by decide +kernel) (by decide +kernel)
set_option maxRecDepth 20000 in
theorem gX10_turn_X10_isThread : GoodIn wsX10_turn (wsV RX10 189 RX10 yX10_isThread wsX10_isThread) := goodIn_app (goodIn_of _ (by decide +kernel)) ggX10_turn_X10_isThread
set_option maxRecDepth 20000 in
theorem ggX10_turn_X10_act : GoodIn wsX10_turn wsX10_act := goodIn_r _ [14, 15, 16, 17, 18, 19, 20, 5, 21, 22, 23, 24, 25, 26, 27, 28, 29, 30, 31, 32, 33, 34, 35, 36, 37, 38, 39, 40, 41, 42, 7, 43, 44, 45, 46, 47, 48, 49, 50, 51, 52, 53, 54, 55, 56, 57, 58, 59, 60, 61, 62, 63, 64, 65, 66, 67, 68, 69, 70, 71, 72, 73, 74, 75, 76, 77, 78, 79, 80, 81, 82, 83, 84, 85, 86, 87, 88, 89, 90, 91, 92, 93, 94, 95, 96, 97, 98, 99, 100, 101, 102, 103, 104, 105, 106, 107, 108, 109, 110, 111, 112, 113, 114, 115, 116, 117, 118, 119, 120, 121, 122, 123, 124, 125] (by decide +kernel) (by decide +kernel)
set_option maxRecDepth 20000 in
theorem gX10_turn_X10_act : GoodIn wsX10_turn (wsV RX10 193 RX10 yX10_act wsX10_act) := goodIn_app (goodIn_of _ (by decide +kernel)) ggX10_turn_X10_act
theorem dX10_turn_0 : decode cX10_turn 0 = .ok (.aload_n 0, 1) := by decide +kernel
theorem dX10_turn_1 : decode cX10_turn 1 = .ok (.iload_n 1, 1) := by decide +kernel
theorem dX10_turn_2 : decode cX10_turn 2 = .ok (.invokevirtual 189, 3) := by decide +kernel
theorem dX10_turn_5 : decode cX10_turn 5 = .ok (.ifCond .ne 8, 3) := by decide +kernel
theorem dX10_turn_8 : decode cX10_turn 8 = .ok (.bipush (-2), 2) := by decide +kernel
theorem dX10_turn_10 : decode cX10_turn 10 = .ok (.goto 20, 3) := by decide +kernel
theorem dX10_turn_13 : decode cX10_turn 13 = .ok (.aload_n 0, 1) := by decide +kernel
theorem dX10_turn_14 : decode cX10_turn 14 = .ok (.getfield 82, 3) := by decide +kernel
theorem dX10_turn_17 : decode cX10_turn 17 = .ok (.ifCond .ne 8, 3) := by decide +kernel
theorem dX10_turn_20 : decode cX10_turn 20 = .ok (.bipush (-3), 2) := by decide +kernel
theorem dX10_turn_22 : decode cX10_turn 22 = .ok (.goto 8, 3) := by decide +kernel
theorem dX10_turn_25 : decode cX10_turn 25 = .ok (.aload_n 0, 1) := by decide +kernel
theorem dX10_turn_26 : decode cX10_turn 26 = .ok (.iload_n 1, 1) := by decide +kernel
theorem dX10_turn_27 : decode cX10_turn 27 = .ok (.invokevirtual 193, 3) := by decide +kernel
theorem dX10_turn_30 : decode cX10_turn 30 = .ok (.ireturn, 1) := by decide +kernel
theorem dX10_isOver_0 : decode cX10_isOver 0 = .ok (.iconst 1, 1) := by decide +kernel
theorem dX10_isOver_1 : decode cX10_isOver 1 = .ok (.istore_n 1, 1) := by decide +kernel
theorem dX10_isOver_2 : decode cX10_isOver 2 = .ok (.iconst 0, 1) := by decide +kernel
theorem dX10_isOver_3 : decode cX10_isOver 3 = .ok (.istore_n 2, 1) := by decide +kernel
theorem dX10_isOver_4 : decode cX10_isOver 4 = .ok (.iload_n 2, 1) := by decide +kernel
theorem dX10_isOver_5 : decode cX10_isOver 5 = .ok (.aload_n 0, 1) := by decide +kernel
theorem dX10_isOver_6 : decode cX10_isOver 6 = .ok (.getfield 118, 3) := by decide +kernel
theorem dX10_isOver_9 : decode cX10_isOver 9 = .ok (.if_icmp .ge 29, 3) := by decide +kernel
theorem dX10_isOver_12 : decode cX10_isOver 12 = .ok (.iload_n 1, 1) := by decide +kernel
theorem dX10_isOver_13 : decode cX10_isOver 13 = .ok (.ifCond .eq 17, 3) := by decide +kernel
theorem dX10_isOver_16 : decode cX10_isOver 16 = .ok (.aload_n 0, 1) := by decide +kernel
theorem dX10_isOver_17 : decode cX10_isOver 17 = .ok (.getfield 45, 3) := by decide +kernel
theorem dX10_isOver_20 : decode cX10_isOver 20 = .ok (.iload_n 2, 1) := by decide +kernel
theorem dX10_isOver_21 : decode cX10_isOver 21 = .ok (.iaload, 1) := by decide +kernel
theorem dX10_isOver_22 : decode cX10_isOver 22 = .ok (.iconst 4, 1) := by decide +kernel
theorem dX10_isOver_23 : decode cX10_isOver 23 = .ok (.if_icmp .ne 7, 3) := by decide +kernel
theorem dX10_isOver_26 : decode cX10_isOver 26 = .ok (.iconst 1, 1) := by decide +kernel
theorem dX10_isOver_27 : decode cX10_isOver 27 = .ok (.goto 4, 3) := by decide +kernel
theorem dX10_isOver_30 : decode cX10_isOver 30 = .ok (.iconst 0, 1) := by decide +kernel
theorem dX10_isOver_31 : decode cX10_isOver 31 = .ok (.istore_n 1, 1) := by decide +kernel
theorem dX10_isOver_32 : decode cX10_isOver 32 = .ok (.iinc 2 1, 3) := by decide +kernel
theorem dX10_isOver_35 : decode cX10_isOver 35 = .ok (.goto (-31), 3) := by decide +kernel
theorem dX10_isOver_38 : decode cX10_isOver 38 = .ok (.iload_n 1, 1) := by decide +kernel
theorem dX10_isOver_39 : decode cX10_isOver 39 = .ok (.ireturn, 1) := by decide +kernel
set_option maxRecDepth 20000 in
theorem ggX10_run_X10_in : GoodIn wsX10_run wsX10_in := goodIn_r _ [7] (by decide +kernel) (by decide +kernel)
set_option maxRecDepth 20000 in
theorem gX10_run_X10_in : GoodIn wsX10_run (va_wsS RX10 78 yX10_in wsX10_in) := goodIn_app (goodIn_of _ (by decide +kernel)) ggX10_run_X10_in
set_option maxRecDepth 20000 in
theorem ggX10_run_X10_isOver : GoodIn wsX10_run wsX10_isOver := goodIn_r _ [11, 3, 12, 88, 89, 90, 91, 92, 93, 94, 95, 96, 97, 98, 99, 100, 101, 102, 103, 104, 105, 106, 107, 108, 109, 110, 111, 112, 113, 114, 115, 116, 117, 118, 119, 120, 121, 122, 123, 124, 125] (by decide +kernel) (by decide +kernel)
set_option maxRecDepth 20000 in
theorem gX10_run_X10_isOver : GoodIn wsX10_run (wsV RX10 196 RX10 yX10_isOver wsX10_isOver) := goodIn_app (goodIn_of _ (by decide +kernel)) ggX10_run_X10_isOver
set_option maxRecDepth 20000 in
theorem ggX10_run_X10_act : GoodIn wsX10_run wsX10_act := goodIn_r _ [16, 2, 12, 17, 18, 19, 20, 6, 21, 22, 23, 24, 25, 26, 27, 28, 29, 30, 31, 32, 33, 34, 35, 36, 37, 38, 39, 40, 41, 42, 3, 43, 44, 45, 46, 47, 48, 49, 50, 51, 52, 53, 54, 55, 56, 57, 58, 59, 60, 61, 62, 63, 64, 65, 66, 67, 68, 69, 70, 71, 72, 73, 74, 75, 76, 77, 78, 79, 80, 81, 82, 83, 84, 85, 86, 87, 88, 89, 90, 91, 92, 93, 94, 95, 96, 97, 98, 99, 100, 101, 102, 103, 104, 105, 106, 107, 108, 109, 110, 111, 112, 113, 114, 115, 116, 117, 118, 119, 120, 121, 122, 123, 124, 125] (by decide +kernel) (by decide +kernel)
set_option maxRecDepth 20000 in
theorem gX10_run_X10_act : GoodIn wsX10_run (wsV RX10 193 RX10 yX10_act wsX10_act) := goodIn_app (goodIn_of _ (by decide +kernel)) ggX10_run_X10_act
theorem dX10_run_0 : decode cX10_run 0 = .ok (.iload_n 1, 1) := by decide +kernel
theorem dX10_run_1 : decode cX10_run 1 = .ok (.iconst 0, 1) := by decide +kernel
theorem dX10_run_2 : decode cX10_run 2 = .ok (.sipush 400, 3) := by decide +kernel
theorem dX10_run_5 : decode cX10_run 5 = .ok (.invokestatic 78, 3) := by decide +kernel
theorem dX10_run_8 : decode cX10_run 8 = .ok (.ifCond .ne 6, 3) := by decide +kernel
theorem dX10_run_11 : decode cX10_run 11 = .ok (.bipush (-2), 2) := by decide +kernel
theorem dX10_run_13 : decode cX10_run 13 = .ok (.ireturn, 1) := by decide +kernel
theorem dX10_run_14 : decode cX10_run 14 = .ok (.aload_n 0, 1) := by decide +kernel
theorem dX10_run_15 : decode cX10_run 15 = .ok (.getfield 82, 3) := by decide +kernel
theorem dX10_run_18 : decode cX10_run 18 = .ok (.ifCond .ne 6, 3) := by decide +kernel
theorem dX10_run_21 : decode cX10_run 21 = .ok (.bipush (-3), 2) := by decide +kernel
theorem dX10_run_23 : decode cX10_run 23 = .ok (.ireturn, 1) := by decide +kernel
theorem dX10_run_24 : decode cX10_run 24 = .ok (.iconst 0, 1) := by decide +kernel
theorem dX10_run_25 : decode cX10_run 25 = .ok (.istore_n 2, 1) := by decide +kernel
theorem dX10_run_26 : decode cX10_run 26 = .ok (.iconst 0, 1) := by decide +kernel
theorem dX10_run_27 : decode cX10_run 27 = .ok (.istore_n 3, 1) := by decide +kernel
theorem dX10_run_28 : decode cX10_run 28 = .ok (.iload_n 3, 1) := by decide +kernel
theorem dX10_run_29 : decode cX10_run 29 = .ok (.iload_n 1, 1) := by decide +kernel
theorem dX10_run_30 : decode cX10_run 30 = .ok (.if_icmp .ge 34, 3) := by decide +kernel
theorem dX10_run_33 : decode cX10_run 33 = .ok (.aload_n 0, 1) := by decide +kernel
theorem dX10_run_34 : decode cX10_run 34 = .ok (.invokevirtual 196, 3) := by decide +kernel
theorem dX10_run_37 : decode cX10_run 37 = .ok (.ifCond .ne 27, 3) := by decide +kernel
theorem dX10_run_40 : decode cX10_run 40 = .ok (.iload_n 2, 1) := by decide +kernel
theorem dX10_run_41 : decode cX10_run 41 = .ok (.aload_n 0, 1) := by decide +kernel
theorem dX10_run_42 : decode cX10_run 42 = .ok (.aload_n 0, 1) := by decide +kernel
theorem dX10_run_43 : decode cX10_run 43 = .ok (.getfield 124, 3) := by decide +kernel
theorem dX10_run_46 : decode cX10_run 46 = .ok (.iconst 1, 1) := by decide +kernel
theorem dX10_run_47 : decode cX10_run 47 = .ok (.iadd, 1) := by decide +kernel
theorem dX10_run_48 : decode cX10_run 48 = .ok (.aload_n 0, 1) := by decide +kernel
theorem dX10_run_49 : decode cX10_run 49 = .ok (.getfield 118, 3) := by decide +kernel
theorem dX10_run_52 : decode cX10_run 52 = .ok (.irem, 1) := by decide +kernel
theorem dX10_run_53 : decode cX10_run 53 = .ok (.invokevirtual 193, 3) := by decide +kernel
theorem dX10_run_56 : decode cX10_run 56 = .ok (.iadd, 1) := by decide +kernel
theorem dX10_run_57 : decode cX10_run 57 = .ok (.istore_n 2, 1) := by decide +kernel
theorem dX10_run_58 : decode cX10_run 58 = .ok (.iinc 3 1, 3) := by decide +kernel
theorem dX10_run_61 : decode cX10_run 61 = .ok (.goto (-33), 3) := by decide +kernel
theorem dX10_run_64 : decode cX10_run 64 = .ok (.iload_n 2, 1) := by decide +kernel
theorem dX10_run_65 : decode cX10_run 65 = .ok (.ireturn, 1) := by decide +kernel
set_option maxRecDepth 20000 in
theorem ggX10_interrupt_X10_isThread : GoodIn wsX10_interrupt wsX10_isThread := goodIn_r _ [8, 1, 9, 10, 11, 7, 12, 13, 14, 15, 16, 17, 18, 19, 20, 21, 22, 23, 24, 25, 26, 27, 28, 29, 30, 31, 32, 33, 34, 35, 36, 37, 38, 39, 40, 41, 42, 43, 44, 45, 46, 47, 48, 49, 50] (by decide +kernel) (by decide +kernel)
set_option maxRecDepth 20000 in
theorem gX10_interrupt_X10_isThread : GoodIn wsX10_interrupt (wsV RX10 189 RX10 yX10_isThread wsX10_isThread) := goodIn_app (goodIn_of _ (by decide +kernel)) ggX10_interrupt_X10_isThread
theorem dX10_interrupt_0 : decode cX10_interrupt 0 = .ok (.aload_n 0, 1) := by decide +kernel
theorem dX10_interrupt_1 : decode cX10_interrupt 1 = .ok (.iload_n 1, 1) := by decide +kernel
theorem dX10_interrupt_2 : decode cX10_interrupt 2 = .ok (.invokevirtual 189, 3) := by decide +kernel
theorem dX10_interrupt_5 : decode cX10_interrupt 5 = .ok (.ifCond .ne 6, 3) := by decide +kernel
theorem dX10_interrupt_8 : decode cX10_interrupt 8 = .ok (.bipush (-2), 2) := by decide +kernel
theorem dX10_interrupt_10 : decode cX10_interrupt 10 = .ok (.ireturn, 1) := by decide +kernel
theorem dX10_interrupt_11 : decode cX10_interrupt 11 = .ok (.aload_n 0, 1) := by decide +kernel
theorem dX10_interrupt_12 : decode cX10_interrupt 12 = .ok (.getfield 82, 3) := by decide +kernel
theorem dX10_interrupt_15 : decode cX10_interrupt 15 = .ok (.ifCond .ne 6, 3) := by decide +kernel
theorem dX10_interrupt_18 : decode cX10_interrupt 18 = .ok (.bipush (-3), 2) := by decide +kernel
theorem dX10_interrupt_20 : decode cX10_interrupt 20 = .ok (.ireturn, 1) := by decide +kernel
theorem dX10_interrupt_21 : decode cX10_interrupt 21 = .ok (.aload_n 0, 1) := by decide +kernel
theorem dX10_interrupt_22 : decode cX10_interrupt 22 = .ok (.getfield 60, 3) := by decide +kernel
theorem dX10_interrupt_25 : decode cX10_interrupt 25 = .ok (.iload_n 1, 1) := by decide +kernel
theorem dX10_interrupt_26 : decode cX10_interrupt 26 = .ok (.baload, 1) := by decide +kernel
theorem dX10_interrupt_27 : decode cX10_interrupt 27 = .ok (.ifCond .ne 13, 3) := by decide +kernel
theorem dX10_interrupt_30 : decode cX10_interrupt 30 = .ok (.aload_n 0, 1) := by decide +kernel
theorem dX10_interrupt_31 : decode cX10_interrupt 31 = .ok (.getfield 45, 3) := by decide +kernel
theorem dX10_interrupt_34 : decode cX10_interrupt 34 = .ok (.iload_n 1, 1) := by decide +kernel
theorem dX10_interrupt_35 : decode cX10_interrupt 35 = .ok (.iaload, 1) := by decide +kernel
theorem dX10_interrupt_36 : decode cX10_interrupt 36 = .ok (.iconst 4, 1) := by decide +kernel
theorem dX10_interrupt_37 : decode cX10_interrupt 37 = .ok (.if_icmp .ne 5, 3) := by decide +kernel
theorem dX10_interrupt_40 : decode cX10_interrupt 40 = .ok (.iconst 0, 1) := by decide +kernel
theorem dX10_interrupt_41 : decode cX10_interrupt 41 = .ok (.ireturn, 1) := by decide +kernel
theorem dX10_interrupt_42 : decode cX10_interrupt 42 = .ok (.aload_n 0, 1) := by decide +kernel
theorem dX10_interrupt_43 : decode cX10_interrupt 43 = .ok (.getfield 60, 3) := by decide +kernel
theorem dX10_interrupt_46 : decode cX10_interrupt 46 = .ok (.iload_n 1, 1) := by decide +kernel
theorem dX10_interrupt_47 : decode cX10_interrupt 47 = .ok (.iconst 1, 1) := by decide +kernel
theorem dX10_interrupt_48 : decode cX10_interrupt 48 = .ok (.bastore, 1) := by decide +kernel
theorem dX10_interrupt_49 : decode cX10_interrupt 49 = .ok (.iconst 1, 1) := by decide +kernel
theorem dX10_interrupt_50 : decode cX10_interrupt 50 = .ok (.ireturn, 1) := by decide +kernel
set_option maxRecDepth 20000 in
theorem ggX10_thread_X10_isThread : GoodIn wsX10_thread wsX10_isThread := goodIn_r _ [11, 1, 12, 13, 14, 10, 15, 16, 17, 18, 19, 20, 21, 22, 23, 24, 25, 26, 27, 28, 29, 30, 31, 32, 33, 34, 35, 36, 37, 38, 39, 40, 41, 42, 43, 44, 45, 46, 47, 48, 49, 50, 51, 52, 53] (by decide +kernel) (by decide +kernel)
set_option maxRecDepth 20000 in
theorem gX10_thread_X10_isThread : GoodIn wsX10_thread (wsV RX10 189 RX10 yX10_isThread wsX10_isThread) := goodIn_app (goodIn_of _ (by decide +kernel)) ggX10_thread_X10_isThread
set_option maxRecDepth 20000 in
theorem ggX10_thread_X10_in : GoodIn wsX10_thread wsX10_in := goodIn_r _ [15] (by decide +kernel) (by decide +kernel)
set_option maxRecDepth 20000 in
theorem gX10_thread_X10_in : GoodIn wsX10_thread (va_wsS RX10 78 yX10_in wsX10_in) := goodIn_app (goodIn_of _ (by decide +kernel)) ggX10_thread_X10_in
theorem dX10_thread_0 : decode cX10_thread 0 = .ok (.aload_n 0, 1) := by decide +kernel
theorem dX10_thread_1 : decode cX10_thread 1 = .ok (.iload_n 1, 1) := by decide +kernel
theorem dX10_thread_2 : decode cX10_thread 2 = .ok (.invokevirtual 189, 3) := by decide +kernel
theorem dX10_thread_5 : decode cX10_thread 5 = .ok (.ifCond .eq 12, 3) := by decide +kernel
theorem dX10_thread_8 : decode cX10_thread 8 = .ok (.iload_n 2, 1) := by decide +kernel
theorem dX10_thread_9 : decode cX10_thread 9 = .ok (.iconst 0, 1) := by decide +kernel
theorem dX10_thread_10 : decode cX10_thread 10 = .ok (.iconst 4, 1) := by decide +kernel
theorem dX10_thread_11 : decode cX10_thread 11 = .ok (.invokestatic 78, 3) := by decide +kernel
theorem dX10_thread_14 : decode cX10_thread 14 = .ok (.ifCond .ne 6, 3) := by decide +kernel
theorem dX10_thread_17 : decode cX10_thread 17 = .ok (.bipush (-2), 2) := by decide +kernel
theorem dX10_thread_19 : decode cX10_thread 19 = .ok (.ireturn, 1) := by decide +kernel
theorem dX10_thread_20 : decode cX10_thread 20 = .ok (.aload_n 0, 1) := by decide +kernel
theorem dX10_thread_21 : decode cX10_thread 21 = .ok (.getfield 82, 3) := by decide +kernel
theorem dX10_thread_24 : decode cX10_thread 24 = .ok (.ifCond .ne 6, 3) := by decide +kernel
theorem dX10_thread_27 : decode cX10_thread 27 = .ok (.bipush (-3), 2) := by decide +kernel
theorem dX10_thread_29 : decode cX10_thread 29 = .ok (.ireturn, 1) := by decide +kernel
theorem dX10_thread_30 : decode cX10_thread 30 = .ok (.iload_n 2, 1) := by decide +kernel
theorem dX10_thread_31 : decode cX10_thread 31 = .ok (.tableswitch 71 0 3 #[29, 36, 43, 64], 29) := by decide +kernel
theorem dX10_thread_60 : decode cX10_thread 60 = .ok (.aload_n 0, 1) := by decide +kernel
theorem dX10_thread_61 : decode cX10_thread 61 = .ok (.getfield 45, 3) := by decide +kernel
theorem dX10_thread_64 : decode cX10_thread 64 = .ok (.iload_n 1, 1) := by decide +kernel
theorem dX10_thread_65 : decode cX10_thread 65 = .ok (.iaload, 1) := by decide +kernel
theorem dX10_thread_66 : decode cX10_thread 66 = .ok (.ireturn, 1) := by decide +kernel
theorem dX10_thread_67 : decode cX10_thread 67 = .ok (.aload_n 0, 1) := by decide +kernel
theorem dX10_thread_68 : decode cX10_thread 68 = .ok (.getfield 48, 3) := by decide +kernel
theorem dX10_thread_71 : decode cX10_thread 71 = .ok (.iload_n 1, 1) := by decide +kernel
theorem dX10_thread_72 : decode cX10_thread 72 = .ok (.iaload, 1) := by decide +kernel
theorem dX10_thread_73 : decode cX10_thread 73 = .ok (.ireturn, 1) := by decide +kernel
theorem dX10_thread_74 : decode cX10_thread 74 = .ok (.aload_n 0, 1) := by decide +kernel
theorem dX10_thread_75 : decode cX10_thread 75 = .ok (.getfield 45, 3) := by decide +kernel
theorem dX10_thread_78 : decode cX10_thread 78 = .ok (.iload_n 1, 1) := by decide +kernel
theorem dX10_thread_79 : decode cX10_thread 79 = .ok (.iaload, 1) := by decide +kernel
theorem dX10_thread_80 : decode cX10_thread 80 = .ok (.iconst 2, 1) := by decide +kernel
theorem dX10_thread_81 : decode cX10_thread 81 = .ok (.if_icmp .ne 12, 3) := by decide +kernel
theorem dX10_thread_84 : decode cX10_thread 84 = .ok (.aload_n 0, 1) := by decide +kernel
theorem dX10_thread_85 : decode cX10_thread 85 = .ok (.getfield 51, 3) := by decide +kernel
theorem dX10_thread_88 : decode cX10_thread 88 = .ok (.iload_n 1, 1) := by decide +kernel
theorem dX10_thread_89 : decode cX10_thread 89 = .ok (.iaload, 1) := by decide +kernel
theorem dX10_thread_90 : decode cX10_thread 90 = .ok (.goto 4, 3) := by decide +kernel
theorem dX10_thread_93 : decode cX10_thread 93 = .ok (.iconst (-1), 1) := by decide +kernel
theorem dX10_thread_94 : decode cX10_thread 94 = .ok (.ireturn, 1) := by decide +kernel
theorem dX10_thread_95 : decode cX10_thread 95 = .ok (.aload_n 0, 1) := by decide +kernel
theorem dX10_thread_96 : decode cX10_thread 96 = .ok (.getfield 54, 3) := by decide +kernel
theorem dX10_thread_99 : decode cX10_thread 99 = .ok (.iload_n 1, 1) := by decide +kernel
theorem dX10_thread_100 : decode cX10_thread 100 = .ok (.iaload, 1) := by decide +kernel
theorem dX10_thread_101 : decode cX10_thread 101 = .ok (.ireturn, 1) := by decide +kernel
theorem dX10_thread_102 : decode cX10_thread 102 = .ok (.aload_n 0, 1) := by decide +kernel
theorem dX10_thread_103 : decode cX10_thread 103 = .ok (.getfield 57, 3) := by decide +kernel
theorem dX10_thread_106 : decode cX10_thread 106 = .ok (.iload_n 1, 1) := by decide +kernel
theorem dX10_thread_107 : decode cX10_thread 107 = .ok (.iaload, 1) := by decide +kernel
theorem dX10_thread_108 : decode cX10_thread 108 = .ok (.ireturn, 1) := by decide +kernel
theorem dX10_outSize_0 : decode cX10_outSize 0 = .ok (.aload_n 0, 1) := by decide +kernel
theorem dX10_outSize_1 : decode cX10_outSize 1 = .ok (.getfield 82, 3) := by decide +kernel
theorem dX10_outSize_4 : decode cX10_outSize 4 = .ok (.ifCond .eq 24, 3) := by decide +kernel
theorem dX10_outSize_7 : decode cX10_outSize 7 = .ok (.aload_n 0, 1) := by decide +kernel
theorem dX10_outSize_8 : decode cX10_outSize 8 = .ok (.getfield 136, 3) := by decide +kernel
theorem dX10_outSize_11 : decode cX10_outSize 11 = .ok (.ifCond .le 17, 3) := by decide +kernel
theorem dX10_outSize_14 : decode cX10_outSize 14 = .ok (.aload_n 0, 1) := by decide +kernel
theorem dX10_outSize_15 : decode cX10_outSize 15 = .ok (.getfield 39, 3) := by decide +kernel
theorem dX10_outSize_18 : decode cX10_outSize 18 = .ok (.aload_n 0, 1) := by decide +kernel
theorem dX10_outSize_19 : decode cX10_outSize 19 = .ok (.getfield 136, 3) := by decide +kernel
theorem dX10_outSize_22 : decode cX10_outSize 22 = .ok (.iconst 1, 1) := by decide +kernel
theorem dX10_outSize_23 : decode cX10_outSize 23 = .ok (.isub, 1) := by decide +kernel
theorem dX10_outSize_24 : decode cX10_outSize 24 = .ok (.iaload, 1) := by decide +kernel
theorem dX10_outSize_25 : decode cX10_outSize 25 = .ok (.goto 4, 3) := by decide +kernel
theorem dX10_outSize_28 : decode cX10_outSize 28 = .ok (.iconst 0, 1) := by decide +kernel
theorem dX10_outSize_29 : decode cX10_outSize 29 = .ok (.ireturn, 1) := by decide +kernel
set_option maxRecDepth 20000 in
theorem ggX10_out_X10_outSize : GoodIn wsX10_out wsX10_outSize := goodIn_r _ [6, 7, 8, 9, 13, 14, 15, 16, 17, 18, 19, 20, 21, 22, 23, 24, 25, 26, 27, 28, 29, 30, 31, 32, 33, 34, 35, 36, 37, 38, 39, 40, 41, 42, 43, 44, 45, 46, 47, 48, 49, 50] (by decide +kernel) (by decide +kernel)
set_option maxRecDepth 20000 in
theorem gX10_out_X10_outSize : GoodIn wsX10_out (wsV RX10 199 RX10 yX10_outSize wsX10_outSize) := goodIn_app (goodIn_of _ (by decide +kernel)) ggX10_out_X10_outSize
set_option maxRecDepth 20000 in
theorem ggX10_out_X10_in : GoodIn wsX10_out wsX10_in := goodIn_r _ [12] (by decide +kernel) (by decide +kernel)
set_option maxRecDepth 20000 in
theorem gX10_out_X10_in : GoodIn wsX10_out (va_wsS RX10 78 yX10_in wsX10_in) := goodIn_app (goodIn_of _ (by decide +kernel)) ggX10_out_X10_in
theorem dX10_out_0 : decode cX10_out 0 = .ok (.iload_n 1, 1) := by decide +kernel
theorem dX10_out_1 : decode cX10_out 1 = .ok (.iconst 0, 1) := by decide +kernel
theorem dX10_out_2 : decode cX10_out 2 = .ok (.aload_n 0, 1) := by decide +kernel
theorem dX10_out_3 : decode cX10_out 3 = .ok (.invokevirtual 199, 3) := by decide +kernel
theorem dX10_out_6 : decode cX10_out 6 = .ok (.iconst 1, 1) := by decide +kernel
theorem dX10_out_7 : decode cX10_out 7 = .ok (.isub, 1) := by decide +kernel
theorem dX10_out_8 : decode cX10_out 8 = .ok (.invokestatic 78, 3) := by decide +kernel
theorem dX10_out_11 : decode cX10_out 11 = .ok (.ifCond .eq 12, 3) := by decide +kernel
theorem dX10_out_14 : decode cX10_out 14 = .ok (.aload_n 0, 1) := by decide +kernel
theorem dX10_out_15 : decode cX10_out 15 = .ok (.getfield 36, 3) := by decide +kernel
theorem dX10_out_18 : decode cX10_out 18 = .ok (.iload_n 1, 1) := by decide +kernel
theorem dX10_out_19 : decode cX10_out 19 = .ok (.iaload, 1) := by decide +kernel
theorem dX10_out_20 : decode cX10_out 20 = .ok (.goto 4, 3) := by decide +kernel
theorem dX10_out_23 : decode cX10_out 23 = .ok (.iconst (-1), 1) := by decide +kernel
theorem dX10_out_24 : decode cX10_out 24 = .ok (.ireturn, 1) := by decide +kernel
set_option maxRecDepth 20000 in
theorem ggX10_told_X10_in : GoodIn wsX10_told wsX10_in := goodIn_r _ [15] (by decide +kernel) (by decide +kernel)
set_option maxRecDepth 20000 in
theorem gX10_told_X10_in : GoodIn wsX10_told (va_wsS RX10 78 yX10_in wsX10_in) := goodIn_app (goodIn_of _ (by decide +kernel)) ggX10_told_X10_in
set_option maxRecDepth 20000 in
theorem ggX10_told_X10_outSize : GoodIn wsX10_told wsX10_outSize := goodIn_r _ [19, 1, 3, 20, 21, 22, 23, 24, 25, 26, 27, 28, 29, 30, 31, 32, 33, 34, 35, 36, 37, 38, 39, 40, 41, 42, 43, 44, 45, 46, 47, 48, 49, 50, 51, 52, 53, 54, 55, 56, 57, 58] (by decide +kernel) (by decide +kernel)
set_option maxRecDepth 20000 in
theorem gX10_told_X10_outSize : GoodIn wsX10_told (wsV RX10 199 RX10 yX10_outSize wsX10_outSize) := goodIn_app (goodIn_of _ (by decide +kernel)) ggX10_told_X10_outSize
theorem dX10_told_0 : decode cX10_told 0 = .ok (.iload_n 1, 1) := by decide +kernel
theorem dX10_told_1 : decode cX10_told 1 = .ok (.iconst 0, 1) := by decide +kernel
theorem dX10_told_2 : decode cX10_told 2 = .ok (.bipush 10, 2) := by decide +kernel
theorem dX10_told_4 : decode cX10_told 4 = .ok (.invokestatic 78, 3) := by decide +kernel
theorem dX10_told_7 : decode cX10_told 7 = .ok (.ifCond .ne 6, 3) := by decide +kernel
theorem dX10_told_10 : decode cX10_told 10 = .ok (.bipush (-2), 2) := by decide +kernel
theorem dX10_told_12 : decode cX10_told 12 = .ok (.ireturn, 1) := by decide +kernel
theorem dX10_told_13 : decode cX10_told 13 = .ok (.aload_n 0, 1) := by decide +kernel
theorem dX10_told_14 : decode cX10_told 14 = .ok (.getfield 82, 3) := by decide +kernel
theorem dX10_told_17 : decode cX10_told 17 = .ok (.ifCond .ne 6, 3) := by decide +kernel
theorem dX10_told_20 : decode cX10_told 20 = .ok (.bipush (-3), 2) := by decide +kernel
theorem dX10_told_22 : decode cX10_told 22 = .ok (.ireturn, 1) := by decide +kernel
theorem dX10_told_23 : decode cX10_told 23 = .ok (.iload_n 1, 1) := by decide +kernel
theorem dX10_told_24 : decode cX10_told 24 = .ok (.tableswitch 106 0 9 #[56, 61, 66, 71, 76, 81, 86, 91, 96, 101], 56) := by decide +kernel
theorem dX10_told_80 : decode cX10_told 80 = .ok (.aload_n 0, 1) := by decide +kernel
theorem dX10_told_81 : decode cX10_told 81 = .ok (.getfield 121, 3) := by decide +kernel
theorem dX10_told_84 : decode cX10_told 84 = .ok (.ireturn, 1) := by decide +kernel
theorem dX10_told_85 : decode cX10_told 85 = .ok (.aload_n 0, 1) := by decide +kernel
theorem dX10_told_86 : decode cX10_told 86 = .ok (.getfield 136, 3) := by decide +kernel
theorem dX10_told_89 : decode cX10_told 89 = .ok (.ireturn, 1) := by decide +kernel
theorem dX10_told_90 : decode cX10_told 90 = .ok (.aload_n 0, 1) := by decide +kernel
theorem dX10_told_91 : decode cX10_told 91 = .ok (.invokevirtual 199, 3) := by decide +kernel
theorem dX10_told_94 : decode cX10_told 94 = .ok (.ireturn, 1) := by decide +kernel
theorem dX10_told_95 : decode cX10_told 95 = .ok (.aload_n 0, 1) := by decide +kernel
theorem dX10_told_96 : decode cX10_told 96 = .ok (.getfield 139, 3) := by decide +kernel
theorem dX10_told_99 : decode cX10_told 99 = .ok (.ireturn, 1) := by decide +kernel
theorem dX10_told_100 : decode cX10_told 100 = .ok (.aload_n 0, 1) := by decide +kernel
theorem dX10_told_101 : decode cX10_told 101 = .ok (.getfield 142, 3) := by decide +kernel
theorem dX10_told_104 : decode cX10_told 104 = .ok (.ireturn, 1) := by decide +kernel
theorem dX10_told_105 : decode cX10_told 105 = .ok (.aload_n 0, 1) := by decide +kernel
theorem dX10_told_106 : decode cX10_told 106 = .ok (.getfield 133, 3) := by decide +kernel
theorem dX10_told_109 : decode cX10_told 109 = .ok (.ireturn, 1) := by decide +kernel
theorem dX10_told_110 : decode cX10_told 110 = .ok (.aload_n 0, 1) := by decide +kernel
theorem dX10_told_111 : decode cX10_told 111 = .ok (.getfield 145, 3) := by decide +kernel
theorem dX10_told_114 : decode cX10_told 114 = .ok (.ireturn, 1) := by decide +kernel
theorem dX10_told_115 : decode cX10_told 115 = .ok (.aload_n 0, 1) := by decide +kernel
theorem dX10_told_116 : decode cX10_told 116 = .ok (.getfield 148, 3) := by decide +kernel
theorem dX10_told_119 : decode cX10_told 119 = .ok (.ireturn, 1) := by decide +kernel
theorem dX10_told_120 : decode cX10_told 120 = .ok (.aload_n 0, 1) := by decide +kernel
theorem dX10_told_121 : decode cX10_told 121 = .ok (.getfield 151, 3) := by decide +kernel
theorem dX10_told_124 : decode cX10_told 124 = .ok (.ireturn, 1) := by decide +kernel
theorem dX10_told_125 : decode cX10_told 125 = .ok (.aload_n 0, 1) := by decide +kernel
theorem dX10_told_126 : decode cX10_told 126 = .ok (.getfield 154, 3) := by decide +kernel
theorem dX10_told_129 : decode cX10_told 129 = .ok (.ireturn, 1) := by decide +kernel
theorem dX10_told_130 : decode cX10_told 130 = .ok (.aload_n 0, 1) := by decide +kernel
theorem dX10_told_131 : decode cX10_told 131 = .ok (.getfield 130, 3) := by decide +kernel
theorem dX10_told_134 : decode cX10_told 134 = .ok (.ireturn, 1) := by decide +kernel
set_option maxRecDepth 20000 in
theorem ggX10_waiting_X10_in : GoodIn wsX10_waiting wsX10_in := goodIn_r _ [7] (by decide +kernel) (by decide +kernel)
set_option maxRecDepth 20000 in
theorem gX10_waiting_X10_in : GoodIn wsX10_waiting (va_wsS RX10 78 yX10_in wsX10_in) := goodIn_app (goodIn_of _ (by decide +kernel)) ggX10_waiting_X10_in
theorem dX10_waiting_0 : decode cX10_waiting 0 = .ok (.aload_n 0, 1) := by decide +kernel
theorem dX10_waiting_1 : decode cX10_waiting 1 = .ok (.getfield 82, 3) := by decide +kernel
theorem dX10_waiting_4 : decode cX10_waiting 4 = .ok (.ifCond .ne 8, 3) := by decide +kernel
theorem dX10_waiting_7 : decode cX10_waiting 7 = .ok (.bipush (-3), 2) := by decide +kernel
theorem dX10_waiting_9 : decode cX10_waiting 9 = .ok (.goto 27, 3) := by decide +kernel
theorem dX10_waiting_12 : decode cX10_waiting 12 = .ok (.iload_n 1, 1) := by decide +kernel
theorem dX10_waiting_13 : decode cX10_waiting 13 = .ok (.iconst 0, 1) := by decide +kernel
theorem dX10_waiting_14 : decode cX10_waiting 14 = .ok (.aload_n 0, 1) := by decide +kernel
theorem dX10_waiting_15 : decode cX10_waiting 15 = .ok (.getfield 142, 3) := by decide +kernel
theorem dX10_waiting_18 : decode cX10_waiting 18 = .ok (.iconst 1, 1) := by decide +kernel
theorem dX10_waiting_19 : decode cX10_waiting 19 = .ok (.isub, 1) := by decide +kernel
theorem dX10_waiting_20 : decode cX10_waiting 20 = .ok (.invokestatic 78, 3) := by decide +kernel
theorem dX10_waiting_23 : decode cX10_waiting 23 = .ok (.ifCond .eq 12, 3) := by decide +kernel
theorem dX10_waiting_26 : decode cX10_waiting 26 = .ok (.aload_n 0, 1) := by decide +kernel
theorem dX10_waiting_27 : decode cX10_waiting 27 = .ok (.getfield 72, 3) := by decide +kernel
theorem dX10_waiting_30 : decode cX10_waiting 30 = .ok (.iload_n 1, 1) := by decide +kernel
theorem dX10_waiting_31 : decode cX10_waiting 31 = .ok (.iaload, 1) := by decide +kernel
theorem dX10_waiting_32 : decode cX10_waiting 32 = .ok (.goto 4, 3) := by decide +kernel
theorem dX10_waiting_35 : decode cX10_waiting 35 = .ok (.iconst (-1), 1) := by decide +kernel
theorem dX10_waiting_36 : decode cX10_waiting 36 = .ok (.ireturn, 1) := by decide +kernel
set_option maxRecDepth 20000 in
theorem ggX10_close_X10_lengthOf : GoodIn wsX10_close wsX10_lengthOf := goodIn_r _ [11, 12, 13, 19, 20, 21, 22, 23, 24, 25, 26, 27, 28, 29, 30, 31, 32, 33, 34, 35, 36, 37, 38, 39, 40, 41, 42, 43, 44, 45, 46, 47, 48, 49, 50, 51, 52, 53, 54, 55, 56] (by decide +kernel) (by decide +kernel)
set_option maxRecDepth 20000 in
theorem gX10_close_X10_lengthOf : GoodIn wsX10_close (wsV RX10 100 RX10 yX10_lengthOf wsX10_lengthOf) := goodIn_app (goodIn_of _ (by decide +kernel)) ggX10_close_X10_lengthOf
set_option maxRecDepth 20000 in
theorem ggX10_close_X10_ends : GoodIn wsX10_close wsX10_ends := goodIn_r _ [17, 4, 6, 18, 19, 20, 21, 22, 23, 24, 25, 26, 27, 28, 29, 30, 31, 32, 33, 34, 35, 36, 37, 38, 39, 40, 41, 42, 43, 44, 45, 46, 47, 48, 49, 50, 51, 52, 53, 54, 55, 56] (by decide +kernel) (by decide +kernel)
set_option maxRecDepth 20000 in
theorem gX10_close_X10_ends : GoodIn wsX10_close (wsV RX10 167 RX10 yX10_ends wsX10_ends) := goodIn_app (goodIn_of _ (by decide +kernel)) ggX10_close_X10_ends
theorem dX10_close_0 : decode cX10_close 0 = .ok (.aload_n 0, 1) := by decide +kernel
theorem dX10_close_1 : decode cX10_close 1 = .ok (.getfield 82, 3) := by decide +kernel
theorem dX10_close_4 : decode cX10_close 4 = .ok (.ifCond .ne 6, 3) := by decide +kernel
theorem dX10_close_7 : decode cX10_close 7 = .ok (.bipush (-3), 2) := by decide +kernel
theorem dX10_close_9 : decode cX10_close 9 = .ok (.ireturn, 1) := by decide +kernel
theorem dX10_close_10 : decode cX10_close 10 = .ok (.iconst 0, 1) := by decide +kernel
theorem dX10_close_11 : decode cX10_close 11 = .ok (.istore_n 1, 1) := by decide +kernel
theorem dX10_close_12 : decode cX10_close 12 = .ok (.aload_n 0, 1) := by decide +kernel
theorem dX10_close_13 : decode cX10_close 13 = .ok (.iconst 0, 1) := by decide +kernel
theorem dX10_close_14 : decode cX10_close 14 = .ok (.putfield 142, 3) := by decide +kernel
theorem dX10_close_17 : decode cX10_close 17 = .ok (.iconst 0, 1) := by decide +kernel
theorem dX10_close_18 : decode cX10_close 18 = .ok (.istore_n 2, 1) := by decide +kernel
theorem dX10_close_19 : decode cX10_close 19 = .ok (.iload_n 2, 1) := by decide +kernel
theorem dX10_close_20 : decode cX10_close 20 = .ok (.aload_n 0, 1) := by decide +kernel
theorem dX10_close_21 : decode cX10_close 21 = .ok (.getfield 118, 3) := by decide +kernel
theorem dX10_close_24 : decode cX10_close 24 = .ok (.if_icmp .ge 60, 3) := by decide +kernel
theorem dX10_close_27 : decode cX10_close 27 = .ok (.aload_n 0, 1) := by decide +kernel
theorem dX10_close_28 : decode cX10_close 28 = .ok (.getfield 45, 3) := by decide +kernel
theorem dX10_close_31 : decode cX10_close 31 = .ok (.iload_n 2, 1) := by decide +kernel
theorem dX10_close_32 : decode cX10_close 32 = .ok (.iaload, 1) := by decide +kernel
theorem dX10_close_33 : decode cX10_close 33 = .ok (.iconst 4, 1) := by decide +kernel
theorem dX10_close_34 : decode cX10_close 34 = .ok (.if_icmp .eq 44, 3) := by decide +kernel
theorem dX10_close_37 : decode cX10_close 37 = .ok (.aload_n 0, 1) := by decide +kernel
theorem dX10_close_38 : decode cX10_close 38 = .ok (.dup, 1) := by decide +kernel
theorem dX10_close_39 : decode cX10_close 39 = .ok (.getfield 139, 3) := by decide +kernel
theorem dX10_close_42 : decode cX10_close 42 = .ok (.aload_n 0, 1) := by decide +kernel
theorem dX10_close_43 : decode cX10_close 43 = .ok (.getfield 45, 3) := by decide +kernel
theorem dX10_close_46 : decode cX10_close 46 = .ok (.iload_n 2, 1) := by decide +kernel
theorem dX10_close_47 : decode cX10_close 47 = .ok (.iaload, 1) := by decide +kernel
theorem dX10_close_48 : decode cX10_close 48 = .ok (.iconst 2, 1) := by decide +kernel
theorem dX10_close_49 : decode cX10_close 49 = .ok (.if_icmp .ne 16, 3) := by decide +kernel
theorem dX10_close_52 : decode cX10_close 52 = .ok (.aload_n 0, 1) := by decide +kernel
theorem dX10_close_53 : decode cX10_close 53 = .ok (.aload_n 0, 1) := by decide +kernel
theorem dX10_close_54 : decode cX10_close 54 = .ok (.getfield 48, 3) := by decide +kernel
theorem dX10_close_57 : decode cX10_close 57 = .ok (.iload_n 2, 1) := by decide +kernel
theorem dX10_close_58 : decode cX10_close 58 = .ok (.iaload, 1) := by decide +kernel
theorem dX10_close_59 : decode cX10_close 59 = .ok (.invokevirtual 100, 3) := by decide +kernel
theorem dX10_close_62 : decode cX10_close 62 = .ok (.goto 4, 3) := by decide +kernel
theorem dX10_close_65 : decode cX10_close 65 = .ok (.iconst 0, 1) := by decide +kernel
theorem dX10_close_66 : decode cX10_close 66 = .ok (.iadd, 1) := by decide +kernel
theorem dX10_close_67 : decode cX10_close 67 = .ok (.putfield 139, 3) := by decide +kernel
theorem dX10_close_70 : decode cX10_close 70 = .ok (.aload_n 0, 1) := by decide +kernel
theorem dX10_close_71 : decode cX10_close 71 = .ok (.iload_n 2, 1) := by decide +kernel
theorem dX10_close_72 : decode cX10_close 72 = .ok (.invokevirtual 167, 3) := by decide +kernel
theorem dX10_close_75 : decode cX10_close 75 = .ok (.iinc 1 1, 3) := by decide +kernel
theorem dX10_close_78 : decode cX10_close 78 = .ok (.iinc 2 1, 3) := by decide +kernel
theorem dX10_close_81 : decode cX10_close 81 = .ok (.goto (-62), 3) := by decide +kernel
theorem dX10_close_84 : decode cX10_close 84 = .ok (.iload_n 1, 1) := by decide +kernel
theorem dX10_close_85 : decode cX10_close 85 = .ok (.ireturn, 1) := by decide +kernel
theorem dX10_clear_0 : decode cX10_clear 0 = .ok (.aload_n 0, 1) := by decide +kernel
theorem dX10_clear_1 : decode cX10_clear 1 = .ok (.getfield 75, 3) := by decide +kernel
theorem dX10_clear_4 : decode cX10_clear 4 = .ok (.istore_n 1, 1) := by decide +kernel
theorem dX10_clear_5 : decode cX10_clear 5 = .ok (.aload_n 0, 1) := by decide +kernel
theorem dX10_clear_6 : decode cX10_clear 6 = .ok (.iconst 0, 1) := by decide +kernel
theorem dX10_clear_7 : decode cX10_clear 7 = .ok (.putfield 75, 3) := by decide +kernel
theorem dX10_clear_10 : decode cX10_clear 10 = .ok (.aload_n 0, 1) := by decide +kernel
theorem dX10_clear_11 : decode cX10_clear 11 = .ok (.iconst 0, 1) := by decide +kernel
theorem dX10_clear_12 : decode cX10_clear 12 = .ok (.putfield 82, 3) := by decide +kernel
theorem dX10_clear_15 : decode cX10_clear 15 = .ok (.aload_n 0, 1) := by decide +kernel
theorem dX10_clear_16 : decode cX10_clear 16 = .ok (.iconst 0, 1) := by decide +kernel
theorem dX10_clear_17 : decode cX10_clear 17 = .ok (.putfield 86, 3) := by decide +kernel
theorem dX10_clear_20 : decode cX10_clear 20 = .ok (.iconst 0, 1) := by decide +kernel
theorem dX10_clear_21 : decode cX10_clear 21 = .ok (.istore_n 2, 1) := by decide +kernel
theorem dX10_clear_22 : decode cX10_clear 22 = .ok (.iload_n 2, 1) := by decide +kernel
theorem dX10_clear_23 : decode cX10_clear 23 = .ok (.bipush 40, 2) := by decide +kernel
theorem dX10_clear_25 : decode cX10_clear 25 = .ok (.if_icmp .ge 16, 3) := by decide +kernel
theorem dX10_clear_28 : decode cX10_clear 28 = .ok (.aload_n 0, 1) := by decide +kernel
theorem dX10_clear_29 : decode cX10_clear 29 = .ok (.getfield 26, 3) := by decide +kernel
theorem dX10_clear_32 : decode cX10_clear 32 = .ok (.iload_n 2, 1) := by decide +kernel
theorem dX10_clear_33 : decode cX10_clear 33 = .ok (.iconst 0, 1) := by decide +kernel
theorem dX10_clear_34 : decode cX10_clear 34 = .ok (.iastore, 1) := by decide +kernel
theorem dX10_clear_35 : decode cX10_clear 35 = .ok (.iinc 2 1, 3) := by decide +kernel
theorem dX10_clear_38 : decode cX10_clear 38 = .ok (.goto (-16), 3) := by decide +kernel
theorem dX10_clear_41 : decode cX10_clear 41 = .ok (.iload_n 1, 1) := by decide +kernel
theorem dX10_clear_42 : decode cX10_clear 42 = .ok (.ireturn, 1) := by decide +kernel
theorem dJ9_max_7cf53_0 : decode cJ9_max_7cf53 0 = .ok (.iload_n 0, 1) := by decide +kernel
theorem dJ9_max_7cf53_1 : decode cJ9_max_7cf53 1 = .ok (.iload_n 1, 1) := by decide +kernel
theorem dJ9_max_7cf53_2 : decode cJ9_max_7cf53 2 = .ok (.if_icmp .lt 7, 3) := by decide +kernel
theorem dJ9_max_7cf53_5 : decode cJ9_max_7cf53 5 = .ok (.iload_n 0, 1) := by decide +kernel
theorem dJ9_max_7cf53_6 : decode cJ9_max_7cf53 6 = .ok (.goto 4, 3) := by decide +kernel
theorem dJ9_max_7cf53_9 : decode cJ9_max_7cf53 9 = .ok (.iload_n 1, 1) := by decide +kernel
theorem dJ9_max_7cf53_10 : decode cJ9_max_7cf53 10 = .ok (.ireturn, 1) := by decide +kernel
theorem dJ9_min_7cf53_0 : decode cJ9_min_7cf53 0 = .ok (.iload_n 0, 1) := by decide +kernel
theorem dJ9_min_7cf53_1 : decode cJ9_min_7cf53 1 = .ok (.iload_n 1, 1) := by decide +kernel
theorem dJ9_min_7cf53_2 : decode cJ9_min_7cf53 2 = .ok (.if_icmp .gt 7, 3) := by decide +kernel
theorem dJ9_min_7cf53_5 : decode cJ9_min_7cf53 5 = .ok (.iload_n 0, 1) := by decide +kernel
theorem dJ9_min_7cf53_6 : decode cJ9_min_7cf53 6 = .ok (.goto 4, 3) := by decide +kernel
theorem dJ9_min_7cf53_9 : decode cJ9_min_7cf53 9 = .ok (.iload_n 1, 1) := by decide +kernel
theorem dJ9_min_7cf53_10 : decode cJ9_min_7cf53 10 = .ok (.ireturn, 1) := by decide +kernel
set_option maxRecDepth 20000 in
theorem ggL_law_X9_init : GoodIn wsL_law wsX9_init := goodIn_r _ [8, 9, 10, 11, 12, 13, 14, 15, 16, 17, 18, 19, 20, 21, 22, 23, 24, 25, 26, 27, 28, 29, 30, 31, 32, 33, 34, 35, 36, 37, 38, 39, 40, 41, 42, 43, 44, 45, 46, 47, 48, 49, 50, 51, 52, 53, 54, 55, 56, 57, 58, 59, 60, 61, 62, 63, 64, 65, 66, 67, 68, 69, 70, 71, 72, 73, 74, 75, 76, 77, 78, 79, 80, 81, 82, 83, 84, 85, 86, 87, 88, 89, 90, 91, 92, 93, 94, 95, 96, 97, 98, 99, 100, 101, 703, 704, 659, 660, 661, 662, 663, 664, 705, 706, 707, 708, 709, 710, 711, 712, 713, 714, 715, 716, 717, 718, 719, 720, 721, 722, 723, 724, 725, 726, 727, 728, 729, 730, 731, 732, 733, 734, 735, 736, 737, 738, 739, 740, 741, 742, 743, 744, 745, 746, 747, 748, 749, 750, 751] (by decide +kernel) (by decide +kernel)
set_option maxRecDepth 20000 in
theorem gL_law_X9_init : GoodIn wsL_law (wsX9_init) := ggL_law_X9_init
set_option maxRecDepth 20000 in
theorem ggL_law_X10_init : GoodIn wsL_law wsX10_init := goodIn_r _ [104, 105, 10, 11, 36, 106, 107, 108, 109, 110, 111, 112, 50, 113, 114, 115, 116, 117, 118, 119, 120, 121, 122, 123, 124, 125, 126, 127, 665, 666, 667, 668, 669, 670, 671, 672, 673, 674, 675, 676, 677, 678, 679, 680, 681, 682, 683, 684, 685, 686, 687, 688, 689, 690, 691, 692, 693, 694, 695, 696, 697, 698, 699, 700, 701, 702] (by decide +kernel) (by decide +kernel)
set_option maxRecDepth 20000 in
theorem gL_law_X10_init : GoodIn wsL_law (wsX10_init) := ggL_law_X10_init
set_option maxRecDepth 20000 in
theorem ggL_law_X9_type : GoodIn wsL_law wsX9_type := goodIn_r _ [131, 32, 15, 27, 132, 133, 134, 14, 135, 136, 37, 137, 138, 139, 140, 141, 142, 143, 26, 144, 145, 146, 147, 148, 149, 659, 660, 661, 662, 663, 664, 703, 704, 712, 713, 714, 715, 716, 717, 718, 719, 720] (by decide +kernel) (by decide +kernel)
set_option maxRecDepth 20000 in
theorem gL_law_X9_type : GoodIn wsL_law (wsV RL 13 RX9 yX9_type wsX9_type) := goodIn_app (goodIn_of _ (by decide +kernel)) ggL_law_X9_type
set_option maxRecDepth 20000 in
theorem ggL_law_X10_type : GoodIn wsL_law wsX10_type := goodIn_r _ [153, 154, 127, 106, 155, 156, 157, 5, 158, 665, 666, 667, 668, 669, 670, 671, 672, 673, 674, 675, 676, 677, 678, 679, 680, 681, 682, 683, 684, 685, 686, 687, 688, 689, 690, 691, 692, 693, 694, 695, 696, 697, 698, 699, 700, 701, 702] (by decide +kernel) (by decide +kernel)
set_option maxRecDepth 20000 in
theorem gL_law_X10_type : GoodIn wsL_law (wsV RL 17 RX10 yX10_type wsX10_type) := goodIn_app (goodIn_of _ (by decide +kernel)) ggL_law_X10_type
set_option maxRecDepth 20000 in
theorem ggL_law_X9_set : GoodIn wsL_law wsX9_set := goodIn_r _ [162, 19, 32, 27, 163, 164, 165, 18, 166, 167, 168, 141, 142, 143, 26, 144, 145, 169, 170, 171, 172, 41, 42, 43, 44, 659, 660, 661, 662, 663, 664, 712, 713, 714, 715, 716, 717, 718, 719, 720, 705, 706, 707, 708] (by decide +kernel) (by decide +kernel)
set_option maxRecDepth 20000 in
theorem gL_law_X9_set : GoodIn wsL_law (wsV RL 18 RX9 yX9_set wsX9_set) := goodIn_app (goodIn_of _ (by decide +kernel)) ggL_law_X9_set
set_option maxRecDepth 20000 in
theorem ggL_law_X10_set : GoodIn wsL_law wsX10_set := goodIn_r _ [176, 154, 107, 108, 109, 110, 155, 156, 157, 5, 158, 665, 666, 667, 668, 669, 670, 671, 672, 673, 674, 675, 676, 677, 678, 679, 680, 681, 682, 683, 684, 685, 686, 687, 688, 689, 690, 691, 692, 693, 694, 695, 696, 697, 698, 699, 700, 701, 702] (by decide +kernel) (by decide +kernel)
set_option maxRecDepth 20000 in
theorem gL_law_X10_set : GoodIn wsL_law (wsV RL 22 RX10 yX10_set wsX10_set) := goodIn_app (goodIn_of _ (by decide +kernel)) ggL_law_X10_set
set_option maxRecDepth 20000 in
theorem ggL_law_X9_plant : GoodIn wsL_law wsX9_plant := goodIn_r _ [180, 32, 23, 181, 182, 183, 22, 184, 48, 49, 51, 659, 660, 661, 662, 663, 664, 709, 710, 711] (by decide +kernel) (by decide +kernel)
set_option maxRecDepth 20000 in
theorem gL_law_X9_plant : GoodIn wsL_law (wsV RL 23 RX9 yX9_plant wsX9_plant) := goodIn_app (goodIn_of _ (by decide +kernel)) ggL_law_X9_plant
set_option maxRecDepth 20000 in
theorem ggL_law_X10_plant : GoodIn wsL_law wsX10_plant := goodIn_r _ [188, 154, 111, 112, 113, 156, 157, 5, 158, 665, 666, 667, 668, 669, 670, 671, 672, 673, 674, 675, 676, 677, 678, 679, 680, 681, 682, 683, 684, 685, 686, 687, 688, 689, 690, 691, 692, 693, 694, 695, 696, 697, 698, 699, 700, 701, 702] (by decide +kernel) (by decide +kernel)
set_option maxRecDepth 20000 in
theorem gL_law_X10_plant : GoodIn wsL_law (wsV RL 27 RX10 yX10_plant wsX10_plant) := goodIn_app (goodIn_of _ (by decide +kernel)) ggL_law_X10_plant
set_option maxRecDepth 20000 in
theorem ggL_law_X9_begin : GoodIn wsL_law wsX9_begin := goodIn_r _ [192, 32, 27, 31, 19, 193, 194, 195, 26, 196, 145, 197, 198, 60, 58, 57, 199, 200, 201, 202, 59, 203, 204, 205, 18, 206, 41, 207, 147, 148, 14, 149, 136, 208, 209, 210, 211, 212, 213, 214, 215, 216, 217, 218, 219, 220, 221, 222, 223, 224, 225, 226, 227, 228, 229, 230, 231, 42, 232, 233, 234, 235, 236, 237, 238, 239, 37, 240, 241, 242, 243, 56, 244, 245, 246, 247, 248, 249, 250, 251, 252, 253, 254, 255, 43, 256, 257, 258, 259, 44, 260, 261, 262, 30, 263, 264, 66, 70, 74, 78, 265, 266, 267, 268, 269, 270, 271, 272, 273, 82, 274, 275, 276, 277, 278, 279, 280, 281, 282, 283, 284, 285, 286, 287, 288, 69, 289, 290, 291, 292, 293, 294, 73, 295, 91, 296, 297, 298, 299, 300, 301, 77, 302, 95, 303, 304, 305, 306, 307, 659, 660, 661, 662, 663, 664, 712, 713, 714, 715, 716, 717, 718, 719, 720, 705, 706, 707, 708, 703, 704, 721, 722, 723, 724, 725, 726, 727, 728, 729, 730, 731, 732, 733, 744, 745, 746, 747, 748, 749, 750, 751, 734, 735, 736, 737, 738, 739, 740, 741, 742, 743] (by decide +kernel) (by decide +kernel)
set_option maxRecDepth 20000 in
theorem gL_law_X9_begin : GoodIn wsL_law (wsV RL 28 RX9 yX9_begin wsX9_begin) := goodIn_app (goodIn_of _ (by decide +kernel)) ggL_law_X9_begin
set_option maxRecDepth 20000 in
theorem ggL_law_X10_begin : GoodIn wsL_law wsX10_begin := goodIn_r _ [311, 154, 312, 313, 117, 118, 119, 120, 121, 122, 123, 125, 314, 315, 316, 317, 318, 109, 319, 320, 321, 322, 323, 324, 156, 157, 5, 158, 325, 326, 327, 328, 155, 329, 330, 331, 332, 333, 127, 107, 334, 335, 336, 337, 116, 108, 115, 338, 339, 340, 341, 342, 343, 344, 345, 106, 346, 347, 348, 349, 350, 351, 352, 353, 114, 665, 666, 667, 668, 669, 670, 671, 672, 673, 674, 675, 676, 677, 678, 679, 680, 681, 682, 683, 684, 685, 686, 687, 688, 689, 690, 691, 692, 693, 694, 695, 696, 697, 698, 699, 700, 701, 702] (by decide +kernel) (by decide +kernel)
set_option maxRecDepth 20000 in
theorem gL_law_X10_begin : GoodIn wsL_law (wsV RL 31 RX10 yX10_begin wsX10_begin) := goodIn_app (goodIn_of _ (by decide +kernel)) ggL_law_X10_begin
set_option maxRecDepth 20000 in
theorem ggL_law_X9_turn : GoodIn wsL_law wsX9_turn := goodIn_r _ [357, 32, 31, 358, 359, 360, 2, 361, 362, 363, 364, 30, 365, 264, 366, 367, 368, 369, 265, 270, 370, 371, 372, 373, 66, 374, 375, 376, 377, 74, 79, 78, 266, 378, 379, 380, 381, 267, 382, 305, 306, 26, 307, 198, 383, 384, 385, 82, 386, 282, 276, 278, 279, 280, 281, 283, 284, 285, 387, 388, 389, 390, 391, 392, 393, 77, 394, 95, 395, 396, 397, 398, 399, 400, 401, 402, 303, 96, 403, 404, 405, 406, 70, 407, 209, 210, 211, 60, 59, 212, 213, 214, 215, 216, 217, 218, 203, 204, 205, 18, 206, 41, 207, 147, 148, 14, 149, 136, 408, 409, 410, 411, 412, 413, 414, 69, 415, 291, 290, 87, 416, 417, 418, 419, 420, 421, 422, 423, 424, 425, 426, 427, 80, 428, 429, 430, 22, 431, 48, 51, 49, 432, 433, 434, 435, 269, 268, 436, 437, 438, 439, 440, 441, 442, 443, 444, 445, 446, 447, 448, 449, 450, 451, 452, 58, 453, 454, 455, 456, 275, 457, 458, 459, 460, 461, 462, 463, 73, 464, 91, 298, 296, 297, 465, 466, 467, 468, 659, 660, 661, 662, 663, 664, 721, 722, 723, 724, 725, 726, 727, 728, 729, 730, 731, 732, 733, 744, 745, 746, 747, 748, 749, 750, 751, 737, 738, 739, 740, 741, 742, 743, 712, 713, 714, 715, 716, 717, 718, 719, 720, 705, 706, 707, 708, 703, 704, 734, 735, 736, 709, 710, 711] (by decide +kernel) (by decide +kernel)
set_option maxRecDepth 20000 in
theorem gL_law_X9_turn : GoodIn wsL_law (wsV RL 32 RX9 yX9_turn wsX9_turn) := goodIn_app (goodIn_of _ (by decide +kernel)) ggL_law_X9_turn
set_option maxRecDepth 20000 in
theorem ggL_law_X10_turn : GoodIn wsL_law wsX10_turn := goodIn_r _ [472, 154, 473, 474, 475, 5, 476, 312, 156, 157, 158, 477, 478, 479, 480, 314, 117, 324, 481, 482, 483, 484, 122, 318, 313, 316, 124, 315, 485, 486, 487, 488, 322, 489, 490, 491, 492, 118, 121, 493, 494, 495, 496, 123, 497, 498, 499, 500, 320, 319, 126, 338, 339, 340, 341, 127, 107, 501, 502, 503, 504, 119, 505, 506, 507, 508, 111, 112, 113, 323, 321, 116, 120, 509, 510, 511, 512, 513, 514, 515, 516, 517, 518, 519, 520, 317, 110, 125, 665, 666, 667, 668, 669, 670, 671, 672, 673, 674, 675, 676, 677, 678, 679, 680, 681, 682, 683, 684, 685, 686, 687, 688, 689, 690, 691, 692, 693, 694, 695, 696, 697, 698, 699, 700, 701, 702] (by decide +kernel) (by decide +kernel)
set_option maxRecDepth 20000 in
theorem gL_law_X10_turn : GoodIn wsL_law (wsV RL 35 RX10 yX10_turn wsX10_turn) := goodIn_app (goodIn_of _ (by decide +kernel)) ggL_law_X10_turn
set_option maxRecDepth 20000 in
theorem ggL_law_X9_run : GoodIn wsL_law wsX9_run := goodIn_r _ [524, 32, 31, 525, 526, 527, 30, 528, 265, 264, 529, 530, 531, 532, 66, 533, 367, 368, 369, 270, 370, 371, 372, 373, 374, 375, 376, 377, 74, 79, 78, 266, 378, 379, 380, 381, 267, 382, 305, 306, 26, 307, 198, 383, 384, 385, 82, 386, 282, 276, 278, 279, 280, 281, 283, 284, 285, 387, 388, 389, 390, 391, 392, 393, 77, 394, 95, 395, 396, 397, 398, 399, 400, 401, 402, 303, 96, 403, 404, 405, 406, 70, 407, 209, 210, 211, 60, 59, 212, 213, 214, 215, 216, 217, 218, 203, 204, 205, 18, 206, 41, 207, 147, 148, 14, 149, 136, 408, 409, 410, 411, 412, 413, 414, 69, 415, 291, 290, 87, 416, 417, 418, 419, 420, 421, 422, 423, 424, 425, 426, 427, 80, 428, 429, 430, 22, 431, 48, 51, 49, 432, 433, 434, 435, 269, 268, 436, 437, 438, 439, 440, 441, 442, 443, 444, 445, 446, 447, 448, 449, 450, 451, 452, 58, 453, 454, 455, 456, 275, 457, 458, 459, 460, 461, 462, 463, 73, 464, 91, 298, 296, 297, 465, 466, 467, 468, 659, 660, 661, 662, 663, 664, 721, 722, 723, 724, 725, 726, 727, 728, 729, 730, 731, 732, 733, 744, 745, 746, 747, 748, 749, 750, 751, 737, 738, 739, 740, 741, 742, 743, 712, 713, 714, 715, 716, 717, 718, 719, 720, 705, 706, 707, 708, 703, 704, 734, 735, 736, 709, 710, 711] (by decide +kernel) (by decide +kernel)
set_option maxRecDepth 20000 in
theorem gL_law_X9_run : GoodIn wsL_law (wsV RL 36 RX9 yX9_run wsX9_run) := goodIn_app (goodIn_of _ (by decide +kernel)) ggL_law_X9_run
set_option maxRecDepth 20000 in
theorem ggL_law_X10_run : GoodIn wsL_law wsX10_run := goodIn_r _ [537, 154, 314, 312, 156, 157, 5, 158, 538, 539, 540, 541, 117, 477, 478, 479, 480, 324, 481, 482, 483, 484, 122, 318, 313, 316, 124, 315, 485, 486, 487, 488, 322, 489, 490, 491, 492, 118, 121, 493, 494, 495, 496, 123, 497, 498, 499, 500, 320, 319, 126, 338, 339, 340, 341, 127, 107, 501, 502, 503, 504, 119, 505, 506, 507, 508, 111, 112, 113, 323, 321, 116, 120, 509, 510, 511, 512, 513, 514, 515, 516, 517, 518, 519, 520, 317, 110, 125, 665, 666, 667, 668, 669, 670, 671, 672, 673, 674, 675, 676, 677, 678, 679, 680, 681, 682, 683, 684, 685, 686, 687, 688, 689, 690, 691, 692, 693, 694, 695, 696, 697, 698, 699, 700, 701, 702] (by decide +kernel) (by decide +kernel)
set_option maxRecDepth 20000 in
theorem gL_law_X10_run : GoodIn wsL_law (wsV RL 39 RX10 yX10_run wsX10_run) := goodIn_app (goodIn_of _ (by decide +kernel)) ggL_law_X10_run
set_option maxRecDepth 20000 in
theorem ggL_law_X9_interrupt : GoodIn wsL_law wsX9_interrupt := goodIn_r _ [545, 32, 31, 358, 359, 360, 2, 361, 362, 363, 364, 30, 365, 264, 546, 547, 548, 549, 370, 371, 372, 373, 66, 659, 660, 661, 662, 663, 664, 721, 722, 723, 724, 725, 726, 727, 728, 729, 730, 731, 732, 733, 744, 745, 746, 747, 748, 749, 750, 751] (by decide +kernel) (by decide +kernel)
set_option maxRecDepth 20000 in
theorem gL_law_X9_interrupt : GoodIn wsL_law (wsV RL 40 RX9 yX9_interrupt wsX9_interrupt) := goodIn_app (goodIn_of _ (by decide +kernel)) ggL_law_X9_interrupt
set_option maxRecDepth 20000 in
theorem ggL_law_X10_interrupt : GoodIn wsL_law wsX10_interrupt := goodIn_r _ [553, 154, 122, 117, 473, 474, 475, 5, 476, 312, 156, 157, 158, 665, 666, 667, 668, 669, 670, 671, 672, 673, 674, 675, 676, 677, 678, 679, 680, 681, 682, 683, 684, 685, 686, 687, 688, 689, 690, 691, 692, 693, 694, 695, 696, 697, 698, 699, 700, 701, 702] (by decide +kernel) (by decide +kernel)
set_option maxRecDepth 20000 in
theorem gL_law_X10_interrupt : GoodIn wsL_law (wsV RL 43 RX10 yX10_interrupt wsX10_interrupt) := goodIn_app (goodIn_of _ (by decide +kernel)) ggL_law_X10_interrupt
set_option maxRecDepth 20000 in
theorem ggL_law_X9_thread : GoodIn wsL_law wsX9_thread := goodIn_r _ [557, 32, 31, 358, 359, 360, 2, 361, 362, 363, 364, 30, 365, 264, 558, 559, 560, 561, 370, 371, 372, 373, 66, 659, 660, 661, 662, 663, 664, 721, 722, 723, 724, 725, 726, 727, 728, 729, 730, 731, 732, 733, 744, 745, 746, 747, 748, 749, 750, 751] (by decide +kernel) (by decide +kernel)
set_option maxRecDepth 20000 in
theorem gL_law_X9_thread : GoodIn wsL_law (wsV RL 44 RX9 yX9_thread wsX9_thread) := goodIn_app (goodIn_of _ (by decide +kernel)) ggL_law_X9_thread
set_option maxRecDepth 20000 in
theorem ggL_law_X10_thread : GoodIn wsL_law wsX10_thread := goodIn_r _ [565, 154, 117, 118, 119, 120, 121, 473, 474, 475, 5, 476, 312, 156, 157, 158, 665, 666, 667, 668, 669, 670, 671, 672, 673, 674, 675, 676, 677, 678, 679, 680, 681, 682, 683, 684, 685, 686, 687, 688, 689, 690, 691, 692, 693, 694, 695, 696, 697, 698, 699, 700, 701, 702] (by decide +kernel) (by decide +kernel)
set_option maxRecDepth 20000 in
theorem gL_law_X10_thread : GoodIn wsL_law (wsV RL 47 RX10 yX10_thread wsX10_thread) := goodIn_app (goodIn_of _ (by decide +kernel)) ggL_law_X10_thread
set_option maxRecDepth 20000 in
theorem ggL_law_X9_out : GoodIn wsL_law wsX9_out := goodIn_r _ [569, 32, 31, 27, 570, 571, 572, 30, 573, 79, 74, 574, 575, 576, 26, 577, 57, 578, 579, 580, 581, 197, 56, 659, 660, 661, 662, 663, 664, 721, 722, 723, 724, 725, 726, 727, 728, 729, 730, 731, 732, 733, 737, 738, 739, 740, 712, 713, 714, 715, 716, 717, 718, 719, 720] (by decide +kernel) (by decide +kernel)
set_option maxRecDepth 20000 in
theorem gL_law_X9_out : GoodIn wsL_law (wsV RL 48 RX9 yX9_out wsX9_out) := goodIn_app (goodIn_of _ (by decide +kernel)) ggL_law_X9_out
set_option maxRecDepth 20000 in
theorem ggL_law_X10_out : GoodIn wsL_law wsX10_out := goodIn_r _ [585, 114, 586, 587, 588, 5, 589, 154, 318, 115, 156, 157, 158, 665, 666, 667, 668, 669, 670, 671, 672, 673, 674, 675, 676, 677, 678, 679, 680, 681, 682, 683, 684, 685, 686, 687, 688, 689, 690, 691, 692, 693, 694, 695, 696, 697, 698, 699, 700, 701, 702] (by decide +kernel) (by decide +kernel)
set_option maxRecDepth 20000 in
theorem gL_law_X10_out : GoodIn wsL_law (wsV RL 51 RX10 yX10_out wsX10_out) := goodIn_app (goodIn_of _ (by decide +kernel)) ggL_law_X10_out
set_option maxRecDepth 20000 in
theorem ggL_law_X9_told : GoodIn wsL_law wsX9_told := goodIn_r _ [593, 32, 31, 594, 595, 596, 30, 597, 79, 74, 70, 382, 305, 306, 26, 307, 198, 598, 571, 572, 573, 574, 575, 576, 577, 57, 599, 600, 601, 602, 267, 268, 269, 270, 78, 659, 660, 661, 662, 663, 664, 721, 722, 723, 724, 725, 726, 727, 728, 729, 730, 731, 732, 733, 737, 738, 739, 740, 734, 735, 736, 712, 713, 714, 715, 716, 717, 718, 719, 720, 741, 742, 743] (by decide +kernel) (by decide +kernel)
set_option maxRecDepth 20000 in
theorem gL_law_X9_told : GoodIn wsL_law (wsV RL 52 RX9 yX9_told wsX9_told) := goodIn_app (goodIn_of _ (by decide +kernel)) ggL_law_X9_told
set_option maxRecDepth 20000 in
theorem ggL_law_X10_told : GoodIn wsL_law wsX10_told := goodIn_r _ [606, 154, 313, 318, 319, 320, 317, 321, 322, 323, 324, 316, 156, 157, 5, 158, 586, 587, 588, 589, 115, 665, 666, 667, 668, 669, 670, 671, 672, 673, 674, 675, 676, 677, 678, 679, 680, 681, 682, 683, 684, 685, 686, 687, 688, 689, 690, 691, 692, 693, 694, 695, 696, 697, 698, 699, 700, 701, 702] (by decide +kernel) (by decide +kernel)
set_option maxRecDepth 20000 in
theorem gL_law_X10_told : GoodIn wsL_law (wsV RL 55 RX10 yX10_told wsX10_told) := goodIn_app (goodIn_of _ (by decide +kernel)) ggL_law_X10_told
set_option maxRecDepth 20000 in
theorem ggL_law_X9_waiting : GoodIn wsL_law wsX9_waiting := goodIn_r _ [610, 32, 31, 611, 612, 613, 30, 614, 70, 615, 616, 617, 69, 618, 291, 87, 659, 660, 661, 662, 663, 664, 721, 722, 723, 724, 725, 726, 727, 728, 729, 730, 731, 732, 733, 734, 735, 736, 744, 745, 746, 747, 748, 749, 750, 751] (by decide +kernel) (by decide +kernel)
set_option maxRecDepth 20000 in
theorem gL_law_X9_waiting : GoodIn wsL_law (wsV RL 56 RX9 yX9_waiting wsX9_waiting) := goodIn_app (goodIn_of _ (by decide +kernel)) ggL_law_X9_waiting
set_option maxRecDepth 20000 in
theorem ggL_law_X10_waiting : GoodIn wsL_law wsX10_waiting := goodIn_r _ [622, 154, 320, 126, 156, 157, 5, 158, 665, 666, 667, 668, 669, 670, 671, 672, 673, 674, 675, 676, 677, 678, 679, 680, 681, 682, 683, 684, 685, 686, 687, 688, 689, 690, 691, 692, 693, 694, 695, 696, 697, 698, 699, 700, 701, 702] (by decide +kernel) (by decide +kernel)
set_option maxRecDepth 20000 in
theorem gL_law_X10_waiting : GoodIn wsL_law (wsV RL 59 RX10 yX10_waiting wsX10_waiting) := goodIn_app (goodIn_of _ (by decide +kernel)) ggL_law_X10_waiting
set_option maxRecDepth 20000 in
theorem ggL_law_X9_plain : GoodIn wsL_law wsX9_plain := goodIn_r _ [626, 27, 193, 194, 195, 26, 196, 145, 197, 198, 60, 58, 57, 199, 200, 201, 202, 59, 203, 204, 205, 18, 206, 41, 207, 147, 148, 14, 149, 136, 208, 209, 210, 211, 212, 213, 214, 215, 216, 217, 218, 219, 220, 221, 222, 223, 224, 225, 226, 227, 228, 229, 230, 231, 42, 232, 233, 234, 235, 236, 237, 238, 239, 37, 240, 241, 242, 243, 56, 244, 245, 246, 247, 248, 249, 250, 251, 578, 579, 580, 581, 659, 660, 661, 662, 663, 664, 712, 713, 714, 715, 716, 717, 718, 719, 720, 705, 706, 707, 708, 703, 704] (by decide +kernel) (by decide +kernel)
set_option maxRecDepth 20000 in
theorem gL_law_X9_plain : GoodIn wsL_law (wsV RL 60 RX9 yX9_plain wsX9_plain) := goodIn_app (goodIn_of _ (by decide +kernel)) ggL_law_X9_plain
set_option maxRecDepth 20000 in
theorem ggL_law_X10_plain : GoodIn wsL_law wsX10_plain := goodIn_r _ [630, 329, 114, 325, 326, 327, 5, 328, 155, 330, 331, 332, 333, 127, 107, 334, 335, 336, 337, 116, 108, 115, 338, 339, 340, 341, 342, 343, 344, 345, 106, 346, 347, 348, 349, 350, 351, 352, 353, 156, 157, 158, 665, 666, 667, 668, 669, 670, 671, 672, 673, 674, 675, 676, 677, 678, 679, 680, 681, 682, 683, 684, 685, 686, 687, 688, 689, 690, 691, 692, 693, 694, 695, 696, 697, 698, 699, 700, 701, 702] (by decide +kernel) (by decide +kernel)
set_option maxRecDepth 20000 in
theorem gL_law_X10_plain : GoodIn wsL_law (wsV RL 63 RX10 yX10_plain wsX10_plain) := goodIn_app (goodIn_of _ (by decide +kernel)) ggL_law_X10_plain
set_option maxRecDepth 20000 in
theorem ggL_law_X9_close : GoodIn wsL_law wsX9_close := goodIn_r _ [634, 32, 31, 635, 636, 637, 30, 638, 70, 264, 66, 436, 437, 438, 69, 439, 290, 291, 87, 440, 441, 442, 443, 416, 417, 418, 82, 419, 282, 284, 383, 384, 385, 386, 276, 278, 279, 280, 281, 283, 285, 659, 660, 661, 662, 663, 664, 721, 722, 723, 724, 725, 726, 727, 728, 729, 730, 731, 732, 733, 734, 735, 736, 744, 745, 746, 747, 748, 749, 750, 751] (by decide +kernel) (by decide +kernel)
set_option maxRecDepth 20000 in
theorem gL_law_X9_close : GoodIn wsL_law (wsV RL 64 RX9 yX9_close wsX9_close) := goodIn_app (goodIn_of _ (by decide +kernel)) ggL_law_X9_close
set_option maxRecDepth 20000 in
theorem ggL_law_X10_close : GoodIn wsL_law wsX10_close := goodIn_r _ [642, 154, 320, 312, 117, 319, 118, 338, 339, 340, 5, 341, 127, 107, 489, 490, 491, 492, 121, 665, 666, 667, 668, 669, 670, 671, 672, 673, 674, 675, 676, 677, 678, 679, 680, 681, 682, 683, 684, 685, 686, 687, 688, 689, 690, 691, 692, 693, 694, 695, 696, 697, 698, 699, 700, 701, 702] (by decide +kernel) (by decide +kernel)
set_option maxRecDepth 20000 in
theorem gL_law_X10_close : GoodIn wsL_law (wsV RL 68 RX10 yX10_close wsX10_close) := goodIn_app (goodIn_of _ (by decide +kernel)) ggL_law_X10_close
set_option maxRecDepth 20000 in
theorem ggL_law_X9_clear : GoodIn wsL_law wsX9_clear := goodIn_r _ [646, 15, 23, 27, 32, 146, 147, 148, 14, 149, 136, 647, 648, 649, 650, 651, 652, 653, 22, 654, 49, 141, 142, 143, 26, 144, 145, 659, 660, 661, 662, 663, 664, 703, 704, 709, 710, 711, 712, 713, 714, 715, 716, 717, 718, 719, 720] (by decide +kernel) (by decide +kernel)
set_option maxRecDepth 20000 in
theorem gL_law_X9_clear : GoodIn wsL_law (wsV RL 69 RX9 yX9_clear wsX9_clear) := goodIn_app (goodIn_of _ (by decide +kernel)) ggL_law_X9_clear
set_option maxRecDepth 20000 in
theorem ggL_law_X10_clear : GoodIn wsL_law wsX10_clear := goodIn_r _ [658, 127, 154, 155, 111, 665, 666, 667, 668, 669, 670, 671, 672, 673, 674, 675, 676, 677, 678, 679, 680, 681, 682, 683, 684, 685, 686, 687, 688, 689, 690, 691, 692, 693, 694, 695, 696, 697, 698, 699, 700, 701, 702] (by decide +kernel) (by decide +kernel)
set_option maxRecDepth 20000 in
theorem gL_law_X10_clear : GoodIn wsL_law (wsV RL 72 RX10 yX10_clear wsX10_clear) := goodIn_app (goodIn_of _ (by decide +kernel)) ggL_law_X10_clear
theorem dL_law_0 : decode cL_law 0 = .ok (.new 7, 3) := by decide +kernel
theorem dL_law_3 : decode cL_law 3 = .ok (.dup, 1) := by decide +kernel
theorem dL_law_4 : decode cL_law 4 = .ok (.invokespecial 9, 3) := by decide +kernel
theorem dL_law_7 : decode cL_law 7 = .ok (.astore_n 1, 1) := by decide +kernel
theorem dL_law_8 : decode cL_law 8 = .ok (.new 10, 3) := by decide +kernel
theorem dL_law_11 : decode cL_law 11 = .ok (.dup, 1) := by decide +kernel
theorem dL_law_12 : decode cL_law 12 = .ok (.invokespecial 12, 3) := by decide +kernel
theorem dL_law_15 : decode cL_law 15 = .ok (.astore_n 2, 1) := by decide +kernel
theorem dL_law_16 : decode cL_law 16 = .ok (.iconst 0, 1) := by decide +kernel
theorem dL_law_17 : decode cL_law 17 = .ok (.istore_n 3, 1) := by decide +kernel
theorem dL_law_18 : decode cL_law 18 = .ok (.iload_n 3, 1) := by decide +kernel
theorem dL_law_19 : decode cL_law 19 = .ok (.aload_n 0, 1) := by decide +kernel
theorem dL_law_20 : decode cL_law 20 = .ok (.arraylength, 1) := by decide +kernel
theorem dL_law_21 : decode cL_law 21 = .ok (.iconst 5, 1) := by decide +kernel
theorem dL_law_22 : decode cL_law 22 = .ok (.isub, 1) := by decide +kernel
theorem dL_law_23 : decode cL_law 23 = .ok (.if_icmp .gt 455, 3) := by decide +kernel
theorem dL_law_26 : decode cL_law 26 = .ok (.aload_n 0, 1) := by decide +kernel
theorem dL_law_27 : decode cL_law 27 = .ok (.iload_n 3, 1) := by decide +kernel
theorem dL_law_28 : decode cL_law 28 = .ok (.iaload, 1) := by decide +kernel
theorem dL_law_29 : decode cL_law 29 = .ok (.bipush 15, 2) := by decide +kernel
theorem dL_law_31 : decode cL_law 31 = .ok (.iand, 1) := by decide +kernel
theorem dL_law_32 : decode cL_law 32 = .ok (.tableswitch 440 0 13 #[72, 95, 128, 197, 220, 243, 266, 289, 322, 345, 368, 391, 414, 427], 72) := by decide +kernel
theorem dL_law_104 : decode cL_law 104 = .ok (.aload_n 1, 1) := by decide +kernel
theorem dL_law_105 : decode cL_law 105 = .ok (.aload_n 0, 1) := by decide +kernel
theorem dL_law_106 : decode cL_law 106 = .ok (.iload_n 3, 1) := by decide +kernel
theorem dL_law_107 : decode cL_law 107 = .ok (.iconst 1, 1) := by decide +kernel
theorem dL_law_108 : decode cL_law 108 = .ok (.iadd, 1) := by decide +kernel
theorem dL_law_109 : decode cL_law 109 = .ok (.iaload, 1) := by decide +kernel
theorem dL_law_110 : decode cL_law 110 = .ok (.invokevirtual 13, 3) := by decide +kernel
theorem dL_law_113 : decode cL_law 113 = .ok (.aload_n 2, 1) := by decide +kernel
theorem dL_law_114 : decode cL_law 114 = .ok (.aload_n 0, 1) := by decide +kernel
theorem dL_law_115 : decode cL_law 115 = .ok (.iload_n 3, 1) := by decide +kernel
theorem dL_law_116 : decode cL_law 116 = .ok (.iconst 1, 1) := by decide +kernel
theorem dL_law_117 : decode cL_law 117 = .ok (.iadd, 1) := by decide +kernel
theorem dL_law_118 : decode cL_law 118 = .ok (.iaload, 1) := by decide +kernel
theorem dL_law_119 : decode cL_law 119 = .ok (.invokevirtual 17, 3) := by decide +kernel
theorem dL_law_122 : decode cL_law 122 = .ok (.if_icmp .eq 350, 3) := by decide +kernel
theorem dL_law_125 : decode cL_law 125 = .ok (.iconst 0, 1) := by decide +kernel
theorem dL_law_126 : decode cL_law 126 = .ok (.ireturn, 1) := by decide +kernel
theorem dL_law_127 : decode cL_law 127 = .ok (.aload_n 1, 1) := by decide +kernel
theorem dL_law_128 : decode cL_law 128 = .ok (.aload_n 0, 1) := by decide +kernel
theorem dL_law_129 : decode cL_law 129 = .ok (.iload_n 3, 1) := by decide +kernel
theorem dL_law_130 : decode cL_law 130 = .ok (.iconst 1, 1) := by decide +kernel
theorem dL_law_131 : decode cL_law 131 = .ok (.iadd, 1) := by decide +kernel
theorem dL_law_132 : decode cL_law 132 = .ok (.iaload, 1) := by decide +kernel
theorem dL_law_133 : decode cL_law 133 = .ok (.aload_n 0, 1) := by decide +kernel
theorem dL_law_134 : decode cL_law 134 = .ok (.iload_n 3, 1) := by decide +kernel
theorem dL_law_135 : decode cL_law 135 = .ok (.iconst 2, 1) := by decide +kernel
theorem dL_law_136 : decode cL_law 136 = .ok (.iadd, 1) := by decide +kernel
theorem dL_law_137 : decode cL_law 137 = .ok (.iaload, 1) := by decide +kernel
theorem dL_law_138 : decode cL_law 138 = .ok (.invokevirtual 18, 3) := by decide +kernel
theorem dL_law_141 : decode cL_law 141 = .ok (.aload_n 2, 1) := by decide +kernel
theorem dL_law_142 : decode cL_law 142 = .ok (.aload_n 0, 1) := by decide +kernel
theorem dL_law_143 : decode cL_law 143 = .ok (.iload_n 3, 1) := by decide +kernel
theorem dL_law_144 : decode cL_law 144 = .ok (.iconst 1, 1) := by decide +kernel
theorem dL_law_145 : decode cL_law 145 = .ok (.iadd, 1) := by decide +kernel
theorem dL_law_146 : decode cL_law 146 = .ok (.iaload, 1) := by decide +kernel
theorem dL_law_147 : decode cL_law 147 = .ok (.aload_n 0, 1) := by decide +kernel
theorem dL_law_148 : decode cL_law 148 = .ok (.iload_n 3, 1) := by decide +kernel
theorem dL_law_149 : decode cL_law 149 = .ok (.iconst 2, 1) := by decide +kernel
theorem dL_law_150 : decode cL_law 150 = .ok (.iadd, 1) := by decide +kernel
theorem dL_law_151 : decode cL_law 151 = .ok (.iaload, 1) := by decide +kernel
theorem dL_law_152 : decode cL_law 152 = .ok (.invokevirtual 22, 3) := by decide +kernel
theorem dL_law_155 : decode cL_law 155 = .ok (.if_icmp .eq 317, 3) := by decide +kernel
theorem dL_law_158 : decode cL_law 158 = .ok (.iconst 0, 1) := by decide +kernel
theorem dL_law_159 : decode cL_law 159 = .ok (.ireturn, 1) := by decide +kernel
theorem dL_law_160 : decode cL_law 160 = .ok (.aload_n 1, 1) := by decide +kernel
theorem dL_law_161 : decode cL_law 161 = .ok (.aload_n 0, 1) := by decide +kernel
theorem dL_law_162 : decode cL_law 162 = .ok (.iload_n 3, 1) := by decide +kernel
theorem dL_law_163 : decode cL_law 163 = .ok (.iconst 1, 1) := by decide +kernel
theorem dL_law_164 : decode cL_law 164 = .ok (.iadd, 1) := by decide +kernel
theorem dL_law_165 : decode cL_law 165 = .ok (.iaload, 1) := by decide +kernel
theorem dL_law_166 : decode cL_law 166 = .ok (.aload_n 0, 1) := by decide +kernel
theorem dL_law_167 : decode cL_law 167 = .ok (.iload_n 3, 1) := by decide +kernel
theorem dL_law_168 : decode cL_law 168 = .ok (.iconst 2, 1) := by decide +kernel
theorem dL_law_169 : decode cL_law 169 = .ok (.iadd, 1) := by decide +kernel
theorem dL_law_170 : decode cL_law 170 = .ok (.iaload, 1) := by decide +kernel
theorem dL_law_171 : decode cL_law 171 = .ok (.aload_n 0, 1) := by decide +kernel
theorem dL_law_172 : decode cL_law 172 = .ok (.iload_n 3, 1) := by decide +kernel
theorem dL_law_173 : decode cL_law 173 = .ok (.iconst 3, 1) := by decide +kernel
theorem dL_law_174 : decode cL_law 174 = .ok (.iadd, 1) := by decide +kernel
theorem dL_law_175 : decode cL_law 175 = .ok (.iaload, 1) := by decide +kernel
theorem dL_law_176 : decode cL_law 176 = .ok (.aload_n 0, 1) := by decide +kernel
theorem dL_law_177 : decode cL_law 177 = .ok (.iload_n 3, 1) := by decide +kernel
theorem dL_law_178 : decode cL_law 178 = .ok (.iconst 4, 1) := by decide +kernel
theorem dL_law_179 : decode cL_law 179 = .ok (.iadd, 1) := by decide +kernel
theorem dL_law_180 : decode cL_law 180 = .ok (.iaload, 1) := by decide +kernel
theorem dL_law_181 : decode cL_law 181 = .ok (.ifCond .eq 7, 3) := by decide +kernel
theorem dL_law_184 : decode cL_law 184 = .ok (.iconst 1, 1) := by decide +kernel
theorem dL_law_185 : decode cL_law 185 = .ok (.goto 4, 3) := by decide +kernel
theorem dL_law_188 : decode cL_law 188 = .ok (.iconst 0, 1) := by decide +kernel
theorem dL_law_189 : decode cL_law 189 = .ok (.invokevirtual 23, 3) := by decide +kernel
theorem dL_law_192 : decode cL_law 192 = .ok (.aload_n 2, 1) := by decide +kernel
theorem dL_law_193 : decode cL_law 193 = .ok (.aload_n 0, 1) := by decide +kernel
theorem dL_law_194 : decode cL_law 194 = .ok (.iload_n 3, 1) := by decide +kernel
theorem dL_law_195 : decode cL_law 195 = .ok (.iconst 1, 1) := by decide +kernel
theorem dL_law_196 : decode cL_law 196 = .ok (.iadd, 1) := by decide +kernel
theorem dL_law_197 : decode cL_law 197 = .ok (.iaload, 1) := by decide +kernel
theorem dL_law_198 : decode cL_law 198 = .ok (.aload_n 0, 1) := by decide +kernel
theorem dL_law_199 : decode cL_law 199 = .ok (.iload_n 3, 1) := by decide +kernel
theorem dL_law_200 : decode cL_law 200 = .ok (.iconst 2, 1) := by decide +kernel
theorem dL_law_201 : decode cL_law 201 = .ok (.iadd, 1) := by decide +kernel
theorem dL_law_202 : decode cL_law 202 = .ok (.iaload, 1) := by decide +kernel
theorem dL_law_203 : decode cL_law 203 = .ok (.aload_n 0, 1) := by decide +kernel
theorem dL_law_204 : decode cL_law 204 = .ok (.iload_n 3, 1) := by decide +kernel
theorem dL_law_205 : decode cL_law 205 = .ok (.iconst 3, 1) := by decide +kernel
theorem dL_law_206 : decode cL_law 206 = .ok (.iadd, 1) := by decide +kernel
theorem dL_law_207 : decode cL_law 207 = .ok (.iaload, 1) := by decide +kernel
theorem dL_law_208 : decode cL_law 208 = .ok (.aload_n 0, 1) := by decide +kernel
theorem dL_law_209 : decode cL_law 209 = .ok (.iload_n 3, 1) := by decide +kernel
theorem dL_law_210 : decode cL_law 210 = .ok (.iconst 4, 1) := by decide +kernel
theorem dL_law_211 : decode cL_law 211 = .ok (.iadd, 1) := by decide +kernel
theorem dL_law_212 : decode cL_law 212 = .ok (.iaload, 1) := by decide +kernel
theorem dL_law_213 : decode cL_law 213 = .ok (.ifCond .eq 7, 3) := by decide +kernel
theorem dL_law_216 : decode cL_law 216 = .ok (.iconst 1, 1) := by decide +kernel
theorem dL_law_217 : decode cL_law 217 = .ok (.goto 4, 3) := by decide +kernel
theorem dL_law_220 : decode cL_law 220 = .ok (.iconst 0, 1) := by decide +kernel
theorem dL_law_221 : decode cL_law 221 = .ok (.invokevirtual 27, 3) := by decide +kernel
theorem dL_law_224 : decode cL_law 224 = .ok (.if_icmp .eq 248, 3) := by decide +kernel
theorem dL_law_227 : decode cL_law 227 = .ok (.iconst 0, 1) := by decide +kernel
theorem dL_law_228 : decode cL_law 228 = .ok (.ireturn, 1) := by decide +kernel
theorem dL_law_229 : decode cL_law 229 = .ok (.aload_n 1, 1) := by decide +kernel
theorem dL_law_230 : decode cL_law 230 = .ok (.aload_n 0, 1) := by decide +kernel
theorem dL_law_231 : decode cL_law 231 = .ok (.iload_n 3, 1) := by decide +kernel
theorem dL_law_232 : decode cL_law 232 = .ok (.iconst 1, 1) := by decide +kernel
theorem dL_law_233 : decode cL_law 233 = .ok (.iadd, 1) := by decide +kernel
theorem dL_law_234 : decode cL_law 234 = .ok (.iaload, 1) := by decide +kernel
theorem dL_law_235 : decode cL_law 235 = .ok (.invokevirtual 28, 3) := by decide +kernel
theorem dL_law_238 : decode cL_law 238 = .ok (.aload_n 2, 1) := by decide +kernel
theorem dL_law_239 : decode cL_law 239 = .ok (.aload_n 0, 1) := by decide +kernel
theorem dL_law_240 : decode cL_law 240 = .ok (.iload_n 3, 1) := by decide +kernel
theorem dL_law_241 : decode cL_law 241 = .ok (.iconst 1, 1) := by decide +kernel
theorem dL_law_242 : decode cL_law 242 = .ok (.iadd, 1) := by decide +kernel
theorem dL_law_243 : decode cL_law 243 = .ok (.iaload, 1) := by decide +kernel
theorem dL_law_244 : decode cL_law 244 = .ok (.invokevirtual 31, 3) := by decide +kernel
theorem dL_law_247 : decode cL_law 247 = .ok (.if_icmp .eq 225, 3) := by decide +kernel
theorem dL_law_250 : decode cL_law 250 = .ok (.iconst 0, 1) := by decide +kernel
theorem dL_law_251 : decode cL_law 251 = .ok (.ireturn, 1) := by decide +kernel
theorem dL_law_252 : decode cL_law 252 = .ok (.aload_n 1, 1) := by decide +kernel
theorem dL_law_253 : decode cL_law 253 = .ok (.aload_n 0, 1) := by decide +kernel
theorem dL_law_254 : decode cL_law 254 = .ok (.iload_n 3, 1) := by decide +kernel
theorem dL_law_255 : decode cL_law 255 = .ok (.iconst 1, 1) := by decide +kernel
theorem dL_law_256 : decode cL_law 256 = .ok (.iadd, 1) := by decide +kernel
theorem dL_law_257 : decode cL_law 257 = .ok (.iaload, 1) := by decide +kernel
theorem dL_law_258 : decode cL_law 258 = .ok (.invokevirtual 32, 3) := by decide +kernel
theorem dL_law_261 : decode cL_law 261 = .ok (.aload_n 2, 1) := by decide +kernel
theorem dL_law_262 : decode cL_law 262 = .ok (.aload_n 0, 1) := by decide +kernel
theorem dL_law_263 : decode cL_law 263 = .ok (.iload_n 3, 1) := by decide +kernel
theorem dL_law_264 : decode cL_law 264 = .ok (.iconst 1, 1) := by decide +kernel
theorem dL_law_265 : decode cL_law 265 = .ok (.iadd, 1) := by decide +kernel
theorem dL_law_266 : decode cL_law 266 = .ok (.iaload, 1) := by decide +kernel
theorem dL_law_267 : decode cL_law 267 = .ok (.invokevirtual 35, 3) := by decide +kernel
theorem dL_law_270 : decode cL_law 270 = .ok (.if_icmp .eq 202, 3) := by decide +kernel
theorem dL_law_273 : decode cL_law 273 = .ok (.iconst 0, 1) := by decide +kernel
theorem dL_law_274 : decode cL_law 274 = .ok (.ireturn, 1) := by decide +kernel
theorem dL_law_275 : decode cL_law 275 = .ok (.aload_n 1, 1) := by decide +kernel
theorem dL_law_276 : decode cL_law 276 = .ok (.aload_n 0, 1) := by decide +kernel
theorem dL_law_277 : decode cL_law 277 = .ok (.iload_n 3, 1) := by decide +kernel
theorem dL_law_278 : decode cL_law 278 = .ok (.iconst 1, 1) := by decide +kernel
theorem dL_law_279 : decode cL_law 279 = .ok (.iadd, 1) := by decide +kernel
theorem dL_law_280 : decode cL_law 280 = .ok (.iaload, 1) := by decide +kernel
theorem dL_law_281 : decode cL_law 281 = .ok (.invokevirtual 36, 3) := by decide +kernel
theorem dL_law_284 : decode cL_law 284 = .ok (.aload_n 2, 1) := by decide +kernel
theorem dL_law_285 : decode cL_law 285 = .ok (.aload_n 0, 1) := by decide +kernel
theorem dL_law_286 : decode cL_law 286 = .ok (.iload_n 3, 1) := by decide +kernel
theorem dL_law_287 : decode cL_law 287 = .ok (.iconst 1, 1) := by decide +kernel
theorem dL_law_288 : decode cL_law 288 = .ok (.iadd, 1) := by decide +kernel
theorem dL_law_289 : decode cL_law 289 = .ok (.iaload, 1) := by decide +kernel
theorem dL_law_290 : decode cL_law 290 = .ok (.invokevirtual 39, 3) := by decide +kernel
theorem dL_law_293 : decode cL_law 293 = .ok (.if_icmp .eq 179, 3) := by decide +kernel
theorem dL_law_296 : decode cL_law 296 = .ok (.iconst 0, 1) := by decide +kernel
theorem dL_law_297 : decode cL_law 297 = .ok (.ireturn, 1) := by decide +kernel
theorem dL_law_298 : decode cL_law 298 = .ok (.aload_n 1, 1) := by decide +kernel
theorem dL_law_299 : decode cL_law 299 = .ok (.aload_n 0, 1) := by decide +kernel
theorem dL_law_300 : decode cL_law 300 = .ok (.iload_n 3, 1) := by decide +kernel
theorem dL_law_301 : decode cL_law 301 = .ok (.iconst 1, 1) := by decide +kernel
theorem dL_law_302 : decode cL_law 302 = .ok (.iadd, 1) := by decide +kernel
theorem dL_law_303 : decode cL_law 303 = .ok (.iaload, 1) := by decide +kernel
theorem dL_law_304 : decode cL_law 304 = .ok (.invokevirtual 40, 3) := by decide +kernel
theorem dL_law_307 : decode cL_law 307 = .ok (.aload_n 2, 1) := by decide +kernel
theorem dL_law_308 : decode cL_law 308 = .ok (.aload_n 0, 1) := by decide +kernel
theorem dL_law_309 : decode cL_law 309 = .ok (.iload_n 3, 1) := by decide +kernel
theorem dL_law_310 : decode cL_law 310 = .ok (.iconst 1, 1) := by decide +kernel
theorem dL_law_311 : decode cL_law 311 = .ok (.iadd, 1) := by decide +kernel
theorem dL_law_312 : decode cL_law 312 = .ok (.iaload, 1) := by decide +kernel
theorem dL_law_313 : decode cL_law 313 = .ok (.invokevirtual 43, 3) := by decide +kernel
theorem dL_law_316 : decode cL_law 316 = .ok (.if_icmp .eq 156, 3) := by decide +kernel
theorem dL_law_319 : decode cL_law 319 = .ok (.iconst 0, 1) := by decide +kernel
theorem dL_law_320 : decode cL_law 320 = .ok (.ireturn, 1) := by decide +kernel
theorem dL_law_321 : decode cL_law 321 = .ok (.aload_n 1, 1) := by decide +kernel
theorem dL_law_322 : decode cL_law 322 = .ok (.aload_n 0, 1) := by decide +kernel
theorem dL_law_323 : decode cL_law 323 = .ok (.iload_n 3, 1) := by decide +kernel
theorem dL_law_324 : decode cL_law 324 = .ok (.iconst 1, 1) := by decide +kernel
theorem dL_law_325 : decode cL_law 325 = .ok (.iadd, 1) := by decide +kernel
theorem dL_law_326 : decode cL_law 326 = .ok (.iaload, 1) := by decide +kernel
theorem dL_law_327 : decode cL_law 327 = .ok (.aload_n 0, 1) := by decide +kernel
theorem dL_law_328 : decode cL_law 328 = .ok (.iload_n 3, 1) := by decide +kernel
theorem dL_law_329 : decode cL_law 329 = .ok (.iconst 2, 1) := by decide +kernel
theorem dL_law_330 : decode cL_law 330 = .ok (.iadd, 1) := by decide +kernel
theorem dL_law_331 : decode cL_law 331 = .ok (.iaload, 1) := by decide +kernel
theorem dL_law_332 : decode cL_law 332 = .ok (.invokevirtual 44, 3) := by decide +kernel
theorem dL_law_335 : decode cL_law 335 = .ok (.aload_n 2, 1) := by decide +kernel
theorem dL_law_336 : decode cL_law 336 = .ok (.aload_n 0, 1) := by decide +kernel
theorem dL_law_337 : decode cL_law 337 = .ok (.iload_n 3, 1) := by decide +kernel
theorem dL_law_338 : decode cL_law 338 = .ok (.iconst 1, 1) := by decide +kernel
theorem dL_law_339 : decode cL_law 339 = .ok (.iadd, 1) := by decide +kernel
theorem dL_law_340 : decode cL_law 340 = .ok (.iaload, 1) := by decide +kernel
theorem dL_law_341 : decode cL_law 341 = .ok (.aload_n 0, 1) := by decide +kernel
theorem dL_law_342 : decode cL_law 342 = .ok (.iload_n 3, 1) := by decide +kernel
theorem dL_law_343 : decode cL_law 343 = .ok (.iconst 2, 1) := by decide +kernel
theorem dL_law_344 : decode cL_law 344 = .ok (.iadd, 1) := by decide +kernel
theorem dL_law_345 : decode cL_law 345 = .ok (.iaload, 1) := by decide +kernel
theorem dL_law_346 : decode cL_law 346 = .ok (.invokevirtual 47, 3) := by decide +kernel
theorem dL_law_349 : decode cL_law 349 = .ok (.if_icmp .eq 123, 3) := by decide +kernel
theorem dL_law_352 : decode cL_law 352 = .ok (.iconst 0, 1) := by decide +kernel
theorem dL_law_353 : decode cL_law 353 = .ok (.ireturn, 1) := by decide +kernel
theorem dL_law_354 : decode cL_law 354 = .ok (.aload_n 1, 1) := by decide +kernel
theorem dL_law_355 : decode cL_law 355 = .ok (.aload_n 0, 1) := by decide +kernel
theorem dL_law_356 : decode cL_law 356 = .ok (.iload_n 3, 1) := by decide +kernel
theorem dL_law_357 : decode cL_law 357 = .ok (.iconst 1, 1) := by decide +kernel
theorem dL_law_358 : decode cL_law 358 = .ok (.iadd, 1) := by decide +kernel
theorem dL_law_359 : decode cL_law 359 = .ok (.iaload, 1) := by decide +kernel
theorem dL_law_360 : decode cL_law 360 = .ok (.invokevirtual 48, 3) := by decide +kernel
theorem dL_law_363 : decode cL_law 363 = .ok (.aload_n 2, 1) := by decide +kernel
theorem dL_law_364 : decode cL_law 364 = .ok (.aload_n 0, 1) := by decide +kernel
theorem dL_law_365 : decode cL_law 365 = .ok (.iload_n 3, 1) := by decide +kernel
theorem dL_law_366 : decode cL_law 366 = .ok (.iconst 1, 1) := by decide +kernel
theorem dL_law_367 : decode cL_law 367 = .ok (.iadd, 1) := by decide +kernel
theorem dL_law_368 : decode cL_law 368 = .ok (.iaload, 1) := by decide +kernel
theorem dL_law_369 : decode cL_law 369 = .ok (.invokevirtual 51, 3) := by decide +kernel
theorem dL_law_372 : decode cL_law 372 = .ok (.if_icmp .eq 100, 3) := by decide +kernel
theorem dL_law_375 : decode cL_law 375 = .ok (.iconst 0, 1) := by decide +kernel
theorem dL_law_376 : decode cL_law 376 = .ok (.ireturn, 1) := by decide +kernel
theorem dL_law_377 : decode cL_law 377 = .ok (.aload_n 1, 1) := by decide +kernel
theorem dL_law_378 : decode cL_law 378 = .ok (.aload_n 0, 1) := by decide +kernel
theorem dL_law_379 : decode cL_law 379 = .ok (.iload_n 3, 1) := by decide +kernel
theorem dL_law_380 : decode cL_law 380 = .ok (.iconst 1, 1) := by decide +kernel
theorem dL_law_381 : decode cL_law 381 = .ok (.iadd, 1) := by decide +kernel
theorem dL_law_382 : decode cL_law 382 = .ok (.iaload, 1) := by decide +kernel
theorem dL_law_383 : decode cL_law 383 = .ok (.invokevirtual 52, 3) := by decide +kernel
theorem dL_law_386 : decode cL_law 386 = .ok (.aload_n 2, 1) := by decide +kernel
theorem dL_law_387 : decode cL_law 387 = .ok (.aload_n 0, 1) := by decide +kernel
theorem dL_law_388 : decode cL_law 388 = .ok (.iload_n 3, 1) := by decide +kernel
theorem dL_law_389 : decode cL_law 389 = .ok (.iconst 1, 1) := by decide +kernel
theorem dL_law_390 : decode cL_law 390 = .ok (.iadd, 1) := by decide +kernel
theorem dL_law_391 : decode cL_law 391 = .ok (.iaload, 1) := by decide +kernel
theorem dL_law_392 : decode cL_law 392 = .ok (.invokevirtual 55, 3) := by decide +kernel
theorem dL_law_395 : decode cL_law 395 = .ok (.if_icmp .eq 77, 3) := by decide +kernel
theorem dL_law_398 : decode cL_law 398 = .ok (.iconst 0, 1) := by decide +kernel
theorem dL_law_399 : decode cL_law 399 = .ok (.ireturn, 1) := by decide +kernel
theorem dL_law_400 : decode cL_law 400 = .ok (.aload_n 1, 1) := by decide +kernel
theorem dL_law_401 : decode cL_law 401 = .ok (.aload_n 0, 1) := by decide +kernel
theorem dL_law_402 : decode cL_law 402 = .ok (.iload_n 3, 1) := by decide +kernel
theorem dL_law_403 : decode cL_law 403 = .ok (.iconst 1, 1) := by decide +kernel
theorem dL_law_404 : decode cL_law 404 = .ok (.iadd, 1) := by decide +kernel
theorem dL_law_405 : decode cL_law 405 = .ok (.iaload, 1) := by decide +kernel
theorem dL_law_406 : decode cL_law 406 = .ok (.invokevirtual 56, 3) := by decide +kernel
theorem dL_law_409 : decode cL_law 409 = .ok (.aload_n 2, 1) := by decide +kernel
theorem dL_law_410 : decode cL_law 410 = .ok (.aload_n 0, 1) := by decide +kernel
