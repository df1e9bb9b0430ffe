theorem dX10_alike_11 : decode cX10_alike 11 = .ok (.aload_n 0, 1) := by decide +kernel
theorem dX10_alike_12 : decode cX10_alike 12 = .ok (.getfield 7, 3) := by decide +kernel
theorem dX10_alike_15 : decode cX10_alike 15 = .ok (.iload_n 1, 1) := by decide +kernel
theorem dX10_alike_16 : decode cX10_alike 16 = .ok (.iload 4, 2) := by decide +kernel
theorem dX10_alike_18 : decode cX10_alike 18 = .ok (.iadd, 1) := by decide +kernel
theorem dX10_alike_19 : decode cX10_alike 19 = .ok (.iaload, 1) := by decide +kernel
theorem dX10_alike_20 : decode cX10_alike 20 = .ok (.aload_n 0, 1) := by decide +kernel
theorem dX10_alike_21 : decode cX10_alike 21 = .ok (.getfield 7, 3) := by decide +kernel
theorem dX10_alike_24 : decode cX10_alike 24 = .ok (.iload_n 1, 1) := by decide +kernel
theorem dX10_alike_25 : decode cX10_alike 25 = .ok (.iload 4, 2) := by decide +kernel
theorem dX10_alike_27 : decode cX10_alike 27 = .ok (.iadd, 1) := by decide +kernel
theorem dX10_alike_28 : decode cX10_alike 28 = .ok (.iload_n 3, 1) := by decide +kernel
theorem dX10_alike_29 : decode cX10_alike 29 = .ok (.isub, 1) := by decide +kernel
theorem dX10_alike_30 : decode cX10_alike 30 = .ok (.iaload, 1) := by decide +kernel
theorem dX10_alike_31 : decode cX10_alike 31 = .ok (.if_icmp .ne 9, 3) := by decide +kernel
theorem dX10_alike_34 : decode cX10_alike 34 = .ok (.iinc 4 1, 3) := by decide +kernel
theorem dX10_alike_37 : decode cX10_alike 37 = .ok (.goto (-34), 3) := by decide +kernel
theorem dX10_alike_40 : decode cX10_alike 40 = .ok (.iload 4, 2) := by decide +kernel
theorem dX10_alike_42 : decode cX10_alike 42 = .ok (.ireturn, 1) := by decide +kernel
theorem dX10_lay_0 : decode cX10_lay 0 = .ok (.aload_n 0, 1) := by decide +kernel
theorem dX10_lay_1 : decode cX10_lay 1 = .ok (.getfield 36, 3) := by decide +kernel
theorem dX10_lay_4 : decode cX10_lay 4 = .ok (.aload_n 0, 1) := by decide +kernel
theorem dX10_lay_5 : decode cX10_lay 5 = .ok (.getfield 89, 3) := by decide +kernel
theorem dX10_lay_8 : decode cX10_lay 8 = .ok (.iload_n 1, 1) := by decide +kernel
theorem dX10_lay_9 : decode cX10_lay 9 = .ok (.iastore, 1) := by decide +kernel
theorem dX10_lay_10 : decode cX10_lay 10 = .ok (.aload_n 0, 1) := by decide +kernel
theorem dX10_lay_11 : decode cX10_lay 11 = .ok (.dup, 1) := by decide +kernel
theorem dX10_lay_12 : decode cX10_lay 12 = .ok (.getfield 89, 3) := by decide +kernel
theorem dX10_lay_15 : decode cX10_lay 15 = .ok (.iconst 1, 1) := by decide +kernel
theorem dX10_lay_16 : decode cX10_lay 16 = .ok (.iadd, 1) := by decide +kernel
theorem dX10_lay_17 : decode cX10_lay 17 = .ok (.putfield 89, 3) := by decide +kernel
theorem dX10_lay_20 : decode cX10_lay 20 = .ok (.return_, 1) := by decide +kernel
set_option maxRecDepth 20000 in
theorem ggX10_packAll_X10_many : GoodIn wsX10_packAll wsX10_many := goodIn_r _ [7, 8, 9, 35, 36, 37, 38, 39, 40, 41, 42, 43, 44, 45, 46, 47, 48, 49, 50, 51, 52, 53, 54, 55, 56, 57, 58, 59, 60, 61, 62, 63, 64, 65, 66, 67, 68, 69, 70, 71, 72] (by decide +kernel) (by decide +kernel)
set_option maxRecDepth 20000 in
theorem gX10_packAll_X10_many : GoodIn wsX10_packAll (wsV RX10 92 RX10 yX10_many wsX10_many) := goodIn_app (goodIn_of _ (by decide +kernel)) ggX10_packAll_X10_many
set_option maxRecDepth 20000 in
theorem ggX10_packAll_X10_packOne : GoodIn wsX10_packAll wsX10_packOne := goodIn_r _ [13, 9, 14, 15, 16, 2, 17, 18, 19, 6, 20, 8, 21, 22, 23, 24, 25, 26, 27, 28, 29, 30, 31, 32, 33, 34, 35, 36, 37, 38, 39, 40, 41, 42, 43, 44, 45, 46, 47, 48, 49, 50, 51, 52, 53, 54, 55, 56, 57, 58, 59, 60, 61, 62, 63, 64, 65, 66, 67, 68, 69, 70, 71, 72] (by decide +kernel) (by decide +kernel)
set_option maxRecDepth 20000 in
theorem gX10_packAll_X10_packOne : GoodIn wsX10_packAll (wsV RX10 96 RX10 yX10_packOne wsX10_packOne) := goodIn_app (goodIn_of _ (by decide +kernel)) ggX10_packAll_X10_packOne
theorem dX10_packAll_0 : decode cX10_packAll 0 = .ok (.aload_n 0, 1) := by decide +kernel
theorem dX10_packAll_1 : decode cX10_packAll 1 = .ok (.getfield 86, 3) := by decide +kernel
theorem dX10_packAll_4 : decode cX10_packAll 4 = .ok (.ifCond .eq 4, 3) := by decide +kernel
theorem dX10_packAll_7 : decode cX10_packAll 7 = .ok (.return_, 1) := by decide +kernel
theorem dX10_packAll_8 : decode cX10_packAll 8 = .ok (.aload_n 0, 1) := by decide +kernel
theorem dX10_packAll_9 : decode cX10_packAll 9 = .ok (.iconst 1, 1) := by decide +kernel
theorem dX10_packAll_10 : decode cX10_packAll 10 = .ok (.putfield 86, 3) := by decide +kernel
theorem dX10_packAll_13 : decode cX10_packAll 13 = .ok (.aload_n 0, 1) := by decide +kernel
theorem dX10_packAll_14 : decode cX10_packAll 14 = .ok (.iconst 0, 1) := by decide +kernel
theorem dX10_packAll_15 : decode cX10_packAll 15 = .ok (.putfield 89, 3) := by decide +kernel
theorem dX10_packAll_18 : decode cX10_packAll 18 = .ok (.iconst 0, 1) := by decide +kernel
theorem dX10_packAll_19 : decode cX10_packAll 19 = .ok (.istore_n 1, 1) := by decide +kernel
theorem dX10_packAll_20 : decode cX10_packAll 20 = .ok (.iload_n 1, 1) := by decide +kernel
theorem dX10_packAll_21 : decode cX10_packAll 21 = .ok (.aload_n 0, 1) := by decide +kernel
theorem dX10_packAll_22 : decode cX10_packAll 22 = .ok (.invokevirtual 92, 3) := by decide +kernel
theorem dX10_packAll_25 : decode cX10_packAll 25 = .ok (.if_icmp .ge 14, 3) := by decide +kernel
theorem dX10_packAll_28 : decode cX10_packAll 28 = .ok (.aload_n 0, 1) := by decide +kernel
theorem dX10_packAll_29 : decode cX10_packAll 29 = .ok (.iload_n 1, 1) := by decide +kernel
theorem dX10_packAll_30 : decode cX10_packAll 30 = .ok (.invokevirtual 96, 3) := by decide +kernel
theorem dX10_packAll_33 : decode cX10_packAll 33 = .ok (.iinc 1 1, 3) := by decide +kernel
theorem dX10_packAll_36 : decode cX10_packAll 36 = .ok (.goto (-16), 3) := by decide +kernel
theorem dX10_packAll_39 : decode cX10_packAll 39 = .ok (.return_, 1) := by decide +kernel
set_option maxRecDepth 20000 in
theorem ggX10_packOne_X10_lengthOf : GoodIn wsX10_packOne wsX10_lengthOf := goodIn_r _ [10, 11, 1, 26, 27, 28, 29, 30, 31, 32, 33, 34, 35, 36, 37, 38, 39, 40, 41, 42, 43, 44, 45, 46, 47, 48, 49, 50, 51, 52, 53, 54, 55, 56, 57, 58, 59, 60, 61, 62, 63] (by decide +kernel) (by decide +kernel)
set_option maxRecDepth 20000 in
theorem gX10_packOne_X10_lengthOf : GoodIn wsX10_packOne (wsV RX10 100 RX10 yX10_lengthOf wsX10_lengthOf) := goodIn_app (goodIn_of _ (by decide +kernel)) ggX10_packOne_X10_lengthOf
set_option maxRecDepth 20000 in
theorem ggX10_packOne_X10_alike : GoodIn wsX10_packOne wsX10_alike := goodIn_r _ [15, 16, 26, 27, 28, 29, 30, 31, 32, 33, 34, 35, 36, 37, 38, 39, 40, 41, 42, 43, 44, 45, 46, 47, 48, 49, 50, 51, 52, 53, 54, 55, 56, 57, 58, 59, 60, 61, 62, 63] (by decide +kernel) (by decide +kernel)
set_option maxRecDepth 20000 in
theorem gX10_packOne_X10_alike : GoodIn wsX10_packOne (wsV RX10 104 RX10 yX10_alike wsX10_alike) := goodIn_app (goodIn_of _ (by decide +kernel)) ggX10_packOne_X10_alike
set_option maxRecDepth 20000 in
theorem ggX10_packOne_X10_plainTo : GoodIn wsX10_packOne wsX10_plainTo := goodIn_r _ [20, 16, 21, 22, 23, 9, 24, 25, 5, 26, 27, 28, 29, 30, 31, 32, 33, 34, 35, 36, 37, 38, 39, 40, 41, 42, 43, 44, 45, 46, 47, 48, 49, 50, 51, 52, 53, 54, 55, 56, 57, 58, 59, 60, 61, 62, 63] (by decide +kernel) (by decide +kernel)
set_option maxRecDepth 20000 in
theorem gX10_packOne_X10_plainTo : GoodIn wsX10_packOne (wsV RX10 108 RX10 yX10_plainTo wsX10_plainTo) := goodIn_app (goodIn_of _ (by decide +kernel)) ggX10_packOne_X10_plainTo
set_option maxRecDepth 20000 in
theorem ggX10_packOne_X10_lay : GoodIn wsX10_packOne wsX10_lay := goodIn_r _ [24, 25, 5, 26, 27, 28, 29, 30, 31, 32, 33, 34, 35, 36, 37, 38, 39, 40, 41, 42, 43, 44, 45, 46, 47, 48, 49, 50, 51, 52, 53, 54, 55, 56, 57, 58, 59, 60, 61, 62, 63] (by decide +kernel) (by decide +kernel)
set_option maxRecDepth 20000 in
theorem gX10_packOne_X10_lay : GoodIn wsX10_packOne (wsV RX10 112 RX10 yX10_lay wsX10_lay) := goodIn_app (goodIn_of _ (by decide +kernel)) ggX10_packOne_X10_lay
theorem dX10_packOne_0 : decode cX10_packOne 0 = .ok (.iload_n 1, 1) := by decide +kernel
theorem dX10_packOne_1 : decode cX10_packOne 1 = .ok (.aload_n 0, 1) := by decide +kernel
theorem dX10_packOne_2 : decode cX10_packOne 2 = .ok (.getfield 13, 3) := by decide +kernel
theorem dX10_packOne_5 : decode cX10_packOne 5 = .ok (.imul, 1) := by decide +kernel
theorem dX10_packOne_6 : decode cX10_packOne 6 = .ok (.istore_n 2, 1) := by decide +kernel
theorem dX10_packOne_7 : decode cX10_packOne 7 = .ok (.iload_n 2, 1) := by decide +kernel
theorem dX10_packOne_8 : decode cX10_packOne 8 = .ok (.aload_n 0, 1) := by decide +kernel
theorem dX10_packOne_9 : decode cX10_packOne 9 = .ok (.iload_n 1, 1) := by decide +kernel
theorem dX10_packOne_10 : decode cX10_packOne 10 = .ok (.invokevirtual 100, 3) := by decide +kernel
theorem dX10_packOne_13 : decode cX10_packOne 13 = .ok (.iadd, 1) := by decide +kernel
theorem dX10_packOne_14 : decode cX10_packOne 14 = .ok (.istore_n 3, 1) := by decide +kernel
theorem dX10_packOne_15 : decode cX10_packOne 15 = .ok (.iload_n 2, 1) := by decide +kernel
theorem dX10_packOne_16 : decode cX10_packOne 16 = .ok (.istore 4, 2) := by decide +kernel
theorem dX10_packOne_18 : decode cX10_packOne 18 = .ok (.aload_n 0, 1) := by decide +kernel
theorem dX10_packOne_19 : decode cX10_packOne 19 = .ok (.getfield 42, 3) := by decide +kernel
theorem dX10_packOne_22 : decode cX10_packOne 22 = .ok (.iload_n 1, 1) := by decide +kernel
theorem dX10_packOne_23 : decode cX10_packOne 23 = .ok (.iconst 0, 1) := by decide +kernel
theorem dX10_packOne_24 : decode cX10_packOne 24 = .ok (.iastore, 1) := by decide +kernel
theorem dX10_packOne_25 : decode cX10_packOne 25 = .ok (.iload_n 2, 1) := by decide +kernel
theorem dX10_packOne_26 : decode cX10_packOne 26 = .ok (.iload_n 3, 1) := by decide +kernel
theorem dX10_packOne_27 : decode cX10_packOne 27 = .ok (.if_icmp .ge 132, 3) := by decide +kernel
theorem dX10_packOne_30 : decode cX10_packOne 30 = .ok (.iconst 0, 1) := by decide +kernel
theorem dX10_packOne_31 : decode cX10_packOne 31 = .ok (.istore 5, 2) := by decide +kernel
theorem dX10_packOne_33 : decode cX10_packOne 33 = .ok (.iconst 0, 1) := by decide +kernel
theorem dX10_packOne_34 : decode cX10_packOne 34 = .ok (.istore 6, 2) := by decide +kernel
theorem dX10_packOne_36 : decode cX10_packOne 36 = .ok (.iconst 1, 1) := by decide +kernel
theorem dX10_packOne_37 : decode cX10_packOne 37 = .ok (.istore 7, 2) := by decide +kernel
theorem dX10_packOne_39 : decode cX10_packOne 39 = .ok (.iload 7, 2) := by decide +kernel
theorem dX10_packOne_41 : decode cX10_packOne 41 = .ok (.aload_n 0, 1) := by decide +kernel
theorem dX10_packOne_42 : decode cX10_packOne 42 = .ok (.getfield 17, 3) := by decide +kernel
theorem dX10_packOne_45 : decode cX10_packOne 45 = .ok (.if_icmp .gt 57, 3) := by decide +kernel
theorem dX10_packOne_48 : decode cX10_packOne 48 = .ok (.iload 7, 2) := by decide +kernel
theorem dX10_packOne_50 : decode cX10_packOne 50 = .ok (.iload_n 2, 1) := by decide +kernel
theorem dX10_packOne_51 : decode cX10_packOne 51 = .ok (.if_icmp .gt 51, 3) := by decide +kernel
theorem dX10_packOne_54 : decode cX10_packOne 54 = .ok (.aload_n 0, 1) := by decide +kernel
theorem dX10_packOne_55 : decode cX10_packOne 55 = .ok (.iload_n 2, 1) := by decide +kernel
theorem dX10_packOne_56 : decode cX10_packOne 56 = .ok (.iload_n 3, 1) := by decide +kernel
theorem dX10_packOne_57 : decode cX10_packOne 57 = .ok (.iload 7, 2) := by decide +kernel
theorem dX10_packOne_59 : decode cX10_packOne 59 = .ok (.invokevirtual 104, 3) := by decide +kernel
theorem dX10_packOne_62 : decode cX10_packOne 62 = .ok (.istore 8, 2) := by decide +kernel
theorem dX10_packOne_64 : decode cX10_packOne 64 = .ok (.iload 8, 2) := by decide +kernel
theorem dX10_packOne_66 : decode cX10_packOne 66 = .ok (.iload 5, 2) := by decide +kernel
theorem dX10_packOne_68 : decode cX10_packOne 68 = .ok (.if_icmp .le 8, 3) := by decide +kernel
theorem dX10_packOne_71 : decode cX10_packOne 71 = .ok (.iload 7, 2) := by decide +kernel
theorem dX10_packOne_73 : decode cX10_packOne 73 = .ok (.goto 5, 3) := by decide +kernel
theorem dX10_packOne_76 : decode cX10_packOne 76 = .ok (.iload 6, 2) := by decide +kernel
theorem dX10_packOne_78 : decode cX10_packOne 78 = .ok (.istore 6, 2) := by decide +kernel
theorem dX10_packOne_80 : decode cX10_packOne 80 = .ok (.iload 8, 2) := by decide +kernel
theorem dX10_packOne_82 : decode cX10_packOne 82 = .ok (.iload 5, 2) := by decide +kernel
theorem dX10_packOne_84 : decode cX10_packOne 84 = .ok (.if_icmp .le 8, 3) := by decide +kernel
theorem dX10_packOne_87 : decode cX10_packOne 87 = .ok (.iload 8, 2) := by decide +kernel
theorem dX10_packOne_89 : decode cX10_packOne 89 = .ok (.goto 5, 3) := by decide +kernel
theorem dX10_packOne_92 : decode cX10_packOne 92 = .ok (.iload 5, 2) := by decide +kernel
theorem dX10_packOne_94 : decode cX10_packOne 94 = .ok (.istore 5, 2) := by decide +kernel
theorem dX10_packOne_96 : decode cX10_packOne 96 = .ok (.iinc 7 1, 3) := by decide +kernel
theorem dX10_packOne_99 : decode cX10_packOne 99 = .ok (.goto (-60), 3) := by decide +kernel
theorem dX10_packOne_102 : decode cX10_packOne 102 = .ok (.aload_n 0, 1) := by decide +kernel
theorem dX10_packOne_103 : decode cX10_packOne 103 = .ok (.getfield 42, 3) := by decide +kernel
theorem dX10_packOne_106 : decode cX10_packOne 106 = .ok (.iload_n 1, 1) := by decide +kernel
theorem dX10_packOne_107 : decode cX10_packOne 107 = .ok (.dup2, 1) := by decide +kernel
theorem dX10_packOne_108 : decode cX10_packOne 108 = .ok (.iaload, 1) := by decide +kernel
theorem dX10_packOne_109 : decode cX10_packOne 109 = .ok (.iconst 1, 1) := by decide +kernel
theorem dX10_packOne_110 : decode cX10_packOne 110 = .ok (.iadd, 1) := by decide +kernel
theorem dX10_packOne_111 : decode cX10_packOne 111 = .ok (.iastore, 1) := by decide +kernel
theorem dX10_packOne_112 : decode cX10_packOne 112 = .ok (.iload 5, 2) := by decide +kernel
theorem dX10_packOne_114 : decode cX10_packOne 114 = .ok (.iconst 3, 1) := by decide +kernel
theorem dX10_packOne_115 : decode cX10_packOne 115 = .ok (.if_icmp .lt 38, 3) := by decide +kernel
theorem dX10_packOne_118 : decode cX10_packOne 118 = .ok (.aload_n 0, 1) := by decide +kernel
theorem dX10_packOne_119 : decode cX10_packOne 119 = .ok (.iload 4, 2) := by decide +kernel
theorem dX10_packOne_121 : decode cX10_packOne 121 = .ok (.iload_n 2, 1) := by decide +kernel
theorem dX10_packOne_122 : decode cX10_packOne 122 = .ok (.invokevirtual 108, 3) := by decide +kernel
theorem dX10_packOne_125 : decode cX10_packOne 125 = .ok (.aload_n 0, 1) := by decide +kernel
theorem dX10_packOne_126 : decode cX10_packOne 126 = .ok (.bipush 125, 2) := by decide +kernel
theorem dX10_packOne_128 : decode cX10_packOne 128 = .ok (.iload 5, 2) := by decide +kernel
theorem dX10_packOne_130 : decode cX10_packOne 130 = .ok (.iadd, 1) := by decide +kernel
theorem dX10_packOne_131 : decode cX10_packOne 131 = .ok (.invokevirtual 112, 3) := by decide +kernel
theorem dX10_packOne_134 : decode cX10_packOne 134 = .ok (.aload_n 0, 1) := by decide +kernel
theorem dX10_packOne_135 : decode cX10_packOne 135 = .ok (.iload 6, 2) := by decide +kernel
theorem dX10_packOne_137 : decode cX10_packOne 137 = .ok (.iconst 1, 1) := by decide +kernel
theorem dX10_packOne_138 : decode cX10_packOne 138 = .ok (.isub, 1) := by decide +kernel
theorem dX10_packOne_139 : decode cX10_packOne 139 = .ok (.invokevirtual 112, 3) := by decide +kernel
theorem dX10_packOne_142 : decode cX10_packOne 142 = .ok (.iload_n 2, 1) := by decide +kernel
theorem dX10_packOne_143 : decode cX10_packOne 143 = .ok (.iload 5, 2) := by decide +kernel
theorem dX10_packOne_145 : decode cX10_packOne 145 = .ok (.iadd, 1) := by decide +kernel
theorem dX10_packOne_146 : decode cX10_packOne 146 = .ok (.istore_n 2, 1) := by decide +kernel
theorem dX10_packOne_147 : decode cX10_packOne 147 = .ok (.iload_n 2, 1) := by decide +kernel
theorem dX10_packOne_148 : decode cX10_packOne 148 = .ok (.istore 4, 2) := by decide +kernel
theorem dX10_packOne_150 : decode cX10_packOne 150 = .ok (.goto 6, 3) := by decide +kernel
theorem dX10_packOne_153 : decode cX10_packOne 153 = .ok (.iinc 2 1, 3) := by decide +kernel
theorem dX10_packOne_156 : decode cX10_packOne 156 = .ok (.goto (-131), 3) := by decide +kernel
theorem dX10_packOne_159 : decode cX10_packOne 159 = .ok (.aload_n 0, 1) := by decide +kernel
theorem dX10_packOne_160 : decode cX10_packOne 160 = .ok (.iload 4, 2) := by decide +kernel
theorem dX10_packOne_162 : decode cX10_packOne 162 = .ok (.iload_n 3, 1) := by decide +kernel
theorem dX10_packOne_163 : decode cX10_packOne 163 = .ok (.invokevirtual 108, 3) := by decide +kernel
theorem dX10_packOne_166 : decode cX10_packOne 166 = .ok (.aload_n 0, 1) := by decide +kernel
theorem dX10_packOne_167 : decode cX10_packOne 167 = .ok (.iconst 0, 1) := by decide +kernel
theorem dX10_packOne_168 : decode cX10_packOne 168 = .ok (.invokevirtual 112, 3) := by decide +kernel
theorem dX10_packOne_171 : decode cX10_packOne 171 = .ok (.aload_n 0, 1) := by decide +kernel
theorem dX10_packOne_172 : decode cX10_packOne 172 = .ok (.getfield 39, 3) := by decide +kernel
theorem dX10_packOne_175 : decode cX10_packOne 175 = .ok (.iload_n 1, 1) := by decide +kernel
theorem dX10_packOne_176 : decode cX10_packOne 176 = .ok (.aload_n 0, 1) := by decide +kernel
theorem dX10_packOne_177 : decode cX10_packOne 177 = .ok (.getfield 89, 3) := by decide +kernel
theorem dX10_packOne_180 : decode cX10_packOne 180 = .ok (.iastore, 1) := by decide +kernel
theorem dX10_packOne_181 : decode cX10_packOne 181 = .ok (.return_, 1) := by decide +kernel
set_option maxRecDepth 20000 in
theorem ggX10_plainTo_X10_lay : GoodIn wsX10_plainTo wsX10_lay := goodIn_r _ [6, 7, 8, 9, 10, 11, 12, 13, 14, 15, 16, 17, 18, 19, 20, 21, 22, 23, 24, 25, 26, 27, 28, 29, 30, 31, 32, 33, 34, 35, 36, 37, 38, 39, 40, 41, 42, 43, 44, 45, 46] (by decide +kernel) (by decide +kernel)
set_option maxRecDepth 20000 in
theorem gX10_plainTo_X10_lay : GoodIn wsX10_plainTo (wsV RX10 112 RX10 yX10_lay wsX10_lay) := goodIn_app (goodIn_of _ (by decide +kernel)) ggX10_plainTo_X10_lay
theorem dX10_plainTo_0 : decode cX10_plainTo 0 = .ok (.iload_n 1, 1) := by decide +kernel
theorem dX10_plainTo_1 : decode cX10_plainTo 1 = .ok (.iload_n 2, 1) := by decide +kernel
theorem dX10_plainTo_2 : decode cX10_plainTo 2 = .ok (.if_icmp .ne 4, 3) := by decide +kernel
theorem dX10_plainTo_5 : decode cX10_plainTo 5 = .ok (.return_, 1) := by decide +kernel
theorem dX10_plainTo_6 : decode cX10_plainTo 6 = .ok (.aload_n 0, 1) := by decide +kernel
theorem dX10_plainTo_7 : decode cX10_plainTo 7 = .ok (.iload_n 2, 1) := by decide +kernel
theorem dX10_plainTo_8 : decode cX10_plainTo 8 = .ok (.iload_n 1, 1) := by decide +kernel
theorem dX10_plainTo_9 : decode cX10_plainTo 9 = .ok (.isub, 1) := by decide +kernel
theorem dX10_plainTo_10 : decode cX10_plainTo 10 = .ok (.invokevirtual 112, 3) := by decide +kernel
theorem dX10_plainTo_13 : decode cX10_plainTo 13 = .ok (.iload_n 1, 1) := by decide +kernel
theorem dX10_plainTo_14 : decode cX10_plainTo 14 = .ok (.istore_n 3, 1) := by decide +kernel
theorem dX10_plainTo_15 : decode cX10_plainTo 15 = .ok (.iload_n 3, 1) := by decide +kernel
theorem dX10_plainTo_16 : decode cX10_plainTo 16 = .ok (.iload_n 2, 1) := by decide +kernel
theorem dX10_plainTo_17 : decode cX10_plainTo 17 = .ok (.if_icmp .ge 19, 3) := by decide +kernel
theorem dX10_plainTo_20 : decode cX10_plainTo 20 = .ok (.aload_n 0, 1) := by decide +kernel
theorem dX10_plainTo_21 : decode cX10_plainTo 21 = .ok (.aload_n 0, 1) := by decide +kernel
theorem dX10_plainTo_22 : decode cX10_plainTo 22 = .ok (.getfield 7, 3) := by decide +kernel
theorem dX10_plainTo_25 : decode cX10_plainTo 25 = .ok (.iload_n 3, 1) := by decide +kernel
theorem dX10_plainTo_26 : decode cX10_plainTo 26 = .ok (.iaload, 1) := by decide +kernel
theorem dX10_plainTo_27 : decode cX10_plainTo 27 = .ok (.invokevirtual 112, 3) := by decide +kernel
theorem dX10_plainTo_30 : decode cX10_plainTo 30 = .ok (.iinc 3 1, 3) := by decide +kernel
theorem dX10_plainTo_33 : decode cX10_plainTo 33 = .ok (.goto (-18), 3) := by decide +kernel
theorem dX10_plainTo_36 : decode cX10_plainTo 36 = .ok (.return_, 1) := by decide +kernel
set_option maxRecDepth 20000 in
theorem ggX10_plain_X10_packAll : GoodIn wsX10_plain wsX10_packAll := goodIn_r _ [7, 8, 1, 9, 10, 11, 6, 12, 13, 14, 15, 16, 17, 18, 19, 20, 21, 22, 23, 24, 25, 26, 27, 28, 29, 30, 31, 32, 33, 34, 35, 36, 37, 38, 2, 42, 43, 44, 45, 46, 47, 48, 49, 50, 51, 52, 53, 54, 55, 56, 57, 58, 59, 60, 61, 62, 63, 64, 65, 66, 67, 68, 69, 70, 71, 72, 73, 74, 75, 76, 77, 78, 79] (by decide +kernel) (by decide +kernel)
set_option maxRecDepth 20000 in
theorem gX10_plain_X10_packAll : GoodIn wsX10_plain (wsV RX10 115 RX10 yX10_packAll wsX10_packAll) := goodIn_app (goodIn_of _ (by decide +kernel)) ggX10_plain_X10_packAll
set_option maxRecDepth 20000 in
theorem ggX10_plain_X10_in : GoodIn wsX10_plain wsX10_in := goodIn_r _ [41] (by decide +kernel) (by decide +kernel)
set_option maxRecDepth 20000 in
theorem gX10_plain_X10_in : GoodIn wsX10_plain (va_wsS RX10 78 yX10_in wsX10_in) := goodIn_app (goodIn_of _ (by decide +kernel)) ggX10_plain_X10_in
theorem dX10_plain_0 : decode cX10_plain 0 = .ok (.aload_n 0, 1) := by decide +kernel
theorem dX10_plain_1 : decode cX10_plain 1 = .ok (.invokevirtual 115, 3) := by decide +kernel
theorem dX10_plain_4 : decode cX10_plain 4 = .ok (.iload_n 1, 1) := by decide +kernel
theorem dX10_plain_5 : decode cX10_plain 5 = .ok (.iconst 0, 1) := by decide +kernel
theorem dX10_plain_6 : decode cX10_plain 6 = .ok (.aload_n 0, 1) := by decide +kernel
theorem dX10_plain_7 : decode cX10_plain 7 = .ok (.getfield 89, 3) := by decide +kernel
theorem dX10_plain_10 : decode cX10_plain 10 = .ok (.iconst 1, 1) := by decide +kernel
theorem dX10_plain_11 : decode cX10_plain 11 = .ok (.isub, 1) := by decide +kernel
theorem dX10_plain_12 : decode cX10_plain 12 = .ok (.invokestatic 78, 3) := by decide +kernel
theorem dX10_plain_15 : decode cX10_plain 15 = .ok (.ifCond .eq 12, 3) := by decide +kernel
theorem dX10_plain_18 : decode cX10_plain 18 = .ok (.aload_n 0, 1) := by decide +kernel
theorem dX10_plain_19 : decode cX10_plain 19 = .ok (.getfield 36, 3) := by decide +kernel
theorem dX10_plain_22 : decode cX10_plain 22 = .ok (.iload_n 1, 1) := by decide +kernel
theorem dX10_plain_23 : decode cX10_plain 23 = .ok (.iaload, 1) := by decide +kernel
theorem dX10_plain_24 : decode cX10_plain 24 = .ok (.goto 4, 3) := by decide +kernel
theorem dX10_plain_27 : decode cX10_plain 27 = .ok (.iconst (-1), 1) := by decide +kernel
theorem dX10_plain_28 : decode cX10_plain 28 = .ok (.ireturn, 1) := by decide +kernel
set_option maxRecDepth 20000 in
theorem ggX10_begin_X10_in : GoodIn wsX10_begin wsX10_in := goodIn_r _ [27] (by decide +kernel) (by decide +kernel)
set_option maxRecDepth 20000 in
theorem gX10_begin_X10_in : GoodIn wsX10_begin (va_wsS RX10 78 yX10_in wsX10_in) := goodIn_app (goodIn_of _ (by decide +kernel)) ggX10_begin_X10_in
set_option maxRecDepth 20000 in
theorem ggX10_begin_X10_packAll : GoodIn wsX10_begin wsX10_packAll := goodIn_r _ [31, 32, 33, 34, 35, 36, 26, 37, 38, 39, 40, 41, 42, 43, 44, 45, 46, 47, 48, 49, 50, 51, 52, 53, 54, 55, 56, 57, 58, 59, 60, 61, 62, 63, 64, 65, 66, 67, 68, 69, 70, 71, 72, 73, 74, 75, 76, 77, 78, 79, 80, 81, 82, 83, 84, 85, 86, 87, 88, 89, 90, 91, 92, 93, 94, 95, 96, 97, 98, 99, 100, 101, 102] (by decide +kernel) (by decide +kernel)
set_option maxRecDepth 20000 in
theorem gX10_begin_X10_packAll : GoodIn wsX10_begin (wsV RX10 115 RX10 yX10_packAll wsX10_packAll) := goodIn_app (goodIn_of _ (by decide +kernel)) ggX10_begin_X10_packAll
set_option maxRecDepth 20000 in
theorem ggX10_begin_X10_many : GoodIn wsX10_begin wsX10_many := goodIn_r _ [37, 38, 39, 65, 66, 67, 68, 69, 70, 71, 72, 73, 74, 75, 76, 77, 78, 79, 80, 81, 82, 83, 84, 85, 86, 87, 88, 89, 90, 91, 92, 93, 94, 95, 96, 97, 98, 99, 100, 101, 102] (by decide +kernel) (by decide +kernel)
set_option maxRecDepth 20000 in
theorem gX10_begin_X10_many : GoodIn wsX10_begin (wsV RX10 92 RX10 yX10_many wsX10_many) := goodIn_app (goodIn_of _ (by decide +kernel)) ggX10_begin_X10_many
theorem dX10_begin_0 : decode cX10_begin 0 = .ok (.iload_n 1, 1) := by decide +kernel
theorem dX10_begin_1 : decode cX10_begin 1 = .ok (.iconst 1, 1) := by decide +kernel
theorem dX10_begin_2 : decode cX10_begin 2 = .ok (.bipush 6, 2) := by decide +kernel
theorem dX10_begin_4 : decode cX10_begin 4 = .ok (.invokestatic 78, 3) := by decide +kernel
theorem dX10_begin_7 : decode cX10_begin 7 = .ok (.ifCond .ne 6, 3) := by decide +kernel
theorem dX10_begin_10 : decode cX10_begin 10 = .ok (.bipush (-2), 2) := by decide +kernel
theorem dX10_begin_12 : decode cX10_begin 12 = .ok (.ireturn, 1) := by decide +kernel
theorem dX10_begin_13 : decode cX10_begin 13 = .ok (.aload_n 0, 1) := by decide +kernel
theorem dX10_begin_14 : decode cX10_begin 14 = .ok (.getfield 82, 3) := by decide +kernel
theorem dX10_begin_17 : decode cX10_begin 17 = .ok (.ifCond .eq 6, 3) := by decide +kernel
theorem dX10_begin_20 : decode cX10_begin 20 = .ok (.bipush (-3), 2) := by decide +kernel
theorem dX10_begin_22 : decode cX10_begin 22 = .ok (.ireturn, 1) := by decide +kernel
theorem dX10_begin_23 : decode cX10_begin 23 = .ok (.aload_n 0, 1) := by decide +kernel
theorem dX10_begin_24 : decode cX10_begin 24 = .ok (.invokevirtual 115, 3) := by decide +kernel
theorem dX10_begin_27 : decode cX10_begin 27 = .ok (.aload_n 0, 1) := by decide +kernel
theorem dX10_begin_28 : decode cX10_begin 28 = .ok (.iconst 1, 1) := by decide +kernel
theorem dX10_begin_29 : decode cX10_begin 29 = .ok (.putfield 82, 3) := by decide +kernel
theorem dX10_begin_32 : decode cX10_begin 32 = .ok (.aload_n 0, 1) := by decide +kernel
theorem dX10_begin_33 : decode cX10_begin 33 = .ok (.iload_n 1, 1) := by decide +kernel
theorem dX10_begin_34 : decode cX10_begin 34 = .ok (.putfield 118, 3) := by decide +kernel
theorem dX10_begin_37 : decode cX10_begin 37 = .ok (.aload_n 0, 1) := by decide +kernel
theorem dX10_begin_38 : decode cX10_begin 38 = .ok (.aload_n 0, 1) := by decide +kernel
theorem dX10_begin_39 : decode cX10_begin 39 = .ok (.invokevirtual 92, 3) := by decide +kernel
theorem dX10_begin_42 : decode cX10_begin 42 = .ok (.putfield 121, 3) := by decide +kernel
theorem dX10_begin_45 : decode cX10_begin 45 = .ok (.iconst 0, 1) := by decide +kernel
theorem dX10_begin_46 : decode cX10_begin 46 = .ok (.istore_n 2, 1) := by decide +kernel
theorem dX10_begin_47 : decode cX10_begin 47 = .ok (.iload_n 2, 1) := by decide +kernel
theorem dX10_begin_48 : decode cX10_begin 48 = .ok (.bipush 6, 2) := by decide +kernel
theorem dX10_begin_50 : decode cX10_begin 50 = .ok (.if_icmp .ge 51, 3) := by decide +kernel
theorem dX10_begin_53 : decode cX10_begin 53 = .ok (.aload_n 0, 1) := by decide +kernel
theorem dX10_begin_54 : decode cX10_begin 54 = .ok (.getfield 45, 3) := by decide +kernel
theorem dX10_begin_57 : decode cX10_begin 57 = .ok (.iload_n 2, 1) := by decide +kernel
theorem dX10_begin_58 : decode cX10_begin 58 = .ok (.iconst 0, 1) := by decide +kernel
theorem dX10_begin_59 : decode cX10_begin 59 = .ok (.iastore, 1) := by decide +kernel
theorem dX10_begin_60 : decode cX10_begin 60 = .ok (.aload_n 0, 1) := by decide +kernel
theorem dX10_begin_61 : decode cX10_begin 61 = .ok (.getfield 48, 3) := by decide +kernel
theorem dX10_begin_64 : decode cX10_begin 64 = .ok (.iload_n 2, 1) := by decide +kernel
theorem dX10_begin_65 : decode cX10_begin 65 = .ok (.iconst (-1), 1) := by decide +kernel
theorem dX10_begin_66 : decode cX10_begin 66 = .ok (.iastore, 1) := by decide +kernel
theorem dX10_begin_67 : decode cX10_begin 67 = .ok (.aload_n 0, 1) := by decide +kernel
theorem dX10_begin_68 : decode cX10_begin 68 = .ok (.getfield 51, 3) := by decide +kernel
theorem dX10_begin_71 : decode cX10_begin 71 = .ok (.iload_n 2, 1) := by decide +kernel
theorem dX10_begin_72 : decode cX10_begin 72 = .ok (.iconst 0, 1) := by decide +kernel
theorem dX10_begin_73 : decode cX10_begin 73 = .ok (.iastore, 1) := by decide +kernel
theorem dX10_begin_74 : decode cX10_begin 74 = .ok (.aload_n 0, 1) := by decide +kernel
theorem dX10_begin_75 : decode cX10_begin 75 = .ok (.getfield 54, 3) := by decide +kernel
theorem dX10_begin_78 : decode cX10_begin 78 = .ok (.iload_n 2, 1) := by decide +kernel
theorem dX10_begin_79 : decode cX10_begin 79 = .ok (.iconst 0, 1) := by decide +kernel
theorem dX10_begin_80 : decode cX10_begin 80 = .ok (.iastore, 1) := by decide +kernel
theorem dX10_begin_81 : decode cX10_begin 81 = .ok (.aload_n 0, 1) := by decide +kernel
theorem dX10_begin_82 : decode cX10_begin 82 = .ok (.getfield 57, 3) := by decide +kernel
theorem dX10_begin_85 : decode cX10_begin 85 = .ok (.iload_n 2, 1) := by decide +kernel
theorem dX10_begin_86 : decode cX10_begin 86 = .ok (.iconst 0, 1) := by decide +kernel
theorem dX10_begin_87 : decode cX10_begin 87 = .ok (.iastore, 1) := by decide +kernel
theorem dX10_begin_88 : decode cX10_begin 88 = .ok (.aload_n 0, 1) := by decide +kernel
theorem dX10_begin_89 : decode cX10_begin 89 = .ok (.getfield 60, 3) := by decide +kernel
theorem dX10_begin_92 : decode cX10_begin 92 = .ok (.iload_n 2, 1) := by decide +kernel
theorem dX10_begin_93 : decode cX10_begin 93 = .ok (.iconst 0, 1) := by decide +kernel
theorem dX10_begin_94 : decode cX10_begin 94 = .ok (.bastore, 1) := by decide +kernel
theorem dX10_begin_95 : decode cX10_begin 95 = .ok (.iinc 2 1, 3) := by decide +kernel
theorem dX10_begin_98 : decode cX10_begin 98 = .ok (.goto (-51), 3) := by decide +kernel
theorem dX10_begin_101 : decode cX10_begin 101 = .ok (.iconst 0, 1) := by decide +kernel
theorem dX10_begin_102 : decode cX10_begin 102 = .ok (.istore_n 2, 1) := by decide +kernel
theorem dX10_begin_103 : decode cX10_begin 103 = .ok (.iload_n 2, 1) := by decide +kernel
theorem dX10_begin_104 : decode cX10_begin 104 = .ok (.bipush 40, 2) := by decide +kernel
theorem dX10_begin_106 : decode cX10_begin 106 = .ok (.if_icmp .ge 23, 3) := by decide +kernel
theorem dX10_begin_109 : decode cX10_begin 109 = .ok (.aload_n 0, 1) := by decide +kernel
theorem dX10_begin_110 : decode cX10_begin 110 = .ok (.getfield 63, 3) := by decide +kernel
theorem dX10_begin_113 : decode cX10_begin 113 = .ok (.iload_n 2, 1) := by decide +kernel
theorem dX10_begin_114 : decode cX10_begin 114 = .ok (.iconst 0, 1) := by decide +kernel
theorem dX10_begin_115 : decode cX10_begin 115 = .ok (.bastore, 1) := by decide +kernel
theorem dX10_begin_116 : decode cX10_begin 116 = .ok (.aload_n 0, 1) := by decide +kernel
theorem dX10_begin_117 : decode cX10_begin 117 = .ok (.getfield 69, 3) := by decide +kernel
theorem dX10_begin_120 : decode cX10_begin 120 = .ok (.iload_n 2, 1) := by decide +kernel
theorem dX10_begin_121 : decode cX10_begin 121 = .ok (.iconst 0, 1) := by decide +kernel
theorem dX10_begin_122 : decode cX10_begin 122 = .ok (.bastore, 1) := by decide +kernel
theorem dX10_begin_123 : decode cX10_begin 123 = .ok (.iinc 2 1, 3) := by decide +kernel
theorem dX10_begin_126 : decode cX10_begin 126 = .ok (.goto (-23), 3) := by decide +kernel
theorem dX10_begin_129 : decode cX10_begin 129 = .ok (.aload_n 0, 1) := by decide +kernel
theorem dX10_begin_130 : decode cX10_begin 130 = .ok (.iconst (-1), 1) := by decide +kernel
theorem dX10_begin_131 : decode cX10_begin 131 = .ok (.putfield 124, 3) := by decide +kernel
theorem dX10_begin_134 : decode cX10_begin 134 = .ok (.aload_n 0, 1) := by decide +kernel
theorem dX10_begin_135 : decode cX10_begin 135 = .ok (.iconst 0, 1) := by decide +kernel
theorem dX10_begin_136 : decode cX10_begin 136 = .ok (.putfield 127, 3) := by decide +kernel
theorem dX10_begin_139 : decode cX10_begin 139 = .ok (.aload_n 0, 1) := by decide +kernel
theorem dX10_begin_140 : decode cX10_begin 140 = .ok (.iconst 0, 1) := by decide +kernel
theorem dX10_begin_141 : decode cX10_begin 141 = .ok (.putfield 130, 3) := by decide +kernel
theorem dX10_begin_144 : decode cX10_begin 144 = .ok (.aload_n 0, 1) := by decide +kernel
theorem dX10_begin_145 : decode cX10_begin 145 = .ok (.iconst 0, 1) := by decide +kernel
theorem dX10_begin_146 : decode cX10_begin 146 = .ok (.putfield 133, 3) := by decide +kernel
theorem dX10_begin_149 : decode cX10_begin 149 = .ok (.aload_n 0, 1) := by decide +kernel
theorem dX10_begin_150 : decode cX10_begin 150 = .ok (.iconst 0, 1) := by decide +kernel
theorem dX10_begin_151 : decode cX10_begin 151 = .ok (.putfield 136, 3) := by decide +kernel
theorem dX10_begin_154 : decode cX10_begin 154 = .ok (.aload_n 0, 1) := by decide +kernel
theorem dX10_begin_155 : decode cX10_begin 155 = .ok (.aload_n 0, 1) := by decide +kernel
theorem dX10_begin_156 : decode cX10_begin 156 = .ok (.getfield 20, 3) := by decide +kernel
theorem dX10_begin_159 : decode cX10_begin 159 = .ok (.putfield 139, 3) := by decide +kernel
theorem dX10_begin_162 : decode cX10_begin 162 = .ok (.aload_n 0, 1) := by decide +kernel
theorem dX10_begin_163 : decode cX10_begin 163 = .ok (.iconst 0, 1) := by decide +kernel
theorem dX10_begin_164 : decode cX10_begin 164 = .ok (.putfield 142, 3) := by decide +kernel
theorem dX10_begin_167 : decode cX10_begin 167 = .ok (.aload_n 0, 1) := by decide +kernel
theorem dX10_begin_168 : decode cX10_begin 168 = .ok (.iconst (-1), 1) := by decide +kernel
theorem dX10_begin_169 : decode cX10_begin 169 = .ok (.putfield 145, 3) := by decide +kernel
theorem dX10_begin_172 : decode cX10_begin 172 = .ok (.aload_n 0, 1) := by decide +kernel
theorem dX10_begin_173 : decode cX10_begin 173 = .ok (.iconst 0, 1) := by decide +kernel
theorem dX10_begin_174 : decode cX10_begin 174 = .ok (.putfield 148, 3) := by decide +kernel
theorem dX10_begin_177 : decode cX10_begin 177 = .ok (.aload_n 0, 1) := by decide +kernel
theorem dX10_begin_178 : decode cX10_begin 178 = .ok (.iconst 0, 1) := by decide +kernel
theorem dX10_begin_179 : decode cX10_begin 179 = .ok (.putfield 151, 3) := by decide +kernel
theorem dX10_begin_182 : decode cX10_begin 182 = .ok (.aload_n 0, 1) := by decide +kernel
theorem dX10_begin_183 : decode cX10_begin 183 = .ok (.iconst 0, 1) := by decide +kernel
theorem dX10_begin_184 : decode cX10_begin 184 = .ok (.putfield 154, 3) := by decide +kernel
theorem dX10_begin_187 : decode cX10_begin 187 = .ok (.aload_n 0, 1) := by decide +kernel
theorem dX10_begin_188 : decode cX10_begin 188 = .ok (.getfield 121, 3) := by decide +kernel
theorem dX10_begin_191 : decode cX10_begin 191 = .ok (.ireturn, 1) := by decide +kernel
theorem dX10_isStopped_0 : decode cX10_isStopped 0 = .ok (.aload_n 0, 1) := by decide +kernel
theorem dX10_isStopped_1 : decode cX10_isStopped 1 = .ok (.getfield 148, 3) := by decide +kernel
theorem dX10_isStopped_4 : decode cX10_isStopped 4 = .ok (.ifCond .le 7, 3) := by decide +kernel
theorem dX10_isStopped_7 : decode cX10_isStopped 7 = .ok (.iconst 1, 1) := by decide +kernel
theorem dX10_isStopped_8 : decode cX10_isStopped 8 = .ok (.goto 4, 3) := by decide +kernel
theorem dX10_isStopped_11 : decode cX10_isStopped 11 = .ok (.iconst 0, 1) := by decide +kernel
theorem dX10_isStopped_12 : decode cX10_isStopped 12 = .ok (.ireturn, 1) := by decide +kernel
theorem dX10_ends_0 : decode cX10_ends 0 = .ok (.aload_n 0, 1) := by decide +kernel
theorem dX10_ends_1 : decode cX10_ends 1 = .ok (.getfield 45, 3) := by decide +kernel
theorem dX10_ends_4 : decode cX10_ends 4 = .ok (.iload_n 1, 1) := by decide +kernel
theorem dX10_ends_5 : decode cX10_ends 5 = .ok (.iconst 4, 1) := by decide +kernel
theorem dX10_ends_6 : decode cX10_ends 6 = .ok (.iastore, 1) := by decide +kernel
theorem dX10_ends_7 : decode cX10_ends 7 = .ok (.aload_n 0, 1) := by decide +kernel
theorem dX10_ends_8 : decode cX10_ends 8 = .ok (.getfield 48, 3) := by decide +kernel
theorem dX10_ends_11 : decode cX10_ends 11 = .ok (.iload_n 1, 1) := by decide +kernel
theorem dX10_ends_12 : decode cX10_ends 12 = .ok (.iconst (-1), 1) := by decide +kernel
theorem dX10_ends_13 : decode cX10_ends 13 = .ok (.iastore, 1) := by decide +kernel
theorem dX10_ends_14 : decode cX10_ends 14 = .ok (.aload_n 0, 1) := by decide +kernel
theorem dX10_ends_15 : decode cX10_ends 15 = .ok (.getfield 57, 3) := by decide +kernel
theorem dX10_ends_18 : decode cX10_ends 18 = .ok (.iload_n 1, 1) := by decide +kernel
theorem dX10_ends_19 : decode cX10_ends 19 = .ok (.dup2, 1) := by decide +kernel
theorem dX10_ends_20 : decode cX10_ends 20 = .ok (.iaload, 1) := by decide +kernel
theorem dX10_ends_21 : decode cX10_ends 21 = .ok (.iconst 1, 1) := by decide +kernel
theorem dX10_ends_22 : decode cX10_ends 22 = .ok (.iadd, 1) := by decide +kernel
theorem dX10_ends_23 : decode cX10_ends 23 = .ok (.iastore, 1) := by decide +kernel
theorem dX10_ends_24 : decode cX10_ends 24 = .ok (.return_, 1) := by decide +kernel
set_option maxRecDepth 20000 in
theorem ggX10_works_X10_lengthOf : GoodIn wsX10_works wsX10_lengthOf := goodIn_r _ [9, 10, 11, 12, 13, 14, 15, 16, 17, 18, 19, 20, 21, 22, 23, 24, 25, 26, 27, 28, 29, 30, 31, 32, 33, 34, 35, 36, 37, 38, 39, 40, 41, 42, 43, 44, 45, 46, 47, 48, 49] (by decide +kernel) (by decide +kernel)
set_option maxRecDepth 20000 in
theorem gX10_works_X10_lengthOf : GoodIn wsX10_works (wsV RX10 100 RX10 yX10_lengthOf wsX10_lengthOf) := goodIn_app (goodIn_of _ (by decide +kernel)) ggX10_works_X10_lengthOf
theorem dX10_works_0 : decode cX10_works 0 = .ok (.aload_n 0, 1) := by decide +kernel
theorem dX10_works_1 : decode cX10_works 1 = .ok (.dup, 1) := by decide +kernel
theorem dX10_works_2 : decode cX10_works 2 = .ok (.getfield 139, 3) := by decide +kernel
theorem dX10_works_5 : decode cX10_works 5 = .ok (.aload_n 0, 1) := by decide +kernel
theorem dX10_works_6 : decode cX10_works 6 = .ok (.aload_n 0, 1) := by decide +kernel
theorem dX10_works_7 : decode cX10_works 7 = .ok (.getfield 48, 3) := by decide +kernel
theorem dX10_works_10 : decode cX10_works 10 = .ok (.iload_n 1, 1) := by decide +kernel
theorem dX10_works_11 : decode cX10_works 11 = .ok (.iaload, 1) := by decide +kernel
theorem dX10_works_12 : decode cX10_works 12 = .ok (.invokevirtual 100, 3) := by decide +kernel
theorem dX10_works_15 : decode cX10_works 15 = .ok (.isub, 1) := by decide +kernel
theorem dX10_works_16 : decode cX10_works 16 = .ok (.putfield 139, 3) := by decide +kernel
theorem dX10_works_19 : decode cX10_works 19 = .ok (.aload_n 0, 1) := by decide +kernel
theorem dX10_works_20 : decode cX10_works 20 = .ok (.getfield 45, 3) := by decide +kernel
theorem dX10_works_23 : decode cX10_works 23 = .ok (.iload_n 1, 1) := by decide +kernel
theorem dX10_works_24 : decode cX10_works 24 = .ok (.iconst 2, 1) := by decide +kernel
theorem dX10_works_25 : decode cX10_works 25 = .ok (.iastore, 1) := by decide +kernel
theorem dX10_works_26 : decode cX10_works 26 = .ok (.aload_n 0, 1) := by decide +kernel
theorem dX10_works_27 : decode cX10_works 27 = .ok (.getfield 51, 3) := by decide +kernel
theorem dX10_works_30 : decode cX10_works 30 = .ok (.iload_n 1, 1) := by decide +kernel
theorem dX10_works_31 : decode cX10_works 31 = .ok (.iconst 0, 1) := by decide +kernel
theorem dX10_works_32 : decode cX10_works 32 = .ok (.iastore, 1) := by decide +kernel
theorem dX10_works_33 : decode cX10_works 33 = .ok (.return_, 1) := by decide +kernel
set_option maxRecDepth 20000 in
theorem ggX10_takes_X10_lengthOf : GoodIn wsX10_takes wsX10_lengthOf := goodIn_r _ [10, 11, 12, 18, 19, 20, 21, 22, 23, 24, 25, 26, 27, 28, 29, 30, 31, 32, 33, 34, 35, 36, 37, 38, 39, 40, 41, 42, 43, 44, 45, 46, 47, 48, 49, 50, 51, 52, 53, 54, 55] (by decide +kernel) (by decide +kernel)
set_option maxRecDepth 20000 in
theorem gX10_takes_X10_lengthOf : GoodIn wsX10_takes (wsV RX10 100 RX10 yX10_lengthOf wsX10_lengthOf) := goodIn_app (goodIn_of _ (by decide +kernel)) ggX10_takes_X10_lengthOf
set_option maxRecDepth 20000 in
theorem ggX10_takes_X10_works : GoodIn wsX10_takes wsX10_works := goodIn_r _ [16, 3, 1, 4, 17, 6, 7, 8, 9, 10, 11, 12, 18, 19, 20, 21, 22, 23, 24, 25, 26, 27, 28, 29, 30, 31, 32, 33, 34, 35, 36, 37, 38, 39, 40, 41, 42, 43, 44, 45, 46, 47, 48, 49, 50, 51, 52, 53, 54, 55] (by decide +kernel) (by decide +kernel)
set_option maxRecDepth 20000 in
theorem gX10_takes_X10_works : GoodIn wsX10_takes (wsV RX10 157 RX10 yX10_works wsX10_works) := goodIn_app (goodIn_of _ (by decide +kernel)) ggX10_takes_X10_works
theorem dX10_takes_0 : decode cX10_takes 0 = .ok (.aload_n 0, 1) := by decide +kernel
theorem dX10_takes_1 : decode cX10_takes 1 = .ok (.getfield 48, 3) := by decide +kernel
theorem dX10_takes_4 : decode cX10_takes 4 = .ok (.iload_n 1, 1) := by decide +kernel
theorem dX10_takes_5 : decode cX10_takes 5 = .ok (.iload_n 2, 1) := by decide +kernel
theorem dX10_takes_6 : decode cX10_takes 6 = .ok (.iastore, 1) := by decide +kernel
theorem dX10_takes_7 : decode cX10_takes 7 = .ok (.aload_n 0, 1) := by decide +kernel
theorem dX10_takes_8 : decode cX10_takes 8 = .ok (.getfield 142, 3) := by decide +kernel
theorem dX10_takes_11 : decode cX10_takes 11 = .ok (.ifCond .ne 21, 3) := by decide +kernel
theorem dX10_takes_14 : decode cX10_takes 14 = .ok (.aload_n 0, 1) := by decide +kernel
theorem dX10_takes_15 : decode cX10_takes 15 = .ok (.getfield 139, 3) := by decide +kernel
theorem dX10_takes_18 : decode cX10_takes 18 = .ok (.aload_n 0, 1) := by decide +kernel
theorem dX10_takes_19 : decode cX10_takes 19 = .ok (.iload_n 2, 1) := by decide +kernel
theorem dX10_takes_20 : decode cX10_takes 20 = .ok (.invokevirtual 100, 3) := by decide +kernel
theorem dX10_takes_23 : decode cX10_takes 23 = .ok (.if_icmp .lt 9, 3) := by decide +kernel
theorem dX10_takes_26 : decode cX10_takes 26 = .ok (.aload_n 0, 1) := by decide +kernel
theorem dX10_takes_27 : decode cX10_takes 27 = .ok (.iload_n 1, 1) := by decide +kernel
theorem dX10_takes_28 : decode cX10_takes 28 = .ok (.invokevirtual 157, 3) := by decide +kernel
theorem dX10_takes_31 : decode cX10_takes 31 = .ok (.return_, 1) := by decide +kernel
theorem dX10_takes_32 : decode cX10_takes 32 = .ok (.aload_n 0, 1) := by decide +kernel
theorem dX10_takes_33 : decode cX10_takes 33 = .ok (.getfield 45, 3) := by decide +kernel
theorem dX10_takes_36 : decode cX10_takes 36 = .ok (.iload_n 1, 1) := by decide +kernel
theorem dX10_takes_37 : decode cX10_takes 37 = .ok (.iconst 1, 1) := by decide +kernel
theorem dX10_takes_38 : decode cX10_takes 38 = .ok (.iastore, 1) := by decide +kernel
theorem dX10_takes_39 : decode cX10_takes 39 = .ok (.aload_n 0, 1) := by decide +kernel
theorem dX10_takes_40 : decode cX10_takes 40 = .ok (.getfield 72, 3) := by decide +kernel
theorem dX10_takes_43 : decode cX10_takes 43 = .ok (.aload_n 0, 1) := by decide +kernel
theorem dX10_takes_44 : decode cX10_takes 44 = .ok (.getfield 142, 3) := by decide +kernel
theorem dX10_takes_47 : decode cX10_takes 47 = .ok (.iload_n 1, 1) := by decide +kernel
theorem dX10_takes_48 : decode cX10_takes 48 = .ok (.iastore, 1) := by decide +kernel
theorem dX10_takes_49 : decode cX10_takes 49 = .ok (.aload_n 0, 1) := by decide +kernel
theorem dX10_takes_50 : decode cX10_takes 50 = .ok (.dup, 1) := by decide +kernel
theorem dX10_takes_51 : decode cX10_takes 51 = .ok (.getfield 142, 3) := by decide +kernel
theorem dX10_takes_54 : decode cX10_takes 54 = .ok (.iconst 1, 1) := by decide +kernel
theorem dX10_takes_55 : decode cX10_takes 55 = .ok (.iadd, 1) := by decide +kernel
theorem dX10_takes_56 : decode cX10_takes 56 = .ok (.putfield 142, 3) := by decide +kernel
theorem dX10_takes_59 : decode cX10_takes 59 = .ok (.return_, 1) := by decide +kernel
set_option maxRecDepth 20000 in
theorem ggX10_givesBack_X10_lengthOf : GoodIn wsX10_givesBack wsX10_lengthOf := goodIn_r _ [9, 10, 11, 22, 23, 24, 25, 26, 27, 28, 29, 30, 31, 32, 33, 34, 35, 36, 37, 38, 39, 40, 41, 42, 43, 44, 45, 46, 47, 48, 49, 50, 51, 52, 53, 54, 55, 56, 57, 58, 59] (by decide +kernel) (by decide +kernel)
set_option maxRecDepth 20000 in
theorem gX10_givesBack_X10_lengthOf : GoodIn wsX10_givesBack (wsV RX10 100 RX10 yX10_lengthOf wsX10_lengthOf) := goodIn_app (goodIn_of _ (by decide +kernel)) ggX10_givesBack_X10_lengthOf
set_option maxRecDepth 20000 in
theorem ggX10_givesBack_X10_leaves : GoodIn wsX10_givesBack wsX10_leaves := goodIn_r _ [15, 2, 4, 22, 23, 24, 25, 26, 27, 28, 29, 30, 31, 32, 33, 34, 35, 36, 37, 38, 39, 40, 41, 42, 43, 44, 45, 46, 47, 48, 49, 50, 51, 52, 53, 54, 55, 56, 57, 58, 59] (by decide +kernel) (by decide +kernel)
set_option maxRecDepth 20000 in
theorem gX10_givesBack_X10_leaves : GoodIn wsX10_givesBack (wsV RX10 160 RX10 yX10_leaves wsX10_leaves) := goodIn_app (goodIn_of _ (by decide +kernel)) ggX10_givesBack_X10_leaves
set_option maxRecDepth 20000 in
theorem ggX10_givesBack_X10_works : GoodIn wsX10_givesBack wsX10_works := goodIn_r _ [19, 1, 3, 20, 21, 5, 6, 7, 8, 9, 10, 11, 22, 23, 24, 25, 26, 27, 28, 29, 30, 31, 32, 33, 34, 35, 36, 37, 38, 39, 40, 41, 42, 43, 44, 45, 46, 47, 48, 49, 50, 51, 52, 53, 54, 55, 56, 57, 58, 59] (by decide +kernel) (by decide +kernel)
set_option maxRecDepth 20000 in
theorem gX10_givesBack_X10_works : GoodIn wsX10_givesBack (wsV RX10 157 RX10 yX10_works wsX10_works) := goodIn_app (goodIn_of _ (by decide +kernel)) ggX10_givesBack_X10_works
theorem dX10_givesBack_0 : decode cX10_givesBack 0 = .ok (.aload_n 0, 1) := by decide +kernel
theorem dX10_givesBack_1 : decode cX10_givesBack 1 = .ok (.dup, 1) := by decide +kernel
theorem dX10_givesBack_2 : decode cX10_givesBack 2 = .ok (.getfield 139, 3) := by decide +kernel
theorem dX10_givesBack_5 : decode cX10_givesBack 5 = .ok (.iload_n 1, 1) := by decide +kernel
theorem dX10_givesBack_6 : decode cX10_givesBack 6 = .ok (.iadd, 1) := by decide +kernel
theorem dX10_givesBack_7 : decode cX10_givesBack 7 = .ok (.putfield 139, 3) := by decide +kernel
theorem dX10_givesBack_10 : decode cX10_givesBack 10 = .ok (.aload_n 0, 1) := by decide +kernel
theorem dX10_givesBack_11 : decode cX10_givesBack 11 = .ok (.getfield 142, 3) := by decide +kernel
theorem dX10_givesBack_14 : decode cX10_givesBack 14 = .ok (.ifCond .le 45, 3) := by decide +kernel
theorem dX10_givesBack_17 : decode cX10_givesBack 17 = .ok (.aload_n 0, 1) := by decide +kernel
theorem dX10_givesBack_18 : decode cX10_givesBack 18 = .ok (.getfield 139, 3) := by decide +kernel
theorem dX10_givesBack_21 : decode cX10_givesBack 21 = .ok (.aload_n 0, 1) := by decide +kernel
theorem dX10_givesBack_22 : decode cX10_givesBack 22 = .ok (.aload_n 0, 1) := by decide +kernel
theorem dX10_givesBack_23 : decode cX10_givesBack 23 = .ok (.getfield 48, 3) := by decide +kernel
theorem dX10_givesBack_26 : decode cX10_givesBack 26 = .ok (.aload_n 0, 1) := by decide +kernel
theorem dX10_givesBack_27 : decode cX10_givesBack 27 = .ok (.getfield 72, 3) := by decide +kernel
theorem dX10_givesBack_30 : decode cX10_givesBack 30 = .ok (.iconst 0, 1) := by decide +kernel
theorem dX10_givesBack_31 : decode cX10_givesBack 31 = .ok (.iaload, 1) := by decide +kernel
theorem dX10_givesBack_32 : decode cX10_givesBack 32 = .ok (.iaload, 1) := by decide +kernel
theorem dX10_givesBack_33 : decode cX10_givesBack 33 = .ok (.invokevirtual 100, 3) := by decide +kernel
theorem dX10_givesBack_36 : decode cX10_givesBack 36 = .ok (.if_icmp .lt 23, 3) := by decide +kernel
theorem dX10_givesBack_39 : decode cX10_givesBack 39 = .ok (.aload_n 0, 1) := by decide +kernel
theorem dX10_givesBack_40 : decode cX10_givesBack 40 = .ok (.getfield 72, 3) := by decide +kernel
theorem dX10_givesBack_43 : decode cX10_givesBack 43 = .ok (.iconst 0, 1) := by decide +kernel
theorem dX10_givesBack_44 : decode cX10_givesBack 44 = .ok (.iaload, 1) := by decide +kernel
theorem dX10_givesBack_45 : decode cX10_givesBack 45 = .ok (.istore_n 2, 1) := by decide +kernel
theorem dX10_givesBack_46 : decode cX10_givesBack 46 = .ok (.aload_n 0, 1) := by decide +kernel
theorem dX10_givesBack_47 : decode cX10_givesBack 47 = .ok (.iload_n 2, 1) := by decide +kernel
theorem dX10_givesBack_48 : decode cX10_givesBack 48 = .ok (.invokevirtual 160, 3) := by decide +kernel
theorem dX10_givesBack_51 : decode cX10_givesBack 51 = .ok (.aload_n 0, 1) := by decide +kernel
theorem dX10_givesBack_52 : decode cX10_givesBack 52 = .ok (.iload_n 2, 1) := by decide +kernel
theorem dX10_givesBack_53 : decode cX10_givesBack 53 = .ok (.invokevirtual 157, 3) := by decide +kernel
theorem dX10_givesBack_56 : decode cX10_givesBack 56 = .ok (.goto (-46), 3) := by decide +kernel
theorem dX10_givesBack_59 : decode cX10_givesBack 59 = .ok (.return_, 1) := by decide +kernel
theorem dX10_leaves_0 : decode cX10_leaves 0 = .ok (.iconst 0, 1) := by decide +kernel
theorem dX10_leaves_1 : decode cX10_leaves 1 = .ok (.istore_n 2, 1) := by decide +kernel
theorem dX10_leaves_2 : decode cX10_leaves 2 = .ok (.iconst 0, 1) := by decide +kernel
theorem dX10_leaves_3 : decode cX10_leaves 3 = .ok (.istore_n 3, 1) := by decide +kernel
theorem dX10_leaves_4 : decode cX10_leaves 4 = .ok (.iload_n 3, 1) := by decide +kernel
theorem dX10_leaves_5 : decode cX10_leaves 5 = .ok (.aload_n 0, 1) := by decide +kernel
theorem dX10_leaves_6 : decode cX10_leaves 6 = .ok (.getfield 142, 3) := by decide +kernel
theorem dX10_leaves_9 : decode cX10_leaves 9 = .ok (.if_icmp .ge 34, 3) := by decide +kernel
theorem dX10_leaves_12 : decode cX10_leaves 12 = .ok (.aload_n 0, 1) := by decide +kernel
theorem dX10_leaves_13 : decode cX10_leaves 13 = .ok (.getfield 72, 3) := by decide +kernel
theorem dX10_leaves_16 : decode cX10_leaves 16 = .ok (.iload_n 3, 1) := by decide +kernel
theorem dX10_leaves_17 : decode cX10_leaves 17 = .ok (.iaload, 1) := by decide +kernel
theorem dX10_leaves_18 : decode cX10_leaves 18 = .ok (.iload_n 1, 1) := by decide +kernel
theorem dX10_leaves_19 : decode cX10_leaves 19 = .ok (.if_icmp .eq 18, 3) := by decide +kernel
theorem dX10_leaves_22 : decode cX10_leaves 22 = .ok (.aload_n 0, 1) := by decide +kernel
theorem dX10_leaves_23 : decode cX10_leaves 23 = .ok (.getfield 72, 3) := by decide +kernel
theorem dX10_leaves_26 : decode cX10_leaves 26 = .ok (.iload_n 2, 1) := by decide +kernel
theorem dX10_leaves_27 : decode cX10_leaves 27 = .ok (.aload_n 0, 1) := by decide +kernel
theorem dX10_leaves_28 : decode cX10_leaves 28 = .ok (.getfield 72, 3) := by decide +kernel
theorem dX10_leaves_31 : decode cX10_leaves 31 = .ok (.iload_n 3, 1) := by decide +kernel
theorem dX10_leaves_32 : decode cX10_leaves 32 = .ok (.iaload, 1) := by decide +kernel
theorem dX10_leaves_33 : decode cX10_leaves 33 = .ok (.iastore, 1) := by decide +kernel
theorem dX10_leaves_34 : decode cX10_leaves 34 = .ok (.iinc 2 1, 3) := by decide +kernel
theorem dX10_leaves_37 : decode cX10_leaves 37 = .ok (.iinc 3 1, 3) := by decide +kernel
theorem dX10_leaves_40 : decode cX10_leaves 40 = .ok (.goto (-36), 3) := by decide +kernel
theorem dX10_leaves_43 : decode cX10_leaves 43 = .ok (.aload_n 0, 1) := by decide +kernel
theorem dX10_leaves_44 : decode cX10_leaves 44 = .ok (.iload_n 2, 1) := by decide +kernel
theorem dX10_leaves_45 : decode cX10_leaves 45 = .ok (.putfield 142, 3) := by decide +kernel
theorem dX10_leaves_48 : decode cX10_leaves 48 = .ok (.return_, 1) := by decide +kernel
theorem dX10_isSome_0 : decode cX10_isSome 0 = .ok (.iconst 0, 1) := by decide +kernel
theorem dX10_isSome_1 : decode cX10_isSome 1 = .ok (.istore_n 3, 1) := by decide +kernel
theorem dX10_isSome_2 : decode cX10_isSome 2 = .ok (.iconst 0, 1) := by decide +kernel
theorem dX10_isSome_3 : decode cX10_isSome 3 = .ok (.istore 4, 2) := by decide +kernel
theorem dX10_isSome_5 : decode cX10_isSome 5 = .ok (.iload 4, 2) := by decide +kernel
theorem dX10_isSome_7 : decode cX10_isSome 7 = .ok (.aload_n 0, 1) := by decide +kernel
theorem dX10_isSome_8 : decode cX10_isSome 8 = .ok (.getfield 118, 3) := by decide +kernel
theorem dX10_isSome_11 : decode cX10_isSome 11 = .ok (.if_icmp .ge 74, 3) := by decide +kernel
theorem dX10_isSome_14 : decode cX10_isSome 14 = .ok (.iload_n 3, 1) := by decide +kernel
theorem dX10_isSome_15 : decode cX10_isSome 15 = .ok (.ifCond .ne 58, 3) := by decide +kernel
theorem dX10_isSome_18 : decode cX10_isSome 18 = .ok (.iload_n 2, 1) := by decide +kernel
theorem dX10_isSome_19 : decode cX10_isSome 19 = .ok (.ifCond .eq 43, 3) := by decide +kernel
theorem dX10_isSome_22 : decode cX10_isSome 22 = .ok (.aload_n 0, 1) := by decide +kernel
theorem dX10_isSome_23 : decode cX10_isSome 23 = .ok (.getfield 45, 3) := by decide +kernel
theorem dX10_isSome_26 : decode cX10_isSome 26 = .ok (.iload 4, 2) := by decide +kernel
theorem dX10_isSome_28 : decode cX10_isSome 28 = .ok (.iaload, 1) := by decide +kernel
theorem dX10_isSome_29 : decode cX10_isSome 29 = .ok (.iconst 1, 1) := by decide +kernel
theorem dX10_isSome_30 : decode cX10_isSome 30 = .ok (.if_icmp .eq 14, 3) := by decide +kernel
theorem dX10_isSome_33 : decode cX10_isSome 33 = .ok (.aload_n 0, 1) := by decide +kernel
theorem dX10_isSome_34 : decode cX10_isSome 34 = .ok (.getfield 45, 3) := by decide +kernel
theorem dX10_isSome_37 : decode cX10_isSome 37 = .ok (.iload 4, 2) := by decide +kernel
theorem dX10_isSome_39 : decode cX10_isSome 39 = .ok (.iaload, 1) := by decide +kernel
theorem dX10_isSome_40 : decode cX10_isSome 40 = .ok (.iconst 2, 1) := by decide +kernel
theorem dX10_isSome_41 : decode cX10_isSome 41 = .ok (.if_icmp .ne 36, 3) := by decide +kernel
theorem dX10_isSome_44 : decode cX10_isSome 44 = .ok (.aload_n 0, 1) := by decide +kernel
theorem dX10_isSome_45 : decode cX10_isSome 45 = .ok (.getfield 63, 3) := by decide +kernel
theorem dX10_isSome_48 : decode cX10_isSome 48 = .ok (.aload_n 0, 1) := by decide +kernel
theorem dX10_isSome_49 : decode cX10_isSome 49 = .ok (.getfield 48, 3) := by decide +kernel
theorem dX10_isSome_52 : decode cX10_isSome 52 = .ok (.iload 4, 2) := by decide +kernel
theorem dX10_isSome_54 : decode cX10_isSome 54 = .ok (.iaload, 1) := by decide +kernel
theorem dX10_isSome_55 : decode cX10_isSome 55 = .ok (.baload, 1) := by decide +kernel
theorem dX10_isSome_56 : decode cX10_isSome 56 = .ok (.ifCond .eq 21, 3) := by decide +kernel
theorem dX10_isSome_59 : decode cX10_isSome 59 = .ok (.goto 14, 3) := by decide +kernel
theorem dX10_isSome_62 : decode cX10_isSome 62 = .ok (.aload_n 0, 1) := by decide +kernel
theorem dX10_isSome_63 : decode cX10_isSome 63 = .ok (.getfield 45, 3) := by decide +kernel
theorem dX10_isSome_66 : decode cX10_isSome 66 = .ok (.iload 4, 2) := by decide +kernel
theorem dX10_isSome_68 : decode cX10_isSome 68 = .ok (.iaload, 1) := by decide +kernel
theorem dX10_isSome_69 : decode cX10_isSome 69 = .ok (.iload_n 1, 1) := by decide +kernel
theorem dX10_isSome_70 : decode cX10_isSome 70 = .ok (.if_icmp .ne 7, 3) := by decide +kernel
theorem dX10_isSome_73 : decode cX10_isSome 73 = .ok (.iconst 1, 1) := by decide +kernel
theorem dX10_isSome_74 : decode cX10_isSome 74 = .ok (.goto 4, 3) := by decide +kernel
theorem dX10_isSome_77 : decode cX10_isSome 77 = .ok (.iconst 0, 1) := by decide +kernel
theorem dX10_isSome_78 : decode cX10_isSome 78 = .ok (.istore_n 3, 1) := by decide +kernel
theorem dX10_isSome_79 : decode cX10_isSome 79 = .ok (.iinc 4 1, 3) := by decide +kernel
theorem dX10_isSome_82 : decode cX10_isSome 82 = .ok (.goto (-77), 3) := by decide +kernel
theorem dX10_isSome_85 : decode cX10_isSome 85 = .ok (.iload_n 3, 1) := by decide +kernel
theorem dX10_isSome_86 : decode cX10_isSome 86 = .ok (.ireturn, 1) := by decide +kernel
set_option maxRecDepth 20000 in
theorem ggX10_free_X10_isStopped : GoodIn wsX10_free wsX10_isStopped := goodIn_r _ [11, 12, 44, 45, 46, 47, 48, 49, 50, 51, 52, 53, 54, 55, 56, 57, 58, 59, 60, 61, 62, 63, 64, 65, 66, 67, 68, 69, 70, 71, 72, 73, 74, 75, 76, 77, 78, 79, 80, 81] (by decide +kernel) (by decide +kernel)
set_option maxRecDepth 20000 in
theorem gX10_free_X10_isStopped : GoodIn wsX10_free (wsV RX10 163 RX10 yX10_isStopped wsX10_isStopped) := goodIn_app (goodIn_of _ (by decide +kernel)) ggX10_free_X10_isStopped
set_option maxRecDepth 20000 in
theorem ggX10_free_X10_ends : GoodIn wsX10_free wsX10_ends := goodIn_r _ [16, 17, 18, 19, 44, 45, 46, 47, 48, 49, 50, 51, 52, 53, 54, 55, 56, 57, 58, 59, 60, 61, 62, 63, 64, 65, 66, 67, 68, 69, 70, 71, 72, 73, 74, 75, 76, 77, 78, 79, 80, 81] (by decide +kernel) (by decide +kernel)
set_option maxRecDepth 20000 in
theorem gX10_free_X10_ends : GoodIn wsX10_free (wsV RX10 167 RX10 yX10_ends wsX10_ends) := goodIn_app (goodIn_of _ (by decide +kernel)) ggX10_free_X10_ends
set_option maxRecDepth 20000 in
theorem ggX10_free_X10_isSome : GoodIn wsX10_free wsX10_isSome := goodIn_r _ [23, 24, 17, 25, 18, 44, 45, 46, 47, 48, 49, 50, 51, 52, 53, 54, 55, 56, 57, 58, 59, 60, 61, 62, 63, 64, 65, 66, 67, 68, 69, 70, 71, 72, 73, 74, 75, 76, 77, 78, 79, 80, 81] (by decide +kernel) (by decide +kernel)
set_option maxRecDepth 20000 in
theorem gX10_free_X10_isSome : GoodIn wsX10_free (wsV RX10 170 RX10 yX10_isSome wsX10_isSome) := goodIn_app (goodIn_of _ (by decide +kernel)) ggX10_free_X10_isSome
set_option maxRecDepth 20000 in
theorem ggX10_free_X10_takes : GoodIn wsX10_free wsX10_takes := goodIn_r _ [29, 18, 30, 31, 17, 32, 33, 34, 35, 10, 36, 37, 38, 39, 40, 41, 42, 43, 44, 45, 46, 47, 48, 49, 50, 51, 52, 53, 54, 55, 56, 57, 58, 59, 60, 61, 62, 63, 64, 65, 66, 67, 68, 69, 70, 71, 72, 73, 74, 75, 76, 77, 78, 79, 80, 81] (by decide +kernel) (by decide +kernel)
set_option maxRecDepth 20000 in
theorem gX10_free_X10_takes : GoodIn wsX10_free (wsV RX10 174 RX10 yX10_takes wsX10_takes) := goodIn_app (goodIn_of _ (by decide +kernel)) ggX10_free_X10_takes
theorem dX10_free_0 : decode cX10_free 0 = .ok (.aload_n 0, 1) := by decide +kernel
theorem dX10_free_1 : decode cX10_free 1 = .ok (.getfield 60, 3) := by decide +kernel
theorem dX10_free_4 : decode cX10_free 4 = .ok (.iload_n 1, 1) := by decide +kernel
theorem dX10_free_5 : decode cX10_free 5 = .ok (.baload, 1) := by decide +kernel
theorem dX10_free_6 : decode cX10_free 6 = .ok (.ifCond .ne 21, 3) := by decide +kernel
theorem dX10_free_9 : decode cX10_free 9 = .ok (.aload_n 0, 1) := by decide +kernel
theorem dX10_free_10 : decode cX10_free 10 = .ok (.invokevirtual 163, 3) := by decide +kernel
theorem dX10_free_13 : decode cX10_free 13 = .ok (.ifCond .ne 14, 3) := by decide +kernel
theorem dX10_free_16 : decode cX10_free 16 = .ok (.aload_n 0, 1) := by decide +kernel
theorem dX10_free_17 : decode cX10_free 17 = .ok (.getfield 136, 3) := by decide +kernel
theorem dX10_free_20 : decode cX10_free 20 = .ok (.aload_n 0, 1) := by decide +kernel
theorem dX10_free_21 : decode cX10_free 21 = .ok (.getfield 121, 3) := by decide +kernel
theorem dX10_free_24 : decode cX10_free 24 = .ok (.if_icmp .ne 10, 3) := by decide +kernel
theorem dX10_free_27 : decode cX10_free 27 = .ok (.aload_n 0, 1) := by decide +kernel
theorem dX10_free_28 : decode cX10_free 28 = .ok (.iload_n 1, 1) := by decide +kernel
theorem dX10_free_29 : decode cX10_free 29 = .ok (.invokevirtual 167, 3) := by decide +kernel
theorem dX10_free_32 : decode cX10_free 32 = .ok (.iconst 1, 1) := by decide +kernel
theorem dX10_free_33 : decode cX10_free 33 = .ok (.ireturn, 1) := by decide +kernel
theorem dX10_free_34 : decode cX10_free 34 = .ok (.aload_n 0, 1) := by decide +kernel
theorem dX10_free_35 : decode cX10_free 35 = .ok (.iconst 2, 1) := by decide +kernel
theorem dX10_free_36 : decode cX10_free 36 = .ok (.iconst 1, 1) := by decide +kernel
theorem dX10_free_37 : decode cX10_free 37 = .ok (.invokevirtual 170, 3) := by decide +kernel
theorem dX10_free_40 : decode cX10_free 40 = .ok (.ifCond .eq 5, 3) := by decide +kernel
theorem dX10_free_43 : decode cX10_free 43 = .ok (.iconst 0, 1) := by decide +kernel
theorem dX10_free_44 : decode cX10_free 44 = .ok (.ireturn, 1) := by decide +kernel
theorem dX10_free_45 : decode cX10_free 45 = .ok (.aload_n 0, 1) := by decide +kernel
theorem dX10_free_46 : decode cX10_free 46 = .ok (.getfield 130, 3) := by decide +kernel
theorem dX10_free_49 : decode cX10_free 49 = .ok (.ifCond .le 69, 3) := by decide +kernel
theorem dX10_free_52 : decode cX10_free 52 = .ok (.aload_n 0, 1) := by decide +kernel
theorem dX10_free_53 : decode cX10_free 53 = .ok (.iconst 2, 1) := by decide +kernel
theorem dX10_free_54 : decode cX10_free 54 = .ok (.iconst 0, 1) := by decide +kernel
theorem dX10_free_55 : decode cX10_free 55 = .ok (.invokevirtual 170, 3) := by decide +kernel
theorem dX10_free_58 : decode cX10_free 58 = .ok (.ifCond .eq 5, 3) := by decide +kernel
theorem dX10_free_61 : decode cX10_free 61 = .ok (.iconst 0, 1) := by decide +kernel
theorem dX10_free_62 : decode cX10_free 62 = .ok (.ireturn, 1) := by decide +kernel
theorem dX10_free_63 : decode cX10_free 63 = .ok (.aload_n 0, 1) := by decide +kernel
theorem dX10_free_64 : decode cX10_free 64 = .ok (.getfield 66, 3) := by decide +kernel
theorem dX10_free_67 : decode cX10_free 67 = .ok (.iconst 0, 1) := by decide +kernel
theorem dX10_free_68 : decode cX10_free 68 = .ok (.iaload, 1) := by decide +kernel
theorem dX10_free_69 : decode cX10_free 69 = .ok (.istore_n 2, 1) := by decide +kernel
theorem dX10_free_70 : decode cX10_free 70 = .ok (.aload_n 0, 1) := by decide +kernel
theorem dX10_free_71 : decode cX10_free 71 = .ok (.dup, 1) := by decide +kernel
theorem dX10_free_72 : decode cX10_free 72 = .ok (.getfield 130, 3) := by decide +kernel
theorem dX10_free_75 : decode cX10_free 75 = .ok (.iconst 1, 1) := by decide +kernel
theorem dX10_free_76 : decode cX10_free 76 = .ok (.isub, 1) := by decide +kernel
theorem dX10_free_77 : decode cX10_free 77 = .ok (.putfield 130, 3) := by decide +kernel
theorem dX10_free_80 : decode cX10_free 80 = .ok (.iconst 0, 1) := by decide +kernel
theorem dX10_free_81 : decode cX10_free 81 = .ok (.istore_n 3, 1) := by decide +kernel
theorem dX10_free_82 : decode cX10_free 82 = .ok (.iload_n 3, 1) := by decide +kernel
theorem dX10_free_83 : decode cX10_free 83 = .ok (.aload_n 0, 1) := by decide +kernel
theorem dX10_free_84 : decode cX10_free 84 = .ok (.getfield 130, 3) := by decide +kernel
theorem dX10_free_87 : decode cX10_free 87 = .ok (.if_icmp .ge 23, 3) := by decide +kernel
theorem dX10_free_90 : decode cX10_free 90 = .ok (.aload_n 0, 1) := by decide +kernel
theorem dX10_free_91 : decode cX10_free 91 = .ok (.getfield 66, 3) := by decide +kernel
theorem dX10_free_94 : decode cX10_free 94 = .ok (.iload_n 3, 1) := by decide +kernel
theorem dX10_free_95 : decode cX10_free 95 = .ok (.aload_n 0, 1) := by decide +kernel
theorem dX10_free_96 : decode cX10_free 96 = .ok (.getfield 66, 3) := by decide +kernel
theorem dX10_free_99 : decode cX10_free 99 = .ok (.iload_n 3, 1) := by decide +kernel
theorem dX10_free_100 : decode cX10_free 100 = .ok (.iconst 1, 1) := by decide +kernel
theorem dX10_free_101 : decode cX10_free 101 = .ok (.iadd, 1) := by decide +kernel
theorem dX10_free_102 : decode cX10_free 102 = .ok (.iaload, 1) := by decide +kernel
theorem dX10_free_103 : decode cX10_free 103 = .ok (.iastore, 1) := by decide +kernel
theorem dX10_free_104 : decode cX10_free 104 = .ok (.iinc 3 1, 3) := by decide +kernel
theorem dX10_free_107 : decode cX10_free 107 = .ok (.goto (-25), 3) := by decide +kernel
theorem dX10_free_110 : decode cX10_free 110 = .ok (.aload_n 0, 1) := by decide +kernel
theorem dX10_free_111 : decode cX10_free 111 = .ok (.iload_n 1, 1) := by decide +kernel
theorem dX10_free_112 : decode cX10_free 112 = .ok (.iload_n 2, 1) := by decide +kernel
theorem dX10_free_113 : decode cX10_free 113 = .ok (.invokevirtual 174, 3) := by decide +kernel
theorem dX10_free_116 : decode cX10_free 116 = .ok (.iconst 1, 1) := by decide +kernel
theorem dX10_free_117 : decode cX10_free 117 = .ok (.ireturn, 1) := by decide +kernel
theorem dX10_free_118 : decode cX10_free 118 = .ok (.aload_n 0, 1) := by decide +kernel
theorem dX10_free_119 : decode cX10_free 119 = .ok (.getfield 127, 3) := by decide +kernel
theorem dX10_free_122 : decode cX10_free 122 = .ok (.aload_n 0, 1) := by decide +kernel
theorem dX10_free_123 : decode cX10_free 123 = .ok (.getfield 121, 3) := by decide +kernel
theorem dX10_free_126 : decode cX10_free 126 = .ok (.if_icmp .ne 5, 3) := by decide +kernel
theorem dX10_free_129 : decode cX10_free 129 = .ok (.iconst 0, 1) := by decide +kernel
theorem dX10_free_130 : decode cX10_free 130 = .ok (.ireturn, 1) := by decide +kernel
theorem dX10_free_131 : decode cX10_free 131 = .ok (.aload_n 0, 1) := by decide +kernel
theorem dX10_free_132 : decode cX10_free 132 = .ok (.dup, 1) := by decide +kernel
theorem dX10_free_133 : decode cX10_free 133 = .ok (.getfield 127, 3) := by decide +kernel
theorem dX10_free_136 : decode cX10_free 136 = .ok (.iconst 1, 1) := by decide +kernel
theorem dX10_free_137 : decode cX10_free 137 = .ok (.iadd, 1) := by decide +kernel
theorem dX10_free_138 : decode cX10_free 138 = .ok (.putfield 127, 3) := by decide +kernel
theorem dX10_free_141 : decode cX10_free 141 = .ok (.aload_n 0, 1) := by decide +kernel
theorem dX10_free_142 : decode cX10_free 142 = .ok (.iload_n 1, 1) := by decide +kernel
theorem dX10_free_143 : decode cX10_free 143 = .ok (.aload_n 0, 1) := by decide +kernel
theorem dX10_free_144 : decode cX10_free 144 = .ok (.getfield 127, 3) := by decide +kernel
theorem dX10_free_147 : decode cX10_free 147 = .ok (.iconst 1, 1) := by decide +kernel
theorem dX10_free_148 : decode cX10_free 148 = .ok (.isub, 1) := by decide +kernel
theorem dX10_free_149 : decode cX10_free 149 = .ok (.invokevirtual 174, 3) := by decide +kernel
theorem dX10_free_152 : decode cX10_free 152 = .ok (.iconst 1, 1) := by decide +kernel
theorem dX10_free_153 : decode cX10_free 153 = .ok (.ireturn, 1) := by decide +kernel
set_option maxRecDepth 20000 in
theorem ggX10_work_X10_lengthOf : GoodIn wsX10_work wsX10_lengthOf := goodIn_r _ [19, 20, 21, 55, 56, 57, 58, 59, 60, 61, 62, 63, 64, 65, 66, 67, 68, 69, 70, 71, 72, 73, 74, 75, 76, 77, 78, 79, 80, 81, 82, 83, 84, 85, 86, 87, 88, 89, 90, 91, 92] (by decide +kernel) (by decide +kernel)
set_option maxRecDepth 20000 in
theorem gX10_work_X10_lengthOf : GoodIn wsX10_work (wsV RX10 100 RX10 yX10_lengthOf wsX10_lengthOf) := goodIn_app (goodIn_of _ (by decide +kernel)) ggX10_work_X10_lengthOf
set_option maxRecDepth 20000 in
theorem ggX10_work_X10_isStopped : GoodIn wsX10_work wsX10_isStopped := goodIn_r _ [25, 10, 55, 56, 57, 58, 59, 60, 61, 62, 63, 64, 65, 66, 67, 68, 69, 70, 71, 72, 73, 74, 75, 76, 77, 78, 79, 80, 81, 82, 83, 84, 85, 86, 87, 88, 89, 90, 91, 92] (by decide +kernel) (by decide +kernel)
set_option maxRecDepth 20000 in
theorem gX10_work_X10_isStopped : GoodIn wsX10_work (wsV RX10 163 RX10 yX10_isStopped wsX10_isStopped) := goodIn_app (goodIn_of _ (by decide +kernel)) ggX10_work_X10_isStopped
set_option maxRecDepth 20000 in
theorem ggX10_work_X10_ends : GoodIn wsX10_work wsX10_ends := goodIn_r _ [29, 8, 1, 30, 55, 56, 57, 58, 59, 60, 61, 62, 63, 64, 65, 66, 67, 68, 69, 70, 71, 72, 73, 74, 75, 76, 77, 78, 79, 80, 81, 82, 83, 84, 85, 86, 87, 88, 89, 90, 91, 92] (by decide +kernel) (by decide +kernel)
set_option maxRecDepth 20000 in
theorem gX10_work_X10_ends : GoodIn wsX10_work (wsV RX10 167 RX10 yX10_ends wsX10_ends) := goodIn_app (goodIn_of _ (by decide +kernel)) ggX10_work_X10_ends
set_option maxRecDepth 20000 in
theorem ggX10_work_X10_givesBack : GoodIn wsX10_work wsX10_givesBack := goodIn_r _ [34, 35, 36, 1, 37, 15, 16, 17, 18, 19, 20, 21, 38, 39, 40, 41, 42, 43, 44, 45, 8, 4, 55, 56, 57, 58, 59, 60, 61, 62, 63, 64, 65, 66, 67, 68, 69, 70, 71, 72, 73, 74, 75, 76, 77, 78, 79, 80, 81, 82, 83, 84, 85, 86, 87, 88, 89, 90, 91, 92] (by decide +kernel) (by decide +kernel)
set_option maxRecDepth 20000 in
theorem gX10_work_X10_givesBack : GoodIn wsX10_work (wsV RX10 177 RX10 yX10_givesBack wsX10_givesBack) := goodIn_app (goodIn_of _ (by decide +kernel)) ggX10_work_X10_givesBack
set_option maxRecDepth 20000 in
theorem ggX10_work_X10_lays : GoodIn wsX10_work wsX10_lays := goodIn_r _ [49, 1, 50, 51, 52, 53, 8, 54, 55, 56, 57, 58, 59, 60, 61, 62, 63, 64, 65, 66, 67, 68, 69, 70, 71, 72, 73, 74, 75, 76, 77, 78, 79, 80, 81, 82, 83, 84, 85, 86, 87, 88, 89, 90, 91, 92] (by decide +kernel) (by decide +kernel)
set_option maxRecDepth 20000 in
theorem gX10_work_X10_lays : GoodIn wsX10_work (wsV RX10 180 RX10 yX10_lays wsX10_lays) := goodIn_app (goodIn_of _ (by decide +kernel)) ggX10_work_X10_lays
theorem dX10_work_0 : decode cX10_work 0 = .ok (.aload_n 0, 1) := by decide +kernel
theorem dX10_work_1 : decode cX10_work 1 = .ok (.getfield 48, 3) := by decide +kernel
theorem dX10_work_4 : decode cX10_work 4 = .ok (.iload_n 1, 1) := by decide +kernel
theorem dX10_work_5 : decode cX10_work 5 = .ok (.iaload, 1) := by decide +kernel
theorem dX10_work_6 : decode cX10_work 6 = .ok (.istore_n 2, 1) := by decide +kernel
theorem dX10_work_7 : decode cX10_work 7 = .ok (.aload_n 0, 1) := by decide +kernel
theorem dX10_work_8 : decode cX10_work 8 = .ok (.iload_n 2, 1) := by decide +kernel
theorem dX10_work_9 : decode cX10_work 9 = .ok (.invokevirtual 100, 3) := by decide +kernel
theorem dX10_work_12 : decode cX10_work 12 = .ok (.istore_n 3, 1) := by decide +kernel
theorem dX10_work_13 : decode cX10_work 13 = .ok (.aload_n 0, 1) := by decide +kernel
theorem dX10_work_14 : decode cX10_work 14 = .ok (.invokevirtual 163, 3) := by decide +kernel
theorem dX10_work_17 : decode cX10_work 17 = .ok (.ifCond .eq 15, 3) := by decide +kernel
theorem dX10_work_20 : decode cX10_work 20 = .ok (.aload_n 0, 1) := by decide +kernel
theorem dX10_work_21 : decode cX10_work 21 = .ok (.iload_n 1, 1) := by decide +kernel
theorem dX10_work_22 : decode cX10_work 22 = .ok (.invokevirtual 167, 3) := by decide +kernel
theorem dX10_work_25 : decode cX10_work 25 = .ok (.aload_n 0, 1) := by decide +kernel
theorem dX10_work_26 : decode cX10_work 26 = .ok (.iload_n 3, 1) := by decide +kernel
theorem dX10_work_27 : decode cX10_work 27 = .ok (.invokevirtual 177, 3) := by decide +kernel
theorem dX10_work_30 : decode cX10_work 30 = .ok (.iconst 1, 1) := by decide +kernel
theorem dX10_work_31 : decode cX10_work 31 = .ok (.ireturn, 1) := by decide +kernel
theorem dX10_work_32 : decode cX10_work 32 = .ok (.aload_n 0, 1) := by decide +kernel
theorem dX10_work_33 : decode cX10_work 33 = .ok (.getfield 26, 3) := by decide +kernel
theorem dX10_work_36 : decode cX10_work 36 = .ok (.iload_n 2, 1) := by decide +kernel
theorem dX10_work_37 : decode cX10_work 37 = .ok (.iaload, 1) := by decide +kernel
theorem dX10_work_38 : decode cX10_work 38 = .ok (.ifCond .le 121, 3) := by decide +kernel
theorem dX10_work_41 : decode cX10_work 41 = .ok (.aload_n 0, 1) := by decide +kernel
theorem dX10_work_42 : decode cX10_work 42 = .ok (.getfield 29, 3) := by decide +kernel
theorem dX10_work_45 : decode cX10_work 45 = .ok (.iload_n 2, 1) := by decide +kernel
theorem dX10_work_46 : decode cX10_work 46 = .ok (.iaload, 1) := by decide +kernel
theorem dX10_work_47 : decode cX10_work 47 = .ok (.aload_n 0, 1) := by decide +kernel
theorem dX10_work_48 : decode cX10_work 48 = .ok (.getfield 51, 3) := by decide +kernel
theorem dX10_work_51 : decode cX10_work 51 = .ok (.iload_n 1, 1) := by decide +kernel
theorem dX10_work_52 : decode cX10_work 52 = .ok (.iaload, 1) := by decide +kernel
theorem dX10_work_53 : decode cX10_work 53 = .ok (.if_icmp .ne 106, 3) := by decide +kernel
theorem dX10_work_56 : decode cX10_work 56 = .ok (.aload_n 0, 1) := by decide +kernel
theorem dX10_work_57 : decode cX10_work 57 = .ok (.getfield 63, 3) := by decide +kernel
theorem dX10_work_60 : decode cX10_work 60 = .ok (.iload_n 2, 1) := by decide +kernel
theorem dX10_work_61 : decode cX10_work 61 = .ok (.baload, 1) := by decide +kernel
theorem dX10_work_62 : decode cX10_work 62 = .ok (.ifCond .eq 12, 3) := by decide +kernel
theorem dX10_work_65 : decode cX10_work 65 = .ok (.aload_n 0, 1) := by decide +kernel
theorem dX10_work_66 : decode cX10_work 66 = .ok (.getfield 32, 3) := by decide +kernel
theorem dX10_work_69 : decode cX10_work 69 = .ok (.iload_n 2, 1) := by decide +kernel
theorem dX10_work_70 : decode cX10_work 70 = .ok (.baload, 1) := by decide +kernel
theorem dX10_work_71 : decode cX10_work 71 = .ok (.ifCond .eq 88, 3) := by decide +kernel
theorem dX10_work_74 : decode cX10_work 74 = .ok (.aload_n 0, 1) := by decide +kernel
theorem dX10_work_75 : decode cX10_work 75 = .ok (.dup, 1) := by decide +kernel
theorem dX10_work_76 : decode cX10_work 76 = .ok (.getfield 151, 3) := by decide +kernel
theorem dX10_work_79 : decode cX10_work 79 = .ok (.iconst 1, 1) := by decide +kernel
theorem dX10_work_80 : decode cX10_work 80 = .ok (.iadd, 1) := by decide +kernel
theorem dX10_work_81 : decode cX10_work 81 = .ok (.putfield 151, 3) := by decide +kernel
theorem dX10_work_84 : decode cX10_work 84 = .ok (.aload_n 0, 1) := by decide +kernel
theorem dX10_work_85 : decode cX10_work 85 = .ok (.getfield 45, 3) := by decide +kernel
theorem dX10_work_88 : decode cX10_work 88 = .ok (.iload_n 1, 1) := by decide +kernel
theorem dX10_work_89 : decode cX10_work 89 = .ok (.iconst 0, 1) := by decide +kernel
theorem dX10_work_90 : decode cX10_work 90 = .ok (.iastore, 1) := by decide +kernel
theorem dX10_work_91 : decode cX10_work 91 = .ok (.aload_n 0, 1) := by decide +kernel
theorem dX10_work_92 : decode cX10_work 92 = .ok (.getfield 48, 3) := by decide +kernel
theorem dX10_work_95 : decode cX10_work 95 = .ok (.iload_n 1, 1) := by decide +kernel
theorem dX10_work_96 : decode cX10_work 96 = .ok (.iconst (-1), 1) := by decide +kernel
theorem dX10_work_97 : decode cX10_work 97 = .ok (.iastore, 1) := by decide +kernel
theorem dX10_work_98 : decode cX10_work 98 = .ok (.aload_n 0, 1) := by decide +kernel
theorem dX10_work_99 : decode cX10_work 99 = .ok (.getfield 63, 3) := by decide +kernel
theorem dX10_work_102 : decode cX10_work 102 = .ok (.iload_n 2, 1) := by decide +kernel
theorem dX10_work_103 : decode cX10_work 103 = .ok (.baload, 1) := by decide +kernel
theorem dX10_work_104 : decode cX10_work 104 = .ok (.ifCond .eq 21, 3) := by decide +kernel
theorem dX10_work_107 : decode cX10_work 107 = .ok (.aload_n 0, 1) := by decide +kernel
theorem dX10_work_108 : decode cX10_work 108 = .ok (.iload_n 2, 1) := by decide +kernel
theorem dX10_work_109 : decode cX10_work 109 = .ok (.putfield 145, 3) := by decide +kernel
theorem dX10_work_112 : decode cX10_work 112 = .ok (.aload_n 0, 1) := by decide +kernel
theorem dX10_work_113 : decode cX10_work 113 = .ok (.aload_n 0, 1) := by decide +kernel
theorem dX10_work_114 : decode cX10_work 114 = .ok (.getfield 26, 3) := by decide +kernel
theorem dX10_work_117 : decode cX10_work 117 = .ok (.iload_n 2, 1) := by decide +kernel
theorem dX10_work_118 : decode cX10_work 118 = .ok (.iaload, 1) := by decide +kernel
theorem dX10_work_119 : decode cX10_work 119 = .ok (.putfield 148, 3) := by decide +kernel
theorem dX10_work_122 : decode cX10_work 122 = .ok (.goto 30, 3) := by decide +kernel
theorem dX10_work_125 : decode cX10_work 125 = .ok (.aload_n 0, 1) := by decide +kernel
theorem dX10_work_126 : decode cX10_work 126 = .ok (.getfield 63, 3) := by decide +kernel
theorem dX10_work_129 : decode cX10_work 129 = .ok (.iload_n 2, 1) := by decide +kernel
theorem dX10_work_130 : decode cX10_work 130 = .ok (.iconst 1, 1) := by decide +kernel
theorem dX10_work_131 : decode cX10_work 131 = .ok (.bastore, 1) := by decide +kernel
theorem dX10_work_132 : decode cX10_work 132 = .ok (.aload_n 0, 1) := by decide +kernel
theorem dX10_work_133 : decode cX10_work 133 = .ok (.getfield 66, 3) := by decide +kernel
theorem dX10_work_136 : decode cX10_work 136 = .ok (.aload_n 0, 1) := by decide +kernel
theorem dX10_work_137 : decode cX10_work 137 = .ok (.getfield 130, 3) := by decide +kernel
theorem dX10_work_140 : decode cX10_work 140 = .ok (.iload_n 2, 1) := by decide +kernel
theorem dX10_work_141 : decode cX10_work 141 = .ok (.iastore, 1) := by decide +kernel
theorem dX10_work_142 : decode cX10_work 142 = .ok (.aload_n 0, 1) := by decide +kernel
theorem dX10_work_143 : decode cX10_work 143 = .ok (.dup, 1) := by decide +kernel
theorem dX10_work_144 : decode cX10_work 144 = .ok (.getfield 130, 3) := by decide +kernel
theorem dX10_work_147 : decode cX10_work 147 = .ok (.iconst 1, 1) := by decide +kernel
theorem dX10_work_148 : decode cX10_work 148 = .ok (.iadd, 1) := by decide +kernel
theorem dX10_work_149 : decode cX10_work 149 = .ok (.putfield 130, 3) := by decide +kernel
theorem dX10_work_152 : decode cX10_work 152 = .ok (.aload_n 0, 1) := by decide +kernel
theorem dX10_work_153 : decode cX10_work 153 = .ok (.iload_n 3, 1) := by decide +kernel
theorem dX10_work_154 : decode cX10_work 154 = .ok (.invokevirtual 177, 3) := by decide +kernel
theorem dX10_work_157 : decode cX10_work 157 = .ok (.iconst 1, 1) := by decide +kernel
theorem dX10_work_158 : decode cX10_work 158 = .ok (.ireturn, 1) := by decide +kernel
theorem dX10_work_159 : decode cX10_work 159 = .ok (.aload_n 0, 1) := by decide +kernel
theorem dX10_work_160 : decode cX10_work 160 = .ok (.getfield 51, 3) := by decide +kernel
theorem dX10_work_163 : decode cX10_work 163 = .ok (.iload_n 1, 1) := by decide +kernel
theorem dX10_work_164 : decode cX10_work 164 = .ok (.dup2, 1) := by decide +kernel
theorem dX10_work_165 : decode cX10_work 165 = .ok (.iaload, 1) := by decide +kernel
theorem dX10_work_166 : decode cX10_work 166 = .ok (.iconst 1, 1) := by decide +kernel
theorem dX10_work_167 : decode cX10_work 167 = .ok (.iadd, 1) := by decide +kernel
theorem dX10_work_168 : decode cX10_work 168 = .ok (.iastore, 1) := by decide +kernel
theorem dX10_work_169 : decode cX10_work 169 = .ok (.aload_n 0, 1) := by decide +kernel
theorem dX10_work_170 : decode cX10_work 170 = .ok (.getfield 51, 3) := by decide +kernel
theorem dX10_work_173 : decode cX10_work 173 = .ok (.iload_n 1, 1) := by decide +kernel
theorem dX10_work_174 : decode cX10_work 174 = .ok (.iaload, 1) := by decide +kernel
theorem dX10_work_175 : decode cX10_work 175 = .ok (.aload_n 0, 1) := by decide +kernel
theorem dX10_work_176 : decode cX10_work 176 = .ok (.getfield 42, 3) := by decide +kernel
theorem dX10_work_179 : decode cX10_work 179 = .ok (.iload_n 2, 1) := by decide +kernel
theorem dX10_work_180 : decode cX10_work 180 = .ok (.iaload, 1) := by decide +kernel
theorem dX10_work_181 : decode cX10_work 181 = .ok (.if_icmp .ne 32, 3) := by decide +kernel
theorem dX10_work_184 : decode cX10_work 184 = .ok (.aload_n 0, 1) := by decide +kernel
theorem dX10_work_185 : decode cX10_work 185 = .ok (.getfield 54, 3) := by decide +kernel
theorem dX10_work_188 : decode cX10_work 188 = .ok (.iload_n 1, 1) := by decide +kernel
theorem dX10_work_189 : decode cX10_work 189 = .ok (.dup2, 1) := by decide +kernel
theorem dX10_work_190 : decode cX10_work 190 = .ok (.iaload, 1) := by decide +kernel
theorem dX10_work_191 : decode cX10_work 191 = .ok (.iconst 1, 1) := by decide +kernel
theorem dX10_work_192 : decode cX10_work 192 = .ok (.iadd, 1) := by decide +kernel
theorem dX10_work_193 : decode cX10_work 193 = .ok (.iastore, 1) := by decide +kernel
theorem dX10_work_194 : decode cX10_work 194 = .ok (.aload_n 0, 1) := by decide +kernel
theorem dX10_work_195 : decode cX10_work 195 = .ok (.getfield 45, 3) := by decide +kernel
theorem dX10_work_198 : decode cX10_work 198 = .ok (.iload_n 1, 1) := by decide +kernel
theorem dX10_work_199 : decode cX10_work 199 = .ok (.iconst 3, 1) := by decide +kernel
theorem dX10_work_200 : decode cX10_work 200 = .ok (.iastore, 1) := by decide +kernel
theorem dX10_work_201 : decode cX10_work 201 = .ok (.aload_n 0, 1) := by decide +kernel
theorem dX10_work_202 : decode cX10_work 202 = .ok (.iload_n 3, 1) := by decide +kernel
theorem dX10_work_203 : decode cX10_work 203 = .ok (.invokevirtual 177, 3) := by decide +kernel
theorem dX10_work_206 : decode cX10_work 206 = .ok (.aload_n 0, 1) := by decide +kernel
theorem dX10_work_207 : decode cX10_work 207 = .ok (.iload_n 1, 1) := by decide +kernel
theorem dX10_work_208 : decode cX10_work 208 = .ok (.invokevirtual 180, 3) := by decide +kernel
theorem dX10_work_211 : decode cX10_work 211 = .ok (.istore 4, 2) := by decide +kernel
theorem dX10_work_213 : decode cX10_work 213 = .ok (.iconst 1, 1) := by decide +kernel
theorem dX10_work_214 : decode cX10_work 214 = .ok (.ireturn, 1) := by decide +kernel
theorem dX10_lays_0 : decode cX10_lays 0 = .ok (.aload_n 0, 1) := by decide +kernel
theorem dX10_lays_1 : decode cX10_lays 1 = .ok (.getfield 48, 3) := by decide +kernel
theorem dX10_lays_4 : decode cX10_lays 4 = .ok (.iload_n 1, 1) := by decide +kernel
theorem dX10_lays_5 : decode cX10_lays 5 = .ok (.iaload, 1) := by decide +kernel
theorem dX10_lays_6 : decode cX10_lays 6 = .ok (.istore_n 2, 1) := by decide +kernel
theorem dX10_lays_7 : decode cX10_lays 7 = .ok (.iload_n 2, 1) := by decide +kernel
theorem dX10_lays_8 : decode cX10_lays 8 = .ok (.aload_n 0, 1) := by decide +kernel
theorem dX10_lays_9 : decode cX10_lays 9 = .ok (.getfield 136, 3) := by decide +kernel
theorem dX10_lays_12 : decode cX10_lays 12 = .ok (.if_icmp .eq 16, 3) := by decide +kernel
theorem dX10_lays_15 : decode cX10_lays 15 = .ok (.aload_n 0, 1) := by decide +kernel
theorem dX10_lays_16 : decode cX10_lays 16 = .ok (.getfield 133, 3) := by decide +kernel
theorem dX10_lays_19 : decode cX10_lays 19 = .ok (.aload_n 0, 1) := by decide +kernel
theorem dX10_lays_20 : decode cX10_lays 20 = .ok (.getfield 23, 3) := by decide +kernel
theorem dX10_lays_23 : decode cX10_lays 23 = .ok (.if_icmp .lt 5, 3) := by decide +kernel
theorem dX10_lays_26 : decode cX10_lays 26 = .ok (.iconst 0, 1) := by decide +kernel
theorem dX10_lays_27 : decode cX10_lays 27 = .ok (.ireturn, 1) := by decide +kernel
theorem dX10_lays_28 : decode cX10_lays 28 = .ok (.aload_n 0, 1) := by decide +kernel
theorem dX10_lays_29 : decode cX10_lays 29 = .ok (.getfield 69, 3) := by decide +kernel
theorem dX10_lays_32 : decode cX10_lays 32 = .ok (.iload_n 2, 1) := by decide +kernel
theorem dX10_lays_33 : decode cX10_lays 33 = .ok (.iconst 1, 1) := by decide +kernel
theorem dX10_lays_34 : decode cX10_lays 34 = .ok (.bastore, 1) := by decide +kernel
theorem dX10_lays_35 : decode cX10_lays 35 = .ok (.aload_n 0, 1) := by decide +kernel
theorem dX10_lays_36 : decode cX10_lays 36 = .ok (.dup, 1) := by decide +kernel
theorem dX10_lays_37 : decode cX10_lays 37 = .ok (.getfield 133, 3) := by decide +kernel
theorem dX10_lays_40 : decode cX10_lays 40 = .ok (.iconst 1, 1) := by decide +kernel
theorem dX10_lays_41 : decode cX10_lays 41 = .ok (.iadd, 1) := by decide +kernel
theorem dX10_lays_42 : decode cX10_lays 42 = .ok (.putfield 133, 3) := by decide +kernel
theorem dX10_lays_45 : decode cX10_lays 45 = .ok (.aload_n 0, 1) := by decide +kernel
theorem dX10_lays_46 : decode cX10_lays 46 = .ok (.getfield 45, 3) := by decide +kernel
theorem dX10_lays_49 : decode cX10_lays 49 = .ok (.iload_n 1, 1) := by decide +kernel
theorem dX10_lays_50 : decode cX10_lays 50 = .ok (.iconst 0, 1) := by decide +kernel
theorem dX10_lays_51 : decode cX10_lays 51 = .ok (.iastore, 1) := by decide +kernel
theorem dX10_lays_52 : decode cX10_lays 52 = .ok (.aload_n 0, 1) := by decide +kernel
theorem dX10_lays_53 : decode cX10_lays 53 = .ok (.getfield 48, 3) := by decide +kernel
theorem dX10_lays_56 : decode cX10_lays 56 = .ok (.iload_n 1, 1) := by decide +kernel
theorem dX10_lays_57 : decode cX10_lays 57 = .ok (.iconst (-1), 1) := by decide +kernel
theorem dX10_lays_58 : decode cX10_lays 58 = .ok (.iastore, 1) := by decide +kernel
theorem dX10_lays_59 : decode cX10_lays 59 = .ok (.aload_n 0, 1) := by decide +kernel
theorem dX10_lays_60 : decode cX10_lays 60 = .ok (.getfield 136, 3) := by decide +kernel
theorem dX10_lays_63 : decode cX10_lays 63 = .ok (.aload_n 0, 1) := by decide +kernel
theorem dX10_lays_64 : decode cX10_lays 64 = .ok (.getfield 121, 3) := by decide +kernel
theorem dX10_lays_67 : decode cX10_lays 67 = .ok (.if_icmp .ge 48, 3) := by decide +kernel
theorem dX10_lays_70 : decode cX10_lays 70 = .ok (.aload_n 0, 1) := by decide +kernel
theorem dX10_lays_71 : decode cX10_lays 71 = .ok (.getfield 69, 3) := by decide +kernel
theorem dX10_lays_74 : decode cX10_lays 74 = .ok (.aload_n 0, 1) := by decide +kernel
theorem dX10_lays_75 : decode cX10_lays 75 = .ok (.getfield 136, 3) := by decide +kernel
theorem dX10_lays_78 : decode cX10_lays 78 = .ok (.baload, 1) := by decide +kernel
theorem dX10_lays_79 : decode cX10_lays 79 = .ok (.ifCond .eq 36, 3) := by decide +kernel
theorem dX10_lays_82 : decode cX10_lays 82 = .ok (.aload_n 0, 1) := by decide +kernel
theorem dX10_lays_83 : decode cX10_lays 83 = .ok (.getfield 69, 3) := by decide +kernel
theorem dX10_lays_86 : decode cX10_lays 86 = .ok (.aload_n 0, 1) := by decide +kernel
theorem dX10_lays_87 : decode cX10_lays 87 = .ok (.getfield 136, 3) := by decide +kernel
theorem dX10_lays_90 : decode cX10_lays 90 = .ok (.iconst 0, 1) := by decide +kernel
theorem dX10_lays_91 : decode cX10_lays 91 = .ok (.bastore, 1) := by decide +kernel
theorem dX10_lays_92 : decode cX10_lays 92 = .ok (.aload_n 0, 1) := by decide +kernel
theorem dX10_lays_93 : decode cX10_lays 93 = .ok (.dup, 1) := by decide +kernel
theorem dX10_lays_94 : decode cX10_lays 94 = .ok (.getfield 133, 3) := by decide +kernel
