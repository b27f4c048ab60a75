theorem dX0_init_0 : decode cX0_init 0 = .ok (.aload_n 0, 1) := by decide +kernel
theorem dX0_init_1 : decode cX0_init 1 = .ok (.invokespecial 3, 3) := by decide +kernel
theorem dX0_init_4 : decode cX0_init 4 = .ok (.aload_n 0, 1) := by decide +kernel
theorem dX0_init_5 : decode cX0_init 5 = .ok (.bipush 64, 2) := by decide +kernel
theorem dX0_init_7 : decode cX0_init 7 = .ok (.newarray .int, 2) := by decide +kernel
theorem dX0_init_9 : decode cX0_init 9 = .ok (.putfield 11, 3) := by decide +kernel
theorem dX0_init_12 : decode cX0_init 12 = .ok (.aload_n 0, 1) := by decide +kernel
theorem dX0_init_13 : decode cX0_init 13 = .ok (.bipush 64, 2) := by decide +kernel
theorem dX0_init_15 : decode cX0_init 15 = .ok (.newarray .int, 2) := by decide +kernel
theorem dX0_init_17 : decode cX0_init 17 = .ok (.putfield 15, 3) := by decide +kernel
theorem dX0_init_20 : decode cX0_init 20 = .ok (.aload_n 0, 1) := by decide +kernel
theorem dX0_init_21 : decode cX0_init 21 = .ok (.iconst 0, 1) := by decide +kernel
theorem dX0_init_22 : decode cX0_init 22 = .ok (.putfield 18, 3) := by decide +kernel
theorem dX0_init_25 : decode cX0_init 25 = .ok (.return_, 1) := by decide +kernel
theorem dX0_drain_0 : decode cX0_drain 0 = .ok (.aload_n 0, 1) := by decide +kernel
theorem dX0_drain_1 : decode cX0_drain 1 = .ok (.getfield 18, 3) := by decide +kernel
theorem dX0_drain_4 : decode cX0_drain 4 = .ok (.istore_n 1, 1) := by decide +kernel
theorem dX0_drain_5 : decode cX0_drain 5 = .ok (.aload_n 0, 1) := by decide +kernel
theorem dX0_drain_6 : decode cX0_drain 6 = .ok (.iconst 0, 1) := by decide +kernel
theorem dX0_drain_7 : decode cX0_drain 7 = .ok (.putfield 18, 3) := by decide +kernel
theorem dX0_drain_10 : decode cX0_drain 10 = .ok (.iload_n 1, 1) := by decide +kernel
theorem dX0_drain_11 : decode cX0_drain 11 = .ok (.ireturn, 1) := by decide +kernel
set_option maxRecDepth 20000 in
theorem ggX0_take_X0_countShared : GoodIn wsX0_take wsX0_countShared := goodIn_r _ [12, 1, 2, 13, 14, 15, 42, 43, 44] (by decide +kernel) (by decide +kernel)
set_option maxRecDepth 20000 in
theorem gX0_take_X0_countShared : GoodIn wsX0_take (wsV RX0 22 RX0 yX0_countShared wsX0_countShared) := goodIn_app (goodIn_of _ (by decide +kernel)) ggX0_take_X0_countShared
set_option maxRecDepth 20000 in
theorem ggX0_take_X0_makeRoomFor : GoodIn wsX0_take wsX0_makeRoomFor := goodIn_r _ [19, 20, 2, 4, 5, 6, 7, 21, 22, 23, 3, 24, 25, 26, 27, 28, 29, 30, 31, 32, 33, 34, 35, 36, 37, 38, 39, 42, 43, 44] (by decide +kernel) (by decide +kernel)
set_option maxRecDepth 20000 in
theorem gX0_take_X0_makeRoomFor : GoodIn wsX0_take (wsV RX0 26 RX0 yX0_makeRoomFor wsX0_makeRoomFor) := goodIn_app (goodIn_of _ (by decide +kernel)) ggX0_take_X0_makeRoomFor
set_option maxRecDepth 20000 in
theorem ggX0_take_X4_at : GoodIn wsX0_take wsX4_at := goodIn_r _ [15] (by decide +kernel) (by decide +kernel)
set_option maxRecDepth 20000 in
theorem gX0_take_X4_at_n30 : GoodIn wsX0_take (wsX4_at) := ggX0_take_X4_at
set_option maxRecDepth 20000 in
theorem ggX0_take_X4_put : GoodIn wsX0_take wsX4_put := goodIn_r _ [41] (by decide +kernel) (by decide +kernel)
set_option maxRecDepth 20000 in
theorem gX0_take_X4_put_n39 : GoodIn wsX0_take (wsX4_put) := ggX0_take_X4_put
theorem dX0_take_0 : decode cX0_take 0 = .ok (.iload_n 3, 1) := by decide +kernel
theorem dX0_take_1 : decode cX0_take 1 = .ok (.aload_n 0, 1) := by decide +kernel
theorem dX0_take_2 : decode cX0_take 2 = .ok (.aload_n 1, 1) := by decide +kernel
theorem dX0_take_3 : decode cX0_take 3 = .ok (.iload_n 3, 1) := by decide +kernel
theorem dX0_take_4 : decode cX0_take 4 = .ok (.invokevirtual 22, 3) := by decide +kernel
theorem dX0_take_7 : decode cX0_take 7 = .ok (.isub, 1) := by decide +kernel
theorem dX0_take_8 : decode cX0_take 8 = .ok (.istore 4, 2) := by decide +kernel
theorem dX0_take_10 : decode cX0_take 10 = .ok (.aload_n 0, 1) := by decide +kernel
theorem dX0_take_11 : decode cX0_take 11 = .ok (.aload_n 0, 1) := by decide +kernel
theorem dX0_take_12 : decode cX0_take 12 = .ok (.getfield 18, 3) := by decide +kernel
theorem dX0_take_15 : decode cX0_take 15 = .ok (.iload 4, 2) := by decide +kernel
theorem dX0_take_17 : decode cX0_take 17 = .ok (.iadd, 1) := by decide +kernel
theorem dX0_take_18 : decode cX0_take 18 = .ok (.invokevirtual 26, 3) := by decide +kernel
theorem dX0_take_21 : decode cX0_take 21 = .ok (.aload_n 0, 1) := by decide +kernel
theorem dX0_take_22 : decode cX0_take 22 = .ok (.getfield 18, 3) := by decide +kernel
theorem dX0_take_25 : decode cX0_take 25 = .ok (.iconst 1, 1) := by decide +kernel
theorem dX0_take_26 : decode cX0_take 26 = .ok (.isub, 1) := by decide +kernel
theorem dX0_take_27 : decode cX0_take 27 = .ok (.istore 5, 2) := by decide +kernel
theorem dX0_take_29 : decode cX0_take 29 = .ok (.iload_n 3, 1) := by decide +kernel
theorem dX0_take_30 : decode cX0_take 30 = .ok (.iconst 1, 1) := by decide +kernel
theorem dX0_take_31 : decode cX0_take 31 = .ok (.isub, 1) := by decide +kernel
theorem dX0_take_32 : decode cX0_take 32 = .ok (.istore 6, 2) := by decide +kernel
theorem dX0_take_34 : decode cX0_take 34 = .ok (.aload_n 0, 1) := by decide +kernel
theorem dX0_take_35 : decode cX0_take 35 = .ok (.getfield 18, 3) := by decide +kernel
theorem dX0_take_38 : decode cX0_take 38 = .ok (.iload 4, 2) := by decide +kernel
theorem dX0_take_40 : decode cX0_take 40 = .ok (.iadd, 1) := by decide +kernel
theorem dX0_take_41 : decode cX0_take 41 = .ok (.iconst 1, 1) := by decide +kernel
theorem dX0_take_42 : decode cX0_take 42 = .ok (.isub, 1) := by decide +kernel
theorem dX0_take_43 : decode cX0_take 43 = .ok (.istore 7, 2) := by decide +kernel
theorem dX0_take_45 : decode cX0_take 45 = .ok (.iload 7, 2) := by decide +kernel
theorem dX0_take_47 : decode cX0_take 47 = .ok (.ifCond .lt 140, 3) := by decide +kernel
theorem dX0_take_50 : decode cX0_take 50 = .ok (.iload 6, 2) := by decide +kernel
theorem dX0_take_52 : decode cX0_take 52 = .ok (.ifCond .lt 135, 3) := by decide +kernel
theorem dX0_take_55 : decode cX0_take 55 = .ok (.aload_n 0, 1) := by decide +kernel
theorem dX0_take_56 : decode cX0_take 56 = .ok (.getfield 11, 3) := by decide +kernel
theorem dX0_take_59 : decode cX0_take 59 = .ok (.iload 5, 2) := by decide +kernel
theorem dX0_take_61 : decode cX0_take 61 = .ok (.invokestatic 30, 3) := by decide +kernel
theorem dX0_take_64 : decode cX0_take 64 = .ok (.istore 8, 2) := by decide +kernel
theorem dX0_take_66 : decode cX0_take 66 = .ok (.aload_n 1, 1) := by decide +kernel
theorem dX0_take_67 : decode cX0_take 67 = .ok (.iload 6, 2) := by decide +kernel
theorem dX0_take_69 : decode cX0_take 69 = .ok (.invokestatic 30, 3) := by decide +kernel
theorem dX0_take_72 : decode cX0_take 72 = .ok (.istore 9, 2) := by decide +kernel
theorem dX0_take_74 : decode cX0_take 74 = .ok (.iload 8, 2) := by decide +kernel
theorem dX0_take_76 : decode cX0_take 76 = .ok (.iload 9, 2) := by decide +kernel
theorem dX0_take_78 : decode cX0_take 78 = .ok (.if_icmp .lt 15, 3) := by decide +kernel
theorem dX0_take_81 : decode cX0_take 81 = .ok (.aload_n 0, 1) := by decide +kernel
theorem dX0_take_82 : decode cX0_take 82 = .ok (.getfield 15, 3) := by decide +kernel
theorem dX0_take_85 : decode cX0_take 85 = .ok (.iload 5, 2) := by decide +kernel
theorem dX0_take_87 : decode cX0_take 87 = .ok (.invokestatic 30, 3) := by decide +kernel
theorem dX0_take_90 : decode cX0_take 90 = .ok (.goto 4, 3) := by decide +kernel
theorem dX0_take_93 : decode cX0_take 93 = .ok (.iconst (-1), 1) := by decide +kernel
theorem dX0_take_94 : decode cX0_take 94 = .ok (.istore 10, 2) := by decide +kernel
theorem dX0_take_96 : decode cX0_take 96 = .ok (.iload 9, 2) := by decide +kernel
theorem dX0_take_98 : decode cX0_take 98 = .ok (.iload 8, 2) := by decide +kernel
theorem dX0_take_100 : decode cX0_take 100 = .ok (.if_icmp .lt 12, 3) := by decide +kernel
theorem dX0_take_103 : decode cX0_take 103 = .ok (.aload_n 2, 1) := by decide +kernel
theorem dX0_take_104 : decode cX0_take 104 = .ok (.iload 6, 2) := by decide +kernel
theorem dX0_take_106 : decode cX0_take 106 = .ok (.invokestatic 30, 3) := by decide +kernel
theorem dX0_take_109 : decode cX0_take 109 = .ok (.goto 4, 3) := by decide +kernel
theorem dX0_take_112 : decode cX0_take 112 = .ok (.iconst (-1), 1) := by decide +kernel
theorem dX0_take_113 : decode cX0_take 113 = .ok (.istore 11, 2) := by decide +kernel
theorem dX0_take_115 : decode cX0_take 115 = .ok (.iload 5, 2) := by decide +kernel
theorem dX0_take_117 : decode cX0_take 117 = .ok (.iload 8, 2) := by decide +kernel
theorem dX0_take_119 : decode cX0_take 119 = .ok (.iload 9, 2) := by decide +kernel
theorem dX0_take_121 : decode cX0_take 121 = .ok (.if_icmp .lt 7, 3) := by decide +kernel
theorem dX0_take_124 : decode cX0_take 124 = .ok (.iconst 1, 1) := by decide +kernel
theorem dX0_take_125 : decode cX0_take 125 = .ok (.goto 4, 3) := by decide +kernel
theorem dX0_take_128 : decode cX0_take 128 = .ok (.iconst 0, 1) := by decide +kernel
theorem dX0_take_129 : decode cX0_take 129 = .ok (.isub, 1) := by decide +kernel
theorem dX0_take_130 : decode cX0_take 130 = .ok (.istore 5, 2) := by decide +kernel
theorem dX0_take_132 : decode cX0_take 132 = .ok (.iload 6, 2) := by decide +kernel
theorem dX0_take_134 : decode cX0_take 134 = .ok (.iload 9, 2) := by decide +kernel
theorem dX0_take_136 : decode cX0_take 136 = .ok (.iload 8, 2) := by decide +kernel
theorem dX0_take_138 : decode cX0_take 138 = .ok (.if_icmp .lt 7, 3) := by decide +kernel
theorem dX0_take_141 : decode cX0_take 141 = .ok (.iconst 1, 1) := by decide +kernel
theorem dX0_take_142 : decode cX0_take 142 = .ok (.goto 4, 3) := by decide +kernel
theorem dX0_take_145 : decode cX0_take 145 = .ok (.iconst 0, 1) := by decide +kernel
theorem dX0_take_146 : decode cX0_take 146 = .ok (.isub, 1) := by decide +kernel
theorem dX0_take_147 : decode cX0_take 147 = .ok (.istore 6, 2) := by decide +kernel
theorem dX0_take_149 : decode cX0_take 149 = .ok (.aload_n 0, 1) := by decide +kernel
theorem dX0_take_150 : decode cX0_take 150 = .ok (.getfield 11, 3) := by decide +kernel
theorem dX0_take_153 : decode cX0_take 153 = .ok (.iload 7, 2) := by decide +kernel
theorem dX0_take_155 : decode cX0_take 155 = .ok (.iload 8, 2) := by decide +kernel
theorem dX0_take_157 : decode cX0_take 157 = .ok (.iload 9, 2) := by decide +kernel
theorem dX0_take_159 : decode cX0_take 159 = .ok (.invokestatic 33, 3) := by decide +kernel
theorem dX0_take_162 : decode cX0_take 162 = .ok (.invokestatic 39, 3) := by decide +kernel
theorem dX0_take_165 : decode cX0_take 165 = .ok (.aload_n 0, 1) := by decide +kernel
theorem dX0_take_166 : decode cX0_take 166 = .ok (.getfield 15, 3) := by decide +kernel
theorem dX0_take_169 : decode cX0_take 169 = .ok (.iload 7, 2) := by decide +kernel
theorem dX0_take_171 : decode cX0_take 171 = .ok (.iload 10, 2) := by decide +kernel
theorem dX0_take_173 : decode cX0_take 173 = .ok (.iload 11, 2) := by decide +kernel
theorem dX0_take_175 : decode cX0_take 175 = .ok (.invokestatic 33, 3) := by decide +kernel
theorem dX0_take_178 : decode cX0_take 178 = .ok (.invokestatic 39, 3) := by decide +kernel
theorem dX0_take_181 : decode cX0_take 181 = .ok (.iinc 7 (-1), 3) := by decide +kernel
theorem dX0_take_184 : decode cX0_take 184 = .ok (.goto (-139), 3) := by decide +kernel
theorem dX0_take_187 : decode cX0_take 187 = .ok (.aload_n 0, 1) := by decide +kernel
theorem dX0_take_188 : decode cX0_take 188 = .ok (.dup, 1) := by decide +kernel
theorem dX0_take_189 : decode cX0_take 189 = .ok (.getfield 18, 3) := by decide +kernel
theorem dX0_take_192 : decode cX0_take 192 = .ok (.iload 4, 2) := by decide +kernel
theorem dX0_take_194 : decode cX0_take 194 = .ok (.iadd, 1) := by decide +kernel
theorem dX0_take_195 : decode cX0_take 195 = .ok (.putfield 18, 3) := by decide +kernel
theorem dX0_take_198 : decode cX0_take 198 = .ok (.iload 4, 2) := by decide +kernel
theorem dX0_take_200 : decode cX0_take 200 = .ok (.ireturn, 1) := by decide +kernel
set_option maxRecDepth 20000 in
theorem ggX0_countShared_X4_at : GoodIn wsX0_countShared wsX4_at := goodIn_r _ [5] (by decide +kernel) (by decide +kernel)
set_option maxRecDepth 20000 in
theorem gX0_countShared_X4_at_n30 : GoodIn wsX0_countShared (wsX4_at) := ggX0_countShared_X4_at
theorem dX0_countShared_0 : decode cX0_countShared 0 = .ok (.iconst 0, 1) := by decide +kernel
theorem dX0_countShared_1 : decode cX0_countShared 1 = .ok (.istore_n 3, 1) := by decide +kernel
theorem dX0_countShared_2 : decode cX0_countShared 2 = .ok (.iconst 0, 1) := by decide +kernel
theorem dX0_countShared_3 : decode cX0_countShared 3 = .ok (.istore 4, 2) := by decide +kernel
theorem dX0_countShared_5 : decode cX0_countShared 5 = .ok (.iconst 0, 1) := by decide +kernel
theorem dX0_countShared_6 : decode cX0_countShared 6 = .ok (.istore 5, 2) := by decide +kernel
theorem dX0_countShared_8 : decode cX0_countShared 8 = .ok (.iload 5, 2) := by decide +kernel
theorem dX0_countShared_10 : decode cX0_countShared 10 = .ok (.aload_n 0, 1) := by decide +kernel
theorem dX0_countShared_11 : decode cX0_countShared 11 = .ok (.getfield 18, 3) := by decide +kernel
theorem dX0_countShared_14 : decode cX0_countShared 14 = .ok (.if_icmp .ge 63, 3) := by decide +kernel
theorem dX0_countShared_17 : decode cX0_countShared 17 = .ok (.aload_n 0, 1) := by decide +kernel
theorem dX0_countShared_18 : decode cX0_countShared 18 = .ok (.getfield 11, 3) := by decide +kernel
theorem dX0_countShared_21 : decode cX0_countShared 21 = .ok (.iload 5, 2) := by decide +kernel
theorem dX0_countShared_23 : decode cX0_countShared 23 = .ok (.invokestatic 30, 3) := by decide +kernel
theorem dX0_countShared_26 : decode cX0_countShared 26 = .ok (.istore 6, 2) := by decide +kernel
theorem dX0_countShared_28 : decode cX0_countShared 28 = .ok (.iload 4, 2) := by decide +kernel
theorem dX0_countShared_30 : decode cX0_countShared 30 = .ok (.iload_n 2, 1) := by decide +kernel
theorem dX0_countShared_31 : decode cX0_countShared 31 = .ok (.if_icmp .ge 20, 3) := by decide +kernel
theorem dX0_countShared_34 : decode cX0_countShared 34 = .ok (.aload_n 1, 1) := by decide +kernel
theorem dX0_countShared_35 : decode cX0_countShared 35 = .ok (.iload 4, 2) := by decide +kernel
theorem dX0_countShared_37 : decode cX0_countShared 37 = .ok (.invokestatic 30, 3) := by decide +kernel
theorem dX0_countShared_40 : decode cX0_countShared 40 = .ok (.iload 6, 2) := by decide +kernel
theorem dX0_countShared_42 : decode cX0_countShared 42 = .ok (.if_icmp .ge 9, 3) := by decide +kernel
theorem dX0_countShared_45 : decode cX0_countShared 45 = .ok (.iinc 4 1, 3) := by decide +kernel
theorem dX0_countShared_48 : decode cX0_countShared 48 = .ok (.goto (-20), 3) := by decide +kernel
theorem dX0_countShared_51 : decode cX0_countShared 51 = .ok (.iload 4, 2) := by decide +kernel
theorem dX0_countShared_53 : decode cX0_countShared 53 = .ok (.iload_n 2, 1) := by decide +kernel
theorem dX0_countShared_54 : decode cX0_countShared 54 = .ok (.if_icmp .ge 17, 3) := by decide +kernel
theorem dX0_countShared_57 : decode cX0_countShared 57 = .ok (.aload_n 1, 1) := by decide +kernel
theorem dX0_countShared_58 : decode cX0_countShared 58 = .ok (.iload 4, 2) := by decide +kernel
theorem dX0_countShared_60 : decode cX0_countShared 60 = .ok (.invokestatic 30, 3) := by decide +kernel
theorem dX0_countShared_63 : decode cX0_countShared 63 = .ok (.iload 6, 2) := by decide +kernel
theorem dX0_countShared_65 : decode cX0_countShared 65 = .ok (.if_icmp .ne 6, 3) := by decide +kernel
theorem dX0_countShared_68 : decode cX0_countShared 68 = .ok (.iinc 3 1, 3) := by decide +kernel
theorem dX0_countShared_71 : decode cX0_countShared 71 = .ok (.iinc 5 1, 3) := by decide +kernel
theorem dX0_countShared_74 : decode cX0_countShared 74 = .ok (.goto (-66), 3) := by decide +kernel
theorem dX0_countShared_77 : decode cX0_countShared 77 = .ok (.iload_n 3, 1) := by decide +kernel
theorem dX0_countShared_78 : decode cX0_countShared 78 = .ok (.ireturn, 1) := by decide +kernel
set_option maxRecDepth 20000 in
theorem ggX0_dateFor_X4_at : GoodIn wsX0_dateFor wsX4_at := goodIn_r _ [7] (by decide +kernel) (by decide +kernel)
set_option maxRecDepth 20000 in
theorem gX0_dateFor_X4_at_n30 : GoodIn wsX0_dateFor (wsX4_at) := ggX0_dateFor_X4_at
theorem dX0_dateFor_0 : decode cX0_dateFor 0 = .ok (.iconst 0, 1) := by decide +kernel
theorem dX0_dateFor_1 : decode cX0_dateFor 1 = .ok (.istore_n 2, 1) := by decide +kernel
theorem dX0_dateFor_2 : decode cX0_dateFor 2 = .ok (.ldc 43, 2) := by decide +kernel
theorem dX0_dateFor_4 : decode cX0_dateFor 4 = .ok (.istore_n 3, 1) := by decide +kernel
theorem dX0_dateFor_5 : decode cX0_dateFor 5 = .ok (.iload_n 3, 1) := by decide +kernel
theorem dX0_dateFor_6 : decode cX0_dateFor 6 = .ok (.ifCond .le 40, 3) := by decide +kernel
theorem dX0_dateFor_9 : decode cX0_dateFor 9 = .ok (.iload_n 2, 1) := by decide +kernel
theorem dX0_dateFor_10 : decode cX0_dateFor 10 = .ok (.iload_n 3, 1) := by decide +kernel
theorem dX0_dateFor_11 : decode cX0_dateFor 11 = .ok (.iadd, 1) := by decide +kernel
theorem dX0_dateFor_12 : decode cX0_dateFor 12 = .ok (.aload_n 0, 1) := by decide +kernel
theorem dX0_dateFor_13 : decode cX0_dateFor 13 = .ok (.getfield 18, 3) := by decide +kernel
theorem dX0_dateFor_16 : decode cX0_dateFor 16 = .ok (.if_icmp .gt 23, 3) := by decide +kernel
theorem dX0_dateFor_19 : decode cX0_dateFor 19 = .ok (.aload_n 0, 1) := by decide +kernel
theorem dX0_dateFor_20 : decode cX0_dateFor 20 = .ok (.getfield 11, 3) := by decide +kernel
theorem dX0_dateFor_23 : decode cX0_dateFor 23 = .ok (.iload_n 2, 1) := by decide +kernel
theorem dX0_dateFor_24 : decode cX0_dateFor 24 = .ok (.iload_n 3, 1) := by decide +kernel
theorem dX0_dateFor_25 : decode cX0_dateFor 25 = .ok (.iadd, 1) := by decide +kernel
theorem dX0_dateFor_26 : decode cX0_dateFor 26 = .ok (.iconst 1, 1) := by decide +kernel
theorem dX0_dateFor_27 : decode cX0_dateFor 27 = .ok (.isub, 1) := by decide +kernel
theorem dX0_dateFor_28 : decode cX0_dateFor 28 = .ok (.invokestatic 30, 3) := by decide +kernel
theorem dX0_dateFor_31 : decode cX0_dateFor 31 = .ok (.iload_n 1, 1) := by decide +kernel
theorem dX0_dateFor_32 : decode cX0_dateFor 32 = .ok (.if_icmp .ge 7, 3) := by decide +kernel
theorem dX0_dateFor_35 : decode cX0_dateFor 35 = .ok (.iload_n 2, 1) := by decide +kernel
theorem dX0_dateFor_36 : decode cX0_dateFor 36 = .ok (.iload_n 3, 1) := by decide +kernel
theorem dX0_dateFor_37 : decode cX0_dateFor 37 = .ok (.iadd, 1) := by decide +kernel
theorem dX0_dateFor_38 : decode cX0_dateFor 38 = .ok (.istore_n 2, 1) := by decide +kernel
theorem dX0_dateFor_39 : decode cX0_dateFor 39 = .ok (.iload_n 3, 1) := by decide +kernel
theorem dX0_dateFor_40 : decode cX0_dateFor 40 = .ok (.iconst 2, 1) := by decide +kernel
theorem dX0_dateFor_41 : decode cX0_dateFor 41 = .ok (.idiv, 1) := by decide +kernel
theorem dX0_dateFor_42 : decode cX0_dateFor 42 = .ok (.istore_n 3, 1) := by decide +kernel
theorem dX0_dateFor_43 : decode cX0_dateFor 43 = .ok (.goto (-38), 3) := by decide +kernel
theorem dX0_dateFor_46 : decode cX0_dateFor 46 = .ok (.iload_n 2, 1) := by decide +kernel
theorem dX0_dateFor_47 : decode cX0_dateFor 47 = .ok (.aload_n 0, 1) := by decide +kernel
theorem dX0_dateFor_48 : decode cX0_dateFor 48 = .ok (.getfield 18, 3) := by decide +kernel
theorem dX0_dateFor_51 : decode cX0_dateFor 51 = .ok (.if_icmp .ge 26, 3) := by decide +kernel
theorem dX0_dateFor_54 : decode cX0_dateFor 54 = .ok (.aload_n 0, 1) := by decide +kernel
theorem dX0_dateFor_55 : decode cX0_dateFor 55 = .ok (.getfield 11, 3) := by decide +kernel
theorem dX0_dateFor_58 : decode cX0_dateFor 58 = .ok (.iload_n 2, 1) := by decide +kernel
theorem dX0_dateFor_59 : decode cX0_dateFor 59 = .ok (.invokestatic 30, 3) := by decide +kernel
theorem dX0_dateFor_62 : decode cX0_dateFor 62 = .ok (.iload_n 1, 1) := by decide +kernel
theorem dX0_dateFor_63 : decode cX0_dateFor 63 = .ok (.if_icmp .ne 14, 3) := by decide +kernel
theorem dX0_dateFor_66 : decode cX0_dateFor 66 = .ok (.aload_n 0, 1) := by decide +kernel
theorem dX0_dateFor_67 : decode cX0_dateFor 67 = .ok (.getfield 15, 3) := by decide +kernel
theorem dX0_dateFor_70 : decode cX0_dateFor 70 = .ok (.iload_n 2, 1) := by decide +kernel
theorem dX0_dateFor_71 : decode cX0_dateFor 71 = .ok (.invokestatic 30, 3) := by decide +kernel
theorem dX0_dateFor_74 : decode cX0_dateFor 74 = .ok (.goto 4, 3) := by decide +kernel
theorem dX0_dateFor_77 : decode cX0_dateFor 77 = .ok (.iconst (-1), 1) := by decide +kernel
theorem dX0_dateFor_78 : decode cX0_dateFor 78 = .ok (.ireturn, 1) := by decide +kernel
set_option maxRecDepth 20000 in
theorem ggX0_makeRoomFor_J7_copyOf_59c91 : GoodIn wsX0_makeRoomFor wsJ7_copyOf_59c91 := goodIn_r _ [14, 15, 16, 17, 18, 19, 20, 21, 22, 8, 5, 9, 23, 24, 25, 26] (by decide +kernel) (by decide +kernel)
set_option maxRecDepth 20000 in
theorem gX0_makeRoomFor_J7_copyOf_59c91 : GoodIn wsX0_makeRoomFor (va_wsS RX0 48 yJ7_copyOf_59c91 wsJ7_copyOf_59c91) := goodIn_app (goodIn_of _ (by decide +kernel)) ggX0_makeRoomFor_J7_copyOf_59c91
theorem dX0_makeRoomFor_0 : decode cX0_makeRoomFor 0 = .ok (.ldc 44, 2) := by decide +kernel
theorem dX0_makeRoomFor_2 : decode cX0_makeRoomFor 2 = .ok (.iload_n 1, 1) := by decide +kernel
theorem dX0_makeRoomFor_3 : decode cX0_makeRoomFor 3 = .ok (.iconst 2, 1) := by decide +kernel
theorem dX0_makeRoomFor_4 : decode cX0_makeRoomFor 4 = .ok (.aload_n 0, 1) := by decide +kernel
theorem dX0_makeRoomFor_5 : decode cX0_makeRoomFor 5 = .ok (.getfield 11, 3) := by decide +kernel
theorem dX0_makeRoomFor_8 : decode cX0_makeRoomFor 8 = .ok (.arraylength, 1) := by decide +kernel
theorem dX0_makeRoomFor_9 : decode cX0_makeRoomFor 9 = .ok (.imul, 1) := by decide +kernel
theorem dX0_makeRoomFor_10 : decode cX0_makeRoomFor 10 = .ok (.invokestatic 33, 3) := by decide +kernel
theorem dX0_makeRoomFor_13 : decode cX0_makeRoomFor 13 = .ok (.invokestatic 45, 3) := by decide +kernel
theorem dX0_makeRoomFor_16 : decode cX0_makeRoomFor 16 = .ok (.istore_n 2, 1) := by decide +kernel
theorem dX0_makeRoomFor_17 : decode cX0_makeRoomFor 17 = .ok (.iload_n 1, 1) := by decide +kernel
theorem dX0_makeRoomFor_18 : decode cX0_makeRoomFor 18 = .ok (.aload_n 0, 1) := by decide +kernel
theorem dX0_makeRoomFor_19 : decode cX0_makeRoomFor 19 = .ok (.getfield 11, 3) := by decide +kernel
theorem dX0_makeRoomFor_22 : decode cX0_makeRoomFor 22 = .ok (.arraylength, 1) := by decide +kernel
theorem dX0_makeRoomFor_23 : decode cX0_makeRoomFor 23 = .ok (.if_icmp .le 36, 3) := by decide +kernel
theorem dX0_makeRoomFor_26 : decode cX0_makeRoomFor 26 = .ok (.iload_n 2, 1) := by decide +kernel
theorem dX0_makeRoomFor_27 : decode cX0_makeRoomFor 27 = .ok (.aload_n 0, 1) := by decide +kernel
theorem dX0_makeRoomFor_28 : decode cX0_makeRoomFor 28 = .ok (.getfield 11, 3) := by decide +kernel
theorem dX0_makeRoomFor_31 : decode cX0_makeRoomFor 31 = .ok (.arraylength, 1) := by decide +kernel
theorem dX0_makeRoomFor_32 : decode cX0_makeRoomFor 32 = .ok (.if_icmp .le 27, 3) := by decide +kernel
theorem dX0_makeRoomFor_35 : decode cX0_makeRoomFor 35 = .ok (.aload_n 0, 1) := by decide +kernel
theorem dX0_makeRoomFor_36 : decode cX0_makeRoomFor 36 = .ok (.aload_n 0, 1) := by decide +kernel
theorem dX0_makeRoomFor_37 : decode cX0_makeRoomFor 37 = .ok (.getfield 11, 3) := by decide +kernel
theorem dX0_makeRoomFor_40 : decode cX0_makeRoomFor 40 = .ok (.iload_n 2, 1) := by decide +kernel
theorem dX0_makeRoomFor_41 : decode cX0_makeRoomFor 41 = .ok (.invokestatic 48, 3) := by decide +kernel
theorem dX0_makeRoomFor_44 : decode cX0_makeRoomFor 44 = .ok (.putfield 11, 3) := by decide +kernel
theorem dX0_makeRoomFor_47 : decode cX0_makeRoomFor 47 = .ok (.aload_n 0, 1) := by decide +kernel
theorem dX0_makeRoomFor_48 : decode cX0_makeRoomFor 48 = .ok (.aload_n 0, 1) := by decide +kernel
theorem dX0_makeRoomFor_49 : decode cX0_makeRoomFor 49 = .ok (.getfield 15, 3) := by decide +kernel
theorem dX0_makeRoomFor_52 : decode cX0_makeRoomFor 52 = .ok (.iload_n 2, 1) := by decide +kernel
theorem dX0_makeRoomFor_53 : decode cX0_makeRoomFor 53 = .ok (.invokestatic 48, 3) := by decide +kernel
theorem dX0_makeRoomFor_56 : decode cX0_makeRoomFor 56 = .ok (.putfield 15, 3) := by decide +kernel
theorem dX0_makeRoomFor_59 : decode cX0_makeRoomFor 59 = .ok (.return_, 1) := by decide +kernel
theorem dX1_init_0 : decode cX1_init 0 = .ok (.aload_n 0, 1) := by decide +kernel
theorem dX1_init_1 : decode cX1_init 1 = .ok (.invokespecial 3, 3) := by decide +kernel
theorem dX1_init_4 : decode cX1_init 4 = .ok (.aload_n 0, 1) := by decide +kernel
theorem dX1_init_5 : decode cX1_init 5 = .ok (.bipush 32, 2) := by decide +kernel
theorem dX1_init_7 : decode cX1_init 7 = .ok (.newarray .int, 2) := by decide +kernel
theorem dX1_init_9 : decode cX1_init 9 = .ok (.putfield 9, 3) := by decide +kernel
theorem dX1_init_12 : decode cX1_init 12 = .ok (.aload_n 0, 1) := by decide +kernel
theorem dX1_init_13 : decode cX1_init 13 = .ok (.iconst 0, 1) := by decide +kernel
theorem dX1_init_14 : decode cX1_init 14 = .ok (.putfield 15, 3) := by decide +kernel
theorem dX1_init_17 : decode cX1_init 17 = .ok (.aload_n 0, 1) := by decide +kernel
theorem dX1_init_18 : decode cX1_init 18 = .ok (.iload_n 1, 1) := by decide +kernel
theorem dX1_init_19 : decode cX1_init 19 = .ok (.putfield 19, 3) := by decide +kernel
theorem dX1_init_22 : decode cX1_init 22 = .ok (.return_, 1) := by decide +kernel
theorem dX1_forget_0 : decode cX1_forget 0 = .ok (.aload_n 0, 1) := by decide +kernel
theorem dX1_forget_1 : decode cX1_forget 1 = .ok (.iconst 0, 1) := by decide +kernel
theorem dX1_forget_2 : decode cX1_forget 2 = .ok (.putfield 15, 3) := by decide +kernel
theorem dX1_forget_5 : decode cX1_forget 5 = .ok (.return_, 1) := by decide +kernel
set_option maxRecDepth 20000 in
theorem ggX1_keepThoseOf_X1_forget : GoodIn wsX1_keepThoseOf wsX1_forget := goodIn_r _ [7, 8, 29, 30, 31] (by decide +kernel) (by decide +kernel)
set_option maxRecDepth 20000 in
theorem gX1_keepThoseOf_X1_forget : GoodIn wsX1_keepThoseOf (wsV RX1 22 RX1 yX1_forget wsX1_forget) := goodIn_app (goodIn_of _ (by decide +kernel)) ggX1_keepThoseOf_X1_forget
set_option maxRecDepth 20000 in
theorem ggX1_keepThoseOf_X4_at : GoodIn wsX1_keepThoseOf wsX4_at := goodIn_r _ [11] (by decide +kernel) (by decide +kernel)
set_option maxRecDepth 20000 in
theorem gX1_keepThoseOf_X4_at_n31 : GoodIn wsX1_keepThoseOf (wsX4_at) := ggX1_keepThoseOf_X4_at
set_option maxRecDepth 20000 in
theorem ggX1_keepThoseOf_X4_hashFor : GoodIn wsX1_keepThoseOf wsX4_hashFor := goodIn_r _ [13, 14, 15, 16, 17] (by decide +kernel) (by decide +kernel)
set_option maxRecDepth 20000 in
theorem gX1_keepThoseOf_X4_hashFor_n35 : GoodIn wsX1_keepThoseOf (wsX4_hashFor) := ggX1_keepThoseOf_X4_hashFor
set_option maxRecDepth 20000 in
theorem ggX1_keepThoseOf_X1_offer : GoodIn wsX1_keepThoseOf wsX1_offer := goodIn_r _ [21, 8, 22, 23, 9, 10, 11, 24, 25, 29, 30, 31] (by decide +kernel) (by decide +kernel)
set_option maxRecDepth 20000 in
theorem gX1_keepThoseOf_X1_offer : GoodIn wsX1_keepThoseOf (wsV RX1 39 RX1 yX1_offer wsX1_offer) := goodIn_app (goodIn_of _ (by decide +kernel)) ggX1_keepThoseOf_X1_offer
theorem dX1_keepThoseOf_0 : decode cX1_keepThoseOf 0 = .ok (.aload_n 0, 1) := by decide +kernel
theorem dX1_keepThoseOf_1 : decode cX1_keepThoseOf 1 = .ok (.invokevirtual 22, 3) := by decide +kernel
theorem dX1_keepThoseOf_4 : decode cX1_keepThoseOf 4 = .ok (.iconst 0, 1) := by decide +kernel
theorem dX1_keepThoseOf_5 : decode cX1_keepThoseOf 5 = .ok (.istore_n 2, 1) := by decide +kernel
theorem dX1_keepThoseOf_6 : decode cX1_keepThoseOf 6 = .ok (.iload_n 2, 1) := by decide +kernel
theorem dX1_keepThoseOf_7 : decode cX1_keepThoseOf 7 = .ok (.aload_n 1, 1) := by decide +kernel
theorem dX1_keepThoseOf_8 : decode cX1_keepThoseOf 8 = .ok (.getfield 25, 3) := by decide +kernel
theorem dX1_keepThoseOf_11 : decode cX1_keepThoseOf 11 = .ok (.if_icmp .ge 24, 3) := by decide +kernel
theorem dX1_keepThoseOf_14 : decode cX1_keepThoseOf 14 = .ok (.aload_n 0, 1) := by decide +kernel
theorem dX1_keepThoseOf_15 : decode cX1_keepThoseOf 15 = .ok (.aload_n 1, 1) := by decide +kernel
theorem dX1_keepThoseOf_16 : decode cX1_keepThoseOf 16 = .ok (.getfield 28, 3) := by decide +kernel
theorem dX1_keepThoseOf_19 : decode cX1_keepThoseOf 19 = .ok (.iload_n 2, 1) := by decide +kernel
theorem dX1_keepThoseOf_20 : decode cX1_keepThoseOf 20 = .ok (.invokestatic 31, 3) := by decide +kernel
theorem dX1_keepThoseOf_23 : decode cX1_keepThoseOf 23 = .ok (.invokestatic 35, 3) := by decide +kernel
theorem dX1_keepThoseOf_26 : decode cX1_keepThoseOf 26 = .ok (.invokevirtual 39, 3) := by decide +kernel
theorem dX1_keepThoseOf_29 : decode cX1_keepThoseOf 29 = .ok (.iinc 2 1, 3) := by decide +kernel
theorem dX1_keepThoseOf_32 : decode cX1_keepThoseOf 32 = .ok (.goto (-26), 3) := by decide +kernel
theorem dX1_keepThoseOf_35 : decode cX1_keepThoseOf 35 = .ok (.return_, 1) := by decide +kernel
set_option maxRecDepth 20000 in
theorem ggX1_offerAllOf_X4_at : GoodIn wsX1_offerAllOf wsX4_at := goodIn_r _ [5] (by decide +kernel) (by decide +kernel)
set_option maxRecDepth 20000 in
theorem gX1_offerAllOf_X4_at_n31 : GoodIn wsX1_offerAllOf (wsX4_at) := ggX1_offerAllOf_X4_at
set_option maxRecDepth 20000 in
theorem ggX1_offerAllOf_X1_offer : GoodIn wsX1_offerAllOf wsX1_offer := goodIn_r _ [10, 1, 11, 2, 3, 4, 5, 12, 13, 14, 15, 16] (by decide +kernel) (by decide +kernel)
set_option maxRecDepth 20000 in
theorem gX1_offerAllOf_X1_offer : GoodIn wsX1_offerAllOf (wsV RX1 39 RX1 yX1_offer wsX1_offer) := goodIn_app (goodIn_of _ (by decide +kernel)) ggX1_offerAllOf_X1_offer
theorem dX1_offerAllOf_0 : decode cX1_offerAllOf 0 = .ok (.iconst 0, 1) := by decide +kernel
theorem dX1_offerAllOf_1 : decode cX1_offerAllOf 1 = .ok (.istore_n 2, 1) := by decide +kernel
theorem dX1_offerAllOf_2 : decode cX1_offerAllOf 2 = .ok (.iload_n 2, 1) := by decide +kernel
theorem dX1_offerAllOf_3 : decode cX1_offerAllOf 3 = .ok (.aload_n 1, 1) := by decide +kernel
theorem dX1_offerAllOf_4 : decode cX1_offerAllOf 4 = .ok (.getfield 15, 3) := by decide +kernel
theorem dX1_offerAllOf_7 : decode cX1_offerAllOf 7 = .ok (.if_icmp .ge 21, 3) := by decide +kernel
theorem dX1_offerAllOf_10 : decode cX1_offerAllOf 10 = .ok (.aload_n 0, 1) := by decide +kernel
theorem dX1_offerAllOf_11 : decode cX1_offerAllOf 11 = .ok (.aload_n 1, 1) := by decide +kernel
theorem dX1_offerAllOf_12 : decode cX1_offerAllOf 12 = .ok (.getfield 9, 3) := by decide +kernel
theorem dX1_offerAllOf_15 : decode cX1_offerAllOf 15 = .ok (.iload_n 2, 1) := by decide +kernel
theorem dX1_offerAllOf_16 : decode cX1_offerAllOf 16 = .ok (.invokestatic 31, 3) := by decide +kernel
theorem dX1_offerAllOf_19 : decode cX1_offerAllOf 19 = .ok (.invokevirtual 39, 3) := by decide +kernel
theorem dX1_offerAllOf_22 : decode cX1_offerAllOf 22 = .ok (.iinc 2 1, 3) := by decide +kernel
theorem dX1_offerAllOf_25 : decode cX1_offerAllOf 25 = .ok (.goto (-23), 3) := by decide +kernel
theorem dX1_offerAllOf_28 : decode cX1_offerAllOf 28 = .ok (.return_, 1) := by decide +kernel
set_option maxRecDepth 20000 in
theorem ggX1_has_X4_at : GoodIn wsX1_has wsX4_at := goodIn_r _ [5] (by decide +kernel) (by decide +kernel)
set_option maxRecDepth 20000 in
theorem gX1_has_X4_at_n31 : GoodIn wsX1_has (wsX4_at) := ggX1_has_X4_at
theorem dX1_has_0 : decode cX1_has 0 = .ok (.iconst 0, 1) := by decide +kernel
theorem dX1_has_1 : decode cX1_has 1 = .ok (.istore_n 2, 1) := by decide +kernel
theorem dX1_has_2 : decode cX1_has 2 = .ok (.iload_n 2, 1) := by decide +kernel
theorem dX1_has_3 : decode cX1_has 3 = .ok (.aload_n 0, 1) := by decide +kernel
theorem dX1_has_4 : decode cX1_has 4 = .ok (.getfield 15, 3) := by decide +kernel
theorem dX1_has_7 : decode cX1_has 7 = .ok (.if_icmp .ge 23, 3) := by decide +kernel
theorem dX1_has_10 : decode cX1_has 10 = .ok (.aload_n 0, 1) := by decide +kernel
theorem dX1_has_11 : decode cX1_has 11 = .ok (.getfield 9, 3) := by decide +kernel
theorem dX1_has_14 : decode cX1_has 14 = .ok (.iload_n 2, 1) := by decide +kernel
theorem dX1_has_15 : decode cX1_has 15 = .ok (.invokestatic 31, 3) := by decide +kernel
theorem dX1_has_18 : decode cX1_has 18 = .ok (.iload_n 1, 1) := by decide +kernel
theorem dX1_has_19 : decode cX1_has 19 = .ok (.if_icmp .ne 5, 3) := by decide +kernel
theorem dX1_has_22 : decode cX1_has 22 = .ok (.iconst 1, 1) := by decide +kernel
theorem dX1_has_23 : decode cX1_has 23 = .ok (.ireturn, 1) := by decide +kernel
theorem dX1_has_24 : decode cX1_has 24 = .ok (.iinc 2 1, 3) := by decide +kernel
theorem dX1_has_27 : decode cX1_has 27 = .ok (.goto (-25), 3) := by decide +kernel
theorem dX1_has_30 : decode cX1_has 30 = .ok (.iconst 0, 1) := by decide +kernel
theorem dX1_has_31 : decode cX1_has 31 = .ok (.ireturn, 1) := by decide +kernel
set_option maxRecDepth 20000 in
theorem ggX1_estimate_X4_at : GoodIn wsX1_estimate wsX4_at := goodIn_r _ [7] (by decide +kernel) (by decide +kernel)
set_option maxRecDepth 20000 in
theorem gX1_estimate_X4_at_n31 : GoodIn wsX1_estimate (wsX4_at) := ggX1_estimate_X4_at
theorem dX1_estimate_0 : decode cX1_estimate 0 = .ok (.aload_n 0, 1) := by decide +kernel
theorem dX1_estimate_1 : decode cX1_estimate 1 = .ok (.getfield 9, 3) := by decide +kernel
theorem dX1_estimate_4 : decode cX1_estimate 4 = .ok (.aload_n 0, 1) := by decide +kernel
theorem dX1_estimate_5 : decode cX1_estimate 5 = .ok (.getfield 15, 3) := by decide +kernel
theorem dX1_estimate_8 : decode cX1_estimate 8 = .ok (.iconst 1, 1) := by decide +kernel
theorem dX1_estimate_9 : decode cX1_estimate 9 = .ok (.isub, 1) := by decide +kernel
theorem dX1_estimate_10 : decode cX1_estimate 10 = .ok (.invokestatic 31, 3) := by decide +kernel
theorem dX1_estimate_13 : decode cX1_estimate 13 = .ok (.istore_n 1, 1) := by decide +kernel
theorem dX1_estimate_14 : decode cX1_estimate 14 = .ok (.aload_n 0, 1) := by decide +kernel
theorem dX1_estimate_15 : decode cX1_estimate 15 = .ok (.getfield 15, 3) := by decide +kernel
theorem dX1_estimate_18 : decode cX1_estimate 18 = .ok (.aload_n 0, 1) := by decide +kernel
theorem dX1_estimate_19 : decode cX1_estimate 19 = .ok (.getfield 19, 3) := by decide +kernel
theorem dX1_estimate_22 : decode cX1_estimate 22 = .ok (.if_icmp .lt 7, 3) := by decide +kernel
theorem dX1_estimate_25 : decode cX1_estimate 25 = .ok (.iload_n 1, 1) := by decide +kernel
theorem dX1_estimate_26 : decode cX1_estimate 26 = .ok (.ifCond .gt 8, 3) := by decide +kernel
theorem dX1_estimate_29 : decode cX1_estimate 29 = .ok (.aload_n 0, 1) := by decide +kernel
theorem dX1_estimate_30 : decode cX1_estimate 30 = .ok (.getfield 15, 3) := by decide +kernel
theorem dX1_estimate_33 : decode cX1_estimate 33 = .ok (.ireturn, 1) := by decide +kernel
theorem dX1_estimate_34 : decode cX1_estimate 34 = .ok (.aload_n 0, 1) := by decide +kernel
theorem dX1_estimate_35 : decode cX1_estimate 35 = .ok (.getfield 19, 3) := by decide +kernel
theorem dX1_estimate_38 : decode cX1_estimate 38 = .ok (.iconst 1, 1) := by decide +kernel
theorem dX1_estimate_39 : decode cX1_estimate 39 = .ok (.isub, 1) := by decide +kernel
theorem dX1_estimate_40 : decode cX1_estimate 40 = .ok (.ldc 43, 2) := by decide +kernel
theorem dX1_estimate_42 : decode cX1_estimate 42 = .ok (.imul, 1) := by decide +kernel
theorem dX1_estimate_43 : decode cX1_estimate 43 = .ok (.iload_n 1, 1) := by decide +kernel
theorem dX1_estimate_44 : decode cX1_estimate 44 = .ok (.idiv, 1) := by decide +kernel
theorem dX1_estimate_45 : decode cX1_estimate 45 = .ok (.ireturn, 1) := by decide +kernel
set_option maxRecDepth 20000 in
theorem ggX1_estimateOfPart_X1_estimate : GoodIn wsX1_estimateOfPart wsX1_estimate := goodIn_r _ [6, 7, 1, 8, 9, 10, 11, 12, 13, 14, 15] (by decide +kernel) (by decide +kernel)
set_option maxRecDepth 20000 in
theorem gX1_estimateOfPart_X1_estimate : GoodIn wsX1_estimateOfPart (wsV RX1 44 RX1 yX1_estimate wsX1_estimate) := goodIn_app (goodIn_of _ (by decide +kernel)) ggX1_estimateOfPart_X1_estimate
theorem dX1_estimateOfPart_0 : decode cX1_estimateOfPart 0 = .ok (.aload_n 0, 1) := by decide +kernel
theorem dX1_estimateOfPart_1 : decode cX1_estimateOfPart 1 = .ok (.getfield 15, 3) := by decide +kernel
theorem dX1_estimateOfPart_4 : decode cX1_estimateOfPart 4 = .ok (.ifCond .le 21, 3) := by decide +kernel
theorem dX1_estimateOfPart_7 : decode cX1_estimateOfPart 7 = .ok (.aload_n 0, 1) := by decide +kernel
theorem dX1_estimateOfPart_8 : decode cX1_estimateOfPart 8 = .ok (.invokevirtual 44, 3) := by decide +kernel
theorem dX1_estimateOfPart_11 : decode cX1_estimateOfPart 11 = .ok (.i2l, 1) := by decide +kernel
theorem dX1_estimateOfPart_12 : decode cX1_estimateOfPart 12 = .ok (.iload_n 1, 1) := by decide +kernel
theorem dX1_estimateOfPart_13 : decode cX1_estimateOfPart 13 = .ok (.i2l, 1) := by decide +kernel
theorem dX1_estimateOfPart_14 : decode cX1_estimateOfPart 14 = .ok (.lmul, 1) := by decide +kernel
theorem dX1_estimateOfPart_15 : decode cX1_estimateOfPart 15 = .ok (.aload_n 0, 1) := by decide +kernel
theorem dX1_estimateOfPart_16 : decode cX1_estimateOfPart 16 = .ok (.getfield 15, 3) := by decide +kernel
theorem dX1_estimateOfPart_19 : decode cX1_estimateOfPart 19 = .ok (.i2l, 1) := by decide +kernel
theorem dX1_estimateOfPart_20 : decode cX1_estimateOfPart 20 = .ok (.ldiv, 1) := by decide +kernel
theorem dX1_estimateOfPart_21 : decode cX1_estimateOfPart 21 = .ok (.l2i, 1) := by decide +kernel
theorem dX1_estimateOfPart_22 : decode cX1_estimateOfPart 22 = .ok (.goto 4, 3) := by decide +kernel
theorem dX1_estimateOfPart_25 : decode cX1_estimateOfPart 25 = .ok (.iconst 0, 1) := by decide +kernel
theorem dX1_estimateOfPart_26 : decode cX1_estimateOfPart 26 = .ok (.ireturn, 1) := by decide +kernel
set_option maxRecDepth 20000 in
theorem ggX1_offer_X4_at : GoodIn wsX1_offer wsX4_at := goodIn_r _ [6] (by decide +kernel) (by decide +kernel)
set_option maxRecDepth 20000 in
theorem gX1_offer_X4_at_n31 : GoodIn wsX1_offer (wsX4_at) := ggX1_offer_X4_at
set_option maxRecDepth 20000 in
theorem ggX1_offer_X4_put : GoodIn wsX1_offer wsX4_put := goodIn_r _ [8] (by decide +kernel) (by decide +kernel)
set_option maxRecDepth 20000 in
theorem gX1_offer_X4_put_n48 : GoodIn wsX1_offer (wsX4_put) := ggX1_offer_X4_put
theorem dX1_offer_0 : decode cX1_offer 0 = .ok (.aload_n 0, 1) := by decide +kernel
theorem dX1_offer_1 : decode cX1_offer 1 = .ok (.getfield 15, 3) := by decide +kernel
theorem dX1_offer_4 : decode cX1_offer 4 = .ok (.aload_n 0, 1) := by decide +kernel
theorem dX1_offer_5 : decode cX1_offer 5 = .ok (.getfield 19, 3) := by decide +kernel
theorem dX1_offer_8 : decode cX1_offer 8 = .ok (.if_icmp .lt 7, 3) := by decide +kernel
theorem dX1_offer_11 : decode cX1_offer 11 = .ok (.iconst 1, 1) := by decide +kernel
theorem dX1_offer_12 : decode cX1_offer 12 = .ok (.goto 4, 3) := by decide +kernel
theorem dX1_offer_15 : decode cX1_offer 15 = .ok (.iconst 0, 1) := by decide +kernel
theorem dX1_offer_16 : decode cX1_offer 16 = .ok (.istore_n 2, 1) := by decide +kernel
theorem dX1_offer_17 : decode cX1_offer 17 = .ok (.iload_n 2, 1) := by decide +kernel
theorem dX1_offer_18 : decode cX1_offer 18 = .ok (.ifCond .eq 21, 3) := by decide +kernel
theorem dX1_offer_21 : decode cX1_offer 21 = .ok (.iload_n 1, 1) := by decide +kernel
theorem dX1_offer_22 : decode cX1_offer 22 = .ok (.aload_n 0, 1) := by decide +kernel
theorem dX1_offer_23 : decode cX1_offer 23 = .ok (.getfield 9, 3) := by decide +kernel
theorem dX1_offer_26 : decode cX1_offer 26 = .ok (.aload_n 0, 1) := by decide +kernel
theorem dX1_offer_27 : decode cX1_offer 27 = .ok (.getfield 15, 3) := by decide +kernel
theorem dX1_offer_30 : decode cX1_offer 30 = .ok (.iconst 1, 1) := by decide +kernel
theorem dX1_offer_31 : decode cX1_offer 31 = .ok (.isub, 1) := by decide +kernel
theorem dX1_offer_32 : decode cX1_offer 32 = .ok (.invokestatic 31, 3) := by decide +kernel
theorem dX1_offer_35 : decode cX1_offer 35 = .ok (.if_icmp .lt 4, 3) := by decide +kernel
theorem dX1_offer_38 : decode cX1_offer 38 = .ok (.return_, 1) := by decide +kernel
theorem dX1_offer_39 : decode cX1_offer 39 = .ok (.aload_n 0, 1) := by decide +kernel
theorem dX1_offer_40 : decode cX1_offer 40 = .ok (.getfield 15, 3) := by decide +kernel
theorem dX1_offer_43 : decode cX1_offer 43 = .ok (.istore_n 3, 1) := by decide +kernel
theorem dX1_offer_44 : decode cX1_offer 44 = .ok (.iload_n 3, 1) := by decide +kernel
theorem dX1_offer_45 : decode cX1_offer 45 = .ok (.ifCond .le 23, 3) := by decide +kernel
theorem dX1_offer_48 : decode cX1_offer 48 = .ok (.aload_n 0, 1) := by decide +kernel
theorem dX1_offer_49 : decode cX1_offer 49 = .ok (.getfield 9, 3) := by decide +kernel
theorem dX1_offer_52 : decode cX1_offer 52 = .ok (.iload_n 3, 1) := by decide +kernel
theorem dX1_offer_53 : decode cX1_offer 53 = .ok (.iconst 1, 1) := by decide +kernel
theorem dX1_offer_54 : decode cX1_offer 54 = .ok (.isub, 1) := by decide +kernel
theorem dX1_offer_55 : decode cX1_offer 55 = .ok (.invokestatic 31, 3) := by decide +kernel
theorem dX1_offer_58 : decode cX1_offer 58 = .ok (.iload_n 1, 1) := by decide +kernel
theorem dX1_offer_59 : decode cX1_offer 59 = .ok (.if_icmp .lt 9, 3) := by decide +kernel
theorem dX1_offer_62 : decode cX1_offer 62 = .ok (.iinc 3 (-1), 3) := by decide +kernel
theorem dX1_offer_65 : decode cX1_offer 65 = .ok (.goto (-21), 3) := by decide +kernel
theorem dX1_offer_68 : decode cX1_offer 68 = .ok (.iload_n 3, 1) := by decide +kernel
theorem dX1_offer_69 : decode cX1_offer 69 = .ok (.aload_n 0, 1) := by decide +kernel
theorem dX1_offer_70 : decode cX1_offer 70 = .ok (.getfield 15, 3) := by decide +kernel
theorem dX1_offer_73 : decode cX1_offer 73 = .ok (.if_icmp .ge 16, 3) := by decide +kernel
theorem dX1_offer_76 : decode cX1_offer 76 = .ok (.aload_n 0, 1) := by decide +kernel
theorem dX1_offer_77 : decode cX1_offer 77 = .ok (.getfield 9, 3) := by decide +kernel
theorem dX1_offer_80 : decode cX1_offer 80 = .ok (.iload_n 3, 1) := by decide +kernel
theorem dX1_offer_81 : decode cX1_offer 81 = .ok (.invokestatic 31, 3) := by decide +kernel
theorem dX1_offer_84 : decode cX1_offer 84 = .ok (.iload_n 1, 1) := by decide +kernel
theorem dX1_offer_85 : decode cX1_offer 85 = .ok (.if_icmp .ne 4, 3) := by decide +kernel
theorem dX1_offer_88 : decode cX1_offer 88 = .ok (.return_, 1) := by decide +kernel
theorem dX1_offer_89 : decode cX1_offer 89 = .ok (.aload_n 0, 1) := by decide +kernel
theorem dX1_offer_90 : decode cX1_offer 90 = .ok (.iload_n 2, 1) := by decide +kernel
theorem dX1_offer_91 : decode cX1_offer 91 = .ok (.ifCond .eq 10, 3) := by decide +kernel
theorem dX1_offer_94 : decode cX1_offer 94 = .ok (.aload_n 0, 1) := by decide +kernel
theorem dX1_offer_95 : decode cX1_offer 95 = .ok (.getfield 19, 3) := by decide +kernel
theorem dX1_offer_98 : decode cX1_offer 98 = .ok (.goto 9, 3) := by decide +kernel
theorem dX1_offer_101 : decode cX1_offer 101 = .ok (.aload_n 0, 1) := by decide +kernel
theorem dX1_offer_102 : decode cX1_offer 102 = .ok (.getfield 15, 3) := by decide +kernel
theorem dX1_offer_105 : decode cX1_offer 105 = .ok (.iconst 1, 1) := by decide +kernel
theorem dX1_offer_106 : decode cX1_offer 106 = .ok (.iadd, 1) := by decide +kernel
theorem dX1_offer_107 : decode cX1_offer 107 = .ok (.putfield 15, 3) := by decide +kernel
theorem dX1_offer_110 : decode cX1_offer 110 = .ok (.aload_n 0, 1) := by decide +kernel
theorem dX1_offer_111 : decode cX1_offer 111 = .ok (.getfield 15, 3) := by decide +kernel
theorem dX1_offer_114 : decode cX1_offer 114 = .ok (.iconst 1, 1) := by decide +kernel
theorem dX1_offer_115 : decode cX1_offer 115 = .ok (.isub, 1) := by decide +kernel
theorem dX1_offer_116 : decode cX1_offer 116 = .ok (.istore 4, 2) := by decide +kernel
theorem dX1_offer_118 : decode cX1_offer 118 = .ok (.iload 4, 2) := by decide +kernel
theorem dX1_offer_120 : decode cX1_offer 120 = .ok (.iload_n 3, 1) := by decide +kernel
theorem dX1_offer_121 : decode cX1_offer 121 = .ok (.if_icmp .le 29, 3) := by decide +kernel
theorem dX1_offer_124 : decode cX1_offer 124 = .ok (.aload_n 0, 1) := by decide +kernel
theorem dX1_offer_125 : decode cX1_offer 125 = .ok (.getfield 9, 3) := by decide +kernel
theorem dX1_offer_128 : decode cX1_offer 128 = .ok (.iload 4, 2) := by decide +kernel
theorem dX1_offer_130 : decode cX1_offer 130 = .ok (.aload_n 0, 1) := by decide +kernel
theorem dX1_offer_131 : decode cX1_offer 131 = .ok (.getfield 9, 3) := by decide +kernel
theorem dX1_offer_134 : decode cX1_offer 134 = .ok (.iload 4, 2) := by decide +kernel
theorem dX1_offer_136 : decode cX1_offer 136 = .ok (.iconst 1, 1) := by decide +kernel
theorem dX1_offer_137 : decode cX1_offer 137 = .ok (.isub, 1) := by decide +kernel
theorem dX1_offer_138 : decode cX1_offer 138 = .ok (.invokestatic 31, 3) := by decide +kernel
theorem dX1_offer_141 : decode cX1_offer 141 = .ok (.invokestatic 48, 3) := by decide +kernel
theorem dX1_offer_144 : decode cX1_offer 144 = .ok (.iinc 4 (-1), 3) := by decide +kernel
theorem dX1_offer_147 : decode cX1_offer 147 = .ok (.goto (-29), 3) := by decide +kernel
theorem dX1_offer_150 : decode cX1_offer 150 = .ok (.aload_n 0, 1) := by decide +kernel
theorem dX1_offer_151 : decode cX1_offer 151 = .ok (.getfield 9, 3) := by decide +kernel
theorem dX1_offer_154 : decode cX1_offer 154 = .ok (.iload_n 3, 1) := by decide +kernel
theorem dX1_offer_155 : decode cX1_offer 155 = .ok (.iload_n 1, 1) := by decide +kernel
theorem dX1_offer_156 : decode cX1_offer 156 = .ok (.invokestatic 48, 3) := by decide +kernel
theorem dX1_offer_159 : decode cX1_offer 159 = .ok (.return_, 1) := by decide +kernel
theorem dX2_init_0 : decode cX2_init 0 = .ok (.aload_n 0, 1) := by decide +kernel
theorem dX2_init_1 : decode cX2_init 1 = .ok (.invokespecial 5, 3) := by decide +kernel
theorem dX2_init_4 : decode cX2_init 4 = .ok (.aload_n 0, 1) := by decide +kernel
theorem dX2_init_5 : decode cX2_init 5 = .ok (.bipush 16, 2) := by decide +kernel
theorem dX2_init_7 : decode cX2_init 7 = .ok (.newarray .int, 2) := by decide +kernel
theorem dX2_init_9 : decode cX2_init 9 = .ok (.putfield 11, 3) := by decide +kernel
theorem dX2_init_12 : decode cX2_init 12 = .ok (.return_, 1) := by decide +kernel
set_option maxRecDepth 20000 in
theorem ggX2_rankAllOf_X2_rankThoseAbove : GoodIn wsX2_rankAllOf wsX2_rankThoseAbove := goodIn_r _ [5, 6, 7, 8, 9, 10, 11, 12, 13, 14, 15, 16, 17, 18, 19, 20, 21, 22, 23, 4, 24, 25, 26, 27, 28, 29, 30] (by decide +kernel) (by decide +kernel)
set_option maxRecDepth 20000 in
theorem gX2_rankAllOf_X2_rankThoseAbove : GoodIn wsX2_rankAllOf (wsV RX2 15 RX2 yX2_rankThoseAbove wsX2_rankThoseAbove) := goodIn_app (goodIn_of _ (by decide +kernel)) ggX2_rankAllOf_X2_rankThoseAbove
theorem dX2_rankAllOf_0 : decode cX2_rankAllOf 0 = .ok (.aload_n 0, 1) := by decide +kernel
theorem dX2_rankAllOf_1 : decode cX2_rankAllOf 1 = .ok (.iconst (-1), 1) := by decide +kernel
theorem dX2_rankAllOf_2 : decode cX2_rankAllOf 2 = .ok (.aload_n 1, 1) := by decide +kernel
theorem dX2_rankAllOf_3 : decode cX2_rankAllOf 3 = .ok (.invokevirtual 15, 3) := by decide +kernel
theorem dX2_rankAllOf_6 : decode cX2_rankAllOf 6 = .ok (.return_, 1) := by decide +kernel
set_option maxRecDepth 20000 in
theorem ggX2_rankThoseAbove_X4_put : GoodIn wsX2_rankThoseAbove wsX4_put := goodIn_r _ [7] (by decide +kernel) (by decide +kernel)
set_option maxRecDepth 20000 in
theorem gX2_rankThoseAbove_X4_put_n19 : GoodIn wsX2_rankThoseAbove (wsX4_put) := ggX2_rankThoseAbove_X4_put
set_option maxRecDepth 20000 in
theorem ggX2_rankThoseAbove_X4_at : GoodIn wsX2_rankThoseAbove wsX4_at := goodIn_r _ [9] (by decide +kernel) (by decide +kernel)
set_option maxRecDepth 20000 in
theorem gX2_rankThoseAbove_X4_at_n32 : GoodIn wsX2_rankThoseAbove (wsX4_at) := ggX2_rankThoseAbove_X4_at
set_option maxRecDepth 20000 in
theorem ggX2_rankThoseAbove_X4_hashFor : GoodIn wsX2_rankThoseAbove wsX4_hashFor := goodIn_r _ [11, 12, 13, 14, 15] (by decide +kernel) (by decide +kernel)
set_option maxRecDepth 20000 in
theorem gX2_rankThoseAbove_X4_hashFor_n39 : GoodIn wsX2_rankThoseAbove (wsX4_hashFor) := ggX2_rankThoseAbove_X4_hashFor
set_option maxRecDepth 20000 in
theorem ggX2_rankThoseAbove_X2_rank : GoodIn wsX2_rankThoseAbove wsX2_rank := goodIn_r _ [20, 1, 21, 6, 22, 8, 9, 5, 7, 23] (by decide +kernel) (by decide +kernel)
set_option maxRecDepth 20000 in
theorem gX2_rankThoseAbove_X2_rank : GoodIn wsX2_rankThoseAbove (wsV RX2 43 RX2 yX2_rank wsX2_rank) := goodIn_app (goodIn_of _ (by decide +kernel)) ggX2_rankThoseAbove_X2_rank
theorem dX2_rankThoseAbove_0 : decode cX2_rankThoseAbove 0 = .ok (.iconst 0, 1) := by decide +kernel
theorem dX2_rankThoseAbove_1 : decode cX2_rankThoseAbove 1 = .ok (.istore_n 3, 1) := by decide +kernel
theorem dX2_rankThoseAbove_2 : decode cX2_rankThoseAbove 2 = .ok (.iload_n 3, 1) := by decide +kernel
theorem dX2_rankThoseAbove_3 : decode cX2_rankThoseAbove 3 = .ok (.bipush 16, 2) := by decide +kernel
theorem dX2_rankThoseAbove_5 : decode cX2_rankThoseAbove 5 = .ok (.if_icmp .ge 18, 3) := by decide +kernel
theorem dX2_rankThoseAbove_8 : decode cX2_rankThoseAbove 8 = .ok (.aload_n 0, 1) := by decide +kernel
theorem dX2_rankThoseAbove_9 : decode cX2_rankThoseAbove 9 = .ok (.getfield 11, 3) := by decide +kernel
theorem dX2_rankThoseAbove_12 : decode cX2_rankThoseAbove 12 = .ok (.iload_n 3, 1) := by decide +kernel
theorem dX2_rankThoseAbove_13 : decode cX2_rankThoseAbove 13 = .ok (.iconst 0, 1) := by decide +kernel
theorem dX2_rankThoseAbove_14 : decode cX2_rankThoseAbove 14 = .ok (.invokestatic 19, 3) := by decide +kernel
theorem dX2_rankThoseAbove_17 : decode cX2_rankThoseAbove 17 = .ok (.iinc 3 1, 3) := by decide +kernel
theorem dX2_rankThoseAbove_20 : decode cX2_rankThoseAbove 20 = .ok (.goto (-18), 3) := by decide +kernel
theorem dX2_rankThoseAbove_23 : decode cX2_rankThoseAbove 23 = .ok (.iconst 0, 1) := by decide +kernel
theorem dX2_rankThoseAbove_24 : decode cX2_rankThoseAbove 24 = .ok (.istore_n 3, 1) := by decide +kernel
theorem dX2_rankThoseAbove_25 : decode cX2_rankThoseAbove 25 = .ok (.iload_n 3, 1) := by decide +kernel
theorem dX2_rankThoseAbove_26 : decode cX2_rankThoseAbove 26 = .ok (.aload_n 2, 1) := by decide +kernel
theorem dX2_rankThoseAbove_27 : decode cX2_rankThoseAbove 27 = .ok (.getfield 23, 3) := by decide +kernel
theorem dX2_rankThoseAbove_30 : decode cX2_rankThoseAbove 30 = .ok (.if_icmp .ge 36, 3) := by decide +kernel
theorem dX2_rankThoseAbove_33 : decode cX2_rankThoseAbove 33 = .ok (.aload_n 2, 1) := by decide +kernel
theorem dX2_rankThoseAbove_34 : decode cX2_rankThoseAbove 34 = .ok (.getfield 29, 3) := by decide +kernel
theorem dX2_rankThoseAbove_37 : decode cX2_rankThoseAbove 37 = .ok (.iload_n 3, 1) := by decide +kernel
theorem dX2_rankThoseAbove_38 : decode cX2_rankThoseAbove 38 = .ok (.invokestatic 32, 3) := by decide +kernel
theorem dX2_rankThoseAbove_41 : decode cX2_rankThoseAbove 41 = .ok (.iload_n 1, 1) := by decide +kernel
theorem dX2_rankThoseAbove_42 : decode cX2_rankThoseAbove 42 = .ok (.if_icmp .le 18, 3) := by decide +kernel
theorem dX2_rankThoseAbove_45 : decode cX2_rankThoseAbove 45 = .ok (.aload_n 0, 1) := by decide +kernel
theorem dX2_rankThoseAbove_46 : decode cX2_rankThoseAbove 46 = .ok (.aload_n 2, 1) := by decide +kernel
theorem dX2_rankThoseAbove_47 : decode cX2_rankThoseAbove 47 = .ok (.getfield 36, 3) := by decide +kernel
theorem dX2_rankThoseAbove_50 : decode cX2_rankThoseAbove 50 = .ok (.iload_n 3, 1) := by decide +kernel
theorem dX2_rankThoseAbove_51 : decode cX2_rankThoseAbove 51 = .ok (.invokestatic 32, 3) := by decide +kernel
theorem dX2_rankThoseAbove_54 : decode cX2_rankThoseAbove 54 = .ok (.invokestatic 39, 3) := by decide +kernel
theorem dX2_rankThoseAbove_57 : decode cX2_rankThoseAbove 57 = .ok (.invokevirtual 43, 3) := by decide +kernel
theorem dX2_rankThoseAbove_60 : decode cX2_rankThoseAbove 60 = .ok (.iinc 3 1, 3) := by decide +kernel
theorem dX2_rankThoseAbove_63 : decode cX2_rankThoseAbove 63 = .ok (.goto (-38), 3) := by decide +kernel
theorem dX2_rankThoseAbove_66 : decode cX2_rankThoseAbove 66 = .ok (.return_, 1) := by decide +kernel
set_option maxRecDepth 20000 in
theorem ggX2_estimate_X4_at : GoodIn wsX2_estimate wsX4_at := goodIn_r _ [8] (by decide +kernel) (by decide +kernel)
set_option maxRecDepth 20000 in
theorem gX2_estimate_X4_at_n32 : GoodIn wsX2_estimate (wsX4_at) := ggX2_estimate_X4_at
theorem dX2_estimate_0 : decode cX2_estimate 0 = .ok (.lconst 0, 1) := by decide +kernel
theorem dX2_estimate_1 : decode cX2_estimate 1 = .ok (.lstore_n 1, 1) := by decide +kernel
theorem dX2_estimate_2 : decode cX2_estimate 2 = .ok (.iconst 0, 1) := by decide +kernel
theorem dX2_estimate_3 : decode cX2_estimate 3 = .ok (.istore_n 3, 1) := by decide +kernel
theorem dX2_estimate_4 : decode cX2_estimate 4 = .ok (.iconst 0, 1) := by decide +kernel
theorem dX2_estimate_5 : decode cX2_estimate 5 = .ok (.istore 4, 2) := by decide +kernel
theorem dX2_estimate_7 : decode cX2_estimate 7 = .ok (.iload 4, 2) := by decide +kernel
theorem dX2_estimate_9 : decode cX2_estimate 9 = .ok (.bipush 16, 2) := by decide +kernel
theorem dX2_estimate_11 : decode cX2_estimate 11 = .ok (.if_icmp .ge 42, 3) := by decide +kernel
theorem dX2_estimate_14 : decode cX2_estimate 14 = .ok (.aload_n 0, 1) := by decide +kernel
theorem dX2_estimate_15 : decode cX2_estimate 15 = .ok (.getfield 11, 3) := by decide +kernel
theorem dX2_estimate_18 : decode cX2_estimate 18 = .ok (.iload 4, 2) := by decide +kernel
theorem dX2_estimate_20 : decode cX2_estimate 20 = .ok (.invokestatic 32, 3) := by decide +kernel
theorem dX2_estimate_23 : decode cX2_estimate 23 = .ok (.istore 5, 2) := by decide +kernel
theorem dX2_estimate_25 : decode cX2_estimate 25 = .ok (.lload_n 1, 1) := by decide +kernel
theorem dX2_estimate_26 : decode cX2_estimate 26 = .ok (.ldc 47, 2) := by decide +kernel
theorem dX2_estimate_28 : decode cX2_estimate 28 = .ok (.iload 5, 2) := by decide +kernel
theorem dX2_estimate_30 : decode cX2_estimate 30 = .ok (.ishr, 1) := by decide +kernel
theorem dX2_estimate_31 : decode cX2_estimate 31 = .ok (.i2l, 1) := by decide +kernel
theorem dX2_estimate_32 : decode cX2_estimate 32 = .ok (.ladd, 1) := by decide +kernel
theorem dX2_estimate_33 : decode cX2_estimate 33 = .ok (.lstore_n 1, 1) := by decide +kernel
theorem dX2_estimate_34 : decode cX2_estimate 34 = .ok (.iload_n 3, 1) := by decide +kernel
theorem dX2_estimate_35 : decode cX2_estimate 35 = .ok (.iload 5, 2) := by decide +kernel
theorem dX2_estimate_37 : decode cX2_estimate 37 = .ok (.ifCond .ne 7, 3) := by decide +kernel
theorem dX2_estimate_40 : decode cX2_estimate 40 = .ok (.iconst 1, 1) := by decide +kernel
theorem dX2_estimate_41 : decode cX2_estimate 41 = .ok (.goto 4, 3) := by decide +kernel
theorem dX2_estimate_44 : decode cX2_estimate 44 = .ok (.iconst 0, 1) := by decide +kernel
theorem dX2_estimate_45 : decode cX2_estimate 45 = .ok (.iadd, 1) := by decide +kernel
theorem dX2_estimate_46 : decode cX2_estimate 46 = .ok (.istore_n 3, 1) := by decide +kernel
theorem dX2_estimate_47 : decode cX2_estimate 47 = .ok (.iinc 4 1, 3) := by decide +kernel
theorem dX2_estimate_50 : decode cX2_estimate 50 = .ok (.goto (-43), 3) := by decide +kernel
theorem dX2_estimate_53 : decode cX2_estimate 53 = .ok (.lload_n 1, 1) := by decide +kernel
theorem dX2_estimate_54 : decode cX2_estimate 54 = .ok (.lconst 0, 1) := by decide +kernel
theorem dX2_estimate_55 : decode cX2_estimate 55 = .ok (.lcmp, 1) := by decide +kernel
theorem dX2_estimate_56 : decode cX2_estimate 56 = .ok (.ifCond .le 11, 3) := by decide +kernel
theorem dX2_estimate_59 : decode cX2_estimate 59 = .ok (.ldc2_w 48, 3) := by decide +kernel
theorem dX2_estimate_62 : decode cX2_estimate 62 = .ok (.lload_n 1, 1) := by decide +kernel
theorem dX2_estimate_63 : decode cX2_estimate 63 = .ok (.ldiv, 1) := by decide +kernel
theorem dX2_estimate_64 : decode cX2_estimate 64 = .ok (.goto 4, 3) := by decide +kernel
theorem dX2_estimate_67 : decode cX2_estimate 67 = .ok (.lconst 0, 1) := by decide +kernel
theorem dX2_estimate_68 : decode cX2_estimate 68 = .ok (.lstore 4, 2) := by decide +kernel
theorem dX2_estimate_70 : decode cX2_estimate 70 = .ok (.lload 4, 2) := by decide +kernel
theorem dX2_estimate_72 : decode cX2_estimate 72 = .ok (.ldc2_w 50, 3) := by decide +kernel
theorem dX2_estimate_75 : decode cX2_estimate 75 = .ok (.lcmp, 1) := by decide +kernel
theorem dX2_estimate_76 : decode cX2_estimate 76 = .ok (.ifCond .gt 18, 3) := by decide +kernel
theorem dX2_estimate_79 : decode cX2_estimate 79 = .ok (.iload_n 3, 1) := by decide +kernel
theorem dX2_estimate_80 : decode cX2_estimate 80 = .ok (.ifCond .le 14, 3) := by decide +kernel
theorem dX2_estimate_83 : decode cX2_estimate 83 = .ok (.getstatic 52, 3) := by decide +kernel
theorem dX2_estimate_86 : decode cX2_estimate 86 = .ok (.iload_n 3, 1) := by decide +kernel
theorem dX2_estimate_87 : decode cX2_estimate 87 = .ok (.invokestatic 32, 3) := by decide +kernel
theorem dX2_estimate_90 : decode cX2_estimate 90 = .ok (.i2l, 1) := by decide +kernel
theorem dX2_estimate_91 : decode cX2_estimate 91 = .ok (.goto 5, 3) := by decide +kernel
theorem dX2_estimate_94 : decode cX2_estimate 94 = .ok (.lload 4, 2) := by decide +kernel
theorem dX2_estimate_96 : decode cX2_estimate 96 = .ok (.lreturn, 1) := by decide +kernel
set_option maxRecDepth 20000 in
theorem ggX2_rank_X4_lowZeros : GoodIn wsX2_rank wsX4_lowZeros := goodIn_r _ [4] (by decide +kernel) (by decide +kernel)
set_option maxRecDepth 20000 in
theorem gX2_rank_X4_lowZeros_n55 : GoodIn wsX2_rank (wsX4_lowZeros) := ggX2_rank_X4_lowZeros
set_option maxRecDepth 20000 in
theorem ggX2_rank_X4_at : GoodIn wsX2_rank wsX4_at := goodIn_r _ [6] (by decide +kernel) (by decide +kernel)
set_option maxRecDepth 20000 in
theorem gX2_rank_X4_at_n32 : GoodIn wsX2_rank (wsX4_at) := ggX2_rank_X4_at
set_option maxRecDepth 20000 in
theorem ggX2_rank_X4_put : GoodIn wsX2_rank wsX4_put := goodIn_r _ [8] (by decide +kernel) (by decide +kernel)
set_option maxRecDepth 20000 in
theorem gX2_rank_X4_put_n19 : GoodIn wsX2_rank (wsX4_put) := ggX2_rank_X4_put
theorem dX2_rank_0 : decode cX2_rank 0 = .ok (.iload_n 1, 1) := by decide +kernel
theorem dX2_rank_1 : decode cX2_rank 1 = .ok (.bipush 16, 2) := by decide +kernel
theorem dX2_rank_3 : decode cX2_rank 3 = .ok (.irem, 1) := by decide +kernel
theorem dX2_rank_4 : decode cX2_rank 4 = .ok (.istore_n 2, 1) := by decide +kernel
theorem dX2_rank_5 : decode cX2_rank 5 = .ok (.iconst 1, 1) := by decide +kernel
theorem dX2_rank_6 : decode cX2_rank 6 = .ok (.iload_n 1, 1) := by decide +kernel
theorem dX2_rank_7 : decode cX2_rank 7 = .ok (.bipush 16, 2) := by decide +kernel
theorem dX2_rank_9 : decode cX2_rank 9 = .ok (.idiv, 1) := by decide +kernel
theorem dX2_rank_10 : decode cX2_rank 10 = .ok (.bipush 20, 2) := by decide +kernel
theorem dX2_rank_12 : decode cX2_rank 12 = .ok (.invokestatic 55, 3) := by decide +kernel
theorem dX2_rank_15 : decode cX2_rank 15 = .ok (.iadd, 1) := by decide +kernel
theorem dX2_rank_16 : decode cX2_rank 16 = .ok (.istore_n 3, 1) := by decide +kernel
theorem dX2_rank_17 : decode cX2_rank 17 = .ok (.iload_n 3, 1) := by decide +kernel
theorem dX2_rank_18 : decode cX2_rank 18 = .ok (.aload_n 0, 1) := by decide +kernel
theorem dX2_rank_19 : decode cX2_rank 19 = .ok (.getfield 11, 3) := by decide +kernel
theorem dX2_rank_22 : decode cX2_rank 22 = .ok (.iload_n 2, 1) := by decide +kernel
theorem dX2_rank_23 : decode cX2_rank 23 = .ok (.invokestatic 32, 3) := by decide +kernel
theorem dX2_rank_26 : decode cX2_rank 26 = .ok (.if_icmp .le 12, 3) := by decide +kernel
theorem dX2_rank_29 : decode cX2_rank 29 = .ok (.aload_n 0, 1) := by decide +kernel
theorem dX2_rank_30 : decode cX2_rank 30 = .ok (.getfield 11, 3) := by decide +kernel
theorem dX2_rank_33 : decode cX2_rank 33 = .ok (.iload_n 2, 1) := by decide +kernel
theorem dX2_rank_34 : decode cX2_rank 34 = .ok (.iload_n 3, 1) := by decide +kernel
theorem dX2_rank_35 : decode cX2_rank 35 = .ok (.invokestatic 19, 3) := by decide +kernel
theorem dX2_rank_38 : decode cX2_rank 38 = .ok (.return_, 1) := by decide +kernel
theorem dX3_init_0 : decode cX3_init 0 = .ok (.aload_n 0, 1) := by decide +kernel
theorem dX3_init_1 : decode cX3_init 1 = .ok (.invokespecial 3, 3) := by decide +kernel
theorem dX3_init_4 : decode cX3_init 4 = .ok (.aload_n 0, 1) := by decide +kernel
theorem dX3_init_5 : decode cX3_init 5 = .ok (.bipush 25, 2) := by decide +kernel
theorem dX3_init_7 : decode cX3_init 7 = .ok (.newarray .int, 2) := by decide +kernel
theorem dX3_init_9 : decode cX3_init 9 = .ok (.putfield 11, 3) := by decide +kernel
theorem dX3_init_12 : decode cX3_init 12 = .ok (.aload_n 0, 1) := by decide +kernel
theorem dX3_init_13 : decode cX3_init 13 = .ok (.iconst 0, 1) := by decide +kernel
theorem dX3_init_14 : decode cX3_init 14 = .ok (.putfield 15, 3) := by decide +kernel
theorem dX3_init_17 : decode cX3_init 17 = .ok (.aload_n 0, 1) := by decide +kernel
theorem dX3_init_18 : decode cX3_init 18 = .ok (.iconst 0, 1) := by decide +kernel
theorem dX3_init_19 : decode cX3_init 19 = .ok (.putfield 19, 3) := by decide +kernel
theorem dX3_init_22 : decode cX3_init 22 = .ok (.return_, 1) := by decide +kernel
set_option maxRecDepth 20000 in
theorem ggX3_thin_X3_forget : GoodIn wsX3_thin wsX3_forget := goodIn_r _ [7, 8, 9, 10, 11, 12, 35, 36, 37] (by decide +kernel) (by decide +kernel)
set_option maxRecDepth 20000 in
theorem gX3_thin_X3_forget : GoodIn wsX3_thin (wsV RX3 22 RX3 yX3_forget wsX3_forget) := goodIn_app (goodIn_of _ (by decide +kernel)) ggX3_thin_X3_forget
set_option maxRecDepth 20000 in
theorem ggX3_thin_X4_at : GoodIn wsX3_thin wsX4_at := goodIn_r _ [14] (by decide +kernel) (by decide +kernel)
set_option maxRecDepth 20000 in
theorem gX3_thin_X4_at_n31 : GoodIn wsX3_thin (wsX4_at) := ggX3_thin_X4_at
set_option maxRecDepth 20000 in
theorem ggX3_thin_X4_hashFor : GoodIn wsX3_thin wsX4_hashFor := goodIn_r _ [16, 17, 18, 19, 20] (by decide +kernel) (by decide +kernel)
set_option maxRecDepth 20000 in
theorem gX3_thin_X4_hashFor_n35 : GoodIn wsX3_thin (wsX4_hashFor) := ggX3_thin_X4_hashFor
set_option maxRecDepth 20000 in
theorem ggX3_thin_X3_count : GoodIn wsX3_thin wsX3_count := goodIn_r _ [24, 9, 8, 25, 11, 26, 13, 14, 10, 12, 35, 36, 37] (by decide +kernel) (by decide +kernel)
set_option maxRecDepth 20000 in
theorem gX3_thin_X3_count : GoodIn wsX3_thin (wsV RX3 39 RX3 yX3_count wsX3_count) := goodIn_app (goodIn_of _ (by decide +kernel)) ggX3_thin_X3_count
set_option maxRecDepth 20000 in
theorem ggX3_thin_X3_settle : GoodIn wsX3_thin wsX3_settle := goodIn_r _ [30, 31, 8, 9, 13, 11, 14, 35, 36, 37] (by decide +kernel) (by decide +kernel)
set_option maxRecDepth 20000 in
theorem gX3_thin_X3_settle : GoodIn wsX3_thin (wsV RX3 43 RX3 yX3_settle wsX3_settle) := goodIn_app (goodIn_of _ (by decide +kernel)) ggX3_thin_X3_settle
theorem dX3_thin_0 : decode cX3_thin 0 = .ok (.aload_n 0, 1) := by decide +kernel
theorem dX3_thin_1 : decode cX3_thin 1 = .ok (.invokevirtual 22, 3) := by decide +kernel
theorem dX3_thin_4 : decode cX3_thin 4 = .ok (.iconst 0, 1) := by decide +kernel
theorem dX3_thin_5 : decode cX3_thin 5 = .ok (.istore_n 2, 1) := by decide +kernel
theorem dX3_thin_6 : decode cX3_thin 6 = .ok (.iload_n 2, 1) := by decide +kernel
theorem dX3_thin_7 : decode cX3_thin 7 = .ok (.aload_n 1, 1) := by decide +kernel
theorem dX3_thin_8 : decode cX3_thin 8 = .ok (.getfield 25, 3) := by decide +kernel
theorem dX3_thin_11 : decode cX3_thin 11 = .ok (.if_icmp .ge 24, 3) := by decide +kernel
theorem dX3_thin_14 : decode cX3_thin 14 = .ok (.aload_n 0, 1) := by decide +kernel
theorem dX3_thin_15 : decode cX3_thin 15 = .ok (.aload_n 1, 1) := by decide +kernel
theorem dX3_thin_16 : decode cX3_thin 16 = .ok (.getfield 28, 3) := by decide +kernel
theorem dX3_thin_19 : decode cX3_thin 19 = .ok (.iload_n 2, 1) := by decide +kernel
theorem dX3_thin_20 : decode cX3_thin 20 = .ok (.invokestatic 31, 3) := by decide +kernel
theorem dX3_thin_23 : decode cX3_thin 23 = .ok (.invokestatic 35, 3) := by decide +kernel
theorem dX3_thin_26 : decode cX3_thin 26 = .ok (.invokevirtual 39, 3) := by decide +kernel
theorem dX3_thin_29 : decode cX3_thin 29 = .ok (.iinc 2 1, 3) := by decide +kernel
theorem dX3_thin_32 : decode cX3_thin 32 = .ok (.goto (-26), 3) := by decide +kernel
theorem dX3_thin_35 : decode cX3_thin 35 = .ok (.aload_n 0, 1) := by decide +kernel
theorem dX3_thin_36 : decode cX3_thin 36 = .ok (.invokevirtual 43, 3) := by decide +kernel
theorem dX3_thin_39 : decode cX3_thin 39 = .ok (.return_, 1) := by decide +kernel
set_option maxRecDepth 20000 in
theorem ggX3_forget_X4_put : GoodIn wsX3_forget wsX4_put := goodIn_r _ [5] (by decide +kernel) (by decide +kernel)
set_option maxRecDepth 20000 in
theorem gX3_forget_X4_put_n46 : GoodIn wsX3_forget (wsX4_put) := ggX3_forget_X4_put
theorem dX3_forget_0 : decode cX3_forget 0 = .ok (.aload_n 0, 1) := by decide +kernel
theorem dX3_forget_1 : decode cX3_forget 1 = .ok (.iconst 0, 1) := by decide +kernel
theorem dX3_forget_2 : decode cX3_forget 2 = .ok (.putfield 19, 3) := by decide +kernel
theorem dX3_forget_5 : decode cX3_forget 5 = .ok (.iconst 0, 1) := by decide +kernel
theorem dX3_forget_6 : decode cX3_forget 6 = .ok (.istore_n 1, 1) := by decide +kernel
theorem dX3_forget_7 : decode cX3_forget 7 = .ok (.iload_n 1, 1) := by decide +kernel
theorem dX3_forget_8 : decode cX3_forget 8 = .ok (.bipush 24, 2) := by decide +kernel
theorem dX3_forget_10 : decode cX3_forget 10 = .ok (.if_icmp .gt 18, 3) := by decide +kernel
theorem dX3_forget_13 : decode cX3_forget 13 = .ok (.aload_n 0, 1) := by decide +kernel
theorem dX3_forget_14 : decode cX3_forget 14 = .ok (.getfield 11, 3) := by decide +kernel
theorem dX3_forget_17 : decode cX3_forget 17 = .ok (.iload_n 1, 1) := by decide +kernel
theorem dX3_forget_18 : decode cX3_forget 18 = .ok (.iconst 0, 1) := by decide +kernel
theorem dX3_forget_19 : decode cX3_forget 19 = .ok (.invokestatic 46, 3) := by decide +kernel
theorem dX3_forget_22 : decode cX3_forget 22 = .ok (.iinc 1 1, 3) := by decide +kernel
theorem dX3_forget_25 : decode cX3_forget 25 = .ok (.goto (-18), 3) := by decide +kernel
theorem dX3_forget_28 : decode cX3_forget 28 = .ok (.return_, 1) := by decide +kernel
set_option maxRecDepth 20000 in
theorem ggX3_count_X4_lowZeros : GoodIn wsX3_count wsX4_lowZeros := goodIn_r _ [5] (by decide +kernel) (by decide +kernel)
set_option maxRecDepth 20000 in
theorem gX3_count_X4_lowZeros_n50 : GoodIn wsX3_count (wsX4_lowZeros) := ggX3_count_X4_lowZeros
set_option maxRecDepth 20000 in
theorem ggX3_count_X4_at : GoodIn wsX3_count wsX4_at := goodIn_r _ [7] (by decide +kernel) (by decide +kernel)
set_option maxRecDepth 20000 in
theorem gX3_count_X4_at_n31 : GoodIn wsX3_count (wsX4_at) := ggX3_count_X4_at
set_option maxRecDepth 20000 in
theorem ggX3_count_X4_put : GoodIn wsX3_count wsX4_put := goodIn_r _ [9] (by decide +kernel) (by decide +kernel)
set_option maxRecDepth 20000 in
theorem gX3_count_X4_put_n46 : GoodIn wsX3_count (wsX4_put) := ggX3_count_X4_put
theorem dX3_count_0 : decode cX3_count 0 = .ok (.iload_n 1, 1) := by decide +kernel
theorem dX3_count_1 : decode cX3_count 1 = .ok (.bipush 24, 2) := by decide +kernel
theorem dX3_count_3 : decode cX3_count 3 = .ok (.invokestatic 50, 3) := by decide +kernel
theorem dX3_count_6 : decode cX3_count 6 = .ok (.istore_n 2, 1) := by decide +kernel
theorem dX3_count_7 : decode cX3_count 7 = .ok (.aload_n 0, 1) := by decide +kernel
theorem dX3_count_8 : decode cX3_count 8 = .ok (.getfield 11, 3) := by decide +kernel
theorem dX3_count_11 : decode cX3_count 11 = .ok (.iload_n 2, 1) := by decide +kernel
theorem dX3_count_12 : decode cX3_count 12 = .ok (.aload_n 0, 1) := by decide +kernel
theorem dX3_count_13 : decode cX3_count 13 = .ok (.getfield 11, 3) := by decide +kernel
theorem dX3_count_16 : decode cX3_count 16 = .ok (.iload_n 2, 1) := by decide +kernel
theorem dX3_count_17 : decode cX3_count 17 = .ok (.invokestatic 31, 3) := by decide +kernel
theorem dX3_count_20 : decode cX3_count 20 = .ok (.iconst 1, 1) := by decide +kernel
theorem dX3_count_21 : decode cX3_count 21 = .ok (.iadd, 1) := by decide +kernel
theorem dX3_count_22 : decode cX3_count 22 = .ok (.invokestatic 46, 3) := by decide +kernel
theorem dX3_count_25 : decode cX3_count 25 = .ok (.aload_n 0, 1) := by decide +kernel
theorem dX3_count_26 : decode cX3_count 26 = .ok (.dup, 1) := by decide +kernel
theorem dX3_count_27 : decode cX3_count 27 = .ok (.getfield 19, 3) := by decide +kernel
theorem dX3_count_30 : decode cX3_count 30 = .ok (.iconst 1, 1) := by decide +kernel
theorem dX3_count_31 : decode cX3_count 31 = .ok (.iadd, 1) := by decide +kernel
theorem dX3_count_32 : decode cX3_count 32 = .ok (.putfield 19, 3) := by decide +kernel
theorem dX3_count_35 : decode cX3_count 35 = .ok (.return_, 1) := by decide +kernel
set_option maxRecDepth 20000 in
theorem ggX3_settle_X4_at : GoodIn wsX3_settle wsX4_at := goodIn_r _ [6] (by decide +kernel) (by decide +kernel)
set_option maxRecDepth 20000 in
theorem gX3_settle_X4_at_n31 : GoodIn wsX3_settle (wsX4_at) := ggX3_settle_X4_at
theorem dX3_settle_0 : decode cX3_settle 0 = .ok (.aload_n 0, 1) := by decide +kernel
theorem dX3_settle_1 : decode cX3_settle 1 = .ok (.iconst 0, 1) := by decide +kernel
theorem dX3_settle_2 : decode cX3_settle 2 = .ok (.putfield 15, 3) := by decide +kernel
theorem dX3_settle_5 : decode cX3_settle 5 = .ok (.aload_n 0, 1) := by decide +kernel
theorem dX3_settle_6 : decode cX3_settle 6 = .ok (.getfield 19, 3) := by decide +kernel
theorem dX3_settle_9 : decode cX3_settle 9 = .ok (.bipush 16, 2) := by decide +kernel
theorem dX3_settle_11 : decode cX3_settle 11 = .ok (.if_icmp .le 45, 3) := by decide +kernel
theorem dX3_settle_14 : decode cX3_settle 14 = .ok (.aload_n 0, 1) := by decide +kernel
theorem dX3_settle_15 : decode cX3_settle 15 = .ok (.getfield 15, 3) := by decide +kernel
theorem dX3_settle_18 : decode cX3_settle 18 = .ok (.bipush 24, 2) := by decide +kernel
theorem dX3_settle_20 : decode cX3_settle 20 = .ok (.if_icmp .ge 36, 3) := by decide +kernel
theorem dX3_settle_23 : decode cX3_settle 23 = .ok (.aload_n 0, 1) := by decide +kernel
theorem dX3_settle_24 : decode cX3_settle 24 = .ok (.dup, 1) := by decide +kernel
theorem dX3_settle_25 : decode cX3_settle 25 = .ok (.getfield 19, 3) := by decide +kernel
theorem dX3_settle_28 : decode cX3_settle 28 = .ok (.aload_n 0, 1) := by decide +kernel
theorem dX3_settle_29 : decode cX3_settle 29 = .ok (.getfield 11, 3) := by decide +kernel
theorem dX3_settle_32 : decode cX3_settle 32 = .ok (.aload_n 0, 1) := by decide +kernel
theorem dX3_settle_33 : decode cX3_settle 33 = .ok (.getfield 15, 3) := by decide +kernel
theorem dX3_settle_36 : decode cX3_settle 36 = .ok (.invokestatic 31, 3) := by decide +kernel
theorem dX3_settle_39 : decode cX3_settle 39 = .ok (.isub, 1) := by decide +kernel
theorem dX3_settle_40 : decode cX3_settle 40 = .ok (.putfield 19, 3) := by decide +kernel
theorem dX3_settle_43 : decode cX3_settle 43 = .ok (.aload_n 0, 1) := by decide +kernel
theorem dX3_settle_44 : decode cX3_settle 44 = .ok (.dup, 1) := by decide +kernel
theorem dX3_settle_45 : decode cX3_settle 45 = .ok (.getfield 15, 3) := by decide +kernel
theorem dX3_settle_48 : decode cX3_settle 48 = .ok (.iconst 1, 1) := by decide +kernel
theorem dX3_settle_49 : decode cX3_settle 49 = .ok (.iadd, 1) := by decide +kernel
theorem dX3_settle_50 : decode cX3_settle 50 = .ok (.putfield 15, 3) := by decide +kernel
theorem dX3_settle_53 : decode cX3_settle 53 = .ok (.goto (-48), 3) := by decide +kernel
theorem dX3_settle_56 : decode cX3_settle 56 = .ok (.return_, 1) := by decide +kernel
set_option maxRecDepth 20000 in
theorem ggX3_itemAt_X4_at : GoodIn wsX3_itemAt wsX4_at := goodIn_r _ [6] (by decide +kernel) (by decide +kernel)
set_option maxRecDepth 20000 in
theorem gX3_itemAt_X4_at_n31 : GoodIn wsX3_itemAt (wsX4_at) := ggX3_itemAt_X4_at
set_option maxRecDepth 20000 in
theorem ggX3_itemAt_X4_hashFor : GoodIn wsX3_itemAt wsX4_hashFor := goodIn_r _ [8, 9, 10, 11, 12] (by decide +kernel) (by decide +kernel)
set_option maxRecDepth 20000 in
theorem gX3_itemAt_X4_hashFor_n35 : GoodIn wsX3_itemAt (wsX4_hashFor) := ggX3_itemAt_X4_hashFor
set_option maxRecDepth 20000 in
theorem ggX3_itemAt_X4_lowZeros : GoodIn wsX3_itemAt wsX4_lowZeros := goodIn_r _ [14] (by decide +kernel) (by decide +kernel)
set_option maxRecDepth 20000 in
theorem gX3_itemAt_X4_lowZeros_n50 : GoodIn wsX3_itemAt (wsX4_lowZeros) := ggX3_itemAt_X4_lowZeros
theorem dX3_itemAt_0 : decode cX3_itemAt 0 = .ok (.iconst 0, 1) := by decide +kernel
theorem dX3_itemAt_1 : decode cX3_itemAt 1 = .ok (.istore_n 3, 1) := by decide +kernel
theorem dX3_itemAt_2 : decode cX3_itemAt 2 = .ok (.iconst 0, 1) := by decide +kernel
theorem dX3_itemAt_3 : decode cX3_itemAt 3 = .ok (.istore 4, 2) := by decide +kernel
theorem dX3_itemAt_5 : decode cX3_itemAt 5 = .ok (.iload 4, 2) := by decide +kernel
theorem dX3_itemAt_7 : decode cX3_itemAt 7 = .ok (.aload_n 1, 1) := by decide +kernel
theorem dX3_itemAt_8 : decode cX3_itemAt 8 = .ok (.getfield 25, 3) := by decide +kernel
theorem dX3_itemAt_11 : decode cX3_itemAt 11 = .ok (.if_icmp .ge 48, 3) := by decide +kernel
theorem dX3_itemAt_14 : decode cX3_itemAt 14 = .ok (.aload_n 1, 1) := by decide +kernel
theorem dX3_itemAt_15 : decode cX3_itemAt 15 = .ok (.getfield 28, 3) := by decide +kernel
theorem dX3_itemAt_18 : decode cX3_itemAt 18 = .ok (.iload 4, 2) := by decide +kernel
theorem dX3_itemAt_20 : decode cX3_itemAt 20 = .ok (.invokestatic 31, 3) := by decide +kernel
theorem dX3_itemAt_23 : decode cX3_itemAt 23 = .ok (.istore 5, 2) := by decide +kernel
theorem dX3_itemAt_25 : decode cX3_itemAt 25 = .ok (.iload 5, 2) := by decide +kernel
theorem dX3_itemAt_27 : decode cX3_itemAt 27 = .ok (.invokestatic 35, 3) := by decide +kernel
theorem dX3_itemAt_30 : decode cX3_itemAt 30 = .ok (.bipush 24, 2) := by decide +kernel
theorem dX3_itemAt_32 : decode cX3_itemAt 32 = .ok (.invokestatic 50, 3) := by decide +kernel
theorem dX3_itemAt_35 : decode cX3_itemAt 35 = .ok (.aload_n 0, 1) := by decide +kernel
theorem dX3_itemAt_36 : decode cX3_itemAt 36 = .ok (.getfield 15, 3) := by decide +kernel
theorem dX3_itemAt_39 : decode cX3_itemAt 39 = .ok (.if_icmp .lt 14, 3) := by decide +kernel
theorem dX3_itemAt_42 : decode cX3_itemAt 42 = .ok (.iload_n 3, 1) := by decide +kernel
theorem dX3_itemAt_43 : decode cX3_itemAt 43 = .ok (.iload_n 2, 1) := by decide +kernel
theorem dX3_itemAt_44 : decode cX3_itemAt 44 = .ok (.if_icmp .ne 6, 3) := by decide +kernel
theorem dX3_itemAt_47 : decode cX3_itemAt 47 = .ok (.iload 5, 2) := by decide +kernel
theorem dX3_itemAt_49 : decode cX3_itemAt 49 = .ok (.ireturn, 1) := by decide +kernel
theorem dX3_itemAt_50 : decode cX3_itemAt 50 = .ok (.iinc 3 1, 3) := by decide +kernel
theorem dX3_itemAt_53 : decode cX3_itemAt 53 = .ok (.iinc 4 1, 3) := by decide +kernel
theorem dX3_itemAt_56 : decode cX3_itemAt 56 = .ok (.goto (-51), 3) := by decide +kernel
theorem dX3_itemAt_59 : decode cX3_itemAt 59 = .ok (.iconst (-1), 1) := by decide +kernel
theorem dX3_itemAt_60 : decode cX3_itemAt 60 = .ok (.ireturn, 1) := by decide +kernel
set_option maxRecDepth 20000 in
theorem ggX4_init_X0_init : GoodIn wsX4_init wsX0_init := goodIn_r _ [35, 36, 2, 3, 30, 37, 38, 39, 67, 68, 69] (by decide +kernel) (by decide +kernel)
set_option maxRecDepth 20000 in
theorem gX4_init_X0_init_n28 : GoodIn wsX4_init (wsX0_init) := ggX4_init_X0_init
set_option maxRecDepth 20000 in
theorem ggX4_init_X2_init : GoodIn wsX4_init wsX2_init := goodIn_r _ [41, 42, 2, 3, 30, 43, 70] (by decide +kernel) (by decide +kernel)
set_option maxRecDepth 20000 in
theorem gX4_init_X2_init_n31 : GoodIn wsX4_init (wsX2_init) := ggX4_init_X2_init
set_option maxRecDepth 20000 in
theorem ggX4_init_X3_init : GoodIn wsX4_init wsX3_init := goodIn_r _ [45, 46, 2, 3, 30, 47, 48, 49, 71, 72, 73] (by decide +kernel) (by decide +kernel)
set_option maxRecDepth 20000 in
theorem gX4_init_X3_init_n38 : GoodIn wsX4_init (wsX3_init) := ggX4_init_X3_init
set_option maxRecDepth 20000 in
theorem ggX4_init_X1_init : GoodIn wsX4_init wsX1_init := goodIn_r _ [52, 53, 2, 3, 30, 54, 55, 56, 74, 75, 76] (by decide +kernel) (by decide +kernel)
set_option maxRecDepth 20000 in
theorem gX4_init_X1_init : GoodIn wsX4_init (wsX1_init) := ggX4_init_X1_init
theorem dX4_init_0 : decode cX4_init 0 = .ok (.aload_n 0, 1) := by decide +kernel
theorem dX4_init_1 : decode cX4_init 1 = .ok (.invokespecial 1, 3) := by decide +kernel
theorem dX4_init_4 : decode cX4_init 4 = .ok (.aload_n 0, 1) := by decide +kernel
theorem dX4_init_5 : decode cX4_init 5 = .ok (.iconst 2, 1) := by decide +kernel
theorem dX4_init_6 : decode cX4_init 6 = .ok (.bipush 32, 2) := by decide +kernel
theorem dX4_init_8 : decode cX4_init 8 = .ok (.iload_n 1, 1) := by decide +kernel
theorem dX4_init_9 : decode cX4_init 9 = .ok (.invokestatic 9, 3) := by decide +kernel
theorem dX4_init_12 : decode cX4_init 12 = .ok (.invokestatic 15, 3) := by decide +kernel
theorem dX4_init_15 : decode cX4_init 15 = .ok (.putfield 18, 3) := by decide +kernel
theorem dX4_init_18 : decode cX4_init 18 = .ok (.aload_n 0, 1) := by decide +kernel
theorem dX4_init_19 : decode cX4_init 19 = .ok (.bipush 6, 2) := by decide +kernel
theorem dX4_init_21 : decode cX4_init 21 = .ok (.anewarray 22, 3) := by decide +kernel
theorem dX4_init_24 : decode cX4_init 24 = .ok (.putfield 24, 3) := by decide +kernel
theorem dX4_init_27 : decode cX4_init 27 = .ok (.iconst 0, 1) := by decide +kernel
theorem dX4_init_28 : decode cX4_init 28 = .ok (.istore_n 2, 1) := by decide +kernel
theorem dX4_init_29 : decode cX4_init 29 = .ok (.iload_n 2, 1) := by decide +kernel
theorem dX4_init_30 : decode cX4_init 30 = .ok (.aload_n 0, 1) := by decide +kernel
theorem dX4_init_31 : decode cX4_init 31 = .ok (.getfield 24, 3) := by decide +kernel
theorem dX4_init_34 : decode cX4_init 34 = .ok (.arraylength, 1) := by decide +kernel
theorem dX4_init_35 : decode cX4_init 35 = .ok (.if_icmp .ge 22, 3) := by decide +kernel
theorem dX4_init_38 : decode cX4_init 38 = .ok (.aload_n 0, 1) := by decide +kernel
theorem dX4_init_39 : decode cX4_init 39 = .ok (.getfield 24, 3) := by decide +kernel
theorem dX4_init_42 : decode cX4_init 42 = .ok (.iload_n 2, 1) := by decide +kernel
theorem dX4_init_43 : decode cX4_init 43 = .ok (.new 22, 3) := by decide +kernel
theorem dX4_init_46 : decode cX4_init 46 = .ok (.dup, 1) := by decide +kernel
theorem dX4_init_47 : decode cX4_init 47 = .ok (.invokespecial 28, 3) := by decide +kernel
theorem dX4_init_50 : decode cX4_init 50 = .ok (.aastore, 1) := by decide +kernel
theorem dX4_init_51 : decode cX4_init 51 = .ok (.iinc 2 1, 3) := by decide +kernel
theorem dX4_init_54 : decode cX4_init 54 = .ok (.goto (-25), 3) := by decide +kernel
theorem dX4_init_57 : decode cX4_init 57 = .ok (.aload_n 0, 1) := by decide +kernel
theorem dX4_init_58 : decode cX4_init 58 = .ok (.new 29, 3) := by decide +kernel
theorem dX4_init_61 : decode cX4_init 61 = .ok (.dup, 1) := by decide +kernel
theorem dX4_init_62 : decode cX4_init 62 = .ok (.invokespecial 31, 3) := by decide +kernel
theorem dX4_init_65 : decode cX4_init 65 = .ok (.putfield 32, 3) := by decide +kernel
theorem dX4_init_68 : decode cX4_init 68 = .ok (.aload_n 0, 1) := by decide +kernel
theorem dX4_init_69 : decode cX4_init 69 = .ok (.new 36, 3) := by decide +kernel
theorem dX4_init_72 : decode cX4_init 72 = .ok (.dup, 1) := by decide +kernel
theorem dX4_init_73 : decode cX4_init 73 = .ok (.invokespecial 38, 3) := by decide +kernel
theorem dX4_init_76 : decode cX4_init 76 = .ok (.putfield 39, 3) := by decide +kernel
theorem dX4_init_79 : decode cX4_init 79 = .ok (.aload_n 0, 1) := by decide +kernel
theorem dX4_init_80 : decode cX4_init 80 = .ok (.new 43, 3) := by decide +kernel
theorem dX4_init_83 : decode cX4_init 83 = .ok (.dup, 1) := by decide +kernel
theorem dX4_init_84 : decode cX4_init 84 = .ok (.aload_n 0, 1) := by decide +kernel
theorem dX4_init_85 : decode cX4_init 85 = .ok (.getfield 18, 3) := by decide +kernel
theorem dX4_init_88 : decode cX4_init 88 = .ok (.invokespecial 45, 3) := by decide +kernel
theorem dX4_init_91 : decode cX4_init 91 = .ok (.putfield 48, 3) := by decide +kernel
theorem dX4_init_94 : decode cX4_init 94 = .ok (.aload_n 0, 1) := by decide +kernel
theorem dX4_init_95 : decode cX4_init 95 = .ok (.new 43, 3) := by decide +kernel
theorem dX4_init_98 : decode cX4_init 98 = .ok (.dup, 1) := by decide +kernel
theorem dX4_init_99 : decode cX4_init 99 = .ok (.aload_n 0, 1) := by decide +kernel
theorem dX4_init_100 : decode cX4_init 100 = .ok (.getfield 18, 3) := by decide +kernel
theorem dX4_init_103 : decode cX4_init 103 = .ok (.invokespecial 45, 3) := by decide +kernel
theorem dX4_init_106 : decode cX4_init 106 = .ok (.putfield 52, 3) := by decide +kernel
theorem dX4_init_109 : decode cX4_init 109 = .ok (.aload_n 0, 1) := by decide +kernel
theorem dX4_init_110 : decode cX4_init 110 = .ok (.new 43, 3) := by decide +kernel
theorem dX4_init_113 : decode cX4_init 113 = .ok (.dup, 1) := by decide +kernel
theorem dX4_init_114 : decode cX4_init 114 = .ok (.aload_n 0, 1) := by decide +kernel
theorem dX4_init_115 : decode cX4_init 115 = .ok (.getfield 18, 3) := by decide +kernel
theorem dX4_init_118 : decode cX4_init 118 = .ok (.invokespecial 45, 3) := by decide +kernel
theorem dX4_init_121 : decode cX4_init 121 = .ok (.putfield 55, 3) := by decide +kernel
theorem dX4_init_124 : decode cX4_init 124 = .ok (.aload_n 0, 1) := by decide +kernel
theorem dX4_init_125 : decode cX4_init 125 = .ok (.bipush 60, 2) := by decide +kernel
theorem dX4_init_127 : decode cX4_init 127 = .ok (.newarray .int, 2) := by decide +kernel
theorem dX4_init_129 : decode cX4_init 129 = .ok (.putfield 58, 3) := by decide +kernel
theorem dX4_init_132 : decode cX4_init 132 = .ok (.aload_n 0, 1) := by decide +kernel
theorem dX4_init_133 : decode cX4_init 133 = .ok (.bipush 60, 2) := by decide +kernel
theorem dX4_init_135 : decode cX4_init 135 = .ok (.newarray .int, 2) := by decide +kernel
theorem dX4_init_137 : decode cX4_init 137 = .ok (.putfield 62, 3) := by decide +kernel
theorem dX4_init_140 : decode cX4_init 140 = .ok (.aload_n 0, 1) := by decide +kernel
theorem dX4_init_141 : decode cX4_init 141 = .ok (.iconst 0, 1) := by decide +kernel
theorem dX4_init_142 : decode cX4_init 142 = .ok (.putfield 65, 3) := by decide +kernel
theorem dX4_init_145 : decode cX4_init 145 = .ok (.return_, 1) := by decide +kernel
set_option maxRecDepth 20000 in
theorem ggX4_add_X4_need : GoodIn wsX4_add wsX4_need := goodIn_ca (goodIn_r _ [5, 6, 7, 8, 70, 71, 72, 73, 74, 75, 76, 77, 78, 79] (by decide +kernel) (by decide +kernel)) (goodIn_sub (fun _ h => List.mem_cons_of_mem _ (List.mem_append_left _ (List.mem_append_right _ h))) (by decide +kernel))
set_option maxRecDepth 20000 in
theorem gX4_add_X4_need : GoodIn wsX4_add (wsV RX4 68 RX4 yX4_need wsX4_need) := goodIn_app (goodIn_of _ (by decide +kernel)) ggX4_add_X4_need
set_option maxRecDepth 20000 in
theorem ggX4_add_X4_isItem : GoodIn wsX4_add wsX4_isItem := goodIn_r _ [11, 12] (by decide +kernel) (by decide +kernel)
set_option maxRecDepth 20000 in
theorem gX4_add_X4_isItem : GoodIn wsX4_add (va_wsS RX4 72 yX4_isItem wsX4_isItem) := goodIn_app (goodIn_of _ (by decide +kernel)) ggX4_add_X4_isItem
set_option maxRecDepth 20000 in
theorem ggX4_add_X4_refuseUnless : GoodIn wsX4_add wsX4_refuseUnless := goodIn_ca (goodIn_r _ [15, 16, 17] (by decide +kernel) (by decide +kernel)) (goodIn_sub (fun _ h => List.mem_cons_of_mem _ (List.mem_append_right _ h)) (by decide +kernel))
set_option maxRecDepth 20000 in
theorem gX4_add_X4_refuseUnless : GoodIn wsX4_add (va_wsS RX4 76 yX4_refuseUnless wsX4_refuseUnless) := goodIn_app (goodIn_of _ (by decide +kernel)) ggX4_add_X4_refuseUnless
set_option maxRecDepth 20000 in
theorem ggX4_add_X4_takeLine : GoodIn wsX4_add wsX4_takeLine := goodIn_r _ [21, 22, 23, 24, 25, 26, 4, 27, 28, 29, 30, 31, 32, 33, 34, 35, 36, 37, 38, 39, 40, 41, 42, 43, 44, 45, 46, 47, 48, 49, 50, 51, 52, 53, 54, 55, 56, 57, 58, 59, 60, 61, 62, 63, 64, 65, 66, 67, 68, 69, 70, 71, 72, 73, 74, 75, 76, 77, 78, 79, 80, 81, 82] (by decide +kernel) (by decide +kernel)
set_option maxRecDepth 20000 in
theorem gX4_add_X4_takeLine : GoodIn wsX4_add (wsV RX4 80 RX4 yX4_takeLine wsX4_takeLine) := goodIn_app (goodIn_of _ (by decide +kernel)) ggX4_add_X4_takeLine
theorem dX4_add_0 : decode cX4_add 0 = .ok (.aload_n 0, 1) := by decide +kernel
theorem dX4_add_1 : decode cX4_add 1 = .ok (.iload_n 1, 1) := by decide +kernel
theorem dX4_add_2 : decode cX4_add 2 = .ok (.invokevirtual 68, 3) := by decide +kernel
theorem dX4_add_5 : decode cX4_add 5 = .ok (.astore_n 3, 1) := by decide +kernel
theorem dX4_add_6 : decode cX4_add 6 = .ok (.iload_n 2, 1) := by decide +kernel
theorem dX4_add_7 : decode cX4_add 7 = .ok (.invokestatic 72, 3) := by decide +kernel
theorem dX4_add_10 : decode cX4_add 10 = .ok (.invokestatic 76, 3) := by decide +kernel
theorem dX4_add_13 : decode cX4_add 13 = .ok (.aload_n 0, 1) := by decide +kernel
theorem dX4_add_14 : decode cX4_add 14 = .ok (.aload_n 3, 1) := by decide +kernel
theorem dX4_add_15 : decode cX4_add 15 = .ok (.iload_n 2, 1) := by decide +kernel
theorem dX4_add_16 : decode cX4_add 16 = .ok (.iconst 1, 1) := by decide +kernel
theorem dX4_add_17 : decode cX4_add 17 = .ok (.iconst 1, 1) := by decide +kernel
theorem dX4_add_18 : decode cX4_add 18 = .ok (.invokevirtual 80, 3) := by decide +kernel
theorem dX4_add_21 : decode cX4_add 21 = .ok (.iconst 1, 1) := by decide +kernel
theorem dX4_add_22 : decode cX4_add 22 = .ok (.if_icmp .ne 7, 3) := by decide +kernel
theorem dX4_add_25 : decode cX4_add 25 = .ok (.iconst 1, 1) := by decide +kernel
theorem dX4_add_26 : decode cX4_add 26 = .ok (.goto 4, 3) := by decide +kernel
theorem dX4_add_29 : decode cX4_add 29 = .ok (.iconst 0, 1) := by decide +kernel
theorem dX4_add_30 : decode cX4_add 30 = .ok (.ireturn, 1) := by decide +kernel
set_option maxRecDepth 20000 in
theorem ggX4_addLine_X4_need : GoodIn wsX4_addLine wsX4_need := goodIn_ca (goodIn_r _ [5, 6, 7, 8, 70, 71, 72, 73, 74, 75, 76, 77, 78, 79] (by decide +kernel) (by decide +kernel)) (goodIn_sub (fun _ h => List.mem_cons_of_mem _ (List.mem_append_left _ (List.mem_append_right _ h))) (by decide +kernel))
set_option maxRecDepth 20000 in
theorem gX4_addLine_X4_need : GoodIn wsX4_addLine (wsV RX4 68 RX4 yX4_need wsX4_need) := goodIn_app (goodIn_of _ (by decide +kernel)) ggX4_addLine_X4_need
set_option maxRecDepth 20000 in
theorem ggX4_addLine_X4_isItem : GoodIn wsX4_addLine wsX4_isItem := goodIn_r _ [11, 12] (by decide +kernel) (by decide +kernel)
set_option maxRecDepth 20000 in
theorem gX4_addLine_X4_isItem : GoodIn wsX4_addLine (va_wsS RX4 72 yX4_isItem wsX4_isItem) := goodIn_app (goodIn_of _ (by decide +kernel)) ggX4_addLine_X4_isItem
set_option maxRecDepth 20000 in
theorem ggX4_addLine_X4_refuseUnless : GoodIn wsX4_addLine wsX4_refuseUnless := goodIn_ca (goodIn_r _ [15, 16, 17] (by decide +kernel) (by decide +kernel)) (goodIn_sub (fun _ h => List.mem_cons_of_mem _ (List.mem_append_right _ h)) (by decide +kernel))
set_option maxRecDepth 20000 in
theorem gX4_addLine_X4_refuseUnless : GoodIn wsX4_addLine (va_wsS RX4 76 yX4_refuseUnless wsX4_refuseUnless) := goodIn_app (goodIn_of _ (by decide +kernel)) ggX4_addLine_X4_refuseUnless
set_option maxRecDepth 20000 in
theorem ggX4_addLine_X4_takeLine : GoodIn wsX4_addLine wsX4_takeLine := goodIn_r _ [21, 22, 23, 24, 25, 26, 4, 27, 28, 29, 30, 31, 32, 33, 34, 35, 36, 37, 38, 39, 40, 41, 42, 43, 44, 45, 46, 47, 48, 49, 50, 51, 52, 53, 54, 55, 56, 57, 58, 59, 60, 61, 62, 63, 64, 65, 66, 67, 68, 69, 70, 71, 72, 73, 74, 75, 76, 77, 78, 79, 80, 81, 82] (by decide +kernel) (by decide +kernel)
set_option maxRecDepth 20000 in
theorem gX4_addLine_X4_takeLine : GoodIn wsX4_addLine (wsV RX4 80 RX4 yX4_takeLine wsX4_takeLine) := goodIn_app (goodIn_of _ (by decide +kernel)) ggX4_addLine_X4_takeLine
theorem dX4_addLine_0 : decode cX4_addLine 0 = .ok (.aload_n 0, 1) := by decide +kernel
theorem dX4_addLine_1 : decode cX4_addLine 1 = .ok (.iload_n 1, 1) := by decide +kernel
theorem dX4_addLine_2 : decode cX4_addLine 2 = .ok (.invokevirtual 68, 3) := by decide +kernel
theorem dX4_addLine_5 : decode cX4_addLine 5 = .ok (.astore 5, 2) := by decide +kernel
theorem dX4_addLine_7 : decode cX4_addLine 7 = .ok (.iload_n 2, 1) := by decide +kernel
theorem dX4_addLine_8 : decode cX4_addLine 8 = .ok (.invokestatic 72, 3) := by decide +kernel
theorem dX4_addLine_11 : decode cX4_addLine 11 = .ok (.invokestatic 76, 3) := by decide +kernel
theorem dX4_addLine_14 : decode cX4_addLine 14 = .ok (.iload_n 3, 1) := by decide +kernel
theorem dX4_addLine_15 : decode cX4_addLine 15 = .ok (.iconst 1, 1) := by decide +kernel
theorem dX4_addLine_16 : decode cX4_addLine 16 = .ok (.if_icmp .lt 14, 3) := by decide +kernel
theorem dX4_addLine_19 : decode cX4_addLine 19 = .ok (.iload_n 3, 1) := by decide +kernel
theorem dX4_addLine_20 : decode cX4_addLine 20 = .ok (.sipush 999, 3) := by decide +kernel
theorem dX4_addLine_23 : decode cX4_addLine 23 = .ok (.if_icmp .gt 7, 3) := by decide +kernel
theorem dX4_addLine_26 : decode cX4_addLine 26 = .ok (.iconst 1, 1) := by decide +kernel
theorem dX4_addLine_27 : decode cX4_addLine 27 = .ok (.goto 4, 3) := by decide +kernel
theorem dX4_addLine_30 : decode cX4_addLine 30 = .ok (.iconst 0, 1) := by decide +kernel
theorem dX4_addLine_31 : decode cX4_addLine 31 = .ok (.invokestatic 76, 3) := by decide +kernel
theorem dX4_addLine_34 : decode cX4_addLine 34 = .ok (.iload 4, 2) := by decide +kernel
theorem dX4_addLine_36 : decode cX4_addLine 36 = .ok (.iconst 1, 1) := by decide +kernel
theorem dX4_addLine_37 : decode cX4_addLine 37 = .ok (.if_icmp .lt 14, 3) := by decide +kernel
theorem dX4_addLine_40 : decode cX4_addLine 40 = .ok (.iload 4, 2) := by decide +kernel
theorem dX4_addLine_42 : decode cX4_addLine 42 = .ok (.bipush 60, 2) := by decide +kernel
theorem dX4_addLine_44 : decode cX4_addLine 44 = .ok (.if_icmp .gt 7, 3) := by decide +kernel
theorem dX4_addLine_47 : decode cX4_addLine 47 = .ok (.iconst 1, 1) := by decide +kernel
theorem dX4_addLine_48 : decode cX4_addLine 48 = .ok (.goto 4, 3) := by decide +kernel
theorem dX4_addLine_51 : decode cX4_addLine 51 = .ok (.iconst 0, 1) := by decide +kernel
theorem dX4_addLine_52 : decode cX4_addLine 52 = .ok (.invokestatic 76, 3) := by decide +kernel
theorem dX4_addLine_55 : decode cX4_addLine 55 = .ok (.iload_n 2, 1) := by decide +kernel
theorem dX4_addLine_56 : decode cX4_addLine 56 = .ok (.iload_n 3, 1) := by decide +kernel
theorem dX4_addLine_57 : decode cX4_addLine 57 = .ok (.iload 4, 2) := by decide +kernel
theorem dX4_addLine_59 : decode cX4_addLine 59 = .ok (.iconst 1, 1) := by decide +kernel
theorem dX4_addLine_60 : decode cX4_addLine 60 = .ok (.isub, 1) := by decide +kernel
theorem dX4_addLine_61 : decode cX4_addLine 61 = .ok (.imul, 1) := by decide +kernel
theorem dX4_addLine_62 : decode cX4_addLine 62 = .ok (.iadd, 1) := by decide +kernel
theorem dX4_addLine_63 : decode cX4_addLine 63 = .ok (.invokestatic 72, 3) := by decide +kernel
theorem dX4_addLine_66 : decode cX4_addLine 66 = .ok (.invokestatic 76, 3) := by decide +kernel
theorem dX4_addLine_69 : decode cX4_addLine 69 = .ok (.aload_n 0, 1) := by decide +kernel
theorem dX4_addLine_70 : decode cX4_addLine 70 = .ok (.aload 5, 2) := by decide +kernel
theorem dX4_addLine_72 : decode cX4_addLine 72 = .ok (.iload_n 2, 1) := by decide +kernel
theorem dX4_addLine_73 : decode cX4_addLine 73 = .ok (.iload_n 3, 1) := by decide +kernel
theorem dX4_addLine_74 : decode cX4_addLine 74 = .ok (.iload 4, 2) := by decide +kernel
theorem dX4_addLine_76 : decode cX4_addLine 76 = .ok (.invokevirtual 80, 3) := by decide +kernel
theorem dX4_addLine_79 : decode cX4_addLine 79 = .ok (.ireturn, 1) := by decide +kernel
set_option maxRecDepth 20000 in
theorem ggX4_empty_X4_need : GoodIn wsX4_empty wsX4_need := goodIn_ca (goodIn_r _ [5, 6, 7, 8, 15, 16, 17, 18, 19, 20, 21, 22, 23, 24] (by decide +kernel) (by decide +kernel)) (goodIn_sub (fun _ h => List.mem_cons_of_mem _ (List.mem_append_right _ h)) (by decide +kernel))
set_option maxRecDepth 20000 in
theorem gX4_empty_X4_need : GoodIn wsX4_empty (wsV RX4 68 RX4 yX4_need wsX4_need) := goodIn_app (goodIn_of _ (by decide +kernel)) ggX4_empty_X4_need
set_option maxRecDepth 20000 in
theorem ggX4_empty_X0_drain : GoodIn wsX4_empty wsX0_drain := goodIn_r _ [13, 14, 25, 26, 27] (by decide +kernel) (by decide +kernel)
set_option maxRecDepth 20000 in
theorem gX4_empty_X0_drain : GoodIn wsX4_empty (wsV RX4 84 RX0 yX0_drain wsX0_drain) := goodIn_app (goodIn_of _ (by decide +kernel)) ggX4_empty_X0_drain
theorem dX4_empty_0 : decode cX4_empty 0 = .ok (.aload_n 0, 1) := by decide +kernel
theorem dX4_empty_1 : decode cX4_empty 1 = .ok (.iload_n 1, 1) := by decide +kernel
theorem dX4_empty_2 : decode cX4_empty 2 = .ok (.invokevirtual 68, 3) := by decide +kernel
theorem dX4_empty_5 : decode cX4_empty 5 = .ok (.invokevirtual 84, 3) := by decide +kernel
theorem dX4_empty_8 : decode cX4_empty 8 = .ok (.ireturn, 1) := by decide +kernel
set_option maxRecDepth 20000 in
theorem ggX4_merge_X4_need : GoodIn wsX4_merge wsX4_need := goodIn_ca (goodIn_r _ [8, 9, 10, 11, 59, 60, 61, 62, 63, 64, 65, 66, 67, 68] (by decide +kernel) (by decide +kernel)) (goodIn_sub (fun _ h => List.mem_cons_of_mem _ (List.mem_append_right _ h)) (by decide +kernel))
set_option maxRecDepth 20000 in
theorem gX4_merge_X4_need : GoodIn wsX4_merge (wsV RX4 68 RX4 yX4_need wsX4_need) := goodIn_app (goodIn_of _ (by decide +kernel)) ggX4_merge_X4_need
set_option maxRecDepth 20000 in
theorem ggX4_merge_X0_take : GoodIn wsX4_merge wsX0_take := goodIn_r _ [16, 17, 18, 19, 20, 21, 22, 23, 24, 25, 26, 15, 27, 28, 7, 29, 30, 31, 32, 33, 34, 35, 36, 37, 38, 39, 40, 41, 42, 43, 44, 45, 46, 47, 48, 49, 50, 51, 52, 53, 54, 55, 56, 57, 58] (by decide +kernel) (by decide +kernel)
set_option maxRecDepth 20000 in
theorem gX4_merge_X0_take : GoodIn wsX4_merge (wsV RX4 97 RX0 yX0_take wsX0_take) := goodIn_app (goodIn_of _ (by decide +kernel)) ggX4_merge_X0_take
theorem dX4_merge_0 : decode cX4_merge 0 = .ok (.aload_n 0, 1) := by decide +kernel
theorem dX4_merge_1 : decode cX4_merge 1 = .ok (.iload_n 1, 1) := by decide +kernel
theorem dX4_merge_2 : decode cX4_merge 2 = .ok (.invokevirtual 68, 3) := by decide +kernel
theorem dX4_merge_5 : decode cX4_merge 5 = .ok (.astore_n 3, 1) := by decide +kernel
theorem dX4_merge_6 : decode cX4_merge 6 = .ok (.aload_n 0, 1) := by decide +kernel
theorem dX4_merge_7 : decode cX4_merge 7 = .ok (.iload_n 2, 1) := by decide +kernel
theorem dX4_merge_8 : decode cX4_merge 8 = .ok (.invokevirtual 68, 3) := by decide +kernel
theorem dX4_merge_11 : decode cX4_merge 11 = .ok (.astore 4, 2) := by decide +kernel
theorem dX4_merge_13 : decode cX4_merge 13 = .ok (.aload 4, 2) := by decide +kernel
theorem dX4_merge_15 : decode cX4_merge 15 = .ok (.aload_n 3, 1) := by decide +kernel
theorem dX4_merge_16 : decode cX4_merge 16 = .ok (.getfield 88, 3) := by decide +kernel
theorem dX4_merge_19 : decode cX4_merge 19 = .ok (.aload_n 3, 1) := by decide +kernel
theorem dX4_merge_20 : decode cX4_merge 20 = .ok (.getfield 91, 3) := by decide +kernel
theorem dX4_merge_23 : decode cX4_merge 23 = .ok (.aload_n 3, 1) := by decide +kernel
theorem dX4_merge_24 : decode cX4_merge 24 = .ok (.getfield 94, 3) := by decide +kernel
theorem dX4_merge_27 : decode cX4_merge 27 = .ok (.invokevirtual 97, 3) := by decide +kernel
theorem dX4_merge_30 : decode cX4_merge 30 = .ok (.ireturn, 1) := by decide +kernel
set_option maxRecDepth 20000 in
theorem ggX4_pass_X4_refuseUnless : GoodIn wsX4_pass wsX4_refuseUnless := goodIn_ca (goodIn_r _ [5, 6, 7] (by decide +kernel) (by decide +kernel)) (goodIn_sub (fun _ h => List.mem_cons_of_mem _ (List.mem_append_right _ h)) (by decide +kernel))
set_option maxRecDepth 20000 in
theorem gX4_pass_X4_refuseUnless : GoodIn wsX4_pass (va_wsS RX4 76 yX4_refuseUnless wsX4_refuseUnless) := goodIn_app (goodIn_of _ (by decide +kernel)) ggX4_pass_X4_refuseUnless
theorem dX4_pass_0 : decode cX4_pass 0 = .ok (.iload_n 1, 1) := by decide +kernel
theorem dX4_pass_1 : decode cX4_pass 1 = .ok (.iconst 1, 1) := by decide +kernel
theorem dX4_pass_2 : decode cX4_pass 2 = .ok (.if_icmp .lt 14, 3) := by decide +kernel
theorem dX4_pass_5 : decode cX4_pass 5 = .ok (.iload_n 1, 1) := by decide +kernel
theorem dX4_pass_6 : decode cX4_pass 6 = .ok (.sipush 1000, 3) := by decide +kernel
theorem dX4_pass_9 : decode cX4_pass 9 = .ok (.if_icmp .gt 7, 3) := by decide +kernel
theorem dX4_pass_12 : decode cX4_pass 12 = .ok (.iconst 1, 1) := by decide +kernel
theorem dX4_pass_13 : decode cX4_pass 13 = .ok (.goto 4, 3) := by decide +kernel
theorem dX4_pass_16 : decode cX4_pass 16 = .ok (.iconst 0, 1) := by decide +kernel
theorem dX4_pass_17 : decode cX4_pass 17 = .ok (.invokestatic 76, 3) := by decide +kernel
theorem dX4_pass_20 : decode cX4_pass 20 = .ok (.aload_n 0, 1) := by decide +kernel
theorem dX4_pass_21 : decode cX4_pass 21 = .ok (.dup, 1) := by decide +kernel
theorem dX4_pass_22 : decode cX4_pass 22 = .ok (.getfield 65, 3) := by decide +kernel
theorem dX4_pass_25 : decode cX4_pass 25 = .ok (.iload_n 1, 1) := by decide +kernel
theorem dX4_pass_26 : decode cX4_pass 26 = .ok (.iadd, 1) := by decide +kernel
theorem dX4_pass_27 : decode cX4_pass 27 = .ok (.putfield 65, 3) := by decide +kernel
theorem dX4_pass_30 : decode cX4_pass 30 = .ok (.aload_n 0, 1) := by decide +kernel
theorem dX4_pass_31 : decode cX4_pass 31 = .ok (.getfield 65, 3) := by decide +kernel
theorem dX4_pass_34 : decode cX4_pass 34 = .ok (.ireturn, 1) := by decide +kernel
theorem dX4_clock_0 : decode cX4_clock 0 = .ok (.aload_n 0, 1) := by decide +kernel
theorem dX4_clock_1 : decode cX4_clock 1 = .ok (.getfield 65, 3) := by decide +kernel
theorem dX4_clock_4 : decode cX4_clock 4 = .ok (.ireturn, 1) := by decide +kernel
set_option maxRecDepth 20000 in
theorem ggX4_plain_X4_need : GoodIn wsX4_plain wsX4_need := goodIn_ca (goodIn_r _ [6, 7, 8, 9, 13, 14, 15, 16, 17, 18, 19, 20, 21, 22] (by decide +kernel) (by decide +kernel)) (goodIn_sub (fun _ h => List.mem_cons_of_mem _ (List.mem_append_right _ h)) (by decide +kernel))
set_option maxRecDepth 20000 in
theorem gX4_plain_X4_need : GoodIn wsX4_plain (wsV RX4 68 RX4 yX4_need wsX4_need) := goodIn_app (goodIn_of _ (by decide +kernel)) ggX4_plain_X4_need
theorem dX4_plain_0 : decode cX4_plain 0 = .ok (.aload_n 0, 1) := by decide +kernel
theorem dX4_plain_1 : decode cX4_plain 1 = .ok (.iload_n 1, 1) := by decide +kernel
theorem dX4_plain_2 : decode cX4_plain 2 = .ok (.invokevirtual 68, 3) := by decide +kernel
theorem dX4_plain_5 : decode cX4_plain 5 = .ok (.getfield 94, 3) := by decide +kernel
theorem dX4_plain_8 : decode cX4_plain 8 = .ok (.ireturn, 1) := by decide +kernel
set_option maxRecDepth 20000 in
theorem ggX4_plainCommon_X4_need : GoodIn wsX4_plainCommon wsX4_need := goodIn_ca (goodIn_r _ [7, 8, 9, 10, 23, 24, 25, 26, 27, 28, 29, 30, 31, 32] (by decide +kernel) (by decide +kernel)) (goodIn_sub (fun _ h => List.mem_cons_of_mem _ (List.mem_append_right _ h)) (by decide +kernel))
set_option maxRecDepth 20000 in
theorem gX4_plainCommon_X4_need : GoodIn wsX4_plainCommon (wsV RX4 68 RX4 yX4_need wsX4_need) := goodIn_app (goodIn_of _ (by decide +kernel)) ggX4_plainCommon_X4_need
set_option maxRecDepth 20000 in
theorem ggX4_plainCommon_X0_countShared : GoodIn wsX4_plainCommon wsX0_countShared := goodIn_r _ [15, 16, 17, 18, 6, 19, 20, 21, 22] (by decide +kernel) (by decide +kernel)
set_option maxRecDepth 20000 in
theorem gX4_plainCommon_X0_countShared : GoodIn wsX4_plainCommon (wsV RX4 101 RX0 yX0_countShared wsX0_countShared) := goodIn_app (goodIn_of _ (by decide +kernel)) ggX4_plainCommon_X0_countShared
theorem dX4_plainCommon_0 : decode cX4_plainCommon 0 = .ok (.aload_n 0, 1) := by decide +kernel
theorem dX4_plainCommon_1 : decode cX4_plainCommon 1 = .ok (.iload_n 1, 1) := by decide +kernel
theorem dX4_plainCommon_2 : decode cX4_plainCommon 2 = .ok (.invokevirtual 68, 3) := by decide +kernel
theorem dX4_plainCommon_5 : decode cX4_plainCommon 5 = .ok (.astore_n 3, 1) := by decide +kernel
theorem dX4_plainCommon_6 : decode cX4_plainCommon 6 = .ok (.aload_n 0, 1) := by decide +kernel
theorem dX4_plainCommon_7 : decode cX4_plainCommon 7 = .ok (.iload_n 2, 1) := by decide +kernel
theorem dX4_plainCommon_8 : decode cX4_plainCommon 8 = .ok (.invokevirtual 68, 3) := by decide +kernel
theorem dX4_plainCommon_11 : decode cX4_plainCommon 11 = .ok (.astore 4, 2) := by decide +kernel
theorem dX4_plainCommon_13 : decode cX4_plainCommon 13 = .ok (.aload_n 3, 1) := by decide +kernel
theorem dX4_plainCommon_14 : decode cX4_plainCommon 14 = .ok (.aload 4, 2) := by decide +kernel
theorem dX4_plainCommon_16 : decode cX4_plainCommon 16 = .ok (.getfield 88, 3) := by decide +kernel
theorem dX4_plainCommon_19 : decode cX4_plainCommon 19 = .ok (.aload 4, 2) := by decide +kernel
theorem dX4_plainCommon_21 : decode cX4_plainCommon 21 = .ok (.getfield 94, 3) := by decide +kernel
theorem dX4_plainCommon_24 : decode cX4_plainCommon 24 = .ok (.invokevirtual 101, 3) := by decide +kernel
theorem dX4_plainCommon_27 : decode cX4_plainCommon 27 = .ok (.ireturn, 1) := by decide +kernel
set_option maxRecDepth 20000 in
theorem ggX4_dateOf_X4_need : GoodIn wsX4_dateOf wsX4_need := goodIn_ca (goodIn_r _ [5, 6, 7, 8, 29, 30, 31, 32, 33, 34, 35, 36, 37, 38] (by decide +kernel) (by decide +kernel)) (goodIn_sub (fun _ h => List.mem_cons_of_mem _ (List.mem_append_left _ (List.mem_append_right _ h))) (by decide +kernel))
set_option maxRecDepth 20000 in
theorem gX4_dateOf_X4_need : GoodIn wsX4_dateOf (wsV RX4 68 RX4 yX4_need wsX4_need) := goodIn_app (goodIn_of _ (by decide +kernel)) ggX4_dateOf_X4_need
set_option maxRecDepth 20000 in
theorem ggX4_dateOf_X4_isItem : GoodIn wsX4_dateOf wsX4_isItem := goodIn_r _ [11, 12] (by decide +kernel) (by decide +kernel)
set_option maxRecDepth 20000 in
theorem gX4_dateOf_X4_isItem : GoodIn wsX4_dateOf (va_wsS RX4 72 yX4_isItem wsX4_isItem) := goodIn_app (goodIn_of _ (by decide +kernel)) ggX4_dateOf_X4_isItem
set_option maxRecDepth 20000 in
theorem ggX4_dateOf_X4_refuseUnless : GoodIn wsX4_dateOf wsX4_refuseUnless := goodIn_ca (goodIn_r _ [15, 16, 17] (by decide +kernel) (by decide +kernel)) (goodIn_sub (fun _ h => List.mem_cons_of_mem _ (List.mem_append_right _ h)) (by decide +kernel))
set_option maxRecDepth 20000 in
theorem gX4_dateOf_X4_refuseUnless : GoodIn wsX4_dateOf (va_wsS RX4 76 yX4_refuseUnless wsX4_refuseUnless) := goodIn_app (goodIn_of _ (by decide +kernel)) ggX4_dateOf_X4_refuseUnless
set_option maxRecDepth 20000 in
theorem ggX4_dateOf_X0_dateFor : GoodIn wsX4_dateOf wsX0_dateFor := goodIn_r _ [22, 23, 24, 25, 26, 27, 4, 28, 39, 40, 41] (by decide +kernel) (by decide +kernel)
set_option maxRecDepth 20000 in
theorem gX4_dateOf_X0_dateFor : GoodIn wsX4_dateOf (wsV RX4 105 RX0 yX0_dateFor wsX0_dateFor) := goodIn_app (goodIn_of _ (by decide +kernel)) ggX4_dateOf_X0_dateFor
theorem dX4_dateOf_0 : decode cX4_dateOf 0 = .ok (.aload_n 0, 1) := by decide +kernel
theorem dX4_dateOf_1 : decode cX4_dateOf 1 = .ok (.iload_n 1, 1) := by decide +kernel
theorem dX4_dateOf_2 : decode cX4_dateOf 2 = .ok (.invokevirtual 68, 3) := by decide +kernel
theorem dX4_dateOf_5 : decode cX4_dateOf 5 = .ok (.astore_n 3, 1) := by decide +kernel
theorem dX4_dateOf_6 : decode cX4_dateOf 6 = .ok (.iload_n 2, 1) := by decide +kernel
theorem dX4_dateOf_7 : decode cX4_dateOf 7 = .ok (.invokestatic 72, 3) := by decide +kernel
theorem dX4_dateOf_10 : decode cX4_dateOf 10 = .ok (.invokestatic 76, 3) := by decide +kernel
theorem dX4_dateOf_13 : decode cX4_dateOf 13 = .ok (.aload_n 3, 1) := by decide +kernel
theorem dX4_dateOf_14 : decode cX4_dateOf 14 = .ok (.iload_n 2, 1) := by decide +kernel
theorem dX4_dateOf_15 : decode cX4_dateOf 15 = .ok (.invokevirtual 105, 3) := by decide +kernel
theorem dX4_dateOf_18 : decode cX4_dateOf 18 = .ok (.ireturn, 1) := by decide +kernel
set_option maxRecDepth 20000 in
theorem ggX4_hash_X4_isItem : GoodIn wsX4_hash wsX4_isItem := goodIn_r _ [4, 5] (by decide +kernel) (by decide +kernel)
set_option maxRecDepth 20000 in
theorem gX4_hash_X4_isItem : GoodIn wsX4_hash (va_wsS RX4 72 yX4_isItem wsX4_isItem) := goodIn_app (goodIn_of _ (by decide +kernel)) ggX4_hash_X4_isItem
set_option maxRecDepth 20000 in
theorem ggX4_hash_X4_refuseUnless : GoodIn wsX4_hash wsX4_refuseUnless := goodIn_ca (goodIn_r _ [8, 9, 10] (by decide +kernel) (by decide +kernel)) (goodIn_sub (fun _ h => List.mem_cons_of_mem _ (List.mem_append_right _ h)) (by decide +kernel))
set_option maxRecDepth 20000 in
theorem gX4_hash_X4_refuseUnless : GoodIn wsX4_hash (va_wsS RX4 76 yX4_refuseUnless wsX4_refuseUnless) := goodIn_app (goodIn_of _ (by decide +kernel)) ggX4_hash_X4_refuseUnless
set_option maxRecDepth 20000 in
theorem ggX4_hash_X4_hashFor : GoodIn wsX4_hash wsX4_hashFor := goodIn_r _ [13, 14, 15, 16, 17] (by decide +kernel) (by decide +kernel)
set_option maxRecDepth 20000 in
theorem gX4_hash_X4_hashFor : GoodIn wsX4_hash (va_wsS RX4 109 yX4_hashFor wsX4_hashFor) := goodIn_app (goodIn_of _ (by decide +kernel)) ggX4_hash_X4_hashFor
theorem dX4_hash_0 : decode cX4_hash 0 = .ok (.iload_n 1, 1) := by decide +kernel
theorem dX4_hash_1 : decode cX4_hash 1 = .ok (.invokestatic 72, 3) := by decide +kernel
theorem dX4_hash_4 : decode cX4_hash 4 = .ok (.invokestatic 76, 3) := by decide +kernel
theorem dX4_hash_7 : decode cX4_hash 7 = .ok (.iload_n 1, 1) := by decide +kernel
theorem dX4_hash_8 : decode cX4_hash 8 = .ok (.invokestatic 109, 3) := by decide +kernel
theorem dX4_hash_11 : decode cX4_hash 11 = .ok (.ireturn, 1) := by decide +kernel
theorem dX4_most_0 : decode cX4_most 0 = .ok (.aload_n 0, 1) := by decide +kernel
theorem dX4_most_1 : decode cX4_most 1 = .ok (.getfield 18, 3) := by decide +kernel
theorem dX4_most_4 : decode cX4_most 4 = .ok (.ireturn, 1) := by decide +kernel
set_option maxRecDepth 20000 in
theorem ggX4_kept_X4_need : GoodIn wsX4_kept wsX4_need := goodIn_ca (goodIn_r _ [7, 8, 9, 10, 39, 40, 41, 42, 43, 44, 45, 46, 47, 48] (by decide +kernel) (by decide +kernel)) (goodIn_sub (fun _ h => List.mem_cons_of_mem _ (List.mem_append_right _ h)) (by decide +kernel))
set_option maxRecDepth 20000 in
theorem gX4_kept_X4_need : GoodIn wsX4_kept (wsV RX4 68 RX4 yX4_need wsX4_need) := goodIn_app (goodIn_of _ (by decide +kernel)) ggX4_kept_X4_need
set_option maxRecDepth 20000 in
theorem ggX4_kept_X1_keepThoseOf : GoodIn wsX4_kept wsX1_keepThoseOf := goodIn_r _ [15, 16, 17, 18, 19, 20, 14, 21, 22, 23, 6, 24, 25, 26, 27, 28, 29, 30, 31, 32, 33, 34, 35, 36, 37, 38, 52, 53, 54, 49, 50, 51] (by decide +kernel) (by decide +kernel)
set_option maxRecDepth 20000 in
theorem gX4_kept_X1_keepThoseOf : GoodIn wsX4_kept (wsV RX4 112 RX1 yX1_keepThoseOf wsX1_keepThoseOf) := goodIn_app (goodIn_of _ (by decide +kernel)) ggX4_kept_X1_keepThoseOf
theorem dX4_kept_0 : decode cX4_kept 0 = .ok (.aload_n 0, 1) := by decide +kernel
theorem dX4_kept_1 : decode cX4_kept 1 = .ok (.getfield 48, 3) := by decide +kernel
theorem dX4_kept_4 : decode cX4_kept 4 = .ok (.aload_n 0, 1) := by decide +kernel
theorem dX4_kept_5 : decode cX4_kept 5 = .ok (.iload_n 1, 1) := by decide +kernel
theorem dX4_kept_6 : decode cX4_kept 6 = .ok (.invokevirtual 68, 3) := by decide +kernel
theorem dX4_kept_9 : decode cX4_kept 9 = .ok (.invokevirtual 112, 3) := by decide +kernel
theorem dX4_kept_12 : decode cX4_kept 12 = .ok (.aload_n 0, 1) := by decide +kernel
theorem dX4_kept_13 : decode cX4_kept 13 = .ok (.getfield 48, 3) := by decide +kernel
theorem dX4_kept_16 : decode cX4_kept 16 = .ok (.getfield 116, 3) := by decide +kernel
theorem dX4_kept_19 : decode cX4_kept 19 = .ok (.ireturn, 1) := by decide +kernel
set_option maxRecDepth 20000 in
theorem ggX4_keptAt_X4_need : GoodIn wsX4_keptAt wsX4_need := goodIn_ca (goodIn_r _ [10, 1, 2, 11, 41, 42, 43, 44, 45, 46, 47, 48, 49, 50] (by decide +kernel) (by decide +kernel)) (goodIn_sub (fun _ h => List.mem_cons_of_mem _ (List.mem_append_right _ h)) (by decide +kernel))
set_option maxRecDepth 20000 in
theorem gX4_keptAt_X4_need : GoodIn wsX4_keptAt (wsV RX4 68 RX4 yX4_need wsX4_need) := goodIn_app (goodIn_of _ (by decide +kernel)) ggX4_keptAt_X4_need
set_option maxRecDepth 20000 in
theorem ggX4_keptAt_X1_keepThoseOf : GoodIn wsX4_keptAt wsX1_keepThoseOf := goodIn_r _ [16, 17, 18, 19, 20, 21, 15, 22, 23, 24, 9, 25, 26, 27, 28, 29, 30, 31, 32, 33, 34, 35, 36, 37, 38, 39, 54, 55, 56, 51, 52, 53] (by decide +kernel) (by decide +kernel)
set_option maxRecDepth 20000 in
theorem gX4_keptAt_X1_keepThoseOf : GoodIn wsX4_keptAt (wsV RX4 112 RX1 yX1_keepThoseOf wsX1_keepThoseOf) := goodIn_app (goodIn_of _ (by decide +kernel)) ggX4_keptAt_X1_keepThoseOf
set_option maxRecDepth 20000 in
theorem ggX4_keptAt_X4_at : GoodIn wsX4_keptAt wsX4_at := goodIn_r _ [25] (by decide +kernel) (by decide +kernel)
set_option maxRecDepth 20000 in
theorem gX4_keptAt_X4_at : GoodIn wsX4_keptAt (va_wsS RX4 127 yX4_at wsX4_at) := goodIn_app (goodIn_of _ (by decide +kernel)) ggX4_keptAt_X4_at
theorem dX4_keptAt_0 : decode cX4_keptAt 0 = .ok (.aload_n 0, 1) := by decide +kernel
theorem dX4_keptAt_1 : decode cX4_keptAt 1 = .ok (.getfield 48, 3) := by decide +kernel
theorem dX4_keptAt_4 : decode cX4_keptAt 4 = .ok (.aload_n 0, 1) := by decide +kernel
theorem dX4_keptAt_5 : decode cX4_keptAt 5 = .ok (.iload_n 1, 1) := by decide +kernel
theorem dX4_keptAt_6 : decode cX4_keptAt 6 = .ok (.invokevirtual 68, 3) := by decide +kernel
theorem dX4_keptAt_9 : decode cX4_keptAt 9 = .ok (.invokevirtual 112, 3) := by decide +kernel
theorem dX4_keptAt_12 : decode cX4_keptAt 12 = .ok (.iload_n 2, 1) := by decide +kernel
theorem dX4_keptAt_13 : decode cX4_keptAt 13 = .ok (.ifCond .lt 14, 3) := by decide +kernel
theorem dX4_keptAt_16 : decode cX4_keptAt 16 = .ok (.iload_n 2, 1) := by decide +kernel
theorem dX4_keptAt_17 : decode cX4_keptAt 17 = .ok (.aload_n 0, 1) := by decide +kernel
theorem dX4_keptAt_18 : decode cX4_keptAt 18 = .ok (.getfield 48, 3) := by decide +kernel
theorem dX4_keptAt_21 : decode cX4_keptAt 21 = .ok (.getfield 116, 3) := by decide +kernel
theorem dX4_keptAt_24 : decode cX4_keptAt 24 = .ok (.if_icmp .lt 13, 3) := by decide +kernel
theorem dX4_keptAt_27 : decode cX4_keptAt 27 = .ok (.new 117, 3) := by decide +kernel
theorem dX4_keptAt_30 : decode cX4_keptAt 30 = .ok (.dup, 1) := by decide +kernel
theorem dX4_keptAt_31 : decode cX4_keptAt 31 = .ok (.ldc 119, 2) := by decide +kernel
theorem dX4_keptAt_33 : decode cX4_keptAt 33 = .ok (.invokespecial 121, 3) := by decide +kernel
theorem dX4_keptAt_36 : decode cX4_keptAt 36 = .ok (.athrow, 1) := by decide +kernel
theorem dX4_keptAt_37 : decode cX4_keptAt 37 = .ok (.aload_n 0, 1) := by decide +kernel
theorem dX4_keptAt_38 : decode cX4_keptAt 38 = .ok (.getfield 48, 3) := by decide +kernel
theorem dX4_keptAt_41 : decode cX4_keptAt 41 = .ok (.getfield 124, 3) := by decide +kernel
theorem dX4_keptAt_44 : decode cX4_keptAt 44 = .ok (.iload_n 2, 1) := by decide +kernel
theorem dX4_keptAt_45 : decode cX4_keptAt 45 = .ok (.invokestatic 127, 3) := by decide +kernel
theorem dX4_keptAt_48 : decode cX4_keptAt 48 = .ok (.ireturn, 1) := by decide +kernel
set_option maxRecDepth 20000 in
theorem ggX4_byLeast_X4_need : GoodIn wsX4_byLeast wsX4_need := goodIn_ca (goodIn_r _ [6, 7, 8, 9, 43, 44, 45, 46, 47, 48, 49, 50, 51, 52] (by decide +kernel) (by decide +kernel)) (goodIn_sub (fun _ h => List.mem_cons_of_mem _ (List.mem_append_right _ h)) (by decide +kernel))
set_option maxRecDepth 20000 in
theorem gX4_byLeast_X4_need : GoodIn wsX4_byLeast (wsV RX4 68 RX4 yX4_need wsX4_need) := goodIn_app (goodIn_of _ (by decide +kernel)) ggX4_byLeast_X4_need
set_option maxRecDepth 20000 in
theorem ggX4_byLeast_X1_keepThoseOf : GoodIn wsX4_byLeast wsX1_keepThoseOf := goodIn_r _ [14, 15, 16, 17, 18, 19, 13, 20, 21, 22, 5, 23, 24, 25, 26, 27, 28, 29, 30, 31, 32, 33, 34, 35, 36, 37, 53, 54, 55, 56, 57, 58] (by decide +kernel) (by decide +kernel)
set_option maxRecDepth 20000 in
theorem gX4_byLeast_X1_keepThoseOf : GoodIn wsX4_byLeast (wsV RX4 112 RX1 yX1_keepThoseOf wsX1_keepThoseOf) := goodIn_app (goodIn_of _ (by decide +kernel)) ggX4_byLeast_X1_keepThoseOf
set_option maxRecDepth 20000 in
theorem ggX4_byLeast_X1_estimate : GoodIn wsX4_byLeast wsX1_estimate := goodIn_r _ [41, 35, 21, 34, 42, 22, 5, 23, 56, 57, 58] (by decide +kernel) (by decide +kernel)
set_option maxRecDepth 20000 in
theorem gX4_byLeast_X1_estimate : GoodIn wsX4_byLeast (wsV RX4 130 RX1 yX1_estimate wsX1_estimate) := goodIn_app (goodIn_of _ (by decide +kernel)) ggX4_byLeast_X1_estimate
theorem dX4_byLeast_0 : decode cX4_byLeast 0 = .ok (.aload_n 0, 1) := by decide +kernel
theorem dX4_byLeast_1 : decode cX4_byLeast 1 = .ok (.getfield 48, 3) := by decide +kernel
theorem dX4_byLeast_4 : decode cX4_byLeast 4 = .ok (.aload_n 0, 1) := by decide +kernel
theorem dX4_byLeast_5 : decode cX4_byLeast 5 = .ok (.iload_n 1, 1) := by decide +kernel
theorem dX4_byLeast_6 : decode cX4_byLeast 6 = .ok (.invokevirtual 68, 3) := by decide +kernel
theorem dX4_byLeast_9 : decode cX4_byLeast 9 = .ok (.invokevirtual 112, 3) := by decide +kernel
theorem dX4_byLeast_12 : decode cX4_byLeast 12 = .ok (.aload_n 0, 1) := by decide +kernel
theorem dX4_byLeast_13 : decode cX4_byLeast 13 = .ok (.getfield 48, 3) := by decide +kernel
theorem dX4_byLeast_16 : decode cX4_byLeast 16 = .ok (.invokevirtual 130, 3) := by decide +kernel
theorem dX4_byLeast_19 : decode cX4_byLeast 19 = .ok (.ireturn, 1) := by decide +kernel
set_option maxRecDepth 20000 in
theorem ggX4_together_X4_need : GoodIn wsX4_together wsX4_need := goodIn_ca (goodIn_r _ [6, 7, 8, 9, 54, 55, 56, 57, 58, 59, 60, 61, 62, 63] (by decide +kernel) (by decide +kernel)) (goodIn_sub (fun _ h => List.mem_cons_of_mem _ (List.mem_append_right _ h)) (by decide +kernel))
set_option maxRecDepth 20000 in
theorem gX4_together_X4_need : GoodIn wsX4_together (wsV RX4 68 RX4 yX4_need wsX4_need) := goodIn_app (goodIn_of _ (by decide +kernel)) ggX4_together_X4_need
set_option maxRecDepth 20000 in
theorem ggX4_together_X4_keepLeastOf : GoodIn wsX4_together wsX4_keepLeastOf := goodIn_r _ [13, 14, 15, 1, 16, 17, 18, 19, 20, 21, 22, 23, 24, 25, 26, 27, 28, 5, 29, 30, 31, 32, 33, 34, 35, 36, 37, 38, 39, 40, 41, 42, 43, 44, 45, 46, 47, 48, 54, 55, 56, 57, 58, 59, 60, 61, 62, 63, 64, 65, 66, 67, 68, 69] (by decide +kernel) (by decide +kernel)
set_option maxRecDepth 20000 in
theorem gX4_together_X4_keepLeastOf : GoodIn wsX4_together (wsV RX4 133 RX4 yX4_keepLeastOf wsX4_keepLeastOf) := goodIn_app (goodIn_of _ (by decide +kernel)) ggX4_together_X4_keepLeastOf
set_option maxRecDepth 20000 in
theorem ggX4_together_X1_estimate : GoodIn wsX4_together wsX1_estimate := goodIn_r _ [52, 41, 27, 40, 53, 28, 5, 29, 67, 68, 69] (by decide +kernel) (by decide +kernel)
set_option maxRecDepth 20000 in
theorem gX4_together_X1_estimate : GoodIn wsX4_together (wsV RX4 130 RX1 yX1_estimate wsX1_estimate) := goodIn_app (goodIn_of _ (by decide +kernel)) ggX4_together_X1_estimate
theorem dX4_together_0 : decode cX4_together 0 = .ok (.aload_n 0, 1) := by decide +kernel
theorem dX4_together_1 : decode cX4_together 1 = .ok (.aload_n 0, 1) := by decide +kernel
theorem dX4_together_2 : decode cX4_together 2 = .ok (.iload_n 1, 1) := by decide +kernel
theorem dX4_together_3 : decode cX4_together 3 = .ok (.invokevirtual 68, 3) := by decide +kernel
theorem dX4_together_6 : decode cX4_together 6 = .ok (.aload_n 0, 1) := by decide +kernel
theorem dX4_together_7 : decode cX4_together 7 = .ok (.iload_n 2, 1) := by decide +kernel
theorem dX4_together_8 : decode cX4_together 8 = .ok (.invokevirtual 68, 3) := by decide +kernel
theorem dX4_together_11 : decode cX4_together 11 = .ok (.invokevirtual 133, 3) := by decide +kernel
theorem dX4_together_14 : decode cX4_together 14 = .ok (.aload_n 0, 1) := by decide +kernel
theorem dX4_together_15 : decode cX4_together 15 = .ok (.getfield 55, 3) := by decide +kernel
theorem dX4_together_18 : decode cX4_together 18 = .ok (.invokevirtual 130, 3) := by decide +kernel
theorem dX4_together_21 : decode cX4_together 21 = .ok (.ireturn, 1) := by decide +kernel
set_option maxRecDepth 20000 in
theorem ggX4_common_X4_need : GoodIn wsX4_common wsX4_need := goodIn_ca (goodIn_r _ [10, 11, 12, 13, 65, 66, 67, 68, 69, 70, 71, 72, 73, 74] (by decide +kernel) (by decide +kernel)) (goodIn_sub (fun _ h => List.mem_cons_of_mem _ (List.mem_append_right _ h)) (by decide +kernel))
set_option maxRecDepth 20000 in
theorem gX4_common_X4_need : GoodIn wsX4_common (wsV RX4 68 RX4 yX4_need wsX4_need) := goodIn_app (goodIn_of _ (by decide +kernel)) ggX4_common_X4_need
set_option maxRecDepth 20000 in
theorem ggX4_common_X4_keepLeastOf : GoodIn wsX4_common wsX4_keepLeastOf := goodIn_r _ [17, 4, 5, 1, 18, 19, 20, 21, 22, 23, 24, 25, 26, 27, 28, 29, 30, 9, 31, 32, 33, 34, 35, 36, 37, 38, 39, 40, 41, 42, 43, 44, 45, 46, 47, 48, 49, 50, 65, 66, 67, 68, 69, 70, 71, 72, 73, 74, 78, 79, 80, 75, 76, 77] (by decide +kernel) (by decide +kernel)
set_option maxRecDepth 20000 in
theorem gX4_common_X4_keepLeastOf : GoodIn wsX4_common (wsV RX4 133 RX4 yX4_keepLeastOf wsX4_keepLeastOf) := goodIn_app (goodIn_of _ (by decide +kernel)) ggX4_common_X4_keepLeastOf
set_option maxRecDepth 20000 in
theorem ggX4_common_X4_at : GoodIn wsX4_common wsX4_at := goodIn_r _ [31] (by decide +kernel) (by decide +kernel)
set_option maxRecDepth 20000 in
theorem gX4_common_X4_at : GoodIn wsX4_common (va_wsS RX4 127 yX4_at wsX4_at) := goodIn_app (goodIn_of _ (by decide +kernel)) ggX4_common_X4_at
set_option maxRecDepth 20000 in
theorem ggX4_common_X1_has : GoodIn wsX4_common wsX1_has := goodIn_r _ [55, 29, 43, 30, 9, 31, 75, 76, 77] (by decide +kernel) (by decide +kernel)
set_option maxRecDepth 20000 in
theorem gX4_common_X1_has : GoodIn wsX4_common (wsV RX4 137 RX1 yX1_has wsX1_has) := goodIn_app (goodIn_of _ (by decide +kernel)) ggX4_common_X1_has
set_option maxRecDepth 20000 in
theorem ggX4_common_X1_estimateOfPart : GoodIn wsX4_common wsX1_estimateOfPart := goodIn_r _ [59, 29, 60, 61, 62, 21, 63, 43, 42, 64, 30, 9, 31, 75, 76, 77] (by decide +kernel) (by decide +kernel)
set_option maxRecDepth 20000 in
theorem gX4_common_X1_estimateOfPart : GoodIn wsX4_common (wsV RX4 140 RX1 yX1_estimateOfPart wsX1_estimateOfPart) := goodIn_app (goodIn_of _ (by decide +kernel)) ggX4_common_X1_estimateOfPart
theorem dX4_common_0 : decode cX4_common 0 = .ok (.aload_n 0, 1) := by decide +kernel
theorem dX4_common_1 : decode cX4_common 1 = .ok (.aload_n 0, 1) := by decide +kernel
theorem dX4_common_2 : decode cX4_common 2 = .ok (.iload_n 1, 1) := by decide +kernel
theorem dX4_common_3 : decode cX4_common 3 = .ok (.invokevirtual 68, 3) := by decide +kernel
theorem dX4_common_6 : decode cX4_common 6 = .ok (.aload_n 0, 1) := by decide +kernel
theorem dX4_common_7 : decode cX4_common 7 = .ok (.iload_n 2, 1) := by decide +kernel
theorem dX4_common_8 : decode cX4_common 8 = .ok (.invokevirtual 68, 3) := by decide +kernel
theorem dX4_common_11 : decode cX4_common 11 = .ok (.invokevirtual 133, 3) := by decide +kernel
theorem dX4_common_14 : decode cX4_common 14 = .ok (.iconst 0, 1) := by decide +kernel
theorem dX4_common_15 : decode cX4_common 15 = .ok (.istore_n 3, 1) := by decide +kernel
theorem dX4_common_16 : decode cX4_common 16 = .ok (.iconst 0, 1) := by decide +kernel
theorem dX4_common_17 : decode cX4_common 17 = .ok (.istore 4, 2) := by decide +kernel
theorem dX4_common_19 : decode cX4_common 19 = .ok (.iload 4, 2) := by decide +kernel
theorem dX4_common_21 : decode cX4_common 21 = .ok (.aload_n 0, 1) := by decide +kernel
theorem dX4_common_22 : decode cX4_common 22 = .ok (.getfield 55, 3) := by decide +kernel
theorem dX4_common_25 : decode cX4_common 25 = .ok (.getfield 116, 3) := by decide +kernel
theorem dX4_common_28 : decode cX4_common 28 = .ok (.if_icmp .ge 50, 3) := by decide +kernel
theorem dX4_common_31 : decode cX4_common 31 = .ok (.aload_n 0, 1) := by decide +kernel
theorem dX4_common_32 : decode cX4_common 32 = .ok (.getfield 55, 3) := by decide +kernel
theorem dX4_common_35 : decode cX4_common 35 = .ok (.getfield 124, 3) := by decide +kernel
theorem dX4_common_38 : decode cX4_common 38 = .ok (.iload 4, 2) := by decide +kernel
theorem dX4_common_40 : decode cX4_common 40 = .ok (.invokestatic 127, 3) := by decide +kernel
theorem dX4_common_43 : decode cX4_common 43 = .ok (.istore 5, 2) := by decide +kernel
theorem dX4_common_45 : decode cX4_common 45 = .ok (.aload_n 0, 1) := by decide +kernel
theorem dX4_common_46 : decode cX4_common 46 = .ok (.getfield 48, 3) := by decide +kernel
theorem dX4_common_49 : decode cX4_common 49 = .ok (.iload 5, 2) := by decide +kernel
theorem dX4_common_51 : decode cX4_common 51 = .ok (.invokevirtual 137, 3) := by decide +kernel
theorem dX4_common_54 : decode cX4_common 54 = .ok (.ifCond .eq 18, 3) := by decide +kernel
theorem dX4_common_57 : decode cX4_common 57 = .ok (.aload_n 0, 1) := by decide +kernel
theorem dX4_common_58 : decode cX4_common 58 = .ok (.getfield 52, 3) := by decide +kernel
theorem dX4_common_61 : decode cX4_common 61 = .ok (.iload 5, 2) := by decide +kernel
theorem dX4_common_63 : decode cX4_common 63 = .ok (.invokevirtual 137, 3) := by decide +kernel
theorem dX4_common_66 : decode cX4_common 66 = .ok (.ifCond .eq 6, 3) := by decide +kernel
theorem dX4_common_69 : decode cX4_common 69 = .ok (.iinc 3 1, 3) := by decide +kernel
theorem dX4_common_72 : decode cX4_common 72 = .ok (.iinc 4 1, 3) := by decide +kernel
theorem dX4_common_75 : decode cX4_common 75 = .ok (.goto (-56), 3) := by decide +kernel
theorem dX4_common_78 : decode cX4_common 78 = .ok (.aload_n 0, 1) := by decide +kernel
theorem dX4_common_79 : decode cX4_common 79 = .ok (.getfield 55, 3) := by decide +kernel
theorem dX4_common_82 : decode cX4_common 82 = .ok (.iload_n 3, 1) := by decide +kernel
theorem dX4_common_83 : decode cX4_common 83 = .ok (.invokevirtual 140, 3) := by decide +kernel
theorem dX4_common_86 : decode cX4_common 86 = .ok (.ireturn, 1) := by decide +kernel
set_option maxRecDepth 20000 in
theorem ggX4_without_X4_need : GoodIn wsX4_without wsX4_need := goodIn_ca (goodIn_r _ [9, 10, 11, 12, 65, 66, 67, 68, 69, 70, 71, 72, 73, 74] (by decide +kernel) (by decide +kernel)) (goodIn_sub (fun _ h => List.mem_cons_of_mem _ (List.mem_append_right _ h)) (by decide +kernel))
set_option maxRecDepth 20000 in
theorem gX4_without_X4_need : GoodIn wsX4_without (wsV RX4 68 RX4 yX4_need wsX4_need) := goodIn_app (goodIn_of _ (by decide +kernel)) ggX4_without_X4_need
set_option maxRecDepth 20000 in
theorem ggX4_without_X4_keepLeastOf : GoodIn wsX4_without wsX4_keepLeastOf := goodIn_r _ [16, 17, 3, 1, 18, 19, 20, 21, 22, 23, 24, 25, 26, 27, 28, 29, 30, 8, 31, 32, 33, 34, 35, 36, 37, 38, 39, 40, 41, 42, 43, 44, 45, 46, 47, 48, 49, 50, 65, 66, 67, 68, 69, 70, 71, 72, 73, 74, 78, 79, 80, 75, 76, 77] (by decide +kernel) (by decide +kernel)
set_option maxRecDepth 20000 in
theorem gX4_without_X4_keepLeastOf : GoodIn wsX4_without (wsV RX4 133 RX4 yX4_keepLeastOf wsX4_keepLeastOf) := goodIn_app (goodIn_of _ (by decide +kernel)) ggX4_without_X4_keepLeastOf
set_option maxRecDepth 20000 in
theorem ggX4_without_X4_at : GoodIn wsX4_without wsX4_at := goodIn_r _ [31] (by decide +kernel) (by decide +kernel)
set_option maxRecDepth 20000 in
theorem gX4_without_X4_at : GoodIn wsX4_without (va_wsS RX4 127 yX4_at wsX4_at) := goodIn_app (goodIn_of _ (by decide +kernel)) ggX4_without_X4_at
set_option maxRecDepth 20000 in
theorem ggX4_without_X1_has : GoodIn wsX4_without wsX1_has := goodIn_r _ [55, 29, 43, 30, 8, 31, 75, 76, 77] (by decide +kernel) (by decide +kernel)
set_option maxRecDepth 20000 in
theorem gX4_without_X1_has : GoodIn wsX4_without (wsV RX4 137 RX1 yX1_has wsX1_has) := goodIn_app (goodIn_of _ (by decide +kernel)) ggX4_without_X1_has
set_option maxRecDepth 20000 in
theorem ggX4_without_X1_estimateOfPart : GoodIn wsX4_without wsX1_estimateOfPart := goodIn_r _ [59, 29, 60, 61, 62, 21, 63, 43, 42, 64, 30, 8, 31, 75, 76, 77] (by decide +kernel) (by decide +kernel)
set_option maxRecDepth 20000 in
theorem gX4_without_X1_estimateOfPart : GoodIn wsX4_without (wsV RX4 140 RX1 yX1_estimateOfPart wsX1_estimateOfPart) := goodIn_app (goodIn_of _ (by decide +kernel)) ggX4_without_X1_estimateOfPart
theorem dX4_without_0 : decode cX4_without 0 = .ok (.aload_n 0, 1) := by decide +kernel
theorem dX4_without_1 : decode cX4_without 1 = .ok (.aload_n 0, 1) := by decide +kernel
theorem dX4_without_2 : decode cX4_without 2 = .ok (.iload_n 1, 1) := by decide +kernel
theorem dX4_without_3 : decode cX4_without 3 = .ok (.invokevirtual 68, 3) := by decide +kernel
theorem dX4_without_6 : decode cX4_without 6 = .ok (.aload_n 0, 1) := by decide +kernel
theorem dX4_without_7 : decode cX4_without 7 = .ok (.iload_n 2, 1) := by decide +kernel
theorem dX4_without_8 : decode cX4_without 8 = .ok (.invokevirtual 68, 3) := by decide +kernel
theorem dX4_without_11 : decode cX4_without 11 = .ok (.invokevirtual 133, 3) := by decide +kernel
theorem dX4_without_14 : decode cX4_without 14 = .ok (.iconst 0, 1) := by decide +kernel
theorem dX4_without_15 : decode cX4_without 15 = .ok (.istore_n 3, 1) := by decide +kernel
theorem dX4_without_16 : decode cX4_without 16 = .ok (.iconst 0, 1) := by decide +kernel
theorem dX4_without_17 : decode cX4_without 17 = .ok (.istore 4, 2) := by decide +kernel
theorem dX4_without_19 : decode cX4_without 19 = .ok (.iload 4, 2) := by decide +kernel
theorem dX4_without_21 : decode cX4_without 21 = .ok (.aload_n 0, 1) := by decide +kernel
theorem dX4_without_22 : decode cX4_without 22 = .ok (.getfield 55, 3) := by decide +kernel
theorem dX4_without_25 : decode cX4_without 25 = .ok (.getfield 116, 3) := by decide +kernel
theorem dX4_without_28 : decode cX4_without 28 = .ok (.if_icmp .ge 34, 3) := by decide +kernel
theorem dX4_without_31 : decode cX4_without 31 = .ok (.aload_n 0, 1) := by decide +kernel
theorem dX4_without_32 : decode cX4_without 32 = .ok (.getfield 52, 3) := by decide +kernel
theorem dX4_without_35 : decode cX4_without 35 = .ok (.aload_n 0, 1) := by decide +kernel
theorem dX4_without_36 : decode cX4_without 36 = .ok (.getfield 55, 3) := by decide +kernel
theorem dX4_without_39 : decode cX4_without 39 = .ok (.getfield 124, 3) := by decide +kernel
theorem dX4_without_42 : decode cX4_without 42 = .ok (.iload 4, 2) := by decide +kernel
theorem dX4_without_44 : decode cX4_without 44 = .ok (.invokestatic 127, 3) := by decide +kernel
theorem dX4_without_47 : decode cX4_without 47 = .ok (.invokevirtual 137, 3) := by decide +kernel
theorem dX4_without_50 : decode cX4_without 50 = .ok (.ifCond .ne 6, 3) := by decide +kernel
theorem dX4_without_53 : decode cX4_without 53 = .ok (.iinc 3 1, 3) := by decide +kernel
theorem dX4_without_56 : decode cX4_without 56 = .ok (.iinc 4 1, 3) := by decide +kernel
theorem dX4_without_59 : decode cX4_without 59 = .ok (.goto (-40), 3) := by decide +kernel
theorem dX4_without_62 : decode cX4_without 62 = .ok (.aload_n 0, 1) := by decide +kernel
theorem dX4_without_63 : decode cX4_without 63 = .ok (.getfield 55, 3) := by decide +kernel
theorem dX4_without_66 : decode cX4_without 66 = .ok (.iload_n 3, 1) := by decide +kernel
theorem dX4_without_67 : decode cX4_without 67 = .ok (.invokevirtual 140, 3) := by decide +kernel
theorem dX4_without_70 : decode cX4_without 70 = .ok (.ireturn, 1) := by decide +kernel
set_option maxRecDepth 20000 in
theorem ggX4_register_X4_need : GoodIn wsX4_register wsX4_need := goodIn_ca (goodIn_r _ [9, 1, 2, 10, 41, 42, 43, 44, 45, 46, 47, 48, 49, 50] (by decide +kernel) (by decide +kernel)) (goodIn_sub (fun _ h => List.mem_cons_of_mem _ (List.mem_append_right _ h)) (by decide +kernel))
set_option maxRecDepth 20000 in
theorem gX4_register_X4_need : GoodIn wsX4_register (wsV RX4 68 RX4 yX4_need wsX4_need) := goodIn_app (goodIn_of _ (by decide +kernel)) ggX4_register_X4_need
set_option maxRecDepth 20000 in
theorem ggX4_register_X2_rankAllOf : GoodIn wsX4_register wsX2_rankAllOf := goodIn_r _ [15, 16, 17, 18, 14, 19, 20, 21, 22, 23, 24, 8, 25, 26, 27, 28, 29, 30, 31, 32, 33, 34, 35, 36, 37, 38, 39, 51, 52, 53, 54] (by decide +kernel) (by decide +kernel)
set_option maxRecDepth 20000 in
theorem gX4_register_X2_rankAllOf : GoodIn wsX4_register (wsV RX4 145 RX2 yX2_rankAllOf wsX2_rankAllOf) := goodIn_app (goodIn_of _ (by decide +kernel)) ggX4_register_X2_rankAllOf
set_option maxRecDepth 20000 in
theorem ggX4_register_X4_at : GoodIn wsX4_register wsX4_at := goodIn_r _ [27] (by decide +kernel) (by decide +kernel)
set_option maxRecDepth 20000 in
theorem gX4_register_X4_at : GoodIn wsX4_register (va_wsS RX4 127 yX4_at wsX4_at) := goodIn_app (goodIn_of _ (by decide +kernel)) ggX4_register_X4_at
theorem dX4_register_0 : decode cX4_register 0 = .ok (.aload_n 0, 1) := by decide +kernel
theorem dX4_register_1 : decode cX4_register 1 = .ok (.iload_n 1, 1) := by decide +kernel
theorem dX4_register_2 : decode cX4_register 2 = .ok (.invokevirtual 68, 3) := by decide +kernel
theorem dX4_register_5 : decode cX4_register 5 = .ok (.astore_n 3, 1) := by decide +kernel
theorem dX4_register_6 : decode cX4_register 6 = .ok (.iload_n 2, 1) := by decide +kernel
theorem dX4_register_7 : decode cX4_register 7 = .ok (.ifCond .lt 9, 3) := by decide +kernel
theorem dX4_register_10 : decode cX4_register 10 = .ok (.iload_n 2, 1) := by decide +kernel
theorem dX4_register_11 : decode cX4_register 11 = .ok (.bipush 16, 2) := by decide +kernel
theorem dX4_register_13 : decode cX4_register 13 = .ok (.if_icmp .lt 13, 3) := by decide +kernel
theorem dX4_register_16 : decode cX4_register 16 = .ok (.new 117, 3) := by decide +kernel
theorem dX4_register_19 : decode cX4_register 19 = .ok (.dup, 1) := by decide +kernel
theorem dX4_register_20 : decode cX4_register 20 = .ok (.ldc 143, 2) := by decide +kernel
theorem dX4_register_22 : decode cX4_register 22 = .ok (.invokespecial 121, 3) := by decide +kernel
theorem dX4_register_25 : decode cX4_register 25 = .ok (.athrow, 1) := by decide +kernel
theorem dX4_register_26 : decode cX4_register 26 = .ok (.aload_n 0, 1) := by decide +kernel
theorem dX4_register_27 : decode cX4_register 27 = .ok (.getfield 32, 3) := by decide +kernel
theorem dX4_register_30 : decode cX4_register 30 = .ok (.aload_n 3, 1) := by decide +kernel
theorem dX4_register_31 : decode cX4_register 31 = .ok (.invokevirtual 145, 3) := by decide +kernel
theorem dX4_register_34 : decode cX4_register 34 = .ok (.aload_n 0, 1) := by decide +kernel
theorem dX4_register_35 : decode cX4_register 35 = .ok (.getfield 32, 3) := by decide +kernel
theorem dX4_register_38 : decode cX4_register 38 = .ok (.getfield 148, 3) := by decide +kernel
theorem dX4_register_41 : decode cX4_register 41 = .ok (.iload_n 2, 1) := by decide +kernel
theorem dX4_register_42 : decode cX4_register 42 = .ok (.invokestatic 127, 3) := by decide +kernel
theorem dX4_register_45 : decode cX4_register 45 = .ok (.ireturn, 1) := by decide +kernel
set_option maxRecDepth 20000 in
theorem ggX4_byRegisters_X4_need : GoodIn wsX4_byRegisters wsX4_need := goodIn_ca (goodIn_r _ [6, 7, 8, 9, 47, 48, 49, 50, 51, 52, 53, 54, 55, 56] (by decide +kernel) (by decide +kernel)) (goodIn_sub (fun _ h => List.mem_cons_of_mem _ (List.mem_append_right _ h)) (by decide +kernel))
set_option maxRecDepth 20000 in
theorem gX4_byRegisters_X4_need : GoodIn wsX4_byRegisters (wsV RX4 68 RX4 yX4_need wsX4_need) := goodIn_app (goodIn_of _ (by decide +kernel)) ggX4_byRegisters_X4_need
set_option maxRecDepth 20000 in
theorem ggX4_byRegisters_X2_rankAllOf : GoodIn wsX4_byRegisters wsX2_rankAllOf := goodIn_r _ [14, 15, 16, 17, 13, 18, 19, 20, 21, 22, 23, 5, 24, 25, 26, 27, 28, 29, 30, 31, 32, 33, 34, 35, 36, 37, 38, 57, 58, 59, 60] (by decide +kernel) (by decide +kernel)
set_option maxRecDepth 20000 in
theorem gX4_byRegisters_X2_rankAllOf : GoodIn wsX4_byRegisters (wsV RX4 145 RX2 yX2_rankAllOf wsX2_rankAllOf) := goodIn_app (goodIn_of _ (by decide +kernel)) ggX4_byRegisters_X2_rankAllOf
set_option maxRecDepth 20000 in
theorem ggX4_byRegisters_X2_estimate : GoodIn wsX4_byRegisters wsX2_estimate := goodIn_r _ [42, 19, 43, 44, 45, 46, 25, 5, 26, 57] (by decide +kernel) (by decide +kernel)
set_option maxRecDepth 20000 in
theorem gX4_byRegisters_X2_estimate : GoodIn wsX4_byRegisters (wsV RX4 151 RX2 yX2_estimate wsX2_estimate) := goodIn_app (goodIn_of _ (by decide +kernel)) ggX4_byRegisters_X2_estimate
theorem dX4_byRegisters_0 : decode cX4_byRegisters 0 = .ok (.aload_n 0, 1) := by decide +kernel
theorem dX4_byRegisters_1 : decode cX4_byRegisters 1 = .ok (.getfield 32, 3) := by decide +kernel
theorem dX4_byRegisters_4 : decode cX4_byRegisters 4 = .ok (.aload_n 0, 1) := by decide +kernel
theorem dX4_byRegisters_5 : decode cX4_byRegisters 5 = .ok (.iload_n 1, 1) := by decide +kernel
theorem dX4_byRegisters_6 : decode cX4_byRegisters 6 = .ok (.invokevirtual 68, 3) := by decide +kernel
theorem dX4_byRegisters_9 : decode cX4_byRegisters 9 = .ok (.invokevirtual 145, 3) := by decide +kernel
theorem dX4_byRegisters_12 : decode cX4_byRegisters 12 = .ok (.aload_n 0, 1) := by decide +kernel
theorem dX4_byRegisters_13 : decode cX4_byRegisters 13 = .ok (.getfield 32, 3) := by decide +kernel
theorem dX4_byRegisters_16 : decode cX4_byRegisters 16 = .ok (.invokevirtual 151, 3) := by decide +kernel
theorem dX4_byRegisters_19 : decode cX4_byRegisters 19 = .ok (.lreturn, 1) := by decide +kernel
set_option maxRecDepth 20000 in
theorem ggX4_recent_X4_need : GoodIn wsX4_recent wsX4_need := goodIn_ca (goodIn_r _ [8, 9, 10, 11, 50, 51, 52, 53, 54, 55, 56, 57, 58, 59] (by decide +kernel) (by decide +kernel)) (goodIn_sub (fun _ h => List.mem_cons_of_mem _ (List.mem_append_left _ (List.mem_append_right _ h))) (by decide +kernel))
set_option maxRecDepth 20000 in
theorem gX4_recent_X4_need : GoodIn wsX4_recent (wsV RX4 68 RX4 yX4_need wsX4_need) := goodIn_app (goodIn_of _ (by decide +kernel)) ggX4_recent_X4_need
set_option maxRecDepth 20000 in
theorem ggX4_recent_X4_refuseUnless : GoodIn wsX4_recent wsX4_refuseUnless := goodIn_ca (goodIn_r _ [14, 15, 16] (by decide +kernel) (by decide +kernel)) (goodIn_sub (fun _ h => List.mem_cons_of_mem _ (List.mem_append_right _ h)) (by decide +kernel))
set_option maxRecDepth 20000 in
theorem gX4_recent_X4_refuseUnless : GoodIn wsX4_recent (va_wsS RX4 76 yX4_refuseUnless wsX4_refuseUnless) := goodIn_app (goodIn_of _ (by decide +kernel)) ggX4_recent_X4_refuseUnless
set_option maxRecDepth 20000 in
theorem ggX4_recent_X2_rankThoseAbove : GoodIn wsX4_recent wsX2_rankThoseAbove := goodIn_r _ [21, 22, 23, 24, 25, 26, 7, 27, 28, 29, 30, 31, 32, 33, 34, 35, 36, 37, 38, 20, 39, 40, 41, 60, 61, 62, 63] (by decide +kernel) (by decide +kernel)
set_option maxRecDepth 20000 in
theorem gX4_recent_X2_rankThoseAbove : GoodIn wsX4_recent (wsV RX4 155 RX2 yX2_rankThoseAbove wsX2_rankThoseAbove) := goodIn_app (goodIn_of _ (by decide +kernel)) ggX4_recent_X2_rankThoseAbove
set_option maxRecDepth 20000 in
theorem ggX4_recent_X2_estimate : GoodIn wsX4_recent wsX2_estimate := goodIn_r _ [45, 22, 46, 47, 48, 49, 28, 7, 29, 60] (by decide +kernel) (by decide +kernel)
set_option maxRecDepth 20000 in
theorem gX4_recent_X2_estimate : GoodIn wsX4_recent (wsV RX4 151 RX2 yX2_estimate wsX2_estimate) := goodIn_app (goodIn_of _ (by decide +kernel)) ggX4_recent_X2_estimate
theorem dX4_recent_0 : decode cX4_recent 0 = .ok (.aload_n 0, 1) := by decide +kernel
theorem dX4_recent_1 : decode cX4_recent 1 = .ok (.iload_n 1, 1) := by decide +kernel
theorem dX4_recent_2 : decode cX4_recent 2 = .ok (.invokevirtual 68, 3) := by decide +kernel
theorem dX4_recent_5 : decode cX4_recent 5 = .ok (.astore_n 3, 1) := by decide +kernel
theorem dX4_recent_6 : decode cX4_recent 6 = .ok (.iload_n 2, 1) := by decide +kernel
theorem dX4_recent_7 : decode cX4_recent 7 = .ok (.iconst 1, 1) := by decide +kernel
theorem dX4_recent_8 : decode cX4_recent 8 = .ok (.if_icmp .lt 13, 3) := by decide +kernel
theorem dX4_recent_11 : decode cX4_recent 11 = .ok (.iload_n 2, 1) := by decide +kernel
theorem dX4_recent_12 : decode cX4_recent 12 = .ok (.ldc 154, 2) := by decide +kernel
theorem dX4_recent_14 : decode cX4_recent 14 = .ok (.if_icmp .gt 7, 3) := by decide +kernel
theorem dX4_recent_17 : decode cX4_recent 17 = .ok (.iconst 1, 1) := by decide +kernel
theorem dX4_recent_18 : decode cX4_recent 18 = .ok (.goto 4, 3) := by decide +kernel
theorem dX4_recent_21 : decode cX4_recent 21 = .ok (.iconst 0, 1) := by decide +kernel
theorem dX4_recent_22 : decode cX4_recent 22 = .ok (.invokestatic 76, 3) := by decide +kernel
theorem dX4_recent_25 : decode cX4_recent 25 = .ok (.aload_n 0, 1) := by decide +kernel
theorem dX4_recent_26 : decode cX4_recent 26 = .ok (.getfield 32, 3) := by decide +kernel
theorem dX4_recent_29 : decode cX4_recent 29 = .ok (.aload_n 0, 1) := by decide +kernel
theorem dX4_recent_30 : decode cX4_recent 30 = .ok (.getfield 65, 3) := by decide +kernel
theorem dX4_recent_33 : decode cX4_recent 33 = .ok (.iload_n 2, 1) := by decide +kernel
theorem dX4_recent_34 : decode cX4_recent 34 = .ok (.isub, 1) := by decide +kernel
theorem dX4_recent_35 : decode cX4_recent 35 = .ok (.aload_n 3, 1) := by decide +kernel
theorem dX4_recent_36 : decode cX4_recent 36 = .ok (.invokevirtual 155, 3) := by decide +kernel
theorem dX4_recent_39 : decode cX4_recent 39 = .ok (.aload_n 0, 1) := by decide +kernel
theorem dX4_recent_40 : decode cX4_recent 40 = .ok (.getfield 32, 3) := by decide +kernel
theorem dX4_recent_43 : decode cX4_recent 43 = .ok (.invokevirtual 151, 3) := by decide +kernel
theorem dX4_recent_46 : decode cX4_recent 46 = .ok (.lreturn, 1) := by decide +kernel
set_option maxRecDepth 20000 in
theorem ggX4_level_X4_need : GoodIn wsX4_level wsX4_need := goodIn_ca (goodIn_r _ [7, 8, 9, 10, 45, 46, 47, 48, 49, 50, 51, 52, 53, 54] (by decide +kernel) (by decide +kernel)) (goodIn_sub (fun _ h => List.mem_cons_of_mem _ (List.mem_append_right _ h)) (by decide +kernel))
set_option maxRecDepth 20000 in
theorem gX4_level_X4_need : GoodIn wsX4_level (wsV RX4 68 RX4 yX4_need wsX4_need) := goodIn_app (goodIn_of _ (by decide +kernel)) ggX4_level_X4_need
set_option maxRecDepth 20000 in
theorem ggX4_level_X3_thin : GoodIn wsX4_level wsX3_thin := goodIn_r _ [15, 16, 17, 18, 19, 20, 14, 21, 22, 23, 24, 6, 25, 26, 27, 28, 29, 30, 31, 32, 33, 34, 35, 36, 37, 38, 39, 40, 41, 42, 43, 44, 58, 59, 60, 55, 56, 57] (by decide +kernel) (by decide +kernel)
set_option maxRecDepth 20000 in
theorem gX4_level_X3_thin : GoodIn wsX4_level (wsV RX4 159 RX3 yX3_thin wsX3_thin) := goodIn_app (goodIn_of _ (by decide +kernel)) ggX4_level_X3_thin
theorem dX4_level_0 : decode cX4_level 0 = .ok (.aload_n 0, 1) := by decide +kernel
theorem dX4_level_1 : decode cX4_level 1 = .ok (.getfield 39, 3) := by decide +kernel
theorem dX4_level_4 : decode cX4_level 4 = .ok (.aload_n 0, 1) := by decide +kernel
theorem dX4_level_5 : decode cX4_level 5 = .ok (.iload_n 1, 1) := by decide +kernel
theorem dX4_level_6 : decode cX4_level 6 = .ok (.invokevirtual 68, 3) := by decide +kernel
theorem dX4_level_9 : decode cX4_level 9 = .ok (.invokevirtual 159, 3) := by decide +kernel
theorem dX4_level_12 : decode cX4_level 12 = .ok (.aload_n 0, 1) := by decide +kernel
theorem dX4_level_13 : decode cX4_level 13 = .ok (.getfield 39, 3) := by decide +kernel
theorem dX4_level_16 : decode cX4_level 16 = .ok (.getfield 162, 3) := by decide +kernel
theorem dX4_level_19 : decode cX4_level 19 = .ok (.ireturn, 1) := by decide +kernel
set_option maxRecDepth 20000 in
theorem ggX4_sampled_X4_need : GoodIn wsX4_sampled wsX4_need := goodIn_ca (goodIn_r _ [7, 8, 9, 10, 45, 46, 47, 48, 49, 50, 51, 52, 53, 54] (by decide +kernel) (by decide +kernel)) (goodIn_sub (fun _ h => List.mem_cons_of_mem _ (List.mem_append_right _ h)) (by decide +kernel))
set_option maxRecDepth 20000 in
theorem gX4_sampled_X4_need : GoodIn wsX4_sampled (wsV RX4 68 RX4 yX4_need wsX4_need) := goodIn_app (goodIn_of _ (by decide +kernel)) ggX4_sampled_X4_need
set_option maxRecDepth 20000 in
theorem ggX4_sampled_X3_thin : GoodIn wsX4_sampled wsX3_thin := goodIn_r _ [15, 16, 17, 18, 19, 20, 14, 21, 22, 23, 24, 6, 25, 26, 27, 28, 29, 30, 31, 32, 33, 34, 35, 36, 37, 38, 39, 40, 41, 42, 43, 44, 58, 59, 60, 55, 56, 57] (by decide +kernel) (by decide +kernel)
set_option maxRecDepth 20000 in
theorem gX4_sampled_X3_thin : GoodIn wsX4_sampled (wsV RX4 159 RX3 yX3_thin wsX3_thin) := goodIn_app (goodIn_of _ (by decide +kernel)) ggX4_sampled_X3_thin
theorem dX4_sampled_0 : decode cX4_sampled 0 = .ok (.aload_n 0, 1) := by decide +kernel
theorem dX4_sampled_1 : decode cX4_sampled 1 = .ok (.getfield 39, 3) := by decide +kernel
theorem dX4_sampled_4 : decode cX4_sampled 4 = .ok (.aload_n 0, 1) := by decide +kernel
theorem dX4_sampled_5 : decode cX4_sampled 5 = .ok (.iload_n 1, 1) := by decide +kernel
theorem dX4_sampled_6 : decode cX4_sampled 6 = .ok (.invokevirtual 68, 3) := by decide +kernel
theorem dX4_sampled_9 : decode cX4_sampled 9 = .ok (.invokevirtual 159, 3) := by decide +kernel
theorem dX4_sampled_12 : decode cX4_sampled 12 = .ok (.aload_n 0, 1) := by decide +kernel
theorem dX4_sampled_13 : decode cX4_sampled 13 = .ok (.getfield 39, 3) := by decide +kernel
theorem dX4_sampled_16 : decode cX4_sampled 16 = .ok (.getfield 165, 3) := by decide +kernel
theorem dX4_sampled_19 : decode cX4_sampled 19 = .ok (.ireturn, 1) := by decide +kernel
set_option maxRecDepth 20000 in
theorem ggX4_sampledAt_X4_need : GoodIn wsX4_sampledAt wsX4_need := goodIn_ca (goodIn_r _ [9, 1, 2, 10, 49, 50, 51, 52, 53, 54, 55, 56, 57, 58] (by decide +kernel) (by decide +kernel)) (goodIn_sub (fun _ h => List.mem_cons_of_mem _ (List.mem_append_right _ h)) (by decide +kernel))
set_option maxRecDepth 20000 in
theorem gX4_sampledAt_X4_need : GoodIn wsX4_sampledAt (wsV RX4 68 RX4 yX4_need wsX4_need) := goodIn_app (goodIn_of _ (by decide +kernel)) ggX4_sampledAt_X4_need
set_option maxRecDepth 20000 in
theorem ggX4_sampledAt_X3_thin : GoodIn wsX4_sampledAt wsX3_thin := goodIn_r _ [15, 16, 17, 18, 19, 20, 14, 21, 22, 23, 24, 8, 25, 26, 27, 28, 29, 30, 31, 32, 33, 34, 35, 36, 37, 38, 39, 40, 41, 42, 43, 44, 62, 63, 64, 59, 60, 61] (by decide +kernel) (by decide +kernel)
set_option maxRecDepth 20000 in
theorem gX4_sampledAt_X3_thin : GoodIn wsX4_sampledAt (wsV RX4 159 RX3 yX3_thin wsX3_thin) := goodIn_app (goodIn_of _ (by decide +kernel)) ggX4_sampledAt_X3_thin
set_option maxRecDepth 20000 in
theorem ggX4_sampledAt_X3_itemAt : GoodIn wsX4_sampledAt wsX3_itemAt := goodIn_r _ [48, 16, 17, 44, 26, 8, 27, 28, 29, 30, 31, 32, 33, 38, 39, 62, 63, 64, 59, 60, 61] (by decide +kernel) (by decide +kernel)
set_option maxRecDepth 20000 in
theorem gX4_sampledAt_X3_itemAt : GoodIn wsX4_sampledAt (wsV RX4 168 RX3 yX3_itemAt wsX3_itemAt) := goodIn_app (goodIn_of _ (by decide +kernel)) ggX4_sampledAt_X3_itemAt
theorem dX4_sampledAt_0 : decode cX4_sampledAt 0 = .ok (.aload_n 0, 1) := by decide +kernel
theorem dX4_sampledAt_1 : decode cX4_sampledAt 1 = .ok (.iload_n 1, 1) := by decide +kernel
theorem dX4_sampledAt_2 : decode cX4_sampledAt 2 = .ok (.invokevirtual 68, 3) := by decide +kernel
theorem dX4_sampledAt_5 : decode cX4_sampledAt 5 = .ok (.astore_n 3, 1) := by decide +kernel
theorem dX4_sampledAt_6 : decode cX4_sampledAt 6 = .ok (.aload_n 0, 1) := by decide +kernel
theorem dX4_sampledAt_7 : decode cX4_sampledAt 7 = .ok (.getfield 39, 3) := by decide +kernel
theorem dX4_sampledAt_10 : decode cX4_sampledAt 10 = .ok (.aload_n 3, 1) := by decide +kernel
theorem dX4_sampledAt_11 : decode cX4_sampledAt 11 = .ok (.invokevirtual 159, 3) := by decide +kernel
theorem dX4_sampledAt_14 : decode cX4_sampledAt 14 = .ok (.iload_n 2, 1) := by decide +kernel
theorem dX4_sampledAt_15 : decode cX4_sampledAt 15 = .ok (.ifCond .lt 14, 3) := by decide +kernel
theorem dX4_sampledAt_18 : decode cX4_sampledAt 18 = .ok (.iload_n 2, 1) := by decide +kernel
theorem dX4_sampledAt_19 : decode cX4_sampledAt 19 = .ok (.aload_n 0, 1) := by decide +kernel
theorem dX4_sampledAt_20 : decode cX4_sampledAt 20 = .ok (.getfield 39, 3) := by decide +kernel
theorem dX4_sampledAt_23 : decode cX4_sampledAt 23 = .ok (.getfield 165, 3) := by decide +kernel
theorem dX4_sampledAt_26 : decode cX4_sampledAt 26 = .ok (.if_icmp .lt 13, 3) := by decide +kernel
theorem dX4_sampledAt_29 : decode cX4_sampledAt 29 = .ok (.new 117, 3) := by decide +kernel
theorem dX4_sampledAt_32 : decode cX4_sampledAt 32 = .ok (.dup, 1) := by decide +kernel
theorem dX4_sampledAt_33 : decode cX4_sampledAt 33 = .ok (.ldc 166, 2) := by decide +kernel
theorem dX4_sampledAt_35 : decode cX4_sampledAt 35 = .ok (.invokespecial 121, 3) := by decide +kernel
theorem dX4_sampledAt_38 : decode cX4_sampledAt 38 = .ok (.athrow, 1) := by decide +kernel
theorem dX4_sampledAt_39 : decode cX4_sampledAt 39 = .ok (.aload_n 0, 1) := by decide +kernel
theorem dX4_sampledAt_40 : decode cX4_sampledAt 40 = .ok (.getfield 39, 3) := by decide +kernel
theorem dX4_sampledAt_43 : decode cX4_sampledAt 43 = .ok (.aload_n 3, 1) := by decide +kernel
theorem dX4_sampledAt_44 : decode cX4_sampledAt 44 = .ok (.iload_n 2, 1) := by decide +kernel
theorem dX4_sampledAt_45 : decode cX4_sampledAt 45 = .ok (.invokevirtual 168, 3) := by decide +kernel
theorem dX4_sampledAt_48 : decode cX4_sampledAt 48 = .ok (.ireturn, 1) := by decide +kernel
set_option maxRecDepth 20000 in
theorem ggX4_bySample_X4_need : GoodIn wsX4_bySample wsX4_need := goodIn_ca (goodIn_r _ [8, 9, 10, 11, 46, 47, 48, 49, 50, 51, 52, 53, 54, 55] (by decide +kernel) (by decide +kernel)) (goodIn_sub (fun _ h => List.mem_cons_of_mem _ (List.mem_append_right _ h)) (by decide +kernel))
set_option maxRecDepth 20000 in
theorem gX4_bySample_X4_need : GoodIn wsX4_bySample (wsV RX4 68 RX4 yX4_need wsX4_need) := goodIn_app (goodIn_of _ (by decide +kernel)) ggX4_bySample_X4_need
set_option maxRecDepth 20000 in
theorem ggX4_bySample_X3_thin : GoodIn wsX4_bySample wsX3_thin := goodIn_r _ [16, 17, 18, 19, 20, 21, 15, 22, 23, 24, 25, 7, 26, 27, 28, 29, 30, 31, 32, 33, 34, 35, 36, 37, 38, 39, 40, 41, 42, 43, 44, 45, 59, 60, 61, 56, 57, 58] (by decide +kernel) (by decide +kernel)
set_option maxRecDepth 20000 in
theorem gX4_bySample_X3_thin : GoodIn wsX4_bySample (wsV RX4 159 RX3 yX3_thin wsX3_thin) := goodIn_app (goodIn_of _ (by decide +kernel)) ggX4_bySample_X3_thin
theorem dX4_bySample_0 : decode cX4_bySample 0 = .ok (.aload_n 0, 1) := by decide +kernel
theorem dX4_bySample_1 : decode cX4_bySample 1 = .ok (.getfield 39, 3) := by decide +kernel
theorem dX4_bySample_4 : decode cX4_bySample 4 = .ok (.aload_n 0, 1) := by decide +kernel
theorem dX4_bySample_5 : decode cX4_bySample 5 = .ok (.iload_n 1, 1) := by decide +kernel
theorem dX4_bySample_6 : decode cX4_bySample 6 = .ok (.invokevirtual 68, 3) := by decide +kernel
theorem dX4_bySample_9 : decode cX4_bySample 9 = .ok (.invokevirtual 159, 3) := by decide +kernel
theorem dX4_bySample_12 : decode cX4_bySample 12 = .ok (.aload_n 0, 1) := by decide +kernel
theorem dX4_bySample_13 : decode cX4_bySample 13 = .ok (.getfield 39, 3) := by decide +kernel
theorem dX4_bySample_16 : decode cX4_bySample 16 = .ok (.getfield 165, 3) := by decide +kernel
theorem dX4_bySample_19 : decode cX4_bySample 19 = .ok (.aload_n 0, 1) := by decide +kernel
theorem dX4_bySample_20 : decode cX4_bySample 20 = .ok (.getfield 39, 3) := by decide +kernel
theorem dX4_bySample_23 : decode cX4_bySample 23 = .ok (.getfield 162, 3) := by decide +kernel
theorem dX4_bySample_26 : decode cX4_bySample 26 = .ok (.ishl, 1) := by decide +kernel
theorem dX4_bySample_27 : decode cX4_bySample 27 = .ok (.ireturn, 1) := by decide +kernel
theorem dX4_need_0 : decode cX4_need 0 = .ok (.iload_n 1, 1) := by decide +kernel
theorem dX4_need_1 : decode cX4_need 1 = .ok (.ifCond .lt 21, 3) := by decide +kernel
theorem dX4_need_4 : decode cX4_need 4 = .ok (.iload_n 1, 1) := by decide +kernel
theorem dX4_need_5 : decode cX4_need 5 = .ok (.aload_n 0, 1) := by decide +kernel
theorem dX4_need_6 : decode cX4_need 6 = .ok (.getfield 24, 3) := by decide +kernel
theorem dX4_need_9 : decode cX4_need 9 = .ok (.arraylength, 1) := by decide +kernel
theorem dX4_need_10 : decode cX4_need 10 = .ok (.if_icmp .ge 12, 3) := by decide +kernel
theorem dX4_need_13 : decode cX4_need 13 = .ok (.aload_n 0, 1) := by decide +kernel
theorem dX4_need_14 : decode cX4_need 14 = .ok (.getfield 24, 3) := by decide +kernel
theorem dX4_need_17 : decode cX4_need 17 = .ok (.iload_n 1, 1) := by decide +kernel
theorem dX4_need_18 : decode cX4_need 18 = .ok (.aaload, 1) := by decide +kernel
theorem dX4_need_19 : decode cX4_need 19 = .ok (.goto 4, 3) := by decide +kernel
theorem dX4_need_22 : decode cX4_need 22 = .ok (.aconst_null, 1) := by decide +kernel
theorem dX4_need_23 : decode cX4_need 23 = .ok (.astore_n 2, 1) := by decide +kernel
theorem dX4_need_24 : decode cX4_need 24 = .ok (.aload_n 2, 1) := by decide +kernel
theorem dX4_need_25 : decode cX4_need 25 = .ok (.ifnonnull 13, 3) := by decide +kernel
theorem dX4_need_28 : decode cX4_need 28 = .ok (.new 117, 3) := by decide +kernel
theorem dX4_need_31 : decode cX4_need 31 = .ok (.dup, 1) := by decide +kernel
theorem dX4_need_32 : decode cX4_need 32 = .ok (.ldc 172, 2) := by decide +kernel
theorem dX4_need_34 : decode cX4_need 34 = .ok (.invokespecial 121, 3) := by decide +kernel
theorem dX4_need_37 : decode cX4_need 37 = .ok (.athrow, 1) := by decide +kernel
theorem dX4_need_38 : decode cX4_need 38 = .ok (.aload_n 2, 1) := by decide +kernel
theorem dX4_need_39 : decode cX4_need 39 = .ok (.areturn, 1) := by decide +kernel
theorem dX4_refuseUnless_0 : decode cX4_refuseUnless 0 = .ok (.iload_n 0, 1) := by decide +kernel
theorem dX4_refuseUnless_1 : decode cX4_refuseUnless 1 = .ok (.ifCond .ne 13, 3) := by decide +kernel
theorem dX4_refuseUnless_4 : decode cX4_refuseUnless 4 = .ok (.new 174, 3) := by decide +kernel
theorem dX4_refuseUnless_7 : decode cX4_refuseUnless 7 = .ok (.dup, 1) := by decide +kernel
theorem dX4_refuseUnless_8 : decode cX4_refuseUnless 8 = .ok (.ldc 176, 2) := by decide +kernel
theorem dX4_refuseUnless_10 : decode cX4_refuseUnless 10 = .ok (.invokespecial 178, 3) := by decide +kernel
theorem dX4_refuseUnless_13 : decode cX4_refuseUnless 13 = .ok (.athrow, 1) := by decide +kernel
theorem dX4_refuseUnless_14 : decode cX4_refuseUnless 14 = .ok (.return_, 1) := by decide +kernel
theorem dX4_isItem_0 : decode cX4_isItem 0 = .ok (.iload_n 0, 1) := by decide +kernel
theorem dX4_isItem_1 : decode cX4_isItem 1 = .ok (.ifCond .lt 13, 3) := by decide +kernel
theorem dX4_isItem_4 : decode cX4_isItem 4 = .ok (.iload_n 0, 1) := by decide +kernel
theorem dX4_isItem_5 : decode cX4_isItem 5 = .ok (.ldc 154, 2) := by decide +kernel
theorem dX4_isItem_7 : decode cX4_isItem 7 = .ok (.if_icmp .ge 7, 3) := by decide +kernel
theorem dX4_isItem_10 : decode cX4_isItem 10 = .ok (.iconst 1, 1) := by decide +kernel
theorem dX4_isItem_11 : decode cX4_isItem 11 = .ok (.goto 4, 3) := by decide +kernel
theorem dX4_isItem_14 : decode cX4_isItem 14 = .ok (.iconst 0, 1) := by decide +kernel
theorem dX4_isItem_15 : decode cX4_isItem 15 = .ok (.ireturn, 1) := by decide +kernel
set_option maxRecDepth 20000 in
theorem ggX4_takeLine_X4_put : GoodIn wsX4_takeLine wsX4_put := goodIn_r _ [7] (by decide +kernel) (by decide +kernel)
set_option maxRecDepth 20000 in
theorem gX4_takeLine_X4_put : GoodIn wsX4_takeLine (va_wsS RX4 179 yX4_put wsX4_put) := goodIn_app (goodIn_of _ (by decide +kernel)) ggX4_takeLine_X4_put
set_option maxRecDepth 20000 in
theorem ggX4_takeLine_X0_take : GoodIn wsX4_takeLine wsX0_take := goodIn_r _ [12, 13, 14, 15, 16, 17, 18, 19, 20, 21, 22, 11, 23, 24, 6, 25, 26, 27, 28, 29, 30, 31, 32, 33, 34, 35, 36, 37, 38, 39, 40, 41, 42, 43, 44, 45, 46, 47, 48, 49, 5, 7, 60, 61, 62] (by decide +kernel) (by decide +kernel)
set_option maxRecDepth 20000 in
theorem gX4_takeLine_X0_take : GoodIn wsX4_takeLine (wsV RX4 97 RX0 yX0_take wsX0_take) := goodIn_app (goodIn_of _ (by decide +kernel)) ggX4_takeLine_X0_take
theorem dX4_takeLine_0 : decode cX4_takeLine 0 = .ok (.iconst 0, 1) := by decide +kernel
theorem dX4_takeLine_1 : decode cX4_takeLine 1 = .ok (.istore 5, 2) := by decide +kernel
theorem dX4_takeLine_3 : decode cX4_takeLine 3 = .ok (.iload 5, 2) := by decide +kernel
theorem dX4_takeLine_5 : decode cX4_takeLine 5 = .ok (.iload 4, 2) := by decide +kernel
theorem dX4_takeLine_7 : decode cX4_takeLine 7 = .ok (.if_icmp .ge 37, 3) := by decide +kernel
theorem dX4_takeLine_10 : decode cX4_takeLine 10 = .ok (.aload_n 0, 1) := by decide +kernel
theorem dX4_takeLine_11 : decode cX4_takeLine 11 = .ok (.getfield 58, 3) := by decide +kernel
theorem dX4_takeLine_14 : decode cX4_takeLine 14 = .ok (.iload 5, 2) := by decide +kernel
theorem dX4_takeLine_16 : decode cX4_takeLine 16 = .ok (.iload_n 2, 1) := by decide +kernel
theorem dX4_takeLine_17 : decode cX4_takeLine 17 = .ok (.iload 5, 2) := by decide +kernel
theorem dX4_takeLine_19 : decode cX4_takeLine 19 = .ok (.iload_n 3, 1) := by decide +kernel
theorem dX4_takeLine_20 : decode cX4_takeLine 20 = .ok (.imul, 1) := by decide +kernel
theorem dX4_takeLine_21 : decode cX4_takeLine 21 = .ok (.iadd, 1) := by decide +kernel
theorem dX4_takeLine_22 : decode cX4_takeLine 22 = .ok (.invokestatic 179, 3) := by decide +kernel
theorem dX4_takeLine_25 : decode cX4_takeLine 25 = .ok (.aload_n 0, 1) := by decide +kernel
theorem dX4_takeLine_26 : decode cX4_takeLine 26 = .ok (.getfield 62, 3) := by decide +kernel
theorem dX4_takeLine_29 : decode cX4_takeLine 29 = .ok (.iload 5, 2) := by decide +kernel
theorem dX4_takeLine_31 : decode cX4_takeLine 31 = .ok (.aload_n 0, 1) := by decide +kernel
theorem dX4_takeLine_32 : decode cX4_takeLine 32 = .ok (.getfield 65, 3) := by decide +kernel
theorem dX4_takeLine_35 : decode cX4_takeLine 35 = .ok (.invokestatic 179, 3) := by decide +kernel
theorem dX4_takeLine_38 : decode cX4_takeLine 38 = .ok (.iinc 5 1, 3) := by decide +kernel
theorem dX4_takeLine_41 : decode cX4_takeLine 41 = .ok (.goto (-38), 3) := by decide +kernel
theorem dX4_takeLine_44 : decode cX4_takeLine 44 = .ok (.aload_n 1, 1) := by decide +kernel
theorem dX4_takeLine_45 : decode cX4_takeLine 45 = .ok (.aload_n 0, 1) := by decide +kernel
theorem dX4_takeLine_46 : decode cX4_takeLine 46 = .ok (.getfield 58, 3) := by decide +kernel
theorem dX4_takeLine_49 : decode cX4_takeLine 49 = .ok (.aload_n 0, 1) := by decide +kernel
theorem dX4_takeLine_50 : decode cX4_takeLine 50 = .ok (.getfield 62, 3) := by decide +kernel
theorem dX4_takeLine_53 : decode cX4_takeLine 53 = .ok (.iload 4, 2) := by decide +kernel
theorem dX4_takeLine_55 : decode cX4_takeLine 55 = .ok (.invokevirtual 97, 3) := by decide +kernel
theorem dX4_takeLine_58 : decode cX4_takeLine 58 = .ok (.ireturn, 1) := by decide +kernel
set_option maxRecDepth 20000 in
theorem ggX4_keepLeastOf_X1_keepThoseOf : GoodIn wsX4_keepLeastOf wsX1_keepThoseOf := goodIn_r _ [8, 9, 10, 11, 12, 13, 7, 14, 15, 16, 17, 18, 19, 20, 21, 22, 23, 24, 25, 26, 27, 28, 29, 30, 31, 32, 48, 49, 50, 51, 52, 53] (by decide +kernel) (by decide +kernel)
set_option maxRecDepth 20000 in
theorem gX4_keepLeastOf_X1_keepThoseOf : GoodIn wsX4_keepLeastOf (wsV RX4 112 RX1 yX1_keepThoseOf wsX1_keepThoseOf) := goodIn_app (goodIn_of _ (by decide +kernel)) ggX4_keepLeastOf_X1_keepThoseOf
set_option maxRecDepth 20000 in
theorem ggX4_keepLeastOf_X1_forget : GoodIn wsX4_keepLeastOf wsX1_forget := goodIn_r _ [14, 15, 51, 52, 53] (by decide +kernel) (by decide +kernel)
set_option maxRecDepth 20000 in
theorem gX4_keepLeastOf_X1_forget : GoodIn wsX4_keepLeastOf (wsV RX4 183 RX1 yX1_forget wsX1_forget) := goodIn_app (goodIn_of _ (by decide +kernel)) ggX4_keepLeastOf_X1_forget
set_option maxRecDepth 20000 in
theorem ggX4_keepLeastOf_X1_offerAllOf : GoodIn wsX4_keepLeastOf wsX1_offerAllOf := goodIn_r _ [37, 15, 30, 16, 17, 18, 25, 26, 27, 7, 28, 29, 31, 32, 51, 52, 53] (by decide +kernel) (by decide +kernel)
set_option maxRecDepth 20000 in
theorem gX4_keepLeastOf_X1_offerAllOf : GoodIn wsX4_keepLeastOf (wsV RX4 186 RX1 yX1_offerAllOf wsX1_offerAllOf) := goodIn_app (goodIn_of _ (by decide +kernel)) ggX4_keepLeastOf_X1_offerAllOf
theorem dX4_keepLeastOf_0 : decode cX4_keepLeastOf 0 = .ok (.aload_n 0, 1) := by decide +kernel
theorem dX4_keepLeastOf_1 : decode cX4_keepLeastOf 1 = .ok (.getfield 48, 3) := by decide +kernel
theorem dX4_keepLeastOf_4 : decode cX4_keepLeastOf 4 = .ok (.aload_n 1, 1) := by decide +kernel
theorem dX4_keepLeastOf_5 : decode cX4_keepLeastOf 5 = .ok (.invokevirtual 112, 3) := by decide +kernel
theorem dX4_keepLeastOf_8 : decode cX4_keepLeastOf 8 = .ok (.aload_n 0, 1) := by decide +kernel
theorem dX4_keepLeastOf_9 : decode cX4_keepLeastOf 9 = .ok (.getfield 52, 3) := by decide +kernel
theorem dX4_keepLeastOf_12 : decode cX4_keepLeastOf 12 = .ok (.aload_n 2, 1) := by decide +kernel
theorem dX4_keepLeastOf_13 : decode cX4_keepLeastOf 13 = .ok (.invokevirtual 112, 3) := by decide +kernel
theorem dX4_keepLeastOf_16 : decode cX4_keepLeastOf 16 = .ok (.aload_n 0, 1) := by decide +kernel
theorem dX4_keepLeastOf_17 : decode cX4_keepLeastOf 17 = .ok (.getfield 55, 3) := by decide +kernel
theorem dX4_keepLeastOf_20 : decode cX4_keepLeastOf 20 = .ok (.invokevirtual 183, 3) := by decide +kernel
theorem dX4_keepLeastOf_23 : decode cX4_keepLeastOf 23 = .ok (.aload_n 0, 1) := by decide +kernel
theorem dX4_keepLeastOf_24 : decode cX4_keepLeastOf 24 = .ok (.getfield 55, 3) := by decide +kernel
theorem dX4_keepLeastOf_27 : decode cX4_keepLeastOf 27 = .ok (.aload_n 0, 1) := by decide +kernel
theorem dX4_keepLeastOf_28 : decode cX4_keepLeastOf 28 = .ok (.getfield 48, 3) := by decide +kernel
theorem dX4_keepLeastOf_31 : decode cX4_keepLeastOf 31 = .ok (.invokevirtual 186, 3) := by decide +kernel
theorem dX4_keepLeastOf_34 : decode cX4_keepLeastOf 34 = .ok (.aload_n 0, 1) := by decide +kernel
theorem dX4_keepLeastOf_35 : decode cX4_keepLeastOf 35 = .ok (.getfield 55, 3) := by decide +kernel
theorem dX4_keepLeastOf_38 : decode cX4_keepLeastOf 38 = .ok (.aload_n 0, 1) := by decide +kernel
theorem dX4_keepLeastOf_39 : decode cX4_keepLeastOf 39 = .ok (.getfield 52, 3) := by decide +kernel
theorem dX4_keepLeastOf_42 : decode cX4_keepLeastOf 42 = .ok (.invokevirtual 186, 3) := by decide +kernel
theorem dX4_keepLeastOf_45 : decode cX4_keepLeastOf 45 = .ok (.return_, 1) := by decide +kernel
theorem dX4_hashFor_0 : decode cX4_hashFor 0 = .ok (.iload_n 0, 1) := by decide +kernel
theorem dX4_hashFor_1 : decode cX4_hashFor 1 = .ok (.i2l, 1) := by decide +kernel
theorem dX4_hashFor_2 : decode cX4_hashFor 2 = .ok (.lstore_n 1, 1) := by decide +kernel
theorem dX4_hashFor_3 : decode cX4_hashFor 3 = .ok (.ldc2_w 190, 3) := by decide +kernel
theorem dX4_hashFor_6 : decode cX4_hashFor 6 = .ok (.lload_n 1, 1) := by decide +kernel
theorem dX4_hashFor_7 : decode cX4_hashFor 7 = .ok (.lmul, 1) := by decide +kernel
theorem dX4_hashFor_8 : decode cX4_hashFor 8 = .ok (.lload_n 1, 1) := by decide +kernel
theorem dX4_hashFor_9 : decode cX4_hashFor 9 = .ok (.lmul, 1) := by decide +kernel
theorem dX4_hashFor_10 : decode cX4_hashFor 10 = .ok (.ldc2_w 192, 3) := by decide +kernel
theorem dX4_hashFor_13 : decode cX4_hashFor 13 = .ok (.lload_n 1, 1) := by decide +kernel
theorem dX4_hashFor_14 : decode cX4_hashFor 14 = .ok (.lmul, 1) := by decide +kernel
theorem dX4_hashFor_15 : decode cX4_hashFor 15 = .ok (.ladd, 1) := by decide +kernel
theorem dX4_hashFor_16 : decode cX4_hashFor 16 = .ok (.ldc2_w 194, 3) := by decide +kernel
theorem dX4_hashFor_19 : decode cX4_hashFor 19 = .ok (.ladd, 1) := by decide +kernel
theorem dX4_hashFor_20 : decode cX4_hashFor 20 = .ok (.ldc2_w 196, 3) := by decide +kernel
theorem dX4_hashFor_23 : decode cX4_hashFor 23 = .ok (.lrem, 1) := by decide +kernel
theorem dX4_hashFor_24 : decode cX4_hashFor 24 = .ok (.l2i, 1) := by decide +kernel
theorem dX4_hashFor_25 : decode cX4_hashFor 25 = .ok (.ireturn, 1) := by decide +kernel
theorem dX4_lowZeros_0 : decode cX4_lowZeros 0 = .ok (.iconst 0, 1) := by decide +kernel
theorem dX4_lowZeros_1 : decode cX4_lowZeros 1 = .ok (.istore_n 2, 1) := by decide +kernel
theorem dX4_lowZeros_2 : decode cX4_lowZeros 2 = .ok (.iload_n 2, 1) := by decide +kernel
theorem dX4_lowZeros_3 : decode cX4_lowZeros 3 = .ok (.iload_n 1, 1) := by decide +kernel
theorem dX4_lowZeros_4 : decode cX4_lowZeros 4 = .ok (.if_icmp .ge 20, 3) := by decide +kernel
theorem dX4_lowZeros_7 : decode cX4_lowZeros 7 = .ok (.iload_n 0, 1) := by decide +kernel
theorem dX4_lowZeros_8 : decode cX4_lowZeros 8 = .ok (.iload_n 2, 1) := by decide +kernel
theorem dX4_lowZeros_9 : decode cX4_lowZeros 9 = .ok (.ishr, 1) := by decide +kernel
theorem dX4_lowZeros_10 : decode cX4_lowZeros 10 = .ok (.iconst 1, 1) := by decide +kernel
theorem dX4_lowZeros_11 : decode cX4_lowZeros 11 = .ok (.iand, 1) := by decide +kernel
theorem dX4_lowZeros_12 : decode cX4_lowZeros 12 = .ok (.iconst 1, 1) := by decide +kernel
theorem dX4_lowZeros_13 : decode cX4_lowZeros 13 = .ok (.if_icmp .ne 5, 3) := by decide +kernel
theorem dX4_lowZeros_16 : decode cX4_lowZeros 16 = .ok (.iload_n 2, 1) := by decide +kernel
theorem dX4_lowZeros_17 : decode cX4_lowZeros 17 = .ok (.ireturn, 1) := by decide +kernel
theorem dX4_lowZeros_18 : decode cX4_lowZeros 18 = .ok (.iinc 2 1, 3) := by decide +kernel
theorem dX4_lowZeros_21 : decode cX4_lowZeros 21 = .ok (.goto (-19), 3) := by decide +kernel
theorem dX4_lowZeros_24 : decode cX4_lowZeros 24 = .ok (.iload_n 1, 1) := by decide +kernel
theorem dX4_lowZeros_25 : decode cX4_lowZeros 25 = .ok (.ireturn, 1) := by decide +kernel
theorem dX4_at_0 : decode cX4_at 0 = .ok (.aload_n 0, 1) := by decide +kernel
theorem dX4_at_1 : decode cX4_at 1 = .ok (.ifnull 19, 3) := by decide +kernel
theorem dX4_at_4 : decode cX4_at 4 = .ok (.iload_n 1, 1) := by decide +kernel
theorem dX4_at_5 : decode cX4_at 5 = .ok (.ifCond .lt 15, 3) := by decide +kernel
theorem dX4_at_8 : decode cX4_at 8 = .ok (.iload_n 1, 1) := by decide +kernel
theorem dX4_at_9 : decode cX4_at 9 = .ok (.aload_n 0, 1) := by decide +kernel
theorem dX4_at_10 : decode cX4_at 10 = .ok (.arraylength, 1) := by decide +kernel
theorem dX4_at_11 : decode cX4_at 11 = .ok (.if_icmp .ge 9, 3) := by decide +kernel
theorem dX4_at_14 : decode cX4_at 14 = .ok (.aload_n 0, 1) := by decide +kernel
theorem dX4_at_15 : decode cX4_at 15 = .ok (.iload_n 1, 1) := by decide +kernel
theorem dX4_at_16 : decode cX4_at 16 = .ok (.iaload, 1) := by decide +kernel
theorem dX4_at_17 : decode cX4_at 17 = .ok (.goto 4, 3) := by decide +kernel
theorem dX4_at_20 : decode cX4_at 20 = .ok (.iconst (-1), 1) := by decide +kernel
theorem dX4_at_21 : decode cX4_at 21 = .ok (.ireturn, 1) := by decide +kernel
theorem dX4_put_0 : decode cX4_put 0 = .ok (.aload_n 0, 1) := by decide +kernel
theorem dX4_put_1 : decode cX4_put 1 = .ok (.ifnull 17, 3) := by decide +kernel
theorem dX4_put_4 : decode cX4_put 4 = .ok (.iload_n 1, 1) := by decide +kernel
theorem dX4_put_5 : decode cX4_put 5 = .ok (.ifCond .lt 13, 3) := by decide +kernel
theorem dX4_put_8 : decode cX4_put 8 = .ok (.iload_n 1, 1) := by decide +kernel
theorem dX4_put_9 : decode cX4_put 9 = .ok (.aload_n 0, 1) := by decide +kernel
theorem dX4_put_10 : decode cX4_put 10 = .ok (.arraylength, 1) := by decide +kernel
theorem dX4_put_11 : decode cX4_put 11 = .ok (.if_icmp .ge 7, 3) := by decide +kernel
theorem dX4_put_14 : decode cX4_put 14 = .ok (.aload_n 0, 1) := by decide +kernel
theorem dX4_put_15 : decode cX4_put 15 = .ok (.iload_n 1, 1) := by decide +kernel
theorem dX4_put_16 : decode cX4_put 16 = .ok (.iload_n 2, 1) := by decide +kernel
theorem dX4_put_17 : decode cX4_put 17 = .ok (.iastore, 1) := by decide +kernel
theorem dX4_put_18 : decode cX4_put 18 = .ok (.return_, 1) := by decide +kernel
