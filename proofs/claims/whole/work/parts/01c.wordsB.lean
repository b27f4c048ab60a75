theorem dX5_init_0 : decode cX5_init 0 = .ok (.aload_n 0, 1) := by decide +kernel
theorem dX5_init_1 : decode cX5_init 1 = .ok (.invokespecial 1, 3) := by decide +kernel
theorem dX5_init_4 : decode cX5_init 4 = .ok (.aload_n 0, 1) := by decide +kernel
theorem dX5_init_5 : decode cX5_init 5 = .ok (.ldc 7, 2) := by decide +kernel
theorem dX5_init_7 : decode cX5_init 7 = .ok (.newarray .int, 2) := by decide +kernel
theorem dX5_init_9 : decode cX5_init 9 = .ok (.putfield 8, 3) := by decide +kernel
theorem dX5_init_12 : decode cX5_init 12 = .ok (.aload_n 0, 1) := by decide +kernel
theorem dX5_init_13 : decode cX5_init 13 = .ok (.ldc 14, 2) := by decide +kernel
theorem dX5_init_15 : decode cX5_init 15 = .ok (.newarray .int, 2) := by decide +kernel
theorem dX5_init_17 : decode cX5_init 17 = .ok (.putfield 15, 3) := by decide +kernel
theorem dX5_init_20 : decode cX5_init 20 = .ok (.aload_n 0, 1) := by decide +kernel
theorem dX5_init_21 : decode cX5_init 21 = .ok (.ldc 14, 2) := by decide +kernel
theorem dX5_init_23 : decode cX5_init 23 = .ok (.newarray .boolean, 2) := by decide +kernel
theorem dX5_init_25 : decode cX5_init 25 = .ok (.putfield 18, 3) := by decide +kernel
theorem dX5_init_28 : decode cX5_init 28 = .ok (.aload_n 0, 1) := by decide +kernel
theorem dX5_init_29 : decode cX5_init 29 = .ok (.bipush 32, 2) := by decide +kernel
theorem dX5_init_31 : decode cX5_init 31 = .ok (.newarray .int, 2) := by decide +kernel
theorem dX5_init_33 : decode cX5_init 33 = .ok (.putfield 22, 3) := by decide +kernel
theorem dX5_init_36 : decode cX5_init 36 = .ok (.aload_n 0, 1) := by decide +kernel
theorem dX5_init_37 : decode cX5_init 37 = .ok (.bipush 32, 2) := by decide +kernel
theorem dX5_init_39 : decode cX5_init 39 = .ok (.newarray .int, 2) := by decide +kernel
theorem dX5_init_41 : decode cX5_init 41 = .ok (.putfield 25, 3) := by decide +kernel
theorem dX5_init_44 : decode cX5_init 44 = .ok (.aload_n 0, 1) := by decide +kernel
theorem dX5_init_45 : decode cX5_init 45 = .ok (.bipush 32, 2) := by decide +kernel
theorem dX5_init_47 : decode cX5_init 47 = .ok (.newarray .int, 2) := by decide +kernel
theorem dX5_init_49 : decode cX5_init 49 = .ok (.putfield 28, 3) := by decide +kernel
theorem dX5_init_52 : decode cX5_init 52 = .ok (.aload_n 0, 1) := by decide +kernel
theorem dX5_init_53 : decode cX5_init 53 = .ok (.bipush 16, 2) := by decide +kernel
theorem dX5_init_55 : decode cX5_init 55 = .ok (.newarray .int, 2) := by decide +kernel
theorem dX5_init_57 : decode cX5_init 57 = .ok (.putfield 31, 3) := by decide +kernel
theorem dX5_init_60 : decode cX5_init 60 = .ok (.aload_n 0, 1) := by decide +kernel
theorem dX5_init_61 : decode cX5_init 61 = .ok (.bipush 17, 2) := by decide +kernel
theorem dX5_init_63 : decode cX5_init 63 = .ok (.newarray .int, 2) := by decide +kernel
theorem dX5_init_65 : decode cX5_init 65 = .ok (.dup, 1) := by decide +kernel
theorem dX5_init_66 : decode cX5_init 66 = .ok (.iconst 0, 1) := by decide +kernel
theorem dX5_init_67 : decode cX5_init 67 = .ok (.iconst 0, 1) := by decide +kernel
theorem dX5_init_68 : decode cX5_init 68 = .ok (.iastore, 1) := by decide +kernel
theorem dX5_init_69 : decode cX5_init 69 = .ok (.dup, 1) := by decide +kernel
theorem dX5_init_70 : decode cX5_init 70 = .ok (.iconst 1, 1) := by decide +kernel
theorem dX5_init_71 : decode cX5_init 71 = .ok (.ldc 34, 2) := by decide +kernel
theorem dX5_init_73 : decode cX5_init 73 = .ok (.iastore, 1) := by decide +kernel
theorem dX5_init_74 : decode cX5_init 74 = .ok (.dup, 1) := by decide +kernel
theorem dX5_init_75 : decode cX5_init 75 = .ok (.iconst 2, 1) := by decide +kernel
theorem dX5_init_76 : decode cX5_init 76 = .ok (.ldc 35, 2) := by decide +kernel
theorem dX5_init_78 : decode cX5_init 78 = .ok (.iastore, 1) := by decide +kernel
theorem dX5_init_79 : decode cX5_init 79 = .ok (.dup, 1) := by decide +kernel
theorem dX5_init_80 : decode cX5_init 80 = .ok (.iconst 3, 1) := by decide +kernel
theorem dX5_init_81 : decode cX5_init 81 = .ok (.sipush 26784, 3) := by decide +kernel
theorem dX5_init_84 : decode cX5_init 84 = .ok (.iastore, 1) := by decide +kernel
theorem dX5_init_85 : decode cX5_init 85 = .ok (.dup, 1) := by decide +kernel
theorem dX5_init_86 : decode cX5_init 86 = .ok (.iconst 4, 1) := by decide +kernel
theorem dX5_init_87 : decode cX5_init 87 = .ok (.sipush 22181, 3) := by decide +kernel
theorem dX5_init_90 : decode cX5_init 90 = .ok (.iastore, 1) := by decide +kernel
theorem dX5_init_91 : decode cX5_init 91 = .ok (.dup, 1) := by decide +kernel
theorem dX5_init_92 : decode cX5_init 92 = .ok (.iconst 5, 1) := by decide +kernel
theorem dX5_init_93 : decode cX5_init 93 = .ok (.sipush 18610, 3) := by decide +kernel
theorem dX5_init_96 : decode cX5_init 96 = .ok (.iastore, 1) := by decide +kernel
theorem dX5_init_97 : decode cX5_init 97 = .ok (.dup, 1) := by decide +kernel
theorem dX5_init_98 : decode cX5_init 98 = .ok (.bipush 6, 2) := by decide +kernel
theorem dX5_init_100 : decode cX5_init 100 = .ok (.sipush 15693, 3) := by decide +kernel
theorem dX5_init_103 : decode cX5_init 103 = .ok (.iastore, 1) := by decide +kernel
theorem dX5_init_104 : decode cX5_init 104 = .ok (.dup, 1) := by decide +kernel
theorem dX5_init_105 : decode cX5_init 105 = .ok (.bipush 7, 2) := by decide +kernel
theorem dX5_init_107 : decode cX5_init 107 = .ok (.sipush 13227, 3) := by decide +kernel
theorem dX5_init_110 : decode cX5_init 110 = .ok (.iastore, 1) := by decide +kernel
theorem dX5_init_111 : decode cX5_init 111 = .ok (.dup, 1) := by decide +kernel
theorem dX5_init_112 : decode cX5_init 112 = .ok (.bipush 8, 2) := by decide +kernel
theorem dX5_init_114 : decode cX5_init 114 = .ok (.sipush 11090, 3) := by decide +kernel
theorem dX5_init_117 : decode cX5_init 117 = .ok (.iastore, 1) := by decide +kernel
theorem dX5_init_118 : decode cX5_init 118 = .ok (.dup, 1) := by decide +kernel
theorem dX5_init_119 : decode cX5_init 119 = .ok (.bipush 9, 2) := by decide +kernel
theorem dX5_init_121 : decode cX5_init 121 = .ok (.sipush 9206, 3) := by decide +kernel
theorem dX5_init_124 : decode cX5_init 124 = .ok (.iastore, 1) := by decide +kernel
theorem dX5_init_125 : decode cX5_init 125 = .ok (.dup, 1) := by decide +kernel
theorem dX5_init_126 : decode cX5_init 126 = .ok (.bipush 10, 2) := by decide +kernel
theorem dX5_init_128 : decode cX5_init 128 = .ok (.sipush 7520, 3) := by decide +kernel
theorem dX5_init_131 : decode cX5_init 131 = .ok (.iastore, 1) := by decide +kernel
theorem dX5_init_132 : decode cX5_init 132 = .ok (.dup, 1) := by decide +kernel
theorem dX5_init_133 : decode cX5_init 133 = .ok (.bipush 11, 2) := by decide +kernel
theorem dX5_init_135 : decode cX5_init 135 = .ok (.sipush 5995, 3) := by decide +kernel
theorem dX5_init_138 : decode cX5_init 138 = .ok (.iastore, 1) := by decide +kernel
theorem dX5_init_139 : decode cX5_init 139 = .ok (.dup, 1) := by decide +kernel
theorem dX5_init_140 : decode cX5_init 140 = .ok (.bipush 12, 2) := by decide +kernel
theorem dX5_init_142 : decode cX5_init 142 = .ok (.sipush 4603, 3) := by decide +kernel
theorem dX5_init_145 : decode cX5_init 145 = .ok (.iastore, 1) := by decide +kernel
theorem dX5_init_146 : decode cX5_init 146 = .ok (.dup, 1) := by decide +kernel
theorem dX5_init_147 : decode cX5_init 147 = .ok (.bipush 13, 2) := by decide +kernel
theorem dX5_init_149 : decode cX5_init 149 = .ok (.sipush 3322, 3) := by decide +kernel
theorem dX5_init_152 : decode cX5_init 152 = .ok (.iastore, 1) := by decide +kernel
theorem dX5_init_153 : decode cX5_init 153 = .ok (.dup, 1) := by decide +kernel
theorem dX5_init_154 : decode cX5_init 154 = .ok (.bipush 14, 2) := by decide +kernel
theorem dX5_init_156 : decode cX5_init 156 = .ok (.sipush 2137, 3) := by decide +kernel
theorem dX5_init_159 : decode cX5_init 159 = .ok (.iastore, 1) := by decide +kernel
theorem dX5_init_160 : decode cX5_init 160 = .ok (.dup, 1) := by decide +kernel
theorem dX5_init_161 : decode cX5_init 161 = .ok (.bipush 15, 2) := by decide +kernel
theorem dX5_init_163 : decode cX5_init 163 = .ok (.sipush 1033, 3) := by decide +kernel
theorem dX5_init_166 : decode cX5_init 166 = .ok (.iastore, 1) := by decide +kernel
theorem dX5_init_167 : decode cX5_init 167 = .ok (.dup, 1) := by decide +kernel
theorem dX5_init_168 : decode cX5_init 168 = .ok (.bipush 16, 2) := by decide +kernel
theorem dX5_init_170 : decode cX5_init 170 = .ok (.iconst 0, 1) := by decide +kernel
theorem dX5_init_171 : decode cX5_init 171 = .ok (.iastore, 1) := by decide +kernel
theorem dX5_init_172 : decode cX5_init 172 = .ok (.putfield 36, 3) := by decide +kernel
theorem dX5_init_175 : decode cX5_init 175 = .ok (.aload_n 0, 1) := by decide +kernel
theorem dX5_init_176 : decode cX5_init 176 = .ok (.iload_n 1, 1) := by decide +kernel
theorem dX5_init_177 : decode cX5_init 177 = .ok (.iconst 2, 1) := by decide +kernel
theorem dX5_init_178 : decode cX5_init 178 = .ok (.if_icmp .ge 7, 3) := by decide +kernel
theorem dX5_init_181 : decode cX5_init 181 = .ok (.iconst 2, 1) := by decide +kernel
theorem dX5_init_182 : decode cX5_init 182 = .ok (.goto 15, 3) := by decide +kernel
theorem dX5_init_185 : decode cX5_init 185 = .ok (.iload_n 1, 1) := by decide +kernel
theorem dX5_init_186 : decode cX5_init 186 = .ok (.bipush 32, 2) := by decide +kernel
theorem dX5_init_188 : decode cX5_init 188 = .ok (.if_icmp .le 8, 3) := by decide +kernel
theorem dX5_init_191 : decode cX5_init 191 = .ok (.bipush 32, 2) := by decide +kernel
theorem dX5_init_193 : decode cX5_init 193 = .ok (.goto 4, 3) := by decide +kernel
theorem dX5_init_196 : decode cX5_init 196 = .ok (.iload_n 1, 1) := by decide +kernel
theorem dX5_init_197 : decode cX5_init 197 = .ok (.putfield 39, 3) := by decide +kernel
theorem dX5_init_200 : decode cX5_init 200 = .ok (.iconst 0, 1) := by decide +kernel
theorem dX5_init_201 : decode cX5_init 201 = .ok (.istore_n 2, 1) := by decide +kernel
theorem dX5_init_202 : decode cX5_init 202 = .ok (.iload_n 2, 1) := by decide +kernel
theorem dX5_init_203 : decode cX5_init 203 = .ok (.ldc 7, 2) := by decide +kernel
theorem dX5_init_205 : decode cX5_init 205 = .ok (.if_icmp .ge 16, 3) := by decide +kernel
theorem dX5_init_208 : decode cX5_init 208 = .ok (.aload_n 0, 1) := by decide +kernel
theorem dX5_init_209 : decode cX5_init 209 = .ok (.getfield 8, 3) := by decide +kernel
theorem dX5_init_212 : decode cX5_init 212 = .ok (.iload_n 2, 1) := by decide +kernel
theorem dX5_init_213 : decode cX5_init 213 = .ok (.iconst (-1), 1) := by decide +kernel
theorem dX5_init_214 : decode cX5_init 214 = .ok (.iastore, 1) := by decide +kernel
theorem dX5_init_215 : decode cX5_init 215 = .ok (.iinc 2 1, 3) := by decide +kernel
theorem dX5_init_218 : decode cX5_init 218 = .ok (.goto (-16), 3) := by decide +kernel
theorem dX5_init_221 : decode cX5_init 221 = .ok (.return_, 1) := by decide +kernel
theorem dX5_thrown_0 : decode cX5_thrown 0 = .ok (.aload_n 0, 1) := by decide +kernel
theorem dX5_thrown_1 : decode cX5_thrown 1 = .ok (.getfield 43, 3) := by decide +kernel
theorem dX5_thrown_4 : decode cX5_thrown 4 = .ok (.ireturn, 1) := by decide +kernel
theorem dX5_goesWell_0 : decode cX5_goesWell 0 = .ok (.aload_n 0, 1) := by decide +kernel
theorem dX5_goesWell_1 : decode cX5_goesWell 1 = .ok (.iload_n 1, 1) := by decide +kernel
theorem dX5_goesWell_2 : decode cX5_goesWell 2 = .ok (.putfield 43, 3) := by decide +kernel
theorem dX5_goesWell_5 : decode cX5_goesWell 5 = .ok (.iload_n 1, 1) := by decide +kernel
theorem dX5_goesWell_6 : decode cX5_goesWell 6 = .ok (.ifCond .ne 7, 3) := by decide +kernel
theorem dX5_goesWell_9 : decode cX5_goesWell 9 = .ok (.iconst 1, 1) := by decide +kernel
theorem dX5_goesWell_10 : decode cX5_goesWell 10 = .ok (.goto 4, 3) := by decide +kernel
theorem dX5_goesWell_13 : decode cX5_goesWell 13 = .ok (.iconst 0, 1) := by decide +kernel
theorem dX5_goesWell_14 : decode cX5_goesWell 14 = .ok (.ireturn, 1) := by decide +kernel
theorem dX5_isBasket_0 : decode cX5_isBasket 0 = .ok (.iload_n 0, 1) := by decide +kernel
theorem dX5_isBasket_1 : decode cX5_isBasket 1 = .ok (.ifCond .lt 13, 3) := by decide +kernel
theorem dX5_isBasket_4 : decode cX5_isBasket 4 = .ok (.iload_n 0, 1) := by decide +kernel
theorem dX5_isBasket_5 : decode cX5_isBasket 5 = .ok (.bipush 6, 2) := by decide +kernel
theorem dX5_isBasket_7 : decode cX5_isBasket 7 = .ok (.if_icmp .ge 7, 3) := by decide +kernel
theorem dX5_isBasket_10 : decode cX5_isBasket 10 = .ok (.iconst 1, 1) := by decide +kernel
theorem dX5_isBasket_11 : decode cX5_isBasket 11 = .ok (.goto 4, 3) := by decide +kernel
theorem dX5_isBasket_14 : decode cX5_isBasket 14 = .ok (.iconst 0, 1) := by decide +kernel
theorem dX5_isBasket_15 : decode cX5_isBasket 15 = .ok (.ireturn, 1) := by decide +kernel
theorem dX5_isItem_0 : decode cX5_isItem 0 = .ok (.iload_n 0, 1) := by decide +kernel
theorem dX5_isItem_1 : decode cX5_isItem 1 = .ok (.ifCond .lt 13, 3) := by decide +kernel
theorem dX5_isItem_4 : decode cX5_isItem 4 = .ok (.iload_n 0, 1) := by decide +kernel
theorem dX5_isItem_5 : decode cX5_isItem 5 = .ok (.ldc 14, 2) := by decide +kernel
theorem dX5_isItem_7 : decode cX5_isItem 7 = .ok (.if_icmp .ge 7, 3) := by decide +kernel
theorem dX5_isItem_10 : decode cX5_isItem 10 = .ok (.iconst 1, 1) := by decide +kernel
theorem dX5_isItem_11 : decode cX5_isItem 11 = .ok (.goto 4, 3) := by decide +kernel
theorem dX5_isItem_14 : decode cX5_isItem 14 = .ok (.iconst 0, 1) := by decide +kernel
theorem dX5_isItem_15 : decode cX5_isItem 15 = .ok (.ireturn, 1) := by decide +kernel
theorem dX5_hashOf_0 : decode cX5_hashOf 0 = .ok (.ldc2_w 46, 3) := by decide +kernel
theorem dX5_hashOf_3 : decode cX5_hashOf 3 = .ok (.iload_n 0, 1) := by decide +kernel
theorem dX5_hashOf_4 : decode cX5_hashOf 4 = .ok (.i2l, 1) := by decide +kernel
theorem dX5_hashOf_5 : decode cX5_hashOf 5 = .ok (.lmul, 1) := by decide +kernel
theorem dX5_hashOf_6 : decode cX5_hashOf 6 = .ok (.iload_n 0, 1) := by decide +kernel
theorem dX5_hashOf_7 : decode cX5_hashOf 7 = .ok (.i2l, 1) := by decide +kernel
theorem dX5_hashOf_8 : decode cX5_hashOf 8 = .ok (.lmul, 1) := by decide +kernel
theorem dX5_hashOf_9 : decode cX5_hashOf 9 = .ok (.ldc2_w 48, 3) := by decide +kernel
theorem dX5_hashOf_12 : decode cX5_hashOf 12 = .ok (.iload_n 0, 1) := by decide +kernel
theorem dX5_hashOf_13 : decode cX5_hashOf 13 = .ok (.i2l, 1) := by decide +kernel
theorem dX5_hashOf_14 : decode cX5_hashOf 14 = .ok (.lmul, 1) := by decide +kernel
theorem dX5_hashOf_15 : decode cX5_hashOf 15 = .ok (.ladd, 1) := by decide +kernel
theorem dX5_hashOf_16 : decode cX5_hashOf 16 = .ok (.ldc2_w 50, 3) := by decide +kernel
theorem dX5_hashOf_19 : decode cX5_hashOf 19 = .ok (.ladd, 1) := by decide +kernel
theorem dX5_hashOf_20 : decode cX5_hashOf 20 = .ok (.ldc2_w 52, 3) := by decide +kernel
theorem dX5_hashOf_23 : decode cX5_hashOf 23 = .ok (.lrem, 1) := by decide +kernel
theorem dX5_hashOf_24 : decode cX5_hashOf 24 = .ok (.l2i, 1) := by decide +kernel
theorem dX5_hashOf_25 : decode cX5_hashOf 25 = .ok (.ireturn, 1) := by decide +kernel
theorem dX5_has_0 : decode cX5_has 0 = .ok (.aload_n 0, 1) := by decide +kernel
theorem dX5_has_1 : decode cX5_has 1 = .ok (.getfield 8, 3) := by decide +kernel
theorem dX5_has_4 : decode cX5_has 4 = .ok (.ldc 14, 2) := by decide +kernel
theorem dX5_has_6 : decode cX5_has 6 = .ok (.iload_n 1, 1) := by decide +kernel
theorem dX5_has_7 : decode cX5_has 7 = .ok (.imul, 1) := by decide +kernel
theorem dX5_has_8 : decode cX5_has 8 = .ok (.iload_n 2, 1) := by decide +kernel
theorem dX5_has_9 : decode cX5_has 9 = .ok (.iadd, 1) := by decide +kernel
theorem dX5_has_10 : decode cX5_has 10 = .ok (.iaload, 1) := by decide +kernel
theorem dX5_has_11 : decode cX5_has 11 = .ok (.iconst (-1), 1) := by decide +kernel
theorem dX5_has_12 : decode cX5_has 12 = .ok (.if_icmp .eq 7, 3) := by decide +kernel
theorem dX5_has_15 : decode cX5_has 15 = .ok (.iconst 1, 1) := by decide +kernel
theorem dX5_has_16 : decode cX5_has 16 = .ok (.goto 4, 3) := by decide +kernel
theorem dX5_has_19 : decode cX5_has 19 = .ok (.iconst 0, 1) := by decide +kernel
theorem dX5_has_20 : decode cX5_has 20 = .ok (.ireturn, 1) := by decide +kernel
set_option maxRecDepth 20000 in
theorem ggX5_put_X5_has : GoodIn wsX5_put wsX5_has := goodIn_r _ [10, 1, 2, 11, 12, 13, 14, 15, 16, 17, 18, 19, 20, 21, 22, 23, 24] (by decide +kernel) (by decide +kernel)
set_option maxRecDepth 20000 in
theorem gX5_put_X5_has : GoodIn wsX5_put (wsV RX5 54 RX5 yX5_has wsX5_has) := goodIn_app (goodIn_of _ (by decide +kernel)) ggX5_put_X5_has
theorem dX5_put_0 : decode cX5_put 0 = .ok (.aload_n 0, 1) := by decide +kernel
theorem dX5_put_1 : decode cX5_put 1 = .ok (.iload_n 1, 1) := by decide +kernel
theorem dX5_put_2 : decode cX5_put 2 = .ok (.iload_n 2, 1) := by decide +kernel
theorem dX5_put_3 : decode cX5_put 3 = .ok (.invokevirtual 54, 3) := by decide +kernel
theorem dX5_put_6 : decode cX5_put 6 = .ok (.ifCond .ne 7, 3) := by decide +kernel
theorem dX5_put_9 : decode cX5_put 9 = .ok (.iconst 1, 1) := by decide +kernel
theorem dX5_put_10 : decode cX5_put 10 = .ok (.goto 4, 3) := by decide +kernel
theorem dX5_put_13 : decode cX5_put 13 = .ok (.iconst 0, 1) := by decide +kernel
theorem dX5_put_14 : decode cX5_put 14 = .ok (.istore 4, 2) := by decide +kernel
theorem dX5_put_16 : decode cX5_put 16 = .ok (.iload_n 3, 1) := by decide +kernel
theorem dX5_put_17 : decode cX5_put 17 = .ok (.aload_n 0, 1) := by decide +kernel
theorem dX5_put_18 : decode cX5_put 18 = .ok (.getfield 8, 3) := by decide +kernel
theorem dX5_put_21 : decode cX5_put 21 = .ok (.ldc 14, 2) := by decide +kernel
theorem dX5_put_23 : decode cX5_put 23 = .ok (.iload_n 1, 1) := by decide +kernel
theorem dX5_put_24 : decode cX5_put 24 = .ok (.imul, 1) := by decide +kernel
theorem dX5_put_25 : decode cX5_put 25 = .ok (.iload_n 2, 1) := by decide +kernel
theorem dX5_put_26 : decode cX5_put 26 = .ok (.iadd, 1) := by decide +kernel
theorem dX5_put_27 : decode cX5_put 27 = .ok (.iaload, 1) := by decide +kernel
theorem dX5_put_28 : decode cX5_put 28 = .ok (.if_icmp .le 15, 3) := by decide +kernel
theorem dX5_put_31 : decode cX5_put 31 = .ok (.aload_n 0, 1) := by decide +kernel
theorem dX5_put_32 : decode cX5_put 32 = .ok (.getfield 8, 3) := by decide +kernel
theorem dX5_put_35 : decode cX5_put 35 = .ok (.ldc 14, 2) := by decide +kernel
theorem dX5_put_37 : decode cX5_put 37 = .ok (.iload_n 1, 1) := by decide +kernel
theorem dX5_put_38 : decode cX5_put 38 = .ok (.imul, 1) := by decide +kernel
theorem dX5_put_39 : decode cX5_put 39 = .ok (.iload_n 2, 1) := by decide +kernel
theorem dX5_put_40 : decode cX5_put 40 = .ok (.iadd, 1) := by decide +kernel
theorem dX5_put_41 : decode cX5_put 41 = .ok (.iload_n 3, 1) := by decide +kernel
theorem dX5_put_42 : decode cX5_put 42 = .ok (.iastore, 1) := by decide +kernel
theorem dX5_put_43 : decode cX5_put 43 = .ok (.aload_n 0, 1) := by decide +kernel
theorem dX5_put_44 : decode cX5_put 44 = .ok (.getfield 18, 3) := by decide +kernel
theorem dX5_put_47 : decode cX5_put 47 = .ok (.iload_n 2, 1) := by decide +kernel
theorem dX5_put_48 : decode cX5_put 48 = .ok (.baload, 1) := by decide +kernel
theorem dX5_put_49 : decode cX5_put 49 = .ok (.ifCond .ne 30, 3) := by decide +kernel
theorem dX5_put_52 : decode cX5_put 52 = .ok (.aload_n 0, 1) := by decide +kernel
theorem dX5_put_53 : decode cX5_put 53 = .ok (.getfield 18, 3) := by decide +kernel
theorem dX5_put_56 : decode cX5_put 56 = .ok (.iload_n 2, 1) := by decide +kernel
theorem dX5_put_57 : decode cX5_put 57 = .ok (.iconst 1, 1) := by decide +kernel
theorem dX5_put_58 : decode cX5_put 58 = .ok (.bastore, 1) := by decide +kernel
theorem dX5_put_59 : decode cX5_put 59 = .ok (.aload_n 0, 1) := by decide +kernel
theorem dX5_put_60 : decode cX5_put 60 = .ok (.getfield 15, 3) := by decide +kernel
theorem dX5_put_63 : decode cX5_put 63 = .ok (.aload_n 0, 1) := by decide +kernel
theorem dX5_put_64 : decode cX5_put 64 = .ok (.getfield 58, 3) := by decide +kernel
theorem dX5_put_67 : decode cX5_put 67 = .ok (.iload_n 2, 1) := by decide +kernel
theorem dX5_put_68 : decode cX5_put 68 = .ok (.iastore, 1) := by decide +kernel
theorem dX5_put_69 : decode cX5_put 69 = .ok (.aload_n 0, 1) := by decide +kernel
theorem dX5_put_70 : decode cX5_put 70 = .ok (.dup, 1) := by decide +kernel
theorem dX5_put_71 : decode cX5_put 71 = .ok (.getfield 58, 3) := by decide +kernel
theorem dX5_put_74 : decode cX5_put 74 = .ok (.iconst 1, 1) := by decide +kernel
theorem dX5_put_75 : decode cX5_put 75 = .ok (.iadd, 1) := by decide +kernel
theorem dX5_put_76 : decode cX5_put 76 = .ok (.putfield 58, 3) := by decide +kernel
theorem dX5_put_79 : decode cX5_put 79 = .ok (.iload 4, 2) := by decide +kernel
theorem dX5_put_81 : decode cX5_put 81 = .ok (.ireturn, 1) := by decide +kernel
set_option maxRecDepth 20000 in
theorem ggX5_add_X5_isBasket : GoodIn wsX5_add wsX5_isBasket := goodIn_r _ [5] (by decide +kernel) (by decide +kernel)
set_option maxRecDepth 20000 in
theorem gX5_add_X5_isBasket : GoodIn wsX5_add (va_wsS RX5 61 yX5_isBasket wsX5_isBasket) := goodIn_app (goodIn_of _ (by decide +kernel)) ggX5_add_X5_isBasket
set_option maxRecDepth 20000 in
theorem ggX5_add_X5_isItem : GoodIn wsX5_add wsX5_isItem := goodIn_r _ [8, 9] (by decide +kernel) (by decide +kernel)
set_option maxRecDepth 20000 in
theorem gX5_add_X5_isItem : GoodIn wsX5_add (va_wsS RX5 65 yX5_isItem wsX5_isItem) := goodIn_app (goodIn_of _ (by decide +kernel)) ggX5_add_X5_isItem
set_option maxRecDepth 20000 in
theorem ggX5_add_X5_goesWell : GoodIn wsX5_add wsX5_goesWell := goodIn_r _ [13, 14, 27, 28, 29, 30, 31, 32, 33, 34, 35, 36, 37, 38, 39, 40] (by decide +kernel) (by decide +kernel)
set_option maxRecDepth 20000 in
theorem gX5_add_X5_goesWell : GoodIn wsX5_add (wsV RX5 68 RX5 yX5_goesWell wsX5_goesWell) := goodIn_app (goodIn_of _ (by decide +kernel)) ggX5_add_X5_goesWell
set_option maxRecDepth 20000 in
theorem ggX5_add_X5_put : GoodIn wsX5_add wsX5_put := goodIn_r _ [18, 19, 9, 20, 21, 22, 23, 24, 25, 4, 26, 27, 28, 29, 30, 31, 32, 33, 34, 35, 36, 37, 38, 39, 40] (by decide +kernel) (by decide +kernel)
set_option maxRecDepth 20000 in
theorem gX5_add_X5_put : GoodIn wsX5_add (wsV RX5 74 RX5 yX5_put wsX5_put) := goodIn_app (goodIn_of _ (by decide +kernel)) ggX5_add_X5_put
theorem dX5_add_0 : decode cX5_add 0 = .ok (.aload_n 0, 1) := by decide +kernel
theorem dX5_add_1 : decode cX5_add 1 = .ok (.iload_n 1, 1) := by decide +kernel
theorem dX5_add_2 : decode cX5_add 2 = .ok (.invokestatic 61, 3) := by decide +kernel
theorem dX5_add_5 : decode cX5_add 5 = .ok (.ifCond .ne 7, 3) := by decide +kernel
theorem dX5_add_8 : decode cX5_add 8 = .ok (.iconst 1, 1) := by decide +kernel
theorem dX5_add_9 : decode cX5_add 9 = .ok (.goto 15, 3) := by decide +kernel
theorem dX5_add_12 : decode cX5_add 12 = .ok (.iload_n 2, 1) := by decide +kernel
theorem dX5_add_13 : decode cX5_add 13 = .ok (.invokestatic 65, 3) := by decide +kernel
theorem dX5_add_16 : decode cX5_add 16 = .ok (.ifCond .eq 7, 3) := by decide +kernel
theorem dX5_add_19 : decode cX5_add 19 = .ok (.iconst 0, 1) := by decide +kernel
theorem dX5_add_20 : decode cX5_add 20 = .ok (.goto 4, 3) := by decide +kernel
theorem dX5_add_23 : decode cX5_add 23 = .ok (.iconst 2, 1) := by decide +kernel
theorem dX5_add_24 : decode cX5_add 24 = .ok (.invokevirtual 68, 3) := by decide +kernel
theorem dX5_add_27 : decode cX5_add 27 = .ok (.ifCond .eq 20, 3) := by decide +kernel
theorem dX5_add_30 : decode cX5_add 30 = .ok (.aload_n 0, 1) := by decide +kernel
theorem dX5_add_31 : decode cX5_add 31 = .ok (.iload_n 1, 1) := by decide +kernel
theorem dX5_add_32 : decode cX5_add 32 = .ok (.iload_n 2, 1) := by decide +kernel
theorem dX5_add_33 : decode cX5_add 33 = .ok (.aload_n 0, 1) := by decide +kernel
theorem dX5_add_34 : decode cX5_add 34 = .ok (.getfield 71, 3) := by decide +kernel
theorem dX5_add_37 : decode cX5_add 37 = .ok (.invokevirtual 74, 3) := by decide +kernel
theorem dX5_add_40 : decode cX5_add 40 = .ok (.ifCond .eq 7, 3) := by decide +kernel
theorem dX5_add_43 : decode cX5_add 43 = .ok (.iconst 1, 1) := by decide +kernel
theorem dX5_add_44 : decode cX5_add 44 = .ok (.goto 4, 3) := by decide +kernel
theorem dX5_add_47 : decode cX5_add 47 = .ok (.iconst 0, 1) := by decide +kernel
theorem dX5_add_48 : decode cX5_add 48 = .ok (.ireturn, 1) := by decide +kernel
set_option maxRecDepth 20000 in
theorem ggX5_addLine_X5_isItem : GoodIn wsX5_addLine wsX5_isItem := goodIn_r _ [5, 6] (by decide +kernel) (by decide +kernel)
set_option maxRecDepth 20000 in
theorem gX5_addLine_X5_isItem : GoodIn wsX5_addLine (va_wsS RX5 65 yX5_isItem wsX5_isItem) := goodIn_app (goodIn_of _ (by decide +kernel)) ggX5_addLine_X5_isItem
set_option maxRecDepth 20000 in
theorem ggX5_addLine_X5_isBasket : GoodIn wsX5_addLine wsX5_isBasket := goodIn_r _ [9] (by decide +kernel) (by decide +kernel)
set_option maxRecDepth 20000 in
theorem gX5_addLine_X5_isBasket : GoodIn wsX5_addLine (va_wsS RX5 61 yX5_isBasket wsX5_isBasket) := goodIn_app (goodIn_of _ (by decide +kernel)) ggX5_addLine_X5_isBasket
set_option maxRecDepth 20000 in
theorem ggX5_addLine_X5_goesWell : GoodIn wsX5_addLine wsX5_goesWell := goodIn_r _ [13, 14, 27, 28, 29, 30, 31, 32, 33, 34, 35, 36, 37, 38, 39, 40] (by decide +kernel) (by decide +kernel)
set_option maxRecDepth 20000 in
theorem gX5_addLine_X5_goesWell : GoodIn wsX5_addLine (wsV RX5 68 RX5 yX5_goesWell wsX5_goesWell) := goodIn_app (goodIn_of _ (by decide +kernel)) ggX5_addLine_X5_goesWell
set_option maxRecDepth 20000 in
theorem ggX5_addLine_X5_put : GoodIn wsX5_addLine wsX5_put := goodIn_r _ [18, 19, 6, 20, 21, 22, 23, 24, 25, 4, 26, 27, 28, 29, 30, 31, 32, 33, 34, 35, 36, 37, 38, 39, 40] (by decide +kernel) (by decide +kernel)
set_option maxRecDepth 20000 in
theorem gX5_addLine_X5_put : GoodIn wsX5_addLine (wsV RX5 74 RX5 yX5_put wsX5_put) := goodIn_app (goodIn_of _ (by decide +kernel)) ggX5_addLine_X5_put
theorem dX5_addLine_0 : decode cX5_addLine 0 = .ok (.iload_n 2, 1) := by decide +kernel
theorem dX5_addLine_1 : decode cX5_addLine 1 = .ok (.invokestatic 65, 3) := by decide +kernel
theorem dX5_addLine_4 : decode cX5_addLine 4 = .ok (.ifCond .eq 46, 3) := by decide +kernel
theorem dX5_addLine_7 : decode cX5_addLine 7 = .ok (.iload_n 3, 1) := by decide +kernel
theorem dX5_addLine_8 : decode cX5_addLine 8 = .ok (.iconst 1, 1) := by decide +kernel
theorem dX5_addLine_9 : decode cX5_addLine 9 = .ok (.if_icmp .lt 41, 3) := by decide +kernel
theorem dX5_addLine_12 : decode cX5_addLine 12 = .ok (.iload_n 3, 1) := by decide +kernel
theorem dX5_addLine_13 : decode cX5_addLine 13 = .ok (.sipush 999, 3) := by decide +kernel
theorem dX5_addLine_16 : decode cX5_addLine 16 = .ok (.if_icmp .gt 34, 3) := by decide +kernel
theorem dX5_addLine_19 : decode cX5_addLine 19 = .ok (.iload 4, 2) := by decide +kernel
theorem dX5_addLine_21 : decode cX5_addLine 21 = .ok (.iconst 1, 1) := by decide +kernel
theorem dX5_addLine_22 : decode cX5_addLine 22 = .ok (.if_icmp .lt 28, 3) := by decide +kernel
theorem dX5_addLine_25 : decode cX5_addLine 25 = .ok (.iload 4, 2) := by decide +kernel
theorem dX5_addLine_27 : decode cX5_addLine 27 = .ok (.bipush 60, 2) := by decide +kernel
theorem dX5_addLine_29 : decode cX5_addLine 29 = .ok (.if_icmp .gt 21, 3) := by decide +kernel
theorem dX5_addLine_32 : decode cX5_addLine 32 = .ok (.iload_n 2, 1) := by decide +kernel
theorem dX5_addLine_33 : decode cX5_addLine 33 = .ok (.iload 4, 2) := by decide +kernel
theorem dX5_addLine_35 : decode cX5_addLine 35 = .ok (.iconst 1, 1) := by decide +kernel
theorem dX5_addLine_36 : decode cX5_addLine 36 = .ok (.isub, 1) := by decide +kernel
theorem dX5_addLine_37 : decode cX5_addLine 37 = .ok (.iload_n 3, 1) := by decide +kernel
theorem dX5_addLine_38 : decode cX5_addLine 38 = .ok (.imul, 1) := by decide +kernel
theorem dX5_addLine_39 : decode cX5_addLine 39 = .ok (.iadd, 1) := by decide +kernel
theorem dX5_addLine_40 : decode cX5_addLine 40 = .ok (.invokestatic 65, 3) := by decide +kernel
theorem dX5_addLine_43 : decode cX5_addLine 43 = .ok (.ifCond .eq 7, 3) := by decide +kernel
theorem dX5_addLine_46 : decode cX5_addLine 46 = .ok (.iconst 1, 1) := by decide +kernel
theorem dX5_addLine_47 : decode cX5_addLine 47 = .ok (.goto 4, 3) := by decide +kernel
theorem dX5_addLine_50 : decode cX5_addLine 50 = .ok (.iconst 0, 1) := by decide +kernel
theorem dX5_addLine_51 : decode cX5_addLine 51 = .ok (.istore 5, 2) := by decide +kernel
theorem dX5_addLine_53 : decode cX5_addLine 53 = .ok (.aload_n 0, 1) := by decide +kernel
theorem dX5_addLine_54 : decode cX5_addLine 54 = .ok (.iload_n 1, 1) := by decide +kernel
theorem dX5_addLine_55 : decode cX5_addLine 55 = .ok (.invokestatic 61, 3) := by decide +kernel
theorem dX5_addLine_58 : decode cX5_addLine 58 = .ok (.ifCond .ne 7, 3) := by decide +kernel
theorem dX5_addLine_61 : decode cX5_addLine 61 = .ok (.iconst 1, 1) := by decide +kernel
theorem dX5_addLine_62 : decode cX5_addLine 62 = .ok (.goto 13, 3) := by decide +kernel
theorem dX5_addLine_65 : decode cX5_addLine 65 = .ok (.iload 5, 2) := by decide +kernel
theorem dX5_addLine_67 : decode cX5_addLine 67 = .ok (.ifCond .eq 7, 3) := by decide +kernel
theorem dX5_addLine_70 : decode cX5_addLine 70 = .ok (.iconst 0, 1) := by decide +kernel
theorem dX5_addLine_71 : decode cX5_addLine 71 = .ok (.goto 4, 3) := by decide +kernel
theorem dX5_addLine_74 : decode cX5_addLine 74 = .ok (.iconst 2, 1) := by decide +kernel
theorem dX5_addLine_75 : decode cX5_addLine 75 = .ok (.invokevirtual 68, 3) := by decide +kernel
theorem dX5_addLine_78 : decode cX5_addLine 78 = .ok (.ifCond .ne 5, 3) := by decide +kernel
theorem dX5_addLine_81 : decode cX5_addLine 81 = .ok (.iconst 0, 1) := by decide +kernel
theorem dX5_addLine_82 : decode cX5_addLine 82 = .ok (.ireturn, 1) := by decide +kernel
theorem dX5_addLine_83 : decode cX5_addLine 83 = .ok (.iconst 0, 1) := by decide +kernel
theorem dX5_addLine_84 : decode cX5_addLine 84 = .ok (.istore 6, 2) := by decide +kernel
theorem dX5_addLine_86 : decode cX5_addLine 86 = .ok (.iconst 0, 1) := by decide +kernel
theorem dX5_addLine_87 : decode cX5_addLine 87 = .ok (.istore 7, 2) := by decide +kernel
theorem dX5_addLine_89 : decode cX5_addLine 89 = .ok (.iload 7, 2) := by decide +kernel
theorem dX5_addLine_91 : decode cX5_addLine 91 = .ok (.iload 4, 2) := by decide +kernel
theorem dX5_addLine_93 : decode cX5_addLine 93 = .ok (.if_icmp .ge 37, 3) := by decide +kernel
theorem dX5_addLine_96 : decode cX5_addLine 96 = .ok (.iload 6, 2) := by decide +kernel
theorem dX5_addLine_98 : decode cX5_addLine 98 = .ok (.aload_n 0, 1) := by decide +kernel
theorem dX5_addLine_99 : decode cX5_addLine 99 = .ok (.iload_n 1, 1) := by decide +kernel
theorem dX5_addLine_100 : decode cX5_addLine 100 = .ok (.iload_n 2, 1) := by decide +kernel
theorem dX5_addLine_101 : decode cX5_addLine 101 = .ok (.iload 7, 2) := by decide +kernel
theorem dX5_addLine_103 : decode cX5_addLine 103 = .ok (.iload_n 3, 1) := by decide +kernel
theorem dX5_addLine_104 : decode cX5_addLine 104 = .ok (.imul, 1) := by decide +kernel
theorem dX5_addLine_105 : decode cX5_addLine 105 = .ok (.iadd, 1) := by decide +kernel
theorem dX5_addLine_106 : decode cX5_addLine 106 = .ok (.aload_n 0, 1) := by decide +kernel
theorem dX5_addLine_107 : decode cX5_addLine 107 = .ok (.getfield 71, 3) := by decide +kernel
theorem dX5_addLine_110 : decode cX5_addLine 110 = .ok (.invokevirtual 74, 3) := by decide +kernel
theorem dX5_addLine_113 : decode cX5_addLine 113 = .ok (.ifCond .eq 7, 3) := by decide +kernel
theorem dX5_addLine_116 : decode cX5_addLine 116 = .ok (.iconst 1, 1) := by decide +kernel
theorem dX5_addLine_117 : decode cX5_addLine 117 = .ok (.goto 4, 3) := by decide +kernel
theorem dX5_addLine_120 : decode cX5_addLine 120 = .ok (.iconst 0, 1) := by decide +kernel
theorem dX5_addLine_121 : decode cX5_addLine 121 = .ok (.iadd, 1) := by decide +kernel
theorem dX5_addLine_122 : decode cX5_addLine 122 = .ok (.istore 6, 2) := by decide +kernel
theorem dX5_addLine_124 : decode cX5_addLine 124 = .ok (.iinc 7 1, 3) := by decide +kernel
theorem dX5_addLine_127 : decode cX5_addLine 127 = .ok (.goto (-38), 3) := by decide +kernel
theorem dX5_addLine_130 : decode cX5_addLine 130 = .ok (.iload 6, 2) := by decide +kernel
theorem dX5_addLine_132 : decode cX5_addLine 132 = .ok (.ireturn, 1) := by decide +kernel
set_option maxRecDepth 20000 in
theorem ggX5_count_X5_has : GoodIn wsX5_count wsX5_has := goodIn_r _ [7, 8, 9, 10, 11, 12, 13, 14, 15, 16, 17, 18, 19, 20, 21, 22, 23] (by decide +kernel) (by decide +kernel)
set_option maxRecDepth 20000 in
theorem gX5_count_X5_has : GoodIn wsX5_count (wsV RX5 54 RX5 yX5_has wsX5_has) := goodIn_app (goodIn_of _ (by decide +kernel)) ggX5_count_X5_has
theorem dX5_count_0 : decode cX5_count 0 = .ok (.iconst 0, 1) := by decide +kernel
theorem dX5_count_1 : decode cX5_count 1 = .ok (.istore_n 2, 1) := by decide +kernel
theorem dX5_count_2 : decode cX5_count 2 = .ok (.iconst 0, 1) := by decide +kernel
theorem dX5_count_3 : decode cX5_count 3 = .ok (.istore_n 3, 1) := by decide +kernel
theorem dX5_count_4 : decode cX5_count 4 = .ok (.iload_n 3, 1) := by decide +kernel
theorem dX5_count_5 : decode cX5_count 5 = .ok (.aload_n 0, 1) := by decide +kernel
theorem dX5_count_6 : decode cX5_count 6 = .ok (.getfield 58, 3) := by decide +kernel
theorem dX5_count_9 : decode cX5_count 9 = .ok (.if_icmp .ge 31, 3) := by decide +kernel
theorem dX5_count_12 : decode cX5_count 12 = .ok (.iload_n 2, 1) := by decide +kernel
theorem dX5_count_13 : decode cX5_count 13 = .ok (.aload_n 0, 1) := by decide +kernel
theorem dX5_count_14 : decode cX5_count 14 = .ok (.iload_n 1, 1) := by decide +kernel
theorem dX5_count_15 : decode cX5_count 15 = .ok (.aload_n 0, 1) := by decide +kernel
theorem dX5_count_16 : decode cX5_count 16 = .ok (.getfield 15, 3) := by decide +kernel
theorem dX5_count_19 : decode cX5_count 19 = .ok (.iload_n 3, 1) := by decide +kernel
theorem dX5_count_20 : decode cX5_count 20 = .ok (.iaload, 1) := by decide +kernel
theorem dX5_count_21 : decode cX5_count 21 = .ok (.invokevirtual 54, 3) := by decide +kernel
theorem dX5_count_24 : decode cX5_count 24 = .ok (.ifCond .eq 7, 3) := by decide +kernel
theorem dX5_count_27 : decode cX5_count 27 = .ok (.iconst 1, 1) := by decide +kernel
theorem dX5_count_28 : decode cX5_count 28 = .ok (.goto 4, 3) := by decide +kernel
theorem dX5_count_31 : decode cX5_count 31 = .ok (.iconst 0, 1) := by decide +kernel
theorem dX5_count_32 : decode cX5_count 32 = .ok (.iadd, 1) := by decide +kernel
theorem dX5_count_33 : decode cX5_count 33 = .ok (.istore_n 2, 1) := by decide +kernel
theorem dX5_count_34 : decode cX5_count 34 = .ok (.iinc 3 1, 3) := by decide +kernel
theorem dX5_count_37 : decode cX5_count 37 = .ok (.goto (-33), 3) := by decide +kernel
theorem dX5_count_40 : decode cX5_count 40 = .ok (.iload_n 2, 1) := by decide +kernel
theorem dX5_count_41 : decode cX5_count 41 = .ok (.ireturn, 1) := by decide +kernel
set_option maxRecDepth 20000 in
theorem ggX5_empty_X5_isBasket : GoodIn wsX5_empty wsX5_isBasket := goodIn_r _ [8] (by decide +kernel) (by decide +kernel)
set_option maxRecDepth 20000 in
theorem gX5_empty_X5_isBasket : GoodIn wsX5_empty (va_wsS RX5 61 yX5_isBasket wsX5_isBasket) := goodIn_app (goodIn_of _ (by decide +kernel)) ggX5_empty_X5_isBasket
set_option maxRecDepth 20000 in
theorem ggX5_empty_X5_goesWell : GoodIn wsX5_empty wsX5_goesWell := goodIn_r _ [12, 13, 22, 23, 24, 25, 26, 27, 28, 29, 30, 31, 32, 33, 34, 35] (by decide +kernel) (by decide +kernel)
set_option maxRecDepth 20000 in
theorem gX5_empty_X5_goesWell : GoodIn wsX5_empty (wsV RX5 68 RX5 yX5_goesWell wsX5_goesWell) := goodIn_app (goodIn_of _ (by decide +kernel)) ggX5_empty_X5_goesWell
set_option maxRecDepth 20000 in
theorem ggX5_empty_X5_count : GoodIn wsX5_empty wsX5_count := goodIn_r _ [17, 1, 4, 18, 19, 20, 7, 21, 2, 3, 22, 23, 24, 25, 26, 27, 28, 29, 30, 31, 32, 33, 34, 35] (by decide +kernel) (by decide +kernel)
set_option maxRecDepth 20000 in
theorem gX5_empty_X5_count : GoodIn wsX5_empty (wsV RX5 78 RX5 yX5_count wsX5_count) := goodIn_app (goodIn_of _ (by decide +kernel)) ggX5_empty_X5_count
theorem dX5_empty_0 : decode cX5_empty 0 = .ok (.aload_n 0, 1) := by decide +kernel
theorem dX5_empty_1 : decode cX5_empty 1 = .ok (.iload_n 1, 1) := by decide +kernel
theorem dX5_empty_2 : decode cX5_empty 2 = .ok (.invokestatic 61, 3) := by decide +kernel
theorem dX5_empty_5 : decode cX5_empty 5 = .ok (.ifCond .eq 7, 3) := by decide +kernel
theorem dX5_empty_8 : decode cX5_empty 8 = .ok (.iconst 0, 1) := by decide +kernel
theorem dX5_empty_9 : decode cX5_empty 9 = .ok (.goto 4, 3) := by decide +kernel
theorem dX5_empty_12 : decode cX5_empty 12 = .ok (.iconst 1, 1) := by decide +kernel
theorem dX5_empty_13 : decode cX5_empty 13 = .ok (.invokevirtual 68, 3) := by decide +kernel
theorem dX5_empty_16 : decode cX5_empty 16 = .ok (.ifCond .ne 5, 3) := by decide +kernel
theorem dX5_empty_19 : decode cX5_empty 19 = .ok (.iconst 0, 1) := by decide +kernel
theorem dX5_empty_20 : decode cX5_empty 20 = .ok (.ireturn, 1) := by decide +kernel
theorem dX5_empty_21 : decode cX5_empty 21 = .ok (.aload_n 0, 1) := by decide +kernel
theorem dX5_empty_22 : decode cX5_empty 22 = .ok (.iload_n 1, 1) := by decide +kernel
theorem dX5_empty_23 : decode cX5_empty 23 = .ok (.invokevirtual 78, 3) := by decide +kernel
theorem dX5_empty_26 : decode cX5_empty 26 = .ok (.istore_n 2, 1) := by decide +kernel
theorem dX5_empty_27 : decode cX5_empty 27 = .ok (.iconst 0, 1) := by decide +kernel
theorem dX5_empty_28 : decode cX5_empty 28 = .ok (.istore_n 3, 1) := by decide +kernel
theorem dX5_empty_29 : decode cX5_empty 29 = .ok (.iload_n 3, 1) := by decide +kernel
theorem dX5_empty_30 : decode cX5_empty 30 = .ok (.aload_n 0, 1) := by decide +kernel
theorem dX5_empty_31 : decode cX5_empty 31 = .ok (.getfield 58, 3) := by decide +kernel
theorem dX5_empty_34 : decode cX5_empty 34 = .ok (.if_icmp .ge 26, 3) := by decide +kernel
theorem dX5_empty_37 : decode cX5_empty 37 = .ok (.aload_n 0, 1) := by decide +kernel
theorem dX5_empty_38 : decode cX5_empty 38 = .ok (.getfield 8, 3) := by decide +kernel
theorem dX5_empty_41 : decode cX5_empty 41 = .ok (.ldc 14, 2) := by decide +kernel
theorem dX5_empty_43 : decode cX5_empty 43 = .ok (.iload_n 1, 1) := by decide +kernel
theorem dX5_empty_44 : decode cX5_empty 44 = .ok (.imul, 1) := by decide +kernel
theorem dX5_empty_45 : decode cX5_empty 45 = .ok (.aload_n 0, 1) := by decide +kernel
theorem dX5_empty_46 : decode cX5_empty 46 = .ok (.getfield 15, 3) := by decide +kernel
theorem dX5_empty_49 : decode cX5_empty 49 = .ok (.iload_n 3, 1) := by decide +kernel
theorem dX5_empty_50 : decode cX5_empty 50 = .ok (.iaload, 1) := by decide +kernel
theorem dX5_empty_51 : decode cX5_empty 51 = .ok (.iadd, 1) := by decide +kernel
theorem dX5_empty_52 : decode cX5_empty 52 = .ok (.iconst (-1), 1) := by decide +kernel
theorem dX5_empty_53 : decode cX5_empty 53 = .ok (.iastore, 1) := by decide +kernel
theorem dX5_empty_54 : decode cX5_empty 54 = .ok (.iinc 3 1, 3) := by decide +kernel
theorem dX5_empty_57 : decode cX5_empty 57 = .ok (.goto (-28), 3) := by decide +kernel
theorem dX5_empty_60 : decode cX5_empty 60 = .ok (.iload_n 2, 1) := by decide +kernel
theorem dX5_empty_61 : decode cX5_empty 61 = .ok (.ireturn, 1) := by decide +kernel
set_option maxRecDepth 20000 in
theorem ggX5_merge_X5_isBasket : GoodIn wsX5_merge wsX5_isBasket := goodIn_r _ [8] (by decide +kernel) (by decide +kernel)
set_option maxRecDepth 20000 in
theorem gX5_merge_X5_isBasket : GoodIn wsX5_merge (va_wsS RX5 61 yX5_isBasket wsX5_isBasket) := goodIn_app (goodIn_of _ (by decide +kernel)) ggX5_merge_X5_isBasket
set_option maxRecDepth 20000 in
theorem ggX5_merge_X5_goesWell : GoodIn wsX5_merge wsX5_goesWell := goodIn_r _ [12, 13, 23, 24, 25, 26, 27, 28, 29, 30, 31, 32, 33, 34, 35, 36] (by decide +kernel) (by decide +kernel)
set_option maxRecDepth 20000 in
theorem gX5_merge_X5_goesWell : GoodIn wsX5_merge (wsV RX5 68 RX5 yX5_goesWell wsX5_goesWell) := goodIn_app (goodIn_of _ (by decide +kernel)) ggX5_merge_X5_goesWell
set_option maxRecDepth 20000 in
theorem ggX5_merge_X5_has : GoodIn wsX5_merge wsX5_has := goodIn_r _ [17, 3, 4, 23, 24, 25, 26, 27, 28, 29, 30, 31, 32, 33, 34, 35, 36] (by decide +kernel) (by decide +kernel)
set_option maxRecDepth 20000 in
theorem gX5_merge_X5_has : GoodIn wsX5_merge (wsV RX5 54 RX5 yX5_has wsX5_has) := goodIn_app (goodIn_of _ (by decide +kernel)) ggX5_merge_X5_has
set_option maxRecDepth 20000 in
theorem ggX5_merge_X5_put : GoodIn wsX5_merge wsX5_put := goodIn_r _ [21, 3, 4, 22, 2, 1, 14, 15, 16, 7, 17, 23, 24, 25, 26, 27, 28, 29, 30, 31, 32, 33, 34, 35, 36] (by decide +kernel) (by decide +kernel)
set_option maxRecDepth 20000 in
theorem gX5_merge_X5_put : GoodIn wsX5_merge (wsV RX5 74 RX5 yX5_put wsX5_put) := goodIn_app (goodIn_of _ (by decide +kernel)) ggX5_merge_X5_put
theorem dX5_merge_0 : decode cX5_merge 0 = .ok (.aload_n 0, 1) := by decide +kernel
theorem dX5_merge_1 : decode cX5_merge 1 = .ok (.iload_n 1, 1) := by decide +kernel
theorem dX5_merge_2 : decode cX5_merge 2 = .ok (.invokestatic 61, 3) := by decide +kernel
theorem dX5_merge_5 : decode cX5_merge 5 = .ok (.ifCond .eq 14, 3) := by decide +kernel
theorem dX5_merge_8 : decode cX5_merge 8 = .ok (.iload_n 2, 1) := by decide +kernel
theorem dX5_merge_9 : decode cX5_merge 9 = .ok (.invokestatic 61, 3) := by decide +kernel
theorem dX5_merge_12 : decode cX5_merge 12 = .ok (.ifCond .eq 7, 3) := by decide +kernel
theorem dX5_merge_15 : decode cX5_merge 15 = .ok (.iconst 0, 1) := by decide +kernel
theorem dX5_merge_16 : decode cX5_merge 16 = .ok (.goto 4, 3) := by decide +kernel
theorem dX5_merge_19 : decode cX5_merge 19 = .ok (.iconst 1, 1) := by decide +kernel
theorem dX5_merge_20 : decode cX5_merge 20 = .ok (.invokevirtual 68, 3) := by decide +kernel
theorem dX5_merge_23 : decode cX5_merge 23 = .ok (.ifCond .ne 5, 3) := by decide +kernel
theorem dX5_merge_26 : decode cX5_merge 26 = .ok (.iconst 0, 1) := by decide +kernel
theorem dX5_merge_27 : decode cX5_merge 27 = .ok (.ireturn, 1) := by decide +kernel
theorem dX5_merge_28 : decode cX5_merge 28 = .ok (.iconst 0, 1) := by decide +kernel
theorem dX5_merge_29 : decode cX5_merge 29 = .ok (.istore_n 3, 1) := by decide +kernel
theorem dX5_merge_30 : decode cX5_merge 30 = .ok (.iconst 0, 1) := by decide +kernel
theorem dX5_merge_31 : decode cX5_merge 31 = .ok (.istore 4, 2) := by decide +kernel
theorem dX5_merge_33 : decode cX5_merge 33 = .ok (.iload 4, 2) := by decide +kernel
theorem dX5_merge_35 : decode cX5_merge 35 = .ok (.aload_n 0, 1) := by decide +kernel
theorem dX5_merge_36 : decode cX5_merge 36 = .ok (.getfield 58, 3) := by decide +kernel
theorem dX5_merge_39 : decode cX5_merge 39 = .ok (.if_icmp .ge 68, 3) := by decide +kernel
theorem dX5_merge_42 : decode cX5_merge 42 = .ok (.aload_n 0, 1) := by decide +kernel
theorem dX5_merge_43 : decode cX5_merge 43 = .ok (.iload_n 1, 1) := by decide +kernel
theorem dX5_merge_44 : decode cX5_merge 44 = .ok (.aload_n 0, 1) := by decide +kernel
theorem dX5_merge_45 : decode cX5_merge 45 = .ok (.getfield 15, 3) := by decide +kernel
theorem dX5_merge_48 : decode cX5_merge 48 = .ok (.iload 4, 2) := by decide +kernel
theorem dX5_merge_50 : decode cX5_merge 50 = .ok (.iaload, 1) := by decide +kernel
theorem dX5_merge_51 : decode cX5_merge 51 = .ok (.invokevirtual 54, 3) := by decide +kernel
theorem dX5_merge_54 : decode cX5_merge 54 = .ok (.istore 5, 2) := by decide +kernel
theorem dX5_merge_56 : decode cX5_merge 56 = .ok (.iload_n 3, 1) := by decide +kernel
theorem dX5_merge_57 : decode cX5_merge 57 = .ok (.iload 5, 2) := by decide +kernel
theorem dX5_merge_59 : decode cX5_merge 59 = .ok (.ifCond .eq 39, 3) := by decide +kernel
theorem dX5_merge_62 : decode cX5_merge 62 = .ok (.aload_n 0, 1) := by decide +kernel
theorem dX5_merge_63 : decode cX5_merge 63 = .ok (.iload_n 2, 1) := by decide +kernel
theorem dX5_merge_64 : decode cX5_merge 64 = .ok (.aload_n 0, 1) := by decide +kernel
theorem dX5_merge_65 : decode cX5_merge 65 = .ok (.getfield 15, 3) := by decide +kernel
theorem dX5_merge_68 : decode cX5_merge 68 = .ok (.iload 4, 2) := by decide +kernel
theorem dX5_merge_70 : decode cX5_merge 70 = .ok (.iaload, 1) := by decide +kernel
theorem dX5_merge_71 : decode cX5_merge 71 = .ok (.aload_n 0, 1) := by decide +kernel
theorem dX5_merge_72 : decode cX5_merge 72 = .ok (.getfield 8, 3) := by decide +kernel
theorem dX5_merge_75 : decode cX5_merge 75 = .ok (.ldc 14, 2) := by decide +kernel
theorem dX5_merge_77 : decode cX5_merge 77 = .ok (.iload_n 1, 1) := by decide +kernel
theorem dX5_merge_78 : decode cX5_merge 78 = .ok (.imul, 1) := by decide +kernel
theorem dX5_merge_79 : decode cX5_merge 79 = .ok (.aload_n 0, 1) := by decide +kernel
theorem dX5_merge_80 : decode cX5_merge 80 = .ok (.getfield 15, 3) := by decide +kernel
theorem dX5_merge_83 : decode cX5_merge 83 = .ok (.iload 4, 2) := by decide +kernel
theorem dX5_merge_85 : decode cX5_merge 85 = .ok (.iaload, 1) := by decide +kernel
theorem dX5_merge_86 : decode cX5_merge 86 = .ok (.iadd, 1) := by decide +kernel
theorem dX5_merge_87 : decode cX5_merge 87 = .ok (.iaload, 1) := by decide +kernel
theorem dX5_merge_88 : decode cX5_merge 88 = .ok (.invokevirtual 74, 3) := by decide +kernel
theorem dX5_merge_91 : decode cX5_merge 91 = .ok (.ifCond .eq 7, 3) := by decide +kernel
theorem dX5_merge_94 : decode cX5_merge 94 = .ok (.iconst 1, 1) := by decide +kernel
theorem dX5_merge_95 : decode cX5_merge 95 = .ok (.goto 4, 3) := by decide +kernel
theorem dX5_merge_98 : decode cX5_merge 98 = .ok (.iconst 0, 1) := by decide +kernel
theorem dX5_merge_99 : decode cX5_merge 99 = .ok (.iadd, 1) := by decide +kernel
theorem dX5_merge_100 : decode cX5_merge 100 = .ok (.istore_n 3, 1) := by decide +kernel
theorem dX5_merge_101 : decode cX5_merge 101 = .ok (.iinc 4 1, 3) := by decide +kernel
theorem dX5_merge_104 : decode cX5_merge 104 = .ok (.goto (-71), 3) := by decide +kernel
theorem dX5_merge_107 : decode cX5_merge 107 = .ok (.iload_n 3, 1) := by decide +kernel
theorem dX5_merge_108 : decode cX5_merge 108 = .ok (.ireturn, 1) := by decide +kernel
set_option maxRecDepth 20000 in
theorem ggX5_pass_X5_goesWell : GoodIn wsX5_pass wsX5_goesWell := goodIn_r _ [6, 7, 8, 9, 10, 11, 12, 13, 14, 15, 16, 17, 18, 19, 20, 21] (by decide +kernel) (by decide +kernel)
set_option maxRecDepth 20000 in
theorem gX5_pass_X5_goesWell : GoodIn wsX5_pass (wsV RX5 68 RX5 yX5_goesWell wsX5_goesWell) := goodIn_app (goodIn_of _ (by decide +kernel)) ggX5_pass_X5_goesWell
theorem dX5_pass_0 : decode cX5_pass 0 = .ok (.aload_n 0, 1) := by decide +kernel
theorem dX5_pass_1 : decode cX5_pass 1 = .ok (.iload_n 1, 1) := by decide +kernel
theorem dX5_pass_2 : decode cX5_pass 2 = .ok (.iconst 1, 1) := by decide +kernel
theorem dX5_pass_3 : decode cX5_pass 3 = .ok (.if_icmp .lt 14, 3) := by decide +kernel
theorem dX5_pass_6 : decode cX5_pass 6 = .ok (.iload_n 1, 1) := by decide +kernel
theorem dX5_pass_7 : decode cX5_pass 7 = .ok (.sipush 1000, 3) := by decide +kernel
theorem dX5_pass_10 : decode cX5_pass 10 = .ok (.if_icmp .gt 7, 3) := by decide +kernel
theorem dX5_pass_13 : decode cX5_pass 13 = .ok (.iconst 0, 1) := by decide +kernel
theorem dX5_pass_14 : decode cX5_pass 14 = .ok (.goto 4, 3) := by decide +kernel
theorem dX5_pass_17 : decode cX5_pass 17 = .ok (.iconst 1, 1) := by decide +kernel
theorem dX5_pass_18 : decode cX5_pass 18 = .ok (.invokevirtual 68, 3) := by decide +kernel
theorem dX5_pass_21 : decode cX5_pass 21 = .ok (.ifCond .ne 5, 3) := by decide +kernel
theorem dX5_pass_24 : decode cX5_pass 24 = .ok (.iconst 0, 1) := by decide +kernel
theorem dX5_pass_25 : decode cX5_pass 25 = .ok (.ireturn, 1) := by decide +kernel
theorem dX5_pass_26 : decode cX5_pass 26 = .ok (.aload_n 0, 1) := by decide +kernel
theorem dX5_pass_27 : decode cX5_pass 27 = .ok (.dup, 1) := by decide +kernel
theorem dX5_pass_28 : decode cX5_pass 28 = .ok (.getfield 71, 3) := by decide +kernel
theorem dX5_pass_31 : decode cX5_pass 31 = .ok (.iload_n 1, 1) := by decide +kernel
theorem dX5_pass_32 : decode cX5_pass 32 = .ok (.iadd, 1) := by decide +kernel
theorem dX5_pass_33 : decode cX5_pass 33 = .ok (.putfield 71, 3) := by decide +kernel
theorem dX5_pass_36 : decode cX5_pass 36 = .ok (.aload_n 0, 1) := by decide +kernel
theorem dX5_pass_37 : decode cX5_pass 37 = .ok (.getfield 71, 3) := by decide +kernel
theorem dX5_pass_40 : decode cX5_pass 40 = .ok (.ireturn, 1) := by decide +kernel
theorem dX5_clock_0 : decode cX5_clock 0 = .ok (.aload_n 0, 1) := by decide +kernel
theorem dX5_clock_1 : decode cX5_clock 1 = .ok (.iconst 0, 1) := by decide +kernel
theorem dX5_clock_2 : decode cX5_clock 2 = .ok (.putfield 43, 3) := by decide +kernel
theorem dX5_clock_5 : decode cX5_clock 5 = .ok (.aload_n 0, 1) := by decide +kernel
theorem dX5_clock_6 : decode cX5_clock 6 = .ok (.getfield 71, 3) := by decide +kernel
theorem dX5_clock_9 : decode cX5_clock 9 = .ok (.ireturn, 1) := by decide +kernel
set_option maxRecDepth 20000 in
theorem ggX5_plain_X5_isBasket : GoodIn wsX5_plain wsX5_isBasket := goodIn_r _ [4] (by decide +kernel) (by decide +kernel)
set_option maxRecDepth 20000 in
theorem gX5_plain_X5_isBasket : GoodIn wsX5_plain (va_wsS RX5 61 yX5_isBasket wsX5_isBasket) := goodIn_app (goodIn_of _ (by decide +kernel)) ggX5_plain_X5_isBasket
set_option maxRecDepth 20000 in
theorem ggX5_plain_X5_goesWell : GoodIn wsX5_plain wsX5_goesWell := goodIn_r _ [8, 9, 22, 23, 24, 25, 26, 27, 28, 29, 30, 31, 32, 33, 34, 35] (by decide +kernel) (by decide +kernel)
set_option maxRecDepth 20000 in
theorem gX5_plain_X5_goesWell : GoodIn wsX5_plain (wsV RX5 68 RX5 yX5_goesWell wsX5_goesWell) := goodIn_app (goodIn_of _ (by decide +kernel)) ggX5_plain_X5_goesWell
set_option maxRecDepth 20000 in
theorem ggX5_plain_X5_count : GoodIn wsX5_plain wsX5_count := goodIn_r _ [13, 14, 15, 16, 17, 18, 3, 19, 20, 21, 22, 23, 24, 25, 26, 27, 28, 29, 30, 31, 32, 33, 34, 35] (by decide +kernel) (by decide +kernel)
set_option maxRecDepth 20000 in
theorem gX5_plain_X5_count : GoodIn wsX5_plain (wsV RX5 78 RX5 yX5_count wsX5_count) := goodIn_app (goodIn_of _ (by decide +kernel)) ggX5_plain_X5_count
theorem dX5_plain_0 : decode cX5_plain 0 = .ok (.aload_n 0, 1) := by decide +kernel
theorem dX5_plain_1 : decode cX5_plain 1 = .ok (.iload_n 1, 1) := by decide +kernel
theorem dX5_plain_2 : decode cX5_plain 2 = .ok (.invokestatic 61, 3) := by decide +kernel
theorem dX5_plain_5 : decode cX5_plain 5 = .ok (.ifCond .eq 7, 3) := by decide +kernel
theorem dX5_plain_8 : decode cX5_plain 8 = .ok (.iconst 0, 1) := by decide +kernel
theorem dX5_plain_9 : decode cX5_plain 9 = .ok (.goto 4, 3) := by decide +kernel
theorem dX5_plain_12 : decode cX5_plain 12 = .ok (.iconst 1, 1) := by decide +kernel
theorem dX5_plain_13 : decode cX5_plain 13 = .ok (.invokevirtual 68, 3) := by decide +kernel
theorem dX5_plain_16 : decode cX5_plain 16 = .ok (.ifCond .eq 11, 3) := by decide +kernel
theorem dX5_plain_19 : decode cX5_plain 19 = .ok (.aload_n 0, 1) := by decide +kernel
theorem dX5_plain_20 : decode cX5_plain 20 = .ok (.iload_n 1, 1) := by decide +kernel
theorem dX5_plain_21 : decode cX5_plain 21 = .ok (.invokevirtual 78, 3) := by decide +kernel
theorem dX5_plain_24 : decode cX5_plain 24 = .ok (.goto 4, 3) := by decide +kernel
theorem dX5_plain_27 : decode cX5_plain 27 = .ok (.iconst 0, 1) := by decide +kernel
theorem dX5_plain_28 : decode cX5_plain 28 = .ok (.ireturn, 1) := by decide +kernel
set_option maxRecDepth 20000 in
theorem ggX5_plainCommon_X5_isBasket : GoodIn wsX5_plainCommon wsX5_isBasket := goodIn_r _ [6] (by decide +kernel) (by decide +kernel)
set_option maxRecDepth 20000 in
theorem gX5_plainCommon_X5_isBasket : GoodIn wsX5_plainCommon (va_wsS RX5 61 yX5_isBasket wsX5_isBasket) := goodIn_app (goodIn_of _ (by decide +kernel)) ggX5_plainCommon_X5_isBasket
set_option maxRecDepth 20000 in
theorem ggX5_plainCommon_X5_goesWell : GoodIn wsX5_plainCommon wsX5_goesWell := goodIn_r _ [10, 11, 18, 19, 20, 21, 22, 23, 24, 25, 26, 27, 28, 29, 30, 31] (by decide +kernel) (by decide +kernel)
set_option maxRecDepth 20000 in
theorem gX5_plainCommon_X5_goesWell : GoodIn wsX5_plainCommon (wsV RX5 68 RX5 yX5_goesWell wsX5_goesWell) := goodIn_app (goodIn_of _ (by decide +kernel)) ggX5_plainCommon_X5_goesWell
set_option maxRecDepth 20000 in
theorem ggX5_plainCommon_X5_has : GoodIn wsX5_plainCommon wsX5_has := goodIn_r _ [15, 16, 17, 18, 19, 20, 21, 22, 23, 24, 25, 26, 27, 28, 29, 30, 31] (by decide +kernel) (by decide +kernel)
set_option maxRecDepth 20000 in
theorem gX5_plainCommon_X5_has : GoodIn wsX5_plainCommon (wsV RX5 54 RX5 yX5_has wsX5_has) := goodIn_app (goodIn_of _ (by decide +kernel)) ggX5_plainCommon_X5_has
theorem dX5_plainCommon_0 : decode cX5_plainCommon 0 = .ok (.aload_n 0, 1) := by decide +kernel
theorem dX5_plainCommon_1 : decode cX5_plainCommon 1 = .ok (.iload_n 1, 1) := by decide +kernel
theorem dX5_plainCommon_2 : decode cX5_plainCommon 2 = .ok (.invokestatic 61, 3) := by decide +kernel
theorem dX5_plainCommon_5 : decode cX5_plainCommon 5 = .ok (.ifCond .eq 14, 3) := by decide +kernel
theorem dX5_plainCommon_8 : decode cX5_plainCommon 8 = .ok (.iload_n 2, 1) := by decide +kernel
theorem dX5_plainCommon_9 : decode cX5_plainCommon 9 = .ok (.invokestatic 61, 3) := by decide +kernel
theorem dX5_plainCommon_12 : decode cX5_plainCommon 12 = .ok (.ifCond .eq 7, 3) := by decide +kernel
theorem dX5_plainCommon_15 : decode cX5_plainCommon 15 = .ok (.iconst 0, 1) := by decide +kernel
theorem dX5_plainCommon_16 : decode cX5_plainCommon 16 = .ok (.goto 4, 3) := by decide +kernel
theorem dX5_plainCommon_19 : decode cX5_plainCommon 19 = .ok (.iconst 1, 1) := by decide +kernel
theorem dX5_plainCommon_20 : decode cX5_plainCommon 20 = .ok (.invokevirtual 68, 3) := by decide +kernel
theorem dX5_plainCommon_23 : decode cX5_plainCommon 23 = .ok (.ifCond .ne 5, 3) := by decide +kernel
theorem dX5_plainCommon_26 : decode cX5_plainCommon 26 = .ok (.iconst 0, 1) := by decide +kernel
theorem dX5_plainCommon_27 : decode cX5_plainCommon 27 = .ok (.ireturn, 1) := by decide +kernel
theorem dX5_plainCommon_28 : decode cX5_plainCommon 28 = .ok (.iconst 0, 1) := by decide +kernel
theorem dX5_plainCommon_29 : decode cX5_plainCommon 29 = .ok (.istore_n 3, 1) := by decide +kernel
theorem dX5_plainCommon_30 : decode cX5_plainCommon 30 = .ok (.iconst 0, 1) := by decide +kernel
theorem dX5_plainCommon_31 : decode cX5_plainCommon 31 = .ok (.istore 4, 2) := by decide +kernel
theorem dX5_plainCommon_33 : decode cX5_plainCommon 33 = .ok (.iload 4, 2) := by decide +kernel
theorem dX5_plainCommon_35 : decode cX5_plainCommon 35 = .ok (.aload_n 0, 1) := by decide +kernel
theorem dX5_plainCommon_36 : decode cX5_plainCommon 36 = .ok (.getfield 58, 3) := by decide +kernel
theorem dX5_plainCommon_39 : decode cX5_plainCommon 39 = .ok (.if_icmp .ge 47, 3) := by decide +kernel
theorem dX5_plainCommon_42 : decode cX5_plainCommon 42 = .ok (.iload_n 3, 1) := by decide +kernel
theorem dX5_plainCommon_43 : decode cX5_plainCommon 43 = .ok (.aload_n 0, 1) := by decide +kernel
theorem dX5_plainCommon_44 : decode cX5_plainCommon 44 = .ok (.iload_n 1, 1) := by decide +kernel
theorem dX5_plainCommon_45 : decode cX5_plainCommon 45 = .ok (.aload_n 0, 1) := by decide +kernel
theorem dX5_plainCommon_46 : decode cX5_plainCommon 46 = .ok (.getfield 15, 3) := by decide +kernel
theorem dX5_plainCommon_49 : decode cX5_plainCommon 49 = .ok (.iload 4, 2) := by decide +kernel
theorem dX5_plainCommon_51 : decode cX5_plainCommon 51 = .ok (.iaload, 1) := by decide +kernel
theorem dX5_plainCommon_52 : decode cX5_plainCommon 52 = .ok (.invokevirtual 54, 3) := by decide +kernel
theorem dX5_plainCommon_55 : decode cX5_plainCommon 55 = .ok (.ifCond .eq 22, 3) := by decide +kernel
theorem dX5_plainCommon_58 : decode cX5_plainCommon 58 = .ok (.aload_n 0, 1) := by decide +kernel
theorem dX5_plainCommon_59 : decode cX5_plainCommon 59 = .ok (.iload_n 2, 1) := by decide +kernel
theorem dX5_plainCommon_60 : decode cX5_plainCommon 60 = .ok (.aload_n 0, 1) := by decide +kernel
theorem dX5_plainCommon_61 : decode cX5_plainCommon 61 = .ok (.getfield 15, 3) := by decide +kernel
theorem dX5_plainCommon_64 : decode cX5_plainCommon 64 = .ok (.iload 4, 2) := by decide +kernel
theorem dX5_plainCommon_66 : decode cX5_plainCommon 66 = .ok (.iaload, 1) := by decide +kernel
theorem dX5_plainCommon_67 : decode cX5_plainCommon 67 = .ok (.invokevirtual 54, 3) := by decide +kernel
theorem dX5_plainCommon_70 : decode cX5_plainCommon 70 = .ok (.ifCond .eq 7, 3) := by decide +kernel
theorem dX5_plainCommon_73 : decode cX5_plainCommon 73 = .ok (.iconst 1, 1) := by decide +kernel
theorem dX5_plainCommon_74 : decode cX5_plainCommon 74 = .ok (.goto 4, 3) := by decide +kernel
theorem dX5_plainCommon_77 : decode cX5_plainCommon 77 = .ok (.iconst 0, 1) := by decide +kernel
theorem dX5_plainCommon_78 : decode cX5_plainCommon 78 = .ok (.iadd, 1) := by decide +kernel
theorem dX5_plainCommon_79 : decode cX5_plainCommon 79 = .ok (.istore_n 3, 1) := by decide +kernel
theorem dX5_plainCommon_80 : decode cX5_plainCommon 80 = .ok (.iinc 4 1, 3) := by decide +kernel
theorem dX5_plainCommon_83 : decode cX5_plainCommon 83 = .ok (.goto (-50), 3) := by decide +kernel
theorem dX5_plainCommon_86 : decode cX5_plainCommon 86 = .ok (.iload_n 3, 1) := by decide +kernel
theorem dX5_plainCommon_87 : decode cX5_plainCommon 87 = .ok (.ireturn, 1) := by decide +kernel
set_option maxRecDepth 20000 in
theorem ggX5_dateOf_X5_isBasket : GoodIn wsX5_dateOf wsX5_isBasket := goodIn_r _ [6] (by decide +kernel) (by decide +kernel)
set_option maxRecDepth 20000 in
theorem gX5_dateOf_X5_isBasket : GoodIn wsX5_dateOf (va_wsS RX5 61 yX5_isBasket wsX5_isBasket) := goodIn_app (goodIn_of _ (by decide +kernel)) ggX5_dateOf_X5_isBasket
set_option maxRecDepth 20000 in
theorem ggX5_dateOf_X5_isItem : GoodIn wsX5_dateOf wsX5_isItem := goodIn_r _ [9, 2] (by decide +kernel) (by decide +kernel)
set_option maxRecDepth 20000 in
theorem gX5_dateOf_X5_isItem : GoodIn wsX5_dateOf (va_wsS RX5 65 yX5_isItem wsX5_isItem) := goodIn_app (goodIn_of _ (by decide +kernel)) ggX5_dateOf_X5_isItem
set_option maxRecDepth 20000 in
theorem ggX5_dateOf_X5_goesWell : GoodIn wsX5_dateOf wsX5_goesWell := goodIn_r _ [13, 14, 15, 16, 17, 18, 19, 20, 21, 22, 23, 24, 25, 26, 27, 28] (by decide +kernel) (by decide +kernel)
set_option maxRecDepth 20000 in
theorem gX5_dateOf_X5_goesWell : GoodIn wsX5_dateOf (wsV RX5 68 RX5 yX5_goesWell wsX5_goesWell) := goodIn_app (goodIn_of _ (by decide +kernel)) ggX5_dateOf_X5_goesWell
theorem dX5_dateOf_0 : decode cX5_dateOf 0 = .ok (.aload_n 0, 1) := by decide +kernel
theorem dX5_dateOf_1 : decode cX5_dateOf 1 = .ok (.iload_n 1, 1) := by decide +kernel
theorem dX5_dateOf_2 : decode cX5_dateOf 2 = .ok (.invokestatic 61, 3) := by decide +kernel
theorem dX5_dateOf_5 : decode cX5_dateOf 5 = .ok (.ifCond .ne 7, 3) := by decide +kernel
theorem dX5_dateOf_8 : decode cX5_dateOf 8 = .ok (.iconst 1, 1) := by decide +kernel
theorem dX5_dateOf_9 : decode cX5_dateOf 9 = .ok (.goto 15, 3) := by decide +kernel
theorem dX5_dateOf_12 : decode cX5_dateOf 12 = .ok (.iload_n 2, 1) := by decide +kernel
theorem dX5_dateOf_13 : decode cX5_dateOf 13 = .ok (.invokestatic 65, 3) := by decide +kernel
theorem dX5_dateOf_16 : decode cX5_dateOf 16 = .ok (.ifCond .eq 7, 3) := by decide +kernel
theorem dX5_dateOf_19 : decode cX5_dateOf 19 = .ok (.iconst 0, 1) := by decide +kernel
theorem dX5_dateOf_20 : decode cX5_dateOf 20 = .ok (.goto 4, 3) := by decide +kernel
theorem dX5_dateOf_23 : decode cX5_dateOf 23 = .ok (.iconst 2, 1) := by decide +kernel
theorem dX5_dateOf_24 : decode cX5_dateOf 24 = .ok (.invokevirtual 68, 3) := by decide +kernel
theorem dX5_dateOf_27 : decode cX5_dateOf 27 = .ok (.ifCond .eq 17, 3) := by decide +kernel
theorem dX5_dateOf_30 : decode cX5_dateOf 30 = .ok (.aload_n 0, 1) := by decide +kernel
theorem dX5_dateOf_31 : decode cX5_dateOf 31 = .ok (.getfield 8, 3) := by decide +kernel
theorem dX5_dateOf_34 : decode cX5_dateOf 34 = .ok (.ldc 14, 2) := by decide +kernel
theorem dX5_dateOf_36 : decode cX5_dateOf 36 = .ok (.iload_n 1, 1) := by decide +kernel
theorem dX5_dateOf_37 : decode cX5_dateOf 37 = .ok (.imul, 1) := by decide +kernel
theorem dX5_dateOf_38 : decode cX5_dateOf 38 = .ok (.iload_n 2, 1) := by decide +kernel
theorem dX5_dateOf_39 : decode cX5_dateOf 39 = .ok (.iadd, 1) := by decide +kernel
theorem dX5_dateOf_40 : decode cX5_dateOf 40 = .ok (.iaload, 1) := by decide +kernel
theorem dX5_dateOf_41 : decode cX5_dateOf 41 = .ok (.goto 4, 3) := by decide +kernel
theorem dX5_dateOf_44 : decode cX5_dateOf 44 = .ok (.iconst 0, 1) := by decide +kernel
theorem dX5_dateOf_45 : decode cX5_dateOf 45 = .ok (.ireturn, 1) := by decide +kernel
set_option maxRecDepth 20000 in
theorem ggX5_hash_X5_isItem : GoodIn wsX5_hash wsX5_isItem := goodIn_r _ [4, 5] (by decide +kernel) (by decide +kernel)
set_option maxRecDepth 20000 in
theorem gX5_hash_X5_isItem : GoodIn wsX5_hash (va_wsS RX5 65 yX5_isItem wsX5_isItem) := goodIn_app (goodIn_of _ (by decide +kernel)) ggX5_hash_X5_isItem
set_option maxRecDepth 20000 in
theorem ggX5_hash_X5_goesWell : GoodIn wsX5_hash wsX5_goesWell := goodIn_r _ [9, 10, 18, 19, 20, 21, 22, 23, 24, 25, 26, 27, 28, 29, 30, 31] (by decide +kernel) (by decide +kernel)
set_option maxRecDepth 20000 in
theorem gX5_hash_X5_goesWell : GoodIn wsX5_hash (wsV RX5 68 RX5 yX5_goesWell wsX5_goesWell) := goodIn_app (goodIn_of _ (by decide +kernel)) ggX5_hash_X5_goesWell
set_option maxRecDepth 20000 in
theorem ggX5_hash_X5_hashOf : GoodIn wsX5_hash wsX5_hashOf := goodIn_r _ [13, 14, 15, 16, 17] (by decide +kernel) (by decide +kernel)
set_option maxRecDepth 20000 in
theorem gX5_hash_X5_hashOf : GoodIn wsX5_hash (va_wsS RX5 82 yX5_hashOf wsX5_hashOf) := goodIn_app (goodIn_of _ (by decide +kernel)) ggX5_hash_X5_hashOf
theorem dX5_hash_0 : decode cX5_hash 0 = .ok (.aload_n 0, 1) := by decide +kernel
theorem dX5_hash_1 : decode cX5_hash 1 = .ok (.iload_n 1, 1) := by decide +kernel
theorem dX5_hash_2 : decode cX5_hash 2 = .ok (.invokestatic 65, 3) := by decide +kernel
theorem dX5_hash_5 : decode cX5_hash 5 = .ok (.ifCond .eq 7, 3) := by decide +kernel
theorem dX5_hash_8 : decode cX5_hash 8 = .ok (.iconst 0, 1) := by decide +kernel
theorem dX5_hash_9 : decode cX5_hash 9 = .ok (.goto 4, 3) := by decide +kernel
theorem dX5_hash_12 : decode cX5_hash 12 = .ok (.iconst 1, 1) := by decide +kernel
theorem dX5_hash_13 : decode cX5_hash 13 = .ok (.invokevirtual 68, 3) := by decide +kernel
theorem dX5_hash_16 : decode cX5_hash 16 = .ok (.ifCond .eq 10, 3) := by decide +kernel
theorem dX5_hash_19 : decode cX5_hash 19 = .ok (.iload_n 1, 1) := by decide +kernel
theorem dX5_hash_20 : decode cX5_hash 20 = .ok (.invokestatic 82, 3) := by decide +kernel
theorem dX5_hash_23 : decode cX5_hash 23 = .ok (.goto 4, 3) := by decide +kernel
theorem dX5_hash_26 : decode cX5_hash 26 = .ok (.iconst 0, 1) := by decide +kernel
theorem dX5_hash_27 : decode cX5_hash 27 = .ok (.ireturn, 1) := by decide +kernel
theorem dX5_most_0 : decode cX5_most 0 = .ok (.aload_n 0, 1) := by decide +kernel
theorem dX5_most_1 : decode cX5_most 1 = .ok (.iconst 0, 1) := by decide +kernel
theorem dX5_most_2 : decode cX5_most 2 = .ok (.putfield 43, 3) := by decide +kernel
theorem dX5_most_5 : decode cX5_most 5 = .ok (.aload_n 0, 1) := by decide +kernel
theorem dX5_most_6 : decode cX5_most 6 = .ok (.getfield 39, 3) := by decide +kernel
theorem dX5_most_9 : decode cX5_most 9 = .ok (.ireturn, 1) := by decide +kernel
set_option maxRecDepth 20000 in
theorem ggX5_above_X5_hashOf : GoodIn wsX5_above wsX5_hashOf := goodIn_r _ [6, 7, 8, 9, 10] (by decide +kernel) (by decide +kernel)
set_option maxRecDepth 20000 in
theorem gX5_above_X5_hashOf : GoodIn wsX5_above (va_wsS RX5 82 yX5_hashOf wsX5_hashOf) := goodIn_app (goodIn_of _ (by decide +kernel)) ggX5_above_X5_hashOf
set_option maxRecDepth 20000 in
theorem ggX5_above_X5_has : GoodIn wsX5_above wsX5_has := goodIn_r _ [14, 15, 16, 17, 18, 19, 20, 21, 22, 23, 24, 25, 26, 27, 28, 29, 30] (by decide +kernel) (by decide +kernel)
set_option maxRecDepth 20000 in
theorem gX5_above_X5_has : GoodIn wsX5_above (wsV RX5 54 RX5 yX5_has wsX5_has) := goodIn_app (goodIn_of _ (by decide +kernel)) ggX5_above_X5_has
theorem dX5_above_0 : decode cX5_above 0 = .ok (.iconst (-1), 1) := by decide +kernel
theorem dX5_above_1 : decode cX5_above 1 = .ok (.istore_n 3, 1) := by decide +kernel
theorem dX5_above_2 : decode cX5_above 2 = .ok (.iconst 0, 1) := by decide +kernel
theorem dX5_above_3 : decode cX5_above 3 = .ok (.istore 4, 2) := by decide +kernel
theorem dX5_above_5 : decode cX5_above 5 = .ok (.iload 4, 2) := by decide +kernel
theorem dX5_above_7 : decode cX5_above 7 = .ok (.aload_n 0, 1) := by decide +kernel
theorem dX5_above_8 : decode cX5_above 8 = .ok (.getfield 58, 3) := by decide +kernel
theorem dX5_above_11 : decode cX5_above 11 = .ok (.if_icmp .ge 72, 3) := by decide +kernel
theorem dX5_above_14 : decode cX5_above 14 = .ok (.aload_n 0, 1) := by decide +kernel
theorem dX5_above_15 : decode cX5_above 15 = .ok (.getfield 15, 3) := by decide +kernel
theorem dX5_above_18 : decode cX5_above 18 = .ok (.iload 4, 2) := by decide +kernel
theorem dX5_above_20 : decode cX5_above 20 = .ok (.iaload, 1) := by decide +kernel
theorem dX5_above_21 : decode cX5_above 21 = .ok (.invokestatic 82, 3) := by decide +kernel
theorem dX5_above_24 : decode cX5_above 24 = .ok (.istore 5, 2) := by decide +kernel
theorem dX5_above_26 : decode cX5_above 26 = .ok (.aload_n 0, 1) := by decide +kernel
theorem dX5_above_27 : decode cX5_above 27 = .ok (.iload_n 1, 1) := by decide +kernel
theorem dX5_above_28 : decode cX5_above 28 = .ok (.aload_n 0, 1) := by decide +kernel
theorem dX5_above_29 : decode cX5_above 29 = .ok (.getfield 15, 3) := by decide +kernel
theorem dX5_above_32 : decode cX5_above 32 = .ok (.iload 4, 2) := by decide +kernel
theorem dX5_above_34 : decode cX5_above 34 = .ok (.iaload, 1) := by decide +kernel
theorem dX5_above_35 : decode cX5_above 35 = .ok (.invokevirtual 54, 3) := by decide +kernel
theorem dX5_above_38 : decode cX5_above 38 = .ok (.ifCond .eq 24, 3) := by decide +kernel
theorem dX5_above_41 : decode cX5_above 41 = .ok (.iload 5, 2) := by decide +kernel
theorem dX5_above_43 : decode cX5_above 43 = .ok (.iload_n 2, 1) := by decide +kernel
theorem dX5_above_44 : decode cX5_above 44 = .ok (.if_icmp .le 18, 3) := by decide +kernel
theorem dX5_above_47 : decode cX5_above 47 = .ok (.iload_n 3, 1) := by decide +kernel
theorem dX5_above_48 : decode cX5_above 48 = .ok (.iconst (-1), 1) := by decide +kernel
theorem dX5_above_49 : decode cX5_above 49 = .ok (.if_icmp .eq 9, 3) := by decide +kernel
theorem dX5_above_52 : decode cX5_above 52 = .ok (.iload 5, 2) := by decide +kernel
theorem dX5_above_54 : decode cX5_above 54 = .ok (.iload_n 3, 1) := by decide +kernel
theorem dX5_above_55 : decode cX5_above 55 = .ok (.if_icmp .ge 7, 3) := by decide +kernel
theorem dX5_above_58 : decode cX5_above 58 = .ok (.iconst 1, 1) := by decide +kernel
theorem dX5_above_59 : decode cX5_above 59 = .ok (.goto 4, 3) := by decide +kernel
theorem dX5_above_62 : decode cX5_above 62 = .ok (.iconst 0, 1) := by decide +kernel
theorem dX5_above_63 : decode cX5_above 63 = .ok (.istore 6, 2) := by decide +kernel
theorem dX5_above_65 : decode cX5_above 65 = .ok (.iload 6, 2) := by decide +kernel
theorem dX5_above_67 : decode cX5_above 67 = .ok (.ifCond .eq 8, 3) := by decide +kernel
theorem dX5_above_70 : decode cX5_above 70 = .ok (.iload 5, 2) := by decide +kernel
theorem dX5_above_72 : decode cX5_above 72 = .ok (.goto 4, 3) := by decide +kernel
theorem dX5_above_75 : decode cX5_above 75 = .ok (.iload_n 3, 1) := by decide +kernel
theorem dX5_above_76 : decode cX5_above 76 = .ok (.istore_n 3, 1) := by decide +kernel
theorem dX5_above_77 : decode cX5_above 77 = .ok (.iinc 4 1, 3) := by decide +kernel
theorem dX5_above_80 : decode cX5_above 80 = .ok (.goto (-75), 3) := by decide +kernel
theorem dX5_above_83 : decode cX5_above 83 = .ok (.iload_n 3, 1) := by decide +kernel
theorem dX5_above_84 : decode cX5_above 84 = .ok (.ireturn, 1) := by decide +kernel
set_option maxRecDepth 20000 in
theorem ggX5_layKept_X5_above : GoodIn wsX5_layKept wsX5_above := goodIn_r _ [7, 8, 9, 10, 11, 6, 12, 13, 14, 15, 16, 17, 18, 19, 20, 21, 22, 23, 24, 25, 26, 27, 28, 29, 30, 31, 32, 33, 34, 35, 36] (by decide +kernel) (by decide +kernel)
set_option maxRecDepth 20000 in
theorem gX5_layKept_X5_above : GoodIn wsX5_layKept (wsV RX5 85 RX5 yX5_above wsX5_above) := goodIn_app (goodIn_of _ (by decide +kernel)) ggX5_layKept_X5_above
theorem dX5_layKept_0 : decode cX5_layKept 0 = .ok (.iconst 0, 1) := by decide +kernel
theorem dX5_layKept_1 : decode cX5_layKept 1 = .ok (.istore_n 2, 1) := by decide +kernel
theorem dX5_layKept_2 : decode cX5_layKept 2 = .ok (.aload_n 0, 1) := by decide +kernel
theorem dX5_layKept_3 : decode cX5_layKept 3 = .ok (.iload_n 1, 1) := by decide +kernel
theorem dX5_layKept_4 : decode cX5_layKept 4 = .ok (.iconst (-1), 1) := by decide +kernel
theorem dX5_layKept_5 : decode cX5_layKept 5 = .ok (.invokevirtual 85, 3) := by decide +kernel
theorem dX5_layKept_8 : decode cX5_layKept 8 = .ok (.istore_n 3, 1) := by decide +kernel
theorem dX5_layKept_9 : decode cX5_layKept 9 = .ok (.iload_n 3, 1) := by decide +kernel
theorem dX5_layKept_10 : decode cX5_layKept 10 = .ok (.iconst (-1), 1) := by decide +kernel
theorem dX5_layKept_11 : decode cX5_layKept 11 = .ok (.if_icmp .eq 31, 3) := by decide +kernel
theorem dX5_layKept_14 : decode cX5_layKept 14 = .ok (.iload_n 2, 1) := by decide +kernel
theorem dX5_layKept_15 : decode cX5_layKept 15 = .ok (.aload_n 0, 1) := by decide +kernel
theorem dX5_layKept_16 : decode cX5_layKept 16 = .ok (.getfield 39, 3) := by decide +kernel
theorem dX5_layKept_19 : decode cX5_layKept 19 = .ok (.if_icmp .ge 23, 3) := by decide +kernel
theorem dX5_layKept_22 : decode cX5_layKept 22 = .ok (.aload_n 0, 1) := by decide +kernel
theorem dX5_layKept_23 : decode cX5_layKept 23 = .ok (.getfield 22, 3) := by decide +kernel
theorem dX5_layKept_26 : decode cX5_layKept 26 = .ok (.iload_n 2, 1) := by decide +kernel
theorem dX5_layKept_27 : decode cX5_layKept 27 = .ok (.iload_n 3, 1) := by decide +kernel
theorem dX5_layKept_28 : decode cX5_layKept 28 = .ok (.iastore, 1) := by decide +kernel
theorem dX5_layKept_29 : decode cX5_layKept 29 = .ok (.iinc 2 1, 3) := by decide +kernel
theorem dX5_layKept_32 : decode cX5_layKept 32 = .ok (.aload_n 0, 1) := by decide +kernel
theorem dX5_layKept_33 : decode cX5_layKept 33 = .ok (.iload_n 1, 1) := by decide +kernel
theorem dX5_layKept_34 : decode cX5_layKept 34 = .ok (.iload_n 3, 1) := by decide +kernel
theorem dX5_layKept_35 : decode cX5_layKept 35 = .ok (.invokevirtual 85, 3) := by decide +kernel
theorem dX5_layKept_38 : decode cX5_layKept 38 = .ok (.istore_n 3, 1) := by decide +kernel
theorem dX5_layKept_39 : decode cX5_layKept 39 = .ok (.goto (-30), 3) := by decide +kernel
theorem dX5_layKept_42 : decode cX5_layKept 42 = .ok (.iload_n 2, 1) := by decide +kernel
theorem dX5_layKept_43 : decode cX5_layKept 43 = .ok (.ireturn, 1) := by decide +kernel
theorem dX5_estimate_0 : decode cX5_estimate 0 = .ok (.iload_n 1, 1) := by decide +kernel
theorem dX5_estimate_1 : decode cX5_estimate 1 = .ok (.aload_n 0, 1) := by decide +kernel
theorem dX5_estimate_2 : decode cX5_estimate 2 = .ok (.getfield 39, 3) := by decide +kernel
theorem dX5_estimate_5 : decode cX5_estimate 5 = .ok (.if_icmp .ge 8, 3) := by decide +kernel
theorem dX5_estimate_8 : decode cX5_estimate 8 = .ok (.iload_n 1, 1) := by decide +kernel
theorem dX5_estimate_9 : decode cX5_estimate 9 = .ok (.i2l, 1) := by decide +kernel
theorem dX5_estimate_10 : decode cX5_estimate 10 = .ok (.goto 17, 3) := by decide +kernel
theorem dX5_estimate_13 : decode cX5_estimate 13 = .ok (.aload_n 0, 1) := by decide +kernel
theorem dX5_estimate_14 : decode cX5_estimate 14 = .ok (.getfield 39, 3) := by decide +kernel
theorem dX5_estimate_17 : decode cX5_estimate 17 = .ok (.i2l, 1) := by decide +kernel
theorem dX5_estimate_18 : decode cX5_estimate 18 = .ok (.lconst 1, 1) := by decide +kernel
theorem dX5_estimate_19 : decode cX5_estimate 19 = .ok (.lsub, 1) := by decide +kernel
theorem dX5_estimate_20 : decode cX5_estimate 20 = .ok (.ldc2_w 52, 3) := by decide +kernel
theorem dX5_estimate_23 : decode cX5_estimate 23 = .ok (.lmul, 1) := by decide +kernel
theorem dX5_estimate_24 : decode cX5_estimate 24 = .ok (.iload_n 2, 1) := by decide +kernel
theorem dX5_estimate_25 : decode cX5_estimate 25 = .ok (.i2l, 1) := by decide +kernel
theorem dX5_estimate_26 : decode cX5_estimate 26 = .ok (.ldiv, 1) := by decide +kernel
theorem dX5_estimate_27 : decode cX5_estimate 27 = .ok (.lreturn, 1) := by decide +kernel
set_option maxRecDepth 20000 in
theorem ggX5_kept_X5_isBasket : GoodIn wsX5_kept wsX5_isBasket := goodIn_r _ [4] (by decide +kernel) (by decide +kernel)
set_option maxRecDepth 20000 in
theorem gX5_kept_X5_isBasket : GoodIn wsX5_kept (va_wsS RX5 61 yX5_isBasket wsX5_isBasket) := goodIn_app (goodIn_of _ (by decide +kernel)) ggX5_kept_X5_isBasket
set_option maxRecDepth 20000 in
theorem ggX5_kept_X5_goesWell : GoodIn wsX5_kept wsX5_goesWell := goodIn_r _ [8, 9, 35, 36, 37, 38, 39, 40, 41, 42, 43, 44, 45, 46, 47, 48] (by decide +kernel) (by decide +kernel)
set_option maxRecDepth 20000 in
theorem gX5_kept_X5_goesWell : GoodIn wsX5_kept (wsV RX5 68 RX5 yX5_goesWell wsX5_goesWell) := goodIn_app (goodIn_of _ (by decide +kernel)) ggX5_kept_X5_goesWell
set_option maxRecDepth 20000 in
theorem ggX5_kept_X5_layKept : GoodIn wsX5_kept wsX5_layKept := goodIn_r _ [13, 14, 15, 16, 17, 18, 3, 19, 20, 21, 22, 23, 24, 25, 26, 27, 28, 29, 30, 31, 32, 33, 34, 35, 36, 37, 38, 39, 40, 41, 42, 43, 44, 45, 46, 47, 48] (by decide +kernel) (by decide +kernel)
set_option maxRecDepth 20000 in
theorem gX5_kept_X5_layKept : GoodIn wsX5_kept (wsV RX5 89 RX5 yX5_layKept wsX5_layKept) := goodIn_app (goodIn_of _ (by decide +kernel)) ggX5_kept_X5_layKept
theorem dX5_kept_0 : decode cX5_kept 0 = .ok (.aload_n 0, 1) := by decide +kernel
theorem dX5_kept_1 : decode cX5_kept 1 = .ok (.iload_n 1, 1) := by decide +kernel
theorem dX5_kept_2 : decode cX5_kept 2 = .ok (.invokestatic 61, 3) := by decide +kernel
theorem dX5_kept_5 : decode cX5_kept 5 = .ok (.ifCond .eq 7, 3) := by decide +kernel
theorem dX5_kept_8 : decode cX5_kept 8 = .ok (.iconst 0, 1) := by decide +kernel
theorem dX5_kept_9 : decode cX5_kept 9 = .ok (.goto 4, 3) := by decide +kernel
theorem dX5_kept_12 : decode cX5_kept 12 = .ok (.iconst 1, 1) := by decide +kernel
theorem dX5_kept_13 : decode cX5_kept 13 = .ok (.invokevirtual 68, 3) := by decide +kernel
theorem dX5_kept_16 : decode cX5_kept 16 = .ok (.ifCond .eq 11, 3) := by decide +kernel
theorem dX5_kept_19 : decode cX5_kept 19 = .ok (.aload_n 0, 1) := by decide +kernel
theorem dX5_kept_20 : decode cX5_kept 20 = .ok (.iload_n 1, 1) := by decide +kernel
theorem dX5_kept_21 : decode cX5_kept 21 = .ok (.invokevirtual 89, 3) := by decide +kernel
theorem dX5_kept_24 : decode cX5_kept 24 = .ok (.goto 4, 3) := by decide +kernel
theorem dX5_kept_27 : decode cX5_kept 27 = .ok (.iconst 0, 1) := by decide +kernel
theorem dX5_kept_28 : decode cX5_kept 28 = .ok (.ireturn, 1) := by decide +kernel
set_option maxRecDepth 20000 in
theorem ggX5_keptAt_X5_isBasket : GoodIn wsX5_keptAt wsX5_isBasket := goodIn_r _ [5] (by decide +kernel) (by decide +kernel)
set_option maxRecDepth 20000 in
theorem gX5_keptAt_X5_isBasket : GoodIn wsX5_keptAt (va_wsS RX5 61 yX5_isBasket wsX5_isBasket) := goodIn_app (goodIn_of _ (by decide +kernel)) ggX5_keptAt_X5_isBasket
set_option maxRecDepth 20000 in
theorem ggX5_keptAt_X5_layKept : GoodIn wsX5_keptAt wsX5_layKept := goodIn_r _ [9, 10, 1, 11, 12, 13, 4, 14, 15, 16, 17, 18, 19, 20, 21, 22, 23, 24, 25, 26, 27, 28, 29, 35, 36, 37, 38, 39, 40, 41, 42, 43, 44, 45, 46, 47, 48] (by decide +kernel) (by decide +kernel)
set_option maxRecDepth 20000 in
theorem gX5_keptAt_X5_layKept : GoodIn wsX5_keptAt (wsV RX5 89 RX5 yX5_layKept wsX5_layKept) := goodIn_app (goodIn_of _ (by decide +kernel)) ggX5_keptAt_X5_layKept
set_option maxRecDepth 20000 in
theorem ggX5_keptAt_X5_goesWell : GoodIn wsX5_keptAt wsX5_goesWell := goodIn_r _ [33, 34, 35, 36, 37, 38, 39, 40, 41, 42, 43, 44, 45, 46, 47, 48] (by decide +kernel) (by decide +kernel)
set_option maxRecDepth 20000 in
theorem gX5_keptAt_X5_goesWell : GoodIn wsX5_keptAt (wsV RX5 68 RX5 yX5_goesWell wsX5_goesWell) := goodIn_app (goodIn_of _ (by decide +kernel)) ggX5_keptAt_X5_goesWell
theorem dX5_keptAt_0 : decode cX5_keptAt 0 = .ok (.iload_n 1, 1) := by decide +kernel
theorem dX5_keptAt_1 : decode cX5_keptAt 1 = .ok (.invokestatic 61, 3) := by decide +kernel
theorem dX5_keptAt_4 : decode cX5_keptAt 4 = .ok (.ifCond .eq 11, 3) := by decide +kernel
theorem dX5_keptAt_7 : decode cX5_keptAt 7 = .ok (.aload_n 0, 1) := by decide +kernel
theorem dX5_keptAt_8 : decode cX5_keptAt 8 = .ok (.iload_n 1, 1) := by decide +kernel
theorem dX5_keptAt_9 : decode cX5_keptAt 9 = .ok (.invokevirtual 89, 3) := by decide +kernel
theorem dX5_keptAt_12 : decode cX5_keptAt 12 = .ok (.goto 4, 3) := by decide +kernel
theorem dX5_keptAt_15 : decode cX5_keptAt 15 = .ok (.iconst 0, 1) := by decide +kernel
theorem dX5_keptAt_16 : decode cX5_keptAt 16 = .ok (.istore_n 3, 1) := by decide +kernel
theorem dX5_keptAt_17 : decode cX5_keptAt 17 = .ok (.aload_n 0, 1) := by decide +kernel
theorem dX5_keptAt_18 : decode cX5_keptAt 18 = .ok (.iload_n 2, 1) := by decide +kernel
theorem dX5_keptAt_19 : decode cX5_keptAt 19 = .ok (.ifCond .lt 12, 3) := by decide +kernel
theorem dX5_keptAt_22 : decode cX5_keptAt 22 = .ok (.iload_n 2, 1) := by decide +kernel
theorem dX5_keptAt_23 : decode cX5_keptAt 23 = .ok (.iload_n 3, 1) := by decide +kernel
theorem dX5_keptAt_24 : decode cX5_keptAt 24 = .ok (.if_icmp .ge 7, 3) := by decide +kernel
theorem dX5_keptAt_27 : decode cX5_keptAt 27 = .ok (.iconst 0, 1) := by decide +kernel
theorem dX5_keptAt_28 : decode cX5_keptAt 28 = .ok (.goto 4, 3) := by decide +kernel
theorem dX5_keptAt_31 : decode cX5_keptAt 31 = .ok (.iconst 1, 1) := by decide +kernel
theorem dX5_keptAt_32 : decode cX5_keptAt 32 = .ok (.invokevirtual 68, 3) := by decide +kernel
theorem dX5_keptAt_35 : decode cX5_keptAt 35 = .ok (.ifCond .eq 12, 3) := by decide +kernel
theorem dX5_keptAt_38 : decode cX5_keptAt 38 = .ok (.aload_n 0, 1) := by decide +kernel
theorem dX5_keptAt_39 : decode cX5_keptAt 39 = .ok (.getfield 22, 3) := by decide +kernel
theorem dX5_keptAt_42 : decode cX5_keptAt 42 = .ok (.iload_n 2, 1) := by decide +kernel
theorem dX5_keptAt_43 : decode cX5_keptAt 43 = .ok (.iaload, 1) := by decide +kernel
theorem dX5_keptAt_44 : decode cX5_keptAt 44 = .ok (.goto 4, 3) := by decide +kernel
theorem dX5_keptAt_47 : decode cX5_keptAt 47 = .ok (.iconst 0, 1) := by decide +kernel
theorem dX5_keptAt_48 : decode cX5_keptAt 48 = .ok (.ireturn, 1) := by decide +kernel
set_option maxRecDepth 20000 in
theorem ggX5_byLeast_X5_isBasket : GoodIn wsX5_byLeast wsX5_isBasket := goodIn_r _ [5] (by decide +kernel) (by decide +kernel)
set_option maxRecDepth 20000 in
theorem gX5_byLeast_X5_isBasket : GoodIn wsX5_byLeast (va_wsS RX5 61 yX5_isBasket wsX5_isBasket) := goodIn_app (goodIn_of _ (by decide +kernel)) ggX5_byLeast_X5_isBasket
set_option maxRecDepth 20000 in
theorem ggX5_byLeast_X5_goesWell : GoodIn wsX5_byLeast wsX5_goesWell := goodIn_r _ [9, 10, 39, 40, 41, 42, 43, 44, 45, 46, 47, 48, 49, 50, 51, 52] (by decide +kernel) (by decide +kernel)
set_option maxRecDepth 20000 in
theorem gX5_byLeast_X5_goesWell : GoodIn wsX5_byLeast (wsV RX5 68 RX5 yX5_goesWell wsX5_goesWell) := goodIn_app (goodIn_of _ (by decide +kernel)) ggX5_byLeast_X5_goesWell
set_option maxRecDepth 20000 in
theorem ggX5_byLeast_X5_layKept : GoodIn wsX5_byLeast wsX5_layKept := goodIn_r _ [14, 15, 1, 16, 17, 18, 4, 19, 20, 21, 22, 23, 24, 25, 26, 27, 28, 29, 30, 31, 32, 33, 34, 39, 40, 41, 42, 43, 44, 45, 46, 47, 48, 49, 50, 51, 52] (by decide +kernel) (by decide +kernel)
set_option maxRecDepth 20000 in
theorem gX5_byLeast_X5_layKept : GoodIn wsX5_byLeast (wsV RX5 89 RX5 yX5_layKept wsX5_layKept) := goodIn_app (goodIn_of _ (by decide +kernel)) ggX5_byLeast_X5_layKept
set_option maxRecDepth 20000 in
theorem ggX5_byLeast_X5_estimate : GoodIn wsX5_byLeast wsX5_estimate := goodIn_r _ [38, 15, 28, 39, 40, 41, 42, 43, 44, 45, 46, 47, 48, 49, 50, 51, 52] (by decide +kernel) (by decide +kernel)
set_option maxRecDepth 20000 in
theorem gX5_byLeast_X5_estimate : GoodIn wsX5_byLeast (wsV RX5 92 RX5 yX5_estimate wsX5_estimate) := goodIn_app (goodIn_of _ (by decide +kernel)) ggX5_byLeast_X5_estimate
theorem dX5_byLeast_0 : decode cX5_byLeast 0 = .ok (.aload_n 0, 1) := by decide +kernel
theorem dX5_byLeast_1 : decode cX5_byLeast 1 = .ok (.iload_n 1, 1) := by decide +kernel
theorem dX5_byLeast_2 : decode cX5_byLeast 2 = .ok (.invokestatic 61, 3) := by decide +kernel
theorem dX5_byLeast_5 : decode cX5_byLeast 5 = .ok (.ifCond .eq 7, 3) := by decide +kernel
theorem dX5_byLeast_8 : decode cX5_byLeast 8 = .ok (.iconst 0, 1) := by decide +kernel
theorem dX5_byLeast_9 : decode cX5_byLeast 9 = .ok (.goto 4, 3) := by decide +kernel
theorem dX5_byLeast_12 : decode cX5_byLeast 12 = .ok (.iconst 1, 1) := by decide +kernel
theorem dX5_byLeast_13 : decode cX5_byLeast 13 = .ok (.invokevirtual 68, 3) := by decide +kernel
theorem dX5_byLeast_16 : decode cX5_byLeast 16 = .ok (.ifCond .ne 5, 3) := by decide +kernel
theorem dX5_byLeast_19 : decode cX5_byLeast 19 = .ok (.iconst 0, 1) := by decide +kernel
theorem dX5_byLeast_20 : decode cX5_byLeast 20 = .ok (.ireturn, 1) := by decide +kernel
theorem dX5_byLeast_21 : decode cX5_byLeast 21 = .ok (.aload_n 0, 1) := by decide +kernel
theorem dX5_byLeast_22 : decode cX5_byLeast 22 = .ok (.iload_n 1, 1) := by decide +kernel
theorem dX5_byLeast_23 : decode cX5_byLeast 23 = .ok (.invokevirtual 89, 3) := by decide +kernel
theorem dX5_byLeast_26 : decode cX5_byLeast 26 = .ok (.istore_n 2, 1) := by decide +kernel
theorem dX5_byLeast_27 : decode cX5_byLeast 27 = .ok (.aload_n 0, 1) := by decide +kernel
theorem dX5_byLeast_28 : decode cX5_byLeast 28 = .ok (.iload_n 2, 1) := by decide +kernel
theorem dX5_byLeast_29 : decode cX5_byLeast 29 = .ok (.iload_n 2, 1) := by decide +kernel
theorem dX5_byLeast_30 : decode cX5_byLeast 30 = .ok (.ifCond .ne 7, 3) := by decide +kernel
theorem dX5_byLeast_33 : decode cX5_byLeast 33 = .ok (.iconst 1, 1) := by decide +kernel
theorem dX5_byLeast_34 : decode cX5_byLeast 34 = .ok (.goto 11, 3) := by decide +kernel
theorem dX5_byLeast_37 : decode cX5_byLeast 37 = .ok (.aload_n 0, 1) := by decide +kernel
theorem dX5_byLeast_38 : decode cX5_byLeast 38 = .ok (.getfield 22, 3) := by decide +kernel
theorem dX5_byLeast_41 : decode cX5_byLeast 41 = .ok (.iload_n 2, 1) := by decide +kernel
theorem dX5_byLeast_42 : decode cX5_byLeast 42 = .ok (.iconst 1, 1) := by decide +kernel
theorem dX5_byLeast_43 : decode cX5_byLeast 43 = .ok (.isub, 1) := by decide +kernel
theorem dX5_byLeast_44 : decode cX5_byLeast 44 = .ok (.iaload, 1) := by decide +kernel
theorem dX5_byLeast_45 : decode cX5_byLeast 45 = .ok (.invokevirtual 92, 3) := by decide +kernel
theorem dX5_byLeast_48 : decode cX5_byLeast 48 = .ok (.l2i, 1) := by decide +kernel
theorem dX5_byLeast_49 : decode cX5_byLeast 49 = .ok (.ireturn, 1) := by decide +kernel
set_option maxRecDepth 20000 in
theorem ggX5_layBoth_X5_layKept : GoodIn wsX5_layBoth wsX5_layKept := goodIn_r _ [12, 5, 3, 13, 14, 15, 11, 16, 17, 18, 19, 20, 21, 22, 23, 24, 25, 26, 27, 28, 29, 30, 31, 32, 33, 34, 35, 36, 37, 38, 39, 40, 41, 42, 43, 44, 45] (by decide +kernel) (by decide +kernel)
set_option maxRecDepth 20000 in
theorem gX5_layBoth_X5_layKept : GoodIn wsX5_layBoth (wsV RX5 89 RX5 yX5_layKept wsX5_layKept) := goodIn_app (goodIn_of _ (by decide +kernel)) ggX5_layBoth_X5_layKept
theorem dX5_layBoth_0 : decode cX5_layBoth 0 = .ok (.aload_n 0, 1) := by decide +kernel
theorem dX5_layBoth_1 : decode cX5_layBoth 1 = .ok (.aload_n 0, 1) := by decide +kernel
theorem dX5_layBoth_2 : decode cX5_layBoth 2 = .ok (.iload_n 2, 1) := by decide +kernel
theorem dX5_layBoth_3 : decode cX5_layBoth 3 = .ok (.invokevirtual 89, 3) := by decide +kernel
theorem dX5_layBoth_6 : decode cX5_layBoth 6 = .ok (.putfield 96, 3) := by decide +kernel
theorem dX5_layBoth_9 : decode cX5_layBoth 9 = .ok (.iconst 0, 1) := by decide +kernel
theorem dX5_layBoth_10 : decode cX5_layBoth 10 = .ok (.istore_n 3, 1) := by decide +kernel
theorem dX5_layBoth_11 : decode cX5_layBoth 11 = .ok (.iload_n 3, 1) := by decide +kernel
theorem dX5_layBoth_12 : decode cX5_layBoth 12 = .ok (.aload_n 0, 1) := by decide +kernel
theorem dX5_layBoth_13 : decode cX5_layBoth 13 = .ok (.getfield 96, 3) := by decide +kernel
theorem dX5_layBoth_16 : decode cX5_layBoth 16 = .ok (.if_icmp .ge 21, 3) := by decide +kernel
theorem dX5_layBoth_19 : decode cX5_layBoth 19 = .ok (.aload_n 0, 1) := by decide +kernel
theorem dX5_layBoth_20 : decode cX5_layBoth 20 = .ok (.getfield 25, 3) := by decide +kernel
theorem dX5_layBoth_23 : decode cX5_layBoth 23 = .ok (.iload_n 3, 1) := by decide +kernel
theorem dX5_layBoth_24 : decode cX5_layBoth 24 = .ok (.aload_n 0, 1) := by decide +kernel
theorem dX5_layBoth_25 : decode cX5_layBoth 25 = .ok (.getfield 22, 3) := by decide +kernel
theorem dX5_layBoth_28 : decode cX5_layBoth 28 = .ok (.iload_n 3, 1) := by decide +kernel
theorem dX5_layBoth_29 : decode cX5_layBoth 29 = .ok (.iaload, 1) := by decide +kernel
theorem dX5_layBoth_30 : decode cX5_layBoth 30 = .ok (.iastore, 1) := by decide +kernel
theorem dX5_layBoth_31 : decode cX5_layBoth 31 = .ok (.iinc 3 1, 3) := by decide +kernel
theorem dX5_layBoth_34 : decode cX5_layBoth 34 = .ok (.goto (-23), 3) := by decide +kernel
theorem dX5_layBoth_37 : decode cX5_layBoth 37 = .ok (.aload_n 0, 1) := by decide +kernel
theorem dX5_layBoth_38 : decode cX5_layBoth 38 = .ok (.aload_n 0, 1) := by decide +kernel
theorem dX5_layBoth_39 : decode cX5_layBoth 39 = .ok (.iload_n 1, 1) := by decide +kernel
theorem dX5_layBoth_40 : decode cX5_layBoth 40 = .ok (.invokevirtual 89, 3) := by decide +kernel
theorem dX5_layBoth_43 : decode cX5_layBoth 43 = .ok (.putfield 99, 3) := by decide +kernel
theorem dX5_layBoth_46 : decode cX5_layBoth 46 = .ok (.iconst 0, 1) := by decide +kernel
theorem dX5_layBoth_47 : decode cX5_layBoth 47 = .ok (.istore_n 3, 1) := by decide +kernel
theorem dX5_layBoth_48 : decode cX5_layBoth 48 = .ok (.iconst 0, 1) := by decide +kernel
theorem dX5_layBoth_49 : decode cX5_layBoth 49 = .ok (.istore 4, 2) := by decide +kernel
theorem dX5_layBoth_51 : decode cX5_layBoth 51 = .ok (.iconst 0, 1) := by decide +kernel
theorem dX5_layBoth_52 : decode cX5_layBoth 52 = .ok (.istore 5, 2) := by decide +kernel
theorem dX5_layBoth_54 : decode cX5_layBoth 54 = .ok (.iload_n 3, 1) := by decide +kernel
theorem dX5_layBoth_55 : decode cX5_layBoth 55 = .ok (.aload_n 0, 1) := by decide +kernel
theorem dX5_layBoth_56 : decode cX5_layBoth 56 = .ok (.getfield 39, 3) := by decide +kernel
theorem dX5_layBoth_59 : decode cX5_layBoth 59 = .ok (.if_icmp .ge 135, 3) := by decide +kernel
theorem dX5_layBoth_62 : decode cX5_layBoth 62 = .ok (.iload 4, 2) := by decide +kernel
theorem dX5_layBoth_64 : decode cX5_layBoth 64 = .ok (.aload_n 0, 1) := by decide +kernel
theorem dX5_layBoth_65 : decode cX5_layBoth 65 = .ok (.getfield 99, 3) := by decide +kernel
theorem dX5_layBoth_68 : decode cX5_layBoth 68 = .ok (.if_icmp .lt 12, 3) := by decide +kernel
theorem dX5_layBoth_71 : decode cX5_layBoth 71 = .ok (.iload 5, 2) := by decide +kernel
theorem dX5_layBoth_73 : decode cX5_layBoth 73 = .ok (.aload_n 0, 1) := by decide +kernel
theorem dX5_layBoth_74 : decode cX5_layBoth 74 = .ok (.getfield 96, 3) := by decide +kernel
theorem dX5_layBoth_77 : decode cX5_layBoth 77 = .ok (.if_icmp .ge 117, 3) := by decide +kernel
theorem dX5_layBoth_80 : decode cX5_layBoth 80 = .ok (.iload 4, 2) := by decide +kernel
theorem dX5_layBoth_82 : decode cX5_layBoth 82 = .ok (.aload_n 0, 1) := by decide +kernel
theorem dX5_layBoth_83 : decode cX5_layBoth 83 = .ok (.getfield 99, 3) := by decide +kernel
theorem dX5_layBoth_86 : decode cX5_layBoth 86 = .ok (.if_icmp .ge 13, 3) := by decide +kernel
theorem dX5_layBoth_89 : decode cX5_layBoth 89 = .ok (.aload_n 0, 1) := by decide +kernel
theorem dX5_layBoth_90 : decode cX5_layBoth 90 = .ok (.getfield 22, 3) := by decide +kernel
theorem dX5_layBoth_93 : decode cX5_layBoth 93 = .ok (.iload 4, 2) := by decide +kernel
theorem dX5_layBoth_95 : decode cX5_layBoth 95 = .ok (.iaload, 1) := by decide +kernel
theorem dX5_layBoth_96 : decode cX5_layBoth 96 = .ok (.goto 5, 3) := by decide +kernel
theorem dX5_layBoth_99 : decode cX5_layBoth 99 = .ok (.ldc 102, 2) := by decide +kernel
theorem dX5_layBoth_101 : decode cX5_layBoth 101 = .ok (.istore 6, 2) := by decide +kernel
theorem dX5_layBoth_103 : decode cX5_layBoth 103 = .ok (.iload 5, 2) := by decide +kernel
theorem dX5_layBoth_105 : decode cX5_layBoth 105 = .ok (.aload_n 0, 1) := by decide +kernel
theorem dX5_layBoth_106 : decode cX5_layBoth 106 = .ok (.getfield 96, 3) := by decide +kernel
theorem dX5_layBoth_109 : decode cX5_layBoth 109 = .ok (.if_icmp .ge 13, 3) := by decide +kernel
theorem dX5_layBoth_112 : decode cX5_layBoth 112 = .ok (.aload_n 0, 1) := by decide +kernel
theorem dX5_layBoth_113 : decode cX5_layBoth 113 = .ok (.getfield 25, 3) := by decide +kernel
theorem dX5_layBoth_116 : decode cX5_layBoth 116 = .ok (.iload 5, 2) := by decide +kernel
theorem dX5_layBoth_118 : decode cX5_layBoth 118 = .ok (.iaload, 1) := by decide +kernel
theorem dX5_layBoth_119 : decode cX5_layBoth 119 = .ok (.goto 5, 3) := by decide +kernel
theorem dX5_layBoth_122 : decode cX5_layBoth 122 = .ok (.ldc 102, 2) := by decide +kernel
theorem dX5_layBoth_124 : decode cX5_layBoth 124 = .ok (.istore 7, 2) := by decide +kernel
theorem dX5_layBoth_126 : decode cX5_layBoth 126 = .ok (.aload_n 0, 1) := by decide +kernel
theorem dX5_layBoth_127 : decode cX5_layBoth 127 = .ok (.getfield 28, 3) := by decide +kernel
theorem dX5_layBoth_130 : decode cX5_layBoth 130 = .ok (.iload_n 3, 1) := by decide +kernel
theorem dX5_layBoth_131 : decode cX5_layBoth 131 = .ok (.iload 6, 2) := by decide +kernel
theorem dX5_layBoth_133 : decode cX5_layBoth 133 = .ok (.iload 7, 2) := by decide +kernel
theorem dX5_layBoth_135 : decode cX5_layBoth 135 = .ok (.if_icmp .ge 8, 3) := by decide +kernel
theorem dX5_layBoth_138 : decode cX5_layBoth 138 = .ok (.iload 6, 2) := by decide +kernel
theorem dX5_layBoth_140 : decode cX5_layBoth 140 = .ok (.goto 5, 3) := by decide +kernel
theorem dX5_layBoth_143 : decode cX5_layBoth 143 = .ok (.iload 7, 2) := by decide +kernel
theorem dX5_layBoth_145 : decode cX5_layBoth 145 = .ok (.iastore, 1) := by decide +kernel
theorem dX5_layBoth_146 : decode cX5_layBoth 146 = .ok (.iload 4, 2) := by decide +kernel
theorem dX5_layBoth_148 : decode cX5_layBoth 148 = .ok (.iload 6, 2) := by decide +kernel
theorem dX5_layBoth_150 : decode cX5_layBoth 150 = .ok (.aload_n 0, 1) := by decide +kernel
theorem dX5_layBoth_151 : decode cX5_layBoth 151 = .ok (.getfield 28, 3) := by decide +kernel
theorem dX5_layBoth_154 : decode cX5_layBoth 154 = .ok (.iload_n 3, 1) := by decide +kernel
theorem dX5_layBoth_155 : decode cX5_layBoth 155 = .ok (.iaload, 1) := by decide +kernel
theorem dX5_layBoth_156 : decode cX5_layBoth 156 = .ok (.if_icmp .ne 7, 3) := by decide +kernel
theorem dX5_layBoth_159 : decode cX5_layBoth 159 = .ok (.iconst 1, 1) := by decide +kernel
theorem dX5_layBoth_160 : decode cX5_layBoth 160 = .ok (.goto 4, 3) := by decide +kernel
theorem dX5_layBoth_163 : decode cX5_layBoth 163 = .ok (.iconst 0, 1) := by decide +kernel
theorem dX5_layBoth_164 : decode cX5_layBoth 164 = .ok (.iadd, 1) := by decide +kernel
theorem dX5_layBoth_165 : decode cX5_layBoth 165 = .ok (.istore 4, 2) := by decide +kernel
theorem dX5_layBoth_167 : decode cX5_layBoth 167 = .ok (.iload 5, 2) := by decide +kernel
theorem dX5_layBoth_169 : decode cX5_layBoth 169 = .ok (.iload 7, 2) := by decide +kernel
theorem dX5_layBoth_171 : decode cX5_layBoth 171 = .ok (.aload_n 0, 1) := by decide +kernel
theorem dX5_layBoth_172 : decode cX5_layBoth 172 = .ok (.getfield 28, 3) := by decide +kernel
theorem dX5_layBoth_175 : decode cX5_layBoth 175 = .ok (.iload_n 3, 1) := by decide +kernel
theorem dX5_layBoth_176 : decode cX5_layBoth 176 = .ok (.iaload, 1) := by decide +kernel
theorem dX5_layBoth_177 : decode cX5_layBoth 177 = .ok (.if_icmp .ne 7, 3) := by decide +kernel
theorem dX5_layBoth_180 : decode cX5_layBoth 180 = .ok (.iconst 1, 1) := by decide +kernel
theorem dX5_layBoth_181 : decode cX5_layBoth 181 = .ok (.goto 4, 3) := by decide +kernel
theorem dX5_layBoth_184 : decode cX5_layBoth 184 = .ok (.iconst 0, 1) := by decide +kernel
theorem dX5_layBoth_185 : decode cX5_layBoth 185 = .ok (.iadd, 1) := by decide +kernel
theorem dX5_layBoth_186 : decode cX5_layBoth 186 = .ok (.istore 5, 2) := by decide +kernel
theorem dX5_layBoth_188 : decode cX5_layBoth 188 = .ok (.iinc 3 1, 3) := by decide +kernel
theorem dX5_layBoth_191 : decode cX5_layBoth 191 = .ok (.goto (-137), 3) := by decide +kernel
theorem dX5_layBoth_194 : decode cX5_layBoth 194 = .ok (.iload_n 3, 1) := by decide +kernel
theorem dX5_layBoth_195 : decode cX5_layBoth 195 = .ok (.ireturn, 1) := by decide +kernel
theorem dX5_isKept_0 : decode cX5_isKept 0 = .ok (.iconst 0, 1) := by decide +kernel
theorem dX5_isKept_1 : decode cX5_isKept 1 = .ok (.istore_n 2, 1) := by decide +kernel
theorem dX5_isKept_2 : decode cX5_isKept 2 = .ok (.iconst 0, 1) := by decide +kernel
theorem dX5_isKept_3 : decode cX5_isKept 3 = .ok (.istore_n 3, 1) := by decide +kernel
theorem dX5_isKept_4 : decode cX5_isKept 4 = .ok (.iload_n 3, 1) := by decide +kernel
theorem dX5_isKept_5 : decode cX5_isKept 5 = .ok (.aload_n 0, 1) := by decide +kernel
theorem dX5_isKept_6 : decode cX5_isKept 6 = .ok (.getfield 99, 3) := by decide +kernel
theorem dX5_isKept_9 : decode cX5_isKept 9 = .ok (.if_icmp .ge 29, 3) := by decide +kernel
theorem dX5_isKept_12 : decode cX5_isKept 12 = .ok (.iload_n 2, 1) := by decide +kernel
theorem dX5_isKept_13 : decode cX5_isKept 13 = .ok (.ifCond .ne 13, 3) := by decide +kernel
theorem dX5_isKept_16 : decode cX5_isKept 16 = .ok (.aload_n 0, 1) := by decide +kernel
theorem dX5_isKept_17 : decode cX5_isKept 17 = .ok (.getfield 22, 3) := by decide +kernel
theorem dX5_isKept_20 : decode cX5_isKept 20 = .ok (.iload_n 3, 1) := by decide +kernel
theorem dX5_isKept_21 : decode cX5_isKept 21 = .ok (.iaload, 1) := by decide +kernel
theorem dX5_isKept_22 : decode cX5_isKept 22 = .ok (.iload_n 1, 1) := by decide +kernel
theorem dX5_isKept_23 : decode cX5_isKept 23 = .ok (.if_icmp .ne 7, 3) := by decide +kernel
theorem dX5_isKept_26 : decode cX5_isKept 26 = .ok (.iconst 1, 1) := by decide +kernel
theorem dX5_isKept_27 : decode cX5_isKept 27 = .ok (.goto 4, 3) := by decide +kernel
theorem dX5_isKept_30 : decode cX5_isKept 30 = .ok (.iconst 0, 1) := by decide +kernel
theorem dX5_isKept_31 : decode cX5_isKept 31 = .ok (.istore_n 2, 1) := by decide +kernel
theorem dX5_isKept_32 : decode cX5_isKept 32 = .ok (.iinc 3 1, 3) := by decide +kernel
theorem dX5_isKept_35 : decode cX5_isKept 35 = .ok (.goto (-31), 3) := by decide +kernel
theorem dX5_isKept_38 : decode cX5_isKept 38 = .ok (.iload_n 2, 1) := by decide +kernel
theorem dX5_isKept_39 : decode cX5_isKept 39 = .ok (.ireturn, 1) := by decide +kernel
theorem dX5_isOther_0 : decode cX5_isOther 0 = .ok (.iconst 0, 1) := by decide +kernel
theorem dX5_isOther_1 : decode cX5_isOther 1 = .ok (.istore_n 2, 1) := by decide +kernel
theorem dX5_isOther_2 : decode cX5_isOther 2 = .ok (.iconst 0, 1) := by decide +kernel
theorem dX5_isOther_3 : decode cX5_isOther 3 = .ok (.istore_n 3, 1) := by decide +kernel
theorem dX5_isOther_4 : decode cX5_isOther 4 = .ok (.iload_n 3, 1) := by decide +kernel
theorem dX5_isOther_5 : decode cX5_isOther 5 = .ok (.aload_n 0, 1) := by decide +kernel
theorem dX5_isOther_6 : decode cX5_isOther 6 = .ok (.getfield 96, 3) := by decide +kernel
theorem dX5_isOther_9 : decode cX5_isOther 9 = .ok (.if_icmp .ge 29, 3) := by decide +kernel
theorem dX5_isOther_12 : decode cX5_isOther 12 = .ok (.iload_n 2, 1) := by decide +kernel
theorem dX5_isOther_13 : decode cX5_isOther 13 = .ok (.ifCond .ne 13, 3) := by decide +kernel
theorem dX5_isOther_16 : decode cX5_isOther 16 = .ok (.aload_n 0, 1) := by decide +kernel
theorem dX5_isOther_17 : decode cX5_isOther 17 = .ok (.getfield 25, 3) := by decide +kernel
theorem dX5_isOther_20 : decode cX5_isOther 20 = .ok (.iload_n 3, 1) := by decide +kernel
theorem dX5_isOther_21 : decode cX5_isOther 21 = .ok (.iaload, 1) := by decide +kernel
theorem dX5_isOther_22 : decode cX5_isOther 22 = .ok (.iload_n 1, 1) := by decide +kernel
theorem dX5_isOther_23 : decode cX5_isOther 23 = .ok (.if_icmp .ne 7, 3) := by decide +kernel
theorem dX5_isOther_26 : decode cX5_isOther 26 = .ok (.iconst 1, 1) := by decide +kernel
theorem dX5_isOther_27 : decode cX5_isOther 27 = .ok (.goto 4, 3) := by decide +kernel
theorem dX5_isOther_30 : decode cX5_isOther 30 = .ok (.iconst 0, 1) := by decide +kernel
theorem dX5_isOther_31 : decode cX5_isOther 31 = .ok (.istore_n 2, 1) := by decide +kernel
theorem dX5_isOther_32 : decode cX5_isOther 32 = .ok (.iinc 3 1, 3) := by decide +kernel
theorem dX5_isOther_35 : decode cX5_isOther 35 = .ok (.goto (-31), 3) := by decide +kernel
theorem dX5_isOther_38 : decode cX5_isOther 38 = .ok (.iload_n 2, 1) := by decide +kernel
theorem dX5_isOther_39 : decode cX5_isOther 39 = .ok (.ireturn, 1) := by decide +kernel
set_option maxRecDepth 20000 in
theorem ggX5_share_X5_layBoth : GoodIn wsX5_share wsX5_layBoth := goodIn_r _ [6, 7, 8, 9, 10, 11, 12, 1, 13, 14, 15, 5, 16, 17, 18, 19, 20, 21, 22, 23, 24, 25, 26, 27, 28, 29, 30, 31, 32, 33, 34, 35, 48, 49, 50, 51, 52, 53, 54, 55, 56, 57, 58, 59, 60, 61] (by decide +kernel) (by decide +kernel)
set_option maxRecDepth 20000 in
theorem gX5_share_X5_layBoth : GoodIn wsX5_share (wsV RX5 103 RX5 yX5_layBoth wsX5_layBoth) := goodIn_app (goodIn_of _ (by decide +kernel)) ggX5_share_X5_layBoth
set_option maxRecDepth 20000 in
theorem ggX5_share_X5_estimate : GoodIn wsX5_share wsX5_estimate := goodIn_r _ [39, 11, 29, 48, 49, 50, 51, 52, 53, 54, 55, 56, 57, 58, 59, 60, 61] (by decide +kernel) (by decide +kernel)
set_option maxRecDepth 20000 in
theorem gX5_share_X5_estimate : GoodIn wsX5_share (wsV RX5 92 RX5 yX5_estimate wsX5_estimate) := goodIn_app (goodIn_of _ (by decide +kernel)) ggX5_share_X5_estimate
set_option maxRecDepth 20000 in
theorem ggX5_share_X5_isKept : GoodIn wsX5_share wsX5_isKept := goodIn_r _ [43, 10, 9, 48, 49, 50, 51, 52, 53, 54, 55, 56, 57, 58, 59, 60, 61] (by decide +kernel) (by decide +kernel)
set_option maxRecDepth 20000 in
theorem gX5_share_X5_isKept : GoodIn wsX5_share (wsV RX5 106 RX5 yX5_isKept wsX5_isKept) := goodIn_app (goodIn_of _ (by decide +kernel)) ggX5_share_X5_isKept
set_option maxRecDepth 20000 in
theorem ggX5_share_X5_isOther : GoodIn wsX5_share wsX5_isOther := goodIn_r _ [47, 7, 8, 48, 49, 50, 51, 52, 53, 54, 55, 56, 57, 58, 59, 60, 61] (by decide +kernel) (by decide +kernel)
set_option maxRecDepth 20000 in
theorem gX5_share_X5_isOther : GoodIn wsX5_share (wsV RX5 109 RX5 yX5_isOther wsX5_isOther) := goodIn_app (goodIn_of _ (by decide +kernel)) ggX5_share_X5_isOther
theorem dX5_share_0 : decode cX5_share 0 = .ok (.aload_n 0, 1) := by decide +kernel
theorem dX5_share_1 : decode cX5_share 1 = .ok (.iload_n 1, 1) := by decide +kernel
theorem dX5_share_2 : decode cX5_share 2 = .ok (.iload_n 2, 1) := by decide +kernel
theorem dX5_share_3 : decode cX5_share 3 = .ok (.invokevirtual 103, 3) := by decide +kernel
theorem dX5_share_6 : decode cX5_share 6 = .ok (.istore 4, 2) := by decide +kernel
theorem dX5_share_8 : decode cX5_share 8 = .ok (.iload 4, 2) := by decide +kernel
theorem dX5_share_10 : decode cX5_share 10 = .ok (.ifCond .ne 5, 3) := by decide +kernel
theorem dX5_share_13 : decode cX5_share 13 = .ok (.iconst 0, 1) := by decide +kernel
theorem dX5_share_14 : decode cX5_share 14 = .ok (.ireturn, 1) := by decide +kernel
theorem dX5_share_15 : decode cX5_share 15 = .ok (.aload_n 0, 1) := by decide +kernel
theorem dX5_share_16 : decode cX5_share 16 = .ok (.iload 4, 2) := by decide +kernel
theorem dX5_share_18 : decode cX5_share 18 = .ok (.aload_n 0, 1) := by decide +kernel
theorem dX5_share_19 : decode cX5_share 19 = .ok (.getfield 28, 3) := by decide +kernel
theorem dX5_share_22 : decode cX5_share 22 = .ok (.iload 4, 2) := by decide +kernel
theorem dX5_share_24 : decode cX5_share 24 = .ok (.iconst 1, 1) := by decide +kernel
theorem dX5_share_25 : decode cX5_share 25 = .ok (.isub, 1) := by decide +kernel
theorem dX5_share_26 : decode cX5_share 26 = .ok (.iaload, 1) := by decide +kernel
theorem dX5_share_27 : decode cX5_share 27 = .ok (.invokevirtual 92, 3) := by decide +kernel
theorem dX5_share_30 : decode cX5_share 30 = .ok (.lstore 5, 2) := by decide +kernel
theorem dX5_share_32 : decode cX5_share 32 = .ok (.iconst 0, 1) := by decide +kernel
theorem dX5_share_33 : decode cX5_share 33 = .ok (.istore 7, 2) := by decide +kernel
theorem dX5_share_35 : decode cX5_share 35 = .ok (.iconst 0, 1) := by decide +kernel
theorem dX5_share_36 : decode cX5_share 36 = .ok (.istore 8, 2) := by decide +kernel
theorem dX5_share_38 : decode cX5_share 38 = .ok (.iload 8, 2) := by decide +kernel
theorem dX5_share_40 : decode cX5_share 40 = .ok (.iload 4, 2) := by decide +kernel
theorem dX5_share_42 : decode cX5_share 42 = .ok (.if_icmp .ge 86, 3) := by decide +kernel
theorem dX5_share_45 : decode cX5_share 45 = .ok (.iload_n 3, 1) := by decide +kernel
theorem dX5_share_46 : decode cX5_share 46 = .ok (.iconst 1, 1) := by decide +kernel
theorem dX5_share_47 : decode cX5_share 47 = .ok (.if_icmp .ne 39, 3) := by decide +kernel
theorem dX5_share_50 : decode cX5_share 50 = .ok (.aload_n 0, 1) := by decide +kernel
theorem dX5_share_51 : decode cX5_share 51 = .ok (.aload_n 0, 1) := by decide +kernel
theorem dX5_share_52 : decode cX5_share 52 = .ok (.getfield 28, 3) := by decide +kernel
theorem dX5_share_55 : decode cX5_share 55 = .ok (.iload 8, 2) := by decide +kernel
theorem dX5_share_57 : decode cX5_share 57 = .ok (.iaload, 1) := by decide +kernel
theorem dX5_share_58 : decode cX5_share 58 = .ok (.invokevirtual 106, 3) := by decide +kernel
theorem dX5_share_61 : decode cX5_share 61 = .ok (.ifCond .eq 21, 3) := by decide +kernel
theorem dX5_share_64 : decode cX5_share 64 = .ok (.aload_n 0, 1) := by decide +kernel
theorem dX5_share_65 : decode cX5_share 65 = .ok (.aload_n 0, 1) := by decide +kernel
theorem dX5_share_66 : decode cX5_share 66 = .ok (.getfield 28, 3) := by decide +kernel
theorem dX5_share_69 : decode cX5_share 69 = .ok (.iload 8, 2) := by decide +kernel
theorem dX5_share_71 : decode cX5_share 71 = .ok (.iaload, 1) := by decide +kernel
theorem dX5_share_72 : decode cX5_share 72 = .ok (.invokevirtual 109, 3) := by decide +kernel
theorem dX5_share_75 : decode cX5_share 75 = .ok (.ifCond .eq 7, 3) := by decide +kernel
theorem dX5_share_78 : decode cX5_share 78 = .ok (.iconst 1, 1) := by decide +kernel
theorem dX5_share_79 : decode cX5_share 79 = .ok (.goto 26, 3) := by decide +kernel
theorem dX5_share_82 : decode cX5_share 82 = .ok (.iconst 0, 1) := by decide +kernel
theorem dX5_share_83 : decode cX5_share 83 = .ok (.goto 22, 3) := by decide +kernel
theorem dX5_share_86 : decode cX5_share 86 = .ok (.aload_n 0, 1) := by decide +kernel
theorem dX5_share_87 : decode cX5_share 87 = .ok (.aload_n 0, 1) := by decide +kernel
theorem dX5_share_88 : decode cX5_share 88 = .ok (.getfield 28, 3) := by decide +kernel
theorem dX5_share_91 : decode cX5_share 91 = .ok (.iload 8, 2) := by decide +kernel
theorem dX5_share_93 : decode cX5_share 93 = .ok (.iaload, 1) := by decide +kernel
theorem dX5_share_94 : decode cX5_share 94 = .ok (.invokevirtual 109, 3) := by decide +kernel
theorem dX5_share_97 : decode cX5_share 97 = .ok (.ifCond .ne 7, 3) := by decide +kernel
theorem dX5_share_100 : decode cX5_share 100 = .ok (.iconst 1, 1) := by decide +kernel
theorem dX5_share_101 : decode cX5_share 101 = .ok (.goto 4, 3) := by decide +kernel
theorem dX5_share_104 : decode cX5_share 104 = .ok (.iconst 0, 1) := by decide +kernel
theorem dX5_share_105 : decode cX5_share 105 = .ok (.istore 9, 2) := by decide +kernel
theorem dX5_share_107 : decode cX5_share 107 = .ok (.iload 7, 2) := by decide +kernel
theorem dX5_share_109 : decode cX5_share 109 = .ok (.iload 9, 2) := by decide +kernel
theorem dX5_share_111 : decode cX5_share 111 = .ok (.ifCond .eq 7, 3) := by decide +kernel
theorem dX5_share_114 : decode cX5_share 114 = .ok (.iconst 1, 1) := by decide +kernel
theorem dX5_share_115 : decode cX5_share 115 = .ok (.goto 4, 3) := by decide +kernel
theorem dX5_share_118 : decode cX5_share 118 = .ok (.iconst 0, 1) := by decide +kernel
theorem dX5_share_119 : decode cX5_share 119 = .ok (.iadd, 1) := by decide +kernel
theorem dX5_share_120 : decode cX5_share 120 = .ok (.istore 7, 2) := by decide +kernel
theorem dX5_share_122 : decode cX5_share 122 = .ok (.iinc 8 1, 3) := by decide +kernel
theorem dX5_share_125 : decode cX5_share 125 = .ok (.goto (-87), 3) := by decide +kernel
theorem dX5_share_128 : decode cX5_share 128 = .ok (.iload_n 3, 1) := by decide +kernel
theorem dX5_share_129 : decode cX5_share 129 = .ok (.ifCond .ne 8, 3) := by decide +kernel
theorem dX5_share_132 : decode cX5_share 132 = .ok (.lload 5, 2) := by decide +kernel
theorem dX5_share_134 : decode cX5_share 134 = .ok (.goto 13, 3) := by decide +kernel
theorem dX5_share_137 : decode cX5_share 137 = .ok (.lload 5, 2) := by decide +kernel
theorem dX5_share_139 : decode cX5_share 139 = .ok (.iload 7, 2) := by decide +kernel
theorem dX5_share_141 : decode cX5_share 141 = .ok (.i2l, 1) := by decide +kernel
theorem dX5_share_142 : decode cX5_share 142 = .ok (.lmul, 1) := by decide +kernel
theorem dX5_share_143 : decode cX5_share 143 = .ok (.iload 4, 2) := by decide +kernel
theorem dX5_share_145 : decode cX5_share 145 = .ok (.i2l, 1) := by decide +kernel
theorem dX5_share_146 : decode cX5_share 146 = .ok (.ldiv, 1) := by decide +kernel
theorem dX5_share_147 : decode cX5_share 147 = .ok (.l2i, 1) := by decide +kernel
theorem dX5_share_148 : decode cX5_share 148 = .ok (.ireturn, 1) := by decide +kernel
set_option maxRecDepth 20000 in
theorem ggX5_together_X5_isBasket : GoodIn wsX5_together wsX5_isBasket := goodIn_r _ [4] (by decide +kernel) (by decide +kernel)
set_option maxRecDepth 20000 in
theorem gX5_together_X5_isBasket : GoodIn wsX5_together (va_wsS RX5 61 yX5_isBasket wsX5_isBasket) := goodIn_app (goodIn_of _ (by decide +kernel)) ggX5_together_X5_isBasket
set_option maxRecDepth 20000 in
theorem ggX5_together_X5_goesWell : GoodIn wsX5_together wsX5_goesWell := goodIn_r _ [8, 9, 60, 61, 62, 63, 64, 65, 66, 67, 68, 69, 70, 71, 72, 73] (by decide +kernel) (by decide +kernel)
set_option maxRecDepth 20000 in
theorem gX5_together_X5_goesWell : GoodIn wsX5_together (wsV RX5 68 RX5 yX5_goesWell wsX5_goesWell) := goodIn_app (goodIn_of _ (by decide +kernel)) ggX5_together_X5_goesWell
set_option maxRecDepth 20000 in
theorem ggX5_together_X5_share : GoodIn wsX5_together wsX5_share := goodIn_r _ [13, 14, 15, 16, 17, 3, 18, 19, 20, 21, 22, 23, 24, 25, 26, 27, 28, 29, 30, 31, 32, 33, 34, 35, 36, 37, 38, 39, 40, 41, 42, 43, 44, 45, 46, 47, 48, 49, 50, 51, 52, 53, 54, 55, 56, 57, 58, 59, 60, 61, 62, 63, 64, 65, 66, 67, 68, 69, 70, 71, 72, 73] (by decide +kernel) (by decide +kernel)
set_option maxRecDepth 20000 in
theorem gX5_together_X5_share : GoodIn wsX5_together (wsV RX5 112 RX5 yX5_share wsX5_share) := goodIn_app (goodIn_of _ (by decide +kernel)) ggX5_together_X5_share
theorem dX5_together_0 : decode cX5_together 0 = .ok (.aload_n 0, 1) := by decide +kernel
theorem dX5_together_1 : decode cX5_together 1 = .ok (.iload_n 1, 1) := by decide +kernel
theorem dX5_together_2 : decode cX5_together 2 = .ok (.invokestatic 61, 3) := by decide +kernel
theorem dX5_together_5 : decode cX5_together 5 = .ok (.ifCond .eq 14, 3) := by decide +kernel
theorem dX5_together_8 : decode cX5_together 8 = .ok (.iload_n 2, 1) := by decide +kernel
theorem dX5_together_9 : decode cX5_together 9 = .ok (.invokestatic 61, 3) := by decide +kernel
theorem dX5_together_12 : decode cX5_together 12 = .ok (.ifCond .eq 7, 3) := by decide +kernel
theorem dX5_together_15 : decode cX5_together 15 = .ok (.iconst 0, 1) := by decide +kernel
theorem dX5_together_16 : decode cX5_together 16 = .ok (.goto 4, 3) := by decide +kernel
theorem dX5_together_19 : decode cX5_together 19 = .ok (.iconst 1, 1) := by decide +kernel
theorem dX5_together_20 : decode cX5_together 20 = .ok (.invokevirtual 68, 3) := by decide +kernel
theorem dX5_together_23 : decode cX5_together 23 = .ok (.ifCond .eq 13, 3) := by decide +kernel
theorem dX5_together_26 : decode cX5_together 26 = .ok (.aload_n 0, 1) := by decide +kernel
theorem dX5_together_27 : decode cX5_together 27 = .ok (.iload_n 1, 1) := by decide +kernel
theorem dX5_together_28 : decode cX5_together 28 = .ok (.iload_n 2, 1) := by decide +kernel
theorem dX5_together_29 : decode cX5_together 29 = .ok (.iconst 0, 1) := by decide +kernel
theorem dX5_together_30 : decode cX5_together 30 = .ok (.invokevirtual 112, 3) := by decide +kernel
theorem dX5_together_33 : decode cX5_together 33 = .ok (.goto 4, 3) := by decide +kernel
theorem dX5_together_36 : decode cX5_together 36 = .ok (.iconst 0, 1) := by decide +kernel
theorem dX5_together_37 : decode cX5_together 37 = .ok (.ireturn, 1) := by decide +kernel
set_option maxRecDepth 20000 in
theorem ggX5_common_X5_isBasket : GoodIn wsX5_common wsX5_isBasket := goodIn_r _ [4] (by decide +kernel) (by decide +kernel)
set_option maxRecDepth 20000 in
theorem gX5_common_X5_isBasket : GoodIn wsX5_common (va_wsS RX5 61 yX5_isBasket wsX5_isBasket) := goodIn_app (goodIn_of _ (by decide +kernel)) ggX5_common_X5_isBasket
set_option maxRecDepth 20000 in
theorem ggX5_common_X5_goesWell : GoodIn wsX5_common wsX5_goesWell := goodIn_r _ [8, 9, 60, 61, 62, 63, 64, 65, 66, 67, 68, 69, 70, 71, 72, 73] (by decide +kernel) (by decide +kernel)
set_option maxRecDepth 20000 in
theorem gX5_common_X5_goesWell : GoodIn wsX5_common (wsV RX5 68 RX5 yX5_goesWell wsX5_goesWell) := goodIn_app (goodIn_of _ (by decide +kernel)) ggX5_common_X5_goesWell
set_option maxRecDepth 20000 in
theorem ggX5_common_X5_share : GoodIn wsX5_common wsX5_share := goodIn_r _ [13, 14, 15, 16, 17, 3, 18, 19, 20, 21, 22, 23, 24, 25, 26, 27, 28, 29, 30, 31, 32, 33, 34, 35, 36, 37, 38, 39, 40, 41, 42, 43, 44, 45, 46, 47, 48, 49, 50, 51, 52, 53, 54, 55, 56, 57, 58, 59, 60, 61, 62, 63, 64, 65, 66, 67, 68, 69, 70, 71, 72, 73] (by decide +kernel) (by decide +kernel)
set_option maxRecDepth 20000 in
theorem gX5_common_X5_share : GoodIn wsX5_common (wsV RX5 112 RX5 yX5_share wsX5_share) := goodIn_app (goodIn_of _ (by decide +kernel)) ggX5_common_X5_share
theorem dX5_common_0 : decode cX5_common 0 = .ok (.aload_n 0, 1) := by decide +kernel
theorem dX5_common_1 : decode cX5_common 1 = .ok (.iload_n 1, 1) := by decide +kernel
theorem dX5_common_2 : decode cX5_common 2 = .ok (.invokestatic 61, 3) := by decide +kernel
theorem dX5_common_5 : decode cX5_common 5 = .ok (.ifCond .eq 14, 3) := by decide +kernel
theorem dX5_common_8 : decode cX5_common 8 = .ok (.iload_n 2, 1) := by decide +kernel
theorem dX5_common_9 : decode cX5_common 9 = .ok (.invokestatic 61, 3) := by decide +kernel
theorem dX5_common_12 : decode cX5_common 12 = .ok (.ifCond .eq 7, 3) := by decide +kernel
theorem dX5_common_15 : decode cX5_common 15 = .ok (.iconst 0, 1) := by decide +kernel
theorem dX5_common_16 : decode cX5_common 16 = .ok (.goto 4, 3) := by decide +kernel
theorem dX5_common_19 : decode cX5_common 19 = .ok (.iconst 1, 1) := by decide +kernel
theorem dX5_common_20 : decode cX5_common 20 = .ok (.invokevirtual 68, 3) := by decide +kernel
theorem dX5_common_23 : decode cX5_common 23 = .ok (.ifCond .eq 13, 3) := by decide +kernel
theorem dX5_common_26 : decode cX5_common 26 = .ok (.aload_n 0, 1) := by decide +kernel
theorem dX5_common_27 : decode cX5_common 27 = .ok (.iload_n 1, 1) := by decide +kernel
theorem dX5_common_28 : decode cX5_common 28 = .ok (.iload_n 2, 1) := by decide +kernel
theorem dX5_common_29 : decode cX5_common 29 = .ok (.iconst 1, 1) := by decide +kernel
theorem dX5_common_30 : decode cX5_common 30 = .ok (.invokevirtual 112, 3) := by decide +kernel
theorem dX5_common_33 : decode cX5_common 33 = .ok (.goto 4, 3) := by decide +kernel
theorem dX5_common_36 : decode cX5_common 36 = .ok (.iconst 0, 1) := by decide +kernel
theorem dX5_common_37 : decode cX5_common 37 = .ok (.ireturn, 1) := by decide +kernel
set_option maxRecDepth 20000 in
theorem ggX5_without_X5_isBasket : GoodIn wsX5_without wsX5_isBasket := goodIn_r _ [4] (by decide +kernel) (by decide +kernel)
set_option maxRecDepth 20000 in
theorem gX5_without_X5_isBasket : GoodIn wsX5_without (va_wsS RX5 61 yX5_isBasket wsX5_isBasket) := goodIn_app (goodIn_of _ (by decide +kernel)) ggX5_without_X5_isBasket
set_option maxRecDepth 20000 in
theorem ggX5_without_X5_goesWell : GoodIn wsX5_without wsX5_goesWell := goodIn_r _ [8, 9, 60, 61, 62, 63, 64, 65, 66, 67, 68, 69, 70, 71, 72, 73] (by decide +kernel) (by decide +kernel)
set_option maxRecDepth 20000 in
theorem gX5_without_X5_goesWell : GoodIn wsX5_without (wsV RX5 68 RX5 yX5_goesWell wsX5_goesWell) := goodIn_app (goodIn_of _ (by decide +kernel)) ggX5_without_X5_goesWell
set_option maxRecDepth 20000 in
theorem ggX5_without_X5_share : GoodIn wsX5_without wsX5_share := goodIn_r _ [13, 14, 15, 16, 17, 3, 18, 19, 20, 21, 22, 23, 24, 25, 26, 27, 28, 29, 30, 31, 32, 33, 34, 35, 36, 37, 38, 39, 40, 41, 42, 43, 44, 45, 46, 47, 48, 49, 50, 51, 52, 53, 54, 55, 56, 57, 58, 59, 60, 61, 62, 63, 64, 65, 66, 67, 68, 69, 70, 71, 72, 73] (by decide +kernel) (by decide +kernel)
set_option maxRecDepth 20000 in
theorem gX5_without_X5_share : GoodIn wsX5_without (wsV RX5 112 RX5 yX5_share wsX5_share) := goodIn_app (goodIn_of _ (by decide +kernel)) ggX5_without_X5_share
theorem dX5_without_0 : decode cX5_without 0 = .ok (.aload_n 0, 1) := by decide +kernel
theorem dX5_without_1 : decode cX5_without 1 = .ok (.iload_n 1, 1) := by decide +kernel
theorem dX5_without_2 : decode cX5_without 2 = .ok (.invokestatic 61, 3) := by decide +kernel
theorem dX5_without_5 : decode cX5_without 5 = .ok (.ifCond .eq 14, 3) := by decide +kernel
theorem dX5_without_8 : decode cX5_without 8 = .ok (.iload_n 2, 1) := by decide +kernel
theorem dX5_without_9 : decode cX5_without 9 = .ok (.invokestatic 61, 3) := by decide +kernel
theorem dX5_without_12 : decode cX5_without 12 = .ok (.ifCond .eq 7, 3) := by decide +kernel
theorem dX5_without_15 : decode cX5_without 15 = .ok (.iconst 0, 1) := by decide +kernel
theorem dX5_without_16 : decode cX5_without 16 = .ok (.goto 4, 3) := by decide +kernel
theorem dX5_without_19 : decode cX5_without 19 = .ok (.iconst 1, 1) := by decide +kernel
theorem dX5_without_20 : decode cX5_without 20 = .ok (.invokevirtual 68, 3) := by decide +kernel
theorem dX5_without_23 : decode cX5_without 23 = .ok (.ifCond .eq 13, 3) := by decide +kernel
theorem dX5_without_26 : decode cX5_without 26 = .ok (.aload_n 0, 1) := by decide +kernel
theorem dX5_without_27 : decode cX5_without 27 = .ok (.iload_n 1, 1) := by decide +kernel
theorem dX5_without_28 : decode cX5_without 28 = .ok (.iload_n 2, 1) := by decide +kernel
theorem dX5_without_29 : decode cX5_without 29 = .ok (.iconst 2, 1) := by decide +kernel
theorem dX5_without_30 : decode cX5_without 30 = .ok (.invokevirtual 112, 3) := by decide +kernel
theorem dX5_without_33 : decode cX5_without 33 = .ok (.goto 4, 3) := by decide +kernel
theorem dX5_without_36 : decode cX5_without 36 = .ok (.iconst 0, 1) := by decide +kernel
theorem dX5_without_37 : decode cX5_without 37 = .ok (.ireturn, 1) := by decide +kernel
theorem dX5_rankOf_0 : decode cX5_rankOf 0 = .ok (.iload_n 0, 1) := by decide +kernel
theorem dX5_rankOf_1 : decode cX5_rankOf 1 = .ok (.bipush 16, 2) := by decide +kernel
theorem dX5_rankOf_3 : decode cX5_rankOf 3 = .ok (.idiv, 1) := by decide +kernel
theorem dX5_rankOf_4 : decode cX5_rankOf 4 = .ok (.istore_n 1, 1) := by decide +kernel
theorem dX5_rankOf_5 : decode cX5_rankOf 5 = .ok (.iconst 1, 1) := by decide +kernel
theorem dX5_rankOf_6 : decode cX5_rankOf 6 = .ok (.istore_n 2, 1) := by decide +kernel
theorem dX5_rankOf_7 : decode cX5_rankOf 7 = .ok (.iload_n 1, 1) := by decide +kernel
theorem dX5_rankOf_8 : decode cX5_rankOf 8 = .ok (.ifCond .eq 19, 3) := by decide +kernel
theorem dX5_rankOf_11 : decode cX5_rankOf 11 = .ok (.iload_n 1, 1) := by decide +kernel
theorem dX5_rankOf_12 : decode cX5_rankOf 12 = .ok (.iconst 2, 1) := by decide +kernel
theorem dX5_rankOf_13 : decode cX5_rankOf 13 = .ok (.irem, 1) := by decide +kernel
theorem dX5_rankOf_14 : decode cX5_rankOf 14 = .ok (.ifCond .ne 13, 3) := by decide +kernel
theorem dX5_rankOf_17 : decode cX5_rankOf 17 = .ok (.iload_n 1, 1) := by decide +kernel
theorem dX5_rankOf_18 : decode cX5_rankOf 18 = .ok (.iconst 2, 1) := by decide +kernel
theorem dX5_rankOf_19 : decode cX5_rankOf 19 = .ok (.idiv, 1) := by decide +kernel
theorem dX5_rankOf_20 : decode cX5_rankOf 20 = .ok (.istore_n 1, 1) := by decide +kernel
theorem dX5_rankOf_21 : decode cX5_rankOf 21 = .ok (.iinc 2 1, 3) := by decide +kernel
theorem dX5_rankOf_24 : decode cX5_rankOf 24 = .ok (.goto (-17), 3) := by decide +kernel
theorem dX5_rankOf_27 : decode cX5_rankOf 27 = .ok (.iload_n 1, 1) := by decide +kernel
theorem dX5_rankOf_28 : decode cX5_rankOf 28 = .ok (.ifCond .ne 8, 3) := by decide +kernel
theorem dX5_rankOf_31 : decode cX5_rankOf 31 = .ok (.bipush 21, 2) := by decide +kernel
theorem dX5_rankOf_33 : decode cX5_rankOf 33 = .ok (.goto 4, 3) := by decide +kernel
theorem dX5_rankOf_36 : decode cX5_rankOf 36 = .ok (.iload_n 2, 1) := by decide +kernel
theorem dX5_rankOf_37 : decode cX5_rankOf 37 = .ok (.ireturn, 1) := by decide +kernel
set_option maxRecDepth 20000 in
theorem ggX5_layRegisters_X5_hashOf : GoodIn wsX5_layRegisters wsX5_hashOf := goodIn_r _ [9, 10, 11, 12, 13] (by decide +kernel) (by decide +kernel)
set_option maxRecDepth 20000 in
theorem gX5_layRegisters_X5_hashOf : GoodIn wsX5_layRegisters (va_wsS RX5 82 yX5_hashOf wsX5_hashOf) := goodIn_app (goodIn_of _ (by decide +kernel)) ggX5_layRegisters_X5_hashOf
set_option maxRecDepth 20000 in
theorem ggX5_layRegisters_X5_rankOf : GoodIn wsX5_layRegisters wsX5_rankOf := goodIn_r _ [16] (by decide +kernel) (by decide +kernel)
set_option maxRecDepth 20000 in
theorem gX5_layRegisters_X5_rankOf : GoodIn wsX5_layRegisters (va_wsS RX5 116 yX5_rankOf wsX5_rankOf) := goodIn_app (goodIn_of _ (by decide +kernel)) ggX5_layRegisters_X5_rankOf
theorem dX5_layRegisters_0 : decode cX5_layRegisters 0 = .ok (.iconst 0, 1) := by decide +kernel
theorem dX5_layRegisters_1 : decode cX5_layRegisters 1 = .ok (.istore_n 3, 1) := by decide +kernel
theorem dX5_layRegisters_2 : decode cX5_layRegisters 2 = .ok (.iload_n 3, 1) := by decide +kernel
theorem dX5_layRegisters_3 : decode cX5_layRegisters 3 = .ok (.bipush 16, 2) := by decide +kernel
theorem dX5_layRegisters_5 : decode cX5_layRegisters 5 = .ok (.if_icmp .ge 16, 3) := by decide +kernel
theorem dX5_layRegisters_8 : decode cX5_layRegisters 8 = .ok (.aload_n 0, 1) := by decide +kernel
theorem dX5_layRegisters_9 : decode cX5_layRegisters 9 = .ok (.getfield 31, 3) := by decide +kernel
theorem dX5_layRegisters_12 : decode cX5_layRegisters 12 = .ok (.iload_n 3, 1) := by decide +kernel
theorem dX5_layRegisters_13 : decode cX5_layRegisters 13 = .ok (.iconst 0, 1) := by decide +kernel
theorem dX5_layRegisters_14 : decode cX5_layRegisters 14 = .ok (.iastore, 1) := by decide +kernel
theorem dX5_layRegisters_15 : decode cX5_layRegisters 15 = .ok (.iinc 3 1, 3) := by decide +kernel
theorem dX5_layRegisters_18 : decode cX5_layRegisters 18 = .ok (.goto (-16), 3) := by decide +kernel
theorem dX5_layRegisters_21 : decode cX5_layRegisters 21 = .ok (.iconst 0, 1) := by decide +kernel
theorem dX5_layRegisters_22 : decode cX5_layRegisters 22 = .ok (.istore_n 3, 1) := by decide +kernel
theorem dX5_layRegisters_23 : decode cX5_layRegisters 23 = .ok (.iload_n 3, 1) := by decide +kernel
theorem dX5_layRegisters_24 : decode cX5_layRegisters 24 = .ok (.aload_n 0, 1) := by decide +kernel
theorem dX5_layRegisters_25 : decode cX5_layRegisters 25 = .ok (.getfield 58, 3) := by decide +kernel
theorem dX5_layRegisters_28 : decode cX5_layRegisters 28 = .ok (.if_icmp .ge 91, 3) := by decide +kernel
theorem dX5_layRegisters_31 : decode cX5_layRegisters 31 = .ok (.aload_n 0, 1) := by decide +kernel
theorem dX5_layRegisters_32 : decode cX5_layRegisters 32 = .ok (.getfield 15, 3) := by decide +kernel
theorem dX5_layRegisters_35 : decode cX5_layRegisters 35 = .ok (.iload_n 3, 1) := by decide +kernel
theorem dX5_layRegisters_36 : decode cX5_layRegisters 36 = .ok (.iaload, 1) := by decide +kernel
theorem dX5_layRegisters_37 : decode cX5_layRegisters 37 = .ok (.invokestatic 82, 3) := by decide +kernel
theorem dX5_layRegisters_40 : decode cX5_layRegisters 40 = .ok (.istore 4, 2) := by decide +kernel
theorem dX5_layRegisters_42 : decode cX5_layRegisters 42 = .ok (.aload_n 0, 1) := by decide +kernel
theorem dX5_layRegisters_43 : decode cX5_layRegisters 43 = .ok (.getfield 8, 3) := by decide +kernel
theorem dX5_layRegisters_46 : decode cX5_layRegisters 46 = .ok (.ldc 14, 2) := by decide +kernel
theorem dX5_layRegisters_48 : decode cX5_layRegisters 48 = .ok (.iload_n 1, 1) := by decide +kernel
theorem dX5_layRegisters_49 : decode cX5_layRegisters 49 = .ok (.imul, 1) := by decide +kernel
theorem dX5_layRegisters_50 : decode cX5_layRegisters 50 = .ok (.aload_n 0, 1) := by decide +kernel
theorem dX5_layRegisters_51 : decode cX5_layRegisters 51 = .ok (.getfield 15, 3) := by decide +kernel
theorem dX5_layRegisters_54 : decode cX5_layRegisters 54 = .ok (.iload_n 3, 1) := by decide +kernel
theorem dX5_layRegisters_55 : decode cX5_layRegisters 55 = .ok (.iaload, 1) := by decide +kernel
theorem dX5_layRegisters_56 : decode cX5_layRegisters 56 = .ok (.iadd, 1) := by decide +kernel
theorem dX5_layRegisters_57 : decode cX5_layRegisters 57 = .ok (.iaload, 1) := by decide +kernel
theorem dX5_layRegisters_58 : decode cX5_layRegisters 58 = .ok (.iload_n 2, 1) := by decide +kernel
theorem dX5_layRegisters_59 : decode cX5_layRegisters 59 = .ok (.if_icmp .le 11, 3) := by decide +kernel
theorem dX5_layRegisters_62 : decode cX5_layRegisters 62 = .ok (.iload 4, 2) := by decide +kernel
theorem dX5_layRegisters_64 : decode cX5_layRegisters 64 = .ok (.invokestatic 116, 3) := by decide +kernel
theorem dX5_layRegisters_67 : decode cX5_layRegisters 67 = .ok (.goto 4, 3) := by decide +kernel
theorem dX5_layRegisters_70 : decode cX5_layRegisters 70 = .ok (.iconst 0, 1) := by decide +kernel
theorem dX5_layRegisters_71 : decode cX5_layRegisters 71 = .ok (.istore 5, 2) := by decide +kernel
theorem dX5_layRegisters_73 : decode cX5_layRegisters 73 = .ok (.aload_n 0, 1) := by decide +kernel
theorem dX5_layRegisters_74 : decode cX5_layRegisters 74 = .ok (.getfield 31, 3) := by decide +kernel
theorem dX5_layRegisters_77 : decode cX5_layRegisters 77 = .ok (.iload 4, 2) := by decide +kernel
theorem dX5_layRegisters_79 : decode cX5_layRegisters 79 = .ok (.bipush 16, 2) := by decide +kernel
theorem dX5_layRegisters_81 : decode cX5_layRegisters 81 = .ok (.irem, 1) := by decide +kernel
theorem dX5_layRegisters_82 : decode cX5_layRegisters 82 = .ok (.iload 5, 2) := by decide +kernel
theorem dX5_layRegisters_84 : decode cX5_layRegisters 84 = .ok (.aload_n 0, 1) := by decide +kernel
theorem dX5_layRegisters_85 : decode cX5_layRegisters 85 = .ok (.getfield 31, 3) := by decide +kernel
theorem dX5_layRegisters_88 : decode cX5_layRegisters 88 = .ok (.iload 4, 2) := by decide +kernel
theorem dX5_layRegisters_90 : decode cX5_layRegisters 90 = .ok (.bipush 16, 2) := by decide +kernel
theorem dX5_layRegisters_92 : decode cX5_layRegisters 92 = .ok (.irem, 1) := by decide +kernel
theorem dX5_layRegisters_93 : decode cX5_layRegisters 93 = .ok (.iaload, 1) := by decide +kernel
theorem dX5_layRegisters_94 : decode cX5_layRegisters 94 = .ok (.if_icmp .le 8, 3) := by decide +kernel
theorem dX5_layRegisters_97 : decode cX5_layRegisters 97 = .ok (.iload 5, 2) := by decide +kernel
theorem dX5_layRegisters_99 : decode cX5_layRegisters 99 = .ok (.goto 13, 3) := by decide +kernel
theorem dX5_layRegisters_102 : decode cX5_layRegisters 102 = .ok (.aload_n 0, 1) := by decide +kernel
theorem dX5_layRegisters_103 : decode cX5_layRegisters 103 = .ok (.getfield 31, 3) := by decide +kernel
theorem dX5_layRegisters_106 : decode cX5_layRegisters 106 = .ok (.iload 4, 2) := by decide +kernel
theorem dX5_layRegisters_108 : decode cX5_layRegisters 108 = .ok (.bipush 16, 2) := by decide +kernel
theorem dX5_layRegisters_110 : decode cX5_layRegisters 110 = .ok (.irem, 1) := by decide +kernel
theorem dX5_layRegisters_111 : decode cX5_layRegisters 111 = .ok (.iaload, 1) := by decide +kernel
theorem dX5_layRegisters_112 : decode cX5_layRegisters 112 = .ok (.iastore, 1) := by decide +kernel
theorem dX5_layRegisters_113 : decode cX5_layRegisters 113 = .ok (.iinc 3 1, 3) := by decide +kernel
theorem dX5_layRegisters_116 : decode cX5_layRegisters 116 = .ok (.goto (-93), 3) := by decide +kernel
theorem dX5_layRegisters_119 : decode cX5_layRegisters 119 = .ok (.return_, 1) := by decide +kernel
theorem dX5_ofRegisters_0 : decode cX5_ofRegisters 0 = .ok (.lconst 0, 1) := by decide +kernel
theorem dX5_ofRegisters_1 : decode cX5_ofRegisters 1 = .ok (.lstore_n 1, 1) := by decide +kernel
theorem dX5_ofRegisters_2 : decode cX5_ofRegisters 2 = .ok (.iconst 0, 1) := by decide +kernel
theorem dX5_ofRegisters_3 : decode cX5_ofRegisters 3 = .ok (.istore_n 3, 1) := by decide +kernel
theorem dX5_ofRegisters_4 : decode cX5_ofRegisters 4 = .ok (.iconst 0, 1) := by decide +kernel
theorem dX5_ofRegisters_5 : decode cX5_ofRegisters 5 = .ok (.istore 4, 2) := by decide +kernel
theorem dX5_ofRegisters_7 : decode cX5_ofRegisters 7 = .ok (.iload 4, 2) := by decide +kernel
theorem dX5_ofRegisters_9 : decode cX5_ofRegisters 9 = .ok (.bipush 16, 2) := by decide +kernel
theorem dX5_ofRegisters_11 : decode cX5_ofRegisters 11 = .ok (.if_icmp .ge 41, 3) := by decide +kernel
theorem dX5_ofRegisters_14 : decode cX5_ofRegisters 14 = .ok (.lload_n 1, 1) := by decide +kernel
theorem dX5_ofRegisters_15 : decode cX5_ofRegisters 15 = .ok (.ldc 119, 2) := by decide +kernel
theorem dX5_ofRegisters_17 : decode cX5_ofRegisters 17 = .ok (.aload_n 0, 1) := by decide +kernel
theorem dX5_ofRegisters_18 : decode cX5_ofRegisters 18 = .ok (.getfield 31, 3) := by decide +kernel
theorem dX5_ofRegisters_21 : decode cX5_ofRegisters 21 = .ok (.iload 4, 2) := by decide +kernel
theorem dX5_ofRegisters_23 : decode cX5_ofRegisters 23 = .ok (.iaload, 1) := by decide +kernel
theorem dX5_ofRegisters_24 : decode cX5_ofRegisters 24 = .ok (.ishr, 1) := by decide +kernel
theorem dX5_ofRegisters_25 : decode cX5_ofRegisters 25 = .ok (.i2l, 1) := by decide +kernel
theorem dX5_ofRegisters_26 : decode cX5_ofRegisters 26 = .ok (.ladd, 1) := by decide +kernel
theorem dX5_ofRegisters_27 : decode cX5_ofRegisters 27 = .ok (.lstore_n 1, 1) := by decide +kernel
theorem dX5_ofRegisters_28 : decode cX5_ofRegisters 28 = .ok (.iload_n 3, 1) := by decide +kernel
theorem dX5_ofRegisters_29 : decode cX5_ofRegisters 29 = .ok (.aload_n 0, 1) := by decide +kernel
theorem dX5_ofRegisters_30 : decode cX5_ofRegisters 30 = .ok (.getfield 31, 3) := by decide +kernel
theorem dX5_ofRegisters_33 : decode cX5_ofRegisters 33 = .ok (.iload 4, 2) := by decide +kernel
theorem dX5_ofRegisters_35 : decode cX5_ofRegisters 35 = .ok (.iaload, 1) := by decide +kernel
theorem dX5_ofRegisters_36 : decode cX5_ofRegisters 36 = .ok (.ifCond .ne 7, 3) := by decide +kernel
theorem dX5_ofRegisters_39 : decode cX5_ofRegisters 39 = .ok (.iconst 1, 1) := by decide +kernel
theorem dX5_ofRegisters_40 : decode cX5_ofRegisters 40 = .ok (.goto 4, 3) := by decide +kernel
theorem dX5_ofRegisters_43 : decode cX5_ofRegisters 43 = .ok (.iconst 0, 1) := by decide +kernel
theorem dX5_ofRegisters_44 : decode cX5_ofRegisters 44 = .ok (.iadd, 1) := by decide +kernel
theorem dX5_ofRegisters_45 : decode cX5_ofRegisters 45 = .ok (.istore_n 3, 1) := by decide +kernel
theorem dX5_ofRegisters_46 : decode cX5_ofRegisters 46 = .ok (.iinc 4 1, 3) := by decide +kernel
theorem dX5_ofRegisters_49 : decode cX5_ofRegisters 49 = .ok (.goto (-42), 3) := by decide +kernel
theorem dX5_ofRegisters_52 : decode cX5_ofRegisters 52 = .ok (.ldc2_w 120, 3) := by decide +kernel
theorem dX5_ofRegisters_55 : decode cX5_ofRegisters 55 = .ok (.lload_n 1, 1) := by decide +kernel
theorem dX5_ofRegisters_56 : decode cX5_ofRegisters 56 = .ok (.ldiv, 1) := by decide +kernel
theorem dX5_ofRegisters_57 : decode cX5_ofRegisters 57 = .ok (.lstore 4, 2) := by decide +kernel
theorem dX5_ofRegisters_59 : decode cX5_ofRegisters 59 = .ok (.lload 4, 2) := by decide +kernel
theorem dX5_ofRegisters_61 : decode cX5_ofRegisters 61 = .ok (.ldc2_w 122, 3) := by decide +kernel
theorem dX5_ofRegisters_64 : decode cX5_ofRegisters 64 = .ok (.lcmp, 1) := by decide +kernel
theorem dX5_ofRegisters_65 : decode cX5_ofRegisters 65 = .ok (.ifCond .gt 17, 3) := by decide +kernel
theorem dX5_ofRegisters_68 : decode cX5_ofRegisters 68 = .ok (.iload_n 3, 1) := by decide +kernel
theorem dX5_ofRegisters_69 : decode cX5_ofRegisters 69 = .ok (.ifCond .le 13, 3) := by decide +kernel
theorem dX5_ofRegisters_72 : decode cX5_ofRegisters 72 = .ok (.aload_n 0, 1) := by decide +kernel
theorem dX5_ofRegisters_73 : decode cX5_ofRegisters 73 = .ok (.getfield 36, 3) := by decide +kernel
theorem dX5_ofRegisters_76 : decode cX5_ofRegisters 76 = .ok (.iload_n 3, 1) := by decide +kernel
theorem dX5_ofRegisters_77 : decode cX5_ofRegisters 77 = .ok (.iaload, 1) := by decide +kernel
theorem dX5_ofRegisters_78 : decode cX5_ofRegisters 78 = .ok (.i2l, 1) := by decide +kernel
theorem dX5_ofRegisters_79 : decode cX5_ofRegisters 79 = .ok (.goto 5, 3) := by decide +kernel
theorem dX5_ofRegisters_82 : decode cX5_ofRegisters 82 = .ok (.lload 4, 2) := by decide +kernel
theorem dX5_ofRegisters_84 : decode cX5_ofRegisters 84 = .ok (.lreturn, 1) := by decide +kernel
set_option maxRecDepth 20000 in
theorem ggX5_register_X5_isBasket : GoodIn wsX5_register wsX5_isBasket := goodIn_r _ [5] (by decide +kernel) (by decide +kernel)
set_option maxRecDepth 20000 in
theorem gX5_register_X5_isBasket : GoodIn wsX5_register (va_wsS RX5 61 yX5_isBasket wsX5_isBasket) := goodIn_app (goodIn_of _ (by decide +kernel)) ggX5_register_X5_isBasket
set_option maxRecDepth 20000 in
theorem ggX5_register_X5_goesWell : GoodIn wsX5_register wsX5_goesWell := goodIn_r _ [9, 10, 29, 30, 31, 32, 33, 34, 35, 36, 37, 38, 39, 40, 41, 42] (by decide +kernel) (by decide +kernel)
set_option maxRecDepth 20000 in
theorem gX5_register_X5_goesWell : GoodIn wsX5_register (wsV RX5 68 RX5 yX5_goesWell wsX5_goesWell) := goodIn_app (goodIn_of _ (by decide +kernel)) ggX5_register_X5_goesWell
set_option maxRecDepth 20000 in
theorem ggX5_register_X5_layRegisters : GoodIn wsX5_register wsX5_layRegisters := goodIn_r _ [14, 1, 15, 16, 17, 18, 19, 20, 4, 21, 22, 23, 24, 25, 26, 27, 28, 29, 30, 31, 32, 33, 34, 35, 36, 37, 38, 39, 40, 41, 42] (by decide +kernel) (by decide +kernel)
set_option maxRecDepth 20000 in
theorem gX5_register_X5_layRegisters : GoodIn wsX5_register (wsV RX5 124 RX5 yX5_layRegisters wsX5_layRegisters) := goodIn_app (goodIn_of _ (by decide +kernel)) ggX5_register_X5_layRegisters
theorem dX5_register_0 : decode cX5_register 0 = .ok (.iload_n 1, 1) := by decide +kernel
theorem dX5_register_1 : decode cX5_register 1 = .ok (.invokestatic 61, 3) := by decide +kernel
theorem dX5_register_4 : decode cX5_register 4 = .ok (.ifCond .eq 17, 3) := by decide +kernel
theorem dX5_register_7 : decode cX5_register 7 = .ok (.iload_n 2, 1) := by decide +kernel
theorem dX5_register_8 : decode cX5_register 8 = .ok (.ifCond .lt 13, 3) := by decide +kernel
theorem dX5_register_11 : decode cX5_register 11 = .ok (.iload_n 2, 1) := by decide +kernel
theorem dX5_register_12 : decode cX5_register 12 = .ok (.bipush 16, 2) := by decide +kernel
theorem dX5_register_14 : decode cX5_register 14 = .ok (.if_icmp .ge 7, 3) := by decide +kernel
theorem dX5_register_17 : decode cX5_register 17 = .ok (.iconst 1, 1) := by decide +kernel
theorem dX5_register_18 : decode cX5_register 18 = .ok (.goto 4, 3) := by decide +kernel
theorem dX5_register_21 : decode cX5_register 21 = .ok (.iconst 0, 1) := by decide +kernel
theorem dX5_register_22 : decode cX5_register 22 = .ok (.istore_n 3, 1) := by decide +kernel
theorem dX5_register_23 : decode cX5_register 23 = .ok (.aload_n 0, 1) := by decide +kernel
theorem dX5_register_24 : decode cX5_register 24 = .ok (.iload_n 3, 1) := by decide +kernel
theorem dX5_register_25 : decode cX5_register 25 = .ok (.ifCond .eq 7, 3) := by decide +kernel
theorem dX5_register_28 : decode cX5_register 28 = .ok (.iconst 0, 1) := by decide +kernel
theorem dX5_register_29 : decode cX5_register 29 = .ok (.goto 4, 3) := by decide +kernel
theorem dX5_register_32 : decode cX5_register 32 = .ok (.iconst 1, 1) := by decide +kernel
theorem dX5_register_33 : decode cX5_register 33 = .ok (.invokevirtual 68, 3) := by decide +kernel
theorem dX5_register_36 : decode cX5_register 36 = .ok (.ifCond .ne 5, 3) := by decide +kernel
theorem dX5_register_39 : decode cX5_register 39 = .ok (.iconst 0, 1) := by decide +kernel
theorem dX5_register_40 : decode cX5_register 40 = .ok (.ireturn, 1) := by decide +kernel
theorem dX5_register_41 : decode cX5_register 41 = .ok (.aload_n 0, 1) := by decide +kernel
theorem dX5_register_42 : decode cX5_register 42 = .ok (.iload_n 1, 1) := by decide +kernel
theorem dX5_register_43 : decode cX5_register 43 = .ok (.iconst (-1), 1) := by decide +kernel
theorem dX5_register_44 : decode cX5_register 44 = .ok (.invokevirtual 124, 3) := by decide +kernel
theorem dX5_register_47 : decode cX5_register 47 = .ok (.aload_n 0, 1) := by decide +kernel
theorem dX5_register_48 : decode cX5_register 48 = .ok (.getfield 31, 3) := by decide +kernel
theorem dX5_register_51 : decode cX5_register 51 = .ok (.iload_n 2, 1) := by decide +kernel
theorem dX5_register_52 : decode cX5_register 52 = .ok (.iaload, 1) := by decide +kernel
theorem dX5_register_53 : decode cX5_register 53 = .ok (.ireturn, 1) := by decide +kernel
set_option maxRecDepth 20000 in
theorem ggX5_byRegisters_X5_isBasket : GoodIn wsX5_byRegisters wsX5_isBasket := goodIn_r _ [4] (by decide +kernel) (by decide +kernel)
set_option maxRecDepth 20000 in
theorem gX5_byRegisters_X5_isBasket : GoodIn wsX5_byRegisters (va_wsS RX5 61 yX5_isBasket wsX5_isBasket) := goodIn_app (goodIn_of _ (by decide +kernel)) ggX5_byRegisters_X5_isBasket
set_option maxRecDepth 20000 in
theorem ggX5_byRegisters_X5_goesWell : GoodIn wsX5_byRegisters wsX5_goesWell := goodIn_r _ [8, 9, 37, 38, 39, 40, 41, 42, 43, 44, 45, 46, 47, 48, 49, 50] (by decide +kernel) (by decide +kernel)
set_option maxRecDepth 20000 in
theorem gX5_byRegisters_X5_goesWell : GoodIn wsX5_byRegisters (wsV RX5 68 RX5 yX5_goesWell wsX5_goesWell) := goodIn_app (goodIn_of _ (by decide +kernel)) ggX5_byRegisters_X5_goesWell
set_option maxRecDepth 20000 in
theorem ggX5_byRegisters_X5_layRegisters : GoodIn wsX5_byRegisters wsX5_layRegisters := goodIn_r _ [13, 14, 15, 16, 17, 18, 19, 20, 3, 21, 22, 23, 24, 25, 26, 27, 28, 37, 38, 39, 40, 41, 42, 43, 44, 45, 46, 47, 48, 49, 50] (by decide +kernel) (by decide +kernel)
set_option maxRecDepth 20000 in
theorem gX5_byRegisters_X5_layRegisters : GoodIn wsX5_byRegisters (wsV RX5 124 RX5 yX5_layRegisters wsX5_layRegisters) := goodIn_app (goodIn_of _ (by decide +kernel)) ggX5_byRegisters_X5_layRegisters
set_option maxRecDepth 20000 in
theorem ggX5_byRegisters_X5_ofRegisters : GoodIn wsX5_byRegisters wsX5_ofRegisters := goodIn_r _ [32, 33, 14, 34, 35, 36, 37, 38, 39, 40, 41, 42, 43, 44, 45, 46, 47, 48, 49, 50] (by decide +kernel) (by decide +kernel)
set_option maxRecDepth 20000 in
theorem gX5_byRegisters_X5_ofRegisters : GoodIn wsX5_byRegisters (wsV RX5 128 RX5 yX5_ofRegisters wsX5_ofRegisters) := goodIn_app (goodIn_of _ (by decide +kernel)) ggX5_byRegisters_X5_ofRegisters
theorem dX5_byRegisters_0 : decode cX5_byRegisters 0 = .ok (.aload_n 0, 1) := by decide +kernel
theorem dX5_byRegisters_1 : decode cX5_byRegisters 1 = .ok (.iload_n 1, 1) := by decide +kernel
theorem dX5_byRegisters_2 : decode cX5_byRegisters 2 = .ok (.invokestatic 61, 3) := by decide +kernel
theorem dX5_byRegisters_5 : decode cX5_byRegisters 5 = .ok (.ifCond .eq 7, 3) := by decide +kernel
theorem dX5_byRegisters_8 : decode cX5_byRegisters 8 = .ok (.iconst 0, 1) := by decide +kernel
theorem dX5_byRegisters_9 : decode cX5_byRegisters 9 = .ok (.goto 4, 3) := by decide +kernel
theorem dX5_byRegisters_12 : decode cX5_byRegisters 12 = .ok (.iconst 1, 1) := by decide +kernel
theorem dX5_byRegisters_13 : decode cX5_byRegisters 13 = .ok (.invokevirtual 68, 3) := by decide +kernel
theorem dX5_byRegisters_16 : decode cX5_byRegisters 16 = .ok (.ifCond .ne 5, 3) := by decide +kernel
theorem dX5_byRegisters_19 : decode cX5_byRegisters 19 = .ok (.lconst 0, 1) := by decide +kernel
theorem dX5_byRegisters_20 : decode cX5_byRegisters 20 = .ok (.lreturn, 1) := by decide +kernel
theorem dX5_byRegisters_21 : decode cX5_byRegisters 21 = .ok (.aload_n 0, 1) := by decide +kernel
theorem dX5_byRegisters_22 : decode cX5_byRegisters 22 = .ok (.iload_n 1, 1) := by decide +kernel
theorem dX5_byRegisters_23 : decode cX5_byRegisters 23 = .ok (.iconst (-1), 1) := by decide +kernel
theorem dX5_byRegisters_24 : decode cX5_byRegisters 24 = .ok (.invokevirtual 124, 3) := by decide +kernel
theorem dX5_byRegisters_27 : decode cX5_byRegisters 27 = .ok (.aload_n 0, 1) := by decide +kernel
theorem dX5_byRegisters_28 : decode cX5_byRegisters 28 = .ok (.invokevirtual 128, 3) := by decide +kernel
theorem dX5_byRegisters_31 : decode cX5_byRegisters 31 = .ok (.lreturn, 1) := by decide +kernel
set_option maxRecDepth 20000 in
theorem ggX5_recent_X5_isBasket : GoodIn wsX5_recent wsX5_isBasket := goodIn_r _ [6] (by decide +kernel) (by decide +kernel)
set_option maxRecDepth 20000 in
theorem gX5_recent_X5_isBasket : GoodIn wsX5_recent (va_wsS RX5 61 yX5_isBasket wsX5_isBasket) := goodIn_app (goodIn_of _ (by decide +kernel)) ggX5_recent_X5_isBasket
set_option maxRecDepth 20000 in
theorem ggX5_recent_X5_goesWell : GoodIn wsX5_recent wsX5_goesWell := goodIn_r _ [10, 11, 38, 39, 40, 41, 42, 43, 44, 45, 46, 47, 48, 49, 50, 51] (by decide +kernel) (by decide +kernel)
set_option maxRecDepth 20000 in
theorem gX5_recent_X5_goesWell : GoodIn wsX5_recent (wsV RX5 68 RX5 yX5_goesWell wsX5_goesWell) := goodIn_app (goodIn_of _ (by decide +kernel)) ggX5_recent_X5_goesWell
set_option maxRecDepth 20000 in
theorem ggX5_recent_X5_layRegisters : GoodIn wsX5_recent wsX5_layRegisters := goodIn_r _ [15, 16, 17, 18, 19, 1, 20, 21, 5, 22, 23, 24, 25, 26, 27, 28, 29, 38, 39, 40, 41, 42, 43, 44, 45, 46, 47, 48, 49, 50, 51] (by decide +kernel) (by decide +kernel)
set_option maxRecDepth 20000 in
theorem gX5_recent_X5_layRegisters : GoodIn wsX5_recent (wsV RX5 124 RX5 yX5_layRegisters wsX5_layRegisters) := goodIn_app (goodIn_of _ (by decide +kernel)) ggX5_recent_X5_layRegisters
set_option maxRecDepth 20000 in
theorem ggX5_recent_X5_ofRegisters : GoodIn wsX5_recent wsX5_ofRegisters := goodIn_r _ [33, 34, 16, 35, 36, 37, 38, 39, 40, 41, 42, 43, 44, 45, 46, 47, 48, 49, 50, 51] (by decide +kernel) (by decide +kernel)
set_option maxRecDepth 20000 in
theorem gX5_recent_X5_ofRegisters : GoodIn wsX5_recent (wsV RX5 128 RX5 yX5_ofRegisters wsX5_ofRegisters) := goodIn_app (goodIn_of _ (by decide +kernel)) ggX5_recent_X5_ofRegisters
theorem dX5_recent_0 : decode cX5_recent 0 = .ok (.aload_n 0, 1) := by decide +kernel
theorem dX5_recent_1 : decode cX5_recent 1 = .ok (.iload_n 1, 1) := by decide +kernel
theorem dX5_recent_2 : decode cX5_recent 2 = .ok (.invokestatic 61, 3) := by decide +kernel
theorem dX5_recent_5 : decode cX5_recent 5 = .ok (.ifCond .ne 7, 3) := by decide +kernel
theorem dX5_recent_8 : decode cX5_recent 8 = .ok (.iconst 1, 1) := by decide +kernel
theorem dX5_recent_9 : decode cX5_recent 9 = .ok (.goto 19, 3) := by decide +kernel
theorem dX5_recent_12 : decode cX5_recent 12 = .ok (.iload_n 2, 1) := by decide +kernel
theorem dX5_recent_13 : decode cX5_recent 13 = .ok (.iconst 1, 1) := by decide +kernel
theorem dX5_recent_14 : decode cX5_recent 14 = .ok (.if_icmp .lt 13, 3) := by decide +kernel
theorem dX5_recent_17 : decode cX5_recent 17 = .ok (.iload_n 2, 1) := by decide +kernel
theorem dX5_recent_18 : decode cX5_recent 18 = .ok (.ldc 14, 2) := by decide +kernel
theorem dX5_recent_20 : decode cX5_recent 20 = .ok (.if_icmp .gt 7, 3) := by decide +kernel
theorem dX5_recent_23 : decode cX5_recent 23 = .ok (.iconst 0, 1) := by decide +kernel
theorem dX5_recent_24 : decode cX5_recent 24 = .ok (.goto 4, 3) := by decide +kernel
theorem dX5_recent_27 : decode cX5_recent 27 = .ok (.iconst 2, 1) := by decide +kernel
theorem dX5_recent_28 : decode cX5_recent 28 = .ok (.invokevirtual 68, 3) := by decide +kernel
theorem dX5_recent_31 : decode cX5_recent 31 = .ok (.ifCond .ne 5, 3) := by decide +kernel
theorem dX5_recent_34 : decode cX5_recent 34 = .ok (.lconst 0, 1) := by decide +kernel
theorem dX5_recent_35 : decode cX5_recent 35 = .ok (.lreturn, 1) := by decide +kernel
theorem dX5_recent_36 : decode cX5_recent 36 = .ok (.aload_n 0, 1) := by decide +kernel
theorem dX5_recent_37 : decode cX5_recent 37 = .ok (.getfield 71, 3) := by decide +kernel
theorem dX5_recent_40 : decode cX5_recent 40 = .ok (.iload_n 2, 1) := by decide +kernel
theorem dX5_recent_41 : decode cX5_recent 41 = .ok (.isub, 1) := by decide +kernel
theorem dX5_recent_42 : decode cX5_recent 42 = .ok (.istore_n 3, 1) := by decide +kernel
theorem dX5_recent_43 : decode cX5_recent 43 = .ok (.aload_n 0, 1) := by decide +kernel
theorem dX5_recent_44 : decode cX5_recent 44 = .ok (.iload_n 1, 1) := by decide +kernel
theorem dX5_recent_45 : decode cX5_recent 45 = .ok (.iload_n 3, 1) := by decide +kernel
theorem dX5_recent_46 : decode cX5_recent 46 = .ok (.iconst (-1), 1) := by decide +kernel
theorem dX5_recent_47 : decode cX5_recent 47 = .ok (.if_icmp .ge 7, 3) := by decide +kernel
theorem dX5_recent_50 : decode cX5_recent 50 = .ok (.iconst (-1), 1) := by decide +kernel
theorem dX5_recent_51 : decode cX5_recent 51 = .ok (.goto 4, 3) := by decide +kernel
theorem dX5_recent_54 : decode cX5_recent 54 = .ok (.iload_n 3, 1) := by decide +kernel
theorem dX5_recent_55 : decode cX5_recent 55 = .ok (.invokevirtual 124, 3) := by decide +kernel
theorem dX5_recent_58 : decode cX5_recent 58 = .ok (.aload_n 0, 1) := by decide +kernel
theorem dX5_recent_59 : decode cX5_recent 59 = .ok (.invokevirtual 128, 3) := by decide +kernel
theorem dX5_recent_62 : decode cX5_recent 62 = .ok (.lreturn, 1) := by decide +kernel
set_option maxRecDepth 20000 in
theorem ggX5_countAt_X5_has : GoodIn wsX5_countAt wsX5_has := goodIn_r _ [7, 8, 9, 17, 18, 19, 20, 21, 22, 23, 24, 25, 26, 27, 28, 29, 30] (by decide +kernel) (by decide +kernel)
set_option maxRecDepth 20000 in
theorem gX5_countAt_X5_has : GoodIn wsX5_countAt (wsV RX5 54 RX5 yX5_has wsX5_has) := goodIn_app (goodIn_of _ (by decide +kernel)) ggX5_countAt_X5_has
set_option maxRecDepth 20000 in
theorem ggX5_countAt_X5_hashOf : GoodIn wsX5_countAt wsX5_hashOf := goodIn_r _ [12, 13, 14, 15, 16] (by decide +kernel) (by decide +kernel)
set_option maxRecDepth 20000 in
theorem gX5_countAt_X5_hashOf : GoodIn wsX5_countAt (va_wsS RX5 82 yX5_hashOf wsX5_hashOf) := goodIn_app (goodIn_of _ (by decide +kernel)) ggX5_countAt_X5_hashOf
theorem dX5_countAt_0 : decode cX5_countAt 0 = .ok (.iconst 0, 1) := by decide +kernel
theorem dX5_countAt_1 : decode cX5_countAt 1 = .ok (.istore_n 3, 1) := by decide +kernel
theorem dX5_countAt_2 : decode cX5_countAt 2 = .ok (.iconst 0, 1) := by decide +kernel
theorem dX5_countAt_3 : decode cX5_countAt 3 = .ok (.istore 4, 2) := by decide +kernel
theorem dX5_countAt_5 : decode cX5_countAt 5 = .ok (.iload 4, 2) := by decide +kernel
theorem dX5_countAt_7 : decode cX5_countAt 7 = .ok (.aload_n 0, 1) := by decide +kernel
theorem dX5_countAt_8 : decode cX5_countAt 8 = .ok (.getfield 58, 3) := by decide +kernel
theorem dX5_countAt_11 : decode cX5_countAt 11 = .ok (.if_icmp .ge 49, 3) := by decide +kernel
theorem dX5_countAt_14 : decode cX5_countAt 14 = .ok (.iload_n 3, 1) := by decide +kernel
theorem dX5_countAt_15 : decode cX5_countAt 15 = .ok (.aload_n 0, 1) := by decide +kernel
theorem dX5_countAt_16 : decode cX5_countAt 16 = .ok (.iload_n 1, 1) := by decide +kernel
theorem dX5_countAt_17 : decode cX5_countAt 17 = .ok (.aload_n 0, 1) := by decide +kernel
theorem dX5_countAt_18 : decode cX5_countAt 18 = .ok (.getfield 15, 3) := by decide +kernel
theorem dX5_countAt_21 : decode cX5_countAt 21 = .ok (.iload 4, 2) := by decide +kernel
theorem dX5_countAt_23 : decode cX5_countAt 23 = .ok (.iaload, 1) := by decide +kernel
theorem dX5_countAt_24 : decode cX5_countAt 24 = .ok (.invokevirtual 54, 3) := by decide +kernel
theorem dX5_countAt_27 : decode cX5_countAt 27 = .ok (.ifCond .eq 24, 3) := by decide +kernel
theorem dX5_countAt_30 : decode cX5_countAt 30 = .ok (.aload_n 0, 1) := by decide +kernel
theorem dX5_countAt_31 : decode cX5_countAt 31 = .ok (.getfield 15, 3) := by decide +kernel
theorem dX5_countAt_34 : decode cX5_countAt 34 = .ok (.iload 4, 2) := by decide +kernel
theorem dX5_countAt_36 : decode cX5_countAt 36 = .ok (.iaload, 1) := by decide +kernel
theorem dX5_countAt_37 : decode cX5_countAt 37 = .ok (.invokestatic 82, 3) := by decide +kernel
theorem dX5_countAt_40 : decode cX5_countAt 40 = .ok (.iconst 1, 1) := by decide +kernel
theorem dX5_countAt_41 : decode cX5_countAt 41 = .ok (.iload_n 2, 1) := by decide +kernel
theorem dX5_countAt_42 : decode cX5_countAt 42 = .ok (.ishl, 1) := by decide +kernel
theorem dX5_countAt_43 : decode cX5_countAt 43 = .ok (.irem, 1) := by decide +kernel
theorem dX5_countAt_44 : decode cX5_countAt 44 = .ok (.ifCond .ne 7, 3) := by decide +kernel
theorem dX5_countAt_47 : decode cX5_countAt 47 = .ok (.iconst 1, 1) := by decide +kernel
theorem dX5_countAt_48 : decode cX5_countAt 48 = .ok (.goto 4, 3) := by decide +kernel
theorem dX5_countAt_51 : decode cX5_countAt 51 = .ok (.iconst 0, 1) := by decide +kernel
theorem dX5_countAt_52 : decode cX5_countAt 52 = .ok (.iadd, 1) := by decide +kernel
theorem dX5_countAt_53 : decode cX5_countAt 53 = .ok (.istore_n 3, 1) := by decide +kernel
theorem dX5_countAt_54 : decode cX5_countAt 54 = .ok (.iinc 4 1, 3) := by decide +kernel
theorem dX5_countAt_57 : decode cX5_countAt 57 = .ok (.goto (-52), 3) := by decide +kernel
theorem dX5_countAt_60 : decode cX5_countAt 60 = .ok (.iload_n 3, 1) := by decide +kernel
theorem dX5_countAt_61 : decode cX5_countAt 61 = .ok (.ireturn, 1) := by decide +kernel
set_option maxRecDepth 20000 in
theorem ggX5_levelOf_X5_countAt : GoodIn wsX5_levelOf wsX5_countAt := goodIn_r _ [5, 6, 7, 8, 9, 10, 4, 11, 12, 13, 14, 15, 16, 17, 18, 19, 20, 21, 22, 23, 24, 25, 26, 27, 28, 29, 30, 31, 32, 33, 34] (by decide +kernel) (by decide +kernel)
set_option maxRecDepth 20000 in
theorem gX5_levelOf_X5_countAt : GoodIn wsX5_levelOf (wsV RX5 132 RX5 yX5_countAt wsX5_countAt) := goodIn_app (goodIn_of _ (by decide +kernel)) ggX5_levelOf_X5_countAt
theorem dX5_levelOf_0 : decode cX5_levelOf 0 = .ok (.iconst 0, 1) := by decide +kernel
theorem dX5_levelOf_1 : decode cX5_levelOf 1 = .ok (.istore_n 2, 1) := by decide +kernel
theorem dX5_levelOf_2 : decode cX5_levelOf 2 = .ok (.iload_n 2, 1) := by decide +kernel
theorem dX5_levelOf_3 : decode cX5_levelOf 3 = .ok (.bipush 24, 2) := by decide +kernel
theorem dX5_levelOf_5 : decode cX5_levelOf 5 = .ok (.if_icmp .ge 20, 3) := by decide +kernel
theorem dX5_levelOf_8 : decode cX5_levelOf 8 = .ok (.aload_n 0, 1) := by decide +kernel
theorem dX5_levelOf_9 : decode cX5_levelOf 9 = .ok (.iload_n 1, 1) := by decide +kernel
theorem dX5_levelOf_10 : decode cX5_levelOf 10 = .ok (.iload_n 2, 1) := by decide +kernel
theorem dX5_levelOf_11 : decode cX5_levelOf 11 = .ok (.invokevirtual 132, 3) := by decide +kernel
theorem dX5_levelOf_14 : decode cX5_levelOf 14 = .ok (.bipush 16, 2) := by decide +kernel
theorem dX5_levelOf_16 : decode cX5_levelOf 16 = .ok (.if_icmp .le 9, 3) := by decide +kernel
theorem dX5_levelOf_19 : decode cX5_levelOf 19 = .ok (.iinc 2 1, 3) := by decide +kernel
theorem dX5_levelOf_22 : decode cX5_levelOf 22 = .ok (.goto (-20), 3) := by decide +kernel
theorem dX5_levelOf_25 : decode cX5_levelOf 25 = .ok (.iload_n 2, 1) := by decide +kernel
theorem dX5_levelOf_26 : decode cX5_levelOf 26 = .ok (.ireturn, 1) := by decide +kernel
set_option maxRecDepth 20000 in
theorem ggX5_level_X5_isBasket : GoodIn wsX5_level wsX5_isBasket := goodIn_r _ [4] (by decide +kernel) (by decide +kernel)
set_option maxRecDepth 20000 in
theorem gX5_level_X5_isBasket : GoodIn wsX5_level (va_wsS RX5 61 yX5_isBasket wsX5_isBasket) := goodIn_app (goodIn_of _ (by decide +kernel)) ggX5_level_X5_isBasket
set_option maxRecDepth 20000 in
theorem ggX5_level_X5_goesWell : GoodIn wsX5_level wsX5_goesWell := goodIn_r _ [8, 9, 33, 34, 35, 36, 37, 38, 39, 40, 41, 42, 43, 44, 45, 46] (by decide +kernel) (by decide +kernel)
set_option maxRecDepth 20000 in
theorem gX5_level_X5_goesWell : GoodIn wsX5_level (wsV RX5 68 RX5 yX5_goesWell wsX5_goesWell) := goodIn_app (goodIn_of _ (by decide +kernel)) ggX5_level_X5_goesWell
set_option maxRecDepth 20000 in
theorem ggX5_level_X5_levelOf : GoodIn wsX5_level wsX5_levelOf := goodIn_r _ [13, 14, 15, 16, 3, 17, 18, 19, 20, 21, 22, 23, 24, 25, 26, 27, 28, 29, 30, 31, 32, 33, 34, 35, 36, 37, 38, 39, 40, 41, 42, 43, 44, 45, 46] (by decide +kernel) (by decide +kernel)
set_option maxRecDepth 20000 in
theorem gX5_level_X5_levelOf : GoodIn wsX5_level (wsV RX5 135 RX5 yX5_levelOf wsX5_levelOf) := goodIn_app (goodIn_of _ (by decide +kernel)) ggX5_level_X5_levelOf
theorem dX5_level_0 : decode cX5_level 0 = .ok (.aload_n 0, 1) := by decide +kernel
theorem dX5_level_1 : decode cX5_level 1 = .ok (.iload_n 1, 1) := by decide +kernel
theorem dX5_level_2 : decode cX5_level 2 = .ok (.invokestatic 61, 3) := by decide +kernel
theorem dX5_level_5 : decode cX5_level 5 = .ok (.ifCond .eq 7, 3) := by decide +kernel
theorem dX5_level_8 : decode cX5_level 8 = .ok (.iconst 0, 1) := by decide +kernel
theorem dX5_level_9 : decode cX5_level 9 = .ok (.goto 4, 3) := by decide +kernel
theorem dX5_level_12 : decode cX5_level 12 = .ok (.iconst 1, 1) := by decide +kernel
theorem dX5_level_13 : decode cX5_level 13 = .ok (.invokevirtual 68, 3) := by decide +kernel
theorem dX5_level_16 : decode cX5_level 16 = .ok (.ifCond .eq 11, 3) := by decide +kernel
theorem dX5_level_19 : decode cX5_level 19 = .ok (.aload_n 0, 1) := by decide +kernel
theorem dX5_level_20 : decode cX5_level 20 = .ok (.iload_n 1, 1) := by decide +kernel
theorem dX5_level_21 : decode cX5_level 21 = .ok (.invokevirtual 135, 3) := by decide +kernel
theorem dX5_level_24 : decode cX5_level 24 = .ok (.goto 4, 3) := by decide +kernel
theorem dX5_level_27 : decode cX5_level 27 = .ok (.iconst 0, 1) := by decide +kernel
theorem dX5_level_28 : decode cX5_level 28 = .ok (.ireturn, 1) := by decide +kernel
set_option maxRecDepth 20000 in
theorem ggX5_sampled_X5_isBasket : GoodIn wsX5_sampled wsX5_isBasket := goodIn_r _ [4] (by decide +kernel) (by decide +kernel)
set_option maxRecDepth 20000 in
theorem gX5_sampled_X5_isBasket : GoodIn wsX5_sampled (va_wsS RX5 61 yX5_isBasket wsX5_isBasket) := goodIn_app (goodIn_of _ (by decide +kernel)) ggX5_sampled_X5_isBasket
set_option maxRecDepth 20000 in
theorem ggX5_sampled_X5_goesWell : GoodIn wsX5_sampled wsX5_goesWell := goodIn_r _ [8, 9, 33, 34, 35, 36, 37, 38, 39, 40, 41, 42, 43, 44, 45, 46] (by decide +kernel) (by decide +kernel)
set_option maxRecDepth 20000 in
theorem gX5_sampled_X5_goesWell : GoodIn wsX5_sampled (wsV RX5 68 RX5 yX5_goesWell wsX5_goesWell) := goodIn_app (goodIn_of _ (by decide +kernel)) ggX5_sampled_X5_goesWell
set_option maxRecDepth 20000 in
theorem ggX5_sampled_X5_levelOf : GoodIn wsX5_sampled wsX5_levelOf := goodIn_r _ [13, 14, 15, 16, 3, 17, 18, 19, 20, 21, 22, 23, 24, 25, 26, 27, 28, 29, 30, 31, 32, 33, 34, 35, 36, 37, 38, 39, 40, 41, 42, 43, 44, 45, 46] (by decide +kernel) (by decide +kernel)
set_option maxRecDepth 20000 in
theorem gX5_sampled_X5_levelOf : GoodIn wsX5_sampled (wsV RX5 135 RX5 yX5_levelOf wsX5_levelOf) := goodIn_app (goodIn_of _ (by decide +kernel)) ggX5_sampled_X5_levelOf
set_option maxRecDepth 20000 in
theorem ggX5_sampled_X5_countAt : GoodIn wsX5_sampled wsX5_countAt := goodIn_r _ [17, 18, 19, 20, 21, 22, 3, 23, 24, 25, 26, 27, 28, 29, 30, 31, 32, 33, 34, 35, 36, 37, 38, 39, 40, 41, 42, 43, 44, 45, 46] (by decide +kernel) (by decide +kernel)
set_option maxRecDepth 20000 in
theorem gX5_sampled_X5_countAt : GoodIn wsX5_sampled (wsV RX5 132 RX5 yX5_countAt wsX5_countAt) := goodIn_app (goodIn_of _ (by decide +kernel)) ggX5_sampled_X5_countAt
theorem dX5_sampled_0 : decode cX5_sampled 0 = .ok (.aload_n 0, 1) := by decide +kernel
theorem dX5_sampled_1 : decode cX5_sampled 1 = .ok (.iload_n 1, 1) := by decide +kernel
theorem dX5_sampled_2 : decode cX5_sampled 2 = .ok (.invokestatic 61, 3) := by decide +kernel
theorem dX5_sampled_5 : decode cX5_sampled 5 = .ok (.ifCond .eq 7, 3) := by decide +kernel
theorem dX5_sampled_8 : decode cX5_sampled 8 = .ok (.iconst 0, 1) := by decide +kernel
theorem dX5_sampled_9 : decode cX5_sampled 9 = .ok (.goto 4, 3) := by decide +kernel
theorem dX5_sampled_12 : decode cX5_sampled 12 = .ok (.iconst 1, 1) := by decide +kernel
theorem dX5_sampled_13 : decode cX5_sampled 13 = .ok (.invokevirtual 68, 3) := by decide +kernel
theorem dX5_sampled_16 : decode cX5_sampled 16 = .ok (.ifCond .eq 16, 3) := by decide +kernel
theorem dX5_sampled_19 : decode cX5_sampled 19 = .ok (.aload_n 0, 1) := by decide +kernel
theorem dX5_sampled_20 : decode cX5_sampled 20 = .ok (.iload_n 1, 1) := by decide +kernel
theorem dX5_sampled_21 : decode cX5_sampled 21 = .ok (.aload_n 0, 1) := by decide +kernel
theorem dX5_sampled_22 : decode cX5_sampled 22 = .ok (.iload_n 1, 1) := by decide +kernel
theorem dX5_sampled_23 : decode cX5_sampled 23 = .ok (.invokevirtual 135, 3) := by decide +kernel
theorem dX5_sampled_26 : decode cX5_sampled 26 = .ok (.invokevirtual 132, 3) := by decide +kernel
theorem dX5_sampled_29 : decode cX5_sampled 29 = .ok (.goto 4, 3) := by decide +kernel
theorem dX5_sampled_32 : decode cX5_sampled 32 = .ok (.iconst 0, 1) := by decide +kernel
theorem dX5_sampled_33 : decode cX5_sampled 33 = .ok (.ireturn, 1) := by decide +kernel
set_option maxRecDepth 20000 in
theorem ggX5_sampledAt_X5_isBasket : GoodIn wsX5_sampledAt wsX5_isBasket := goodIn_r _ [4] (by decide +kernel) (by decide +kernel)
set_option maxRecDepth 20000 in
theorem gX5_sampledAt_X5_isBasket : GoodIn wsX5_sampledAt (va_wsS RX5 61 yX5_isBasket wsX5_isBasket) := goodIn_app (goodIn_of _ (by decide +kernel)) ggX5_sampledAt_X5_isBasket
set_option maxRecDepth 20000 in
theorem ggX5_sampledAt_X5_levelOf : GoodIn wsX5_sampledAt wsX5_levelOf := goodIn_r _ [8, 9, 10, 11, 3, 12, 13, 14, 15, 16, 17, 18, 19, 20, 21, 22, 23, 24, 25, 26, 27, 33, 34, 35, 36, 37, 38, 39, 40, 41, 42, 43, 44, 45, 46] (by decide +kernel) (by decide +kernel)
set_option maxRecDepth 20000 in
theorem gX5_sampledAt_X5_levelOf : GoodIn wsX5_sampledAt (wsV RX5 135 RX5 yX5_levelOf wsX5_levelOf) := goodIn_app (goodIn_of _ (by decide +kernel)) ggX5_sampledAt_X5_levelOf
set_option maxRecDepth 20000 in
theorem ggX5_sampledAt_X5_countAt : GoodIn wsX5_sampledAt wsX5_countAt := goodIn_r _ [12, 13, 14, 15, 16, 17, 3, 18, 19, 20, 21, 22, 23, 24, 25, 26, 27, 33, 34, 35, 36, 37, 38, 39, 40, 41, 42, 43, 44, 45, 46] (by decide +kernel) (by decide +kernel)
set_option maxRecDepth 20000 in
theorem gX5_sampledAt_X5_countAt : GoodIn wsX5_sampledAt (wsV RX5 132 RX5 yX5_countAt wsX5_countAt) := goodIn_app (goodIn_of _ (by decide +kernel)) ggX5_sampledAt_X5_countAt
set_option maxRecDepth 20000 in
theorem ggX5_sampledAt_X5_goesWell : GoodIn wsX5_sampledAt wsX5_goesWell := goodIn_r _ [31, 32, 33, 34, 35, 36, 37, 38, 39, 40, 41, 42, 43, 44, 45, 46] (by decide +kernel) (by decide +kernel)
set_option maxRecDepth 20000 in
theorem gX5_sampledAt_X5_goesWell : GoodIn wsX5_sampledAt (wsV RX5 68 RX5 yX5_goesWell wsX5_goesWell) := goodIn_app (goodIn_of _ (by decide +kernel)) ggX5_sampledAt_X5_goesWell
set_option maxRecDepth 20000 in
theorem ggX5_sampledAt_X5_has : GoodIn wsX5_sampledAt wsX5_has := goodIn_r _ [18, 19, 20, 33, 34, 35, 36, 37, 38, 39, 40, 41, 42, 43, 44, 45, 46] (by decide +kernel) (by decide +kernel)
set_option maxRecDepth 20000 in
theorem gX5_sampledAt_X5_has : GoodIn wsX5_sampledAt (wsV RX5 54 RX5 yX5_has wsX5_has) := goodIn_app (goodIn_of _ (by decide +kernel)) ggX5_sampledAt_X5_has
set_option maxRecDepth 20000 in
theorem ggX5_sampledAt_X5_hashOf : GoodIn wsX5_sampledAt wsX5_hashOf := goodIn_r _ [23, 24, 25, 26, 27] (by decide +kernel) (by decide +kernel)
set_option maxRecDepth 20000 in
theorem gX5_sampledAt_X5_hashOf : GoodIn wsX5_sampledAt (va_wsS RX5 82 yX5_hashOf wsX5_hashOf) := goodIn_app (goodIn_of _ (by decide +kernel)) ggX5_sampledAt_X5_hashOf
theorem dX5_sampledAt_0 : decode cX5_sampledAt 0 = .ok (.iload_n 1, 1) := by decide +kernel
theorem dX5_sampledAt_1 : decode cX5_sampledAt 1 = .ok (.invokestatic 61, 3) := by decide +kernel
theorem dX5_sampledAt_4 : decode cX5_sampledAt 4 = .ok (.ifCond .eq 11, 3) := by decide +kernel
theorem dX5_sampledAt_7 : decode cX5_sampledAt 7 = .ok (.aload_n 0, 1) := by decide +kernel
theorem dX5_sampledAt_8 : decode cX5_sampledAt 8 = .ok (.iload_n 1, 1) := by decide +kernel
theorem dX5_sampledAt_9 : decode cX5_sampledAt 9 = .ok (.invokevirtual 135, 3) := by decide +kernel
theorem dX5_sampledAt_12 : decode cX5_sampledAt 12 = .ok (.goto 4, 3) := by decide +kernel
theorem dX5_sampledAt_15 : decode cX5_sampledAt 15 = .ok (.iconst 0, 1) := by decide +kernel
theorem dX5_sampledAt_16 : decode cX5_sampledAt 16 = .ok (.istore_n 3, 1) := by decide +kernel
theorem dX5_sampledAt_17 : decode cX5_sampledAt 17 = .ok (.iload_n 1, 1) := by decide +kernel
theorem dX5_sampledAt_18 : decode cX5_sampledAt 18 = .ok (.invokestatic 61, 3) := by decide +kernel
theorem dX5_sampledAt_21 : decode cX5_sampledAt 21 = .ok (.ifCond .eq 12, 3) := by decide +kernel
theorem dX5_sampledAt_24 : decode cX5_sampledAt 24 = .ok (.aload_n 0, 1) := by decide +kernel
theorem dX5_sampledAt_25 : decode cX5_sampledAt 25 = .ok (.iload_n 1, 1) := by decide +kernel
theorem dX5_sampledAt_26 : decode cX5_sampledAt 26 = .ok (.iload_n 3, 1) := by decide +kernel
theorem dX5_sampledAt_27 : decode cX5_sampledAt 27 = .ok (.invokevirtual 132, 3) := by decide +kernel
theorem dX5_sampledAt_30 : decode cX5_sampledAt 30 = .ok (.goto 4, 3) := by decide +kernel
theorem dX5_sampledAt_33 : decode cX5_sampledAt 33 = .ok (.iconst 0, 1) := by decide +kernel
theorem dX5_sampledAt_34 : decode cX5_sampledAt 34 = .ok (.istore 4, 2) := by decide +kernel
theorem dX5_sampledAt_36 : decode cX5_sampledAt 36 = .ok (.aload_n 0, 1) := by decide +kernel
theorem dX5_sampledAt_37 : decode cX5_sampledAt 37 = .ok (.iload_n 2, 1) := by decide +kernel
theorem dX5_sampledAt_38 : decode cX5_sampledAt 38 = .ok (.ifCond .lt 13, 3) := by decide +kernel
theorem dX5_sampledAt_41 : decode cX5_sampledAt 41 = .ok (.iload_n 2, 1) := by decide +kernel
theorem dX5_sampledAt_42 : decode cX5_sampledAt 42 = .ok (.iload 4, 2) := by decide +kernel
theorem dX5_sampledAt_44 : decode cX5_sampledAt 44 = .ok (.if_icmp .ge 7, 3) := by decide +kernel
theorem dX5_sampledAt_47 : decode cX5_sampledAt 47 = .ok (.iconst 0, 1) := by decide +kernel
theorem dX5_sampledAt_48 : decode cX5_sampledAt 48 = .ok (.goto 4, 3) := by decide +kernel
theorem dX5_sampledAt_51 : decode cX5_sampledAt 51 = .ok (.iconst 1, 1) := by decide +kernel
theorem dX5_sampledAt_52 : decode cX5_sampledAt 52 = .ok (.invokevirtual 68, 3) := by decide +kernel
theorem dX5_sampledAt_55 : decode cX5_sampledAt 55 = .ok (.ifCond .ne 5, 3) := by decide +kernel
theorem dX5_sampledAt_58 : decode cX5_sampledAt 58 = .ok (.iconst 0, 1) := by decide +kernel
theorem dX5_sampledAt_59 : decode cX5_sampledAt 59 = .ok (.ireturn, 1) := by decide +kernel
theorem dX5_sampledAt_60 : decode cX5_sampledAt 60 = .ok (.iconst 0, 1) := by decide +kernel
theorem dX5_sampledAt_61 : decode cX5_sampledAt 61 = .ok (.istore 5, 2) := by decide +kernel
theorem dX5_sampledAt_63 : decode cX5_sampledAt 63 = .ok (.iload_n 2, 1) := by decide +kernel
theorem dX5_sampledAt_64 : decode cX5_sampledAt 64 = .ok (.istore 6, 2) := by decide +kernel
theorem dX5_sampledAt_66 : decode cX5_sampledAt 66 = .ok (.iload 6, 2) := by decide +kernel
theorem dX5_sampledAt_68 : decode cX5_sampledAt 68 = .ok (.ifCond .gt 25, 3) := by decide +kernel
theorem dX5_sampledAt_71 : decode cX5_sampledAt 71 = .ok (.aload_n 0, 1) := by decide +kernel
theorem dX5_sampledAt_72 : decode cX5_sampledAt 72 = .ok (.iload_n 1, 1) := by decide +kernel
theorem dX5_sampledAt_73 : decode cX5_sampledAt 73 = .ok (.iload 5, 2) := by decide +kernel
theorem dX5_sampledAt_75 : decode cX5_sampledAt 75 = .ok (.invokevirtual 54, 3) := by decide +kernel
theorem dX5_sampledAt_78 : decode cX5_sampledAt 78 = .ok (.ifCond .eq 15, 3) := by decide +kernel
theorem dX5_sampledAt_81 : decode cX5_sampledAt 81 = .ok (.iload 5, 2) := by decide +kernel
theorem dX5_sampledAt_83 : decode cX5_sampledAt 83 = .ok (.invokestatic 82, 3) := by decide +kernel
theorem dX5_sampledAt_86 : decode cX5_sampledAt 86 = .ok (.iconst 1, 1) := by decide +kernel
theorem dX5_sampledAt_87 : decode cX5_sampledAt 87 = .ok (.iload_n 3, 1) := by decide +kernel
theorem dX5_sampledAt_88 : decode cX5_sampledAt 88 = .ok (.ishl, 1) := by decide +kernel
theorem dX5_sampledAt_89 : decode cX5_sampledAt 89 = .ok (.irem, 1) := by decide +kernel
theorem dX5_sampledAt_90 : decode cX5_sampledAt 90 = .ok (.ifCond .eq 41, 3) := by decide +kernel
theorem dX5_sampledAt_93 : decode cX5_sampledAt 93 = .ok (.iload 6, 2) := by decide +kernel
theorem dX5_sampledAt_95 : decode cX5_sampledAt 95 = .ok (.aload_n 0, 1) := by decide +kernel
theorem dX5_sampledAt_96 : decode cX5_sampledAt 96 = .ok (.iload_n 1, 1) := by decide +kernel
theorem dX5_sampledAt_97 : decode cX5_sampledAt 97 = .ok (.iload 5, 2) := by decide +kernel
theorem dX5_sampledAt_99 : decode cX5_sampledAt 99 = .ok (.invokevirtual 54, 3) := by decide +kernel
theorem dX5_sampledAt_102 : decode cX5_sampledAt 102 = .ok (.ifCond .eq 19, 3) := by decide +kernel
theorem dX5_sampledAt_105 : decode cX5_sampledAt 105 = .ok (.iload 5, 2) := by decide +kernel
theorem dX5_sampledAt_107 : decode cX5_sampledAt 107 = .ok (.invokestatic 82, 3) := by decide +kernel
theorem dX5_sampledAt_110 : decode cX5_sampledAt 110 = .ok (.iconst 1, 1) := by decide +kernel
theorem dX5_sampledAt_111 : decode cX5_sampledAt 111 = .ok (.iload_n 3, 1) := by decide +kernel
theorem dX5_sampledAt_112 : decode cX5_sampledAt 112 = .ok (.ishl, 1) := by decide +kernel
theorem dX5_sampledAt_113 : decode cX5_sampledAt 113 = .ok (.irem, 1) := by decide +kernel
theorem dX5_sampledAt_114 : decode cX5_sampledAt 114 = .ok (.ifCond .ne 7, 3) := by decide +kernel
theorem dX5_sampledAt_117 : decode cX5_sampledAt 117 = .ok (.iconst 1, 1) := by decide +kernel
theorem dX5_sampledAt_118 : decode cX5_sampledAt 118 = .ok (.goto 4, 3) := by decide +kernel
theorem dX5_sampledAt_121 : decode cX5_sampledAt 121 = .ok (.iconst 0, 1) := by decide +kernel
theorem dX5_sampledAt_122 : decode cX5_sampledAt 122 = .ok (.isub, 1) := by decide +kernel
theorem dX5_sampledAt_123 : decode cX5_sampledAt 123 = .ok (.istore 6, 2) := by decide +kernel
theorem dX5_sampledAt_125 : decode cX5_sampledAt 125 = .ok (.iinc 5 1, 3) := by decide +kernel
theorem dX5_sampledAt_128 : decode cX5_sampledAt 128 = .ok (.goto (-62), 3) := by decide +kernel
theorem dX5_sampledAt_131 : decode cX5_sampledAt 131 = .ok (.iload 5, 2) := by decide +kernel
theorem dX5_sampledAt_133 : decode cX5_sampledAt 133 = .ok (.ireturn, 1) := by decide +kernel
set_option maxRecDepth 20000 in
theorem ggX5_bySample_X5_isBasket : GoodIn wsX5_bySample wsX5_isBasket := goodIn_r _ [4] (by decide +kernel) (by decide +kernel)
set_option maxRecDepth 20000 in
theorem gX5_bySample_X5_isBasket : GoodIn wsX5_bySample (va_wsS RX5 61 yX5_isBasket wsX5_isBasket) := goodIn_app (goodIn_of _ (by decide +kernel)) ggX5_bySample_X5_isBasket
set_option maxRecDepth 20000 in
theorem ggX5_bySample_X5_goesWell : GoodIn wsX5_bySample wsX5_goesWell := goodIn_r _ [8, 9, 33, 34, 35, 36, 37, 38, 39, 40, 41, 42, 43, 44, 45, 46] (by decide +kernel) (by decide +kernel)
set_option maxRecDepth 20000 in
theorem gX5_bySample_X5_goesWell : GoodIn wsX5_bySample (wsV RX5 68 RX5 yX5_goesWell wsX5_goesWell) := goodIn_app (goodIn_of _ (by decide +kernel)) ggX5_bySample_X5_goesWell
set_option maxRecDepth 20000 in
theorem ggX5_bySample_X5_levelOf : GoodIn wsX5_bySample wsX5_levelOf := goodIn_r _ [13, 14, 15, 16, 3, 17, 18, 19, 20, 21, 22, 23, 24, 25, 26, 27, 28, 29, 30, 31, 32, 33, 34, 35, 36, 37, 38, 39, 40, 41, 42, 43, 44, 45, 46] (by decide +kernel) (by decide +kernel)
set_option maxRecDepth 20000 in
theorem gX5_bySample_X5_levelOf : GoodIn wsX5_bySample (wsV RX5 135 RX5 yX5_levelOf wsX5_levelOf) := goodIn_app (goodIn_of _ (by decide +kernel)) ggX5_bySample_X5_levelOf
set_option maxRecDepth 20000 in
theorem ggX5_bySample_X5_countAt : GoodIn wsX5_bySample wsX5_countAt := goodIn_r _ [17, 18, 19, 20, 21, 22, 3, 23, 24, 25, 26, 27, 28, 29, 30, 31, 32, 33, 34, 35, 36, 37, 38, 39, 40, 41, 42, 43, 44, 45, 46] (by decide +kernel) (by decide +kernel)
set_option maxRecDepth 20000 in
theorem gX5_bySample_X5_countAt : GoodIn wsX5_bySample (wsV RX5 132 RX5 yX5_countAt wsX5_countAt) := goodIn_app (goodIn_of _ (by decide +kernel)) ggX5_bySample_X5_countAt
theorem dX5_bySample_0 : decode cX5_bySample 0 = .ok (.aload_n 0, 1) := by decide +kernel
theorem dX5_bySample_1 : decode cX5_bySample 1 = .ok (.iload_n 1, 1) := by decide +kernel
theorem dX5_bySample_2 : decode cX5_bySample 2 = .ok (.invokestatic 61, 3) := by decide +kernel
theorem dX5_bySample_5 : decode cX5_bySample 5 = .ok (.ifCond .eq 7, 3) := by decide +kernel
theorem dX5_bySample_8 : decode cX5_bySample 8 = .ok (.iconst 0, 1) := by decide +kernel
theorem dX5_bySample_9 : decode cX5_bySample 9 = .ok (.goto 4, 3) := by decide +kernel
theorem dX5_bySample_12 : decode cX5_bySample 12 = .ok (.iconst 1, 1) := by decide +kernel
theorem dX5_bySample_13 : decode cX5_bySample 13 = .ok (.invokevirtual 68, 3) := by decide +kernel
theorem dX5_bySample_16 : decode cX5_bySample 16 = .ok (.ifCond .ne 5, 3) := by decide +kernel
theorem dX5_bySample_19 : decode cX5_bySample 19 = .ok (.iconst 0, 1) := by decide +kernel
theorem dX5_bySample_20 : decode cX5_bySample 20 = .ok (.ireturn, 1) := by decide +kernel
theorem dX5_bySample_21 : decode cX5_bySample 21 = .ok (.aload_n 0, 1) := by decide +kernel
theorem dX5_bySample_22 : decode cX5_bySample 22 = .ok (.iload_n 1, 1) := by decide +kernel
theorem dX5_bySample_23 : decode cX5_bySample 23 = .ok (.invokevirtual 135, 3) := by decide +kernel
theorem dX5_bySample_26 : decode cX5_bySample 26 = .ok (.istore_n 2, 1) := by decide +kernel
theorem dX5_bySample_27 : decode cX5_bySample 27 = .ok (.aload_n 0, 1) := by decide +kernel
theorem dX5_bySample_28 : decode cX5_bySample 28 = .ok (.iload_n 1, 1) := by decide +kernel
theorem dX5_bySample_29 : decode cX5_bySample 29 = .ok (.iload_n 2, 1) := by decide +kernel
theorem dX5_bySample_30 : decode cX5_bySample 30 = .ok (.invokevirtual 132, 3) := by decide +kernel
theorem dX5_bySample_33 : decode cX5_bySample 33 = .ok (.iload_n 2, 1) := by decide +kernel
theorem dX5_bySample_34 : decode cX5_bySample 34 = .ok (.ishl, 1) := by decide +kernel
theorem dX5_bySample_35 : decode cX5_bySample 35 = .ok (.ireturn, 1) := by decide +kernel
theorem dJ9_max_7cf53_0 : decode cJ9_max_7cf53 0 = .ok (.iload_n 0, 1) := by decide +kernel
theorem dJ9_max_7cf53_1 : decode cJ9_max_7cf53 1 = .ok (.iload_n 1, 1) := by decide +kernel
theorem dJ9_max_7cf53_2 : decode cJ9_max_7cf53 2 = .ok (.if_icmp .lt 7, 3) := by decide +kernel
theorem dJ9_max_7cf53_5 : decode cJ9_max_7cf53 5 = .ok (.iload_n 0, 1) := by decide +kernel
theorem dJ9_max_7cf53_6 : decode cJ9_max_7cf53 6 = .ok (.goto 4, 3) := by decide +kernel
theorem dJ9_max_7cf53_9 : decode cJ9_max_7cf53 9 = .ok (.iload_n 1, 1) := by decide +kernel
theorem dJ9_max_7cf53_10 : decode cJ9_max_7cf53 10 = .ok (.ireturn, 1) := by decide +kernel
theorem dJ9_min_7cf53_0 : decode cJ9_min_7cf53 0 = .ok (.iload_n 0, 1) := by decide +kernel
theorem dJ9_min_7cf53_1 : decode cJ9_min_7cf53 1 = .ok (.iload_n 1, 1) := by decide +kernel
theorem dJ9_min_7cf53_2 : decode cJ9_min_7cf53 2 = .ok (.if_icmp .gt 7, 3) := by decide +kernel
theorem dJ9_min_7cf53_5 : decode cJ9_min_7cf53 5 = .ok (.iload_n 0, 1) := by decide +kernel
theorem dJ9_min_7cf53_6 : decode cJ9_min_7cf53 6 = .ok (.goto 4, 3) := by decide +kernel
theorem dJ9_min_7cf53_9 : decode cJ9_min_7cf53 9 = .ok (.iload_n 1, 1) := by decide +kernel
theorem dJ9_min_7cf53_10 : decode cJ9_min_7cf53 10 = .ok (.ireturn, 1) := by decide +kernel
theorem dJ7_copyOf_59c91_0 : decode cJ7_copyOf_59c91 0 = .ok (.iload_n 1, 1) := by decide +kernel
theorem dJ7_copyOf_59c91_1 : decode cJ7_copyOf_59c91 1 = .ok (.aload_n 0, 1) := by decide +kernel
theorem dJ7_copyOf_59c91_2 : decode cJ7_copyOf_59c91 2 = .ok (.arraylength, 1) := by decide +kernel
theorem dJ7_copyOf_59c91_3 : decode cJ7_copyOf_59c91 3 = .ok (.if_icmp .ne 11, 3) := by decide +kernel
theorem dJ7_copyOf_59c91_6 : decode cJ7_copyOf_59c91 6 = .ok (.aload_n 0, 1) := by decide +kernel
theorem dJ7_copyOf_59c91_7 : decode cJ7_copyOf_59c91 7 = .ok (.invokevirtual 316, 3) := by decide +kernel
theorem dJ7_copyOf_59c91_10 : decode cJ7_copyOf_59c91 10 = .ok (.checkcast 317, 3) := by decide +kernel
theorem dJ7_copyOf_59c91_13 : decode cJ7_copyOf_59c91 13 = .ok (.areturn, 1) := by decide +kernel
theorem dJ7_copyOf_59c91_14 : decode cJ7_copyOf_59c91 14 = .ok (.iload_n 1, 1) := by decide +kernel
theorem dJ7_copyOf_59c91_15 : decode cJ7_copyOf_59c91 15 = .ok (.newarray .int, 2) := by decide +kernel
theorem dJ7_copyOf_59c91_17 : decode cJ7_copyOf_59c91 17 = .ok (.astore_n 2, 1) := by decide +kernel
theorem dJ7_copyOf_59c91_18 : decode cJ7_copyOf_59c91 18 = .ok (.aload_n 0, 1) := by decide +kernel
theorem dJ7_copyOf_59c91_19 : decode cJ7_copyOf_59c91 19 = .ok (.iconst 0, 1) := by decide +kernel
theorem dJ7_copyOf_59c91_20 : decode cJ7_copyOf_59c91 20 = .ok (.aload_n 2, 1) := by decide +kernel
theorem dJ7_copyOf_59c91_21 : decode cJ7_copyOf_59c91 21 = .ok (.iconst 0, 1) := by decide +kernel
theorem dJ7_copyOf_59c91_22 : decode cJ7_copyOf_59c91 22 = .ok (.aload_n 0, 1) := by decide +kernel
theorem dJ7_copyOf_59c91_23 : decode cJ7_copyOf_59c91 23 = .ok (.arraylength, 1) := by decide +kernel
theorem dJ7_copyOf_59c91_24 : decode cJ7_copyOf_59c91 24 = .ok (.iload_n 1, 1) := by decide +kernel
theorem dJ7_copyOf_59c91_25 : decode cJ7_copyOf_59c91 25 = .ok (.invokestatic 304, 3) := by decide +kernel
theorem dJ7_copyOf_59c91_28 : decode cJ7_copyOf_59c91 28 = .ok (.invokestatic 150, 3) := by decide +kernel
theorem dJ7_copyOf_59c91_31 : decode cJ7_copyOf_59c91 31 = .ok (.aload_n 2, 1) := by decide +kernel
theorem dJ7_copyOf_59c91_32 : decode cJ7_copyOf_59c91 32 = .ok (.areturn, 1) := by decide +kernel
