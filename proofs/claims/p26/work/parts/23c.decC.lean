theorem dL_part_0 : decode cL_part 0 = .ok (.iload_n 0, 1) := by decide +kernel
theorem dL_part_1 : decode cL_part 1 = .ok (.ldc 7, 2) := by decide +kernel
theorem dL_part_3 : decode cL_part 3 = .ok (.iand, 1) := by decide +kernel
theorem dL_part_4 : decode cL_part 4 = .ok (.iload_n 1, 1) := by decide +kernel
theorem dL_part_5 : decode cL_part 5 = .ok (.irem, 1) := by decide +kernel
theorem dL_part_6 : decode cL_part 6 = .ok (.ireturn, 1) := by decide +kernel
theorem dL_drawn_0 : decode cL_drawn 0 = .ok (.aload_n 0, 1) := by decide +kernel
theorem dL_drawn_1 : decode cL_drawn 1 = .ok (.arraylength, 1) := by decide +kernel
theorem dL_drawn_2 : decode cL_drawn 2 = .ok (.ifCond .ne 13, 3) := by decide +kernel
theorem dL_drawn_5 : decode cL_drawn 5 = .ok (.sipush 7919, 3) := by decide +kernel
theorem dL_drawn_8 : decode cL_drawn 8 = .ok (.iload_n 1, 1) := by decide +kernel
theorem dL_drawn_9 : decode cL_drawn 9 = .ok (.imul, 1) := by decide +kernel
theorem dL_drawn_10 : decode cL_drawn 10 = .ok (.iconst 3, 1) := by decide +kernel
theorem dL_drawn_11 : decode cL_drawn 11 = .ok (.iadd, 1) := by decide +kernel
theorem dL_drawn_12 : decode cL_drawn 12 = .ok (.goto 27, 3) := by decide +kernel
theorem dL_drawn_15 : decode cL_drawn 15 = .ok (.aload_n 0, 1) := by decide +kernel
theorem dL_drawn_16 : decode cL_drawn 16 = .ok (.iload_n 1, 1) := by decide +kernel
theorem dL_drawn_17 : decode cL_drawn 17 = .ok (.aload_n 0, 1) := by decide +kernel
theorem dL_drawn_18 : decode cL_drawn 18 = .ok (.arraylength, 1) := by decide +kernel
theorem dL_drawn_19 : decode cL_drawn 19 = .ok (.irem, 1) := by decide +kernel
theorem dL_drawn_20 : decode cL_drawn 20 = .ok (.iaload, 1) := by decide +kernel
theorem dL_drawn_21 : decode cL_drawn 21 = .ok (.iload_n 1, 1) := by decide +kernel
theorem dL_drawn_22 : decode cL_drawn 22 = .ok (.bipush 7, 2) := by decide +kernel
theorem dL_drawn_24 : decode cL_drawn 24 = .ok (.irem, 1) := by decide +kernel
theorem dL_drawn_25 : decode cL_drawn 25 = .ok (.ishr, 1) := by decide +kernel
theorem dL_drawn_26 : decode cL_drawn 26 = .ok (.iload_n 1, 1) := by decide +kernel
theorem dL_drawn_27 : decode cL_drawn 27 = .ok (.aload_n 0, 1) := by decide +kernel
theorem dL_drawn_28 : decode cL_drawn 28 = .ok (.arraylength, 1) := by decide +kernel
theorem dL_drawn_29 : decode cL_drawn 29 = .ok (.idiv, 1) := by decide +kernel
theorem dL_drawn_30 : decode cL_drawn 30 = .ok (.bipush 31, 2) := by decide +kernel
theorem dL_drawn_32 : decode cL_drawn 32 = .ok (.imul, 1) := by decide +kernel
theorem dL_drawn_33 : decode cL_drawn 33 = .ok (.ixor, 1) := by decide +kernel
theorem dL_drawn_34 : decode cL_drawn 34 = .ok (.iload_n 1, 1) := by decide +kernel
theorem dL_drawn_35 : decode cL_drawn 35 = .ok (.ldc 8, 2) := by decide +kernel
theorem dL_drawn_37 : decode cL_drawn 37 = .ok (.imul, 1) := by decide +kernel
theorem dL_drawn_38 : decode cL_drawn 38 = .ok (.ixor, 1) := by decide +kernel
theorem dL_drawn_39 : decode cL_drawn 39 = .ok (.ireturn, 1) := by decide +kernel
set_option maxRecDepth 20000 in
theorem ggL_seen_X7_count : GoodIn wsL_seen wsX7_count := goodIn_r _ [7, 8, 9, 10, 11, 12, 13, 6, 14, 15, 16, 17, 18, 19, 20, 21, 22, 23, 24, 25, 26, 27, 28, 29, 30, 31, 32, 33, 34, 35, 36, 37, 38, 39, 40, 41, 42, 43, 44, 45, 46, 47, 48, 49, 50, 51, 52, 53, 54, 55, 56, 57, 58, 59, 60, 61, 62, 63, 64, 65, 66, 67, 68, 69, 70, 71, 72, 73, 74, 75, 76, 77, 78, 79, 80, 81, 82, 83, 84, 85, 86, 87, 88, 89, 90, 91, 92, 93, 94, 95, 96, 97, 151, 152, 153, 154, 155, 156, 157, 158, 159, 160, 161, 162, 163, 164, 165, 166, 167, 168, 169, 170, 171, 172, 173, 174, 175, 176, 177, 178, 179, 180, 181, 182, 183, 184, 185] (by decide +kernel) (by decide +kernel)
set_option maxRecDepth 20000 in
theorem gL_seen_X7_count : GoodIn wsL_seen (wsV RL 13 RX7 yX7_count wsX7_count) := goodIn_app (goodIn_of _ (by decide +kernel)) ggL_seen_X7_count
set_option maxRecDepth 20000 in
theorem ggL_seen_X7_leaf : GoodIn wsL_seen wsX7_leaf := goodIn_r _ [101, 8, 97, 46, 47, 34, 48, 36, 49, 50, 51, 52, 102, 103, 6, 104, 151, 152, 153, 154, 155, 156, 157, 158, 159, 160, 161, 162, 163, 164, 165, 166, 167, 168, 169, 170, 171, 185] (by decide +kernel) (by decide +kernel)
set_option maxRecDepth 20000 in
theorem gL_seen_X7_leaf : GoodIn wsL_seen (wsV RL 19 RX7 yX7_leaf wsX7_leaf) := goodIn_app (goodIn_of _ (by decide +kernel)) ggL_seen_X7_leaf
set_option maxRecDepth 20000 in
theorem ggL_seen_X7_page : GoodIn wsL_seen wsX7_page := goodIn_r _ [108, 8, 15, 109, 61, 62, 28, 63, 64, 26, 27, 29, 30, 97, 46, 47, 34, 48, 36, 49, 50, 51, 52, 16, 17, 18, 19, 20, 21, 22, 23, 24, 25, 31, 32, 33, 35, 37, 38, 39, 40, 41, 42, 43, 44, 45, 53, 54, 55, 56, 57, 58, 59, 60, 65, 66, 67, 68, 69, 70, 71, 72, 110, 111, 112, 113, 114, 115, 116, 82, 83, 84, 102, 103, 6, 104, 117, 118, 119, 120, 121, 122, 123, 124, 125, 126, 151, 152, 153, 154, 155, 156, 157, 158, 159, 160, 161, 162, 163, 164, 165, 166, 167, 168, 169, 170, 171, 181, 182, 183, 184, 185, 172, 173, 174, 175, 176] (by decide +kernel) (by decide +kernel)
set_option maxRecDepth 20000 in
theorem gL_seen_X7_page : GoodIn wsL_seen (wsV RL 23 RX7 yX7_page wsX7_page) := goodIn_app (goodIn_of _ (by decide +kernel)) ggL_seen_X7_page
set_option maxRecDepth 20000 in
theorem ggL_seen_X7_picture : GoodIn wsL_seen wsX7_picture := goodIn_r _ [130, 8, 15, 131, 132, 133, 56, 134, 114, 97, 46, 47, 34, 48, 36, 49, 50, 51, 52, 135, 54, 55, 57, 58, 59, 102, 103, 6, 104, 16, 17, 18, 19, 20, 21, 22, 23, 24, 25, 26, 27, 28, 29, 30, 31, 32, 33, 35, 37, 38, 39, 40, 41, 42, 43, 44, 45, 53, 60, 61, 62, 63, 64, 65, 66, 67, 68, 69, 70, 71, 72, 136, 90, 91, 92, 137, 124, 125, 151, 152, 153, 154, 155, 156, 157, 158, 159, 160, 161, 162, 163, 164, 165, 166, 167, 172, 173, 174, 175, 176, 181, 182, 183, 184, 185, 168, 169, 170, 171] (by decide +kernel) (by decide +kernel)
set_option maxRecDepth 20000 in
theorem gL_seen_X7_picture : GoodIn wsL_seen (wsV RL 26 RX7 yX7_picture wsX7_picture) := goodIn_app (goodIn_of _ (by decide +kernel)) ggL_seen_X7_picture
set_option maxRecDepth 20000 in
theorem ggL_seen_X7_best : GoodIn wsL_seen wsX7_best := goodIn_r _ [141, 8, 142, 143, 144, 120, 145, 122, 146, 147, 148, 149, 150, 126, 46, 47, 34, 48, 36, 49, 50, 51, 52, 151, 152, 153, 154, 155, 156, 157, 158, 159, 160, 161, 162, 163, 164, 165, 166, 167, 168, 169, 170, 171, 185] (by decide +kernel) (by decide +kernel)
set_option maxRecDepth 20000 in
theorem gL_seen_X7_best : GoodIn wsL_seen (wsV RL 29 RX7 yX7_best wsX7_best) := goodIn_app (goodIn_of _ (by decide +kernel)) ggL_seen_X7_best
theorem dL_seen_0 : decode cL_seen 0 = .ok (.ldc2_w 9, 3) := by decide +kernel
theorem dL_seen_3 : decode cL_seen 3 = .ok (.lstore_n 1, 1) := by decide +kernel
theorem dL_seen_4 : decode cL_seen 4 = .ok (.iconst 0, 1) := by decide +kernel
theorem dL_seen_5 : decode cL_seen 5 = .ok (.istore_n 3, 1) := by decide +kernel
theorem dL_seen_6 : decode cL_seen 6 = .ok (.iload_n 3, 1) := by decide +kernel
theorem dL_seen_7 : decode cL_seen 7 = .ok (.bipush 15, 2) := by decide +kernel
theorem dL_seen_9 : decode cL_seen 9 = .ok (.if_icmp .ge 22, 3) := by decide +kernel
theorem dL_seen_12 : decode cL_seen 12 = .ok (.ldc2_w 11, 3) := by decide +kernel
theorem dL_seen_15 : decode cL_seen 15 = .ok (.lload_n 1, 1) := by decide +kernel
theorem dL_seen_16 : decode cL_seen 16 = .ok (.lmul, 1) := by decide +kernel
theorem dL_seen_17 : decode cL_seen 17 = .ok (.aload_n 0, 1) := by decide +kernel
theorem dL_seen_18 : decode cL_seen 18 = .ok (.iload_n 3, 1) := by decide +kernel
theorem dL_seen_19 : decode cL_seen 19 = .ok (.invokevirtual 13, 3) := by decide +kernel
theorem dL_seen_22 : decode cL_seen 22 = .ok (.i2l, 1) := by decide +kernel
theorem dL_seen_23 : decode cL_seen 23 = .ok (.ladd, 1) := by decide +kernel
theorem dL_seen_24 : decode cL_seen 24 = .ok (.lstore_n 1, 1) := by decide +kernel
theorem dL_seen_25 : decode cL_seen 25 = .ok (.iinc 3 1, 3) := by decide +kernel
theorem dL_seen_28 : decode cL_seen 28 = .ok (.goto (-22), 3) := by decide +kernel
theorem dL_seen_31 : decode cL_seen 31 = .ok (.iconst 0, 1) := by decide +kernel
theorem dL_seen_32 : decode cL_seen 32 = .ok (.istore_n 3, 1) := by decide +kernel
theorem dL_seen_33 : decode cL_seen 33 = .ok (.iload_n 3, 1) := by decide +kernel
theorem dL_seen_34 : decode cL_seen 34 = .ok (.iconst 3, 1) := by decide +kernel
theorem dL_seen_35 : decode cL_seen 35 = .ok (.aload_n 0, 1) := by decide +kernel
theorem dL_seen_36 : decode cL_seen 36 = .ok (.iconst 0, 1) := by decide +kernel
theorem dL_seen_37 : decode cL_seen 37 = .ok (.invokevirtual 13, 3) := by decide +kernel
theorem dL_seen_40 : decode cL_seen 40 = .ok (.imul, 1) := by decide +kernel
theorem dL_seen_41 : decode cL_seen 41 = .ok (.if_icmp .ge 27, 3) := by decide +kernel
theorem dL_seen_44 : decode cL_seen 44 = .ok (.ldc2_w 11, 3) := by decide +kernel
theorem dL_seen_47 : decode cL_seen 47 = .ok (.lload_n 1, 1) := by decide +kernel
theorem dL_seen_48 : decode cL_seen 48 = .ok (.lmul, 1) := by decide +kernel
theorem dL_seen_49 : decode cL_seen 49 = .ok (.aload_n 0, 1) := by decide +kernel
theorem dL_seen_50 : decode cL_seen 50 = .ok (.iload_n 3, 1) := by decide +kernel
theorem dL_seen_51 : decode cL_seen 51 = .ok (.iconst 3, 1) := by decide +kernel
theorem dL_seen_52 : decode cL_seen 52 = .ok (.idiv, 1) := by decide +kernel
theorem dL_seen_53 : decode cL_seen 53 = .ok (.iload_n 3, 1) := by decide +kernel
theorem dL_seen_54 : decode cL_seen 54 = .ok (.iconst 3, 1) := by decide +kernel
theorem dL_seen_55 : decode cL_seen 55 = .ok (.irem, 1) := by decide +kernel
theorem dL_seen_56 : decode cL_seen 56 = .ok (.invokevirtual 19, 3) := by decide +kernel
theorem dL_seen_59 : decode cL_seen 59 = .ok (.i2l, 1) := by decide +kernel
theorem dL_seen_60 : decode cL_seen 60 = .ok (.ladd, 1) := by decide +kernel
theorem dL_seen_61 : decode cL_seen 61 = .ok (.lstore_n 1, 1) := by decide +kernel
theorem dL_seen_62 : decode cL_seen 62 = .ok (.iinc 3 1, 3) := by decide +kernel
theorem dL_seen_65 : decode cL_seen 65 = .ok (.goto (-32), 3) := by decide +kernel
theorem dL_seen_68 : decode cL_seen 68 = .ok (.iconst 0, 1) := by decide +kernel
theorem dL_seen_69 : decode cL_seen 69 = .ok (.istore_n 3, 1) := by decide +kernel
theorem dL_seen_70 : decode cL_seen 70 = .ok (.iload_n 3, 1) := by decide +kernel
theorem dL_seen_71 : decode cL_seen 71 = .ok (.iconst 2, 1) := by decide +kernel
theorem dL_seen_72 : decode cL_seen 72 = .ok (.aload_n 0, 1) := by decide +kernel
theorem dL_seen_73 : decode cL_seen 73 = .ok (.iconst 0, 1) := by decide +kernel
theorem dL_seen_74 : decode cL_seen 74 = .ok (.invokevirtual 13, 3) := by decide +kernel
theorem dL_seen_77 : decode cL_seen 77 = .ok (.imul, 1) := by decide +kernel
theorem dL_seen_78 : decode cL_seen 78 = .ok (.if_icmp .ge 47, 3) := by decide +kernel
theorem dL_seen_81 : decode cL_seen 81 = .ok (.ldc2_w 11, 3) := by decide +kernel
theorem dL_seen_84 : decode cL_seen 84 = .ok (.ldc2_w 11, 3) := by decide +kernel
theorem dL_seen_87 : decode cL_seen 87 = .ok (.ldc2_w 11, 3) := by decide +kernel
theorem dL_seen_90 : decode cL_seen 90 = .ok (.lload_n 1, 1) := by decide +kernel
theorem dL_seen_91 : decode cL_seen 91 = .ok (.lmul, 1) := by decide +kernel
theorem dL_seen_92 : decode cL_seen 92 = .ok (.aload_n 0, 1) := by decide +kernel
theorem dL_seen_93 : decode cL_seen 93 = .ok (.iload_n 3, 1) := by decide +kernel
theorem dL_seen_94 : decode cL_seen 94 = .ok (.iconst 0, 1) := by decide +kernel
theorem dL_seen_95 : decode cL_seen 95 = .ok (.invokevirtual 23, 3) := by decide +kernel
theorem dL_seen_98 : decode cL_seen 98 = .ok (.i2l, 1) := by decide +kernel
theorem dL_seen_99 : decode cL_seen 99 = .ok (.ladd, 1) := by decide +kernel
theorem dL_seen_100 : decode cL_seen 100 = .ok (.lmul, 1) := by decide +kernel
theorem dL_seen_101 : decode cL_seen 101 = .ok (.aload_n 0, 1) := by decide +kernel
theorem dL_seen_102 : decode cL_seen 102 = .ok (.iload_n 3, 1) := by decide +kernel
theorem dL_seen_103 : decode cL_seen 103 = .ok (.iconst 1, 1) := by decide +kernel
theorem dL_seen_104 : decode cL_seen 104 = .ok (.invokevirtual 23, 3) := by decide +kernel
theorem dL_seen_107 : decode cL_seen 107 = .ok (.i2l, 1) := by decide +kernel
theorem dL_seen_108 : decode cL_seen 108 = .ok (.ladd, 1) := by decide +kernel
theorem dL_seen_109 : decode cL_seen 109 = .ok (.lmul, 1) := by decide +kernel
theorem dL_seen_110 : decode cL_seen 110 = .ok (.aload_n 0, 1) := by decide +kernel
theorem dL_seen_111 : decode cL_seen 111 = .ok (.iload_n 3, 1) := by decide +kernel
theorem dL_seen_112 : decode cL_seen 112 = .ok (.iconst 2, 1) := by decide +kernel
theorem dL_seen_113 : decode cL_seen 113 = .ok (.invokevirtual 23, 3) := by decide +kernel
theorem dL_seen_116 : decode cL_seen 116 = .ok (.i2l, 1) := by decide +kernel
theorem dL_seen_117 : decode cL_seen 117 = .ok (.ladd, 1) := by decide +kernel
theorem dL_seen_118 : decode cL_seen 118 = .ok (.lstore_n 1, 1) := by decide +kernel
theorem dL_seen_119 : decode cL_seen 119 = .ok (.iinc 3 1, 3) := by decide +kernel
theorem dL_seen_122 : decode cL_seen 122 = .ok (.goto (-52), 3) := by decide +kernel
theorem dL_seen_125 : decode cL_seen 125 = .ok (.iconst 0, 1) := by decide +kernel
theorem dL_seen_126 : decode cL_seen 126 = .ok (.istore_n 3, 1) := by decide +kernel
theorem dL_seen_127 : decode cL_seen 127 = .ok (.iload_n 3, 1) := by decide +kernel
theorem dL_seen_128 : decode cL_seen 128 = .ok (.iconst 4, 1) := by decide +kernel
theorem dL_seen_129 : decode cL_seen 129 = .ok (.aload_n 0, 1) := by decide +kernel
theorem dL_seen_130 : decode cL_seen 130 = .ok (.iconst 2, 1) := by decide +kernel
theorem dL_seen_131 : decode cL_seen 131 = .ok (.invokevirtual 13, 3) := by decide +kernel
theorem dL_seen_134 : decode cL_seen 134 = .ok (.imul, 1) := by decide +kernel
theorem dL_seen_135 : decode cL_seen 135 = .ok (.if_icmp .ge 39, 3) := by decide +kernel
theorem dL_seen_138 : decode cL_seen 138 = .ok (.ldc2_w 11, 3) := by decide +kernel
theorem dL_seen_141 : decode cL_seen 141 = .ok (.lload_n 1, 1) := by decide +kernel
theorem dL_seen_142 : decode cL_seen 142 = .ok (.lmul, 1) := by decide +kernel
theorem dL_seen_143 : decode cL_seen 143 = .ok (.aload_n 0, 1) := by decide +kernel
theorem dL_seen_144 : decode cL_seen 144 = .ok (.iload_n 3, 1) := by decide +kernel
theorem dL_seen_145 : decode cL_seen 145 = .ok (.iconst 4, 1) := by decide +kernel
theorem dL_seen_146 : decode cL_seen 146 = .ok (.idiv, 1) := by decide +kernel
theorem dL_seen_147 : decode cL_seen 147 = .ok (.iload_n 3, 1) := by decide +kernel
theorem dL_seen_148 : decode cL_seen 148 = .ok (.iconst 4, 1) := by decide +kernel
theorem dL_seen_149 : decode cL_seen 149 = .ok (.irem, 1) := by decide +kernel
theorem dL_seen_150 : decode cL_seen 150 = .ok (.iconst 3, 1) := by decide +kernel
theorem dL_seen_151 : decode cL_seen 151 = .ok (.if_icmp .ne 8, 3) := by decide +kernel
theorem dL_seen_154 : decode cL_seen 154 = .ok (.bipush 6, 2) := by decide +kernel
theorem dL_seen_156 : decode cL_seen 156 = .ok (.goto 6, 3) := by decide +kernel
theorem dL_seen_159 : decode cL_seen 159 = .ok (.iload_n 3, 1) := by decide +kernel
theorem dL_seen_160 : decode cL_seen 160 = .ok (.iconst 4, 1) := by decide +kernel
theorem dL_seen_161 : decode cL_seen 161 = .ok (.irem, 1) := by decide +kernel
theorem dL_seen_162 : decode cL_seen 162 = .ok (.invokevirtual 26, 3) := by decide +kernel
theorem dL_seen_165 : decode cL_seen 165 = .ok (.i2l, 1) := by decide +kernel
theorem dL_seen_166 : decode cL_seen 166 = .ok (.ladd, 1) := by decide +kernel
theorem dL_seen_167 : decode cL_seen 167 = .ok (.lstore_n 1, 1) := by decide +kernel
theorem dL_seen_168 : decode cL_seen 168 = .ok (.iinc 3 1, 3) := by decide +kernel
theorem dL_seen_171 : decode cL_seen 171 = .ok (.goto (-44), 3) := by decide +kernel
theorem dL_seen_174 : decode cL_seen 174 = .ok (.ldc2_w 11, 3) := by decide +kernel
theorem dL_seen_177 : decode cL_seen 177 = .ok (.lload_n 1, 1) := by decide +kernel
theorem dL_seen_178 : decode cL_seen 178 = .ok (.lmul, 1) := by decide +kernel
theorem dL_seen_179 : decode cL_seen 179 = .ok (.aload_n 0, 1) := by decide +kernel
theorem dL_seen_180 : decode cL_seen 180 = .ok (.invokevirtual 29, 3) := by decide +kernel
theorem dL_seen_183 : decode cL_seen 183 = .ok (.i2l, 1) := by decide +kernel
theorem dL_seen_184 : decode cL_seen 184 = .ok (.ladd, 1) := by decide +kernel
theorem dL_seen_185 : decode cL_seen 185 = .ok (.lreturn, 1) := by decide +kernel
set_option maxRecDepth 20000 in
theorem ggL_refusesAny_X7_count : GoodIn wsL_refusesAny wsX7_count := goodIn_r _ [5, 6, 7, 8, 9, 10, 11, 4, 12, 13, 14, 15, 16, 17, 18, 19, 20, 21, 22, 23, 24, 25, 26, 27, 28, 29, 30, 31, 32, 33, 34, 35, 36, 37, 38, 39, 40, 41, 42, 43, 44, 45, 46, 47, 48, 49, 50, 51, 52, 53, 54, 55, 56, 57, 58, 59, 60, 61, 62, 63, 64, 65, 66, 67, 68, 69, 70, 71, 72, 73, 74, 75, 76, 77, 78, 79, 80, 81, 82, 83, 84, 85, 86, 87, 88, 89, 90, 91, 92, 93, 94, 95, 321, 322, 323, 324, 325, 326, 327, 328, 329, 330, 331, 332, 333, 334, 335, 336, 337, 338, 339, 340, 341, 342, 343, 344, 345, 346, 347, 348, 349, 350, 351, 352, 353, 354, 355] (by decide +kernel) (by decide +kernel)
set_option maxRecDepth 20000 in
theorem gL_refusesAny_X7_count : GoodIn wsL_refusesAny (wsV RL 13 RX7 yX7_count wsX7_count) := goodIn_app (goodIn_of _ (by decide +kernel)) ggL_refusesAny_X7_count
set_option maxRecDepth 20000 in
theorem ggL_refusesAny_X7_layBook : GoodIn wsL_refusesAny wsX7_layBook := goodIn_r _ [99, 7, 6, 100, 101, 102, 103, 104, 105, 106, 107, 108, 109, 110, 111, 112, 113, 114, 115, 116, 117, 118, 119, 120, 121, 122, 123, 124, 125, 126, 127, 128, 26, 129, 130, 131, 132, 28, 133, 134, 135, 32, 136, 34, 137, 138, 139, 140, 141, 142, 143, 144, 145, 146, 147, 54, 148, 149, 150, 56, 151, 152, 153, 154, 155, 156, 157, 158, 159, 160, 161, 162, 163, 164, 165, 166, 167, 64, 65, 66, 47, 48, 49, 50, 168, 169, 170, 171, 62, 24, 25, 27, 321, 322, 323, 324, 325, 326, 327, 328, 329, 330, 331, 332, 333, 334, 335, 336, 337, 347, 348, 338, 339, 340, 341, 355, 342, 343, 344, 345, 346] (by decide +kernel) (by decide +kernel)
set_option maxRecDepth 20000 in
theorem gL_refusesAny_X7_layBook : GoodIn wsL_refusesAny (wsV RL 33 RX7 yX7_layBook wsX7_layBook) := goodIn_app (goodIn_of _ (by decide +kernel)) ggL_refusesAny_X7_layBook
set_option maxRecDepth 20000 in
theorem ggL_refusesAny_X7_print : GoodIn wsL_refusesAny wsX7_print := goodIn_r _ [175, 6, 7, 176, 59, 60, 26, 61, 62, 24, 25, 27, 28, 95, 44, 45, 32, 46, 34, 47, 48, 49, 50, 100, 101, 102, 103, 104, 105, 106, 107, 108, 109, 110, 111, 112, 113, 114, 115, 116, 117, 118, 119, 120, 121, 122, 123, 124, 125, 126, 127, 128, 129, 130, 131, 132, 133, 134, 135, 136, 137, 138, 139, 140, 141, 142, 143, 144, 145, 146, 147, 54, 148, 149, 150, 56, 151, 152, 153, 154, 177, 64, 65, 66, 321, 322, 323, 324, 325, 326, 327, 328, 329, 330, 331, 332, 333, 334, 335, 336, 337, 338, 339, 340, 341, 355, 347, 348, 342, 343, 344, 345, 346] (by decide +kernel) (by decide +kernel)
set_option maxRecDepth 20000 in
theorem gL_refusesAny_X7_print : GoodIn wsL_refusesAny (wsV RL 38 RX7 yX7_print wsX7_print) := goodIn_app (goodIn_of _ (by decide +kernel)) ggL_refusesAny_X7_print
set_option maxRecDepth 20000 in
theorem ggL_refusesAny_X7_scan : GoodIn wsL_refusesAny wsX7_scan := goodIn_r _ [181, 6, 182, 7, 183, 184, 185, 114, 186, 116, 187, 112, 113, 115, 117, 118, 119, 120, 121, 122, 123, 124, 125, 126, 127, 128, 26, 129, 130, 131, 132, 28, 133, 134, 135, 32, 136, 34, 137, 138, 139, 140, 141, 142, 143, 144, 145, 146, 147, 54, 148, 149, 150, 56, 151, 152, 153, 154, 188, 189, 190, 191, 192, 193, 194, 195, 196, 197, 198, 199, 200, 201, 202, 203, 204, 205, 206, 207, 208, 4, 209, 210, 211, 212, 213, 214, 215, 216, 217, 218, 219, 220, 221, 222, 223, 224, 225, 226, 227, 228, 44, 45, 46, 47, 48, 49, 50, 229, 230, 231, 232, 233, 64, 65, 66, 234, 235, 236, 237, 238, 239, 240, 241, 242, 243, 244, 245, 246, 247, 248, 249, 100, 101, 102, 103, 104, 105, 106, 107, 108, 109, 110, 111, 321, 322, 323, 324, 325, 326, 327, 328, 329, 330, 331, 332, 333, 334, 335, 336, 337, 338, 339, 340, 341, 355, 342, 343, 344, 345, 346, 347, 348] (by decide +kernel) (by decide +kernel)
set_option maxRecDepth 20000 in
theorem gL_refusesAny_X7_scan : GoodIn wsL_refusesAny (wsV RL 41 RX7 yX7_scan wsX7_scan) := goodIn_app (goodIn_of _ (by decide +kernel)) ggL_refusesAny_X7_scan
set_option maxRecDepth 20000 in
theorem ggL_refusesAny_X7_throwAway : GoodIn wsL_refusesAny wsX7_throwAway := goodIn_r _ [253, 6, 7, 254, 255, 256, 54, 257, 152, 100, 101, 102, 103, 104, 105, 106, 107, 108, 109, 110, 111, 112, 113, 114, 115, 116, 117, 118, 119, 120, 121, 122, 123, 124, 125, 126, 127, 128, 26, 129, 130, 131, 132, 28, 133, 134, 135, 32, 136, 34, 137, 138, 139, 140, 141, 142, 143, 144, 145, 146, 147, 148, 149, 150, 56, 151, 153, 154, 258, 259, 260, 261, 262, 263, 264, 265, 266, 47, 48, 49, 50, 321, 322, 323, 324, 325, 326, 327, 328, 329, 330, 331, 332, 333, 334, 335, 336, 337, 342, 343, 344, 345, 346, 347, 348, 338, 339, 340, 341, 355] (by decide +kernel) (by decide +kernel)
set_option maxRecDepth 20000 in
theorem gL_refusesAny_X7_throwAway : GoodIn wsL_refusesAny (wsV RL 44 RX7 yX7_throwAway wsX7_throwAway) := goodIn_app (goodIn_of _ (by decide +kernel)) ggL_refusesAny_X7_throwAway
set_option maxRecDepth 20000 in
theorem ggL_refusesAny_X7_setSuction : GoodIn wsL_refusesAny wsX7_setSuction := goodIn_r _ [270, 6, 7, 271, 272, 4, 273, 100, 101, 102, 103, 104, 105, 106, 107, 108, 109, 110, 111, 112, 113, 114, 115, 116, 117, 118, 119, 120, 121, 122, 123, 124, 125, 126, 127, 128, 26, 129, 130, 131, 132, 28, 133, 134, 135, 32, 136, 34, 137, 138, 139, 140, 141, 142, 143, 144, 145, 146, 147, 54, 148, 149, 150, 56, 151, 152, 153, 154, 321, 322, 323, 324, 325, 326, 327, 328, 329, 330, 331, 332, 333, 334, 335, 336, 337, 347, 348, 338, 339, 340, 341, 355, 342, 343, 344, 345, 346] (by decide +kernel) (by decide +kernel)
set_option maxRecDepth 20000 in
theorem gL_refusesAny_X7_setSuction : GoodIn wsL_refusesAny (wsV RL 47 RX7 yX7_setSuction wsX7_setSuction) := goodIn_app (goodIn_of _ (by decide +kernel)) ggL_refusesAny_X7_setSuction
set_option maxRecDepth 20000 in
theorem ggL_refusesAny_X7_set : GoodIn wsL_refusesAny wsX7_set := goodIn_r _ [277, 278, 6, 7, 95, 44, 45, 32, 46, 34, 47, 48, 49, 50, 100, 101, 102, 103, 104, 105, 106, 107, 108, 109, 110, 111, 112, 113, 114, 115, 116, 117, 118, 119, 120, 121, 122, 123, 124, 125, 126, 127, 128, 26, 129, 130, 131, 132, 28, 133, 134, 135, 136, 137, 138, 139, 140, 141, 142, 143, 144, 145, 146, 147, 54, 148, 149, 150, 56, 151, 152, 153, 154, 177, 64, 65, 66, 321, 322, 323, 324, 325, 326, 327, 328, 329, 330, 331, 332, 333, 334, 335, 336, 337, 355, 347, 348, 338, 339, 340, 341, 342, 343, 344, 345, 346] (by decide +kernel) (by decide +kernel)
set_option maxRecDepth 20000 in
theorem gL_refusesAny_X7_set : GoodIn wsL_refusesAny (wsV RL 50 RX7 yX7_set wsX7_set) := goodIn_app (goodIn_of _ (by decide +kernel)) ggL_refusesAny_X7_set
set_option maxRecDepth 20000 in
theorem ggL_refusesAny_X7_leaf : GoodIn wsL_refusesAny wsX7_leaf := goodIn_r _ [282, 6, 95, 44, 45, 32, 46, 34, 47, 48, 49, 50, 283, 208, 4, 209, 321, 322, 323, 324, 325, 326, 327, 328, 329, 330, 331, 332, 333, 334, 335, 336, 337, 338, 339, 340, 341, 355] (by decide +kernel) (by decide +kernel)
set_option maxRecDepth 20000 in
theorem gL_refusesAny_X7_leaf : GoodIn wsL_refusesAny (wsV RL 19 RX7 yX7_leaf wsX7_leaf) := goodIn_app (goodIn_of _ (by decide +kernel)) ggL_refusesAny_X7_leaf
set_option maxRecDepth 20000 in
theorem ggL_refusesAny_X7_page : GoodIn wsL_refusesAny wsX7_page := goodIn_r _ [287, 6, 13, 176, 59, 60, 26, 61, 62, 24, 25, 27, 28, 95, 44, 45, 32, 46, 34, 47, 48, 49, 50, 14, 15, 16, 17, 18, 19, 20, 21, 22, 23, 29, 30, 31, 33, 35, 36, 37, 38, 39, 40, 41, 42, 43, 51, 52, 53, 54, 55, 56, 57, 58, 63, 64, 65, 66, 67, 68, 69, 70, 288, 289, 290, 291, 152, 149, 292, 80, 81, 82, 283, 208, 4, 209, 293, 223, 224, 114, 225, 116, 118, 226, 227, 228, 321, 322, 323, 324, 325, 326, 327, 328, 329, 330, 331, 332, 333, 334, 335, 336, 337, 338, 339, 340, 341, 351, 352, 353, 354, 355, 342, 343, 344, 345, 346] (by decide +kernel) (by decide +kernel)
set_option maxRecDepth 20000 in
theorem gL_refusesAny_X7_page : GoodIn wsL_refusesAny (wsV RL 23 RX7 yX7_page wsX7_page) := goodIn_app (goodIn_of _ (by decide +kernel)) ggL_refusesAny_X7_page
set_option maxRecDepth 20000 in
theorem ggL_refusesAny_X7_picture : GoodIn wsL_refusesAny wsX7_picture := goodIn_r _ [297, 6, 13, 254, 255, 256, 54, 257, 152, 95, 44, 45, 32, 46, 34, 47, 48, 49, 50, 298, 52, 53, 55, 56, 57, 283, 208, 4, 209, 14, 15, 16, 17, 18, 19, 20, 21, 22, 23, 24, 25, 26, 27, 28, 29, 30, 31, 33, 35, 36, 37, 38, 39, 40, 41, 42, 43, 51, 58, 59, 60, 61, 62, 63, 64, 65, 66, 67, 68, 69, 70, 299, 88, 89, 90, 300, 226, 227, 321, 322, 323, 324, 325, 326, 327, 328, 329, 330, 331, 332, 333, 334, 335, 336, 337, 342, 343, 344, 345, 346, 351, 352, 353, 354, 355, 338, 339, 340, 341] (by decide +kernel) (by decide +kernel)
set_option maxRecDepth 20000 in
theorem gL_refusesAny_X7_picture : GoodIn wsL_refusesAny (wsV RL 26 RX7 yX7_picture wsX7_picture) := goodIn_app (goodIn_of _ (by decide +kernel)) ggL_refusesAny_X7_picture
set_option maxRecDepth 20000 in
theorem ggL_refusesAny_X7_open : GoodIn wsL_refusesAny wsX7_open := goodIn_r _ [304, 6, 305, 205, 206, 114, 207, 119, 306, 211, 212, 213, 192, 193, 194, 195, 116, 321, 322, 323, 324, 325, 326, 327, 328, 329, 330, 331, 332, 333, 334, 335, 336, 337, 338, 339, 340, 341] (by decide +kernel) (by decide +kernel)
set_option maxRecDepth 20000 in
theorem gL_refusesAny_X7_open : GoodIn wsL_refusesAny (wsV RL 53 RX7 yX7_open wsX7_open) := goodIn_app (goodIn_of _ (by decide +kernel)) ggL_refusesAny_X7_open
set_option maxRecDepth 20000 in
theorem ggL_refusesAny_X7_would : GoodIn wsL_refusesAny wsX7_would := goodIn_r _ [310, 6, 271, 272, 4, 273, 311, 193, 194, 114, 195, 116, 119, 312, 239, 240, 241, 228, 44, 45, 32, 46, 34, 47, 48, 49, 50, 321, 322, 323, 324, 325, 326, 327, 328, 329, 330, 331, 332, 333, 334, 335, 336, 337, 338, 339, 340, 341, 355] (by decide +kernel) (by decide +kernel)
set_option maxRecDepth 20000 in
theorem gL_refusesAny_X7_would : GoodIn wsL_refusesAny (wsV RL 56 RX7 yX7_would wsX7_would) := goodIn_app (goodIn_of _ (by decide +kernel)) ggL_refusesAny_X7_would
set_option maxRecDepth 20000 in
theorem ggL_refusesAny_X7_lacking : GoodIn wsL_refusesAny wsX7_lacking := goodIn_r _ [316, 13, 6, 14, 15, 16, 17, 18, 19, 20, 21, 22, 23, 24, 25, 26, 27, 28, 29, 30, 31, 32, 33, 34, 35, 36, 37, 38, 39, 40, 41, 42, 43, 44, 45, 46, 47, 48, 49, 50, 51, 52, 53, 54, 55, 56, 57, 58, 59, 60, 61, 62, 63, 64, 65, 66, 67, 68, 69, 70, 317, 318, 319, 320, 321, 322, 323, 324, 325, 326, 327, 328, 329, 330, 331, 332, 333, 334, 335, 336, 337, 342, 343, 344, 345, 346, 351, 352, 353, 354, 338, 339, 340, 341, 355] (by decide +kernel) (by decide +kernel)
set_option maxRecDepth 20000 in
theorem gL_refusesAny_X7_lacking : GoodIn wsL_refusesAny (wsV RL 59 RX7 yX7_lacking wsX7_lacking) := goodIn_app (goodIn_of _ (by decide +kernel)) ggL_refusesAny_X7_lacking
theorem dL_refusesAny_0 : decode cL_refusesAny 0 = .ok (.iload_n 1, 1) := by decide +kernel
theorem dL_refusesAny_1 : decode cL_refusesAny 1 = .ok (.ifCond .ne 7, 3) := by decide +kernel
theorem dL_refusesAny_4 : decode cL_refusesAny 4 = .ok (.iconst (-1), 1) := by decide +kernel
theorem dL_refusesAny_5 : decode cL_refusesAny 5 = .ok (.goto 8, 3) := by decide +kernel
theorem dL_refusesAny_8 : decode cL_refusesAny 8 = .ok (.aload_n 0, 1) := by decide +kernel
theorem dL_refusesAny_9 : decode cL_refusesAny 9 = .ok (.iconst 0, 1) := by decide +kernel
theorem dL_refusesAny_10 : decode cL_refusesAny 10 = .ok (.invokevirtual 13, 3) := by decide +kernel
theorem dL_refusesAny_13 : decode cL_refusesAny 13 = .ok (.istore_n 2, 1) := by decide +kernel
theorem dL_refusesAny_14 : decode cL_refusesAny 14 = .ok (.iload_n 1, 1) := by decide +kernel
theorem dL_refusesAny_15 : decode cL_refusesAny 15 = .ok (.ifCond .ne 7, 3) := by decide +kernel
theorem dL_refusesAny_18 : decode cL_refusesAny 18 = .ok (.iconst (-1), 1) := by decide +kernel
theorem dL_refusesAny_19 : decode cL_refusesAny 19 = .ok (.goto 10, 3) := by decide +kernel
theorem dL_refusesAny_22 : decode cL_refusesAny 22 = .ok (.iconst 2, 1) := by decide +kernel
theorem dL_refusesAny_23 : decode cL_refusesAny 23 = .ok (.aload_n 0, 1) := by decide +kernel
theorem dL_refusesAny_24 : decode cL_refusesAny 24 = .ok (.iconst 0, 1) := by decide +kernel
theorem dL_refusesAny_25 : decode cL_refusesAny 25 = .ok (.invokevirtual 13, 3) := by decide +kernel
theorem dL_refusesAny_28 : decode cL_refusesAny 28 = .ok (.imul, 1) := by decide +kernel
theorem dL_refusesAny_29 : decode cL_refusesAny 29 = .ok (.istore_n 3, 1) := by decide +kernel
theorem dL_refusesAny_30 : decode cL_refusesAny 30 = .ok (.iload_n 1, 1) := by decide +kernel
theorem dL_refusesAny_31 : decode cL_refusesAny 31 = .ok (.ifCond .ne 7, 3) := by decide +kernel
theorem dL_refusesAny_34 : decode cL_refusesAny 34 = .ok (.iconst (-1), 1) := by decide +kernel
theorem dL_refusesAny_35 : decode cL_refusesAny 35 = .ok (.goto 8, 3) := by decide +kernel
theorem dL_refusesAny_38 : decode cL_refusesAny 38 = .ok (.aload_n 0, 1) := by decide +kernel
theorem dL_refusesAny_39 : decode cL_refusesAny 39 = .ok (.iconst 2, 1) := by decide +kernel
theorem dL_refusesAny_40 : decode cL_refusesAny 40 = .ok (.invokevirtual 13, 3) := by decide +kernel
theorem dL_refusesAny_43 : decode cL_refusesAny 43 = .ok (.istore 4, 2) := by decide +kernel
theorem dL_refusesAny_45 : decode cL_refusesAny 45 = .ok (.aload_n 0, 1) := by decide +kernel
theorem dL_refusesAny_46 : decode cL_refusesAny 46 = .ok (.iload_n 1, 1) := by decide +kernel
theorem dL_refusesAny_47 : decode cL_refusesAny 47 = .ok (.ifCond .ne 7, 3) := by decide +kernel
theorem dL_refusesAny_50 : decode cL_refusesAny 50 = .ok (.iconst 0, 1) := by decide +kernel
theorem dL_refusesAny_51 : decode cL_refusesAny 51 = .ok (.goto 5, 3) := by decide +kernel
theorem dL_refusesAny_54 : decode cL_refusesAny 54 = .ok (.bipush 31, 2) := by decide +kernel
theorem dL_refusesAny_56 : decode cL_refusesAny 56 = .ok (.iconst 0, 1) := by decide +kernel
theorem dL_refusesAny_57 : decode cL_refusesAny 57 = .ok (.invokevirtual 33, 3) := by decide +kernel
theorem dL_refusesAny_60 : decode cL_refusesAny 60 = .ok (.bipush (-2), 2) := by decide +kernel
theorem dL_refusesAny_62 : decode cL_refusesAny 62 = .ok (.if_icmp .ne 195, 3) := by decide +kernel
theorem dL_refusesAny_65 : decode cL_refusesAny 65 = .ok (.aload_n 0, 1) := by decide +kernel
theorem dL_refusesAny_66 : decode cL_refusesAny 66 = .ok (.iconst 1, 1) := by decide +kernel
theorem dL_refusesAny_67 : decode cL_refusesAny 67 = .ok (.iload_n 1, 1) := by decide +kernel
theorem dL_refusesAny_68 : decode cL_refusesAny 68 = .ok (.ifCond .ne 7, 3) := by decide +kernel
theorem dL_refusesAny_71 : decode cL_refusesAny 71 = .ok (.iconst (-1), 1) := by decide +kernel
theorem dL_refusesAny_72 : decode cL_refusesAny 72 = .ok (.goto 6, 3) := by decide +kernel
theorem dL_refusesAny_75 : decode cL_refusesAny 75 = .ok (.sipush 10000, 3) := by decide +kernel
theorem dL_refusesAny_78 : decode cL_refusesAny 78 = .ok (.invokevirtual 33, 3) := by decide +kernel
theorem dL_refusesAny_81 : decode cL_refusesAny 81 = .ok (.bipush (-2), 2) := by decide +kernel
theorem dL_refusesAny_83 : decode cL_refusesAny 83 = .ok (.if_icmp .ne 174, 3) := by decide +kernel
theorem dL_refusesAny_86 : decode cL_refusesAny 86 = .ok (.aload_n 0, 1) := by decide +kernel
theorem dL_refusesAny_87 : decode cL_refusesAny 87 = .ok (.iload_n 3, 1) := by decide +kernel
theorem dL_refusesAny_88 : decode cL_refusesAny 88 = .ok (.sipush 200, 3) := by decide +kernel
theorem dL_refusesAny_91 : decode cL_refusesAny 91 = .ok (.invokevirtual 38, 3) := by decide +kernel
theorem dL_refusesAny_94 : decode cL_refusesAny 94 = .ok (.iconst (-1), 1) := by decide +kernel
theorem dL_refusesAny_95 : decode cL_refusesAny 95 = .ok (.if_icmp .ne 162, 3) := by decide +kernel
theorem dL_refusesAny_98 : decode cL_refusesAny 98 = .ok (.aload_n 0, 1) := by decide +kernel
theorem dL_refusesAny_99 : decode cL_refusesAny 99 = .ok (.iconst 0, 1) := by decide +kernel
theorem dL_refusesAny_100 : decode cL_refusesAny 100 = .ok (.iload_n 1, 1) := by decide +kernel
theorem dL_refusesAny_101 : decode cL_refusesAny 101 = .ok (.ifCond .ne 7, 3) := by decide +kernel
theorem dL_refusesAny_104 : decode cL_refusesAny 104 = .ok (.iconst (-1), 1) := by decide +kernel
theorem dL_refusesAny_105 : decode cL_refusesAny 105 = .ok (.goto 6, 3) := by decide +kernel
theorem dL_refusesAny_108 : decode cL_refusesAny 108 = .ok (.sipush 200, 3) := by decide +kernel
theorem dL_refusesAny_111 : decode cL_refusesAny 111 = .ok (.invokevirtual 38, 3) := by decide +kernel
theorem dL_refusesAny_114 : decode cL_refusesAny 114 = .ok (.bipush (-2), 2) := by decide +kernel
theorem dL_refusesAny_116 : decode cL_refusesAny 116 = .ok (.if_icmp .ne 141, 3) := by decide +kernel
theorem dL_refusesAny_119 : decode cL_refusesAny 119 = .ok (.aload_n 0, 1) := by decide +kernel
theorem dL_refusesAny_120 : decode cL_refusesAny 120 = .ok (.iconst 0, 1) := by decide +kernel
theorem dL_refusesAny_121 : decode cL_refusesAny 121 = .ok (.bipush (-6), 2) := by decide +kernel
theorem dL_refusesAny_123 : decode cL_refusesAny 123 = .ok (.invokevirtual 38, 3) := by decide +kernel
theorem dL_refusesAny_126 : decode cL_refusesAny 126 = .ok (.bipush (-2), 2) := by decide +kernel
theorem dL_refusesAny_128 : decode cL_refusesAny 128 = .ok (.if_icmp .ne 129, 3) := by decide +kernel
theorem dL_refusesAny_131 : decode cL_refusesAny 131 = .ok (.aload_n 0, 1) := by decide +kernel
theorem dL_refusesAny_132 : decode cL_refusesAny 132 = .ok (.iload_n 1, 1) := by decide +kernel
theorem dL_refusesAny_133 : decode cL_refusesAny 133 = .ok (.ifCond .ne 7, 3) := by decide +kernel
theorem dL_refusesAny_136 : decode cL_refusesAny 136 = .ok (.iconst 0, 1) := by decide +kernel
theorem dL_refusesAny_137 : decode cL_refusesAny 137 = .ok (.goto 5, 3) := by decide +kernel
theorem dL_refusesAny_140 : decode cL_refusesAny 140 = .ok (.bipush 61, 2) := by decide +kernel
theorem dL_refusesAny_142 : decode cL_refusesAny 142 = .ok (.invokevirtual 41, 3) := by decide +kernel
theorem dL_refusesAny_145 : decode cL_refusesAny 145 = .ok (.bipush (-2), 2) := by decide +kernel
theorem dL_refusesAny_147 : decode cL_refusesAny 147 = .ok (.if_icmp .ne 110, 3) := by decide +kernel
theorem dL_refusesAny_150 : decode cL_refusesAny 150 = .ok (.aload_n 0, 1) := by decide +kernel
theorem dL_refusesAny_151 : decode cL_refusesAny 151 = .ok (.iload 4, 2) := by decide +kernel
theorem dL_refusesAny_153 : decode cL_refusesAny 153 = .ok (.invokevirtual 44, 3) := by decide +kernel
theorem dL_refusesAny_156 : decode cL_refusesAny 156 = .ok (.iconst (-1), 1) := by decide +kernel
theorem dL_refusesAny_157 : decode cL_refusesAny 157 = .ok (.if_icmp .ne 100, 3) := by decide +kernel
theorem dL_refusesAny_160 : decode cL_refusesAny 160 = .ok (.aload_n 0, 1) := by decide +kernel
theorem dL_refusesAny_161 : decode cL_refusesAny 161 = .ok (.iload_n 1, 1) := by decide +kernel
theorem dL_refusesAny_162 : decode cL_refusesAny 162 = .ok (.ifCond .ne 7, 3) := by decide +kernel
theorem dL_refusesAny_165 : decode cL_refusesAny 165 = .ok (.iconst 0, 1) := by decide +kernel
theorem dL_refusesAny_166 : decode cL_refusesAny 166 = .ok (.goto 5, 3) := by decide +kernel
theorem dL_refusesAny_169 : decode cL_refusesAny 169 = .ok (.bipush 21, 2) := by decide +kernel
theorem dL_refusesAny_171 : decode cL_refusesAny 171 = .ok (.invokevirtual 47, 3) := by decide +kernel
theorem dL_refusesAny_174 : decode cL_refusesAny 174 = .ok (.bipush (-2), 2) := by decide +kernel
theorem dL_refusesAny_176 : decode cL_refusesAny 176 = .ok (.if_icmp .ne 81, 3) := by decide +kernel
theorem dL_refusesAny_179 : decode cL_refusesAny 179 = .ok (.aload_n 0, 1) := by decide +kernel
theorem dL_refusesAny_180 : decode cL_refusesAny 180 = .ok (.iload_n 1, 1) := by decide +kernel
theorem dL_refusesAny_181 : decode cL_refusesAny 181 = .ok (.ifCond .ne 7, 3) := by decide +kernel
theorem dL_refusesAny_184 : decode cL_refusesAny 184 = .ok (.iconst (-1), 1) := by decide +kernel
theorem dL_refusesAny_185 : decode cL_refusesAny 185 = .ok (.goto 4, 3) := by decide +kernel
theorem dL_refusesAny_188 : decode cL_refusesAny 188 = .ok (.iconst 3, 1) := by decide +kernel
theorem dL_refusesAny_189 : decode cL_refusesAny 189 = .ok (.iconst 0, 1) := by decide +kernel
theorem dL_refusesAny_190 : decode cL_refusesAny 190 = .ok (.invokevirtual 50, 3) := by decide +kernel
theorem dL_refusesAny_193 : decode cL_refusesAny 193 = .ok (.bipush (-2), 2) := by decide +kernel
theorem dL_refusesAny_195 : decode cL_refusesAny 195 = .ok (.if_icmp .ne 62, 3) := by decide +kernel
theorem dL_refusesAny_198 : decode cL_refusesAny 198 = .ok (.aload_n 0, 1) := by decide +kernel
theorem dL_refusesAny_199 : decode cL_refusesAny 199 = .ok (.iconst 0, 1) := by decide +kernel
theorem dL_refusesAny_200 : decode cL_refusesAny 200 = .ok (.iload_n 1, 1) := by decide +kernel
theorem dL_refusesAny_201 : decode cL_refusesAny 201 = .ok (.ifCond .ne 7, 3) := by decide +kernel
theorem dL_refusesAny_204 : decode cL_refusesAny 204 = .ok (.iconst (-1), 1) := by decide +kernel
theorem dL_refusesAny_205 : decode cL_refusesAny 205 = .ok (.goto 5, 3) := by decide +kernel
theorem dL_refusesAny_208 : decode cL_refusesAny 208 = .ok (.bipush 11, 2) := by decide +kernel
theorem dL_refusesAny_210 : decode cL_refusesAny 210 = .ok (.invokevirtual 50, 3) := by decide +kernel
theorem dL_refusesAny_213 : decode cL_refusesAny 213 = .ok (.bipush (-2), 2) := by decide +kernel
theorem dL_refusesAny_215 : decode cL_refusesAny 215 = .ok (.if_icmp .ne 42, 3) := by decide +kernel
theorem dL_refusesAny_218 : decode cL_refusesAny 218 = .ok (.aload_n 0, 1) := by decide +kernel
theorem dL_refusesAny_219 : decode cL_refusesAny 219 = .ok (.iconst 1, 1) := by decide +kernel
theorem dL_refusesAny_220 : decode cL_refusesAny 220 = .ok (.iload_n 1, 1) := by decide +kernel
theorem dL_refusesAny_221 : decode cL_refusesAny 221 = .ok (.ifCond .ne 7, 3) := by decide +kernel
theorem dL_refusesAny_224 : decode cL_refusesAny 224 = .ok (.iconst (-1), 1) := by decide +kernel
theorem dL_refusesAny_225 : decode cL_refusesAny 225 = .ok (.goto 4, 3) := by decide +kernel
theorem dL_refusesAny_228 : decode cL_refusesAny 228 = .ok (.iconst 2, 1) := by decide +kernel
theorem dL_refusesAny_229 : decode cL_refusesAny 229 = .ok (.invokevirtual 50, 3) := by decide +kernel
theorem dL_refusesAny_232 : decode cL_refusesAny 232 = .ok (.bipush (-2), 2) := by decide +kernel
theorem dL_refusesAny_234 : decode cL_refusesAny 234 = .ok (.if_icmp .ne 23, 3) := by decide +kernel
theorem dL_refusesAny_237 : decode cL_refusesAny 237 = .ok (.aload_n 0, 1) := by decide +kernel
theorem dL_refusesAny_238 : decode cL_refusesAny 238 = .ok (.iconst 2, 1) := by decide +kernel
theorem dL_refusesAny_239 : decode cL_refusesAny 239 = .ok (.iload_n 1, 1) := by decide +kernel
theorem dL_refusesAny_240 : decode cL_refusesAny 240 = .ok (.ifCond .ne 7, 3) := by decide +kernel
theorem dL_refusesAny_243 : decode cL_refusesAny 243 = .ok (.iconst (-1), 1) := by decide +kernel
theorem dL_refusesAny_244 : decode cL_refusesAny 244 = .ok (.goto 5, 3) := by decide +kernel
theorem dL_refusesAny_247 : decode cL_refusesAny 247 = .ok (.bipush 100, 2) := by decide +kernel
theorem dL_refusesAny_249 : decode cL_refusesAny 249 = .ok (.invokevirtual 50, 3) := by decide +kernel
theorem dL_refusesAny_252 : decode cL_refusesAny 252 = .ok (.bipush (-2), 2) := by decide +kernel
theorem dL_refusesAny_254 : decode cL_refusesAny 254 = .ok (.if_icmp .eq 5, 3) := by decide +kernel
theorem dL_refusesAny_257 : decode cL_refusesAny 257 = .ok (.iconst 0, 1) := by decide +kernel
theorem dL_refusesAny_258 : decode cL_refusesAny 258 = .ok (.ireturn, 1) := by decide +kernel
theorem dL_refusesAny_259 : decode cL_refusesAny 259 = .ok (.aload_n 0, 1) := by decide +kernel
theorem dL_refusesAny_260 : decode cL_refusesAny 260 = .ok (.iload_n 2, 1) := by decide +kernel
theorem dL_refusesAny_261 : decode cL_refusesAny 261 = .ok (.bipush 9, 2) := by decide +kernel
theorem dL_refusesAny_263 : decode cL_refusesAny 263 = .ok (.invokevirtual 19, 3) := by decide +kernel
theorem dL_refusesAny_266 : decode cL_refusesAny 266 = .ok (.iconst (-1), 1) := by decide +kernel
theorem dL_refusesAny_267 : decode cL_refusesAny 267 = .ok (.if_icmp .ne 164, 3) := by decide +kernel
theorem dL_refusesAny_270 : decode cL_refusesAny 270 = .ok (.aload_n 0, 1) := by decide +kernel
theorem dL_refusesAny_271 : decode cL_refusesAny 271 = .ok (.iconst 0, 1) := by decide +kernel
theorem dL_refusesAny_272 : decode cL_refusesAny 272 = .ok (.iload_n 1, 1) := by decide +kernel
theorem dL_refusesAny_273 : decode cL_refusesAny 273 = .ok (.ifCond .ne 7, 3) := by decide +kernel
theorem dL_refusesAny_276 : decode cL_refusesAny 276 = .ok (.iconst (-1), 1) := by decide +kernel
theorem dL_refusesAny_277 : decode cL_refusesAny 277 = .ok (.goto 4, 3) := by decide +kernel
theorem dL_refusesAny_280 : decode cL_refusesAny 280 = .ok (.iconst 3, 1) := by decide +kernel
theorem dL_refusesAny_281 : decode cL_refusesAny 281 = .ok (.invokevirtual 19, 3) := by decide +kernel
theorem dL_refusesAny_284 : decode cL_refusesAny 284 = .ok (.bipush (-2), 2) := by decide +kernel
theorem dL_refusesAny_286 : decode cL_refusesAny 286 = .ok (.if_icmp .ne 145, 3) := by decide +kernel
theorem dL_refusesAny_289 : decode cL_refusesAny 289 = .ok (.aload_n 0, 1) := by decide +kernel
theorem dL_refusesAny_290 : decode cL_refusesAny 290 = .ok (.iload_n 3, 1) := by decide +kernel
theorem dL_refusesAny_291 : decode cL_refusesAny 291 = .ok (.bipush 9, 2) := by decide +kernel
theorem dL_refusesAny_293 : decode cL_refusesAny 293 = .ok (.invokevirtual 23, 3) := by decide +kernel
theorem dL_refusesAny_296 : decode cL_refusesAny 296 = .ok (.iconst (-1), 1) := by decide +kernel
theorem dL_refusesAny_297 : decode cL_refusesAny 297 = .ok (.if_icmp .ne 134, 3) := by decide +kernel
theorem dL_refusesAny_300 : decode cL_refusesAny 300 = .ok (.aload_n 0, 1) := by decide +kernel
theorem dL_refusesAny_301 : decode cL_refusesAny 301 = .ok (.iconst 0, 1) := by decide +kernel
theorem dL_refusesAny_302 : decode cL_refusesAny 302 = .ok (.iload_n 1, 1) := by decide +kernel
theorem dL_refusesAny_303 : decode cL_refusesAny 303 = .ok (.ifCond .ne 7, 3) := by decide +kernel
theorem dL_refusesAny_306 : decode cL_refusesAny 306 = .ok (.iconst (-1), 1) := by decide +kernel
theorem dL_refusesAny_307 : decode cL_refusesAny 307 = .ok (.goto 4, 3) := by decide +kernel
theorem dL_refusesAny_310 : decode cL_refusesAny 310 = .ok (.iconst 5, 1) := by decide +kernel
theorem dL_refusesAny_311 : decode cL_refusesAny 311 = .ok (.invokevirtual 23, 3) := by decide +kernel
theorem dL_refusesAny_314 : decode cL_refusesAny 314 = .ok (.bipush (-2), 2) := by decide +kernel
theorem dL_refusesAny_316 : decode cL_refusesAny 316 = .ok (.if_icmp .ne 115, 3) := by decide +kernel
theorem dL_refusesAny_319 : decode cL_refusesAny 319 = .ok (.aload_n 0, 1) := by decide +kernel
theorem dL_refusesAny_320 : decode cL_refusesAny 320 = .ok (.iload 4, 2) := by decide +kernel
theorem dL_refusesAny_322 : decode cL_refusesAny 322 = .ok (.bipush 9, 2) := by decide +kernel
theorem dL_refusesAny_324 : decode cL_refusesAny 324 = .ok (.invokevirtual 26, 3) := by decide +kernel
theorem dL_refusesAny_327 : decode cL_refusesAny 327 = .ok (.iconst (-1), 1) := by decide +kernel
theorem dL_refusesAny_328 : decode cL_refusesAny 328 = .ok (.if_icmp .ne 103, 3) := by decide +kernel
theorem dL_refusesAny_331 : decode cL_refusesAny 331 = .ok (.aload_n 0, 1) := by decide +kernel
theorem dL_refusesAny_332 : decode cL_refusesAny 332 = .ok (.iconst 2, 1) := by decide +kernel
theorem dL_refusesAny_333 : decode cL_refusesAny 333 = .ok (.invokevirtual 13, 3) := by decide +kernel
theorem dL_refusesAny_336 : decode cL_refusesAny 336 = .ok (.ifCond .eq 23, 3) := by decide +kernel
theorem dL_refusesAny_339 : decode cL_refusesAny 339 = .ok (.aload_n 0, 1) := by decide +kernel
theorem dL_refusesAny_340 : decode cL_refusesAny 340 = .ok (.iconst 0, 1) := by decide +kernel
theorem dL_refusesAny_341 : decode cL_refusesAny 341 = .ok (.iload_n 1, 1) := by decide +kernel
theorem dL_refusesAny_342 : decode cL_refusesAny 342 = .ok (.ifCond .ne 7, 3) := by decide +kernel
theorem dL_refusesAny_345 : decode cL_refusesAny 345 = .ok (.iconst (-1), 1) := by decide +kernel
theorem dL_refusesAny_346 : decode cL_refusesAny 346 = .ok (.goto 5, 3) := by decide +kernel
theorem dL_refusesAny_349 : decode cL_refusesAny 349 = .ok (.bipush 7, 2) := by decide +kernel
theorem dL_refusesAny_351 : decode cL_refusesAny 351 = .ok (.invokevirtual 26, 3) := by decide +kernel
theorem dL_refusesAny_354 : decode cL_refusesAny 354 = .ok (.bipush (-2), 2) := by decide +kernel
theorem dL_refusesAny_356 : decode cL_refusesAny 356 = .ok (.if_icmp .ne 75, 3) := by decide +kernel
theorem dL_refusesAny_359 : decode cL_refusesAny 359 = .ok (.aload_n 0, 1) := by decide +kernel
theorem dL_refusesAny_360 : decode cL_refusesAny 360 = .ok (.iload_n 1, 1) := by decide +kernel
theorem dL_refusesAny_361 : decode cL_refusesAny 361 = .ok (.ifCond .ne 7, 3) := by decide +kernel
theorem dL_refusesAny_364 : decode cL_refusesAny 364 = .ok (.iconst (-1), 1) := by decide +kernel
theorem dL_refusesAny_365 : decode cL_refusesAny 365 = .ok (.goto 4, 3) := by decide +kernel
theorem dL_refusesAny_368 : decode cL_refusesAny 368 = .ok (.iconst 2, 1) := by decide +kernel
theorem dL_refusesAny_369 : decode cL_refusesAny 369 = .ok (.invokevirtual 53, 3) := by decide +kernel
theorem dL_refusesAny_372 : decode cL_refusesAny 372 = .ok (.bipush (-2), 2) := by decide +kernel
theorem dL_refusesAny_374 : decode cL_refusesAny 374 = .ok (.if_icmp .ne 57, 3) := by decide +kernel
theorem dL_refusesAny_377 : decode cL_refusesAny 377 = .ok (.aload_n 0, 1) := by decide +kernel
theorem dL_refusesAny_378 : decode cL_refusesAny 378 = .ok (.iload_n 1, 1) := by decide +kernel
theorem dL_refusesAny_379 : decode cL_refusesAny 379 = .ok (.ifCond .ne 7, 3) := by decide +kernel
theorem dL_refusesAny_382 : decode cL_refusesAny 382 = .ok (.iconst 0, 1) := by decide +kernel
theorem dL_refusesAny_383 : decode cL_refusesAny 383 = .ok (.goto 5, 3) := by decide +kernel
theorem dL_refusesAny_386 : decode cL_refusesAny 386 = .ok (.bipush 21, 2) := by decide +kernel
theorem dL_refusesAny_388 : decode cL_refusesAny 388 = .ok (.invokevirtual 56, 3) := by decide +kernel
theorem dL_refusesAny_391 : decode cL_refusesAny 391 = .ok (.bipush (-2), 2) := by decide +kernel
theorem dL_refusesAny_393 : decode cL_refusesAny 393 = .ok (.if_icmp .ne 38, 3) := by decide +kernel
theorem dL_refusesAny_396 : decode cL_refusesAny 396 = .ok (.aload_n 0, 1) := by decide +kernel
theorem dL_refusesAny_397 : decode cL_refusesAny 397 = .ok (.iconst (-1), 1) := by decide +kernel
theorem dL_refusesAny_398 : decode cL_refusesAny 398 = .ok (.iload_n 1, 1) := by decide +kernel
theorem dL_refusesAny_399 : decode cL_refusesAny 399 = .ok (.isub, 1) := by decide +kernel
theorem dL_refusesAny_400 : decode cL_refusesAny 400 = .ok (.invokevirtual 59, 3) := by decide +kernel
theorem dL_refusesAny_403 : decode cL_refusesAny 403 = .ok (.bipush (-2), 2) := by decide +kernel
theorem dL_refusesAny_405 : decode cL_refusesAny 405 = .ok (.if_icmp .ne 26, 3) := by decide +kernel
theorem dL_refusesAny_408 : decode cL_refusesAny 408 = .ok (.aload_n 0, 1) := by decide +kernel
theorem dL_refusesAny_409 : decode cL_refusesAny 409 = .ok (.iload_n 1, 1) := by decide +kernel
theorem dL_refusesAny_410 : decode cL_refusesAny 410 = .ok (.ifCond .ne 7, 3) := by decide +kernel
theorem dL_refusesAny_413 : decode cL_refusesAny 413 = .ok (.iconst (-1), 1) := by decide +kernel
theorem dL_refusesAny_414 : decode cL_refusesAny 414 = .ok (.goto 5, 3) := by decide +kernel
theorem dL_refusesAny_417 : decode cL_refusesAny 417 = .ok (.bipush 17, 2) := by decide +kernel
theorem dL_refusesAny_419 : decode cL_refusesAny 419 = .ok (.invokevirtual 13, 3) := by decide +kernel
theorem dL_refusesAny_422 : decode cL_refusesAny 422 = .ok (.bipush (-2), 2) := by decide +kernel
theorem dL_refusesAny_424 : decode cL_refusesAny 424 = .ok (.if_icmp .ne 7, 3) := by decide +kernel
theorem dL_refusesAny_427 : decode cL_refusesAny 427 = .ok (.iconst 1, 1) := by decide +kernel
theorem dL_refusesAny_428 : decode cL_refusesAny 428 = .ok (.goto 4, 3) := by decide +kernel
theorem dL_refusesAny_431 : decode cL_refusesAny 431 = .ok (.iconst 0, 1) := by decide +kernel
theorem dL_refusesAny_432 : decode cL_refusesAny 432 = .ok (.ireturn, 1) := by decide +kernel
set_option maxRecDepth 20000 in
theorem ggL_refused_X7_count : GoodIn wsL_refused wsX7_count := goodIn_r _ [11, 12, 13, 14, 15, 16, 17, 10, 18, 19, 20, 21, 22, 23, 24, 25, 26, 27, 28, 29, 30, 31, 32, 33, 34, 35, 36, 37, 38, 39, 40, 41, 42, 43, 44, 45, 46, 47, 48, 49, 50, 51, 52, 53, 54, 55, 56, 57, 58, 59, 60, 61, 62, 63, 64, 65, 66, 67, 68, 69, 70, 71, 72, 73, 74, 75, 76, 77, 78, 79, 80, 81, 82, 83, 84, 85, 86, 87, 88, 89, 90, 91, 92, 93, 94, 95, 96, 97, 98, 99, 100, 101, 334, 335, 336, 337, 338, 339, 340, 341, 342, 343, 344, 345, 346, 347, 348, 349, 350, 351, 352, 353, 354, 355, 356, 357, 358, 359, 360, 361, 362, 363, 364, 365, 366, 367, 368] (by decide +kernel) (by decide +kernel)
set_option maxRecDepth 20000 in
theorem gL_refused_X7_count : GoodIn wsL_refused (wsV RL 13 RX7 yX7_count wsX7_count) := goodIn_app (goodIn_of _ (by decide +kernel)) ggL_refused_X7_count
theorem dL_refused_0 : decode cL_refused 0 = .ok (.aload_n 0, 1) := by decide +kernel
theorem dL_refused_1 : decode cL_refused 1 = .ok (.invokestatic 62, 3) := by decide +kernel
theorem dL_refused_4 : decode cL_refused 4 = .ok (.lstore_n 1, 1) := by decide +kernel
theorem dL_refused_5 : decode cL_refused 5 = .ok (.aload_n 0, 1) := by decide +kernel
theorem dL_refused_6 : decode cL_refused 6 = .ok (.bipush 15, 2) := by decide +kernel
theorem dL_refused_8 : decode cL_refused 8 = .ok (.invokevirtual 13, 3) := by decide +kernel
theorem dL_refused_11 : decode cL_refused 11 = .ok (.istore_n 3, 1) := by decide +kernel
theorem dL_refused_12 : decode cL_refused 12 = .ok (.aload_n 0, 1) := by decide +kernel
theorem dL_refused_13 : decode cL_refused 13 = .ok (.iconst 0, 1) := by decide +kernel
theorem dL_refused_14 : decode cL_refused 14 = .ok (.invokestatic 66, 3) := by decide +kernel
theorem dL_refused_17 : decode cL_refused 17 = .ok (.ifCond .eq 34, 3) := by decide +kernel
theorem dL_refused_20 : decode cL_refused 20 = .ok (.aload_n 0, 1) := by decide +kernel
theorem dL_refused_21 : decode cL_refused 21 = .ok (.iconst 1, 1) := by decide +kernel
theorem dL_refused_22 : decode cL_refused 22 = .ok (.invokestatic 66, 3) := by decide +kernel
theorem dL_refused_25 : decode cL_refused 25 = .ok (.ifCond .eq 26, 3) := by decide +kernel
theorem dL_refused_28 : decode cL_refused 28 = .ok (.aload_n 0, 1) := by decide +kernel
theorem dL_refused_29 : decode cL_refused 29 = .ok (.invokestatic 62, 3) := by decide +kernel
theorem dL_refused_32 : decode cL_refused 32 = .ok (.lload_n 1, 1) := by decide +kernel
theorem dL_refused_33 : decode cL_refused 33 = .ok (.lcmp, 1) := by decide +kernel
theorem dL_refused_34 : decode cL_refused 34 = .ok (.ifCond .ne 17, 3) := by decide +kernel
theorem dL_refused_37 : decode cL_refused 37 = .ok (.aload_n 0, 1) := by decide +kernel
theorem dL_refused_38 : decode cL_refused 38 = .ok (.bipush 15, 2) := by decide +kernel
theorem dL_refused_40 : decode cL_refused 40 = .ok (.invokevirtual 13, 3) := by decide +kernel
theorem dL_refused_43 : decode cL_refused 43 = .ok (.iload_n 3, 1) := by decide +kernel
theorem dL_refused_44 : decode cL_refused 44 = .ok (.if_icmp .ne 7, 3) := by decide +kernel
theorem dL_refused_47 : decode cL_refused 47 = .ok (.iconst 1, 1) := by decide +kernel
theorem dL_refused_48 : decode cL_refused 48 = .ok (.goto 4, 3) := by decide +kernel
theorem dL_refused_51 : decode cL_refused 51 = .ok (.iconst 0, 1) := by decide +kernel
theorem dL_refused_52 : decode cL_refused 52 = .ok (.ireturn, 1) := by decide +kernel
set_option maxRecDepth 20000 in
theorem ggL_types_X7_type : GoodIn wsL_types wsX7_type := goodIn_r _ [6, 7, 8, 9, 10, 11, 12, 13, 14, 15, 16, 17, 18, 19, 20, 21, 22, 23] (by decide +kernel) (by decide +kernel)
set_option maxRecDepth 20000 in
theorem gL_types_X7_type : GoodIn wsL_types (wsV RL 72 RX7 yX7_type wsX7_type) := goodIn_app (goodIn_of _ (by decide +kernel)) ggL_types_X7_type
theorem dL_types_0 : decode cL_types 0 = .ok (.iconst 1, 1) := by decide +kernel
theorem dL_types_1 : decode cL_types 1 = .ok (.istore_n 3, 1) := by decide +kernel
theorem dL_types_2 : decode cL_types 2 = .ok (.bipush 56, 2) := by decide +kernel
theorem dL_types_4 : decode cL_types 4 = .ok (.istore 4, 2) := by decide +kernel
theorem dL_types_6 : decode cL_types 6 = .ok (.iload 4, 2) := by decide +kernel
theorem dL_types_8 : decode cL_types 8 = .ok (.ifCond .lt 45, 3) := by decide +kernel
theorem dL_types_11 : decode cL_types 11 = .ok (.lload_n 1, 1) := by decide +kernel
theorem dL_types_12 : decode cL_types 12 = .ok (.iload 4, 2) := by decide +kernel
theorem dL_types_14 : decode cL_types 14 = .ok (.lshr, 1) := by decide +kernel
theorem dL_types_15 : decode cL_types 15 = .ok (.ldc2_w 70, 3) := by decide +kernel
theorem dL_types_18 : decode cL_types 18 = .ok (.land, 1) := by decide +kernel
theorem dL_types_19 : decode cL_types 19 = .ok (.l2i, 1) := by decide +kernel
theorem dL_types_20 : decode cL_types 20 = .ok (.istore 5, 2) := by decide +kernel
theorem dL_types_22 : decode cL_types 22 = .ok (.iload_n 3, 1) := by decide +kernel
theorem dL_types_23 : decode cL_types 23 = .ok (.ifCond .eq 22, 3) := by decide +kernel
theorem dL_types_26 : decode cL_types 26 = .ok (.iload 5, 2) := by decide +kernel
theorem dL_types_28 : decode cL_types 28 = .ok (.ifCond .eq 13, 3) := by decide +kernel
theorem dL_types_31 : decode cL_types 31 = .ok (.aload_n 0, 1) := by decide +kernel
theorem dL_types_32 : decode cL_types 32 = .ok (.iload 5, 2) := by decide +kernel
theorem dL_types_34 : decode cL_types 34 = .ok (.i2c, 1) := by decide +kernel
theorem dL_types_35 : decode cL_types 35 = .ok (.invokevirtual 72, 3) := by decide +kernel
theorem dL_types_38 : decode cL_types 38 = .ok (.ifCond .le 7, 3) := by decide +kernel
theorem dL_types_41 : decode cL_types 41 = .ok (.iconst 1, 1) := by decide +kernel
theorem dL_types_42 : decode cL_types 42 = .ok (.goto 4, 3) := by decide +kernel
theorem dL_types_45 : decode cL_types 45 = .ok (.iconst 0, 1) := by decide +kernel
theorem dL_types_46 : decode cL_types 46 = .ok (.istore_n 3, 1) := by decide +kernel
theorem dL_types_47 : decode cL_types 47 = .ok (.iinc 4 (-8), 3) := by decide +kernel
theorem dL_types_50 : decode cL_types 50 = .ok (.goto (-44), 3) := by decide +kernel
theorem dL_types_53 : decode cL_types 53 = .ok (.iload_n 3, 1) := by decide +kernel
theorem dL_types_54 : decode cL_types 54 = .ok (.ireturn, 1) := by decide +kernel
set_option maxRecDepth 20000 in
theorem ggL_four_X7_init : GoodIn wsL_four wsX7_init := goodIn_r _ [8, 9, 10, 11, 12, 13, 14, 15, 16, 17, 18, 19, 20, 21, 22, 23, 24, 25, 26, 27, 28, 29, 30, 31, 32, 33, 34, 35, 36, 37, 38, 39, 40, 41, 42, 43, 44, 45, 46, 47, 48, 49, 50, 51, 52, 53, 54, 55, 56, 57, 58, 59, 60, 61, 62, 63, 64, 65, 66, 67, 68, 69, 70, 71, 72, 73, 74, 75, 76, 77, 78, 79, 80, 81, 82, 83, 84, 85, 86, 87, 88, 89, 90, 91, 92, 93, 94, 95, 96, 97, 98, 99, 100, 101, 102, 103, 104, 105, 106, 107, 108, 109, 491, 492, 493, 494, 495, 496, 497, 498, 499, 500, 484, 485, 486, 487, 488, 489, 490, 501, 502, 503, 504, 505, 506, 507, 508, 509, 510, 511, 512, 513, 514, 515, 516, 517, 518] (by decide +kernel) (by decide +kernel)
set_option maxRecDepth 20000 in
theorem gL_four_X7_init : GoodIn wsL_four (wsX7_init) := ggL_four_X7_init
set_option maxRecDepth 20000 in
theorem ggL_four_X7_undo : GoodIn wsL_four wsX7_undo := goodIn_r _ [113, 21, 15, 114, 115, 116, 20, 117, 93, 92, 118, 119, 120, 14, 121, 38, 42, 46, 122, 47, 123, 124, 125, 126, 127, 128, 129, 130, 37, 131, 53, 54, 55, 56, 132, 133, 134, 45, 135, 66, 136, 137, 63, 138, 139, 140, 141, 142, 143, 144, 145, 41, 146, 72, 73, 74, 75, 76, 147, 148, 484, 485, 486, 487, 488, 489, 490, 501, 502, 491, 492, 493, 494, 495, 496, 497, 498, 499, 500, 509, 510, 511, 512, 518, 513, 514, 515, 516, 517] (by decide +kernel) (by decide +kernel)
set_option maxRecDepth 20000 in
theorem gL_four_X7_undo : GoodIn wsL_four (wsV RL 77 RX7 yX7_undo wsX7_undo) := goodIn_app (goodIn_of _ (by decide +kernel)) ggL_four_X7_undo
set_option maxRecDepth 20000 in
theorem ggL_four_X7_restore : GoodIn wsL_four wsX7_restore := goodIn_r _ [152, 30, 21, 15, 17, 153, 154, 155, 20, 156, 93, 92, 157, 158, 159, 160, 118, 119, 120, 14, 121, 38, 42, 46, 122, 47, 123, 124, 125, 126, 127, 128, 129, 130, 37, 131, 53, 54, 55, 56, 132, 133, 134, 45, 135, 66, 136, 137, 63, 138, 139, 140, 141, 142, 143, 144, 145, 41, 146, 72, 73, 74, 75, 76, 147, 148, 161, 484, 485, 486, 487, 488, 489, 490, 491, 492, 493, 494, 495, 496, 497, 498, 499, 500, 513, 514, 515, 516, 517, 501, 502, 509, 510, 511, 512, 518] (by decide +kernel) (by decide +kernel)
set_option maxRecDepth 20000 in
theorem gL_four_X7_restore : GoodIn wsL_four (wsV RL 80 RX7 yX7_restore wsX7_restore) := goodIn_app (goodIn_of _ (by decide +kernel)) ggL_four_X7_restore
set_option maxRecDepth 20000 in
theorem ggL_four_X7_shoot : GoodIn wsL_four wsX7_shoot := goodIn_r _ [165, 15, 21, 166, 167, 168, 14, 169, 38, 170, 171, 172, 173, 42, 174, 175, 176, 177, 178, 179, 180, 181, 122, 182, 3, 183, 184, 185, 186, 187, 188, 189, 190, 191, 153, 154, 155, 20, 156, 93, 92, 157, 158, 159, 160, 118, 119, 120, 121, 46, 47, 123, 124, 125, 126, 127, 128, 129, 130, 37, 131, 53, 54, 55, 56, 132, 133, 134, 45, 135, 66, 136, 137, 63, 138, 139, 140, 141, 142, 143, 144, 145, 41, 146, 72, 73, 74, 75, 76, 147, 148, 192, 193, 194, 195, 196, 197, 198, 199, 200, 201, 202, 203, 204, 205, 206, 207, 208, 209, 83, 84, 85, 86, 210, 211, 212, 213, 214, 80, 81, 82, 484, 485, 486, 487, 488, 489, 490, 491, 492, 493, 494, 495, 496, 497, 498, 499, 500, 509, 510, 511, 512, 513, 514, 515, 516, 517, 501, 502, 518] (by decide +kernel) (by decide +kernel)
set_option maxRecDepth 20000 in
theorem gL_four_X7_shoot : GoodIn wsL_four (wsV RL 83 RX7 yX7_shoot wsX7_shoot) := goodIn_app (goodIn_of _ (by decide +kernel)) ggL_four_X7_shoot
set_option maxRecDepth 20000 in
theorem ggL_four_X7_scan : GoodIn wsL_four wsX7_scan := goodIn_r _ [218, 15, 16, 21, 166, 167, 168, 14, 169, 38, 161, 119, 120, 121, 42, 46, 122, 47, 123, 124, 125, 126, 127, 128, 129, 130, 37, 131, 53, 54, 55, 56, 132, 133, 134, 45, 135, 66, 136, 137, 63, 138, 139, 140, 141, 142, 143, 144, 145, 41, 146, 72, 73, 74, 75, 76, 147, 148, 219, 220, 221, 222, 188, 189, 190, 191, 223, 171, 172, 173, 174, 175, 176, 177, 178, 179, 180, 181, 182, 3, 183, 184, 185, 186, 187, 224, 193, 194, 195, 196, 197, 198, 199, 200, 201, 202, 203, 204, 205, 206, 207, 208, 209, 83, 84, 85, 86, 210, 211, 212, 213, 214, 80, 81, 82, 225, 226, 227, 228, 229, 230, 231, 232, 233, 234, 235, 236, 237, 238, 62, 64, 153, 154, 155, 20, 156, 93, 92, 157, 158, 159, 160, 118, 484, 485, 486, 487, 488, 489, 490, 491, 492, 493, 494, 495, 496, 497, 498, 499, 500, 509, 510, 511, 512, 518, 513, 514, 515, 516, 517, 501, 502] (by decide +kernel) (by decide +kernel)
set_option maxRecDepth 20000 in
theorem gL_four_X7_scan : GoodIn wsL_four (wsV RL 41 RX7 yX7_scan wsX7_scan) := goodIn_app (goodIn_of _ (by decide +kernel)) ggL_four_X7_scan
set_option maxRecDepth 20000 in
theorem ggL_four_X7_turnBack : GoodIn wsL_four wsX7_turnBack := goodIn_r _ [242, 15, 21, 153, 154, 155, 20, 156, 93, 92, 157, 158, 159, 160, 118, 119, 120, 14, 121, 38, 42, 46, 122, 47, 123, 124, 125, 126, 127, 128, 129, 130, 37, 131, 53, 54, 55, 56, 132, 133, 134, 45, 135, 66, 136, 137, 63, 138, 139, 140, 141, 142, 143, 144, 145, 41, 146, 72, 73, 74, 75, 76, 147, 148, 484, 485, 486, 487, 488, 489, 490, 491, 492, 493, 494, 495, 496, 497, 498, 499, 500, 501, 502, 509, 510, 511, 512, 518, 513, 514, 515, 516, 517] (by decide +kernel) (by decide +kernel)
set_option maxRecDepth 20000 in
theorem gL_four_X7_turnBack : GoodIn wsL_four (wsV RL 86 RX7 yX7_turnBack wsX7_turnBack) := goodIn_app (goodIn_of _ (by decide +kernel)) ggL_four_X7_turnBack
set_option maxRecDepth 20000 in
theorem ggL_four_X7_best : GoodIn wsL_four wsX7_best := goodIn_r _ [246, 15, 247, 189, 190, 14, 191, 38, 122, 248, 230, 231, 232, 206, 207, 208, 45, 209, 66, 83, 84, 85, 86, 484, 485, 486, 487, 488, 489, 490, 491, 492, 493, 494, 495, 496, 497, 498, 499, 500, 509, 510, 511, 512, 518] (by decide +kernel) (by decide +kernel)
set_option maxRecDepth 20000 in
theorem gL_four_X7_best : GoodIn wsL_four (wsV RL 29 RX7 yX7_best wsX7_best) := goodIn_app (goodIn_of _ (by decide +kernel)) ggL_four_X7_best
set_option maxRecDepth 20000 in
theorem ggL_four_X7_lacking : GoodIn wsL_four wsX7_lacking := goodIn_r _ [252, 29, 15, 253, 254, 255, 28, 256, 257, 258, 108, 107, 259, 260, 261, 37, 262, 56, 263, 264, 265, 45, 266, 66, 267, 268, 269, 270, 271, 272, 273, 274, 275, 207, 208, 209, 83, 84, 85, 86, 276, 277, 278, 41, 279, 74, 280, 281, 282, 283, 284, 285, 286, 80, 81, 82, 287, 288, 289, 290, 291, 292, 293, 294, 484, 485, 486, 487, 488, 489, 490, 491, 492, 493, 494, 495, 496, 497, 498, 499, 500, 513, 514, 515, 516, 517, 505, 506, 507, 508, 509, 510, 511, 512, 518] (by decide +kernel) (by decide +kernel)
set_option maxRecDepth 20000 in
theorem gL_four_X7_lacking : GoodIn wsL_four (wsV RL 59 RX7 yX7_lacking wsX7_lacking) := goodIn_app (goodIn_of _ (by decide +kernel)) ggL_four_X7_lacking
set_option maxRecDepth 20000 in
theorem ggL_four_X7_open : GoodIn wsL_four wsX7_open := goodIn_r _ [298, 15, 299, 179, 180, 14, 181, 122, 300, 185, 186, 187, 188, 189, 190, 191, 38, 484, 485, 486, 487, 488, 489, 490, 491, 492, 493, 494, 495, 496, 497, 498, 499, 500, 509, 510, 511, 512] (by decide +kernel) (by decide +kernel)
set_option maxRecDepth 20000 in
theorem gL_four_X7_open : GoodIn wsL_four (wsV RL 53 RX7 yX7_open wsX7_open) := goodIn_app (goodIn_of _ (by decide +kernel)) ggL_four_X7_open
set_option maxRecDepth 20000 in
theorem ggL_four_X7_takeBook : GoodIn wsL_four wsX7_takeBook := goodIn_r _ [317, 25, 16, 21, 15, 318, 319, 320, 24, 321, 101, 322, 323, 324, 325, 100, 326, 327, 328, 329, 330, 331, 332, 333, 334, 335, 336, 337, 338, 339, 340, 37, 341, 56, 53, 54, 55, 342, 80, 81, 45, 82, 66, 83, 84, 85, 86, 343, 344, 345, 346, 347, 348, 349, 350, 285, 260, 261, 262, 351, 352, 353, 354, 153, 154, 155, 20, 156, 93, 92, 157, 158, 159, 160, 118, 119, 120, 14, 121, 38, 42, 46, 122, 47, 123, 124, 125, 126, 127, 128, 129, 130, 131, 132, 133, 134, 135, 136, 137, 63, 138, 139, 140, 141, 142, 143, 144, 145, 41, 146, 72, 73, 74, 75, 76, 147, 148, 355, 356, 357, 358, 359, 484, 485, 486, 487, 488, 489, 490, 491, 492, 493, 494, 495, 496, 497, 498, 499, 500, 509, 510, 511, 512, 503, 504, 518, 501, 502, 513, 514, 515, 516, 517] (by decide +kernel) (by decide +kernel)
set_option maxRecDepth 20000 in
theorem gL_four_X7_takeBook : GoodIn wsL_four (wsV RL 97 RX7 yX7_takeBook wsX7_takeBook) := goodIn_app (goodIn_of _ (by decide +kernel)) ggL_four_X7_takeBook
set_option maxRecDepth 20000 in
theorem ggL_four_X7_leaf : GoodIn wsL_four wsX7_leaf := goodIn_r _ [363, 15, 364, 207, 208, 45, 209, 66, 83, 84, 85, 86, 365, 182, 3, 183, 484, 485, 486, 487, 488, 489, 490, 491, 492, 493, 494, 495, 496, 497, 498, 499, 500, 509, 510, 511, 512, 518] (by decide +kernel) (by decide +kernel)
set_option maxRecDepth 20000 in
theorem gL_four_X7_leaf : GoodIn wsL_four (wsV RL 19 RX7 yX7_leaf wsX7_leaf) := goodIn_app (goodIn_of _ (by decide +kernel)) ggL_four_X7_leaf
set_option maxRecDepth 20000 in
theorem ggL_four_X7_page : GoodIn wsL_four wsX7_page := goodIn_r _ [369, 15, 29, 370, 282, 283, 37, 284, 285, 260, 261, 262, 56, 364, 207, 208, 45, 209, 66, 83, 84, 85, 86, 253, 254, 255, 28, 256, 257, 258, 108, 107, 259, 263, 264, 265, 266, 267, 268, 269, 270, 271, 272, 273, 274, 275, 276, 277, 278, 41, 279, 74, 280, 281, 286, 80, 81, 82, 287, 288, 289, 290, 371, 372, 373, 374, 76, 72, 375, 376, 377, 378, 365, 182, 3, 183, 379, 201, 202, 14, 203, 38, 46, 204, 205, 206, 484, 485, 486, 487, 488, 489, 490, 491, 492, 493, 494, 495, 496, 497, 498, 499, 500, 509, 510, 511, 512, 505, 506, 507, 508, 518, 513, 514, 515, 516, 517] (by decide +kernel) (by decide +kernel)
set_option maxRecDepth 20000 in
theorem gL_four_X7_page : GoodIn wsL_four (wsV RL 23 RX7 yX7_page wsX7_page) := goodIn_app (goodIn_of _ (by decide +kernel)) ggL_four_X7_page
set_option maxRecDepth 20000 in
theorem ggL_four_X7_would : GoodIn wsL_four wsX7_would := goodIn_r _ [383, 15, 384, 385, 3, 386, 247, 189, 190, 14, 191, 38, 122, 248, 230, 231, 232, 206, 207, 208, 45, 209, 66, 83, 84, 85, 86, 484, 485, 486, 487, 488, 489, 490, 491, 492, 493, 494, 495, 496, 497, 498, 499, 500, 509, 510, 511, 512, 518] (by decide +kernel) (by decide +kernel)
set_option maxRecDepth 20000 in
theorem gL_four_X7_would : GoodIn wsL_four (wsV RL 56 RX7 yX7_would wsX7_would) := goodIn_app (goodIn_of _ (by decide +kernel)) ggL_four_X7_would
set_option maxRecDepth 20000 in
theorem ggL_four_X7_picture : GoodIn wsL_four wsX7_picture := goodIn_r _ [390, 15, 29, 391, 392, 393, 41, 394, 76, 364, 207, 208, 45, 209, 66, 83, 84, 85, 86, 395, 277, 278, 279, 74, 280, 365, 182, 3, 183, 253, 254, 255, 28, 256, 257, 258, 108, 107, 259, 260, 261, 37, 262, 56, 263, 264, 265, 266, 267, 268, 269, 270, 271, 272, 273, 274, 275, 276, 281, 282, 283, 284, 285, 286, 80, 81, 82, 287, 288, 289, 290, 396, 397, 398, 399, 400, 204, 205, 484, 485, 486, 487, 488, 489, 490, 491, 492, 493, 494, 495, 496, 497, 498, 499, 500, 513, 514, 515, 516, 517, 505, 506, 507, 508, 518, 509, 510, 511, 512] (by decide +kernel) (by decide +kernel)
set_option maxRecDepth 20000 in
theorem gL_four_X7_picture : GoodIn wsL_four (wsV RL 26 RX7 yX7_picture wsX7_picture) := goodIn_app (goodIn_of _ (by decide +kernel)) ggL_four_X7_picture
set_option maxRecDepth 20000 in
theorem ggL_four_X7_turn : GoodIn wsL_four wsX7_turn := goodIn_r _ [478, 15, 21, 247, 189, 190, 14, 191, 38, 122, 153, 154, 155, 20, 156, 93, 92, 157, 158, 159, 160, 118, 119, 120, 121, 42, 46, 47, 123, 124, 125, 126, 127, 128, 129, 130, 37, 131, 53, 54, 55, 56, 132, 133, 134, 45, 135, 66, 136, 137, 63, 138, 139, 140, 141, 142, 143, 144, 145, 41, 146, 72, 73, 74, 75, 76, 147, 148, 479, 226, 227, 228, 229, 230, 231, 232, 206, 207, 208, 209, 83, 84, 85, 86, 233, 234, 235, 236, 237, 238, 62, 64, 484, 485, 486, 487, 488, 489, 490, 491, 492, 493, 494, 495, 496, 497, 498, 499, 500, 509, 510, 511, 512, 501, 502, 518, 513, 514, 515, 516, 517] (by decide +kernel) (by decide +kernel)
set_option maxRecDepth 20000 in
theorem gL_four_X7_turn : GoodIn wsL_four (wsV RL 104 RX7 yX7_turn wsX7_turn) := goodIn_app (goodIn_of _ (by decide +kernel)) ggL_four_X7_turn
set_option maxRecDepth 20000 in
theorem ggL_four_X7_count : GoodIn wsL_four wsX7_count := goodIn_r _ [412, 15, 21, 25, 413, 414, 415, 3, 416, 29, 253, 254, 255, 28, 256, 257, 258, 108, 107, 259, 260, 261, 37, 262, 56, 263, 264, 265, 45, 266, 66, 267, 268, 269, 270, 271, 272, 273, 274, 275, 207, 208, 209, 83, 84, 85, 86, 276, 277, 278, 41, 279, 74, 280, 281, 282, 283, 284, 285, 286, 80, 81, 82, 287, 288, 289, 290, 417, 418, 419, 420, 421, 422, 423, 424, 425, 376, 377, 378, 426, 427, 428, 429, 430, 397, 398, 399, 431, 432, 433, 434, 364, 484, 485, 486, 487, 488, 489, 490, 491, 492, 493, 494, 495, 496, 497, 498, 499, 500, 509, 510, 511, 512, 513, 514, 515, 516, 517, 501, 502, 503, 504, 505, 506, 507, 508, 518] (by decide +kernel) (by decide +kernel)
set_option maxRecDepth 20000 in
theorem gL_four_X7_count : GoodIn wsL_four (wsV RL 13 RX7 yX7_count wsX7_count) := goodIn_app (goodIn_of _ (by decide +kernel)) ggL_four_X7_count
set_option maxRecDepth 20000 in
theorem ggL_four_X7_throwAway : GoodIn wsL_four wsX7_throwAway := goodIn_r _ [456, 15, 21, 391, 392, 393, 41, 394, 76, 153, 154, 155, 20, 156, 93, 92, 157, 158, 159, 160, 118, 119, 120, 14, 121, 38, 42, 46, 122, 47, 123, 124, 125, 126, 127, 128, 129, 130, 37, 131, 53, 54, 55, 56, 132, 133, 134, 45, 135, 66, 136, 137, 63, 138, 139, 140, 141, 142, 143, 144, 145, 146, 72, 73, 74, 75, 147, 148, 457, 458, 459, 460, 461, 462, 463, 464, 465, 83, 84, 85, 86, 484, 485, 486, 487, 488, 489, 490, 491, 492, 493, 494, 495, 496, 497, 498, 499, 500, 513, 514, 515, 516, 517, 501, 502, 509, 510, 511, 512, 518] (by decide +kernel) (by decide +kernel)
set_option maxRecDepth 20000 in
theorem gL_four_X7_throwAway : GoodIn wsL_four (wsV RL 44 RX7 yX7_throwAway wsX7_throwAway) := goodIn_app (goodIn_of _ (by decide +kernel)) ggL_four_X7_throwAway
set_option maxRecDepth 20000 in
theorem ggL_four_X7_print : GoodIn wsL_four wsX7_print := goodIn_r _ [451, 15, 21, 370, 282, 283, 37, 284, 285, 260, 261, 262, 56, 364, 207, 208, 45, 209, 66, 83, 84, 85, 86, 153, 154, 155, 20, 156, 93, 92, 157, 158, 159, 160, 118, 119, 120, 14, 121, 38, 42, 46, 122, 47, 123, 124, 125, 126, 127, 128, 129, 130, 131, 53, 54, 55, 132, 133, 134, 135, 136, 137, 63, 138, 139, 140, 141, 142, 143, 144, 145, 41, 146, 72, 73, 74, 75, 76, 147, 148, 452, 80, 81, 82, 484, 485, 486, 487, 488, 489, 490, 491, 492, 493, 494, 495, 496, 497, 498, 499, 500, 509, 510, 511, 512, 518, 501, 502, 513, 514, 515, 516, 517] (by decide +kernel) (by decide +kernel)
set_option maxRecDepth 20000 in
theorem gL_four_X7_print : GoodIn wsL_four (wsV RL 38 RX7 yX7_print wsX7_print) := goodIn_app (goodIn_of _ (by decide +kernel)) ggL_four_X7_print
set_option maxRecDepth 20000 in
theorem ggL_four_X7_set : GoodIn wsL_four wsX7_set := goodIn_r _ [473, 474, 15, 21, 364, 207, 208, 45, 209, 66, 83, 84, 85, 86, 153, 154, 155, 20, 156, 93, 92, 157, 158, 159, 160, 118, 119, 120, 14, 121, 38, 42, 46, 122, 47, 123, 124, 125, 126, 127, 128, 129, 130, 37, 131, 53, 54, 55, 56, 132, 133, 134, 135, 136, 137, 63, 138, 139, 140, 141, 142, 143, 144, 145, 41, 146, 72, 73, 74, 75, 76, 147, 148, 452, 80, 81, 82, 484, 485, 486, 487, 488, 489, 490, 491, 492, 493, 494, 495, 496, 497, 498, 499, 500, 518, 501, 502, 509, 510, 511, 512, 513, 514, 515, 516, 517] (by decide +kernel) (by decide +kernel)
set_option maxRecDepth 20000 in
theorem gL_four_X7_set : GoodIn wsL_four (wsV RL 50 RX7 yX7_set wsX7_set) := goodIn_app (goodIn_of _ (by decide +kernel)) ggL_four_X7_set
set_option maxRecDepth 20000 in
theorem ggL_four_X7_keep : GoodIn wsL_four wsX7_keep := goodIn_r _ [483, 17, 15, 30, 161, 119, 120, 14, 121, 38, 42, 46, 122, 47, 123, 124, 125, 126, 127, 128, 129, 130, 37, 131, 53, 54, 55, 56, 132, 133, 134, 45, 135, 66, 136, 137, 63, 138, 139, 140, 141, 142, 143, 144, 145, 41, 146, 72, 73, 74, 75, 76, 147, 148, 484, 485, 486, 487, 488, 489, 490, 491, 492, 493, 494, 495, 496, 497, 498, 499, 500, 513, 514, 515, 516, 517, 509, 510, 511, 512, 518] (by decide +kernel) (by decide +kernel)
set_option maxRecDepth 20000 in
theorem gL_four_X7_keep : GoodIn wsL_four (wsV RL 107 RX7 yX7_keep wsX7_keep) := goodIn_app (goodIn_of _ (by decide +kernel)) ggL_four_X7_keep
theorem dL_four_0 : decode cL_four 0 = .ok (.new 14, 3) := by decide +kernel
theorem dL_four_3 : decode cL_four 3 = .ok (.dup, 1) := by decide +kernel
theorem dL_four_4 : decode cL_four 4 = .ok (.invokespecial 76, 3) := by decide +kernel
theorem dL_four_7 : decode cL_four 7 = .ok (.astore_n 0, 1) := by decide +kernel
theorem dL_four_8 : decode cL_four 8 = .ok (.aload_n 0, 1) := by decide +kernel
theorem dL_four_9 : decode cL_four 9 = .ok (.invokevirtual 77, 3) := by decide +kernel
theorem dL_four_12 : decode cL_four 12 = .ok (.bipush (-5), 2) := by decide +kernel
theorem dL_four_14 : decode cL_four 14 = .ok (.if_icmp .ne 289, 3) := by decide +kernel
theorem dL_four_17 : decode cL_four 17 = .ok (.aload_n 0, 1) := by decide +kernel
theorem dL_four_18 : decode cL_four 18 = .ok (.invokevirtual 80, 3) := by decide +kernel
theorem dL_four_21 : decode cL_four 21 = .ok (.bipush (-5), 2) := by decide +kernel
theorem dL_four_23 : decode cL_four 23 = .ok (.if_icmp .ne 280, 3) := by decide +kernel
theorem dL_four_26 : decode cL_four 26 = .ok (.aload_n 0, 1) := by decide +kernel
theorem dL_four_27 : decode cL_four 27 = .ok (.invokevirtual 83, 3) := by decide +kernel
theorem dL_four_30 : decode cL_four 30 = .ok (.bipush (-4), 2) := by decide +kernel
theorem dL_four_32 : decode cL_four 32 = .ok (.if_icmp .ne 271, 3) := by decide +kernel
theorem dL_four_35 : decode cL_four 35 = .ok (.aload_n 0, 1) := by decide +kernel
theorem dL_four_36 : decode cL_four 36 = .ok (.iconst 1, 1) := by decide +kernel
theorem dL_four_37 : decode cL_four 37 = .ok (.invokevirtual 41, 3) := by decide +kernel
theorem dL_four_40 : decode cL_four 40 = .ok (.bipush (-4), 2) := by decide +kernel
theorem dL_four_42 : decode cL_four 42 = .ok (.if_icmp .ne 261, 3) := by decide +kernel
theorem dL_four_45 : decode cL_four 45 = .ok (.aload_n 0, 1) := by decide +kernel
theorem dL_four_46 : decode cL_four 46 = .ok (.invokevirtual 86, 3) := by decide +kernel
theorem dL_four_49 : decode cL_four 49 = .ok (.bipush (-4), 2) := by decide +kernel
theorem dL_four_51 : decode cL_four 51 = .ok (.if_icmp .ne 252, 3) := by decide +kernel
theorem dL_four_54 : decode cL_four 54 = .ok (.aload_n 0, 1) := by decide +kernel
theorem dL_four_55 : decode cL_four 55 = .ok (.invokevirtual 29, 3) := by decide +kernel
theorem dL_four_58 : decode cL_four 58 = .ok (.bipush (-4), 2) := by decide +kernel
theorem dL_four_60 : decode cL_four 60 = .ok (.if_icmp .ne 243, 3) := by decide +kernel
theorem dL_four_63 : decode cL_four 63 = .ok (.aload_n 0, 1) := by decide +kernel
theorem dL_four_64 : decode cL_four 64 = .ok (.iconst 0, 1) := by decide +kernel
theorem dL_four_65 : decode cL_four 65 = .ok (.invokevirtual 59, 3) := by decide +kernel
theorem dL_four_68 : decode cL_four 68 = .ok (.bipush (-5), 2) := by decide +kernel
theorem dL_four_70 : decode cL_four 70 = .ok (.if_icmp .ne 233, 3) := by decide +kernel
theorem dL_four_73 : decode cL_four 73 = .ok (.aload_n 0, 1) := by decide +kernel
theorem dL_four_74 : decode cL_four 74 = .ok (.iconst 1, 1) := by decide +kernel
theorem dL_four_75 : decode cL_four 75 = .ok (.invokevirtual 53, 3) := by decide +kernel
theorem dL_four_78 : decode cL_four 78 = .ok (.bipush (-5), 2) := by decide +kernel
theorem dL_four_80 : decode cL_four 80 = .ok (.if_icmp .ne 223, 3) := by decide +kernel
theorem dL_four_83 : decode cL_four 83 = .ok (.aload_n 0, 1) := by decide +kernel
theorem dL_four_84 : decode cL_four 84 = .ok (.ldc2_w 89, 3) := by decide +kernel
theorem dL_four_87 : decode cL_four 87 = .ok (.invokestatic 91, 3) := by decide +kernel
theorem dL_four_90 : decode cL_four 90 = .ok (.ifCond .eq 213, 3) := by decide +kernel
theorem dL_four_93 : decode cL_four 93 = .ok (.aload_n 0, 1) := by decide +kernel
theorem dL_four_94 : decode cL_four 94 = .ok (.ldc2_w 95, 3) := by decide +kernel
theorem dL_four_97 : decode cL_four 97 = .ok (.invokestatic 91, 3) := by decide +kernel
theorem dL_four_100 : decode cL_four 100 = .ok (.ifCond .eq 203, 3) := by decide +kernel
theorem dL_four_103 : decode cL_four 103 = .ok (.aload_n 0, 1) := by decide +kernel
theorem dL_four_104 : decode cL_four 104 = .ok (.invokevirtual 97, 3) := by decide +kernel
theorem dL_four_107 : decode cL_four 107 = .ok (.iconst 4, 1) := by decide +kernel
theorem dL_four_108 : decode cL_four 108 = .ok (.if_icmp .ne 195, 3) := by decide +kernel
theorem dL_four_111 : decode cL_four 111 = .ok (.aload_n 0, 1) := by decide +kernel
theorem dL_four_112 : decode cL_four 112 = .ok (.iconst 0, 1) := by decide +kernel
theorem dL_four_113 : decode cL_four 113 = .ok (.iconst 1, 1) := by decide +kernel
theorem dL_four_114 : decode cL_four 114 = .ok (.invokevirtual 19, 3) := by decide +kernel
theorem dL_four_117 : decode cL_four 117 = .ok (.bipush 9, 2) := by decide +kernel
theorem dL_four_119 : decode cL_four 119 = .ok (.if_icmp .ne 184, 3) := by decide +kernel
theorem dL_four_122 : decode cL_four 122 = .ok (.aload_n 0, 1) := by decide +kernel
theorem dL_four_123 : decode cL_four 123 = .ok (.iconst 2, 1) := by decide +kernel
theorem dL_four_124 : decode cL_four 124 = .ok (.iconst 0, 1) := by decide +kernel
theorem dL_four_125 : decode cL_four 125 = .ok (.invokevirtual 19, 3) := by decide +kernel
theorem dL_four_128 : decode cL_four 128 = .ok (.iconst 4, 1) := by decide +kernel
theorem dL_four_129 : decode cL_four 129 = .ok (.if_icmp .ne 174, 3) := by decide +kernel
theorem dL_four_132 : decode cL_four 132 = .ok (.aload_n 0, 1) := by decide +kernel
theorem dL_four_133 : decode cL_four 133 = .ok (.iconst 4, 1) := by decide +kernel
theorem dL_four_134 : decode cL_four 134 = .ok (.iconst 0, 1) := by decide +kernel
theorem dL_four_135 : decode cL_four 135 = .ok (.invokevirtual 23, 3) := by decide +kernel
theorem dL_four_138 : decode cL_four 138 = .ok (.bipush (-5), 2) := by decide +kernel
theorem dL_four_140 : decode cL_four 140 = .ok (.if_icmp .ne 163, 3) := by decide +kernel
theorem dL_four_143 : decode cL_four 143 = .ok (.aload_n 0, 1) := by decide +kernel
theorem dL_four_144 : decode cL_four 144 = .ok (.bipush 6, 2) := by decide +kernel
theorem dL_four_146 : decode cL_four 146 = .ok (.iconst 0, 1) := by decide +kernel
theorem dL_four_147 : decode cL_four 147 = .ok (.invokevirtual 23, 3) := by decide +kernel
theorem dL_four_150 : decode cL_four 150 = .ok (.bipush 9, 2) := by decide +kernel
theorem dL_four_152 : decode cL_four 152 = .ok (.if_icmp .ne 151, 3) := by decide +kernel
theorem dL_four_155 : decode cL_four 155 = .ok (.aload_n 0, 1) := by decide +kernel
theorem dL_four_156 : decode cL_four 156 = .ok (.bipush 7, 2) := by decide +kernel
theorem dL_four_158 : decode cL_four 158 = .ok (.iconst 0, 1) := by decide +kernel
theorem dL_four_159 : decode cL_four 159 = .ok (.invokevirtual 23, 3) := by decide +kernel
theorem dL_four_162 : decode cL_four 162 = .ok (.bipush 10, 2) := by decide +kernel
theorem dL_four_164 : decode cL_four 164 = .ok (.if_icmp .ne 139, 3) := by decide +kernel
theorem dL_four_167 : decode cL_four 167 = .ok (.aload_n 0, 1) := by decide +kernel
theorem dL_four_168 : decode cL_four 168 = .ok (.iconst 3, 1) := by decide +kernel
theorem dL_four_169 : decode cL_four 169 = .ok (.iconst 0, 1) := by decide +kernel
theorem dL_four_170 : decode cL_four 170 = .ok (.invokevirtual 23, 3) := by decide +kernel
theorem dL_four_173 : decode cL_four 173 = .ok (.iconst 4, 1) := by decide +kernel
theorem dL_four_174 : decode cL_four 174 = .ok (.if_icmp .ne 129, 3) := by decide +kernel
theorem dL_four_177 : decode cL_four 177 = .ok (.aload_n 0, 1) := by decide +kernel
theorem dL_four_178 : decode cL_four 178 = .ok (.bipush 6, 2) := by decide +kernel
theorem dL_four_180 : decode cL_four 180 = .ok (.invokevirtual 56, 3) := by decide +kernel
theorem dL_four_183 : decode cL_four 183 = .ok (.iconst 2, 1) := by decide +kernel
theorem dL_four_184 : decode cL_four 184 = .ok (.if_icmp .ne 119, 3) := by decide +kernel
theorem dL_four_187 : decode cL_four 187 = .ok (.aload_n 0, 1) := by decide +kernel
theorem dL_four_188 : decode cL_four 188 = .ok (.iconst 2, 1) := by decide +kernel
theorem dL_four_189 : decode cL_four 189 = .ok (.invokevirtual 56, 3) := by decide +kernel
theorem dL_four_192 : decode cL_four 192 = .ok (.ifCond .ne 111, 3) := by decide +kernel
theorem dL_four_195 : decode cL_four 195 = .ok (.aload_n 0, 1) := by decide +kernel
theorem dL_four_196 : decode cL_four 196 = .ok (.iconst 3, 1) := by decide +kernel
theorem dL_four_197 : decode cL_four 197 = .ok (.invokevirtual 56, 3) := by decide +kernel
theorem dL_four_200 : decode cL_four 200 = .ok (.iconst 1, 1) := by decide +kernel
theorem dL_four_201 : decode cL_four 201 = .ok (.if_icmp .ne 102, 3) := by decide +kernel
theorem dL_four_204 : decode cL_four 204 = .ok (.aload_n 0, 1) := by decide +kernel
theorem dL_four_205 : decode cL_four 205 = .ok (.iconst 4, 1) := by decide +kernel
theorem dL_four_206 : decode cL_four 206 = .ok (.invokevirtual 56, 3) := by decide +kernel
theorem dL_four_209 : decode cL_four 209 = .ok (.iconst 1, 1) := by decide +kernel
theorem dL_four_210 : decode cL_four 210 = .ok (.if_icmp .ne 93, 3) := by decide +kernel
theorem dL_four_213 : decode cL_four 213 = .ok (.aload_n 0, 1) := by decide +kernel
theorem dL_four_214 : decode cL_four 214 = .ok (.bipush 11, 2) := by decide +kernel
theorem dL_four_216 : decode cL_four 216 = .ok (.invokevirtual 56, 3) := by decide +kernel
theorem dL_four_219 : decode cL_four 219 = .ok (.iconst 2, 1) := by decide +kernel
theorem dL_four_220 : decode cL_four 220 = .ok (.if_icmp .ne 83, 3) := by decide +kernel
theorem dL_four_223 : decode cL_four 223 = .ok (.aload_n 0, 1) := by decide +kernel
theorem dL_four_224 : decode cL_four 224 = .ok (.bipush 12, 2) := by decide +kernel
theorem dL_four_226 : decode cL_four 226 = .ok (.invokevirtual 56, 3) := by decide +kernel
theorem dL_four_229 : decode cL_four 229 = .ok (.iconst 1, 1) := by decide +kernel
theorem dL_four_230 : decode cL_four 230 = .ok (.if_icmp .ne 73, 3) := by decide +kernel
theorem dL_four_233 : decode cL_four 233 = .ok (.aload_n 0, 1) := by decide +kernel
theorem dL_four_234 : decode cL_four 234 = .ok (.bipush 20, 2) := by decide +kernel
theorem dL_four_236 : decode cL_four 236 = .ok (.invokevirtual 56, 3) := by decide +kernel
theorem dL_four_239 : decode cL_four 239 = .ok (.iconst 1, 1) := by decide +kernel
theorem dL_four_240 : decode cL_four 240 = .ok (.if_icmp .ne 63, 3) := by decide +kernel
theorem dL_four_243 : decode cL_four 243 = .ok (.aload_n 0, 1) := by decide +kernel
theorem dL_four_244 : decode cL_four 244 = .ok (.invokevirtual 29, 3) := by decide +kernel
theorem dL_four_247 : decode cL_four 247 = .ok (.iconst 3, 1) := by decide +kernel
theorem dL_four_248 : decode cL_four 248 = .ok (.if_icmp .ne 55, 3) := by decide +kernel
theorem dL_four_251 : decode cL_four 251 = .ok (.aload_n 0, 1) := by decide +kernel
theorem dL_four_252 : decode cL_four 252 = .ok (.iconst 0, 1) := by decide +kernel
theorem dL_four_253 : decode cL_four 253 = .ok (.invokevirtual 53, 3) := by decide +kernel
theorem dL_four_256 : decode cL_four 256 = .ok (.bipush (-5), 2) := by decide +kernel
theorem dL_four_258 : decode cL_four 258 = .ok (.if_icmp .ne 45, 3) := by decide +kernel
theorem dL_four_261 : decode cL_four 261 = .ok (.aload_n 0, 1) := by decide +kernel
theorem dL_four_262 : decode cL_four 262 = .ok (.iconst 1, 1) := by decide +kernel
theorem dL_four_263 : decode cL_four 263 = .ok (.invokevirtual 53, 3) := by decide +kernel
theorem dL_four_266 : decode cL_four 266 = .ok (.ifCond .ne 37, 3) := by decide +kernel
theorem dL_four_269 : decode cL_four 269 = .ok (.aload_n 0, 1) := by decide +kernel
theorem dL_four_270 : decode cL_four 270 = .ok (.invokevirtual 83, 3) := by decide +kernel
theorem dL_four_273 : decode cL_four 273 = .ok (.iconst 1, 1) := by decide +kernel
theorem dL_four_274 : decode cL_four 274 = .ok (.if_icmp .ne 29, 3) := by decide +kernel
theorem dL_four_277 : decode cL_four 277 = .ok (.aload_n 0, 1) := by decide +kernel
theorem dL_four_278 : decode cL_four 278 = .ok (.iconst 0, 1) := by decide +kernel
theorem dL_four_279 : decode cL_four 279 = .ok (.iconst 1, 1) := by decide +kernel
theorem dL_four_280 : decode cL_four 280 = .ok (.invokevirtual 26, 3) := by decide +kernel
theorem dL_four_283 : decode cL_four 283 = .ok (.iconst 1, 1) := by decide +kernel
theorem dL_four_284 : decode cL_four 284 = .ok (.if_icmp .ne 19, 3) := by decide +kernel
theorem dL_four_287 : decode cL_four 287 = .ok (.aload_n 0, 1) := by decide +kernel
theorem dL_four_288 : decode cL_four 288 = .ok (.iconst 0, 1) := by decide +kernel
theorem dL_four_289 : decode cL_four 289 = .ok (.iconst 3, 1) := by decide +kernel
theorem dL_four_290 : decode cL_four 290 = .ok (.invokevirtual 26, 3) := by decide +kernel
theorem dL_four_293 : decode cL_four 293 = .ok (.ifCond .ne 10, 3) := by decide +kernel
theorem dL_four_296 : decode cL_four 296 = .ok (.aload_n 0, 1) := by decide +kernel
theorem dL_four_297 : decode cL_four 297 = .ok (.invokestatic 100, 3) := by decide +kernel
theorem dL_four_300 : decode cL_four 300 = .ok (.ifCond .ne 5, 3) := by decide +kernel
theorem dL_four_303 : decode cL_four 303 = .ok (.iconst 0, 1) := by decide +kernel
theorem dL_four_304 : decode cL_four 304 = .ok (.ireturn, 1) := by decide +kernel
theorem dL_four_305 : decode cL_four 305 = .ok (.aload_n 0, 1) := by decide +kernel
theorem dL_four_306 : decode cL_four 306 = .ok (.invokevirtual 104, 3) := by decide +kernel
theorem dL_four_309 : decode cL_four 309 = .ok (.iconst 2, 1) := by decide +kernel
theorem dL_four_310 : decode cL_four 310 = .ok (.if_icmp .ne 394, 3) := by decide +kernel
theorem dL_four_313 : decode cL_four 313 = .ok (.aload_n 0, 1) := by decide +kernel
theorem dL_four_314 : decode cL_four 314 = .ok (.iconst 1, 1) := by decide +kernel
theorem dL_four_315 : decode cL_four 315 = .ok (.invokevirtual 13, 3) := by decide +kernel
theorem dL_four_318 : decode cL_four 318 = .ok (.iconst 2, 1) := by decide +kernel
theorem dL_four_319 : decode cL_four 319 = .ok (.if_icmp .ne 385, 3) := by decide +kernel
theorem dL_four_322 : decode cL_four 322 = .ok (.aload_n 0, 1) := by decide +kernel
theorem dL_four_323 : decode cL_four 323 = .ok (.bipush 8, 2) := by decide +kernel
theorem dL_four_325 : decode cL_four 325 = .ok (.invokevirtual 13, 3) := by decide +kernel
theorem dL_four_328 : decode cL_four 328 = .ok (.iconst 1, 1) := by decide +kernel
theorem dL_four_329 : decode cL_four 329 = .ok (.if_icmp .ne 375, 3) := by decide +kernel
theorem dL_four_332 : decode cL_four 332 = .ok (.aload_n 0, 1) := by decide +kernel
theorem dL_four_333 : decode cL_four 333 = .ok (.iconst 0, 1) := by decide +kernel
theorem dL_four_334 : decode cL_four 334 = .ok (.invokevirtual 53, 3) := by decide +kernel
theorem dL_four_337 : decode cL_four 337 = .ok (.iconst 3, 1) := by decide +kernel
theorem dL_four_338 : decode cL_four 338 = .ok (.if_icmp .ne 366, 3) := by decide +kernel
theorem dL_four_341 : decode cL_four 341 = .ok (.aload_n 0, 1) := by decide +kernel
theorem dL_four_342 : decode cL_four 342 = .ok (.iconst 1, 1) := by decide +kernel
theorem dL_four_343 : decode cL_four 343 = .ok (.invokevirtual 53, 3) := by decide +kernel
theorem dL_four_346 : decode cL_four 346 = .ok (.iconst 4, 1) := by decide +kernel
theorem dL_four_347 : decode cL_four 347 = .ok (.if_icmp .ne 357, 3) := by decide +kernel
theorem dL_four_350 : decode cL_four 350 = .ok (.aload_n 0, 1) := by decide +kernel
theorem dL_four_351 : decode cL_four 351 = .ok (.invokevirtual 83, 3) := by decide +kernel
theorem dL_four_354 : decode cL_four 354 = .ok (.iconst 2, 1) := by decide +kernel
theorem dL_four_355 : decode cL_four 355 = .ok (.if_icmp .ne 349, 3) := by decide +kernel
theorem dL_four_358 : decode cL_four 358 = .ok (.aload_n 0, 1) := by decide +kernel
theorem dL_four_359 : decode cL_four 359 = .ok (.iconst 1, 1) := by decide +kernel
theorem dL_four_360 : decode cL_four 360 = .ok (.iconst 1, 1) := by decide +kernel
theorem dL_four_361 : decode cL_four 361 = .ok (.invokevirtual 26, 3) := by decide +kernel
theorem dL_four_364 : decode cL_four 364 = .ok (.iconst 4, 1) := by decide +kernel
theorem dL_four_365 : decode cL_four 365 = .ok (.if_icmp .ne 339, 3) := by decide +kernel
theorem dL_four_368 : decode cL_four 368 = .ok (.aload_n 0, 1) := by decide +kernel
theorem dL_four_369 : decode cL_four 369 = .ok (.iconst 1, 1) := by decide +kernel
theorem dL_four_370 : decode cL_four 370 = .ok (.iconst 3, 1) := by decide +kernel
theorem dL_four_371 : decode cL_four 371 = .ok (.invokevirtual 26, 3) := by decide +kernel
theorem dL_four_374 : decode cL_four 374 = .ok (.iconst 3, 1) := by decide +kernel
theorem dL_four_375 : decode cL_four 375 = .ok (.if_icmp .ne 329, 3) := by decide +kernel
theorem dL_four_378 : decode cL_four 378 = .ok (.aload_n 0, 1) := by decide +kernel
theorem dL_four_379 : decode cL_four 379 = .ok (.iconst 2, 1) := by decide +kernel
theorem dL_four_380 : decode cL_four 380 = .ok (.iconst 1, 1) := by decide +kernel
theorem dL_four_381 : decode cL_four 381 = .ok (.invokevirtual 26, 3) := by decide +kernel
theorem dL_four_384 : decode cL_four 384 = .ok (.bipush (-5), 2) := by decide +kernel
theorem dL_four_386 : decode cL_four 386 = .ok (.if_icmp .ne 318, 3) := by decide +kernel
theorem dL_four_389 : decode cL_four 389 = .ok (.aload_n 0, 1) := by decide +kernel
theorem dL_four_390 : decode cL_four 390 = .ok (.iconst 2, 1) := by decide +kernel
theorem dL_four_391 : decode cL_four 391 = .ok (.iconst 2, 1) := by decide +kernel
theorem dL_four_392 : decode cL_four 392 = .ok (.invokevirtual 26, 3) := by decide +kernel
theorem dL_four_395 : decode cL_four 395 = .ok (.iconst 1, 1) := by decide +kernel
theorem dL_four_396 : decode cL_four 396 = .ok (.if_icmp .ne 308, 3) := by decide +kernel
theorem dL_four_399 : decode cL_four 399 = .ok (.aload_n 0, 1) := by decide +kernel
theorem dL_four_400 : decode cL_four 400 = .ok (.iconst 2, 1) := by decide +kernel
theorem dL_four_401 : decode cL_four 401 = .ok (.iconst 3, 1) := by decide +kernel
theorem dL_four_402 : decode cL_four 402 = .ok (.invokevirtual 26, 3) := by decide +kernel
theorem dL_four_405 : decode cL_four 405 = .ok (.iconst 4, 1) := by decide +kernel
theorem dL_four_406 : decode cL_four 406 = .ok (.if_icmp .ne 298, 3) := by decide +kernel
theorem dL_four_409 : decode cL_four 409 = .ok (.aload_n 0, 1) := by decide +kernel
theorem dL_four_410 : decode cL_four 410 = .ok (.iconst 3, 1) := by decide +kernel
theorem dL_four_411 : decode cL_four 411 = .ok (.invokevirtual 13, 3) := by decide +kernel
theorem dL_four_414 : decode cL_four 414 = .ok (.iconst 5, 1) := by decide +kernel
theorem dL_four_415 : decode cL_four 415 = .ok (.if_icmp .ne 289, 3) := by decide +kernel
theorem dL_four_418 : decode cL_four 418 = .ok (.aload_n 0, 1) := by decide +kernel
theorem dL_four_419 : decode cL_four 419 = .ok (.iconst 0, 1) := by decide +kernel
theorem dL_four_420 : decode cL_four 420 = .ok (.invokevirtual 59, 3) := by decide +kernel
theorem dL_four_423 : decode cL_four 423 = .ok (.iconst 1, 1) := by decide +kernel
theorem dL_four_424 : decode cL_four 424 = .ok (.if_icmp .ne 280, 3) := by decide +kernel
theorem dL_four_427 : decode cL_four 427 = .ok (.aload_n 0, 1) := by decide +kernel
theorem dL_four_428 : decode cL_four 428 = .ok (.iconst 4, 1) := by decide +kernel
theorem dL_four_429 : decode cL_four 429 = .ok (.invokevirtual 59, 3) := by decide +kernel
theorem dL_four_432 : decode cL_four 432 = .ok (.bipush 7, 2) := by decide +kernel
theorem dL_four_434 : decode cL_four 434 = .ok (.if_icmp .ne 270, 3) := by decide +kernel
theorem dL_four_437 : decode cL_four 437 = .ok (.aload_n 0, 1) := by decide +kernel
theorem dL_four_438 : decode cL_four 438 = .ok (.iconst 5, 1) := by decide +kernel
theorem dL_four_439 : decode cL_four 439 = .ok (.invokevirtual 59, 3) := by decide +kernel
theorem dL_four_442 : decode cL_four 442 = .ok (.bipush (-5), 2) := by decide +kernel
theorem dL_four_444 : decode cL_four 444 = .ok (.if_icmp .ne 260, 3) := by decide +kernel
theorem dL_four_447 : decode cL_four 447 = .ok (.aload_n 0, 1) := by decide +kernel
theorem dL_four_448 : decode cL_four 448 = .ok (.invokevirtual 104, 3) := by decide +kernel
theorem dL_four_451 : decode cL_four 451 = .ok (.iconst 2, 1) := by decide +kernel
theorem dL_four_452 : decode cL_four 452 = .ok (.if_icmp .ne 252, 3) := by decide +kernel
theorem dL_four_455 : decode cL_four 455 = .ok (.aload_n 0, 1) := by decide +kernel
theorem dL_four_456 : decode cL_four 456 = .ok (.bipush 8, 2) := by decide +kernel
theorem dL_four_458 : decode cL_four 458 = .ok (.invokevirtual 13, 3) := by decide +kernel
theorem dL_four_461 : decode cL_four 461 = .ok (.iconst 2, 1) := by decide +kernel
theorem dL_four_462 : decode cL_four 462 = .ok (.if_icmp .ne 242, 3) := by decide +kernel
theorem dL_four_465 : decode cL_four 465 = .ok (.aload_n 0, 1) := by decide +kernel
theorem dL_four_466 : decode cL_four 466 = .ok (.invokevirtual 83, 3) := by decide +kernel
theorem dL_four_469 : decode cL_four 469 = .ok (.iconst 1, 1) := by decide +kernel
theorem dL_four_470 : decode cL_four 470 = .ok (.if_icmp .ne 234, 3) := by decide +kernel
theorem dL_four_473 : decode cL_four 473 = .ok (.aload_n 0, 1) := by decide +kernel
theorem dL_four_474 : decode cL_four 474 = .ok (.iconst 3, 1) := by decide +kernel
theorem dL_four_475 : decode cL_four 475 = .ok (.iconst 0, 1) := by decide +kernel
theorem dL_four_476 : decode cL_four 476 = .ok (.invokevirtual 26, 3) := by decide +kernel
theorem dL_four_479 : decode cL_four 479 = .ok (.bipush 7, 2) := by decide +kernel
theorem dL_four_481 : decode cL_four 481 = .ok (.if_icmp .ne 223, 3) := by decide +kernel
theorem dL_four_484 : decode cL_four 484 = .ok (.aload_n 0, 1) := by decide +kernel
theorem dL_four_485 : decode cL_four 485 = .ok (.iconst 3, 1) := by decide +kernel
theorem dL_four_486 : decode cL_four 486 = .ok (.iconst 1, 1) := by decide +kernel
theorem dL_four_487 : decode cL_four 487 = .ok (.invokevirtual 26, 3) := by decide +kernel
theorem dL_four_490 : decode cL_four 490 = .ok (.bipush 10, 2) := by decide +kernel
theorem dL_four_492 : decode cL_four 492 = .ok (.if_icmp .ne 212, 3) := by decide +kernel
theorem dL_four_495 : decode cL_four 495 = .ok (.aload_n 0, 1) := by decide +kernel
theorem dL_four_496 : decode cL_four 496 = .ok (.iconst 3, 1) := by decide +kernel
theorem dL_four_497 : decode cL_four 497 = .ok (.iconst 3, 1) := by decide +kernel
theorem dL_four_498 : decode cL_four 498 = .ok (.invokevirtual 26, 3) := by decide +kernel
theorem dL_four_501 : decode cL_four 501 = .ok (.iconst 5, 1) := by decide +kernel
theorem dL_four_502 : decode cL_four 502 = .ok (.if_icmp .ne 202, 3) := by decide +kernel
theorem dL_four_505 : decode cL_four 505 = .ok (.aload_n 0, 1) := by decide +kernel
theorem dL_four_506 : decode cL_four 506 = .ok (.iconst 5, 1) := by decide +kernel
theorem dL_four_507 : decode cL_four 507 = .ok (.iconst 1, 1) := by decide +kernel
theorem dL_four_508 : decode cL_four 508 = .ok (.invokevirtual 23, 3) := by decide +kernel
theorem dL_four_511 : decode cL_four 511 = .ok (.iconst 3, 1) := by decide +kernel
theorem dL_four_512 : decode cL_four 512 = .ok (.if_icmp .ne 192, 3) := by decide +kernel
theorem dL_four_515 : decode cL_four 515 = .ok (.aload_n 0, 1) := by decide +kernel
theorem dL_four_516 : decode cL_four 516 = .ok (.iconst 5, 1) := by decide +kernel
theorem dL_four_517 : decode cL_four 517 = .ok (.iconst 3, 1) := by decide +kernel
theorem dL_four_518 : decode cL_four 518 = .ok (.invokevirtual 23, 3) := by decide +kernel
theorem dL_four_521 : decode cL_four 521 = .ok (.iconst 1, 1) := by decide +kernel
theorem dL_four_522 : decode cL_four 522 = .ok (.if_icmp .ne 182, 3) := by decide +kernel
theorem dL_four_525 : decode cL_four 525 = .ok (.aload_n 0, 1) := by decide +kernel
theorem dL_four_526 : decode cL_four 526 = .ok (.iconst 4, 1) := by decide +kernel
theorem dL_four_527 : decode cL_four 527 = .ok (.invokevirtual 13, 3) := by decide +kernel
theorem dL_four_530 : decode cL_four 530 = .ok (.iconst 1, 1) := by decide +kernel
theorem dL_four_531 : decode cL_four 531 = .ok (.if_icmp .ne 173, 3) := by decide +kernel
theorem dL_four_534 : decode cL_four 534 = .ok (.aload_n 0, 1) := by decide +kernel
theorem dL_four_535 : decode cL_four 535 = .ok (.iconst 5, 1) := by decide +kernel
theorem dL_four_536 : decode cL_four 536 = .ok (.invokevirtual 13, 3) := by decide +kernel
theorem dL_four_539 : decode cL_four 539 = .ok (.ifCond .ne 165, 3) := by decide +kernel
theorem dL_four_542 : decode cL_four 542 = .ok (.aload_n 0, 1) := by decide +kernel
theorem dL_four_543 : decode cL_four 543 = .ok (.bipush 6, 2) := by decide +kernel
theorem dL_four_545 : decode cL_four 545 = .ok (.invokevirtual 13, 3) := by decide +kernel
theorem dL_four_548 : decode cL_four 548 = .ok (.ifCond .ne 156, 3) := by decide +kernel
theorem dL_four_551 : decode cL_four 551 = .ok (.aload_n 0, 1) := by decide +kernel
theorem dL_four_552 : decode cL_four 552 = .ok (.invokevirtual 104, 3) := by decide +kernel
theorem dL_four_555 : decode cL_four 555 = .ok (.bipush (-4), 2) := by decide +kernel
theorem dL_four_557 : decode cL_four 557 = .ok (.if_icmp .ne 147, 3) := by decide +kernel
theorem dL_four_560 : decode cL_four 560 = .ok (.aload_n 0, 1) := by decide +kernel
theorem dL_four_561 : decode cL_four 561 = .ok (.invokevirtual 86, 3) := by decide +kernel
theorem dL_four_564 : decode cL_four 564 = .ok (.iconst 3, 1) := by decide +kernel
theorem dL_four_565 : decode cL_four 565 = .ok (.if_icmp .ne 139, 3) := by decide +kernel
theorem dL_four_568 : decode cL_four 568 = .ok (.aload_n 0, 1) := by decide +kernel
theorem dL_four_569 : decode cL_four 569 = .ok (.iconst 0, 1) := by decide +kernel
theorem dL_four_570 : decode cL_four 570 = .ok (.invokevirtual 53, 3) := by decide +kernel
theorem dL_four_573 : decode cL_four 573 = .ok (.iconst 5, 1) := by decide +kernel
theorem dL_four_574 : decode cL_four 574 = .ok (.if_icmp .ne 130, 3) := by decide +kernel
theorem dL_four_577 : decode cL_four 577 = .ok (.aload_n 0, 1) := by decide +kernel
theorem dL_four_578 : decode cL_four 578 = .ok (.iconst 1, 1) := by decide +kernel
theorem dL_four_579 : decode cL_four 579 = .ok (.invokevirtual 53, 3) := by decide +kernel
theorem dL_four_582 : decode cL_four 582 = .ok (.bipush 6, 2) := by decide +kernel
theorem dL_four_584 : decode cL_four 584 = .ok (.if_icmp .ne 120, 3) := by decide +kernel
theorem dL_four_587 : decode cL_four 587 = .ok (.aload_n 0, 1) := by decide +kernel
theorem dL_four_588 : decode cL_four 588 = .ok (.invokevirtual 83, 3) := by decide +kernel
theorem dL_four_591 : decode cL_four 591 = .ok (.iconst 2, 1) := by decide +kernel
theorem dL_four_592 : decode cL_four 592 = .ok (.if_icmp .ne 112, 3) := by decide +kernel
theorem dL_four_595 : decode cL_four 595 = .ok (.aload_n 0, 1) := by decide +kernel
theorem dL_four_596 : decode cL_four 596 = .ok (.iconst 4, 1) := by decide +kernel
theorem dL_four_597 : decode cL_four 597 = .ok (.iconst 1, 1) := by decide +kernel
theorem dL_four_598 : decode cL_four 598 = .ok (.invokevirtual 26, 3) := by decide +kernel
theorem dL_four_601 : decode cL_four 601 = .ok (.bipush (-5), 2) := by decide +kernel
theorem dL_four_603 : decode cL_four 603 = .ok (.if_icmp .ne 101, 3) := by decide +kernel
theorem dL_four_606 : decode cL_four 606 = .ok (.aload_n 0, 1) := by decide +kernel
theorem dL_four_607 : decode cL_four 607 = .ok (.iconst 4, 1) := by decide +kernel
theorem dL_four_608 : decode cL_four 608 = .ok (.iconst 3, 1) := by decide +kernel
theorem dL_four_609 : decode cL_four 609 = .ok (.invokevirtual 26, 3) := by decide +kernel
theorem dL_four_612 : decode cL_four 612 = .ok (.bipush 6, 2) := by decide +kernel
theorem dL_four_614 : decode cL_four 614 = .ok (.if_icmp .ne 90, 3) := by decide +kernel
theorem dL_four_617 : decode cL_four 617 = .ok (.aload_n 0, 1) := by decide +kernel
theorem dL_four_618 : decode cL_four 618 = .ok (.iconst 5, 1) := by decide +kernel
theorem dL_four_619 : decode cL_four 619 = .ok (.iconst 1, 1) := by decide +kernel
theorem dL_four_620 : decode cL_four 620 = .ok (.invokevirtual 26, 3) := by decide +kernel
theorem dL_four_623 : decode cL_four 623 = .ok (.ifCond .ne 81, 3) := by decide +kernel
theorem dL_four_626 : decode cL_four 626 = .ok (.aload_n 0, 1) := by decide +kernel
theorem dL_four_627 : decode cL_four 627 = .ok (.iconst 5, 1) := by decide +kernel
theorem dL_four_628 : decode cL_four 628 = .ok (.iconst 2, 1) := by decide +kernel
theorem dL_four_629 : decode cL_four 629 = .ok (.invokevirtual 26, 3) := by decide +kernel
theorem dL_four_632 : decode cL_four 632 = .ok (.ifCond .ne 72, 3) := by decide +kernel
theorem dL_four_635 : decode cL_four 635 = .ok (.aload_n 0, 1) := by decide +kernel
theorem dL_four_636 : decode cL_four 636 = .ok (.iconst 5, 1) := by decide +kernel
theorem dL_four_637 : decode cL_four 637 = .ok (.iconst 3, 1) := by decide +kernel
theorem dL_four_638 : decode cL_four 638 = .ok (.invokevirtual 26, 3) := by decide +kernel
theorem dL_four_641 : decode cL_four 641 = .ok (.bipush 7, 2) := by decide +kernel
theorem dL_four_643 : decode cL_four 643 = .ok (.if_icmp .ne 61, 3) := by decide +kernel
theorem dL_four_646 : decode cL_four 646 = .ok (.aload_n 0, 1) := by decide +kernel
theorem dL_four_647 : decode cL_four 647 = .ok (.iconst 5, 1) := by decide +kernel
theorem dL_four_648 : decode cL_four 648 = .ok (.iconst 5, 1) := by decide +kernel
theorem dL_four_649 : decode cL_four 649 = .ok (.invokevirtual 26, 3) := by decide +kernel
theorem dL_four_652 : decode cL_four 652 = .ok (.iconst 1, 1) := by decide +kernel
theorem dL_four_653 : decode cL_four 653 = .ok (.if_icmp .ne 51, 3) := by decide +kernel
theorem dL_four_656 : decode cL_four 656 = .ok (.aload_n 0, 1) := by decide +kernel
theorem dL_four_657 : decode cL_four 657 = .ok (.iconst 4, 1) := by decide +kernel
theorem dL_four_658 : decode cL_four 658 = .ok (.iconst 5, 1) := by decide +kernel
theorem dL_four_659 : decode cL_four 659 = .ok (.invokevirtual 26, 3) := by decide +kernel
theorem dL_four_662 : decode cL_four 662 = .ok (.ifCond .ne 42, 3) := by decide +kernel
theorem dL_four_665 : decode cL_four 665 = .ok (.aload_n 0, 1) := by decide +kernel
theorem dL_four_666 : decode cL_four 666 = .ok (.iconst 5, 1) := by decide +kernel
theorem dL_four_667 : decode cL_four 667 = .ok (.bipush 6, 2) := by decide +kernel
theorem dL_four_669 : decode cL_four 669 = .ok (.invokevirtual 26, 3) := by decide +kernel
theorem dL_four_672 : decode cL_four 672 = .ok (.iconst 3, 1) := by decide +kernel
theorem dL_four_673 : decode cL_four 673 = .ok (.if_icmp .ne 31, 3) := by decide +kernel
theorem dL_four_676 : decode cL_four 676 = .ok (.aload_n 0, 1) := by decide +kernel
theorem dL_four_677 : decode cL_four 677 = .ok (.bipush 14, 2) := by decide +kernel
theorem dL_four_679 : decode cL_four 679 = .ok (.invokevirtual 13, 3) := by decide +kernel
theorem dL_four_682 : decode cL_four 682 = .ok (.iconst 4, 1) := by decide +kernel
theorem dL_four_683 : decode cL_four 683 = .ok (.if_icmp .ne 21, 3) := by decide +kernel
theorem dL_four_686 : decode cL_four 686 = .ok (.aload_n 0, 1) := by decide +kernel
theorem dL_four_687 : decode cL_four 687 = .ok (.iconst 4, 1) := by decide +kernel
theorem dL_four_688 : decode cL_four 688 = .ok (.invokevirtual 13, 3) := by decide +kernel
theorem dL_four_691 : decode cL_four 691 = .ok (.iconst 3, 1) := by decide +kernel
theorem dL_four_692 : decode cL_four 692 = .ok (.if_icmp .ne 12, 3) := by decide +kernel
theorem dL_four_695 : decode cL_four 695 = .ok (.aload_n 0, 1) := by decide +kernel
theorem dL_four_696 : decode cL_four 696 = .ok (.iconst 3, 1) := by decide +kernel
theorem dL_four_697 : decode cL_four 697 = .ok (.invokevirtual 13, 3) := by decide +kernel
theorem dL_four_700 : decode cL_four 700 = .ok (.iconst 2, 1) := by decide +kernel
theorem dL_four_701 : decode cL_four 701 = .ok (.if_icmp .eq 5, 3) := by decide +kernel
theorem dL_four_704 : decode cL_four 704 = .ok (.iconst 0, 1) := by decide +kernel
theorem dL_four_705 : decode cL_four 705 = .ok (.ireturn, 1) := by decide +kernel
theorem dL_four_706 : decode cL_four 706 = .ok (.aload_n 0, 1) := by decide +kernel
theorem dL_four_707 : decode cL_four 707 = .ok (.iconst 3, 1) := by decide +kernel
theorem dL_four_708 : decode cL_four 708 = .ok (.invokevirtual 44, 3) := by decide +kernel
theorem dL_four_711 : decode cL_four 711 = .ok (.iconst 5, 1) := by decide +kernel
theorem dL_four_712 : decode cL_four 712 = .ok (.if_icmp .ne 223, 3) := by decide +kernel
theorem dL_four_715 : decode cL_four 715 = .ok (.aload_n 0, 1) := by decide +kernel
theorem dL_four_716 : decode cL_four 716 = .ok (.iconst 3, 1) := by decide +kernel
theorem dL_four_717 : decode cL_four 717 = .ok (.iconst 3, 1) := by decide +kernel
theorem dL_four_718 : decode cL_four 718 = .ok (.invokevirtual 26, 3) := by decide +kernel
theorem dL_four_721 : decode cL_four 721 = .ok (.iconst 5, 1) := by decide +kernel
theorem dL_four_722 : decode cL_four 722 = .ok (.if_icmp .ne 213, 3) := by decide +kernel
theorem dL_four_725 : decode cL_four 725 = .ok (.aload_n 0, 1) := by decide +kernel
theorem dL_four_726 : decode cL_four 726 = .ok (.iconst 4, 1) := by decide +kernel
theorem dL_four_727 : decode cL_four 727 = .ok (.iconst 3, 1) := by decide +kernel
theorem dL_four_728 : decode cL_four 728 = .ok (.invokevirtual 26, 3) := by decide +kernel
theorem dL_four_731 : decode cL_four 731 = .ok (.bipush 6, 2) := by decide +kernel
theorem dL_four_733 : decode cL_four 733 = .ok (.if_icmp .ne 202, 3) := by decide +kernel
theorem dL_four_736 : decode cL_four 736 = .ok (.aload_n 0, 1) := by decide +kernel
theorem dL_four_737 : decode cL_four 737 = .ok (.iconst 4, 1) := by decide +kernel
theorem dL_four_738 : decode cL_four 738 = .ok (.bipush 6, 2) := by decide +kernel
theorem dL_four_740 : decode cL_four 740 = .ok (.invokevirtual 26, 3) := by decide +kernel
theorem dL_four_743 : decode cL_four 743 = .ok (.iconst 3, 1) := by decide +kernel
theorem dL_four_744 : decode cL_four 744 = .ok (.if_icmp .ne 191, 3) := by decide +kernel
theorem dL_four_747 : decode cL_four 747 = .ok (.aload_n 0, 1) := by decide +kernel
theorem dL_four_748 : decode cL_four 748 = .ok (.iconst 4, 1) := by decide +kernel
theorem dL_four_749 : decode cL_four 749 = .ok (.invokevirtual 13, 3) := by decide +kernel
theorem dL_four_752 : decode cL_four 752 = .ok (.ifCond .ne 183, 3) := by decide +kernel
theorem dL_four_755 : decode cL_four 755 = .ok (.aload_n 0, 1) := by decide +kernel
theorem dL_four_756 : decode cL_four 756 = .ok (.iconst 3, 1) := by decide +kernel
theorem dL_four_757 : decode cL_four 757 = .ok (.invokevirtual 13, 3) := by decide +kernel
theorem dL_four_760 : decode cL_four 760 = .ok (.iconst 3, 1) := by decide +kernel
theorem dL_four_761 : decode cL_four 761 = .ok (.if_icmp .ne 174, 3) := by decide +kernel
theorem dL_four_764 : decode cL_four 764 = .ok (.aload_n 0, 1) := by decide +kernel
theorem dL_four_765 : decode cL_four 765 = .ok (.iconst 2, 1) := by decide +kernel
theorem dL_four_766 : decode cL_four 766 = .ok (.invokevirtual 59, 3) := by decide +kernel
theorem dL_four_769 : decode cL_four 769 = .ok (.bipush 7, 2) := by decide +kernel
theorem dL_four_771 : decode cL_four 771 = .ok (.if_icmp .ne 164, 3) := by decide +kernel
theorem dL_four_774 : decode cL_four 774 = .ok (.aload_n 0, 1) := by decide +kernel
theorem dL_four_775 : decode cL_four 775 = .ok (.iconst 5, 1) := by decide +kernel
theorem dL_four_776 : decode cL_four 776 = .ok (.bipush 6, 2) := by decide +kernel
theorem dL_four_778 : decode cL_four 778 = .ok (.invokevirtual 38, 3) := by decide +kernel
theorem dL_four_781 : decode cL_four 781 = .ok (.sipush 200, 3) := by decide +kernel
theorem dL_four_784 : decode cL_four 784 = .ok (.if_icmp .ne 151, 3) := by decide +kernel
theorem dL_four_787 : decode cL_four 787 = .ok (.aload_n 0, 1) := by decide +kernel
theorem dL_four_788 : decode cL_four 788 = .ok (.iconst 5, 1) := by decide +kernel
theorem dL_four_789 : decode cL_four 789 = .ok (.bipush 6, 2) := by decide +kernel
theorem dL_four_791 : decode cL_four 791 = .ok (.invokevirtual 38, 3) := by decide +kernel
theorem dL_four_794 : decode cL_four 794 = .ok (.bipush (-5), 2) := by decide +kernel
theorem dL_four_796 : decode cL_four 796 = .ok (.if_icmp .ne 139, 3) := by decide +kernel
theorem dL_four_799 : decode cL_four 799 = .ok (.aload_n 0, 1) := by decide +kernel
theorem dL_four_800 : decode cL_four 800 = .ok (.iconst 0, 1) := by decide +kernel
theorem dL_four_801 : decode cL_four 801 = .ok (.bipush (-5), 2) := by decide +kernel
theorem dL_four_803 : decode cL_four 803 = .ok (.invokevirtual 38, 3) := by decide +kernel
theorem dL_four_806 : decode cL_four 806 = .ok (.iconst 1, 1) := by decide +kernel
theorem dL_four_807 : decode cL_four 807 = .ok (.if_icmp .ne 128, 3) := by decide +kernel
theorem dL_four_810 : decode cL_four 810 = .ok (.aload_n 0, 1) := by decide +kernel
theorem dL_four_811 : decode cL_four 811 = .ok (.iconst 0, 1) := by decide +kernel
theorem dL_four_812 : decode cL_four 812 = .ok (.bipush (-5), 2) := by decide +kernel
theorem dL_four_814 : decode cL_four 814 = .ok (.invokevirtual 38, 3) := by decide +kernel
theorem dL_four_817 : decode cL_four 817 = .ok (.bipush (-5), 2) := by decide +kernel
theorem dL_four_819 : decode cL_four 819 = .ok (.if_icmp .ne 116, 3) := by decide +kernel
theorem dL_four_822 : decode cL_four 822 = .ok (.aload_n 0, 1) := by decide +kernel
theorem dL_four_823 : decode cL_four 823 = .ok (.iconst 0, 1) := by decide +kernel
theorem dL_four_824 : decode cL_four 824 = .ok (.iconst 1, 1) := by decide +kernel
theorem dL_four_825 : decode cL_four 825 = .ok (.invokevirtual 26, 3) := by decide +kernel
theorem dL_four_828 : decode cL_four 828 = .ok (.iconst 1, 1) := by decide +kernel
theorem dL_four_829 : decode cL_four 829 = .ok (.if_icmp .ne 106, 3) := by decide +kernel
theorem dL_four_832 : decode cL_four 832 = .ok (.aload_n 0, 1) := by decide +kernel
theorem dL_four_833 : decode cL_four 833 = .ok (.invokevirtual 83, 3) := by decide +kernel
theorem dL_four_836 : decode cL_four 836 = .ok (.iconst 2, 1) := by decide +kernel
theorem dL_four_837 : decode cL_four 837 = .ok (.if_icmp .ne 98, 3) := by decide +kernel
theorem dL_four_840 : decode cL_four 840 = .ok (.aload_n 0, 1) := by decide +kernel
theorem dL_four_841 : decode cL_four 841 = .ok (.iconst 5, 1) := by decide +kernel
theorem dL_four_842 : decode cL_four 842 = .ok (.iconst 1, 1) := by decide +kernel
theorem dL_four_843 : decode cL_four 843 = .ok (.invokevirtual 26, 3) := by decide +kernel
theorem dL_four_846 : decode cL_four 846 = .ok (.bipush 6, 2) := by decide +kernel
theorem dL_four_848 : decode cL_four 848 = .ok (.if_icmp .ne 87, 3) := by decide +kernel
theorem dL_four_851 : decode cL_four 851 = .ok (.aload_n 0, 1) := by decide +kernel
theorem dL_four_852 : decode cL_four 852 = .ok (.iconst 5, 1) := by decide +kernel
theorem dL_four_853 : decode cL_four 853 = .ok (.iconst 3, 1) := by decide +kernel
theorem dL_four_854 : decode cL_four 854 = .ok (.invokevirtual 26, 3) := by decide +kernel
theorem dL_four_857 : decode cL_four 857 = .ok (.iconst 5, 1) := by decide +kernel
theorem dL_four_858 : decode cL_four 858 = .ok (.if_icmp .ne 77, 3) := by decide +kernel
theorem dL_four_861 : decode cL_four 861 = .ok (.aload_n 0, 1) := by decide +kernel
theorem dL_four_862 : decode cL_four 862 = .ok (.iconst 5, 1) := by decide +kernel
theorem dL_four_863 : decode cL_four 863 = .ok (.iconst 4, 1) := by decide +kernel
theorem dL_four_864 : decode cL_four 864 = .ok (.invokevirtual 26, 3) := by decide +kernel
theorem dL_four_867 : decode cL_four 867 = .ok (.iconst 1, 1) := by decide +kernel
theorem dL_four_868 : decode cL_four 868 = .ok (.if_icmp .ne 67, 3) := by decide +kernel
theorem dL_four_871 : decode cL_four 871 = .ok (.aload_n 0, 1) := by decide +kernel
theorem dL_four_872 : decode cL_four 872 = .ok (.iconst 3, 1) := by decide +kernel
theorem dL_four_873 : decode cL_four 873 = .ok (.iconst 4, 1) := by decide +kernel
theorem dL_four_874 : decode cL_four 874 = .ok (.invokevirtual 26, 3) := by decide +kernel
theorem dL_four_877 : decode cL_four 877 = .ok (.ifCond .ne 58, 3) := by decide +kernel
theorem dL_four_880 : decode cL_four 880 = .ok (.aload_n 0, 1) := by decide +kernel
theorem dL_four_881 : decode cL_four 881 = .ok (.iconst 5, 1) := by decide +kernel
theorem dL_four_882 : decode cL_four 882 = .ok (.iconst 2, 1) := by decide +kernel
theorem dL_four_883 : decode cL_four 883 = .ok (.invokevirtual 23, 3) := by decide +kernel
theorem dL_four_886 : decode cL_four 886 = .ok (.iconst 2, 1) := by decide +kernel
theorem dL_four_887 : decode cL_four 887 = .ok (.if_icmp .ne 48, 3) := by decide +kernel
theorem dL_four_890 : decode cL_four 890 = .ok (.aload_n 0, 1) := by decide +kernel
theorem dL_four_891 : decode cL_four 891 = .ok (.iconst 5, 1) := by decide +kernel
theorem dL_four_892 : decode cL_four 892 = .ok (.invokevirtual 13, 3) := by decide +kernel
theorem dL_four_895 : decode cL_four 895 = .ok (.iconst 2, 1) := by decide +kernel
theorem dL_four_896 : decode cL_four 896 = .ok (.if_icmp .ne 39, 3) := by decide +kernel
theorem dL_four_899 : decode cL_four 899 = .ok (.aload_n 0, 1) := by decide +kernel
theorem dL_four_900 : decode cL_four 900 = .ok (.bipush 6, 2) := by decide +kernel
theorem dL_four_902 : decode cL_four 902 = .ok (.iconst 4, 1) := by decide +kernel
theorem dL_four_903 : decode cL_four 903 = .ok (.invokevirtual 23, 3) := by decide +kernel
theorem dL_four_906 : decode cL_four 906 = .ok (.ifCond .ne 29, 3) := by decide +kernel
theorem dL_four_909 : decode cL_four 909 = .ok (.aload_n 0, 1) := by decide +kernel
theorem dL_four_910 : decode cL_four 910 = .ok (.iconst 0, 1) := by decide +kernel
theorem dL_four_911 : decode cL_four 911 = .ok (.iconst 4, 1) := by decide +kernel
theorem dL_four_912 : decode cL_four 912 = .ok (.invokevirtual 23, 3) := by decide +kernel
theorem dL_four_915 : decode cL_four 915 = .ok (.iconst 1, 1) := by decide +kernel
theorem dL_four_916 : decode cL_four 916 = .ok (.if_icmp .ne 19, 3) := by decide +kernel
theorem dL_four_919 : decode cL_four 919 = .ok (.aload_n 0, 1) := by decide +kernel
theorem dL_four_920 : decode cL_four 920 = .ok (.iconst 1, 1) := by decide +kernel
theorem dL_four_921 : decode cL_four 921 = .ok (.iconst 4, 1) := by decide +kernel
theorem dL_four_922 : decode cL_four 922 = .ok (.invokevirtual 23, 3) := by decide +kernel
theorem dL_four_925 : decode cL_four 925 = .ok (.ifCond .ne 10, 3) := by decide +kernel
theorem dL_four_928 : decode cL_four 928 = .ok (.aload_n 0, 1) := by decide +kernel
theorem dL_four_929 : decode cL_four 929 = .ok (.invokestatic 100, 3) := by decide +kernel
theorem dL_four_932 : decode cL_four 932 = .ok (.ifCond .ne 5, 3) := by decide +kernel
theorem dL_four_935 : decode cL_four 935 = .ok (.iconst 0, 1) := by decide +kernel
theorem dL_four_936 : decode cL_four 936 = .ok (.ireturn, 1) := by decide +kernel
theorem dL_four_937 : decode cL_four 937 = .ok (.aload_n 0, 1) := by decide +kernel
theorem dL_four_938 : decode cL_four 938 = .ok (.iconst 2, 1) := by decide +kernel
theorem dL_four_939 : decode cL_four 939 = .ok (.iconst 0, 1) := by decide +kernel
theorem dL_four_940 : decode cL_four 940 = .ok (.invokevirtual 50, 3) := by decide +kernel
theorem dL_four_943 : decode cL_four 943 = .ok (.iconst 1, 1) := by decide +kernel
theorem dL_four_944 : decode cL_four 944 = .ok (.if_icmp .ne 149, 3) := by decide +kernel
theorem dL_four_947 : decode cL_four 947 = .ok (.aload_n 0, 1) := by decide +kernel
theorem dL_four_948 : decode cL_four 948 = .ok (.iconst 0, 1) := by decide +kernel
theorem dL_four_949 : decode cL_four 949 = .ok (.iconst 3, 1) := by decide +kernel
theorem dL_four_950 : decode cL_four 950 = .ok (.invokevirtual 26, 3) := by decide +kernel
theorem dL_four_953 : decode cL_four 953 = .ok (.iconst 1, 1) := by decide +kernel
theorem dL_four_954 : decode cL_four 954 = .ok (.if_icmp .ne 139, 3) := by decide +kernel
theorem dL_four_957 : decode cL_four 957 = .ok (.aload_n 0, 1) := by decide +kernel
theorem dL_four_958 : decode cL_four 958 = .ok (.iconst 1, 1) := by decide +kernel
theorem dL_four_959 : decode cL_four 959 = .ok (.iconst 3, 1) := by decide +kernel
theorem dL_four_960 : decode cL_four 960 = .ok (.invokevirtual 23, 3) := by decide +kernel
theorem dL_four_963 : decode cL_four 963 = .ok (.iconst 1, 1) := by decide +kernel
theorem dL_four_964 : decode cL_four 964 = .ok (.if_icmp .ne 129, 3) := by decide +kernel
theorem dL_four_967 : decode cL_four 967 = .ok (.aload_n 0, 1) := by decide +kernel
theorem dL_four_968 : decode cL_four 968 = .ok (.bipush 15, 2) := by decide +kernel
theorem dL_four_970 : decode cL_four 970 = .ok (.invokevirtual 13, 3) := by decide +kernel
theorem dL_four_973 : decode cL_four 973 = .ok (.iconst 4, 1) := by decide +kernel
theorem dL_four_974 : decode cL_four 974 = .ok (.if_icmp .ne 119, 3) := by decide +kernel
theorem dL_four_977 : decode cL_four 977 = .ok (.aload_n 0, 1) := by decide +kernel
theorem dL_four_978 : decode cL_four 978 = .ok (.invokevirtual 77, 3) := by decide +kernel
theorem dL_four_981 : decode cL_four 981 = .ok (.iconst 3, 1) := by decide +kernel
theorem dL_four_982 : decode cL_four 982 = .ok (.if_icmp .ne 111, 3) := by decide +kernel
theorem dL_four_985 : decode cL_four 985 = .ok (.aload_n 0, 1) := by decide +kernel
theorem dL_four_986 : decode cL_four 986 = .ok (.iconst 0, 1) := by decide +kernel
theorem dL_four_987 : decode cL_four 987 = .ok (.iconst 3, 1) := by decide +kernel
theorem dL_four_988 : decode cL_four 988 = .ok (.invokevirtual 26, 3) := by decide +kernel
theorem dL_four_991 : decode cL_four 991 = .ok (.ifCond .ne 102, 3) := by decide +kernel
theorem dL_four_994 : decode cL_four 994 = .ok (.aload_n 0, 1) := by decide +kernel
theorem dL_four_995 : decode cL_four 995 = .ok (.invokevirtual 77, 3) := by decide +kernel
theorem dL_four_998 : decode cL_four 998 = .ok (.iconst 2, 1) := by decide +kernel
theorem dL_four_999 : decode cL_four 999 = .ok (.if_icmp .ne 94, 3) := by decide +kernel
theorem dL_four_1002 : decode cL_four 1002 = .ok (.aload_n 0, 1) := by decide +kernel
theorem dL_four_1003 : decode cL_four 1003 = .ok (.iconst 2, 1) := by decide +kernel
theorem dL_four_1004 : decode cL_four 1004 = .ok (.invokevirtual 13, 3) := by decide +kernel
theorem dL_four_1007 : decode cL_four 1007 = .ok (.iconst 5, 1) := by decide +kernel
theorem dL_four_1008 : decode cL_four 1008 = .ok (.if_icmp .ne 85, 3) := by decide +kernel
theorem dL_four_1011 : decode cL_four 1011 = .ok (.aload_n 0, 1) := by decide +kernel
theorem dL_four_1012 : decode cL_four 1012 = .ok (.invokevirtual 77, 3) := by decide +kernel
theorem dL_four_1015 : decode cL_four 1015 = .ok (.iconst 1, 1) := by decide +kernel
theorem dL_four_1016 : decode cL_four 1016 = .ok (.if_icmp .ne 77, 3) := by decide +kernel
theorem dL_four_1019 : decode cL_four 1019 = .ok (.aload_n 0, 1) := by decide +kernel
theorem dL_four_1020 : decode cL_four 1020 = .ok (.iconst 0, 1) := by decide +kernel
theorem dL_four_1021 : decode cL_four 1021 = .ok (.iconst 0, 1) := by decide +kernel
theorem dL_four_1022 : decode cL_four 1022 = .ok (.invokevirtual 23, 3) := by decide +kernel
theorem dL_four_1025 : decode cL_four 1025 = .ok (.iconst 1, 1) := by decide +kernel
theorem dL_four_1026 : decode cL_four 1026 = .ok (.if_icmp .ne 67, 3) := by decide +kernel
theorem dL_four_1029 : decode cL_four 1029 = .ok (.aload_n 0, 1) := by decide +kernel
theorem dL_four_1030 : decode cL_four 1030 = .ok (.invokevirtual 107, 3) := by decide +kernel
theorem dL_four_1033 : decode cL_four 1033 = .ok (.iconst 5, 1) := by decide +kernel
theorem dL_four_1034 : decode cL_four 1034 = .ok (.if_icmp .ne 59, 3) := by decide +kernel
theorem dL_four_1037 : decode cL_four 1037 = .ok (.aload_n 0, 1) := by decide +kernel
theorem dL_four_1038 : decode cL_four 1038 = .ok (.invokevirtual 97, 3) := by decide +kernel
theorem dL_four_1041 : decode cL_four 1041 = .ok (.iconst 4, 1) := by decide +kernel
theorem dL_four_1042 : decode cL_four 1042 = .ok (.if_icmp .ne 51, 3) := by decide +kernel
theorem dL_four_1045 : decode cL_four 1045 = .ok (.aload_n 0, 1) := by decide +kernel
theorem dL_four_1046 : decode cL_four 1046 = .ok (.iconst 2, 1) := by decide +kernel
theorem dL_four_1047 : decode cL_four 1047 = .ok (.invokevirtual 13, 3) := by decide +kernel
theorem dL_four_1050 : decode cL_four 1050 = .ok (.ifCond .ne 43, 3) := by decide +kernel
theorem dL_four_1053 : decode cL_four 1053 = .ok (.aload_n 0, 1) := by decide +kernel
theorem dL_four_1054 : decode cL_four 1054 = .ok (.bipush 14, 2) := by decide +kernel
theorem dL_four_1056 : decode cL_four 1056 = .ok (.invokevirtual 13, 3) := by decide +kernel
theorem dL_four_1059 : decode cL_four 1059 = .ok (.ifCond .ne 34, 3) := by decide +kernel
theorem dL_four_1062 : decode cL_four 1062 = .ok (.aload_n 0, 1) := by decide +kernel
theorem dL_four_1063 : decode cL_four 1063 = .ok (.bipush 7, 2) := by decide +kernel
theorem dL_four_1065 : decode cL_four 1065 = .ok (.invokevirtual 13, 3) := by decide +kernel
theorem dL_four_1068 : decode cL_four 1068 = .ok (.ifCond .ne 25, 3) := by decide +kernel
theorem dL_four_1071 : decode cL_four 1071 = .ok (.aload_n 0, 1) := by decide +kernel
theorem dL_four_1072 : decode cL_four 1072 = .ok (.invokevirtual 80, 3) := by decide +kernel
theorem dL_four_1075 : decode cL_four 1075 = .ok (.iconst 5, 1) := by decide +kernel
theorem dL_four_1076 : decode cL_four 1076 = .ok (.if_icmp .ne 17, 3) := by decide +kernel
theorem dL_four_1079 : decode cL_four 1079 = .ok (.aload_n 0, 1) := by decide +kernel
theorem dL_four_1080 : decode cL_four 1080 = .ok (.bipush 14, 2) := by decide +kernel
theorem dL_four_1082 : decode cL_four 1082 = .ok (.invokevirtual 13, 3) := by decide +kernel
theorem dL_four_1085 : decode cL_four 1085 = .ok (.iconst 4, 1) := by decide +kernel
theorem dL_four_1086 : decode cL_four 1086 = .ok (.if_icmp .ne 7, 3) := by decide +kernel
theorem dL_four_1089 : decode cL_four 1089 = .ok (.iconst 1, 1) := by decide +kernel
theorem dL_four_1090 : decode cL_four 1090 = .ok (.goto 4, 3) := by decide +kernel
theorem dL_four_1093 : decode cL_four 1093 = .ok (.iconst 0, 1) := by decide +kernel
theorem dL_four_1094 : decode cL_four 1094 = .ok (.ireturn, 1) := by decide +kernel

