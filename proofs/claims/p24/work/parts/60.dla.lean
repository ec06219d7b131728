theorem dL_part_0 : decode cL_part 0 = .ok (.iload_n 0, 1) := by decide +kernel
theorem dL_part_1 : decode cL_part 1 = .ok (.ldc 7, 2) := by decide +kernel
theorem dL_part_3 : decode cL_part 3 = .ok (.iand, 1) := by decide +kernel
theorem dL_part_4 : decode cL_part 4 = .ok (.iload_n 1, 1) := by decide +kernel
theorem dL_part_5 : decode cL_part 5 = .ok (.irem, 1) := by decide +kernel
theorem dL_part_6 : decode cL_part 6 = .ok (.ireturn, 1) := by decide +kernel
theorem dL_drawn_0 : decode cL_drawn 0 = .ok (.aload_n 0, 1) := by decide +kernel
theorem dL_drawn_1 : decode cL_drawn 1 = .ok (.arraylength, 1) := by decide +kernel
theorem dL_drawn_2 : decode cL_drawn 2 = .ok (.ifCond .ne 13, 3) := by decide +kernel
theorem dL_drawn_5 : decode cL_drawn 5 = .ok (.sipush 7919, 3) := by decide +kernel
theorem dL_drawn_8 : decode cL_drawn 8 = .ok (.iload_n 1, 1) := by decide +kernel
theorem dL_drawn_9 : decode cL_drawn 9 = .ok (.imul, 1) := by decide +kernel
theorem dL_drawn_10 : decode cL_drawn 10 = .ok (.iconst 3, 1) := by decide +kernel
theorem dL_drawn_11 : decode cL_drawn 11 = .ok (.iadd, 1) := by decide +kernel
theorem dL_drawn_12 : decode cL_drawn 12 = .ok (.goto 27, 3) := by decide +kernel
theorem dL_drawn_15 : decode cL_drawn 15 = .ok (.aload_n 0, 1) := by decide +kernel
theorem dL_drawn_16 : decode cL_drawn 16 = .ok (.iload_n 1, 1) := by decide +kernel
theorem dL_drawn_17 : decode cL_drawn 17 = .ok (.aload_n 0, 1) := by decide +kernel
theorem dL_drawn_18 : decode cL_drawn 18 = .ok (.arraylength, 1) := by decide +kernel
theorem dL_drawn_19 : decode cL_drawn 19 = .ok (.irem, 1) := by decide +kernel
theorem dL_drawn_20 : decode cL_drawn 20 = .ok (.iaload, 1) := by decide +kernel
theorem dL_drawn_21 : decode cL_drawn 21 = .ok (.iload_n 1, 1) := by decide +kernel
theorem dL_drawn_22 : decode cL_drawn 22 = .ok (.bipush 7, 2) := by decide +kernel
theorem dL_drawn_24 : decode cL_drawn 24 = .ok (.irem, 1) := by decide +kernel
theorem dL_drawn_25 : decode cL_drawn 25 = .ok (.ishr, 1) := by decide +kernel
theorem dL_drawn_26 : decode cL_drawn 26 = .ok (.iload_n 1, 1) := by decide +kernel
theorem dL_drawn_27 : decode cL_drawn 27 = .ok (.aload_n 0, 1) := by decide +kernel
theorem dL_drawn_28 : decode cL_drawn 28 = .ok (.arraylength, 1) := by decide +kernel
theorem dL_drawn_29 : decode cL_drawn 29 = .ok (.idiv, 1) := by decide +kernel
theorem dL_drawn_30 : decode cL_drawn 30 = .ok (.bipush 31, 2) := by decide +kernel
theorem dL_drawn_32 : decode cL_drawn 32 = .ok (.imul, 1) := by decide +kernel
theorem dL_drawn_33 : decode cL_drawn 33 = .ok (.ixor, 1) := by decide +kernel
theorem dL_drawn_34 : decode cL_drawn 34 = .ok (.iload_n 1, 1) := by decide +kernel
theorem dL_drawn_35 : decode cL_drawn 35 = .ok (.ldc 8, 2) := by decide +kernel
theorem dL_drawn_37 : decode cL_drawn 37 = .ok (.imul, 1) := by decide +kernel
theorem dL_drawn_38 : decode cL_drawn 38 = .ok (.ixor, 1) := by decide +kernel
theorem dL_drawn_39 : decode cL_drawn 39 = .ok (.ireturn, 1) := by decide +kernel
set_option maxRecDepth 20000 in
theorem ggL_seen_X5_count : GoodIn wsL_seen wsX5_count := goodIn_r _ [7, 8, 9, 10, 11, 12, 13, 14, 15, 16, 17, 18, 19, 20, 21, 22, 23, 24, 25, 26, 27, 28, 29, 30, 31, 32, 33, 34, 35, 36, 37, 38, 39, 40, 41, 42, 43, 44, 45, 46, 47, 48, 49, 50, 51, 52, 53, 54, 55, 56, 57, 58, 59, 60, 61, 62, 63, 64, 65, 66, 67, 68, 69, 70, 71, 72, 73, 74, 75, 76, 77, 78, 79, 80, 81, 82, 83, 84, 85, 86, 87, 88, 89, 90, 91, 92, 93, 94, 95, 96, 97, 98, 99, 100, 101, 102, 103, 104, 105, 106, 107, 108, 182, 183, 184, 185, 186, 187, 188, 189, 190, 191, 192, 193, 194, 195, 196, 197, 198, 199, 200, 201, 202, 203, 204, 205] (by decide +kernel) (by decide +kernel)
set_option maxRecDepth 20000 in
theorem gL_seen_X5_count : GoodIn wsL_seen (wsV RL 13 RX5 yX5_count wsX5_count) := goodIn_app (goodIn_of _ (by decide +kernel)) ggL_seen_X5_count
set_option maxRecDepth 20000 in
theorem ggL_seen_X5_ofNode : GoodIn wsL_seen wsX5_ofNode := goodIn_r _ [112, 8, 113, 114, 6, 115, 116, 62, 63, 14, 64, 16, 117, 118, 55, 119, 120, 121, 122, 123, 124, 125, 126, 127, 128, 129, 130, 131, 132, 133, 134, 135, 136, 137, 138, 139, 140, 141, 142, 143, 144, 145, 146, 29, 147, 148, 149, 150, 151, 182, 183, 184, 185, 186, 187, 188, 189, 190, 191, 192, 193, 194, 195, 196, 197] (by decide +kernel) (by decide +kernel)
set_option maxRecDepth 20000 in
theorem gL_seen_X5_ofNode : GoodIn wsL_seen (wsV RL 19 RX5 yX5_ofNode wsX5_ofNode) := goodIn_app (goodIn_of _ (by decide +kernel)) ggL_seen_X5_ofNode
set_option maxRecDepth 20000 in
theorem ggL_seen_X5_stone : GoodIn wsL_seen wsX5_stone := goodIn_r _ [155, 8, 113, 114, 6, 115, 116, 62, 63, 14, 64, 16, 156, 66, 67, 68, 69, 157, 84, 72, 85, 158, 75, 76, 159, 78, 79, 160, 87, 88, 182, 183, 184, 185, 186, 187, 188, 189, 190, 191, 192, 193, 194, 195, 196, 197] (by decide +kernel) (by decide +kernel)
set_option maxRecDepth 20000 in
theorem gL_seen_X5_stone : GoodIn wsL_seen (wsV RL 23 RX5 yX5_stone wsX5_stone) := goodIn_app (goodIn_of _ (by decide +kernel)) ggL_seen_X5_stone
set_option maxRecDepth 20000 in
theorem ggL_seen_X5_ofKey : GoodIn wsL_seen wsX5_ofKey := goodIn_r _ [164, 8, 165, 166, 6, 167, 168, 49, 50, 14, 51, 52, 169, 45, 46, 47, 48, 53, 54, 55, 56, 57, 58, 59, 60, 61, 62, 63, 64, 16, 65, 66, 67, 68, 69, 70, 71, 72, 73, 74, 75, 76, 77, 78, 79, 80, 81, 82, 83, 84, 85, 86, 87, 88, 89, 90, 91, 170, 171, 172, 173, 174, 175, 176, 177, 178, 179, 180, 181, 182, 183, 184, 185, 186, 187, 188, 189, 190, 191, 192, 193, 194, 195, 196, 197] (by decide +kernel) (by decide +kernel)
set_option maxRecDepth 20000 in
theorem gL_seen_X5_ofKey : GoodIn wsL_seen (wsV RL 27 RX5 yX5_ofKey wsX5_ofKey) := goodIn_app (goodIn_of _ (by decide +kernel)) ggL_seen_X5_ofKey
theorem dL_seen_0 : decode cL_seen 0 = .ok (.ldc2_w 9, 3) := by decide +kernel
theorem dL_seen_3 : decode cL_seen 3 = .ok (.lstore_n 1, 1) := by decide +kernel
theorem dL_seen_4 : decode cL_seen 4 = .ok (.iconst 0, 1) := by decide +kernel
theorem dL_seen_5 : decode cL_seen 5 = .ok (.istore_n 3, 1) := by decide +kernel
theorem dL_seen_6 : decode cL_seen 6 = .ok (.iload_n 3, 1) := by decide +kernel
theorem dL_seen_7 : decode cL_seen 7 = .ok (.bipush 6, 2) := by decide +kernel
theorem dL_seen_9 : decode cL_seen 9 = .ok (.if_icmp .ge 22, 3) := by decide +kernel
theorem dL_seen_12 : decode cL_seen 12 = .ok (.ldc2_w 11, 3) := by decide +kernel
theorem dL_seen_15 : decode cL_seen 15 = .ok (.lload_n 1, 1) := by decide +kernel
theorem dL_seen_16 : decode cL_seen 16 = .ok (.lmul, 1) := by decide +kernel
theorem dL_seen_17 : decode cL_seen 17 = .ok (.aload_n 0, 1) := by decide +kernel
theorem dL_seen_18 : decode cL_seen 18 = .ok (.iload_n 3, 1) := by decide +kernel
theorem dL_seen_19 : decode cL_seen 19 = .ok (.invokevirtual 13, 3) := by decide +kernel
theorem dL_seen_22 : decode cL_seen 22 = .ok (.i2l, 1) := by decide +kernel
theorem dL_seen_23 : decode cL_seen 23 = .ok (.ladd, 1) := by decide +kernel
theorem dL_seen_24 : decode cL_seen 24 = .ok (.lstore_n 1, 1) := by decide +kernel
theorem dL_seen_25 : decode cL_seen 25 = .ok (.iinc 3 1, 3) := by decide +kernel
theorem dL_seen_28 : decode cL_seen 28 = .ok (.goto (-22), 3) := by decide +kernel
theorem dL_seen_31 : decode cL_seen 31 = .ok (.ldc2_w 11, 3) := by decide +kernel
theorem dL_seen_34 : decode cL_seen 34 = .ok (.lload_n 1, 1) := by decide +kernel
theorem dL_seen_35 : decode cL_seen 35 = .ok (.lmul, 1) := by decide +kernel
theorem dL_seen_36 : decode cL_seen 36 = .ok (.aload_n 0, 1) := by decide +kernel
theorem dL_seen_37 : decode cL_seen 37 = .ok (.bipush 8, 2) := by decide +kernel
theorem dL_seen_39 : decode cL_seen 39 = .ok (.invokevirtual 13, 3) := by decide +kernel
theorem dL_seen_42 : decode cL_seen 42 = .ok (.i2l, 1) := by decide +kernel
theorem dL_seen_43 : decode cL_seen 43 = .ok (.ladd, 1) := by decide +kernel
theorem dL_seen_44 : decode cL_seen 44 = .ok (.bipush 100, 2) := by decide +kernel
theorem dL_seen_46 : decode cL_seen 46 = .ok (.aload_n 0, 1) := by decide +kernel
theorem dL_seen_47 : decode cL_seen 47 = .ok (.bipush 9, 2) := by decide +kernel
theorem dL_seen_49 : decode cL_seen 49 = .ok (.invokevirtual 13, 3) := by decide +kernel
theorem dL_seen_52 : decode cL_seen 52 = .ok (.imul, 1) := by decide +kernel
theorem dL_seen_53 : decode cL_seen 53 = .ok (.i2l, 1) := by decide +kernel
theorem dL_seen_54 : decode cL_seen 54 = .ok (.ladd, 1) := by decide +kernel
theorem dL_seen_55 : decode cL_seen 55 = .ok (.lstore_n 1, 1) := by decide +kernel
theorem dL_seen_56 : decode cL_seen 56 = .ok (.iconst 0, 1) := by decide +kernel
theorem dL_seen_57 : decode cL_seen 57 = .ok (.istore_n 3, 1) := by decide +kernel
theorem dL_seen_58 : decode cL_seen 58 = .ok (.iload_n 3, 1) := by decide +kernel
theorem dL_seen_59 : decode cL_seen 59 = .ok (.bipush 13, 2) := by decide +kernel
theorem dL_seen_61 : decode cL_seen 61 = .ok (.if_icmp .ge 83, 3) := by decide +kernel
theorem dL_seen_64 : decode cL_seen 64 = .ok (.iconst 0, 1) := by decide +kernel
theorem dL_seen_65 : decode cL_seen 65 = .ok (.istore 4, 2) := by decide +kernel
theorem dL_seen_67 : decode cL_seen 67 = .ok (.iload 4, 2) := by decide +kernel
theorem dL_seen_69 : decode cL_seen 69 = .ok (.bipush 6, 2) := by decide +kernel
theorem dL_seen_71 : decode cL_seen 71 = .ok (.if_icmp .ge 24, 3) := by decide +kernel
theorem dL_seen_74 : decode cL_seen 74 = .ok (.ldc2_w 11, 3) := by decide +kernel
theorem dL_seen_77 : decode cL_seen 77 = .ok (.lload_n 1, 1) := by decide +kernel
theorem dL_seen_78 : decode cL_seen 78 = .ok (.lmul, 1) := by decide +kernel
theorem dL_seen_79 : decode cL_seen 79 = .ok (.aload_n 0, 1) := by decide +kernel
theorem dL_seen_80 : decode cL_seen 80 = .ok (.iload_n 3, 1) := by decide +kernel
theorem dL_seen_81 : decode cL_seen 81 = .ok (.iload 4, 2) := by decide +kernel
theorem dL_seen_83 : decode cL_seen 83 = .ok (.invokevirtual 19, 3) := by decide +kernel
theorem dL_seen_86 : decode cL_seen 86 = .ok (.i2l, 1) := by decide +kernel
theorem dL_seen_87 : decode cL_seen 87 = .ok (.ladd, 1) := by decide +kernel
theorem dL_seen_88 : decode cL_seen 88 = .ok (.lstore_n 1, 1) := by decide +kernel
theorem dL_seen_89 : decode cL_seen 89 = .ok (.iinc 4 1, 3) := by decide +kernel
theorem dL_seen_92 : decode cL_seen 92 = .ok (.goto (-25), 3) := by decide +kernel
theorem dL_seen_95 : decode cL_seen 95 = .ok (.iconst 0, 1) := by decide +kernel
theorem dL_seen_96 : decode cL_seen 96 = .ok (.istore 4, 2) := by decide +kernel
theorem dL_seen_98 : decode cL_seen 98 = .ok (.iload 4, 2) := by decide +kernel
theorem dL_seen_100 : decode cL_seen 100 = .ok (.iconst 4, 1) := by decide +kernel
theorem dL_seen_101 : decode cL_seen 101 = .ok (.aload_n 0, 1) := by decide +kernel
theorem dL_seen_102 : decode cL_seen 102 = .ok (.iload_n 3, 1) := by decide +kernel
theorem dL_seen_103 : decode cL_seen 103 = .ok (.iconst 0, 1) := by decide +kernel
theorem dL_seen_104 : decode cL_seen 104 = .ok (.invokevirtual 19, 3) := by decide +kernel
theorem dL_seen_107 : decode cL_seen 107 = .ok (.imul, 1) := by decide +kernel
theorem dL_seen_108 : decode cL_seen 108 = .ok (.if_icmp .ge 30, 3) := by decide +kernel
theorem dL_seen_111 : decode cL_seen 111 = .ok (.ldc2_w 11, 3) := by decide +kernel
theorem dL_seen_114 : decode cL_seen 114 = .ok (.lload_n 1, 1) := by decide +kernel
theorem dL_seen_115 : decode cL_seen 115 = .ok (.lmul, 1) := by decide +kernel
theorem dL_seen_116 : decode cL_seen 116 = .ok (.aload_n 0, 1) := by decide +kernel
theorem dL_seen_117 : decode cL_seen 117 = .ok (.iload_n 3, 1) := by decide +kernel
theorem dL_seen_118 : decode cL_seen 118 = .ok (.iload 4, 2) := by decide +kernel
theorem dL_seen_120 : decode cL_seen 120 = .ok (.iconst 4, 1) := by decide +kernel
theorem dL_seen_121 : decode cL_seen 121 = .ok (.idiv, 1) := by decide +kernel
theorem dL_seen_122 : decode cL_seen 122 = .ok (.iload 4, 2) := by decide +kernel
theorem dL_seen_124 : decode cL_seen 124 = .ok (.iconst 4, 1) := by decide +kernel
theorem dL_seen_125 : decode cL_seen 125 = .ok (.irem, 1) := by decide +kernel
theorem dL_seen_126 : decode cL_seen 126 = .ok (.invokevirtual 23, 3) := by decide +kernel
theorem dL_seen_129 : decode cL_seen 129 = .ok (.i2l, 1) := by decide +kernel
theorem dL_seen_130 : decode cL_seen 130 = .ok (.ladd, 1) := by decide +kernel
theorem dL_seen_131 : decode cL_seen 131 = .ok (.lstore_n 1, 1) := by decide +kernel
theorem dL_seen_132 : decode cL_seen 132 = .ok (.iinc 4 1, 3) := by decide +kernel
theorem dL_seen_135 : decode cL_seen 135 = .ok (.goto (-37), 3) := by decide +kernel
theorem dL_seen_138 : decode cL_seen 138 = .ok (.iinc 3 1, 3) := by decide +kernel
theorem dL_seen_141 : decode cL_seen 141 = .ok (.goto (-83), 3) := by decide +kernel
theorem dL_seen_144 : decode cL_seen 144 = .ok (.iconst 0, 1) := by decide +kernel
theorem dL_seen_145 : decode cL_seen 145 = .ok (.istore_n 3, 1) := by decide +kernel
theorem dL_seen_146 : decode cL_seen 146 = .ok (.iload_n 3, 1) := by decide +kernel
theorem dL_seen_147 : decode cL_seen 147 = .ok (.bipush 108, 2) := by decide +kernel
theorem dL_seen_149 : decode cL_seen 149 = .ok (.if_icmp .ge 27, 3) := by decide +kernel
theorem dL_seen_152 : decode cL_seen 152 = .ok (.ldc2_w 11, 3) := by decide +kernel
theorem dL_seen_155 : decode cL_seen 155 = .ok (.lload_n 1, 1) := by decide +kernel
theorem dL_seen_156 : decode cL_seen 156 = .ok (.lmul, 1) := by decide +kernel
theorem dL_seen_157 : decode cL_seen 157 = .ok (.aload_n 0, 1) := by decide +kernel
theorem dL_seen_158 : decode cL_seen 158 = .ok (.iload_n 3, 1) := by decide +kernel
theorem dL_seen_159 : decode cL_seen 159 = .ok (.iconst 4, 1) := by decide +kernel
theorem dL_seen_160 : decode cL_seen 160 = .ok (.idiv, 1) := by decide +kernel
theorem dL_seen_161 : decode cL_seen 161 = .ok (.iload_n 3, 1) := by decide +kernel
theorem dL_seen_162 : decode cL_seen 162 = .ok (.iconst 4, 1) := by decide +kernel
theorem dL_seen_163 : decode cL_seen 163 = .ok (.irem, 1) := by decide +kernel
theorem dL_seen_164 : decode cL_seen 164 = .ok (.invokevirtual 27, 3) := by decide +kernel
theorem dL_seen_167 : decode cL_seen 167 = .ok (.i2l, 1) := by decide +kernel
theorem dL_seen_168 : decode cL_seen 168 = .ok (.ladd, 1) := by decide +kernel
theorem dL_seen_169 : decode cL_seen 169 = .ok (.lstore_n 1, 1) := by decide +kernel
theorem dL_seen_170 : decode cL_seen 170 = .ok (.iinc 3 1, 3) := by decide +kernel
theorem dL_seen_173 : decode cL_seen 173 = .ok (.goto (-27), 3) := by decide +kernel
theorem dL_seen_176 : decode cL_seen 176 = .ok (.lload_n 1, 1) := by decide +kernel
theorem dL_seen_177 : decode cL_seen 177 = .ok (.lreturn, 1) := by decide +kernel
set_option maxRecDepth 20000 in
theorem ggL_refused_L_seen : GoodIn wsL_refused wsL_seen := goodIn_r _ [9, 10, 11, 12, 13, 14, 15, 16, 17, 18, 19, 20, 21, 22, 23, 24, 25, 26, 27, 28, 29, 30, 31, 32, 33, 34, 35, 36, 37, 38, 39, 40, 41, 42, 43, 44, 45, 46, 47, 48, 49, 50, 51, 52, 53, 54, 55, 56, 57, 58, 59, 60, 61, 62, 63, 64, 65, 66, 67, 68, 69, 70, 71, 72, 73, 74, 75, 76, 77, 78, 79, 80, 81, 82, 83, 84, 85, 86, 87, 88, 89, 90, 91, 92, 93, 94, 95, 96, 97, 98, 99, 100, 101, 102, 103, 104, 105, 106, 107, 108, 109, 110, 111, 112, 113, 114, 115, 116, 117, 118, 119, 120, 121, 122, 123, 124, 125, 126, 127, 128, 129, 130, 131, 132, 133, 134, 135, 136, 137, 138, 139, 140, 141, 142, 143, 144, 145, 146, 147, 148, 149, 150, 151, 152, 153, 154, 155, 156, 157, 158, 159, 160, 161, 162, 163, 164, 165, 166, 167, 168, 169, 170, 171, 172, 173, 174, 175, 176, 177, 178, 179, 180, 181, 182, 183, 184, 185, 186, 187, 188, 189, 190, 394, 395, 396, 397, 398, 399, 400, 401, 402, 403, 404, 405, 406, 407, 408, 409, 410, 411, 412, 413, 414, 415, 416, 417] (by decide +kernel) (by decide +kernel)
set_option maxRecDepth 20000 in
theorem gL_refused_L_seen : GoodIn wsL_refused (va_wsS RL 30 yL_seen wsL_seen) := goodIn_app (goodIn_of _ (by decide +kernel)) ggL_refused_L_seen
set_option maxRecDepth 20000 in
theorem ggL_refused_X5_count : GoodIn wsL_refused wsX5_count := goodIn_r _ [16, 17, 18, 19, 20, 21, 22, 23, 24, 25, 26, 27, 28, 29, 30, 31, 32, 33, 34, 35, 36, 37, 38, 39, 40, 41, 42, 43, 44, 45, 46, 47, 48, 49, 50, 51, 52, 53, 54, 55, 56, 57, 58, 59, 60, 61, 62, 63, 64, 65, 66, 67, 68, 69, 70, 71, 72, 73, 74, 75, 76, 77, 78, 79, 80, 81, 82, 83, 84, 85, 86, 87, 88, 89, 90, 91, 92, 93, 94, 95, 96, 97, 98, 99, 100, 101, 102, 103, 104, 105, 106, 107, 108, 109, 110, 111, 112, 113, 114, 115, 116, 117, 394, 395, 396, 397, 398, 399, 400, 401, 402, 403, 404, 405, 406, 407, 408, 409, 410, 411, 412, 413, 414, 415, 416, 417] (by decide +kernel) (by decide +kernel)
set_option maxRecDepth 20000 in
theorem gL_refused_X5_count : GoodIn wsL_refused (wsV RL 13 RX5 yX5_count wsX5_count) := goodIn_app (goodIn_of _ (by decide +kernel)) ggL_refused_X5_count
set_option maxRecDepth 20000 in
theorem ggL_refused_X5_set : GoodIn wsL_refused wsX5_set := goodIn_r _ [194, 19, 17, 195, 196, 15, 197, 198, 199, 200, 110, 201, 202, 203, 112, 204, 205, 206, 207, 208, 209, 210, 23, 211, 117, 61, 25, 78, 148, 38, 160, 33, 43, 48, 212, 213, 214, 215, 216, 217, 218, 219, 220, 221, 222, 223, 224, 114, 115, 116, 394, 395, 396, 397, 398, 399, 415, 416, 417, 400, 401, 402, 403, 404, 405, 406, 407, 408, 409] (by decide +kernel) (by decide +kernel)
set_option maxRecDepth 20000 in
theorem gL_refused_X5_set : GoodIn wsL_refused (wsV RL 36 RX5 yX5_set wsX5_set) := goodIn_app (goodIn_of _ (by decide +kernel)) ggL_refused_X5_set
set_option maxRecDepth 20000 in
theorem ggL_refused_X5_send : GoodIn wsL_refused wsX5_send := goodIn_r _ [228, 19, 17, 229, 230, 15, 231, 232, 233, 234, 174, 175, 176, 198, 199, 200, 110, 201, 202, 203, 112, 204, 205, 206, 207, 208, 209, 210, 23, 211, 117, 61, 25, 78, 148, 38, 160, 33, 43, 48, 212, 213, 214, 215, 216, 217, 218, 219, 235, 236, 81, 237, 238, 239, 240, 241, 242, 243, 244, 245, 70, 71, 72, 73, 246, 247, 248, 249, 74, 75, 76, 77, 250, 251, 252, 253, 254, 255, 256, 224, 114, 115, 116, 257, 258, 259, 260, 261, 262, 263, 83, 84, 85, 86, 87, 88, 264, 265, 266, 267, 268, 79, 80, 82, 269, 93, 94, 270, 96, 97, 271, 272, 273, 274, 275, 276, 277, 278, 279, 280, 281, 282, 283, 284, 137, 64, 138, 139, 127, 128, 129, 140, 141, 142, 143, 285, 134, 135, 136, 183, 184, 185, 186, 286, 287, 288, 289, 290, 291, 292, 293, 294, 295, 296, 297, 298, 299, 300, 92, 95, 301, 302, 303, 304, 305, 306, 307, 308, 89, 90, 91, 309, 310, 311, 20, 21, 22, 24, 26, 27, 28, 394, 395, 396, 397, 398, 399, 415, 416, 417, 400, 401, 402, 403, 404, 405, 406, 407, 408, 409] (by decide +kernel) (by decide +kernel)
set_option maxRecDepth 20000 in
theorem gL_refused_X5_send : GoodIn wsL_refused (wsV RL 39 RX5 yX5_send wsX5_send) := goodIn_app (goodIn_of _ (by decide +kernel)) ggL_refused_X5_send
set_option maxRecDepth 20000 in
theorem ggL_refused_X5_empty : GoodIn wsL_refused wsX5_empty := goodIn_r _ [315, 19, 17, 122, 123, 15, 124, 198, 199, 200, 110, 201, 202, 203, 112, 204, 205, 206, 207, 208, 209, 210, 23, 211, 117, 61, 25, 78, 148, 38, 160, 33, 43, 48, 212, 213, 214, 215, 216, 217, 218, 219, 316, 317, 318, 319, 320, 321, 64, 322, 286, 287, 288, 289, 284, 137, 138, 139, 127, 128, 129, 140, 141, 142, 143, 285, 134, 135, 136, 70, 71, 72, 73, 74, 75, 76, 77, 79, 80, 81, 82, 83, 84, 85, 86, 87, 88, 290, 291, 292, 293, 276, 277, 278, 279, 250, 251, 252, 253, 254, 255, 256, 264, 294, 295, 296, 297, 298, 299, 300, 92, 93, 94, 95, 96, 97, 301, 236, 237, 246, 247, 248, 249, 274, 302, 303, 304, 305, 306, 307, 308, 89, 90, 91, 309, 310, 311, 242, 243, 244, 245, 224, 114, 115, 116, 257, 258, 259, 260, 261, 262, 263, 265, 266, 267, 268, 269, 270, 271, 272, 273, 275, 280, 281, 282, 283, 183, 184, 185, 186, 20, 21, 22, 24, 26, 27, 28, 394, 395, 396, 397, 398, 399, 415, 416, 417, 400, 401, 402, 403, 404, 405, 406, 407, 408, 409] (by decide +kernel) (by decide +kernel)
set_option maxRecDepth 20000 in
theorem gL_refused_X5_empty : GoodIn wsL_refused (wsV RL 43 RX5 yX5_empty wsX5_empty) := goodIn_app (goodIn_of _ (by decide +kernel)) ggL_refused_X5_empty
set_option maxRecDepth 20000 in
theorem ggL_refused_X5_read : GoodIn wsL_refused wsX5_read := goodIn_r _ [326, 19, 17, 174, 175, 15, 176, 198, 199, 200, 110, 201, 202, 203, 112, 204, 205, 206, 207, 208, 209, 210, 23, 211, 117, 61, 25, 78, 148, 38, 160, 33, 43, 48, 212, 213, 214, 215, 216, 217, 218, 219, 327, 328, 329, 330, 178, 54, 55, 56, 57, 58, 59, 60, 62, 63, 64, 65, 66, 67, 68, 69, 70, 71, 72, 73, 74, 75, 76, 77, 79, 80, 81, 82, 83, 84, 85, 86, 87, 88, 89, 90, 91, 92, 93, 94, 95, 96, 97, 98, 99, 100, 394, 395, 396, 397, 398, 399, 415, 416, 417, 400, 401, 402, 403, 404, 405, 406, 407, 408, 409] (by decide +kernel) (by decide +kernel)
set_option maxRecDepth 20000 in
theorem gL_refused_X5_read : GoodIn wsL_refused (wsV RL 46 RX5 yX5_read wsX5_read) := goodIn_app (goodIn_of _ (by decide +kernel)) ggL_refused_X5_read
set_option maxRecDepth 20000 in
theorem ggL_refused_X5_stone : GoodIn wsL_refused wsX5_stone := goodIn_r _ [164, 17, 122, 123, 15, 124, 125, 71, 72, 23, 73, 25, 165, 75, 76, 77, 78, 166, 93, 81, 94, 167, 84, 85, 168, 87, 88, 169, 96, 97, 394, 395, 396, 397, 398, 399, 400, 401, 402, 403, 404, 405, 406, 407, 408, 409] (by decide +kernel) (by decide +kernel)
set_option maxRecDepth 20000 in
theorem gL_refused_X5_stone : GoodIn wsL_refused (wsV RL 23 RX5 yX5_stone wsX5_stone) := goodIn_app (goodIn_of _ (by decide +kernel)) ggL_refused_X5_stone
set_option maxRecDepth 20000 in
theorem ggL_refused_X5_ofNode : GoodIn wsL_refused wsX5_ofNode := goodIn_r _ [121, 17, 122, 123, 15, 124, 125, 71, 72, 23, 73, 25, 126, 127, 64, 128, 129, 130, 131, 132, 133, 134, 135, 136, 137, 138, 139, 140, 141, 142, 143, 144, 145, 146, 147, 148, 149, 150, 151, 152, 153, 154, 155, 38, 156, 157, 158, 159, 160, 394, 395, 396, 397, 398, 399, 400, 401, 402, 403, 404, 405, 406, 407, 408, 409] (by decide +kernel) (by decide +kernel)
set_option maxRecDepth 20000 in
theorem gL_refused_X5_ofNode : GoodIn wsL_refused (wsV RL 19 RX5 yX5_ofNode wsX5_ofNode) := goodIn_app (goodIn_of _ (by decide +kernel)) ggL_refused_X5_ofNode
set_option maxRecDepth 20000 in
theorem ggL_refused_X5_ofKey : GoodIn wsL_refused wsX5_ofKey := goodIn_r _ [173, 17, 174, 175, 15, 176, 177, 58, 59, 23, 60, 61, 178, 54, 55, 56, 57, 62, 63, 64, 65, 66, 67, 68, 69, 70, 71, 72, 73, 25, 74, 75, 76, 77, 78, 79, 80, 81, 82, 83, 84, 85, 86, 87, 88, 89, 90, 91, 92, 93, 94, 95, 96, 97, 98, 99, 100, 179, 180, 181, 182, 183, 184, 185, 186, 187, 188, 189, 190, 394, 395, 396, 397, 398, 399, 400, 401, 402, 403, 404, 405, 406, 407, 408, 409] (by decide +kernel) (by decide +kernel)
set_option maxRecDepth 20000 in
theorem gL_refused_X5_ofKey : GoodIn wsL_refused (wsV RL 27 RX5 yX5_ofKey wsX5_ofKey) := goodIn_app (goodIn_of _ (by decide +kernel)) ggL_refused_X5_ofKey
set_option maxRecDepth 20000 in
theorem ggL_refused_X5_sum : GoodIn wsL_refused wsX5_sum := goodIn_r _ [334, 17, 232, 233, 15, 234, 174, 175, 176, 335, 336, 337, 23, 338, 53, 54, 55, 56, 57, 58, 59, 60, 61, 62, 63, 64, 65, 66, 67, 68, 69, 70, 71, 72, 73, 25, 74, 75, 76, 77, 78, 79, 80, 81, 82, 83, 84, 85, 86, 87, 88, 89, 90, 91, 92, 93, 94, 95, 96, 97, 98, 99, 100, 394, 395, 396, 397, 398, 399, 400, 401, 402, 403, 404, 405, 406, 407, 408, 409] (by decide +kernel) (by decide +kernel)
set_option maxRecDepth 20000 in
theorem gL_refused_X5_sum : GoodIn wsL_refused (wsV RL 49 RX5 yX5_sum wsX5_sum) := goodIn_app (goodIn_of _ (by decide +kernel)) ggL_refused_X5_sum
set_option maxRecDepth 20000 in
theorem ggL_refused_X5_heaviest : GoodIn wsL_refused wsX5_heaviest := goodIn_r _ [342, 17, 122, 123, 15, 124, 343, 281, 282, 23, 283, 284, 137, 64, 138, 139, 127, 128, 129, 140, 141, 142, 143, 285, 134, 135, 136, 183, 184, 185, 186, 70, 71, 72, 73, 25, 74, 75, 76, 77, 78, 79, 80, 81, 82, 83, 84, 85, 86, 87, 88, 344, 303, 304, 345, 346, 310, 311, 394, 395, 396, 397, 398, 399, 400, 401, 402, 403, 404, 405, 406, 407, 408, 409] (by decide +kernel) (by decide +kernel)
set_option maxRecDepth 20000 in
theorem gL_refused_X5_heaviest : GoodIn wsL_refused (wsV RL 52 RX5 yX5_heaviest wsX5_heaviest) := goodIn_app (goodIn_of _ (by decide +kernel)) ggL_refused_X5_heaviest
set_option maxRecDepth 20000 in
theorem ggL_refused_X5_wouldSink : GoodIn wsL_refused wsX5_wouldSink := goodIn_r _ [350, 174, 175, 15, 176, 351, 352, 353, 354, 355, 17, 356, 209, 210, 23, 211, 117, 61, 25, 78, 148, 38, 160, 33, 43, 48, 212, 213, 214, 215, 205, 206, 207, 216, 217, 218, 219, 235, 236, 81, 237, 238, 239, 240, 241, 242, 243, 244, 245, 70, 71, 72, 73, 246, 247, 248, 249, 74, 75, 76, 77, 250, 251, 252, 253, 254, 255, 256, 224, 114, 115, 116, 257, 258, 259, 260, 261, 262, 263, 83, 84, 85, 86, 87, 88, 264, 265, 266, 267, 268, 79, 80, 82, 269, 93, 94, 270, 96, 97, 271, 272, 273, 274, 275, 276, 277, 278, 279, 280, 281, 282, 283, 284, 137, 64, 138, 139, 127, 128, 129, 140, 141, 142, 143, 285, 134, 135, 136, 183, 184, 185, 186, 286, 287, 288, 289, 290, 291, 292, 293, 294, 295, 296, 297, 298, 299, 300, 92, 95, 301, 302, 303, 304, 305, 306, 307, 308, 89, 90, 91, 309, 310, 311, 34, 35, 36, 37, 26, 27, 28, 394, 395, 396, 397, 398, 399, 400, 401, 402, 403, 404, 405, 406, 407, 408, 409] (by decide +kernel) (by decide +kernel)
set_option maxRecDepth 20000 in
theorem gL_refused_X5_wouldSink : GoodIn wsL_refused (wsV RL 55 RX5 yX5_wouldSink wsX5_wouldSink) := goodIn_app (goodIn_of _ (by decide +kernel)) ggL_refused_X5_wouldSink
set_option maxRecDepth 20000 in
theorem ggL_refused_X5_worstKey : GoodIn wsL_refused wsX5_worstKey := goodIn_r _ [360, 351, 352, 353, 15, 354, 355, 17, 356, 209, 210, 23, 211, 117, 61, 25, 78, 148, 38, 160, 33, 43, 48, 212, 213, 214, 215, 205, 206, 207, 216, 217, 218, 219, 235, 236, 81, 237, 238, 239, 240, 241, 242, 243, 244, 245, 70, 71, 72, 73, 246, 247, 248, 249, 74, 75, 76, 77, 250, 251, 252, 253, 254, 255, 256, 224, 114, 115, 116, 257, 258, 259, 260, 261, 262, 263, 83, 84, 85, 86, 87, 88, 264, 265, 266, 267, 268, 79, 80, 82, 269, 93, 94, 270, 96, 97, 271, 272, 273, 274, 275, 276, 277, 278, 279, 280, 281, 282, 283, 284, 137, 64, 138, 139, 127, 128, 129, 140, 141, 142, 143, 285, 134, 135, 136, 183, 184, 185, 186, 286, 287, 288, 289, 290, 291, 292, 293, 294, 295, 296, 297, 298, 299, 300, 92, 95, 301, 302, 303, 304, 305, 306, 307, 308, 89, 90, 91, 309, 310, 311, 34, 35, 36, 37, 26, 27, 28, 394, 395, 396, 397, 398, 399, 400, 401, 402, 403, 404, 405, 406, 407, 408, 409] (by decide +kernel) (by decide +kernel)
set_option maxRecDepth 20000 in
theorem gL_refused_X5_worstKey : GoodIn wsL_refused (wsV RL 58 RX5 yX5_worstKey wsX5_worstKey) := goodIn_app (goodIn_of _ (by decide +kernel)) ggL_refused_X5_worstKey
set_option maxRecDepth 20000 in
theorem ggL_refused_X5_same : GoodIn wsL_refused wsX5_same := goodIn_r _ [364, 17, 174, 175, 15, 176, 178, 54, 55, 23, 56, 57, 58, 59, 60, 61, 62, 63, 64, 65, 66, 67, 68, 69, 70, 71, 72, 73, 25, 74, 75, 76, 77, 78, 79, 80, 81, 82, 83, 84, 85, 86, 87, 88, 89, 90, 91, 92, 93, 94, 95, 96, 97, 98, 99, 100, 394, 395, 396, 397, 398, 399, 400, 401, 402, 403, 404, 405, 406, 407, 408, 409] (by decide +kernel) (by decide +kernel)
set_option maxRecDepth 20000 in
theorem gL_refused_X5_same : GoodIn wsL_refused (wsV RL 61 RX5 yX5_same wsX5_same) := goodIn_app (goodIn_of _ (by decide +kernel)) ggL_refused_X5_same
set_option maxRecDepth 20000 in
theorem ggL_refused_X5_save : GoodIn wsL_refused wsX5_save := goodIn_r _ [368, 369, 17, 370, 371, 372, 373, 15, 374, 356, 209, 210, 23, 211, 117, 61, 25, 78, 148, 38, 160, 33, 43, 48, 212, 213, 214, 215, 205, 206, 207, 216, 217, 218, 219, 20, 21, 22, 24, 26, 27, 28, 394, 395, 396, 397, 398, 399, 400, 401, 402, 403, 404, 405, 406, 407, 408, 409] (by decide +kernel) (by decide +kernel)
set_option maxRecDepth 20000 in
theorem gL_refused_X5_save : GoodIn wsL_refused (wsV RL 64 RX5 yX5_save wsX5_save) := goodIn_app (goodIn_of _ (by decide +kernel)) ggL_refused_X5_save
set_option maxRecDepth 20000 in
theorem ggL_refused_X5_restore : GoodIn wsL_refused wsX5_restore := goodIn_r _ [378, 370, 19, 17, 369, 371, 372, 373, 15, 374, 198, 199, 200, 110, 201, 202, 203, 112, 204, 205, 206, 207, 208, 209, 210, 23, 211, 117, 61, 25, 78, 148, 38, 160, 33, 43, 48, 212, 213, 214, 215, 216, 217, 218, 219, 356, 20, 21, 22, 24, 26, 27, 28, 394, 395, 396, 397, 398, 399, 415, 416, 417, 400, 401, 402, 403, 404, 405, 406, 407, 408, 409] (by decide +kernel) (by decide +kernel)
set_option maxRecDepth 20000 in
theorem gL_refused_X5_restore : GoodIn wsL_refused (wsV RL 67 RX5 yX5_restore wsX5_restore) := goodIn_app (goodIn_of _ (by decide +kernel)) ggL_refused_X5_restore
set_option maxRecDepth 20000 in
theorem ggL_refused_X5_put : GoodIn wsL_refused wsX5_put := goodIn_r _ [382, 18, 383, 384, 104, 385, 386, 387, 388, 101, 102, 103, 105, 106, 389, 390, 391, 392, 393, 394, 395, 396, 397, 398, 399, 410, 411, 412, 413, 414] (by decide +kernel) (by decide +kernel)
set_option maxRecDepth 20000 in
theorem gL_refused_X5_put : GoodIn wsL_refused (wsV RL 70 RX5 yX5_put wsX5_put) := goodIn_app (goodIn_of _ (by decide +kernel)) ggL_refused_X5_put
theorem dL_refused_0 : decode cL_refused 0 = .ok (.aload_n 0, 1) := by decide +kernel
theorem dL_refused_1 : decode cL_refused 1 = .ok (.invokestatic 30, 3) := by decide +kernel
theorem dL_refused_4 : decode cL_refused 4 = .ok (.lstore_n 1, 1) := by decide +kernel
theorem dL_refused_5 : decode cL_refused 5 = .ok (.aload_n 0, 1) := by decide +kernel
theorem dL_refused_6 : decode cL_refused 6 = .ok (.bipush 7, 2) := by decide +kernel
theorem dL_refused_8 : decode cL_refused 8 = .ok (.invokevirtual 13, 3) := by decide +kernel
theorem dL_refused_11 : decode cL_refused 11 = .ok (.istore_n 3, 1) := by decide +kernel
theorem dL_refused_12 : decode cL_refused 12 = .ok (.aload_n 0, 1) := by decide +kernel
theorem dL_refused_13 : decode cL_refused 13 = .ok (.bipush 6, 2) := by decide +kernel
theorem dL_refused_15 : decode cL_refused 15 = .ok (.invokevirtual 13, 3) := by decide +kernel
theorem dL_refused_18 : decode cL_refused 18 = .ok (.istore 4, 2) := by decide +kernel
theorem dL_refused_20 : decode cL_refused 20 = .ok (.iconst 0, 1) := by decide +kernel
theorem dL_refused_21 : decode cL_refused 21 = .ok (.istore 5, 2) := by decide +kernel
theorem dL_refused_23 : decode cL_refused 23 = .ok (.iload 5, 2) := by decide +kernel
theorem dL_refused_25 : decode cL_refused 25 = .ok (.iconst 2, 1) := by decide +kernel
theorem dL_refused_26 : decode cL_refused 26 = .ok (.if_icmp .ge 529, 3) := by decide +kernel
theorem dL_refused_29 : decode cL_refused 29 = .ok (.iload 5, 2) := by decide +kernel
theorem dL_refused_31 : decode cL_refused 31 = .ok (.ifCond .ne 8, 3) := by decide +kernel
theorem dL_refused_34 : decode cL_refused 34 = .ok (.bipush 27, 2) := by decide +kernel
theorem dL_refused_36 : decode cL_refused 36 = .ok (.goto 4, 3) := by decide +kernel
theorem dL_refused_39 : decode cL_refused 39 = .ok (.iconst (-1), 1) := by decide +kernel
theorem dL_refused_40 : decode cL_refused 40 = .ok (.istore 6, 2) := by decide +kernel
theorem dL_refused_42 : decode cL_refused 42 = .ok (.iload 5, 2) := by decide +kernel
theorem dL_refused_44 : decode cL_refused 44 = .ok (.ifCond .ne 8, 3) := by decide +kernel
theorem dL_refused_47 : decode cL_refused 47 = .ok (.bipush 13, 2) := by decide +kernel
theorem dL_refused_49 : decode cL_refused 49 = .ok (.goto 4, 3) := by decide +kernel
theorem dL_refused_52 : decode cL_refused 52 = .ok (.iconst (-1), 1) := by decide +kernel
theorem dL_refused_53 : decode cL_refused 53 = .ok (.istore 7, 2) := by decide +kernel
theorem dL_refused_55 : decode cL_refused 55 = .ok (.iload 5, 2) := by decide +kernel
theorem dL_refused_57 : decode cL_refused 57 = .ok (.ifCond .ne 7, 3) := by decide +kernel
theorem dL_refused_60 : decode cL_refused 60 = .ok (.iconst 2, 1) := by decide +kernel
theorem dL_refused_61 : decode cL_refused 61 = .ok (.goto 4, 3) := by decide +kernel
theorem dL_refused_64 : decode cL_refused 64 = .ok (.iconst (-1), 1) := by decide +kernel
theorem dL_refused_65 : decode cL_refused 65 = .ok (.istore 8, 2) := by decide +kernel
theorem dL_refused_67 : decode cL_refused 67 = .ok (.aload_n 0, 1) := by decide +kernel
theorem dL_refused_68 : decode cL_refused 68 = .ok (.iload 8, 2) := by decide +kernel
theorem dL_refused_70 : decode cL_refused 70 = .ok (.iconst 1, 1) := by decide +kernel
theorem dL_refused_71 : decode cL_refused 71 = .ok (.invokevirtual 36, 3) := by decide +kernel
theorem dL_refused_74 : decode cL_refused 74 = .ok (.bipush (-2), 2) := by decide +kernel
theorem dL_refused_76 : decode cL_refused 76 = .ok (.if_icmp .ne 99, 3) := by decide +kernel
theorem dL_refused_79 : decode cL_refused 79 = .ok (.aload_n 0, 1) := by decide +kernel
theorem dL_refused_80 : decode cL_refused 80 = .ok (.iconst 0, 1) := by decide +kernel
theorem dL_refused_81 : decode cL_refused 81 = .ok (.iload 5, 2) := by decide +kernel
theorem dL_refused_83 : decode cL_refused 83 = .ok (.ifCond .ne 8, 3) := by decide +kernel
theorem dL_refused_86 : decode cL_refused 86 = .ok (.bipush 11, 2) := by decide +kernel
theorem dL_refused_88 : decode cL_refused 88 = .ok (.goto 4, 3) := by decide +kernel
theorem dL_refused_91 : decode cL_refused 91 = .ok (.iconst 0, 1) := by decide +kernel
theorem dL_refused_92 : decode cL_refused 92 = .ok (.invokevirtual 36, 3) := by decide +kernel
theorem dL_refused_95 : decode cL_refused 95 = .ok (.bipush (-2), 2) := by decide +kernel
theorem dL_refused_97 : decode cL_refused 97 = .ok (.if_icmp .ne 78, 3) := by decide +kernel
theorem dL_refused_100 : decode cL_refused 100 = .ok (.aload_n 0, 1) := by decide +kernel
theorem dL_refused_101 : decode cL_refused 101 = .ok (.iconst 1, 1) := by decide +kernel
theorem dL_refused_102 : decode cL_refused 102 = .ok (.iload 8, 2) := by decide +kernel
theorem dL_refused_104 : decode cL_refused 104 = .ok (.invokevirtual 36, 3) := by decide +kernel
theorem dL_refused_107 : decode cL_refused 107 = .ok (.bipush (-2), 2) := by decide +kernel
theorem dL_refused_109 : decode cL_refused 109 = .ok (.if_icmp .ne 66, 3) := by decide +kernel
theorem dL_refused_112 : decode cL_refused 112 = .ok (.aload_n 0, 1) := by decide +kernel
theorem dL_refused_113 : decode cL_refused 113 = .ok (.iload 5, 2) := by decide +kernel
theorem dL_refused_115 : decode cL_refused 115 = .ok (.ifCond .ne 7, 3) := by decide +kernel
theorem dL_refused_118 : decode cL_refused 118 = .ok (.iconst 3, 1) := by decide +kernel
theorem dL_refused_119 : decode cL_refused 119 = .ok (.goto 4, 3) := by decide +kernel
theorem dL_refused_122 : decode cL_refused 122 = .ok (.iconst (-1), 1) := by decide +kernel
theorem dL_refused_123 : decode cL_refused 123 = .ok (.iload 6, 2) := by decide +kernel
theorem dL_refused_125 : decode cL_refused 125 = .ok (.iconst 0, 1) := by decide +kernel
theorem dL_refused_126 : decode cL_refused 126 = .ok (.iconst 0, 1) := by decide +kernel
theorem dL_refused_127 : decode cL_refused 127 = .ok (.invokevirtual 39, 3) := by decide +kernel
theorem dL_refused_130 : decode cL_refused 130 = .ok (.bipush (-2), 2) := by decide +kernel
theorem dL_refused_132 : decode cL_refused 132 = .ok (.if_icmp .ne 43, 3) := by decide +kernel
theorem dL_refused_135 : decode cL_refused 135 = .ok (.aload_n 0, 1) := by decide +kernel
theorem dL_refused_136 : decode cL_refused 136 = .ok (.iconst 1, 1) := by decide +kernel
theorem dL_refused_137 : decode cL_refused 137 = .ok (.iload 6, 2) := by decide +kernel
theorem dL_refused_139 : decode cL_refused 139 = .ok (.iload 6, 2) := by decide +kernel
theorem dL_refused_141 : decode cL_refused 141 = .ok (.iload 5, 2) := by decide +kernel
theorem dL_refused_143 : decode cL_refused 143 = .ok (.ifCond .ne 9, 3) := by decide +kernel
theorem dL_refused_146 : decode cL_refused 146 = .ok (.sipush 1000, 3) := by decide +kernel
theorem dL_refused_149 : decode cL_refused 149 = .ok (.goto 4, 3) := by decide +kernel
theorem dL_refused_152 : decode cL_refused 152 = .ok (.iconst (-1), 1) := by decide +kernel
theorem dL_refused_153 : decode cL_refused 153 = .ok (.invokevirtual 39, 3) := by decide +kernel
theorem dL_refused_156 : decode cL_refused 156 = .ok (.bipush (-2), 2) := by decide +kernel
theorem dL_refused_158 : decode cL_refused 158 = .ok (.if_icmp .ne 17, 3) := by decide +kernel
theorem dL_refused_161 : decode cL_refused 161 = .ok (.aload_n 0, 1) := by decide +kernel
theorem dL_refused_162 : decode cL_refused 162 = .ok (.iconst 2, 1) := by decide +kernel
theorem dL_refused_163 : decode cL_refused 163 = .ok (.iload 6, 2) := by decide +kernel
theorem dL_refused_165 : decode cL_refused 165 = .ok (.iconst 0, 1) := by decide +kernel
theorem dL_refused_166 : decode cL_refused 166 = .ok (.iconst 1, 1) := by decide +kernel
theorem dL_refused_167 : decode cL_refused 167 = .ok (.invokevirtual 39, 3) := by decide +kernel
theorem dL_refused_170 : decode cL_refused 170 = .ok (.bipush (-2), 2) := by decide +kernel
theorem dL_refused_172 : decode cL_refused 172 = .ok (.if_icmp .eq 5, 3) := by decide +kernel
theorem dL_refused_175 : decode cL_refused 175 = .ok (.iconst 0, 1) := by decide +kernel
theorem dL_refused_176 : decode cL_refused 176 = .ok (.ireturn, 1) := by decide +kernel
theorem dL_refused_177 : decode cL_refused 177 = .ok (.aload_n 0, 1) := by decide +kernel
theorem dL_refused_178 : decode cL_refused 178 = .ok (.iconst 0, 1) := by decide +kernel
theorem dL_refused_179 : decode cL_refused 179 = .ok (.iload 6, 2) := by decide +kernel
theorem dL_refused_181 : decode cL_refused 181 = .ok (.iload 6, 2) := by decide +kernel
theorem dL_refused_183 : decode cL_refused 183 = .ok (.iconst 1, 1) := by decide +kernel
theorem dL_refused_184 : decode cL_refused 184 = .ok (.invokevirtual 39, 3) := by decide +kernel
theorem dL_refused_187 : decode cL_refused 187 = .ok (.iconst (-1), 1) := by decide +kernel
theorem dL_refused_188 : decode cL_refused 188 = .ok (.if_icmp .ne 63, 3) := by decide +kernel
theorem dL_refused_191 : decode cL_refused 191 = .ok (.aload_n 0, 1) := by decide +kernel
theorem dL_refused_192 : decode cL_refused 192 = .ok (.iconst 1, 1) := by decide +kernel
theorem dL_refused_193 : decode cL_refused 193 = .ok (.iconst 0, 1) := by decide +kernel
theorem dL_refused_194 : decode cL_refused 194 = .ok (.iload 6, 2) := by decide +kernel
theorem dL_refused_196 : decode cL_refused 196 = .ok (.iconst 1, 1) := by decide +kernel
theorem dL_refused_197 : decode cL_refused 197 = .ok (.invokevirtual 39, 3) := by decide +kernel
theorem dL_refused_200 : decode cL_refused 200 = .ok (.iconst (-1), 1) := by decide +kernel
theorem dL_refused_201 : decode cL_refused 201 = .ok (.if_icmp .ne 50, 3) := by decide +kernel
theorem dL_refused_204 : decode cL_refused 204 = .ok (.aload_n 0, 1) := by decide +kernel
theorem dL_refused_205 : decode cL_refused 205 = .ok (.iconst 1, 1) := by decide +kernel
theorem dL_refused_206 : decode cL_refused 206 = .ok (.iload 6, 2) := by decide +kernel
theorem dL_refused_208 : decode cL_refused 208 = .ok (.bipush 26, 2) := by decide +kernel
theorem dL_refused_210 : decode cL_refused 210 = .ok (.iconst 1, 1) := by decide +kernel
theorem dL_refused_211 : decode cL_refused 211 = .ok (.invokevirtual 39, 3) := by decide +kernel
theorem dL_refused_214 : decode cL_refused 214 = .ok (.iconst (-1), 1) := by decide +kernel
theorem dL_refused_215 : decode cL_refused 215 = .ok (.if_icmp .ne 36, 3) := by decide +kernel
theorem dL_refused_218 : decode cL_refused 218 = .ok (.aload_n 0, 1) := by decide +kernel
theorem dL_refused_219 : decode cL_refused 219 = .ok (.iload 5, 2) := by decide +kernel
theorem dL_refused_221 : decode cL_refused 221 = .ok (.ifCond .ne 7, 3) := by decide +kernel
theorem dL_refused_224 : decode cL_refused 224 = .ok (.iconst 0, 1) := by decide +kernel
theorem dL_refused_225 : decode cL_refused 225 = .ok (.goto 4, 3) := by decide +kernel
theorem dL_refused_228 : decode cL_refused 228 = .ok (.iconst 2, 1) := by decide +kernel
theorem dL_refused_229 : decode cL_refused 229 = .ok (.iconst 3, 1) := by decide +kernel
theorem dL_refused_230 : decode cL_refused 230 = .ok (.iconst 4, 1) := by decide +kernel
theorem dL_refused_231 : decode cL_refused 231 = .ok (.iconst 0, 1) := by decide +kernel
theorem dL_refused_232 : decode cL_refused 232 = .ok (.invokevirtual 39, 3) := by decide +kernel
theorem dL_refused_235 : decode cL_refused 235 = .ok (.iconst (-1), 1) := by decide +kernel
theorem dL_refused_236 : decode cL_refused 236 = .ok (.if_icmp .ne 15, 3) := by decide +kernel
theorem dL_refused_239 : decode cL_refused 239 = .ok (.aload_n 0, 1) := by decide +kernel
theorem dL_refused_240 : decode cL_refused 240 = .ok (.iconst 1, 1) := by decide +kernel
theorem dL_refused_241 : decode cL_refused 241 = .ok (.iconst 5, 1) := by decide +kernel
theorem dL_refused_242 : decode cL_refused 242 = .ok (.iconst 4, 1) := by decide +kernel
theorem dL_refused_243 : decode cL_refused 243 = .ok (.iconst 1, 1) := by decide +kernel
theorem dL_refused_244 : decode cL_refused 244 = .ok (.invokevirtual 39, 3) := by decide +kernel
theorem dL_refused_247 : decode cL_refused 247 = .ok (.iconst (-1), 1) := by decide +kernel
theorem dL_refused_248 : decode cL_refused 248 = .ok (.if_icmp .eq 5, 3) := by decide +kernel
theorem dL_refused_251 : decode cL_refused 251 = .ok (.iconst 0, 1) := by decide +kernel
theorem dL_refused_252 : decode cL_refused 252 = .ok (.ireturn, 1) := by decide +kernel
theorem dL_refused_253 : decode cL_refused 253 = .ok (.aload_n 0, 1) := by decide +kernel
theorem dL_refused_254 : decode cL_refused 254 = .ok (.iload 7, 2) := by decide +kernel
theorem dL_refused_256 : decode cL_refused 256 = .ok (.invokevirtual 43, 3) := by decide +kernel
theorem dL_refused_259 : decode cL_refused 259 = .ok (.iconst (-1), 1) := by decide +kernel
theorem dL_refused_260 : decode cL_refused 260 = .ok (.if_icmp .ne 137, 3) := by decide +kernel
theorem dL_refused_263 : decode cL_refused 263 = .ok (.aload_n 0, 1) := by decide +kernel
theorem dL_refused_264 : decode cL_refused 264 = .ok (.iload 6, 2) := by decide +kernel
theorem dL_refused_266 : decode cL_refused 266 = .ok (.invokevirtual 46, 3) := by decide +kernel
theorem dL_refused_269 : decode cL_refused 269 = .ok (.iconst (-1), 1) := by decide +kernel
theorem dL_refused_270 : decode cL_refused 270 = .ok (.if_icmp .ne 127, 3) := by decide +kernel
theorem dL_refused_273 : decode cL_refused 273 = .ok (.aload_n 0, 1) := by decide +kernel
theorem dL_refused_274 : decode cL_refused 274 = .ok (.iload 7, 2) := by decide +kernel
theorem dL_refused_276 : decode cL_refused 276 = .ok (.iconst 0, 1) := by decide +kernel
theorem dL_refused_277 : decode cL_refused 277 = .ok (.bipush 9, 2) := by decide +kernel
theorem dL_refused_279 : decode cL_refused 279 = .ok (.invokevirtual 23, 3) := by decide +kernel
theorem dL_refused_282 : decode cL_refused 282 = .ok (.iconst (-1), 1) := by decide +kernel
theorem dL_refused_283 : decode cL_refused 283 = .ok (.if_icmp .ne 114, 3) := by decide +kernel
theorem dL_refused_286 : decode cL_refused 286 = .ok (.aload_n 0, 1) := by decide +kernel
theorem dL_refused_287 : decode cL_refused 287 = .ok (.iconst 0, 1) := by decide +kernel
theorem dL_refused_288 : decode cL_refused 288 = .ok (.iload 5, 2) := by decide +kernel
theorem dL_refused_290 : decode cL_refused 290 = .ok (.ifCond .ne 12, 3) := by decide +kernel
theorem dL_refused_293 : decode cL_refused 293 = .ok (.aload_n 0, 1) := by decide +kernel
theorem dL_refused_294 : decode cL_refused 294 = .ok (.iconst 0, 1) := by decide +kernel
theorem dL_refused_295 : decode cL_refused 295 = .ok (.iconst 0, 1) := by decide +kernel
theorem dL_refused_296 : decode cL_refused 296 = .ok (.invokevirtual 19, 3) := by decide +kernel
theorem dL_refused_299 : decode cL_refused 299 = .ok (.goto 4, 3) := by decide +kernel
theorem dL_refused_302 : decode cL_refused 302 = .ok (.iconst (-1), 1) := by decide +kernel
theorem dL_refused_303 : decode cL_refused 303 = .ok (.bipush 9, 2) := by decide +kernel
theorem dL_refused_305 : decode cL_refused 305 = .ok (.invokevirtual 23, 3) := by decide +kernel
theorem dL_refused_308 : decode cL_refused 308 = .ok (.iconst (-1), 1) := by decide +kernel
theorem dL_refused_309 : decode cL_refused 309 = .ok (.if_icmp .ne 88, 3) := by decide +kernel
theorem dL_refused_312 : decode cL_refused 312 = .ok (.aload_n 0, 1) := by decide +kernel
theorem dL_refused_313 : decode cL_refused 313 = .ok (.iload 7, 2) := by decide +kernel
theorem dL_refused_315 : decode cL_refused 315 = .ok (.bipush 9, 2) := by decide +kernel
theorem dL_refused_317 : decode cL_refused 317 = .ok (.invokevirtual 19, 3) := by decide +kernel
theorem dL_refused_320 : decode cL_refused 320 = .ok (.iconst (-1), 1) := by decide +kernel
theorem dL_refused_321 : decode cL_refused 321 = .ok (.if_icmp .ne 76, 3) := by decide +kernel
theorem dL_refused_324 : decode cL_refused 324 = .ok (.aload_n 0, 1) := by decide +kernel
theorem dL_refused_325 : decode cL_refused 325 = .ok (.iconst 0, 1) := by decide +kernel
theorem dL_refused_326 : decode cL_refused 326 = .ok (.iload 5, 2) := by decide +kernel
theorem dL_refused_328 : decode cL_refused 328 = .ok (.ifCond .ne 8, 3) := by decide +kernel
theorem dL_refused_331 : decode cL_refused 331 = .ok (.bipush 6, 2) := by decide +kernel
theorem dL_refused_333 : decode cL_refused 333 = .ok (.goto 4, 3) := by decide +kernel
theorem dL_refused_336 : decode cL_refused 336 = .ok (.iconst (-1), 1) := by decide +kernel
theorem dL_refused_337 : decode cL_refused 337 = .ok (.invokevirtual 19, 3) := by decide +kernel
theorem dL_refused_340 : decode cL_refused 340 = .ok (.bipush (-2), 2) := by decide +kernel
theorem dL_refused_342 : decode cL_refused 342 = .ok (.if_icmp .ne 55, 3) := by decide +kernel
theorem dL_refused_345 : decode cL_refused 345 = .ok (.aload_n 0, 1) := by decide +kernel
theorem dL_refused_346 : decode cL_refused 346 = .ok (.iload 6, 2) := by decide +kernel
theorem dL_refused_348 : decode cL_refused 348 = .ok (.bipush 9, 2) := by decide +kernel
theorem dL_refused_350 : decode cL_refused 350 = .ok (.invokevirtual 27, 3) := by decide +kernel
theorem dL_refused_353 : decode cL_refused 353 = .ok (.iconst (-1), 1) := by decide +kernel
theorem dL_refused_354 : decode cL_refused 354 = .ok (.if_icmp .ne 43, 3) := by decide +kernel
theorem dL_refused_357 : decode cL_refused 357 = .ok (.aload_n 0, 1) := by decide +kernel
theorem dL_refused_358 : decode cL_refused 358 = .ok (.iconst 0, 1) := by decide +kernel
theorem dL_refused_359 : decode cL_refused 359 = .ok (.iload 5, 2) := by decide +kernel
theorem dL_refused_361 : decode cL_refused 361 = .ok (.ifCond .ne 7, 3) := by decide +kernel
theorem dL_refused_364 : decode cL_refused 364 = .ok (.iconst 4, 1) := by decide +kernel
theorem dL_refused_365 : decode cL_refused 365 = .ok (.goto 4, 3) := by decide +kernel
theorem dL_refused_368 : decode cL_refused 368 = .ok (.iconst (-1), 1) := by decide +kernel
theorem dL_refused_369 : decode cL_refused 369 = .ok (.invokevirtual 27, 3) := by decide +kernel
theorem dL_refused_372 : decode cL_refused 372 = .ok (.bipush (-2), 2) := by decide +kernel
theorem dL_refused_374 : decode cL_refused 374 = .ok (.if_icmp .ne 23, 3) := by decide +kernel
theorem dL_refused_377 : decode cL_refused 377 = .ok (.aload_n 0, 1) := by decide +kernel
theorem dL_refused_378 : decode cL_refused 378 = .ok (.iload 5, 2) := by decide +kernel
theorem dL_refused_380 : decode cL_refused 380 = .ok (.ifCond .ne 8, 3) := by decide +kernel
theorem dL_refused_383 : decode cL_refused 383 = .ok (.bipush 10, 2) := by decide +kernel
theorem dL_refused_385 : decode cL_refused 385 = .ok (.goto 4, 3) := by decide +kernel
theorem dL_refused_388 : decode cL_refused 388 = .ok (.iconst (-1), 1) := by decide +kernel
theorem dL_refused_389 : decode cL_refused 389 = .ok (.invokevirtual 13, 3) := by decide +kernel
theorem dL_refused_392 : decode cL_refused 392 = .ok (.bipush (-2), 2) := by decide +kernel
theorem dL_refused_394 : decode cL_refused 394 = .ok (.if_icmp .eq 5, 3) := by decide +kernel
theorem dL_refused_397 : decode cL_refused 397 = .ok (.iconst 0, 1) := by decide +kernel
theorem dL_refused_398 : decode cL_refused 398 = .ok (.ireturn, 1) := by decide +kernel
theorem dL_refused_399 : decode cL_refused 399 = .ok (.aload_n 0, 1) := by decide +kernel
theorem dL_refused_400 : decode cL_refused 400 = .ok (.iload 6, 2) := by decide +kernel
theorem dL_refused_402 : decode cL_refused 402 = .ok (.bipush 26, 2) := by decide +kernel
theorem dL_refused_404 : decode cL_refused 404 = .ok (.invokevirtual 49, 3) := by decide +kernel
theorem dL_refused_407 : decode cL_refused 407 = .ok (.iconst (-1), 1) := by decide +kernel
theorem dL_refused_408 : decode cL_refused 408 = .ok (.if_icmp .ne 107, 3) := by decide +kernel
theorem dL_refused_411 : decode cL_refused 411 = .ok (.aload_n 0, 1) := by decide +kernel
theorem dL_refused_412 : decode cL_refused 412 = .ok (.iconst 0, 1) := by decide +kernel
theorem dL_refused_413 : decode cL_refused 413 = .ok (.iload 6, 2) := by decide +kernel
theorem dL_refused_415 : decode cL_refused 415 = .ok (.invokevirtual 49, 3) := by decide +kernel
theorem dL_refused_418 : decode cL_refused 418 = .ok (.iconst (-1), 1) := by decide +kernel
theorem dL_refused_419 : decode cL_refused 419 = .ok (.if_icmp .ne 96, 3) := by decide +kernel
theorem dL_refused_422 : decode cL_refused 422 = .ok (.aload_n 0, 1) := by decide +kernel
theorem dL_refused_423 : decode cL_refused 423 = .ok (.iconst 5, 1) := by decide +kernel
theorem dL_refused_424 : decode cL_refused 424 = .ok (.iconst 4, 1) := by decide +kernel
theorem dL_refused_425 : decode cL_refused 425 = .ok (.invokevirtual 49, 3) := by decide +kernel
theorem dL_refused_428 : decode cL_refused 428 = .ok (.iconst (-1), 1) := by decide +kernel
theorem dL_refused_429 : decode cL_refused 429 = .ok (.if_icmp .ne 86, 3) := by decide +kernel
theorem dL_refused_432 : decode cL_refused 432 = .ok (.aload_n 0, 1) := by decide +kernel
theorem dL_refused_433 : decode cL_refused 433 = .ok (.iload 7, 2) := by decide +kernel
theorem dL_refused_435 : decode cL_refused 435 = .ok (.invokevirtual 52, 3) := by decide +kernel
theorem dL_refused_438 : decode cL_refused 438 = .ok (.iconst (-1), 1) := by decide +kernel
theorem dL_refused_439 : decode cL_refused 439 = .ok (.if_icmp .ne 76, 3) := by decide +kernel
theorem dL_refused_442 : decode cL_refused 442 = .ok (.aload_n 0, 1) := by decide +kernel
theorem dL_refused_443 : decode cL_refused 443 = .ok (.iload 6, 2) := by decide +kernel
theorem dL_refused_445 : decode cL_refused 445 = .ok (.invokevirtual 55, 3) := by decide +kernel
theorem dL_refused_448 : decode cL_refused 448 = .ok (.iconst (-1), 1) := by decide +kernel
theorem dL_refused_449 : decode cL_refused 449 = .ok (.if_icmp .ne 66, 3) := by decide +kernel
theorem dL_refused_452 : decode cL_refused 452 = .ok (.aload_n 0, 1) := by decide +kernel
theorem dL_refused_453 : decode cL_refused 453 = .ok (.iload 5, 2) := by decide +kernel
theorem dL_refused_455 : decode cL_refused 455 = .ok (.ifCond .ne 7, 3) := by decide +kernel
theorem dL_refused_458 : decode cL_refused 458 = .ok (.iconst 2, 1) := by decide +kernel
theorem dL_refused_459 : decode cL_refused 459 = .ok (.goto 4, 3) := by decide +kernel
theorem dL_refused_462 : decode cL_refused 462 = .ok (.iconst (-1), 1) := by decide +kernel
theorem dL_refused_463 : decode cL_refused 463 = .ok (.invokevirtual 58, 3) := by decide +kernel
theorem dL_refused_466 : decode cL_refused 466 = .ok (.bipush (-2), 2) := by decide +kernel
theorem dL_refused_468 : decode cL_refused 468 = .ok (.if_icmp .ne 47, 3) := by decide +kernel
theorem dL_refused_471 : decode cL_refused 471 = .ok (.aload_n 0, 1) := by decide +kernel
theorem dL_refused_472 : decode cL_refused 472 = .ok (.iload 6, 2) := by decide +kernel
theorem dL_refused_474 : decode cL_refused 474 = .ok (.iconst 0, 1) := by decide +kernel
theorem dL_refused_475 : decode cL_refused 475 = .ok (.invokevirtual 61, 3) := by decide +kernel
theorem dL_refused_478 : decode cL_refused 478 = .ok (.iconst (-1), 1) := by decide +kernel
theorem dL_refused_479 : decode cL_refused 479 = .ok (.if_icmp .ne 36, 3) := by decide +kernel
theorem dL_refused_482 : decode cL_refused 482 = .ok (.aload_n 0, 1) := by decide +kernel
theorem dL_refused_483 : decode cL_refused 483 = .ok (.iconst 0, 1) := by decide +kernel
theorem dL_refused_484 : decode cL_refused 484 = .ok (.iload 6, 2) := by decide +kernel
theorem dL_refused_486 : decode cL_refused 486 = .ok (.invokevirtual 61, 3) := by decide +kernel
theorem dL_refused_489 : decode cL_refused 489 = .ok (.iconst (-1), 1) := by decide +kernel
theorem dL_refused_490 : decode cL_refused 490 = .ok (.if_icmp .ne 25, 3) := by decide +kernel
theorem dL_refused_493 : decode cL_refused 493 = .ok (.aload_n 0, 1) := by decide +kernel
theorem dL_refused_494 : decode cL_refused 494 = .ok (.iload 8, 2) := by decide +kernel
theorem dL_refused_496 : decode cL_refused 496 = .ok (.invokevirtual 64, 3) := by decide +kernel
theorem dL_refused_499 : decode cL_refused 499 = .ok (.bipush (-2), 2) := by decide +kernel
theorem dL_refused_501 : decode cL_refused 501 = .ok (.if_icmp .ne 14, 3) := by decide +kernel
theorem dL_refused_504 : decode cL_refused 504 = .ok (.aload_n 0, 1) := by decide +kernel
theorem dL_refused_505 : decode cL_refused 505 = .ok (.iload 8, 2) := by decide +kernel
theorem dL_refused_507 : decode cL_refused 507 = .ok (.invokevirtual 67, 3) := by decide +kernel
theorem dL_refused_510 : decode cL_refused 510 = .ok (.bipush (-2), 2) := by decide +kernel
theorem dL_refused_512 : decode cL_refused 512 = .ok (.if_icmp .eq 5, 3) := by decide +kernel
theorem dL_refused_515 : decode cL_refused 515 = .ok (.iconst 0, 1) := by decide +kernel
theorem dL_refused_516 : decode cL_refused 516 = .ok (.ireturn, 1) := by decide +kernel
theorem dL_refused_517 : decode cL_refused 517 = .ok (.aload_n 0, 1) := by decide +kernel
theorem dL_refused_518 : decode cL_refused 518 = .ok (.iconst 0, 1) := by decide +kernel
theorem dL_refused_519 : decode cL_refused 519 = .ok (.iconst 0, 1) := by decide +kernel
theorem dL_refused_520 : decode cL_refused 520 = .ok (.invokevirtual 19, 3) := by decide +kernel
theorem dL_refused_523 : decode cL_refused 523 = .ok (.ifCond .le 26, 3) := by decide +kernel
theorem dL_refused_526 : decode cL_refused 526 = .ok (.aload_n 0, 1) := by decide +kernel
theorem dL_refused_527 : decode cL_refused 527 = .ok (.iconst 0, 1) := by decide +kernel
theorem dL_refused_528 : decode cL_refused 528 = .ok (.iconst 0, 1) := by decide +kernel
theorem dL_refused_529 : decode cL_refused 529 = .ok (.iload 5, 2) := by decide +kernel
theorem dL_refused_531 : decode cL_refused 531 = .ok (.ifCond .ne 7, 3) := by decide +kernel
theorem dL_refused_534 : decode cL_refused 534 = .ok (.iconst 4, 1) := by decide +kernel
theorem dL_refused_535 : decode cL_refused 535 = .ok (.goto 4, 3) := by decide +kernel
theorem dL_refused_538 : decode cL_refused 538 = .ok (.iconst (-1), 1) := by decide +kernel
theorem dL_refused_539 : decode cL_refused 539 = .ok (.invokevirtual 23, 3) := by decide +kernel
theorem dL_refused_542 : decode cL_refused 542 = .ok (.bipush (-2), 2) := by decide +kernel
theorem dL_refused_544 : decode cL_refused 544 = .ok (.if_icmp .eq 5, 3) := by decide +kernel
theorem dL_refused_547 : decode cL_refused 547 = .ok (.iconst 0, 1) := by decide +kernel
theorem dL_refused_548 : decode cL_refused 548 = .ok (.ireturn, 1) := by decide +kernel
theorem dL_refused_549 : decode cL_refused 549 = .ok (.iinc 5 1, 3) := by decide +kernel
theorem dL_refused_552 : decode cL_refused 552 = .ok (.goto (-529), 3) := by decide +kernel
theorem dL_refused_555 : decode cL_refused 555 = .ok (.aload_n 0, 1) := by decide +kernel
theorem dL_refused_556 : decode cL_refused 556 = .ok (.lconst 0, 1) := by decide +kernel
theorem dL_refused_557 : decode cL_refused 557 = .ok (.invokevirtual 70, 3) := by decide +kernel
theorem dL_refused_560 : decode cL_refused 560 = .ok (.bipush (-2), 2) := by decide +kernel
theorem dL_refused_562 : decode cL_refused 562 = .ok (.if_icmp .ne 63, 3) := by decide +kernel
theorem dL_refused_565 : decode cL_refused 565 = .ok (.aload_n 0, 1) := by decide +kernel
theorem dL_refused_566 : decode cL_refused 566 = .ok (.ldc2_w 74, 3) := by decide +kernel
theorem dL_refused_569 : decode cL_refused 569 = .ok (.invokevirtual 70, 3) := by decide +kernel
theorem dL_refused_572 : decode cL_refused 572 = .ok (.bipush (-2), 2) := by decide +kernel
theorem dL_refused_574 : decode cL_refused 574 = .ok (.if_icmp .ne 51, 3) := by decide +kernel
theorem dL_refused_577 : decode cL_refused 577 = .ok (.aload_n 0, 1) := by decide +kernel
theorem dL_refused_578 : decode cL_refused 578 = .ok (.ldc2_w 76, 3) := by decide +kernel
theorem dL_refused_581 : decode cL_refused 581 = .ok (.invokevirtual 70, 3) := by decide +kernel
theorem dL_refused_584 : decode cL_refused 584 = .ok (.bipush (-2), 2) := by decide +kernel
theorem dL_refused_586 : decode cL_refused 586 = .ok (.if_icmp .ne 39, 3) := by decide +kernel
theorem dL_refused_589 : decode cL_refused 589 = .ok (.aload_n 0, 1) := by decide +kernel
theorem dL_refused_590 : decode cL_refused 590 = .ok (.ldc2_w 78, 3) := by decide +kernel
theorem dL_refused_593 : decode cL_refused 593 = .ok (.invokevirtual 70, 3) := by decide +kernel
theorem dL_refused_596 : decode cL_refused 596 = .ok (.bipush (-2), 2) := by decide +kernel
theorem dL_refused_598 : decode cL_refused 598 = .ok (.if_icmp .ne 27, 3) := by decide +kernel
theorem dL_refused_601 : decode cL_refused 601 = .ok (.aload_n 0, 1) := by decide +kernel
theorem dL_refused_602 : decode cL_refused 602 = .ok (.ldc2_w 80, 3) := by decide +kernel
theorem dL_refused_605 : decode cL_refused 605 = .ok (.invokevirtual 70, 3) := by decide +kernel
theorem dL_refused_608 : decode cL_refused 608 = .ok (.bipush (-2), 2) := by decide +kernel
theorem dL_refused_610 : decode cL_refused 610 = .ok (.if_icmp .ne 15, 3) := by decide +kernel
theorem dL_refused_613 : decode cL_refused 613 = .ok (.aload_n 0, 1) := by decide +kernel
theorem dL_refused_614 : decode cL_refused 614 = .ok (.ldc2_w 82, 3) := by decide +kernel
theorem dL_refused_617 : decode cL_refused 617 = .ok (.invokevirtual 70, 3) := by decide +kernel
theorem dL_refused_620 : decode cL_refused 620 = .ok (.bipush (-2), 2) := by decide +kernel
theorem dL_refused_622 : decode cL_refused 622 = .ok (.if_icmp .eq 5, 3) := by decide +kernel
theorem dL_refused_625 : decode cL_refused 625 = .ok (.iconst 0, 1) := by decide +kernel
theorem dL_refused_626 : decode cL_refused 626 = .ok (.ireturn, 1) := by decide +kernel
theorem dL_refused_627 : decode cL_refused 627 = .ok (.aload_n 0, 1) := by decide +kernel
theorem dL_refused_628 : decode cL_refused 628 = .ok (.invokestatic 30, 3) := by decide +kernel
theorem dL_refused_631 : decode cL_refused 631 = .ok (.lload_n 1, 1) := by decide +kernel
theorem dL_refused_632 : decode cL_refused 632 = .ok (.lcmp, 1) := by decide +kernel
theorem dL_refused_633 : decode cL_refused 633 = .ok (.ifCond .ne 28, 3) := by decide +kernel
theorem dL_refused_636 : decode cL_refused 636 = .ok (.aload_n 0, 1) := by decide +kernel
theorem dL_refused_637 : decode cL_refused 637 = .ok (.bipush 7, 2) := by decide +kernel
theorem dL_refused_639 : decode cL_refused 639 = .ok (.invokevirtual 13, 3) := by decide +kernel
theorem dL_refused_642 : decode cL_refused 642 = .ok (.iload_n 3, 1) := by decide +kernel
theorem dL_refused_643 : decode cL_refused 643 = .ok (.if_icmp .ne 18, 3) := by decide +kernel
theorem dL_refused_646 : decode cL_refused 646 = .ok (.aload_n 0, 1) := by decide +kernel
theorem dL_refused_647 : decode cL_refused 647 = .ok (.bipush 6, 2) := by decide +kernel
theorem dL_refused_649 : decode cL_refused 649 = .ok (.invokevirtual 13, 3) := by decide +kernel
theorem dL_refused_652 : decode cL_refused 652 = .ok (.iload 4, 2) := by decide +kernel
theorem dL_refused_654 : decode cL_refused 654 = .ok (.if_icmp .ne 7, 3) := by decide +kernel
theorem dL_refused_657 : decode cL_refused 657 = .ok (.iconst 1, 1) := by decide +kernel
theorem dL_refused_658 : decode cL_refused 658 = .ok (.goto 4, 3) := by decide +kernel
theorem dL_refused_661 : decode cL_refused 661 = .ok (.iconst 0, 1) := by decide +kernel
theorem dL_refused_662 : decode cL_refused 662 = .ok (.ireturn, 1) := by decide +kernel
