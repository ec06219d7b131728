set_option maxRecDepth 20000 in
theorem ggL_pieces_X5_init : GoodIn wsL_pieces wsX5_init := goodIn_r _ [6, 7, 8, 9, 10, 11, 12, 13, 14, 15, 16, 17, 18, 19, 20, 21, 22, 23, 24, 25, 26, 27, 28, 29, 30, 31, 32, 33, 34, 35, 36, 37, 38, 39, 40, 41, 42, 43, 44, 45, 46, 47, 48, 49, 50, 367, 368, 369, 370, 371, 372, 373, 374, 375, 376, 361, 362, 363, 364, 365, 366, 377, 378, 379, 380, 381, 382, 383, 384] (by decide +kernel) (by decide +kernel)
set_option maxRecDepth 20000 in
theorem gL_pieces_X5_init : GoodIn wsL_pieces (wsX5_init) := ggL_pieces_X5_init
set_option maxRecDepth 20000 in
theorem ggL_pieces_X5_set : GoodIn wsL_pieces wsX5_set := goodIn_r _ [54, 18, 13, 55, 56, 3, 57, 58, 59, 60, 17, 61, 62, 43, 63, 64, 65, 66, 67, 68, 69, 70, 12, 71, 31, 32, 33, 34, 35, 36, 37, 72, 73, 74, 75, 76, 77, 78, 79, 80, 81, 82, 83, 84, 85, 86, 87, 88, 89, 90, 361, 362, 363, 364, 365, 366, 377, 378, 379, 367, 368, 369, 370, 371, 372, 373, 374, 375, 376] (by decide +kernel) (by decide +kernel)
set_option maxRecDepth 20000 in
theorem gL_pieces_X5_set : GoodIn wsL_pieces (wsV RL 36 RX5 yX5_set wsX5_set) := goodIn_app (goodIn_of _ (by decide +kernel)) ggL_pieces_X5_set
set_option maxRecDepth 20000 in
theorem ggL_pieces_X5_send : GoodIn wsL_pieces wsX5_send := goodIn_r _ [94, 18, 13, 95, 96, 3, 97, 98, 99, 100, 101, 102, 103, 58, 59, 60, 17, 61, 62, 43, 63, 64, 65, 66, 67, 68, 69, 70, 12, 71, 31, 32, 33, 34, 35, 36, 37, 72, 73, 74, 75, 76, 77, 78, 79, 80, 81, 82, 104, 105, 106, 107, 108, 109, 110, 111, 112, 113, 114, 115, 116, 117, 118, 119, 120, 121, 122, 123, 124, 125, 126, 127, 128, 129, 130, 131, 132, 133, 134, 87, 88, 89, 90, 135, 136, 137, 138, 139, 140, 141, 142, 143, 144, 145, 146, 147, 148, 149, 150, 151, 152, 153, 154, 155, 156, 157, 158, 159, 160, 161, 162, 163, 164, 165, 166, 167, 168, 169, 170, 171, 172, 173, 174, 175, 176, 177, 178, 179, 180, 181, 182, 183, 184, 185, 186, 187, 188, 189, 190, 191, 192, 193, 194, 195, 196, 197, 198, 199, 200, 201, 202, 203, 204, 205, 206, 207, 208, 209, 210, 211, 212, 213, 214, 215, 216, 217, 218, 219, 220, 221, 222, 223, 224, 225, 226, 227, 228, 229, 230, 231, 232, 361, 362, 363, 364, 365, 366, 377, 378, 379, 367, 368, 369, 370, 371, 372, 373, 374, 375, 376] (by decide +kernel) (by decide +kernel)
set_option maxRecDepth 20000 in
theorem gL_pieces_X5_send : GoodIn wsL_pieces (wsV RL 39 RX5 yX5_send wsX5_send) := goodIn_app (goodIn_of _ (by decide +kernel)) ggL_pieces_X5_send
set_option maxRecDepth 20000 in
theorem ggL_pieces_X5_wouldSink : GoodIn wsL_pieces wsX5_wouldSink := goodIn_r _ [236, 101, 102, 3, 103, 237, 238, 239, 240, 14, 13, 241, 69, 70, 12, 71, 31, 32, 33, 34, 35, 36, 37, 72, 73, 74, 75, 76, 77, 78, 65, 66, 67, 79, 80, 81, 82, 104, 105, 106, 107, 108, 109, 110, 111, 112, 113, 114, 115, 116, 117, 118, 119, 120, 121, 122, 123, 124, 125, 126, 127, 128, 129, 130, 131, 132, 133, 134, 87, 88, 89, 90, 135, 136, 137, 138, 139, 140, 141, 142, 143, 144, 145, 146, 147, 148, 149, 150, 151, 152, 153, 154, 155, 156, 157, 158, 159, 160, 161, 162, 163, 164, 165, 166, 167, 168, 169, 170, 171, 172, 173, 174, 175, 176, 177, 178, 179, 180, 181, 182, 183, 184, 185, 186, 187, 188, 189, 190, 191, 192, 193, 194, 195, 196, 197, 198, 199, 200, 201, 202, 203, 204, 205, 206, 207, 208, 209, 210, 211, 212, 213, 214, 215, 216, 217, 218, 219, 220, 221, 222, 223, 224, 225, 242, 243, 244, 245, 230, 231, 232, 361, 362, 363, 364, 365, 366, 367, 368, 369, 370, 371, 372, 373, 374, 375, 376] (by decide +kernel) (by decide +kernel)
set_option maxRecDepth 20000 in
theorem gL_pieces_X5_wouldSink : GoodIn wsL_pieces (wsV RL 55 RX5 yX5_wouldSink wsX5_wouldSink) := goodIn_app (goodIn_of _ (by decide +kernel)) ggL_pieces_X5_wouldSink
set_option maxRecDepth 20000 in
theorem ggL_pieces_X5_worstKey : GoodIn wsL_pieces wsX5_worstKey := goodIn_r _ [249, 237, 238, 239, 3, 240, 14, 13, 241, 69, 70, 12, 71, 31, 32, 33, 34, 35, 36, 37, 72, 73, 74, 75, 76, 77, 78, 65, 66, 67, 79, 80, 81, 82, 104, 105, 106, 107, 108, 109, 110, 111, 112, 113, 114, 115, 116, 117, 118, 119, 120, 121, 122, 123, 124, 125, 126, 127, 128, 129, 130, 131, 132, 133, 134, 87, 88, 89, 90, 135, 136, 137, 138, 139, 140, 141, 142, 143, 144, 145, 146, 147, 148, 149, 150, 151, 152, 153, 154, 155, 156, 157, 158, 159, 160, 161, 162, 163, 164, 165, 166, 167, 168, 169, 170, 171, 172, 173, 174, 175, 176, 177, 178, 179, 180, 181, 182, 183, 184, 185, 186, 187, 188, 189, 190, 191, 192, 193, 194, 195, 196, 197, 198, 199, 200, 201, 202, 203, 204, 205, 206, 207, 208, 209, 210, 211, 212, 213, 214, 215, 216, 217, 218, 219, 220, 221, 222, 223, 224, 225, 242, 243, 244, 245, 230, 231, 232, 361, 362, 363, 364, 365, 366, 367, 368, 369, 370, 371, 372, 373, 374, 375, 376] (by decide +kernel) (by decide +kernel)
set_option maxRecDepth 20000 in
theorem gL_pieces_X5_worstKey : GoodIn wsL_pieces (wsV RL 58 RX5 yX5_worstKey wsX5_worstKey) := goodIn_app (goodIn_of _ (by decide +kernel)) ggL_pieces_X5_worstKey
set_option maxRecDepth 20000 in
theorem ggL_pieces_X5_save : GoodIn wsL_pieces wsX5_save := goodIn_r _ [253, 19, 13, 21, 254, 255, 256, 3, 257, 241, 69, 70, 12, 71, 31, 32, 33, 34, 35, 36, 37, 72, 73, 74, 75, 76, 77, 78, 65, 66, 67, 79, 80, 81, 82, 226, 227, 228, 229, 230, 231, 232, 361, 362, 363, 364, 365, 366, 367, 368, 369, 370, 371, 372, 373, 374, 375, 376] (by decide +kernel) (by decide +kernel)
set_option maxRecDepth 20000 in
theorem gL_pieces_X5_save : GoodIn wsL_pieces (wsV RL 64 RX5 yX5_save wsX5_save) := goodIn_app (goodIn_of _ (by decide +kernel)) ggL_pieces_X5_save
set_option maxRecDepth 20000 in
theorem ggL_pieces_X5_count : GoodIn wsL_pieces wsX5_count := goodIn_r _ [261, 13, 25, 18, 226, 227, 228, 12, 229, 33, 230, 231, 232, 262, 263, 264, 265, 72, 242, 243, 244, 245, 36, 266, 267, 268, 269, 73, 270, 271, 272, 273, 74, 274, 275, 276, 277, 278, 279, 280, 281, 282, 283, 284, 285, 32, 286, 287, 177, 288, 289, 290, 291, 292, 116, 117, 118, 119, 124, 125, 126, 127, 34, 153, 154, 106, 155, 142, 143, 144, 145, 146, 147, 220, 221, 222, 210, 157, 158, 211, 160, 161, 293, 294, 295, 296, 297, 298, 24, 299, 300, 301, 302, 303, 17, 304, 63, 305, 88, 89, 90, 31, 361, 362, 363, 364, 365, 366, 367, 368, 369, 370, 371, 372, 373, 374, 375, 376, 380, 381, 382, 383, 384, 377, 378, 379] (by decide +kernel) (by decide +kernel)
set_option maxRecDepth 20000 in
theorem gL_pieces_X5_count : GoodIn wsL_pieces (wsV RL 13 RX5 yX5_count wsX5_count) := goodIn_app (goodIn_of _ (by decide +kernel)) ggL_pieces_X5_count
set_option maxRecDepth 20000 in
theorem ggL_pieces_X5_ofKey : GoodIn wsL_pieces wsX5_ofKey := goodIn_r _ [309, 13, 101, 102, 3, 103, 310, 283, 284, 12, 285, 32, 311, 279, 280, 281, 282, 286, 287, 177, 288, 289, 290, 291, 292, 116, 117, 118, 119, 33, 124, 125, 126, 127, 34, 153, 154, 106, 155, 142, 143, 144, 145, 146, 147, 220, 221, 222, 210, 157, 158, 211, 160, 161, 293, 294, 295, 312, 313, 314, 315, 191, 192, 193, 194, 316, 317, 318, 319, 361, 362, 363, 364, 365, 366, 367, 368, 369, 370, 371, 372, 373, 374, 375, 376] (by decide +kernel) (by decide +kernel)
set_option maxRecDepth 20000 in
theorem gL_pieces_X5_ofKey : GoodIn wsL_pieces (wsV RL 27 RX5 yX5_ofKey wsX5_ofKey) := goodIn_app (goodIn_of _ (by decide +kernel)) ggL_pieces_X5_ofKey
set_option maxRecDepth 20000 in
theorem ggL_pieces_X5_ofNode : GoodIn wsL_pieces wsX5_ofNode := goodIn_r _ [323, 13, 324, 325, 3, 326, 327, 117, 118, 12, 119, 33, 328, 180, 177, 181, 182, 329, 330, 331, 332, 188, 189, 190, 176, 178, 179, 183, 184, 185, 186, 333, 334, 335, 336, 35, 337, 338, 339, 340, 341, 342, 343, 36, 344, 345, 346, 347, 37, 361, 362, 363, 364, 365, 366, 367, 368, 369, 370, 371, 372, 373, 374, 375, 376] (by decide +kernel) (by decide +kernel)
set_option maxRecDepth 20000 in
theorem gL_pieces_X5_ofNode : GoodIn wsL_pieces (wsV RL 19 RX5 yX5_ofNode wsX5_ofNode) := goodIn_app (goodIn_of _ (by decide +kernel)) ggL_pieces_X5_ofNode
set_option maxRecDepth 20000 in
theorem ggL_pieces_X5_stone : GoodIn wsL_pieces wsX5_stone := goodIn_r _ [351, 13, 324, 325, 3, 326, 327, 117, 118, 12, 119, 33, 352, 125, 126, 127, 34, 353, 157, 106, 158, 354, 143, 144, 355, 146, 147, 356, 160, 161, 361, 362, 363, 364, 365, 366, 367, 368, 369, 370, 371, 372, 373, 374, 375, 376] (by decide +kernel) (by decide +kernel)
set_option maxRecDepth 20000 in
theorem gL_pieces_X5_stone : GoodIn wsL_pieces (wsV RL 23 RX5 yX5_stone wsX5_stone) := goodIn_app (goodIn_of _ (by decide +kernel)) ggL_pieces_X5_stone
set_option maxRecDepth 20000 in
theorem ggL_pieces_X5_restore : GoodIn wsL_pieces wsX5_restore := goodIn_r _ [360, 21, 18, 13, 19, 254, 255, 256, 3, 257, 58, 59, 60, 17, 61, 62, 43, 63, 64, 65, 66, 67, 68, 69, 70, 12, 71, 31, 32, 33, 34, 35, 36, 37, 72, 73, 74, 75, 76, 77, 78, 79, 80, 81, 82, 241, 226, 227, 228, 229, 230, 231, 232, 361, 362, 363, 364, 365, 366, 377, 378, 379, 367, 368, 369, 370, 371, 372, 373, 374, 375, 376] (by decide +kernel) (by decide +kernel)
set_option maxRecDepth 20000 in
theorem gL_pieces_X5_restore : GoodIn wsL_pieces (wsV RL 67 RX5 yX5_restore wsX5_restore) := goodIn_app (goodIn_of _ (by decide +kernel)) ggL_pieces_X5_restore
theorem dL_pieces_0 : decode cL_pieces 0 = .ok (.new 14, 3) := by decide +kernel
theorem dL_pieces_3 : decode cL_pieces 3 = .ok (.dup, 1) := by decide +kernel
theorem dL_pieces_4 : decode cL_pieces 4 = .ok (.invokespecial 84, 3) := by decide +kernel
theorem dL_pieces_7 : decode cL_pieces 7 = .ok (.astore_n 0, 1) := by decide +kernel
theorem dL_pieces_8 : decode cL_pieces 8 = .ok (.aload_n 0, 1) := by decide +kernel
theorem dL_pieces_9 : decode cL_pieces 9 = .ok (.iconst 0, 1) := by decide +kernel
theorem dL_pieces_10 : decode cL_pieces 10 = .ok (.iconst 1, 1) := by decide +kernel
theorem dL_pieces_11 : decode cL_pieces 11 = .ok (.invokevirtual 36, 3) := by decide +kernel
theorem dL_pieces_14 : decode cL_pieces 14 = .ok (.iconst 4, 1) := by decide +kernel
theorem dL_pieces_15 : decode cL_pieces 15 = .ok (.if_icmp .ne 86, 3) := by decide +kernel
theorem dL_pieces_18 : decode cL_pieces 18 = .ok (.aload_n 0, 1) := by decide +kernel
theorem dL_pieces_19 : decode cL_pieces 19 = .ok (.iconst 1, 1) := by decide +kernel
theorem dL_pieces_20 : decode cL_pieces 20 = .ok (.iconst 0, 1) := by decide +kernel
theorem dL_pieces_21 : decode cL_pieces 21 = .ok (.bipush 26, 2) := by decide +kernel
theorem dL_pieces_23 : decode cL_pieces 23 = .ok (.iconst 5, 1) := by decide +kernel
theorem dL_pieces_24 : decode cL_pieces 24 = .ok (.invokevirtual 39, 3) := by decide +kernel
theorem dL_pieces_27 : decode cL_pieces 27 = .ok (.iconst 1, 1) := by decide +kernel
theorem dL_pieces_28 : decode cL_pieces 28 = .ok (.if_icmp .ne 73, 3) := by decide +kernel
theorem dL_pieces_31 : decode cL_pieces 31 = .ok (.aload_n 0, 1) := by decide +kernel
theorem dL_pieces_32 : decode cL_pieces 32 = .ok (.iconst 0, 1) := by decide +kernel
theorem dL_pieces_33 : decode cL_pieces 33 = .ok (.invokevirtual 55, 3) := by decide +kernel
theorem dL_pieces_36 : decode cL_pieces 36 = .ok (.bipush 6, 2) := by decide +kernel
theorem dL_pieces_38 : decode cL_pieces 38 = .ok (.if_icmp .ne 63, 3) := by decide +kernel
theorem dL_pieces_41 : decode cL_pieces 41 = .ok (.aload_n 0, 1) := by decide +kernel
theorem dL_pieces_42 : decode cL_pieces 42 = .ok (.iconst 1, 1) := by decide +kernel
theorem dL_pieces_43 : decode cL_pieces 43 = .ok (.invokevirtual 55, 3) := by decide +kernel
theorem dL_pieces_46 : decode cL_pieces 46 = .ok (.bipush 7, 2) := by decide +kernel
theorem dL_pieces_48 : decode cL_pieces 48 = .ok (.if_icmp .ne 53, 3) := by decide +kernel
theorem dL_pieces_51 : decode cL_pieces 51 = .ok (.aload_n 0, 1) := by decide +kernel
theorem dL_pieces_52 : decode cL_pieces 52 = .ok (.iconst 4, 1) := by decide +kernel
theorem dL_pieces_53 : decode cL_pieces 53 = .ok (.invokevirtual 55, 3) := by decide +kernel
theorem dL_pieces_56 : decode cL_pieces 56 = .ok (.bipush 8, 2) := by decide +kernel
theorem dL_pieces_58 : decode cL_pieces 58 = .ok (.if_icmp .ne 43, 3) := by decide +kernel
theorem dL_pieces_61 : decode cL_pieces 61 = .ok (.aload_n 0, 1) := by decide +kernel
theorem dL_pieces_62 : decode cL_pieces 62 = .ok (.bipush 10, 2) := by decide +kernel
theorem dL_pieces_64 : decode cL_pieces 64 = .ok (.invokevirtual 55, 3) := by decide +kernel
theorem dL_pieces_67 : decode cL_pieces 67 = .ok (.bipush 8, 2) := by decide +kernel
theorem dL_pieces_69 : decode cL_pieces 69 = .ok (.if_icmp .ne 32, 3) := by decide +kernel
theorem dL_pieces_72 : decode cL_pieces 72 = .ok (.aload_n 0, 1) := by decide +kernel
theorem dL_pieces_73 : decode cL_pieces 73 = .ok (.iconst 0, 1) := by decide +kernel
theorem dL_pieces_74 : decode cL_pieces 74 = .ok (.invokevirtual 58, 3) := by decide +kernel
theorem dL_pieces_77 : decode cL_pieces 77 = .ok (.bipush 13, 2) := by decide +kernel
theorem dL_pieces_79 : decode cL_pieces 79 = .ok (.if_icmp .ne 22, 3) := by decide +kernel
theorem dL_pieces_82 : decode cL_pieces 82 = .ok (.aload_n 0, 1) := by decide +kernel
theorem dL_pieces_83 : decode cL_pieces 83 = .ok (.iconst 1, 1) := by decide +kernel
theorem dL_pieces_84 : decode cL_pieces 84 = .ok (.invokevirtual 58, 3) := by decide +kernel
theorem dL_pieces_87 : decode cL_pieces 87 = .ok (.bipush 9, 2) := by decide +kernel
theorem dL_pieces_89 : decode cL_pieces 89 = .ok (.if_icmp .ne 12, 3) := by decide +kernel
theorem dL_pieces_92 : decode cL_pieces 92 = .ok (.aload_n 0, 1) := by decide +kernel
theorem dL_pieces_93 : decode cL_pieces 93 = .ok (.iconst 1, 1) := by decide +kernel
theorem dL_pieces_94 : decode cL_pieces 94 = .ok (.invokevirtual 64, 3) := by decide +kernel
theorem dL_pieces_97 : decode cL_pieces 97 = .ok (.iconst 1, 1) := by decide +kernel
theorem dL_pieces_98 : decode cL_pieces 98 = .ok (.if_icmp .eq 5, 3) := by decide +kernel
theorem dL_pieces_101 : decode cL_pieces 101 = .ok (.iconst 0, 1) := by decide +kernel
theorem dL_pieces_102 : decode cL_pieces 102 = .ok (.ireturn, 1) := by decide +kernel
theorem dL_pieces_103 : decode cL_pieces 103 = .ok (.aload_n 0, 1) := by decide +kernel
theorem dL_pieces_104 : decode cL_pieces 104 = .ok (.iconst 0, 1) := by decide +kernel
theorem dL_pieces_105 : decode cL_pieces 105 = .ok (.bipush 10, 2) := by decide +kernel
theorem dL_pieces_107 : decode cL_pieces 107 = .ok (.bipush 10, 2) := by decide +kernel
theorem dL_pieces_109 : decode cL_pieces 109 = .ok (.bipush 7, 2) := by decide +kernel
theorem dL_pieces_111 : decode cL_pieces 111 = .ok (.invokevirtual 39, 3) := by decide +kernel
theorem dL_pieces_114 : decode cL_pieces 114 = .ok (.iconst 4, 1) := by decide +kernel
theorem dL_pieces_115 : decode cL_pieces 115 = .ok (.if_icmp .ne 149, 3) := by decide +kernel
theorem dL_pieces_118 : decode cL_pieces 118 = .ok (.aload_n 0, 1) := by decide +kernel
theorem dL_pieces_119 : decode cL_pieces 119 = .ok (.iconst 2, 1) := by decide +kernel
theorem dL_pieces_120 : decode cL_pieces 120 = .ok (.invokevirtual 13, 3) := by decide +kernel
theorem dL_pieces_123 : decode cL_pieces 123 = .ok (.bipush 8, 2) := by decide +kernel
theorem dL_pieces_125 : decode cL_pieces 125 = .ok (.if_icmp .ne 139, 3) := by decide +kernel
theorem dL_pieces_128 : decode cL_pieces 128 = .ok (.aload_n 0, 1) := by decide +kernel
theorem dL_pieces_129 : decode cL_pieces 129 = .ok (.iconst 3, 1) := by decide +kernel
theorem dL_pieces_130 : decode cL_pieces 130 = .ok (.invokevirtual 13, 3) := by decide +kernel
theorem dL_pieces_133 : decode cL_pieces 133 = .ok (.iconst 3, 1) := by decide +kernel
theorem dL_pieces_134 : decode cL_pieces 134 = .ok (.if_icmp .ne 130, 3) := by decide +kernel
theorem dL_pieces_137 : decode cL_pieces 137 = .ok (.aload_n 0, 1) := by decide +kernel
theorem dL_pieces_138 : decode cL_pieces 138 = .ok (.bipush 10, 2) := by decide +kernel
theorem dL_pieces_140 : decode cL_pieces 140 = .ok (.iconst 0, 1) := by decide +kernel
theorem dL_pieces_141 : decode cL_pieces 141 = .ok (.invokevirtual 27, 3) := by decide +kernel
theorem dL_pieces_144 : decode cL_pieces 144 = .ok (.bipush 7, 2) := by decide +kernel
theorem dL_pieces_146 : decode cL_pieces 146 = .ok (.if_icmp .ne 118, 3) := by decide +kernel
theorem dL_pieces_149 : decode cL_pieces 149 = .ok (.aload_n 0, 1) := by decide +kernel
theorem dL_pieces_150 : decode cL_pieces 150 = .ok (.iconst 0, 1) := by decide +kernel
theorem dL_pieces_151 : decode cL_pieces 151 = .ok (.iconst 3, 1) := by decide +kernel
theorem dL_pieces_152 : decode cL_pieces 152 = .ok (.invokevirtual 19, 3) := by decide +kernel
theorem dL_pieces_155 : decode cL_pieces 155 = .ok (.iconst 2, 1) := by decide +kernel
theorem dL_pieces_156 : decode cL_pieces 156 = .ok (.if_icmp .ne 108, 3) := by decide +kernel
theorem dL_pieces_159 : decode cL_pieces 159 = .ok (.aload_n 0, 1) := by decide +kernel
theorem dL_pieces_160 : decode cL_pieces 160 = .ok (.iconst 0, 1) := by decide +kernel
theorem dL_pieces_161 : decode cL_pieces 161 = .ok (.iconst 4, 1) := by decide +kernel
theorem dL_pieces_162 : decode cL_pieces 162 = .ok (.invokevirtual 19, 3) := by decide +kernel
theorem dL_pieces_165 : decode cL_pieces 165 = .ok (.iconst 3, 1) := by decide +kernel
theorem dL_pieces_166 : decode cL_pieces 166 = .ok (.if_icmp .ne 98, 3) := by decide +kernel
theorem dL_pieces_169 : decode cL_pieces 169 = .ok (.aload_n 0, 1) := by decide +kernel
theorem dL_pieces_170 : decode cL_pieces 170 = .ok (.iconst 2, 1) := by decide +kernel
theorem dL_pieces_171 : decode cL_pieces 171 = .ok (.iconst 3, 1) := by decide +kernel
theorem dL_pieces_172 : decode cL_pieces 172 = .ok (.invokevirtual 19, 3) := by decide +kernel
theorem dL_pieces_175 : decode cL_pieces 175 = .ok (.iconst 1, 1) := by decide +kernel
theorem dL_pieces_176 : decode cL_pieces 176 = .ok (.if_icmp .ne 88, 3) := by decide +kernel
theorem dL_pieces_179 : decode cL_pieces 179 = .ok (.aload_n 0, 1) := by decide +kernel
theorem dL_pieces_180 : decode cL_pieces 180 = .ok (.bipush 7, 2) := by decide +kernel
theorem dL_pieces_182 : decode cL_pieces 182 = .ok (.iconst 3, 1) := by decide +kernel
theorem dL_pieces_183 : decode cL_pieces 183 = .ok (.invokevirtual 19, 3) := by decide +kernel
theorem dL_pieces_186 : decode cL_pieces 186 = .ok (.iconst 2, 1) := by decide +kernel
theorem dL_pieces_187 : decode cL_pieces 187 = .ok (.if_icmp .ne 77, 3) := by decide +kernel
theorem dL_pieces_190 : decode cL_pieces 190 = .ok (.aload_n 0, 1) := by decide +kernel
theorem dL_pieces_191 : decode cL_pieces 191 = .ok (.iconst 0, 1) := by decide +kernel
theorem dL_pieces_192 : decode cL_pieces 192 = .ok (.iconst 0, 1) := by decide +kernel
theorem dL_pieces_193 : decode cL_pieces 193 = .ok (.iconst 1, 1) := by decide +kernel
theorem dL_pieces_194 : decode cL_pieces 194 = .ok (.invokevirtual 23, 3) := by decide +kernel
theorem dL_pieces_197 : decode cL_pieces 197 = .ok (.bipush 18, 2) := by decide +kernel
theorem dL_pieces_199 : decode cL_pieces 199 = .ok (.if_icmp .ne 65, 3) := by decide +kernel
theorem dL_pieces_202 : decode cL_pieces 202 = .ok (.aload_n 0, 1) := by decide +kernel
theorem dL_pieces_203 : decode cL_pieces 203 = .ok (.iconst 1, 1) := by decide +kernel
theorem dL_pieces_204 : decode cL_pieces 204 = .ok (.iconst 0, 1) := by decide +kernel
theorem dL_pieces_205 : decode cL_pieces 205 = .ok (.iconst 2, 1) := by decide +kernel
theorem dL_pieces_206 : decode cL_pieces 206 = .ok (.invokevirtual 23, 3) := by decide +kernel
theorem dL_pieces_209 : decode cL_pieces 209 = .ok (.bipush 8, 2) := by decide +kernel
theorem dL_pieces_211 : decode cL_pieces 211 = .ok (.if_icmp .ne 53, 3) := by decide +kernel
theorem dL_pieces_214 : decode cL_pieces 214 = .ok (.aload_n 0, 1) := by decide +kernel
theorem dL_pieces_215 : decode cL_pieces 215 = .ok (.iconst 2, 1) := by decide +kernel
theorem dL_pieces_216 : decode cL_pieces 216 = .ok (.iconst 0, 1) := by decide +kernel
theorem dL_pieces_217 : decode cL_pieces 217 = .ok (.iconst 1, 1) := by decide +kernel
theorem dL_pieces_218 : decode cL_pieces 218 = .ok (.invokevirtual 23, 3) := by decide +kernel
theorem dL_pieces_221 : decode cL_pieces 221 = .ok (.bipush 12, 2) := by decide +kernel
theorem dL_pieces_223 : decode cL_pieces 223 = .ok (.if_icmp .ne 41, 3) := by decide +kernel
theorem dL_pieces_226 : decode cL_pieces 226 = .ok (.aload_n 0, 1) := by decide +kernel
theorem dL_pieces_227 : decode cL_pieces 227 = .ok (.iconst 2, 1) := by decide +kernel
theorem dL_pieces_228 : decode cL_pieces 228 = .ok (.iconst 0, 1) := by decide +kernel
theorem dL_pieces_229 : decode cL_pieces 229 = .ok (.iconst 2, 1) := by decide +kernel
theorem dL_pieces_230 : decode cL_pieces 230 = .ok (.invokevirtual 23, 3) := by decide +kernel
theorem dL_pieces_233 : decode cL_pieces 233 = .ok (.bipush 17, 2) := by decide +kernel
theorem dL_pieces_235 : decode cL_pieces 235 = .ok (.if_icmp .ne 29, 3) := by decide +kernel
theorem dL_pieces_238 : decode cL_pieces 238 = .ok (.aload_n 0, 1) := by decide +kernel
theorem dL_pieces_239 : decode cL_pieces 239 = .ok (.bipush 7, 2) := by decide +kernel
theorem dL_pieces_241 : decode cL_pieces 241 = .ok (.iconst 0, 1) := by decide +kernel
theorem dL_pieces_242 : decode cL_pieces 242 = .ok (.iconst 1, 1) := by decide +kernel
theorem dL_pieces_243 : decode cL_pieces 243 = .ok (.invokevirtual 23, 3) := by decide +kernel
theorem dL_pieces_246 : decode cL_pieces 246 = .ok (.bipush 11, 2) := by decide +kernel
theorem dL_pieces_248 : decode cL_pieces 248 = .ok (.if_icmp .ne 16, 3) := by decide +kernel
theorem dL_pieces_251 : decode cL_pieces 251 = .ok (.aload_n 0, 1) := by decide +kernel
theorem dL_pieces_252 : decode cL_pieces 252 = .ok (.bipush 7, 2) := by decide +kernel
theorem dL_pieces_254 : decode cL_pieces 254 = .ok (.iconst 0, 1) := by decide +kernel
theorem dL_pieces_255 : decode cL_pieces 255 = .ok (.iconst 2, 1) := by decide +kernel
theorem dL_pieces_256 : decode cL_pieces 256 = .ok (.invokevirtual 23, 3) := by decide +kernel
theorem dL_pieces_259 : decode cL_pieces 259 = .ok (.bipush 11, 2) := by decide +kernel
theorem dL_pieces_261 : decode cL_pieces 261 = .ok (.if_icmp .eq 5, 3) := by decide +kernel
theorem dL_pieces_264 : decode cL_pieces 264 = .ok (.iconst 0, 1) := by decide +kernel
theorem dL_pieces_265 : decode cL_pieces 265 = .ok (.ireturn, 1) := by decide +kernel
theorem dL_pieces_266 : decode cL_pieces 266 = .ok (.aload_n 0, 1) := by decide +kernel
theorem dL_pieces_267 : decode cL_pieces 267 = .ok (.iconst 1, 1) := by decide +kernel
theorem dL_pieces_268 : decode cL_pieces 268 = .ok (.invokevirtual 67, 3) := by decide +kernel
theorem dL_pieces_271 : decode cL_pieces 271 = .ok (.iconst 1, 1) := by decide +kernel
theorem dL_pieces_272 : decode cL_pieces 272 = .ok (.if_icmp .ne 99, 3) := by decide +kernel
theorem dL_pieces_275 : decode cL_pieces 275 = .ok (.aload_n 0, 1) := by decide +kernel
theorem dL_pieces_276 : decode cL_pieces 276 = .ok (.iconst 2, 1) := by decide +kernel
theorem dL_pieces_277 : decode cL_pieces 277 = .ok (.invokevirtual 13, 3) := by decide +kernel
theorem dL_pieces_280 : decode cL_pieces 280 = .ok (.ifCond .ne 91, 3) := by decide +kernel
theorem dL_pieces_283 : decode cL_pieces 283 = .ok (.aload_n 0, 1) := by decide +kernel
theorem dL_pieces_284 : decode cL_pieces 284 = .ok (.iconst 0, 1) := by decide +kernel
theorem dL_pieces_285 : decode cL_pieces 285 = .ok (.bipush 10, 2) := by decide +kernel
theorem dL_pieces_287 : decode cL_pieces 287 = .ok (.invokevirtual 36, 3) := by decide +kernel
theorem dL_pieces_290 : decode cL_pieces 290 = .ok (.iconst 1, 1) := by decide +kernel
theorem dL_pieces_291 : decode cL_pieces 291 = .ok (.if_icmp .ne 80, 3) := by decide +kernel
theorem dL_pieces_294 : decode cL_pieces 294 = .ok (.aload_n 0, 1) := by decide +kernel
theorem dL_pieces_295 : decode cL_pieces 295 = .ok (.iconst 1, 1) := by decide +kernel
theorem dL_pieces_296 : decode cL_pieces 296 = .ok (.iconst 0, 1) := by decide +kernel
theorem dL_pieces_297 : decode cL_pieces 297 = .ok (.invokevirtual 36, 3) := by decide +kernel
theorem dL_pieces_300 : decode cL_pieces 300 = .ok (.iconst 1, 1) := by decide +kernel
theorem dL_pieces_301 : decode cL_pieces 301 = .ok (.if_icmp .ne 70, 3) := by decide +kernel
theorem dL_pieces_304 : decode cL_pieces 304 = .ok (.aload_n 0, 1) := by decide +kernel
theorem dL_pieces_305 : decode cL_pieces 305 = .ok (.iconst 0, 1) := by decide +kernel
theorem dL_pieces_306 : decode cL_pieces 306 = .ok (.iconst 3, 1) := by decide +kernel
theorem dL_pieces_307 : decode cL_pieces 307 = .ok (.iconst 3, 1) := by decide +kernel
theorem dL_pieces_308 : decode cL_pieces 308 = .ok (.iconst 1, 1) := by decide +kernel
theorem dL_pieces_309 : decode cL_pieces 309 = .ok (.invokevirtual 39, 3) := by decide +kernel
theorem dL_pieces_312 : decode cL_pieces 312 = .ok (.iconst 2, 1) := by decide +kernel
theorem dL_pieces_313 : decode cL_pieces 313 = .ok (.if_icmp .ne 58, 3) := by decide +kernel
theorem dL_pieces_316 : decode cL_pieces 316 = .ok (.aload_n 0, 1) := by decide +kernel
theorem dL_pieces_317 : decode cL_pieces 317 = .ok (.iconst 0, 1) := by decide +kernel
theorem dL_pieces_318 : decode cL_pieces 318 = .ok (.iconst 3, 1) := by decide +kernel
theorem dL_pieces_319 : decode cL_pieces 319 = .ok (.iconst 3, 1) := by decide +kernel
theorem dL_pieces_320 : decode cL_pieces 320 = .ok (.iconst 2, 1) := by decide +kernel
theorem dL_pieces_321 : decode cL_pieces 321 = .ok (.invokevirtual 39, 3) := by decide +kernel
theorem dL_pieces_324 : decode cL_pieces 324 = .ok (.iconst 3, 1) := by decide +kernel
theorem dL_pieces_325 : decode cL_pieces 325 = .ok (.if_icmp .ne 46, 3) := by decide +kernel
theorem dL_pieces_328 : decode cL_pieces 328 = .ok (.aload_n 0, 1) := by decide +kernel
theorem dL_pieces_329 : decode cL_pieces 329 = .ok (.iconst 1, 1) := by decide +kernel
theorem dL_pieces_330 : decode cL_pieces 330 = .ok (.iconst 3, 1) := by decide +kernel
theorem dL_pieces_331 : decode cL_pieces 331 = .ok (.iconst 3, 1) := by decide +kernel
theorem dL_pieces_332 : decode cL_pieces 332 = .ok (.sipush 999, 3) := by decide +kernel
theorem dL_pieces_335 : decode cL_pieces 335 = .ok (.invokevirtual 39, 3) := by decide +kernel
theorem dL_pieces_338 : decode cL_pieces 338 = .ok (.iconst 4, 1) := by decide +kernel
theorem dL_pieces_339 : decode cL_pieces 339 = .ok (.if_icmp .ne 32, 3) := by decide +kernel
theorem dL_pieces_342 : decode cL_pieces 342 = .ok (.aload_n 0, 1) := by decide +kernel
theorem dL_pieces_343 : decode cL_pieces 343 = .ok (.iconst 0, 1) := by decide +kernel
theorem dL_pieces_344 : decode cL_pieces 344 = .ok (.iconst 5, 1) := by decide +kernel
theorem dL_pieces_345 : decode cL_pieces 345 = .ok (.invokevirtual 19, 3) := by decide +kernel
theorem dL_pieces_348 : decode cL_pieces 348 = .ok (.ifCond .ne 23, 3) := by decide +kernel
theorem dL_pieces_351 : decode cL_pieces 351 = .ok (.aload_n 0, 1) := by decide +kernel
theorem dL_pieces_352 : decode cL_pieces 352 = .ok (.iconst 3, 1) := by decide +kernel
theorem dL_pieces_353 : decode cL_pieces 353 = .ok (.iconst 1, 1) := by decide +kernel
theorem dL_pieces_354 : decode cL_pieces 354 = .ok (.invokevirtual 27, 3) := by decide +kernel
theorem dL_pieces_357 : decode cL_pieces 357 = .ok (.iconst 1, 1) := by decide +kernel
theorem dL_pieces_358 : decode cL_pieces 358 = .ok (.if_icmp .ne 13, 3) := by decide +kernel
theorem dL_pieces_361 : decode cL_pieces 361 = .ok (.aload_n 0, 1) := by decide +kernel
theorem dL_pieces_362 : decode cL_pieces 362 = .ok (.iconst 3, 1) := by decide +kernel
theorem dL_pieces_363 : decode cL_pieces 363 = .ok (.iconst 2, 1) := by decide +kernel
theorem dL_pieces_364 : decode cL_pieces 364 = .ok (.invokevirtual 27, 3) := by decide +kernel
theorem dL_pieces_367 : decode cL_pieces 367 = .ok (.iconst 4, 1) := by decide +kernel
theorem dL_pieces_368 : decode cL_pieces 368 = .ok (.if_icmp .eq 5, 3) := by decide +kernel
theorem dL_pieces_371 : decode cL_pieces 371 = .ok (.iconst 0, 1) := by decide +kernel
theorem dL_pieces_372 : decode cL_pieces 372 = .ok (.ireturn, 1) := by decide +kernel
theorem dL_pieces_373 : decode cL_pieces 373 = .ok (.aload_n 0, 1) := by decide +kernel
theorem dL_pieces_374 : decode cL_pieces 374 = .ok (.iconst 1, 1) := by decide +kernel
theorem dL_pieces_375 : decode cL_pieces 375 = .ok (.iconst 1, 1) := by decide +kernel
theorem dL_pieces_376 : decode cL_pieces 376 = .ok (.invokevirtual 36, 3) := by decide +kernel
theorem dL_pieces_379 : decode cL_pieces 379 = .ok (.ifCond .ne 169, 3) := by decide +kernel
theorem dL_pieces_382 : decode cL_pieces 382 = .ok (.aload_n 0, 1) := by decide +kernel
theorem dL_pieces_383 : decode cL_pieces 383 = .ok (.iconst 2, 1) := by decide +kernel
theorem dL_pieces_384 : decode cL_pieces 384 = .ok (.iconst 3, 1) := by decide +kernel
theorem dL_pieces_385 : decode cL_pieces 385 = .ok (.iconst 3, 1) := by decide +kernel
theorem dL_pieces_386 : decode cL_pieces 386 = .ok (.iconst 0, 1) := by decide +kernel
theorem dL_pieces_387 : decode cL_pieces 387 = .ok (.invokevirtual 39, 3) := by decide +kernel
theorem dL_pieces_390 : decode cL_pieces 390 = .ok (.iconst 4, 1) := by decide +kernel
theorem dL_pieces_391 : decode cL_pieces 391 = .ok (.if_icmp .ne 157, 3) := by decide +kernel
theorem dL_pieces_394 : decode cL_pieces 394 = .ok (.aload_n 0, 1) := by decide +kernel
theorem dL_pieces_395 : decode cL_pieces 395 = .ok (.iconst 0, 1) := by decide +kernel
theorem dL_pieces_396 : decode cL_pieces 396 = .ok (.iconst 3, 1) := by decide +kernel
theorem dL_pieces_397 : decode cL_pieces 397 = .ok (.iconst 0, 1) := by decide +kernel
theorem dL_pieces_398 : decode cL_pieces 398 = .ok (.invokevirtual 23, 3) := by decide +kernel
theorem dL_pieces_401 : decode cL_pieces 401 = .ok (.iconst 2, 1) := by decide +kernel
theorem dL_pieces_402 : decode cL_pieces 402 = .ok (.if_icmp .ne 146, 3) := by decide +kernel
theorem dL_pieces_405 : decode cL_pieces 405 = .ok (.aload_n 0, 1) := by decide +kernel
theorem dL_pieces_406 : decode cL_pieces 406 = .ok (.iconst 0, 1) := by decide +kernel
theorem dL_pieces_407 : decode cL_pieces 407 = .ok (.iconst 2, 1) := by decide +kernel
theorem dL_pieces_408 : decode cL_pieces 408 = .ok (.iconst 3, 1) := by decide +kernel
theorem dL_pieces_409 : decode cL_pieces 409 = .ok (.invokevirtual 23, 3) := by decide +kernel
theorem dL_pieces_412 : decode cL_pieces 412 = .ok (.iconst 2, 1) := by decide +kernel
theorem dL_pieces_413 : decode cL_pieces 413 = .ok (.if_icmp .ne 135, 3) := by decide +kernel
theorem dL_pieces_416 : decode cL_pieces 416 = .ok (.aload_n 0, 1) := by decide +kernel
theorem dL_pieces_417 : decode cL_pieces 417 = .ok (.iconst 0, 1) := by decide +kernel
theorem dL_pieces_418 : decode cL_pieces 418 = .ok (.iconst 2, 1) := by decide +kernel
theorem dL_pieces_419 : decode cL_pieces 419 = .ok (.invokevirtual 36, 3) := by decide +kernel
theorem dL_pieces_422 : decode cL_pieces 422 = .ok (.bipush 10, 2) := by decide +kernel
theorem dL_pieces_424 : decode cL_pieces 424 = .ok (.if_icmp .ne 124, 3) := by decide +kernel
theorem dL_pieces_427 : decode cL_pieces 427 = .ok (.aload_n 0, 1) := by decide +kernel
theorem dL_pieces_428 : decode cL_pieces 428 = .ok (.iconst 0, 1) := by decide +kernel
theorem dL_pieces_429 : decode cL_pieces 429 = .ok (.invokevirtual 13, 3) := by decide +kernel
theorem dL_pieces_432 : decode cL_pieces 432 = .ok (.iconst 4, 1) := by decide +kernel
theorem dL_pieces_433 : decode cL_pieces 433 = .ok (.if_icmp .ne 115, 3) := by decide +kernel
theorem dL_pieces_436 : decode cL_pieces 436 = .ok (.aload_n 0, 1) := by decide +kernel
theorem dL_pieces_437 : decode cL_pieces 437 = .ok (.iconst 1, 1) := by decide +kernel
theorem dL_pieces_438 : decode cL_pieces 438 = .ok (.iconst 0, 1) := by decide +kernel
theorem dL_pieces_439 : decode cL_pieces 439 = .ok (.iconst 2, 1) := by decide +kernel
theorem dL_pieces_440 : decode cL_pieces 440 = .ok (.iconst 1, 1) := by decide +kernel
theorem dL_pieces_441 : decode cL_pieces 441 = .ok (.invokevirtual 39, 3) := by decide +kernel
theorem dL_pieces_444 : decode cL_pieces 444 = .ok (.iconst 5, 1) := by decide +kernel
theorem dL_pieces_445 : decode cL_pieces 445 = .ok (.if_icmp .ne 103, 3) := by decide +kernel
theorem dL_pieces_448 : decode cL_pieces 448 = .ok (.aload_n 0, 1) := by decide +kernel
theorem dL_pieces_449 : decode cL_pieces 449 = .ok (.iconst 0, 1) := by decide +kernel
theorem dL_pieces_450 : decode cL_pieces 450 = .ok (.iconst 0, 1) := by decide +kernel
theorem dL_pieces_451 : decode cL_pieces 451 = .ok (.invokevirtual 19, 3) := by decide +kernel
theorem dL_pieces_454 : decode cL_pieces 454 = .ok (.iconst 1, 1) := by decide +kernel
theorem dL_pieces_455 : decode cL_pieces 455 = .ok (.if_icmp .ne 93, 3) := by decide +kernel
theorem dL_pieces_458 : decode cL_pieces 458 = .ok (.aload_n 0, 1) := by decide +kernel
theorem dL_pieces_459 : decode cL_pieces 459 = .ok (.iconst 1, 1) := by decide +kernel
theorem dL_pieces_460 : decode cL_pieces 460 = .ok (.iconst 0, 1) := by decide +kernel
theorem dL_pieces_461 : decode cL_pieces 461 = .ok (.invokevirtual 19, 3) := by decide +kernel
theorem dL_pieces_464 : decode cL_pieces 464 = .ok (.iconst 2, 1) := by decide +kernel
theorem dL_pieces_465 : decode cL_pieces 465 = .ok (.if_icmp .ne 83, 3) := by decide +kernel
theorem dL_pieces_468 : decode cL_pieces 468 = .ok (.aload_n 0, 1) := by decide +kernel
theorem dL_pieces_469 : decode cL_pieces 469 = .ok (.iconst 1, 1) := by decide +kernel
theorem dL_pieces_470 : decode cL_pieces 470 = .ok (.iconst 5, 1) := by decide +kernel
theorem dL_pieces_471 : decode cL_pieces 471 = .ok (.invokevirtual 19, 3) := by decide +kernel
theorem dL_pieces_474 : decode cL_pieces 474 = .ok (.iconst 2, 1) := by decide +kernel
theorem dL_pieces_475 : decode cL_pieces 475 = .ok (.if_icmp .ne 73, 3) := by decide +kernel
theorem dL_pieces_478 : decode cL_pieces 478 = .ok (.aload_n 0, 1) := by decide +kernel
theorem dL_pieces_479 : decode cL_pieces 479 = .ok (.iconst 1, 1) := by decide +kernel
theorem dL_pieces_480 : decode cL_pieces 480 = .ok (.iconst 0, 1) := by decide +kernel
theorem dL_pieces_481 : decode cL_pieces 481 = .ok (.iconst 1, 1) := by decide +kernel
theorem dL_pieces_482 : decode cL_pieces 482 = .ok (.invokevirtual 23, 3) := by decide +kernel
theorem dL_pieces_485 : decode cL_pieces 485 = .ok (.iconst 3, 1) := by decide +kernel
theorem dL_pieces_486 : decode cL_pieces 486 = .ok (.if_icmp .ne 62, 3) := by decide +kernel
theorem dL_pieces_489 : decode cL_pieces 489 = .ok (.aload_n 0, 1) := by decide +kernel
theorem dL_pieces_490 : decode cL_pieces 490 = .ok (.iconst 1, 1) := by decide +kernel
theorem dL_pieces_491 : decode cL_pieces 491 = .ok (.iconst 0, 1) := by decide +kernel
theorem dL_pieces_492 : decode cL_pieces 492 = .ok (.iconst 2, 1) := by decide +kernel
theorem dL_pieces_493 : decode cL_pieces 493 = .ok (.invokevirtual 23, 3) := by decide +kernel
theorem dL_pieces_496 : decode cL_pieces 496 = .ok (.bipush 8, 2) := by decide +kernel
theorem dL_pieces_498 : decode cL_pieces 498 = .ok (.if_icmp .ne 50, 3) := by decide +kernel
theorem dL_pieces_501 : decode cL_pieces 501 = .ok (.aload_n 0, 1) := by decide +kernel
theorem dL_pieces_502 : decode cL_pieces 502 = .ok (.iconst 1, 1) := by decide +kernel
theorem dL_pieces_503 : decode cL_pieces 503 = .ok (.iconst 1, 1) := by decide +kernel
theorem dL_pieces_504 : decode cL_pieces 504 = .ok (.iconst 0, 1) := by decide +kernel
theorem dL_pieces_505 : decode cL_pieces 505 = .ok (.invokevirtual 23, 3) := by decide +kernel
theorem dL_pieces_508 : decode cL_pieces 508 = .ok (.iconst 2, 1) := by decide +kernel
theorem dL_pieces_509 : decode cL_pieces 509 = .ok (.if_icmp .ne 39, 3) := by decide +kernel
theorem dL_pieces_512 : decode cL_pieces 512 = .ok (.aload_n 0, 1) := by decide +kernel
theorem dL_pieces_513 : decode cL_pieces 513 = .ok (.iconst 4, 1) := by decide +kernel
theorem dL_pieces_514 : decode cL_pieces 514 = .ok (.iconst 0, 1) := by decide +kernel
theorem dL_pieces_515 : decode cL_pieces 515 = .ok (.invokevirtual 19, 3) := by decide +kernel
theorem dL_pieces_518 : decode cL_pieces 518 = .ok (.iconst 2, 1) := by decide +kernel
theorem dL_pieces_519 : decode cL_pieces 519 = .ok (.if_icmp .ne 29, 3) := by decide +kernel
theorem dL_pieces_522 : decode cL_pieces 522 = .ok (.aload_n 0, 1) := by decide +kernel
theorem dL_pieces_523 : decode cL_pieces 523 = .ok (.iconst 4, 1) := by decide +kernel
theorem dL_pieces_524 : decode cL_pieces 524 = .ok (.iconst 0, 1) := by decide +kernel
theorem dL_pieces_525 : decode cL_pieces 525 = .ok (.iconst 3, 1) := by decide +kernel
theorem dL_pieces_526 : decode cL_pieces 526 = .ok (.invokevirtual 23, 3) := by decide +kernel
theorem dL_pieces_529 : decode cL_pieces 529 = .ok (.iconst 5, 1) := by decide +kernel
theorem dL_pieces_530 : decode cL_pieces 530 = .ok (.if_icmp .ne 18, 3) := by decide +kernel
theorem dL_pieces_533 : decode cL_pieces 533 = .ok (.aload_n 0, 1) := by decide +kernel
theorem dL_pieces_534 : decode cL_pieces 534 = .ok (.iconst 4, 1) := by decide +kernel
theorem dL_pieces_535 : decode cL_pieces 535 = .ok (.iconst 1, 1) := by decide +kernel
theorem dL_pieces_536 : decode cL_pieces 536 = .ok (.iconst 3, 1) := by decide +kernel
theorem dL_pieces_537 : decode cL_pieces 537 = .ok (.invokevirtual 23, 3) := by decide +kernel
theorem dL_pieces_540 : decode cL_pieces 540 = .ok (.iconst 1, 1) := by decide +kernel
theorem dL_pieces_541 : decode cL_pieces 541 = .ok (.if_icmp .ne 7, 3) := by decide +kernel
theorem dL_pieces_544 : decode cL_pieces 544 = .ok (.iconst 1, 1) := by decide +kernel
theorem dL_pieces_545 : decode cL_pieces 545 = .ok (.goto 4, 3) := by decide +kernel
theorem dL_pieces_548 : decode cL_pieces 548 = .ok (.iconst 0, 1) := by decide +kernel
theorem dL_pieces_549 : decode cL_pieces 549 = .ok (.ireturn, 1) := by decide +kernel

