set_option maxRecDepth 20000 in
theorem ggL_faultOf_X5_init : GoodIn wsL_faultOf wsX5_init := goodIn_r _ [6, 7, 8, 9, 10, 11, 12, 13, 14, 15, 16, 17, 18, 19, 20, 21, 22, 23, 24, 25, 26, 27, 28, 29, 30, 31, 32, 33, 34, 35, 36, 37, 38, 39, 40, 41, 42, 43, 44, 45, 46, 47, 48, 49, 50, 332, 333, 334, 335, 336, 337, 338, 339, 340, 341, 326, 327, 328, 329, 330, 331, 342, 343, 344, 345, 346, 347, 348, 349] (by decide +kernel) (by decide +kernel)
set_option maxRecDepth 20000 in
theorem gL_faultOf_X5_init : GoodIn wsL_faultOf (wsX5_init) := ggL_faultOf_X5_init
set_option maxRecDepth 20000 in
theorem ggL_faultOf_X5_put : GoodIn wsL_faultOf wsX5_put := goodIn_r _ [54, 25, 55, 56, 24, 57, 58, 59, 60, 61, 62, 63, 64, 65, 66, 67, 68, 69, 49, 326, 327, 328, 329, 330, 331, 345, 346, 347, 348, 349] (by decide +kernel) (by decide +kernel)
set_option maxRecDepth 20000 in
theorem gL_faultOf_X5_put : GoodIn wsL_faultOf (wsV RL 70 RX5 yX5_put wsX5_put) := goodIn_app (goodIn_of _ (by decide +kernel)) ggL_faultOf_X5_put
set_option maxRecDepth 20000 in
theorem ggL_faultOf_X5_fault : GoodIn wsL_faultOf wsX5_fault := goodIn_r _ [73, 25, 74, 75, 76, 24, 77, 78, 79, 65, 80, 81, 82, 83, 84, 85, 86, 87, 88, 89, 90, 91, 92, 93, 94, 95, 96, 97, 98, 99, 49, 100, 101, 102, 103, 104, 105, 106, 107, 50, 108, 109, 110, 111, 326, 327, 328, 329, 330, 331, 345, 346, 347, 348, 349] (by decide +kernel) (by decide +kernel)
set_option maxRecDepth 20000 in
theorem gL_faultOf_X5_fault : GoodIn wsL_faultOf (wsV RL 85 RX5 yX5_fault wsX5_fault) := goodIn_app (goodIn_of _ (by decide +kernel)) ggL_faultOf_X5_fault
set_option maxRecDepth 20000 in
theorem ggL_faultOf_X5_count : GoodIn wsL_faultOf wsX5_count := goodIn_r _ [115, 13, 25, 18, 116, 117, 118, 12, 119, 33, 120, 121, 122, 123, 124, 125, 126, 127, 128, 129, 130, 131, 36, 132, 133, 134, 135, 136, 137, 138, 139, 140, 141, 142, 143, 144, 145, 146, 147, 148, 149, 150, 151, 152, 153, 32, 154, 155, 156, 157, 158, 159, 160, 161, 162, 163, 164, 165, 166, 167, 168, 169, 34, 170, 171, 110, 172, 173, 174, 175, 176, 177, 178, 179, 180, 181, 182, 183, 184, 185, 186, 187, 188, 189, 190, 61, 62, 63, 24, 64, 65, 191, 192, 193, 17, 194, 195, 196, 197, 198, 199, 31, 326, 327, 328, 329, 330, 331, 332, 333, 334, 335, 336, 337, 338, 339, 340, 341, 345, 346, 347, 348, 349, 342, 343, 344] (by decide +kernel) (by decide +kernel)
set_option maxRecDepth 20000 in
theorem gL_faultOf_X5_count : GoodIn wsL_faultOf (wsV RL 13 RX5 yX5_count wsX5_count) := goodIn_app (goodIn_of _ (by decide +kernel)) ggL_faultOf_X5_count
set_option maxRecDepth 20000 in
theorem ggL_faultOf_X5_carryOut : GoodIn wsL_faultOf wsX5_carryOut := goodIn_r _ [203, 25, 18, 13, 74, 75, 76, 24, 77, 78, 79, 65, 80, 81, 82, 83, 84, 85, 86, 87, 88, 89, 90, 91, 92, 93, 94, 95, 96, 97, 98, 99, 49, 100, 101, 102, 103, 104, 105, 106, 107, 50, 108, 109, 110, 111, 204, 205, 206, 17, 207, 208, 43, 195, 209, 210, 211, 212, 213, 214, 12, 215, 31, 32, 33, 34, 35, 36, 37, 127, 136, 141, 216, 217, 218, 219, 220, 221, 222, 223, 224, 225, 226, 227, 228, 229, 230, 231, 232, 233, 234, 235, 236, 237, 238, 239, 162, 163, 164, 165, 240, 241, 242, 243, 166, 167, 168, 169, 244, 245, 246, 247, 248, 249, 250, 251, 197, 198, 199, 252, 253, 254, 255, 256, 257, 258, 173, 174, 175, 176, 177, 178, 259, 260, 261, 262, 263, 170, 171, 172, 264, 183, 184, 265, 186, 187, 266, 267, 268, 269, 270, 271, 272, 273, 274, 275, 276, 277, 278, 279, 280, 156, 281, 282, 283, 284, 285, 286, 287, 288, 289, 290, 291, 292, 293, 294, 295, 296, 297, 298, 299, 300, 301, 302, 303, 304, 305, 306, 307, 308, 309, 310, 182, 185, 311, 312, 313, 314, 315, 316, 317, 318, 179, 180, 181, 319, 320, 321, 322, 323, 324, 325, 326, 327, 328, 329, 330, 331, 345, 346, 347, 348, 349, 342, 343, 344, 332, 333, 334, 335, 336, 337, 338, 339, 340, 341] (by decide +kernel) (by decide +kernel)
set_option maxRecDepth 20000 in
theorem gL_faultOf_X5_carryOut : GoodIn wsL_faultOf (wsV RL 89 RX5 yX5_carryOut wsX5_carryOut) := goodIn_app (goodIn_of _ (by decide +kernel)) ggL_faultOf_X5_carryOut
theorem dL_faultOf_0 : decode cL_faultOf 0 = .ok (.new 14, 3) := by decide +kernel
theorem dL_faultOf_3 : decode cL_faultOf 3 = .ok (.dup, 1) := by decide +kernel
theorem dL_faultOf_4 : decode cL_faultOf 4 = .ok (.invokespecial 84, 3) := by decide +kernel
theorem dL_faultOf_7 : decode cL_faultOf 7 = .ok (.astore 4, 2) := by decide +kernel
theorem dL_faultOf_9 : decode cL_faultOf 9 = .ok (.lload_n 0, 1) := by decide +kernel
theorem dL_faultOf_10 : decode cL_faultOf 10 = .ok (.lconst 0, 1) := by decide +kernel
theorem dL_faultOf_11 : decode cL_faultOf 11 = .ok (.lcmp, 1) := by decide +kernel
theorem dL_faultOf_12 : decode cL_faultOf 12 = .ok (.ifCond .eq 12, 3) := by decide +kernel
theorem dL_faultOf_15 : decode cL_faultOf 15 = .ok (.aload 4, 2) := by decide +kernel
theorem dL_faultOf_17 : decode cL_faultOf 17 = .ok (.lload_n 0, 1) := by decide +kernel
theorem dL_faultOf_18 : decode cL_faultOf 18 = .ok (.invokevirtual 70, 3) := by decide +kernel
theorem dL_faultOf_21 : decode cL_faultOf 21 = .ok (.ifCond .lt 18, 3) := by decide +kernel
theorem dL_faultOf_24 : decode cL_faultOf 24 = .ok (.lload_n 2, 1) := by decide +kernel
theorem dL_faultOf_25 : decode cL_faultOf 25 = .ok (.lconst 0, 1) := by decide +kernel
theorem dL_faultOf_26 : decode cL_faultOf 26 = .ok (.lcmp, 1) := by decide +kernel
theorem dL_faultOf_27 : decode cL_faultOf 27 = .ok (.ifCond .eq 15, 3) := by decide +kernel
theorem dL_faultOf_30 : decode cL_faultOf 30 = .ok (.aload 4, 2) := by decide +kernel
theorem dL_faultOf_32 : decode cL_faultOf 32 = .ok (.lload_n 2, 1) := by decide +kernel
theorem dL_faultOf_33 : decode cL_faultOf 33 = .ok (.invokevirtual 70, 3) := by decide +kernel
theorem dL_faultOf_36 : decode cL_faultOf 36 = .ok (.ifCond .ge 6, 3) := by decide +kernel
theorem dL_faultOf_39 : decode cL_faultOf 39 = .ok (.bipush (-9), 2) := by decide +kernel
theorem dL_faultOf_41 : decode cL_faultOf 41 = .ok (.ireturn, 1) := by decide +kernel
theorem dL_faultOf_42 : decode cL_faultOf 42 = .ok (.aload 4, 2) := by decide +kernel
theorem dL_faultOf_44 : decode cL_faultOf 44 = .ok (.invokevirtual 85, 3) := by decide +kernel
theorem dL_faultOf_47 : decode cL_faultOf 47 = .ok (.istore 5, 2) := by decide +kernel
theorem dL_faultOf_49 : decode cL_faultOf 49 = .ok (.aload 4, 2) := by decide +kernel
theorem dL_faultOf_51 : decode cL_faultOf 51 = .ok (.bipush 6, 2) := by decide +kernel
theorem dL_faultOf_53 : decode cL_faultOf 53 = .ok (.invokevirtual 13, 3) := by decide +kernel
theorem dL_faultOf_56 : decode cL_faultOf 56 = .ok (.istore 6, 2) := by decide +kernel
theorem dL_faultOf_58 : decode cL_faultOf 58 = .ok (.iload 5, 2) := by decide +kernel
theorem dL_faultOf_60 : decode cL_faultOf 60 = .ok (.bipush (-6), 2) := by decide +kernel
theorem dL_faultOf_62 : decode cL_faultOf 62 = .ok (.if_icmp .eq 43, 3) := by decide +kernel
theorem dL_faultOf_65 : decode cL_faultOf 65 = .ok (.aload 4, 2) := by decide +kernel
theorem dL_faultOf_67 : decode cL_faultOf 67 = .ok (.invokevirtual 89, 3) := by decide +kernel
theorem dL_faultOf_70 : decode cL_faultOf 70 = .ok (.bipush (-3), 2) := by decide +kernel
theorem dL_faultOf_72 : decode cL_faultOf 72 = .ok (.if_icmp .ne 30, 3) := by decide +kernel
theorem dL_faultOf_75 : decode cL_faultOf 75 = .ok (.aload 4, 2) := by decide +kernel
theorem dL_faultOf_77 : decode cL_faultOf 77 = .ok (.bipush 6, 2) := by decide +kernel
theorem dL_faultOf_79 : decode cL_faultOf 79 = .ok (.invokevirtual 13, 3) := by decide +kernel
theorem dL_faultOf_82 : decode cL_faultOf 82 = .ok (.iload 6, 2) := by decide +kernel
theorem dL_faultOf_84 : decode cL_faultOf 84 = .ok (.if_icmp .ne 18, 3) := by decide +kernel
theorem dL_faultOf_87 : decode cL_faultOf 87 = .ok (.aload 4, 2) := by decide +kernel
theorem dL_faultOf_89 : decode cL_faultOf 89 = .ok (.bipush 7, 2) := by decide +kernel
theorem dL_faultOf_91 : decode cL_faultOf 91 = .ok (.invokevirtual 13, 3) := by decide +kernel
theorem dL_faultOf_94 : decode cL_faultOf 94 = .ok (.ifCond .ne 8, 3) := by decide +kernel
theorem dL_faultOf_97 : decode cL_faultOf 97 = .ok (.iload 5, 2) := by decide +kernel
theorem dL_faultOf_99 : decode cL_faultOf 99 = .ok (.goto 5, 3) := by decide +kernel
theorem dL_faultOf_102 : decode cL_faultOf 102 = .ok (.bipush (-9), 2) := by decide +kernel
theorem dL_faultOf_104 : decode cL_faultOf 104 = .ok (.ireturn, 1) := by decide +kernel
theorem dL_faultOf_105 : decode cL_faultOf 105 = .ok (.aload 4, 2) := by decide +kernel
theorem dL_faultOf_107 : decode cL_faultOf 107 = .ok (.invokevirtual 89, 3) := by decide +kernel
theorem dL_faultOf_110 : decode cL_faultOf 110 = .ok (.ifCond .le 37, 3) := by decide +kernel
theorem dL_faultOf_113 : decode cL_faultOf 113 = .ok (.aload 4, 2) := by decide +kernel
theorem dL_faultOf_115 : decode cL_faultOf 115 = .ok (.bipush 6, 2) := by decide +kernel
theorem dL_faultOf_117 : decode cL_faultOf 117 = .ok (.invokevirtual 13, 3) := by decide +kernel
theorem dL_faultOf_120 : decode cL_faultOf 120 = .ok (.ifCond .ne 27, 3) := by decide +kernel
theorem dL_faultOf_123 : decode cL_faultOf 123 = .ok (.aload 4, 2) := by decide +kernel
theorem dL_faultOf_125 : decode cL_faultOf 125 = .ok (.bipush 7, 2) := by decide +kernel
theorem dL_faultOf_127 : decode cL_faultOf 127 = .ok (.invokevirtual 13, 3) := by decide +kernel
theorem dL_faultOf_130 : decode cL_faultOf 130 = .ok (.iconst 1, 1) := by decide +kernel
theorem dL_faultOf_131 : decode cL_faultOf 131 = .ok (.if_icmp .ne 16, 3) := by decide +kernel
theorem dL_faultOf_134 : decode cL_faultOf 134 = .ok (.aload 4, 2) := by decide +kernel
theorem dL_faultOf_136 : decode cL_faultOf 136 = .ok (.invokevirtual 85, 3) := by decide +kernel
theorem dL_faultOf_139 : decode cL_faultOf 139 = .ok (.ifCond .ne 8, 3) := by decide +kernel
theorem dL_faultOf_142 : decode cL_faultOf 142 = .ok (.iload 5, 2) := by decide +kernel
theorem dL_faultOf_144 : decode cL_faultOf 144 = .ok (.goto 5, 3) := by decide +kernel
theorem dL_faultOf_147 : decode cL_faultOf 147 = .ok (.bipush (-9), 2) := by decide +kernel
theorem dL_faultOf_149 : decode cL_faultOf 149 = .ok (.ireturn, 1) := by decide +kernel
set_option maxRecDepth 20000 in
theorem gL_texts_L_faultOf : GoodIn wsL_texts (va_wsS RL 92 yL_faultOf wsL_faultOf) := goodIn_app (goodIn_of _ (by decide +kernel)) ggL_texts_L_faultOf
set_option maxRecDepth 20000 in
theorem ggL_texts_X5_init : GoodIn wsL_texts wsX5_init := goodIn_r _ [41, 42, 43, 44, 45, 46, 47, 48, 49, 50, 51, 52, 53, 54, 55, 56, 57, 58, 59, 60, 61, 62, 63, 64, 65, 66, 67, 68, 69, 70, 71, 72, 73, 74, 75, 76, 77, 78, 79, 80, 81, 82, 83, 84, 85, 532, 533, 534, 535, 536, 537, 538, 539, 540, 541, 526, 527, 528, 529, 530, 531, 542, 543, 544, 545, 546, 547, 548, 549] (by decide +kernel) (by decide +kernel)
set_option maxRecDepth 20000 in
theorem gL_texts_X5_init : GoodIn wsL_texts (wsX5_init) := ggL_texts_X5_init
set_option maxRecDepth 20000 in
theorem ggL_texts_X5_put : GoodIn wsL_texts wsX5_put := goodIn_r _ [89, 60, 90, 91, 59, 92, 93, 94, 95, 96, 97, 98, 99, 100, 101, 102, 103, 104, 84, 526, 527, 528, 529, 530, 531, 545, 546, 547, 548, 549] (by decide +kernel) (by decide +kernel)
set_option maxRecDepth 20000 in
theorem gL_texts_X5_put : GoodIn wsL_texts (wsV RL 70 RX5 yX5_put wsX5_put) := goodIn_app (goodIn_of _ (by decide +kernel)) ggL_texts_X5_put
set_option maxRecDepth 20000 in
theorem ggL_texts_X5_fault : GoodIn wsL_texts wsX5_fault := goodIn_r _ [108, 60, 109, 110, 111, 59, 112, 113, 114, 100, 115, 116, 117, 118, 119, 120, 121, 122, 123, 124, 125, 126, 127, 128, 129, 130, 131, 132, 133, 134, 84, 135, 136, 137, 138, 139, 140, 141, 142, 85, 143, 144, 145, 146, 526, 527, 528, 529, 530, 531, 545, 546, 547, 548, 549] (by decide +kernel) (by decide +kernel)
set_option maxRecDepth 20000 in
theorem gL_texts_X5_fault : GoodIn wsL_texts (wsV RL 85 RX5 yX5_fault wsX5_fault) := goodIn_app (goodIn_of _ (by decide +kernel)) ggL_texts_X5_fault
set_option maxRecDepth 20000 in
theorem ggL_texts_X5_carryOut : GoodIn wsL_texts wsX5_carryOut := goodIn_r _ [238, 60, 53, 48, 109, 110, 111, 59, 112, 113, 114, 100, 115, 116, 117, 118, 119, 120, 121, 122, 123, 124, 125, 126, 127, 128, 129, 130, 131, 132, 133, 134, 84, 135, 136, 137, 138, 139, 140, 141, 142, 85, 143, 144, 145, 146, 239, 240, 241, 52, 242, 243, 78, 230, 244, 245, 246, 247, 248, 249, 47, 250, 66, 67, 68, 69, 70, 71, 72, 162, 171, 176, 251, 252, 253, 254, 255, 256, 257, 258, 259, 260, 261, 262, 263, 264, 265, 266, 267, 268, 269, 270, 271, 272, 273, 274, 197, 198, 199, 200, 275, 276, 277, 278, 201, 202, 203, 204, 279, 280, 281, 282, 283, 284, 285, 286, 232, 233, 234, 287, 288, 289, 290, 291, 292, 293, 208, 209, 210, 211, 212, 213, 294, 295, 296, 297, 298, 205, 206, 207, 299, 218, 219, 300, 221, 222, 301, 302, 303, 304, 305, 306, 307, 308, 309, 310, 311, 312, 313, 314, 315, 191, 316, 317, 318, 319, 320, 321, 322, 323, 324, 325, 326, 327, 328, 329, 330, 331, 332, 333, 334, 335, 336, 337, 338, 339, 340, 341, 342, 343, 344, 345, 217, 220, 346, 347, 348, 349, 350, 351, 352, 353, 214, 215, 216, 354, 355, 356, 357, 358, 359, 360, 526, 527, 528, 529, 530, 531, 545, 546, 547, 548, 549, 542, 543, 544, 532, 533, 534, 535, 536, 537, 538, 539, 540, 541] (by decide +kernel) (by decide +kernel)
set_option maxRecDepth 20000 in
theorem gL_texts_X5_carryOut : GoodIn wsL_texts (wsV RL 89 RX5 yX5_carryOut wsX5_carryOut) := goodIn_app (goodIn_of _ (by decide +kernel)) ggL_texts_X5_carryOut
set_option maxRecDepth 20000 in
theorem ggL_texts_X5_count : GoodIn wsL_texts wsX5_count := goodIn_r _ [150, 48, 60, 53, 151, 152, 153, 47, 154, 68, 155, 156, 157, 158, 159, 160, 161, 162, 163, 164, 165, 166, 71, 167, 168, 169, 170, 171, 172, 173, 174, 175, 176, 177, 178, 179, 180, 181, 182, 183, 184, 185, 186, 187, 188, 67, 189, 190, 191, 192, 193, 194, 195, 196, 197, 198, 199, 200, 201, 202, 203, 204, 69, 205, 206, 145, 207, 208, 209, 210, 211, 212, 213, 214, 215, 216, 217, 218, 219, 220, 221, 222, 223, 224, 225, 96, 97, 98, 59, 99, 100, 226, 227, 228, 52, 229, 230, 231, 232, 233, 234, 66, 526, 527, 528, 529, 530, 531, 532, 533, 534, 535, 536, 537, 538, 539, 540, 541, 545, 546, 547, 548, 549, 542, 543, 544] (by decide +kernel) (by decide +kernel)
set_option maxRecDepth 20000 in
theorem gL_texts_X5_count : GoodIn wsL_texts (wsV RL 13 RX5 yX5_count wsX5_count) := goodIn_app (goodIn_of _ (by decide +kernel)) ggL_texts_X5_count
set_option maxRecDepth 20000 in
theorem ggL_texts_X5_stone : GoodIn wsL_texts wsX5_stone := goodIn_r _ [364, 48, 365, 366, 29, 367, 368, 198, 199, 47, 200, 68, 369, 202, 203, 204, 69, 370, 218, 145, 219, 371, 209, 210, 372, 212, 213, 373, 221, 222, 526, 527, 528, 529, 530, 531, 532, 533, 534, 535, 536, 537, 538, 539, 540, 541] (by decide +kernel) (by decide +kernel)
set_option maxRecDepth 20000 in
theorem gL_texts_X5_stone : GoodIn wsL_texts (wsV RL 23 RX5 yX5_stone wsX5_stone) := goodIn_app (goodIn_of _ (by decide +kernel)) ggL_texts_X5_stone
set_option maxRecDepth 20000 in
theorem ggL_texts_X5_ofKey : GoodIn wsL_texts wsX5_ofKey := goodIn_r _ [377, 48, 378, 379, 29, 380, 381, 186, 187, 47, 188, 67, 382, 182, 183, 184, 185, 189, 190, 191, 192, 193, 194, 195, 196, 197, 198, 199, 200, 68, 201, 202, 203, 204, 69, 205, 206, 145, 207, 208, 209, 210, 211, 212, 213, 214, 215, 216, 217, 218, 219, 220, 221, 222, 223, 224, 225, 383, 384, 385, 386, 329, 330, 331, 332, 387, 388, 389, 390, 526, 527, 528, 529, 530, 531, 532, 533, 534, 535, 536, 537, 538, 539, 540, 541] (by decide +kernel) (by decide +kernel)
set_option maxRecDepth 20000 in
theorem gL_texts_X5_ofKey : GoodIn wsL_texts (wsV RL 27 RX5 yX5_ofKey wsX5_ofKey) := goodIn_app (goodIn_of _ (by decide +kernel)) ggL_texts_X5_ofKey
set_option maxRecDepth 20000 in
theorem ggL_texts_X5_wipe : GoodIn wsL_texts wsX5_wipe := goodIn_r _ [394, 60, 96, 97, 98, 59, 99, 100, 357, 358, 359, 360, 526, 527, 528, 529, 530, 531, 545, 546, 547, 548, 549] (by decide +kernel) (by decide +kernel)
set_option maxRecDepth 20000 in
theorem gL_texts_X5_wipe : GoodIn wsL_texts (wsV RL 158 RX5 yX5_wipe wsX5_wipe) := goodIn_app (goodIn_of _ (by decide +kernel)) ggL_texts_X5_wipe
set_option maxRecDepth 20000 in
theorem ggL_texts_X5_undo : GoodIn wsL_texts wsX5_undo := goodIn_r _ [398, 53, 48, 226, 227, 228, 52, 229, 230, 399, 400, 401, 402, 243, 78, 247, 248, 249, 47, 250, 66, 67, 68, 69, 70, 71, 72, 162, 171, 176, 251, 252, 253, 254, 245, 125, 246, 255, 256, 257, 258, 526, 527, 528, 529, 530, 531, 542, 543, 544, 532, 533, 534, 535, 536, 537, 538, 539, 540, 541] (by decide +kernel) (by decide +kernel)
set_option maxRecDepth 20000 in
theorem gL_texts_X5_undo : GoodIn wsL_texts (wsV RL 161 RX5 yX5_undo wsX5_undo) := goodIn_app (goodIn_of _ (by decide +kernel)) ggL_texts_X5_undo
set_option maxRecDepth 20000 in
theorem gL_texts_L_refused : GoodIn wsL_texts (va_wsS RL 164 yL_refused wsL_refused) := goodIn_app (goodIn_of _ (by decide +kernel)) ggL_texts_L_refused
theorem dL_texts_0 : decode cL_texts 0 = .ok (.lconst 0, 1) := by decide +kernel
theorem dL_texts_1 : decode cL_texts 1 = .ok (.lconst 0, 1) := by decide +kernel
theorem dL_texts_2 : decode cL_texts 2 = .ok (.invokestatic 92, 3) := by decide +kernel
theorem dL_texts_5 : decode cL_texts 5 = .ok (.ifCond .ne 58, 3) := by decide +kernel
theorem dL_texts_8 : decode cL_texts 8 = .ok (.ldc2_w 96, 3) := by decide +kernel
theorem dL_texts_11 : decode cL_texts 11 = .ok (.lconst 0, 1) := by decide +kernel
theorem dL_texts_12 : decode cL_texts 12 = .ok (.invokestatic 92, 3) := by decide +kernel
theorem dL_texts_15 : decode cL_texts 15 = .ok (.iconst 1, 1) := by decide +kernel
theorem dL_texts_16 : decode cL_texts 16 = .ok (.if_icmp .ne 47, 3) := by decide +kernel
theorem dL_texts_19 : decode cL_texts 19 = .ok (.ldc2_w 98, 3) := by decide +kernel
theorem dL_texts_22 : decode cL_texts 22 = .ok (.lconst 0, 1) := by decide +kernel
theorem dL_texts_23 : decode cL_texts 23 = .ok (.invokestatic 92, 3) := by decide +kernel
theorem dL_texts_26 : decode cL_texts 26 = .ok (.iconst 1, 1) := by decide +kernel
theorem dL_texts_27 : decode cL_texts 27 = .ok (.if_icmp .ne 36, 3) := by decide +kernel
theorem dL_texts_30 : decode cL_texts 30 = .ok (.ldc2_w 100, 3) := by decide +kernel
theorem dL_texts_33 : decode cL_texts 33 = .ok (.lconst 0, 1) := by decide +kernel
theorem dL_texts_34 : decode cL_texts 34 = .ok (.invokestatic 92, 3) := by decide +kernel
theorem dL_texts_37 : decode cL_texts 37 = .ok (.iconst 1, 1) := by decide +kernel
theorem dL_texts_38 : decode cL_texts 38 = .ok (.if_icmp .ne 25, 3) := by decide +kernel
theorem dL_texts_41 : decode cL_texts 41 = .ok (.ldc2_w 102, 3) := by decide +kernel
theorem dL_texts_44 : decode cL_texts 44 = .ok (.lconst 0, 1) := by decide +kernel
theorem dL_texts_45 : decode cL_texts 45 = .ok (.invokestatic 92, 3) := by decide +kernel
theorem dL_texts_48 : decode cL_texts 48 = .ok (.iconst 5, 1) := by decide +kernel
theorem dL_texts_49 : decode cL_texts 49 = .ok (.if_icmp .ne 14, 3) := by decide +kernel
theorem dL_texts_52 : decode cL_texts 52 = .ok (.ldc2_w 104, 3) := by decide +kernel
theorem dL_texts_55 : decode cL_texts 55 = .ok (.lconst 0, 1) := by decide +kernel
theorem dL_texts_56 : decode cL_texts 56 = .ok (.invokestatic 92, 3) := by decide +kernel
theorem dL_texts_59 : decode cL_texts 59 = .ok (.iconst 3, 1) := by decide +kernel
theorem dL_texts_60 : decode cL_texts 60 = .ok (.if_icmp .eq 5, 3) := by decide +kernel
theorem dL_texts_63 : decode cL_texts 63 = .ok (.iconst 0, 1) := by decide +kernel
theorem dL_texts_64 : decode cL_texts 64 = .ok (.ireturn, 1) := by decide +kernel
theorem dL_texts_65 : decode cL_texts 65 = .ok (.ldc2_w 106, 3) := by decide +kernel
theorem dL_texts_68 : decode cL_texts 68 = .ok (.lconst 0, 1) := by decide +kernel
theorem dL_texts_69 : decode cL_texts 69 = .ok (.invokestatic 92, 3) := by decide +kernel
theorem dL_texts_72 : decode cL_texts 72 = .ok (.iconst 3, 1) := by decide +kernel
theorem dL_texts_73 : decode cL_texts 73 = .ok (.if_icmp .ne 59, 3) := by decide +kernel
theorem dL_texts_76 : decode cL_texts 76 = .ok (.ldc2_w 108, 3) := by decide +kernel
theorem dL_texts_79 : decode cL_texts 79 = .ok (.lconst 0, 1) := by decide +kernel
theorem dL_texts_80 : decode cL_texts 80 = .ok (.invokestatic 92, 3) := by decide +kernel
theorem dL_texts_83 : decode cL_texts 83 = .ok (.iconst 3, 1) := by decide +kernel
theorem dL_texts_84 : decode cL_texts 84 = .ok (.if_icmp .ne 48, 3) := by decide +kernel
theorem dL_texts_87 : decode cL_texts 87 = .ok (.ldc2_w 110, 3) := by decide +kernel
theorem dL_texts_90 : decode cL_texts 90 = .ok (.lconst 0, 1) := by decide +kernel
theorem dL_texts_91 : decode cL_texts 91 = .ok (.invokestatic 92, 3) := by decide +kernel
theorem dL_texts_94 : decode cL_texts 94 = .ok (.iconst 4, 1) := by decide +kernel
theorem dL_texts_95 : decode cL_texts 95 = .ok (.if_icmp .ne 37, 3) := by decide +kernel
theorem dL_texts_98 : decode cL_texts 98 = .ok (.ldc2_w 112, 3) := by decide +kernel
theorem dL_texts_101 : decode cL_texts 101 = .ok (.lconst 0, 1) := by decide +kernel
theorem dL_texts_102 : decode cL_texts 102 = .ok (.invokestatic 92, 3) := by decide +kernel
theorem dL_texts_105 : decode cL_texts 105 = .ok (.iconst 4, 1) := by decide +kernel
theorem dL_texts_106 : decode cL_texts 106 = .ok (.if_icmp .ne 26, 3) := by decide +kernel
theorem dL_texts_109 : decode cL_texts 109 = .ok (.ldc2_w 114, 3) := by decide +kernel
theorem dL_texts_112 : decode cL_texts 112 = .ok (.lconst 0, 1) := by decide +kernel
theorem dL_texts_113 : decode cL_texts 113 = .ok (.invokestatic 92, 3) := by decide +kernel
theorem dL_texts_116 : decode cL_texts 116 = .ok (.iconst 5, 1) := by decide +kernel
theorem dL_texts_117 : decode cL_texts 117 = .ok (.if_icmp .ne 15, 3) := by decide +kernel
theorem dL_texts_120 : decode cL_texts 120 = .ok (.ldc2_w 116, 3) := by decide +kernel
theorem dL_texts_123 : decode cL_texts 123 = .ok (.lconst 0, 1) := by decide +kernel
theorem dL_texts_124 : decode cL_texts 124 = .ok (.invokestatic 92, 3) := by decide +kernel
theorem dL_texts_127 : decode cL_texts 127 = .ok (.bipush (-6), 2) := by decide +kernel
theorem dL_texts_129 : decode cL_texts 129 = .ok (.if_icmp .eq 5, 3) := by decide +kernel
theorem dL_texts_132 : decode cL_texts 132 = .ok (.iconst 0, 1) := by decide +kernel
theorem dL_texts_133 : decode cL_texts 133 = .ok (.ireturn, 1) := by decide +kernel
theorem dL_texts_134 : decode cL_texts 134 = .ok (.ldc2_w 118, 3) := by decide +kernel
theorem dL_texts_137 : decode cL_texts 137 = .ok (.lconst 0, 1) := by decide +kernel
theorem dL_texts_138 : decode cL_texts 138 = .ok (.invokestatic 92, 3) := by decide +kernel
theorem dL_texts_141 : decode cL_texts 141 = .ok (.bipush (-6), 2) := by decide +kernel
theorem dL_texts_143 : decode cL_texts 143 = .ok (.if_icmp .ne 58, 3) := by decide +kernel
theorem dL_texts_146 : decode cL_texts 146 = .ok (.ldc2_w 120, 3) := by decide +kernel
theorem dL_texts_149 : decode cL_texts 149 = .ok (.lconst 0, 1) := by decide +kernel
theorem dL_texts_150 : decode cL_texts 150 = .ok (.invokestatic 92, 3) := by decide +kernel
theorem dL_texts_153 : decode cL_texts 153 = .ok (.iconst 1, 1) := by decide +kernel
theorem dL_texts_154 : decode cL_texts 154 = .ok (.if_icmp .ne 47, 3) := by decide +kernel
theorem dL_texts_157 : decode cL_texts 157 = .ok (.ldc2_w 122, 3) := by decide +kernel
theorem dL_texts_160 : decode cL_texts 160 = .ok (.lconst 0, 1) := by decide +kernel
theorem dL_texts_161 : decode cL_texts 161 = .ok (.invokestatic 92, 3) := by decide +kernel
theorem dL_texts_164 : decode cL_texts 164 = .ok (.iconst 4, 1) := by decide +kernel
theorem dL_texts_165 : decode cL_texts 165 = .ok (.if_icmp .ne 36, 3) := by decide +kernel
theorem dL_texts_168 : decode cL_texts 168 = .ok (.ldc2_w 124, 3) := by decide +kernel
theorem dL_texts_171 : decode cL_texts 171 = .ok (.lconst 0, 1) := by decide +kernel
theorem dL_texts_172 : decode cL_texts 172 = .ok (.invokestatic 92, 3) := by decide +kernel
theorem dL_texts_175 : decode cL_texts 175 = .ok (.iconst 4, 1) := by decide +kernel
theorem dL_texts_176 : decode cL_texts 176 = .ok (.if_icmp .ne 25, 3) := by decide +kernel
theorem dL_texts_179 : decode cL_texts 179 = .ok (.ldc2_w 126, 3) := by decide +kernel
theorem dL_texts_182 : decode cL_texts 182 = .ok (.lconst 0, 1) := by decide +kernel
theorem dL_texts_183 : decode cL_texts 183 = .ok (.invokestatic 92, 3) := by decide +kernel
theorem dL_texts_186 : decode cL_texts 186 = .ok (.iconst 2, 1) := by decide +kernel
theorem dL_texts_187 : decode cL_texts 187 = .ok (.if_icmp .ne 14, 3) := by decide +kernel
theorem dL_texts_190 : decode cL_texts 190 = .ok (.ldc2_w 128, 3) := by decide +kernel
theorem dL_texts_193 : decode cL_texts 193 = .ok (.lconst 0, 1) := by decide +kernel
theorem dL_texts_194 : decode cL_texts 194 = .ok (.invokestatic 92, 3) := by decide +kernel
theorem dL_texts_197 : decode cL_texts 197 = .ok (.iconst 2, 1) := by decide +kernel
theorem dL_texts_198 : decode cL_texts 198 = .ok (.if_icmp .eq 5, 3) := by decide +kernel
theorem dL_texts_201 : decode cL_texts 201 = .ok (.iconst 0, 1) := by decide +kernel
theorem dL_texts_202 : decode cL_texts 202 = .ok (.ireturn, 1) := by decide +kernel
theorem dL_texts_203 : decode cL_texts 203 = .ok (.ldc2_w 130, 3) := by decide +kernel
theorem dL_texts_206 : decode cL_texts 206 = .ok (.lconst 0, 1) := by decide +kernel
theorem dL_texts_207 : decode cL_texts 207 = .ok (.invokestatic 92, 3) := by decide +kernel
theorem dL_texts_210 : decode cL_texts 210 = .ok (.iconst 3, 1) := by decide +kernel
theorem dL_texts_211 : decode cL_texts 211 = .ok (.if_icmp .ne 91, 3) := by decide +kernel
theorem dL_texts_214 : decode cL_texts 214 = .ok (.ldc2_w 132, 3) := by decide +kernel
theorem dL_texts_217 : decode cL_texts 217 = .ok (.lconst 0, 1) := by decide +kernel
theorem dL_texts_218 : decode cL_texts 218 = .ok (.invokestatic 92, 3) := by decide +kernel
theorem dL_texts_221 : decode cL_texts 221 = .ok (.iconst 3, 1) := by decide +kernel
theorem dL_texts_222 : decode cL_texts 222 = .ok (.if_icmp .ne 80, 3) := by decide +kernel
theorem dL_texts_225 : decode cL_texts 225 = .ok (.ldc2_w 134, 3) := by decide +kernel
theorem dL_texts_228 : decode cL_texts 228 = .ok (.lconst 0, 1) := by decide +kernel
theorem dL_texts_229 : decode cL_texts 229 = .ok (.invokestatic 92, 3) := by decide +kernel
theorem dL_texts_232 : decode cL_texts 232 = .ok (.iconst 3, 1) := by decide +kernel
theorem dL_texts_233 : decode cL_texts 233 = .ok (.if_icmp .ne 69, 3) := by decide +kernel
theorem dL_texts_236 : decode cL_texts 236 = .ok (.ldc2_w 136, 3) := by decide +kernel
theorem dL_texts_239 : decode cL_texts 239 = .ok (.lconst 0, 1) := by decide +kernel
theorem dL_texts_240 : decode cL_texts 240 = .ok (.invokestatic 92, 3) := by decide +kernel
theorem dL_texts_243 : decode cL_texts 243 = .ok (.bipush (-6), 2) := by decide +kernel
theorem dL_texts_245 : decode cL_texts 245 = .ok (.if_icmp .ne 57, 3) := by decide +kernel
theorem dL_texts_248 : decode cL_texts 248 = .ok (.ldc2_w 138, 3) := by decide +kernel
theorem dL_texts_251 : decode cL_texts 251 = .ok (.lconst 0, 1) := by decide +kernel
theorem dL_texts_252 : decode cL_texts 252 = .ok (.invokestatic 92, 3) := by decide +kernel
theorem dL_texts_255 : decode cL_texts 255 = .ok (.bipush 7, 2) := by decide +kernel
theorem dL_texts_257 : decode cL_texts 257 = .ok (.if_icmp .ne 45, 3) := by decide +kernel
theorem dL_texts_260 : decode cL_texts 260 = .ok (.ldc2_w 140, 3) := by decide +kernel
theorem dL_texts_263 : decode cL_texts 263 = .ok (.lconst 0, 1) := by decide +kernel
theorem dL_texts_264 : decode cL_texts 264 = .ok (.invokestatic 92, 3) := by decide +kernel
theorem dL_texts_267 : decode cL_texts 267 = .ok (.ifCond .ne 35, 3) := by decide +kernel
theorem dL_texts_270 : decode cL_texts 270 = .ok (.ldc2_w 142, 3) := by decide +kernel
theorem dL_texts_273 : decode cL_texts 273 = .ok (.lconst 0, 1) := by decide +kernel
theorem dL_texts_274 : decode cL_texts 274 = .ok (.invokestatic 92, 3) := by decide +kernel
theorem dL_texts_277 : decode cL_texts 277 = .ok (.iconst 2, 1) := by decide +kernel
theorem dL_texts_278 : decode cL_texts 278 = .ok (.if_icmp .ne 24, 3) := by decide +kernel
theorem dL_texts_281 : decode cL_texts 281 = .ok (.ldc2_w 144, 3) := by decide +kernel
theorem dL_texts_284 : decode cL_texts 284 = .ok (.lconst 0, 1) := by decide +kernel
theorem dL_texts_285 : decode cL_texts 285 = .ok (.invokestatic 92, 3) := by decide +kernel
theorem dL_texts_288 : decode cL_texts 288 = .ok (.iconst 2, 1) := by decide +kernel
theorem dL_texts_289 : decode cL_texts 289 = .ok (.if_icmp .ne 13, 3) := by decide +kernel
theorem dL_texts_292 : decode cL_texts 292 = .ok (.ldc2_w 146, 3) := by decide +kernel
theorem dL_texts_295 : decode cL_texts 295 = .ok (.lconst 0, 1) := by decide +kernel
theorem dL_texts_296 : decode cL_texts 296 = .ok (.invokestatic 92, 3) := by decide +kernel
theorem dL_texts_299 : decode cL_texts 299 = .ok (.ifCond .eq 5, 3) := by decide +kernel
theorem dL_texts_302 : decode cL_texts 302 = .ok (.iconst 0, 1) := by decide +kernel
theorem dL_texts_303 : decode cL_texts 303 = .ok (.ireturn, 1) := by decide +kernel
theorem dL_texts_304 : decode cL_texts 304 = .ok (.new 14, 3) := by decide +kernel
theorem dL_texts_307 : decode cL_texts 307 = .ok (.dup, 1) := by decide +kernel
theorem dL_texts_308 : decode cL_texts 308 = .ok (.invokespecial 84, 3) := by decide +kernel
theorem dL_texts_311 : decode cL_texts 311 = .ok (.astore_n 0, 1) := by decide +kernel
theorem dL_texts_312 : decode cL_texts 312 = .ok (.aload_n 0, 1) := by decide +kernel
theorem dL_texts_313 : decode cL_texts 313 = .ok (.ldc2_w 148, 3) := by decide +kernel
theorem dL_texts_316 : decode cL_texts 316 = .ok (.invokevirtual 70, 3) := by decide +kernel
theorem dL_texts_319 : decode cL_texts 319 = .ok (.bipush 8, 2) := by decide +kernel
theorem dL_texts_321 : decode cL_texts 321 = .ok (.if_icmp .ne 118, 3) := by decide +kernel
theorem dL_texts_324 : decode cL_texts 324 = .ok (.aload_n 0, 1) := by decide +kernel
theorem dL_texts_325 : decode cL_texts 325 = .ok (.ldc2_w 150, 3) := by decide +kernel
theorem dL_texts_328 : decode cL_texts 328 = .ok (.invokevirtual 70, 3) := by decide +kernel
theorem dL_texts_331 : decode cL_texts 331 = .ok (.bipush 16, 2) := by decide +kernel
theorem dL_texts_333 : decode cL_texts 333 = .ok (.if_icmp .ne 106, 3) := by decide +kernel
theorem dL_texts_336 : decode cL_texts 336 = .ok (.aload_n 0, 1) := by decide +kernel
theorem dL_texts_337 : decode cL_texts 337 = .ok (.ldc2_w 152, 3) := by decide +kernel
theorem dL_texts_340 : decode cL_texts 340 = .ok (.invokevirtual 70, 3) := by decide +kernel
theorem dL_texts_343 : decode cL_texts 343 = .ok (.bipush 17, 2) := by decide +kernel
theorem dL_texts_345 : decode cL_texts 345 = .ok (.if_icmp .ne 94, 3) := by decide +kernel
theorem dL_texts_348 : decode cL_texts 348 = .ok (.aload_n 0, 1) := by decide +kernel
theorem dL_texts_349 : decode cL_texts 349 = .ok (.invokevirtual 85, 3) := by decide +kernel
theorem dL_texts_352 : decode cL_texts 352 = .ok (.bipush (-6), 2) := by decide +kernel
theorem dL_texts_354 : decode cL_texts 354 = .ok (.if_icmp .ne 85, 3) := by decide +kernel
theorem dL_texts_357 : decode cL_texts 357 = .ok (.aload_n 0, 1) := by decide +kernel
theorem dL_texts_358 : decode cL_texts 358 = .ok (.invokevirtual 89, 3) := by decide +kernel
theorem dL_texts_361 : decode cL_texts 361 = .ok (.iconst 3, 1) := by decide +kernel
theorem dL_texts_362 : decode cL_texts 362 = .ok (.if_icmp .ne 77, 3) := by decide +kernel
theorem dL_texts_365 : decode cL_texts 365 = .ok (.aload_n 0, 1) := by decide +kernel
theorem dL_texts_366 : decode cL_texts 366 = .ok (.iconst 0, 1) := by decide +kernel
theorem dL_texts_367 : decode cL_texts 367 = .ok (.invokevirtual 13, 3) := by decide +kernel
theorem dL_texts_370 : decode cL_texts 370 = .ok (.iconst 2, 1) := by decide +kernel
theorem dL_texts_371 : decode cL_texts 371 = .ok (.if_icmp .ne 68, 3) := by decide +kernel
theorem dL_texts_374 : decode cL_texts 374 = .ok (.aload_n 0, 1) := by decide +kernel
theorem dL_texts_375 : decode cL_texts 375 = .ok (.iconst 1, 1) := by decide +kernel
theorem dL_texts_376 : decode cL_texts 376 = .ok (.invokevirtual 13, 3) := by decide +kernel
theorem dL_texts_379 : decode cL_texts 379 = .ok (.iconst 3, 1) := by decide +kernel
theorem dL_texts_380 : decode cL_texts 380 = .ok (.if_icmp .ne 59, 3) := by decide +kernel
theorem dL_texts_383 : decode cL_texts 383 = .ok (.aload_n 0, 1) := by decide +kernel
theorem dL_texts_384 : decode cL_texts 384 = .ok (.iconst 0, 1) := by decide +kernel
theorem dL_texts_385 : decode cL_texts 385 = .ok (.iconst 0, 1) := by decide +kernel
theorem dL_texts_386 : decode cL_texts 386 = .ok (.iconst 3, 1) := by decide +kernel
theorem dL_texts_387 : decode cL_texts 387 = .ok (.invokevirtual 23, 3) := by decide +kernel
theorem dL_texts_390 : decode cL_texts 390 = .ok (.bipush 120, 2) := by decide +kernel
theorem dL_texts_392 : decode cL_texts 392 = .ok (.if_icmp .ne 47, 3) := by decide +kernel
theorem dL_texts_395 : decode cL_texts 395 = .ok (.aload_n 0, 1) := by decide +kernel
theorem dL_texts_396 : decode cL_texts 396 = .ok (.iconst 0, 1) := by decide +kernel
theorem dL_texts_397 : decode cL_texts 397 = .ok (.iconst 1, 1) := by decide +kernel
theorem dL_texts_398 : decode cL_texts 398 = .ok (.iconst 0, 1) := by decide +kernel
theorem dL_texts_399 : decode cL_texts 399 = .ok (.invokevirtual 23, 3) := by decide +kernel
theorem dL_texts_402 : decode cL_texts 402 = .ok (.iconst 1, 1) := by decide +kernel
theorem dL_texts_403 : decode cL_texts 403 = .ok (.if_icmp .ne 36, 3) := by decide +kernel
theorem dL_texts_406 : decode cL_texts 406 = .ok (.aload_n 0, 1) := by decide +kernel
theorem dL_texts_407 : decode cL_texts 407 = .ok (.iconst 0, 1) := by decide +kernel
theorem dL_texts_408 : decode cL_texts 408 = .ok (.iconst 1, 1) := by decide +kernel
theorem dL_texts_409 : decode cL_texts 409 = .ok (.iconst 2, 1) := by decide +kernel
theorem dL_texts_410 : decode cL_texts 410 = .ok (.invokevirtual 23, 3) := by decide +kernel
theorem dL_texts_413 : decode cL_texts 413 = .ok (.bipush 26, 2) := by decide +kernel
theorem dL_texts_415 : decode cL_texts 415 = .ok (.if_icmp .ne 24, 3) := by decide +kernel
theorem dL_texts_418 : decode cL_texts 418 = .ok (.aload_n 0, 1) := by decide +kernel
theorem dL_texts_419 : decode cL_texts 419 = .ok (.iconst 5, 1) := by decide +kernel
theorem dL_texts_420 : decode cL_texts 420 = .ok (.iconst 1, 1) := by decide +kernel
theorem dL_texts_421 : decode cL_texts 421 = .ok (.invokevirtual 27, 3) := by decide +kernel
theorem dL_texts_424 : decode cL_texts 424 = .ok (.bipush 121, 2) := by decide +kernel
theorem dL_texts_426 : decode cL_texts 426 = .ok (.if_icmp .ne 13, 3) := by decide +kernel
theorem dL_texts_429 : decode cL_texts 429 = .ok (.aload_n 0, 1) := by decide +kernel
theorem dL_texts_430 : decode cL_texts 430 = .ok (.bipush 7, 2) := by decide +kernel
theorem dL_texts_432 : decode cL_texts 432 = .ok (.invokevirtual 13, 3) := by decide +kernel
theorem dL_texts_435 : decode cL_texts 435 = .ok (.iconst 1, 1) := by decide +kernel
theorem dL_texts_436 : decode cL_texts 436 = .ok (.if_icmp .eq 5, 3) := by decide +kernel
theorem dL_texts_439 : decode cL_texts 439 = .ok (.iconst 0, 1) := by decide +kernel
theorem dL_texts_440 : decode cL_texts 440 = .ok (.ireturn, 1) := by decide +kernel
theorem dL_texts_441 : decode cL_texts 441 = .ok (.iconst 1, 1) := by decide +kernel
theorem dL_texts_442 : decode cL_texts 442 = .ok (.istore_n 1, 1) := by decide +kernel
theorem dL_texts_443 : decode cL_texts 443 = .ok (.iload_n 1, 1) := by decide +kernel
theorem dL_texts_444 : decode cL_texts 444 = .ok (.bipush 60, 2) := by decide +kernel
theorem dL_texts_446 : decode cL_texts 446 = .ok (.if_icmp .gt 22, 3) := by decide +kernel
theorem dL_texts_449 : decode cL_texts 449 = .ok (.aload_n 0, 1) := by decide +kernel
theorem dL_texts_450 : decode cL_texts 450 = .ok (.ldc2_w 154, 3) := by decide +kernel
theorem dL_texts_453 : decode cL_texts 453 = .ok (.invokevirtual 70, 3) := by decide +kernel
theorem dL_texts_456 : decode cL_texts 456 = .ok (.iload_n 1, 1) := by decide +kernel
theorem dL_texts_457 : decode cL_texts 457 = .ok (.if_icmp .eq 5, 3) := by decide +kernel
theorem dL_texts_460 : decode cL_texts 460 = .ok (.iconst 0, 1) := by decide +kernel
theorem dL_texts_461 : decode cL_texts 461 = .ok (.ireturn, 1) := by decide +kernel
theorem dL_texts_462 : decode cL_texts 462 = .ok (.iinc 1 1, 3) := by decide +kernel
theorem dL_texts_465 : decode cL_texts 465 = .ok (.goto (-22), 3) := by decide +kernel
theorem dL_texts_468 : decode cL_texts 468 = .ok (.aload_n 0, 1) := by decide +kernel
theorem dL_texts_469 : decode cL_texts 469 = .ok (.ldc2_w 154, 3) := by decide +kernel
theorem dL_texts_472 : decode cL_texts 472 = .ok (.invokevirtual 70, 3) := by decide +kernel
theorem dL_texts_475 : decode cL_texts 475 = .ok (.bipush (-4), 2) := by decide +kernel
theorem dL_texts_477 : decode cL_texts 477 = .ok (.if_icmp .ne 74, 3) := by decide +kernel
theorem dL_texts_480 : decode cL_texts 480 = .ok (.aload_n 0, 1) := by decide +kernel
theorem dL_texts_481 : decode cL_texts 481 = .ok (.ldc2_w 156, 3) := by decide +kernel
theorem dL_texts_484 : decode cL_texts 484 = .ok (.invokevirtual 70, 3) := by decide +kernel
theorem dL_texts_487 : decode cL_texts 487 = .ok (.bipush (-2), 2) := by decide +kernel
theorem dL_texts_489 : decode cL_texts 489 = .ok (.if_icmp .ne 62, 3) := by decide +kernel
theorem dL_texts_492 : decode cL_texts 492 = .ok (.aload_n 0, 1) := by decide +kernel
theorem dL_texts_493 : decode cL_texts 493 = .ok (.invokevirtual 85, 3) := by decide +kernel
theorem dL_texts_496 : decode cL_texts 496 = .ok (.iconst 1, 1) := by decide +kernel
theorem dL_texts_497 : decode cL_texts 497 = .ok (.if_icmp .ne 54, 3) := by decide +kernel
theorem dL_texts_500 : decode cL_texts 500 = .ok (.aload_n 0, 1) := by decide +kernel
theorem dL_texts_501 : decode cL_texts 501 = .ok (.invokevirtual 158, 3) := by decide +kernel
theorem dL_texts_504 : decode cL_texts 504 = .ok (.bipush 60, 2) := by decide +kernel
theorem dL_texts_506 : decode cL_texts 506 = .ok (.if_icmp .ne 45, 3) := by decide +kernel
theorem dL_texts_509 : decode cL_texts 509 = .ok (.aload_n 0, 1) := by decide +kernel
theorem dL_texts_510 : decode cL_texts 510 = .ok (.invokevirtual 158, 3) := by decide +kernel
theorem dL_texts_513 : decode cL_texts 513 = .ok (.ifCond .ne 38, 3) := by decide +kernel
theorem dL_texts_516 : decode cL_texts 516 = .ok (.aload_n 0, 1) := by decide +kernel
theorem dL_texts_517 : decode cL_texts 517 = .ok (.invokevirtual 161, 3) := by decide +kernel
theorem dL_texts_520 : decode cL_texts 520 = .ok (.ifCond .ne 31, 3) := by decide +kernel
theorem dL_texts_523 : decode cL_texts 523 = .ok (.aload_n 0, 1) := by decide +kernel
theorem dL_texts_524 : decode cL_texts 524 = .ok (.invokevirtual 161, 3) := by decide +kernel
theorem dL_texts_527 : decode cL_texts 527 = .ok (.bipush (-5), 2) := by decide +kernel
theorem dL_texts_529 : decode cL_texts 529 = .ok (.if_icmp .ne 22, 3) := by decide +kernel
theorem dL_texts_532 : decode cL_texts 532 = .ok (.aload_n 0, 1) := by decide +kernel
theorem dL_texts_533 : decode cL_texts 533 = .ok (.iconst 1, 1) := by decide +kernel
theorem dL_texts_534 : decode cL_texts 534 = .ok (.invokevirtual 13, 3) := by decide +kernel
theorem dL_texts_537 : decode cL_texts 537 = .ok (.ifCond .ne 14, 3) := by decide +kernel
theorem dL_texts_540 : decode cL_texts 540 = .ok (.aload_n 0, 1) := by decide +kernel
theorem dL_texts_541 : decode cL_texts 541 = .ok (.invokestatic 164, 3) := by decide +kernel
theorem dL_texts_544 : decode cL_texts 544 = .ok (.ifCond .eq 7, 3) := by decide +kernel
theorem dL_texts_547 : decode cL_texts 547 = .ok (.iconst 1, 1) := by decide +kernel
theorem dL_texts_548 : decode cL_texts 548 = .ok (.goto 4, 3) := by decide +kernel
theorem dL_texts_551 : decode cL_texts 551 = .ok (.iconst 0, 1) := by decide +kernel
theorem dL_texts_552 : decode cL_texts 552 = .ok (.ireturn, 1) := by decide +kernel

