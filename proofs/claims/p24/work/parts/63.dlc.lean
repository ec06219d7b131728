set_option maxRecDepth 20000 in
theorem ggL_known_X5_init : GoodIn wsL_known wsX5_init := goodIn_r _ [6, 7, 8, 9, 10, 11, 12, 13, 14, 15, 16, 17, 18, 19, 20, 21, 22, 23, 24, 25, 26, 27, 28, 29, 30, 31, 32, 33, 34, 35, 36, 37, 38, 39, 40, 41, 42, 43, 44, 45, 46, 47, 48, 49, 50, 446, 447, 448, 449, 450, 451, 452, 453, 454, 455, 440, 441, 442, 443, 444, 445, 456, 457, 458, 459, 460, 461, 462, 463] (by decide +kernel) (by decide +kernel)
set_option maxRecDepth 20000 in
theorem gL_known_X5_init : GoodIn wsL_known (wsX5_init) := ggL_known_X5_init
set_option maxRecDepth 20000 in
theorem gL_known_L_refused : GoodIn wsL_known (va_wsS RL 164 yL_refused wsL_refused) := goodIn_app (goodIn_of _ (by decide +kernel)) ggL_known_L_refused
set_option maxRecDepth 20000 in
theorem ggL_known_X5_heaviest : GoodIn wsL_known wsX5_heaviest := goodIn_r _ [380, 13, 163, 164, 3, 165, 381, 319, 320, 12, 321, 322, 178, 109, 179, 180, 168, 169, 170, 181, 182, 183, 184, 323, 175, 176, 177, 222, 223, 224, 225, 115, 116, 117, 118, 33, 119, 120, 121, 122, 34, 123, 124, 125, 126, 127, 128, 129, 130, 131, 132, 382, 341, 342, 383, 384, 348, 349, 440, 441, 442, 443, 444, 445, 446, 447, 448, 449, 450, 451, 452, 453, 454, 455] (by decide +kernel) (by decide +kernel)
set_option maxRecDepth 20000 in
theorem gL_known_X5_heaviest : GoodIn wsL_known (wsV RL 52 RX5 yX5_heaviest wsX5_heaviest) := goodIn_app (goodIn_of _ (by decide +kernel)) ggL_known_X5_heaviest
set_option maxRecDepth 20000 in
theorem ggL_known_X5_ofKey : GoodIn wsL_known wsX5_ofKey := goodIn_r _ [212, 13, 213, 214, 3, 215, 216, 104, 105, 12, 106, 32, 217, 100, 101, 102, 103, 107, 108, 109, 110, 111, 112, 113, 114, 115, 116, 117, 118, 33, 119, 120, 121, 122, 34, 123, 124, 125, 126, 127, 128, 129, 130, 131, 132, 133, 134, 135, 136, 137, 138, 139, 140, 141, 142, 143, 144, 218, 219, 220, 221, 222, 223, 224, 225, 226, 227, 228, 229, 440, 441, 442, 443, 444, 445, 446, 447, 448, 449, 450, 451, 452, 453, 454, 455] (by decide +kernel) (by decide +kernel)
set_option maxRecDepth 20000 in
theorem gL_known_X5_ofKey : GoodIn wsL_known (wsV RL 27 RX5 yX5_ofKey wsX5_ofKey) := goodIn_app (goodIn_of _ (by decide +kernel)) ggL_known_X5_ofKey
set_option maxRecDepth 20000 in
theorem ggL_known_X5_read : GoodIn wsL_known wsX5_read := goodIn_r _ [364, 18, 13, 213, 214, 3, 215, 237, 238, 239, 17, 240, 241, 43, 154, 242, 243, 244, 245, 246, 247, 248, 12, 249, 31, 32, 33, 34, 35, 36, 37, 80, 89, 94, 250, 251, 252, 253, 254, 255, 256, 257, 365, 366, 367, 368, 217, 100, 101, 102, 103, 104, 105, 106, 107, 108, 109, 110, 111, 112, 113, 114, 115, 116, 117, 118, 119, 120, 121, 122, 123, 124, 125, 126, 127, 128, 129, 130, 131, 132, 133, 134, 135, 136, 137, 138, 139, 140, 141, 142, 143, 144, 440, 441, 442, 443, 444, 445, 456, 457, 458, 446, 447, 448, 449, 450, 451, 452, 453, 454, 455] (by decide +kernel) (by decide +kernel)
set_option maxRecDepth 20000 in
theorem gL_known_X5_read : GoodIn wsL_known (wsV RL 46 RX5 yX5_read wsX5_read) := goodIn_app (goodIn_of _ (by decide +kernel)) ggL_known_X5_read
set_option maxRecDepth 20000 in
theorem ggL_known_X5_count : GoodIn wsL_known wsX5_count := goodIn_r _ [68, 13, 25, 18, 69, 70, 71, 12, 72, 33, 73, 74, 75, 76, 77, 78, 79, 80, 81, 82, 83, 84, 36, 85, 86, 87, 88, 89, 90, 91, 92, 93, 94, 95, 96, 97, 98, 99, 100, 101, 102, 103, 104, 105, 106, 32, 107, 108, 109, 110, 111, 112, 113, 114, 115, 116, 117, 118, 119, 120, 121, 122, 34, 123, 124, 125, 126, 127, 128, 129, 130, 131, 132, 133, 134, 135, 136, 137, 138, 139, 140, 141, 142, 143, 144, 145, 146, 147, 24, 148, 149, 150, 151, 152, 17, 153, 154, 155, 156, 157, 158, 31, 440, 441, 442, 443, 444, 445, 446, 447, 448, 449, 450, 451, 452, 453, 454, 455, 459, 460, 461, 462, 463, 456, 457, 458] (by decide +kernel) (by decide +kernel)
set_option maxRecDepth 20000 in
theorem gL_known_X5_count : GoodIn wsL_known (wsV RL 13 RX5 yX5_count wsX5_count) := goodIn_app (goodIn_of _ (by decide +kernel)) ggL_known_X5_count
set_option maxRecDepth 20000 in
theorem ggL_known_X5_same : GoodIn wsL_known wsX5_same := goodIn_r _ [401, 13, 213, 214, 3, 215, 217, 100, 101, 12, 102, 103, 104, 105, 106, 32, 107, 108, 109, 110, 111, 112, 113, 114, 115, 116, 117, 118, 33, 119, 120, 121, 122, 34, 123, 124, 125, 126, 127, 128, 129, 130, 131, 132, 133, 134, 135, 136, 137, 138, 139, 140, 141, 142, 143, 144, 440, 441, 442, 443, 444, 445, 446, 447, 448, 449, 450, 451, 452, 453, 454, 455] (by decide +kernel) (by decide +kernel)
set_option maxRecDepth 20000 in
theorem gL_known_X5_same : GoodIn wsL_known (wsV RL 61 RX5 yX5_same wsX5_same) := goodIn_app (goodIn_of _ (by decide +kernel)) ggL_known_X5_same
set_option maxRecDepth 20000 in
theorem ggL_known_X5_restore : GoodIn wsL_known wsX5_restore := goodIn_r _ [413, 21, 18, 13, 19, 406, 407, 408, 3, 409, 237, 238, 239, 17, 240, 241, 43, 154, 242, 243, 244, 245, 246, 247, 248, 12, 249, 31, 32, 33, 34, 35, 36, 37, 80, 89, 94, 250, 251, 252, 253, 254, 255, 256, 257, 393, 69, 70, 71, 72, 73, 74, 75, 440, 441, 442, 443, 444, 445, 456, 457, 458, 446, 447, 448, 449, 450, 451, 452, 453, 454, 455] (by decide +kernel) (by decide +kernel)
set_option maxRecDepth 20000 in
theorem gL_known_X5_restore : GoodIn wsL_known (wsV RL 67 RX5 yX5_restore wsX5_restore) := goodIn_app (goodIn_of _ (by decide +kernel)) ggL_known_X5_restore
set_option maxRecDepth 20000 in
theorem ggL_known_X5_send : GoodIn wsL_known wsX5_send := goodIn_r _ [266, 18, 13, 267, 268, 3, 269, 270, 271, 272, 213, 214, 215, 237, 238, 239, 17, 240, 241, 43, 154, 242, 243, 244, 245, 246, 247, 248, 12, 249, 31, 32, 33, 34, 35, 36, 37, 80, 89, 94, 250, 251, 252, 253, 254, 255, 256, 257, 273, 274, 125, 275, 276, 277, 278, 279, 280, 281, 282, 283, 115, 116, 117, 118, 284, 285, 286, 287, 119, 120, 121, 122, 288, 289, 290, 291, 292, 293, 294, 262, 156, 157, 158, 295, 296, 297, 298, 299, 300, 301, 127, 128, 129, 130, 131, 132, 302, 303, 304, 305, 306, 123, 124, 126, 307, 137, 138, 308, 140, 141, 309, 310, 311, 312, 313, 314, 315, 316, 317, 318, 319, 320, 321, 322, 178, 109, 179, 180, 168, 169, 170, 181, 182, 183, 184, 323, 175, 176, 177, 222, 223, 224, 225, 324, 325, 326, 327, 328, 329, 330, 331, 332, 333, 334, 335, 336, 337, 338, 136, 139, 339, 340, 341, 342, 343, 344, 345, 346, 133, 134, 135, 347, 348, 349, 69, 70, 71, 72, 73, 74, 75, 440, 441, 442, 443, 444, 445, 456, 457, 458, 446, 447, 448, 449, 450, 451, 452, 453, 454, 455] (by decide +kernel) (by decide +kernel)
set_option maxRecDepth 20000 in
theorem gL_known_X5_send : GoodIn wsL_known (wsV RL 39 RX5 yX5_send wsX5_send) := goodIn_app (goodIn_of _ (by decide +kernel)) ggL_known_X5_send
set_option maxRecDepth 20000 in
theorem ggL_known_X5_stone : GoodIn wsL_known wsX5_stone := goodIn_r _ [203, 13, 163, 164, 3, 165, 166, 116, 117, 12, 118, 33, 204, 120, 121, 122, 34, 205, 137, 125, 138, 206, 128, 129, 207, 131, 132, 208, 140, 141, 440, 441, 442, 443, 444, 445, 446, 447, 448, 449, 450, 451, 452, 453, 454, 455] (by decide +kernel) (by decide +kernel)
set_option maxRecDepth 20000 in
theorem gL_known_X5_stone : GoodIn wsL_known (wsV RL 23 RX5 yX5_stone wsX5_stone) := goodIn_app (goodIn_of _ (by decide +kernel)) ggL_known_X5_stone
set_option maxRecDepth 20000 in
theorem ggL_known_X5_ofNode : GoodIn wsL_known wsX5_ofNode := goodIn_r _ [162, 13, 163, 164, 3, 165, 166, 116, 117, 12, 118, 33, 167, 168, 109, 169, 170, 171, 172, 173, 174, 175, 176, 177, 178, 179, 180, 181, 182, 183, 184, 185, 186, 187, 188, 35, 189, 190, 191, 192, 193, 194, 195, 36, 196, 197, 198, 199, 37, 440, 441, 442, 443, 444, 445, 446, 447, 448, 449, 450, 451, 452, 453, 454, 455] (by decide +kernel) (by decide +kernel)
set_option maxRecDepth 20000 in
theorem gL_known_X5_ofNode : GoodIn wsL_known (wsV RL 19 RX5 yX5_ofNode wsX5_ofNode) := goodIn_app (goodIn_of _ (by decide +kernel)) ggL_known_X5_ofNode
set_option maxRecDepth 20000 in
theorem ggL_known_X5_wouldSink : GoodIn wsL_known wsX5_wouldSink := goodIn_r _ [388, 213, 214, 3, 215, 389, 390, 391, 392, 14, 13, 393, 247, 248, 12, 249, 31, 32, 33, 34, 35, 36, 37, 80, 89, 94, 250, 251, 252, 253, 243, 244, 245, 254, 255, 256, 257, 273, 274, 125, 275, 276, 277, 278, 279, 280, 281, 282, 283, 115, 116, 117, 118, 284, 285, 286, 287, 119, 120, 121, 122, 288, 289, 290, 291, 292, 293, 294, 262, 156, 157, 158, 295, 296, 297, 298, 299, 300, 301, 127, 128, 129, 130, 131, 132, 302, 303, 304, 305, 306, 123, 124, 126, 307, 137, 138, 308, 140, 141, 309, 310, 311, 312, 313, 314, 315, 316, 317, 318, 319, 320, 321, 322, 178, 109, 179, 180, 168, 169, 170, 181, 182, 183, 184, 323, 175, 176, 177, 222, 223, 224, 225, 324, 325, 326, 327, 328, 329, 330, 331, 332, 333, 334, 335, 336, 337, 338, 136, 139, 339, 340, 341, 342, 343, 344, 345, 346, 133, 134, 135, 347, 348, 349, 81, 82, 83, 84, 73, 74, 75, 440, 441, 442, 443, 444, 445, 446, 447, 448, 449, 450, 451, 452, 453, 454, 455] (by decide +kernel) (by decide +kernel)
set_option maxRecDepth 20000 in
theorem gL_known_X5_wouldSink : GoodIn wsL_known (wsV RL 55 RX5 yX5_wouldSink wsX5_wouldSink) := goodIn_app (goodIn_of _ (by decide +kernel)) ggL_known_X5_wouldSink
set_option maxRecDepth 20000 in
theorem ggL_known_X5_sum : GoodIn wsL_known wsX5_sum := goodIn_r _ [372, 13, 270, 271, 3, 272, 213, 214, 215, 373, 374, 375, 12, 376, 99, 100, 101, 102, 103, 104, 105, 106, 32, 107, 108, 109, 110, 111, 112, 113, 114, 115, 116, 117, 118, 33, 119, 120, 121, 122, 34, 123, 124, 125, 126, 127, 128, 129, 130, 131, 132, 133, 134, 135, 136, 137, 138, 139, 140, 141, 142, 143, 144, 440, 441, 442, 443, 444, 445, 446, 447, 448, 449, 450, 451, 452, 453, 454, 455] (by decide +kernel) (by decide +kernel)
set_option maxRecDepth 20000 in
theorem gL_known_X5_sum : GoodIn wsL_known (wsV RL 49 RX5 yX5_sum wsX5_sum) := goodIn_app (goodIn_of _ (by decide +kernel)) ggL_known_X5_sum
set_option maxRecDepth 20000 in
theorem ggL_known_X5_empty : GoodIn wsL_known wsX5_empty := goodIn_r _ [353, 18, 13, 163, 164, 3, 165, 237, 238, 239, 17, 240, 241, 43, 154, 242, 243, 244, 245, 246, 247, 248, 12, 249, 31, 32, 33, 34, 35, 36, 37, 80, 89, 94, 250, 251, 252, 253, 254, 255, 256, 257, 354, 355, 356, 357, 358, 359, 109, 360, 324, 325, 326, 327, 322, 178, 179, 180, 168, 169, 170, 181, 182, 183, 184, 323, 175, 176, 177, 115, 116, 117, 118, 119, 120, 121, 122, 123, 124, 125, 126, 127, 128, 129, 130, 131, 132, 328, 329, 330, 331, 314, 315, 316, 317, 288, 289, 290, 291, 292, 293, 294, 302, 332, 333, 334, 335, 336, 337, 338, 136, 137, 138, 139, 140, 141, 339, 274, 275, 284, 285, 286, 287, 312, 340, 341, 342, 343, 344, 345, 346, 133, 134, 135, 347, 348, 349, 280, 281, 282, 283, 262, 156, 157, 158, 295, 296, 297, 298, 299, 300, 301, 303, 304, 305, 306, 307, 308, 309, 310, 311, 313, 318, 319, 320, 321, 222, 223, 224, 225, 69, 70, 71, 72, 73, 74, 75, 440, 441, 442, 443, 444, 445, 456, 457, 458, 446, 447, 448, 449, 450, 451, 452, 453, 454, 455] (by decide +kernel) (by decide +kernel)
set_option maxRecDepth 20000 in
theorem gL_known_X5_empty : GoodIn wsL_known (wsV RL 43 RX5 yX5_empty wsX5_empty) := goodIn_app (goodIn_of _ (by decide +kernel)) ggL_known_X5_empty
set_option maxRecDepth 20000 in
theorem ggL_known_X5_toEmptyAll : GoodIn wsL_known wsX5_toEmptyAll := goodIn_r _ [431, 14, 13, 393, 247, 248, 12, 249, 31, 32, 33, 34, 35, 36, 37, 80, 89, 94, 250, 251, 252, 253, 243, 244, 245, 254, 255, 256, 257, 354, 355, 356, 357, 358, 359, 109, 360, 324, 325, 326, 327, 322, 178, 179, 180, 168, 169, 170, 181, 182, 183, 184, 323, 175, 176, 177, 115, 116, 117, 118, 119, 120, 121, 122, 123, 124, 125, 126, 127, 128, 129, 130, 131, 132, 328, 329, 330, 331, 314, 315, 316, 317, 288, 289, 290, 291, 292, 293, 294, 302, 332, 333, 334, 335, 336, 337, 338, 136, 137, 138, 139, 140, 141, 339, 274, 275, 284, 285, 286, 287, 312, 340, 341, 342, 343, 344, 345, 346, 133, 134, 135, 347, 348, 349, 280, 281, 282, 283, 262, 156, 157, 158, 295, 296, 297, 298, 299, 300, 301, 303, 304, 305, 306, 307, 308, 309, 310, 311, 313, 318, 319, 320, 321, 222, 223, 224, 225, 81, 82, 83, 84, 73, 74, 75, 440, 441, 442, 443, 444, 445, 446, 447, 448, 449, 450, 451, 452, 453, 454, 455] (by decide +kernel) (by decide +kernel)
set_option maxRecDepth 20000 in
theorem gL_known_X5_toEmptyAll : GoodIn wsL_known (wsV RL 168 RX5 yX5_toEmptyAll wsX5_toEmptyAll) := goodIn_app (goodIn_of _ (by decide +kernel)) ggL_known_X5_toEmptyAll
set_option maxRecDepth 20000 in
theorem ggL_known_X5_undo : GoodIn wsL_known wsX5_undo := goodIn_r _ [435, 18, 13, 150, 151, 152, 17, 153, 154, 436, 437, 438, 439, 241, 43, 246, 247, 248, 12, 249, 31, 32, 33, 34, 35, 36, 37, 80, 89, 94, 250, 251, 252, 253, 243, 244, 245, 254, 255, 256, 257, 440, 441, 442, 443, 444, 445, 456, 457, 458, 446, 447, 448, 449, 450, 451, 452, 453, 454, 455] (by decide +kernel) (by decide +kernel)
set_option maxRecDepth 20000 in
theorem gL_known_X5_undo : GoodIn wsL_known (wsV RL 161 RX5 yX5_undo wsX5_undo) := goodIn_app (goodIn_of _ (by decide +kernel)) ggL_known_X5_undo
theorem dL_known_0 : decode cL_known 0 = .ok (.new 14, 3) := by decide +kernel
theorem dL_known_3 : decode cL_known 3 = .ok (.dup, 1) := by decide +kernel
theorem dL_known_4 : decode cL_known 4 = .ok (.invokespecial 84, 3) := by decide +kernel
theorem dL_known_7 : decode cL_known 7 = .ok (.astore_n 0, 1) := by decide +kernel
theorem dL_known_8 : decode cL_known 8 = .ok (.aload_n 0, 1) := by decide +kernel
theorem dL_known_9 : decode cL_known 9 = .ok (.invokestatic 164, 3) := by decide +kernel
theorem dL_known_12 : decode cL_known 12 = .ok (.ifCond .eq 64, 3) := by decide +kernel
theorem dL_known_15 : decode cL_known 15 = .ok (.aload_n 0, 1) := by decide +kernel
theorem dL_known_16 : decode cL_known 16 = .ok (.iconst 0, 1) := by decide +kernel
theorem dL_known_17 : decode cL_known 17 = .ok (.invokevirtual 52, 3) := by decide +kernel
theorem dL_known_20 : decode cL_known 20 = .ok (.bipush (-6), 2) := by decide +kernel
theorem dL_known_22 : decode cL_known 22 = .ok (.if_icmp .ne 54, 3) := by decide +kernel
theorem dL_known_25 : decode cL_known 25 = .ok (.aload_n 0, 1) := by decide +kernel
theorem dL_known_26 : decode cL_known 26 = .ok (.iconst 5, 1) := by decide +kernel
theorem dL_known_27 : decode cL_known 27 = .ok (.iconst 0, 1) := by decide +kernel
theorem dL_known_28 : decode cL_known 28 = .ok (.invokevirtual 27, 3) := by decide +kernel
theorem dL_known_31 : decode cL_known 31 = .ok (.bipush (-6), 2) := by decide +kernel
theorem dL_known_33 : decode cL_known 33 = .ok (.if_icmp .ne 43, 3) := by decide +kernel
theorem dL_known_36 : decode cL_known 36 = .ok (.aload_n 0, 1) := by decide +kernel
theorem dL_known_37 : decode cL_known 37 = .ok (.iconst 5, 1) := by decide +kernel
theorem dL_known_38 : decode cL_known 38 = .ok (.invokevirtual 46, 3) := by decide +kernel
theorem dL_known_41 : decode cL_known 41 = .ok (.bipush (-6), 2) := by decide +kernel
theorem dL_known_43 : decode cL_known 43 = .ok (.if_icmp .ne 33, 3) := by decide +kernel
theorem dL_known_46 : decode cL_known 46 = .ok (.aload_n 0, 1) := by decide +kernel
theorem dL_known_47 : decode cL_known 47 = .ok (.iconst 4, 1) := by decide +kernel
theorem dL_known_48 : decode cL_known 48 = .ok (.invokevirtual 13, 3) := by decide +kernel
theorem dL_known_51 : decode cL_known 51 = .ok (.iconst 3, 1) := by decide +kernel
theorem dL_known_52 : decode cL_known 52 = .ok (.if_icmp .ne 24, 3) := by decide +kernel
theorem dL_known_55 : decode cL_known 55 = .ok (.aload_n 0, 1) := by decide +kernel
theorem dL_known_56 : decode cL_known 56 = .ok (.iconst 0, 1) := by decide +kernel
theorem dL_known_57 : decode cL_known 57 = .ok (.bipush 26, 2) := by decide +kernel
theorem dL_known_59 : decode cL_known 59 = .ok (.invokevirtual 61, 3) := by decide +kernel
theorem dL_known_62 : decode cL_known 62 = .ok (.iconst 1, 1) := by decide +kernel
theorem dL_known_63 : decode cL_known 63 = .ok (.if_icmp .ne 13, 3) := by decide +kernel
theorem dL_known_66 : decode cL_known 66 = .ok (.aload_n 0, 1) := by decide +kernel
theorem dL_known_67 : decode cL_known 67 = .ok (.iconst 0, 1) := by decide +kernel
theorem dL_known_68 : decode cL_known 68 = .ok (.invokevirtual 67, 3) := by decide +kernel
theorem dL_known_71 : decode cL_known 71 = .ok (.bipush (-5), 2) := by decide +kernel
theorem dL_known_73 : decode cL_known 73 = .ok (.if_icmp .eq 5, 3) := by decide +kernel
theorem dL_known_76 : decode cL_known 76 = .ok (.iconst 0, 1) := by decide +kernel
theorem dL_known_77 : decode cL_known 77 = .ok (.ireturn, 1) := by decide +kernel
theorem dL_known_78 : decode cL_known 78 = .ok (.aload_n 0, 1) := by decide +kernel
theorem dL_known_79 : decode cL_known 79 = .ok (.iconst 0, 1) := by decide +kernel
theorem dL_known_80 : decode cL_known 80 = .ok (.iconst 5, 1) := by decide +kernel
theorem dL_known_81 : decode cL_known 81 = .ok (.iconst 5, 1) := by decide +kernel
theorem dL_known_82 : decode cL_known 82 = .ok (.bipush 100, 2) := by decide +kernel
theorem dL_known_84 : decode cL_known 84 = .ok (.invokevirtual 39, 3) := by decide +kernel
theorem dL_known_87 : decode cL_known 87 = .ok (.iconst 1, 1) := by decide +kernel
theorem dL_known_88 : decode cL_known 88 = .ok (.if_icmp .ne 112, 3) := by decide +kernel
theorem dL_known_91 : decode cL_known 91 = .ok (.aload_n 0, 1) := by decide +kernel
theorem dL_known_92 : decode cL_known 92 = .ok (.iconst 1, 1) := by decide +kernel
theorem dL_known_93 : decode cL_known 93 = .ok (.iconst 5, 1) := by decide +kernel
theorem dL_known_94 : decode cL_known 94 = .ok (.iconst 5, 1) := by decide +kernel
theorem dL_known_95 : decode cL_known 95 = .ok (.sipush 920, 3) := by decide +kernel
theorem dL_known_98 : decode cL_known 98 = .ok (.invokevirtual 39, 3) := by decide +kernel
theorem dL_known_101 : decode cL_known 101 = .ok (.iconst 1, 1) := by decide +kernel
theorem dL_known_102 : decode cL_known 102 = .ok (.if_icmp .ne 98, 3) := by decide +kernel
theorem dL_known_105 : decode cL_known 105 = .ok (.aload_n 0, 1) := by decide +kernel
theorem dL_known_106 : decode cL_known 106 = .ok (.iconst 0, 1) := by decide +kernel
theorem dL_known_107 : decode cL_known 107 = .ok (.iconst 0, 1) := by decide +kernel
theorem dL_known_108 : decode cL_known 108 = .ok (.iconst 0, 1) := by decide +kernel
theorem dL_known_109 : decode cL_known 109 = .ok (.invokevirtual 23, 3) := by decide +kernel
theorem dL_known_112 : decode cL_known 112 = .ok (.ifCond .ne 88, 3) := by decide +kernel
theorem dL_known_115 : decode cL_known 115 = .ok (.aload_n 0, 1) := by decide +kernel
theorem dL_known_116 : decode cL_known 116 = .ok (.iconst 0, 1) := by decide +kernel
theorem dL_known_117 : decode cL_known 117 = .ok (.iconst 0, 1) := by decide +kernel
theorem dL_known_118 : decode cL_known 118 = .ok (.iconst 3, 1) := by decide +kernel
theorem dL_known_119 : decode cL_known 119 = .ok (.invokevirtual 23, 3) := by decide +kernel
theorem dL_known_122 : decode cL_known 122 = .ok (.bipush 20, 2) := by decide +kernel
theorem dL_known_124 : decode cL_known 124 = .ok (.if_icmp .ne 76, 3) := by decide +kernel
theorem dL_known_127 : decode cL_known 127 = .ok (.aload_n 0, 1) := by decide +kernel
theorem dL_known_128 : decode cL_known 128 = .ok (.iconst 0, 1) := by decide +kernel
theorem dL_known_129 : decode cL_known 129 = .ok (.iconst 5, 1) := by decide +kernel
theorem dL_known_130 : decode cL_known 130 = .ok (.invokevirtual 19, 3) := by decide +kernel
theorem dL_known_133 : decode cL_known 133 = .ok (.iconst 1, 1) := by decide +kernel
theorem dL_known_134 : decode cL_known 134 = .ok (.if_icmp .ne 66, 3) := by decide +kernel
theorem dL_known_137 : decode cL_known 137 = .ok (.aload_n 0, 1) := by decide +kernel
theorem dL_known_138 : decode cL_known 138 = .ok (.iconst 5, 1) := by decide +kernel
theorem dL_known_139 : decode cL_known 139 = .ok (.iconst 0, 1) := by decide +kernel
theorem dL_known_140 : decode cL_known 140 = .ok (.invokevirtual 27, 3) := by decide +kernel
theorem dL_known_143 : decode cL_known 143 = .ok (.bipush (-6), 2) := by decide +kernel
theorem dL_known_145 : decode cL_known 145 = .ok (.if_icmp .ne 55, 3) := by decide +kernel
theorem dL_known_148 : decode cL_known 148 = .ok (.aload_n 0, 1) := by decide +kernel
theorem dL_known_149 : decode cL_known 149 = .ok (.iconst 5, 1) := by decide +kernel
theorem dL_known_150 : decode cL_known 150 = .ok (.iconst 1, 1) := by decide +kernel
theorem dL_known_151 : decode cL_known 151 = .ok (.invokevirtual 27, 3) := by decide +kernel
theorem dL_known_154 : decode cL_known 154 = .ok (.bipush 20, 2) := by decide +kernel
theorem dL_known_156 : decode cL_known 156 = .ok (.if_icmp .ne 44, 3) := by decide +kernel
theorem dL_known_159 : decode cL_known 159 = .ok (.aload_n 0, 1) := by decide +kernel
theorem dL_known_160 : decode cL_known 160 = .ok (.iconst 5, 1) := by decide +kernel
theorem dL_known_161 : decode cL_known 161 = .ok (.iconst 2, 1) := by decide +kernel
theorem dL_known_162 : decode cL_known 162 = .ok (.invokevirtual 27, 3) := by decide +kernel
theorem dL_known_165 : decode cL_known 165 = .ok (.iconst 1, 1) := by decide +kernel
theorem dL_known_166 : decode cL_known 166 = .ok (.if_icmp .ne 34, 3) := by decide +kernel
theorem dL_known_169 : decode cL_known 169 = .ok (.aload_n 0, 1) := by decide +kernel
theorem dL_known_170 : decode cL_known 170 = .ok (.iconst 5, 1) := by decide +kernel
theorem dL_known_171 : decode cL_known 171 = .ok (.iconst 3, 1) := by decide +kernel
theorem dL_known_172 : decode cL_known 172 = .ok (.invokevirtual 27, 3) := by decide +kernel
theorem dL_known_175 : decode cL_known 175 = .ok (.ifCond .ne 25, 3) := by decide +kernel
theorem dL_known_178 : decode cL_known 178 = .ok (.aload_n 0, 1) := by decide +kernel
theorem dL_known_179 : decode cL_known 179 = .ok (.bipush 6, 2) := by decide +kernel
theorem dL_known_181 : decode cL_known 181 = .ok (.iconst 3, 1) := by decide +kernel
theorem dL_known_182 : decode cL_known 182 = .ok (.invokevirtual 27, 3) := by decide +kernel
theorem dL_known_185 : decode cL_known 185 = .ok (.bipush (-6), 2) := by decide +kernel
theorem dL_known_187 : decode cL_known 187 = .ok (.if_icmp .ne 13, 3) := by decide +kernel
theorem dL_known_190 : decode cL_known 190 = .ok (.aload_n 0, 1) := by decide +kernel
theorem dL_known_191 : decode cL_known 191 = .ok (.iconst 5, 1) := by decide +kernel
theorem dL_known_192 : decode cL_known 192 = .ok (.invokevirtual 46, 3) := by decide +kernel
theorem dL_known_195 : decode cL_known 195 = .ok (.bipush 20, 2) := by decide +kernel
theorem dL_known_197 : decode cL_known 197 = .ok (.if_icmp .eq 5, 3) := by decide +kernel
theorem dL_known_200 : decode cL_known 200 = .ok (.iconst 0, 1) := by decide +kernel
theorem dL_known_201 : decode cL_known 201 = .ok (.ireturn, 1) := by decide +kernel
theorem dL_known_202 : decode cL_known 202 = .ok (.aload_n 0, 1) := by decide +kernel
theorem dL_known_203 : decode cL_known 203 = .ok (.iconst 2, 1) := by decide +kernel
theorem dL_known_204 : decode cL_known 204 = .ok (.iconst 5, 1) := by decide +kernel
theorem dL_known_205 : decode cL_known 205 = .ok (.iconst 5, 1) := by decide +kernel
theorem dL_known_206 : decode cL_known 206 = .ok (.iconst 0, 1) := by decide +kernel
theorem dL_known_207 : decode cL_known 207 = .ok (.invokevirtual 39, 3) := by decide +kernel
theorem dL_known_210 : decode cL_known 210 = .ok (.iconst 1, 1) := by decide +kernel
theorem dL_known_211 : decode cL_known 211 = .ok (.if_icmp .ne 125, 3) := by decide +kernel
theorem dL_known_214 : decode cL_known 214 = .ok (.aload_n 0, 1) := by decide +kernel
theorem dL_known_215 : decode cL_known 215 = .ok (.iconst 0, 1) := by decide +kernel
theorem dL_known_216 : decode cL_known 216 = .ok (.iconst 0, 1) := by decide +kernel
theorem dL_known_217 : decode cL_known 217 = .ok (.iconst 0, 1) := by decide +kernel
theorem dL_known_218 : decode cL_known 218 = .ok (.invokevirtual 23, 3) := by decide +kernel
theorem dL_known_221 : decode cL_known 221 = .ok (.iconst 2, 1) := by decide +kernel
theorem dL_known_222 : decode cL_known 222 = .ok (.if_icmp .ne 114, 3) := by decide +kernel
theorem dL_known_225 : decode cL_known 225 = .ok (.aload_n 0, 1) := by decide +kernel
theorem dL_known_226 : decode cL_known 226 = .ok (.iconst 5, 1) := by decide +kernel
theorem dL_known_227 : decode cL_known 227 = .ok (.iconst 1, 1) := by decide +kernel
theorem dL_known_228 : decode cL_known 228 = .ok (.invokevirtual 27, 3) := by decide +kernel
theorem dL_known_231 : decode cL_known 231 = .ok (.bipush (-6), 2) := by decide +kernel
theorem dL_known_233 : decode cL_known 233 = .ok (.if_icmp .ne 103, 3) := by decide +kernel
theorem dL_known_236 : decode cL_known 236 = .ok (.aload_n 0, 1) := by decide +kernel
theorem dL_known_237 : decode cL_known 237 = .ok (.iconst 1, 1) := by decide +kernel
theorem dL_known_238 : decode cL_known 238 = .ok (.iconst 5, 1) := by decide +kernel
theorem dL_known_239 : decode cL_known 239 = .ok (.iconst 5, 1) := by decide +kernel
theorem dL_known_240 : decode cL_known 240 = .ok (.bipush 7, 2) := by decide +kernel
theorem dL_known_242 : decode cL_known 242 = .ok (.invokevirtual 39, 3) := by decide +kernel
theorem dL_known_245 : decode cL_known 245 = .ok (.iconst 1, 1) := by decide +kernel
theorem dL_known_246 : decode cL_known 246 = .ok (.if_icmp .ne 90, 3) := by decide +kernel
theorem dL_known_249 : decode cL_known 249 = .ok (.aload_n 0, 1) := by decide +kernel
theorem dL_known_250 : decode cL_known 250 = .ok (.iconst 0, 1) := by decide +kernel
theorem dL_known_251 : decode cL_known 251 = .ok (.iconst 5, 1) := by decide +kernel
theorem dL_known_252 : decode cL_known 252 = .ok (.invokevirtual 19, 3) := by decide +kernel
theorem dL_known_255 : decode cL_known 255 = .ok (.iconst 3, 1) := by decide +kernel
theorem dL_known_256 : decode cL_known 256 = .ok (.if_icmp .ne 80, 3) := by decide +kernel
theorem dL_known_259 : decode cL_known 259 = .ok (.aload_n 0, 1) := by decide +kernel
theorem dL_known_260 : decode cL_known 260 = .ok (.iconst 1, 1) := by decide +kernel
theorem dL_known_261 : decode cL_known 261 = .ok (.invokevirtual 13, 3) := by decide +kernel
theorem dL_known_264 : decode cL_known 264 = .ok (.iconst 4, 1) := by decide +kernel
theorem dL_known_265 : decode cL_known 265 = .ok (.if_icmp .ne 71, 3) := by decide +kernel
theorem dL_known_268 : decode cL_known 268 = .ok (.aload_n 0, 1) := by decide +kernel
theorem dL_known_269 : decode cL_known 269 = .ok (.iconst 1, 1) := by decide +kernel
theorem dL_known_270 : decode cL_known 270 = .ok (.iconst 0, 1) := by decide +kernel
theorem dL_known_271 : decode cL_known 271 = .ok (.bipush 26, 2) := by decide +kernel
theorem dL_known_273 : decode cL_known 273 = .ok (.iconst 1, 1) := by decide +kernel
theorem dL_known_274 : decode cL_known 274 = .ok (.invokevirtual 39, 3) := by decide +kernel
theorem dL_known_277 : decode cL_known 277 = .ok (.iconst 2, 1) := by decide +kernel
theorem dL_known_278 : decode cL_known 278 = .ok (.if_icmp .ne 58, 3) := by decide +kernel
theorem dL_known_281 : decode cL_known 281 = .ok (.aload_n 0, 1) := by decide +kernel
theorem dL_known_282 : decode cL_known 282 = .ok (.iconst 0, 1) := by decide +kernel
theorem dL_known_283 : decode cL_known 283 = .ok (.iconst 5, 1) := by decide +kernel
theorem dL_known_284 : decode cL_known 284 = .ok (.iconst 5, 1) := by decide +kernel
theorem dL_known_285 : decode cL_known 285 = .ok (.bipush 9, 2) := by decide +kernel
theorem dL_known_287 : decode cL_known 287 = .ok (.invokevirtual 39, 3) := by decide +kernel
theorem dL_known_290 : decode cL_known 290 = .ok (.iconst 3, 1) := by decide +kernel
theorem dL_known_291 : decode cL_known 291 = .ok (.if_icmp .ne 45, 3) := by decide +kernel
theorem dL_known_294 : decode cL_known 294 = .ok (.aload_n 0, 1) := by decide +kernel
theorem dL_known_295 : decode cL_known 295 = .ok (.iconst 0, 1) := by decide +kernel
theorem dL_known_296 : decode cL_known 296 = .ok (.bipush 6, 2) := by decide +kernel
theorem dL_known_298 : decode cL_known 298 = .ok (.bipush 6, 2) := by decide +kernel
theorem dL_known_300 : decode cL_known 300 = .ok (.iconst 1, 1) := by decide +kernel
theorem dL_known_301 : decode cL_known 301 = .ok (.invokevirtual 39, 3) := by decide +kernel
theorem dL_known_304 : decode cL_known 304 = .ok (.iconst 4, 1) := by decide +kernel
theorem dL_known_305 : decode cL_known 305 = .ok (.if_icmp .ne 31, 3) := by decide +kernel
theorem dL_known_308 : decode cL_known 308 = .ok (.aload_n 0, 1) := by decide +kernel
theorem dL_known_309 : decode cL_known 309 = .ok (.iconst 0, 1) := by decide +kernel
theorem dL_known_310 : decode cL_known 310 = .ok (.iconst 5, 1) := by decide +kernel
theorem dL_known_311 : decode cL_known 311 = .ok (.invokevirtual 19, 3) := by decide +kernel
theorem dL_known_314 : decode cL_known 314 = .ok (.iconst 3, 1) := by decide +kernel
theorem dL_known_315 : decode cL_known 315 = .ok (.if_icmp .ne 21, 3) := by decide +kernel
theorem dL_known_318 : decode cL_known 318 = .ok (.aload_n 0, 1) := by decide +kernel
theorem dL_known_319 : decode cL_known 319 = .ok (.iconst 2, 1) := by decide +kernel
theorem dL_known_320 : decode cL_known 320 = .ok (.invokevirtual 13, 3) := by decide +kernel
theorem dL_known_323 : decode cL_known 323 = .ok (.ifCond .ne 13, 3) := by decide +kernel
theorem dL_known_326 : decode cL_known 326 = .ok (.aload_n 0, 1) := by decide +kernel
theorem dL_known_327 : decode cL_known 327 = .ok (.bipush 20, 2) := by decide +kernel
theorem dL_known_329 : decode cL_known 329 = .ok (.invokevirtual 55, 3) := by decide +kernel
theorem dL_known_332 : decode cL_known 332 = .ok (.iconst 4, 1) := by decide +kernel
theorem dL_known_333 : decode cL_known 333 = .ok (.if_icmp .eq 5, 3) := by decide +kernel
theorem dL_known_336 : decode cL_known 336 = .ok (.iconst 0, 1) := by decide +kernel
theorem dL_known_337 : decode cL_known 337 = .ok (.ireturn, 1) := by decide +kernel
theorem dL_known_338 : decode cL_known 338 = .ok (.aload_n 0, 1) := by decide +kernel
theorem dL_known_339 : decode cL_known 339 = .ok (.iconst 0, 1) := by decide +kernel
theorem dL_known_340 : decode cL_known 340 = .ok (.bipush 20, 2) := by decide +kernel
theorem dL_known_342 : decode cL_known 342 = .ok (.bipush 20, 2) := by decide +kernel
theorem dL_known_344 : decode cL_known 344 = .ok (.iconst 3, 1) := by decide +kernel
theorem dL_known_345 : decode cL_known 345 = .ok (.invokevirtual 39, 3) := by decide +kernel
theorem dL_known_348 : decode cL_known 348 = .ok (.bipush 6, 2) := by decide +kernel
theorem dL_known_350 : decode cL_known 350 = .ok (.if_icmp .ne 189, 3) := by decide +kernel
theorem dL_known_353 : decode cL_known 353 = .ok (.aload_n 0, 1) := by decide +kernel
theorem dL_known_354 : decode cL_known 354 = .ok (.iconst 0, 1) := by decide +kernel
theorem dL_known_355 : decode cL_known 355 = .ok (.iconst 0, 1) := by decide +kernel
theorem dL_known_356 : decode cL_known 356 = .ok (.invokevirtual 19, 3) := by decide +kernel
theorem dL_known_359 : decode cL_known 359 = .ok (.iconst 2, 1) := by decide +kernel
theorem dL_known_360 : decode cL_known 360 = .ok (.if_icmp .ne 179, 3) := by decide +kernel
theorem dL_known_363 : decode cL_known 363 = .ok (.aload_n 0, 1) := by decide +kernel
theorem dL_known_364 : decode cL_known 364 = .ok (.iconst 0, 1) := by decide +kernel
theorem dL_known_365 : decode cL_known 365 = .ok (.iconst 0, 1) := by decide +kernel
theorem dL_known_366 : decode cL_known 366 = .ok (.iconst 1, 1) := by decide +kernel
theorem dL_known_367 : decode cL_known 367 = .ok (.invokevirtual 23, 3) := by decide +kernel
theorem dL_known_370 : decode cL_known 370 = .ok (.bipush 9, 2) := by decide +kernel
theorem dL_known_372 : decode cL_known 372 = .ok (.if_icmp .ne 167, 3) := by decide +kernel
theorem dL_known_375 : decode cL_known 375 = .ok (.aload_n 0, 1) := by decide +kernel
theorem dL_known_376 : decode cL_known 376 = .ok (.iconst 0, 1) := by decide +kernel
theorem dL_known_377 : decode cL_known 377 = .ok (.iconst 0, 1) := by decide +kernel
theorem dL_known_378 : decode cL_known 378 = .ok (.iconst 2, 1) := by decide +kernel
theorem dL_known_379 : decode cL_known 379 = .ok (.invokevirtual 23, 3) := by decide +kernel
theorem dL_known_382 : decode cL_known 382 = .ok (.bipush 26, 2) := by decide +kernel
theorem dL_known_384 : decode cL_known 384 = .ok (.if_icmp .ne 155, 3) := by decide +kernel
theorem dL_known_387 : decode cL_known 387 = .ok (.aload_n 0, 1) := by decide +kernel
theorem dL_known_388 : decode cL_known 388 = .ok (.iconst 1, 1) := by decide +kernel
theorem dL_known_389 : decode cL_known 389 = .ok (.iconst 0, 1) := by decide +kernel
theorem dL_known_390 : decode cL_known 390 = .ok (.invokevirtual 19, 3) := by decide +kernel
theorem dL_known_393 : decode cL_known 393 = .ok (.iconst 4, 1) := by decide +kernel
theorem dL_known_394 : decode cL_known 394 = .ok (.if_icmp .ne 145, 3) := by decide +kernel
theorem dL_known_397 : decode cL_known 397 = .ok (.aload_n 0, 1) := by decide +kernel
theorem dL_known_398 : decode cL_known 398 = .ok (.iconst 1, 1) := by decide +kernel
theorem dL_known_399 : decode cL_known 399 = .ok (.iconst 0, 1) := by decide +kernel
theorem dL_known_400 : decode cL_known 400 = .ok (.iconst 0, 1) := by decide +kernel
theorem dL_known_401 : decode cL_known 401 = .ok (.invokevirtual 23, 3) := by decide +kernel
theorem dL_known_404 : decode cL_known 404 = .ok (.iconst 2, 1) := by decide +kernel
theorem dL_known_405 : decode cL_known 405 = .ok (.if_icmp .ne 134, 3) := by decide +kernel
theorem dL_known_408 : decode cL_known 408 = .ok (.aload_n 0, 1) := by decide +kernel
theorem dL_known_409 : decode cL_known 409 = .ok (.iconst 1, 1) := by decide +kernel
theorem dL_known_410 : decode cL_known 410 = .ok (.iconst 1, 1) := by decide +kernel
theorem dL_known_411 : decode cL_known 411 = .ok (.iconst 2, 1) := by decide +kernel
theorem dL_known_412 : decode cL_known 412 = .ok (.invokevirtual 23, 3) := by decide +kernel
theorem dL_known_415 : decode cL_known 415 = .ok (.bipush 8, 2) := by decide +kernel
theorem dL_known_417 : decode cL_known 417 = .ok (.if_icmp .ne 122, 3) := by decide +kernel
theorem dL_known_420 : decode cL_known 420 = .ok (.aload_n 0, 1) := by decide +kernel
theorem dL_known_421 : decode cL_known 421 = .ok (.iconst 1, 1) := by decide +kernel
theorem dL_known_422 : decode cL_known 422 = .ok (.iconst 2, 1) := by decide +kernel
theorem dL_known_423 : decode cL_known 423 = .ok (.iconst 3, 1) := by decide +kernel
theorem dL_known_424 : decode cL_known 424 = .ok (.invokevirtual 23, 3) := by decide +kernel
theorem dL_known_427 : decode cL_known 427 = .ok (.bipush 9, 2) := by decide +kernel
theorem dL_known_429 : decode cL_known 429 = .ok (.if_icmp .ne 110, 3) := by decide +kernel
theorem dL_known_432 : decode cL_known 432 = .ok (.aload_n 0, 1) := by decide +kernel
theorem dL_known_433 : decode cL_known 433 = .ok (.iconst 2, 1) := by decide +kernel
theorem dL_known_434 : decode cL_known 434 = .ok (.invokevirtual 13, 3) := by decide +kernel
theorem dL_known_437 : decode cL_known 437 = .ok (.iconst 4, 1) := by decide +kernel
theorem dL_known_438 : decode cL_known 438 = .ok (.if_icmp .ne 101, 3) := by decide +kernel
theorem dL_known_441 : decode cL_known 441 = .ok (.aload_n 0, 1) := by decide +kernel
theorem dL_known_442 : decode cL_known 442 = .ok (.iconst 0, 1) := by decide +kernel
theorem dL_known_443 : decode cL_known 443 = .ok (.iconst 3, 1) := by decide +kernel
theorem dL_known_444 : decode cL_known 444 = .ok (.invokevirtual 19, 3) := by decide +kernel
theorem dL_known_447 : decode cL_known 447 = .ok (.iconst 1, 1) := by decide +kernel
theorem dL_known_448 : decode cL_known 448 = .ok (.if_icmp .ne 91, 3) := by decide +kernel
theorem dL_known_451 : decode cL_known 451 = .ok (.aload_n 0, 1) := by decide +kernel
theorem dL_known_452 : decode cL_known 452 = .ok (.iconst 0, 1) := by decide +kernel
theorem dL_known_453 : decode cL_known 453 = .ok (.iconst 4, 1) := by decide +kernel
theorem dL_known_454 : decode cL_known 454 = .ok (.invokevirtual 19, 3) := by decide +kernel
theorem dL_known_457 : decode cL_known 457 = .ok (.iconst 4, 1) := by decide +kernel
theorem dL_known_458 : decode cL_known 458 = .ok (.if_icmp .ne 81, 3) := by decide +kernel
theorem dL_known_461 : decode cL_known 461 = .ok (.aload_n 0, 1) := by decide +kernel
theorem dL_known_462 : decode cL_known 462 = .ok (.iconst 0, 1) := by decide +kernel
theorem dL_known_463 : decode cL_known 463 = .ok (.invokevirtual 52, 3) := by decide +kernel
theorem dL_known_466 : decode cL_known 466 = .ok (.iconst 3, 1) := by decide +kernel
theorem dL_known_467 : decode cL_known 467 = .ok (.if_icmp .ne 72, 3) := by decide +kernel
theorem dL_known_470 : decode cL_known 470 = .ok (.aload_n 0, 1) := by decide +kernel
theorem dL_known_471 : decode cL_known 471 = .ok (.iconst 1, 1) := by decide +kernel
theorem dL_known_472 : decode cL_known 472 = .ok (.invokevirtual 52, 3) := by decide +kernel
theorem dL_known_475 : decode cL_known 475 = .ok (.iconst 5, 1) := by decide +kernel
theorem dL_known_476 : decode cL_known 476 = .ok (.if_icmp .ne 63, 3) := by decide +kernel
theorem dL_known_479 : decode cL_known 479 = .ok (.aload_n 0, 1) := by decide +kernel
theorem dL_known_480 : decode cL_known 480 = .ok (.iconst 5, 1) := by decide +kernel
theorem dL_known_481 : decode cL_known 481 = .ok (.invokevirtual 55, 3) := by decide +kernel
theorem dL_known_484 : decode cL_known 484 = .ok (.ifCond .ne 55, 3) := by decide +kernel
theorem dL_known_487 : decode cL_known 487 = .ok (.aload_n 0, 1) := by decide +kernel
theorem dL_known_488 : decode cL_known 488 = .ok (.iconst 5, 1) := by decide +kernel
theorem dL_known_489 : decode cL_known 489 = .ok (.iconst 2, 1) := by decide +kernel
theorem dL_known_490 : decode cL_known 490 = .ok (.invokevirtual 27, 3) := by decide +kernel
theorem dL_known_493 : decode cL_known 493 = .ok (.iconst 3, 1) := by decide +kernel
theorem dL_known_494 : decode cL_known 494 = .ok (.if_icmp .ne 45, 3) := by decide +kernel
theorem dL_known_497 : decode cL_known 497 = .ok (.aload_n 0, 1) := by decide +kernel
theorem dL_known_498 : decode cL_known 498 = .ok (.iconst 5, 1) := by decide +kernel
theorem dL_known_499 : decode cL_known 499 = .ok (.iconst 3, 1) := by decide +kernel
theorem dL_known_500 : decode cL_known 500 = .ok (.invokevirtual 27, 3) := by decide +kernel
theorem dL_known_503 : decode cL_known 503 = .ok (.iconst 1, 1) := by decide +kernel
theorem dL_known_504 : decode cL_known 504 = .ok (.if_icmp .ne 35, 3) := by decide +kernel
theorem dL_known_507 : decode cL_known 507 = .ok (.aload_n 0, 1) := by decide +kernel
theorem dL_known_508 : decode cL_known 508 = .ok (.iconst 5, 1) := by decide +kernel
theorem dL_known_509 : decode cL_known 509 = .ok (.iconst 1, 1) := by decide +kernel
theorem dL_known_510 : decode cL_known 510 = .ok (.invokevirtual 27, 3) := by decide +kernel
theorem dL_known_513 : decode cL_known 513 = .ok (.bipush 9, 2) := by decide +kernel
theorem dL_known_515 : decode cL_known 515 = .ok (.if_icmp .ne 24, 3) := by decide +kernel
theorem dL_known_518 : decode cL_known 518 = .ok (.aload_n 0, 1) := by decide +kernel
theorem dL_known_519 : decode cL_known 519 = .ok (.iconst 0, 1) := by decide +kernel
theorem dL_known_520 : decode cL_known 520 = .ok (.bipush 26, 2) := by decide +kernel
theorem dL_known_522 : decode cL_known 522 = .ok (.invokevirtual 49, 3) := by decide +kernel
theorem dL_known_525 : decode cL_known 525 = .ok (.bipush 13, 2) := by decide +kernel
theorem dL_known_527 : decode cL_known 527 = .ok (.if_icmp .ne 12, 3) := by decide +kernel
theorem dL_known_530 : decode cL_known 530 = .ok (.aload_n 0, 1) := by decide +kernel
theorem dL_known_531 : decode cL_known 531 = .ok (.iconst 5, 1) := by decide +kernel
theorem dL_known_532 : decode cL_known 532 = .ok (.invokevirtual 13, 3) := by decide +kernel
theorem dL_known_535 : decode cL_known 535 = .ok (.iconst 3, 1) := by decide +kernel
theorem dL_known_536 : decode cL_known 536 = .ok (.if_icmp .eq 5, 3) := by decide +kernel
theorem dL_known_539 : decode cL_known 539 = .ok (.iconst 0, 1) := by decide +kernel
theorem dL_known_540 : decode cL_known 540 = .ok (.ireturn, 1) := by decide +kernel
theorem dL_known_541 : decode cL_known 541 = .ok (.aload_n 0, 1) := by decide +kernel
theorem dL_known_542 : decode cL_known 542 = .ok (.iconst 1, 1) := by decide +kernel
theorem dL_known_543 : decode cL_known 543 = .ok (.invokevirtual 43, 3) := by decide +kernel
theorem dL_known_546 : decode cL_known 546 = .ok (.bipush 8, 2) := by decide +kernel
theorem dL_known_548 : decode cL_known 548 = .ok (.if_icmp .ne 143, 3) := by decide +kernel
theorem dL_known_551 : decode cL_known 551 = .ok (.aload_n 0, 1) := by decide +kernel
theorem dL_known_552 : decode cL_known 552 = .ok (.iconst 1, 1) := by decide +kernel
theorem dL_known_553 : decode cL_known 553 = .ok (.iconst 3, 1) := by decide +kernel
theorem dL_known_554 : decode cL_known 554 = .ok (.invokevirtual 19, 3) := by decide +kernel
theorem dL_known_557 : decode cL_known 557 = .ok (.iconst 3, 1) := by decide +kernel
theorem dL_known_558 : decode cL_known 558 = .ok (.if_icmp .ne 133, 3) := by decide +kernel
theorem dL_known_561 : decode cL_known 561 = .ok (.aload_n 0, 1) := by decide +kernel
theorem dL_known_562 : decode cL_known 562 = .ok (.iconst 1, 1) := by decide +kernel
theorem dL_known_563 : decode cL_known 563 = .ok (.iconst 4, 1) := by decide +kernel
theorem dL_known_564 : decode cL_known 564 = .ok (.invokevirtual 19, 3) := by decide +kernel
theorem dL_known_567 : decode cL_known 567 = .ok (.bipush 6, 2) := by decide +kernel
theorem dL_known_569 : decode cL_known 569 = .ok (.if_icmp .ne 122, 3) := by decide +kernel
theorem dL_known_572 : decode cL_known 572 = .ok (.aload_n 0, 1) := by decide +kernel
theorem dL_known_573 : decode cL_known 573 = .ok (.iconst 2, 1) := by decide +kernel
theorem dL_known_574 : decode cL_known 574 = .ok (.invokevirtual 13, 3) := by decide +kernel
theorem dL_known_577 : decode cL_known 577 = .ok (.bipush 10, 2) := by decide +kernel
theorem dL_known_579 : decode cL_known 579 = .ok (.if_icmp .ne 112, 3) := by decide +kernel
theorem dL_known_582 : decode cL_known 582 = .ok (.aload_n 0, 1) := by decide +kernel
theorem dL_known_583 : decode cL_known 583 = .ok (.iconst 5, 1) := by decide +kernel
theorem dL_known_584 : decode cL_known 584 = .ok (.iconst 0, 1) := by decide +kernel
theorem dL_known_585 : decode cL_known 585 = .ok (.invokevirtual 19, 3) := by decide +kernel
theorem dL_known_588 : decode cL_known 588 = .ok (.iconst 3, 1) := by decide +kernel
theorem dL_known_589 : decode cL_known 589 = .ok (.if_icmp .ne 102, 3) := by decide +kernel
theorem dL_known_592 : decode cL_known 592 = .ok (.aload_n 0, 1) := by decide +kernel
theorem dL_known_593 : decode cL_known 593 = .ok (.iconst 5, 1) := by decide +kernel
theorem dL_known_594 : decode cL_known 594 = .ok (.invokevirtual 52, 3) := by decide +kernel
theorem dL_known_597 : decode cL_known 597 = .ok (.iconst 5, 1) := by decide +kernel
theorem dL_known_598 : decode cL_known 598 = .ok (.if_icmp .ne 93, 3) := by decide +kernel
theorem dL_known_601 : decode cL_known 601 = .ok (.aload_n 0, 1) := by decide +kernel
theorem dL_known_602 : decode cL_known 602 = .ok (.iconst 1, 1) := by decide +kernel
theorem dL_known_603 : decode cL_known 603 = .ok (.invokevirtual 52, 3) := by decide +kernel
theorem dL_known_606 : decode cL_known 606 = .ok (.bipush (-6), 2) := by decide +kernel
theorem dL_known_608 : decode cL_known 608 = .ok (.if_icmp .ne 83, 3) := by decide +kernel
theorem dL_known_611 : decode cL_known 611 = .ok (.aload_n 0, 1) := by decide +kernel
theorem dL_known_612 : decode cL_known 612 = .ok (.iconst 5, 1) := by decide +kernel
theorem dL_known_613 : decode cL_known 613 = .ok (.invokevirtual 43, 3) := by decide +kernel
theorem dL_known_616 : decode cL_known 616 = .ok (.iconst 5, 1) := by decide +kernel
theorem dL_known_617 : decode cL_known 617 = .ok (.if_icmp .ne 74, 3) := by decide +kernel
theorem dL_known_620 : decode cL_known 620 = .ok (.aload_n 0, 1) := by decide +kernel
theorem dL_known_621 : decode cL_known 621 = .ok (.iconst 2, 1) := by decide +kernel
theorem dL_known_622 : decode cL_known 622 = .ok (.invokevirtual 13, 3) := by decide +kernel
theorem dL_known_625 : decode cL_known 625 = .ok (.bipush 15, 2) := by decide +kernel
theorem dL_known_627 : decode cL_known 627 = .ok (.if_icmp .ne 64, 3) := by decide +kernel
theorem dL_known_630 : decode cL_known 630 = .ok (.aload_n 0, 1) := by decide +kernel
theorem dL_known_631 : decode cL_known 631 = .ok (.iconst 3, 1) := by decide +kernel
theorem dL_known_632 : decode cL_known 632 = .ok (.invokevirtual 13, 3) := by decide +kernel
theorem dL_known_635 : decode cL_known 635 = .ok (.iconst 5, 1) := by decide +kernel
theorem dL_known_636 : decode cL_known 636 = .ok (.if_icmp .ne 55, 3) := by decide +kernel
theorem dL_known_639 : decode cL_known 639 = .ok (.aload_n 0, 1) := by decide +kernel
theorem dL_known_640 : decode cL_known 640 = .ok (.iconst 5, 1) := by decide +kernel
theorem dL_known_641 : decode cL_known 641 = .ok (.iconst 0, 1) := by decide +kernel
theorem dL_known_642 : decode cL_known 642 = .ok (.invokevirtual 27, 3) := by decide +kernel
theorem dL_known_645 : decode cL_known 645 = .ok (.bipush 9, 2) := by decide +kernel
theorem dL_known_647 : decode cL_known 647 = .ok (.if_icmp .ne 44, 3) := by decide +kernel
theorem dL_known_650 : decode cL_known 650 = .ok (.aload_n 0, 1) := by decide +kernel
theorem dL_known_651 : decode cL_known 651 = .ok (.iconst 5, 1) := by decide +kernel
theorem dL_known_652 : decode cL_known 652 = .ok (.iconst 3, 1) := by decide +kernel
theorem dL_known_653 : decode cL_known 653 = .ok (.invokevirtual 27, 3) := by decide +kernel
theorem dL_known_656 : decode cL_known 656 = .ok (.bipush (-6), 2) := by decide +kernel
theorem dL_known_658 : decode cL_known 658 = .ok (.if_icmp .ne 33, 3) := by decide +kernel
theorem dL_known_661 : decode cL_known 661 = .ok (.aload_n 0, 1) := by decide +kernel
theorem dL_known_662 : decode cL_known 662 = .ok (.iconst 4, 1) := by decide +kernel
theorem dL_known_663 : decode cL_known 663 = .ok (.iconst 0, 1) := by decide +kernel
theorem dL_known_664 : decode cL_known 664 = .ok (.invokevirtual 27, 3) := by decide +kernel
theorem dL_known_667 : decode cL_known 667 = .ok (.bipush (-6), 2) := by decide +kernel
theorem dL_known_669 : decode cL_known 669 = .ok (.if_icmp .ne 22, 3) := by decide +kernel
theorem dL_known_672 : decode cL_known 672 = .ok (.aload_n 0, 1) := by decide +kernel
theorem dL_known_673 : decode cL_known 673 = .ok (.invokevirtual 168, 3) := by decide +kernel
theorem dL_known_676 : decode cL_known 676 = .ok (.bipush 36, 2) := by decide +kernel
theorem dL_known_678 : decode cL_known 678 = .ok (.if_icmp .ne 13, 3) := by decide +kernel
theorem dL_known_681 : decode cL_known 681 = .ok (.aload_n 0, 1) := by decide +kernel
theorem dL_known_682 : decode cL_known 682 = .ok (.iconst 2, 1) := by decide +kernel
theorem dL_known_683 : decode cL_known 683 = .ok (.invokevirtual 13, 3) := by decide +kernel
theorem dL_known_686 : decode cL_known 686 = .ok (.bipush 15, 2) := by decide +kernel
theorem dL_known_688 : decode cL_known 688 = .ok (.if_icmp .eq 5, 3) := by decide +kernel
theorem dL_known_691 : decode cL_known 691 = .ok (.iconst 0, 1) := by decide +kernel
theorem dL_known_692 : decode cL_known 692 = .ok (.ireturn, 1) := by decide +kernel
theorem dL_known_693 : decode cL_known 693 = .ok (.aload_n 0, 1) := by decide +kernel
theorem dL_known_694 : decode cL_known 694 = .ok (.invokestatic 164, 3) := by decide +kernel
theorem dL_known_697 : decode cL_known 697 = .ok (.ifCond .eq 54, 3) := by decide +kernel
theorem dL_known_700 : decode cL_known 700 = .ok (.aload_n 0, 1) := by decide +kernel
theorem dL_known_701 : decode cL_known 701 = .ok (.bipush 7, 2) := by decide +kernel
theorem dL_known_703 : decode cL_known 703 = .ok (.invokevirtual 13, 3) := by decide +kernel
theorem dL_known_706 : decode cL_known 706 = .ok (.bipush 6, 2) := by decide +kernel
theorem dL_known_708 : decode cL_known 708 = .ok (.if_icmp .ne 43, 3) := by decide +kernel
theorem dL_known_711 : decode cL_known 711 = .ok (.aload_n 0, 1) := by decide +kernel
theorem dL_known_712 : decode cL_known 712 = .ok (.invokevirtual 161, 3) := by decide +kernel
theorem dL_known_715 : decode cL_known 715 = .ok (.iconst 5, 1) := by decide +kernel
theorem dL_known_716 : decode cL_known 716 = .ok (.if_icmp .ne 35, 3) := by decide +kernel
theorem dL_known_719 : decode cL_known 719 = .ok (.aload_n 0, 1) := by decide +kernel
theorem dL_known_720 : decode cL_known 720 = .ok (.iconst 0, 1) := by decide +kernel
theorem dL_known_721 : decode cL_known 721 = .ok (.invokevirtual 13, 3) := by decide +kernel
theorem dL_known_724 : decode cL_known 724 = .ok (.bipush 8, 2) := by decide +kernel
theorem dL_known_726 : decode cL_known 726 = .ok (.if_icmp .ne 25, 3) := by decide +kernel
theorem dL_known_729 : decode cL_known 729 = .ok (.aload_n 0, 1) := by decide +kernel
theorem dL_known_730 : decode cL_known 730 = .ok (.invokevirtual 161, 3) := by decide +kernel
theorem dL_known_733 : decode cL_known 733 = .ok (.iconst 4, 1) := by decide +kernel
theorem dL_known_734 : decode cL_known 734 = .ok (.if_icmp .ne 17, 3) := by decide +kernel
theorem dL_known_737 : decode cL_known 737 = .ok (.aload_n 0, 1) := by decide +kernel
theorem dL_known_738 : decode cL_known 738 = .ok (.iconst 1, 1) := by decide +kernel
theorem dL_known_739 : decode cL_known 739 = .ok (.iconst 0, 1) := by decide +kernel
theorem dL_known_740 : decode cL_known 740 = .ok (.invokevirtual 19, 3) := by decide +kernel
theorem dL_known_743 : decode cL_known 743 = .ok (.iconst 4, 1) := by decide +kernel
theorem dL_known_744 : decode cL_known 744 = .ok (.if_icmp .ne 7, 3) := by decide +kernel
theorem dL_known_747 : decode cL_known 747 = .ok (.iconst 1, 1) := by decide +kernel
theorem dL_known_748 : decode cL_known 748 = .ok (.goto 4, 3) := by decide +kernel
theorem dL_known_751 : decode cL_known 751 = .ok (.iconst 0, 1) := by decide +kernel
theorem dL_known_752 : decode cL_known 752 = .ok (.ireturn, 1) := by decide +kernel

