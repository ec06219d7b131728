set_option maxRecDepth 20000 in
theorem ggL_texts_L_faultOf_p0 : GoodIn wsL_texts [Cond.code yL_faultOf cL_faultOf 7 (some .int)] := fun w h => by
  rw [List.mem_singleton.mp h]
  exact ⟨List.mem_of_getElem? (i := 38) rfl, good_of_word (by decide +kernel)⟩
set_option maxRecDepth 20000 in
theorem ggL_texts_L_faultOf_p1 : GoodIn wsL_texts wsL_faultOf_r1 := goodIn_r _ [27, 28, 29, 39, 40, 41, 42, 43, 44, 45, 46, 47, 48, 49, 50, 51, 52, 53, 54, 55, 56, 57, 58, 59] (by decide +kernel) (by decide +kernel)
set_option maxRecDepth 20000 in
theorem ggL_texts_L_faultOf_p2 : GoodIn wsL_texts wsL_faultOf_r2 := goodIn_r _ [60, 61, 62, 63, 64, 65, 66, 67, 68, 69, 70, 71, 72, 73, 74, 75, 76, 77, 78, 79, 80, 81, 82, 83] (by decide +kernel) (by decide +kernel)
set_option maxRecDepth 20000 in
theorem ggL_texts_L_faultOf_p3 : GoodIn wsL_texts wsL_faultOf_r3 := goodIn_r _ [84, 85, 86, 87, 88, 89, 90, 91, 92, 93, 94, 95, 96, 97, 98, 99, 100, 101, 102, 103, 104, 105, 106, 107] (by decide +kernel) (by decide +kernel)
set_option maxRecDepth 20000 in
theorem ggL_texts_L_faultOf_p4 : GoodIn wsL_texts wsL_faultOf_r4 := goodIn_r _ [108, 109, 110, 111, 112, 113, 114, 115, 116, 117, 118, 119, 120, 121, 122, 123, 124, 125, 126, 127, 128, 129, 130, 131] (by decide +kernel) (by decide +kernel)
set_option maxRecDepth 20000 in
theorem ggL_texts_L_faultOf_p5 : GoodIn wsL_texts wsL_faultOf_r5 := goodIn_r _ [132, 133, 134, 135, 136, 137, 138, 139, 140, 141, 142, 143, 144, 145, 146, 147, 148, 149, 150, 151, 152, 153, 154, 155] (by decide +kernel) (by decide +kernel)
set_option maxRecDepth 20000 in
theorem ggL_texts_L_faultOf_p6 : GoodIn wsL_texts wsL_faultOf_r6 := goodIn_r _ [156, 157, 158, 159, 160, 161, 162, 163, 164, 165, 166, 167, 168, 169, 170, 171, 172, 173, 174, 175, 176, 177, 178, 179] (by decide +kernel) (by decide +kernel)
set_option maxRecDepth 20000 in
theorem ggL_texts_L_faultOf_p7 : GoodIn wsL_texts wsL_faultOf_r7 := goodIn_r _ [180, 181, 182, 183, 184, 185, 186, 187, 188, 189, 190, 191, 192, 193, 194, 195, 196, 197, 198, 199, 200, 201, 202, 203] (by decide +kernel) (by decide +kernel)
set_option maxRecDepth 20000 in
theorem ggL_texts_L_faultOf_p8 : GoodIn wsL_texts wsL_faultOf_r8 := goodIn_r _ [204, 205, 206, 207, 208, 209, 210, 211, 212, 213, 214, 215, 216, 217, 218, 219, 220, 221, 222, 223, 224, 225, 226, 227] (by decide +kernel) (by decide +kernel)
set_option maxRecDepth 20000 in
theorem ggL_texts_L_faultOf_p9 : GoodIn wsL_texts wsL_faultOf_r9 := goodIn_r _ [228, 229, 230, 231, 232, 233, 234, 235, 236, 237, 238, 239, 240, 241, 242, 243, 244, 245, 246, 247, 248, 249, 250, 251] (by decide +kernel) (by decide +kernel)
set_option maxRecDepth 20000 in
theorem ggL_texts_L_faultOf_p10 : GoodIn wsL_texts wsL_faultOf_r10 := goodIn_r _ [252, 253, 254, 255, 256, 257, 258, 259, 260, 261, 262, 263, 264, 265, 266, 267, 268, 269, 270, 271, 272, 273, 274, 275] (by decide +kernel) (by decide +kernel)
set_option maxRecDepth 20000 in
theorem ggL_texts_L_faultOf_p11 : GoodIn wsL_texts wsL_faultOf_r11 := goodIn_r _ [276, 277, 278, 279, 280, 281, 282, 283, 284, 285, 286, 287, 288, 289, 290, 291, 292, 293, 294, 295, 296, 297, 298, 299] (by decide +kernel) (by decide +kernel)
set_option maxRecDepth 20000 in
theorem ggL_texts_L_faultOf_p12 : GoodIn wsL_texts wsL_faultOf_r12 := goodIn_r _ [300, 301, 302, 303, 304, 305, 306, 307, 308, 309, 310, 311, 312, 313, 314, 315, 316, 317, 318, 319, 320, 321, 322, 323] (by decide +kernel) (by decide +kernel)
set_option maxRecDepth 20000 in
theorem ggL_texts_L_faultOf_p13 : GoodIn wsL_texts wsL_faultOf_r13 := goodIn_r _ [324, 325, 326, 327, 328, 329, 330, 331, 332, 333, 334, 335, 336, 337, 338, 339, 340, 341, 342, 343, 344, 345, 346, 347] (by decide +kernel) (by decide +kernel)
set_option maxRecDepth 20000 in
theorem ggL_texts_L_faultOf_p14 : GoodIn wsL_texts wsL_faultOf_r14 := goodIn_r _ [348, 349, 350, 351, 352, 353, 354, 355, 356, 357, 358, 359, 360] (by decide +kernel) (by decide +kernel)
set_option maxRecDepth 20000 in
theorem ggL_texts_L_faultOf_x0 : GoodIn wsL_texts wsX50 := goodIn_r _ [526, 527, 528, 529, 530, 531] (by decide +kernel) (by decide +kernel)
set_option maxRecDepth 20000 in
theorem ggL_texts_L_faultOf_x1 : GoodIn wsL_texts wsX40 := goodIn_r _ [532, 533, 534, 535, 536, 537, 538, 539, 540, 541] (by decide +kernel) (by decide +kernel)
set_option maxRecDepth 20000 in
theorem ggL_texts_L_faultOf_x2 : GoodIn wsL_texts wsX00 := goodIn_r _ [542, 543, 544] (by decide +kernel) (by decide +kernel)
set_option maxRecDepth 20000 in
theorem ggL_texts_L_faultOf_x3 : GoodIn wsL_texts wsX10 := goodIn_r _ [545, 546, 547, 548, 549] (by decide +kernel) (by decide +kernel)
set_option maxRecDepth 20000 in
theorem ggL_texts_L_faultOf : GoodIn wsL_texts wsL_faultOf := fun w h => (goodIn_app (a := [_]) ggL_texts_L_faultOf_p0 (goodIn_app (goodIn_app (goodIn_app (goodIn_app (goodIn_app ggL_texts_L_faultOf_p1 (goodIn_app ggL_texts_L_faultOf_p2 (goodIn_app ggL_texts_L_faultOf_p3 (goodIn_app ggL_texts_L_faultOf_p4 (goodIn_app ggL_texts_L_faultOf_p5 (goodIn_app ggL_texts_L_faultOf_p6 (goodIn_app ggL_texts_L_faultOf_p7 (goodIn_app ggL_texts_L_faultOf_p8 (goodIn_app ggL_texts_L_faultOf_p9 (goodIn_app ggL_texts_L_faultOf_p10 (goodIn_app ggL_texts_L_faultOf_p11 (goodIn_app ggL_texts_L_faultOf_p12 (goodIn_app ggL_texts_L_faultOf_p13 ggL_texts_L_faultOf_p14))))))))))))) ggL_texts_L_faultOf_x0) ggL_texts_L_faultOf_x1) ggL_texts_L_faultOf_x2) ggL_texts_L_faultOf_x3)) w h
set_option maxRecDepth 20000 in
theorem ggL_texts_L_refused_p0 : GoodIn wsL_texts [Cond.code yL_refused cL_refused 9 (some .boolean)] := fun w h => by
  rw [List.mem_singleton.mp h]
  exact ⟨List.mem_of_getElem? (i := 405) rfl, good_of_word (by decide +kernel)⟩
set_option maxRecDepth 20000 in
theorem ggL_texts_L_refused_p1_0 : GoodIn wsL_texts [Cond.constantLong RL 74 (32), Cond.constantLong RL 76 (127), Cond.constantLong RL 78 (3473461), Cond.constantLong RL 80 (13568), Cond.constantLong RL 82 (-1), Cond.methodLink RL 30 yL_seen, Cond.static yL_seen, Cond.initialized RL] := goodIn_r _ [406, 407, 408, 409, 410, 411, 412, 37] (by decide +kernel) (by decide +kernel)
set_option maxRecDepth 20000 in
theorem ggL_texts_L_refused_p1_1 : GoodIn wsL_texts [Cond.code yL_seen cL_seen 5 (some .long)] := fun w h => by
  rw [List.mem_singleton.mp h]
  exact ⟨List.mem_of_getElem? (i := 413) rfl, good_of_word (by decide +kernel)⟩
set_option maxRecDepth 20000 in
theorem ggL_texts_L_refused_p1_2 : GoodIn wsL_texts [Cond.constantLong RL 9 (3), Cond.constantLong RL 11 (31), Cond.methodLink RL 13 yX5_count, Cond.instanceMethod yX5_count, Cond.selects RX5 yX5_count yX5_count, Cond.initialized RX5, Cond.code yX5_count cX5_count 2 (some .int), Cond.fieldLink RX5 12 "StoneTree" "tree" "LStoneTree$Tree;", Cond.fieldLink RX5 37 "StoneTree" "pad" "LStoneTree$Pad;", Cond.fieldLink RX5 22 "StoneTree" "history" "LStoneTree$History;", Cond.methodLink RX5 69 yX4_stones, Cond.instanceMethod yX4_stones, Cond.selects RX4 yX4_stones yX4_stones, Cond.initialized RX4, Cond.code yX4_stones cX4_stones 1 (some .int)] := goodIn_r _ [414, 415, 147, 148, 149, 29, 150, 48, 60, 53, 151, 152, 153, 47, 154] (by decide +kernel) (by decide +kernel)
set_option maxRecDepth 20000 in
theorem ggL_texts_L_refused_p1 : GoodIn wsL_texts wsL_refused_r1 := fun w h => (goodIn_app (a := [_, _, _, _, _, _, _, _]) ggL_texts_L_refused_p1_0 (goodIn_app (a := [_]) ggL_texts_L_refused_p1_1 ggL_texts_L_refused_p1_2)) w h
set_option maxRecDepth 20000 in
theorem ggL_texts_L_refused_p2 : GoodIn wsL_texts wsL_refused_r2 := goodIn_r _ [68, 155, 156, 157, 158, 159, 160, 161, 162, 163, 164, 165, 166, 71, 167, 168, 169, 170, 171, 172, 173, 174, 175, 176] (by decide +kernel) (by decide +kernel)
set_option maxRecDepth 20000 in
theorem ggL_texts_L_refused_p3 : GoodIn wsL_texts wsL_refused_r3 := goodIn_r _ [177, 178, 179, 180, 181, 182, 183, 184, 185, 186, 187, 188, 67, 189, 190, 191, 192, 193, 194, 195, 196, 197, 198, 199] (by decide +kernel) (by decide +kernel)
set_option maxRecDepth 20000 in
theorem ggL_texts_L_refused_p4 : GoodIn wsL_texts wsL_refused_r4 := goodIn_r _ [200, 201, 202, 203, 204, 69, 205, 206, 145, 207, 208, 209, 210, 211, 212, 213, 214, 215, 216, 217, 218, 219, 220, 221] (by decide +kernel) (by decide +kernel)
set_option maxRecDepth 20000 in
theorem ggL_texts_L_refused_p5 : GoodIn wsL_texts wsL_refused_r5 := goodIn_r _ [222, 223, 224, 225, 96, 97, 98, 59, 99, 100, 226, 227, 228, 52, 229, 230, 231, 232, 233, 234, 66, 416, 417, 418] (by decide +kernel) (by decide +kernel)
set_option maxRecDepth 20000 in
theorem ggL_texts_L_refused_p6 : GoodIn wsL_texts wsL_refused_r6 := goodIn_r _ [419, 365, 366, 367, 368, 420, 318, 319, 320, 421, 422, 423, 424, 326, 327, 328, 315, 316, 317, 321, 322, 323, 324, 425] (by decide +kernel) (by decide +kernel)
set_option maxRecDepth 20000 in
theorem ggL_texts_L_refused_p7 : GoodIn wsL_texts wsL_refused_r7 := goodIn_r _ [426, 427, 428, 70, 429, 430, 431, 432, 433, 434, 435, 436, 437, 438, 439, 72, 361, 362, 363, 364, 369, 370, 371, 372] (by decide +kernel) (by decide +kernel)
set_option maxRecDepth 20000 in
theorem ggL_texts_L_refused_p8 : GoodIn wsL_texts wsL_refused_r8 := goodIn_r _ [373, 374, 375, 376, 377, 378, 379, 380, 381, 382, 383, 384, 385, 386, 329, 330, 331, 332, 387, 388, 389, 390, 440, 441] (by decide +kernel) (by decide +kernel)
set_option maxRecDepth 20000 in
theorem ggL_texts_L_refused_p9 : GoodIn wsL_texts wsL_refused_r9 := goodIn_r _ [442, 443, 444, 445, 446, 239, 240, 241, 242, 243, 78, 244, 245, 125, 246, 247, 248, 249, 250, 251, 252, 253, 254, 255] (by decide +kernel) (by decide +kernel)
set_option maxRecDepth 20000 in
theorem ggL_texts_L_refused_p10 : GoodIn wsL_texts wsL_refused_r10 := goodIn_r _ [256, 257, 258, 447, 448, 449, 450, 286, 451, 452, 453, 454, 455, 456, 457, 458, 459, 460, 461, 144, 146, 267, 268, 269] (by decide +kernel) (by decide +kernel)
set_option maxRecDepth 20000 in
theorem ggL_texts_L_refused_p11 : GoodIn wsL_texts wsL_refused_r11 := goodIn_r _ [270, 271, 272, 273, 274, 275, 276, 277, 278, 279, 280, 281, 282, 283, 284, 285, 287, 288, 289, 290, 291, 292, 293, 294] (by decide +kernel) (by decide +kernel)
set_option maxRecDepth 20000 in
theorem ggL_texts_L_refused_p12 : GoodIn wsL_texts wsL_refused_r12 := goodIn_r _ [295, 296, 297, 298, 299, 300, 301, 302, 303, 304, 305, 306, 307, 308, 309, 310, 311, 312, 313, 314, 325, 333, 334, 335] (by decide +kernel) (by decide +kernel)
set_option maxRecDepth 20000 in
theorem ggL_texts_L_refused_p13 : GoodIn wsL_texts wsL_refused_r13 := goodIn_r _ [336, 337, 338, 339, 340, 341, 342, 343, 344, 124, 126, 345, 346, 347, 348, 349, 350, 351, 352, 353, 354, 355, 356, 462] (by decide +kernel) (by decide +kernel)
set_option maxRecDepth 20000 in
theorem ggL_texts_L_refused_p14 : GoodIn wsL_texts wsL_refused_r14 := goodIn_r _ [463, 464, 465, 466, 467, 468, 469, 470, 471, 472, 473, 474, 475, 476, 477, 478, 479, 480, 481, 482, 483, 484, 485, 486] (by decide +kernel) (by decide +kernel)
set_option maxRecDepth 20000 in
theorem ggL_texts_L_refused_p15 : GoodIn wsL_texts wsL_refused_r15 := goodIn_r _ [487, 488, 489, 490, 491, 492, 493, 494, 495, 496, 497, 498, 499, 500, 501, 502, 503, 504, 49, 505, 506, 507, 508, 509] (by decide +kernel) (by decide +kernel)
set_option maxRecDepth 20000 in
theorem ggL_texts_L_refused_p16 : GoodIn wsL_texts wsL_refused_r16 := goodIn_r _ [510, 511, 512, 513, 514, 515, 516, 517, 54, 56, 518, 519, 520, 521, 522, 523, 524, 525, 86, 87, 88, 89, 90, 91] (by decide +kernel) (by decide +kernel)
set_option maxRecDepth 20000 in
theorem ggL_texts_L_refused_p17 : GoodIn wsL_texts wsL_refused_r17 := goodIn_r _ [92, 93, 94, 95, 101, 102, 103, 104, 84] (by decide +kernel) (by decide +kernel)
set_option maxRecDepth 20000 in
theorem ggL_texts_L_refused_x0 : GoodIn wsL_texts wsX50 := goodIn_r _ [526, 527, 528, 529, 530, 531] (by decide +kernel) (by decide +kernel)
set_option maxRecDepth 20000 in
theorem ggL_texts_L_refused_x1 : GoodIn wsL_texts wsX40 := goodIn_r _ [532, 533, 534, 535, 536, 537, 538, 539, 540, 541] (by decide +kernel) (by decide +kernel)
set_option maxRecDepth 20000 in
theorem ggL_texts_L_refused_x2 : GoodIn wsL_texts wsX10 := goodIn_r _ [545, 546, 547, 548, 549] (by decide +kernel) (by decide +kernel)
set_option maxRecDepth 20000 in
theorem ggL_texts_L_refused_x3 : GoodIn wsL_texts wsX00 := goodIn_r _ [542, 543, 544] (by decide +kernel) (by decide +kernel)
set_option maxRecDepth 20000 in
theorem ggL_texts_L_refused : GoodIn wsL_texts wsL_refused := fun w h => (goodIn_app (a := [_]) ggL_texts_L_refused_p0 (goodIn_app (goodIn_app (goodIn_app (goodIn_app (goodIn_app ggL_texts_L_refused_p1 (goodIn_app ggL_texts_L_refused_p2 (goodIn_app ggL_texts_L_refused_p3 (goodIn_app ggL_texts_L_refused_p4 (goodIn_app ggL_texts_L_refused_p5 (goodIn_app ggL_texts_L_refused_p6 (goodIn_app ggL_texts_L_refused_p7 (goodIn_app ggL_texts_L_refused_p8 (goodIn_app ggL_texts_L_refused_p9 (goodIn_app ggL_texts_L_refused_p10 (goodIn_app ggL_texts_L_refused_p11 (goodIn_app ggL_texts_L_refused_p12 (goodIn_app ggL_texts_L_refused_p13 (goodIn_app ggL_texts_L_refused_p14 (goodIn_app ggL_texts_L_refused_p15 (goodIn_app ggL_texts_L_refused_p16 ggL_texts_L_refused_p17)))))))))))))))) ggL_texts_L_refused_x0) ggL_texts_L_refused_x1) ggL_texts_L_refused_x2) ggL_texts_L_refused_x3)) w h
set_option maxRecDepth 20000 in
theorem ggL_known_L_refused_p0 : GoodIn wsL_known [Cond.code yL_refused cL_refused 9 (some .boolean)] := fun w h => by
  rw [List.mem_singleton.mp h]
  exact ⟨List.mem_of_getElem? (i := 54) rfl, good_of_word (by decide +kernel)⟩
set_option maxRecDepth 20000 in
theorem ggL_known_L_refused_p1_0 : GoodIn wsL_known [Cond.constantLong RL 74 (32), Cond.constantLong RL 76 (127), Cond.constantLong RL 78 (3473461), Cond.constantLong RL 80 (13568), Cond.constantLong RL 82 (-1), Cond.methodLink RL 30 yL_seen, Cond.static yL_seen, Cond.initialized RL] := goodIn_r _ [55, 56, 57, 58, 59, 60, 61, 53] (by decide +kernel) (by decide +kernel)
set_option maxRecDepth 20000 in
theorem ggL_known_L_refused_p1_1 : GoodIn wsL_known [Cond.code yL_seen cL_seen 5 (some .long)] := fun w h => by
  rw [List.mem_singleton.mp h]
  exact ⟨List.mem_of_getElem? (i := 62) rfl, good_of_word (by decide +kernel)⟩
set_option maxRecDepth 20000 in
theorem ggL_known_L_refused_p1_2 : GoodIn wsL_known [Cond.constantLong RL 9 (3), Cond.constantLong RL 11 (31), Cond.methodLink RL 13 yX5_count, Cond.instanceMethod yX5_count, Cond.selects RX5 yX5_count yX5_count, Cond.initialized RX5, Cond.code yX5_count cX5_count 2 (some .int), Cond.fieldLink RX5 12 "StoneTree" "tree" "LStoneTree$Tree;", Cond.fieldLink RX5 37 "StoneTree" "pad" "LStoneTree$Pad;", Cond.fieldLink RX5 22 "StoneTree" "history" "LStoneTree$History;", Cond.methodLink RX5 69 yX4_stones, Cond.instanceMethod yX4_stones, Cond.selects RX4 yX4_stones yX4_stones, Cond.initialized RX4, Cond.code yX4_stones cX4_stones 1 (some .int)] := goodIn_r _ [63, 64, 65, 66, 67, 3, 68, 13, 25, 18, 69, 70, 71, 12, 72] (by decide +kernel) (by decide +kernel)
set_option maxRecDepth 20000 in
theorem ggL_known_L_refused_p1 : GoodIn wsL_known wsL_refused_r1 := fun w h => (goodIn_app (a := [_, _, _, _, _, _, _, _]) ggL_known_L_refused_p1_0 (goodIn_app (a := [_]) ggL_known_L_refused_p1_1 ggL_known_L_refused_p1_2)) w h
set_option maxRecDepth 20000 in
theorem ggL_known_L_refused_p2 : GoodIn wsL_known wsL_refused_r2 := goodIn_r _ [33, 73, 74, 75, 76, 77, 78, 79, 80, 81, 82, 83, 84, 36, 85, 86, 87, 88, 89, 90, 91, 92, 93, 94] (by decide +kernel) (by decide +kernel)
set_option maxRecDepth 20000 in
theorem ggL_known_L_refused_p3 : GoodIn wsL_known wsL_refused_r3 := goodIn_r _ [95, 96, 97, 98, 99, 100, 101, 102, 103, 104, 105, 106, 32, 107, 108, 109, 110, 111, 112, 113, 114, 115, 116, 117] (by decide +kernel) (by decide +kernel)
set_option maxRecDepth 20000 in
theorem ggL_known_L_refused_p4 : GoodIn wsL_known wsL_refused_r4 := goodIn_r _ [118, 119, 120, 121, 122, 34, 123, 124, 125, 126, 127, 128, 129, 130, 131, 132, 133, 134, 135, 136, 137, 138, 139, 140] (by decide +kernel) (by decide +kernel)
set_option maxRecDepth 20000 in
theorem ggL_known_L_refused_p5 : GoodIn wsL_known wsL_refused_r5 := goodIn_r _ [141, 142, 143, 144, 145, 146, 147, 24, 148, 149, 150, 151, 152, 17, 153, 154, 155, 156, 157, 158, 31, 159, 160, 161] (by decide +kernel) (by decide +kernel)
set_option maxRecDepth 20000 in
theorem ggL_known_L_refused_p6 : GoodIn wsL_known wsL_refused_r6 := goodIn_r _ [162, 163, 164, 165, 166, 167, 168, 169, 170, 171, 172, 173, 174, 175, 176, 177, 178, 179, 180, 181, 182, 183, 184, 185] (by decide +kernel) (by decide +kernel)
set_option maxRecDepth 20000 in
theorem ggL_known_L_refused_p7 : GoodIn wsL_known wsL_refused_r7 := goodIn_r _ [186, 187, 188, 35, 189, 190, 191, 192, 193, 194, 195, 196, 197, 198, 199, 37, 200, 201, 202, 203, 204, 205, 206, 207] (by decide +kernel) (by decide +kernel)
set_option maxRecDepth 20000 in
theorem ggL_known_L_refused_p8 : GoodIn wsL_known wsL_refused_r8 := goodIn_r _ [208, 209, 210, 211, 212, 213, 214, 215, 216, 217, 218, 219, 220, 221, 222, 223, 224, 225, 226, 227, 228, 229, 230, 231] (by decide +kernel) (by decide +kernel)
set_option maxRecDepth 20000 in
theorem ggL_known_L_refused_p9 : GoodIn wsL_known wsL_refused_r9 := goodIn_r _ [232, 233, 234, 235, 236, 237, 238, 239, 240, 241, 43, 242, 243, 244, 245, 246, 247, 248, 249, 250, 251, 252, 253, 254] (by decide +kernel) (by decide +kernel)
set_option maxRecDepth 20000 in
theorem ggL_known_L_refused_p10 : GoodIn wsL_known wsL_refused_r10 := goodIn_r _ [255, 256, 257, 258, 259, 260, 261, 262, 263, 264, 265, 266, 267, 268, 269, 270, 271, 272, 273, 274, 275, 276, 277, 278] (by decide +kernel) (by decide +kernel)
set_option maxRecDepth 20000 in
theorem ggL_known_L_refused_p11 : GoodIn wsL_known wsL_refused_r11 := goodIn_r _ [279, 280, 281, 282, 283, 284, 285, 286, 287, 288, 289, 290, 291, 292, 293, 294, 295, 296, 297, 298, 299, 300, 301, 302] (by decide +kernel) (by decide +kernel)
set_option maxRecDepth 20000 in
theorem ggL_known_L_refused_p12 : GoodIn wsL_known wsL_refused_r12 := goodIn_r _ [303, 304, 305, 306, 307, 308, 309, 310, 311, 312, 313, 314, 315, 316, 317, 318, 319, 320, 321, 322, 323, 324, 325, 326] (by decide +kernel) (by decide +kernel)
set_option maxRecDepth 20000 in
theorem ggL_known_L_refused_p13 : GoodIn wsL_known wsL_refused_r13 := goodIn_r _ [327, 328, 329, 330, 331, 332, 333, 334, 335, 336, 337, 338, 339, 340, 341, 342, 343, 344, 345, 346, 347, 348, 349, 350] (by decide +kernel) (by decide +kernel)
set_option maxRecDepth 20000 in
theorem ggL_known_L_refused_p14 : GoodIn wsL_known wsL_refused_r14 := goodIn_r _ [351, 352, 353, 354, 355, 356, 357, 358, 359, 360, 361, 362, 363, 364, 365, 366, 367, 368, 369, 370, 371, 372, 373, 374] (by decide +kernel) (by decide +kernel)
set_option maxRecDepth 20000 in
theorem ggL_known_L_refused_p15 : GoodIn wsL_known wsL_refused_r15 := goodIn_r _ [375, 376, 377, 378, 379, 380, 381, 382, 383, 384, 385, 386, 387, 388, 389, 390, 391, 392, 14, 393, 394, 395, 396, 397] (by decide +kernel) (by decide +kernel)
set_option maxRecDepth 20000 in
theorem ggL_known_L_refused_p16 : GoodIn wsL_known wsL_refused_r16 := goodIn_r _ [398, 399, 400, 401, 402, 403, 404, 405, 19, 21, 406, 407, 408, 409, 410, 411, 412, 413, 414, 415, 416, 417, 418, 419] (by decide +kernel) (by decide +kernel)
set_option maxRecDepth 20000 in
theorem ggL_known_L_refused_p17 : GoodIn wsL_known wsL_refused_r17 := goodIn_r _ [420, 421, 422, 423, 424, 425, 426, 427, 49] (by decide +kernel) (by decide +kernel)
set_option maxRecDepth 20000 in
theorem ggL_known_L_refused_x0 : GoodIn wsL_known wsX50 := goodIn_r _ [440, 441, 442, 443, 444, 445] (by decide +kernel) (by decide +kernel)
set_option maxRecDepth 20000 in
theorem ggL_known_L_refused_x1 : GoodIn wsL_known wsX40 := goodIn_r _ [446, 447, 448, 449, 450, 451, 452, 453, 454, 455] (by decide +kernel) (by decide +kernel)
set_option maxRecDepth 20000 in
theorem ggL_known_L_refused_x2 : GoodIn wsL_known wsX10 := goodIn_r _ [459, 460, 461, 462, 463] (by decide +kernel) (by decide +kernel)
set_option maxRecDepth 20000 in
theorem ggL_known_L_refused_x3 : GoodIn wsL_known wsX00 := goodIn_r _ [456, 457, 458] (by decide +kernel) (by decide +kernel)
set_option maxRecDepth 20000 in
theorem ggL_known_L_refused : GoodIn wsL_known wsL_refused := fun w h => (goodIn_app (a := [_]) ggL_known_L_refused_p0 (goodIn_app (goodIn_app (goodIn_app (goodIn_app (goodIn_app ggL_known_L_refused_p1 (goodIn_app ggL_known_L_refused_p2 (goodIn_app ggL_known_L_refused_p3 (goodIn_app ggL_known_L_refused_p4 (goodIn_app ggL_known_L_refused_p5 (goodIn_app ggL_known_L_refused_p6 (goodIn_app ggL_known_L_refused_p7 (goodIn_app ggL_known_L_refused_p8 (goodIn_app ggL_known_L_refused_p9 (goodIn_app ggL_known_L_refused_p10 (goodIn_app ggL_known_L_refused_p11 (goodIn_app ggL_known_L_refused_p12 (goodIn_app ggL_known_L_refused_p13 (goodIn_app ggL_known_L_refused_p14 (goodIn_app ggL_known_L_refused_p15 (goodIn_app ggL_known_L_refused_p16 ggL_known_L_refused_p17)))))))))))))))) ggL_known_L_refused_x0) ggL_known_L_refused_x1) ggL_known_L_refused_x2) ggL_known_L_refused_x3)) w h
set_option maxRecDepth 20000 in
theorem ggL_law_L_texts_p0 : GoodIn wsL_law [Cond.code yL_texts cL_texts 2 (some .boolean)] := fun w h => by
  rw [List.mem_singleton.mp h]
  exact ⟨List.mem_of_getElem? (i := 8) rfl, good_of_word (by decide +kernel)⟩
set_option maxRecDepth 20000 in
theorem ggL_law_L_texts_p1 : GoodIn wsL_law wsL_texts_r1 := goodIn_r _ [9, 10, 11, 12, 13, 14, 15, 16, 17, 18, 19, 20, 21, 22, 23, 24, 25, 26, 27, 28, 29, 30, 31, 32] (by decide +kernel) (by decide +kernel)
set_option maxRecDepth 20000 in
theorem ggL_law_L_texts_p2_0 : GoodIn wsL_law [Cond.constantLong RL 144 (13611), Cond.constantLong RL 146 (758328113), Cond.classLink RL 14 RX5, Cond.instantiable RX5 6, Cond.initialized RX5, Cond.constantLong RL 148 (3836276540626908459), Cond.constantLong RL 150 (3616455578881242667), Cond.constantLong RL 152 (49), Cond.constantLong RL 154 (55), Cond.constantLong RL 156 (14080), Cond.methodLink RL 92 yL_faultOf, Cond.static yL_faultOf, Cond.initialized RL] := goodIn_r _ [33, 34, 0, 1, 2, 35, 36, 37, 38, 39, 40, 41, 7] (by decide +kernel) (by decide +kernel)
set_option maxRecDepth 20000 in
theorem ggL_law_L_texts_p2_1 : GoodIn wsL_law [Cond.code yL_faultOf cL_faultOf 7 (some .int)] := fun w h => by
  rw [List.mem_singleton.mp h]
  exact ⟨List.mem_of_getElem? (i := 42) rfl, good_of_word (by decide +kernel)⟩
set_option maxRecDepth 20000 in
theorem ggL_law_L_texts_p2_2 : GoodIn wsL_law [Cond.methodLink RL 84 yX5_init, Cond.instanceMethod yX5_init, Cond.code yX5_init cX5_init 2 none, Cond.methodLink RX5 3 objectInit, Cond.instanceMethod objectInit, Cond.code objectInit ⟨#[0xb1]⟩ 1 none, Cond.classLink RX5 9 RX4, Cond.instantiable RX4 10, Cond.initialized RX4, Cond.fieldLink RX5 12 "StoneTree" "tree" "LStoneTree$Tree;"] := goodIn_r _ [43, 44, 45, 46, 47, 48, 49, 50, 51, 52] (by decide +kernel) (by decide +kernel)
set_option maxRecDepth 20000 in
theorem ggL_law_L_texts_p2 : GoodIn wsL_law wsL_texts_r2 := fun w h => (goodIn_app (a := [_, _, _, _, _, _, _, _, _, _, _, _, _]) ggL_law_L_texts_p2_0 (goodIn_app (a := [_]) ggL_law_L_texts_p2_1 ggL_law_L_texts_p2_2)) w h
set_option maxRecDepth 20000 in
theorem ggL_law_L_texts_p3 : GoodIn wsL_law wsL_texts_r3 := goodIn_r _ [53, 54, 55, 56, 57, 58, 59, 60, 61, 62, 63, 64, 65, 66, 67, 68, 69, 70, 71, 72, 73, 74, 75, 76] (by decide +kernel) (by decide +kernel)
set_option maxRecDepth 20000 in
theorem ggL_law_L_texts_p4 : GoodIn wsL_law wsL_texts_r4 := goodIn_r _ [77, 78, 79, 80, 81, 82, 83, 84, 85, 86, 87, 88, 89, 90, 91, 92, 93, 94, 95, 96, 97, 98, 99, 100] (by decide +kernel) (by decide +kernel)
set_option maxRecDepth 20000 in
theorem ggL_law_L_texts_p5 : GoodIn wsL_law wsL_texts_r5 := goodIn_r _ [101, 102, 103, 104, 105, 106, 107, 108, 109, 110, 111, 112, 113, 114, 115, 116, 117, 118, 119, 120, 121, 122, 123, 124] (by decide +kernel) (by decide +kernel)
set_option maxRecDepth 20000 in
theorem ggL_law_L_texts_p6 : GoodIn wsL_law wsL_texts_r6 := goodIn_r _ [125, 126, 127, 128, 129, 130, 131, 132, 133, 134, 135, 136, 137, 138, 139, 140, 141, 142, 143, 144, 145, 146, 147, 148] (by decide +kernel) (by decide +kernel)
set_option maxRecDepth 20000 in
theorem ggL_law_L_texts_p7 : GoodIn wsL_law wsL_texts_r7 := goodIn_r _ [149, 150, 151, 152, 153, 154, 155, 156, 157, 158, 159, 160, 161, 162, 163, 164, 165, 166, 167, 168, 169, 170, 171, 172] (by decide +kernel) (by decide +kernel)
set_option maxRecDepth 20000 in
theorem ggL_law_L_texts_p8 : GoodIn wsL_law wsL_texts_r8 := goodIn_r _ [173, 174, 175, 176, 177, 178, 179, 180, 181, 182, 183, 184, 185, 186, 187, 188, 189, 190, 191, 192, 193, 194, 195, 196] (by decide +kernel) (by decide +kernel)
set_option maxRecDepth 20000 in
theorem ggL_law_L_texts_p9 : GoodIn wsL_law wsL_texts_r9 := goodIn_r _ [197, 198, 199, 200, 201, 202, 203, 204, 205, 206, 207, 208, 209, 210, 211, 212, 213, 214, 215, 216, 217, 218, 219, 220] (by decide +kernel) (by decide +kernel)
set_option maxRecDepth 20000 in
theorem ggL_law_L_texts_p10 : GoodIn wsL_law wsL_texts_r10 := goodIn_r _ [221, 222, 223, 224, 225, 226, 227, 228, 229, 230, 231, 232, 233, 234, 235, 236, 237, 238, 239, 240, 241, 242, 243, 244] (by decide +kernel) (by decide +kernel)
set_option maxRecDepth 20000 in
theorem ggL_law_L_texts_p11 : GoodIn wsL_law wsL_texts_r11 := goodIn_r _ [245, 246, 247, 248, 249, 250, 251, 252, 253, 254, 255, 256, 257, 258, 259, 260, 261, 262, 263, 264, 265, 266, 267, 268] (by decide +kernel) (by decide +kernel)
set_option maxRecDepth 20000 in
theorem ggL_law_L_texts_p12 : GoodIn wsL_law wsL_texts_r12 := goodIn_r _ [269, 270, 271, 272, 273, 274, 275, 276, 277, 278, 279, 280, 281, 282, 283, 284, 285, 286, 287, 288, 289, 290, 291, 292] (by decide +kernel) (by decide +kernel)
set_option maxRecDepth 20000 in
theorem ggL_law_L_texts_p13 : GoodIn wsL_law wsL_texts_r13 := goodIn_r _ [293, 294, 295, 296, 297, 298, 299, 300, 301, 302, 303, 304, 305, 306, 307, 308, 309, 310, 311, 312, 313, 314, 315, 316] (by decide +kernel) (by decide +kernel)
set_option maxRecDepth 20000 in
theorem ggL_law_L_texts_p14 : GoodIn wsL_law wsL_texts_r14 := goodIn_r _ [317, 318, 319, 320, 321, 322, 323, 324, 325, 326, 327, 328, 329, 330, 331, 332, 333, 334, 335, 336, 337, 338, 339, 340] (by decide +kernel) (by decide +kernel)
set_option maxRecDepth 20000 in
theorem ggL_law_L_texts_p15 : GoodIn wsL_law wsL_texts_r15 := goodIn_r _ [341, 342, 343, 344, 345, 346, 347, 348, 349, 350, 351, 352, 353, 354, 355, 356, 357, 358, 359, 360, 361, 362, 363, 364] (by decide +kernel) (by decide +kernel)
set_option maxRecDepth 20000 in
theorem ggL_law_L_texts_p16 : GoodIn wsL_law wsL_texts_r16 := goodIn_r _ [365, 366, 367, 368, 369, 370, 371, 372, 373, 374, 375, 376, 377, 378, 379, 380, 381, 382, 383, 384, 385, 386, 387, 388] (by decide +kernel) (by decide +kernel)
set_option maxRecDepth 20000 in
theorem ggL_law_L_texts_p17_0 : GoodIn wsL_law [Cond.selects RX4 yX4_stonesWith yX4_stonesWith, Cond.code yX4_stonesWith cX4_stonesWith 5 (some .int), Cond.methodLink RX5 131 yX4_deepestWith, Cond.instanceMethod yX4_deepestWith, Cond.selects RX4 yX4_deepestWith yX4_deepestWith, Cond.code yX4_deepestWith cX4_deepestWith 4 (some .int), Cond.methodLink RL 158 yX5_wipe, Cond.instanceMethod yX5_wipe, Cond.selects RX5 yX5_wipe yX5_wipe, Cond.code yX5_wipe cX5_wipe 2 (some .int), Cond.methodLink RL 161 yX5_undo, Cond.instanceMethod yX5_undo, Cond.selects RX5 yX5_undo yX5_undo, Cond.code yX5_undo cX5_undo 1 (some .int), Cond.methodLink RX5 199 yX0_takeBack, Cond.instanceMethod yX0_takeBack, Cond.selects RX0 yX0_takeBack yX0_takeBack, Cond.code yX0_takeBack cX0_takeBack 3 none, Cond.methodLink RL 164 yL_refused, Cond.static yL_refused] := goodIn_r _ [389, 390, 391, 392, 393, 394, 395, 396, 397, 398, 399, 400, 401, 402, 403, 404, 405, 406, 407, 408] (by decide +kernel) (by decide +kernel)
set_option maxRecDepth 20000 in
theorem ggL_law_L_texts_p17_1 : GoodIn wsL_law [Cond.code yL_refused cL_refused 9 (some .boolean)] := fun w h => by
  rw [List.mem_singleton.mp h]
  exact ⟨List.mem_of_getElem? (i := 409) rfl, good_of_word (by decide +kernel)⟩
set_option maxRecDepth 20000 in
theorem ggL_law_L_texts_p17_2 : GoodIn wsL_law [Cond.constantLong RL 74 (32), Cond.constantLong RL 76 (127), Cond.constantLong RL 78 (3473461)] := goodIn_r _ [410, 411, 412] (by decide +kernel) (by decide +kernel)
set_option maxRecDepth 20000 in
theorem ggL_law_L_texts_p17 : GoodIn wsL_law wsL_texts_r17 := fun w h => (goodIn_app (a := [_, _, _, _, _, _, _, _, _, _, _, _, _, _, _, _, _, _, _, _]) ggL_law_L_texts_p17_0 (goodIn_app (a := [_]) ggL_law_L_texts_p17_1 ggL_law_L_texts_p17_2)) w h
set_option maxRecDepth 20000 in
theorem ggL_law_L_texts_p18_0 : GoodIn wsL_law [Cond.constantLong RL 80 (13568), Cond.constantLong RL 82 (-1), Cond.methodLink RL 30 yL_seen, Cond.static yL_seen] := goodIn_r _ [413, 414, 415, 416] (by decide +kernel) (by decide +kernel)
set_option maxRecDepth 20000 in
theorem ggL_law_L_texts_p18_1 : GoodIn wsL_law [Cond.code yL_seen cL_seen 5 (some .long)] := fun w h => by
  rw [List.mem_singleton.mp h]
  exact ⟨List.mem_of_getElem? (i := 417) rfl, good_of_word (by decide +kernel)⟩
set_option maxRecDepth 20000 in
theorem ggL_law_L_texts_p18_2 : GoodIn wsL_law [Cond.constantLong RL 9 (3), Cond.constantLong RL 11 (31), Cond.methodLink RL 19 yX5_ofNode, Cond.instanceMethod yX5_ofNode, Cond.selects RX5 yX5_ofNode yX5_ofNode, Cond.code yX5_ofNode cX5_ofNode 3 (some .int), Cond.methodLink RX5 108 yX2_firstKey, Cond.methodLink RX5 113 yX2_lastKey, Cond.static yX2_lastKey, Cond.code yX2_lastKey cX2_lastKey 1 (some .int), Cond.methodLink RX2 15 yX2_lastKeyOfChild, Cond.methodLink RX5 116 yX4_timesSunk, Cond.instanceMethod yX4_timesSunk, Cond.selects RX4 yX4_timesSunk yX4_timesSunk, Cond.code yX4_timesSunk cX4_timesSunk 2 (some .int), Cond.methodLink RX4 63 yX4_numberOf, Cond.static yX4_numberOf, Cond.code yX4_numberOf cX4_numberOf 2 (some .int), Cond.methodLink RX5 119 yX4_stonesSunk] := goodIn_r _ [418, 419, 420, 421, 422, 423, 424, 425, 426, 427, 428, 429, 430, 431, 432, 433, 434, 435, 436] (by decide +kernel) (by decide +kernel)
set_option maxRecDepth 20000 in
theorem ggL_law_L_texts_p18 : GoodIn wsL_law wsL_texts_r18 := fun w h => (goodIn_app (a := [_, _, _, _]) ggL_law_L_texts_p18_0 (goodIn_app (a := [_]) ggL_law_L_texts_p18_1 ggL_law_L_texts_p18_2)) w h
set_option maxRecDepth 20000 in
theorem ggL_law_L_texts_p19 : GoodIn wsL_law wsL_texts_r19 := goodIn_r _ [437, 438, 439, 440, 441, 442, 443, 444, 445, 446, 447, 448, 449, 450, 451, 452, 453, 454, 455, 456, 457, 458, 459, 460] (by decide +kernel) (by decide +kernel)
set_option maxRecDepth 20000 in
theorem ggL_law_L_texts_p20 : GoodIn wsL_law wsL_texts_r20 := goodIn_r _ [461, 462, 463, 464, 465, 466, 467, 468, 469, 470, 471, 472, 473, 474, 475, 476, 477, 478, 479, 480, 481, 482, 483, 484] (by decide +kernel) (by decide +kernel)
set_option maxRecDepth 20000 in
theorem ggL_law_L_texts_p21 : GoodIn wsL_law wsL_texts_r21 := goodIn_r _ [485, 486, 487, 488, 489, 490, 491, 492, 493, 494, 495, 496, 497, 498, 499, 500, 501, 502, 503, 504, 505, 506, 507, 508] (by decide +kernel) (by decide +kernel)
set_option maxRecDepth 20000 in
theorem ggL_law_L_texts_p22 : GoodIn wsL_law wsL_texts_r22 := goodIn_r _ [509, 510, 511, 512, 513, 514, 515, 516, 517, 518, 519, 520, 521, 522, 523, 524, 525, 526, 527, 528, 529] (by decide +kernel) (by decide +kernel)
set_option maxRecDepth 20000 in
theorem ggL_law_L_texts_x0 : GoodIn wsL_law wsX50 := goodIn_r _ [548, 549, 550, 551, 552, 553] (by decide +kernel) (by decide +kernel)
set_option maxRecDepth 20000 in
theorem ggL_law_L_texts_x1 : GoodIn wsL_law wsX40 := goodIn_r _ [554, 555, 556, 557, 558, 559, 560, 561, 562, 563] (by decide +kernel) (by decide +kernel)
set_option maxRecDepth 20000 in
theorem ggL_law_L_texts_x2 : GoodIn wsL_law wsX00 := goodIn_r _ [564, 565, 566] (by decide +kernel) (by decide +kernel)
set_option maxRecDepth 20000 in
theorem ggL_law_L_texts_x3 : GoodIn wsL_law wsX10 := goodIn_r _ [567, 568, 569, 570, 571] (by decide +kernel) (by decide +kernel)
set_option maxRecDepth 20000 in
theorem ggL_law_L_texts : GoodIn wsL_law wsL_texts := fun w h => (goodIn_app (a := [_]) ggL_law_L_texts_p0 (goodIn_app (goodIn_app (goodIn_app (goodIn_app (goodIn_app ggL_law_L_texts_p1 (goodIn_app ggL_law_L_texts_p2 (goodIn_app ggL_law_L_texts_p3 (goodIn_app ggL_law_L_texts_p4 (goodIn_app ggL_law_L_texts_p5 (goodIn_app ggL_law_L_texts_p6 (goodIn_app ggL_law_L_texts_p7 (goodIn_app ggL_law_L_texts_p8 (goodIn_app ggL_law_L_texts_p9 (goodIn_app ggL_law_L_texts_p10 (goodIn_app ggL_law_L_texts_p11 (goodIn_app ggL_law_L_texts_p12 (goodIn_app ggL_law_L_texts_p13 (goodIn_app ggL_law_L_texts_p14 (goodIn_app ggL_law_L_texts_p15 (goodIn_app ggL_law_L_texts_p16 (goodIn_app ggL_law_L_texts_p17 (goodIn_app ggL_law_L_texts_p18 (goodIn_app ggL_law_L_texts_p19 (goodIn_app ggL_law_L_texts_p20 (goodIn_app ggL_law_L_texts_p21 ggL_law_L_texts_p22))))))))))))))))))))) ggL_law_L_texts_x0) ggL_law_L_texts_x1) ggL_law_L_texts_x2) ggL_law_L_texts_x3)) w h
set_option maxRecDepth 20000 in
theorem ggL_law_L_known_p0 : GoodIn wsL_law [Cond.code yL_known cL_known 1 (some .boolean)] := fun w h => by
  rw [List.mem_singleton.mp h]
  exact ⟨List.mem_of_getElem? (i := 532) rfl, good_of_word (by decide +kernel)⟩
set_option maxRecDepth 20000 in
theorem ggL_law_L_known_p1 : GoodIn wsL_law wsL_known_r1 := goodIn_r _ [0, 1, 2, 43, 44, 45, 46, 47, 48, 49, 50, 51, 52, 53, 54, 55, 56, 57, 58, 59, 60, 61, 62, 63] (by decide +kernel) (by decide +kernel)
set_option maxRecDepth 20000 in
theorem ggL_law_L_known_p2 : GoodIn wsL_law wsL_known_r2 := goodIn_r _ [64, 65, 66, 67, 68, 69, 70, 71, 72, 73, 74, 75, 76, 77, 78, 79, 80, 81, 82, 83, 84, 85, 86, 87] (by decide +kernel) (by decide +kernel)
set_option maxRecDepth 20000 in
theorem ggL_law_L_known_p3_0 : GoodIn wsL_law [Cond.fieldLink RX1 11 "StoneTree$Pad" "characters" "[C", Cond.fieldLink RX1 15 "StoneTree$Pad" "orders" "[I", Cond.methodLink RL 164 yL_refused, Cond.static yL_refused, Cond.initialized RL] := goodIn_r _ [88, 89, 407, 408, 7] (by decide +kernel) (by decide +kernel)
set_option maxRecDepth 20000 in
theorem ggL_law_L_known_p3_1 : GoodIn wsL_law [Cond.code yL_refused cL_refused 9 (some .boolean)] := fun w h => by
  rw [List.mem_singleton.mp h]
  exact ⟨List.mem_of_getElem? (i := 409) rfl, good_of_word (by decide +kernel)⟩
set_option maxRecDepth 20000 in
theorem ggL_law_L_known_p3_2 : GoodIn wsL_law [Cond.constantLong RL 74 (32), Cond.constantLong RL 76 (127), Cond.constantLong RL 78 (3473461), Cond.constantLong RL 80 (13568), Cond.constantLong RL 82 (-1), Cond.methodLink RL 30 yL_seen, Cond.static yL_seen] := goodIn_r _ [410, 411, 412, 413, 414, 415, 416] (by decide +kernel) (by decide +kernel)
set_option maxRecDepth 20000 in
theorem ggL_law_L_known_p3_3 : GoodIn wsL_law [Cond.code yL_seen cL_seen 5 (some .long)] := fun w h => by
  rw [List.mem_singleton.mp h]
  exact ⟨List.mem_of_getElem? (i := 417) rfl, good_of_word (by decide +kernel)⟩
set_option maxRecDepth 20000 in
theorem ggL_law_L_known_p3_4 : GoodIn wsL_law [Cond.constantLong RL 9 (3), Cond.constantLong RL 11 (31), Cond.methodLink RL 13 yX5_count, Cond.instanceMethod yX5_count, Cond.selects RX5 yX5_count yX5_count, Cond.code yX5_count cX5_count 2 (some .int), Cond.methodLink RX5 69 yX4_stones, Cond.instanceMethod yX4_stones, Cond.selects RX4 yX4_stones yX4_stones, Cond.code yX4_stones cX4_stones 1 (some .int)] := goodIn_r _ [418, 419, 151, 152, 153, 154, 155, 156, 157, 158] (by decide +kernel) (by decide +kernel)
set_option maxRecDepth 20000 in
theorem ggL_law_L_known_p3 : GoodIn wsL_law wsL_known_r3 := fun w h => (goodIn_app (a := [_, _, _, _, _]) ggL_law_L_known_p3_0 (goodIn_app (a := [_]) ggL_law_L_known_p3_1 (goodIn_app (a := [_, _, _, _, _, _, _]) ggL_law_L_known_p3_2 (goodIn_app (a := [_]) ggL_law_L_known_p3_3 ggL_law_L_known_p3_4)))) w h
set_option maxRecDepth 20000 in
theorem ggL_law_L_known_p4 : GoodIn wsL_law wsL_known_r4 := goodIn_r _ [159, 160, 161, 162, 163, 164, 165, 166, 167, 168, 169, 170, 171, 172, 173, 174, 175, 176, 177, 178, 179, 180, 181, 182] (by decide +kernel) (by decide +kernel)
set_option maxRecDepth 20000 in
theorem ggL_law_L_known_p5 : GoodIn wsL_law wsL_known_r5 := goodIn_r _ [183, 184, 185, 186, 187, 188, 189, 190, 191, 192, 193, 194, 195, 196, 197, 198, 199, 200, 201, 202, 203, 204, 205, 206] (by decide +kernel) (by decide +kernel)
set_option maxRecDepth 20000 in
theorem ggL_law_L_known_p6 : GoodIn wsL_law wsL_known_r6 := goodIn_r _ [207, 208, 209, 210, 149, 211, 212, 213, 214, 215, 216, 217, 218, 219, 220, 221, 222, 223, 224, 225, 226, 227, 228, 229] (by decide +kernel) (by decide +kernel)
set_option maxRecDepth 20000 in
theorem ggL_law_L_known_p7 : GoodIn wsL_law wsL_known_r7 := goodIn_r _ [100, 101, 102, 103, 104, 230, 231, 232, 233, 234, 235, 236, 237, 238, 420, 421, 422, 423, 369, 370, 371, 372, 424, 322] (by decide +kernel) (by decide +kernel)
set_option maxRecDepth 20000 in
theorem ggL_law_L_known_p8 : GoodIn wsL_law wsL_known_r8 := goodIn_r _ [323, 324, 425, 426, 427, 428, 330, 331, 332, 319, 320, 321, 325, 326, 327, 328, 429, 430, 431, 432, 433, 434, 435, 436] (by decide +kernel) (by decide +kernel)
set_option maxRecDepth 20000 in
theorem ggL_law_L_known_p9 : GoodIn wsL_law wsL_known_r9 := goodIn_r _ [437, 438, 439, 440, 441, 442, 443, 365, 366, 367, 368, 373, 374, 375, 376, 377, 378, 379, 380, 381, 382, 383, 384, 385] (by decide +kernel) (by decide +kernel)
set_option maxRecDepth 20000 in
theorem ggL_law_L_known_p10 : GoodIn wsL_law wsL_known_r10 := goodIn_r _ [386, 387, 388, 389, 390, 333, 334, 335, 336, 391, 392, 393, 394, 444, 445, 446, 447, 448, 449, 450, 243, 244, 245, 246] (by decide +kernel) (by decide +kernel)
set_option maxRecDepth 20000 in
theorem ggL_law_L_known_p11 : GoodIn wsL_law wsL_known_r11 := goodIn_r _ [247, 248, 249, 129, 250, 251, 252, 253, 254, 255, 256, 257, 258, 259, 260, 261, 262, 451, 452, 453, 454, 290, 455, 456] (by decide +kernel) (by decide +kernel)
set_option maxRecDepth 20000 in
theorem ggL_law_L_known_p12 : GoodIn wsL_law wsL_known_r12 := goodIn_r _ [457, 458, 459, 460, 461, 462, 463, 464, 465, 148, 150, 271, 272, 273, 274, 275, 276, 277, 278, 279, 280, 281, 282, 283] (by decide +kernel) (by decide +kernel)
set_option maxRecDepth 20000 in
theorem ggL_law_L_known_p13 : GoodIn wsL_law wsL_known_r13 := goodIn_r _ [284, 285, 286, 287, 288, 289, 291, 292, 293, 294, 295, 296, 297, 298, 299, 300, 301, 302, 303, 304, 305, 306, 307, 308] (by decide +kernel) (by decide +kernel)
set_option maxRecDepth 20000 in
theorem ggL_law_L_known_p14 : GoodIn wsL_law wsL_known_r14 := goodIn_r _ [309, 310, 311, 312, 313, 314, 315, 316, 317, 318, 329, 337, 338, 339, 340, 341, 342, 343, 344, 345, 346, 347, 348, 128] (by decide +kernel) (by decide +kernel)
set_option maxRecDepth 20000 in
theorem ggL_law_L_known_p15 : GoodIn wsL_law wsL_known_r15 := goodIn_r _ [130, 349, 350, 351, 352, 353, 354, 355, 356, 357, 358, 359, 360, 466, 467, 468, 469, 470, 471, 472, 473, 474, 475, 476] (by decide +kernel) (by decide +kernel)
set_option maxRecDepth 20000 in
theorem ggL_law_L_known_p16 : GoodIn wsL_law wsL_known_r16 := goodIn_r _ [477, 478, 479, 480, 481, 482, 483, 484, 485, 486, 487, 488, 489, 490, 491, 492, 493, 494, 495, 496, 497, 498, 499, 500] (by decide +kernel) (by decide +kernel)
set_option maxRecDepth 20000 in
theorem ggL_law_L_known_p17 : GoodIn wsL_law wsL_known_r17 := goodIn_r _ [501, 502, 503, 504, 505, 506, 507, 508, 509, 510, 511, 512, 513, 514, 515, 516, 517, 518, 519, 520, 521, 522, 523, 524] (by decide +kernel) (by decide +kernel)
set_option maxRecDepth 20000 in
theorem ggL_law_L_known_p18 : GoodIn wsL_law wsL_known_r18 := goodIn_r _ [525, 526, 527, 528, 529, 90, 91, 92, 93, 94, 95, 96, 97, 98, 99, 105, 106, 107, 108, 533, 534, 535, 536, 399] (by decide +kernel) (by decide +kernel)
set_option maxRecDepth 20000 in
theorem ggL_law_L_known_p19 : GoodIn wsL_law wsL_known_r19 := goodIn_r _ [400, 401, 402, 403, 404, 405, 406] (by decide +kernel) (by decide +kernel)
set_option maxRecDepth 20000 in
theorem ggL_law_L_known_x0 : GoodIn wsL_law wsX50 := goodIn_r _ [548, 549, 550, 551, 552, 553] (by decide +kernel) (by decide +kernel)
set_option maxRecDepth 20000 in
theorem ggL_law_L_known_x1 : GoodIn wsL_law wsX40 := goodIn_r _ [554, 555, 556, 557, 558, 559, 560, 561, 562, 563] (by decide +kernel) (by decide +kernel)
set_option maxRecDepth 20000 in
theorem ggL_law_L_known_x2 : GoodIn wsL_law wsX00 := goodIn_r _ [564, 565, 566] (by decide +kernel) (by decide +kernel)
set_option maxRecDepth 20000 in
theorem ggL_law_L_known_x3 : GoodIn wsL_law wsX10 := goodIn_r _ [567, 568, 569, 570, 571] (by decide +kernel) (by decide +kernel)
set_option maxRecDepth 20000 in
theorem ggL_law_L_known : GoodIn wsL_law wsL_known := fun w h => (goodIn_app (a := [_]) ggL_law_L_known_p0 (goodIn_app (goodIn_app (goodIn_app (goodIn_app (goodIn_app ggL_law_L_known_p1 (goodIn_app ggL_law_L_known_p2 (goodIn_app ggL_law_L_known_p3 (goodIn_app ggL_law_L_known_p4 (goodIn_app ggL_law_L_known_p5 (goodIn_app ggL_law_L_known_p6 (goodIn_app ggL_law_L_known_p7 (goodIn_app ggL_law_L_known_p8 (goodIn_app ggL_law_L_known_p9 (goodIn_app ggL_law_L_known_p10 (goodIn_app ggL_law_L_known_p11 (goodIn_app ggL_law_L_known_p12 (goodIn_app ggL_law_L_known_p13 (goodIn_app ggL_law_L_known_p14 (goodIn_app ggL_law_L_known_p15 (goodIn_app ggL_law_L_known_p16 (goodIn_app ggL_law_L_known_p17 (goodIn_app ggL_law_L_known_p18 ggL_law_L_known_p19)))))))))))))))))) ggL_law_L_known_x0) ggL_law_L_known_x1) ggL_law_L_known_x2) ggL_law_L_known_x3)) w h
set_option maxRecDepth 20000 in
theorem ggL_law_L_pieces_p0 : GoodIn wsL_law [Cond.code yL_pieces cL_pieces 1 (some .boolean)] := fun w h => by
  rw [List.mem_singleton.mp h]
  exact ⟨List.mem_of_getElem? (i := 539) rfl, good_of_word (by decide +kernel)⟩
set_option maxRecDepth 20000 in
theorem ggL_law_L_pieces_p1 : GoodIn wsL_law wsL_pieces_r1 := goodIn_r _ [0, 1, 2, 43, 44, 45, 46, 47, 48, 49, 50, 51, 52, 53, 54, 55, 56, 57, 58, 59, 60, 61, 62, 63] (by decide +kernel) (by decide +kernel)
set_option maxRecDepth 20000 in
theorem ggL_law_L_pieces_p2 : GoodIn wsL_law wsL_pieces_r2 := goodIn_r _ [64, 65, 66, 67, 68, 69, 70, 71, 72, 73, 74, 75, 76, 77, 78, 79, 80, 81, 82, 83, 84, 85, 86, 87] (by decide +kernel) (by decide +kernel)
set_option maxRecDepth 20000 in
theorem ggL_law_L_pieces_p3 : GoodIn wsL_law wsL_pieces_r3 := goodIn_r _ [88, 89, 444, 445, 446, 447, 448, 449, 450, 243, 244, 245, 246, 247, 234, 248, 249, 129, 250, 251, 252, 253, 254, 166] (by decide +kernel) (by decide +kernel)
set_option maxRecDepth 20000 in
theorem ggL_law_L_pieces_p4 : GoodIn wsL_law wsL_pieces_r4 := goodIn_r _ [175, 180, 255, 256, 257, 258, 259, 260, 261, 262, 451, 452, 453, 454, 290, 236, 237, 238, 455, 456, 457, 458, 459, 460] (by decide +kernel) (by decide +kernel)
set_option maxRecDepth 20000 in
theorem ggL_law_L_pieces_p5 : GoodIn wsL_law wsL_pieces_r5 := goodIn_r _ [461, 462, 463, 464, 382, 383, 384, 465, 148, 149, 150, 271, 272, 273, 274, 275, 276, 277, 278, 201, 202, 203, 204, 279] (by decide +kernel) (by decide +kernel)
set_option maxRecDepth 20000 in
theorem ggL_law_L_pieces_p6 : GoodIn wsL_law wsL_pieces_r6 := goodIn_r _ [280, 281, 282, 205, 206, 207, 208, 283, 284, 285, 286, 287, 288, 289, 291, 292, 293, 294, 295, 296, 297, 212, 213, 214] (by decide +kernel) (by decide +kernel)
set_option maxRecDepth 20000 in
theorem ggL_law_L_pieces_p7 : GoodIn wsL_law wsL_pieces_r7 := goodIn_r _ [215, 216, 217, 298, 299, 300, 301, 302, 209, 210, 211, 303, 222, 223, 304, 225, 226, 305, 306, 307, 308, 309, 310, 311] (by decide +kernel) (by decide +kernel)
set_option maxRecDepth 20000 in
theorem ggL_law_L_pieces_p8 : GoodIn wsL_law wsL_pieces_r8 := goodIn_r _ [312, 313, 314, 315, 316, 317, 318, 319, 195, 320, 321, 322, 323, 324, 325, 326, 327, 328, 329, 330, 331, 332, 333, 334] (by decide +kernel) (by decide +kernel)
set_option maxRecDepth 20000 in
theorem ggL_law_L_pieces_p9 : GoodIn wsL_law wsL_pieces_r9 := goodIn_r _ [335, 336, 337, 338, 339, 340, 341, 342, 343, 344, 345, 346, 347, 348, 128, 130, 349, 221, 224, 350, 351, 352, 353, 354] (by decide +kernel) (by decide +kernel)
set_option maxRecDepth 20000 in
theorem ggL_law_L_pieces_p10 : GoodIn wsL_law wsL_pieces_r10 := goodIn_r _ [355, 356, 357, 218, 219, 220, 358, 359, 360, 155, 156, 157, 158, 159, 160, 161, 501, 502, 503, 504, 505, 506, 507, 508] (by decide +kernel) (by decide +kernel)
set_option maxRecDepth 20000 in
theorem ggL_law_L_pieces_p11 : GoodIn wsL_law wsL_pieces_r11 := goodIn_r _ [509, 167, 168, 169, 170, 510, 511, 512, 513, 518, 519, 520, 521, 522, 523, 524, 525, 151, 152, 153, 154, 162, 163, 164] (by decide +kernel) (by decide +kernel)
set_option maxRecDepth 20000 in
theorem ggL_law_L_pieces_p12 : GoodIn wsL_law wsL_pieces_r12 := goodIn_r _ [165, 171, 172, 173, 174, 176, 177, 178, 179, 181, 182, 183, 184, 185, 186, 187, 188, 189, 190, 191, 192, 193, 194, 196] (by decide +kernel) (by decide +kernel)
set_option maxRecDepth 20000 in
theorem ggL_law_L_pieces_p13 : GoodIn wsL_law wsL_pieces_r13 := goodIn_r _ [197, 198, 199, 200, 227, 228, 229, 100, 101, 102, 103, 104, 230, 231, 232, 233, 235, 378, 379, 380, 381, 385, 386, 387] (by decide +kernel) (by decide +kernel)
set_option maxRecDepth 20000 in
theorem ggL_law_L_pieces_p14 : GoodIn wsL_law wsL_pieces_r14 := goodIn_r _ [388, 389, 390, 391, 392, 393, 394, 420, 421, 422, 423, 369, 370, 371, 372, 424, 425, 426, 427, 428, 429, 430, 431, 432] (by decide +kernel) (by decide +kernel)
set_option maxRecDepth 20000 in
theorem ggL_law_L_pieces_p15 : GoodIn wsL_law wsL_pieces_r15 := goodIn_r _ [433, 434, 435, 436, 437, 438, 439, 440, 441, 442, 443, 365, 366, 367, 368, 373, 374, 375, 376, 377, 526, 527, 528, 529] (by decide +kernel) (by decide +kernel)
set_option maxRecDepth 20000 in
theorem ggL_law_L_pieces_x0 : GoodIn wsL_law wsX50 := goodIn_r _ [548, 549, 550, 551, 552, 553] (by decide +kernel) (by decide +kernel)
set_option maxRecDepth 20000 in
theorem ggL_law_L_pieces_x1 : GoodIn wsL_law wsX40 := goodIn_r _ [554, 555, 556, 557, 558, 559, 560, 561, 562, 563] (by decide +kernel) (by decide +kernel)
set_option maxRecDepth 20000 in
theorem ggL_law_L_pieces_x2 : GoodIn wsL_law wsX00 := goodIn_r _ [564, 565, 566] (by decide +kernel) (by decide +kernel)
set_option maxRecDepth 20000 in
theorem ggL_law_L_pieces_x3 : GoodIn wsL_law wsX10 := goodIn_r _ [567, 568, 569, 570, 571] (by decide +kernel) (by decide +kernel)
set_option maxRecDepth 20000 in
theorem ggL_law_L_pieces : GoodIn wsL_law wsL_pieces := fun w h => (goodIn_app (a := [_]) ggL_law_L_pieces_p0 (goodIn_app (goodIn_app (goodIn_app (goodIn_app (goodIn_app ggL_law_L_pieces_p1 (goodIn_app ggL_law_L_pieces_p2 (goodIn_app ggL_law_L_pieces_p3 (goodIn_app ggL_law_L_pieces_p4 (goodIn_app ggL_law_L_pieces_p5 (goodIn_app ggL_law_L_pieces_p6 (goodIn_app ggL_law_L_pieces_p7 (goodIn_app ggL_law_L_pieces_p8 (goodIn_app ggL_law_L_pieces_p9 (goodIn_app ggL_law_L_pieces_p10 (goodIn_app ggL_law_L_pieces_p11 (goodIn_app ggL_law_L_pieces_p12 (goodIn_app ggL_law_L_pieces_p13 (goodIn_app ggL_law_L_pieces_p14 ggL_law_L_pieces_p15)))))))))))))) ggL_law_L_pieces_x0) ggL_law_L_pieces_x1) ggL_law_L_pieces_x2) ggL_law_L_pieces_x3)) w h
set_option maxRecDepth 20000 in
theorem ggL_law_L_seen_p0 : GoodIn wsL_law [Cond.code yL_seen cL_seen 5 (some .long)] := fun w h => by
  rw [List.mem_singleton.mp h]
  exact ⟨List.mem_of_getElem? (i := 417) rfl, good_of_word (by decide +kernel)⟩
set_option maxRecDepth 20000 in
theorem ggL_law_L_seen_p1 : GoodIn wsL_law wsL_seen_r1 := goodIn_r _ [418, 419, 151, 152, 153, 2, 154, 52, 64, 57, 155, 156, 157, 51, 158, 72, 159, 160, 161, 162, 163, 164, 165, 166] (by decide +kernel) (by decide +kernel)
set_option maxRecDepth 20000 in
theorem ggL_law_L_seen_p2 : GoodIn wsL_law wsL_seen_r2 := goodIn_r _ [167, 168, 169, 170, 75, 171, 172, 173, 174, 175, 176, 177, 178, 179, 180, 181, 182, 183, 184, 185, 186, 187, 188, 189] (by decide +kernel) (by decide +kernel)
set_option maxRecDepth 20000 in
theorem ggL_law_L_seen_p3 : GoodIn wsL_law wsL_seen_r3 := goodIn_r _ [190, 191, 192, 71, 193, 194, 195, 196, 197, 198, 199, 200, 201, 202, 203, 204, 205, 206, 207, 208, 73, 209, 210, 149] (by decide +kernel) (by decide +kernel)
set_option maxRecDepth 20000 in
theorem ggL_law_L_seen_p4 : GoodIn wsL_law wsL_seen_r4 := goodIn_r _ [211, 212, 213, 214, 215, 216, 217, 218, 219, 220, 221, 222, 223, 224, 225, 226, 227, 228, 229, 100, 101, 102, 63, 103] (by decide +kernel) (by decide +kernel)
set_option maxRecDepth 20000 in
theorem ggL_law_L_seen_p5 : GoodIn wsL_law wsL_seen_r5 := goodIn_r _ [104, 230, 231, 232, 56, 233, 234, 235, 236, 237, 238, 70, 420, 421, 422, 423, 369, 370, 371, 372, 424, 322, 323, 324] (by decide +kernel) (by decide +kernel)
set_option maxRecDepth 20000 in
theorem ggL_law_L_seen_p6 : GoodIn wsL_law wsL_seen_r6 := goodIn_r _ [425, 426, 427, 428, 330, 331, 332, 319, 320, 321, 325, 326, 327, 328, 429, 430, 431, 432, 74, 433, 434, 435, 436, 437] (by decide +kernel) (by decide +kernel)
set_option maxRecDepth 20000 in
theorem ggL_law_L_seen_p7 : GoodIn wsL_law wsL_seen_r7 := goodIn_r _ [438, 439, 440, 441, 442, 443, 76, 365, 366, 367, 368, 373, 374, 375, 376, 377, 378, 379, 380, 381, 382, 383, 384, 385] (by decide +kernel) (by decide +kernel)
set_option maxRecDepth 20000 in
theorem ggL_law_L_seen_p8 : GoodIn wsL_law wsL_seen_r8 := goodIn_r _ [386, 387, 388, 389, 390, 333, 334, 335, 336, 391, 392, 393, 394] (by decide +kernel) (by decide +kernel)
set_option maxRecDepth 20000 in
theorem ggL_law_L_seen_x0 : GoodIn wsL_law wsX50 := goodIn_r _ [548, 549, 550, 551, 552, 553] (by decide +kernel) (by decide +kernel)
set_option maxRecDepth 20000 in
theorem ggL_law_L_seen_x1 : GoodIn wsL_law wsX40 := goodIn_r _ [554, 555, 556, 557, 558, 559, 560, 561, 562, 563] (by decide +kernel) (by decide +kernel)
set_option maxRecDepth 20000 in
theorem ggL_law_L_seen_x2 : GoodIn wsL_law wsX10 := goodIn_r _ [567, 568, 569, 570, 571] (by decide +kernel) (by decide +kernel)
set_option maxRecDepth 20000 in
theorem ggL_law_L_seen_x3 : GoodIn wsL_law wsX00 := goodIn_r _ [564, 565, 566] (by decide +kernel) (by decide +kernel)
set_option maxRecDepth 20000 in
theorem ggL_law_L_seen : GoodIn wsL_law wsL_seen := fun w h => (goodIn_app (a := [_]) ggL_law_L_seen_p0 (goodIn_app (goodIn_app (goodIn_app (goodIn_app (goodIn_app ggL_law_L_seen_p1 (goodIn_app ggL_law_L_seen_p2 (goodIn_app ggL_law_L_seen_p3 (goodIn_app ggL_law_L_seen_p4 (goodIn_app ggL_law_L_seen_p5 (goodIn_app ggL_law_L_seen_p6 (goodIn_app ggL_law_L_seen_p7 ggL_law_L_seen_p8))))))) ggL_law_L_seen_x0) ggL_law_L_seen_x1) ggL_law_L_seen_x2) ggL_law_L_seen_x3)) w h
set_option maxRecDepth 20000 in
theorem ggL_law_L_refused_p0 : GoodIn wsL_law [Cond.code yL_refused cL_refused 9 (some .boolean)] := fun w h => by
  rw [List.mem_singleton.mp h]
  exact ⟨List.mem_of_getElem? (i := 409) rfl, good_of_word (by decide +kernel)⟩
set_option maxRecDepth 20000 in
theorem ggL_law_L_refused_p1_0 : GoodIn wsL_law [Cond.constantLong RL 74 (32), Cond.constantLong RL 76 (127), Cond.constantLong RL 78 (3473461), Cond.constantLong RL 80 (13568), Cond.constantLong RL 82 (-1), Cond.methodLink RL 30 yL_seen, Cond.static yL_seen, Cond.initialized RL] := goodIn_r _ [410, 411, 412, 413, 414, 415, 416, 7] (by decide +kernel) (by decide +kernel)
set_option maxRecDepth 20000 in
theorem ggL_law_L_refused_p1_1 : GoodIn wsL_law [Cond.code yL_seen cL_seen 5 (some .long)] := fun w h => by
  rw [List.mem_singleton.mp h]
  exact ⟨List.mem_of_getElem? (i := 417) rfl, good_of_word (by decide +kernel)⟩
set_option maxRecDepth 20000 in
theorem ggL_law_L_refused_p1_2 : GoodIn wsL_law [Cond.constantLong RL 9 (3), Cond.constantLong RL 11 (31), Cond.methodLink RL 13 yX5_count, Cond.instanceMethod yX5_count, Cond.selects RX5 yX5_count yX5_count, Cond.initialized RX5, Cond.code yX5_count cX5_count 2 (some .int), Cond.fieldLink RX5 12 "StoneTree" "tree" "LStoneTree$Tree;", Cond.fieldLink RX5 37 "StoneTree" "pad" "LStoneTree$Pad;", Cond.fieldLink RX5 22 "StoneTree" "history" "LStoneTree$History;", Cond.methodLink RX5 69 yX4_stones, Cond.instanceMethod yX4_stones, Cond.selects RX4 yX4_stones yX4_stones, Cond.initialized RX4, Cond.code yX4_stones cX4_stones 1 (some .int)] := goodIn_r _ [418, 419, 151, 152, 153, 2, 154, 52, 64, 57, 155, 156, 157, 51, 158] (by decide +kernel) (by decide +kernel)
set_option maxRecDepth 20000 in
theorem ggL_law_L_refused_p1 : GoodIn wsL_law wsL_refused_r1 := fun w h => (goodIn_app (a := [_, _, _, _, _, _, _, _]) ggL_law_L_refused_p1_0 (goodIn_app (a := [_]) ggL_law_L_refused_p1_1 ggL_law_L_refused_p1_2)) w h
set_option maxRecDepth 20000 in
theorem ggL_law_L_refused_p2 : GoodIn wsL_law wsL_refused_r2 := goodIn_r _ [72, 159, 160, 161, 162, 163, 164, 165, 166, 167, 168, 169, 170, 75, 171, 172, 173, 174, 175, 176, 177, 178, 179, 180] (by decide +kernel) (by decide +kernel)
set_option maxRecDepth 20000 in
theorem ggL_law_L_refused_p3 : GoodIn wsL_law wsL_refused_r3 := goodIn_r _ [181, 182, 183, 184, 185, 186, 187, 188, 189, 190, 191, 192, 71, 193, 194, 195, 196, 197, 198, 199, 200, 201, 202, 203] (by decide +kernel) (by decide +kernel)
set_option maxRecDepth 20000 in
theorem ggL_law_L_refused_p4 : GoodIn wsL_law wsL_refused_r4 := goodIn_r _ [204, 205, 206, 207, 208, 73, 209, 210, 149, 211, 212, 213, 214, 215, 216, 217, 218, 219, 220, 221, 222, 223, 224, 225] (by decide +kernel) (by decide +kernel)
set_option maxRecDepth 20000 in
theorem ggL_law_L_refused_p5 : GoodIn wsL_law wsL_refused_r5 := goodIn_r _ [226, 227, 228, 229, 100, 101, 102, 63, 103, 104, 230, 231, 232, 56, 233, 234, 235, 236, 237, 238, 70, 420, 421, 422] (by decide +kernel) (by decide +kernel)
set_option maxRecDepth 20000 in
theorem ggL_law_L_refused_p6 : GoodIn wsL_law wsL_refused_r6 := goodIn_r _ [423, 369, 370, 371, 372, 424, 322, 323, 324, 425, 426, 427, 428, 330, 331, 332, 319, 320, 321, 325, 326, 327, 328, 429] (by decide +kernel) (by decide +kernel)
set_option maxRecDepth 20000 in
theorem ggL_law_L_refused_p7 : GoodIn wsL_law wsL_refused_r7 := goodIn_r _ [430, 431, 432, 74, 433, 434, 435, 436, 437, 438, 439, 440, 441, 442, 443, 76, 365, 366, 367, 368, 373, 374, 375, 376] (by decide +kernel) (by decide +kernel)
set_option maxRecDepth 20000 in
theorem ggL_law_L_refused_p8 : GoodIn wsL_law wsL_refused_r8 := goodIn_r _ [377, 378, 379, 380, 381, 382, 383, 384, 385, 386, 387, 388, 389, 390, 333, 334, 335, 336, 391, 392, 393, 394, 444, 445] (by decide +kernel) (by decide +kernel)
set_option maxRecDepth 20000 in
theorem ggL_law_L_refused_p9 : GoodIn wsL_law wsL_refused_r9 := goodIn_r _ [446, 447, 448, 449, 450, 243, 244, 245, 246, 247, 82, 248, 249, 129, 250, 251, 252, 253, 254, 255, 256, 257, 258, 259] (by decide +kernel) (by decide +kernel)
set_option maxRecDepth 20000 in
theorem ggL_law_L_refused_p10 : GoodIn wsL_law wsL_refused_r10 := goodIn_r _ [260, 261, 262, 451, 452, 453, 454, 290, 455, 456, 457, 458, 459, 460, 461, 462, 463, 464, 465, 148, 150, 271, 272, 273] (by decide +kernel) (by decide +kernel)
set_option maxRecDepth 20000 in
theorem ggL_law_L_refused_p11 : GoodIn wsL_law wsL_refused_r11 := goodIn_r _ [274, 275, 276, 277, 278, 279, 280, 281, 282, 283, 284, 285, 286, 287, 288, 289, 291, 292, 293, 294, 295, 296, 297, 298] (by decide +kernel) (by decide +kernel)
set_option maxRecDepth 20000 in
theorem ggL_law_L_refused_p12 : GoodIn wsL_law wsL_refused_r12 := goodIn_r _ [299, 300, 301, 302, 303, 304, 305, 306, 307, 308, 309, 310, 311, 312, 313, 314, 315, 316, 317, 318, 329, 337, 338, 339] (by decide +kernel) (by decide +kernel)
set_option maxRecDepth 20000 in
theorem ggL_law_L_refused_p13 : GoodIn wsL_law wsL_refused_r13 := goodIn_r _ [340, 341, 342, 343, 344, 345, 346, 347, 348, 128, 130, 349, 350, 351, 352, 353, 354, 355, 356, 357, 358, 359, 360, 466] (by decide +kernel) (by decide +kernel)
set_option maxRecDepth 20000 in
theorem ggL_law_L_refused_p14 : GoodIn wsL_law wsL_refused_r14 := goodIn_r _ [467, 468, 469, 470, 471, 472, 473, 474, 475, 476, 477, 478, 479, 480, 481, 482, 483, 484, 485, 486, 487, 488, 489, 490] (by decide +kernel) (by decide +kernel)
set_option maxRecDepth 20000 in
theorem ggL_law_L_refused_p15 : GoodIn wsL_law wsL_refused_r15 := goodIn_r _ [491, 492, 493, 494, 495, 496, 497, 498, 499, 500, 501, 502, 503, 504, 505, 506, 507, 508, 53, 509, 510, 511, 512, 513] (by decide +kernel) (by decide +kernel)
set_option maxRecDepth 20000 in
theorem ggL_law_L_refused_p16 : GoodIn wsL_law wsL_refused_r16 := goodIn_r _ [514, 515, 516, 517, 518, 519, 520, 521, 58, 60, 522, 523, 524, 525, 526, 527, 528, 529, 90, 91, 92, 93, 94, 95] (by decide +kernel) (by decide +kernel)
set_option maxRecDepth 20000 in
theorem ggL_law_L_refused_p17 : GoodIn wsL_law wsL_refused_r17 := goodIn_r _ [96, 97, 98, 99, 105, 106, 107, 108, 88] (by decide +kernel) (by decide +kernel)
set_option maxRecDepth 20000 in
theorem ggL_law_L_refused_x0 : GoodIn wsL_law wsX50 := goodIn_r _ [548, 549, 550, 551, 552, 553] (by decide +kernel) (by decide +kernel)
set_option maxRecDepth 20000 in
theorem ggL_law_L_refused_x1 : GoodIn wsL_law wsX40 := goodIn_r _ [554, 555, 556, 557, 558, 559, 560, 561, 562, 563] (by decide +kernel) (by decide +kernel)
set_option maxRecDepth 20000 in
theorem ggL_law_L_refused_x2 : GoodIn wsL_law wsX10 := goodIn_r _ [567, 568, 569, 570, 571] (by decide +kernel) (by decide +kernel)
set_option maxRecDepth 20000 in
theorem ggL_law_L_refused_x3 : GoodIn wsL_law wsX00 := goodIn_r _ [564, 565, 566] (by decide +kernel) (by decide +kernel)
set_option maxRecDepth 20000 in
theorem ggL_law_L_refused : GoodIn wsL_law wsL_refused := fun w h => (goodIn_app (a := [_]) ggL_law_L_refused_p0 (goodIn_app (goodIn_app (goodIn_app (goodIn_app (goodIn_app ggL_law_L_refused_p1 (goodIn_app ggL_law_L_refused_p2 (goodIn_app ggL_law_L_refused_p3 (goodIn_app ggL_law_L_refused_p4 (goodIn_app ggL_law_L_refused_p5 (goodIn_app ggL_law_L_refused_p6 (goodIn_app ggL_law_L_refused_p7 (goodIn_app ggL_law_L_refused_p8 (goodIn_app ggL_law_L_refused_p9 (goodIn_app ggL_law_L_refused_p10 (goodIn_app ggL_law_L_refused_p11 (goodIn_app ggL_law_L_refused_p12 (goodIn_app ggL_law_L_refused_p13 (goodIn_app ggL_law_L_refused_p14 (goodIn_app ggL_law_L_refused_p15 (goodIn_app ggL_law_L_refused_p16 ggL_law_L_refused_p17)))))))))))))))) ggL_law_L_refused_x0) ggL_law_L_refused_x1) ggL_law_L_refused_x2) ggL_law_L_refused_x3)) w h
