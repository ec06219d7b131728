set_option maxRecDepth 20000 in
theorem gi_wsL_law_r1 : GoodIn lw_tbl wsL_law_r1 := goodIn_p _ [568] (by decide +kernel) (by decide +kernel)
set_option maxRecDepth 20000 in
theorem gi_wsL_law_r2 : GoodIn lw_tbl wsL_law_r2 := goodIn_p _ [571, 32] (by decide +kernel) (by decide +kernel)
set_option maxRecDepth 20000 in
theorem gi_wsL_law_r3 : GoodIn lw_tbl wsL_law_r3 := goodIn_p _ [35, 40] (by decide +kernel) (by decide +kernel)
set_option maxRecDepth 20000 in
theorem gi_wsL_law_r4 : GoodIn lw_tbl wsL_law_r4 := goodIn_p _ [78, 97, 388] (by decide +kernel) (by decide +kernel)
set_option maxRecDepth 20000 in
theorem gi_wsL_law_r5 : GoodIn lw_tbl wsL_law_r5 := goodIn_p _ [391, 379, 398, 575, 406] (by decide +kernel) (by decide +kernel)
set_option maxRecDepth 20000 in
theorem gi_wsL_law_r6 : GoodIn lw_tbl wsL_law_r6 := goodIn_p _ [410, 414, 287, 418, 422, 427] (by decide +kernel) (by decide +kernel)
set_option maxRecDepth 20000 in
theorem gi_wsL_law_r7 : GoodIn lw_tbl wsL_law_r7 := goodIn_p _ [431, 184, 354, 307, 310, 358] (by decide +kernel) (by decide +kernel)
set_option maxRecDepth 20000 in
theorem gi_wsL_law_r8 : GoodIn lw_tbl wsL_law_r8 := goodIn_p _ [362, 366, 370, 374, 336] (by decide +kernel) (by decide +kernel)
set_option maxRecDepth 20000 in
theorem gi_wsL_law_r9 : GoodIn lw_tbl wsL_law_r9 := goodIn_p _ [340, 343, 347, 196, 204, 232, 221] (by decide +kernel) (by decide +kernel)
set_option maxRecDepth 20000 in
theorem gi_wsL_law_r10 : GoodIn lw_tbl wsL_law_r10 := goodIn_p _ [224, 300, 235, 238, 350, 383, 168] (by decide +kernel) (by decide +kernel)
set_option maxRecDepth 20000 in
theorem gi_wsL_law_r11 : GoodIn lw_tbl wsL_law_r11 := goodIn_p _ [402, 146, 156, 150, 153] (by decide +kernel) (by decide +kernel)
set_option maxRecDepth 20000 in
theorem gi_wsL_law_r12 : GoodIn lw_tbl wsL_law_r12 := goodIn_p _ [436, 440, 188, 192, 200, 208] (by decide +kernel) (by decide +kernel)
set_option maxRecDepth 20000 in
theorem gi_wsL_law_r13 : GoodIn lw_tbl wsL_law_r13 := goodIn_p _ [211, 215, 218, 229, 241] (by decide +kernel) (by decide +kernel)
set_option maxRecDepth 20000 in
theorem gi_wsL_law_r14 : GoodIn lw_tbl wsL_law_r14 := goodIn_p _ [247, 251, 254, 257, 262, 267] (by decide +kernel) (by decide +kernel)
set_option maxRecDepth 20000 in
theorem gi_wsL_law_r15 : GoodIn lw_tbl wsL_law_r15 := goodIn_p _ [272, 276, 280, 283, 293, 297] (by decide +kernel) (by decide +kernel)
set_option maxRecDepth 20000 in
theorem gi_wsL_law_r16 : GoodIn lw_tbl wsL_law_r16 := goodIn_p _ [303, 444, 507, 317, 516] (by decide +kernel) (by decide +kernel)
set_option maxRecDepth 20000 in
theorem gi_wsL_law_r17 : GoodIn lw_tbl wsL_law_r17 := goodIn_p _ [181, 521, 525, 610, 448, 452] (by decide +kernel) (by decide +kernel)
set_option maxRecDepth 20000 in
theorem gi_wsL_law_r18 : GoodIn lw_tbl wsL_law_r18 := goodIn_p _ [528, 476, 482, 487] (by decide +kernel) (by decide +kernel)
set_option maxRecDepth 20000 in
theorem gi_wsL_law_r19 : GoodIn lw_tbl wsL_law_r19 := goodIn_p _ [492, 495, 499, 503, 139, 142, 164] (by decide +kernel) (by decide +kernel)
set_option maxRecDepth 20000 in
theorem gi_wsL_law_r20 : GoodIn lw_tbl wsL_law_r20 := goodIn_p _ [172, 175, 178, 314, 321, 324] (by decide +kernel) (by decide +kernel)
set_option maxRecDepth 20000 in
theorem gi_wsL_law_r21 : GoodIn lw_tbl wsL_law_r21 := goodIn_p _ [328, 332, 532, 536, 540] (by decide +kernel) (by decide +kernel)
set_option maxRecDepth 20000 in
theorem gi_wsL_law_r22 : GoodIn lw_tbl wsL_law_r22 := goodIn_p _ [548, 552, 556, 560, 456, 460] (by decide +kernel) (by decide +kernel)
set_option maxRecDepth 20000 in
theorem gi_wsL_law_r23 : GoodIn lw_tbl wsL_law_r23 := goodIn_p _ [465, 613, 617, 620, 472, 468] (by decide +kernel) (by decide +kernel)
set_option maxRecDepth 20000 in
theorem gi_wsX50 : GoodIn lw_tbl wsX50 := goodIn_p _ [] (by decide +kernel) (by decide +kernel)
set_option maxRecDepth 20000 in
theorem gi_wsX40 : GoodIn lw_tbl wsX40 := goodIn_p _ [] (by decide +kernel) (by decide +kernel)
set_option maxRecDepth 20000 in
theorem gi_wsX00 : GoodIn lw_tbl wsX00 := goodIn_p _ [] (by decide +kernel) (by decide +kernel)
set_option maxRecDepth 20000 in
theorem gi_wsX10 : GoodIn lw_tbl wsX10 := goodIn_p _ [] (by decide +kernel) (by decide +kernel)
theorem wsL_law_in : ∀ w ∈ wsL_law, w ∈ lw_tbl := fun w h => ((goodIn_app (goodIn_app (goodIn_app (goodIn_app (goodIn_app (goodIn_app gi_wsL_law_r1 (goodIn_app gi_wsL_law_r2 (goodIn_app gi_wsL_law_r3 (goodIn_app gi_wsL_law_r4 (goodIn_app gi_wsL_law_r5 (goodIn_app gi_wsL_law_r6 (goodIn_app gi_wsL_law_r7 (goodIn_app gi_wsL_law_r8 (goodIn_app gi_wsL_law_r9 (goodIn_app gi_wsL_law_r10 (goodIn_app gi_wsL_law_r11 (goodIn_app gi_wsL_law_r12 (goodIn_app gi_wsL_law_r13 (goodIn_app gi_wsL_law_r14 (goodIn_app gi_wsL_law_r15 (goodIn_app gi_wsL_law_r16 (goodIn_app gi_wsL_law_r17 (goodIn_app gi_wsL_law_r18 (goodIn_app gi_wsL_law_r19 (goodIn_app gi_wsL_law_r20 (goodIn_app gi_wsL_law_r21 (goodIn_app gi_wsL_law_r22 gi_wsL_law_r23)))))))))))))))))))))) gi_wsX50) gi_wsX40) gi_wsX00) gi_wsX10) (fun w h => absurd h List.not_mem_nil)) w h).1
theorem inlX0 : ∀ w ∈ wsX00, w ∈ wsL_law := fun _ h => List.mem_append_left _ (List.mem_append_left _ (List.mem_append_right _ h))
theorem inX0 : ∀ w ∈ wsX00, w ∈ lw_tbl := fun w h => wsL_law_in w (inlX0 w h)
theorem inlX1 : ∀ w ∈ wsX10, w ∈ wsL_law := fun _ h => List.mem_append_left _ (List.mem_append_right _ h)
theorem inX1 : ∀ w ∈ wsX10, w ∈ lw_tbl := fun w h => wsL_law_in w (inlX1 w h)
theorem inX2 : ∀ w ∈ wsX20, w ∈ lw_tbl := by decide +kernel
theorem inX3 : ∀ w ∈ wsX30, w ∈ lw_tbl := by decide +kernel
theorem inlX4 : ∀ w ∈ wsX40, w ∈ wsL_law := fun _ h => List.mem_append_left _ (List.mem_append_left _ (List.mem_append_left _ (List.mem_append_right _ h)))
theorem inX4 : ∀ w ∈ wsX40, w ∈ lw_tbl := fun w h => wsL_law_in w (inlX4 w h)
theorem inlX5 : ∀ w ∈ wsX50, w ∈ wsL_law := fun _ h => List.mem_append_left _ (List.mem_append_left _ (List.mem_append_left _ (List.mem_append_left _ (List.mem_append_right _ h))))
theorem inX5 : ∀ w ∈ wsX50, w ∈ lw_tbl := fun w h => wsL_law_in w (inlX5 w h)
theorem inX6 : ∀ w ∈ wsX60, w ∈ lw_tbl := by decide +kernel
theorem inJ9 : ∀ w ∈ wsJ90, w ∈ lw_tbl := by decide +kernel
theorem inJ10 : ∀ w ∈ wsJ100, w ∈ lw_tbl := by decide +kernel
