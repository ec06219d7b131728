set_option maxRecDepth 20000 in
theorem gi_wsL_law_r1 : GoodIn lw_tbl wsL_law_r1 := goodIn_p _ [66, 69] (by decide +kernel) (by decide +kernel)
set_option maxRecDepth 20000 in
theorem gi_wsL_law_r2 : GoodIn lw_tbl wsL_law_r2 := goodIn_p _ [74, 112] (by decide +kernel) (by decide +kernel)
set_option maxRecDepth 20000 in
theorem gi_wsL_law_r3 : GoodIn lw_tbl wsL_law_r3 := goodIn_p _ [131, 595, 173] (by decide +kernel) (by decide +kernel)
set_option maxRecDepth 20000 in
theorem gi_wsL_law_r4 : GoodIn lw_tbl wsL_law_r4 := goodIn_p _ [176, 180, 190, 184, 187] (by decide +kernel) (by decide +kernel)
set_option maxRecDepth 20000 in
theorem gi_wsL_law_r5 : GoodIn lw_tbl wsL_law_r5 := goodIn_p _ [198, 202, 646, 649, 653] (by decide +kernel) (by decide +kernel)
set_option maxRecDepth 20000 in
theorem gi_wsL_law_r6 : GoodIn lw_tbl wsL_law_r6 := goodIn_p _ [206, 209, 212, 215, 218, 222, 226] (by decide +kernel) (by decide +kernel)
set_option maxRecDepth 20000 in
theorem gi_wsL_law_r7 : GoodIn lw_tbl wsL_law_r7 := goodIn_p _ [230, 234, 238, 242, 245, 249] (by decide +kernel) (by decide +kernel)
set_option maxRecDepth 20000 in
theorem gi_wsL_law_r8 : GoodIn lw_tbl wsL_law_r8 := goodIn_p _ [252, 255, 258, 263, 266, 269, 272] (by decide +kernel) (by decide +kernel)
set_option maxRecDepth 20000 in
theorem gi_wsL_law_r9 : GoodIn lw_tbl wsL_law_r9 := goodIn_p _ [275, 281, 285, 288, 291, 296] (by decide +kernel) (by decide +kernel)
set_option maxRecDepth 20000 in
theorem gi_wsL_law_r10 : GoodIn lw_tbl wsL_law_r10 := goodIn_p _ [301, 306, 310, 314, 317, 321] (by decide +kernel) (by decide +kernel)
set_option maxRecDepth 20000 in
theorem gi_wsL_law_r11 : GoodIn lw_tbl wsL_law_r11 := goodIn_p _ [327, 331, 334, 337, 341, 344] (by decide +kernel) (by decide +kernel)
set_option maxRecDepth 20000 in
theorem gi_wsL_law_r12 : GoodIn lw_tbl wsL_law_r12 := goodIn_p _ [657, 660, 664, 668, 671, 675, 679] (by decide +kernel) (by decide +kernel)
set_option maxRecDepth 20000 in
theorem gi_wsL_law_r13 : GoodIn lw_tbl wsL_law_r13 := goodIn_p _ [683, 687, 691, 695, 699, 702] (by decide +kernel) (by decide +kernel)
set_option maxRecDepth 20000 in
theorem gi_wsL_law_r14 : GoodIn lw_tbl wsL_law_r14 := goodIn_p _ [705, 709, 713, 717, 720, 724, 727] (by decide +kernel) (by decide +kernel)
set_option maxRecDepth 20000 in
theorem gi_wsL_law_r15 : GoodIn lw_tbl wsL_law_r15 := goodIn_p _ [731, 735, 739, 743, 746, 750] (by decide +kernel) (by decide +kernel)
set_option maxRecDepth 20000 in
theorem gi_wsL_law_r16 : GoodIn lw_tbl wsL_law_r16 := goodIn_p _ [348, 351, 355, 358, 754, 757, 761] (by decide +kernel) (by decide +kernel)
set_option maxRecDepth 20000 in
theorem gi_wsL_law_r17 : GoodIn lw_tbl wsL_law_r17 := goodIn_p _ [362, 366, 370, 374, 377, 381] (by decide +kernel) (by decide +kernel)
set_option maxRecDepth 20000 in
theorem gi_wsL_law_r18 : GoodIn lw_tbl wsL_law_r18 := goodIn_p _ [384, 765, 769, 773, 388] (by decide +kernel) (by decide +kernel)
set_option maxRecDepth 20000 in
theorem gi_wsL_law_r19 : GoodIn lw_tbl wsL_law_r19 := goodIn_p _ [777, 398, 402, 407, 410, 414] (by decide +kernel) (by decide +kernel)
set_option maxRecDepth 20000 in
theorem gi_wsL_law_r20 : GoodIn lw_tbl wsL_law_r20 := goodIn_p _ [418, 781, 422, 427, 431] (by decide +kernel) (by decide +kernel)
set_option maxRecDepth 20000 in
theorem gi_wsL_law_r21 : GoodIn lw_tbl wsL_law_r21 := goodIn_p _ [785, 789, 435, 439, 443, 447] (by decide +kernel) (by decide +kernel)
set_option maxRecDepth 20000 in
theorem gi_wsL_law_r22 : GoodIn lw_tbl wsL_law_r22 := goodIn_p _ [451, 455, 460, 464, 793] (by decide +kernel) (by decide +kernel)
set_option maxRecDepth 20000 in
theorem gi_wsL_law_r23 : GoodIn lw_tbl wsL_law_r23 := goodIn_p _ [797, 469, 473, 801, 477] (by decide +kernel) (by decide +kernel)
set_option maxRecDepth 20000 in
theorem gi_wsL_law_r24 : GoodIn lw_tbl wsL_law_r24 := goodIn_p _ [805, 485, 489, 809, 813, 817] (by decide +kernel) (by decide +kernel)
set_option maxRecDepth 20000 in
theorem gi_wsL_law_r25 : GoodIn lw_tbl wsL_law_r25 := goodIn_p _ [821, 494, 825, 498, 829, 502] (by decide +kernel) (by decide +kernel)
set_option maxRecDepth 20000 in
theorem gi_wsL_law_r26 : GoodIn lw_tbl wsL_law_r26 := goodIn_p _ [833, 506, 509, 516, 837] (by decide +kernel) (by decide +kernel)
set_option maxRecDepth 20000 in
theorem gi_wsL_law_r27 : GoodIn lw_tbl wsL_law_r27 := goodIn_p _ [520, 524, 842, 528, 532, 536] (by decide +kernel) (by decide +kernel)
set_option maxRecDepth 20000 in
theorem gi_wsL_law_r28 : GoodIn lw_tbl wsL_law_r28 := goodIn_p _ [540, 544, 548, 553, 557] (by decide +kernel) (by decide +kernel)
set_option maxRecDepth 20000 in
theorem gi_wsL_law_r29 : GoodIn lw_tbl wsL_law_r29 := goodIn_p _ [846, 850, 854, 858, 862, 866] (by decide +kernel) (by decide +kernel)
set_option maxRecDepth 20000 in
theorem gi_wsL_law_r30 : GoodIn lw_tbl wsL_law_r30 := goodIn_p _ [870, 562, 566, 570, 874, 574] (by decide +kernel) (by decide +kernel)
set_option maxRecDepth 20000 in
theorem gi_wsL_law_r31 : GoodIn lw_tbl wsL_law_r31 := goodIn_p _ [578, 878, 582, 586, 882, 590] (by decide +kernel) (by decide +kernel)
set_option maxRecDepth 20000 in
theorem gi_wsL_law_r32 : GoodIn lw_tbl wsL_law_r32 := goodIn_p _ [886] (by decide +kernel) (by decide +kernel)
set_option maxRecDepth 20000 in
theorem gi_wsX50 : GoodIn lw_tbl wsX50 := goodIn_p _ [] (by decide +kernel) (by decide +kernel)
set_option maxRecDepth 20000 in
theorem gi_wsX60 : GoodIn lw_tbl wsX60 := goodIn_p _ [] (by decide +kernel) (by decide +kernel)
set_option maxRecDepth 20000 in
theorem gi_wsX40 : GoodIn lw_tbl wsX40 := goodIn_p _ [] (by decide +kernel) (by decide +kernel)
set_option maxRecDepth 20000 in
theorem gi_wsX00 : GoodIn lw_tbl wsX00 := goodIn_p _ [] (by decide +kernel) (by decide +kernel)
set_option maxRecDepth 20000 in
theorem gi_wsX10 : GoodIn lw_tbl wsX10 := goodIn_p _ [] (by decide +kernel) (by decide +kernel)
theorem wsL_law_in : ∀ w ∈ wsL_law, w ∈ lw_tbl := fun w h => ((goodIn_app (goodIn_app (goodIn_app (goodIn_app (goodIn_app (goodIn_app (goodIn_app gi_wsL_law_r1 (goodIn_app gi_wsL_law_r2 (goodIn_app gi_wsL_law_r3 (goodIn_app gi_wsL_law_r4 (goodIn_app gi_wsL_law_r5 (goodIn_app gi_wsL_law_r6 (goodIn_app gi_wsL_law_r7 (goodIn_app gi_wsL_law_r8 (goodIn_app gi_wsL_law_r9 (goodIn_app gi_wsL_law_r10 (goodIn_app gi_wsL_law_r11 (goodIn_app gi_wsL_law_r12 (goodIn_app gi_wsL_law_r13 (goodIn_app gi_wsL_law_r14 (goodIn_app gi_wsL_law_r15 (goodIn_app gi_wsL_law_r16 (goodIn_app gi_wsL_law_r17 (goodIn_app gi_wsL_law_r18 (goodIn_app gi_wsL_law_r19 (goodIn_app gi_wsL_law_r20 (goodIn_app gi_wsL_law_r21 (goodIn_app gi_wsL_law_r22 (goodIn_app gi_wsL_law_r23 (goodIn_app gi_wsL_law_r24 (goodIn_app gi_wsL_law_r25 (goodIn_app gi_wsL_law_r26 (goodIn_app gi_wsL_law_r27 (goodIn_app gi_wsL_law_r28 (goodIn_app gi_wsL_law_r29 (goodIn_app gi_wsL_law_r30 (goodIn_app gi_wsL_law_r31 gi_wsL_law_r32))))))))))))))))))))))))))))))) gi_wsX50) gi_wsX60) gi_wsX40) gi_wsX00) gi_wsX10) (fun w h => absurd h List.not_mem_nil)) w h).1
theorem inlX0 : ∀ w ∈ wsX00, w ∈ wsL_law := fun _ h => List.mem_append_left _ (List.mem_append_left _ (List.mem_append_right _ h))
theorem inX0 : ∀ w ∈ wsX00, w ∈ lw_tbl := fun w h => wsL_law_in w (inlX0 w h)
theorem inlX1 : ∀ w ∈ wsX10, w ∈ wsL_law := fun _ h => List.mem_append_left _ (List.mem_append_right _ h)
theorem inX1 : ∀ w ∈ wsX10, w ∈ lw_tbl := fun w h => wsL_law_in w (inlX1 w h)
theorem inX2 : ∀ w ∈ wsX20, w ∈ lw_tbl := by decide +kernel
theorem inX3 : ∀ w ∈ wsX30, w ∈ lw_tbl := by decide +kernel
theorem inlX4 : ∀ w ∈ wsX40, w ∈ wsL_law := fun _ h => List.mem_append_left _ (List.mem_append_left _ (List.mem_append_left _ (List.mem_append_right _ h)))
theorem inX4 : ∀ w ∈ wsX40, w ∈ lw_tbl := fun w h => wsL_law_in w (inlX4 w h)
theorem inlX5 : ∀ w ∈ wsX50, w ∈ wsL_law := fun _ h => List.mem_append_left _ (List.mem_append_left _ (List.mem_append_left _ (List.mem_append_left _ (List.mem_append_left _ (List.mem_append_right _ h)))))
theorem inX5 : ∀ w ∈ wsX50, w ∈ lw_tbl := fun w h => wsL_law_in w (inlX5 w h)
theorem inlX6 : ∀ w ∈ wsX60, w ∈ wsL_law := fun _ h => List.mem_append_left _ (List.mem_append_left _ (List.mem_append_left _ (List.mem_append_left _ (List.mem_append_right _ h))))
theorem inX6 : ∀ w ∈ wsX60, w ∈ lw_tbl := fun w h => wsL_law_in w (inlX6 w h)
theorem inJ9 : ∀ w ∈ wsJ90, w ∈ lw_tbl := by decide +kernel
theorem inJ10 : ∀ w ∈ wsJ100, w ∈ lw_tbl := by decide +kernel
