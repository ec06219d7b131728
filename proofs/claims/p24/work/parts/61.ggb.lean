set_option maxRecDepth 20000 in
theorem gi_wsL_law_r1_0 : GoodIn lw_tbl [Cond.classLink RL 14 RX5, Cond.instantiable RX5 6, Cond.initialized RX5, Cond.arrayClass .long, Cond.constantLong RL 181 (13688), Cond.methodLink RL 171 yL_texts, Cond.static yL_texts, Cond.initialized RL] := goodIn_p _ [] (by decide +kernel) (by decide +kernel)
set_option maxRecDepth 20000 in
theorem gi_wsL_law_r1_1 : GoodIn lw_tbl [Cond.code yL_texts cL_texts 2 (some .boolean)] := fun w h => by
  rw [List.mem_singleton.mp h]
  exact ⟨List.mem_of_getElem? (i := 568) rfl, good_of_word (by decide +kernel)⟩
set_option maxRecDepth 20000 in
theorem gi_wsL_law_r1_2 : GoodIn lw_tbl [Cond.constantLong RL 96 (53), Cond.constantLong RL 98 (842480945), Cond.constantLong RL 100 (808795441), Cond.constantLong RL 102 (58536934518832), Cond.constantLong RL 104 (893202481), Cond.constantLong RL 106 (228391594801), Cond.constantLong RL 108 (3484979), Cond.constantLong RL 110 (54091576322865), Cond.constantLong RL 112 (825371953), Cond.constantLong RL 114 (13847443538979633), Cond.constantLong RL 116 (13847443539110705), Cond.constantLong RL 118 (3290744), Cond.constantLong RL 120 (13689), Cond.constantLong RL 122 (893202747), Cond.constantLong RL 124 (228659903291)] := goodIn_p _ [] (by decide +kernel) (by decide +kernel)
set_option maxRecDepth 20000 in
theorem gi_wsL_law_r1 : GoodIn lw_tbl wsL_law_r1 := fun w h => (goodIn_app (a := [_, _, _, _, _, _, _, _]) gi_wsL_law_r1_0 (goodIn_app (a := [_]) gi_wsL_law_r1_1 gi_wsL_law_r1_2)) w h
set_option maxRecDepth 20000 in
theorem gi_wsL_law_r2_0 : GoodIn lw_tbl [Cond.constantLong RL 126 (13613), Cond.constantLong RL 128 (3504177), Cond.constantLong RL 130 (58468232276785), Cond.constantLong RL 132 (892023160), Cond.constantLong RL 134 (228391861553), Cond.constantLong RL 136 (3161392), Cond.constantLong RL 138 (14985455421847611), Cond.constantLong RL 140 (120), Cond.constantLong RL 142 (13629), Cond.constantLong RL 144 (13611), Cond.constantLong RL 146 (758328113), Cond.constantLong RL 148 (3836276540626908459), Cond.constantLong RL 150 (3616455578881242667), Cond.constantLong RL 152 (49), Cond.constantLong RL 154 (55), Cond.constantLong RL 156 (14080), Cond.methodLink RL 92 yL_faultOf, Cond.static yL_faultOf] := goodIn_p _ [] (by decide +kernel) (by decide +kernel)
set_option maxRecDepth 20000 in
theorem gi_wsL_law_r2_1 : GoodIn lw_tbl [Cond.code yL_faultOf cL_faultOf 7 (some .int)] := fun w h => by
  rw [List.mem_singleton.mp h]
  exact ⟨List.mem_of_getElem? (i := 571) rfl, good_of_word (by decide +kernel)⟩
set_option maxRecDepth 20000 in
theorem gi_wsL_law_r2_2 : GoodIn lw_tbl [Cond.methodLink RL 84 yX5_init, Cond.instanceMethod yX5_init, Cond.code yX5_init cX5_init 2 none, Cond.methodLink RX5 3 objectInit, Cond.instanceMethod objectInit] := goodIn_p _ [32] (by decide +kernel) (by decide +kernel)
set_option maxRecDepth 20000 in
theorem gi_wsL_law_r2 : GoodIn lw_tbl wsL_law_r2 := fun w h => (goodIn_app (a := [_, _, _, _, _, _, _, _, _, _, _, _, _, _, _, _, _, _]) gi_wsL_law_r2_0 (goodIn_app (a := [_]) gi_wsL_law_r2_1 gi_wsL_law_r2_2)) w h
set_option maxRecDepth 20000 in
theorem gi_wsL_law_r3 : GoodIn lw_tbl wsL_law_r3 := goodIn_p _ [35, 40] (by decide +kernel) (by decide +kernel)
set_option maxRecDepth 20000 in
theorem gi_wsL_law_r4 : GoodIn lw_tbl wsL_law_r4 := goodIn_p _ [78, 97, 388] (by decide +kernel) (by decide +kernel)
set_option maxRecDepth 20000 in
theorem gi_wsL_law_r5 : GoodIn lw_tbl wsL_law_r5 := goodIn_p _ [391, 379, 398, 575, 406] (by decide +kernel) (by decide +kernel)
set_option maxRecDepth 20000 in
theorem gi_wsL_law_r6 : GoodIn lw_tbl wsL_law_r6 := goodIn_p _ [410, 414, 287, 418, 422, 427] (by decide +kernel) (by decide +kernel)
set_option maxRecDepth 20000 in
theorem gi_wsL_law_r7 : GoodIn lw_tbl wsL_law_r7 := goodIn_p _ [431, 184, 354, 307, 310, 358] (by decide +kernel) (by decide +kernel)
set_option maxRecDepth 20000 in
theorem gi_wsL_law_r8 : GoodIn lw_tbl wsL_law_r8 := goodIn_p _ [362, 366, 370, 374, 336] (by decide +kernel) (by decide +kernel)
set_option maxRecDepth 20000 in
theorem gi_wsL_law_r9 : GoodIn lw_tbl wsL_law_r9 := goodIn_p _ [340, 343, 347, 196, 204, 232, 221] (by decide +kernel) (by decide +kernel)
set_option maxRecDepth 20000 in
theorem gi_wsL_law_r10 : GoodIn lw_tbl wsL_law_r10 := goodIn_p _ [224, 300, 235, 238, 350, 383, 168] (by decide +kernel) (by decide +kernel)
set_option maxRecDepth 20000 in
theorem gi_wsL_law_r11 : GoodIn lw_tbl wsL_law_r11 := goodIn_p _ [402, 146, 156, 150, 153] (by decide +kernel) (by decide +kernel)
set_option maxRecDepth 20000 in
theorem gi_wsL_law_r12 : GoodIn lw_tbl wsL_law_r12 := goodIn_p _ [436, 440, 188, 192, 200, 208] (by decide +kernel) (by decide +kernel)
set_option maxRecDepth 20000 in
theorem gi_wsL_law_r13 : GoodIn lw_tbl wsL_law_r13 := goodIn_p _ [211, 215, 218, 229, 241] (by decide +kernel) (by decide +kernel)
set_option maxRecDepth 20000 in
theorem gi_wsL_law_r14 : GoodIn lw_tbl wsL_law_r14 := goodIn_p _ [247, 251, 254, 257, 262, 267] (by decide +kernel) (by decide +kernel)
set_option maxRecDepth 20000 in
theorem gi_wsL_law_r15 : GoodIn lw_tbl wsL_law_r15 := goodIn_p _ [272, 276, 280, 283, 293, 297] (by decide +kernel) (by decide +kernel)
set_option maxRecDepth 20000 in
theorem gi_wsL_law_r16 : GoodIn lw_tbl wsL_law_r16 := goodIn_p _ [303, 444, 507, 317, 516] (by decide +kernel) (by decide +kernel)
set_option maxRecDepth 20000 in
theorem gi_wsL_law_r17 : GoodIn lw_tbl wsL_law_r17 := goodIn_p _ [181, 521, 525, 610, 448, 452] (by decide +kernel) (by decide +kernel)
set_option maxRecDepth 20000 in
theorem gi_wsL_law_r18_0 : GoodIn lw_tbl [Cond.static yL_refused] := goodIn_p _ [] (by decide +kernel) (by decide +kernel)
set_option maxRecDepth 20000 in
theorem gi_wsL_law_r18_1 : GoodIn lw_tbl [Cond.code yL_refused cL_refused 9 (some .boolean)] := fun w h => by
  rw [List.mem_singleton.mp h]
  exact ⟨List.mem_of_getElem? (i := 528) rfl, good_of_word (by decide +kernel)⟩
set_option maxRecDepth 20000 in
theorem gi_wsL_law_r18_2 : GoodIn lw_tbl [Cond.constantLong RL 74 (32), Cond.constantLong RL 76 (127), Cond.constantLong RL 78 (3473461), Cond.constantLong RL 80 (13568), Cond.constantLong RL 82 (-1), Cond.methodLink RL 30 yL_seen, Cond.static yL_seen] := goodIn_p _ [] (by decide +kernel) (by decide +kernel)
set_option maxRecDepth 20000 in
theorem gi_wsL_law_r18_3 : GoodIn lw_tbl [Cond.code yL_seen cL_seen 5 (some .long)] := fun w h => by
  rw [List.mem_singleton.mp h]
  exact ⟨List.mem_of_getElem? (i := 476) rfl, good_of_word (by decide +kernel)⟩
set_option maxRecDepth 20000 in
theorem gi_wsL_law_r18_4 : GoodIn lw_tbl [Cond.constantLong RL 9 (3), Cond.constantLong RL 11 (31), Cond.methodLink RL 19 yX5_ofNode, Cond.instanceMethod yX5_ofNode, Cond.selects RX5 yX5_ofNode yX5_ofNode, Cond.code yX5_ofNode cX5_ofNode 3 (some .int), Cond.methodLink RX5 108 yX2_firstKey, Cond.methodLink RX5 113 yX2_lastKey, Cond.static yX2_lastKey, Cond.code yX2_lastKey cX2_lastKey 1 (some .int), Cond.methodLink RX2 15 yX2_lastKeyOfChild, Cond.methodLink RX5 116 yX4_timesSunk, Cond.instanceMethod yX4_timesSunk, Cond.selects RX4 yX4_timesSunk yX4_timesSunk] := goodIn_p _ [482, 487] (by decide +kernel) (by decide +kernel)
set_option maxRecDepth 20000 in
theorem gi_wsL_law_r18 : GoodIn lw_tbl wsL_law_r18 := fun w h => (goodIn_app (a := [_]) gi_wsL_law_r18_0 (goodIn_app (a := [_]) gi_wsL_law_r18_1 (goodIn_app (a := [_, _, _, _, _, _, _]) gi_wsL_law_r18_2 (goodIn_app (a := [_]) gi_wsL_law_r18_3 gi_wsL_law_r18_4)))) w h
set_option maxRecDepth 20000 in
theorem gi_wsL_law_r19 : GoodIn lw_tbl wsL_law_r19 := goodIn_p _ [492, 495, 499, 503, 139, 142, 164] (by decide +kernel) (by decide +kernel)
set_option maxRecDepth 20000 in
theorem gi_wsL_law_r20 : GoodIn lw_tbl wsL_law_r20 := goodIn_p _ [172, 175, 178, 314, 321, 324] (by decide +kernel) (by decide +kernel)
set_option maxRecDepth 20000 in
theorem gi_wsL_law_r21 : GoodIn lw_tbl wsL_law_r21 := goodIn_p _ [328, 332, 532, 536, 540] (by decide +kernel) (by decide +kernel)
set_option maxRecDepth 20000 in
theorem gi_wsL_law_r22 : GoodIn lw_tbl wsL_law_r22 := goodIn_p _ [548, 552, 556, 560, 456, 460] (by decide +kernel) (by decide +kernel)
set_option maxRecDepth 20000 in
theorem gi_wsL_law_r23_0 : GoodIn lw_tbl [Cond.selects RX5 yX5_restore yX5_restore, Cond.code yX5_restore cX5_restore 2 (some .int), Cond.methodLink RL 175 yL_known, Cond.static yL_known] := goodIn_p _ [465] (by decide +kernel) (by decide +kernel)
set_option maxRecDepth 20000 in
theorem gi_wsL_law_r23_1 : GoodIn lw_tbl [Cond.code yL_known cL_known 1 (some .boolean)] := fun w h => by
  rw [List.mem_singleton.mp h]
  exact ⟨List.mem_of_getElem? (i := 613) rfl, good_of_word (by decide +kernel)⟩
set_option maxRecDepth 20000 in
theorem gi_wsL_law_r23_2 : GoodIn lw_tbl [Cond.methodLink RL 168 yX5_toEmptyAll, Cond.instanceMethod yX5_toEmptyAll, Cond.selects RX5 yX5_toEmptyAll yX5_toEmptyAll, Cond.code yX5_toEmptyAll cX5_toEmptyAll 2 (some .int), Cond.methodLink RL 178 yL_pieces, Cond.static yL_pieces] := goodIn_p _ [617] (by decide +kernel) (by decide +kernel)
set_option maxRecDepth 20000 in
theorem gi_wsL_law_r23_3 : GoodIn lw_tbl [Cond.code yL_pieces cL_pieces 1 (some .boolean)] := fun w h => by
  rw [List.mem_singleton.mp h]
  exact ⟨List.mem_of_getElem? (i := 620) rfl, good_of_word (by decide +kernel)⟩
set_option maxRecDepth 20000 in
theorem gi_wsL_law_r23_4 : GoodIn lw_tbl [Cond.methodLink RL 183 yL_drawn, Cond.static yL_drawn, Cond.code yL_drawn cL_drawn 2 (some .int), Cond.constant RL 8 (2654435), Cond.methodLink RL 187 yL_part, Cond.static yL_part, Cond.code yL_part cL_part 2 (some .int), Cond.constant RL 7 (2147483647)] := goodIn_p _ [472, 468] (by decide +kernel) (by decide +kernel)
set_option maxRecDepth 20000 in
theorem gi_wsL_law_r23 : GoodIn lw_tbl wsL_law_r23 := fun w h => (goodIn_app (a := [_, _, _, _]) gi_wsL_law_r23_0 (goodIn_app (a := [_]) gi_wsL_law_r23_1 (goodIn_app (a := [_, _, _, _, _, _]) gi_wsL_law_r23_2 (goodIn_app (a := [_]) gi_wsL_law_r23_3 gi_wsL_law_r23_4)))) w h
set_option maxRecDepth 20000 in
theorem gi_wsX50 : GoodIn lw_tbl wsX50 := goodIn_p _ [] (by decide +kernel) (by decide +kernel)
set_option maxRecDepth 20000 in
theorem gi_wsX40 : GoodIn lw_tbl wsX40 := goodIn_p _ [] (by decide +kernel) (by decide +kernel)
set_option maxRecDepth 20000 in
theorem gi_wsX00 : GoodIn lw_tbl wsX00 := goodIn_p _ [] (by decide +kernel) (by decide +kernel)
set_option maxRecDepth 20000 in
theorem gi_wsX10 : GoodIn lw_tbl wsX10 := goodIn_p _ [] (by decide +kernel) (by decide +kernel)
theorem wsL_law_in : ∀ w ∈ wsL_law, w ∈ lw_tbl := fun w h => ((goodIn_app (goodIn_app (goodIn_app (goodIn_app (goodIn_app (goodIn_app gi_wsL_law_r1 (goodIn_app gi_wsL_law_r2 (goodIn_app gi_wsL_law_r3 (goodIn_app gi_wsL_law_r4 (goodIn_app gi_wsL_law_r5 (goodIn_app gi_wsL_law_r6 (goodIn_app gi_wsL_law_r7 (goodIn_app gi_wsL_law_r8 (goodIn_app gi_wsL_law_r9 (goodIn_app gi_wsL_law_r10 (goodIn_app gi_wsL_law_r11 (goodIn_app gi_wsL_law_r12 (goodIn_app gi_wsL_law_r13 (goodIn_app gi_wsL_law_r14 (goodIn_app gi_wsL_law_r15 (goodIn_app gi_wsL_law_r16 (goodIn_app gi_wsL_law_r17 (goodIn_app gi_wsL_law_r18 (goodIn_app gi_wsL_law_r19 (goodIn_app gi_wsL_law_r20 (goodIn_app gi_wsL_law_r21 (goodIn_app gi_wsL_law_r22 gi_wsL_law_r23)))))))))))))))))))))) gi_wsX50) gi_wsX40) gi_wsX00) gi_wsX10) (fun w h => absurd h List.not_mem_nil)) w h).1
theorem inlX0 : ∀ w ∈ wsX00, w ∈ wsL_law := fun _ h => List.mem_append_left _ (List.mem_append_left _ (List.mem_append_right _ h))
theorem inX0 : ∀ w ∈ wsX00, w ∈ lw_tbl := fun w h => wsL_law_in w (inlX0 w h)
theorem inlX1 : ∀ w ∈ wsX10, w ∈ wsL_law := fun _ h => List.mem_append_left _ (List.mem_append_right _ h)
theorem inX1 : ∀ w ∈ wsX10, w ∈ lw_tbl := fun w h => wsL_law_in w (inlX1 w h)
theorem inX2 : ∀ w ∈ wsX20, w ∈ lw_tbl := by decide +kernel
theorem inX3 : ∀ w ∈ wsX30, w ∈ lw_tbl := by decide +kernel
theorem inlX4 : ∀ w ∈ wsX40, w ∈ wsL_law := fun _ h => List.mem_append_left _ (List.mem_append_left _ (List.mem_append_left _ (List.mem_append_right _ h)))
theorem inX4 : ∀ w ∈ wsX40, w ∈ lw_tbl := fun w h => wsL_law_in w (inlX4 w h)
theorem inlX5 : ∀ w ∈ wsX50, w ∈ wsL_law := fun _ h => List.mem_append_left _ (List.mem_append_left _ (List.mem_append_left _ (List.mem_append_left _ (List.mem_append_right _ h))))
theorem inX5 : ∀ w ∈ wsX50, w ∈ lw_tbl := fun w h => wsL_law_in w (inlX5 w h)
theorem inX6 : ∀ w ∈ wsX60, w ∈ lw_tbl := by decide +kernel
theorem inJ9 : ∀ w ∈ wsJ90, w ∈ lw_tbl := by decide +kernel
theorem inJ10 : ∀ w ∈ wsJ100, w ∈ lw_tbl := by decide +kernel

