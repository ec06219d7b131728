theorem dX6_init_0 : decode cX6_init 0 = .ok (.aload_n 0, 1) := by decide +kernel
theorem dX6_init_1 : decode cX6_init 1 = .ok (.invokespecial 1, 3) := by decide +kernel
theorem dX6_init_4 : decode cX6_init 4 = .ok (.aload_n 0, 1) := by decide +kernel
theorem dX6_init_5 : decode cX6_init 5 = .ok (.sipush 1333, 3) := by decide +kernel
theorem dX6_init_8 : decode cX6_init 8 = .ok (.newarray .int, 2) := by decide +kernel
theorem dX6_init_10 : decode cX6_init 10 = .ok (.putfield 7, 3) := by decide +kernel
theorem dX6_init_13 : decode cX6_init 13 = .ok (.aload_n 0, 1) := by decide +kernel
theorem dX6_init_14 : decode cX6_init 14 = .ok (.sipush 7998, 3) := by decide +kernel
theorem dX6_init_17 : decode cX6_init 17 = .ok (.newarray .int, 2) := by decide +kernel
theorem dX6_init_19 : decode cX6_init 19 = .ok (.putfield 13, 3) := by decide +kernel
theorem dX6_init_22 : decode cX6_init 22 = .ok (.aload_n 0, 1) := by decide +kernel
theorem dX6_init_23 : decode cX6_init 23 = .ok (.sipush 2666, 3) := by decide +kernel
theorem dX6_init_26 : decode cX6_init 26 = .ok (.newarray .int, 2) := by decide +kernel
theorem dX6_init_28 : decode cX6_init 28 = .ok (.putfield 16, 3) := by decide +kernel
theorem dX6_init_31 : decode cX6_init 31 = .ok (.aload_n 0, 1) := by decide +kernel
theorem dX6_init_32 : decode cX6_init 32 = .ok (.iconst 2, 1) := by decide +kernel
theorem dX6_init_33 : decode cX6_init 33 = .ok (.newarray .boolean, 2) := by decide +kernel
theorem dX6_init_35 : decode cX6_init 35 = .ok (.putfield 19, 3) := by decide +kernel
theorem dX6_init_38 : decode cX6_init 38 = .ok (.aload_n 0, 1) := by decide +kernel
theorem dX6_init_39 : decode cX6_init 39 = .ok (.sipush 1333, 3) := by decide +kernel
theorem dX6_init_42 : decode cX6_init 42 = .ok (.newarray .int, 2) := by decide +kernel
theorem dX6_init_44 : decode cX6_init 44 = .ok (.putfield 23, 3) := by decide +kernel
theorem dX6_init_47 : decode cX6_init 47 = .ok (.aload_n 0, 1) := by decide +kernel
theorem dX6_init_48 : decode cX6_init 48 = .ok (.sipush 292, 3) := by decide +kernel
theorem dX6_init_51 : decode cX6_init 51 = .ok (.newarray .int, 2) := by decide +kernel
theorem dX6_init_53 : decode cX6_init 53 = .ok (.putfield 26, 3) := by decide +kernel
theorem dX6_init_56 : decode cX6_init 56 = .ok (.aload_n 0, 1) := by decide +kernel
theorem dX6_init_57 : decode cX6_init 57 = .ok (.bipush 96, 2) := by decide +kernel
theorem dX6_init_59 : decode cX6_init 59 = .ok (.newarray .int, 2) := by decide +kernel
theorem dX6_init_61 : decode cX6_init 61 = .ok (.putfield 29, 3) := by decide +kernel
theorem dX6_init_64 : decode cX6_init 64 = .ok (.aload_n 0, 1) := by decide +kernel
theorem dX6_init_65 : decode cX6_init 65 = .ok (.bipush 60, 2) := by decide +kernel
theorem dX6_init_67 : decode cX6_init 67 = .ok (.newarray .int, 2) := by decide +kernel
theorem dX6_init_69 : decode cX6_init 69 = .ok (.putfield 32, 3) := by decide +kernel
theorem dX6_init_72 : decode cX6_init 72 = .ok (.aload_n 0, 1) := by decide +kernel
theorem dX6_init_73 : decode cX6_init 73 = .ok (.bipush 96, 2) := by decide +kernel
theorem dX6_init_75 : decode cX6_init 75 = .ok (.newarray .int, 2) := by decide +kernel
theorem dX6_init_77 : decode cX6_init 77 = .ok (.putfield 35, 3) := by decide +kernel
theorem dX6_init_80 : decode cX6_init 80 = .ok (.aload_n 0, 1) := by decide +kernel
theorem dX6_init_81 : decode cX6_init 81 = .ok (.getfield 7, 3) := by decide +kernel
theorem dX6_init_84 : decode cX6_init 84 = .ok (.iconst 0, 1) := by decide +kernel
theorem dX6_init_85 : decode cX6_init 85 = .ok (.iconst 4, 1) := by decide +kernel
theorem dX6_init_86 : decode cX6_init 86 = .ok (.iastore, 1) := by decide +kernel
theorem dX6_init_87 : decode cX6_init 87 = .ok (.aload_n 0, 1) := by decide +kernel
theorem dX6_init_88 : decode cX6_init 88 = .ok (.getfield 7, 3) := by decide +kernel
theorem dX6_init_91 : decode cX6_init 91 = .ok (.iconst 1, 1) := by decide +kernel
theorem dX6_init_92 : decode cX6_init 92 = .ok (.iconst 1, 1) := by decide +kernel
theorem dX6_init_93 : decode cX6_init 93 = .ok (.iastore, 1) := by decide +kernel
theorem dX6_init_94 : decode cX6_init 94 = .ok (.iconst 0, 1) := by decide +kernel
theorem dX6_init_95 : decode cX6_init 95 = .ok (.istore_n 1, 1) := by decide +kernel
theorem dX6_init_96 : decode cX6_init 96 = .ok (.iload_n 1, 1) := by decide +kernel
theorem dX6_init_97 : decode cX6_init 97 = .ok (.bipush 27, 2) := by decide +kernel
theorem dX6_init_99 : decode cX6_init 99 = .ok (.if_icmp .ge 20, 3) := by decide +kernel
theorem dX6_init_102 : decode cX6_init 102 = .ok (.aload_n 0, 1) := by decide +kernel
theorem dX6_init_103 : decode cX6_init 103 = .ok (.getfield 7, 3) := by decide +kernel
theorem dX6_init_106 : decode cX6_init 106 = .ok (.bipush 6, 2) := by decide +kernel
theorem dX6_init_108 : decode cX6_init 108 = .ok (.iload_n 1, 1) := by decide +kernel
theorem dX6_init_109 : decode cX6_init 109 = .ok (.iadd, 1) := by decide +kernel
theorem dX6_init_110 : decode cX6_init 110 = .ok (.bipush (-6), 2) := by decide +kernel
theorem dX6_init_112 : decode cX6_init 112 = .ok (.iastore, 1) := by decide +kernel
theorem dX6_init_113 : decode cX6_init 113 = .ok (.iinc 1 1, 3) := by decide +kernel
theorem dX6_init_116 : decode cX6_init 116 = .ok (.goto (-20), 3) := by decide +kernel
theorem dX6_init_119 : decode cX6_init 119 = .ok (.return_, 1) := by decide +kernel
theorem dX6_in_0 : decode cX6_in 0 = .ok (.iload_n 0, 1) := by decide +kernel
theorem dX6_in_1 : decode cX6_in 1 = .ok (.iload_n 1, 1) := by decide +kernel
theorem dX6_in_2 : decode cX6_in 2 = .ok (.if_icmp .lt 12, 3) := by decide +kernel
theorem dX6_in_5 : decode cX6_in 5 = .ok (.iload_n 0, 1) := by decide +kernel
theorem dX6_in_6 : decode cX6_in 6 = .ok (.iload_n 2, 1) := by decide +kernel
theorem dX6_in_7 : decode cX6_in 7 = .ok (.if_icmp .gt 7, 3) := by decide +kernel
theorem dX6_in_10 : decode cX6_in 10 = .ok (.iconst 1, 1) := by decide +kernel
theorem dX6_in_11 : decode cX6_in 11 = .ok (.goto 4, 3) := by decide +kernel
theorem dX6_in_14 : decode cX6_in 14 = .ok (.iconst 0, 1) := by decide +kernel
theorem dX6_in_15 : decode cX6_in 15 = .ok (.ireturn, 1) := by decide +kernel
set_option maxRecDepth 20000 in
theorem ggX6_isKey_X6_in : GoodIn wsX6_isKey wsX6_in := goodIn_r _ [4] (by decide +kernel) (by decide +kernel)
set_option maxRecDepth 20000 in
theorem gX6_isKey_X6_in : GoodIn wsX6_isKey (va_wsS RX6 38 yX6_in wsX6_in) := goodIn_app (goodIn_of _ (by decide +kernel)) ggX6_isKey_X6_in
theorem dX6_isKey_0 : decode cX6_isKey 0 = .ok (.iload_n 0, 1) := by decide +kernel
theorem dX6_isKey_1 : decode cX6_isKey 1 = .ok (.iconst 0, 1) := by decide +kernel
theorem dX6_isKey_2 : decode cX6_isKey 2 = .ok (.bipush 26, 2) := by decide +kernel
theorem dX6_isKey_4 : decode cX6_isKey 4 = .ok (.invokestatic 38, 3) := by decide +kernel
theorem dX6_isKey_7 : decode cX6_isKey 7 = .ok (.ireturn, 1) := by decide +kernel
set_option maxRecDepth 20000 in
theorem ggX6_isNode_X6_in : GoodIn wsX6_isNode wsX6_in := goodIn_r _ [4] (by decide +kernel) (by decide +kernel)
set_option maxRecDepth 20000 in
theorem gX6_isNode_X6_in : GoodIn wsX6_isNode (va_wsS RX6 38 yX6_in wsX6_in) := goodIn_app (goodIn_of _ (by decide +kernel)) ggX6_isNode_X6_in
theorem dX6_isNode_0 : decode cX6_isNode 0 = .ok (.iload_n 0, 1) := by decide +kernel
theorem dX6_isNode_1 : decode cX6_isNode 1 = .ok (.iconst 0, 1) := by decide +kernel
theorem dX6_isNode_2 : decode cX6_isNode 2 = .ok (.bipush 12, 2) := by decide +kernel
theorem dX6_isNode_4 : decode cX6_isNode 4 = .ok (.invokestatic 38, 3) := by decide +kernel
theorem dX6_isNode_7 : decode cX6_isNode 7 = .ok (.ireturn, 1) := by decide +kernel
theorem dX6_record_0 : decode cX6_record 0 = .ok (.aload_n 0, 1) := by decide +kernel
theorem dX6_record_1 : decode cX6_record 1 = .ok (.getfield 42, 3) := by decide +kernel
theorem dX6_record_4 : decode cX6_record 4 = .ok (.bipush 6, 2) := by decide +kernel
theorem dX6_record_6 : decode cX6_record 6 = .ok (.if_icmp .ne 44, 3) := by decide +kernel
theorem dX6_record_9 : decode cX6_record 9 = .ok (.iconst 0, 1) := by decide +kernel
theorem dX6_record_10 : decode cX6_record 10 = .ok (.istore_n 1, 1) := by decide +kernel
theorem dX6_record_11 : decode cX6_record 11 = .ok (.iload_n 1, 1) := by decide +kernel
theorem dX6_record_12 : decode cX6_record 12 = .ok (.sipush 6665, 3) := by decide +kernel
theorem dX6_record_15 : decode cX6_record 15 = .ok (.if_icmp .ge 25, 3) := by decide +kernel
theorem dX6_record_18 : decode cX6_record 18 = .ok (.aload_n 0, 1) := by decide +kernel
theorem dX6_record_19 : decode cX6_record 19 = .ok (.getfield 13, 3) := by decide +kernel
theorem dX6_record_22 : decode cX6_record 22 = .ok (.iload_n 1, 1) := by decide +kernel
theorem dX6_record_23 : decode cX6_record 23 = .ok (.aload_n 0, 1) := by decide +kernel
theorem dX6_record_24 : decode cX6_record 24 = .ok (.getfield 13, 3) := by decide +kernel
theorem dX6_record_27 : decode cX6_record 27 = .ok (.iload_n 1, 1) := by decide +kernel
theorem dX6_record_28 : decode cX6_record 28 = .ok (.sipush 1333, 3) := by decide +kernel
theorem dX6_record_31 : decode cX6_record 31 = .ok (.iadd, 1) := by decide +kernel
theorem dX6_record_32 : decode cX6_record 32 = .ok (.iaload, 1) := by decide +kernel
theorem dX6_record_33 : decode cX6_record 33 = .ok (.iastore, 1) := by decide +kernel
theorem dX6_record_34 : decode cX6_record 34 = .ok (.iinc 1 1, 3) := by decide +kernel
theorem dX6_record_37 : decode cX6_record 37 = .ok (.goto (-26), 3) := by decide +kernel
theorem dX6_record_40 : decode cX6_record 40 = .ok (.aload_n 0, 1) := by decide +kernel
theorem dX6_record_41 : decode cX6_record 41 = .ok (.dup, 1) := by decide +kernel
theorem dX6_record_42 : decode cX6_record 42 = .ok (.getfield 42, 3) := by decide +kernel
theorem dX6_record_45 : decode cX6_record 45 = .ok (.iconst 1, 1) := by decide +kernel
theorem dX6_record_46 : decode cX6_record 46 = .ok (.isub, 1) := by decide +kernel
theorem dX6_record_47 : decode cX6_record 47 = .ok (.putfield 42, 3) := by decide +kernel
theorem dX6_record_50 : decode cX6_record 50 = .ok (.iconst 0, 1) := by decide +kernel
theorem dX6_record_51 : decode cX6_record 51 = .ok (.istore_n 1, 1) := by decide +kernel
theorem dX6_record_52 : decode cX6_record 52 = .ok (.iload_n 1, 1) := by decide +kernel
theorem dX6_record_53 : decode cX6_record 53 = .ok (.sipush 1333, 3) := by decide +kernel
theorem dX6_record_56 : decode cX6_record 56 = .ok (.if_icmp .ge 30, 3) := by decide +kernel
theorem dX6_record_59 : decode cX6_record 59 = .ok (.aload_n 0, 1) := by decide +kernel
theorem dX6_record_60 : decode cX6_record 60 = .ok (.getfield 13, 3) := by decide +kernel
theorem dX6_record_63 : decode cX6_record 63 = .ok (.sipush 1333, 3) := by decide +kernel
theorem dX6_record_66 : decode cX6_record 66 = .ok (.aload_n 0, 1) := by decide +kernel
theorem dX6_record_67 : decode cX6_record 67 = .ok (.getfield 42, 3) := by decide +kernel
theorem dX6_record_70 : decode cX6_record 70 = .ok (.imul, 1) := by decide +kernel
theorem dX6_record_71 : decode cX6_record 71 = .ok (.iload_n 1, 1) := by decide +kernel
theorem dX6_record_72 : decode cX6_record 72 = .ok (.iadd, 1) := by decide +kernel
theorem dX6_record_73 : decode cX6_record 73 = .ok (.aload_n 0, 1) := by decide +kernel
theorem dX6_record_74 : decode cX6_record 74 = .ok (.getfield 7, 3) := by decide +kernel
theorem dX6_record_77 : decode cX6_record 77 = .ok (.iload_n 1, 1) := by decide +kernel
theorem dX6_record_78 : decode cX6_record 78 = .ok (.iaload, 1) := by decide +kernel
theorem dX6_record_79 : decode cX6_record 79 = .ok (.iastore, 1) := by decide +kernel
theorem dX6_record_80 : decode cX6_record 80 = .ok (.iinc 1 1, 3) := by decide +kernel
theorem dX6_record_83 : decode cX6_record 83 = .ok (.goto (-31), 3) := by decide +kernel
theorem dX6_record_86 : decode cX6_record 86 = .ok (.aload_n 0, 1) := by decide +kernel
theorem dX6_record_87 : decode cX6_record 87 = .ok (.dup, 1) := by decide +kernel
theorem dX6_record_88 : decode cX6_record 88 = .ok (.getfield 42, 3) := by decide +kernel
theorem dX6_record_91 : decode cX6_record 91 = .ok (.iconst 1, 1) := by decide +kernel
theorem dX6_record_92 : decode cX6_record 92 = .ok (.iadd, 1) := by decide +kernel
theorem dX6_record_93 : decode cX6_record 93 = .ok (.putfield 42, 3) := by decide +kernel
theorem dX6_record_96 : decode cX6_record 96 = .ok (.return_, 1) := by decide +kernel
theorem dX6_layAside_0 : decode cX6_layAside 0 = .ok (.iconst 0, 1) := by decide +kernel
theorem dX6_layAside_1 : decode cX6_layAside 1 = .ok (.istore_n 1, 1) := by decide +kernel
theorem dX6_layAside_2 : decode cX6_layAside 2 = .ok (.iload_n 1, 1) := by decide +kernel
theorem dX6_layAside_3 : decode cX6_layAside 3 = .ok (.sipush 1333, 3) := by decide +kernel
theorem dX6_layAside_6 : decode cX6_layAside 6 = .ok (.if_icmp .ge 21, 3) := by decide +kernel
theorem dX6_layAside_9 : decode cX6_layAside 9 = .ok (.aload_n 0, 1) := by decide +kernel
theorem dX6_layAside_10 : decode cX6_layAside 10 = .ok (.getfield 23, 3) := by decide +kernel
theorem dX6_layAside_13 : decode cX6_layAside 13 = .ok (.iload_n 1, 1) := by decide +kernel
theorem dX6_layAside_14 : decode cX6_layAside 14 = .ok (.aload_n 0, 1) := by decide +kernel
theorem dX6_layAside_15 : decode cX6_layAside 15 = .ok (.getfield 7, 3) := by decide +kernel
theorem dX6_layAside_18 : decode cX6_layAside 18 = .ok (.iload_n 1, 1) := by decide +kernel
theorem dX6_layAside_19 : decode cX6_layAside 19 = .ok (.iaload, 1) := by decide +kernel
theorem dX6_layAside_20 : decode cX6_layAside 20 = .ok (.iastore, 1) := by decide +kernel
theorem dX6_layAside_21 : decode cX6_layAside 21 = .ok (.iinc 1 1, 3) := by decide +kernel
theorem dX6_layAside_24 : decode cX6_layAside 24 = .ok (.goto (-22), 3) := by decide +kernel
theorem dX6_layAside_27 : decode cX6_layAside 27 = .ok (.return_, 1) := by decide +kernel
theorem dX6_bringBack_0 : decode cX6_bringBack 0 = .ok (.iconst 0, 1) := by decide +kernel
theorem dX6_bringBack_1 : decode cX6_bringBack 1 = .ok (.istore_n 1, 1) := by decide +kernel
theorem dX6_bringBack_2 : decode cX6_bringBack 2 = .ok (.iload_n 1, 1) := by decide +kernel
theorem dX6_bringBack_3 : decode cX6_bringBack 3 = .ok (.sipush 1333, 3) := by decide +kernel
theorem dX6_bringBack_6 : decode cX6_bringBack 6 = .ok (.if_icmp .ge 21, 3) := by decide +kernel
theorem dX6_bringBack_9 : decode cX6_bringBack 9 = .ok (.aload_n 0, 1) := by decide +kernel
theorem dX6_bringBack_10 : decode cX6_bringBack 10 = .ok (.getfield 7, 3) := by decide +kernel
theorem dX6_bringBack_13 : decode cX6_bringBack 13 = .ok (.iload_n 1, 1) := by decide +kernel
theorem dX6_bringBack_14 : decode cX6_bringBack 14 = .ok (.aload_n 0, 1) := by decide +kernel
theorem dX6_bringBack_15 : decode cX6_bringBack 15 = .ok (.getfield 23, 3) := by decide +kernel
theorem dX6_bringBack_18 : decode cX6_bringBack 18 = .ok (.iload_n 1, 1) := by decide +kernel
theorem dX6_bringBack_19 : decode cX6_bringBack 19 = .ok (.iaload, 1) := by decide +kernel
theorem dX6_bringBack_20 : decode cX6_bringBack 20 = .ok (.iastore, 1) := by decide +kernel
theorem dX6_bringBack_21 : decode cX6_bringBack 21 = .ok (.iinc 1 1, 3) := by decide +kernel
theorem dX6_bringBack_24 : decode cX6_bringBack 24 = .ok (.goto (-22), 3) := by decide +kernel
theorem dX6_bringBack_27 : decode cX6_bringBack 27 = .ok (.return_, 1) := by decide +kernel
theorem dX6_part_0 : decode cX6_part 0 = .ok (.iload_n 0, 1) := by decide +kernel
theorem dX6_part_1 : decode cX6_part 1 = .ok (.ifCond .ne 8, 3) := by decide +kernel
theorem dX6_part_4 : decode cX6_part 4 = .ok (.bipush 9, 2) := by decide +kernel
theorem dX6_part_6 : decode cX6_part 6 = .ok (.goto 13, 3) := by decide +kernel
theorem dX6_part_9 : decode cX6_part 9 = .ok (.iload_n 0, 1) := by decide +kernel
theorem dX6_part_10 : decode cX6_part 10 = .ok (.iconst 4, 1) := by decide +kernel
theorem dX6_part_11 : decode cX6_part 11 = .ok (.if_icmp .ge 7, 3) := by decide +kernel
theorem dX6_part_14 : decode cX6_part 14 = .ok (.iconst 3, 1) := by decide +kernel
theorem dX6_part_15 : decode cX6_part 15 = .ok (.goto 4, 3) := by decide +kernel
theorem dX6_part_18 : decode cX6_part 18 = .ok (.iconst 1, 1) := by decide +kernel
theorem dX6_part_19 : decode cX6_part 19 = .ok (.ireturn, 1) := by decide +kernel
theorem dX6_firstOf_0 : decode cX6_firstOf 0 = .ok (.iload_n 0, 1) := by decide +kernel
theorem dX6_firstOf_1 : decode cX6_firstOf 1 = .ok (.ifCond .ne 7, 3) := by decide +kernel
theorem dX6_firstOf_4 : decode cX6_firstOf 4 = .ok (.iconst 0, 1) := by decide +kernel
theorem dX6_firstOf_5 : decode cX6_firstOf 5 = .ok (.goto 22, 3) := by decide +kernel
theorem dX6_firstOf_8 : decode cX6_firstOf 8 = .ok (.iload_n 0, 1) := by decide +kernel
theorem dX6_firstOf_9 : decode cX6_firstOf 9 = .ok (.iconst 4, 1) := by decide +kernel
theorem dX6_firstOf_10 : decode cX6_firstOf 10 = .ok (.if_icmp .ge 12, 3) := by decide +kernel
theorem dX6_firstOf_13 : decode cX6_firstOf 13 = .ok (.bipush 9, 2) := by decide +kernel
theorem dX6_firstOf_15 : decode cX6_firstOf 15 = .ok (.iload_n 0, 1) := by decide +kernel
theorem dX6_firstOf_16 : decode cX6_firstOf 16 = .ok (.iconst 1, 1) := by decide +kernel
theorem dX6_firstOf_17 : decode cX6_firstOf 17 = .ok (.isub, 1) := by decide +kernel
theorem dX6_firstOf_18 : decode cX6_firstOf 18 = .ok (.imul, 1) := by decide +kernel
theorem dX6_firstOf_19 : decode cX6_firstOf 19 = .ok (.goto 8, 3) := by decide +kernel
theorem dX6_firstOf_22 : decode cX6_firstOf 22 = .ok (.iconst 3, 1) := by decide +kernel
theorem dX6_firstOf_23 : decode cX6_firstOf 23 = .ok (.iload_n 0, 1) := by decide +kernel
theorem dX6_firstOf_24 : decode cX6_firstOf 24 = .ok (.iconst 4, 1) := by decide +kernel
theorem dX6_firstOf_25 : decode cX6_firstOf 25 = .ok (.isub, 1) := by decide +kernel
theorem dX6_firstOf_26 : decode cX6_firstOf 26 = .ok (.imul, 1) := by decide +kernel
theorem dX6_firstOf_27 : decode cX6_firstOf 27 = .ok (.ireturn, 1) := by decide +kernel
theorem dX6_childOf_0 : decode cX6_childOf 0 = .ok (.iload_n 0, 1) := by decide +kernel
theorem dX6_childOf_1 : decode cX6_childOf 1 = .ok (.ifCond .ne 9, 3) := by decide +kernel
theorem dX6_childOf_4 : decode cX6_childOf 4 = .ok (.iconst 1, 1) := by decide +kernel
theorem dX6_childOf_5 : decode cX6_childOf 5 = .ok (.iload_n 1, 1) := by decide +kernel
theorem dX6_childOf_6 : decode cX6_childOf 6 = .ok (.iadd, 1) := by decide +kernel
theorem dX6_childOf_7 : decode cX6_childOf 7 = .ok (.goto 25, 3) := by decide +kernel
theorem dX6_childOf_10 : decode cX6_childOf 10 = .ok (.iload_n 0, 1) := by decide +kernel
theorem dX6_childOf_11 : decode cX6_childOf 11 = .ok (.iconst 4, 1) := by decide +kernel
theorem dX6_childOf_12 : decode cX6_childOf 12 = .ok (.if_icmp .ge 13, 3) := by decide +kernel
theorem dX6_childOf_15 : decode cX6_childOf 15 = .ok (.iconst 1, 1) := by decide +kernel
theorem dX6_childOf_16 : decode cX6_childOf 16 = .ok (.iconst 3, 1) := by decide +kernel
theorem dX6_childOf_17 : decode cX6_childOf 17 = .ok (.iload_n 0, 1) := by decide +kernel
theorem dX6_childOf_18 : decode cX6_childOf 18 = .ok (.imul, 1) := by decide +kernel
theorem dX6_childOf_19 : decode cX6_childOf 19 = .ok (.iadd, 1) := by decide +kernel
theorem dX6_childOf_20 : decode cX6_childOf 20 = .ok (.iload_n 1, 1) := by decide +kernel
theorem dX6_childOf_21 : decode cX6_childOf 21 = .ok (.iadd, 1) := by decide +kernel
theorem dX6_childOf_22 : decode cX6_childOf 22 = .ok (.goto 10, 3) := by decide +kernel
theorem dX6_childOf_25 : decode cX6_childOf 25 = .ok (.iconst 3, 1) := by decide +kernel
theorem dX6_childOf_26 : decode cX6_childOf 26 = .ok (.iload_n 0, 1) := by decide +kernel
theorem dX6_childOf_27 : decode cX6_childOf 27 = .ok (.iconst 4, 1) := by decide +kernel
theorem dX6_childOf_28 : decode cX6_childOf 28 = .ok (.isub, 1) := by decide +kernel
theorem dX6_childOf_29 : decode cX6_childOf 29 = .ok (.imul, 1) := by decide +kernel
theorem dX6_childOf_30 : decode cX6_childOf 30 = .ok (.iload_n 1, 1) := by decide +kernel
theorem dX6_childOf_31 : decode cX6_childOf 31 = .ok (.iadd, 1) := by decide +kernel
theorem dX6_childOf_32 : decode cX6_childOf 32 = .ok (.ireturn, 1) := by decide +kernel
theorem dX6_place_0 : decode cX6_place 0 = .ok (.bipush 85, 2) := by decide +kernel
theorem dX6_place_2 : decode cX6_place 2 = .ok (.bipush 96, 2) := by decide +kernel
theorem dX6_place_4 : decode cX6_place 4 = .ok (.iload_n 0, 1) := by decide +kernel
theorem dX6_place_5 : decode cX6_place 5 = .ok (.imul, 1) := by decide +kernel
theorem dX6_place_6 : decode cX6_place 6 = .ok (.iadd, 1) := by decide +kernel
theorem dX6_place_7 : decode cX6_place 7 = .ok (.iconst 4, 1) := by decide +kernel
theorem dX6_place_8 : decode cX6_place 8 = .ok (.iload_n 1, 1) := by decide +kernel
theorem dX6_place_9 : decode cX6_place 9 = .ok (.imul, 1) := by decide +kernel
theorem dX6_place_10 : decode cX6_place 10 = .ok (.iadd, 1) := by decide +kernel
theorem dX6_place_11 : decode cX6_place 11 = .ok (.ireturn, 1) := by decide +kernel
theorem dX6_has_0 : decode cX6_has 0 = .ok (.aload_n 0, 1) := by decide +kernel
theorem dX6_has_1 : decode cX6_has 1 = .ok (.getfield 7, 3) := by decide +kernel
theorem dX6_has_4 : decode cX6_has 4 = .ok (.iload_n 1, 1) := by decide +kernel
theorem dX6_has_5 : decode cX6_has 5 = .ok (.iconst 1, 1) := by decide +kernel
theorem dX6_has_6 : decode cX6_has 6 = .ok (.iadd, 1) := by decide +kernel
theorem dX6_has_7 : decode cX6_has 7 = .ok (.iaload, 1) := by decide +kernel
theorem dX6_has_8 : decode cX6_has 8 = .ok (.iload_n 3, 1) := by decide +kernel
theorem dX6_has_9 : decode cX6_has 9 = .ok (.if_icmp .gt 19, 3) := by decide +kernel
theorem dX6_has_12 : decode cX6_has 12 = .ok (.aload_n 0, 1) := by decide +kernel
theorem dX6_has_13 : decode cX6_has 13 = .ok (.getfield 7, 3) := by decide +kernel
theorem dX6_has_16 : decode cX6_has 16 = .ok (.iload_n 1, 1) := by decide +kernel
theorem dX6_has_17 : decode cX6_has 17 = .ok (.iconst 2, 1) := by decide +kernel
theorem dX6_has_18 : decode cX6_has 18 = .ok (.iadd, 1) := by decide +kernel
theorem dX6_has_19 : decode cX6_has 19 = .ok (.iaload, 1) := by decide +kernel
theorem dX6_has_20 : decode cX6_has 20 = .ok (.iload_n 2, 1) := by decide +kernel
theorem dX6_has_21 : decode cX6_has 21 = .ok (.if_icmp .lt 7, 3) := by decide +kernel
theorem dX6_has_24 : decode cX6_has 24 = .ok (.iconst 1, 1) := by decide +kernel
theorem dX6_has_25 : decode cX6_has 25 = .ok (.goto 4, 3) := by decide +kernel
theorem dX6_has_28 : decode cX6_has 28 = .ok (.iconst 0, 1) := by decide +kernel
theorem dX6_has_29 : decode cX6_has 29 = .ok (.ireturn, 1) := by decide +kernel
set_option maxRecDepth 20000 in
theorem ggX6_stonesOf_X6_firstOf : GoodIn wsX6_stonesOf wsX6_firstOf := goodIn_r _ [5] (by decide +kernel) (by decide +kernel)
set_option maxRecDepth 20000 in
theorem gX6_stonesOf_X6_firstOf : GoodIn wsX6_stonesOf (va_wsS RX6 46 yX6_firstOf wsX6_firstOf) := goodIn_app (goodIn_of _ (by decide +kernel)) ggX6_stonesOf_X6_firstOf
set_option maxRecDepth 20000 in
theorem ggX6_stonesOf_X6_part : GoodIn wsX6_stonesOf wsX6_part := goodIn_r _ [8] (by decide +kernel) (by decide +kernel)
set_option maxRecDepth 20000 in
theorem gX6_stonesOf_X6_part : GoodIn wsX6_stonesOf (va_wsS RX6 50 yX6_part wsX6_part) := goodIn_app (goodIn_of _ (by decide +kernel)) ggX6_stonesOf_X6_part
set_option maxRecDepth 20000 in
theorem ggX6_stonesOf_X6_place : GoodIn wsX6_stonesOf wsX6_place := goodIn_r _ [11] (by decide +kernel) (by decide +kernel)
set_option maxRecDepth 20000 in
theorem gX6_stonesOf_X6_place : GoodIn wsX6_stonesOf (va_wsS RX6 53 yX6_place wsX6_place) := goodIn_app (goodIn_of _ (by decide +kernel)) ggX6_stonesOf_X6_place
set_option maxRecDepth 20000 in
theorem ggX6_stonesOf_X6_has : GoodIn wsX6_stonesOf wsX6_has := goodIn_r _ [15, 1, 16, 17, 18, 19, 20, 21, 22, 23, 24, 25, 26, 27, 28, 29, 30] (by decide +kernel) (by decide +kernel)
set_option maxRecDepth 20000 in
theorem gX6_stonesOf_X6_has : GoodIn wsX6_stonesOf (wsV RX6 57 RX6 yX6_has wsX6_has) := goodIn_app (goodIn_of _ (by decide +kernel)) ggX6_stonesOf_X6_has
theorem dX6_stonesOf_0 : decode cX6_stonesOf 0 = .ok (.iload_n 1, 1) := by decide +kernel
theorem dX6_stonesOf_1 : decode cX6_stonesOf 1 = .ok (.invokestatic 46, 3) := by decide +kernel
theorem dX6_stonesOf_4 : decode cX6_stonesOf 4 = .ok (.iload_n 1, 1) := by decide +kernel
theorem dX6_stonesOf_5 : decode cX6_stonesOf 5 = .ok (.invokestatic 50, 3) := by decide +kernel
theorem dX6_stonesOf_8 : decode cX6_stonesOf 8 = .ok (.iload_n 2, 1) := by decide +kernel
theorem dX6_stonesOf_9 : decode cX6_stonesOf 9 = .ok (.imul, 1) := by decide +kernel
theorem dX6_stonesOf_10 : decode cX6_stonesOf 10 = .ok (.iadd, 1) := by decide +kernel
theorem dX6_stonesOf_11 : decode cX6_stonesOf 11 = .ok (.istore_n 3, 1) := by decide +kernel
theorem dX6_stonesOf_12 : decode cX6_stonesOf 12 = .ok (.iconst 0, 1) := by decide +kernel
theorem dX6_stonesOf_13 : decode cX6_stonesOf 13 = .ok (.istore 4, 2) := by decide +kernel
theorem dX6_stonesOf_15 : decode cX6_stonesOf 15 = .ok (.iconst 0, 1) := by decide +kernel
theorem dX6_stonesOf_16 : decode cX6_stonesOf 16 = .ok (.istore 5, 2) := by decide +kernel
theorem dX6_stonesOf_18 : decode cX6_stonesOf 18 = .ok (.iload 5, 2) := by decide +kernel
theorem dX6_stonesOf_20 : decode cX6_stonesOf 20 = .ok (.aload_n 0, 1) := by decide +kernel
theorem dX6_stonesOf_21 : decode cX6_stonesOf 21 = .ok (.getfield 7, 3) := by decide +kernel
theorem dX6_stonesOf_24 : decode cX6_stonesOf 24 = .ok (.bipush 72, 2) := by decide +kernel
theorem dX6_stonesOf_26 : decode cX6_stonesOf 26 = .ok (.iload_n 1, 1) := by decide +kernel
theorem dX6_stonesOf_27 : decode cX6_stonesOf 27 = .ok (.iadd, 1) := by decide +kernel
theorem dX6_stonesOf_28 : decode cX6_stonesOf 28 = .ok (.iaload, 1) := by decide +kernel
theorem dX6_stonesOf_29 : decode cX6_stonesOf 29 = .ok (.if_icmp .ge 41, 3) := by decide +kernel
theorem dX6_stonesOf_32 : decode cX6_stonesOf 32 = .ok (.iload 4, 2) := by decide +kernel
theorem dX6_stonesOf_34 : decode cX6_stonesOf 34 = .ok (.aload_n 0, 1) := by decide +kernel
theorem dX6_stonesOf_35 : decode cX6_stonesOf 35 = .ok (.iload_n 1, 1) := by decide +kernel
theorem dX6_stonesOf_36 : decode cX6_stonesOf 36 = .ok (.iload 5, 2) := by decide +kernel
theorem dX6_stonesOf_38 : decode cX6_stonesOf 38 = .ok (.invokestatic 53, 3) := by decide +kernel
theorem dX6_stonesOf_41 : decode cX6_stonesOf 41 = .ok (.iload_n 3, 1) := by decide +kernel
theorem dX6_stonesOf_42 : decode cX6_stonesOf 42 = .ok (.iload_n 3, 1) := by decide +kernel
theorem dX6_stonesOf_43 : decode cX6_stonesOf 43 = .ok (.iload_n 1, 1) := by decide +kernel
theorem dX6_stonesOf_44 : decode cX6_stonesOf 44 = .ok (.invokestatic 50, 3) := by decide +kernel
theorem dX6_stonesOf_47 : decode cX6_stonesOf 47 = .ok (.iadd, 1) := by decide +kernel
theorem dX6_stonesOf_48 : decode cX6_stonesOf 48 = .ok (.iconst 1, 1) := by decide +kernel
theorem dX6_stonesOf_49 : decode cX6_stonesOf 49 = .ok (.isub, 1) := by decide +kernel
theorem dX6_stonesOf_50 : decode cX6_stonesOf 50 = .ok (.invokevirtual 57, 3) := by decide +kernel
theorem dX6_stonesOf_53 : decode cX6_stonesOf 53 = .ok (.ifCond .eq 7, 3) := by decide +kernel
theorem dX6_stonesOf_56 : decode cX6_stonesOf 56 = .ok (.iconst 1, 1) := by decide +kernel
theorem dX6_stonesOf_57 : decode cX6_stonesOf 57 = .ok (.goto 4, 3) := by decide +kernel
theorem dX6_stonesOf_60 : decode cX6_stonesOf 60 = .ok (.iconst 0, 1) := by decide +kernel
theorem dX6_stonesOf_61 : decode cX6_stonesOf 61 = .ok (.iadd, 1) := by decide +kernel
theorem dX6_stonesOf_62 : decode cX6_stonesOf 62 = .ok (.istore 4, 2) := by decide +kernel
theorem dX6_stonesOf_64 : decode cX6_stonesOf 64 = .ok (.iinc 5 1, 3) := by decide +kernel
theorem dX6_stonesOf_67 : decode cX6_stonesOf 67 = .ok (.goto (-49), 3) := by decide +kernel
theorem dX6_stonesOf_70 : decode cX6_stonesOf 70 = .ok (.iload 4, 2) := by decide +kernel
theorem dX6_stonesOf_72 : decode cX6_stonesOf 72 = .ok (.ireturn, 1) := by decide +kernel
set_option maxRecDepth 20000 in
theorem ggX6_chosen_X6_stonesOf : GoodIn wsX6_chosen wsX6_stonesOf := goodIn_r _ [5, 6, 7, 8, 4, 9, 10, 11, 12, 13, 14, 15, 16, 17, 18, 19, 20, 21, 22, 23, 24, 25, 26, 27, 28, 29, 30, 31, 32, 33, 34] (by decide +kernel) (by decide +kernel)
set_option maxRecDepth 20000 in
theorem gX6_chosen_X6_stonesOf : GoodIn wsX6_chosen (wsV RX6 60 RX6 yX6_stonesOf wsX6_stonesOf) := goodIn_app (goodIn_of _ (by decide +kernel)) ggX6_chosen_X6_stonesOf
theorem dX6_chosen_0 : decode cX6_chosen 0 = .ok (.iconst 0, 1) := by decide +kernel
theorem dX6_chosen_1 : decode cX6_chosen 1 = .ok (.istore_n 2, 1) := by decide +kernel
theorem dX6_chosen_2 : decode cX6_chosen 2 = .ok (.iconst 1, 1) := by decide +kernel
theorem dX6_chosen_3 : decode cX6_chosen 3 = .ok (.istore_n 3, 1) := by decide +kernel
theorem dX6_chosen_4 : decode cX6_chosen 4 = .ok (.iload_n 3, 1) := by decide +kernel
theorem dX6_chosen_5 : decode cX6_chosen 5 = .ok (.iconst 3, 1) := by decide +kernel
theorem dX6_chosen_6 : decode cX6_chosen 6 = .ok (.if_icmp .ge 30, 3) := by decide +kernel
theorem dX6_chosen_9 : decode cX6_chosen 9 = .ok (.aload_n 0, 1) := by decide +kernel
theorem dX6_chosen_10 : decode cX6_chosen 10 = .ok (.iload_n 1, 1) := by decide +kernel
theorem dX6_chosen_11 : decode cX6_chosen 11 = .ok (.iload_n 3, 1) := by decide +kernel
theorem dX6_chosen_12 : decode cX6_chosen 12 = .ok (.invokevirtual 60, 3) := by decide +kernel
theorem dX6_chosen_15 : decode cX6_chosen 15 = .ok (.aload_n 0, 1) := by decide +kernel
theorem dX6_chosen_16 : decode cX6_chosen 16 = .ok (.iload_n 1, 1) := by decide +kernel
theorem dX6_chosen_17 : decode cX6_chosen 17 = .ok (.iload_n 2, 1) := by decide +kernel
theorem dX6_chosen_18 : decode cX6_chosen 18 = .ok (.invokevirtual 60, 3) := by decide +kernel
theorem dX6_chosen_21 : decode cX6_chosen 21 = .ok (.if_icmp .le 7, 3) := by decide +kernel
theorem dX6_chosen_24 : decode cX6_chosen 24 = .ok (.iload_n 3, 1) := by decide +kernel
theorem dX6_chosen_25 : decode cX6_chosen 25 = .ok (.goto 4, 3) := by decide +kernel
theorem dX6_chosen_28 : decode cX6_chosen 28 = .ok (.iload_n 2, 1) := by decide +kernel
theorem dX6_chosen_29 : decode cX6_chosen 29 = .ok (.istore_n 2, 1) := by decide +kernel
theorem dX6_chosen_30 : decode cX6_chosen 30 = .ok (.iinc 3 1, 3) := by decide +kernel
theorem dX6_chosen_33 : decode cX6_chosen 33 = .ok (.goto (-29), 3) := by decide +kernel
theorem dX6_chosen_36 : decode cX6_chosen 36 = .ok (.iload_n 2, 1) := by decide +kernel
theorem dX6_chosen_37 : decode cX6_chosen 37 = .ok (.ireturn, 1) := by decide +kernel
theorem dX6_allStones_0 : decode cX6_allStones 0 = .ok (.iconst 0, 1) := by decide +kernel
theorem dX6_allStones_1 : decode cX6_allStones 1 = .ok (.istore_n 1, 1) := by decide +kernel
theorem dX6_allStones_2 : decode cX6_allStones 2 = .ok (.iconst 0, 1) := by decide +kernel
theorem dX6_allStones_3 : decode cX6_allStones 3 = .ok (.istore_n 2, 1) := by decide +kernel
theorem dX6_allStones_4 : decode cX6_allStones 4 = .ok (.iload_n 2, 1) := by decide +kernel
theorem dX6_allStones_5 : decode cX6_allStones 5 = .ok (.bipush 13, 2) := by decide +kernel
theorem dX6_allStones_7 : decode cX6_allStones 7 = .ok (.if_icmp .ge 21, 3) := by decide +kernel
theorem dX6_allStones_10 : decode cX6_allStones 10 = .ok (.iload_n 1, 1) := by decide +kernel
theorem dX6_allStones_11 : decode cX6_allStones 11 = .ok (.aload_n 0, 1) := by decide +kernel
theorem dX6_allStones_12 : decode cX6_allStones 12 = .ok (.getfield 7, 3) := by decide +kernel
theorem dX6_allStones_15 : decode cX6_allStones 15 = .ok (.bipush 72, 2) := by decide +kernel
theorem dX6_allStones_17 : decode cX6_allStones 17 = .ok (.iload_n 2, 1) := by decide +kernel
theorem dX6_allStones_18 : decode cX6_allStones 18 = .ok (.iadd, 1) := by decide +kernel
theorem dX6_allStones_19 : decode cX6_allStones 19 = .ok (.iaload, 1) := by decide +kernel
theorem dX6_allStones_20 : decode cX6_allStones 20 = .ok (.iadd, 1) := by decide +kernel
theorem dX6_allStones_21 : decode cX6_allStones 21 = .ok (.istore_n 1, 1) := by decide +kernel
theorem dX6_allStones_22 : decode cX6_allStones 22 = .ok (.iinc 2 1, 3) := by decide +kernel
theorem dX6_allStones_25 : decode cX6_allStones 25 = .ok (.goto (-21), 3) := by decide +kernel
theorem dX6_allStones_28 : decode cX6_allStones 28 = .ok (.iload_n 1, 1) := by decide +kernel
theorem dX6_allStones_29 : decode cX6_allStones 29 = .ok (.ireturn, 1) := by decide +kernel
set_option maxRecDepth 20000 in
theorem ggX6_takeOut_X6_place : GoodIn wsX6_takeOut wsX6_place := goodIn_r _ [5] (by decide +kernel) (by decide +kernel)
set_option maxRecDepth 20000 in
theorem gX6_takeOut_X6_place : GoodIn wsX6_takeOut (va_wsS RX6 53 yX6_place wsX6_place) := goodIn_app (goodIn_of _ (by decide +kernel)) ggX6_takeOut_X6_place
theorem dX6_takeOut_0 : decode cX6_takeOut 0 = .ok (.aload_n 0, 1) := by decide +kernel
theorem dX6_takeOut_1 : decode cX6_takeOut 1 = .ok (.getfield 7, 3) := by decide +kernel
theorem dX6_takeOut_4 : decode cX6_takeOut 4 = .ok (.bipush 72, 2) := by decide +kernel
theorem dX6_takeOut_6 : decode cX6_takeOut 6 = .ok (.iload_n 1, 1) := by decide +kernel
theorem dX6_takeOut_7 : decode cX6_takeOut 7 = .ok (.iadd, 1) := by decide +kernel
theorem dX6_takeOut_8 : decode cX6_takeOut 8 = .ok (.dup2, 1) := by decide +kernel
theorem dX6_takeOut_9 : decode cX6_takeOut 9 = .ok (.iaload, 1) := by decide +kernel
theorem dX6_takeOut_10 : decode cX6_takeOut 10 = .ok (.iconst 1, 1) := by decide +kernel
theorem dX6_takeOut_11 : decode cX6_takeOut 11 = .ok (.isub, 1) := by decide +kernel
theorem dX6_takeOut_12 : decode cX6_takeOut 12 = .ok (.iastore, 1) := by decide +kernel
theorem dX6_takeOut_13 : decode cX6_takeOut 13 = .ok (.iload_n 1, 1) := by decide +kernel
theorem dX6_takeOut_14 : decode cX6_takeOut 14 = .ok (.iload_n 2, 1) := by decide +kernel
theorem dX6_takeOut_15 : decode cX6_takeOut 15 = .ok (.invokestatic 53, 3) := by decide +kernel
theorem dX6_takeOut_18 : decode cX6_takeOut 18 = .ok (.istore_n 3, 1) := by decide +kernel
theorem dX6_takeOut_19 : decode cX6_takeOut 19 = .ok (.iload_n 3, 1) := by decide +kernel
theorem dX6_takeOut_20 : decode cX6_takeOut 20 = .ok (.iload_n 1, 1) := by decide +kernel
theorem dX6_takeOut_21 : decode cX6_takeOut 21 = .ok (.aload_n 0, 1) := by decide +kernel
theorem dX6_takeOut_22 : decode cX6_takeOut 22 = .ok (.getfield 7, 3) := by decide +kernel
theorem dX6_takeOut_25 : decode cX6_takeOut 25 = .ok (.bipush 72, 2) := by decide +kernel
theorem dX6_takeOut_27 : decode cX6_takeOut 27 = .ok (.iload_n 1, 1) := by decide +kernel
theorem dX6_takeOut_28 : decode cX6_takeOut 28 = .ok (.iadd, 1) := by decide +kernel
theorem dX6_takeOut_29 : decode cX6_takeOut 29 = .ok (.iaload, 1) := by decide +kernel
theorem dX6_takeOut_30 : decode cX6_takeOut 30 = .ok (.invokestatic 53, 3) := by decide +kernel
theorem dX6_takeOut_33 : decode cX6_takeOut 33 = .ok (.if_icmp .ge 23, 3) := by decide +kernel
theorem dX6_takeOut_36 : decode cX6_takeOut 36 = .ok (.aload_n 0, 1) := by decide +kernel
theorem dX6_takeOut_37 : decode cX6_takeOut 37 = .ok (.getfield 7, 3) := by decide +kernel
theorem dX6_takeOut_40 : decode cX6_takeOut 40 = .ok (.iload_n 3, 1) := by decide +kernel
theorem dX6_takeOut_41 : decode cX6_takeOut 41 = .ok (.aload_n 0, 1) := by decide +kernel
theorem dX6_takeOut_42 : decode cX6_takeOut 42 = .ok (.getfield 7, 3) := by decide +kernel
theorem dX6_takeOut_45 : decode cX6_takeOut 45 = .ok (.iload_n 3, 1) := by decide +kernel
theorem dX6_takeOut_46 : decode cX6_takeOut 46 = .ok (.iconst 4, 1) := by decide +kernel
theorem dX6_takeOut_47 : decode cX6_takeOut 47 = .ok (.iadd, 1) := by decide +kernel
theorem dX6_takeOut_48 : decode cX6_takeOut 48 = .ok (.iaload, 1) := by decide +kernel
theorem dX6_takeOut_49 : decode cX6_takeOut 49 = .ok (.iastore, 1) := by decide +kernel
theorem dX6_takeOut_50 : decode cX6_takeOut 50 = .ok (.iinc 3 1, 3) := by decide +kernel
theorem dX6_takeOut_53 : decode cX6_takeOut 53 = .ok (.goto (-34), 3) := by decide +kernel
theorem dX6_takeOut_56 : decode cX6_takeOut 56 = .ok (.return_, 1) := by decide +kernel
set_option maxRecDepth 20000 in
theorem ggX6_lastWith_X6_place : GoodIn wsX6_lastWith wsX6_place := goodIn_r _ [5] (by decide +kernel) (by decide +kernel)
set_option maxRecDepth 20000 in
theorem gX6_lastWith_X6_place : GoodIn wsX6_lastWith (va_wsS RX6 53 yX6_place wsX6_place) := goodIn_app (goodIn_of _ (by decide +kernel)) ggX6_lastWith_X6_place
set_option maxRecDepth 20000 in
theorem ggX6_lastWith_X6_has : GoodIn wsX6_lastWith wsX6_has := goodIn_r _ [9, 1, 10, 11, 12, 13, 14, 15, 16, 17, 18, 19, 20, 21, 22, 23, 24] (by decide +kernel) (by decide +kernel)
set_option maxRecDepth 20000 in
theorem gX6_lastWith_X6_has : GoodIn wsX6_lastWith (wsV RX6 57 RX6 yX6_has wsX6_has) := goodIn_app (goodIn_of _ (by decide +kernel)) ggX6_lastWith_X6_has
theorem dX6_lastWith_0 : decode cX6_lastWith 0 = .ok (.aload_n 0, 1) := by decide +kernel
theorem dX6_lastWith_1 : decode cX6_lastWith 1 = .ok (.getfield 7, 3) := by decide +kernel
theorem dX6_lastWith_4 : decode cX6_lastWith 4 = .ok (.bipush 72, 2) := by decide +kernel
theorem dX6_lastWith_6 : decode cX6_lastWith 6 = .ok (.iload_n 1, 1) := by decide +kernel
theorem dX6_lastWith_7 : decode cX6_lastWith 7 = .ok (.iadd, 1) := by decide +kernel
theorem dX6_lastWith_8 : decode cX6_lastWith 8 = .ok (.iaload, 1) := by decide +kernel
theorem dX6_lastWith_9 : decode cX6_lastWith 9 = .ok (.iconst 2, 1) := by decide +kernel
theorem dX6_lastWith_10 : decode cX6_lastWith 10 = .ok (.isub, 1) := by decide +kernel
theorem dX6_lastWith_11 : decode cX6_lastWith 11 = .ok (.istore_n 3, 1) := by decide +kernel
theorem dX6_lastWith_12 : decode cX6_lastWith 12 = .ok (.iload_n 3, 1) := by decide +kernel
theorem dX6_lastWith_13 : decode cX6_lastWith 13 = .ok (.ifCond .lt 23, 3) := by decide +kernel
theorem dX6_lastWith_16 : decode cX6_lastWith 16 = .ok (.aload_n 0, 1) := by decide +kernel
theorem dX6_lastWith_17 : decode cX6_lastWith 17 = .ok (.iload_n 1, 1) := by decide +kernel
theorem dX6_lastWith_18 : decode cX6_lastWith 18 = .ok (.iload_n 3, 1) := by decide +kernel
theorem dX6_lastWith_19 : decode cX6_lastWith 19 = .ok (.invokestatic 53, 3) := by decide +kernel
theorem dX6_lastWith_22 : decode cX6_lastWith 22 = .ok (.iload_n 2, 1) := by decide +kernel
theorem dX6_lastWith_23 : decode cX6_lastWith 23 = .ok (.iload_n 2, 1) := by decide +kernel
theorem dX6_lastWith_24 : decode cX6_lastWith 24 = .ok (.invokevirtual 57, 3) := by decide +kernel
theorem dX6_lastWith_27 : decode cX6_lastWith 27 = .ok (.ifCond .ne 9, 3) := by decide +kernel
theorem dX6_lastWith_30 : decode cX6_lastWith 30 = .ok (.iinc 3 (-1), 3) := by decide +kernel
theorem dX6_lastWith_33 : decode cX6_lastWith 33 = .ok (.goto (-21), 3) := by decide +kernel
theorem dX6_lastWith_36 : decode cX6_lastWith 36 = .ok (.iload_n 3, 1) := by decide +kernel
theorem dX6_lastWith_37 : decode cX6_lastWith 37 = .ok (.ireturn, 1) := by decide +kernel
set_option maxRecDepth 20000 in
theorem ggX6_joins_X6_place : GoodIn wsX6_joins wsX6_place := goodIn_r _ [5] (by decide +kernel) (by decide +kernel)
set_option maxRecDepth 20000 in
theorem gX6_joins_X6_place : GoodIn wsX6_joins (va_wsS RX6 53 yX6_place wsX6_place) := goodIn_app (goodIn_of _ (by decide +kernel)) ggX6_joins_X6_place
set_option maxRecDepth 20000 in
theorem ggX6_joins_X6_lastWith : GoodIn wsX6_joins wsX6_lastWith := goodIn_r _ [9, 1, 2, 3, 4, 5, 10, 11, 12, 13, 18, 19, 20, 21, 22, 23, 24, 25, 26, 27, 28, 29, 30, 31, 32] (by decide +kernel) (by decide +kernel)
set_option maxRecDepth 20000 in
theorem gX6_joins_X6_lastWith : GoodIn wsX6_joins (wsV RX6 63 RX6 yX6_lastWith wsX6_lastWith) := goodIn_app (goodIn_of _ (by decide +kernel)) ggX6_joins_X6_lastWith
set_option maxRecDepth 20000 in
theorem ggX6_joins_X6_takeOut : GoodIn wsX6_joins wsX6_takeOut := goodIn_r _ [17, 1, 2, 3, 4, 5, 18, 19, 20, 21, 22, 23, 24, 25, 26, 27, 28, 29, 30, 31, 32] (by decide +kernel) (by decide +kernel)
set_option maxRecDepth 20000 in
theorem gX6_joins_X6_takeOut : GoodIn wsX6_joins (wsV RX6 66 RX6 yX6_takeOut wsX6_takeOut) := goodIn_app (goodIn_of _ (by decide +kernel)) ggX6_joins_X6_takeOut
theorem dX6_joins_0 : decode cX6_joins 0 = .ok (.iload_n 1, 1) := by decide +kernel
theorem dX6_joins_1 : decode cX6_joins 1 = .ok (.aload_n 0, 1) := by decide +kernel
theorem dX6_joins_2 : decode cX6_joins 2 = .ok (.getfield 7, 3) := by decide +kernel
theorem dX6_joins_5 : decode cX6_joins 5 = .ok (.bipush 72, 2) := by decide +kernel
theorem dX6_joins_7 : decode cX6_joins 7 = .ok (.iload_n 1, 1) := by decide +kernel
theorem dX6_joins_8 : decode cX6_joins 8 = .ok (.iadd, 1) := by decide +kernel
theorem dX6_joins_9 : decode cX6_joins 9 = .ok (.iaload, 1) := by decide +kernel
theorem dX6_joins_10 : decode cX6_joins 10 = .ok (.iconst 1, 1) := by decide +kernel
theorem dX6_joins_11 : decode cX6_joins 11 = .ok (.isub, 1) := by decide +kernel
theorem dX6_joins_12 : decode cX6_joins 12 = .ok (.invokestatic 53, 3) := by decide +kernel
theorem dX6_joins_15 : decode cX6_joins 15 = .ok (.istore_n 2, 1) := by decide +kernel
theorem dX6_joins_16 : decode cX6_joins 16 = .ok (.aload_n 0, 1) := by decide +kernel
theorem dX6_joins_17 : decode cX6_joins 17 = .ok (.iload_n 1, 1) := by decide +kernel
theorem dX6_joins_18 : decode cX6_joins 18 = .ok (.aload_n 0, 1) := by decide +kernel
theorem dX6_joins_19 : decode cX6_joins 19 = .ok (.getfield 7, 3) := by decide +kernel
theorem dX6_joins_22 : decode cX6_joins 22 = .ok (.iload_n 2, 1) := by decide +kernel
theorem dX6_joins_23 : decode cX6_joins 23 = .ok (.iconst 1, 1) := by decide +kernel
theorem dX6_joins_24 : decode cX6_joins 24 = .ok (.iadd, 1) := by decide +kernel
theorem dX6_joins_25 : decode cX6_joins 25 = .ok (.iaload, 1) := by decide +kernel
theorem dX6_joins_26 : decode cX6_joins 26 = .ok (.invokevirtual 63, 3) := by decide +kernel
theorem dX6_joins_29 : decode cX6_joins 29 = .ok (.istore_n 3, 1) := by decide +kernel
theorem dX6_joins_30 : decode cX6_joins 30 = .ok (.iload_n 3, 1) := by decide +kernel
theorem dX6_joins_31 : decode cX6_joins 31 = .ok (.ifCond .lt 30, 3) := by decide +kernel
theorem dX6_joins_34 : decode cX6_joins 34 = .ok (.aload_n 0, 1) := by decide +kernel
theorem dX6_joins_35 : decode cX6_joins 35 = .ok (.getfield 7, 3) := by decide +kernel
theorem dX6_joins_38 : decode cX6_joins 38 = .ok (.iload_n 1, 1) := by decide +kernel
theorem dX6_joins_39 : decode cX6_joins 39 = .ok (.iload_n 3, 1) := by decide +kernel
theorem dX6_joins_40 : decode cX6_joins 40 = .ok (.invokestatic 53, 3) := by decide +kernel
theorem dX6_joins_43 : decode cX6_joins 43 = .ok (.iconst 1, 1) := by decide +kernel
theorem dX6_joins_44 : decode cX6_joins 44 = .ok (.iadd, 1) := by decide +kernel
theorem dX6_joins_45 : decode cX6_joins 45 = .ok (.iaload, 1) := by decide +kernel
theorem dX6_joins_46 : decode cX6_joins 46 = .ok (.aload_n 0, 1) := by decide +kernel
theorem dX6_joins_47 : decode cX6_joins 47 = .ok (.getfield 7, 3) := by decide +kernel
theorem dX6_joins_50 : decode cX6_joins 50 = .ok (.iload_n 1, 1) := by decide +kernel
theorem dX6_joins_51 : decode cX6_joins 51 = .ok (.iload_n 3, 1) := by decide +kernel
theorem dX6_joins_52 : decode cX6_joins 52 = .ok (.invokestatic 53, 3) := by decide +kernel
theorem dX6_joins_55 : decode cX6_joins 55 = .ok (.iconst 2, 1) := by decide +kernel
theorem dX6_joins_56 : decode cX6_joins 56 = .ok (.iadd, 1) := by decide +kernel
theorem dX6_joins_57 : decode cX6_joins 57 = .ok (.iaload, 1) := by decide +kernel
theorem dX6_joins_58 : decode cX6_joins 58 = .ok (.if_icmp .eq 4, 3) := by decide +kernel
theorem dX6_joins_61 : decode cX6_joins 61 = .ok (.return_, 1) := by decide +kernel
theorem dX6_joins_62 : decode cX6_joins 62 = .ok (.iload_n 1, 1) := by decide +kernel
theorem dX6_joins_63 : decode cX6_joins 63 = .ok (.iload_n 3, 1) := by decide +kernel
theorem dX6_joins_64 : decode cX6_joins 64 = .ok (.invokestatic 53, 3) := by decide +kernel
theorem dX6_joins_67 : decode cX6_joins 67 = .ok (.istore 4, 2) := by decide +kernel
theorem dX6_joins_69 : decode cX6_joins 69 = .ok (.aload_n 0, 1) := by decide +kernel
theorem dX6_joins_70 : decode cX6_joins 70 = .ok (.getfield 7, 3) := by decide +kernel
theorem dX6_joins_73 : decode cX6_joins 73 = .ok (.bipush 59, 2) := by decide +kernel
theorem dX6_joins_75 : decode cX6_joins 75 = .ok (.iload_n 1, 1) := by decide +kernel
theorem dX6_joins_76 : decode cX6_joins 76 = .ok (.iadd, 1) := by decide +kernel
theorem dX6_joins_77 : decode cX6_joins 77 = .ok (.dup2, 1) := by decide +kernel
theorem dX6_joins_78 : decode cX6_joins 78 = .ok (.iaload, 1) := by decide +kernel
theorem dX6_joins_79 : decode cX6_joins 79 = .ok (.iconst 1, 1) := by decide +kernel
theorem dX6_joins_80 : decode cX6_joins 80 = .ok (.iadd, 1) := by decide +kernel
theorem dX6_joins_81 : decode cX6_joins 81 = .ok (.iastore, 1) := by decide +kernel
theorem dX6_joins_82 : decode cX6_joins 82 = .ok (.aload_n 0, 1) := by decide +kernel
theorem dX6_joins_83 : decode cX6_joins 83 = .ok (.getfield 7, 3) := by decide +kernel
theorem dX6_joins_86 : decode cX6_joins 86 = .ok (.iload_n 2, 1) := by decide +kernel
theorem dX6_joins_87 : decode cX6_joins 87 = .ok (.iaload, 1) := by decide +kernel
theorem dX6_joins_88 : decode cX6_joins 88 = .ok (.iconst 1, 1) := by decide +kernel
theorem dX6_joins_89 : decode cX6_joins 89 = .ok (.if_icmp .eq 10, 3) := by decide +kernel
theorem dX6_joins_92 : decode cX6_joins 92 = .ok (.aload_n 0, 1) := by decide +kernel
theorem dX6_joins_93 : decode cX6_joins 93 = .ok (.iload_n 1, 1) := by decide +kernel
theorem dX6_joins_94 : decode cX6_joins 94 = .ok (.iload_n 3, 1) := by decide +kernel
theorem dX6_joins_95 : decode cX6_joins 95 = .ok (.invokevirtual 66, 3) := by decide +kernel
theorem dX6_joins_98 : decode cX6_joins 98 = .ok (.return_, 1) := by decide +kernel
theorem dX6_joins_99 : decode cX6_joins 99 = .ok (.aload_n 0, 1) := by decide +kernel
theorem dX6_joins_100 : decode cX6_joins 100 = .ok (.getfield 7, 3) := by decide +kernel
theorem dX6_joins_103 : decode cX6_joins 103 = .ok (.iload 4, 2) := by decide +kernel
theorem dX6_joins_105 : decode cX6_joins 105 = .ok (.iaload, 1) := by decide +kernel
theorem dX6_joins_106 : decode cX6_joins 106 = .ok (.iconst 2, 1) := by decide +kernel
theorem dX6_joins_107 : decode cX6_joins 107 = .ok (.if_icmp .eq 34, 3) := by decide +kernel
theorem dX6_joins_110 : decode cX6_joins 110 = .ok (.aload_n 0, 1) := by decide +kernel
theorem dX6_joins_111 : decode cX6_joins 111 = .ok (.getfield 7, 3) := by decide +kernel
theorem dX6_joins_114 : decode cX6_joins 114 = .ok (.iload 4, 2) := by decide +kernel
theorem dX6_joins_116 : decode cX6_joins 116 = .ok (.iconst 3, 1) := by decide +kernel
theorem dX6_joins_117 : decode cX6_joins 117 = .ok (.iadd, 1) := by decide +kernel
theorem dX6_joins_118 : decode cX6_joins 118 = .ok (.aload_n 0, 1) := by decide +kernel
theorem dX6_joins_119 : decode cX6_joins 119 = .ok (.getfield 7, 3) := by decide +kernel
theorem dX6_joins_122 : decode cX6_joins 122 = .ok (.iload 4, 2) := by decide +kernel
theorem dX6_joins_124 : decode cX6_joins 124 = .ok (.iconst 3, 1) := by decide +kernel
theorem dX6_joins_125 : decode cX6_joins 125 = .ok (.iadd, 1) := by decide +kernel
theorem dX6_joins_126 : decode cX6_joins 126 = .ok (.iaload, 1) := by decide +kernel
theorem dX6_joins_127 : decode cX6_joins 127 = .ok (.aload_n 0, 1) := by decide +kernel
theorem dX6_joins_128 : decode cX6_joins 128 = .ok (.getfield 7, 3) := by decide +kernel
theorem dX6_joins_131 : decode cX6_joins 131 = .ok (.iload_n 2, 1) := by decide +kernel
theorem dX6_joins_132 : decode cX6_joins 132 = .ok (.iconst 3, 1) := by decide +kernel
theorem dX6_joins_133 : decode cX6_joins 133 = .ok (.iadd, 1) := by decide +kernel
theorem dX6_joins_134 : decode cX6_joins 134 = .ok (.iaload, 1) := by decide +kernel
theorem dX6_joins_135 : decode cX6_joins 135 = .ok (.iadd, 1) := by decide +kernel
theorem dX6_joins_136 : decode cX6_joins 136 = .ok (.sipush 1000, 3) := by decide +kernel
theorem dX6_joins_139 : decode cX6_joins 139 = .ok (.irem, 1) := by decide +kernel
theorem dX6_joins_140 : decode cX6_joins 140 = .ok (.iastore, 1) := by decide +kernel
theorem dX6_joins_141 : decode cX6_joins 141 = .ok (.aload_n 0, 1) := by decide +kernel
theorem dX6_joins_142 : decode cX6_joins 142 = .ok (.getfield 7, 3) := by decide +kernel
theorem dX6_joins_145 : decode cX6_joins 145 = .ok (.bipush 72, 2) := by decide +kernel
theorem dX6_joins_147 : decode cX6_joins 147 = .ok (.iload_n 1, 1) := by decide +kernel
theorem dX6_joins_148 : decode cX6_joins 148 = .ok (.iadd, 1) := by decide +kernel
theorem dX6_joins_149 : decode cX6_joins 149 = .ok (.dup2, 1) := by decide +kernel
theorem dX6_joins_150 : decode cX6_joins 150 = .ok (.iaload, 1) := by decide +kernel
theorem dX6_joins_151 : decode cX6_joins 151 = .ok (.iconst 1, 1) := by decide +kernel
theorem dX6_joins_152 : decode cX6_joins 152 = .ok (.isub, 1) := by decide +kernel
theorem dX6_joins_153 : decode cX6_joins 153 = .ok (.iastore, 1) := by decide +kernel
theorem dX6_joins_154 : decode cX6_joins 154 = .ok (.return_, 1) := by decide +kernel
set_option maxRecDepth 20000 in
theorem ggX6_puts_X6_place : GoodIn wsX6_puts wsX6_place := goodIn_r _ [6] (by decide +kernel) (by decide +kernel)
set_option maxRecDepth 20000 in
theorem gX6_puts_X6_place : GoodIn wsX6_puts (va_wsS RX6 53 yX6_place wsX6_place) := goodIn_app (goodIn_of _ (by decide +kernel)) ggX6_puts_X6_place
set_option maxRecDepth 20000 in
theorem ggX6_puts_X6_joins : GoodIn wsX6_puts wsX6_joins := goodIn_r _ [10, 1, 3, 4, 5, 6, 11, 12, 13, 14, 15, 16, 17, 18, 19, 20, 21, 22, 23, 24, 25, 26, 27, 28, 29, 30, 31, 32, 33, 34, 35, 36, 37] (by decide +kernel) (by decide +kernel)
set_option maxRecDepth 20000 in
theorem gX6_puts_X6_joins : GoodIn wsX6_puts (wsV RX6 70 RX6 yX6_joins wsX6_joins) := goodIn_app (goodIn_of _ (by decide +kernel)) ggX6_puts_X6_joins
theorem dX6_puts_0 : decode cX6_puts 0 = .ok (.iload_n 1, 1) := by decide +kernel
theorem dX6_puts_1 : decode cX6_puts 1 = .ok (.aload_n 0, 1) := by decide +kernel
theorem dX6_puts_2 : decode cX6_puts 2 = .ok (.getfield 7, 3) := by decide +kernel
theorem dX6_puts_5 : decode cX6_puts 5 = .ok (.bipush 72, 2) := by decide +kernel
theorem dX6_puts_7 : decode cX6_puts 7 = .ok (.iload_n 1, 1) := by decide +kernel
theorem dX6_puts_8 : decode cX6_puts 8 = .ok (.iadd, 1) := by decide +kernel
theorem dX6_puts_9 : decode cX6_puts 9 = .ok (.iaload, 1) := by decide +kernel
theorem dX6_puts_10 : decode cX6_puts 10 = .ok (.invokestatic 53, 3) := by decide +kernel
theorem dX6_puts_13 : decode cX6_puts 13 = .ok (.istore_n 3, 1) := by decide +kernel
theorem dX6_puts_14 : decode cX6_puts 14 = .ok (.iconst 0, 1) := by decide +kernel
theorem dX6_puts_15 : decode cX6_puts 15 = .ok (.istore 4, 2) := by decide +kernel
theorem dX6_puts_17 : decode cX6_puts 17 = .ok (.iload 4, 2) := by decide +kernel
theorem dX6_puts_19 : decode cX6_puts 19 = .ok (.iconst 4, 1) := by decide +kernel
theorem dX6_puts_20 : decode cX6_puts 20 = .ok (.if_icmp .ge 27, 3) := by decide +kernel
theorem dX6_puts_23 : decode cX6_puts 23 = .ok (.aload_n 0, 1) := by decide +kernel
theorem dX6_puts_24 : decode cX6_puts 24 = .ok (.getfield 7, 3) := by decide +kernel
theorem dX6_puts_27 : decode cX6_puts 27 = .ok (.iload_n 3, 1) := by decide +kernel
theorem dX6_puts_28 : decode cX6_puts 28 = .ok (.iload 4, 2) := by decide +kernel
theorem dX6_puts_30 : decode cX6_puts 30 = .ok (.iadd, 1) := by decide +kernel
theorem dX6_puts_31 : decode cX6_puts 31 = .ok (.aload_n 0, 1) := by decide +kernel
theorem dX6_puts_32 : decode cX6_puts 32 = .ok (.getfield 26, 3) := by decide +kernel
theorem dX6_puts_35 : decode cX6_puts 35 = .ok (.iload_n 2, 1) := by decide +kernel
theorem dX6_puts_36 : decode cX6_puts 36 = .ok (.iload 4, 2) := by decide +kernel
theorem dX6_puts_38 : decode cX6_puts 38 = .ok (.iadd, 1) := by decide +kernel
theorem dX6_puts_39 : decode cX6_puts 39 = .ok (.iaload, 1) := by decide +kernel
theorem dX6_puts_40 : decode cX6_puts 40 = .ok (.iastore, 1) := by decide +kernel
theorem dX6_puts_41 : decode cX6_puts 41 = .ok (.iinc 4 1, 3) := by decide +kernel
theorem dX6_puts_44 : decode cX6_puts 44 = .ok (.goto (-27), 3) := by decide +kernel
theorem dX6_puts_47 : decode cX6_puts 47 = .ok (.aload_n 0, 1) := by decide +kernel
theorem dX6_puts_48 : decode cX6_puts 48 = .ok (.getfield 7, 3) := by decide +kernel
theorem dX6_puts_51 : decode cX6_puts 51 = .ok (.bipush 72, 2) := by decide +kernel
theorem dX6_puts_53 : decode cX6_puts 53 = .ok (.iload_n 1, 1) := by decide +kernel
theorem dX6_puts_54 : decode cX6_puts 54 = .ok (.iadd, 1) := by decide +kernel
theorem dX6_puts_55 : decode cX6_puts 55 = .ok (.dup2, 1) := by decide +kernel
theorem dX6_puts_56 : decode cX6_puts 56 = .ok (.iaload, 1) := by decide +kernel
theorem dX6_puts_57 : decode cX6_puts 57 = .ok (.iconst 1, 1) := by decide +kernel
theorem dX6_puts_58 : decode cX6_puts 58 = .ok (.iadd, 1) := by decide +kernel
theorem dX6_puts_59 : decode cX6_puts 59 = .ok (.iastore, 1) := by decide +kernel
theorem dX6_puts_60 : decode cX6_puts 60 = .ok (.aload_n 0, 1) := by decide +kernel
theorem dX6_puts_61 : decode cX6_puts 61 = .ok (.getfield 7, 3) := by decide +kernel
theorem dX6_puts_64 : decode cX6_puts 64 = .ok (.iconst 1, 1) := by decide +kernel
theorem dX6_puts_65 : decode cX6_puts 65 = .ok (.iaload, 1) := by decide +kernel
theorem dX6_puts_66 : decode cX6_puts 66 = .ok (.iconst 1, 1) := by decide +kernel
theorem dX6_puts_67 : decode cX6_puts 67 = .ok (.if_icmp .ne 27, 3) := by decide +kernel
theorem dX6_puts_70 : decode cX6_puts 70 = .ok (.aload_n 0, 1) := by decide +kernel
theorem dX6_puts_71 : decode cX6_puts 71 = .ok (.getfield 7, 3) := by decide +kernel
theorem dX6_puts_74 : decode cX6_puts 74 = .ok (.iload_n 3, 1) := by decide +kernel
theorem dX6_puts_75 : decode cX6_puts 75 = .ok (.iconst 1, 1) := by decide +kernel
theorem dX6_puts_76 : decode cX6_puts 76 = .ok (.iadd, 1) := by decide +kernel
theorem dX6_puts_77 : decode cX6_puts 77 = .ok (.iaload, 1) := by decide +kernel
theorem dX6_puts_78 : decode cX6_puts 78 = .ok (.aload_n 0, 1) := by decide +kernel
theorem dX6_puts_79 : decode cX6_puts 79 = .ok (.getfield 7, 3) := by decide +kernel
theorem dX6_puts_82 : decode cX6_puts 82 = .ok (.iload_n 3, 1) := by decide +kernel
theorem dX6_puts_83 : decode cX6_puts 83 = .ok (.iconst 2, 1) := by decide +kernel
theorem dX6_puts_84 : decode cX6_puts 84 = .ok (.iadd, 1) := by decide +kernel
theorem dX6_puts_85 : decode cX6_puts 85 = .ok (.iaload, 1) := by decide +kernel
theorem dX6_puts_86 : decode cX6_puts 86 = .ok (.if_icmp .ne 8, 3) := by decide +kernel
theorem dX6_puts_89 : decode cX6_puts 89 = .ok (.aload_n 0, 1) := by decide +kernel
theorem dX6_puts_90 : decode cX6_puts 90 = .ok (.iload_n 1, 1) := by decide +kernel
theorem dX6_puts_91 : decode cX6_puts 91 = .ok (.invokevirtual 70, 3) := by decide +kernel
theorem dX6_puts_94 : decode cX6_puts 94 = .ok (.return_, 1) := by decide +kernel
theorem dX6_isTooFull_0 : decode cX6_isTooFull 0 = .ok (.aload_n 0, 1) := by decide +kernel
theorem dX6_isTooFull_1 : decode cX6_isTooFull 1 = .ok (.getfield 7, 3) := by decide +kernel
theorem dX6_isTooFull_4 : decode cX6_isTooFull 4 = .ok (.bipush 72, 2) := by decide +kernel
theorem dX6_isTooFull_6 : decode cX6_isTooFull 6 = .ok (.iload_n 1, 1) := by decide +kernel
theorem dX6_isTooFull_7 : decode cX6_isTooFull 7 = .ok (.iadd, 1) := by decide +kernel
theorem dX6_isTooFull_8 : decode cX6_isTooFull 8 = .ok (.iaload, 1) := by decide +kernel
theorem dX6_isTooFull_9 : decode cX6_isTooFull 9 = .ok (.aload_n 0, 1) := by decide +kernel
theorem dX6_isTooFull_10 : decode cX6_isTooFull 10 = .ok (.getfield 7, 3) := by decide +kernel
theorem dX6_isTooFull_13 : decode cX6_isTooFull 13 = .ok (.iconst 0, 1) := by decide +kernel
theorem dX6_isTooFull_14 : decode cX6_isTooFull 14 = .ok (.iaload, 1) := by decide +kernel
theorem dX6_isTooFull_15 : decode cX6_isTooFull 15 = .ok (.if_icmp .le 7, 3) := by decide +kernel
theorem dX6_isTooFull_18 : decode cX6_isTooFull 18 = .ok (.iconst 1, 1) := by decide +kernel
theorem dX6_isTooFull_19 : decode cX6_isTooFull 19 = .ok (.goto 4, 3) := by decide +kernel
theorem dX6_isTooFull_22 : decode cX6_isTooFull 22 = .ok (.iconst 0, 1) := by decide +kernel
theorem dX6_isTooFull_23 : decode cX6_isTooFull 23 = .ok (.ireturn, 1) := by decide +kernel
theorem dX6_leaves_0 : decode cX6_leaves 0 = .ok (.aload_n 0, 1) := by decide +kernel
theorem dX6_leaves_1 : decode cX6_leaves 1 = .ok (.getfield 29, 3) := by decide +kernel
theorem dX6_leaves_4 : decode cX6_leaves 4 = .ok (.iconst 4, 1) := by decide +kernel
theorem dX6_leaves_5 : decode cX6_leaves 5 = .ok (.aload_n 0, 1) := by decide +kernel
theorem dX6_leaves_6 : decode cX6_leaves 6 = .ok (.getfield 74, 3) := by decide +kernel
theorem dX6_leaves_9 : decode cX6_leaves 9 = .ok (.imul, 1) := by decide +kernel
theorem dX6_leaves_10 : decode cX6_leaves 10 = .ok (.aload_n 0, 1) := by decide +kernel
theorem dX6_leaves_11 : decode cX6_leaves 11 = .ok (.getfield 7, 3) := by decide +kernel
theorem dX6_leaves_14 : decode cX6_leaves 14 = .ok (.iload_n 1, 1) := by decide +kernel
theorem dX6_leaves_15 : decode cX6_leaves 15 = .ok (.iaload, 1) := by decide +kernel
theorem dX6_leaves_16 : decode cX6_leaves 16 = .ok (.iastore, 1) := by decide +kernel
theorem dX6_leaves_17 : decode cX6_leaves 17 = .ok (.aload_n 0, 1) := by decide +kernel
theorem dX6_leaves_18 : decode cX6_leaves 18 = .ok (.getfield 29, 3) := by decide +kernel
theorem dX6_leaves_21 : decode cX6_leaves 21 = .ok (.iconst 4, 1) := by decide +kernel
theorem dX6_leaves_22 : decode cX6_leaves 22 = .ok (.aload_n 0, 1) := by decide +kernel
theorem dX6_leaves_23 : decode cX6_leaves 23 = .ok (.getfield 74, 3) := by decide +kernel
theorem dX6_leaves_26 : decode cX6_leaves 26 = .ok (.imul, 1) := by decide +kernel
theorem dX6_leaves_27 : decode cX6_leaves 27 = .ok (.iconst 1, 1) := by decide +kernel
theorem dX6_leaves_28 : decode cX6_leaves 28 = .ok (.iadd, 1) := by decide +kernel
theorem dX6_leaves_29 : decode cX6_leaves 29 = .ok (.iload_n 2, 1) := by decide +kernel
theorem dX6_leaves_30 : decode cX6_leaves 30 = .ok (.iastore, 1) := by decide +kernel
theorem dX6_leaves_31 : decode cX6_leaves 31 = .ok (.aload_n 0, 1) := by decide +kernel
theorem dX6_leaves_32 : decode cX6_leaves 32 = .ok (.getfield 29, 3) := by decide +kernel
theorem dX6_leaves_35 : decode cX6_leaves 35 = .ok (.iconst 4, 1) := by decide +kernel
theorem dX6_leaves_36 : decode cX6_leaves 36 = .ok (.aload_n 0, 1) := by decide +kernel
theorem dX6_leaves_37 : decode cX6_leaves 37 = .ok (.getfield 74, 3) := by decide +kernel
theorem dX6_leaves_40 : decode cX6_leaves 40 = .ok (.imul, 1) := by decide +kernel
theorem dX6_leaves_41 : decode cX6_leaves 41 = .ok (.iconst 2, 1) := by decide +kernel
theorem dX6_leaves_42 : decode cX6_leaves 42 = .ok (.iadd, 1) := by decide +kernel
theorem dX6_leaves_43 : decode cX6_leaves 43 = .ok (.iload_n 3, 1) := by decide +kernel
theorem dX6_leaves_44 : decode cX6_leaves 44 = .ok (.iastore, 1) := by decide +kernel
theorem dX6_leaves_45 : decode cX6_leaves 45 = .ok (.aload_n 0, 1) := by decide +kernel
theorem dX6_leaves_46 : decode cX6_leaves 46 = .ok (.getfield 29, 3) := by decide +kernel
theorem dX6_leaves_49 : decode cX6_leaves 49 = .ok (.iconst 4, 1) := by decide +kernel
theorem dX6_leaves_50 : decode cX6_leaves 50 = .ok (.aload_n 0, 1) := by decide +kernel
theorem dX6_leaves_51 : decode cX6_leaves 51 = .ok (.getfield 74, 3) := by decide +kernel
theorem dX6_leaves_54 : decode cX6_leaves 54 = .ok (.imul, 1) := by decide +kernel
theorem dX6_leaves_55 : decode cX6_leaves 55 = .ok (.iconst 3, 1) := by decide +kernel
theorem dX6_leaves_56 : decode cX6_leaves 56 = .ok (.iadd, 1) := by decide +kernel
theorem dX6_leaves_57 : decode cX6_leaves 57 = .ok (.aload_n 0, 1) := by decide +kernel
theorem dX6_leaves_58 : decode cX6_leaves 58 = .ok (.getfield 7, 3) := by decide +kernel
theorem dX6_leaves_61 : decode cX6_leaves 61 = .ok (.iload_n 1, 1) := by decide +kernel
theorem dX6_leaves_62 : decode cX6_leaves 62 = .ok (.iconst 3, 1) := by decide +kernel
theorem dX6_leaves_63 : decode cX6_leaves 63 = .ok (.iadd, 1) := by decide +kernel
theorem dX6_leaves_64 : decode cX6_leaves 64 = .ok (.iaload, 1) := by decide +kernel
theorem dX6_leaves_65 : decode cX6_leaves 65 = .ok (.iastore, 1) := by decide +kernel
theorem dX6_leaves_66 : decode cX6_leaves 66 = .ok (.aload_n 0, 1) := by decide +kernel
theorem dX6_leaves_67 : decode cX6_leaves 67 = .ok (.dup, 1) := by decide +kernel
theorem dX6_leaves_68 : decode cX6_leaves 68 = .ok (.getfield 74, 3) := by decide +kernel
theorem dX6_leaves_71 : decode cX6_leaves 71 = .ok (.iconst 1, 1) := by decide +kernel
theorem dX6_leaves_72 : decode cX6_leaves 72 = .ok (.iadd, 1) := by decide +kernel
theorem dX6_leaves_73 : decode cX6_leaves 73 = .ok (.putfield 74, 3) := by decide +kernel
theorem dX6_leaves_76 : decode cX6_leaves 76 = .ok (.return_, 1) := by decide +kernel
theorem dX6_goes_0 : decode cX6_goes 0 = .ok (.aload_n 0, 1) := by decide +kernel
theorem dX6_goes_1 : decode cX6_goes 1 = .ok (.getfield 26, 3) := by decide +kernel
theorem dX6_goes_4 : decode cX6_goes 4 = .ok (.iload 4, 2) := by decide +kernel
theorem dX6_goes_6 : decode cX6_goes 6 = .ok (.aload_n 0, 1) := by decide +kernel
theorem dX6_goes_7 : decode cX6_goes 7 = .ok (.getfield 7, 3) := by decide +kernel
theorem dX6_goes_10 : decode cX6_goes 10 = .ok (.iload_n 1, 1) := by decide +kernel
theorem dX6_goes_11 : decode cX6_goes 11 = .ok (.iaload, 1) := by decide +kernel
theorem dX6_goes_12 : decode cX6_goes 12 = .ok (.iastore, 1) := by decide +kernel
theorem dX6_goes_13 : decode cX6_goes 13 = .ok (.aload_n 0, 1) := by decide +kernel
theorem dX6_goes_14 : decode cX6_goes 14 = .ok (.getfield 26, 3) := by decide +kernel
theorem dX6_goes_17 : decode cX6_goes 17 = .ok (.iload 4, 2) := by decide +kernel
theorem dX6_goes_19 : decode cX6_goes 19 = .ok (.iconst 1, 1) := by decide +kernel
theorem dX6_goes_20 : decode cX6_goes 20 = .ok (.iadd, 1) := by decide +kernel
theorem dX6_goes_21 : decode cX6_goes 21 = .ok (.iload_n 2, 1) := by decide +kernel
theorem dX6_goes_22 : decode cX6_goes 22 = .ok (.iastore, 1) := by decide +kernel
theorem dX6_goes_23 : decode cX6_goes 23 = .ok (.aload_n 0, 1) := by decide +kernel
theorem dX6_goes_24 : decode cX6_goes 24 = .ok (.getfield 26, 3) := by decide +kernel
theorem dX6_goes_27 : decode cX6_goes 27 = .ok (.iload 4, 2) := by decide +kernel
theorem dX6_goes_29 : decode cX6_goes 29 = .ok (.iconst 2, 1) := by decide +kernel
theorem dX6_goes_30 : decode cX6_goes 30 = .ok (.iadd, 1) := by decide +kernel
theorem dX6_goes_31 : decode cX6_goes 31 = .ok (.iload_n 3, 1) := by decide +kernel
theorem dX6_goes_32 : decode cX6_goes 32 = .ok (.iastore, 1) := by decide +kernel
theorem dX6_goes_33 : decode cX6_goes 33 = .ok (.aload_n 0, 1) := by decide +kernel
theorem dX6_goes_34 : decode cX6_goes 34 = .ok (.getfield 26, 3) := by decide +kernel
theorem dX6_goes_37 : decode cX6_goes 37 = .ok (.iload 4, 2) := by decide +kernel
theorem dX6_goes_39 : decode cX6_goes 39 = .ok (.iconst 3, 1) := by decide +kernel
theorem dX6_goes_40 : decode cX6_goes 40 = .ok (.iadd, 1) := by decide +kernel
theorem dX6_goes_41 : decode cX6_goes 41 = .ok (.aload_n 0, 1) := by decide +kernel
theorem dX6_goes_42 : decode cX6_goes 42 = .ok (.getfield 7, 3) := by decide +kernel
theorem dX6_goes_45 : decode cX6_goes 45 = .ok (.iload_n 1, 1) := by decide +kernel
theorem dX6_goes_46 : decode cX6_goes 46 = .ok (.iconst 3, 1) := by decide +kernel
theorem dX6_goes_47 : decode cX6_goes 47 = .ok (.iadd, 1) := by decide +kernel
theorem dX6_goes_48 : decode cX6_goes 48 = .ok (.iaload, 1) := by decide +kernel
theorem dX6_goes_49 : decode cX6_goes 49 = .ok (.iastore, 1) := by decide +kernel
theorem dX6_goes_50 : decode cX6_goes 50 = .ok (.return_, 1) := by decide +kernel
theorem dX6_level_0 : decode cX6_level 0 = .ok (.iload_n 0, 1) := by decide +kernel
theorem dX6_level_1 : decode cX6_level 1 = .ok (.ifCond .ne 7, 3) := by decide +kernel
theorem dX6_level_4 : decode cX6_level 4 = .ok (.iconst 0, 1) := by decide +kernel
theorem dX6_level_5 : decode cX6_level 5 = .ok (.goto 16, 3) := by decide +kernel
theorem dX6_level_8 : decode cX6_level 8 = .ok (.iload_n 0, 1) := by decide +kernel
theorem dX6_level_9 : decode cX6_level 9 = .ok (.iconst 4, 1) := by decide +kernel
theorem dX6_level_10 : decode cX6_level 10 = .ok (.if_icmp .ge 8, 3) := by decide +kernel
theorem dX6_level_13 : decode cX6_level 13 = .ok (.bipush 96, 2) := by decide +kernel
theorem dX6_level_15 : decode cX6_level 15 = .ok (.goto 6, 3) := by decide +kernel
theorem dX6_level_18 : decode cX6_level 18 = .ok (.sipush 192, 3) := by decide +kernel
theorem dX6_level_21 : decode cX6_level 21 = .ok (.ireturn, 1) := by decide +kernel
set_option maxRecDepth 20000 in
theorem ggX6_takes_X6_firstOf : GoodIn wsX6_takes wsX6_firstOf := goodIn_r _ [7] (by decide +kernel) (by decide +kernel)
set_option maxRecDepth 20000 in
theorem gX6_takes_X6_firstOf : GoodIn wsX6_takes (va_wsS RX6 46 yX6_firstOf wsX6_firstOf) := goodIn_app (goodIn_of _ (by decide +kernel)) ggX6_takes_X6_firstOf
set_option maxRecDepth 20000 in
theorem ggX6_takes_X6_part : GoodIn wsX6_takes wsX6_part := goodIn_r _ [10] (by decide +kernel) (by decide +kernel)
set_option maxRecDepth 20000 in
theorem gX6_takes_X6_part : GoodIn wsX6_takes (va_wsS RX6 50 yX6_part wsX6_part) := goodIn_app (goodIn_of _ (by decide +kernel)) ggX6_takes_X6_part
set_option maxRecDepth 20000 in
theorem ggX6_takes_X6_place : GoodIn wsX6_takes wsX6_place := goodIn_r _ [13] (by decide +kernel) (by decide +kernel)
set_option maxRecDepth 20000 in
theorem gX6_takes_X6_place : GoodIn wsX6_takes (va_wsS RX6 53 yX6_place wsX6_place) := goodIn_app (goodIn_of _ (by decide +kernel)) ggX6_takes_X6_place
set_option maxRecDepth 20000 in
theorem ggX6_takes_X6_has : GoodIn wsX6_takes wsX6_has := goodIn_r _ [17, 2, 30, 31, 32, 33, 34, 35, 36, 37, 38, 39, 40, 41, 42, 43, 44] (by decide +kernel) (by decide +kernel)
set_option maxRecDepth 20000 in
theorem gX6_takes_X6_has : GoodIn wsX6_takes (wsV RX6 57 RX6 yX6_has wsX6_has) := goodIn_app (goodIn_of _ (by decide +kernel)) ggX6_takes_X6_has
set_option maxRecDepth 20000 in
theorem ggX6_takes_X6_leaves : GoodIn wsX6_takes wsX6_leaves := goodIn_r _ [21, 3, 1, 2, 30, 31, 32, 33, 34, 35, 36, 37, 38, 39, 40, 41, 42, 43, 44] (by decide +kernel) (by decide +kernel)
set_option maxRecDepth 20000 in
theorem gX6_takes_X6_leaves : GoodIn wsX6_takes (wsV RX6 77 RX6 yX6_leaves wsX6_leaves) := goodIn_app (goodIn_of _ (by decide +kernel)) ggX6_takes_X6_leaves
set_option maxRecDepth 20000 in
theorem ggX6_takes_X6_level : GoodIn wsX6_takes wsX6_level := goodIn_r _ [24] (by decide +kernel) (by decide +kernel)
set_option maxRecDepth 20000 in
theorem gX6_takes_X6_level : GoodIn wsX6_takes (va_wsS RX6 81 yX6_level wsX6_level) := goodIn_app (goodIn_of _ (by decide +kernel)) ggX6_takes_X6_level
set_option maxRecDepth 20000 in
theorem ggX6_takes_X6_goes : GoodIn wsX6_takes wsX6_goes := goodIn_r _ [28, 29, 2, 30, 31, 32, 33, 34, 35, 36, 37, 38, 39, 40, 41, 42, 43, 44] (by decide +kernel) (by decide +kernel)
set_option maxRecDepth 20000 in
theorem gX6_takes_X6_goes : GoodIn wsX6_takes (wsV RX6 84 RX6 yX6_goes wsX6_goes) := goodIn_app (goodIn_of _ (by decide +kernel)) ggX6_takes_X6_goes
theorem dX6_takes_0 : decode cX6_takes 0 = .ok (.iload_n 1, 1) := by decide +kernel
theorem dX6_takes_1 : decode cX6_takes 1 = .ok (.invokestatic 46, 3) := by decide +kernel
theorem dX6_takes_4 : decode cX6_takes 4 = .ok (.iload_n 1, 1) := by decide +kernel
theorem dX6_takes_5 : decode cX6_takes 5 = .ok (.invokestatic 50, 3) := by decide +kernel
theorem dX6_takes_8 : decode cX6_takes 8 = .ok (.iload_n 2, 1) := by decide +kernel
theorem dX6_takes_9 : decode cX6_takes 9 = .ok (.imul, 1) := by decide +kernel
theorem dX6_takes_10 : decode cX6_takes 10 = .ok (.iadd, 1) := by decide +kernel
theorem dX6_takes_11 : decode cX6_takes 11 = .ok (.istore_n 3, 1) := by decide +kernel
theorem dX6_takes_12 : decode cX6_takes 12 = .ok (.iload_n 3, 1) := by decide +kernel
theorem dX6_takes_13 : decode cX6_takes 13 = .ok (.iload_n 1, 1) := by decide +kernel
theorem dX6_takes_14 : decode cX6_takes 14 = .ok (.invokestatic 50, 3) := by decide +kernel
theorem dX6_takes_17 : decode cX6_takes 17 = .ok (.iadd, 1) := by decide +kernel
theorem dX6_takes_18 : decode cX6_takes 18 = .ok (.iconst 1, 1) := by decide +kernel
theorem dX6_takes_19 : decode cX6_takes 19 = .ok (.isub, 1) := by decide +kernel
theorem dX6_takes_20 : decode cX6_takes 20 = .ok (.istore 4, 2) := by decide +kernel
theorem dX6_takes_22 : decode cX6_takes 22 = .ok (.iconst 0, 1) := by decide +kernel
theorem dX6_takes_23 : decode cX6_takes 23 = .ok (.istore 5, 2) := by decide +kernel
theorem dX6_takes_25 : decode cX6_takes 25 = .ok (.aload_n 0, 1) := by decide +kernel
theorem dX6_takes_26 : decode cX6_takes 26 = .ok (.iconst 0, 1) := by decide +kernel
theorem dX6_takes_27 : decode cX6_takes 27 = .ok (.putfield 74, 3) := by decide +kernel
theorem dX6_takes_30 : decode cX6_takes 30 = .ok (.iconst 0, 1) := by decide +kernel
theorem dX6_takes_31 : decode cX6_takes 31 = .ok (.istore 6, 2) := by decide +kernel
theorem dX6_takes_33 : decode cX6_takes 33 = .ok (.iload 6, 2) := by decide +kernel
theorem dX6_takes_35 : decode cX6_takes 35 = .ok (.aload_n 0, 1) := by decide +kernel
theorem dX6_takes_36 : decode cX6_takes 36 = .ok (.getfield 7, 3) := by decide +kernel
theorem dX6_takes_39 : decode cX6_takes 39 = .ok (.bipush 72, 2) := by decide +kernel
theorem dX6_takes_41 : decode cX6_takes 41 = .ok (.iload_n 1, 1) := by decide +kernel
theorem dX6_takes_42 : decode cX6_takes 42 = .ok (.iadd, 1) := by decide +kernel
theorem dX6_takes_43 : decode cX6_takes 43 = .ok (.iaload, 1) := by decide +kernel
theorem dX6_takes_44 : decode cX6_takes 44 = .ok (.if_icmp .ge 144, 3) := by decide +kernel
theorem dX6_takes_47 : decode cX6_takes 47 = .ok (.iload_n 1, 1) := by decide +kernel
theorem dX6_takes_48 : decode cX6_takes 48 = .ok (.iload 6, 2) := by decide +kernel
theorem dX6_takes_50 : decode cX6_takes 50 = .ok (.invokestatic 53, 3) := by decide +kernel
theorem dX6_takes_53 : decode cX6_takes 53 = .ok (.istore 7, 2) := by decide +kernel
theorem dX6_takes_55 : decode cX6_takes 55 = .ok (.aload_n 0, 1) := by decide +kernel
theorem dX6_takes_56 : decode cX6_takes 56 = .ok (.getfield 7, 3) := by decide +kernel
theorem dX6_takes_59 : decode cX6_takes 59 = .ok (.iload 7, 2) := by decide +kernel
theorem dX6_takes_61 : decode cX6_takes 61 = .ok (.iconst 1, 1) := by decide +kernel
theorem dX6_takes_62 : decode cX6_takes 62 = .ok (.iadd, 1) := by decide +kernel
theorem dX6_takes_63 : decode cX6_takes 63 = .ok (.iaload, 1) := by decide +kernel
theorem dX6_takes_64 : decode cX6_takes 64 = .ok (.istore 8, 2) := by decide +kernel
theorem dX6_takes_66 : decode cX6_takes 66 = .ok (.aload_n 0, 1) := by decide +kernel
theorem dX6_takes_67 : decode cX6_takes 67 = .ok (.getfield 7, 3) := by decide +kernel
theorem dX6_takes_70 : decode cX6_takes 70 = .ok (.iload 7, 2) := by decide +kernel
theorem dX6_takes_72 : decode cX6_takes 72 = .ok (.iconst 2, 1) := by decide +kernel
theorem dX6_takes_73 : decode cX6_takes 73 = .ok (.iadd, 1) := by decide +kernel
theorem dX6_takes_74 : decode cX6_takes 74 = .ok (.iaload, 1) := by decide +kernel
theorem dX6_takes_75 : decode cX6_takes 75 = .ok (.istore 9, 2) := by decide +kernel
theorem dX6_takes_77 : decode cX6_takes 77 = .ok (.aload_n 0, 1) := by decide +kernel
theorem dX6_takes_78 : decode cX6_takes 78 = .ok (.iload 7, 2) := by decide +kernel
theorem dX6_takes_80 : decode cX6_takes 80 = .ok (.iload_n 3, 1) := by decide +kernel
theorem dX6_takes_81 : decode cX6_takes 81 = .ok (.iload 4, 2) := by decide +kernel
theorem dX6_takes_83 : decode cX6_takes 83 = .ok (.invokevirtual 57, 3) := by decide +kernel
theorem dX6_takes_86 : decode cX6_takes 86 = .ok (.ifCond .ne 16, 3) := by decide +kernel
theorem dX6_takes_89 : decode cX6_takes 89 = .ok (.aload_n 0, 1) := by decide +kernel
theorem dX6_takes_90 : decode cX6_takes 90 = .ok (.iload 7, 2) := by decide +kernel
theorem dX6_takes_92 : decode cX6_takes 92 = .ok (.iload 8, 2) := by decide +kernel
theorem dX6_takes_94 : decode cX6_takes 94 = .ok (.iload 9, 2) := by decide +kernel
theorem dX6_takes_96 : decode cX6_takes 96 = .ok (.invokevirtual 77, 3) := by decide +kernel
theorem dX6_takes_99 : decode cX6_takes 99 = .ok (.goto 83, 3) := by decide +kernel
theorem dX6_takes_102 : decode cX6_takes 102 = .ok (.aload_n 0, 1) := by decide +kernel
theorem dX6_takes_103 : decode cX6_takes 103 = .ok (.iload 7, 2) := by decide +kernel
theorem dX6_takes_105 : decode cX6_takes 105 = .ok (.iload 8, 2) := by decide +kernel
theorem dX6_takes_107 : decode cX6_takes 107 = .ok (.iload_n 3, 1) := by decide +kernel
theorem dX6_takes_108 : decode cX6_takes 108 = .ok (.if_icmp .ge 7, 3) := by decide +kernel
theorem dX6_takes_111 : decode cX6_takes 111 = .ok (.iload_n 3, 1) := by decide +kernel
theorem dX6_takes_112 : decode cX6_takes 112 = .ok (.goto 5, 3) := by decide +kernel
theorem dX6_takes_115 : decode cX6_takes 115 = .ok (.iload 8, 2) := by decide +kernel
theorem dX6_takes_117 : decode cX6_takes 117 = .ok (.iload 9, 2) := by decide +kernel
theorem dX6_takes_119 : decode cX6_takes 119 = .ok (.iload 4, 2) := by decide +kernel
theorem dX6_takes_121 : decode cX6_takes 121 = .ok (.if_icmp .le 8, 3) := by decide +kernel
theorem dX6_takes_124 : decode cX6_takes 124 = .ok (.iload 4, 2) := by decide +kernel
theorem dX6_takes_126 : decode cX6_takes 126 = .ok (.goto 5, 3) := by decide +kernel
theorem dX6_takes_129 : decode cX6_takes 129 = .ok (.iload 9, 2) := by decide +kernel
theorem dX6_takes_131 : decode cX6_takes 131 = .ok (.iload_n 1, 1) := by decide +kernel
theorem dX6_takes_132 : decode cX6_takes 132 = .ok (.invokestatic 81, 3) := by decide +kernel
theorem dX6_takes_135 : decode cX6_takes 135 = .ok (.iconst 4, 1) := by decide +kernel
theorem dX6_takes_136 : decode cX6_takes 136 = .ok (.iload 5, 2) := by decide +kernel
theorem dX6_takes_138 : decode cX6_takes 138 = .ok (.imul, 1) := by decide +kernel
theorem dX6_takes_139 : decode cX6_takes 139 = .ok (.iadd, 1) := by decide +kernel
theorem dX6_takes_140 : decode cX6_takes 140 = .ok (.invokevirtual 84, 3) := by decide +kernel
theorem dX6_takes_143 : decode cX6_takes 143 = .ok (.iinc 5 1, 3) := by decide +kernel
theorem dX6_takes_146 : decode cX6_takes 146 = .ok (.iload 8, 2) := by decide +kernel
theorem dX6_takes_148 : decode cX6_takes 148 = .ok (.iload_n 3, 1) := by decide +kernel
theorem dX6_takes_149 : decode cX6_takes 149 = .ok (.if_icmp .ge 14, 3) := by decide +kernel
theorem dX6_takes_152 : decode cX6_takes 152 = .ok (.aload_n 0, 1) := by decide +kernel
theorem dX6_takes_153 : decode cX6_takes 153 = .ok (.iload 7, 2) := by decide +kernel
theorem dX6_takes_155 : decode cX6_takes 155 = .ok (.iload 8, 2) := by decide +kernel
theorem dX6_takes_157 : decode cX6_takes 157 = .ok (.iload_n 3, 1) := by decide +kernel
theorem dX6_takes_158 : decode cX6_takes 158 = .ok (.iconst 1, 1) := by decide +kernel
theorem dX6_takes_159 : decode cX6_takes 159 = .ok (.isub, 1) := by decide +kernel
theorem dX6_takes_160 : decode cX6_takes 160 = .ok (.invokevirtual 77, 3) := by decide +kernel
theorem dX6_takes_163 : decode cX6_takes 163 = .ok (.iload 9, 2) := by decide +kernel
theorem dX6_takes_165 : decode cX6_takes 165 = .ok (.iload 4, 2) := by decide +kernel
theorem dX6_takes_167 : decode cX6_takes 167 = .ok (.if_icmp .le 15, 3) := by decide +kernel
theorem dX6_takes_170 : decode cX6_takes 170 = .ok (.aload_n 0, 1) := by decide +kernel
theorem dX6_takes_171 : decode cX6_takes 171 = .ok (.iload 7, 2) := by decide +kernel
theorem dX6_takes_173 : decode cX6_takes 173 = .ok (.iload 4, 2) := by decide +kernel
theorem dX6_takes_175 : decode cX6_takes 175 = .ok (.iconst 1, 1) := by decide +kernel
theorem dX6_takes_176 : decode cX6_takes 176 = .ok (.iadd, 1) := by decide +kernel
theorem dX6_takes_177 : decode cX6_takes 177 = .ok (.iload 9, 2) := by decide +kernel
theorem dX6_takes_179 : decode cX6_takes 179 = .ok (.invokevirtual 77, 3) := by decide +kernel
theorem dX6_takes_182 : decode cX6_takes 182 = .ok (.iinc 6 1, 3) := by decide +kernel
theorem dX6_takes_185 : decode cX6_takes 185 = .ok (.goto (-152), 3) := by decide +kernel
theorem dX6_takes_188 : decode cX6_takes 188 = .ok (.iconst 0, 1) := by decide +kernel
theorem dX6_takes_189 : decode cX6_takes 189 = .ok (.istore 6, 2) := by decide +kernel
theorem dX6_takes_191 : decode cX6_takes 191 = .ok (.iload 6, 2) := by decide +kernel
theorem dX6_takes_193 : decode cX6_takes 193 = .ok (.iconst 4, 1) := by decide +kernel
theorem dX6_takes_194 : decode cX6_takes 194 = .ok (.aload_n 0, 1) := by decide +kernel
theorem dX6_takes_195 : decode cX6_takes 195 = .ok (.getfield 74, 3) := by decide +kernel
theorem dX6_takes_198 : decode cX6_takes 198 = .ok (.imul, 1) := by decide +kernel
theorem dX6_takes_199 : decode cX6_takes 199 = .ok (.if_icmp .ge 29, 3) := by decide +kernel
theorem dX6_takes_202 : decode cX6_takes 202 = .ok (.aload_n 0, 1) := by decide +kernel
theorem dX6_takes_203 : decode cX6_takes 203 = .ok (.getfield 7, 3) := by decide +kernel
theorem dX6_takes_206 : decode cX6_takes 206 = .ok (.iload_n 1, 1) := by decide +kernel
theorem dX6_takes_207 : decode cX6_takes 207 = .ok (.iconst 0, 1) := by decide +kernel
theorem dX6_takes_208 : decode cX6_takes 208 = .ok (.invokestatic 53, 3) := by decide +kernel
theorem dX6_takes_211 : decode cX6_takes 211 = .ok (.iload 6, 2) := by decide +kernel
theorem dX6_takes_213 : decode cX6_takes 213 = .ok (.iadd, 1) := by decide +kernel
theorem dX6_takes_214 : decode cX6_takes 214 = .ok (.aload_n 0, 1) := by decide +kernel
theorem dX6_takes_215 : decode cX6_takes 215 = .ok (.getfield 29, 3) := by decide +kernel
theorem dX6_takes_218 : decode cX6_takes 218 = .ok (.iload 6, 2) := by decide +kernel
theorem dX6_takes_220 : decode cX6_takes 220 = .ok (.iaload, 1) := by decide +kernel
theorem dX6_takes_221 : decode cX6_takes 221 = .ok (.iastore, 1) := by decide +kernel
theorem dX6_takes_222 : decode cX6_takes 222 = .ok (.iinc 6 1, 3) := by decide +kernel
theorem dX6_takes_225 : decode cX6_takes 225 = .ok (.goto (-34), 3) := by decide +kernel
theorem dX6_takes_228 : decode cX6_takes 228 = .ok (.aload_n 0, 1) := by decide +kernel
theorem dX6_takes_229 : decode cX6_takes 229 = .ok (.getfield 7, 3) := by decide +kernel
theorem dX6_takes_232 : decode cX6_takes 232 = .ok (.bipush 72, 2) := by decide +kernel
theorem dX6_takes_234 : decode cX6_takes 234 = .ok (.iload_n 1, 1) := by decide +kernel
theorem dX6_takes_235 : decode cX6_takes 235 = .ok (.iadd, 1) := by decide +kernel
theorem dX6_takes_236 : decode cX6_takes 236 = .ok (.aload_n 0, 1) := by decide +kernel
theorem dX6_takes_237 : decode cX6_takes 237 = .ok (.getfield 74, 3) := by decide +kernel
theorem dX6_takes_240 : decode cX6_takes 240 = .ok (.iastore, 1) := by decide +kernel
theorem dX6_takes_241 : decode cX6_takes 241 = .ok (.aload_n 0, 1) := by decide +kernel
theorem dX6_takes_242 : decode cX6_takes 242 = .ok (.getfield 7, 3) := by decide +kernel
theorem dX6_takes_245 : decode cX6_takes 245 = .ok (.bipush 33, 2) := by decide +kernel
theorem dX6_takes_247 : decode cX6_takes 247 = .ok (.iload_n 1, 1) := by decide +kernel
theorem dX6_takes_248 : decode cX6_takes 248 = .ok (.iadd, 1) := by decide +kernel
theorem dX6_takes_249 : decode cX6_takes 249 = .ok (.dup2, 1) := by decide +kernel
theorem dX6_takes_250 : decode cX6_takes 250 = .ok (.iaload, 1) := by decide +kernel
theorem dX6_takes_251 : decode cX6_takes 251 = .ok (.iload 5, 2) := by decide +kernel
theorem dX6_takes_253 : decode cX6_takes 253 = .ok (.ifCond .le 7, 3) := by decide +kernel
theorem dX6_takes_256 : decode cX6_takes 256 = .ok (.iconst 1, 1) := by decide +kernel
theorem dX6_takes_257 : decode cX6_takes 257 = .ok (.goto 4, 3) := by decide +kernel
theorem dX6_takes_260 : decode cX6_takes 260 = .ok (.iconst 0, 1) := by decide +kernel
theorem dX6_takes_261 : decode cX6_takes 261 = .ok (.iadd, 1) := by decide +kernel
theorem dX6_takes_262 : decode cX6_takes 262 = .ok (.iastore, 1) := by decide +kernel
theorem dX6_takes_263 : decode cX6_takes 263 = .ok (.aload_n 0, 1) := by decide +kernel
theorem dX6_takes_264 : decode cX6_takes 264 = .ok (.getfield 7, 3) := by decide +kernel
theorem dX6_takes_267 : decode cX6_takes 267 = .ok (.bipush 46, 2) := by decide +kernel
theorem dX6_takes_269 : decode cX6_takes 269 = .ok (.iload_n 1, 1) := by decide +kernel
theorem dX6_takes_270 : decode cX6_takes 270 = .ok (.iadd, 1) := by decide +kernel
theorem dX6_takes_271 : decode cX6_takes 271 = .ok (.dup2, 1) := by decide +kernel
theorem dX6_takes_272 : decode cX6_takes 272 = .ok (.iaload, 1) := by decide +kernel
theorem dX6_takes_273 : decode cX6_takes 273 = .ok (.iload 5, 2) := by decide +kernel
theorem dX6_takes_275 : decode cX6_takes 275 = .ok (.iadd, 1) := by decide +kernel
theorem dX6_takes_276 : decode cX6_takes 276 = .ok (.iastore, 1) := by decide +kernel
theorem dX6_takes_277 : decode cX6_takes 277 = .ok (.aload_n 0, 1) := by decide +kernel
theorem dX6_takes_278 : decode cX6_takes 278 = .ok (.getfield 7, 3) := by decide +kernel
theorem dX6_takes_281 : decode cX6_takes 281 = .ok (.iconst 3, 1) := by decide +kernel
theorem dX6_takes_282 : decode cX6_takes 282 = .ok (.dup2, 1) := by decide +kernel
theorem dX6_takes_283 : decode cX6_takes 283 = .ok (.iaload, 1) := by decide +kernel
theorem dX6_takes_284 : decode cX6_takes 284 = .ok (.iload 5, 2) := by decide +kernel
theorem dX6_takes_286 : decode cX6_takes 286 = .ok (.iadd, 1) := by decide +kernel
theorem dX6_takes_287 : decode cX6_takes 287 = .ok (.iastore, 1) := by decide +kernel
theorem dX6_takes_288 : decode cX6_takes 288 = .ok (.iload 5, 2) := by decide +kernel
theorem dX6_takes_290 : decode cX6_takes 290 = .ok (.ireturn, 1) := by decide +kernel
theorem dX6_applied_0 : decode cX6_applied 0 = .ok (.iload_n 1, 1) := by decide +kernel
theorem dX6_applied_1 : decode cX6_applied 1 = .ok (.iconst 1, 1) := by decide +kernel
theorem dX6_applied_2 : decode cX6_applied 2 = .ok (.if_icmp .ne 22, 3) := by decide +kernel
theorem dX6_applied_5 : decode cX6_applied 5 = .ok (.iload_n 0, 1) := by decide +kernel
theorem dX6_applied_6 : decode cX6_applied 6 = .ok (.bipush (-6), 2) := by decide +kernel
theorem dX6_applied_8 : decode cX6_applied 8 = .ok (.if_icmp .ne 8, 3) := by decide +kernel
theorem dX6_applied_11 : decode cX6_applied 11 = .ok (.bipush (-6), 2) := by decide +kernel
theorem dX6_applied_13 : decode cX6_applied 13 = .ok (.goto 10, 3) := by decide +kernel
theorem dX6_applied_16 : decode cX6_applied 16 = .ok (.iload_n 0, 1) := by decide +kernel
theorem dX6_applied_17 : decode cX6_applied 17 = .ok (.iload_n 2, 1) := by decide +kernel
theorem dX6_applied_18 : decode cX6_applied 18 = .ok (.iadd, 1) := by decide +kernel
theorem dX6_applied_19 : decode cX6_applied 19 = .ok (.sipush 1000, 3) := by decide +kernel
theorem dX6_applied_22 : decode cX6_applied 22 = .ok (.irem, 1) := by decide +kernel
theorem dX6_applied_23 : decode cX6_applied 23 = .ok (.ireturn, 1) := by decide +kernel
theorem dX6_applied_24 : decode cX6_applied 24 = .ok (.iload_n 1, 1) := by decide +kernel
theorem dX6_applied_25 : decode cX6_applied 25 = .ok (.ifCond .ne 7, 3) := by decide +kernel
theorem dX6_applied_28 : decode cX6_applied 28 = .ok (.iload_n 2, 1) := by decide +kernel
theorem dX6_applied_29 : decode cX6_applied 29 = .ok (.goto 5, 3) := by decide +kernel
theorem dX6_applied_32 : decode cX6_applied 32 = .ok (.bipush (-6), 2) := by decide +kernel
theorem dX6_applied_34 : decode cX6_applied 34 = .ok (.ireturn, 1) := by decide +kernel
set_option maxRecDepth 20000 in
theorem ggX6_sinksLow_X6_takes : GoodIn wsX6_sinksLow wsX6_takes := goodIn_r _ [7, 8, 1, 9, 10, 11, 6, 12, 13, 14, 15, 16, 17, 18, 19, 20, 21, 22, 23, 24, 25, 26, 27, 28, 29, 30, 31, 32, 33, 2, 40, 41, 42, 43, 44, 45, 46, 47, 48, 49, 50, 51, 52, 53, 54] (by decide +kernel) (by decide +kernel)
set_option maxRecDepth 20000 in
theorem gX6_sinksLow_X6_takes : GoodIn wsX6_sinksLow (wsV RX6 88 RX6 yX6_takes wsX6_takes) := goodIn_app (goodIn_of _ (by decide +kernel)) ggX6_sinksLow_X6_takes
set_option maxRecDepth 20000 in
theorem ggX6_sinksLow_X6_childOf : GoodIn wsX6_sinksLow wsX6_childOf := goodIn_r _ [36] (by decide +kernel) (by decide +kernel)
set_option maxRecDepth 20000 in
theorem gX6_sinksLow_X6_childOf : GoodIn wsX6_sinksLow (va_wsS RX6 91 yX6_childOf wsX6_childOf) := goodIn_app (goodIn_of _ (by decide +kernel)) ggX6_sinksLow_X6_childOf
set_option maxRecDepth 20000 in
theorem ggX6_sinksLow_X6_applied : GoodIn wsX6_sinksLow wsX6_applied := goodIn_r _ [39] (by decide +kernel) (by decide +kernel)
set_option maxRecDepth 20000 in
theorem gX6_sinksLow_X6_applied : GoodIn wsX6_sinksLow (va_wsS RX6 94 yX6_applied wsX6_applied) := goodIn_app (goodIn_of _ (by decide +kernel)) ggX6_sinksLow_X6_applied
theorem dX6_sinksLow_0 : decode cX6_sinksLow 0 = .ok (.aload_n 0, 1) := by decide +kernel
theorem dX6_sinksLow_1 : decode cX6_sinksLow 1 = .ok (.iload_n 1, 1) := by decide +kernel
theorem dX6_sinksLow_2 : decode cX6_sinksLow 2 = .ok (.iload_n 2, 1) := by decide +kernel
theorem dX6_sinksLow_3 : decode cX6_sinksLow 3 = .ok (.invokevirtual 88, 3) := by decide +kernel
theorem dX6_sinksLow_6 : decode cX6_sinksLow 6 = .ok (.istore_n 3, 1) := by decide +kernel
theorem dX6_sinksLow_7 : decode cX6_sinksLow 7 = .ok (.iload_n 1, 1) := by decide +kernel
theorem dX6_sinksLow_8 : decode cX6_sinksLow 8 = .ok (.iload_n 2, 1) := by decide +kernel
theorem dX6_sinksLow_9 : decode cX6_sinksLow 9 = .ok (.invokestatic 91, 3) := by decide +kernel
theorem dX6_sinksLow_12 : decode cX6_sinksLow 12 = .ok (.istore 4, 2) := by decide +kernel
theorem dX6_sinksLow_14 : decode cX6_sinksLow 14 = .ok (.iconst 0, 1) := by decide +kernel
theorem dX6_sinksLow_15 : decode cX6_sinksLow 15 = .ok (.istore 5, 2) := by decide +kernel
theorem dX6_sinksLow_17 : decode cX6_sinksLow 17 = .ok (.iload 5, 2) := by decide +kernel
theorem dX6_sinksLow_19 : decode cX6_sinksLow 19 = .ok (.iload_n 3, 1) := by decide +kernel
theorem dX6_sinksLow_20 : decode cX6_sinksLow 20 = .ok (.if_icmp .ge 68, 3) := by decide +kernel
theorem dX6_sinksLow_23 : decode cX6_sinksLow 23 = .ok (.sipush 192, 3) := by decide +kernel
theorem dX6_sinksLow_26 : decode cX6_sinksLow 26 = .ok (.iconst 4, 1) := by decide +kernel
theorem dX6_sinksLow_27 : decode cX6_sinksLow 27 = .ok (.iload 5, 2) := by decide +kernel
theorem dX6_sinksLow_29 : decode cX6_sinksLow 29 = .ok (.imul, 1) := by decide +kernel
theorem dX6_sinksLow_30 : decode cX6_sinksLow 30 = .ok (.iadd, 1) := by decide +kernel
theorem dX6_sinksLow_31 : decode cX6_sinksLow 31 = .ok (.istore 6, 2) := by decide +kernel
theorem dX6_sinksLow_33 : decode cX6_sinksLow 33 = .ok (.aload_n 0, 1) := by decide +kernel
theorem dX6_sinksLow_34 : decode cX6_sinksLow 34 = .ok (.getfield 7, 3) := by decide +kernel
theorem dX6_sinksLow_37 : decode cX6_sinksLow 37 = .ok (.bipush 6, 2) := by decide +kernel
theorem dX6_sinksLow_39 : decode cX6_sinksLow 39 = .ok (.iload 4, 2) := by decide +kernel
theorem dX6_sinksLow_41 : decode cX6_sinksLow 41 = .ok (.iadd, 1) := by decide +kernel
theorem dX6_sinksLow_42 : decode cX6_sinksLow 42 = .ok (.aload_n 0, 1) := by decide +kernel
theorem dX6_sinksLow_43 : decode cX6_sinksLow 43 = .ok (.getfield 7, 3) := by decide +kernel
theorem dX6_sinksLow_46 : decode cX6_sinksLow 46 = .ok (.bipush 6, 2) := by decide +kernel
theorem dX6_sinksLow_48 : decode cX6_sinksLow 48 = .ok (.iload 4, 2) := by decide +kernel
theorem dX6_sinksLow_50 : decode cX6_sinksLow 50 = .ok (.iadd, 1) := by decide +kernel
theorem dX6_sinksLow_51 : decode cX6_sinksLow 51 = .ok (.iaload, 1) := by decide +kernel
theorem dX6_sinksLow_52 : decode cX6_sinksLow 52 = .ok (.aload_n 0, 1) := by decide +kernel
theorem dX6_sinksLow_53 : decode cX6_sinksLow 53 = .ok (.getfield 26, 3) := by decide +kernel
theorem dX6_sinksLow_56 : decode cX6_sinksLow 56 = .ok (.iload 6, 2) := by decide +kernel
theorem dX6_sinksLow_58 : decode cX6_sinksLow 58 = .ok (.iaload, 1) := by decide +kernel
theorem dX6_sinksLow_59 : decode cX6_sinksLow 59 = .ok (.aload_n 0, 1) := by decide +kernel
theorem dX6_sinksLow_60 : decode cX6_sinksLow 60 = .ok (.getfield 26, 3) := by decide +kernel
theorem dX6_sinksLow_63 : decode cX6_sinksLow 63 = .ok (.iload 6, 2) := by decide +kernel
theorem dX6_sinksLow_65 : decode cX6_sinksLow 65 = .ok (.iconst 3, 1) := by decide +kernel
theorem dX6_sinksLow_66 : decode cX6_sinksLow 66 = .ok (.iadd, 1) := by decide +kernel
theorem dX6_sinksLow_67 : decode cX6_sinksLow 67 = .ok (.iaload, 1) := by decide +kernel
theorem dX6_sinksLow_68 : decode cX6_sinksLow 68 = .ok (.invokestatic 94, 3) := by decide +kernel
theorem dX6_sinksLow_71 : decode cX6_sinksLow 71 = .ok (.iastore, 1) := by decide +kernel
theorem dX6_sinksLow_72 : decode cX6_sinksLow 72 = .ok (.aload_n 0, 1) := by decide +kernel
theorem dX6_sinksLow_73 : decode cX6_sinksLow 73 = .ok (.getfield 7, 3) := by decide +kernel
theorem dX6_sinksLow_76 : decode cX6_sinksLow 76 = .ok (.iconst 4, 1) := by decide +kernel
theorem dX6_sinksLow_77 : decode cX6_sinksLow 77 = .ok (.dup2, 1) := by decide +kernel
theorem dX6_sinksLow_78 : decode cX6_sinksLow 78 = .ok (.iaload, 1) := by decide +kernel
theorem dX6_sinksLow_79 : decode cX6_sinksLow 79 = .ok (.iconst 1, 1) := by decide +kernel
theorem dX6_sinksLow_80 : decode cX6_sinksLow 80 = .ok (.iadd, 1) := by decide +kernel
theorem dX6_sinksLow_81 : decode cX6_sinksLow 81 = .ok (.iastore, 1) := by decide +kernel
theorem dX6_sinksLow_82 : decode cX6_sinksLow 82 = .ok (.iinc 5 1, 3) := by decide +kernel
theorem dX6_sinksLow_85 : decode cX6_sinksLow 85 = .ok (.goto (-68), 3) := by decide +kernel
theorem dX6_sinksLow_88 : decode cX6_sinksLow 88 = .ok (.return_, 1) := by decide +kernel
set_option maxRecDepth 20000 in
theorem ggX6_comesLow_X6_puts : GoodIn wsX6_comesLow wsX6_puts := goodIn_r _ [5, 6, 7, 8, 9, 4, 10, 11, 12, 13, 14, 15, 16, 17, 18, 19, 20, 21, 22, 23, 24, 25, 26, 72, 73, 74, 75, 76, 77, 78, 79, 80, 81, 82, 83, 84, 85, 86] (by decide +kernel) (by decide +kernel)
set_option maxRecDepth 20000 in
theorem gX6_comesLow_X6_puts : GoodIn wsX6_comesLow (wsV RX6 98 RX6 yX6_puts wsX6_puts) := goodIn_app (goodIn_of _ (by decide +kernel)) ggX6_comesLow_X6_puts
set_option maxRecDepth 20000 in
theorem ggX6_comesLow_X6_isTooFull : GoodIn wsX6_comesLow wsX6_isTooFull := goodIn_r _ [30, 6, 72, 73, 74, 75, 76, 77, 78, 79, 80, 81, 82, 83, 84, 85, 86] (by decide +kernel) (by decide +kernel)
set_option maxRecDepth 20000 in
theorem gX6_comesLow_X6_isTooFull : GoodIn wsX6_comesLow (wsV RX6 101 RX6 yX6_isTooFull wsX6_isTooFull) := goodIn_app (goodIn_of _ (by decide +kernel)) ggX6_comesLow_X6_isTooFull
set_option maxRecDepth 20000 in
theorem ggX6_comesLow_X6_chosen : GoodIn wsX6_comesLow wsX6_chosen := goodIn_r _ [34, 35, 36, 37, 4, 38, 6, 39, 40, 41, 42, 43, 44, 8, 9, 10, 19, 20, 21, 22, 72, 73, 74, 75, 76, 77, 78, 79, 80, 81, 82, 83, 84, 85, 86] (by decide +kernel) (by decide +kernel)
set_option maxRecDepth 20000 in
theorem gX6_comesLow_X6_chosen : GoodIn wsX6_comesLow (wsV RX6 105 RX6 yX6_chosen wsX6_chosen) := goodIn_app (goodIn_of _ (by decide +kernel)) ggX6_comesLow_X6_chosen
set_option maxRecDepth 20000 in
theorem ggX6_comesLow_X6_sinksLow : GoodIn wsX6_comesLow wsX6_sinksLow := goodIn_r _ [48, 6, 7, 49, 50, 51, 4, 52, 53, 54, 39, 40, 41, 42, 43, 44, 8, 9, 10, 19, 20, 21, 22, 55, 56, 57, 58, 59, 60, 61, 62, 63, 64, 65, 66, 67, 68, 69, 70, 71, 72, 73, 74, 75, 76, 77, 78, 79, 80, 81, 82, 83, 84, 85, 86] (by decide +kernel) (by decide +kernel)
set_option maxRecDepth 20000 in
theorem gX6_comesLow_X6_sinksLow : GoodIn wsX6_comesLow (wsV RX6 108 RX6 yX6_sinksLow wsX6_sinksLow) := goodIn_app (goodIn_of _ (by decide +kernel)) ggX6_comesLow_X6_sinksLow
theorem dX6_comesLow_0 : decode cX6_comesLow 0 = .ok (.aload_n 0, 1) := by decide +kernel
theorem dX6_comesLow_1 : decode cX6_comesLow 1 = .ok (.iload_n 1, 1) := by decide +kernel
theorem dX6_comesLow_2 : decode cX6_comesLow 2 = .ok (.iload_n 2, 1) := by decide +kernel
theorem dX6_comesLow_3 : decode cX6_comesLow 3 = .ok (.invokevirtual 98, 3) := by decide +kernel
theorem dX6_comesLow_6 : decode cX6_comesLow 6 = .ok (.aload_n 0, 1) := by decide +kernel
theorem dX6_comesLow_7 : decode cX6_comesLow 7 = .ok (.iload_n 1, 1) := by decide +kernel
theorem dX6_comesLow_8 : decode cX6_comesLow 8 = .ok (.invokevirtual 101, 3) := by decide +kernel
theorem dX6_comesLow_11 : decode cX6_comesLow 11 = .ok (.ifCond .eq 16, 3) := by decide +kernel
theorem dX6_comesLow_14 : decode cX6_comesLow 14 = .ok (.aload_n 0, 1) := by decide +kernel
theorem dX6_comesLow_15 : decode cX6_comesLow 15 = .ok (.iload_n 1, 1) := by decide +kernel
theorem dX6_comesLow_16 : decode cX6_comesLow 16 = .ok (.aload_n 0, 1) := by decide +kernel
theorem dX6_comesLow_17 : decode cX6_comesLow 17 = .ok (.iload_n 1, 1) := by decide +kernel
theorem dX6_comesLow_18 : decode cX6_comesLow 18 = .ok (.invokevirtual 105, 3) := by decide +kernel
theorem dX6_comesLow_21 : decode cX6_comesLow 21 = .ok (.invokevirtual 108, 3) := by decide +kernel
theorem dX6_comesLow_24 : decode cX6_comesLow 24 = .ok (.goto (-18), 3) := by decide +kernel
theorem dX6_comesLow_27 : decode cX6_comesLow 27 = .ok (.return_, 1) := by decide +kernel
set_option maxRecDepth 20000 in
theorem ggX6_sinksMiddle_X6_takes : GoodIn wsX6_sinksMiddle wsX6_takes := goodIn_r _ [5, 6, 7, 8, 9, 10, 4, 11, 12, 13, 14, 15, 16, 17, 18, 19, 20, 21, 22, 23, 24, 25, 26, 27, 28, 29, 30, 31, 32, 33, 76, 77, 78, 79, 80, 81, 82, 83, 84, 85, 86, 87, 88, 89, 90] (by decide +kernel) (by decide +kernel)
set_option maxRecDepth 20000 in
theorem gX6_sinksMiddle_X6_takes : GoodIn wsX6_sinksMiddle (wsV RX6 88 RX6 yX6_takes wsX6_takes) := goodIn_app (goodIn_of _ (by decide +kernel)) ggX6_sinksMiddle_X6_takes
set_option maxRecDepth 20000 in
theorem ggX6_sinksMiddle_X6_childOf : GoodIn wsX6_sinksMiddle wsX6_childOf := goodIn_r _ [36] (by decide +kernel) (by decide +kernel)
set_option maxRecDepth 20000 in
theorem gX6_sinksMiddle_X6_childOf : GoodIn wsX6_sinksMiddle (va_wsS RX6 91 yX6_childOf wsX6_childOf) := goodIn_app (goodIn_of _ (by decide +kernel)) ggX6_sinksMiddle_X6_childOf
set_option maxRecDepth 20000 in
theorem ggX6_sinksMiddle_X6_comesLow : GoodIn wsX6_sinksMiddle wsX6_comesLow := goodIn_r _ [40, 41, 42, 43, 4, 44, 7, 33, 15, 16, 17, 45, 46, 47, 48, 49, 50, 51, 52, 18, 19, 20, 21, 53, 54, 55, 56, 57, 58, 59, 60, 61, 62, 63, 64, 65, 66, 67, 68, 9, 10, 11, 12, 13, 14, 69, 70, 71, 72, 1, 2, 3, 5, 6, 8, 22, 23, 24, 25, 26, 27, 28, 29, 30, 31, 32, 34, 35, 36, 73, 74, 75, 76, 77, 78, 79, 80, 81, 82, 83, 84, 85, 86, 87, 88, 89, 90] (by decide +kernel) (by decide +kernel)
set_option maxRecDepth 20000 in
theorem gX6_sinksMiddle_X6_comesLow : GoodIn wsX6_sinksMiddle (wsV RX6 111 RX6 yX6_comesLow wsX6_comesLow) := goodIn_app (goodIn_of _ (by decide +kernel)) ggX6_sinksMiddle_X6_comesLow
theorem dX6_sinksMiddle_0 : decode cX6_sinksMiddle 0 = .ok (.aload_n 0, 1) := by decide +kernel
theorem dX6_sinksMiddle_1 : decode cX6_sinksMiddle 1 = .ok (.iload_n 1, 1) := by decide +kernel
theorem dX6_sinksMiddle_2 : decode cX6_sinksMiddle 2 = .ok (.iload_n 2, 1) := by decide +kernel
theorem dX6_sinksMiddle_3 : decode cX6_sinksMiddle 3 = .ok (.invokevirtual 88, 3) := by decide +kernel
theorem dX6_sinksMiddle_6 : decode cX6_sinksMiddle 6 = .ok (.istore_n 3, 1) := by decide +kernel
theorem dX6_sinksMiddle_7 : decode cX6_sinksMiddle 7 = .ok (.iconst 0, 1) := by decide +kernel
theorem dX6_sinksMiddle_8 : decode cX6_sinksMiddle 8 = .ok (.istore 4, 2) := by decide +kernel
theorem dX6_sinksMiddle_10 : decode cX6_sinksMiddle 10 = .ok (.iload 4, 2) := by decide +kernel
theorem dX6_sinksMiddle_12 : decode cX6_sinksMiddle 12 = .ok (.iload_n 3, 1) := by decide +kernel
theorem dX6_sinksMiddle_13 : decode cX6_sinksMiddle 13 = .ok (.if_icmp .ge 25, 3) := by decide +kernel
theorem dX6_sinksMiddle_16 : decode cX6_sinksMiddle 16 = .ok (.aload_n 0, 1) := by decide +kernel
theorem dX6_sinksMiddle_17 : decode cX6_sinksMiddle 17 = .ok (.iload_n 1, 1) := by decide +kernel
theorem dX6_sinksMiddle_18 : decode cX6_sinksMiddle 18 = .ok (.iload_n 2, 1) := by decide +kernel
theorem dX6_sinksMiddle_19 : decode cX6_sinksMiddle 19 = .ok (.invokestatic 91, 3) := by decide +kernel
theorem dX6_sinksMiddle_22 : decode cX6_sinksMiddle 22 = .ok (.bipush 96, 2) := by decide +kernel
theorem dX6_sinksMiddle_24 : decode cX6_sinksMiddle 24 = .ok (.iconst 4, 1) := by decide +kernel
theorem dX6_sinksMiddle_25 : decode cX6_sinksMiddle 25 = .ok (.iload 4, 2) := by decide +kernel
theorem dX6_sinksMiddle_27 : decode cX6_sinksMiddle 27 = .ok (.imul, 1) := by decide +kernel
theorem dX6_sinksMiddle_28 : decode cX6_sinksMiddle 28 = .ok (.iadd, 1) := by decide +kernel
theorem dX6_sinksMiddle_29 : decode cX6_sinksMiddle 29 = .ok (.invokevirtual 111, 3) := by decide +kernel
theorem dX6_sinksMiddle_32 : decode cX6_sinksMiddle 32 = .ok (.iinc 4 1, 3) := by decide +kernel
theorem dX6_sinksMiddle_35 : decode cX6_sinksMiddle 35 = .ok (.goto (-25), 3) := by decide +kernel
theorem dX6_sinksMiddle_38 : decode cX6_sinksMiddle 38 = .ok (.return_, 1) := by decide +kernel
set_option maxRecDepth 20000 in
theorem ggX6_comesMiddle_X6_puts : GoodIn wsX6_comesMiddle wsX6_puts := goodIn_r _ [5, 6, 7, 8, 9, 4, 10, 11, 12, 13, 14, 15, 16, 17, 18, 19, 20, 21, 22, 23, 24, 25, 26, 80, 81, 82, 83, 84, 85, 86, 87, 88, 89, 90, 91, 92, 93, 94] (by decide +kernel) (by decide +kernel)
set_option maxRecDepth 20000 in
theorem gX6_comesMiddle_X6_puts : GoodIn wsX6_comesMiddle (wsV RX6 98 RX6 yX6_puts wsX6_puts) := goodIn_app (goodIn_of _ (by decide +kernel)) ggX6_comesMiddle_X6_puts
set_option maxRecDepth 20000 in
theorem ggX6_comesMiddle_X6_isTooFull : GoodIn wsX6_comesMiddle wsX6_isTooFull := goodIn_r _ [30, 6, 80, 81, 82, 83, 84, 85, 86, 87, 88, 89, 90, 91, 92, 93, 94] (by decide +kernel) (by decide +kernel)
set_option maxRecDepth 20000 in
theorem gX6_comesMiddle_X6_isTooFull : GoodIn wsX6_comesMiddle (wsV RX6 101 RX6 yX6_isTooFull wsX6_isTooFull) := goodIn_app (goodIn_of _ (by decide +kernel)) ggX6_comesMiddle_X6_isTooFull
set_option maxRecDepth 20000 in
theorem ggX6_comesMiddle_X6_chosen : GoodIn wsX6_comesMiddle wsX6_chosen := goodIn_r _ [34, 35, 36, 37, 4, 38, 6, 39, 40, 41, 42, 43, 44, 8, 9, 10, 19, 20, 21, 22, 80, 81, 82, 83, 84, 85, 86, 87, 88, 89, 90, 91, 92, 93, 94] (by decide +kernel) (by decide +kernel)
set_option maxRecDepth 20000 in
theorem gX6_comesMiddle_X6_chosen : GoodIn wsX6_comesMiddle (wsV RX6 105 RX6 yX6_chosen wsX6_chosen) := goodIn_app (goodIn_of _ (by decide +kernel)) ggX6_comesMiddle_X6_chosen
set_option maxRecDepth 20000 in
theorem ggX6_comesMiddle_X6_sinksMiddle : GoodIn wsX6_comesMiddle wsX6_sinksMiddle := goodIn_r _ [48, 49, 50, 51, 4, 52, 53, 6, 54, 39, 40, 41, 42, 43, 44, 8, 9, 10, 19, 20, 21, 22, 55, 56, 57, 58, 59, 60, 61, 62, 63, 64, 65, 7, 66, 67, 68, 69, 70, 71, 72, 1, 2, 3, 5, 11, 12, 13, 14, 15, 16, 17, 18, 23, 24, 25, 26, 27, 28, 29, 30, 31, 32, 33, 34, 35, 36, 37, 38, 73, 74, 75, 76, 77, 78, 79, 80, 81, 82, 83, 84, 85, 86, 87, 88, 89, 90, 91, 92, 93, 94] (by decide +kernel) (by decide +kernel)
set_option maxRecDepth 20000 in
theorem gX6_comesMiddle_X6_sinksMiddle : GoodIn wsX6_comesMiddle (wsV RX6 114 RX6 yX6_sinksMiddle wsX6_sinksMiddle) := goodIn_app (goodIn_of _ (by decide +kernel)) ggX6_comesMiddle_X6_sinksMiddle
theorem dX6_comesMiddle_0 : decode cX6_comesMiddle 0 = .ok (.aload_n 0, 1) := by decide +kernel
theorem dX6_comesMiddle_1 : decode cX6_comesMiddle 1 = .ok (.iload_n 1, 1) := by decide +kernel
theorem dX6_comesMiddle_2 : decode cX6_comesMiddle 2 = .ok (.iload_n 2, 1) := by decide +kernel
theorem dX6_comesMiddle_3 : decode cX6_comesMiddle 3 = .ok (.invokevirtual 98, 3) := by decide +kernel
theorem dX6_comesMiddle_6 : decode cX6_comesMiddle 6 = .ok (.aload_n 0, 1) := by decide +kernel
theorem dX6_comesMiddle_7 : decode cX6_comesMiddle 7 = .ok (.iload_n 1, 1) := by decide +kernel
theorem dX6_comesMiddle_8 : decode cX6_comesMiddle 8 = .ok (.invokevirtual 101, 3) := by decide +kernel
theorem dX6_comesMiddle_11 : decode cX6_comesMiddle 11 = .ok (.ifCond .eq 16, 3) := by decide +kernel
theorem dX6_comesMiddle_14 : decode cX6_comesMiddle 14 = .ok (.aload_n 0, 1) := by decide +kernel
theorem dX6_comesMiddle_15 : decode cX6_comesMiddle 15 = .ok (.iload_n 1, 1) := by decide +kernel
theorem dX6_comesMiddle_16 : decode cX6_comesMiddle 16 = .ok (.aload_n 0, 1) := by decide +kernel
theorem dX6_comesMiddle_17 : decode cX6_comesMiddle 17 = .ok (.iload_n 1, 1) := by decide +kernel
theorem dX6_comesMiddle_18 : decode cX6_comesMiddle 18 = .ok (.invokevirtual 105, 3) := by decide +kernel
theorem dX6_comesMiddle_21 : decode cX6_comesMiddle 21 = .ok (.invokevirtual 114, 3) := by decide +kernel
theorem dX6_comesMiddle_24 : decode cX6_comesMiddle 24 = .ok (.goto (-18), 3) := by decide +kernel
theorem dX6_comesMiddle_27 : decode cX6_comesMiddle 27 = .ok (.return_, 1) := by decide +kernel
set_option maxRecDepth 20000 in
theorem ggX6_sinksRoot_X6_takes : GoodIn wsX6_sinksRoot wsX6_takes := goodIn_r _ [5, 6, 7, 8, 9, 10, 4, 11, 12, 13, 14, 15, 16, 17, 18, 19, 20, 21, 22, 23, 24, 25, 26, 27, 28, 29, 30, 31, 32, 33, 84, 85, 86, 87, 88, 89, 90, 91, 92, 93, 94, 95, 96, 97, 98] (by decide +kernel) (by decide +kernel)
set_option maxRecDepth 20000 in
theorem gX6_sinksRoot_X6_takes : GoodIn wsX6_sinksRoot (wsV RX6 88 RX6 yX6_takes wsX6_takes) := goodIn_app (goodIn_of _ (by decide +kernel)) ggX6_sinksRoot_X6_takes
set_option maxRecDepth 20000 in
theorem ggX6_sinksRoot_X6_childOf : GoodIn wsX6_sinksRoot wsX6_childOf := goodIn_r _ [36] (by decide +kernel) (by decide +kernel)
set_option maxRecDepth 20000 in
theorem gX6_sinksRoot_X6_childOf : GoodIn wsX6_sinksRoot (va_wsS RX6 91 yX6_childOf wsX6_childOf) := goodIn_app (goodIn_of _ (by decide +kernel)) ggX6_sinksRoot_X6_childOf
set_option maxRecDepth 20000 in
theorem ggX6_sinksRoot_X6_comesMiddle : GoodIn wsX6_sinksRoot wsX6_comesMiddle := goodIn_r _ [40, 41, 42, 43, 4, 44, 7, 33, 15, 16, 17, 45, 46, 47, 48, 49, 50, 51, 52, 18, 19, 20, 21, 53, 54, 55, 56, 57, 58, 59, 60, 61, 62, 63, 64, 65, 66, 67, 68, 9, 10, 11, 12, 13, 14, 69, 70, 71, 72, 1, 2, 3, 5, 6, 8, 22, 23, 24, 25, 26, 27, 28, 29, 30, 31, 32, 34, 35, 36, 73, 74, 75, 76, 77, 78, 79, 80, 81, 82, 83, 84, 85, 86, 87, 88, 89, 90, 91, 92, 93, 94, 95, 96, 97, 98] (by decide +kernel) (by decide +kernel)
set_option maxRecDepth 20000 in
theorem gX6_sinksRoot_X6_comesMiddle : GoodIn wsX6_sinksRoot (wsV RX6 117 RX6 yX6_comesMiddle wsX6_comesMiddle) := goodIn_app (goodIn_of _ (by decide +kernel)) ggX6_sinksRoot_X6_comesMiddle
theorem dX6_sinksRoot_0 : decode cX6_sinksRoot 0 = .ok (.aload_n 0, 1) := by decide +kernel
theorem dX6_sinksRoot_1 : decode cX6_sinksRoot 1 = .ok (.iconst 0, 1) := by decide +kernel
theorem dX6_sinksRoot_2 : decode cX6_sinksRoot 2 = .ok (.iload_n 1, 1) := by decide +kernel
theorem dX6_sinksRoot_3 : decode cX6_sinksRoot 3 = .ok (.invokevirtual 88, 3) := by decide +kernel
theorem dX6_sinksRoot_6 : decode cX6_sinksRoot 6 = .ok (.istore_n 2, 1) := by decide +kernel
theorem dX6_sinksRoot_7 : decode cX6_sinksRoot 7 = .ok (.iconst 0, 1) := by decide +kernel
theorem dX6_sinksRoot_8 : decode cX6_sinksRoot 8 = .ok (.istore_n 3, 1) := by decide +kernel
theorem dX6_sinksRoot_9 : decode cX6_sinksRoot 9 = .ok (.iload_n 3, 1) := by decide +kernel
theorem dX6_sinksRoot_10 : decode cX6_sinksRoot 10 = .ok (.iload_n 2, 1) := by decide +kernel
theorem dX6_sinksRoot_11 : decode cX6_sinksRoot 11 = .ok (.if_icmp .ge 21, 3) := by decide +kernel
theorem dX6_sinksRoot_14 : decode cX6_sinksRoot 14 = .ok (.aload_n 0, 1) := by decide +kernel
theorem dX6_sinksRoot_15 : decode cX6_sinksRoot 15 = .ok (.iconst 0, 1) := by decide +kernel
theorem dX6_sinksRoot_16 : decode cX6_sinksRoot 16 = .ok (.iload_n 1, 1) := by decide +kernel
theorem dX6_sinksRoot_17 : decode cX6_sinksRoot 17 = .ok (.invokestatic 91, 3) := by decide +kernel
theorem dX6_sinksRoot_20 : decode cX6_sinksRoot 20 = .ok (.iconst 4, 1) := by decide +kernel
theorem dX6_sinksRoot_21 : decode cX6_sinksRoot 21 = .ok (.iload_n 3, 1) := by decide +kernel
theorem dX6_sinksRoot_22 : decode cX6_sinksRoot 22 = .ok (.imul, 1) := by decide +kernel
theorem dX6_sinksRoot_23 : decode cX6_sinksRoot 23 = .ok (.invokevirtual 117, 3) := by decide +kernel
theorem dX6_sinksRoot_26 : decode cX6_sinksRoot 26 = .ok (.iinc 3 1, 3) := by decide +kernel
theorem dX6_sinksRoot_29 : decode cX6_sinksRoot 29 = .ok (.goto (-20), 3) := by decide +kernel
theorem dX6_sinksRoot_32 : decode cX6_sinksRoot 32 = .ok (.return_, 1) := by decide +kernel
set_option maxRecDepth 20000 in
theorem ggX6_comesRoot_X6_puts : GoodIn wsX6_comesRoot wsX6_puts := goodIn_r _ [7, 2, 1, 8, 9, 6, 10, 11, 12, 13, 14, 15, 16, 17, 18, 19, 20, 21, 22, 23, 24, 25, 26, 88, 89, 90, 91, 92, 93, 94, 95, 96, 97, 98, 99, 100, 101, 102] (by decide +kernel) (by decide +kernel)
set_option maxRecDepth 20000 in
theorem gX6_comesRoot_X6_puts : GoodIn wsX6_comesRoot (wsV RX6 98 RX6 yX6_puts wsX6_puts) := goodIn_app (goodIn_of _ (by decide +kernel)) ggX6_comesRoot_X6_puts
set_option maxRecDepth 20000 in
theorem ggX6_comesRoot_X6_isTooFull : GoodIn wsX6_comesRoot wsX6_isTooFull := goodIn_r _ [30, 2, 88, 89, 90, 91, 92, 93, 94, 95, 96, 97, 98, 99, 100, 101, 102] (by decide +kernel) (by decide +kernel)
set_option maxRecDepth 20000 in
theorem gX6_comesRoot_X6_isTooFull : GoodIn wsX6_comesRoot (wsV RX6 101 RX6 yX6_isTooFull wsX6_isTooFull) := goodIn_app (goodIn_of _ (by decide +kernel)) ggX6_comesRoot_X6_isTooFull
set_option maxRecDepth 20000 in
theorem ggX6_comesRoot_X6_chosen : GoodIn wsX6_comesRoot wsX6_chosen := goodIn_r _ [34, 35, 36, 37, 6, 38, 2, 39, 40, 41, 42, 43, 44, 8, 9, 10, 19, 20, 21, 22, 88, 89, 90, 91, 92, 93, 94, 95, 96, 97, 98, 99, 100, 101, 102] (by decide +kernel) (by decide +kernel)
set_option maxRecDepth 20000 in
theorem gX6_comesRoot_X6_chosen : GoodIn wsX6_comesRoot (wsV RX6 105 RX6 yX6_chosen wsX6_chosen) := goodIn_app (goodIn_of _ (by decide +kernel)) ggX6_comesRoot_X6_chosen
set_option maxRecDepth 20000 in
theorem ggX6_comesRoot_X6_sinksRoot : GoodIn wsX6_comesRoot wsX6_sinksRoot := goodIn_r _ [48, 49, 50, 51, 6, 52, 53, 2, 54, 39, 40, 41, 42, 43, 44, 8, 9, 10, 19, 20, 21, 22, 55, 56, 57, 58, 59, 60, 61, 62, 63, 64, 65, 1, 66, 67, 68, 69, 70, 71, 72, 3, 4, 5, 7, 11, 12, 13, 14, 15, 16, 17, 18, 23, 24, 25, 26, 27, 28, 29, 30, 31, 32, 33, 34, 35, 36, 37, 38, 73, 74, 75, 76, 77, 78, 79, 80, 81, 82, 83, 84, 85, 86, 87, 88, 89, 90, 91, 92, 93, 94, 95, 96, 97, 98, 99, 100, 101, 102] (by decide +kernel) (by decide +kernel)
set_option maxRecDepth 20000 in
theorem gX6_comesRoot_X6_sinksRoot : GoodIn wsX6_comesRoot (wsV RX6 120 RX6 yX6_sinksRoot wsX6_sinksRoot) := goodIn_app (goodIn_of _ (by decide +kernel)) ggX6_comesRoot_X6_sinksRoot
theorem dX6_comesRoot_0 : decode cX6_comesRoot 0 = .ok (.aload_n 0, 1) := by decide +kernel
theorem dX6_comesRoot_1 : decode cX6_comesRoot 1 = .ok (.getfield 26, 3) := by decide +kernel
theorem dX6_comesRoot_4 : decode cX6_comesRoot 4 = .ok (.sipush 288, 3) := by decide +kernel
theorem dX6_comesRoot_7 : decode cX6_comesRoot 7 = .ok (.iload_n 1, 1) := by decide +kernel
theorem dX6_comesRoot_8 : decode cX6_comesRoot 8 = .ok (.iastore, 1) := by decide +kernel
theorem dX6_comesRoot_9 : decode cX6_comesRoot 9 = .ok (.aload_n 0, 1) := by decide +kernel
theorem dX6_comesRoot_10 : decode cX6_comesRoot 10 = .ok (.getfield 26, 3) := by decide +kernel
theorem dX6_comesRoot_13 : decode cX6_comesRoot 13 = .ok (.sipush 289, 3) := by decide +kernel
theorem dX6_comesRoot_16 : decode cX6_comesRoot 16 = .ok (.iload_n 2, 1) := by decide +kernel
theorem dX6_comesRoot_17 : decode cX6_comesRoot 17 = .ok (.iastore, 1) := by decide +kernel
theorem dX6_comesRoot_18 : decode cX6_comesRoot 18 = .ok (.aload_n 0, 1) := by decide +kernel
theorem dX6_comesRoot_19 : decode cX6_comesRoot 19 = .ok (.getfield 26, 3) := by decide +kernel
theorem dX6_comesRoot_22 : decode cX6_comesRoot 22 = .ok (.sipush 290, 3) := by decide +kernel
theorem dX6_comesRoot_25 : decode cX6_comesRoot 25 = .ok (.iload_n 3, 1) := by decide +kernel
theorem dX6_comesRoot_26 : decode cX6_comesRoot 26 = .ok (.iastore, 1) := by decide +kernel
theorem dX6_comesRoot_27 : decode cX6_comesRoot 27 = .ok (.aload_n 0, 1) := by decide +kernel
theorem dX6_comesRoot_28 : decode cX6_comesRoot 28 = .ok (.getfield 26, 3) := by decide +kernel
theorem dX6_comesRoot_31 : decode cX6_comesRoot 31 = .ok (.sipush 291, 3) := by decide +kernel
theorem dX6_comesRoot_34 : decode cX6_comesRoot 34 = .ok (.iload 4, 2) := by decide +kernel
theorem dX6_comesRoot_36 : decode cX6_comesRoot 36 = .ok (.iastore, 1) := by decide +kernel
theorem dX6_comesRoot_37 : decode cX6_comesRoot 37 = .ok (.aload_n 0, 1) := by decide +kernel
theorem dX6_comesRoot_38 : decode cX6_comesRoot 38 = .ok (.getfield 7, 3) := by decide +kernel
theorem dX6_comesRoot_41 : decode cX6_comesRoot 41 = .ok (.iconst 2, 1) := by decide +kernel
theorem dX6_comesRoot_42 : decode cX6_comesRoot 42 = .ok (.dup2, 1) := by decide +kernel
theorem dX6_comesRoot_43 : decode cX6_comesRoot 43 = .ok (.iaload, 1) := by decide +kernel
theorem dX6_comesRoot_44 : decode cX6_comesRoot 44 = .ok (.iconst 1, 1) := by decide +kernel
theorem dX6_comesRoot_45 : decode cX6_comesRoot 45 = .ok (.iadd, 1) := by decide +kernel
theorem dX6_comesRoot_46 : decode cX6_comesRoot 46 = .ok (.iastore, 1) := by decide +kernel
theorem dX6_comesRoot_47 : decode cX6_comesRoot 47 = .ok (.aload_n 0, 1) := by decide +kernel
theorem dX6_comesRoot_48 : decode cX6_comesRoot 48 = .ok (.iconst 0, 1) := by decide +kernel
theorem dX6_comesRoot_49 : decode cX6_comesRoot 49 = .ok (.sipush 288, 3) := by decide +kernel
theorem dX6_comesRoot_52 : decode cX6_comesRoot 52 = .ok (.invokevirtual 98, 3) := by decide +kernel
theorem dX6_comesRoot_55 : decode cX6_comesRoot 55 = .ok (.aload_n 0, 1) := by decide +kernel
theorem dX6_comesRoot_56 : decode cX6_comesRoot 56 = .ok (.iconst 0, 1) := by decide +kernel
theorem dX6_comesRoot_57 : decode cX6_comesRoot 57 = .ok (.invokevirtual 101, 3) := by decide +kernel
theorem dX6_comesRoot_60 : decode cX6_comesRoot 60 = .ok (.ifCond .eq 15, 3) := by decide +kernel
theorem dX6_comesRoot_63 : decode cX6_comesRoot 63 = .ok (.aload_n 0, 1) := by decide +kernel
theorem dX6_comesRoot_64 : decode cX6_comesRoot 64 = .ok (.aload_n 0, 1) := by decide +kernel
theorem dX6_comesRoot_65 : decode cX6_comesRoot 65 = .ok (.iconst 0, 1) := by decide +kernel
theorem dX6_comesRoot_66 : decode cX6_comesRoot 66 = .ok (.invokevirtual 105, 3) := by decide +kernel
theorem dX6_comesRoot_69 : decode cX6_comesRoot 69 = .ok (.invokevirtual 120, 3) := by decide +kernel
theorem dX6_comesRoot_72 : decode cX6_comesRoot 72 = .ok (.goto (-17), 3) := by decide +kernel
theorem dX6_comesRoot_75 : decode cX6_comesRoot 75 = .ok (.return_, 1) := by decide +kernel
set_option maxRecDepth 20000 in
theorem ggX6_empties_X6_sinksRoot : GoodIn wsX6_empties wsX6_sinksRoot := goodIn_r _ [5, 6, 7, 8, 4, 9, 10, 11, 12, 13, 14, 15, 16, 17, 18, 19, 20, 21, 22, 23, 24, 25, 26, 27, 28, 29, 30, 31, 32, 33, 34, 35, 36, 37, 38, 39, 40, 41, 42, 43, 44, 45, 46, 47, 48, 49, 50, 51, 52, 53, 54, 55, 56, 57, 58, 59, 60, 61, 62, 63, 64, 65, 66, 67, 68, 69, 70, 71, 72, 73, 74, 75, 76, 77, 78, 79, 80, 81, 82, 83, 84, 85, 86, 87, 88, 89, 90, 91, 92, 93, 94, 95, 96, 97, 98, 99, 100, 101, 102] (by decide +kernel) (by decide +kernel)
set_option maxRecDepth 20000 in
theorem gX6_empties_X6_sinksRoot : GoodIn wsX6_empties (wsV RX6 120 RX6 yX6_sinksRoot wsX6_sinksRoot) := goodIn_app (goodIn_of _ (by decide +kernel)) ggX6_empties_X6_sinksRoot
set_option maxRecDepth 20000 in
theorem ggX6_empties_X6_sinksMiddle : GoodIn wsX6_empties wsX6_sinksMiddle := goodIn_r _ [76, 6, 7, 8, 4, 9, 10, 11, 12, 13, 14, 15, 16, 17, 18, 19, 20, 21, 22, 23, 24, 25, 26, 27, 28, 29, 30, 31, 32, 33, 34, 35, 36, 37, 38, 39, 40, 77, 78, 79, 80, 45, 46, 47, 48, 49, 50, 51, 52, 53, 54, 55, 56, 57, 58, 59, 60, 61, 62, 63, 64, 65, 66, 67, 68, 69, 70, 71, 72, 81, 82, 83, 84, 85, 86, 87, 88, 89, 90, 91, 92, 93, 94, 95, 96, 97, 98, 99, 100, 101, 102] (by decide +kernel) (by decide +kernel)
set_option maxRecDepth 20000 in
theorem gX6_empties_X6_sinksMiddle : GoodIn wsX6_empties (wsV RX6 114 RX6 yX6_sinksMiddle wsX6_sinksMiddle) := goodIn_app (goodIn_of _ (by decide +kernel)) ggX6_empties_X6_sinksMiddle
set_option maxRecDepth 20000 in
theorem ggX6_empties_X6_sinksLow : GoodIn wsX6_empties wsX6_sinksLow := goodIn_r _ [84, 11, 37, 6, 7, 8, 4, 9, 10, 12, 13, 14, 15, 16, 17, 18, 19, 20, 21, 22, 23, 24, 25, 26, 27, 28, 29, 30, 31, 32, 33, 34, 35, 36, 38, 39, 40, 85, 86, 87, 88, 89, 90, 91, 92, 93, 94, 95, 96, 97, 98, 99, 100, 101, 102] (by decide +kernel) (by decide +kernel)
set_option maxRecDepth 20000 in
theorem gX6_empties_X6_sinksLow : GoodIn wsX6_empties (wsV RX6 108 RX6 yX6_sinksLow wsX6_sinksLow) := goodIn_app (goodIn_of _ (by decide +kernel)) ggX6_empties_X6_sinksLow
theorem dX6_empties_0 : decode cX6_empties 0 = .ok (.iconst 0, 1) := by decide +kernel
theorem dX6_empties_1 : decode cX6_empties 1 = .ok (.istore_n 2, 1) := by decide +kernel
theorem dX6_empties_2 : decode cX6_empties 2 = .ok (.iload_n 2, 1) := by decide +kernel
theorem dX6_empties_3 : decode cX6_empties 3 = .ok (.iconst 3, 1) := by decide +kernel
theorem dX6_empties_4 : decode cX6_empties 4 = .ok (.if_icmp .ge 41, 3) := by decide +kernel
theorem dX6_empties_7 : decode cX6_empties 7 = .ok (.iload_n 1, 1) := by decide +kernel
theorem dX6_empties_8 : decode cX6_empties 8 = .ok (.ifCond .ne 11, 3) := by decide +kernel
theorem dX6_empties_11 : decode cX6_empties 11 = .ok (.aload_n 0, 1) := by decide +kernel
theorem dX6_empties_12 : decode cX6_empties 12 = .ok (.iload_n 2, 1) := by decide +kernel
theorem dX6_empties_13 : decode cX6_empties 13 = .ok (.invokevirtual 120, 3) := by decide +kernel
theorem dX6_empties_16 : decode cX6_empties 16 = .ok (.goto 23, 3) := by decide +kernel
theorem dX6_empties_19 : decode cX6_empties 19 = .ok (.iload_n 1, 1) := by decide +kernel
theorem dX6_empties_20 : decode cX6_empties 20 = .ok (.iconst 4, 1) := by decide +kernel
theorem dX6_empties_21 : decode cX6_empties 21 = .ok (.if_icmp .ge 12, 3) := by decide +kernel
theorem dX6_empties_24 : decode cX6_empties 24 = .ok (.aload_n 0, 1) := by decide +kernel
theorem dX6_empties_25 : decode cX6_empties 25 = .ok (.iload_n 1, 1) := by decide +kernel
theorem dX6_empties_26 : decode cX6_empties 26 = .ok (.iload_n 2, 1) := by decide +kernel
theorem dX6_empties_27 : decode cX6_empties 27 = .ok (.invokevirtual 114, 3) := by decide +kernel
theorem dX6_empties_30 : decode cX6_empties 30 = .ok (.goto 9, 3) := by decide +kernel
theorem dX6_empties_33 : decode cX6_empties 33 = .ok (.aload_n 0, 1) := by decide +kernel
theorem dX6_empties_34 : decode cX6_empties 34 = .ok (.iload_n 1, 1) := by decide +kernel
theorem dX6_empties_35 : decode cX6_empties 35 = .ok (.iload_n 2, 1) := by decide +kernel
theorem dX6_empties_36 : decode cX6_empties 36 = .ok (.invokevirtual 108, 3) := by decide +kernel
theorem dX6_empties_39 : decode cX6_empties 39 = .ok (.iinc 2 1, 3) := by decide +kernel
theorem dX6_empties_42 : decode cX6_empties 42 = .ok (.goto (-40), 3) := by decide +kernel
theorem dX6_empties_45 : decode cX6_empties 45 = .ok (.return_, 1) := by decide +kernel
set_option maxRecDepth 20000 in
theorem ggX6_set_X6_in : GoodIn wsX6_set wsX6_in := goodIn_r _ [5] (by decide +kernel) (by decide +kernel)
set_option maxRecDepth 20000 in
theorem gX6_set_X6_in : GoodIn wsX6_set (va_wsS RX6 38 yX6_in wsX6_in) := goodIn_app (goodIn_of _ (by decide +kernel)) ggX6_set_X6_in
set_option maxRecDepth 20000 in
theorem ggX6_set_X6_record : GoodIn wsX6_set wsX6_record := goodIn_r _ [9, 10, 11, 1, 12, 13, 14, 15, 16, 17, 18, 19, 20, 21, 22, 23, 24, 25, 26] (by decide +kernel) (by decide +kernel)
set_option maxRecDepth 20000 in
theorem gX6_set_X6_record : GoodIn wsX6_set (wsV RX6 123 RX6 yX6_record wsX6_record) := goodIn_app (goodIn_of _ (by decide +kernel)) ggX6_set_X6_record
theorem dX6_set_0 : decode cX6_set 0 = .ok (.iload_n 1, 1) := by decide +kernel
theorem dX6_set_1 : decode cX6_set 1 = .ok (.ifCond .ne 13, 3) := by decide +kernel
theorem dX6_set_4 : decode cX6_set 4 = .ok (.iload_n 2, 1) := by decide +kernel
theorem dX6_set_5 : decode cX6_set 5 = .ok (.iconst 1, 1) := by decide +kernel
theorem dX6_set_6 : decode cX6_set 6 = .ok (.bipush 10, 2) := by decide +kernel
theorem dX6_set_8 : decode cX6_set 8 = .ok (.invokestatic 38, 3) := by decide +kernel
theorem dX6_set_11 : decode cX6_set 11 = .ok (.goto 22, 3) := by decide +kernel
theorem dX6_set_14 : decode cX6_set 14 = .ok (.iload_n 1, 1) := by decide +kernel
theorem dX6_set_15 : decode cX6_set 15 = .ok (.iconst 1, 1) := by decide +kernel
theorem dX6_set_16 : decode cX6_set 16 = .ok (.if_icmp .ne 16, 3) := by decide +kernel
theorem dX6_set_19 : decode cX6_set 19 = .ok (.iload_n 2, 1) := by decide +kernel
theorem dX6_set_20 : decode cX6_set 20 = .ok (.iconst 0, 1) := by decide +kernel
theorem dX6_set_21 : decode cX6_set 21 = .ok (.iconst 1, 1) := by decide +kernel
theorem dX6_set_22 : decode cX6_set 22 = .ok (.invokestatic 38, 3) := by decide +kernel
theorem dX6_set_25 : decode cX6_set 25 = .ok (.ifCond .eq 7, 3) := by decide +kernel
theorem dX6_set_28 : decode cX6_set 28 = .ok (.iconst 1, 1) := by decide +kernel
theorem dX6_set_29 : decode cX6_set 29 = .ok (.goto 4, 3) := by decide +kernel
theorem dX6_set_32 : decode cX6_set 32 = .ok (.iconst 0, 1) := by decide +kernel
theorem dX6_set_33 : decode cX6_set 33 = .ok (.istore_n 3, 1) := by decide +kernel
theorem dX6_set_34 : decode cX6_set 34 = .ok (.iload_n 3, 1) := by decide +kernel
theorem dX6_set_35 : decode cX6_set 35 = .ok (.ifCond .ne 6, 3) := by decide +kernel
theorem dX6_set_38 : decode cX6_set 38 = .ok (.bipush (-2), 2) := by decide +kernel
theorem dX6_set_40 : decode cX6_set 40 = .ok (.ireturn, 1) := by decide +kernel
theorem dX6_set_41 : decode cX6_set 41 = .ok (.aload_n 0, 1) := by decide +kernel
theorem dX6_set_42 : decode cX6_set 42 = .ok (.invokevirtual 123, 3) := by decide +kernel
theorem dX6_set_45 : decode cX6_set 45 = .ok (.aload_n 0, 1) := by decide +kernel
theorem dX6_set_46 : decode cX6_set 46 = .ok (.getfield 7, 3) := by decide +kernel
theorem dX6_set_49 : decode cX6_set 49 = .ok (.iload_n 1, 1) := by decide +kernel
theorem dX6_set_50 : decode cX6_set 50 = .ok (.iaload, 1) := by decide +kernel
theorem dX6_set_51 : decode cX6_set 51 = .ok (.istore 4, 2) := by decide +kernel
theorem dX6_set_53 : decode cX6_set 53 = .ok (.aload_n 0, 1) := by decide +kernel
theorem dX6_set_54 : decode cX6_set 54 = .ok (.getfield 7, 3) := by decide +kernel
theorem dX6_set_57 : decode cX6_set 57 = .ok (.iload_n 1, 1) := by decide +kernel
theorem dX6_set_58 : decode cX6_set 58 = .ok (.iload_n 2, 1) := by decide +kernel
theorem dX6_set_59 : decode cX6_set 59 = .ok (.iastore, 1) := by decide +kernel
theorem dX6_set_60 : decode cX6_set 60 = .ok (.iload 4, 2) := by decide +kernel
theorem dX6_set_62 : decode cX6_set 62 = .ok (.ireturn, 1) := by decide +kernel
set_option maxRecDepth 20000 in
theorem ggX6_send_X6_in : GoodIn wsX6_send wsX6_in := goodIn_r _ [4] (by decide +kernel) (by decide +kernel)
set_option maxRecDepth 20000 in
theorem gX6_send_X6_in : GoodIn wsX6_send (va_wsS RX6 38 yX6_in wsX6_in) := goodIn_app (goodIn_of _ (by decide +kernel)) ggX6_send_X6_in
set_option maxRecDepth 20000 in
theorem ggX6_send_X6_isKey : GoodIn wsX6_send wsX6_isKey := goodIn_r _ [7, 1, 2, 3, 4] (by decide +kernel) (by decide +kernel)
set_option maxRecDepth 20000 in
theorem gX6_send_X6_isKey : GoodIn wsX6_send (va_wsS RX6 126 yX6_isKey wsX6_isKey) := goodIn_app (goodIn_of _ (by decide +kernel)) ggX6_send_X6_isKey
set_option maxRecDepth 20000 in
theorem ggX6_send_X6_record : GoodIn wsX6_send wsX6_record := goodIn_r _ [11, 12, 13, 14, 108, 109, 110, 111, 112, 113, 114, 115, 116, 117, 118, 119, 120, 121, 122] (by decide +kernel) (by decide +kernel)
set_option maxRecDepth 20000 in
theorem gX6_send_X6_record : GoodIn wsX6_send (wsV RX6 123 RX6 yX6_record wsX6_record) := goodIn_app (goodIn_of _ (by decide +kernel)) ggX6_send_X6_record
set_option maxRecDepth 20000 in
theorem ggX6_send_X6_comesRoot : GoodIn wsX6_send wsX6_comesRoot := goodIn_r _ [18, 19, 14, 20, 21, 22, 3, 23, 24, 25, 26, 27, 28, 29, 30, 31, 32, 33, 34, 35, 36, 37, 38, 39, 40, 41, 42, 43, 44, 45, 46, 47, 48, 49, 50, 51, 52, 53, 54, 55, 56, 57, 58, 59, 60, 61, 62, 63, 64, 65, 66, 67, 68, 69, 70, 71, 72, 73, 74, 75, 76, 77, 78, 79, 80, 81, 82, 83, 84, 85, 86, 87, 88, 89, 90, 91, 92, 93, 94, 95, 96, 97, 98, 99, 100, 101, 102, 103, 108, 109, 110, 111, 112, 113, 114, 115, 116, 117, 118, 119, 120, 121, 122] (by decide +kernel) (by decide +kernel)
set_option maxRecDepth 20000 in
theorem gX6_send_X6_comesRoot : GoodIn wsX6_send (wsV RX6 129 RX6 yX6_comesRoot wsX6_comesRoot) := goodIn_app (goodIn_of _ (by decide +kernel)) ggX6_send_X6_comesRoot
set_option maxRecDepth 20000 in
theorem ggX6_send_X6_allStones : GoodIn wsX6_send wsX6_allStones := goodIn_r _ [107, 14, 108, 109, 110, 111, 112, 113, 114, 115, 116, 117, 118, 119, 120, 121, 122] (by decide +kernel) (by decide +kernel)
set_option maxRecDepth 20000 in
theorem gX6_send_X6_allStones : GoodIn wsX6_send (wsV RX6 132 RX6 yX6_allStones wsX6_allStones) := goodIn_app (goodIn_of _ (by decide +kernel)) ggX6_send_X6_allStones
theorem dX6_send_0 : decode cX6_send 0 = .ok (.iload_n 1, 1) := by decide +kernel
theorem dX6_send_1 : decode cX6_send 1 = .ok (.iconst 0, 1) := by decide +kernel
theorem dX6_send_2 : decode cX6_send 2 = .ok (.iconst 2, 1) := by decide +kernel
theorem dX6_send_3 : decode cX6_send 3 = .ok (.invokestatic 38, 3) := by decide +kernel
theorem dX6_send_6 : decode cX6_send 6 = .ok (.ifCond .eq 24, 3) := by decide +kernel
theorem dX6_send_9 : decode cX6_send 9 = .ok (.iload 4, 2) := by decide +kernel
theorem dX6_send_11 : decode cX6_send 11 = .ok (.iconst 0, 1) := by decide +kernel
theorem dX6_send_12 : decode cX6_send 12 = .ok (.iload_n 1, 1) := by decide +kernel
theorem dX6_send_13 : decode cX6_send 13 = .ok (.iconst 2, 1) := by decide +kernel
theorem dX6_send_14 : decode cX6_send 14 = .ok (.if_icmp .ne 7, 3) := by decide +kernel
theorem dX6_send_17 : decode cX6_send 17 = .ok (.iconst 0, 1) := by decide +kernel
theorem dX6_send_18 : decode cX6_send 18 = .ok (.goto 6, 3) := by decide +kernel
theorem dX6_send_21 : decode cX6_send 21 = .ok (.sipush 999, 3) := by decide +kernel
theorem dX6_send_24 : decode cX6_send 24 = .ok (.invokestatic 38, 3) := by decide +kernel
theorem dX6_send_27 : decode cX6_send 27 = .ok (.ifCond .ne 6, 3) := by decide +kernel
theorem dX6_send_30 : decode cX6_send 30 = .ok (.bipush (-2), 2) := by decide +kernel
theorem dX6_send_32 : decode cX6_send 32 = .ok (.ireturn, 1) := by decide +kernel
theorem dX6_send_33 : decode cX6_send 33 = .ok (.iload_n 2, 1) := by decide +kernel
theorem dX6_send_34 : decode cX6_send 34 = .ok (.invokestatic 126, 3) := by decide +kernel
theorem dX6_send_37 : decode cX6_send 37 = .ok (.ifCond .eq 25, 3) := by decide +kernel
theorem dX6_send_40 : decode cX6_send 40 = .ok (.iload_n 3, 1) := by decide +kernel
theorem dX6_send_41 : decode cX6_send 41 = .ok (.invokestatic 126, 3) := by decide +kernel
theorem dX6_send_44 : decode cX6_send 44 = .ok (.ifCond .eq 18, 3) := by decide +kernel
theorem dX6_send_47 : decode cX6_send 47 = .ok (.iload_n 3, 1) := by decide +kernel
theorem dX6_send_48 : decode cX6_send 48 = .ok (.iload_n 2, 1) := by decide +kernel
theorem dX6_send_49 : decode cX6_send 49 = .ok (.if_icmp .lt 13, 3) := by decide +kernel
theorem dX6_send_52 : decode cX6_send 52 = .ok (.iload_n 1, 1) := by decide +kernel
theorem dX6_send_53 : decode cX6_send 53 = .ok (.iconst 1, 1) := by decide +kernel
theorem dX6_send_54 : decode cX6_send 54 = .ok (.if_icmp .eq 10, 3) := by decide +kernel
theorem dX6_send_57 : decode cX6_send 57 = .ok (.iload_n 3, 1) := by decide +kernel
theorem dX6_send_58 : decode cX6_send 58 = .ok (.iload_n 2, 1) := by decide +kernel
theorem dX6_send_59 : decode cX6_send 59 = .ok (.if_icmp .eq 5, 3) := by decide +kernel
theorem dX6_send_62 : decode cX6_send 62 = .ok (.iconst (-1), 1) := by decide +kernel
theorem dX6_send_63 : decode cX6_send 63 = .ok (.ireturn, 1) := by decide +kernel
theorem dX6_send_64 : decode cX6_send 64 = .ok (.aload_n 0, 1) := by decide +kernel
theorem dX6_send_65 : decode cX6_send 65 = .ok (.invokevirtual 123, 3) := by decide +kernel
theorem dX6_send_68 : decode cX6_send 68 = .ok (.aload_n 0, 1) := by decide +kernel
theorem dX6_send_69 : decode cX6_send 69 = .ok (.iload_n 1, 1) := by decide +kernel
theorem dX6_send_70 : decode cX6_send 70 = .ok (.iload_n 2, 1) := by decide +kernel
theorem dX6_send_71 : decode cX6_send 71 = .ok (.iload_n 3, 1) := by decide +kernel
theorem dX6_send_72 : decode cX6_send 72 = .ok (.iload 4, 2) := by decide +kernel
theorem dX6_send_74 : decode cX6_send 74 = .ok (.invokevirtual 129, 3) := by decide +kernel
theorem dX6_send_77 : decode cX6_send 77 = .ok (.aload_n 0, 1) := by decide +kernel
theorem dX6_send_78 : decode cX6_send 78 = .ok (.invokevirtual 132, 3) := by decide +kernel
theorem dX6_send_81 : decode cX6_send 81 = .ok (.ireturn, 1) := by decide +kernel
set_option maxRecDepth 20000 in
theorem ggX6_empty_X6_isNode : GoodIn wsX6_empty wsX6_isNode := goodIn_r _ [4, 5, 6, 3, 7] (by decide +kernel) (by decide +kernel)
set_option maxRecDepth 20000 in
theorem gX6_empty_X6_isNode : GoodIn wsX6_empty (va_wsS RX6 136 yX6_isNode wsX6_isNode) := goodIn_app (goodIn_of _ (by decide +kernel)) ggX6_empty_X6_isNode
set_option maxRecDepth 20000 in
theorem ggX6_empty_X6_record : GoodIn wsX6_empty wsX6_record := goodIn_r _ [11, 12, 13, 14, 108, 109, 110, 111, 112, 113, 114, 115, 116, 117, 118, 119, 120, 121, 122] (by decide +kernel) (by decide +kernel)
set_option maxRecDepth 20000 in
theorem gX6_empty_X6_record : GoodIn wsX6_empty (wsV RX6 123 RX6 yX6_record wsX6_record) := goodIn_app (goodIn_of _ (by decide +kernel)) ggX6_empty_X6_record
set_option maxRecDepth 20000 in
theorem ggX6_empty_X6_empties : GoodIn wsX6_empty wsX6_empties := goodIn_r _ [18, 19, 20, 21, 3, 22, 23, 24, 25, 26, 27, 14, 28, 29, 30, 31, 32, 33, 34, 35, 36, 37, 38, 39, 40, 41, 42, 43, 44, 45, 46, 47, 48, 49, 50, 51, 52, 53, 54, 55, 56, 57, 58, 59, 60, 61, 62, 63, 64, 65, 66, 67, 68, 69, 70, 71, 72, 73, 74, 75, 76, 77, 78, 79, 80, 81, 82, 83, 84, 85, 86, 87, 88, 89, 90, 91, 92, 93, 94, 95, 96, 97, 98, 99, 100, 101, 102, 103, 108, 109, 110, 111, 112, 113, 114, 115, 116, 117, 118, 119, 120, 121, 122] (by decide +kernel) (by decide +kernel)
set_option maxRecDepth 20000 in
theorem gX6_empty_X6_empties : GoodIn wsX6_empty (wsV RX6 139 RX6 yX6_empties wsX6_empties) := goodIn_app (goodIn_of _ (by decide +kernel)) ggX6_empty_X6_empties
set_option maxRecDepth 20000 in
theorem ggX6_empty_X6_allStones : GoodIn wsX6_empty wsX6_allStones := goodIn_r _ [107, 14, 108, 109, 110, 111, 112, 113, 114, 115, 116, 117, 118, 119, 120, 121, 122] (by decide +kernel) (by decide +kernel)
set_option maxRecDepth 20000 in
theorem gX6_empty_X6_allStones : GoodIn wsX6_empty (wsV RX6 132 RX6 yX6_allStones wsX6_allStones) := goodIn_app (goodIn_of _ (by decide +kernel)) ggX6_empty_X6_allStones
theorem dX6_empty_0 : decode cX6_empty 0 = .ok (.iload_n 1, 1) := by decide +kernel
theorem dX6_empty_1 : decode cX6_empty 1 = .ok (.invokestatic 136, 3) := by decide +kernel
theorem dX6_empty_4 : decode cX6_empty 4 = .ok (.ifCond .ne 5, 3) := by decide +kernel
theorem dX6_empty_7 : decode cX6_empty 7 = .ok (.iconst (-1), 1) := by decide +kernel
theorem dX6_empty_8 : decode cX6_empty 8 = .ok (.ireturn, 1) := by decide +kernel
theorem dX6_empty_9 : decode cX6_empty 9 = .ok (.aload_n 0, 1) := by decide +kernel
theorem dX6_empty_10 : decode cX6_empty 10 = .ok (.invokevirtual 123, 3) := by decide +kernel
theorem dX6_empty_13 : decode cX6_empty 13 = .ok (.aload_n 0, 1) := by decide +kernel
theorem dX6_empty_14 : decode cX6_empty 14 = .ok (.iload_n 1, 1) := by decide +kernel
theorem dX6_empty_15 : decode cX6_empty 15 = .ok (.invokevirtual 139, 3) := by decide +kernel
theorem dX6_empty_18 : decode cX6_empty 18 = .ok (.aload_n 0, 1) := by decide +kernel
theorem dX6_empty_19 : decode cX6_empty 19 = .ok (.invokevirtual 132, 3) := by decide +kernel
theorem dX6_empty_22 : decode cX6_empty 22 = .ok (.ireturn, 1) := by decide +kernel
set_option maxRecDepth 20000 in
theorem ggX6_throughNode_X6_place : GoodIn wsX6_throughNode wsX6_place := goodIn_r _ [5] (by decide +kernel) (by decide +kernel)
set_option maxRecDepth 20000 in
theorem gX6_throughNode_X6_place : GoodIn wsX6_throughNode (va_wsS RX6 53 yX6_place wsX6_place) := goodIn_app (goodIn_of _ (by decide +kernel)) ggX6_throughNode_X6_place
set_option maxRecDepth 20000 in
theorem ggX6_throughNode_X6_has : GoodIn wsX6_throughNode wsX6_has := goodIn_r _ [9, 1, 13, 14, 15, 16, 17, 18, 19, 20, 21, 22, 23, 24, 25, 26, 27] (by decide +kernel) (by decide +kernel)
set_option maxRecDepth 20000 in
theorem gX6_throughNode_X6_has : GoodIn wsX6_throughNode (wsV RX6 57 RX6 yX6_has wsX6_has) := goodIn_app (goodIn_of _ (by decide +kernel)) ggX6_throughNode_X6_has
set_option maxRecDepth 20000 in
theorem ggX6_throughNode_X6_applied : GoodIn wsX6_throughNode wsX6_applied := goodIn_r _ [12] (by decide +kernel) (by decide +kernel)
set_option maxRecDepth 20000 in
theorem gX6_throughNode_X6_applied : GoodIn wsX6_throughNode (va_wsS RX6 94 yX6_applied wsX6_applied) := goodIn_app (goodIn_of _ (by decide +kernel)) ggX6_throughNode_X6_applied
theorem dX6_throughNode_0 : decode cX6_throughNode 0 = .ok (.iload_n 3, 1) := by decide +kernel
theorem dX6_throughNode_1 : decode cX6_throughNode 1 = .ok (.istore 4, 2) := by decide +kernel
theorem dX6_throughNode_3 : decode cX6_throughNode 3 = .ok (.iconst 0, 1) := by decide +kernel
theorem dX6_throughNode_4 : decode cX6_throughNode 4 = .ok (.istore 5, 2) := by decide +kernel
theorem dX6_throughNode_6 : decode cX6_throughNode 6 = .ok (.iload 5, 2) := by decide +kernel
theorem dX6_throughNode_8 : decode cX6_throughNode 8 = .ok (.aload_n 0, 1) := by decide +kernel
theorem dX6_throughNode_9 : decode cX6_throughNode 9 = .ok (.getfield 7, 3) := by decide +kernel
theorem dX6_throughNode_12 : decode cX6_throughNode 12 = .ok (.bipush 72, 2) := by decide +kernel
theorem dX6_throughNode_14 : decode cX6_throughNode 14 = .ok (.iload_n 1, 1) := by decide +kernel
theorem dX6_throughNode_15 : decode cX6_throughNode 15 = .ok (.iadd, 1) := by decide +kernel
theorem dX6_throughNode_16 : decode cX6_throughNode 16 = .ok (.iaload, 1) := by decide +kernel
theorem dX6_throughNode_17 : decode cX6_throughNode 17 = .ok (.if_icmp .ge 56, 3) := by decide +kernel
theorem dX6_throughNode_20 : decode cX6_throughNode 20 = .ok (.iload_n 1, 1) := by decide +kernel
theorem dX6_throughNode_21 : decode cX6_throughNode 21 = .ok (.iload 5, 2) := by decide +kernel
theorem dX6_throughNode_23 : decode cX6_throughNode 23 = .ok (.invokestatic 53, 3) := by decide +kernel
theorem dX6_throughNode_26 : decode cX6_throughNode 26 = .ok (.istore 6, 2) := by decide +kernel
theorem dX6_throughNode_28 : decode cX6_throughNode 28 = .ok (.aload_n 0, 1) := by decide +kernel
theorem dX6_throughNode_29 : decode cX6_throughNode 29 = .ok (.iload 6, 2) := by decide +kernel
theorem dX6_throughNode_31 : decode cX6_throughNode 31 = .ok (.iload_n 2, 1) := by decide +kernel
theorem dX6_throughNode_32 : decode cX6_throughNode 32 = .ok (.iload_n 2, 1) := by decide +kernel
theorem dX6_throughNode_33 : decode cX6_throughNode 33 = .ok (.invokevirtual 57, 3) := by decide +kernel
theorem dX6_throughNode_36 : decode cX6_throughNode 36 = .ok (.ifCond .eq 27, 3) := by decide +kernel
theorem dX6_throughNode_39 : decode cX6_throughNode 39 = .ok (.iload 4, 2) := by decide +kernel
theorem dX6_throughNode_41 : decode cX6_throughNode 41 = .ok (.aload_n 0, 1) := by decide +kernel
theorem dX6_throughNode_42 : decode cX6_throughNode 42 = .ok (.getfield 7, 3) := by decide +kernel
theorem dX6_throughNode_45 : decode cX6_throughNode 45 = .ok (.iload 6, 2) := by decide +kernel
theorem dX6_throughNode_47 : decode cX6_throughNode 47 = .ok (.iaload, 1) := by decide +kernel
theorem dX6_throughNode_48 : decode cX6_throughNode 48 = .ok (.aload_n 0, 1) := by decide +kernel
theorem dX6_throughNode_49 : decode cX6_throughNode 49 = .ok (.getfield 7, 3) := by decide +kernel
theorem dX6_throughNode_52 : decode cX6_throughNode 52 = .ok (.iload 6, 2) := by decide +kernel
theorem dX6_throughNode_54 : decode cX6_throughNode 54 = .ok (.iconst 3, 1) := by decide +kernel
theorem dX6_throughNode_55 : decode cX6_throughNode 55 = .ok (.iadd, 1) := by decide +kernel
theorem dX6_throughNode_56 : decode cX6_throughNode 56 = .ok (.iaload, 1) := by decide +kernel
theorem dX6_throughNode_57 : decode cX6_throughNode 57 = .ok (.invokestatic 94, 3) := by decide +kernel
theorem dX6_throughNode_60 : decode cX6_throughNode 60 = .ok (.goto 5, 3) := by decide +kernel
theorem dX6_throughNode_63 : decode cX6_throughNode 63 = .ok (.iload 4, 2) := by decide +kernel
theorem dX6_throughNode_65 : decode cX6_throughNode 65 = .ok (.istore 4, 2) := by decide +kernel
theorem dX6_throughNode_67 : decode cX6_throughNode 67 = .ok (.iinc 5 1, 3) := by decide +kernel
theorem dX6_throughNode_70 : decode cX6_throughNode 70 = .ok (.goto (-64), 3) := by decide +kernel
theorem dX6_throughNode_73 : decode cX6_throughNode 73 = .ok (.iload 4, 2) := by decide +kernel
theorem dX6_throughNode_75 : decode cX6_throughNode 75 = .ok (.ireturn, 1) := by decide +kernel
set_option maxRecDepth 20000 in
theorem ggX6_readOf_X6_throughNode : GoodIn wsX6_readOf wsX6_throughNode := goodIn_r _ [6, 1, 7, 8, 5, 9, 10, 11, 12, 13, 14, 15, 16, 17, 18, 19, 20, 21, 22, 23, 24, 25, 26, 27, 28, 29, 30, 31] (by decide +kernel) (by decide +kernel)
set_option maxRecDepth 20000 in
theorem gX6_readOf_X6_throughNode : GoodIn wsX6_readOf (wsV RX6 142 RX6 yX6_throughNode wsX6_throughNode) := goodIn_app (goodIn_of _ (by decide +kernel)) ggX6_readOf_X6_throughNode
theorem dX6_readOf_0 : decode cX6_readOf 0 = .ok (.aload_n 0, 1) := by decide +kernel
theorem dX6_readOf_1 : decode cX6_readOf 1 = .ok (.iconst 4, 1) := by decide +kernel
theorem dX6_readOf_2 : decode cX6_readOf 2 = .ok (.iload_n 1, 1) := by decide +kernel
theorem dX6_readOf_3 : decode cX6_readOf 3 = .ok (.iconst 3, 1) := by decide +kernel
theorem dX6_readOf_4 : decode cX6_readOf 4 = .ok (.idiv, 1) := by decide +kernel
theorem dX6_readOf_5 : decode cX6_readOf 5 = .ok (.iadd, 1) := by decide +kernel
theorem dX6_readOf_6 : decode cX6_readOf 6 = .ok (.iload_n 1, 1) := by decide +kernel
theorem dX6_readOf_7 : decode cX6_readOf 7 = .ok (.aload_n 0, 1) := by decide +kernel
theorem dX6_readOf_8 : decode cX6_readOf 8 = .ok (.getfield 7, 3) := by decide +kernel
theorem dX6_readOf_11 : decode cX6_readOf 11 = .ok (.bipush 6, 2) := by decide +kernel
theorem dX6_readOf_13 : decode cX6_readOf 13 = .ok (.iload_n 1, 1) := by decide +kernel
theorem dX6_readOf_14 : decode cX6_readOf 14 = .ok (.iadd, 1) := by decide +kernel
theorem dX6_readOf_15 : decode cX6_readOf 15 = .ok (.iaload, 1) := by decide +kernel
theorem dX6_readOf_16 : decode cX6_readOf 16 = .ok (.invokevirtual 142, 3) := by decide +kernel
theorem dX6_readOf_19 : decode cX6_readOf 19 = .ok (.istore_n 2, 1) := by decide +kernel
theorem dX6_readOf_20 : decode cX6_readOf 20 = .ok (.aload_n 0, 1) := by decide +kernel
theorem dX6_readOf_21 : decode cX6_readOf 21 = .ok (.iconst 1, 1) := by decide +kernel
theorem dX6_readOf_22 : decode cX6_readOf 22 = .ok (.iload_n 1, 1) := by decide +kernel
theorem dX6_readOf_23 : decode cX6_readOf 23 = .ok (.bipush 9, 2) := by decide +kernel
theorem dX6_readOf_25 : decode cX6_readOf 25 = .ok (.idiv, 1) := by decide +kernel
theorem dX6_readOf_26 : decode cX6_readOf 26 = .ok (.iadd, 1) := by decide +kernel
theorem dX6_readOf_27 : decode cX6_readOf 27 = .ok (.iload_n 1, 1) := by decide +kernel
theorem dX6_readOf_28 : decode cX6_readOf 28 = .ok (.iload_n 2, 1) := by decide +kernel
theorem dX6_readOf_29 : decode cX6_readOf 29 = .ok (.invokevirtual 142, 3) := by decide +kernel
theorem dX6_readOf_32 : decode cX6_readOf 32 = .ok (.istore_n 3, 1) := by decide +kernel
theorem dX6_readOf_33 : decode cX6_readOf 33 = .ok (.aload_n 0, 1) := by decide +kernel
theorem dX6_readOf_34 : decode cX6_readOf 34 = .ok (.iconst 0, 1) := by decide +kernel
theorem dX6_readOf_35 : decode cX6_readOf 35 = .ok (.iload_n 1, 1) := by decide +kernel
theorem dX6_readOf_36 : decode cX6_readOf 36 = .ok (.iload_n 3, 1) := by decide +kernel
theorem dX6_readOf_37 : decode cX6_readOf 37 = .ok (.invokevirtual 142, 3) := by decide +kernel
theorem dX6_readOf_40 : decode cX6_readOf 40 = .ok (.ireturn, 1) := by decide +kernel
set_option maxRecDepth 20000 in
theorem ggX6_read_X6_isKey : GoodIn wsX6_read wsX6_isKey := goodIn_r _ [5, 6, 7, 4, 8] (by decide +kernel) (by decide +kernel)
set_option maxRecDepth 20000 in
theorem gX6_read_X6_isKey : GoodIn wsX6_read (va_wsS RX6 126 yX6_isKey wsX6_isKey) := goodIn_app (goodIn_of _ (by decide +kernel)) ggX6_read_X6_isKey
set_option maxRecDepth 20000 in
theorem ggX6_read_X6_record : GoodIn wsX6_read wsX6_record := goodIn_r _ [12, 13, 14, 1, 33, 34, 35, 36, 37, 38, 39, 40, 41, 42, 43, 44, 45, 46, 47] (by decide +kernel) (by decide +kernel)
set_option maxRecDepth 20000 in
theorem gX6_read_X6_record : GoodIn wsX6_read (wsV RX6 123 RX6 yX6_record wsX6_record) := goodIn_app (goodIn_of _ (by decide +kernel)) ggX6_read_X6_record
set_option maxRecDepth 20000 in
theorem ggX6_read_X6_readOf : GoodIn wsX6_read wsX6_readOf := goodIn_r _ [18, 1, 19, 20, 21, 4, 22, 23, 24, 25, 26, 27, 28, 29, 30, 31, 32, 33, 34, 35, 36, 37, 38, 39, 40, 41, 42, 43, 44, 45, 46, 47] (by decide +kernel) (by decide +kernel)
set_option maxRecDepth 20000 in
theorem gX6_read_X6_readOf : GoodIn wsX6_read (wsV RX6 145 RX6 yX6_readOf wsX6_readOf) := goodIn_app (goodIn_of _ (by decide +kernel)) ggX6_read_X6_readOf
theorem dX6_read_0 : decode cX6_read 0 = .ok (.iload_n 1, 1) := by decide +kernel
theorem dX6_read_1 : decode cX6_read 1 = .ok (.invokestatic 126, 3) := by decide +kernel
theorem dX6_read_4 : decode cX6_read 4 = .ok (.ifCond .ne 5, 3) := by decide +kernel
theorem dX6_read_7 : decode cX6_read 7 = .ok (.iconst (-1), 1) := by decide +kernel
theorem dX6_read_8 : decode cX6_read 8 = .ok (.ireturn, 1) := by decide +kernel
theorem dX6_read_9 : decode cX6_read 9 = .ok (.aload_n 0, 1) := by decide +kernel
theorem dX6_read_10 : decode cX6_read 10 = .ok (.invokevirtual 123, 3) := by decide +kernel
theorem dX6_read_13 : decode cX6_read 13 = .ok (.aload_n 0, 1) := by decide +kernel
theorem dX6_read_14 : decode cX6_read 14 = .ok (.getfield 7, 3) := by decide +kernel
theorem dX6_read_17 : decode cX6_read 17 = .ok (.iconst 5, 1) := by decide +kernel
theorem dX6_read_18 : decode cX6_read 18 = .ok (.dup2, 1) := by decide +kernel
theorem dX6_read_19 : decode cX6_read 19 = .ok (.iaload, 1) := by decide +kernel
theorem dX6_read_20 : decode cX6_read 20 = .ok (.iconst 3, 1) := by decide +kernel
theorem dX6_read_21 : decode cX6_read 21 = .ok (.iadd, 1) := by decide +kernel
theorem dX6_read_22 : decode cX6_read 22 = .ok (.iastore, 1) := by decide +kernel
theorem dX6_read_23 : decode cX6_read 23 = .ok (.aload_n 0, 1) := by decide +kernel
theorem dX6_read_24 : decode cX6_read 24 = .ok (.iload_n 1, 1) := by decide +kernel
theorem dX6_read_25 : decode cX6_read 25 = .ok (.invokevirtual 145, 3) := by decide +kernel
theorem dX6_read_28 : decode cX6_read 28 = .ok (.ireturn, 1) := by decide +kernel
set_option maxRecDepth 20000 in
theorem ggX6_stone_X6_isNode : GoodIn wsX6_stone wsX6_isNode := goodIn_r _ [5, 6, 7, 4, 8] (by decide +kernel) (by decide +kernel)
set_option maxRecDepth 20000 in
theorem gX6_stone_X6_isNode : GoodIn wsX6_stone (va_wsS RX6 136 yX6_isNode wsX6_isNode) := goodIn_app (goodIn_of _ (by decide +kernel)) ggX6_stone_X6_isNode
set_option maxRecDepth 20000 in
theorem ggX6_stone_X6_in : GoodIn wsX6_stone wsX6_in := goodIn_r _ [8] (by decide +kernel) (by decide +kernel)
set_option maxRecDepth 20000 in
theorem gX6_stone_X6_in : GoodIn wsX6_stone (va_wsS RX6 38 yX6_in wsX6_in) := goodIn_app (goodIn_of _ (by decide +kernel)) ggX6_stone_X6_in
theorem dX6_stone_0 : decode cX6_stone 0 = .ok (.iload_n 1, 1) := by decide +kernel
theorem dX6_stone_1 : decode cX6_stone 1 = .ok (.invokestatic 136, 3) := by decide +kernel
theorem dX6_stone_4 : decode cX6_stone 4 = .ok (.ifCond .eq 22, 3) := by decide +kernel
theorem dX6_stone_7 : decode cX6_stone 7 = .ok (.iload_n 2, 1) := by decide +kernel
theorem dX6_stone_8 : decode cX6_stone 8 = .ok (.iconst 0, 1) := by decide +kernel
theorem dX6_stone_9 : decode cX6_stone 9 = .ok (.aload_n 0, 1) := by decide +kernel
theorem dX6_stone_10 : decode cX6_stone 10 = .ok (.getfield 7, 3) := by decide +kernel
theorem dX6_stone_13 : decode cX6_stone 13 = .ok (.bipush 72, 2) := by decide +kernel
theorem dX6_stone_15 : decode cX6_stone 15 = .ok (.iload_n 1, 1) := by decide +kernel
theorem dX6_stone_16 : decode cX6_stone 16 = .ok (.iadd, 1) := by decide +kernel
theorem dX6_stone_17 : decode cX6_stone 17 = .ok (.iaload, 1) := by decide +kernel
theorem dX6_stone_18 : decode cX6_stone 18 = .ok (.iconst 1, 1) := by decide +kernel
theorem dX6_stone_19 : decode cX6_stone 19 = .ok (.isub, 1) := by decide +kernel
theorem dX6_stone_20 : decode cX6_stone 20 = .ok (.invokestatic 38, 3) := by decide +kernel
theorem dX6_stone_23 : decode cX6_stone 23 = .ok (.ifCond .ne 5, 3) := by decide +kernel
theorem dX6_stone_26 : decode cX6_stone 26 = .ok (.iconst (-1), 1) := by decide +kernel
theorem dX6_stone_27 : decode cX6_stone 27 = .ok (.ireturn, 1) := by decide +kernel
theorem dX6_stone_28 : decode cX6_stone 28 = .ok (.iload_n 3, 1) := by decide +kernel
theorem dX6_stone_29 : decode cX6_stone 29 = .ok (.iconst 0, 1) := by decide +kernel
theorem dX6_stone_30 : decode cX6_stone 30 = .ok (.iconst 3, 1) := by decide +kernel
theorem dX6_stone_31 : decode cX6_stone 31 = .ok (.invokestatic 38, 3) := by decide +kernel
theorem dX6_stone_34 : decode cX6_stone 34 = .ok (.ifCond .eq 24, 3) := by decide +kernel
theorem dX6_stone_37 : decode cX6_stone 37 = .ok (.aload_n 0, 1) := by decide +kernel
theorem dX6_stone_38 : decode cX6_stone 38 = .ok (.getfield 7, 3) := by decide +kernel
theorem dX6_stone_41 : decode cX6_stone 41 = .ok (.bipush 85, 2) := by decide +kernel
theorem dX6_stone_43 : decode cX6_stone 43 = .ok (.bipush 96, 2) := by decide +kernel
theorem dX6_stone_45 : decode cX6_stone 45 = .ok (.iload_n 1, 1) := by decide +kernel
theorem dX6_stone_46 : decode cX6_stone 46 = .ok (.imul, 1) := by decide +kernel
theorem dX6_stone_47 : decode cX6_stone 47 = .ok (.iadd, 1) := by decide +kernel
theorem dX6_stone_48 : decode cX6_stone 48 = .ok (.iconst 4, 1) := by decide +kernel
theorem dX6_stone_49 : decode cX6_stone 49 = .ok (.iload_n 2, 1) := by decide +kernel
theorem dX6_stone_50 : decode cX6_stone 50 = .ok (.imul, 1) := by decide +kernel
theorem dX6_stone_51 : decode cX6_stone 51 = .ok (.iadd, 1) := by decide +kernel
theorem dX6_stone_52 : decode cX6_stone 52 = .ok (.iload_n 3, 1) := by decide +kernel
theorem dX6_stone_53 : decode cX6_stone 53 = .ok (.iadd, 1) := by decide +kernel
theorem dX6_stone_54 : decode cX6_stone 54 = .ok (.iaload, 1) := by decide +kernel
theorem dX6_stone_55 : decode cX6_stone 55 = .ok (.goto 5, 3) := by decide +kernel
theorem dX6_stone_58 : decode cX6_stone 58 = .ok (.bipush (-2), 2) := by decide +kernel
theorem dX6_stone_60 : decode cX6_stone 60 = .ok (.ireturn, 1) := by decide +kernel
set_option maxRecDepth 20000 in
theorem ggX6_ofNode_X6_isNode : GoodIn wsX6_ofNode wsX6_isNode := goodIn_r _ [5, 6, 7, 4, 8] (by decide +kernel) (by decide +kernel)
set_option maxRecDepth 20000 in
theorem gX6_ofNode_X6_isNode : GoodIn wsX6_ofNode (va_wsS RX6 136 yX6_isNode wsX6_isNode) := goodIn_app (goodIn_of _ (by decide +kernel)) ggX6_ofNode_X6_isNode
set_option maxRecDepth 20000 in
theorem ggX6_ofNode_X6_firstOf : GoodIn wsX6_ofNode wsX6_firstOf := goodIn_r _ [11] (by decide +kernel) (by decide +kernel)
set_option maxRecDepth 20000 in
theorem gX6_ofNode_X6_firstOf : GoodIn wsX6_ofNode (va_wsS RX6 46 yX6_firstOf wsX6_firstOf) := goodIn_app (goodIn_of _ (by decide +kernel)) ggX6_ofNode_X6_firstOf
set_option maxRecDepth 20000 in
theorem ggX6_ofNode_X6_part : GoodIn wsX6_ofNode wsX6_part := goodIn_r _ [14] (by decide +kernel) (by decide +kernel)
set_option maxRecDepth 20000 in
theorem gX6_ofNode_X6_part : GoodIn wsX6_ofNode (va_wsS RX6 50 yX6_part wsX6_part) := goodIn_app (goodIn_of _ (by decide +kernel)) ggX6_ofNode_X6_part
theorem dX6_ofNode_0 : decode cX6_ofNode 0 = .ok (.iload_n 1, 1) := by decide +kernel
theorem dX6_ofNode_1 : decode cX6_ofNode 1 = .ok (.invokestatic 136, 3) := by decide +kernel
theorem dX6_ofNode_4 : decode cX6_ofNode 4 = .ok (.ifCond .ne 5, 3) := by decide +kernel
theorem dX6_ofNode_7 : decode cX6_ofNode 7 = .ok (.iconst (-1), 1) := by decide +kernel
theorem dX6_ofNode_8 : decode cX6_ofNode 8 = .ok (.ireturn, 1) := by decide +kernel
theorem dX6_ofNode_9 : decode cX6_ofNode 9 = .ok (.iload_n 2, 1) := by decide +kernel
theorem dX6_ofNode_10 : decode cX6_ofNode 10 = .ok (.tableswitch 97 0 5 #[38, 48, 53, 67, 77, 87], 38) := by decide +kernel
theorem dX6_ofNode_48 : decode cX6_ofNode 48 = .ok (.aload_n 0, 1) := by decide +kernel
theorem dX6_ofNode_49 : decode cX6_ofNode 49 = .ok (.getfield 7, 3) := by decide +kernel
theorem dX6_ofNode_52 : decode cX6_ofNode 52 = .ok (.bipush 72, 2) := by decide +kernel
theorem dX6_ofNode_54 : decode cX6_ofNode 54 = .ok (.iload_n 1, 1) := by decide +kernel
theorem dX6_ofNode_55 : decode cX6_ofNode 55 = .ok (.iadd, 1) := by decide +kernel
theorem dX6_ofNode_56 : decode cX6_ofNode 56 = .ok (.iaload, 1) := by decide +kernel
theorem dX6_ofNode_57 : decode cX6_ofNode 57 = .ok (.ireturn, 1) := by decide +kernel
theorem dX6_ofNode_58 : decode cX6_ofNode 58 = .ok (.iload_n 1, 1) := by decide +kernel
theorem dX6_ofNode_59 : decode cX6_ofNode 59 = .ok (.invokestatic 46, 3) := by decide +kernel
theorem dX6_ofNode_62 : decode cX6_ofNode 62 = .ok (.ireturn, 1) := by decide +kernel
theorem dX6_ofNode_63 : decode cX6_ofNode 63 = .ok (.iload_n 1, 1) := by decide +kernel
theorem dX6_ofNode_64 : decode cX6_ofNode 64 = .ok (.invokestatic 46, 3) := by decide +kernel
theorem dX6_ofNode_67 : decode cX6_ofNode 67 = .ok (.iconst 3, 1) := by decide +kernel
theorem dX6_ofNode_68 : decode cX6_ofNode 68 = .ok (.iload_n 1, 1) := by decide +kernel
theorem dX6_ofNode_69 : decode cX6_ofNode 69 = .ok (.invokestatic 50, 3) := by decide +kernel
theorem dX6_ofNode_72 : decode cX6_ofNode 72 = .ok (.imul, 1) := by decide +kernel
theorem dX6_ofNode_73 : decode cX6_ofNode 73 = .ok (.iadd, 1) := by decide +kernel
theorem dX6_ofNode_74 : decode cX6_ofNode 74 = .ok (.iconst 1, 1) := by decide +kernel
theorem dX6_ofNode_75 : decode cX6_ofNode 75 = .ok (.isub, 1) := by decide +kernel
theorem dX6_ofNode_76 : decode cX6_ofNode 76 = .ok (.ireturn, 1) := by decide +kernel
theorem dX6_ofNode_77 : decode cX6_ofNode 77 = .ok (.aload_n 0, 1) := by decide +kernel
theorem dX6_ofNode_78 : decode cX6_ofNode 78 = .ok (.getfield 7, 3) := by decide +kernel
theorem dX6_ofNode_81 : decode cX6_ofNode 81 = .ok (.bipush 33, 2) := by decide +kernel
theorem dX6_ofNode_83 : decode cX6_ofNode 83 = .ok (.iload_n 1, 1) := by decide +kernel
theorem dX6_ofNode_84 : decode cX6_ofNode 84 = .ok (.iadd, 1) := by decide +kernel
theorem dX6_ofNode_85 : decode cX6_ofNode 85 = .ok (.iaload, 1) := by decide +kernel
theorem dX6_ofNode_86 : decode cX6_ofNode 86 = .ok (.ireturn, 1) := by decide +kernel
theorem dX6_ofNode_87 : decode cX6_ofNode 87 = .ok (.aload_n 0, 1) := by decide +kernel
theorem dX6_ofNode_88 : decode cX6_ofNode 88 = .ok (.getfield 7, 3) := by decide +kernel
theorem dX6_ofNode_91 : decode cX6_ofNode 91 = .ok (.bipush 46, 2) := by decide +kernel
theorem dX6_ofNode_93 : decode cX6_ofNode 93 = .ok (.iload_n 1, 1) := by decide +kernel
theorem dX6_ofNode_94 : decode cX6_ofNode 94 = .ok (.iadd, 1) := by decide +kernel
theorem dX6_ofNode_95 : decode cX6_ofNode 95 = .ok (.iaload, 1) := by decide +kernel
theorem dX6_ofNode_96 : decode cX6_ofNode 96 = .ok (.ireturn, 1) := by decide +kernel
theorem dX6_ofNode_97 : decode cX6_ofNode 97 = .ok (.aload_n 0, 1) := by decide +kernel
theorem dX6_ofNode_98 : decode cX6_ofNode 98 = .ok (.getfield 7, 3) := by decide +kernel
theorem dX6_ofNode_101 : decode cX6_ofNode 101 = .ok (.bipush 59, 2) := by decide +kernel
theorem dX6_ofNode_103 : decode cX6_ofNode 103 = .ok (.iload_n 1, 1) := by decide +kernel
theorem dX6_ofNode_104 : decode cX6_ofNode 104 = .ok (.iadd, 1) := by decide +kernel
theorem dX6_ofNode_105 : decode cX6_ofNode 105 = .ok (.iaload, 1) := by decide +kernel
theorem dX6_ofNode_106 : decode cX6_ofNode 106 = .ok (.ireturn, 1) := by decide +kernel
theorem dX6_ofNode_107 : decode cX6_ofNode 107 = .ok (.bipush (-2), 2) := by decide +kernel
theorem dX6_ofNode_109 : decode cX6_ofNode 109 = .ok (.ireturn, 1) := by decide +kernel
set_option maxRecDepth 20000 in
theorem ggX6_with_X6_place : GoodIn wsX6_with wsX6_place := goodIn_r _ [5] (by decide +kernel) (by decide +kernel)
set_option maxRecDepth 20000 in
theorem gX6_with_X6_place : GoodIn wsX6_with (va_wsS RX6 53 yX6_place wsX6_place) := goodIn_app (goodIn_of _ (by decide +kernel)) ggX6_with_X6_place
set_option maxRecDepth 20000 in
theorem ggX6_with_X6_has : GoodIn wsX6_with wsX6_has := goodIn_r _ [9, 1, 10, 11, 12, 13, 14, 15, 16, 17, 18, 19, 20, 21, 22, 23, 24] (by decide +kernel) (by decide +kernel)
set_option maxRecDepth 20000 in
theorem gX6_with_X6_has : GoodIn wsX6_with (wsV RX6 57 RX6 yX6_has wsX6_has) := goodIn_app (goodIn_of _ (by decide +kernel)) ggX6_with_X6_has
theorem dX6_with_0 : decode cX6_with 0 = .ok (.iconst 0, 1) := by decide +kernel
theorem dX6_with_1 : decode cX6_with 1 = .ok (.istore_n 3, 1) := by decide +kernel
theorem dX6_with_2 : decode cX6_with 2 = .ok (.iconst 0, 1) := by decide +kernel
theorem dX6_with_3 : decode cX6_with 3 = .ok (.istore 4, 2) := by decide +kernel
theorem dX6_with_5 : decode cX6_with 5 = .ok (.iload 4, 2) := by decide +kernel
theorem dX6_with_7 : decode cX6_with 7 = .ok (.aload_n 0, 1) := by decide +kernel
theorem dX6_with_8 : decode cX6_with 8 = .ok (.getfield 7, 3) := by decide +kernel
theorem dX6_with_11 : decode cX6_with 11 = .ok (.bipush 72, 2) := by decide +kernel
theorem dX6_with_13 : decode cX6_with 13 = .ok (.iload_n 1, 1) := by decide +kernel
theorem dX6_with_14 : decode cX6_with 14 = .ok (.iadd, 1) := by decide +kernel
theorem dX6_with_15 : decode cX6_with 15 = .ok (.iaload, 1) := by decide +kernel
theorem dX6_with_16 : decode cX6_with 16 = .ok (.if_icmp .ge 32, 3) := by decide +kernel
theorem dX6_with_19 : decode cX6_with 19 = .ok (.iload_n 3, 1) := by decide +kernel
theorem dX6_with_20 : decode cX6_with 20 = .ok (.aload_n 0, 1) := by decide +kernel
theorem dX6_with_21 : decode cX6_with 21 = .ok (.iload_n 1, 1) := by decide +kernel
theorem dX6_with_22 : decode cX6_with 22 = .ok (.iload 4, 2) := by decide +kernel
theorem dX6_with_24 : decode cX6_with 24 = .ok (.invokestatic 53, 3) := by decide +kernel
theorem dX6_with_27 : decode cX6_with 27 = .ok (.iload_n 2, 1) := by decide +kernel
theorem dX6_with_28 : decode cX6_with 28 = .ok (.iload_n 2, 1) := by decide +kernel
theorem dX6_with_29 : decode cX6_with 29 = .ok (.invokevirtual 57, 3) := by decide +kernel
theorem dX6_with_32 : decode cX6_with 32 = .ok (.ifCond .eq 7, 3) := by decide +kernel
theorem dX6_with_35 : decode cX6_with 35 = .ok (.iconst 1, 1) := by decide +kernel
theorem dX6_with_36 : decode cX6_with 36 = .ok (.goto 4, 3) := by decide +kernel
theorem dX6_with_39 : decode cX6_with 39 = .ok (.iconst 0, 1) := by decide +kernel
theorem dX6_with_40 : decode cX6_with 40 = .ok (.iadd, 1) := by decide +kernel
theorem dX6_with_41 : decode cX6_with 41 = .ok (.istore_n 3, 1) := by decide +kernel
theorem dX6_with_42 : decode cX6_with 42 = .ok (.iinc 4 1, 3) := by decide +kernel
theorem dX6_with_45 : decode cX6_with 45 = .ok (.goto (-40), 3) := by decide +kernel
theorem dX6_with_48 : decode cX6_with 48 = .ok (.iload_n 3, 1) := by decide +kernel
theorem dX6_with_49 : decode cX6_with 49 = .ok (.ireturn, 1) := by decide +kernel
set_option maxRecDepth 20000 in
theorem ggX6_ofKey_X6_isKey : GoodIn wsX6_ofKey wsX6_isKey := goodIn_r _ [5, 6, 7, 4, 8] (by decide +kernel) (by decide +kernel)
set_option maxRecDepth 20000 in
theorem gX6_ofKey_X6_isKey : GoodIn wsX6_ofKey (va_wsS RX6 126 yX6_isKey wsX6_isKey) := goodIn_app (goodIn_of _ (by decide +kernel)) ggX6_ofKey_X6_isKey
set_option maxRecDepth 20000 in
theorem ggX6_ofKey_X6_readOf : GoodIn wsX6_ofKey wsX6_readOf := goodIn_r _ [12, 1, 13, 14, 15, 4, 16, 17, 18, 19, 20, 21, 22, 23, 24, 25, 26, 31, 32, 33, 34, 35, 36, 37, 38, 39, 40, 41, 42, 43, 44, 45] (by decide +kernel) (by decide +kernel)
set_option maxRecDepth 20000 in
theorem gX6_ofKey_X6_readOf : GoodIn wsX6_ofKey (wsV RX6 145 RX6 yX6_readOf wsX6_readOf) := goodIn_app (goodIn_of _ (by decide +kernel)) ggX6_ofKey_X6_readOf
set_option maxRecDepth 20000 in
theorem ggX6_ofKey_X6_with : GoodIn wsX6_ofKey wsX6_with := goodIn_r _ [30, 1, 17, 18, 4, 19, 20, 21, 22, 23, 31, 32, 33, 34, 35, 36, 37, 38, 39, 40, 41, 42, 43, 44, 45] (by decide +kernel) (by decide +kernel)
set_option maxRecDepth 20000 in
theorem gX6_ofKey_X6_with : GoodIn wsX6_ofKey (wsV RX6 148 RX6 yX6_with wsX6_with) := goodIn_app (goodIn_of _ (by decide +kernel)) ggX6_ofKey_X6_with
theorem dX6_ofKey_0 : decode cX6_ofKey 0 = .ok (.iload_n 1, 1) := by decide +kernel
theorem dX6_ofKey_1 : decode cX6_ofKey 1 = .ok (.invokestatic 126, 3) := by decide +kernel
theorem dX6_ofKey_4 : decode cX6_ofKey 4 = .ok (.ifCond .ne 5, 3) := by decide +kernel
theorem dX6_ofKey_7 : decode cX6_ofKey 7 = .ok (.iconst (-1), 1) := by decide +kernel
theorem dX6_ofKey_8 : decode cX6_ofKey 8 = .ok (.ireturn, 1) := by decide +kernel
theorem dX6_ofKey_9 : decode cX6_ofKey 9 = .ok (.iconst 4, 1) := by decide +kernel
theorem dX6_ofKey_10 : decode cX6_ofKey 10 = .ok (.iload_n 1, 1) := by decide +kernel
theorem dX6_ofKey_11 : decode cX6_ofKey 11 = .ok (.iconst 3, 1) := by decide +kernel
theorem dX6_ofKey_12 : decode cX6_ofKey 12 = .ok (.idiv, 1) := by decide +kernel
theorem dX6_ofKey_13 : decode cX6_ofKey 13 = .ok (.iadd, 1) := by decide +kernel
theorem dX6_ofKey_14 : decode cX6_ofKey 14 = .ok (.istore_n 3, 1) := by decide +kernel
theorem dX6_ofKey_15 : decode cX6_ofKey 15 = .ok (.iconst 1, 1) := by decide +kernel
theorem dX6_ofKey_16 : decode cX6_ofKey 16 = .ok (.iload_n 1, 1) := by decide +kernel
theorem dX6_ofKey_17 : decode cX6_ofKey 17 = .ok (.bipush 9, 2) := by decide +kernel
theorem dX6_ofKey_19 : decode cX6_ofKey 19 = .ok (.idiv, 1) := by decide +kernel
theorem dX6_ofKey_20 : decode cX6_ofKey 20 = .ok (.iadd, 1) := by decide +kernel
theorem dX6_ofKey_21 : decode cX6_ofKey 21 = .ok (.istore 4, 2) := by decide +kernel
theorem dX6_ofKey_23 : decode cX6_ofKey 23 = .ok (.iload_n 2, 1) := by decide +kernel
theorem dX6_ofKey_24 : decode cX6_ofKey 24 = .ok (.tableswitch 114 0 3 #[32, 42, 48, 70], 32) := by decide +kernel
theorem dX6_ofKey_56 : decode cX6_ofKey 56 = .ok (.aload_n 0, 1) := by decide +kernel
theorem dX6_ofKey_57 : decode cX6_ofKey 57 = .ok (.getfield 7, 3) := by decide +kernel
theorem dX6_ofKey_60 : decode cX6_ofKey 60 = .ok (.bipush 6, 2) := by decide +kernel
theorem dX6_ofKey_62 : decode cX6_ofKey 62 = .ok (.iload_n 1, 1) := by decide +kernel
theorem dX6_ofKey_63 : decode cX6_ofKey 63 = .ok (.iadd, 1) := by decide +kernel
theorem dX6_ofKey_64 : decode cX6_ofKey 64 = .ok (.iaload, 1) := by decide +kernel
theorem dX6_ofKey_65 : decode cX6_ofKey 65 = .ok (.ireturn, 1) := by decide +kernel
theorem dX6_ofKey_66 : decode cX6_ofKey 66 = .ok (.aload_n 0, 1) := by decide +kernel
theorem dX6_ofKey_67 : decode cX6_ofKey 67 = .ok (.iload_n 1, 1) := by decide +kernel
theorem dX6_ofKey_68 : decode cX6_ofKey 68 = .ok (.invokevirtual 145, 3) := by decide +kernel
theorem dX6_ofKey_71 : decode cX6_ofKey 71 = .ok (.ireturn, 1) := by decide +kernel
theorem dX6_ofKey_72 : decode cX6_ofKey 72 = .ok (.aload_n 0, 1) := by decide +kernel
theorem dX6_ofKey_73 : decode cX6_ofKey 73 = .ok (.iload_n 3, 1) := by decide +kernel
theorem dX6_ofKey_74 : decode cX6_ofKey 74 = .ok (.iload_n 1, 1) := by decide +kernel
theorem dX6_ofKey_75 : decode cX6_ofKey 75 = .ok (.invokevirtual 148, 3) := by decide +kernel
theorem dX6_ofKey_78 : decode cX6_ofKey 78 = .ok (.aload_n 0, 1) := by decide +kernel
theorem dX6_ofKey_79 : decode cX6_ofKey 79 = .ok (.iload 4, 2) := by decide +kernel
theorem dX6_ofKey_81 : decode cX6_ofKey 81 = .ok (.iload_n 1, 1) := by decide +kernel
theorem dX6_ofKey_82 : decode cX6_ofKey 82 = .ok (.invokevirtual 148, 3) := by decide +kernel
theorem dX6_ofKey_85 : decode cX6_ofKey 85 = .ok (.iadd, 1) := by decide +kernel
theorem dX6_ofKey_86 : decode cX6_ofKey 86 = .ok (.aload_n 0, 1) := by decide +kernel
theorem dX6_ofKey_87 : decode cX6_ofKey 87 = .ok (.iconst 0, 1) := by decide +kernel
theorem dX6_ofKey_88 : decode cX6_ofKey 88 = .ok (.iload_n 1, 1) := by decide +kernel
theorem dX6_ofKey_89 : decode cX6_ofKey 89 = .ok (.invokevirtual 148, 3) := by decide +kernel
theorem dX6_ofKey_92 : decode cX6_ofKey 92 = .ok (.iadd, 1) := by decide +kernel
theorem dX6_ofKey_93 : decode cX6_ofKey 93 = .ok (.ireturn, 1) := by decide +kernel
theorem dX6_ofKey_94 : decode cX6_ofKey 94 = .ok (.aload_n 0, 1) := by decide +kernel
theorem dX6_ofKey_95 : decode cX6_ofKey 95 = .ok (.iload_n 3, 1) := by decide +kernel
theorem dX6_ofKey_96 : decode cX6_ofKey 96 = .ok (.iload_n 1, 1) := by decide +kernel
theorem dX6_ofKey_97 : decode cX6_ofKey 97 = .ok (.invokevirtual 148, 3) := by decide +kernel
theorem dX6_ofKey_100 : decode cX6_ofKey 100 = .ok (.ifCond .le 7, 3) := by decide +kernel
theorem dX6_ofKey_103 : decode cX6_ofKey 103 = .ok (.iload_n 3, 1) := by decide +kernel
theorem dX6_ofKey_104 : decode cX6_ofKey 104 = .ok (.goto 33, 3) := by decide +kernel
theorem dX6_ofKey_107 : decode cX6_ofKey 107 = .ok (.aload_n 0, 1) := by decide +kernel
theorem dX6_ofKey_108 : decode cX6_ofKey 108 = .ok (.iload 4, 2) := by decide +kernel
theorem dX6_ofKey_110 : decode cX6_ofKey 110 = .ok (.iload_n 1, 1) := by decide +kernel
theorem dX6_ofKey_111 : decode cX6_ofKey 111 = .ok (.invokevirtual 148, 3) := by decide +kernel
theorem dX6_ofKey_114 : decode cX6_ofKey 114 = .ok (.ifCond .le 8, 3) := by decide +kernel
theorem dX6_ofKey_117 : decode cX6_ofKey 117 = .ok (.iload 4, 2) := by decide +kernel
theorem dX6_ofKey_119 : decode cX6_ofKey 119 = .ok (.goto 18, 3) := by decide +kernel
theorem dX6_ofKey_122 : decode cX6_ofKey 122 = .ok (.aload_n 0, 1) := by decide +kernel
theorem dX6_ofKey_123 : decode cX6_ofKey 123 = .ok (.iconst 0, 1) := by decide +kernel
theorem dX6_ofKey_124 : decode cX6_ofKey 124 = .ok (.iload_n 1, 1) := by decide +kernel
theorem dX6_ofKey_125 : decode cX6_ofKey 125 = .ok (.invokevirtual 148, 3) := by decide +kernel
theorem dX6_ofKey_128 : decode cX6_ofKey 128 = .ok (.ifCond .le 7, 3) := by decide +kernel
theorem dX6_ofKey_131 : decode cX6_ofKey 131 = .ok (.iconst 0, 1) := by decide +kernel
theorem dX6_ofKey_132 : decode cX6_ofKey 132 = .ok (.goto 5, 3) := by decide +kernel
theorem dX6_ofKey_135 : decode cX6_ofKey 135 = .ok (.bipush (-6), 2) := by decide +kernel
theorem dX6_ofKey_137 : decode cX6_ofKey 137 = .ok (.ireturn, 1) := by decide +kernel
theorem dX6_ofKey_138 : decode cX6_ofKey 138 = .ok (.bipush (-2), 2) := by decide +kernel
theorem dX6_ofKey_140 : decode cX6_ofKey 140 = .ok (.ireturn, 1) := by decide +kernel
set_option maxRecDepth 20000 in
theorem ggX6_present_X6_readOf : GoodIn wsX6_present wsX6_readOf := goodIn_r _ [5, 6, 7, 8, 9, 4, 10, 11, 12, 13, 14, 15, 16, 17, 18, 19, 20, 21, 22, 23, 24, 25, 26, 27, 28, 29, 30, 31, 32, 33, 34, 35] (by decide +kernel) (by decide +kernel)
set_option maxRecDepth 20000 in
theorem gX6_present_X6_readOf : GoodIn wsX6_present (wsV RX6 145 RX6 yX6_readOf wsX6_readOf) := goodIn_app (goodIn_of _ (by decide +kernel)) ggX6_present_X6_readOf
theorem dX6_present_0 : decode cX6_present 0 = .ok (.iconst 0, 1) := by decide +kernel
theorem dX6_present_1 : decode cX6_present 1 = .ok (.istore_n 1, 1) := by decide +kernel
theorem dX6_present_2 : decode cX6_present 2 = .ok (.iconst 0, 1) := by decide +kernel
theorem dX6_present_3 : decode cX6_present 3 = .ok (.istore_n 2, 1) := by decide +kernel
theorem dX6_present_4 : decode cX6_present 4 = .ok (.iload_n 2, 1) := by decide +kernel
theorem dX6_present_5 : decode cX6_present 5 = .ok (.bipush 27, 2) := by decide +kernel
theorem dX6_present_7 : decode cX6_present 7 = .ok (.if_icmp .ge 27, 3) := by decide +kernel
theorem dX6_present_10 : decode cX6_present 10 = .ok (.iload_n 1, 1) := by decide +kernel
theorem dX6_present_11 : decode cX6_present 11 = .ok (.aload_n 0, 1) := by decide +kernel
theorem dX6_present_12 : decode cX6_present 12 = .ok (.iload_n 2, 1) := by decide +kernel
theorem dX6_present_13 : decode cX6_present 13 = .ok (.invokevirtual 145, 3) := by decide +kernel
theorem dX6_present_16 : decode cX6_present 16 = .ok (.bipush (-6), 2) := by decide +kernel
theorem dX6_present_18 : decode cX6_present 18 = .ok (.if_icmp .ne 7, 3) := by decide +kernel
theorem dX6_present_21 : decode cX6_present 21 = .ok (.iconst 0, 1) := by decide +kernel
theorem dX6_present_22 : decode cX6_present 22 = .ok (.goto 4, 3) := by decide +kernel
theorem dX6_present_25 : decode cX6_present 25 = .ok (.iconst 1, 1) := by decide +kernel
theorem dX6_present_26 : decode cX6_present 26 = .ok (.iadd, 1) := by decide +kernel
theorem dX6_present_27 : decode cX6_present 27 = .ok (.istore_n 1, 1) := by decide +kernel
theorem dX6_present_28 : decode cX6_present 28 = .ok (.iinc 2 1, 3) := by decide +kernel
theorem dX6_present_31 : decode cX6_present 31 = .ok (.goto (-27), 3) := by decide +kernel
theorem dX6_present_34 : decode cX6_present 34 = .ok (.iload_n 1, 1) := by decide +kernel
theorem dX6_present_35 : decode cX6_present 35 = .ok (.ireturn, 1) := by decide +kernel
set_option maxRecDepth 20000 in
theorem ggX6_count_X6_allStones : GoodIn wsX6_count wsX6_allStones := goodIn_r _ [8, 1, 34, 35, 36, 37, 38, 39, 40, 41, 42, 43, 44, 45, 46, 47, 48] (by decide +kernel) (by decide +kernel)
set_option maxRecDepth 20000 in
theorem gX6_count_X6_allStones : GoodIn wsX6_count (wsV RX6 132 RX6 yX6_allStones wsX6_allStones) := goodIn_app (goodIn_of _ (by decide +kernel)) ggX6_count_X6_allStones
set_option maxRecDepth 20000 in
theorem ggX6_count_X6_present : GoodIn wsX6_count wsX6_present := goodIn_r _ [12, 13, 14, 15, 7, 16, 1, 17, 18, 19, 20, 21, 22, 23, 24, 25, 26, 27, 28, 29, 30, 34, 35, 36, 37, 38, 39, 40, 41, 42, 43, 44, 45, 46, 47, 48] (by decide +kernel) (by decide +kernel)
set_option maxRecDepth 20000 in
theorem gX6_count_X6_present : GoodIn wsX6_count (wsV RX6 151 RX6 yX6_present wsX6_present) := goodIn_app (goodIn_of _ (by decide +kernel)) ggX6_count_X6_present
set_option maxRecDepth 20000 in
theorem ggX6_count_X6_in : GoodIn wsX6_count wsX6_in := goodIn_r _ [33] (by decide +kernel) (by decide +kernel)
set_option maxRecDepth 20000 in
theorem gX6_count_X6_in : GoodIn wsX6_count (va_wsS RX6 38 yX6_in wsX6_in) := goodIn_app (goodIn_of _ (by decide +kernel)) ggX6_count_X6_in
theorem dX6_count_0 : decode cX6_count 0 = .ok (.iload_n 1, 1) := by decide +kernel
theorem dX6_count_1 : decode cX6_count 1 = .ok (.tableswitch 78 0 7 #[47, 52, 52, 52, 52, 63, 68, 73], 47) := by decide +kernel
theorem dX6_count_48 : decode cX6_count 48 = .ok (.aload_n 0, 1) := by decide +kernel
theorem dX6_count_49 : decode cX6_count 49 = .ok (.invokevirtual 132, 3) := by decide +kernel
theorem dX6_count_52 : decode cX6_count 52 = .ok (.ireturn, 1) := by decide +kernel
theorem dX6_count_53 : decode cX6_count 53 = .ok (.aload_n 0, 1) := by decide +kernel
theorem dX6_count_54 : decode cX6_count 54 = .ok (.getfield 7, 3) := by decide +kernel
theorem dX6_count_57 : decode cX6_count 57 = .ok (.iconst 2, 1) := by decide +kernel
theorem dX6_count_58 : decode cX6_count 58 = .ok (.iload_n 1, 1) := by decide +kernel
theorem dX6_count_59 : decode cX6_count 59 = .ok (.iadd, 1) := by decide +kernel
theorem dX6_count_60 : decode cX6_count 60 = .ok (.iconst 1, 1) := by decide +kernel
theorem dX6_count_61 : decode cX6_count 61 = .ok (.isub, 1) := by decide +kernel
theorem dX6_count_62 : decode cX6_count 62 = .ok (.iaload, 1) := by decide +kernel
theorem dX6_count_63 : decode cX6_count 63 = .ok (.ireturn, 1) := by decide +kernel
theorem dX6_count_64 : decode cX6_count 64 = .ok (.aload_n 0, 1) := by decide +kernel
theorem dX6_count_65 : decode cX6_count 65 = .ok (.invokevirtual 151, 3) := by decide +kernel
theorem dX6_count_68 : decode cX6_count 68 = .ok (.ireturn, 1) := by decide +kernel
theorem dX6_count_69 : decode cX6_count 69 = .ok (.aload_n 0, 1) := by decide +kernel
theorem dX6_count_70 : decode cX6_count 70 = .ok (.getfield 154, 3) := by decide +kernel
theorem dX6_count_73 : decode cX6_count 73 = .ok (.ireturn, 1) := by decide +kernel
theorem dX6_count_74 : decode cX6_count 74 = .ok (.aload_n 0, 1) := by decide +kernel
theorem dX6_count_75 : decode cX6_count 75 = .ok (.getfield 42, 3) := by decide +kernel
theorem dX6_count_78 : decode cX6_count 78 = .ok (.ireturn, 1) := by decide +kernel
theorem dX6_count_79 : decode cX6_count 79 = .ok (.iload_n 1, 1) := by decide +kernel
theorem dX6_count_80 : decode cX6_count 80 = .ok (.bipush 8, 2) := by decide +kernel
theorem dX6_count_82 : decode cX6_count 82 = .ok (.bipush 9, 2) := by decide +kernel
theorem dX6_count_84 : decode cX6_count 84 = .ok (.invokestatic 38, 3) := by decide +kernel
theorem dX6_count_87 : decode cX6_count 87 = .ok (.ifCond .eq 15, 3) := by decide +kernel
theorem dX6_count_90 : decode cX6_count 90 = .ok (.aload_n 0, 1) := by decide +kernel
theorem dX6_count_91 : decode cX6_count 91 = .ok (.getfield 7, 3) := by decide +kernel
theorem dX6_count_94 : decode cX6_count 94 = .ok (.iload_n 1, 1) := by decide +kernel
theorem dX6_count_95 : decode cX6_count 95 = .ok (.bipush 8, 2) := by decide +kernel
theorem dX6_count_97 : decode cX6_count 97 = .ok (.isub, 1) := by decide +kernel
theorem dX6_count_98 : decode cX6_count 98 = .ok (.iaload, 1) := by decide +kernel
theorem dX6_count_99 : decode cX6_count 99 = .ok (.goto 5, 3) := by decide +kernel
theorem dX6_count_102 : decode cX6_count 102 = .ok (.bipush (-2), 2) := by decide +kernel
theorem dX6_count_104 : decode cX6_count 104 = .ok (.ireturn, 1) := by decide +kernel
set_option maxRecDepth 20000 in
theorem ggX6_sum_X6_isKey : GoodIn wsX6_sum wsX6_isKey := goodIn_r _ [4, 5, 6, 3, 7] (by decide +kernel) (by decide +kernel)
set_option maxRecDepth 20000 in
theorem gX6_sum_X6_isKey : GoodIn wsX6_sum (va_wsS RX6 126 yX6_isKey wsX6_isKey) := goodIn_app (goodIn_of _ (by decide +kernel)) ggX6_sum_X6_isKey
set_option maxRecDepth 20000 in
theorem ggX6_sum_X6_readOf : GoodIn wsX6_sum wsX6_readOf := goodIn_r _ [11, 12, 13, 14, 15, 3, 16, 17, 18, 19, 20, 21, 22, 23, 24, 25, 26, 27, 28, 29, 30, 31, 32, 33, 34, 35, 36, 37, 38, 39, 40, 41] (by decide +kernel) (by decide +kernel)
set_option maxRecDepth 20000 in
theorem gX6_sum_X6_readOf : GoodIn wsX6_sum (wsV RX6 145 RX6 yX6_readOf wsX6_readOf) := goodIn_app (goodIn_of _ (by decide +kernel)) ggX6_sum_X6_readOf
theorem dX6_sum_0 : decode cX6_sum 0 = .ok (.iload_n 1, 1) := by decide +kernel
theorem dX6_sum_1 : decode cX6_sum 1 = .ok (.invokestatic 126, 3) := by decide +kernel
theorem dX6_sum_4 : decode cX6_sum 4 = .ok (.ifCond .eq 15, 3) := by decide +kernel
theorem dX6_sum_7 : decode cX6_sum 7 = .ok (.iload_n 2, 1) := by decide +kernel
theorem dX6_sum_8 : decode cX6_sum 8 = .ok (.invokestatic 126, 3) := by decide +kernel
theorem dX6_sum_11 : decode cX6_sum 11 = .ok (.ifCond .eq 8, 3) := by decide +kernel
theorem dX6_sum_14 : decode cX6_sum 14 = .ok (.iload_n 2, 1) := by decide +kernel
theorem dX6_sum_15 : decode cX6_sum 15 = .ok (.iload_n 1, 1) := by decide +kernel
theorem dX6_sum_16 : decode cX6_sum 16 = .ok (.if_icmp .ge 5, 3) := by decide +kernel
theorem dX6_sum_19 : decode cX6_sum 19 = .ok (.iconst (-1), 1) := by decide +kernel
theorem dX6_sum_20 : decode cX6_sum 20 = .ok (.ireturn, 1) := by decide +kernel
theorem dX6_sum_21 : decode cX6_sum 21 = .ok (.iconst 0, 1) := by decide +kernel
theorem dX6_sum_22 : decode cX6_sum 22 = .ok (.istore_n 3, 1) := by decide +kernel
theorem dX6_sum_23 : decode cX6_sum 23 = .ok (.iload_n 1, 1) := by decide +kernel
theorem dX6_sum_24 : decode cX6_sum 24 = .ok (.istore 4, 2) := by decide +kernel
theorem dX6_sum_26 : decode cX6_sum 26 = .ok (.iload 4, 2) := by decide +kernel
theorem dX6_sum_28 : decode cX6_sum 28 = .ok (.iload_n 2, 1) := by decide +kernel
theorem dX6_sum_29 : decode cX6_sum 29 = .ok (.if_icmp .gt 33, 3) := by decide +kernel
theorem dX6_sum_32 : decode cX6_sum 32 = .ok (.aload_n 0, 1) := by decide +kernel
theorem dX6_sum_33 : decode cX6_sum 33 = .ok (.iload 4, 2) := by decide +kernel
theorem dX6_sum_35 : decode cX6_sum 35 = .ok (.invokevirtual 145, 3) := by decide +kernel
theorem dX6_sum_38 : decode cX6_sum 38 = .ok (.istore 5, 2) := by decide +kernel
theorem dX6_sum_40 : decode cX6_sum 40 = .ok (.iload_n 3, 1) := by decide +kernel
theorem dX6_sum_41 : decode cX6_sum 41 = .ok (.iload 5, 2) := by decide +kernel
theorem dX6_sum_43 : decode cX6_sum 43 = .ok (.bipush (-6), 2) := by decide +kernel
theorem dX6_sum_45 : decode cX6_sum 45 = .ok (.if_icmp .ne 7, 3) := by decide +kernel
theorem dX6_sum_48 : decode cX6_sum 48 = .ok (.iconst 0, 1) := by decide +kernel
theorem dX6_sum_49 : decode cX6_sum 49 = .ok (.goto 5, 3) := by decide +kernel
theorem dX6_sum_52 : decode cX6_sum 52 = .ok (.iload 5, 2) := by decide +kernel
theorem dX6_sum_54 : decode cX6_sum 54 = .ok (.iadd, 1) := by decide +kernel
theorem dX6_sum_55 : decode cX6_sum 55 = .ok (.istore_n 3, 1) := by decide +kernel
theorem dX6_sum_56 : decode cX6_sum 56 = .ok (.iinc 4 1, 3) := by decide +kernel
theorem dX6_sum_59 : decode cX6_sum 59 = .ok (.goto (-33), 3) := by decide +kernel
theorem dX6_sum_62 : decode cX6_sum 62 = .ok (.iload_n 3, 1) := by decide +kernel
theorem dX6_sum_63 : decode cX6_sum 63 = .ok (.ireturn, 1) := by decide +kernel
set_option maxRecDepth 20000 in
theorem ggX6_heaviest_X6_isNode : GoodIn wsX6_heaviest wsX6_isNode := goodIn_r _ [5, 6, 7, 4, 8] (by decide +kernel) (by decide +kernel)
set_option maxRecDepth 20000 in
theorem gX6_heaviest_X6_isNode : GoodIn wsX6_heaviest (va_wsS RX6 136 yX6_isNode wsX6_isNode) := goodIn_app (goodIn_of _ (by decide +kernel)) ggX6_heaviest_X6_isNode
set_option maxRecDepth 20000 in
theorem ggX6_heaviest_X6_chosen : GoodIn wsX6_heaviest wsX6_chosen := goodIn_r _ [12, 13, 14, 15, 4, 16, 1, 17, 18, 19, 20, 21, 22, 23, 24, 25, 26, 27, 28, 29, 33, 34, 35, 36, 37, 38, 39, 40, 41, 42, 43, 44, 45, 46, 47] (by decide +kernel) (by decide +kernel)
set_option maxRecDepth 20000 in
theorem gX6_heaviest_X6_chosen : GoodIn wsX6_heaviest (wsV RX6 105 RX6 yX6_chosen wsX6_chosen) := goodIn_app (goodIn_of _ (by decide +kernel)) ggX6_heaviest_X6_chosen
set_option maxRecDepth 20000 in
theorem ggX6_heaviest_X6_childOf : GoodIn wsX6_heaviest wsX6_childOf := goodIn_r _ [32] (by decide +kernel) (by decide +kernel)
set_option maxRecDepth 20000 in
theorem gX6_heaviest_X6_childOf : GoodIn wsX6_heaviest (va_wsS RX6 91 yX6_childOf wsX6_childOf) := goodIn_app (goodIn_of _ (by decide +kernel)) ggX6_heaviest_X6_childOf
theorem dX6_heaviest_0 : decode cX6_heaviest 0 = .ok (.iload_n 1, 1) := by decide +kernel
theorem dX6_heaviest_1 : decode cX6_heaviest 1 = .ok (.invokestatic 136, 3) := by decide +kernel
theorem dX6_heaviest_4 : decode cX6_heaviest 4 = .ok (.ifCond .ne 5, 3) := by decide +kernel
theorem dX6_heaviest_7 : decode cX6_heaviest 7 = .ok (.iconst (-1), 1) := by decide +kernel
theorem dX6_heaviest_8 : decode cX6_heaviest 8 = .ok (.ireturn, 1) := by decide +kernel
theorem dX6_heaviest_9 : decode cX6_heaviest 9 = .ok (.aload_n 0, 1) := by decide +kernel
theorem dX6_heaviest_10 : decode cX6_heaviest 10 = .ok (.getfield 7, 3) := by decide +kernel
theorem dX6_heaviest_13 : decode cX6_heaviest 13 = .ok (.bipush 72, 2) := by decide +kernel
theorem dX6_heaviest_15 : decode cX6_heaviest 15 = .ok (.iload_n 1, 1) := by decide +kernel
theorem dX6_heaviest_16 : decode cX6_heaviest 16 = .ok (.iadd, 1) := by decide +kernel
theorem dX6_heaviest_17 : decode cX6_heaviest 17 = .ok (.iaload, 1) := by decide +kernel
theorem dX6_heaviest_18 : decode cX6_heaviest 18 = .ok (.ifCond .ne 8, 3) := by decide +kernel
theorem dX6_heaviest_21 : decode cX6_heaviest 21 = .ok (.bipush (-6), 2) := by decide +kernel
theorem dX6_heaviest_23 : decode cX6_heaviest 23 = .ok (.goto 12, 3) := by decide +kernel
theorem dX6_heaviest_26 : decode cX6_heaviest 26 = .ok (.iload_n 1, 1) := by decide +kernel
theorem dX6_heaviest_27 : decode cX6_heaviest 27 = .ok (.aload_n 0, 1) := by decide +kernel
theorem dX6_heaviest_28 : decode cX6_heaviest 28 = .ok (.iload_n 1, 1) := by decide +kernel
theorem dX6_heaviest_29 : decode cX6_heaviest 29 = .ok (.invokevirtual 105, 3) := by decide +kernel
theorem dX6_heaviest_32 : decode cX6_heaviest 32 = .ok (.invokestatic 91, 3) := by decide +kernel
theorem dX6_heaviest_35 : decode cX6_heaviest 35 = .ok (.ireturn, 1) := by decide +kernel
set_option maxRecDepth 20000 in
theorem ggX6_sinks_X6_layAside : GoodIn wsX6_sinks wsX6_layAside := goodIn_r _ [7, 2, 1, 101, 102, 103, 104, 105, 106, 107, 108, 109, 110, 111, 112, 113, 114, 115] (by decide +kernel) (by decide +kernel)
set_option maxRecDepth 20000 in
theorem gX6_sinks_X6_layAside : GoodIn wsX6_sinks (wsV RX6 157 RX6 yX6_layAside wsX6_layAside) := goodIn_app (goodIn_of _ (by decide +kernel)) ggX6_sinks_X6_layAside
set_option maxRecDepth 20000 in
theorem ggX6_sinks_X6_comesRoot : GoodIn wsX6_sinks wsX6_comesRoot := goodIn_r _ [11, 12, 1, 13, 14, 15, 6, 16, 17, 18, 19, 20, 21, 22, 23, 24, 25, 26, 27, 28, 29, 30, 31, 32, 33, 34, 35, 36, 37, 38, 39, 40, 41, 42, 43, 44, 45, 46, 47, 48, 49, 50, 51, 52, 53, 54, 55, 56, 57, 58, 59, 60, 61, 62, 63, 64, 65, 66, 67, 68, 69, 70, 71, 72, 73, 74, 75, 76, 77, 78, 79, 80, 81, 82, 83, 84, 85, 86, 87, 88, 89, 90, 91, 92, 93, 94, 95, 96, 101, 102, 103, 104, 105, 106, 107, 108, 109, 110, 111, 112, 113, 114, 115] (by decide +kernel) (by decide +kernel)
set_option maxRecDepth 20000 in
theorem gX6_sinks_X6_comesRoot : GoodIn wsX6_sinks (wsV RX6 129 RX6 yX6_comesRoot wsX6_comesRoot) := goodIn_app (goodIn_of _ (by decide +kernel)) ggX6_sinks_X6_comesRoot
set_option maxRecDepth 20000 in
theorem ggX6_sinks_X6_bringBack : GoodIn wsX6_sinks wsX6_bringBack := goodIn_r _ [100, 1, 2, 101, 102, 103, 104, 105, 106, 107, 108, 109, 110, 111, 112, 113, 114, 115] (by decide +kernel) (by decide +kernel)
set_option maxRecDepth 20000 in
theorem gX6_sinks_X6_bringBack : GoodIn wsX6_sinks (wsV RX6 160 RX6 yX6_bringBack wsX6_bringBack) := goodIn_app (goodIn_of _ (by decide +kernel)) ggX6_sinks_X6_bringBack
theorem dX6_sinks_0 : decode cX6_sinks 0 = .ok (.aload_n 0, 1) := by decide +kernel
theorem dX6_sinks_1 : decode cX6_sinks 1 = .ok (.invokevirtual 157, 3) := by decide +kernel
theorem dX6_sinks_4 : decode cX6_sinks 4 = .ok (.aload_n 0, 1) := by decide +kernel
theorem dX6_sinks_5 : decode cX6_sinks 5 = .ok (.iconst 0, 1) := by decide +kernel
theorem dX6_sinks_6 : decode cX6_sinks 6 = .ok (.iload_n 1, 1) := by decide +kernel
theorem dX6_sinks_7 : decode cX6_sinks 7 = .ok (.iload_n 1, 1) := by decide +kernel
theorem dX6_sinks_8 : decode cX6_sinks 8 = .ok (.iconst 0, 1) := by decide +kernel
theorem dX6_sinks_9 : decode cX6_sinks 9 = .ok (.invokevirtual 129, 3) := by decide +kernel
theorem dX6_sinks_12 : decode cX6_sinks 12 = .ok (.aload_n 0, 1) := by decide +kernel
theorem dX6_sinks_13 : decode cX6_sinks 13 = .ok (.getfield 7, 3) := by decide +kernel
theorem dX6_sinks_16 : decode cX6_sinks 16 = .ok (.iconst 3, 1) := by decide +kernel
theorem dX6_sinks_17 : decode cX6_sinks 17 = .ok (.iaload, 1) := by decide +kernel
theorem dX6_sinks_18 : decode cX6_sinks 18 = .ok (.aload_n 0, 1) := by decide +kernel
theorem dX6_sinks_19 : decode cX6_sinks 19 = .ok (.getfield 23, 3) := by decide +kernel
theorem dX6_sinks_22 : decode cX6_sinks 22 = .ok (.iconst 3, 1) := by decide +kernel
theorem dX6_sinks_23 : decode cX6_sinks 23 = .ok (.iaload, 1) := by decide +kernel
theorem dX6_sinks_24 : decode cX6_sinks 24 = .ok (.isub, 1) := by decide +kernel
theorem dX6_sinks_25 : decode cX6_sinks 25 = .ok (.istore_n 2, 1) := by decide +kernel
theorem dX6_sinks_26 : decode cX6_sinks 26 = .ok (.aload_n 0, 1) := by decide +kernel
theorem dX6_sinks_27 : decode cX6_sinks 27 = .ok (.invokevirtual 160, 3) := by decide +kernel
theorem dX6_sinks_30 : decode cX6_sinks 30 = .ok (.iload_n 2, 1) := by decide +kernel
theorem dX6_sinks_31 : decode cX6_sinks 31 = .ok (.ireturn, 1) := by decide +kernel
set_option maxRecDepth 20000 in
theorem ggX6_wouldSink_X6_isKey : GoodIn wsX6_wouldSink wsX6_isKey := goodIn_r _ [4, 5, 6, 3, 7] (by decide +kernel) (by decide +kernel)
set_option maxRecDepth 20000 in
theorem gX6_wouldSink_X6_isKey : GoodIn wsX6_wouldSink (va_wsS RX6 126 yX6_isKey wsX6_isKey) := goodIn_app (goodIn_of _ (by decide +kernel)) ggX6_wouldSink_X6_isKey
set_option maxRecDepth 20000 in
theorem ggX6_wouldSink_X6_sinks : GoodIn wsX6_wouldSink wsX6_sinks := goodIn_r _ [11, 12, 13, 14, 15, 16, 3, 17, 18, 19, 20, 21, 22, 23, 24, 25, 26, 27, 28, 29, 30, 31, 32, 33, 34, 35, 36, 37, 38, 39, 40, 41, 42, 43, 44, 45, 46, 47, 48, 49, 50, 51, 52, 53, 54, 55, 56, 57, 58, 59, 60, 61, 62, 63, 64, 65, 66, 67, 68, 69, 70, 71, 72, 73, 74, 75, 76, 77, 78, 79, 80, 81, 82, 83, 84, 85, 86, 87, 88, 89, 90, 91, 92, 93, 94, 95, 96, 97, 98, 99, 100, 101, 102, 103, 104, 105, 106, 107, 108, 109, 110, 111, 112, 113, 114, 115, 116, 117, 118, 119, 120, 121, 122, 123, 124, 125] (by decide +kernel) (by decide +kernel)
set_option maxRecDepth 20000 in
theorem gX6_wouldSink_X6_sinks : GoodIn wsX6_wouldSink (wsV RX6 163 RX6 yX6_sinks wsX6_sinks) := goodIn_app (goodIn_of _ (by decide +kernel)) ggX6_wouldSink_X6_sinks
theorem dX6_wouldSink_0 : decode cX6_wouldSink 0 = .ok (.iload_n 1, 1) := by decide +kernel
theorem dX6_wouldSink_1 : decode cX6_wouldSink 1 = .ok (.invokestatic 126, 3) := by decide +kernel
theorem dX6_wouldSink_4 : decode cX6_wouldSink 4 = .ok (.ifCond .eq 11, 3) := by decide +kernel
theorem dX6_wouldSink_7 : decode cX6_wouldSink 7 = .ok (.aload_n 0, 1) := by decide +kernel
theorem dX6_wouldSink_8 : decode cX6_wouldSink 8 = .ok (.iload_n 1, 1) := by decide +kernel
theorem dX6_wouldSink_9 : decode cX6_wouldSink 9 = .ok (.invokevirtual 163, 3) := by decide +kernel
theorem dX6_wouldSink_12 : decode cX6_wouldSink 12 = .ok (.goto 4, 3) := by decide +kernel
theorem dX6_wouldSink_15 : decode cX6_wouldSink 15 = .ok (.iconst (-1), 1) := by decide +kernel
theorem dX6_wouldSink_16 : decode cX6_wouldSink 16 = .ok (.ireturn, 1) := by decide +kernel
set_option maxRecDepth 20000 in
theorem ggX6_worstKey_X6_in : GoodIn wsX6_worstKey wsX6_in := goodIn_r _ [4] (by decide +kernel) (by decide +kernel)
set_option maxRecDepth 20000 in
theorem gX6_worstKey_X6_in : GoodIn wsX6_worstKey (va_wsS RX6 38 yX6_in wsX6_in) := goodIn_app (goodIn_of _ (by decide +kernel)) ggX6_worstKey_X6_in
set_option maxRecDepth 20000 in
theorem ggX6_worstKey_X6_sinks : GoodIn wsX6_worstKey wsX6_sinks := goodIn_r _ [8, 9, 10, 11, 12, 13, 3, 14, 15, 16, 17, 18, 19, 20, 21, 22, 23, 24, 25, 26, 27, 28, 29, 30, 31, 32, 33, 34, 35, 36, 37, 38, 39, 40, 41, 42, 43, 44, 45, 46, 47, 48, 49, 50, 51, 52, 53, 54, 55, 56, 57, 58, 59, 60, 61, 62, 63, 64, 65, 66, 67, 68, 69, 70, 71, 72, 73, 74, 75, 76, 77, 78, 79, 80, 81, 82, 83, 84, 85, 86, 87, 88, 89, 90, 91, 92, 93, 94, 95, 96, 97, 98, 99, 100, 101, 102, 103, 104, 105, 106, 107, 108, 109, 110, 111, 112, 113, 114, 115, 116, 117, 118, 119, 120, 121, 122] (by decide +kernel) (by decide +kernel)
set_option maxRecDepth 20000 in
theorem gX6_worstKey_X6_sinks : GoodIn wsX6_worstKey (wsV RX6 163 RX6 yX6_sinks wsX6_sinks) := goodIn_app (goodIn_of _ (by decide +kernel)) ggX6_worstKey_X6_sinks
theorem dX6_worstKey_0 : decode cX6_worstKey 0 = .ok (.iload_n 1, 1) := by decide +kernel
theorem dX6_worstKey_1 : decode cX6_worstKey 1 = .ok (.iconst 0, 1) := by decide +kernel
theorem dX6_worstKey_2 : decode cX6_worstKey 2 = .ok (.iconst 1, 1) := by decide +kernel
theorem dX6_worstKey_3 : decode cX6_worstKey 3 = .ok (.invokestatic 38, 3) := by decide +kernel
theorem dX6_worstKey_6 : decode cX6_worstKey 6 = .ok (.ifCond .ne 6, 3) := by decide +kernel
theorem dX6_worstKey_9 : decode cX6_worstKey 9 = .ok (.bipush (-2), 2) := by decide +kernel
theorem dX6_worstKey_11 : decode cX6_worstKey 11 = .ok (.ireturn, 1) := by decide +kernel
theorem dX6_worstKey_12 : decode cX6_worstKey 12 = .ok (.iconst 0, 1) := by decide +kernel
theorem dX6_worstKey_13 : decode cX6_worstKey 13 = .ok (.istore_n 2, 1) := by decide +kernel
theorem dX6_worstKey_14 : decode cX6_worstKey 14 = .ok (.iconst (-1), 1) := by decide +kernel
theorem dX6_worstKey_15 : decode cX6_worstKey 15 = .ok (.istore_n 3, 1) := by decide +kernel
theorem dX6_worstKey_16 : decode cX6_worstKey 16 = .ok (.iconst 0, 1) := by decide +kernel
theorem dX6_worstKey_17 : decode cX6_worstKey 17 = .ok (.istore 4, 2) := by decide +kernel
theorem dX6_worstKey_19 : decode cX6_worstKey 19 = .ok (.iload 4, 2) := by decide +kernel
theorem dX6_worstKey_21 : decode cX6_worstKey 21 = .ok (.bipush 27, 2) := by decide +kernel
theorem dX6_worstKey_23 : decode cX6_worstKey 23 = .ok (.if_icmp .ge 43, 3) := by decide +kernel
theorem dX6_worstKey_26 : decode cX6_worstKey 26 = .ok (.aload_n 0, 1) := by decide +kernel
theorem dX6_worstKey_27 : decode cX6_worstKey 27 = .ok (.iload 4, 2) := by decide +kernel
theorem dX6_worstKey_29 : decode cX6_worstKey 29 = .ok (.invokevirtual 163, 3) := by decide +kernel
theorem dX6_worstKey_32 : decode cX6_worstKey 32 = .ok (.istore 5, 2) := by decide +kernel
theorem dX6_worstKey_34 : decode cX6_worstKey 34 = .ok (.iload 5, 2) := by decide +kernel
theorem dX6_worstKey_36 : decode cX6_worstKey 36 = .ok (.iload_n 3, 1) := by decide +kernel
theorem dX6_worstKey_37 : decode cX6_worstKey 37 = .ok (.if_icmp .le 8, 3) := by decide +kernel
theorem dX6_worstKey_40 : decode cX6_worstKey 40 = .ok (.iload 4, 2) := by decide +kernel
theorem dX6_worstKey_42 : decode cX6_worstKey 42 = .ok (.goto 4, 3) := by decide +kernel
theorem dX6_worstKey_45 : decode cX6_worstKey 45 = .ok (.iload_n 2, 1) := by decide +kernel
theorem dX6_worstKey_46 : decode cX6_worstKey 46 = .ok (.istore_n 2, 1) := by decide +kernel
theorem dX6_worstKey_47 : decode cX6_worstKey 47 = .ok (.iload 5, 2) := by decide +kernel
theorem dX6_worstKey_49 : decode cX6_worstKey 49 = .ok (.iload_n 3, 1) := by decide +kernel
theorem dX6_worstKey_50 : decode cX6_worstKey 50 = .ok (.if_icmp .le 8, 3) := by decide +kernel
theorem dX6_worstKey_53 : decode cX6_worstKey 53 = .ok (.iload 5, 2) := by decide +kernel
theorem dX6_worstKey_55 : decode cX6_worstKey 55 = .ok (.goto 4, 3) := by decide +kernel
theorem dX6_worstKey_58 : decode cX6_worstKey 58 = .ok (.iload_n 3, 1) := by decide +kernel
theorem dX6_worstKey_59 : decode cX6_worstKey 59 = .ok (.istore_n 3, 1) := by decide +kernel
theorem dX6_worstKey_60 : decode cX6_worstKey 60 = .ok (.iinc 4 1, 3) := by decide +kernel
theorem dX6_worstKey_63 : decode cX6_worstKey 63 = .ok (.goto (-44), 3) := by decide +kernel
theorem dX6_worstKey_66 : decode cX6_worstKey 66 = .ok (.iload_n 1, 1) := by decide +kernel
theorem dX6_worstKey_67 : decode cX6_worstKey 67 = .ok (.ifCond .ne 7, 3) := by decide +kernel
theorem dX6_worstKey_70 : decode cX6_worstKey 70 = .ok (.iload_n 2, 1) := by decide +kernel
theorem dX6_worstKey_71 : decode cX6_worstKey 71 = .ok (.goto 4, 3) := by decide +kernel
theorem dX6_worstKey_74 : decode cX6_worstKey 74 = .ok (.iload_n 3, 1) := by decide +kernel
theorem dX6_worstKey_75 : decode cX6_worstKey 75 = .ok (.ireturn, 1) := by decide +kernel
set_option maxRecDepth 20000 in
theorem ggX6_toEmptyAll_X6_layAside : GoodIn wsX6_toEmptyAll wsX6_layAside := goodIn_r _ [7, 2, 1, 101, 102, 103, 104, 105, 106, 107, 108, 109, 110, 111, 112, 113, 114, 115] (by decide +kernel) (by decide +kernel)
set_option maxRecDepth 20000 in
theorem gX6_toEmptyAll_X6_layAside : GoodIn wsX6_toEmptyAll (wsV RX6 157 RX6 yX6_layAside wsX6_layAside) := goodIn_app (goodIn_of _ (by decide +kernel)) ggX6_toEmptyAll_X6_layAside
set_option maxRecDepth 20000 in
theorem ggX6_toEmptyAll_X6_empties : GoodIn wsX6_toEmptyAll wsX6_empties := goodIn_r _ [11, 12, 13, 14, 6, 15, 16, 17, 18, 19, 20, 1, 21, 22, 23, 24, 25, 26, 27, 28, 29, 30, 31, 32, 33, 34, 35, 36, 37, 38, 39, 40, 41, 42, 43, 44, 45, 46, 47, 48, 49, 50, 51, 52, 53, 54, 55, 56, 57, 58, 59, 60, 61, 62, 63, 64, 65, 66, 67, 68, 69, 70, 71, 72, 73, 74, 75, 76, 77, 78, 79, 80, 81, 82, 83, 84, 85, 86, 87, 88, 89, 90, 91, 92, 93, 94, 95, 96, 101, 102, 103, 104, 105, 106, 107, 108, 109, 110, 111, 112, 113, 114, 115] (by decide +kernel) (by decide +kernel)
set_option maxRecDepth 20000 in
theorem gX6_toEmptyAll_X6_empties : GoodIn wsX6_toEmptyAll (wsV RX6 139 RX6 yX6_empties wsX6_empties) := goodIn_app (goodIn_of _ (by decide +kernel)) ggX6_toEmptyAll_X6_empties
set_option maxRecDepth 20000 in
theorem ggX6_toEmptyAll_X6_bringBack : GoodIn wsX6_toEmptyAll wsX6_bringBack := goodIn_r _ [100, 1, 2, 101, 102, 103, 104, 105, 106, 107, 108, 109, 110, 111, 112, 113, 114, 115] (by decide +kernel) (by decide +kernel)
set_option maxRecDepth 20000 in
theorem gX6_toEmptyAll_X6_bringBack : GoodIn wsX6_toEmptyAll (wsV RX6 160 RX6 yX6_bringBack wsX6_bringBack) := goodIn_app (goodIn_of _ (by decide +kernel)) ggX6_toEmptyAll_X6_bringBack
theorem dX6_toEmptyAll_0 : decode cX6_toEmptyAll 0 = .ok (.aload_n 0, 1) := by decide +kernel
theorem dX6_toEmptyAll_1 : decode cX6_toEmptyAll 1 = .ok (.invokevirtual 157, 3) := by decide +kernel
theorem dX6_toEmptyAll_4 : decode cX6_toEmptyAll 4 = .ok (.iconst 0, 1) := by decide +kernel
theorem dX6_toEmptyAll_5 : decode cX6_toEmptyAll 5 = .ok (.istore_n 1, 1) := by decide +kernel
theorem dX6_toEmptyAll_6 : decode cX6_toEmptyAll 6 = .ok (.iload_n 1, 1) := by decide +kernel
theorem dX6_toEmptyAll_7 : decode cX6_toEmptyAll 7 = .ok (.bipush 13, 2) := by decide +kernel
theorem dX6_toEmptyAll_9 : decode cX6_toEmptyAll 9 = .ok (.if_icmp .ge 14, 3) := by decide +kernel
theorem dX6_toEmptyAll_12 : decode cX6_toEmptyAll 12 = .ok (.aload_n 0, 1) := by decide +kernel
theorem dX6_toEmptyAll_13 : decode cX6_toEmptyAll 13 = .ok (.iload_n 1, 1) := by decide +kernel
theorem dX6_toEmptyAll_14 : decode cX6_toEmptyAll 14 = .ok (.invokevirtual 139, 3) := by decide +kernel
theorem dX6_toEmptyAll_17 : decode cX6_toEmptyAll 17 = .ok (.iinc 1 1, 3) := by decide +kernel
theorem dX6_toEmptyAll_20 : decode cX6_toEmptyAll 20 = .ok (.goto (-14), 3) := by decide +kernel
theorem dX6_toEmptyAll_23 : decode cX6_toEmptyAll 23 = .ok (.aload_n 0, 1) := by decide +kernel
theorem dX6_toEmptyAll_24 : decode cX6_toEmptyAll 24 = .ok (.getfield 7, 3) := by decide +kernel
theorem dX6_toEmptyAll_27 : decode cX6_toEmptyAll 27 = .ok (.iconst 3, 1) := by decide +kernel
theorem dX6_toEmptyAll_28 : decode cX6_toEmptyAll 28 = .ok (.iaload, 1) := by decide +kernel
theorem dX6_toEmptyAll_29 : decode cX6_toEmptyAll 29 = .ok (.aload_n 0, 1) := by decide +kernel
theorem dX6_toEmptyAll_30 : decode cX6_toEmptyAll 30 = .ok (.getfield 23, 3) := by decide +kernel
theorem dX6_toEmptyAll_33 : decode cX6_toEmptyAll 33 = .ok (.iconst 3, 1) := by decide +kernel
theorem dX6_toEmptyAll_34 : decode cX6_toEmptyAll 34 = .ok (.iaload, 1) := by decide +kernel
theorem dX6_toEmptyAll_35 : decode cX6_toEmptyAll 35 = .ok (.isub, 1) := by decide +kernel
theorem dX6_toEmptyAll_36 : decode cX6_toEmptyAll 36 = .ok (.istore_n 1, 1) := by decide +kernel
theorem dX6_toEmptyAll_37 : decode cX6_toEmptyAll 37 = .ok (.aload_n 0, 1) := by decide +kernel
theorem dX6_toEmptyAll_38 : decode cX6_toEmptyAll 38 = .ok (.invokevirtual 160, 3) := by decide +kernel
theorem dX6_toEmptyAll_41 : decode cX6_toEmptyAll 41 = .ok (.iload_n 1, 1) := by decide +kernel
theorem dX6_toEmptyAll_42 : decode cX6_toEmptyAll 42 = .ok (.ireturn, 1) := by decide +kernel
set_option maxRecDepth 20000 in
theorem ggX6_same_X6_isKey : GoodIn wsX6_same wsX6_isKey := goodIn_r _ [4, 5, 6, 3, 7] (by decide +kernel) (by decide +kernel)
set_option maxRecDepth 20000 in
theorem gX6_same_X6_isKey : GoodIn wsX6_same (va_wsS RX6 126 yX6_isKey wsX6_isKey) := goodIn_app (goodIn_of _ (by decide +kernel)) ggX6_same_X6_isKey
set_option maxRecDepth 20000 in
theorem ggX6_same_X6_readOf : GoodIn wsX6_same wsX6_readOf := goodIn_r _ [11, 12, 13, 14, 15, 3, 16, 17, 18, 19, 20, 21, 22, 23, 24, 25, 26, 27, 28, 29, 30, 31, 32, 33, 34, 35, 36, 37, 38, 39, 40, 41] (by decide +kernel) (by decide +kernel)
set_option maxRecDepth 20000 in
theorem gX6_same_X6_readOf : GoodIn wsX6_same (wsV RX6 145 RX6 yX6_readOf wsX6_readOf) := goodIn_app (goodIn_of _ (by decide +kernel)) ggX6_same_X6_readOf
theorem dX6_same_0 : decode cX6_same 0 = .ok (.iload_n 1, 1) := by decide +kernel
theorem dX6_same_1 : decode cX6_same 1 = .ok (.invokestatic 126, 3) := by decide +kernel
theorem dX6_same_4 : decode cX6_same 4 = .ok (.ifCond .eq 10, 3) := by decide +kernel
theorem dX6_same_7 : decode cX6_same 7 = .ok (.iload_n 2, 1) := by decide +kernel
theorem dX6_same_8 : decode cX6_same 8 = .ok (.invokestatic 126, 3) := by decide +kernel
theorem dX6_same_11 : decode cX6_same 11 = .ok (.ifCond .ne 5, 3) := by decide +kernel
theorem dX6_same_14 : decode cX6_same 14 = .ok (.iconst (-1), 1) := by decide +kernel
theorem dX6_same_15 : decode cX6_same 15 = .ok (.ireturn, 1) := by decide +kernel
theorem dX6_same_16 : decode cX6_same 16 = .ok (.aload_n 0, 1) := by decide +kernel
theorem dX6_same_17 : decode cX6_same 17 = .ok (.iload_n 1, 1) := by decide +kernel
theorem dX6_same_18 : decode cX6_same 18 = .ok (.invokevirtual 145, 3) := by decide +kernel
theorem dX6_same_21 : decode cX6_same 21 = .ok (.aload_n 0, 1) := by decide +kernel
theorem dX6_same_22 : decode cX6_same 22 = .ok (.iload_n 2, 1) := by decide +kernel
theorem dX6_same_23 : decode cX6_same 23 = .ok (.invokevirtual 145, 3) := by decide +kernel
theorem dX6_same_26 : decode cX6_same 26 = .ok (.if_icmp .ne 7, 3) := by decide +kernel
theorem dX6_same_29 : decode cX6_same 29 = .ok (.iconst 1, 1) := by decide +kernel
theorem dX6_same_30 : decode cX6_same 30 = .ok (.goto 4, 3) := by decide +kernel
theorem dX6_same_33 : decode cX6_same 33 = .ok (.iconst 0, 1) := by decide +kernel
theorem dX6_same_34 : decode cX6_same 34 = .ok (.ireturn, 1) := by decide +kernel
set_option maxRecDepth 20000 in
theorem ggX6_put_X6_in : GoodIn wsX6_put wsX6_in := goodIn_r _ [7] (by decide +kernel) (by decide +kernel)
set_option maxRecDepth 20000 in
theorem gX6_put_X6_in : GoodIn wsX6_put (va_wsS RX6 38 yX6_in wsX6_in) := goodIn_app (goodIn_of _ (by decide +kernel)) ggX6_put_X6_in
theorem dX6_put_0 : decode cX6_put 0 = .ok (.iconst 0, 1) := by decide +kernel
theorem dX6_put_1 : decode cX6_put 1 = .ok (.istore_n 3, 1) := by decide +kernel
theorem dX6_put_2 : decode cX6_put 2 = .ok (.lload_n 1, 1) := by decide +kernel
theorem dX6_put_3 : decode cX6_put 3 = .ok (.lstore 4, 2) := by decide +kernel
theorem dX6_put_5 : decode cX6_put 5 = .ok (.lload 4, 2) := by decide +kernel
theorem dX6_put_7 : decode cX6_put 7 = .ok (.ldc2_w 166, 3) := by decide +kernel
theorem dX6_put_10 : decode cX6_put 10 = .ok (.land, 1) := by decide +kernel
theorem dX6_put_11 : decode cX6_put 11 = .ok (.lconst 0, 1) := by decide +kernel
theorem dX6_put_12 : decode cX6_put 12 = .ok (.lcmp, 1) := by decide +kernel
theorem dX6_put_13 : decode cX6_put 13 = .ok (.ifCond .eq 36, 3) := by decide +kernel
theorem dX6_put_16 : decode cX6_put 16 = .ok (.lload 4, 2) := by decide +kernel
theorem dX6_put_18 : decode cX6_put 18 = .ok (.ldc2_w 166, 3) := by decide +kernel
theorem dX6_put_21 : decode cX6_put 21 = .ok (.land, 1) := by decide +kernel
theorem dX6_put_22 : decode cX6_put 22 = .ok (.l2i, 1) := by decide +kernel
theorem dX6_put_23 : decode cX6_put 23 = .ok (.bipush 33, 2) := by decide +kernel
theorem dX6_put_25 : decode cX6_put 25 = .ok (.bipush 126, 2) := by decide +kernel
theorem dX6_put_27 : decode cX6_put 27 = .ok (.invokestatic 38, 3) := by decide +kernel
theorem dX6_put_30 : decode cX6_put 30 = .ok (.ifCond .ne 6, 3) := by decide +kernel
theorem dX6_put_33 : decode cX6_put 33 = .ok (.bipush (-2), 2) := by decide +kernel
theorem dX6_put_35 : decode cX6_put 35 = .ok (.ireturn, 1) := by decide +kernel
theorem dX6_put_36 : decode cX6_put 36 = .ok (.iinc 3 1, 3) := by decide +kernel
theorem dX6_put_39 : decode cX6_put 39 = .ok (.lload 4, 2) := by decide +kernel
theorem dX6_put_41 : decode cX6_put 41 = .ok (.bipush 8, 2) := by decide +kernel
theorem dX6_put_43 : decode cX6_put 43 = .ok (.lushr, 1) := by decide +kernel
theorem dX6_put_44 : decode cX6_put 44 = .ok (.lstore 4, 2) := by decide +kernel
theorem dX6_put_46 : decode cX6_put 46 = .ok (.goto (-41), 3) := by decide +kernel
theorem dX6_put_49 : decode cX6_put 49 = .ok (.lload 4, 2) := by decide +kernel
theorem dX6_put_51 : decode cX6_put 51 = .ok (.lconst 0, 1) := by decide +kernel
theorem dX6_put_52 : decode cX6_put 52 = .ok (.lcmp, 1) := by decide +kernel
theorem dX6_put_53 : decode cX6_put 53 = .ok (.ifCond .ne 7, 3) := by decide +kernel
theorem dX6_put_56 : decode cX6_put 56 = .ok (.iload_n 3, 1) := by decide +kernel
theorem dX6_put_57 : decode cX6_put 57 = .ok (.ifCond .ne 6, 3) := by decide +kernel
theorem dX6_put_60 : decode cX6_put 60 = .ok (.bipush (-2), 2) := by decide +kernel
theorem dX6_put_62 : decode cX6_put 62 = .ok (.ireturn, 1) := by decide +kernel
theorem dX6_put_63 : decode cX6_put 63 = .ok (.aload_n 0, 1) := by decide +kernel
theorem dX6_put_64 : decode cX6_put 64 = .ok (.getfield 154, 3) := by decide +kernel
theorem dX6_put_67 : decode cX6_put 67 = .ok (.iload_n 3, 1) := by decide +kernel
theorem dX6_put_68 : decode cX6_put 68 = .ok (.iadd, 1) := by decide +kernel
theorem dX6_put_69 : decode cX6_put 69 = .ok (.bipush 60, 2) := by decide +kernel
theorem dX6_put_71 : decode cX6_put 71 = .ok (.if_icmp .le 6, 3) := by decide +kernel
theorem dX6_put_74 : decode cX6_put 74 = .ok (.bipush (-4), 2) := by decide +kernel
theorem dX6_put_76 : decode cX6_put 76 = .ok (.ireturn, 1) := by decide +kernel
theorem dX6_put_77 : decode cX6_put 77 = .ok (.lload_n 1, 1) := by decide +kernel
theorem dX6_put_78 : decode cX6_put 78 = .ok (.lstore 4, 2) := by decide +kernel
theorem dX6_put_80 : decode cX6_put 80 = .ok (.iload_n 3, 1) := by decide +kernel
theorem dX6_put_81 : decode cX6_put 81 = .ok (.iconst 1, 1) := by decide +kernel
theorem dX6_put_82 : decode cX6_put 82 = .ok (.isub, 1) := by decide +kernel
theorem dX6_put_83 : decode cX6_put 83 = .ok (.istore 6, 2) := by decide +kernel
theorem dX6_put_85 : decode cX6_put 85 = .ok (.iload 6, 2) := by decide +kernel
theorem dX6_put_87 : decode cX6_put 87 = .ok (.ifCond .lt 35, 3) := by decide +kernel
theorem dX6_put_90 : decode cX6_put 90 = .ok (.aload_n 0, 1) := by decide +kernel
theorem dX6_put_91 : decode cX6_put 91 = .ok (.getfield 32, 3) := by decide +kernel
theorem dX6_put_94 : decode cX6_put 94 = .ok (.aload_n 0, 1) := by decide +kernel
theorem dX6_put_95 : decode cX6_put 95 = .ok (.getfield 154, 3) := by decide +kernel
theorem dX6_put_98 : decode cX6_put 98 = .ok (.iload 6, 2) := by decide +kernel
theorem dX6_put_100 : decode cX6_put 100 = .ok (.iadd, 1) := by decide +kernel
theorem dX6_put_101 : decode cX6_put 101 = .ok (.lload 4, 2) := by decide +kernel
theorem dX6_put_103 : decode cX6_put 103 = .ok (.ldc2_w 166, 3) := by decide +kernel
theorem dX6_put_106 : decode cX6_put 106 = .ok (.land, 1) := by decide +kernel
theorem dX6_put_107 : decode cX6_put 107 = .ok (.l2i, 1) := by decide +kernel
theorem dX6_put_108 : decode cX6_put 108 = .ok (.iastore, 1) := by decide +kernel
theorem dX6_put_109 : decode cX6_put 109 = .ok (.lload 4, 2) := by decide +kernel
theorem dX6_put_111 : decode cX6_put 111 = .ok (.bipush 8, 2) := by decide +kernel
theorem dX6_put_113 : decode cX6_put 113 = .ok (.lushr, 1) := by decide +kernel
theorem dX6_put_114 : decode cX6_put 114 = .ok (.lstore 4, 2) := by decide +kernel
theorem dX6_put_116 : decode cX6_put 116 = .ok (.iinc 6 (-1), 3) := by decide +kernel
theorem dX6_put_119 : decode cX6_put 119 = .ok (.goto (-34), 3) := by decide +kernel
theorem dX6_put_122 : decode cX6_put 122 = .ok (.aload_n 0, 1) := by decide +kernel
theorem dX6_put_123 : decode cX6_put 123 = .ok (.dup, 1) := by decide +kernel
theorem dX6_put_124 : decode cX6_put 124 = .ok (.getfield 154, 3) := by decide +kernel
theorem dX6_put_127 : decode cX6_put 127 = .ok (.iload_n 3, 1) := by decide +kernel
theorem dX6_put_128 : decode cX6_put 128 = .ok (.iadd, 1) := by decide +kernel
theorem dX6_put_129 : decode cX6_put 129 = .ok (.putfield 154, 3) := by decide +kernel
theorem dX6_put_132 : decode cX6_put 132 = .ok (.aload_n 0, 1) := by decide +kernel
theorem dX6_put_133 : decode cX6_put 133 = .ok (.getfield 154, 3) := by decide +kernel
theorem dX6_put_136 : decode cX6_put 136 = .ok (.ireturn, 1) := by decide +kernel
theorem dX6_wipe_0 : decode cX6_wipe 0 = .ok (.aload_n 0, 1) := by decide +kernel
theorem dX6_wipe_1 : decode cX6_wipe 1 = .ok (.getfield 154, 3) := by decide +kernel
theorem dX6_wipe_4 : decode cX6_wipe 4 = .ok (.istore_n 1, 1) := by decide +kernel
theorem dX6_wipe_5 : decode cX6_wipe 5 = .ok (.aload_n 0, 1) := by decide +kernel
theorem dX6_wipe_6 : decode cX6_wipe 6 = .ok (.iconst 0, 1) := by decide +kernel
theorem dX6_wipe_7 : decode cX6_wipe 7 = .ok (.putfield 154, 3) := by decide +kernel
theorem dX6_wipe_10 : decode cX6_wipe 10 = .ok (.iload_n 1, 1) := by decide +kernel
theorem dX6_wipe_11 : decode cX6_wipe 11 = .ok (.ireturn, 1) := by decide +kernel
theorem dX6_sign_0 : decode cX6_sign 0 = .ok (.aload_n 0, 1) := by decide +kernel
theorem dX6_sign_1 : decode cX6_sign 1 = .ok (.getfield 168, 3) := by decide +kernel
theorem dX6_sign_4 : decode cX6_sign 4 = .ok (.aload_n 0, 1) := by decide +kernel
theorem dX6_sign_5 : decode cX6_sign 5 = .ok (.getfield 154, 3) := by decide +kernel
theorem dX6_sign_8 : decode cX6_sign 8 = .ok (.if_icmp .ge 15, 3) := by decide +kernel
theorem dX6_sign_11 : decode cX6_sign 11 = .ok (.aload_n 0, 1) := by decide +kernel
theorem dX6_sign_12 : decode cX6_sign 12 = .ok (.getfield 32, 3) := by decide +kernel
theorem dX6_sign_15 : decode cX6_sign 15 = .ok (.aload_n 0, 1) := by decide +kernel
theorem dX6_sign_16 : decode cX6_sign 16 = .ok (.getfield 168, 3) := by decide +kernel
theorem dX6_sign_19 : decode cX6_sign 19 = .ok (.iaload, 1) := by decide +kernel
theorem dX6_sign_20 : decode cX6_sign 20 = .ok (.goto 4, 3) := by decide +kernel
theorem dX6_sign_23 : decode cX6_sign 23 = .ok (.iconst 0, 1) := by decide +kernel
theorem dX6_sign_24 : decode cX6_sign 24 = .ok (.ireturn, 1) := by decide +kernel
set_option maxRecDepth 20000 in
theorem ggX6_between_X6_sign : GoodIn wsX6_between wsX6_sign := goodIn_r _ [7, 2, 8, 9, 10, 11, 12, 13, 14, 15, 16, 17, 18, 19, 20, 21, 22, 23, 24] (by decide +kernel) (by decide +kernel)
set_option maxRecDepth 20000 in
theorem gX6_between_X6_sign : GoodIn wsX6_between (wsV RX6 175 RX6 yX6_sign wsX6_sign) := goodIn_app (goodIn_of _ (by decide +kernel)) ggX6_between_X6_sign
theorem dX6_between_0 : decode cX6_between 0 = .ok (.aload_n 0, 1) := by decide +kernel
theorem dX6_between_1 : decode cX6_between 1 = .ok (.aload_n 0, 1) := by decide +kernel
theorem dX6_between_2 : decode cX6_between 2 = .ok (.getfield 171, 3) := by decide +kernel
theorem dX6_between_5 : decode cX6_between 5 = .ok (.ifCond .ne 11, 3) := by decide +kernel
theorem dX6_between_8 : decode cX6_between 8 = .ok (.aload_n 0, 1) := by decide +kernel
theorem dX6_between_9 : decode cX6_between 9 = .ok (.invokevirtual 175, 3) := by decide +kernel
theorem dX6_between_12 : decode cX6_between 12 = .ok (.iload_n 1, 1) := by decide +kernel
theorem dX6_between_13 : decode cX6_between 13 = .ok (.if_icmp .eq 7, 3) := by decide +kernel
theorem dX6_between_16 : decode cX6_between 16 = .ok (.iconst 1, 1) := by decide +kernel
theorem dX6_between_17 : decode cX6_between 17 = .ok (.goto 4, 3) := by decide +kernel
theorem dX6_between_20 : decode cX6_between 20 = .ok (.iconst 0, 1) := by decide +kernel
theorem dX6_between_21 : decode cX6_between 21 = .ok (.putfield 171, 3) := by decide +kernel
theorem dX6_between_24 : decode cX6_between 24 = .ok (.aload_n 0, 1) := by decide +kernel
theorem dX6_between_25 : decode cX6_between 25 = .ok (.dup, 1) := by decide +kernel
theorem dX6_between_26 : decode cX6_between 26 = .ok (.getfield 168, 3) := by decide +kernel
theorem dX6_between_29 : decode cX6_between 29 = .ok (.aload_n 0, 1) := by decide +kernel
theorem dX6_between_30 : decode cX6_between 30 = .ok (.getfield 171, 3) := by decide +kernel
theorem dX6_between_33 : decode cX6_between 33 = .ok (.ifCond .eq 7, 3) := by decide +kernel
theorem dX6_between_36 : decode cX6_between 36 = .ok (.iconst 0, 1) := by decide +kernel
theorem dX6_between_37 : decode cX6_between 37 = .ok (.goto 4, 3) := by decide +kernel
theorem dX6_between_40 : decode cX6_between 40 = .ok (.iconst 1, 1) := by decide +kernel
theorem dX6_between_41 : decode cX6_between 41 = .ok (.iadd, 1) := by decide +kernel
theorem dX6_between_42 : decode cX6_between 42 = .ok (.putfield 168, 3) := by decide +kernel
theorem dX6_between_45 : decode cX6_between 45 = .ok (.return_, 1) := by decide +kernel
set_option maxRecDepth 20000 in
theorem ggX6_number_X6_sign : GoodIn wsX6_number wsX6_sign := goodIn_r _ [7, 2, 8, 9, 13, 14, 15, 16, 17, 18, 19, 20, 21, 22, 23, 24, 25, 26, 27] (by decide +kernel) (by decide +kernel)
set_option maxRecDepth 20000 in
theorem gX6_number_X6_sign : GoodIn wsX6_number (wsV RX6 175 RX6 yX6_sign wsX6_sign) := goodIn_app (goodIn_of _ (by decide +kernel)) ggX6_number_X6_sign
set_option maxRecDepth 20000 in
theorem ggX6_number_X6_in : GoodIn wsX6_number wsX6_in := goodIn_r _ [12] (by decide +kernel) (by decide +kernel)
set_option maxRecDepth 20000 in
theorem gX6_number_X6_in : GoodIn wsX6_number (va_wsS RX6 38 yX6_in wsX6_in) := goodIn_app (goodIn_of _ (by decide +kernel)) ggX6_number_X6_in
theorem dX6_number_0 : decode cX6_number 0 = .ok (.aload_n 0, 1) := by decide +kernel
theorem dX6_number_1 : decode cX6_number 1 = .ok (.invokevirtual 175, 3) := by decide +kernel
theorem dX6_number_4 : decode cX6_number 4 = .ok (.bipush 48, 2) := by decide +kernel
theorem dX6_number_6 : decode cX6_number 6 = .ok (.isub, 1) := by decide +kernel
theorem dX6_number_7 : decode cX6_number 7 = .ok (.istore_n 2, 1) := by decide +kernel
theorem dX6_number_8 : decode cX6_number 8 = .ok (.aload_n 0, 1) := by decide +kernel
theorem dX6_number_9 : decode cX6_number 9 = .ok (.aload_n 0, 1) := by decide +kernel
theorem dX6_number_10 : decode cX6_number 10 = .ok (.getfield 171, 3) := by decide +kernel
theorem dX6_number_13 : decode cX6_number 13 = .ok (.ifCond .ne 13, 3) := by decide +kernel
theorem dX6_number_16 : decode cX6_number 16 = .ok (.iload_n 2, 1) := by decide +kernel
theorem dX6_number_17 : decode cX6_number 17 = .ok (.iconst 0, 1) := by decide +kernel
theorem dX6_number_18 : decode cX6_number 18 = .ok (.bipush 9, 2) := by decide +kernel
theorem dX6_number_20 : decode cX6_number 20 = .ok (.invokestatic 38, 3) := by decide +kernel
theorem dX6_number_23 : decode cX6_number 23 = .ok (.ifCond .ne 7, 3) := by decide +kernel
theorem dX6_number_26 : decode cX6_number 26 = .ok (.iconst 1, 1) := by decide +kernel
theorem dX6_number_27 : decode cX6_number 27 = .ok (.goto 4, 3) := by decide +kernel
theorem dX6_number_30 : decode cX6_number 30 = .ok (.iconst 0, 1) := by decide +kernel
theorem dX6_number_31 : decode cX6_number 31 = .ok (.putfield 171, 3) := by decide +kernel
theorem dX6_number_34 : decode cX6_number 34 = .ok (.aload_n 0, 1) := by decide +kernel
theorem dX6_number_35 : decode cX6_number 35 = .ok (.dup, 1) := by decide +kernel
theorem dX6_number_36 : decode cX6_number 36 = .ok (.getfield 168, 3) := by decide +kernel
theorem dX6_number_39 : decode cX6_number 39 = .ok (.aload_n 0, 1) := by decide +kernel
theorem dX6_number_40 : decode cX6_number 40 = .ok (.getfield 171, 3) := by decide +kernel
theorem dX6_number_43 : decode cX6_number 43 = .ok (.ifCond .eq 7, 3) := by decide +kernel
theorem dX6_number_46 : decode cX6_number 46 = .ok (.iconst 0, 1) := by decide +kernel
theorem dX6_number_47 : decode cX6_number 47 = .ok (.goto 4, 3) := by decide +kernel
theorem dX6_number_50 : decode cX6_number 50 = .ok (.iconst 1, 1) := by decide +kernel
theorem dX6_number_51 : decode cX6_number 51 = .ok (.iadd, 1) := by decide +kernel
theorem dX6_number_52 : decode cX6_number 52 = .ok (.putfield 168, 3) := by decide +kernel
theorem dX6_number_55 : decode cX6_number 55 = .ok (.aload_n 0, 1) := by decide +kernel
theorem dX6_number_56 : decode cX6_number 56 = .ok (.getfield 171, 3) := by decide +kernel
theorem dX6_number_59 : decode cX6_number 59 = .ok (.ifCond .ne 63, 3) := by decide +kernel
theorem dX6_number_62 : decode cX6_number 62 = .ok (.iload_n 2, 1) := by decide +kernel
theorem dX6_number_63 : decode cX6_number 63 = .ok (.ifCond .le 59, 3) := by decide +kernel
theorem dX6_number_66 : decode cX6_number 66 = .ok (.aload_n 0, 1) := by decide +kernel
theorem dX6_number_67 : decode cX6_number 67 = .ok (.invokevirtual 175, 3) := by decide +kernel
theorem dX6_number_70 : decode cX6_number 70 = .ok (.bipush 48, 2) := by decide +kernel
theorem dX6_number_72 : decode cX6_number 72 = .ok (.bipush 57, 2) := by decide +kernel
theorem dX6_number_74 : decode cX6_number 74 = .ok (.invokestatic 38, 3) := by decide +kernel
theorem dX6_number_77 : decode cX6_number 77 = .ok (.ifCond .eq 45, 3) := by decide +kernel
theorem dX6_number_80 : decode cX6_number 80 = .ok (.bipush 10, 2) := by decide +kernel
theorem dX6_number_82 : decode cX6_number 82 = .ok (.iload_n 2, 1) := by decide +kernel
theorem dX6_number_83 : decode cX6_number 83 = .ok (.imul, 1) := by decide +kernel
theorem dX6_number_84 : decode cX6_number 84 = .ok (.aload_n 0, 1) := by decide +kernel
theorem dX6_number_85 : decode cX6_number 85 = .ok (.invokevirtual 175, 3) := by decide +kernel
theorem dX6_number_88 : decode cX6_number 88 = .ok (.iadd, 1) := by decide +kernel
theorem dX6_number_89 : decode cX6_number 89 = .ok (.bipush 48, 2) := by decide +kernel
theorem dX6_number_91 : decode cX6_number 91 = .ok (.isub, 1) := by decide +kernel
theorem dX6_number_92 : decode cX6_number 92 = .ok (.iload_n 1, 1) := by decide +kernel
theorem dX6_number_93 : decode cX6_number 93 = .ok (.if_icmp .gt 29, 3) := by decide +kernel
theorem dX6_number_96 : decode cX6_number 96 = .ok (.bipush 10, 2) := by decide +kernel
theorem dX6_number_98 : decode cX6_number 98 = .ok (.iload_n 2, 1) := by decide +kernel
theorem dX6_number_99 : decode cX6_number 99 = .ok (.imul, 1) := by decide +kernel
theorem dX6_number_100 : decode cX6_number 100 = .ok (.aload_n 0, 1) := by decide +kernel
theorem dX6_number_101 : decode cX6_number 101 = .ok (.invokevirtual 175, 3) := by decide +kernel
theorem dX6_number_104 : decode cX6_number 104 = .ok (.iadd, 1) := by decide +kernel
theorem dX6_number_105 : decode cX6_number 105 = .ok (.bipush 48, 2) := by decide +kernel
theorem dX6_number_107 : decode cX6_number 107 = .ok (.isub, 1) := by decide +kernel
theorem dX6_number_108 : decode cX6_number 108 = .ok (.istore_n 2, 1) := by decide +kernel
theorem dX6_number_109 : decode cX6_number 109 = .ok (.aload_n 0, 1) := by decide +kernel
theorem dX6_number_110 : decode cX6_number 110 = .ok (.dup, 1) := by decide +kernel
theorem dX6_number_111 : decode cX6_number 111 = .ok (.getfield 168, 3) := by decide +kernel
theorem dX6_number_114 : decode cX6_number 114 = .ok (.iconst 1, 1) := by decide +kernel
theorem dX6_number_115 : decode cX6_number 115 = .ok (.iadd, 1) := by decide +kernel
theorem dX6_number_116 : decode cX6_number 116 = .ok (.putfield 168, 3) := by decide +kernel
theorem dX6_number_119 : decode cX6_number 119 = .ok (.goto (-64), 3) := by decide +kernel
theorem dX6_number_122 : decode cX6_number 122 = .ok (.iload_n 2, 1) := by decide +kernel
theorem dX6_number_123 : decode cX6_number 123 = .ok (.ireturn, 1) := by decide +kernel
theorem dX6_lay_0 : decode cX6_lay 0 = .ok (.aload_n 0, 1) := by decide +kernel
theorem dX6_lay_1 : decode cX6_lay 1 = .ok (.getfield 35, 3) := by decide +kernel
theorem dX6_lay_4 : decode cX6_lay 4 = .ok (.iconst 4, 1) := by decide +kernel
theorem dX6_lay_5 : decode cX6_lay 5 = .ok (.aload_n 0, 1) := by decide +kernel
theorem dX6_lay_6 : decode cX6_lay 6 = .ok (.getfield 178, 3) := by decide +kernel
theorem dX6_lay_9 : decode cX6_lay 9 = .ok (.imul, 1) := by decide +kernel
theorem dX6_lay_10 : decode cX6_lay 10 = .ok (.iload_n 1, 1) := by decide +kernel
theorem dX6_lay_11 : decode cX6_lay 11 = .ok (.iastore, 1) := by decide +kernel
theorem dX6_lay_12 : decode cX6_lay 12 = .ok (.aload_n 0, 1) := by decide +kernel
theorem dX6_lay_13 : decode cX6_lay 13 = .ok (.getfield 35, 3) := by decide +kernel
theorem dX6_lay_16 : decode cX6_lay 16 = .ok (.iconst 4, 1) := by decide +kernel
theorem dX6_lay_17 : decode cX6_lay 17 = .ok (.aload_n 0, 1) := by decide +kernel
theorem dX6_lay_18 : decode cX6_lay 18 = .ok (.getfield 178, 3) := by decide +kernel
theorem dX6_lay_21 : decode cX6_lay 21 = .ok (.imul, 1) := by decide +kernel
theorem dX6_lay_22 : decode cX6_lay 22 = .ok (.iconst 1, 1) := by decide +kernel
theorem dX6_lay_23 : decode cX6_lay 23 = .ok (.iadd, 1) := by decide +kernel
theorem dX6_lay_24 : decode cX6_lay 24 = .ok (.iload_n 2, 1) := by decide +kernel
theorem dX6_lay_25 : decode cX6_lay 25 = .ok (.iastore, 1) := by decide +kernel
theorem dX6_lay_26 : decode cX6_lay 26 = .ok (.aload_n 0, 1) := by decide +kernel
theorem dX6_lay_27 : decode cX6_lay 27 = .ok (.getfield 35, 3) := by decide +kernel
theorem dX6_lay_30 : decode cX6_lay 30 = .ok (.iconst 4, 1) := by decide +kernel
theorem dX6_lay_31 : decode cX6_lay 31 = .ok (.aload_n 0, 1) := by decide +kernel
theorem dX6_lay_32 : decode cX6_lay 32 = .ok (.getfield 178, 3) := by decide +kernel
theorem dX6_lay_35 : decode cX6_lay 35 = .ok (.imul, 1) := by decide +kernel
theorem dX6_lay_36 : decode cX6_lay 36 = .ok (.iconst 2, 1) := by decide +kernel
theorem dX6_lay_37 : decode cX6_lay 37 = .ok (.iadd, 1) := by decide +kernel
theorem dX6_lay_38 : decode cX6_lay 38 = .ok (.iload_n 3, 1) := by decide +kernel
theorem dX6_lay_39 : decode cX6_lay 39 = .ok (.iastore, 1) := by decide +kernel
theorem dX6_lay_40 : decode cX6_lay 40 = .ok (.aload_n 0, 1) := by decide +kernel
theorem dX6_lay_41 : decode cX6_lay 41 = .ok (.getfield 35, 3) := by decide +kernel
theorem dX6_lay_44 : decode cX6_lay 44 = .ok (.iconst 4, 1) := by decide +kernel
theorem dX6_lay_45 : decode cX6_lay 45 = .ok (.aload_n 0, 1) := by decide +kernel
theorem dX6_lay_46 : decode cX6_lay 46 = .ok (.getfield 178, 3) := by decide +kernel
theorem dX6_lay_49 : decode cX6_lay 49 = .ok (.imul, 1) := by decide +kernel
theorem dX6_lay_50 : decode cX6_lay 50 = .ok (.iconst 3, 1) := by decide +kernel
theorem dX6_lay_51 : decode cX6_lay 51 = .ok (.iadd, 1) := by decide +kernel
theorem dX6_lay_52 : decode cX6_lay 52 = .ok (.iload 4, 2) := by decide +kernel
theorem dX6_lay_54 : decode cX6_lay 54 = .ok (.iastore, 1) := by decide +kernel
theorem dX6_lay_55 : decode cX6_lay 55 = .ok (.aload_n 0, 1) := by decide +kernel
theorem dX6_lay_56 : decode cX6_lay 56 = .ok (.dup, 1) := by decide +kernel
theorem dX6_lay_57 : decode cX6_lay 57 = .ok (.getfield 178, 3) := by decide +kernel
theorem dX6_lay_60 : decode cX6_lay 60 = .ok (.iconst 1, 1) := by decide +kernel
theorem dX6_lay_61 : decode cX6_lay 61 = .ok (.iadd, 1) := by decide +kernel
theorem dX6_lay_62 : decode cX6_lay 62 = .ok (.putfield 178, 3) := by decide +kernel
theorem dX6_lay_65 : decode cX6_lay 65 = .ok (.return_, 1) := by decide +kernel
set_option maxRecDepth 20000 in
theorem ggX6_readOne_X6_number : GoodIn wsX6_readOne wsX6_number := goodIn_r _ [7, 1, 2, 8, 9, 10, 6, 11, 12, 13, 14, 15, 16, 27, 28, 29, 30, 31, 32, 33, 34, 35, 36, 37, 38, 39, 40, 41] (by decide +kernel) (by decide +kernel)
set_option maxRecDepth 20000 in
theorem gX6_readOne_X6_number : GoodIn wsX6_readOne (wsV RX6 181 RX6 yX6_number wsX6_number) := goodIn_app (goodIn_of _ (by decide +kernel)) ggX6_readOne_X6_number
set_option maxRecDepth 20000 in
theorem ggX6_readOne_X6_sign : GoodIn wsX6_readOne wsX6_sign := goodIn_r _ [11, 2, 12, 13, 27, 28, 29, 30, 31, 32, 33, 34, 35, 36, 37, 38, 39, 40, 41] (by decide +kernel) (by decide +kernel)
set_option maxRecDepth 20000 in
theorem gX6_readOne_X6_sign : GoodIn wsX6_readOne (wsV RX6 175 RX6 yX6_sign wsX6_sign) := goodIn_app (goodIn_of _ (by decide +kernel)) ggX6_readOne_X6_sign
set_option maxRecDepth 20000 in
theorem ggX6_readOne_X6_lay : GoodIn wsX6_readOne wsX6_lay := goodIn_r _ [20, 21, 22, 27, 28, 29, 30, 31, 32, 33, 34, 35, 36, 37, 38, 39, 40, 41] (by decide +kernel) (by decide +kernel)
set_option maxRecDepth 20000 in
theorem gX6_readOne_X6_lay : GoodIn wsX6_readOne (wsV RX6 184 RX6 yX6_lay wsX6_lay) := goodIn_app (goodIn_of _ (by decide +kernel)) ggX6_readOne_X6_lay
set_option maxRecDepth 20000 in
theorem ggX6_readOne_X6_between : GoodIn wsX6_readOne wsX6_between := goodIn_r _ [26, 1, 2, 8, 9, 10, 6, 11, 12, 13, 27, 28, 29, 30, 31, 32, 33, 34, 35, 36, 37, 38, 39, 40, 41] (by decide +kernel) (by decide +kernel)
set_option maxRecDepth 20000 in
theorem gX6_readOne_X6_between : GoodIn wsX6_readOne (wsV RX6 187 RX6 yX6_between wsX6_between) := goodIn_app (goodIn_of _ (by decide +kernel)) ggX6_readOne_X6_between
theorem dX6_readOne_0 : decode cX6_readOne 0 = .ok (.aload_n 0, 1) := by decide +kernel
theorem dX6_readOne_1 : decode cX6_readOne 1 = .ok (.bipush 26, 2) := by decide +kernel
theorem dX6_readOne_3 : decode cX6_readOne 3 = .ok (.invokevirtual 181, 3) := by decide +kernel
theorem dX6_readOne_6 : decode cX6_readOne 6 = .ok (.istore_n 1, 1) := by decide +kernel
theorem dX6_readOne_7 : decode cX6_readOne 7 = .ok (.aload_n 0, 1) := by decide +kernel
theorem dX6_readOne_8 : decode cX6_readOne 8 = .ok (.getfield 171, 3) := by decide +kernel
theorem dX6_readOne_11 : decode cX6_readOne 11 = .ok (.ifCond .eq 4, 3) := by decide +kernel
theorem dX6_readOne_14 : decode cX6_readOne 14 = .ok (.return_, 1) := by decide +kernel
theorem dX6_readOne_15 : decode cX6_readOne 15 = .ok (.aload_n 0, 1) := by decide +kernel
theorem dX6_readOne_16 : decode cX6_readOne 16 = .ok (.invokevirtual 175, 3) := by decide +kernel
theorem dX6_readOne_19 : decode cX6_readOne 19 = .ok (.istore_n 2, 1) := by decide +kernel
theorem dX6_readOne_20 : decode cX6_readOne 20 = .ok (.iload_n 2, 1) := by decide +kernel
theorem dX6_readOne_21 : decode cX6_readOne 21 = .ok (.bipush 120, 2) := by decide +kernel
theorem dX6_readOne_23 : decode cX6_readOne 23 = .ok (.if_icmp .ne 22, 3) := by decide +kernel
theorem dX6_readOne_26 : decode cX6_readOne 26 = .ok (.aload_n 0, 1) := by decide +kernel
theorem dX6_readOne_27 : decode cX6_readOne 27 = .ok (.dup, 1) := by decide +kernel
theorem dX6_readOne_28 : decode cX6_readOne 28 = .ok (.getfield 168, 3) := by decide +kernel
theorem dX6_readOne_31 : decode cX6_readOne 31 = .ok (.iconst 1, 1) := by decide +kernel
theorem dX6_readOne_32 : decode cX6_readOne 32 = .ok (.iadd, 1) := by decide +kernel
theorem dX6_readOne_33 : decode cX6_readOne 33 = .ok (.putfield 168, 3) := by decide +kernel
theorem dX6_readOne_36 : decode cX6_readOne 36 = .ok (.aload_n 0, 1) := by decide +kernel
theorem dX6_readOne_37 : decode cX6_readOne 37 = .ok (.iconst 2, 1) := by decide +kernel
theorem dX6_readOne_38 : decode cX6_readOne 38 = .ok (.iload_n 1, 1) := by decide +kernel
theorem dX6_readOne_39 : decode cX6_readOne 39 = .ok (.iload_n 1, 1) := by decide +kernel
theorem dX6_readOne_40 : decode cX6_readOne 40 = .ok (.iconst 0, 1) := by decide +kernel
theorem dX6_readOne_41 : decode cX6_readOne 41 = .ok (.invokevirtual 184, 3) := by decide +kernel
theorem dX6_readOne_44 : decode cX6_readOne 44 = .ok (.return_, 1) := by decide +kernel
theorem dX6_readOne_45 : decode cX6_readOne 45 = .ok (.iload_n 2, 1) := by decide +kernel
theorem dX6_readOne_46 : decode cX6_readOne 46 = .ok (.bipush 61, 2) := by decide +kernel
theorem dX6_readOne_48 : decode cX6_readOne 48 = .ok (.if_icmp .ne 28, 3) := by decide +kernel
theorem dX6_readOne_51 : decode cX6_readOne 51 = .ok (.aload_n 0, 1) := by decide +kernel
theorem dX6_readOne_52 : decode cX6_readOne 52 = .ok (.dup, 1) := by decide +kernel
theorem dX6_readOne_53 : decode cX6_readOne 53 = .ok (.getfield 168, 3) := by decide +kernel
theorem dX6_readOne_56 : decode cX6_readOne 56 = .ok (.iconst 1, 1) := by decide +kernel
theorem dX6_readOne_57 : decode cX6_readOne 57 = .ok (.iadd, 1) := by decide +kernel
theorem dX6_readOne_58 : decode cX6_readOne 58 = .ok (.putfield 168, 3) := by decide +kernel
theorem dX6_readOne_61 : decode cX6_readOne 61 = .ok (.aload_n 0, 1) := by decide +kernel
theorem dX6_readOne_62 : decode cX6_readOne 62 = .ok (.iconst 0, 1) := by decide +kernel
theorem dX6_readOne_63 : decode cX6_readOne 63 = .ok (.iload_n 1, 1) := by decide +kernel
theorem dX6_readOne_64 : decode cX6_readOne 64 = .ok (.iload_n 1, 1) := by decide +kernel
theorem dX6_readOne_65 : decode cX6_readOne 65 = .ok (.aload_n 0, 1) := by decide +kernel
theorem dX6_readOne_66 : decode cX6_readOne 66 = .ok (.sipush 999, 3) := by decide +kernel
theorem dX6_readOne_69 : decode cX6_readOne 69 = .ok (.invokevirtual 181, 3) := by decide +kernel
theorem dX6_readOne_72 : decode cX6_readOne 72 = .ok (.invokevirtual 184, 3) := by decide +kernel
theorem dX6_readOne_75 : decode cX6_readOne 75 = .ok (.return_, 1) := by decide +kernel
theorem dX6_readOne_76 : decode cX6_readOne 76 = .ok (.iload_n 1, 1) := by decide +kernel
theorem dX6_readOne_77 : decode cX6_readOne 77 = .ok (.istore_n 3, 1) := by decide +kernel
theorem dX6_readOne_78 : decode cX6_readOne 78 = .ok (.iload_n 2, 1) := by decide +kernel
theorem dX6_readOne_79 : decode cX6_readOne 79 = .ok (.bipush 45, 2) := by decide +kernel
theorem dX6_readOne_81 : decode cX6_readOne 81 = .ok (.if_icmp .ne 20, 3) := by decide +kernel
theorem dX6_readOne_84 : decode cX6_readOne 84 = .ok (.aload_n 0, 1) := by decide +kernel
theorem dX6_readOne_85 : decode cX6_readOne 85 = .ok (.dup, 1) := by decide +kernel
theorem dX6_readOne_86 : decode cX6_readOne 86 = .ok (.getfield 168, 3) := by decide +kernel
theorem dX6_readOne_89 : decode cX6_readOne 89 = .ok (.iconst 1, 1) := by decide +kernel
theorem dX6_readOne_90 : decode cX6_readOne 90 = .ok (.iadd, 1) := by decide +kernel
theorem dX6_readOne_91 : decode cX6_readOne 91 = .ok (.putfield 168, 3) := by decide +kernel
theorem dX6_readOne_94 : decode cX6_readOne 94 = .ok (.aload_n 0, 1) := by decide +kernel
theorem dX6_readOne_95 : decode cX6_readOne 95 = .ok (.bipush 26, 2) := by decide +kernel
theorem dX6_readOne_97 : decode cX6_readOne 97 = .ok (.invokevirtual 181, 3) := by decide +kernel
theorem dX6_readOne_100 : decode cX6_readOne 100 = .ok (.istore_n 3, 1) := by decide +kernel
theorem dX6_readOne_101 : decode cX6_readOne 101 = .ok (.aload_n 0, 1) := by decide +kernel
theorem dX6_readOne_102 : decode cX6_readOne 102 = .ok (.aload_n 0, 1) := by decide +kernel
theorem dX6_readOne_103 : decode cX6_readOne 103 = .ok (.getfield 171, 3) := by decide +kernel
theorem dX6_readOne_106 : decode cX6_readOne 106 = .ok (.ifCond .ne 8, 3) := by decide +kernel
theorem dX6_readOne_109 : decode cX6_readOne 109 = .ok (.iload_n 3, 1) := by decide +kernel
theorem dX6_readOne_110 : decode cX6_readOne 110 = .ok (.iload_n 1, 1) := by decide +kernel
theorem dX6_readOne_111 : decode cX6_readOne 111 = .ok (.if_icmp .ge 7, 3) := by decide +kernel
theorem dX6_readOne_114 : decode cX6_readOne 114 = .ok (.iconst 1, 1) := by decide +kernel
theorem dX6_readOne_115 : decode cX6_readOne 115 = .ok (.goto 4, 3) := by decide +kernel
theorem dX6_readOne_118 : decode cX6_readOne 118 = .ok (.iconst 0, 1) := by decide +kernel
theorem dX6_readOne_119 : decode cX6_readOne 119 = .ok (.putfield 171, 3) := by decide +kernel
theorem dX6_readOne_122 : decode cX6_readOne 122 = .ok (.aload_n 0, 1) := by decide +kernel
theorem dX6_readOne_123 : decode cX6_readOne 123 = .ok (.bipush 43, 2) := by decide +kernel
theorem dX6_readOne_125 : decode cX6_readOne 125 = .ok (.invokevirtual 187, 3) := by decide +kernel
theorem dX6_readOne_128 : decode cX6_readOne 128 = .ok (.aload_n 0, 1) := by decide +kernel
theorem dX6_readOne_129 : decode cX6_readOne 129 = .ok (.getfield 171, 3) := by decide +kernel
theorem dX6_readOne_132 : decode cX6_readOne 132 = .ok (.ifCond .eq 7, 3) := by decide +kernel
theorem dX6_readOne_135 : decode cX6_readOne 135 = .ok (.iconst 0, 1) := by decide +kernel
theorem dX6_readOne_136 : decode cX6_readOne 136 = .ok (.goto 10, 3) := by decide +kernel
theorem dX6_readOne_139 : decode cX6_readOne 139 = .ok (.aload_n 0, 1) := by decide +kernel
theorem dX6_readOne_140 : decode cX6_readOne 140 = .ok (.sipush 999, 3) := by decide +kernel
theorem dX6_readOne_143 : decode cX6_readOne 143 = .ok (.invokevirtual 181, 3) := by decide +kernel
theorem dX6_readOne_146 : decode cX6_readOne 146 = .ok (.istore 4, 2) := by decide +kernel
theorem dX6_readOne_148 : decode cX6_readOne 148 = .ok (.aload_n 0, 1) := by decide +kernel
theorem dX6_readOne_149 : decode cX6_readOne 149 = .ok (.iconst 1, 1) := by decide +kernel
theorem dX6_readOne_150 : decode cX6_readOne 150 = .ok (.iload_n 1, 1) := by decide +kernel
theorem dX6_readOne_151 : decode cX6_readOne 151 = .ok (.iload_n 3, 1) := by decide +kernel
theorem dX6_readOne_152 : decode cX6_readOne 152 = .ok (.iload 4, 2) := by decide +kernel
theorem dX6_readOne_154 : decode cX6_readOne 154 = .ok (.invokevirtual 184, 3) := by decide +kernel
theorem dX6_readOne_157 : decode cX6_readOne 157 = .ok (.return_, 1) := by decide +kernel
set_option maxRecDepth 20000 in
theorem ggX6_faultOf_X6_readOne : GoodIn wsX6_faultOf wsX6_readOne := goodIn_r _ [9, 3, 1, 10, 11, 12, 8, 13, 14, 15, 16, 17, 4, 18, 19, 20, 21, 22, 23, 24, 25, 26, 2, 27, 28, 29, 30, 31, 32, 33, 34, 35, 36, 37, 38, 39, 40, 41, 42, 43, 44, 45] (by decide +kernel) (by decide +kernel)
set_option maxRecDepth 20000 in
theorem gX6_faultOf_X6_readOne : GoodIn wsX6_faultOf (wsV RX6 190 RX6 yX6_readOne wsX6_readOne) := goodIn_app (goodIn_of _ (by decide +kernel)) ggX6_faultOf_X6_readOne
set_option maxRecDepth 20000 in
theorem ggX6_faultOf_X6_between : GoodIn wsX6_faultOf wsX6_between := goodIn_r _ [30, 3, 1, 14, 15, 16, 8, 17, 4, 18, 31, 32, 33, 34, 35, 36, 37, 38, 39, 40, 41, 42, 43, 44, 45] (by decide +kernel) (by decide +kernel)
set_option maxRecDepth 20000 in
theorem gX6_faultOf_X6_between : GoodIn wsX6_faultOf (wsV RX6 187 RX6 yX6_between wsX6_between) := goodIn_app (goodIn_of _ (by decide +kernel)) ggX6_faultOf_X6_between
theorem dX6_faultOf_0 : decode cX6_faultOf 0 = .ok (.aload_n 0, 1) := by decide +kernel
theorem dX6_faultOf_1 : decode cX6_faultOf 1 = .ok (.iconst 0, 1) := by decide +kernel
theorem dX6_faultOf_2 : decode cX6_faultOf 2 = .ok (.putfield 168, 3) := by decide +kernel
theorem dX6_faultOf_5 : decode cX6_faultOf 5 = .ok (.aload_n 0, 1) := by decide +kernel
theorem dX6_faultOf_6 : decode cX6_faultOf 6 = .ok (.iconst 0, 1) := by decide +kernel
theorem dX6_faultOf_7 : decode cX6_faultOf 7 = .ok (.putfield 178, 3) := by decide +kernel
theorem dX6_faultOf_10 : decode cX6_faultOf 10 = .ok (.aload_n 0, 1) := by decide +kernel
theorem dX6_faultOf_11 : decode cX6_faultOf 11 = .ok (.iconst 0, 1) := by decide +kernel
theorem dX6_faultOf_12 : decode cX6_faultOf 12 = .ok (.putfield 171, 3) := by decide +kernel
theorem dX6_faultOf_15 : decode cX6_faultOf 15 = .ok (.aload_n 0, 1) := by decide +kernel
theorem dX6_faultOf_16 : decode cX6_faultOf 16 = .ok (.invokevirtual 190, 3) := by decide +kernel
theorem dX6_faultOf_19 : decode cX6_faultOf 19 = .ok (.aload_n 0, 1) := by decide +kernel
theorem dX6_faultOf_20 : decode cX6_faultOf 20 = .ok (.getfield 171, 3) := by decide +kernel
theorem dX6_faultOf_23 : decode cX6_faultOf 23 = .ok (.ifCond .ne 34, 3) := by decide +kernel
theorem dX6_faultOf_26 : decode cX6_faultOf 26 = .ok (.aload_n 0, 1) := by decide +kernel
theorem dX6_faultOf_27 : decode cX6_faultOf 27 = .ok (.getfield 168, 3) := by decide +kernel
theorem dX6_faultOf_30 : decode cX6_faultOf 30 = .ok (.aload_n 0, 1) := by decide +kernel
theorem dX6_faultOf_31 : decode cX6_faultOf 31 = .ok (.getfield 154, 3) := by decide +kernel
theorem dX6_faultOf_34 : decode cX6_faultOf 34 = .ok (.if_icmp .ge 23, 3) := by decide +kernel
theorem dX6_faultOf_37 : decode cX6_faultOf 37 = .ok (.aload_n 0, 1) := by decide +kernel
theorem dX6_faultOf_38 : decode cX6_faultOf 38 = .ok (.bipush 59, 2) := by decide +kernel
theorem dX6_faultOf_40 : decode cX6_faultOf 40 = .ok (.invokevirtual 187, 3) := by decide +kernel
theorem dX6_faultOf_43 : decode cX6_faultOf 43 = .ok (.aload_n 0, 1) := by decide +kernel
theorem dX6_faultOf_44 : decode cX6_faultOf 44 = .ok (.getfield 171, 3) := by decide +kernel
theorem dX6_faultOf_47 : decode cX6_faultOf 47 = .ok (.ifCond .ne (-28), 3) := by decide +kernel
theorem dX6_faultOf_50 : decode cX6_faultOf 50 = .ok (.aload_n 0, 1) := by decide +kernel
theorem dX6_faultOf_51 : decode cX6_faultOf 51 = .ok (.invokevirtual 190, 3) := by decide +kernel
theorem dX6_faultOf_54 : decode cX6_faultOf 54 = .ok (.goto (-35), 3) := by decide +kernel
theorem dX6_faultOf_57 : decode cX6_faultOf 57 = .ok (.aload_n 0, 1) := by decide +kernel
theorem dX6_faultOf_58 : decode cX6_faultOf 58 = .ok (.getfield 171, 3) := by decide +kernel
theorem dX6_faultOf_61 : decode cX6_faultOf 61 = .ok (.ifCond .eq 10, 3) := by decide +kernel
theorem dX6_faultOf_64 : decode cX6_faultOf 64 = .ok (.aload_n 0, 1) := by decide +kernel
theorem dX6_faultOf_65 : decode cX6_faultOf 65 = .ok (.getfield 168, 3) := by decide +kernel
theorem dX6_faultOf_68 : decode cX6_faultOf 68 = .ok (.goto 5, 3) := by decide +kernel
theorem dX6_faultOf_71 : decode cX6_faultOf 71 = .ok (.bipush (-6), 2) := by decide +kernel
theorem dX6_faultOf_73 : decode cX6_faultOf 73 = .ok (.ireturn, 1) := by decide +kernel
set_option maxRecDepth 20000 in
theorem ggX6_fault_X6_faultOf : GoodIn wsX6_fault wsX6_faultOf := goodIn_r _ [5, 6, 7, 8, 9, 10, 11, 12, 4, 13, 14, 15, 16, 17, 18, 19, 20, 21, 22, 23, 24, 25, 26, 27, 28, 29, 30, 31, 32, 33, 34, 35, 36, 37, 38, 39, 40, 41, 42, 43, 44, 45, 46, 47, 48, 49] (by decide +kernel) (by decide +kernel)
set_option maxRecDepth 20000 in
theorem gX6_fault_X6_faultOf : GoodIn wsX6_fault (wsV RX6 193 RX6 yX6_faultOf wsX6_faultOf) := goodIn_app (goodIn_of _ (by decide +kernel)) ggX6_fault_X6_faultOf
theorem dX6_fault_0 : decode cX6_fault 0 = .ok (.aload_n 0, 1) := by decide +kernel
theorem dX6_fault_1 : decode cX6_fault 1 = .ok (.invokevirtual 193, 3) := by decide +kernel
theorem dX6_fault_4 : decode cX6_fault 4 = .ok (.ireturn, 1) := by decide +kernel
set_option maxRecDepth 20000 in
theorem ggX6_carryOut_X6_faultOf : GoodIn wsX6_carryOut wsX6_faultOf := goodIn_r _ [8, 9, 2, 10, 1, 11, 12, 13, 7, 14, 15, 16, 17, 18, 19, 20, 21, 22, 23, 24, 25, 26, 27, 28, 29, 30, 3, 31, 32, 33, 34, 131, 132, 133, 134, 135, 136, 137, 138, 139, 140, 141, 142, 143, 144, 145] (by decide +kernel) (by decide +kernel)
set_option maxRecDepth 20000 in
theorem gX6_carryOut_X6_faultOf : GoodIn wsX6_carryOut (wsV RX6 193 RX6 yX6_faultOf wsX6_faultOf) := goodIn_app (goodIn_of _ (by decide +kernel)) ggX6_carryOut_X6_faultOf
set_option maxRecDepth 20000 in
theorem ggX6_carryOut_X6_record : GoodIn wsX6_carryOut wsX6_record := goodIn_r _ [38, 39, 40, 41, 131, 132, 133, 134, 135, 136, 137, 138, 139, 140, 141, 142, 143, 144, 145] (by decide +kernel) (by decide +kernel)
set_option maxRecDepth 20000 in
theorem gX6_carryOut_X6_record : GoodIn wsX6_carryOut (wsV RX6 123 RX6 yX6_record wsX6_record) := goodIn_app (goodIn_of _ (by decide +kernel)) ggX6_carryOut_X6_record
set_option maxRecDepth 20000 in
theorem ggX6_carryOut_X6_comesRoot : GoodIn wsX6_carryOut wsX6_comesRoot := goodIn_r _ [45, 46, 41, 47, 48, 49, 7, 50, 51, 52, 53, 54, 55, 56, 57, 58, 59, 60, 61, 62, 63, 64, 65, 66, 67, 68, 69, 70, 71, 72, 73, 74, 75, 76, 77, 78, 79, 80, 81, 82, 83, 84, 85, 86, 87, 88, 89, 90, 91, 92, 93, 94, 95, 96, 97, 98, 99, 100, 101, 102, 103, 104, 105, 106, 107, 108, 109, 110, 111, 112, 113, 114, 115, 116, 117, 118, 119, 120, 121, 122, 123, 124, 125, 126, 127, 128, 129, 130, 131, 132, 133, 134, 135, 136, 137, 138, 139, 140, 141, 142, 143, 144, 145] (by decide +kernel) (by decide +kernel)
set_option maxRecDepth 20000 in
theorem gX6_carryOut_X6_comesRoot : GoodIn wsX6_carryOut (wsV RX6 129 RX6 yX6_comesRoot wsX6_comesRoot) := goodIn_app (goodIn_of _ (by decide +kernel)) ggX6_carryOut_X6_comesRoot
theorem dX6_carryOut_0 : decode cX6_carryOut 0 = .ok (.aload_n 0, 1) := by decide +kernel
theorem dX6_carryOut_1 : decode cX6_carryOut 1 = .ok (.invokevirtual 193, 3) := by decide +kernel
theorem dX6_carryOut_4 : decode cX6_carryOut 4 = .ok (.bipush (-6), 2) := by decide +kernel
theorem dX6_carryOut_6 : decode cX6_carryOut 6 = .ok (.if_icmp .eq 6, 3) := by decide +kernel
theorem dX6_carryOut_9 : decode cX6_carryOut 9 = .ok (.bipush (-3), 2) := by decide +kernel
theorem dX6_carryOut_11 : decode cX6_carryOut 11 = .ok (.ireturn, 1) := by decide +kernel
theorem dX6_carryOut_12 : decode cX6_carryOut 12 = .ok (.aload_n 0, 1) := by decide +kernel
theorem dX6_carryOut_13 : decode cX6_carryOut 13 = .ok (.invokevirtual 123, 3) := by decide +kernel
theorem dX6_carryOut_16 : decode cX6_carryOut 16 = .ok (.aload_n 0, 1) := by decide +kernel
theorem dX6_carryOut_17 : decode cX6_carryOut 17 = .ok (.iconst 0, 1) := by decide +kernel
theorem dX6_carryOut_18 : decode cX6_carryOut 18 = .ok (.putfield 154, 3) := by decide +kernel
theorem dX6_carryOut_21 : decode cX6_carryOut 21 = .ok (.iconst 0, 1) := by decide +kernel
theorem dX6_carryOut_22 : decode cX6_carryOut 22 = .ok (.istore_n 1, 1) := by decide +kernel
theorem dX6_carryOut_23 : decode cX6_carryOut 23 = .ok (.iload_n 1, 1) := by decide +kernel
theorem dX6_carryOut_24 : decode cX6_carryOut 24 = .ok (.aload_n 0, 1) := by decide +kernel
theorem dX6_carryOut_25 : decode cX6_carryOut 25 = .ok (.getfield 178, 3) := by decide +kernel
theorem dX6_carryOut_28 : decode cX6_carryOut 28 = .ok (.if_icmp .ge 51, 3) := by decide +kernel
theorem dX6_carryOut_31 : decode cX6_carryOut 31 = .ok (.aload_n 0, 1) := by decide +kernel
theorem dX6_carryOut_32 : decode cX6_carryOut 32 = .ok (.aload_n 0, 1) := by decide +kernel
theorem dX6_carryOut_33 : decode cX6_carryOut 33 = .ok (.getfield 35, 3) := by decide +kernel
theorem dX6_carryOut_36 : decode cX6_carryOut 36 = .ok (.iconst 4, 1) := by decide +kernel
theorem dX6_carryOut_37 : decode cX6_carryOut 37 = .ok (.iload_n 1, 1) := by decide +kernel
theorem dX6_carryOut_38 : decode cX6_carryOut 38 = .ok (.imul, 1) := by decide +kernel
theorem dX6_carryOut_39 : decode cX6_carryOut 39 = .ok (.iaload, 1) := by decide +kernel
theorem dX6_carryOut_40 : decode cX6_carryOut 40 = .ok (.aload_n 0, 1) := by decide +kernel
theorem dX6_carryOut_41 : decode cX6_carryOut 41 = .ok (.getfield 35, 3) := by decide +kernel
theorem dX6_carryOut_44 : decode cX6_carryOut 44 = .ok (.iconst 4, 1) := by decide +kernel
theorem dX6_carryOut_45 : decode cX6_carryOut 45 = .ok (.iload_n 1, 1) := by decide +kernel
theorem dX6_carryOut_46 : decode cX6_carryOut 46 = .ok (.imul, 1) := by decide +kernel
theorem dX6_carryOut_47 : decode cX6_carryOut 47 = .ok (.iconst 1, 1) := by decide +kernel
theorem dX6_carryOut_48 : decode cX6_carryOut 48 = .ok (.iadd, 1) := by decide +kernel
theorem dX6_carryOut_49 : decode cX6_carryOut 49 = .ok (.iaload, 1) := by decide +kernel
theorem dX6_carryOut_50 : decode cX6_carryOut 50 = .ok (.aload_n 0, 1) := by decide +kernel
theorem dX6_carryOut_51 : decode cX6_carryOut 51 = .ok (.getfield 35, 3) := by decide +kernel
theorem dX6_carryOut_54 : decode cX6_carryOut 54 = .ok (.iconst 4, 1) := by decide +kernel
theorem dX6_carryOut_55 : decode cX6_carryOut 55 = .ok (.iload_n 1, 1) := by decide +kernel
theorem dX6_carryOut_56 : decode cX6_carryOut 56 = .ok (.imul, 1) := by decide +kernel
theorem dX6_carryOut_57 : decode cX6_carryOut 57 = .ok (.iconst 2, 1) := by decide +kernel
theorem dX6_carryOut_58 : decode cX6_carryOut 58 = .ok (.iadd, 1) := by decide +kernel
theorem dX6_carryOut_59 : decode cX6_carryOut 59 = .ok (.iaload, 1) := by decide +kernel
theorem dX6_carryOut_60 : decode cX6_carryOut 60 = .ok (.aload_n 0, 1) := by decide +kernel
theorem dX6_carryOut_61 : decode cX6_carryOut 61 = .ok (.getfield 35, 3) := by decide +kernel
theorem dX6_carryOut_64 : decode cX6_carryOut 64 = .ok (.iconst 4, 1) := by decide +kernel
theorem dX6_carryOut_65 : decode cX6_carryOut 65 = .ok (.iload_n 1, 1) := by decide +kernel
theorem dX6_carryOut_66 : decode cX6_carryOut 66 = .ok (.imul, 1) := by decide +kernel
theorem dX6_carryOut_67 : decode cX6_carryOut 67 = .ok (.iconst 3, 1) := by decide +kernel
theorem dX6_carryOut_68 : decode cX6_carryOut 68 = .ok (.iadd, 1) := by decide +kernel
theorem dX6_carryOut_69 : decode cX6_carryOut 69 = .ok (.iaload, 1) := by decide +kernel
theorem dX6_carryOut_70 : decode cX6_carryOut 70 = .ok (.invokevirtual 129, 3) := by decide +kernel
theorem dX6_carryOut_73 : decode cX6_carryOut 73 = .ok (.iinc 1 1, 3) := by decide +kernel
theorem dX6_carryOut_76 : decode cX6_carryOut 76 = .ok (.goto (-53), 3) := by decide +kernel
theorem dX6_carryOut_79 : decode cX6_carryOut 79 = .ok (.aload_n 0, 1) := by decide +kernel
theorem dX6_carryOut_80 : decode cX6_carryOut 80 = .ok (.getfield 178, 3) := by decide +kernel
theorem dX6_carryOut_83 : decode cX6_carryOut 83 = .ok (.ireturn, 1) := by decide +kernel
theorem dX6_undo_0 : decode cX6_undo 0 = .ok (.aload_n 0, 1) := by decide +kernel
theorem dX6_undo_1 : decode cX6_undo 1 = .ok (.getfield 42, 3) := by decide +kernel
theorem dX6_undo_4 : decode cX6_undo 4 = .ok (.ifCond .ne 6, 3) := by decide +kernel
theorem dX6_undo_7 : decode cX6_undo 7 = .ok (.bipush (-5), 2) := by decide +kernel
theorem dX6_undo_9 : decode cX6_undo 9 = .ok (.ireturn, 1) := by decide +kernel
theorem dX6_undo_10 : decode cX6_undo 10 = .ok (.aload_n 0, 1) := by decide +kernel
theorem dX6_undo_11 : decode cX6_undo 11 = .ok (.dup, 1) := by decide +kernel
theorem dX6_undo_12 : decode cX6_undo 12 = .ok (.getfield 42, 3) := by decide +kernel
theorem dX6_undo_15 : decode cX6_undo 15 = .ok (.iconst 1, 1) := by decide +kernel
theorem dX6_undo_16 : decode cX6_undo 16 = .ok (.isub, 1) := by decide +kernel
theorem dX6_undo_17 : decode cX6_undo 17 = .ok (.putfield 42, 3) := by decide +kernel
theorem dX6_undo_20 : decode cX6_undo 20 = .ok (.iconst 0, 1) := by decide +kernel
theorem dX6_undo_21 : decode cX6_undo 21 = .ok (.istore_n 1, 1) := by decide +kernel
theorem dX6_undo_22 : decode cX6_undo 22 = .ok (.iload_n 1, 1) := by decide +kernel
theorem dX6_undo_23 : decode cX6_undo 23 = .ok (.sipush 1333, 3) := by decide +kernel
theorem dX6_undo_26 : decode cX6_undo 26 = .ok (.if_icmp .ge 30, 3) := by decide +kernel
theorem dX6_undo_29 : decode cX6_undo 29 = .ok (.aload_n 0, 1) := by decide +kernel
theorem dX6_undo_30 : decode cX6_undo 30 = .ok (.getfield 7, 3) := by decide +kernel
theorem dX6_undo_33 : decode cX6_undo 33 = .ok (.iload_n 1, 1) := by decide +kernel
theorem dX6_undo_34 : decode cX6_undo 34 = .ok (.aload_n 0, 1) := by decide +kernel
theorem dX6_undo_35 : decode cX6_undo 35 = .ok (.getfield 13, 3) := by decide +kernel
theorem dX6_undo_38 : decode cX6_undo 38 = .ok (.sipush 1333, 3) := by decide +kernel
theorem dX6_undo_41 : decode cX6_undo 41 = .ok (.aload_n 0, 1) := by decide +kernel
theorem dX6_undo_42 : decode cX6_undo 42 = .ok (.getfield 42, 3) := by decide +kernel
theorem dX6_undo_45 : decode cX6_undo 45 = .ok (.imul, 1) := by decide +kernel
theorem dX6_undo_46 : decode cX6_undo 46 = .ok (.iload_n 1, 1) := by decide +kernel
theorem dX6_undo_47 : decode cX6_undo 47 = .ok (.iadd, 1) := by decide +kernel
theorem dX6_undo_48 : decode cX6_undo 48 = .ok (.iaload, 1) := by decide +kernel
theorem dX6_undo_49 : decode cX6_undo 49 = .ok (.iastore, 1) := by decide +kernel
theorem dX6_undo_50 : decode cX6_undo 50 = .ok (.iinc 1 1, 3) := by decide +kernel
theorem dX6_undo_53 : decode cX6_undo 53 = .ok (.goto (-31), 3) := by decide +kernel
theorem dX6_undo_56 : decode cX6_undo 56 = .ok (.aload_n 0, 1) := by decide +kernel
theorem dX6_undo_57 : decode cX6_undo 57 = .ok (.getfield 42, 3) := by decide +kernel
theorem dX6_undo_60 : decode cX6_undo 60 = .ok (.ireturn, 1) := by decide +kernel
set_option maxRecDepth 20000 in
theorem ggX6_save_X6_in : GoodIn wsX6_save wsX6_in := goodIn_r _ [7] (by decide +kernel) (by decide +kernel)
set_option maxRecDepth 20000 in
theorem gX6_save_X6_in : GoodIn wsX6_save (va_wsS RX6 38 yX6_in wsX6_in) := goodIn_app (goodIn_of _ (by decide +kernel)) ggX6_save_X6_in
set_option maxRecDepth 20000 in
theorem ggX6_save_X6_allStones : GoodIn wsX6_save wsX6_allStones := goodIn_r _ [11, 2, 12, 13, 14, 15, 16, 17, 18, 19, 20, 21, 22, 23, 24, 25, 26] (by decide +kernel) (by decide +kernel)
set_option maxRecDepth 20000 in
theorem gX6_save_X6_allStones : GoodIn wsX6_save (wsV RX6 132 RX6 yX6_allStones wsX6_allStones) := goodIn_app (goodIn_of _ (by decide +kernel)) ggX6_save_X6_allStones
theorem dX6_save_0 : decode cX6_save 0 = .ok (.iload_n 1, 1) := by decide +kernel
theorem dX6_save_1 : decode cX6_save 1 = .ok (.iconst 0, 1) := by decide +kernel
theorem dX6_save_2 : decode cX6_save 2 = .ok (.iconst 1, 1) := by decide +kernel
theorem dX6_save_3 : decode cX6_save 3 = .ok (.invokestatic 38, 3) := by decide +kernel
theorem dX6_save_6 : decode cX6_save 6 = .ok (.ifCond .ne 6, 3) := by decide +kernel
theorem dX6_save_9 : decode cX6_save 9 = .ok (.bipush (-2), 2) := by decide +kernel
theorem dX6_save_11 : decode cX6_save 11 = .ok (.ireturn, 1) := by decide +kernel
theorem dX6_save_12 : decode cX6_save 12 = .ok (.iconst 0, 1) := by decide +kernel
theorem dX6_save_13 : decode cX6_save 13 = .ok (.istore_n 2, 1) := by decide +kernel
theorem dX6_save_14 : decode cX6_save 14 = .ok (.iload_n 2, 1) := by decide +kernel
theorem dX6_save_15 : decode cX6_save 15 = .ok (.sipush 1333, 3) := by decide +kernel
theorem dX6_save_18 : decode cX6_save 18 = .ok (.if_icmp .ge 27, 3) := by decide +kernel
theorem dX6_save_21 : decode cX6_save 21 = .ok (.aload_n 0, 1) := by decide +kernel
theorem dX6_save_22 : decode cX6_save 22 = .ok (.getfield 16, 3) := by decide +kernel
theorem dX6_save_25 : decode cX6_save 25 = .ok (.sipush 1333, 3) := by decide +kernel
theorem dX6_save_28 : decode cX6_save 28 = .ok (.iload_n 1, 1) := by decide +kernel
theorem dX6_save_29 : decode cX6_save 29 = .ok (.imul, 1) := by decide +kernel
theorem dX6_save_30 : decode cX6_save 30 = .ok (.iload_n 2, 1) := by decide +kernel
theorem dX6_save_31 : decode cX6_save 31 = .ok (.iadd, 1) := by decide +kernel
theorem dX6_save_32 : decode cX6_save 32 = .ok (.aload_n 0, 1) := by decide +kernel
theorem dX6_save_33 : decode cX6_save 33 = .ok (.getfield 7, 3) := by decide +kernel
theorem dX6_save_36 : decode cX6_save 36 = .ok (.iload_n 2, 1) := by decide +kernel
theorem dX6_save_37 : decode cX6_save 37 = .ok (.iaload, 1) := by decide +kernel
theorem dX6_save_38 : decode cX6_save 38 = .ok (.iastore, 1) := by decide +kernel
theorem dX6_save_39 : decode cX6_save 39 = .ok (.iinc 2 1, 3) := by decide +kernel
theorem dX6_save_42 : decode cX6_save 42 = .ok (.goto (-28), 3) := by decide +kernel
theorem dX6_save_45 : decode cX6_save 45 = .ok (.aload_n 0, 1) := by decide +kernel
theorem dX6_save_46 : decode cX6_save 46 = .ok (.getfield 19, 3) := by decide +kernel
theorem dX6_save_49 : decode cX6_save 49 = .ok (.iload_n 1, 1) := by decide +kernel
theorem dX6_save_50 : decode cX6_save 50 = .ok (.iconst 1, 1) := by decide +kernel
theorem dX6_save_51 : decode cX6_save 51 = .ok (.bastore, 1) := by decide +kernel
theorem dX6_save_52 : decode cX6_save 52 = .ok (.aload_n 0, 1) := by decide +kernel
theorem dX6_save_53 : decode cX6_save 53 = .ok (.invokevirtual 132, 3) := by decide +kernel
theorem dX6_save_56 : decode cX6_save 56 = .ok (.ireturn, 1) := by decide +kernel
set_option maxRecDepth 20000 in
theorem ggX6_restore_X6_in : GoodIn wsX6_restore wsX6_in := goodIn_r _ [7] (by decide +kernel) (by decide +kernel)
set_option maxRecDepth 20000 in
theorem gX6_restore_X6_in : GoodIn wsX6_restore (va_wsS RX6 38 yX6_in wsX6_in) := goodIn_app (goodIn_of _ (by decide +kernel)) ggX6_restore_X6_in
set_option maxRecDepth 20000 in
theorem ggX6_restore_X6_record : GoodIn wsX6_restore wsX6_record := goodIn_r _ [11, 12, 13, 2, 18, 19, 20, 21, 22, 23, 24, 25, 26, 27, 28, 29, 30, 31, 32] (by decide +kernel) (by decide +kernel)
set_option maxRecDepth 20000 in
theorem gX6_restore_X6_record : GoodIn wsX6_restore (wsV RX6 123 RX6 yX6_record wsX6_record) := goodIn_app (goodIn_of _ (by decide +kernel)) ggX6_restore_X6_record
set_option maxRecDepth 20000 in
theorem ggX6_restore_X6_allStones : GoodIn wsX6_restore wsX6_allStones := goodIn_r _ [17, 2, 18, 19, 20, 21, 22, 23, 24, 25, 26, 27, 28, 29, 30, 31, 32] (by decide +kernel) (by decide +kernel)
set_option maxRecDepth 20000 in
theorem gX6_restore_X6_allStones : GoodIn wsX6_restore (wsV RX6 132 RX6 yX6_allStones wsX6_allStones) := goodIn_app (goodIn_of _ (by decide +kernel)) ggX6_restore_X6_allStones
theorem dX6_restore_0 : decode cX6_restore 0 = .ok (.iload_n 1, 1) := by decide +kernel
theorem dX6_restore_1 : decode cX6_restore 1 = .ok (.iconst 0, 1) := by decide +kernel
theorem dX6_restore_2 : decode cX6_restore 2 = .ok (.iconst 1, 1) := by decide +kernel
theorem dX6_restore_3 : decode cX6_restore 3 = .ok (.invokestatic 38, 3) := by decide +kernel
theorem dX6_restore_6 : decode cX6_restore 6 = .ok (.ifCond .ne 6, 3) := by decide +kernel
theorem dX6_restore_9 : decode cX6_restore 9 = .ok (.bipush (-2), 2) := by decide +kernel
theorem dX6_restore_11 : decode cX6_restore 11 = .ok (.ireturn, 1) := by decide +kernel
theorem dX6_restore_12 : decode cX6_restore 12 = .ok (.aload_n 0, 1) := by decide +kernel
theorem dX6_restore_13 : decode cX6_restore 13 = .ok (.getfield 19, 3) := by decide +kernel
theorem dX6_restore_16 : decode cX6_restore 16 = .ok (.iload_n 1, 1) := by decide +kernel
theorem dX6_restore_17 : decode cX6_restore 17 = .ok (.baload, 1) := by decide +kernel
theorem dX6_restore_18 : decode cX6_restore 18 = .ok (.ifCond .ne 6, 3) := by decide +kernel
theorem dX6_restore_21 : decode cX6_restore 21 = .ok (.bipush (-5), 2) := by decide +kernel
theorem dX6_restore_23 : decode cX6_restore 23 = .ok (.ireturn, 1) := by decide +kernel
theorem dX6_restore_24 : decode cX6_restore 24 = .ok (.aload_n 0, 1) := by decide +kernel
theorem dX6_restore_25 : decode cX6_restore 25 = .ok (.invokevirtual 123, 3) := by decide +kernel
theorem dX6_restore_28 : decode cX6_restore 28 = .ok (.iconst 0, 1) := by decide +kernel
theorem dX6_restore_29 : decode cX6_restore 29 = .ok (.istore_n 2, 1) := by decide +kernel
theorem dX6_restore_30 : decode cX6_restore 30 = .ok (.iload_n 2, 1) := by decide +kernel
theorem dX6_restore_31 : decode cX6_restore 31 = .ok (.sipush 1333, 3) := by decide +kernel
theorem dX6_restore_34 : decode cX6_restore 34 = .ok (.if_icmp .ge 27, 3) := by decide +kernel
theorem dX6_restore_37 : decode cX6_restore 37 = .ok (.aload_n 0, 1) := by decide +kernel
theorem dX6_restore_38 : decode cX6_restore 38 = .ok (.getfield 7, 3) := by decide +kernel
theorem dX6_restore_41 : decode cX6_restore 41 = .ok (.iload_n 2, 1) := by decide +kernel
theorem dX6_restore_42 : decode cX6_restore 42 = .ok (.aload_n 0, 1) := by decide +kernel
theorem dX6_restore_43 : decode cX6_restore 43 = .ok (.getfield 16, 3) := by decide +kernel
theorem dX6_restore_46 : decode cX6_restore 46 = .ok (.sipush 1333, 3) := by decide +kernel
theorem dX6_restore_49 : decode cX6_restore 49 = .ok (.iload_n 1, 1) := by decide +kernel
theorem dX6_restore_50 : decode cX6_restore 50 = .ok (.imul, 1) := by decide +kernel
theorem dX6_restore_51 : decode cX6_restore 51 = .ok (.iload_n 2, 1) := by decide +kernel
theorem dX6_restore_52 : decode cX6_restore 52 = .ok (.iadd, 1) := by decide +kernel
theorem dX6_restore_53 : decode cX6_restore 53 = .ok (.iaload, 1) := by decide +kernel
theorem dX6_restore_54 : decode cX6_restore 54 = .ok (.iastore, 1) := by decide +kernel
theorem dX6_restore_55 : decode cX6_restore 55 = .ok (.iinc 2 1, 3) := by decide +kernel
theorem dX6_restore_58 : decode cX6_restore 58 = .ok (.goto (-28), 3) := by decide +kernel
theorem dX6_restore_61 : decode cX6_restore 61 = .ok (.aload_n 0, 1) := by decide +kernel
theorem dX6_restore_62 : decode cX6_restore 62 = .ok (.invokevirtual 132, 3) := by decide +kernel
theorem dX6_restore_65 : decode cX6_restore 65 = .ok (.ireturn, 1) := by decide +kernel
theorem dJ9_max_7cf53_0 : decode cJ9_max_7cf53 0 = .ok (.iload_n 0, 1) := by decide +kernel
theorem dJ9_max_7cf53_1 : decode cJ9_max_7cf53 1 = .ok (.iload_n 1, 1) := by decide +kernel
theorem dJ9_max_7cf53_2 : decode cJ9_max_7cf53 2 = .ok (.if_icmp .lt 7, 3) := by decide +kernel
theorem dJ9_max_7cf53_5 : decode cJ9_max_7cf53 5 = .ok (.iload_n 0, 1) := by decide +kernel
theorem dJ9_max_7cf53_6 : decode cJ9_max_7cf53 6 = .ok (.goto 4, 3) := by decide +kernel
theorem dJ9_max_7cf53_9 : decode cJ9_max_7cf53 9 = .ok (.iload_n 1, 1) := by decide +kernel
theorem dJ9_max_7cf53_10 : decode cJ9_max_7cf53 10 = .ok (.ireturn, 1) := by decide +kernel
theorem dJ9_min_7cf53_0 : decode cJ9_min_7cf53 0 = .ok (.iload_n 0, 1) := by decide +kernel
theorem dJ9_min_7cf53_1 : decode cJ9_min_7cf53 1 = .ok (.iload_n 1, 1) := by decide +kernel
theorem dJ9_min_7cf53_2 : decode cJ9_min_7cf53 2 = .ok (.if_icmp .gt 7, 3) := by decide +kernel
theorem dJ9_min_7cf53_5 : decode cJ9_min_7cf53 5 = .ok (.iload_n 0, 1) := by decide +kernel
theorem dJ9_min_7cf53_6 : decode cJ9_min_7cf53 6 = .ok (.goto 4, 3) := by decide +kernel
theorem dJ9_min_7cf53_9 : decode cJ9_min_7cf53 9 = .ok (.iload_n 1, 1) := by decide +kernel
theorem dJ9_min_7cf53_10 : decode cJ9_min_7cf53 10 = .ok (.ireturn, 1) := by decide +kernel
