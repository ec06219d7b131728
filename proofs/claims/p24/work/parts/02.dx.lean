set_option maxRecDepth 20000 in
theorem ggX0_init_X4_init : GoodIn wsX0_init wsX4_init := goodIn_r _ [10, 11, 2, 3, 12, 13, 14, 15, 16, 17, 18, 19, 23, 24, 25, 26, 27, 28, 29, 30, 31, 32] (by decide +kernel) (by decide +kernel)
set_option maxRecDepth 20000 in
theorem gX0_init_X4_init : GoodIn wsX0_init (wsX4_init) := ggX0_init_X4_init
theorem dX0_init_0 : decode cX0_init 0 = .ok (.aload_n 0, 1) := by decide +kernel
theorem dX0_init_1 : decode cX0_init 1 = .ok (.invokespecial 1, 3) := by decide +kernel
theorem dX0_init_4 : decode cX0_init 4 = .ok (.aload_n 0, 1) := by decide +kernel
theorem dX0_init_5 : decode cX0_init 5 = .ok (.bipush 6, 2) := by decide +kernel
theorem dX0_init_7 : decode cX0_init 7 = .ok (.anewarray 9, 3) := by decide +kernel
theorem dX0_init_10 : decode cX0_init 10 = .ok (.putfield 11, 3) := by decide +kernel
theorem dX0_init_13 : decode cX0_init 13 = .ok (.iconst 0, 1) := by decide +kernel
theorem dX0_init_14 : decode cX0_init 14 = .ok (.istore_n 1, 1) := by decide +kernel
theorem dX0_init_15 : decode cX0_init 15 = .ok (.iload_n 1, 1) := by decide +kernel
theorem dX0_init_16 : decode cX0_init 16 = .ok (.aload_n 0, 1) := by decide +kernel
theorem dX0_init_17 : decode cX0_init 17 = .ok (.getfield 11, 3) := by decide +kernel
theorem dX0_init_20 : decode cX0_init 20 = .ok (.arraylength, 1) := by decide +kernel
theorem dX0_init_21 : decode cX0_init 21 = .ok (.if_icmp .ge 22, 3) := by decide +kernel
theorem dX0_init_24 : decode cX0_init 24 = .ok (.aload_n 0, 1) := by decide +kernel
theorem dX0_init_25 : decode cX0_init 25 = .ok (.getfield 11, 3) := by decide +kernel
theorem dX0_init_28 : decode cX0_init 28 = .ok (.iload_n 1, 1) := by decide +kernel
theorem dX0_init_29 : decode cX0_init 29 = .ok (.new 9, 3) := by decide +kernel
theorem dX0_init_32 : decode cX0_init 32 = .ok (.dup, 1) := by decide +kernel
theorem dX0_init_33 : decode cX0_init 33 = .ok (.invokespecial 15, 3) := by decide +kernel
theorem dX0_init_36 : decode cX0_init 36 = .ok (.aastore, 1) := by decide +kernel
theorem dX0_init_37 : decode cX0_init 37 = .ok (.iinc 1 1, 3) := by decide +kernel
theorem dX0_init_40 : decode cX0_init 40 = .ok (.goto (-25), 3) := by decide +kernel
theorem dX0_init_43 : decode cX0_init 43 = .ok (.return_, 1) := by decide +kernel
theorem dX0_states_0 : decode cX0_states 0 = .ok (.aload_n 0, 1) := by decide +kernel
theorem dX0_states_1 : decode cX0_states 1 = .ok (.getfield 16, 3) := by decide +kernel
theorem dX0_states_4 : decode cX0_states 4 = .ok (.ireturn, 1) := by decide +kernel
set_option maxRecDepth 20000 in
theorem ggX0_record_X4_copyFrom : GoodIn wsX0_record wsX4_copyFrom := goodIn_r _ [12, 13, 14, 15, 16, 17, 18, 19, 20, 21, 22, 23, 24, 11, 25, 26, 5, 6, 7, 27, 28, 29, 30, 34, 35, 36, 37, 38, 39, 40, 41, 42, 43] (by decide +kernel) (by decide +kernel)
set_option maxRecDepth 20000 in
theorem gX0_record_X4_copyFrom : GoodIn wsX0_record (wsV RX0 23 RX4 yX4_copyFrom wsX4_copyFrom) := goodIn_app (goodIn_of _ (by decide +kernel)) ggX0_record_X4_copyFrom
theorem dX0_record_0 : decode cX0_record 0 = .ok (.aload_n 0, 1) := by decide +kernel
theorem dX0_record_1 : decode cX0_record 1 = .ok (.getfield 20, 3) := by decide +kernel
theorem dX0_record_4 : decode cX0_record 4 = .ok (.ifCond .lt 24, 3) := by decide +kernel
theorem dX0_record_7 : decode cX0_record 7 = .ok (.aload_n 0, 1) := by decide +kernel
theorem dX0_record_8 : decode cX0_record 8 = .ok (.getfield 20, 3) := by decide +kernel
theorem dX0_record_11 : decode cX0_record 11 = .ok (.bipush 6, 2) := by decide +kernel
theorem dX0_record_13 : decode cX0_record 13 = .ok (.if_icmp .ge 15, 3) := by decide +kernel
theorem dX0_record_16 : decode cX0_record 16 = .ok (.aload_n 0, 1) := by decide +kernel
theorem dX0_record_17 : decode cX0_record 17 = .ok (.getfield 11, 3) := by decide +kernel
theorem dX0_record_20 : decode cX0_record 20 = .ok (.aload_n 0, 1) := by decide +kernel
theorem dX0_record_21 : decode cX0_record 21 = .ok (.getfield 20, 3) := by decide +kernel
theorem dX0_record_24 : decode cX0_record 24 = .ok (.aaload, 1) := by decide +kernel
theorem dX0_record_25 : decode cX0_record 25 = .ok (.ifnonnull 4, 3) := by decide +kernel
theorem dX0_record_28 : decode cX0_record 28 = .ok (.return_, 1) := by decide +kernel
theorem dX0_record_29 : decode cX0_record 29 = .ok (.aload_n 0, 1) := by decide +kernel
theorem dX0_record_30 : decode cX0_record 30 = .ok (.getfield 11, 3) := by decide +kernel
theorem dX0_record_33 : decode cX0_record 33 = .ok (.aload_n 0, 1) := by decide +kernel
theorem dX0_record_34 : decode cX0_record 34 = .ok (.getfield 20, 3) := by decide +kernel
theorem dX0_record_37 : decode cX0_record 37 = .ok (.aaload, 1) := by decide +kernel
theorem dX0_record_38 : decode cX0_record 38 = .ok (.aload_n 1, 1) := by decide +kernel
theorem dX0_record_39 : decode cX0_record 39 = .ok (.invokevirtual 23, 3) := by decide +kernel
theorem dX0_record_42 : decode cX0_record 42 = .ok (.aload_n 0, 1) := by decide +kernel
theorem dX0_record_43 : decode cX0_record 43 = .ok (.aload_n 0, 1) := by decide +kernel
theorem dX0_record_44 : decode cX0_record 44 = .ok (.getfield 20, 3) := by decide +kernel
theorem dX0_record_47 : decode cX0_record 47 = .ok (.iconst 1, 1) := by decide +kernel
theorem dX0_record_48 : decode cX0_record 48 = .ok (.iadd, 1) := by decide +kernel
theorem dX0_record_49 : decode cX0_record 49 = .ok (.bipush 6, 2) := by decide +kernel
theorem dX0_record_51 : decode cX0_record 51 = .ok (.irem, 1) := by decide +kernel
theorem dX0_record_52 : decode cX0_record 52 = .ok (.putfield 20, 3) := by decide +kernel
theorem dX0_record_55 : decode cX0_record 55 = .ok (.aload_n 0, 1) := by decide +kernel
theorem dX0_record_56 : decode cX0_record 56 = .ok (.aload_n 0, 1) := by decide +kernel
theorem dX0_record_57 : decode cX0_record 57 = .ok (.getfield 16, 3) := by decide +kernel
theorem dX0_record_60 : decode cX0_record 60 = .ok (.iconst 1, 1) := by decide +kernel
theorem dX0_record_61 : decode cX0_record 61 = .ok (.iadd, 1) := by decide +kernel
theorem dX0_record_62 : decode cX0_record 62 = .ok (.bipush 6, 2) := by decide +kernel
theorem dX0_record_64 : decode cX0_record 64 = .ok (.invokestatic 27, 3) := by decide +kernel
theorem dX0_record_67 : decode cX0_record 67 = .ok (.putfield 16, 3) := by decide +kernel
theorem dX0_record_70 : decode cX0_record 70 = .ok (.return_, 1) := by decide +kernel
set_option maxRecDepth 20000 in
theorem ggX0_takeBack_X4_copyFrom : GoodIn wsX0_takeBack wsX4_copyFrom := goodIn_r _ [8, 9, 10, 11, 12, 13, 14, 15, 16, 17, 18, 19, 20, 7, 21, 22, 23, 24, 25, 26, 27, 28, 29, 33, 34, 35, 36, 37, 38, 39, 40, 41, 42] (by decide +kernel) (by decide +kernel)
set_option maxRecDepth 20000 in
theorem gX0_takeBack_X4_copyFrom : GoodIn wsX0_takeBack (wsV RX0 23 RX4 yX4_copyFrom wsX4_copyFrom) := goodIn_app (goodIn_of _ (by decide +kernel)) ggX0_takeBack_X4_copyFrom
theorem dX0_takeBack_0 : decode cX0_takeBack 0 = .ok (.aload_n 0, 1) := by decide +kernel
theorem dX0_takeBack_1 : decode cX0_takeBack 1 = .ok (.getfield 20, 3) := by decide +kernel
theorem dX0_takeBack_4 : decode cX0_takeBack 4 = .ok (.bipush 6, 2) := by decide +kernel
theorem dX0_takeBack_6 : decode cX0_takeBack 6 = .ok (.iadd, 1) := by decide +kernel
theorem dX0_takeBack_7 : decode cX0_takeBack 7 = .ok (.iconst 1, 1) := by decide +kernel
theorem dX0_takeBack_8 : decode cX0_takeBack 8 = .ok (.isub, 1) := by decide +kernel
theorem dX0_takeBack_9 : decode cX0_takeBack 9 = .ok (.bipush 6, 2) := by decide +kernel
theorem dX0_takeBack_11 : decode cX0_takeBack 11 = .ok (.irem, 1) := by decide +kernel
theorem dX0_takeBack_12 : decode cX0_takeBack 12 = .ok (.istore_n 2, 1) := by decide +kernel
theorem dX0_takeBack_13 : decode cX0_takeBack 13 = .ok (.aload_n 0, 1) := by decide +kernel
theorem dX0_takeBack_14 : decode cX0_takeBack 14 = .ok (.getfield 16, 3) := by decide +kernel
theorem dX0_takeBack_17 : decode cX0_takeBack 17 = .ok (.ifCond .eq 11, 3) := by decide +kernel
theorem dX0_takeBack_20 : decode cX0_takeBack 20 = .ok (.aload_n 1, 1) := by decide +kernel
theorem dX0_takeBack_21 : decode cX0_takeBack 21 = .ok (.ifnull 7, 3) := by decide +kernel
theorem dX0_takeBack_24 : decode cX0_takeBack 24 = .ok (.iload_n 2, 1) := by decide +kernel
theorem dX0_takeBack_25 : decode cX0_takeBack 25 = .ok (.ifCond .ge 4, 3) := by decide +kernel
theorem dX0_takeBack_28 : decode cX0_takeBack 28 = .ok (.return_, 1) := by decide +kernel
theorem dX0_takeBack_29 : decode cX0_takeBack 29 = .ok (.aload_n 1, 1) := by decide +kernel
theorem dX0_takeBack_30 : decode cX0_takeBack 30 = .ok (.aload_n 0, 1) := by decide +kernel
theorem dX0_takeBack_31 : decode cX0_takeBack 31 = .ok (.getfield 11, 3) := by decide +kernel
theorem dX0_takeBack_34 : decode cX0_takeBack 34 = .ok (.iload_n 2, 1) := by decide +kernel
theorem dX0_takeBack_35 : decode cX0_takeBack 35 = .ok (.aaload, 1) := by decide +kernel
theorem dX0_takeBack_36 : decode cX0_takeBack 36 = .ok (.invokevirtual 23, 3) := by decide +kernel
theorem dX0_takeBack_39 : decode cX0_takeBack 39 = .ok (.aload_n 0, 1) := by decide +kernel
theorem dX0_takeBack_40 : decode cX0_takeBack 40 = .ok (.iload_n 2, 1) := by decide +kernel
theorem dX0_takeBack_41 : decode cX0_takeBack 41 = .ok (.putfield 20, 3) := by decide +kernel
theorem dX0_takeBack_44 : decode cX0_takeBack 44 = .ok (.aload_n 0, 1) := by decide +kernel
theorem dX0_takeBack_45 : decode cX0_takeBack 45 = .ok (.dup, 1) := by decide +kernel
theorem dX0_takeBack_46 : decode cX0_takeBack 46 = .ok (.getfield 16, 3) := by decide +kernel
theorem dX0_takeBack_49 : decode cX0_takeBack 49 = .ok (.iconst 1, 1) := by decide +kernel
theorem dX0_takeBack_50 : decode cX0_takeBack 50 = .ok (.isub, 1) := by decide +kernel
theorem dX0_takeBack_51 : decode cX0_takeBack 51 = .ok (.putfield 16, 3) := by decide +kernel
theorem dX0_takeBack_54 : decode cX0_takeBack 54 = .ok (.return_, 1) := by decide +kernel
theorem dX1_init_0 : decode cX1_init 0 = .ok (.aload_n 0, 1) := by decide +kernel
theorem dX1_init_1 : decode cX1_init 1 = .ok (.invokespecial 5, 3) := by decide +kernel
theorem dX1_init_4 : decode cX1_init 4 = .ok (.aload_n 0, 1) := by decide +kernel
theorem dX1_init_5 : decode cX1_init 5 = .ok (.bipush 60, 2) := by decide +kernel
theorem dX1_init_7 : decode cX1_init 7 = .ok (.newarray .char, 2) := by decide +kernel
theorem dX1_init_9 : decode cX1_init 9 = .ok (.putfield 11, 3) := by decide +kernel
theorem dX1_init_12 : decode cX1_init 12 = .ok (.aload_n 0, 1) := by decide +kernel
theorem dX1_init_13 : decode cX1_init 13 = .ok (.bipush 20, 2) := by decide +kernel
theorem dX1_init_15 : decode cX1_init 15 = .ok (.newarray .int, 2) := by decide +kernel
theorem dX1_init_17 : decode cX1_init 17 = .ok (.putfield 15, 3) := by decide +kernel
theorem dX1_init_20 : decode cX1_init 20 = .ok (.return_, 1) := by decide +kernel
theorem dX1_length_0 : decode cX1_length 0 = .ok (.aload_n 0, 1) := by decide +kernel
theorem dX1_length_1 : decode cX1_length 1 = .ok (.getfield 19, 3) := by decide +kernel
theorem dX1_length_4 : decode cX1_length 4 = .ok (.ireturn, 1) := by decide +kernel
theorem dX1_orders_0 : decode cX1_orders 0 = .ok (.aload_n 0, 1) := by decide +kernel
theorem dX1_orders_1 : decode cX1_orders 1 = .ok (.getfield 23, 3) := by decide +kernel
theorem dX1_orders_4 : decode cX1_orders 4 = .ok (.ireturn, 1) := by decide +kernel
theorem dX1_order_0 : decode cX1_order 0 = .ok (.iload_n 1, 1) := by decide +kernel
theorem dX1_order_1 : decode cX1_order 1 = .ok (.ifCond .lt 21, 3) := by decide +kernel
theorem dX1_order_4 : decode cX1_order 4 = .ok (.iload_n 1, 1) := by decide +kernel
theorem dX1_order_5 : decode cX1_order 5 = .ok (.aload_n 0, 1) := by decide +kernel
theorem dX1_order_6 : decode cX1_order 6 = .ok (.getfield 15, 3) := by decide +kernel
theorem dX1_order_9 : decode cX1_order 9 = .ok (.arraylength, 1) := by decide +kernel
theorem dX1_order_10 : decode cX1_order 10 = .ok (.if_icmp .ge 12, 3) := by decide +kernel
theorem dX1_order_13 : decode cX1_order 13 = .ok (.aload_n 0, 1) := by decide +kernel
theorem dX1_order_14 : decode cX1_order 14 = .ok (.getfield 15, 3) := by decide +kernel
theorem dX1_order_17 : decode cX1_order 17 = .ok (.iload_n 1, 1) := by decide +kernel
theorem dX1_order_18 : decode cX1_order 18 = .ok (.iaload, 1) := by decide +kernel
theorem dX1_order_19 : decode cX1_order 19 = .ok (.goto 4, 3) := by decide +kernel
theorem dX1_order_22 : decode cX1_order 22 = .ok (.iconst 0, 1) := by decide +kernel
theorem dX1_order_23 : decode cX1_order 23 = .ok (.ireturn, 1) := by decide +kernel
theorem dX1_clear_0 : decode cX1_clear 0 = .ok (.aload_n 0, 1) := by decide +kernel
theorem dX1_clear_1 : decode cX1_clear 1 = .ok (.iconst 0, 1) := by decide +kernel
theorem dX1_clear_2 : decode cX1_clear 2 = .ok (.putfield 19, 3) := by decide +kernel
theorem dX1_clear_5 : decode cX1_clear 5 = .ok (.return_, 1) := by decide +kernel
theorem dX1_charactersIn_0 : decode cX1_charactersIn 0 = .ok (.lload_n 0, 1) := by decide +kernel
theorem dX1_charactersIn_1 : decode cX1_charactersIn 1 = .ok (.lstore_n 2, 1) := by decide +kernel
theorem dX1_charactersIn_2 : decode cX1_charactersIn 2 = .ok (.iconst 0, 1) := by decide +kernel
theorem dX1_charactersIn_3 : decode cX1_charactersIn 3 = .ok (.istore 4, 2) := by decide +kernel
theorem dX1_charactersIn_5 : decode cX1_charactersIn 5 = .ok (.iconst 0, 1) := by decide +kernel
theorem dX1_charactersIn_6 : decode cX1_charactersIn 6 = .ok (.istore 5, 2) := by decide +kernel
theorem dX1_charactersIn_8 : decode cX1_charactersIn 8 = .ok (.iload 5, 2) := by decide +kernel
theorem dX1_charactersIn_10 : decode cX1_charactersIn 10 = .ok (.bipush 8, 2) := by decide +kernel
theorem dX1_charactersIn_12 : decode cX1_charactersIn 12 = .ok (.if_icmp .ge 53, 3) := by decide +kernel
theorem dX1_charactersIn_15 : decode cX1_charactersIn 15 = .ok (.lload_n 2, 1) := by decide +kernel
theorem dX1_charactersIn_16 : decode cX1_charactersIn 16 = .ok (.ldc2_w 26, 3) := by decide +kernel
theorem dX1_charactersIn_19 : decode cX1_charactersIn 19 = .ok (.land, 1) := by decide +kernel
theorem dX1_charactersIn_20 : decode cX1_charactersIn 20 = .ok (.lconst 0, 1) := by decide +kernel
theorem dX1_charactersIn_21 : decode cX1_charactersIn 21 = .ok (.lcmp, 1) := by decide +kernel
theorem dX1_charactersIn_22 : decode cX1_charactersIn 22 = .ok (.ifCond .eq 43, 3) := by decide +kernel
theorem dX1_charactersIn_25 : decode cX1_charactersIn 25 = .ok (.lload_n 2, 1) := by decide +kernel
theorem dX1_charactersIn_26 : decode cX1_charactersIn 26 = .ok (.ldc2_w 26, 3) := by decide +kernel
theorem dX1_charactersIn_29 : decode cX1_charactersIn 29 = .ok (.land, 1) := by decide +kernel
theorem dX1_charactersIn_30 : decode cX1_charactersIn 30 = .ok (.ldc2_w 28, 3) := by decide +kernel
theorem dX1_charactersIn_33 : decode cX1_charactersIn 33 = .ok (.lcmp, 1) := by decide +kernel
theorem dX1_charactersIn_34 : decode cX1_charactersIn 34 = .ok (.ifCond .lt 15, 3) := by decide +kernel
theorem dX1_charactersIn_37 : decode cX1_charactersIn 37 = .ok (.lload_n 2, 1) := by decide +kernel
theorem dX1_charactersIn_38 : decode cX1_charactersIn 38 = .ok (.ldc2_w 26, 3) := by decide +kernel
theorem dX1_charactersIn_41 : decode cX1_charactersIn 41 = .ok (.land, 1) := by decide +kernel
theorem dX1_charactersIn_42 : decode cX1_charactersIn 42 = .ok (.ldc2_w 30, 3) := by decide +kernel
theorem dX1_charactersIn_45 : decode cX1_charactersIn 45 = .ok (.lcmp, 1) := by decide +kernel
theorem dX1_charactersIn_46 : decode cX1_charactersIn 46 = .ok (.ifCond .le 5, 3) := by decide +kernel
theorem dX1_charactersIn_49 : decode cX1_charactersIn 49 = .ok (.iconst 0, 1) := by decide +kernel
theorem dX1_charactersIn_50 : decode cX1_charactersIn 50 = .ok (.ireturn, 1) := by decide +kernel
theorem dX1_charactersIn_51 : decode cX1_charactersIn 51 = .ok (.lload_n 2, 1) := by decide +kernel
theorem dX1_charactersIn_52 : decode cX1_charactersIn 52 = .ok (.bipush 8, 2) := by decide +kernel
theorem dX1_charactersIn_54 : decode cX1_charactersIn 54 = .ok (.lushr, 1) := by decide +kernel
theorem dX1_charactersIn_55 : decode cX1_charactersIn 55 = .ok (.lstore_n 2, 1) := by decide +kernel
theorem dX1_charactersIn_56 : decode cX1_charactersIn 56 = .ok (.iinc 4 1, 3) := by decide +kernel
theorem dX1_charactersIn_59 : decode cX1_charactersIn 59 = .ok (.iinc 5 1, 3) := by decide +kernel
theorem dX1_charactersIn_62 : decode cX1_charactersIn 62 = .ok (.goto (-54), 3) := by decide +kernel
theorem dX1_charactersIn_65 : decode cX1_charactersIn 65 = .ok (.lload_n 2, 1) := by decide +kernel
theorem dX1_charactersIn_66 : decode cX1_charactersIn 66 = .ok (.lconst 0, 1) := by decide +kernel
theorem dX1_charactersIn_67 : decode cX1_charactersIn 67 = .ok (.lcmp, 1) := by decide +kernel
theorem dX1_charactersIn_68 : decode cX1_charactersIn 68 = .ok (.ifCond .ne 8, 3) := by decide +kernel
theorem dX1_charactersIn_71 : decode cX1_charactersIn 71 = .ok (.iload 4, 2) := by decide +kernel
theorem dX1_charactersIn_73 : decode cX1_charactersIn 73 = .ok (.goto 4, 3) := by decide +kernel
theorem dX1_charactersIn_76 : decode cX1_charactersIn 76 = .ok (.iconst 0, 1) := by decide +kernel
theorem dX1_charactersIn_77 : decode cX1_charactersIn 77 = .ok (.ireturn, 1) := by decide +kernel
theorem dX1_append_0 : decode cX1_append 0 = .ok (.iload_n 3, 1) := by decide +kernel
theorem dX1_append_1 : decode cX1_append 1 = .ok (.iconst 1, 1) := by decide +kernel
theorem dX1_append_2 : decode cX1_append 2 = .ok (.isub, 1) := by decide +kernel
theorem dX1_append_3 : decode cX1_append 3 = .ok (.istore 4, 2) := by decide +kernel
theorem dX1_append_5 : decode cX1_append 5 = .ok (.iload 4, 2) := by decide +kernel
theorem dX1_append_7 : decode cX1_append 7 = .ok (.ifCond .lt 60, 3) := by decide +kernel
theorem dX1_append_10 : decode cX1_append 10 = .ok (.aload_n 0, 1) := by decide +kernel
theorem dX1_append_11 : decode cX1_append 11 = .ok (.getfield 19, 3) := by decide +kernel
theorem dX1_append_14 : decode cX1_append 14 = .ok (.ifCond .lt 47, 3) := by decide +kernel
theorem dX1_append_17 : decode cX1_append 17 = .ok (.aload_n 0, 1) := by decide +kernel
theorem dX1_append_18 : decode cX1_append 18 = .ok (.getfield 19, 3) := by decide +kernel
theorem dX1_append_21 : decode cX1_append 21 = .ok (.aload_n 0, 1) := by decide +kernel
theorem dX1_append_22 : decode cX1_append 22 = .ok (.getfield 11, 3) := by decide +kernel
theorem dX1_append_25 : decode cX1_append 25 = .ok (.arraylength, 1) := by decide +kernel
theorem dX1_append_26 : decode cX1_append 26 = .ok (.if_icmp .ge 35, 3) := by decide +kernel
theorem dX1_append_29 : decode cX1_append 29 = .ok (.aload_n 0, 1) := by decide +kernel
theorem dX1_append_30 : decode cX1_append 30 = .ok (.getfield 11, 3) := by decide +kernel
theorem dX1_append_33 : decode cX1_append 33 = .ok (.aload_n 0, 1) := by decide +kernel
theorem dX1_append_34 : decode cX1_append 34 = .ok (.getfield 19, 3) := by decide +kernel
theorem dX1_append_37 : decode cX1_append 37 = .ok (.lload_n 1, 1) := by decide +kernel
theorem dX1_append_38 : decode cX1_append 38 = .ok (.bipush 8, 2) := by decide +kernel
theorem dX1_append_40 : decode cX1_append 40 = .ok (.iload 4, 2) := by decide +kernel
theorem dX1_append_42 : decode cX1_append 42 = .ok (.imul, 1) := by decide +kernel
theorem dX1_append_43 : decode cX1_append 43 = .ok (.lushr, 1) := by decide +kernel
theorem dX1_append_44 : decode cX1_append 44 = .ok (.ldc2_w 26, 3) := by decide +kernel
theorem dX1_append_47 : decode cX1_append 47 = .ok (.land, 1) := by decide +kernel
theorem dX1_append_48 : decode cX1_append 48 = .ok (.l2i, 1) := by decide +kernel
theorem dX1_append_49 : decode cX1_append 49 = .ok (.i2c, 1) := by decide +kernel
theorem dX1_append_50 : decode cX1_append 50 = .ok (.castore, 1) := by decide +kernel
theorem dX1_append_51 : decode cX1_append 51 = .ok (.aload_n 0, 1) := by decide +kernel
theorem dX1_append_52 : decode cX1_append 52 = .ok (.dup, 1) := by decide +kernel
theorem dX1_append_53 : decode cX1_append 53 = .ok (.getfield 19, 3) := by decide +kernel
theorem dX1_append_56 : decode cX1_append 56 = .ok (.iconst 1, 1) := by decide +kernel
theorem dX1_append_57 : decode cX1_append 57 = .ok (.iadd, 1) := by decide +kernel
theorem dX1_append_58 : decode cX1_append 58 = .ok (.putfield 19, 3) := by decide +kernel
theorem dX1_append_61 : decode cX1_append 61 = .ok (.iinc 4 (-1), 3) := by decide +kernel
theorem dX1_append_64 : decode cX1_append 64 = .ok (.goto (-59), 3) := by decide +kernel
theorem dX1_append_67 : decode cX1_append 67 = .ok (.return_, 1) := by decide +kernel
set_option maxRecDepth 20000 in
theorem ggX1_readOrders_X1_readOrder : GoodIn wsX1_readOrders wsX1_readOrder := goodIn_r _ [8, 9, 10, 11, 7, 12, 13, 14, 15, 16, 2, 17, 18, 19, 20, 21, 22, 23, 24, 3, 25, 26, 27, 28, 29, 30, 31, 32, 33, 1, 34, 35, 36, 37, 38, 39, 40, 41, 42, 43] (by decide +kernel) (by decide +kernel)
set_option maxRecDepth 20000 in
theorem gX1_readOrders_X1_readOrder : GoodIn wsX1_readOrders (wsV RX1 35 RX1 yX1_readOrder wsX1_readOrder) := goodIn_app (goodIn_of _ (by decide +kernel)) ggX1_readOrders_X1_readOrder
set_option maxRecDepth 20000 in
theorem ggX1_readOrders_X1_take : GoodIn wsX1_readOrders wsX1_take := goodIn_r _ [29, 2, 21, 22, 23, 7, 24, 3, 25, 39, 40, 41, 42, 43] (by decide +kernel) (by decide +kernel)
set_option maxRecDepth 20000 in
theorem gX1_readOrders_X1_take : GoodIn wsX1_readOrders (wsV RX1 39 RX1 yX1_take wsX1_take) := goodIn_app (goodIn_of _ (by decide +kernel)) ggX1_readOrders_X1_take
theorem dX1_readOrders_0 : decode cX1_readOrders 0 = .ok (.aload_n 0, 1) := by decide +kernel
theorem dX1_readOrders_1 : decode cX1_readOrders 1 = .ok (.iconst 0, 1) := by decide +kernel
theorem dX1_readOrders_2 : decode cX1_readOrders 2 = .ok (.putfield 23, 3) := by decide +kernel
theorem dX1_readOrders_5 : decode cX1_readOrders 5 = .ok (.aload_n 0, 1) := by decide +kernel
theorem dX1_readOrders_6 : decode cX1_readOrders 6 = .ok (.iconst 0, 1) := by decide +kernel
theorem dX1_readOrders_7 : decode cX1_readOrders 7 = .ok (.putfield 32, 3) := by decide +kernel
theorem dX1_readOrders_10 : decode cX1_readOrders 10 = .ok (.iconst 0, 1) := by decide +kernel
theorem dX1_readOrders_11 : decode cX1_readOrders 11 = .ok (.istore_n 1, 1) := by decide +kernel
theorem dX1_readOrders_12 : decode cX1_readOrders 12 = .ok (.iload_n 1, 1) := by decide +kernel
theorem dX1_readOrders_13 : decode cX1_readOrders 13 = .ok (.bipush 20, 2) := by decide +kernel
theorem dX1_readOrders_15 : decode cX1_readOrders 15 = .ok (.if_icmp .ge 49, 3) := by decide +kernel
theorem dX1_readOrders_18 : decode cX1_readOrders 18 = .ok (.aload_n 0, 1) := by decide +kernel
theorem dX1_readOrders_19 : decode cX1_readOrders 19 = .ok (.invokevirtual 35, 3) := by decide +kernel
theorem dX1_readOrders_22 : decode cX1_readOrders 22 = .ok (.ifCond .ne 8, 3) := by decide +kernel
theorem dX1_readOrders_25 : decode cX1_readOrders 25 = .ok (.aload_n 0, 1) := by decide +kernel
theorem dX1_readOrders_26 : decode cX1_readOrders 26 = .ok (.getfield 32, 3) := by decide +kernel
theorem dX1_readOrders_29 : decode cX1_readOrders 29 = .ok (.ireturn, 1) := by decide +kernel
theorem dX1_readOrders_30 : decode cX1_readOrders 30 = .ok (.aload_n 0, 1) := by decide +kernel
theorem dX1_readOrders_31 : decode cX1_readOrders 31 = .ok (.getfield 32, 3) := by decide +kernel
theorem dX1_readOrders_34 : decode cX1_readOrders 34 = .ok (.aload_n 0, 1) := by decide +kernel
theorem dX1_readOrders_35 : decode cX1_readOrders 35 = .ok (.getfield 19, 3) := by decide +kernel
theorem dX1_readOrders_38 : decode cX1_readOrders 38 = .ok (.if_icmp .ne 6, 3) := by decide +kernel
theorem dX1_readOrders_41 : decode cX1_readOrders 41 = .ok (.bipush (-6), 2) := by decide +kernel
theorem dX1_readOrders_43 : decode cX1_readOrders 43 = .ok (.ireturn, 1) := by decide +kernel
theorem dX1_readOrders_44 : decode cX1_readOrders 44 = .ok (.aload_n 0, 1) := by decide +kernel
theorem dX1_readOrders_45 : decode cX1_readOrders 45 = .ok (.bipush 59, 2) := by decide +kernel
theorem dX1_readOrders_47 : decode cX1_readOrders 47 = .ok (.invokevirtual 39, 3) := by decide +kernel
theorem dX1_readOrders_50 : decode cX1_readOrders 50 = .ok (.ifCond .ne 8, 3) := by decide +kernel
theorem dX1_readOrders_53 : decode cX1_readOrders 53 = .ok (.aload_n 0, 1) := by decide +kernel
theorem dX1_readOrders_54 : decode cX1_readOrders 54 = .ok (.getfield 32, 3) := by decide +kernel
theorem dX1_readOrders_57 : decode cX1_readOrders 57 = .ok (.ireturn, 1) := by decide +kernel
theorem dX1_readOrders_58 : decode cX1_readOrders 58 = .ok (.iinc 1 1, 3) := by decide +kernel
theorem dX1_readOrders_61 : decode cX1_readOrders 61 = .ok (.goto (-49), 3) := by decide +kernel
theorem dX1_readOrders_64 : decode cX1_readOrders 64 = .ok (.aload_n 0, 1) := by decide +kernel
theorem dX1_readOrders_65 : decode cX1_readOrders 65 = .ok (.getfield 32, 3) := by decide +kernel
theorem dX1_readOrders_68 : decode cX1_readOrders 68 = .ok (.ireturn, 1) := by decide +kernel
set_option maxRecDepth 20000 in
theorem ggX1_readOrder_X1_readNumber : GoodIn wsX1_readOrder wsX1_readNumber := goodIn_r _ [5, 6, 7, 8, 9, 10, 11, 12, 13, 4, 14, 15, 16, 17, 18, 19, 20, 35, 36, 37, 38, 39] (by decide +kernel) (by decide +kernel)
set_option maxRecDepth 20000 in
theorem gX1_readOrder_X1_readNumber : GoodIn wsX1_readOrder (wsV RX1 43 RX1 yX1_readNumber wsX1_readNumber) := goodIn_app (goodIn_of _ (by decide +kernel)) ggX1_readOrder_X1_readNumber
set_option maxRecDepth 20000 in
theorem ggX1_readOrder_X1_take : GoodIn wsX1_readOrder wsX1_take := goodIn_r _ [24, 10, 15, 16, 17, 4, 18, 19, 20, 35, 36, 37, 38, 39] (by decide +kernel) (by decide +kernel)
set_option maxRecDepth 20000 in
theorem gX1_readOrder_X1_take : GoodIn wsX1_readOrder (wsV RX1 39 RX1 yX1_take wsX1_take) := goodIn_app (goodIn_of _ (by decide +kernel)) ggX1_readOrder_X1_take
set_option maxRecDepth 20000 in
theorem ggX1_readOrder_X1_keep : GoodIn wsX1_readOrder wsX1_keep := goodIn_r _ [28, 29, 30, 31, 32, 33, 34, 35, 36, 37, 38, 39] (by decide +kernel) (by decide +kernel)
set_option maxRecDepth 20000 in
theorem gX1_readOrder_X1_keep : GoodIn wsX1_readOrder (wsV RX1 47 RX1 yX1_keep wsX1_keep) := goodIn_app (goodIn_of _ (by decide +kernel)) ggX1_readOrder_X1_keep
theorem dX1_readOrder_0 : decode cX1_readOrder 0 = .ok (.aload_n 0, 1) := by decide +kernel
theorem dX1_readOrder_1 : decode cX1_readOrder 1 = .ok (.bipush 26, 2) := by decide +kernel
theorem dX1_readOrder_3 : decode cX1_readOrder 3 = .ok (.invokevirtual 43, 3) := by decide +kernel
theorem dX1_readOrder_6 : decode cX1_readOrder 6 = .ok (.istore_n 1, 1) := by decide +kernel
theorem dX1_readOrder_7 : decode cX1_readOrder 7 = .ok (.iload_n 1, 1) := by decide +kernel
theorem dX1_readOrder_8 : decode cX1_readOrder 8 = .ok (.ifCond .ge 5, 3) := by decide +kernel
theorem dX1_readOrder_11 : decode cX1_readOrder 11 = .ok (.iconst 0, 1) := by decide +kernel
theorem dX1_readOrder_12 : decode cX1_readOrder 12 = .ok (.ireturn, 1) := by decide +kernel
theorem dX1_readOrder_13 : decode cX1_readOrder 13 = .ok (.aload_n 0, 1) := by decide +kernel
theorem dX1_readOrder_14 : decode cX1_readOrder 14 = .ok (.bipush 120, 2) := by decide +kernel
theorem dX1_readOrder_16 : decode cX1_readOrder 16 = .ok (.invokevirtual 39, 3) := by decide +kernel
theorem dX1_readOrder_19 : decode cX1_readOrder 19 = .ok (.ifCond .eq 12, 3) := by decide +kernel
theorem dX1_readOrder_22 : decode cX1_readOrder 22 = .ok (.aload_n 0, 1) := by decide +kernel
theorem dX1_readOrder_23 : decode cX1_readOrder 23 = .ok (.iconst 2, 1) := by decide +kernel
theorem dX1_readOrder_24 : decode cX1_readOrder 24 = .ok (.iload_n 1, 1) := by decide +kernel
theorem dX1_readOrder_25 : decode cX1_readOrder 25 = .ok (.iload_n 1, 1) := by decide +kernel
theorem dX1_readOrder_26 : decode cX1_readOrder 26 = .ok (.iconst 0, 1) := by decide +kernel
theorem dX1_readOrder_27 : decode cX1_readOrder 27 = .ok (.invokevirtual 47, 3) := by decide +kernel
theorem dX1_readOrder_30 : decode cX1_readOrder 30 = .ok (.ireturn, 1) := by decide +kernel
theorem dX1_readOrder_31 : decode cX1_readOrder 31 = .ok (.aload_n 0, 1) := by decide +kernel
theorem dX1_readOrder_32 : decode cX1_readOrder 32 = .ok (.bipush 61, 2) := by decide +kernel
theorem dX1_readOrder_34 : decode cX1_readOrder 34 = .ok (.invokevirtual 39, 3) := by decide +kernel
theorem dX1_readOrder_37 : decode cX1_readOrder 37 = .ok (.ifCond .eq 18, 3) := by decide +kernel
theorem dX1_readOrder_40 : decode cX1_readOrder 40 = .ok (.aload_n 0, 1) := by decide +kernel
theorem dX1_readOrder_41 : decode cX1_readOrder 41 = .ok (.iconst 0, 1) := by decide +kernel
theorem dX1_readOrder_42 : decode cX1_readOrder 42 = .ok (.iload_n 1, 1) := by decide +kernel
theorem dX1_readOrder_43 : decode cX1_readOrder 43 = .ok (.iload_n 1, 1) := by decide +kernel
theorem dX1_readOrder_44 : decode cX1_readOrder 44 = .ok (.aload_n 0, 1) := by decide +kernel
theorem dX1_readOrder_45 : decode cX1_readOrder 45 = .ok (.sipush 999, 3) := by decide +kernel
theorem dX1_readOrder_48 : decode cX1_readOrder 48 = .ok (.invokevirtual 43, 3) := by decide +kernel
theorem dX1_readOrder_51 : decode cX1_readOrder 51 = .ok (.invokevirtual 47, 3) := by decide +kernel
theorem dX1_readOrder_54 : decode cX1_readOrder 54 = .ok (.ireturn, 1) := by decide +kernel
theorem dX1_readOrder_55 : decode cX1_readOrder 55 = .ok (.iload_n 1, 1) := by decide +kernel
theorem dX1_readOrder_56 : decode cX1_readOrder 56 = .ok (.istore_n 2, 1) := by decide +kernel
theorem dX1_readOrder_57 : decode cX1_readOrder 57 = .ok (.aload_n 0, 1) := by decide +kernel
theorem dX1_readOrder_58 : decode cX1_readOrder 58 = .ok (.bipush 45, 2) := by decide +kernel
theorem dX1_readOrder_60 : decode cX1_readOrder 60 = .ok (.invokevirtual 39, 3) := by decide +kernel
theorem dX1_readOrder_63 : decode cX1_readOrder 63 = .ok (.ifCond .eq 10, 3) := by decide +kernel
theorem dX1_readOrder_66 : decode cX1_readOrder 66 = .ok (.aload_n 0, 1) := by decide +kernel
theorem dX1_readOrder_67 : decode cX1_readOrder 67 = .ok (.bipush 26, 2) := by decide +kernel
theorem dX1_readOrder_69 : decode cX1_readOrder 69 = .ok (.invokevirtual 43, 3) := by decide +kernel
theorem dX1_readOrder_72 : decode cX1_readOrder 72 = .ok (.istore_n 2, 1) := by decide +kernel
theorem dX1_readOrder_73 : decode cX1_readOrder 73 = .ok (.iload_n 2, 1) := by decide +kernel
theorem dX1_readOrder_74 : decode cX1_readOrder 74 = .ok (.iload_n 1, 1) := by decide +kernel
theorem dX1_readOrder_75 : decode cX1_readOrder 75 = .ok (.if_icmp .lt 12, 3) := by decide +kernel
theorem dX1_readOrder_78 : decode cX1_readOrder 78 = .ok (.aload_n 0, 1) := by decide +kernel
theorem dX1_readOrder_79 : decode cX1_readOrder 79 = .ok (.bipush 43, 2) := by decide +kernel
theorem dX1_readOrder_81 : decode cX1_readOrder 81 = .ok (.invokevirtual 39, 3) := by decide +kernel
theorem dX1_readOrder_84 : decode cX1_readOrder 84 = .ok (.ifCond .ne 5, 3) := by decide +kernel
theorem dX1_readOrder_87 : decode cX1_readOrder 87 = .ok (.iconst 0, 1) := by decide +kernel
theorem dX1_readOrder_88 : decode cX1_readOrder 88 = .ok (.ireturn, 1) := by decide +kernel
theorem dX1_readOrder_89 : decode cX1_readOrder 89 = .ok (.aload_n 0, 1) := by decide +kernel
theorem dX1_readOrder_90 : decode cX1_readOrder 90 = .ok (.iconst 1, 1) := by decide +kernel
theorem dX1_readOrder_91 : decode cX1_readOrder 91 = .ok (.iload_n 1, 1) := by decide +kernel
theorem dX1_readOrder_92 : decode cX1_readOrder 92 = .ok (.iload_n 2, 1) := by decide +kernel
theorem dX1_readOrder_93 : decode cX1_readOrder 93 = .ok (.aload_n 0, 1) := by decide +kernel
theorem dX1_readOrder_94 : decode cX1_readOrder 94 = .ok (.sipush 999, 3) := by decide +kernel
theorem dX1_readOrder_97 : decode cX1_readOrder 97 = .ok (.invokevirtual 43, 3) := by decide +kernel
theorem dX1_readOrder_100 : decode cX1_readOrder 100 = .ok (.invokevirtual 47, 3) := by decide +kernel
theorem dX1_readOrder_103 : decode cX1_readOrder 103 = .ok (.ireturn, 1) := by decide +kernel
set_option maxRecDepth 20000 in
theorem ggX1_keep_X3_of : GoodIn wsX1_keep wsX3_of := goodIn_r _ [6] (by decide +kernel) (by decide +kernel)
set_option maxRecDepth 20000 in
theorem gX1_keep_X3_of : GoodIn wsX1_keep (va_wsS RX1 51 yX3_of wsX3_of) := goodIn_app (goodIn_of _ (by decide +kernel)) ggX1_keep_X3_of
theorem dX1_keep_0 : decode cX1_keep 0 = .ok (.iload 4, 2) := by decide +kernel
theorem dX1_keep_2 : decode cX1_keep 2 = .ok (.ifCond .lt 22, 3) := by decide +kernel
theorem dX1_keep_5 : decode cX1_keep 5 = .ok (.aload_n 0, 1) := by decide +kernel
theorem dX1_keep_6 : decode cX1_keep 6 = .ok (.getfield 23, 3) := by decide +kernel
theorem dX1_keep_9 : decode cX1_keep 9 = .ok (.ifCond .lt 15, 3) := by decide +kernel
theorem dX1_keep_12 : decode cX1_keep 12 = .ok (.aload_n 0, 1) := by decide +kernel
theorem dX1_keep_13 : decode cX1_keep 13 = .ok (.getfield 23, 3) := by decide +kernel
theorem dX1_keep_16 : decode cX1_keep 16 = .ok (.aload_n 0, 1) := by decide +kernel
theorem dX1_keep_17 : decode cX1_keep 17 = .ok (.getfield 15, 3) := by decide +kernel
theorem dX1_keep_20 : decode cX1_keep 20 = .ok (.arraylength, 1) := by decide +kernel
theorem dX1_keep_21 : decode cX1_keep 21 = .ok (.if_icmp .lt 5, 3) := by decide +kernel
theorem dX1_keep_24 : decode cX1_keep 24 = .ok (.iconst 0, 1) := by decide +kernel
theorem dX1_keep_25 : decode cX1_keep 25 = .ok (.ireturn, 1) := by decide +kernel
theorem dX1_keep_26 : decode cX1_keep 26 = .ok (.aload_n 0, 1) := by decide +kernel
theorem dX1_keep_27 : decode cX1_keep 27 = .ok (.getfield 15, 3) := by decide +kernel
theorem dX1_keep_30 : decode cX1_keep 30 = .ok (.aload_n 0, 1) := by decide +kernel
theorem dX1_keep_31 : decode cX1_keep 31 = .ok (.getfield 23, 3) := by decide +kernel
theorem dX1_keep_34 : decode cX1_keep 34 = .ok (.iload_n 1, 1) := by decide +kernel
theorem dX1_keep_35 : decode cX1_keep 35 = .ok (.iload_n 2, 1) := by decide +kernel
theorem dX1_keep_36 : decode cX1_keep 36 = .ok (.iload_n 3, 1) := by decide +kernel
theorem dX1_keep_37 : decode cX1_keep 37 = .ok (.iload 4, 2) := by decide +kernel
theorem dX1_keep_39 : decode cX1_keep 39 = .ok (.invokestatic 51, 3) := by decide +kernel
theorem dX1_keep_42 : decode cX1_keep 42 = .ok (.iastore, 1) := by decide +kernel
theorem dX1_keep_43 : decode cX1_keep 43 = .ok (.aload_n 0, 1) := by decide +kernel
theorem dX1_keep_44 : decode cX1_keep 44 = .ok (.dup, 1) := by decide +kernel
theorem dX1_keep_45 : decode cX1_keep 45 = .ok (.getfield 23, 3) := by decide +kernel
theorem dX1_keep_48 : decode cX1_keep 48 = .ok (.iconst 1, 1) := by decide +kernel
theorem dX1_keep_49 : decode cX1_keep 49 = .ok (.iadd, 1) := by decide +kernel
theorem dX1_keep_50 : decode cX1_keep 50 = .ok (.putfield 23, 3) := by decide +kernel
theorem dX1_keep_53 : decode cX1_keep 53 = .ok (.iconst 1, 1) := by decide +kernel
theorem dX1_keep_54 : decode cX1_keep 54 = .ok (.ireturn, 1) := by decide +kernel
set_option maxRecDepth 20000 in
theorem ggX1_readNumber_X1_digitAtCursor : GoodIn wsX1_readNumber wsX1_digitAtCursor := goodIn_r _ [10, 11, 12, 13, 9, 14, 5, 15, 16, 17, 18, 19, 20, 21] (by decide +kernel) (by decide +kernel)
set_option maxRecDepth 20000 in
theorem gX1_readNumber_X1_digitAtCursor : GoodIn wsX1_readNumber (wsV RX1 57 RX1 yX1_digitAtCursor wsX1_digitAtCursor) := goodIn_app (goodIn_of _ (by decide +kernel)) ggX1_readNumber_X1_digitAtCursor
theorem dX1_readNumber_0 : decode cX1_readNumber 0 = .ok (.iconst (-1), 1) := by decide +kernel
theorem dX1_readNumber_1 : decode cX1_readNumber 1 = .ok (.istore_n 2, 1) := by decide +kernel
theorem dX1_readNumber_2 : decode cX1_readNumber 2 = .ok (.iconst 0, 1) := by decide +kernel
theorem dX1_readNumber_3 : decode cX1_readNumber 3 = .ok (.istore_n 3, 1) := by decide +kernel
theorem dX1_readNumber_4 : decode cX1_readNumber 4 = .ok (.iload_n 3, 1) := by decide +kernel
theorem dX1_readNumber_5 : decode cX1_readNumber 5 = .ok (.bipush 60, 2) := by decide +kernel
theorem dX1_readNumber_7 : decode cX1_readNumber 7 = .ok (.if_icmp .ge 60, 3) := by decide +kernel
theorem dX1_readNumber_10 : decode cX1_readNumber 10 = .ok (.aload_n 0, 1) := by decide +kernel
theorem dX1_readNumber_11 : decode cX1_readNumber 11 = .ok (.invokevirtual 57, 3) := by decide +kernel
theorem dX1_readNumber_14 : decode cX1_readNumber 14 = .ok (.istore 4, 2) := by decide +kernel
theorem dX1_readNumber_16 : decode cX1_readNumber 16 = .ok (.iload 4, 2) := by decide +kernel
theorem dX1_readNumber_18 : decode cX1_readNumber 18 = .ok (.ifCond .lt 7, 3) := by decide +kernel
theorem dX1_readNumber_21 : decode cX1_readNumber 21 = .ok (.iload_n 2, 1) := by decide +kernel
theorem dX1_readNumber_22 : decode cX1_readNumber 22 = .ok (.ifCond .ne 5, 3) := by decide +kernel
theorem dX1_readNumber_25 : decode cX1_readNumber 25 = .ok (.iload_n 2, 1) := by decide +kernel
theorem dX1_readNumber_26 : decode cX1_readNumber 26 = .ok (.ireturn, 1) := by decide +kernel
theorem dX1_readNumber_27 : decode cX1_readNumber 27 = .ok (.iload_n 2, 1) := by decide +kernel
theorem dX1_readNumber_28 : decode cX1_readNumber 28 = .ok (.iconst 0, 1) := by decide +kernel
theorem dX1_readNumber_29 : decode cX1_readNumber 29 = .ok (.invokestatic 61, 3) := by decide +kernel
theorem dX1_readNumber_32 : decode cX1_readNumber 32 = .ok (.bipush 10, 2) := by decide +kernel
theorem dX1_readNumber_34 : decode cX1_readNumber 34 = .ok (.imul, 1) := by decide +kernel
theorem dX1_readNumber_35 : decode cX1_readNumber 35 = .ok (.iload 4, 2) := by decide +kernel
theorem dX1_readNumber_37 : decode cX1_readNumber 37 = .ok (.iadd, 1) := by decide +kernel
theorem dX1_readNumber_38 : decode cX1_readNumber 38 = .ok (.istore 5, 2) := by decide +kernel
theorem dX1_readNumber_40 : decode cX1_readNumber 40 = .ok (.iload 5, 2) := by decide +kernel
theorem dX1_readNumber_42 : decode cX1_readNumber 42 = .ok (.iload_n 1, 1) := by decide +kernel
theorem dX1_readNumber_43 : decode cX1_readNumber 43 = .ok (.if_icmp .le 5, 3) := by decide +kernel
theorem dX1_readNumber_46 : decode cX1_readNumber 46 = .ok (.iload_n 2, 1) := by decide +kernel
theorem dX1_readNumber_47 : decode cX1_readNumber 47 = .ok (.ireturn, 1) := by decide +kernel
theorem dX1_readNumber_48 : decode cX1_readNumber 48 = .ok (.iload 5, 2) := by decide +kernel
theorem dX1_readNumber_50 : decode cX1_readNumber 50 = .ok (.istore_n 2, 1) := by decide +kernel
theorem dX1_readNumber_51 : decode cX1_readNumber 51 = .ok (.aload_n 0, 1) := by decide +kernel
theorem dX1_readNumber_52 : decode cX1_readNumber 52 = .ok (.dup, 1) := by decide +kernel
theorem dX1_readNumber_53 : decode cX1_readNumber 53 = .ok (.getfield 32, 3) := by decide +kernel
theorem dX1_readNumber_56 : decode cX1_readNumber 56 = .ok (.iconst 1, 1) := by decide +kernel
theorem dX1_readNumber_57 : decode cX1_readNumber 57 = .ok (.iadd, 1) := by decide +kernel
theorem dX1_readNumber_58 : decode cX1_readNumber 58 = .ok (.putfield 32, 3) := by decide +kernel
theorem dX1_readNumber_61 : decode cX1_readNumber 61 = .ok (.iinc 3 1, 3) := by decide +kernel
theorem dX1_readNumber_64 : decode cX1_readNumber 64 = .ok (.goto (-60), 3) := by decide +kernel
theorem dX1_readNumber_67 : decode cX1_readNumber 67 = .ok (.iload_n 2, 1) := by decide +kernel
theorem dX1_readNumber_68 : decode cX1_readNumber 68 = .ok (.ireturn, 1) := by decide +kernel
set_option maxRecDepth 20000 in
theorem ggX1_digitAtCursor_X1_characterAtCursor : GoodIn wsX1_digitAtCursor wsX1_characterAtCursor := goodIn_r _ [5, 6, 7, 8, 9, 10, 11, 12, 13] (by decide +kernel) (by decide +kernel)
set_option maxRecDepth 20000 in
theorem gX1_digitAtCursor_X1_characterAtCursor : GoodIn wsX1_digitAtCursor (wsV RX1 67 RX1 yX1_characterAtCursor wsX1_characterAtCursor) := goodIn_app (goodIn_of _ (by decide +kernel)) ggX1_digitAtCursor_X1_characterAtCursor
theorem dX1_digitAtCursor_0 : decode cX1_digitAtCursor 0 = .ok (.aload_n 0, 1) := by decide +kernel
theorem dX1_digitAtCursor_1 : decode cX1_digitAtCursor 1 = .ok (.invokevirtual 67, 3) := by decide +kernel
theorem dX1_digitAtCursor_4 : decode cX1_digitAtCursor 4 = .ok (.istore_n 1, 1) := by decide +kernel
theorem dX1_digitAtCursor_5 : decode cX1_digitAtCursor 5 = .ok (.iload_n 1, 1) := by decide +kernel
theorem dX1_digitAtCursor_6 : decode cX1_digitAtCursor 6 = .ok (.bipush 48, 2) := by decide +kernel
theorem dX1_digitAtCursor_8 : decode cX1_digitAtCursor 8 = .ok (.if_icmp .lt 16, 3) := by decide +kernel
theorem dX1_digitAtCursor_11 : decode cX1_digitAtCursor 11 = .ok (.iload_n 1, 1) := by decide +kernel
theorem dX1_digitAtCursor_12 : decode cX1_digitAtCursor 12 = .ok (.bipush 57, 2) := by decide +kernel
theorem dX1_digitAtCursor_14 : decode cX1_digitAtCursor 14 = .ok (.if_icmp .gt 10, 3) := by decide +kernel
theorem dX1_digitAtCursor_17 : decode cX1_digitAtCursor 17 = .ok (.iload_n 1, 1) := by decide +kernel
theorem dX1_digitAtCursor_18 : decode cX1_digitAtCursor 18 = .ok (.bipush 48, 2) := by decide +kernel
theorem dX1_digitAtCursor_20 : decode cX1_digitAtCursor 20 = .ok (.isub, 1) := by decide +kernel
theorem dX1_digitAtCursor_21 : decode cX1_digitAtCursor 21 = .ok (.goto 4, 3) := by decide +kernel
theorem dX1_digitAtCursor_24 : decode cX1_digitAtCursor 24 = .ok (.iconst (-1), 1) := by decide +kernel
theorem dX1_digitAtCursor_25 : decode cX1_digitAtCursor 25 = .ok (.ireturn, 1) := by decide +kernel
set_option maxRecDepth 20000 in
theorem ggX1_take_X1_characterAtCursor : GoodIn wsX1_take wsX1_characterAtCursor := goodIn_r _ [6, 1, 7, 8, 9, 10, 11, 12, 13] (by decide +kernel) (by decide +kernel)
set_option maxRecDepth 20000 in
theorem gX1_take_X1_characterAtCursor : GoodIn wsX1_take (wsV RX1 67 RX1 yX1_characterAtCursor wsX1_characterAtCursor) := goodIn_app (goodIn_of _ (by decide +kernel)) ggX1_take_X1_characterAtCursor
theorem dX1_take_0 : decode cX1_take 0 = .ok (.aload_n 0, 1) := by decide +kernel
theorem dX1_take_1 : decode cX1_take 1 = .ok (.invokevirtual 67, 3) := by decide +kernel
theorem dX1_take_4 : decode cX1_take 4 = .ok (.iload_n 1, 1) := by decide +kernel
theorem dX1_take_5 : decode cX1_take 5 = .ok (.if_icmp .eq 5, 3) := by decide +kernel
theorem dX1_take_8 : decode cX1_take 8 = .ok (.iconst 0, 1) := by decide +kernel
theorem dX1_take_9 : decode cX1_take 9 = .ok (.ireturn, 1) := by decide +kernel
theorem dX1_take_10 : decode cX1_take 10 = .ok (.aload_n 0, 1) := by decide +kernel
theorem dX1_take_11 : decode cX1_take 11 = .ok (.dup, 1) := by decide +kernel
theorem dX1_take_12 : decode cX1_take 12 = .ok (.getfield 32, 3) := by decide +kernel
theorem dX1_take_15 : decode cX1_take 15 = .ok (.iconst 1, 1) := by decide +kernel
theorem dX1_take_16 : decode cX1_take 16 = .ok (.iadd, 1) := by decide +kernel
theorem dX1_take_17 : decode cX1_take 17 = .ok (.putfield 32, 3) := by decide +kernel
theorem dX1_take_20 : decode cX1_take 20 = .ok (.iconst 1, 1) := by decide +kernel
theorem dX1_take_21 : decode cX1_take 21 = .ok (.ireturn, 1) := by decide +kernel
theorem dX1_characterAtCursor_0 : decode cX1_characterAtCursor 0 = .ok (.aload_n 0, 1) := by decide +kernel
theorem dX1_characterAtCursor_1 : decode cX1_characterAtCursor 1 = .ok (.getfield 32, 3) := by decide +kernel
theorem dX1_characterAtCursor_4 : decode cX1_characterAtCursor 4 = .ok (.ifCond .lt 30, 3) := by decide +kernel
theorem dX1_characterAtCursor_7 : decode cX1_characterAtCursor 7 = .ok (.aload_n 0, 1) := by decide +kernel
theorem dX1_characterAtCursor_8 : decode cX1_characterAtCursor 8 = .ok (.getfield 32, 3) := by decide +kernel
theorem dX1_characterAtCursor_11 : decode cX1_characterAtCursor 11 = .ok (.aload_n 0, 1) := by decide +kernel
theorem dX1_characterAtCursor_12 : decode cX1_characterAtCursor 12 = .ok (.getfield 19, 3) := by decide +kernel
theorem dX1_characterAtCursor_15 : decode cX1_characterAtCursor 15 = .ok (.if_icmp .ge 19, 3) := by decide +kernel
theorem dX1_characterAtCursor_18 : decode cX1_characterAtCursor 18 = .ok (.aload_n 0, 1) := by decide +kernel
theorem dX1_characterAtCursor_19 : decode cX1_characterAtCursor 19 = .ok (.getfield 32, 3) := by decide +kernel
theorem dX1_characterAtCursor_22 : decode cX1_characterAtCursor 22 = .ok (.aload_n 0, 1) := by decide +kernel
theorem dX1_characterAtCursor_23 : decode cX1_characterAtCursor 23 = .ok (.getfield 11, 3) := by decide +kernel
theorem dX1_characterAtCursor_26 : decode cX1_characterAtCursor 26 = .ok (.arraylength, 1) := by decide +kernel
theorem dX1_characterAtCursor_27 : decode cX1_characterAtCursor 27 = .ok (.if_icmp .ge 7, 3) := by decide +kernel
theorem dX1_characterAtCursor_30 : decode cX1_characterAtCursor 30 = .ok (.iconst 1, 1) := by decide +kernel
theorem dX1_characterAtCursor_31 : decode cX1_characterAtCursor 31 = .ok (.goto 4, 3) := by decide +kernel
theorem dX1_characterAtCursor_34 : decode cX1_characterAtCursor 34 = .ok (.iconst 0, 1) := by decide +kernel
theorem dX1_characterAtCursor_35 : decode cX1_characterAtCursor 35 = .ok (.istore_n 1, 1) := by decide +kernel
theorem dX1_characterAtCursor_36 : decode cX1_characterAtCursor 36 = .ok (.iload_n 1, 1) := by decide +kernel
theorem dX1_characterAtCursor_37 : decode cX1_characterAtCursor 37 = .ok (.ifCond .eq 15, 3) := by decide +kernel
theorem dX1_characterAtCursor_40 : decode cX1_characterAtCursor 40 = .ok (.aload_n 0, 1) := by decide +kernel
theorem dX1_characterAtCursor_41 : decode cX1_characterAtCursor 41 = .ok (.getfield 11, 3) := by decide +kernel
theorem dX1_characterAtCursor_44 : decode cX1_characterAtCursor 44 = .ok (.aload_n 0, 1) := by decide +kernel
theorem dX1_characterAtCursor_45 : decode cX1_characterAtCursor 45 = .ok (.getfield 32, 3) := by decide +kernel
theorem dX1_characterAtCursor_48 : decode cX1_characterAtCursor 48 = .ok (.caload, 1) := by decide +kernel
theorem dX1_characterAtCursor_49 : decode cX1_characterAtCursor 49 = .ok (.goto 4, 3) := by decide +kernel
theorem dX1_characterAtCursor_52 : decode cX1_characterAtCursor 52 = .ok (.iconst 0, 1) := by decide +kernel
theorem dX1_characterAtCursor_53 : decode cX1_characterAtCursor 53 = .ok (.ireturn, 1) := by decide +kernel
theorem dX2_isLow_0 : decode cX2_isLow 0 = .ok (.iload_n 0, 1) := by decide +kernel
theorem dX2_isLow_1 : decode cX2_isLow 1 = .ok (.iconst 4, 1) := by decide +kernel
theorem dX2_isLow_2 : decode cX2_isLow 2 = .ok (.if_icmp .lt 7, 3) := by decide +kernel
theorem dX2_isLow_5 : decode cX2_isLow 5 = .ok (.iconst 1, 1) := by decide +kernel
theorem dX2_isLow_6 : decode cX2_isLow 6 = .ok (.goto 4, 3) := by decide +kernel
theorem dX2_isLow_9 : decode cX2_isLow 9 = .ok (.iconst 0, 1) := by decide +kernel
theorem dX2_isLow_10 : decode cX2_isLow 10 = .ok (.ireturn, 1) := by decide +kernel
theorem dX2_level_0 : decode cX2_level 0 = .ok (.iload_n 0, 1) := by decide +kernel
theorem dX2_level_1 : decode cX2_level 1 = .ok (.iconst 1, 1) := by decide +kernel
theorem dX2_level_2 : decode cX2_level 2 = .ok (.if_icmp .ge 5, 3) := by decide +kernel
theorem dX2_level_5 : decode cX2_level 5 = .ok (.iconst 0, 1) := by decide +kernel
theorem dX2_level_6 : decode cX2_level 6 = .ok (.ireturn, 1) := by decide +kernel
theorem dX2_level_7 : decode cX2_level 7 = .ok (.iload_n 0, 1) := by decide +kernel
theorem dX2_level_8 : decode cX2_level 8 = .ok (.iconst 4, 1) := by decide +kernel
theorem dX2_level_9 : decode cX2_level 9 = .ok (.if_icmp .ge 7, 3) := by decide +kernel
theorem dX2_level_12 : decode cX2_level 12 = .ok (.iconst 1, 1) := by decide +kernel
theorem dX2_level_13 : decode cX2_level 13 = .ok (.goto 4, 3) := by decide +kernel
theorem dX2_level_16 : decode cX2_level 16 = .ok (.iconst 2, 1) := by decide +kernel
theorem dX2_level_17 : decode cX2_level 17 = .ok (.ireturn, 1) := by decide +kernel
theorem dX2_firstKey_0 : decode cX2_firstKey 0 = .ok (.iload_n 0, 1) := by decide +kernel
theorem dX2_firstKey_1 : decode cX2_firstKey 1 = .ok (.ifCond .lt 19, 3) := by decide +kernel
theorem dX2_firstKey_4 : decode cX2_firstKey 4 = .ok (.iload_n 0, 1) := by decide +kernel
theorem dX2_firstKey_5 : decode cX2_firstKey 5 = .ok (.getstatic 9, 3) := by decide +kernel
theorem dX2_firstKey_8 : decode cX2_firstKey 8 = .ok (.arraylength, 1) := by decide +kernel
theorem dX2_firstKey_9 : decode cX2_firstKey 9 = .ok (.if_icmp .ge 11, 3) := by decide +kernel
theorem dX2_firstKey_12 : decode cX2_firstKey 12 = .ok (.getstatic 9, 3) := by decide +kernel
theorem dX2_firstKey_15 : decode cX2_firstKey 15 = .ok (.iload_n 0, 1) := by decide +kernel
theorem dX2_firstKey_16 : decode cX2_firstKey 16 = .ok (.iaload, 1) := by decide +kernel
theorem dX2_firstKey_17 : decode cX2_firstKey 17 = .ok (.goto 4, 3) := by decide +kernel
theorem dX2_firstKey_20 : decode cX2_firstKey 20 = .ok (.iconst 0, 1) := by decide +kernel
theorem dX2_firstKey_21 : decode cX2_firstKey 21 = .ok (.ireturn, 1) := by decide +kernel
set_option maxRecDepth 20000 in
theorem ggX2_lastKey_X2_lastKeyOfChild : GoodIn wsX2_lastKey wsX2_lastKeyOfChild := goodIn_r _ [4, 5, 6, 3, 7, 8, 9, 10, 11, 12, 13, 14, 15] (by decide +kernel) (by decide +kernel)
set_option maxRecDepth 20000 in
theorem gX2_lastKey_X2_lastKeyOfChild : GoodIn wsX2_lastKey (va_wsS RX2 15 yX2_lastKeyOfChild wsX2_lastKeyOfChild) := goodIn_app (goodIn_of _ (by decide +kernel)) ggX2_lastKey_X2_lastKeyOfChild
theorem dX2_lastKey_0 : decode cX2_lastKey 0 = .ok (.iload_n 0, 1) := by decide +kernel
theorem dX2_lastKey_1 : decode cX2_lastKey 1 = .ok (.iconst 2, 1) := by decide +kernel
theorem dX2_lastKey_2 : decode cX2_lastKey 2 = .ok (.invokestatic 15, 3) := by decide +kernel
theorem dX2_lastKey_5 : decode cX2_lastKey 5 = .ok (.ireturn, 1) := by decide +kernel
set_option maxRecDepth 20000 in
theorem ggX2_firstKeyOfChild_X2_firstKey : GoodIn wsX2_firstKeyOfChild wsX2_firstKey := goodIn_r _ [4, 5] (by decide +kernel) (by decide +kernel)
set_option maxRecDepth 20000 in
theorem gX2_firstKeyOfChild_X2_firstKey : GoodIn wsX2_firstKeyOfChild (va_wsS RX2 19 yX2_firstKey wsX2_firstKey) := goodIn_app (goodIn_of _ (by decide +kernel)) ggX2_firstKeyOfChild_X2_firstKey
set_option maxRecDepth 20000 in
theorem ggX2_firstKeyOfChild_X2_keysOfChild : GoodIn wsX2_firstKeyOfChild wsX2_keysOfChild := goodIn_r _ [8, 9] (by decide +kernel) (by decide +kernel)
set_option maxRecDepth 20000 in
theorem gX2_firstKeyOfChild_X2_keysOfChild : GoodIn wsX2_firstKeyOfChild (va_wsS RX2 23 yX2_keysOfChild wsX2_keysOfChild) := goodIn_app (goodIn_of _ (by decide +kernel)) ggX2_firstKeyOfChild_X2_keysOfChild
theorem dX2_firstKeyOfChild_0 : decode cX2_firstKeyOfChild 0 = .ok (.iload_n 0, 1) := by decide +kernel
theorem dX2_firstKeyOfChild_1 : decode cX2_firstKeyOfChild 1 = .ok (.invokestatic 19, 3) := by decide +kernel
theorem dX2_firstKeyOfChild_4 : decode cX2_firstKeyOfChild 4 = .ok (.iload_n 1, 1) := by decide +kernel
theorem dX2_firstKeyOfChild_5 : decode cX2_firstKeyOfChild 5 = .ok (.iload_n 0, 1) := by decide +kernel
theorem dX2_firstKeyOfChild_6 : decode cX2_firstKeyOfChild 6 = .ok (.invokestatic 23, 3) := by decide +kernel
theorem dX2_firstKeyOfChild_9 : decode cX2_firstKeyOfChild 9 = .ok (.imul, 1) := by decide +kernel
theorem dX2_firstKeyOfChild_10 : decode cX2_firstKeyOfChild 10 = .ok (.iadd, 1) := by decide +kernel
theorem dX2_firstKeyOfChild_11 : decode cX2_firstKeyOfChild 11 = .ok (.ireturn, 1) := by decide +kernel
set_option maxRecDepth 20000 in
theorem ggX2_lastKeyOfChild_X2_firstKeyOfChild : GoodIn wsX2_lastKeyOfChild wsX2_firstKeyOfChild := goodIn_r _ [4, 5, 6, 3, 7, 8, 9, 10, 11, 12] (by decide +kernel) (by decide +kernel)
set_option maxRecDepth 20000 in
theorem gX2_lastKeyOfChild_X2_firstKeyOfChild : GoodIn wsX2_lastKeyOfChild (va_wsS RX2 26 yX2_firstKeyOfChild wsX2_firstKeyOfChild) := goodIn_app (goodIn_of _ (by decide +kernel)) ggX2_lastKeyOfChild_X2_firstKeyOfChild
theorem dX2_lastKeyOfChild_0 : decode cX2_lastKeyOfChild 0 = .ok (.iload_n 0, 1) := by decide +kernel
theorem dX2_lastKeyOfChild_1 : decode cX2_lastKeyOfChild 1 = .ok (.iload_n 1, 1) := by decide +kernel
theorem dX2_lastKeyOfChild_2 : decode cX2_lastKeyOfChild 2 = .ok (.iconst 1, 1) := by decide +kernel
theorem dX2_lastKeyOfChild_3 : decode cX2_lastKeyOfChild 3 = .ok (.iadd, 1) := by decide +kernel
theorem dX2_lastKeyOfChild_4 : decode cX2_lastKeyOfChild 4 = .ok (.invokestatic 26, 3) := by decide +kernel
theorem dX2_lastKeyOfChild_7 : decode cX2_lastKeyOfChild 7 = .ok (.iconst 1, 1) := by decide +kernel
theorem dX2_lastKeyOfChild_8 : decode cX2_lastKeyOfChild 8 = .ok (.isub, 1) := by decide +kernel
theorem dX2_lastKeyOfChild_9 : decode cX2_lastKeyOfChild 9 = .ok (.ireturn, 1) := by decide +kernel
theorem dX2_keysOfChild_0 : decode cX2_keysOfChild 0 = .ok (.iload_n 0, 1) := by decide +kernel
theorem dX2_keysOfChild_1 : decode cX2_keysOfChild 1 = .ok (.ifCond .lt 19, 3) := by decide +kernel
theorem dX2_keysOfChild_4 : decode cX2_keysOfChild 4 = .ok (.iload_n 0, 1) := by decide +kernel
theorem dX2_keysOfChild_5 : decode cX2_keysOfChild 5 = .ok (.getstatic 29, 3) := by decide +kernel
theorem dX2_keysOfChild_8 : decode cX2_keysOfChild 8 = .ok (.arraylength, 1) := by decide +kernel
theorem dX2_keysOfChild_9 : decode cX2_keysOfChild 9 = .ok (.if_icmp .ge 11, 3) := by decide +kernel
theorem dX2_keysOfChild_12 : decode cX2_keysOfChild 12 = .ok (.getstatic 29, 3) := by decide +kernel
theorem dX2_keysOfChild_15 : decode cX2_keysOfChild 15 = .ok (.iload_n 0, 1) := by decide +kernel
theorem dX2_keysOfChild_16 : decode cX2_keysOfChild 16 = .ok (.iaload, 1) := by decide +kernel
theorem dX2_keysOfChild_17 : decode cX2_keysOfChild 17 = .ok (.goto 4, 3) := by decide +kernel
theorem dX2_keysOfChild_20 : decode cX2_keysOfChild 20 = .ok (.iconst 0, 1) := by decide +kernel
theorem dX2_keysOfChild_21 : decode cX2_keysOfChild 21 = .ok (.ireturn, 1) := by decide +kernel
theorem dX2_childNode_0 : decode cX2_childNode 0 = .ok (.iconst 3, 1) := by decide +kernel
theorem dX2_childNode_1 : decode cX2_childNode 1 = .ok (.iload_n 0, 1) := by decide +kernel
theorem dX2_childNode_2 : decode cX2_childNode 2 = .ok (.imul, 1) := by decide +kernel
theorem dX2_childNode_3 : decode cX2_childNode 3 = .ok (.iconst 1, 1) := by decide +kernel
theorem dX2_childNode_4 : decode cX2_childNode 4 = .ok (.iadd, 1) := by decide +kernel
theorem dX2_childNode_5 : decode cX2_childNode 5 = .ok (.iload_n 1, 1) := by decide +kernel
theorem dX2_childNode_6 : decode cX2_childNode 6 = .ok (.iadd, 1) := by decide +kernel
theorem dX2_childNode_7 : decode cX2_childNode 7 = .ok (.ireturn, 1) := by decide +kernel
theorem dX2_parent_0 : decode cX2_parent 0 = .ok (.iload_n 0, 1) := by decide +kernel
theorem dX2_parent_1 : decode cX2_parent 1 = .ok (.iconst 1, 1) := by decide +kernel
theorem dX2_parent_2 : decode cX2_parent 2 = .ok (.if_icmp .ge 7, 3) := by decide +kernel
theorem dX2_parent_5 : decode cX2_parent 5 = .ok (.iconst 0, 1) := by decide +kernel
theorem dX2_parent_6 : decode cX2_parent 6 = .ok (.goto 8, 3) := by decide +kernel
theorem dX2_parent_9 : decode cX2_parent 9 = .ok (.iload_n 0, 1) := by decide +kernel
theorem dX2_parent_10 : decode cX2_parent 10 = .ok (.iconst 1, 1) := by decide +kernel
theorem dX2_parent_11 : decode cX2_parent 11 = .ok (.isub, 1) := by decide +kernel
theorem dX2_parent_12 : decode cX2_parent 12 = .ok (.iconst 3, 1) := by decide +kernel
theorem dX2_parent_13 : decode cX2_parent 13 = .ok (.idiv, 1) := by decide +kernel
theorem dX2_parent_14 : decode cX2_parent 14 = .ok (.ireturn, 1) := by decide +kernel
theorem dX2_lowNodeOf_0 : decode cX2_lowNodeOf 0 = .ok (.iconst 4, 1) := by decide +kernel
theorem dX2_lowNodeOf_1 : decode cX2_lowNodeOf 1 = .ok (.iload_n 0, 1) := by decide +kernel
theorem dX2_lowNodeOf_2 : decode cX2_lowNodeOf 2 = .ok (.iconst 3, 1) := by decide +kernel
theorem dX2_lowNodeOf_3 : decode cX2_lowNodeOf 3 = .ok (.idiv, 1) := by decide +kernel
theorem dX2_lowNodeOf_4 : decode cX2_lowNodeOf 4 = .ok (.iadd, 1) := by decide +kernel
theorem dX2_lowNodeOf_5 : decode cX2_lowNodeOf 5 = .ok (.ireturn, 1) := by decide +kernel
theorem dX3_of_0 : decode cX3_of 0 = .ok (.iload_n 0, 1) := by decide +kernel
theorem dX3_of_1 : decode cX3_of 1 = .ok (.bipush 20, 2) := by decide +kernel
theorem dX3_of_3 : decode cX3_of 3 = .ok (.ishl, 1) := by decide +kernel
theorem dX3_of_4 : decode cX3_of 4 = .ok (.iload_n 1, 1) := by decide +kernel
theorem dX3_of_5 : decode cX3_of 5 = .ok (.bipush 15, 2) := by decide +kernel
theorem dX3_of_7 : decode cX3_of 7 = .ok (.ishl, 1) := by decide +kernel
theorem dX3_of_8 : decode cX3_of 8 = .ok (.ior, 1) := by decide +kernel
theorem dX3_of_9 : decode cX3_of 9 = .ok (.iload_n 2, 1) := by decide +kernel
theorem dX3_of_10 : decode cX3_of 10 = .ok (.bipush 10, 2) := by decide +kernel
theorem dX3_of_12 : decode cX3_of 12 = .ok (.ishl, 1) := by decide +kernel
theorem dX3_of_13 : decode cX3_of 13 = .ok (.ior, 1) := by decide +kernel
theorem dX3_of_14 : decode cX3_of 14 = .ok (.iload_n 3, 1) := by decide +kernel
theorem dX3_of_15 : decode cX3_of 15 = .ok (.ior, 1) := by decide +kernel
theorem dX3_of_16 : decode cX3_of 16 = .ok (.ireturn, 1) := by decide +kernel
theorem dX3_kind_0 : decode cX3_kind 0 = .ok (.iload_n 0, 1) := by decide +kernel
theorem dX3_kind_1 : decode cX3_kind 1 = .ok (.bipush 20, 2) := by decide +kernel
theorem dX3_kind_3 : decode cX3_kind 3 = .ok (.ishr, 1) := by decide +kernel
theorem dX3_kind_4 : decode cX3_kind 4 = .ok (.ireturn, 1) := by decide +kernel
theorem dX3_first_0 : decode cX3_first 0 = .ok (.iload_n 0, 1) := by decide +kernel
theorem dX3_first_1 : decode cX3_first 1 = .ok (.bipush 15, 2) := by decide +kernel
theorem dX3_first_3 : decode cX3_first 3 = .ok (.ishr, 1) := by decide +kernel
theorem dX3_first_4 : decode cX3_first 4 = .ok (.bipush 31, 2) := by decide +kernel
theorem dX3_first_6 : decode cX3_first 6 = .ok (.iand, 1) := by decide +kernel
theorem dX3_first_7 : decode cX3_first 7 = .ok (.ireturn, 1) := by decide +kernel
theorem dX3_last_0 : decode cX3_last 0 = .ok (.iload_n 0, 1) := by decide +kernel
theorem dX3_last_1 : decode cX3_last 1 = .ok (.bipush 10, 2) := by decide +kernel
theorem dX3_last_3 : decode cX3_last 3 = .ok (.ishr, 1) := by decide +kernel
theorem dX3_last_4 : decode cX3_last 4 = .ok (.bipush 31, 2) := by decide +kernel
theorem dX3_last_6 : decode cX3_last 6 = .ok (.iand, 1) := by decide +kernel
theorem dX3_last_7 : decode cX3_last 7 = .ok (.ireturn, 1) := by decide +kernel
theorem dX3_number_0 : decode cX3_number 0 = .ok (.iload_n 0, 1) := by decide +kernel
theorem dX3_number_1 : decode cX3_number 1 = .ok (.sipush 1023, 3) := by decide +kernel
theorem dX3_number_4 : decode cX3_number 4 = .ok (.iand, 1) := by decide +kernel
theorem dX3_number_5 : decode cX3_number 5 = .ok (.ireturn, 1) := by decide +kernel
set_option maxRecDepth 20000 in
theorem ggX3_isOfOneKey_X3_first : GoodIn wsX3_isOfOneKey wsX3_first := goodIn_r _ [4] (by decide +kernel) (by decide +kernel)
set_option maxRecDepth 20000 in
theorem gX3_isOfOneKey_X3_first : GoodIn wsX3_isOfOneKey (va_wsS RX3 9 yX3_first wsX3_first) := goodIn_app (goodIn_of _ (by decide +kernel)) ggX3_isOfOneKey_X3_first
set_option maxRecDepth 20000 in
theorem ggX3_isOfOneKey_X3_last : GoodIn wsX3_isOfOneKey wsX3_last := goodIn_r _ [7] (by decide +kernel) (by decide +kernel)
set_option maxRecDepth 20000 in
theorem gX3_isOfOneKey_X3_last : GoodIn wsX3_isOfOneKey (va_wsS RX3 15 yX3_last wsX3_last) := goodIn_app (goodIn_of _ (by decide +kernel)) ggX3_isOfOneKey_X3_last
theorem dX3_isOfOneKey_0 : decode cX3_isOfOneKey 0 = .ok (.iload_n 0, 1) := by decide +kernel
theorem dX3_isOfOneKey_1 : decode cX3_isOfOneKey 1 = .ok (.invokestatic 9, 3) := by decide +kernel
theorem dX3_isOfOneKey_4 : decode cX3_isOfOneKey 4 = .ok (.iload_n 0, 1) := by decide +kernel
theorem dX3_isOfOneKey_5 : decode cX3_isOfOneKey 5 = .ok (.invokestatic 15, 3) := by decide +kernel
theorem dX3_isOfOneKey_8 : decode cX3_isOfOneKey 8 = .ok (.if_icmp .ne 7, 3) := by decide +kernel
theorem dX3_isOfOneKey_11 : decode cX3_isOfOneKey 11 = .ok (.iconst 1, 1) := by decide +kernel
theorem dX3_isOfOneKey_12 : decode cX3_isOfOneKey 12 = .ok (.goto 4, 3) := by decide +kernel
theorem dX3_isOfOneKey_15 : decode cX3_isOfOneKey 15 = .ok (.iconst 0, 1) := by decide +kernel
theorem dX3_isOfOneKey_16 : decode cX3_isOfOneKey 16 = .ok (.ireturn, 1) := by decide +kernel
set_option maxRecDepth 20000 in
theorem ggX3_touches_X3_first : GoodIn wsX3_touches wsX3_first := goodIn_r _ [4] (by decide +kernel) (by decide +kernel)
set_option maxRecDepth 20000 in
theorem gX3_touches_X3_first : GoodIn wsX3_touches (va_wsS RX3 9 yX3_first wsX3_first) := goodIn_app (goodIn_of _ (by decide +kernel)) ggX3_touches_X3_first
set_option maxRecDepth 20000 in
theorem ggX3_touches_X3_last : GoodIn wsX3_touches wsX3_last := goodIn_r _ [7] (by decide +kernel) (by decide +kernel)
set_option maxRecDepth 20000 in
theorem gX3_touches_X3_last : GoodIn wsX3_touches (va_wsS RX3 15 yX3_last wsX3_last) := goodIn_app (goodIn_of _ (by decide +kernel)) ggX3_touches_X3_last
theorem dX3_touches_0 : decode cX3_touches 0 = .ok (.iload_n 0, 1) := by decide +kernel
theorem dX3_touches_1 : decode cX3_touches 1 = .ok (.invokestatic 9, 3) := by decide +kernel
theorem dX3_touches_4 : decode cX3_touches 4 = .ok (.iload_n 2, 1) := by decide +kernel
theorem dX3_touches_5 : decode cX3_touches 5 = .ok (.if_icmp .gt 15, 3) := by decide +kernel
theorem dX3_touches_8 : decode cX3_touches 8 = .ok (.iload_n 0, 1) := by decide +kernel
theorem dX3_touches_9 : decode cX3_touches 9 = .ok (.invokestatic 15, 3) := by decide +kernel
theorem dX3_touches_12 : decode cX3_touches 12 = .ok (.iload_n 1, 1) := by decide +kernel
theorem dX3_touches_13 : decode cX3_touches 13 = .ok (.if_icmp .lt 7, 3) := by decide +kernel
theorem dX3_touches_16 : decode cX3_touches 16 = .ok (.iconst 1, 1) := by decide +kernel
theorem dX3_touches_17 : decode cX3_touches 17 = .ok (.goto 4, 3) := by decide +kernel
theorem dX3_touches_20 : decode cX3_touches 20 = .ok (.iconst 0, 1) := by decide +kernel
theorem dX3_touches_21 : decode cX3_touches 21 = .ok (.ireturn, 1) := by decide +kernel
set_option maxRecDepth 20000 in
theorem ggX3_part_X3_kind : GoodIn wsX3_part wsX3_kind := goodIn_r _ [11] (by decide +kernel) (by decide +kernel)
set_option maxRecDepth 20000 in
theorem gX3_part_X3_kind : GoodIn wsX3_part (va_wsS RX3 18 yX3_kind wsX3_kind) := goodIn_app (goodIn_of _ (by decide +kernel)) ggX3_part_X3_kind
set_option maxRecDepth 20000 in
theorem ggX3_part_X3_first : GoodIn wsX3_part wsX3_first := goodIn_r _ [14] (by decide +kernel) (by decide +kernel)
set_option maxRecDepth 20000 in
theorem gX3_part_X3_first : GoodIn wsX3_part (va_wsS RX3 9 yX3_first wsX3_first) := goodIn_app (goodIn_of _ (by decide +kernel)) ggX3_part_X3_first
set_option maxRecDepth 20000 in
theorem ggX3_part_X3_last : GoodIn wsX3_part wsX3_last := goodIn_r _ [17] (by decide +kernel) (by decide +kernel)
set_option maxRecDepth 20000 in
theorem gX3_part_X3_last : GoodIn wsX3_part (va_wsS RX3 15 yX3_last wsX3_last) := goodIn_app (goodIn_of _ (by decide +kernel)) ggX3_part_X3_last
set_option maxRecDepth 20000 in
theorem ggX3_part_X3_number : GoodIn wsX3_part wsX3_number := goodIn_r _ [20] (by decide +kernel) (by decide +kernel)
set_option maxRecDepth 20000 in
theorem gX3_part_X3_number : GoodIn wsX3_part (va_wsS RX3 30 yX3_number wsX3_number) := goodIn_app (goodIn_of _ (by decide +kernel)) ggX3_part_X3_number
set_option maxRecDepth 20000 in
theorem ggX3_part_X3_of : GoodIn wsX3_part wsX3_of := goodIn_r _ [23] (by decide +kernel) (by decide +kernel)
set_option maxRecDepth 20000 in
theorem gX3_part_X3_of : GoodIn wsX3_part (va_wsS RX3 33 yX3_of wsX3_of) := goodIn_app (goodIn_of _ (by decide +kernel)) ggX3_part_X3_of
theorem dX3_part_0 : decode cX3_part 0 = .ok (.iload_n 0, 1) := by decide +kernel
theorem dX3_part_1 : decode cX3_part 1 = .ok (.invokestatic 18, 3) := by decide +kernel
theorem dX3_part_4 : decode cX3_part 4 = .ok (.iload_n 0, 1) := by decide +kernel
theorem dX3_part_5 : decode cX3_part 5 = .ok (.invokestatic 9, 3) := by decide +kernel
theorem dX3_part_8 : decode cX3_part 8 = .ok (.iload_n 1, 1) := by decide +kernel
theorem dX3_part_9 : decode cX3_part 9 = .ok (.invokestatic 21, 3) := by decide +kernel
theorem dX3_part_12 : decode cX3_part 12 = .ok (.iload_n 0, 1) := by decide +kernel
theorem dX3_part_13 : decode cX3_part 13 = .ok (.invokestatic 15, 3) := by decide +kernel
theorem dX3_part_16 : decode cX3_part 16 = .ok (.iload_n 2, 1) := by decide +kernel
theorem dX3_part_17 : decode cX3_part 17 = .ok (.invokestatic 27, 3) := by decide +kernel
theorem dX3_part_20 : decode cX3_part 20 = .ok (.iload_n 0, 1) := by decide +kernel
theorem dX3_part_21 : decode cX3_part 21 = .ok (.invokestatic 30, 3) := by decide +kernel
theorem dX3_part_24 : decode cX3_part 24 = .ok (.invokestatic 33, 3) := by decide +kernel
theorem dX3_part_27 : decode cX3_part 27 = .ok (.ireturn, 1) := by decide +kernel
set_option maxRecDepth 20000 in
theorem ggX3_valueAfter_X3_kind : GoodIn wsX3_valueAfter wsX3_kind := goodIn_r _ [4] (by decide +kernel) (by decide +kernel)
set_option maxRecDepth 20000 in
theorem gX3_valueAfter_X3_kind : GoodIn wsX3_valueAfter (va_wsS RX3 18 yX3_kind wsX3_kind) := goodIn_app (goodIn_of _ (by decide +kernel)) ggX3_valueAfter_X3_kind
set_option maxRecDepth 20000 in
theorem ggX3_valueAfter_X3_number : GoodIn wsX3_valueAfter wsX3_number := goodIn_r _ [7] (by decide +kernel) (by decide +kernel)
set_option maxRecDepth 20000 in
theorem gX3_valueAfter_X3_number : GoodIn wsX3_valueAfter (va_wsS RX3 30 yX3_number wsX3_number) := goodIn_app (goodIn_of _ (by decide +kernel)) ggX3_valueAfter_X3_number
theorem dX3_valueAfter_0 : decode cX3_valueAfter 0 = .ok (.iload_n 0, 1) := by decide +kernel
theorem dX3_valueAfter_1 : decode cX3_valueAfter 1 = .ok (.invokestatic 18, 3) := by decide +kernel
theorem dX3_valueAfter_4 : decode cX3_valueAfter 4 = .ok (.lookupswitch 55 #[(0, 28), (1, 33)], 28) := by decide +kernel
theorem dX3_valueAfter_32 : decode cX3_valueAfter 32 = .ok (.iload_n 0, 1) := by decide +kernel
theorem dX3_valueAfter_33 : decode cX3_valueAfter 33 = .ok (.invokestatic 30, 3) := by decide +kernel
theorem dX3_valueAfter_36 : decode cX3_valueAfter 36 = .ok (.ireturn, 1) := by decide +kernel
theorem dX3_valueAfter_37 : decode cX3_valueAfter 37 = .ok (.iload_n 1, 1) := by decide +kernel
theorem dX3_valueAfter_38 : decode cX3_valueAfter 38 = .ok (.bipush (-6), 2) := by decide +kernel
theorem dX3_valueAfter_40 : decode cX3_valueAfter 40 = .ok (.if_icmp .ne 8, 3) := by decide +kernel
theorem dX3_valueAfter_43 : decode cX3_valueAfter 43 = .ok (.bipush (-6), 2) := by decide +kernel
theorem dX3_valueAfter_45 : decode cX3_valueAfter 45 = .ok (.goto 13, 3) := by decide +kernel
theorem dX3_valueAfter_48 : decode cX3_valueAfter 48 = .ok (.iload_n 1, 1) := by decide +kernel
theorem dX3_valueAfter_49 : decode cX3_valueAfter 49 = .ok (.iload_n 0, 1) := by decide +kernel
theorem dX3_valueAfter_50 : decode cX3_valueAfter 50 = .ok (.invokestatic 30, 3) := by decide +kernel
theorem dX3_valueAfter_53 : decode cX3_valueAfter 53 = .ok (.iadd, 1) := by decide +kernel
theorem dX3_valueAfter_54 : decode cX3_valueAfter 54 = .ok (.sipush 1000, 3) := by decide +kernel
theorem dX3_valueAfter_57 : decode cX3_valueAfter 57 = .ok (.irem, 1) := by decide +kernel
theorem dX3_valueAfter_58 : decode cX3_valueAfter 58 = .ok (.ireturn, 1) := by decide +kernel
theorem dX3_valueAfter_59 : decode cX3_valueAfter 59 = .ok (.bipush (-6), 2) := by decide +kernel
theorem dX3_valueAfter_61 : decode cX3_valueAfter 61 = .ok (.ireturn, 1) := by decide +kernel
