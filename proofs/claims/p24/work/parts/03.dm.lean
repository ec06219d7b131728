theorem dX4_init_0 : decode cX4_init 0 = .ok (.aload_n 0, 1) := by decide +kernel
theorem dX4_init_1 : decode cX4_init 1 = .ok (.invokespecial 3, 3) := by decide +kernel
theorem dX4_init_4 : decode cX4_init 4 = .ok (.aload_n 0, 1) := by decide +kernel
theorem dX4_init_5 : decode cX4_init 5 = .ok (.iconst 2, 1) := by decide +kernel
theorem dX4_init_6 : decode cX4_init 6 = .ok (.newarray .int, 2) := by decide +kernel
theorem dX4_init_8 : decode cX4_init 8 = .ok (.dup, 1) := by decide +kernel
theorem dX4_init_9 : decode cX4_init 9 = .ok (.iconst 0, 1) := by decide +kernel
theorem dX4_init_10 : decode cX4_init 10 = .ok (.iconst 4, 1) := by decide +kernel
theorem dX4_init_11 : decode cX4_init 11 = .ok (.iastore, 1) := by decide +kernel
theorem dX4_init_12 : decode cX4_init 12 = .ok (.dup, 1) := by decide +kernel
theorem dX4_init_13 : decode cX4_init 13 = .ok (.iconst 1, 1) := by decide +kernel
theorem dX4_init_14 : decode cX4_init 14 = .ok (.iconst 1, 1) := by decide +kernel
theorem dX4_init_15 : decode cX4_init 15 = .ok (.iastore, 1) := by decide +kernel
theorem dX4_init_16 : decode cX4_init 16 = .ok (.putfield 9, 3) := by decide +kernel
theorem dX4_init_19 : decode cX4_init 19 = .ok (.aload_n 0, 1) := by decide +kernel
theorem dX4_init_20 : decode cX4_init 20 = .ok (.bipush 27, 2) := by decide +kernel
theorem dX4_init_22 : decode cX4_init 22 = .ok (.newarray .int, 2) := by decide +kernel
theorem dX4_init_24 : decode cX4_init 24 = .ok (.putfield 15, 3) := by decide +kernel
theorem dX4_init_27 : decode cX4_init 27 = .ok (.aload_n 0, 1) := by decide +kernel
theorem dX4_init_28 : decode cX4_init 28 = .ok (.bipush 13, 2) := by decide +kernel
theorem dX4_init_30 : decode cX4_init 30 = .ok (.newarray .int, 2) := by decide +kernel
theorem dX4_init_32 : decode cX4_init 32 = .ok (.putfield 18, 3) := by decide +kernel
theorem dX4_init_35 : decode cX4_init 35 = .ok (.aload_n 0, 1) := by decide +kernel
theorem dX4_init_36 : decode cX4_init 36 = .ok (.sipush 286, 3) := by decide +kernel
theorem dX4_init_39 : decode cX4_init 39 = .ok (.newarray .int, 2) := by decide +kernel
theorem dX4_init_41 : decode cX4_init 41 = .ok (.putfield 21, 3) := by decide +kernel
theorem dX4_init_44 : decode cX4_init 44 = .ok (.aload_n 0, 1) := by decide +kernel
theorem dX4_init_45 : decode cX4_init 45 = .ok (.bipush 13, 2) := by decide +kernel
theorem dX4_init_47 : decode cX4_init 47 = .ok (.newarray .int, 2) := by decide +kernel
theorem dX4_init_49 : decode cX4_init 49 = .ok (.putfield 24, 3) := by decide +kernel
theorem dX4_init_52 : decode cX4_init 52 = .ok (.aload_n 0, 1) := by decide +kernel
theorem dX4_init_53 : decode cX4_init 53 = .ok (.bipush 13, 2) := by decide +kernel
theorem dX4_init_55 : decode cX4_init 55 = .ok (.newarray .int, 2) := by decide +kernel
theorem dX4_init_57 : decode cX4_init 57 = .ok (.putfield 27, 3) := by decide +kernel
theorem dX4_init_60 : decode cX4_init 60 = .ok (.aload_n 0, 1) := by decide +kernel
theorem dX4_init_61 : decode cX4_init 61 = .ok (.bipush 13, 2) := by decide +kernel
theorem dX4_init_63 : decode cX4_init 63 = .ok (.newarray .int, 2) := by decide +kernel
theorem dX4_init_65 : decode cX4_init 65 = .ok (.putfield 30, 3) := by decide +kernel
theorem dX4_init_68 : decode cX4_init 68 = .ok (.iconst 0, 1) := by decide +kernel
theorem dX4_init_69 : decode cX4_init 69 = .ok (.istore_n 1, 1) := by decide +kernel
theorem dX4_init_70 : decode cX4_init 70 = .ok (.iload_n 1, 1) := by decide +kernel
theorem dX4_init_71 : decode cX4_init 71 = .ok (.aload_n 0, 1) := by decide +kernel
theorem dX4_init_72 : decode cX4_init 72 = .ok (.getfield 15, 3) := by decide +kernel
theorem dX4_init_75 : decode cX4_init 75 = .ok (.arraylength, 1) := by decide +kernel
theorem dX4_init_76 : decode cX4_init 76 = .ok (.if_icmp .ge 17, 3) := by decide +kernel
theorem dX4_init_79 : decode cX4_init 79 = .ok (.aload_n 0, 1) := by decide +kernel
theorem dX4_init_80 : decode cX4_init 80 = .ok (.getfield 15, 3) := by decide +kernel
theorem dX4_init_83 : decode cX4_init 83 = .ok (.iload_n 1, 1) := by decide +kernel
theorem dX4_init_84 : decode cX4_init 84 = .ok (.bipush (-6), 2) := by decide +kernel
theorem dX4_init_86 : decode cX4_init 86 = .ok (.iastore, 1) := by decide +kernel
theorem dX4_init_87 : decode cX4_init 87 = .ok (.iinc 1 1, 3) := by decide +kernel
theorem dX4_init_90 : decode cX4_init 90 = .ok (.goto (-20), 3) := by decide +kernel
theorem dX4_init_93 : decode cX4_init 93 = .ok (.return_, 1) := by decide +kernel
set_option maxRecDepth 20000 in
theorem ggX4_copyFrom_X4_copyRow : GoodIn wsX4_copyFrom wsX4_copyRow := goodIn_r _ [14, 15, 16, 17, 18, 19, 20, 21, 22] (by decide +kernel) (by decide +kernel)
set_option maxRecDepth 20000 in
theorem gX4_copyFrom_X4_copyRow : GoodIn wsX4_copyFrom (va_wsS RX4 33 yX4_copyRow wsX4_copyRow) := goodIn_app (goodIn_of _ (by decide +kernel)) ggX4_copyFrom_X4_copyRow
theorem dX4_copyFrom_0 : decode cX4_copyFrom 0 = .ok (.aload_n 1, 1) := by decide +kernel
theorem dX4_copyFrom_1 : decode cX4_copyFrom 1 = .ok (.ifnonnull 4, 3) := by decide +kernel
theorem dX4_copyFrom_4 : decode cX4_copyFrom 4 = .ok (.return_, 1) := by decide +kernel
theorem dX4_copyFrom_5 : decode cX4_copyFrom 5 = .ok (.aload_n 1, 1) := by decide +kernel
theorem dX4_copyFrom_6 : decode cX4_copyFrom 6 = .ok (.getfield 9, 3) := by decide +kernel
theorem dX4_copyFrom_9 : decode cX4_copyFrom 9 = .ok (.aload_n 0, 1) := by decide +kernel
theorem dX4_copyFrom_10 : decode cX4_copyFrom 10 = .ok (.getfield 9, 3) := by decide +kernel
theorem dX4_copyFrom_13 : decode cX4_copyFrom 13 = .ok (.invokestatic 33, 3) := by decide +kernel
theorem dX4_copyFrom_16 : decode cX4_copyFrom 16 = .ok (.aload_n 1, 1) := by decide +kernel
theorem dX4_copyFrom_17 : decode cX4_copyFrom 17 = .ok (.getfield 15, 3) := by decide +kernel
theorem dX4_copyFrom_20 : decode cX4_copyFrom 20 = .ok (.aload_n 0, 1) := by decide +kernel
theorem dX4_copyFrom_21 : decode cX4_copyFrom 21 = .ok (.getfield 15, 3) := by decide +kernel
theorem dX4_copyFrom_24 : decode cX4_copyFrom 24 = .ok (.invokestatic 33, 3) := by decide +kernel
theorem dX4_copyFrom_27 : decode cX4_copyFrom 27 = .ok (.aload_n 1, 1) := by decide +kernel
theorem dX4_copyFrom_28 : decode cX4_copyFrom 28 = .ok (.getfield 18, 3) := by decide +kernel
theorem dX4_copyFrom_31 : decode cX4_copyFrom 31 = .ok (.aload_n 0, 1) := by decide +kernel
theorem dX4_copyFrom_32 : decode cX4_copyFrom 32 = .ok (.getfield 18, 3) := by decide +kernel
theorem dX4_copyFrom_35 : decode cX4_copyFrom 35 = .ok (.invokestatic 33, 3) := by decide +kernel
theorem dX4_copyFrom_38 : decode cX4_copyFrom 38 = .ok (.aload_n 1, 1) := by decide +kernel
theorem dX4_copyFrom_39 : decode cX4_copyFrom 39 = .ok (.getfield 21, 3) := by decide +kernel
theorem dX4_copyFrom_42 : decode cX4_copyFrom 42 = .ok (.aload_n 0, 1) := by decide +kernel
theorem dX4_copyFrom_43 : decode cX4_copyFrom 43 = .ok (.getfield 21, 3) := by decide +kernel
theorem dX4_copyFrom_46 : decode cX4_copyFrom 46 = .ok (.invokestatic 33, 3) := by decide +kernel
theorem dX4_copyFrom_49 : decode cX4_copyFrom 49 = .ok (.aload_n 1, 1) := by decide +kernel
theorem dX4_copyFrom_50 : decode cX4_copyFrom 50 = .ok (.getfield 24, 3) := by decide +kernel
theorem dX4_copyFrom_53 : decode cX4_copyFrom 53 = .ok (.aload_n 0, 1) := by decide +kernel
theorem dX4_copyFrom_54 : decode cX4_copyFrom 54 = .ok (.getfield 24, 3) := by decide +kernel
theorem dX4_copyFrom_57 : decode cX4_copyFrom 57 = .ok (.invokestatic 33, 3) := by decide +kernel
theorem dX4_copyFrom_60 : decode cX4_copyFrom 60 = .ok (.aload_n 1, 1) := by decide +kernel
theorem dX4_copyFrom_61 : decode cX4_copyFrom 61 = .ok (.getfield 27, 3) := by decide +kernel
theorem dX4_copyFrom_64 : decode cX4_copyFrom 64 = .ok (.aload_n 0, 1) := by decide +kernel
theorem dX4_copyFrom_65 : decode cX4_copyFrom 65 = .ok (.getfield 27, 3) := by decide +kernel
theorem dX4_copyFrom_68 : decode cX4_copyFrom 68 = .ok (.invokestatic 33, 3) := by decide +kernel
theorem dX4_copyFrom_71 : decode cX4_copyFrom 71 = .ok (.aload_n 1, 1) := by decide +kernel
theorem dX4_copyFrom_72 : decode cX4_copyFrom 72 = .ok (.getfield 30, 3) := by decide +kernel
theorem dX4_copyFrom_75 : decode cX4_copyFrom 75 = .ok (.aload_n 0, 1) := by decide +kernel
theorem dX4_copyFrom_76 : decode cX4_copyFrom 76 = .ok (.getfield 30, 3) := by decide +kernel
theorem dX4_copyFrom_79 : decode cX4_copyFrom 79 = .ok (.invokestatic 33, 3) := by decide +kernel
theorem dX4_copyFrom_82 : decode cX4_copyFrom 82 = .ok (.aload_n 0, 1) := by decide +kernel
theorem dX4_copyFrom_83 : decode cX4_copyFrom 83 = .ok (.aload_n 1, 1) := by decide +kernel
theorem dX4_copyFrom_84 : decode cX4_copyFrom 84 = .ok (.getfield 37, 3) := by decide +kernel
theorem dX4_copyFrom_87 : decode cX4_copyFrom 87 = .ok (.putfield 37, 3) := by decide +kernel
theorem dX4_copyFrom_90 : decode cX4_copyFrom 90 = .ok (.aload_n 0, 1) := by decide +kernel
theorem dX4_copyFrom_91 : decode cX4_copyFrom 91 = .ok (.aload_n 1, 1) := by decide +kernel
theorem dX4_copyFrom_92 : decode cX4_copyFrom 92 = .ok (.getfield 41, 3) := by decide +kernel
theorem dX4_copyFrom_95 : decode cX4_copyFrom 95 = .ok (.putfield 41, 3) := by decide +kernel
theorem dX4_copyFrom_98 : decode cX4_copyFrom 98 = .ok (.aload_n 0, 1) := by decide +kernel
theorem dX4_copyFrom_99 : decode cX4_copyFrom 99 = .ok (.aload_n 1, 1) := by decide +kernel
theorem dX4_copyFrom_100 : decode cX4_copyFrom 100 = .ok (.getfield 44, 3) := by decide +kernel
theorem dX4_copyFrom_103 : decode cX4_copyFrom 103 = .ok (.putfield 44, 3) := by decide +kernel
theorem dX4_copyFrom_106 : decode cX4_copyFrom 106 = .ok (.return_, 1) := by decide +kernel
theorem dX4_copyRow_0 : decode cX4_copyRow 0 = .ok (.aload_n 0, 1) := by decide +kernel
theorem dX4_copyRow_1 : decode cX4_copyRow 1 = .ok (.iconst 0, 1) := by decide +kernel
theorem dX4_copyRow_2 : decode cX4_copyRow 2 = .ok (.aload_n 1, 1) := by decide +kernel
theorem dX4_copyRow_3 : decode cX4_copyRow 3 = .ok (.iconst 0, 1) := by decide +kernel
theorem dX4_copyRow_4 : decode cX4_copyRow 4 = .ok (.aload_n 0, 1) := by decide +kernel
theorem dX4_copyRow_5 : decode cX4_copyRow 5 = .ok (.arraylength, 1) := by decide +kernel
theorem dX4_copyRow_6 : decode cX4_copyRow 6 = .ok (.aload_n 1, 1) := by decide +kernel
theorem dX4_copyRow_7 : decode cX4_copyRow 7 = .ok (.arraylength, 1) := by decide +kernel
theorem dX4_copyRow_8 : decode cX4_copyRow 8 = .ok (.invokestatic 47, 3) := by decide +kernel
theorem dX4_copyRow_11 : decode cX4_copyRow 11 = .ok (.invokestatic 53, 3) := by decide +kernel
theorem dX4_copyRow_14 : decode cX4_copyRow 14 = .ok (.return_, 1) := by decide +kernel
theorem dX4_setting_0 : decode cX4_setting 0 = .ok (.iload_n 1, 1) := by decide +kernel
theorem dX4_setting_1 : decode cX4_setting 1 = .ok (.ifCond .lt 21, 3) := by decide +kernel
theorem dX4_setting_4 : decode cX4_setting 4 = .ok (.iload_n 1, 1) := by decide +kernel
theorem dX4_setting_5 : decode cX4_setting 5 = .ok (.aload_n 0, 1) := by decide +kernel
theorem dX4_setting_6 : decode cX4_setting 6 = .ok (.getfield 9, 3) := by decide +kernel
theorem dX4_setting_9 : decode cX4_setting 9 = .ok (.arraylength, 1) := by decide +kernel
theorem dX4_setting_10 : decode cX4_setting 10 = .ok (.if_icmp .ge 12, 3) := by decide +kernel
theorem dX4_setting_13 : decode cX4_setting 13 = .ok (.aload_n 0, 1) := by decide +kernel
theorem dX4_setting_14 : decode cX4_setting 14 = .ok (.getfield 9, 3) := by decide +kernel
theorem dX4_setting_17 : decode cX4_setting 17 = .ok (.iload_n 1, 1) := by decide +kernel
theorem dX4_setting_18 : decode cX4_setting 18 = .ok (.iaload, 1) := by decide +kernel
theorem dX4_setting_19 : decode cX4_setting 19 = .ok (.goto 4, 3) := by decide +kernel
theorem dX4_setting_22 : decode cX4_setting 22 = .ok (.iconst 0, 1) := by decide +kernel
theorem dX4_setting_23 : decode cX4_setting 23 = .ok (.ireturn, 1) := by decide +kernel
set_option maxRecDepth 20000 in
theorem ggX4_changeSetting_X4_setting : GoodIn wsX4_changeSetting wsX4_setting := goodIn_r _ [6, 1, 7, 8, 9, 10, 11, 12, 13, 14, 15, 16] (by decide +kernel) (by decide +kernel)
set_option maxRecDepth 20000 in
theorem gX4_changeSetting_X4_setting : GoodIn wsX4_changeSetting (wsV RX4 59 RX4 yX4_setting wsX4_setting) := goodIn_app (goodIn_of _ (by decide +kernel)) ggX4_changeSetting_X4_setting
theorem dX4_changeSetting_0 : decode cX4_changeSetting 0 = .ok (.aload_n 0, 1) := by decide +kernel
theorem dX4_changeSetting_1 : decode cX4_changeSetting 1 = .ok (.iload_n 1, 1) := by decide +kernel
theorem dX4_changeSetting_2 : decode cX4_changeSetting 2 = .ok (.invokevirtual 59, 3) := by decide +kernel
theorem dX4_changeSetting_5 : decode cX4_changeSetting 5 = .ok (.istore_n 3, 1) := by decide +kernel
theorem dX4_changeSetting_6 : decode cX4_changeSetting 6 = .ok (.iload_n 1, 1) := by decide +kernel
theorem dX4_changeSetting_7 : decode cX4_changeSetting 7 = .ok (.ifCond .lt 19, 3) := by decide +kernel
theorem dX4_changeSetting_10 : decode cX4_changeSetting 10 = .ok (.iload_n 1, 1) := by decide +kernel
theorem dX4_changeSetting_11 : decode cX4_changeSetting 11 = .ok (.aload_n 0, 1) := by decide +kernel
theorem dX4_changeSetting_12 : decode cX4_changeSetting 12 = .ok (.getfield 9, 3) := by decide +kernel
theorem dX4_changeSetting_15 : decode cX4_changeSetting 15 = .ok (.arraylength, 1) := by decide +kernel
theorem dX4_changeSetting_16 : decode cX4_changeSetting 16 = .ok (.if_icmp .ge 10, 3) := by decide +kernel
theorem dX4_changeSetting_19 : decode cX4_changeSetting 19 = .ok (.aload_n 0, 1) := by decide +kernel
theorem dX4_changeSetting_20 : decode cX4_changeSetting 20 = .ok (.getfield 9, 3) := by decide +kernel
theorem dX4_changeSetting_23 : decode cX4_changeSetting 23 = .ok (.iload_n 1, 1) := by decide +kernel
theorem dX4_changeSetting_24 : decode cX4_changeSetting 24 = .ok (.iload_n 2, 1) := by decide +kernel
theorem dX4_changeSetting_25 : decode cX4_changeSetting 25 = .ok (.iastore, 1) := by decide +kernel
theorem dX4_changeSetting_26 : decode cX4_changeSetting 26 = .ok (.iload_n 3, 1) := by decide +kernel
theorem dX4_changeSetting_27 : decode cX4_changeSetting 27 = .ok (.ireturn, 1) := by decide +kernel
theorem dX4_stonesIn_0 : decode cX4_stonesIn 0 = .ok (.iload_n 1, 1) := by decide +kernel
theorem dX4_stonesIn_1 : decode cX4_stonesIn 1 = .ok (.ifCond .lt 21, 3) := by decide +kernel
theorem dX4_stonesIn_4 : decode cX4_stonesIn 4 = .ok (.iload_n 1, 1) := by decide +kernel
theorem dX4_stonesIn_5 : decode cX4_stonesIn 5 = .ok (.aload_n 0, 1) := by decide +kernel
theorem dX4_stonesIn_6 : decode cX4_stonesIn 6 = .ok (.getfield 18, 3) := by decide +kernel
theorem dX4_stonesIn_9 : decode cX4_stonesIn 9 = .ok (.arraylength, 1) := by decide +kernel
theorem dX4_stonesIn_10 : decode cX4_stonesIn 10 = .ok (.if_icmp .ge 12, 3) := by decide +kernel
theorem dX4_stonesIn_13 : decode cX4_stonesIn 13 = .ok (.aload_n 0, 1) := by decide +kernel
theorem dX4_stonesIn_14 : decode cX4_stonesIn 14 = .ok (.getfield 18, 3) := by decide +kernel
theorem dX4_stonesIn_17 : decode cX4_stonesIn 17 = .ok (.iload_n 1, 1) := by decide +kernel
theorem dX4_stonesIn_18 : decode cX4_stonesIn 18 = .ok (.iaload, 1) := by decide +kernel
theorem dX4_stonesIn_19 : decode cX4_stonesIn 19 = .ok (.goto 4, 3) := by decide +kernel
theorem dX4_stonesIn_22 : decode cX4_stonesIn 22 = .ok (.iconst 0, 1) := by decide +kernel
theorem dX4_stonesIn_23 : decode cX4_stonesIn 23 = .ok (.ireturn, 1) := by decide +kernel
set_option maxRecDepth 20000 in
theorem ggX4_timesSunk_X4_numberOf : GoodIn wsX4_timesSunk wsX4_numberOf := goodIn_r _ [5] (by decide +kernel) (by decide +kernel)
set_option maxRecDepth 20000 in
theorem gX4_timesSunk_X4_numberOf : GoodIn wsX4_timesSunk (va_wsS RX4 63 yX4_numberOf wsX4_numberOf) := goodIn_app (goodIn_of _ (by decide +kernel)) ggX4_timesSunk_X4_numberOf
theorem dX4_timesSunk_0 : decode cX4_timesSunk 0 = .ok (.aload_n 0, 1) := by decide +kernel
theorem dX4_timesSunk_1 : decode cX4_timesSunk 1 = .ok (.getfield 24, 3) := by decide +kernel
theorem dX4_timesSunk_4 : decode cX4_timesSunk 4 = .ok (.iload_n 1, 1) := by decide +kernel
theorem dX4_timesSunk_5 : decode cX4_timesSunk 5 = .ok (.invokestatic 63, 3) := by decide +kernel
theorem dX4_timesSunk_8 : decode cX4_timesSunk 8 = .ok (.ireturn, 1) := by decide +kernel
set_option maxRecDepth 20000 in
theorem ggX4_stonesSunk_X4_numberOf : GoodIn wsX4_stonesSunk wsX4_numberOf := goodIn_r _ [5] (by decide +kernel) (by decide +kernel)
set_option maxRecDepth 20000 in
theorem gX4_stonesSunk_X4_numberOf : GoodIn wsX4_stonesSunk (va_wsS RX4 63 yX4_numberOf wsX4_numberOf) := goodIn_app (goodIn_of _ (by decide +kernel)) ggX4_stonesSunk_X4_numberOf
theorem dX4_stonesSunk_0 : decode cX4_stonesSunk 0 = .ok (.aload_n 0, 1) := by decide +kernel
theorem dX4_stonesSunk_1 : decode cX4_stonesSunk 1 = .ok (.getfield 27, 3) := by decide +kernel
theorem dX4_stonesSunk_4 : decode cX4_stonesSunk 4 = .ok (.iload_n 1, 1) := by decide +kernel
theorem dX4_stonesSunk_5 : decode cX4_stonesSunk 5 = .ok (.invokestatic 63, 3) := by decide +kernel
theorem dX4_stonesSunk_8 : decode cX4_stonesSunk 8 = .ok (.ireturn, 1) := by decide +kernel
set_option maxRecDepth 20000 in
theorem ggX4_stonesJoined_X4_numberOf : GoodIn wsX4_stonesJoined wsX4_numberOf := goodIn_r _ [5] (by decide +kernel) (by decide +kernel)
set_option maxRecDepth 20000 in
theorem gX4_stonesJoined_X4_numberOf : GoodIn wsX4_stonesJoined (va_wsS RX4 63 yX4_numberOf wsX4_numberOf) := goodIn_app (goodIn_of _ (by decide +kernel)) ggX4_stonesJoined_X4_numberOf
theorem dX4_stonesJoined_0 : decode cX4_stonesJoined 0 = .ok (.aload_n 0, 1) := by decide +kernel
theorem dX4_stonesJoined_1 : decode cX4_stonesJoined 1 = .ok (.getfield 30, 3) := by decide +kernel
theorem dX4_stonesJoined_4 : decode cX4_stonesJoined 4 = .ok (.iload_n 1, 1) := by decide +kernel
theorem dX4_stonesJoined_5 : decode cX4_stonesJoined 5 = .ok (.invokestatic 63, 3) := by decide +kernel
theorem dX4_stonesJoined_8 : decode cX4_stonesJoined 8 = .ok (.ireturn, 1) := by decide +kernel
theorem dX4_stonesSent_0 : decode cX4_stonesSent 0 = .ok (.aload_n 0, 1) := by decide +kernel
theorem dX4_stonesSent_1 : decode cX4_stonesSent 1 = .ok (.getfield 37, 3) := by decide +kernel
theorem dX4_stonesSent_4 : decode cX4_stonesSent 4 = .ok (.ireturn, 1) := by decide +kernel
theorem dX4_stonesApplied_0 : decode cX4_stonesApplied 0 = .ok (.aload_n 0, 1) := by decide +kernel
theorem dX4_stonesApplied_1 : decode cX4_stonesApplied 1 = .ok (.getfield 41, 3) := by decide +kernel
theorem dX4_stonesApplied_4 : decode cX4_stonesApplied 4 = .ok (.ireturn, 1) := by decide +kernel
theorem dX4_buffersLookedAt_0 : decode cX4_buffersLookedAt 0 = .ok (.aload_n 0, 1) := by decide +kernel
theorem dX4_buffersLookedAt_1 : decode cX4_buffersLookedAt 1 = .ok (.getfield 44, 3) := by decide +kernel
theorem dX4_buffersLookedAt_4 : decode cX4_buffersLookedAt 4 = .ok (.ireturn, 1) := by decide +kernel
set_option maxRecDepth 20000 in
theorem ggX4_stones_X4_total : GoodIn wsX4_stones wsX4_total := goodIn_r _ [5] (by decide +kernel) (by decide +kernel)
set_option maxRecDepth 20000 in
theorem gX4_stones_X4_total : GoodIn wsX4_stones (va_wsS RX4 67 yX4_total wsX4_total) := goodIn_app (goodIn_of _ (by decide +kernel)) ggX4_stones_X4_total
theorem dX4_stones_0 : decode cX4_stones 0 = .ok (.aload_n 0, 1) := by decide +kernel
theorem dX4_stones_1 : decode cX4_stones 1 = .ok (.getfield 18, 3) := by decide +kernel
theorem dX4_stones_4 : decode cX4_stones 4 = .ok (.invokestatic 67, 3) := by decide +kernel
theorem dX4_stones_7 : decode cX4_stones 7 = .ok (.ireturn, 1) := by decide +kernel
set_option maxRecDepth 20000 in
theorem ggX4_allStonesSunk_X4_total : GoodIn wsX4_allStonesSunk wsX4_total := goodIn_r _ [5] (by decide +kernel) (by decide +kernel)
set_option maxRecDepth 20000 in
theorem gX4_allStonesSunk_X4_total : GoodIn wsX4_allStonesSunk (va_wsS RX4 67 yX4_total wsX4_total) := goodIn_app (goodIn_of _ (by decide +kernel)) ggX4_allStonesSunk_X4_total
theorem dX4_allStonesSunk_0 : decode cX4_allStonesSunk 0 = .ok (.aload_n 0, 1) := by decide +kernel
theorem dX4_allStonesSunk_1 : decode cX4_allStonesSunk 1 = .ok (.getfield 27, 3) := by decide +kernel
theorem dX4_allStonesSunk_4 : decode cX4_allStonesSunk 4 = .ok (.invokestatic 67, 3) := by decide +kernel
theorem dX4_allStonesSunk_7 : decode cX4_allStonesSunk 7 = .ok (.ireturn, 1) := by decide +kernel
theorem dX4_numberOf_0 : decode cX4_numberOf 0 = .ok (.iload_n 1, 1) := by decide +kernel
theorem dX4_numberOf_1 : decode cX4_numberOf 1 = .ok (.ifCond .lt 15, 3) := by decide +kernel
theorem dX4_numberOf_4 : decode cX4_numberOf 4 = .ok (.iload_n 1, 1) := by decide +kernel
theorem dX4_numberOf_5 : decode cX4_numberOf 5 = .ok (.aload_n 0, 1) := by decide +kernel
theorem dX4_numberOf_6 : decode cX4_numberOf 6 = .ok (.arraylength, 1) := by decide +kernel
theorem dX4_numberOf_7 : decode cX4_numberOf 7 = .ok (.if_icmp .ge 9, 3) := by decide +kernel
theorem dX4_numberOf_10 : decode cX4_numberOf 10 = .ok (.aload_n 0, 1) := by decide +kernel
theorem dX4_numberOf_11 : decode cX4_numberOf 11 = .ok (.iload_n 1, 1) := by decide +kernel
theorem dX4_numberOf_12 : decode cX4_numberOf 12 = .ok (.iaload, 1) := by decide +kernel
theorem dX4_numberOf_13 : decode cX4_numberOf 13 = .ok (.goto 4, 3) := by decide +kernel
theorem dX4_numberOf_16 : decode cX4_numberOf 16 = .ok (.iconst 0, 1) := by decide +kernel
theorem dX4_numberOf_17 : decode cX4_numberOf 17 = .ok (.ireturn, 1) := by decide +kernel
theorem dX4_addTo_0 : decode cX4_addTo 0 = .ok (.iload_n 1, 1) := by decide +kernel
theorem dX4_addTo_1 : decode cX4_addTo 1 = .ok (.ifCond .lt 16, 3) := by decide +kernel
theorem dX4_addTo_4 : decode cX4_addTo 4 = .ok (.iload_n 1, 1) := by decide +kernel
theorem dX4_addTo_5 : decode cX4_addTo 5 = .ok (.aload_n 0, 1) := by decide +kernel
theorem dX4_addTo_6 : decode cX4_addTo 6 = .ok (.arraylength, 1) := by decide +kernel
theorem dX4_addTo_7 : decode cX4_addTo 7 = .ok (.if_icmp .ge 10, 3) := by decide +kernel
theorem dX4_addTo_10 : decode cX4_addTo 10 = .ok (.aload_n 0, 1) := by decide +kernel
theorem dX4_addTo_11 : decode cX4_addTo 11 = .ok (.iload_n 1, 1) := by decide +kernel
theorem dX4_addTo_12 : decode cX4_addTo 12 = .ok (.dup2, 1) := by decide +kernel
theorem dX4_addTo_13 : decode cX4_addTo 13 = .ok (.iaload, 1) := by decide +kernel
theorem dX4_addTo_14 : decode cX4_addTo 14 = .ok (.iload_n 2, 1) := by decide +kernel
theorem dX4_addTo_15 : decode cX4_addTo 15 = .ok (.iadd, 1) := by decide +kernel
theorem dX4_addTo_16 : decode cX4_addTo 16 = .ok (.iastore, 1) := by decide +kernel
theorem dX4_addTo_17 : decode cX4_addTo 17 = .ok (.return_, 1) := by decide +kernel
theorem dX4_total_0 : decode cX4_total 0 = .ok (.iconst 0, 1) := by decide +kernel
theorem dX4_total_1 : decode cX4_total 1 = .ok (.istore_n 1, 1) := by decide +kernel
theorem dX4_total_2 : decode cX4_total 2 = .ok (.aload_n 0, 1) := by decide +kernel
theorem dX4_total_3 : decode cX4_total 3 = .ok (.astore_n 2, 1) := by decide +kernel
theorem dX4_total_4 : decode cX4_total 4 = .ok (.aload_n 2, 1) := by decide +kernel
theorem dX4_total_5 : decode cX4_total 5 = .ok (.arraylength, 1) := by decide +kernel
theorem dX4_total_6 : decode cX4_total 6 = .ok (.istore_n 3, 1) := by decide +kernel
theorem dX4_total_7 : decode cX4_total 7 = .ok (.iconst 0, 1) := by decide +kernel
theorem dX4_total_8 : decode cX4_total 8 = .ok (.istore 4, 2) := by decide +kernel
theorem dX4_total_10 : decode cX4_total 10 = .ok (.iload 4, 2) := by decide +kernel
theorem dX4_total_12 : decode cX4_total 12 = .ok (.iload_n 3, 1) := by decide +kernel
theorem dX4_total_13 : decode cX4_total 13 = .ok (.if_icmp .ge 20, 3) := by decide +kernel
theorem dX4_total_16 : decode cX4_total 16 = .ok (.aload_n 2, 1) := by decide +kernel
theorem dX4_total_17 : decode cX4_total 17 = .ok (.iload 4, 2) := by decide +kernel
theorem dX4_total_19 : decode cX4_total 19 = .ok (.iaload, 1) := by decide +kernel
theorem dX4_total_20 : decode cX4_total 20 = .ok (.istore 5, 2) := by decide +kernel
theorem dX4_total_22 : decode cX4_total 22 = .ok (.iload_n 1, 1) := by decide +kernel
theorem dX4_total_23 : decode cX4_total 23 = .ok (.iload 5, 2) := by decide +kernel
theorem dX4_total_25 : decode cX4_total 25 = .ok (.iadd, 1) := by decide +kernel
theorem dX4_total_26 : decode cX4_total 26 = .ok (.istore_n 1, 1) := by decide +kernel
theorem dX4_total_27 : decode cX4_total 27 = .ok (.iinc 4 1, 3) := by decide +kernel
theorem dX4_total_30 : decode cX4_total 30 = .ok (.goto (-20), 3) := by decide +kernel
theorem dX4_total_33 : decode cX4_total 33 = .ok (.iload_n 1, 1) := by decide +kernel
theorem dX4_total_34 : decode cX4_total 34 = .ok (.ireturn, 1) := by decide +kernel
theorem dX4_stoneAt_0 : decode cX4_stoneAt 0 = .ok (.iload_n 1, 1) := by decide +kernel
theorem dX4_stoneAt_1 : decode cX4_stoneAt 1 = .ok (.ifCond .lt 23, 3) := by decide +kernel
theorem dX4_stoneAt_4 : decode cX4_stoneAt 4 = .ok (.iload_n 1, 1) := by decide +kernel
theorem dX4_stoneAt_5 : decode cX4_stoneAt 5 = .ok (.bipush 13, 2) := by decide +kernel
theorem dX4_stoneAt_7 : decode cX4_stoneAt 7 = .ok (.if_icmp .ge 17, 3) := by decide +kernel
theorem dX4_stoneAt_10 : decode cX4_stoneAt 10 = .ok (.iload_n 2, 1) := by decide +kernel
theorem dX4_stoneAt_11 : decode cX4_stoneAt 11 = .ok (.ifCond .lt 13, 3) := by decide +kernel
theorem dX4_stoneAt_14 : decode cX4_stoneAt 14 = .ok (.iload_n 2, 1) := by decide +kernel
theorem dX4_stoneAt_15 : decode cX4_stoneAt 15 = .ok (.bipush 22, 2) := by decide +kernel
theorem dX4_stoneAt_17 : decode cX4_stoneAt 17 = .ok (.if_icmp .ge 7, 3) := by decide +kernel
theorem dX4_stoneAt_20 : decode cX4_stoneAt 20 = .ok (.iconst 1, 1) := by decide +kernel
theorem dX4_stoneAt_21 : decode cX4_stoneAt 21 = .ok (.goto 4, 3) := by decide +kernel
theorem dX4_stoneAt_24 : decode cX4_stoneAt 24 = .ok (.iconst 0, 1) := by decide +kernel
theorem dX4_stoneAt_25 : decode cX4_stoneAt 25 = .ok (.istore_n 3, 1) := by decide +kernel
theorem dX4_stoneAt_26 : decode cX4_stoneAt 26 = .ok (.iload_n 3, 1) := by decide +kernel
theorem dX4_stoneAt_27 : decode cX4_stoneAt 27 = .ok (.ifCond .eq 17, 3) := by decide +kernel
theorem dX4_stoneAt_30 : decode cX4_stoneAt 30 = .ok (.aload_n 0, 1) := by decide +kernel
theorem dX4_stoneAt_31 : decode cX4_stoneAt 31 = .ok (.getfield 21, 3) := by decide +kernel
theorem dX4_stoneAt_34 : decode cX4_stoneAt 34 = .ok (.iload_n 1, 1) := by decide +kernel
theorem dX4_stoneAt_35 : decode cX4_stoneAt 35 = .ok (.bipush 22, 2) := by decide +kernel
theorem dX4_stoneAt_37 : decode cX4_stoneAt 37 = .ok (.imul, 1) := by decide +kernel
theorem dX4_stoneAt_38 : decode cX4_stoneAt 38 = .ok (.iload_n 2, 1) := by decide +kernel
theorem dX4_stoneAt_39 : decode cX4_stoneAt 39 = .ok (.iadd, 1) := by decide +kernel
theorem dX4_stoneAt_40 : decode cX4_stoneAt 40 = .ok (.iaload, 1) := by decide +kernel
theorem dX4_stoneAt_41 : decode cX4_stoneAt 41 = .ok (.goto 4, 3) := by decide +kernel
theorem dX4_stoneAt_44 : decode cX4_stoneAt 44 = .ok (.iconst 0, 1) := by decide +kernel
theorem dX4_stoneAt_45 : decode cX4_stoneAt 45 = .ok (.ireturn, 1) := by decide +kernel
theorem dX4_layAt_0 : decode cX4_layAt 0 = .ok (.iload_n 1, 1) := by decide +kernel
theorem dX4_layAt_1 : decode cX4_layAt 1 = .ok (.ifCond .lt 31, 3) := by decide +kernel
theorem dX4_layAt_4 : decode cX4_layAt 4 = .ok (.iload_n 1, 1) := by decide +kernel
theorem dX4_layAt_5 : decode cX4_layAt 5 = .ok (.bipush 13, 2) := by decide +kernel
theorem dX4_layAt_7 : decode cX4_layAt 7 = .ok (.if_icmp .ge 25, 3) := by decide +kernel
theorem dX4_layAt_10 : decode cX4_layAt 10 = .ok (.iload_n 2, 1) := by decide +kernel
theorem dX4_layAt_11 : decode cX4_layAt 11 = .ok (.ifCond .lt 21, 3) := by decide +kernel
theorem dX4_layAt_14 : decode cX4_layAt 14 = .ok (.iload_n 2, 1) := by decide +kernel
theorem dX4_layAt_15 : decode cX4_layAt 15 = .ok (.bipush 22, 2) := by decide +kernel
theorem dX4_layAt_17 : decode cX4_layAt 17 = .ok (.if_icmp .ge 15, 3) := by decide +kernel
theorem dX4_layAt_20 : decode cX4_layAt 20 = .ok (.aload_n 0, 1) := by decide +kernel
theorem dX4_layAt_21 : decode cX4_layAt 21 = .ok (.getfield 21, 3) := by decide +kernel
theorem dX4_layAt_24 : decode cX4_layAt 24 = .ok (.iload_n 1, 1) := by decide +kernel
theorem dX4_layAt_25 : decode cX4_layAt 25 = .ok (.bipush 22, 2) := by decide +kernel
theorem dX4_layAt_27 : decode cX4_layAt 27 = .ok (.imul, 1) := by decide +kernel
theorem dX4_layAt_28 : decode cX4_layAt 28 = .ok (.iload_n 2, 1) := by decide +kernel
theorem dX4_layAt_29 : decode cX4_layAt 29 = .ok (.iadd, 1) := by decide +kernel
theorem dX4_layAt_30 : decode cX4_layAt 30 = .ok (.iload_n 3, 1) := by decide +kernel
theorem dX4_layAt_31 : decode cX4_layAt 31 = .ok (.iastore, 1) := by decide +kernel
theorem dX4_layAt_32 : decode cX4_layAt 32 = .ok (.return_, 1) := by decide +kernel
set_option maxRecDepth 20000 in
theorem ggX4_putIn_X4_stonesIn : GoodIn wsX4_putIn wsX4_stonesIn := goodIn_r _ [6, 1, 19, 20, 21, 22, 23, 24, 25, 26, 27, 28] (by decide +kernel) (by decide +kernel)
set_option maxRecDepth 20000 in
theorem gX4_putIn_X4_stonesIn : GoodIn wsX4_putIn (wsV RX4 71 RX4 yX4_stonesIn wsX4_stonesIn) := goodIn_app (goodIn_of _ (by decide +kernel)) ggX4_putIn_X4_stonesIn
set_option maxRecDepth 20000 in
theorem ggX4_putIn_X4_stoneAt : GoodIn wsX4_putIn wsX4_stoneAt := goodIn_r _ [10, 11, 19, 20, 21, 22, 23, 24, 25, 26, 27, 28] (by decide +kernel) (by decide +kernel)
set_option maxRecDepth 20000 in
theorem gX4_putIn_X4_stoneAt : GoodIn wsX4_putIn (wsV RX4 74 RX4 yX4_stoneAt wsX4_stoneAt) := goodIn_app (goodIn_of _ (by decide +kernel)) ggX4_putIn_X4_stoneAt
set_option maxRecDepth 20000 in
theorem ggX4_putIn_X4_layAt : GoodIn wsX4_putIn wsX4_layAt := goodIn_r _ [15, 11, 19, 20, 21, 22, 23, 24, 25, 26, 27, 28] (by decide +kernel) (by decide +kernel)
set_option maxRecDepth 20000 in
theorem gX4_putIn_X4_layAt : GoodIn wsX4_putIn (wsV RX4 77 RX4 yX4_layAt wsX4_layAt) := goodIn_app (goodIn_of _ (by decide +kernel)) ggX4_putIn_X4_layAt
set_option maxRecDepth 20000 in
theorem ggX4_putIn_X4_addTo : GoodIn wsX4_putIn wsX4_addTo := goodIn_r _ [18] (by decide +kernel) (by decide +kernel)
set_option maxRecDepth 20000 in
theorem gX4_putIn_X4_addTo : GoodIn wsX4_putIn (va_wsS RX4 81 yX4_addTo wsX4_addTo) := goodIn_app (goodIn_of _ (by decide +kernel)) ggX4_putIn_X4_addTo
theorem dX4_putIn_0 : decode cX4_putIn 0 = .ok (.aload_n 0, 1) := by decide +kernel
theorem dX4_putIn_1 : decode cX4_putIn 1 = .ok (.iload_n 1, 1) := by decide +kernel
theorem dX4_putIn_2 : decode cX4_putIn 2 = .ok (.invokevirtual 71, 3) := by decide +kernel
theorem dX4_putIn_5 : decode cX4_putIn 5 = .ok (.istore 4, 2) := by decide +kernel
theorem dX4_putIn_7 : decode cX4_putIn 7 = .ok (.iload 4, 2) := by decide +kernel
theorem dX4_putIn_9 : decode cX4_putIn 9 = .ok (.bipush 22, 2) := by decide +kernel
theorem dX4_putIn_11 : decode cX4_putIn 11 = .ok (.if_icmp .lt 4, 3) := by decide +kernel
theorem dX4_putIn_14 : decode cX4_putIn 14 = .ok (.return_, 1) := by decide +kernel
theorem dX4_putIn_15 : decode cX4_putIn 15 = .ok (.iload 4, 2) := by decide +kernel
theorem dX4_putIn_17 : decode cX4_putIn 17 = .ok (.istore 5, 2) := by decide +kernel
theorem dX4_putIn_19 : decode cX4_putIn 19 = .ok (.iload 5, 2) := by decide +kernel
theorem dX4_putIn_21 : decode cX4_putIn 21 = .ok (.iload_n 2, 1) := by decide +kernel
theorem dX4_putIn_22 : decode cX4_putIn 22 = .ok (.if_icmp .le 25, 3) := by decide +kernel
theorem dX4_putIn_25 : decode cX4_putIn 25 = .ok (.aload_n 0, 1) := by decide +kernel
theorem dX4_putIn_26 : decode cX4_putIn 26 = .ok (.iload_n 1, 1) := by decide +kernel
theorem dX4_putIn_27 : decode cX4_putIn 27 = .ok (.iload 5, 2) := by decide +kernel
theorem dX4_putIn_29 : decode cX4_putIn 29 = .ok (.aload_n 0, 1) := by decide +kernel
theorem dX4_putIn_30 : decode cX4_putIn 30 = .ok (.iload_n 1, 1) := by decide +kernel
theorem dX4_putIn_31 : decode cX4_putIn 31 = .ok (.iload 5, 2) := by decide +kernel
theorem dX4_putIn_33 : decode cX4_putIn 33 = .ok (.iconst 1, 1) := by decide +kernel
theorem dX4_putIn_34 : decode cX4_putIn 34 = .ok (.isub, 1) := by decide +kernel
theorem dX4_putIn_35 : decode cX4_putIn 35 = .ok (.invokevirtual 74, 3) := by decide +kernel
theorem dX4_putIn_38 : decode cX4_putIn 38 = .ok (.invokevirtual 77, 3) := by decide +kernel
theorem dX4_putIn_41 : decode cX4_putIn 41 = .ok (.iinc 5 (-1), 3) := by decide +kernel
theorem dX4_putIn_44 : decode cX4_putIn 44 = .ok (.goto (-25), 3) := by decide +kernel
theorem dX4_putIn_47 : decode cX4_putIn 47 = .ok (.aload_n 0, 1) := by decide +kernel
theorem dX4_putIn_48 : decode cX4_putIn 48 = .ok (.iload_n 1, 1) := by decide +kernel
theorem dX4_putIn_49 : decode cX4_putIn 49 = .ok (.iload_n 2, 1) := by decide +kernel
theorem dX4_putIn_50 : decode cX4_putIn 50 = .ok (.iload_n 3, 1) := by decide +kernel
theorem dX4_putIn_51 : decode cX4_putIn 51 = .ok (.invokevirtual 77, 3) := by decide +kernel
theorem dX4_putIn_54 : decode cX4_putIn 54 = .ok (.aload_n 0, 1) := by decide +kernel
theorem dX4_putIn_55 : decode cX4_putIn 55 = .ok (.getfield 18, 3) := by decide +kernel
theorem dX4_putIn_58 : decode cX4_putIn 58 = .ok (.iload_n 1, 1) := by decide +kernel
theorem dX4_putIn_59 : decode cX4_putIn 59 = .ok (.iconst 1, 1) := by decide +kernel
theorem dX4_putIn_60 : decode cX4_putIn 60 = .ok (.invokestatic 81, 3) := by decide +kernel
theorem dX4_putIn_63 : decode cX4_putIn 63 = .ok (.return_, 1) := by decide +kernel
set_option maxRecDepth 20000 in
theorem ggX4_takeOut_X4_stonesIn : GoodIn wsX4_takeOut wsX4_stonesIn := goodIn_r _ [6, 1, 19, 20, 21, 22, 23, 24, 25, 26, 27, 28] (by decide +kernel) (by decide +kernel)
set_option maxRecDepth 20000 in
theorem gX4_takeOut_X4_stonesIn : GoodIn wsX4_takeOut (wsV RX4 71 RX4 yX4_stonesIn wsX4_stonesIn) := goodIn_app (goodIn_of _ (by decide +kernel)) ggX4_takeOut_X4_stonesIn
set_option maxRecDepth 20000 in
theorem ggX4_takeOut_X4_stoneAt : GoodIn wsX4_takeOut wsX4_stoneAt := goodIn_r _ [10, 11, 19, 20, 21, 22, 23, 24, 25, 26, 27, 28] (by decide +kernel) (by decide +kernel)
set_option maxRecDepth 20000 in
theorem gX4_takeOut_X4_stoneAt : GoodIn wsX4_takeOut (wsV RX4 74 RX4 yX4_stoneAt wsX4_stoneAt) := goodIn_app (goodIn_of _ (by decide +kernel)) ggX4_takeOut_X4_stoneAt
set_option maxRecDepth 20000 in
theorem ggX4_takeOut_X4_layAt : GoodIn wsX4_takeOut wsX4_layAt := goodIn_r _ [15, 11, 19, 20, 21, 22, 23, 24, 25, 26, 27, 28] (by decide +kernel) (by decide +kernel)
set_option maxRecDepth 20000 in
theorem gX4_takeOut_X4_layAt : GoodIn wsX4_takeOut (wsV RX4 77 RX4 yX4_layAt wsX4_layAt) := goodIn_app (goodIn_of _ (by decide +kernel)) ggX4_takeOut_X4_layAt
set_option maxRecDepth 20000 in
theorem ggX4_takeOut_X4_addTo : GoodIn wsX4_takeOut wsX4_addTo := goodIn_r _ [18] (by decide +kernel) (by decide +kernel)
set_option maxRecDepth 20000 in
theorem gX4_takeOut_X4_addTo : GoodIn wsX4_takeOut (va_wsS RX4 81 yX4_addTo wsX4_addTo) := goodIn_app (goodIn_of _ (by decide +kernel)) ggX4_takeOut_X4_addTo
theorem dX4_takeOut_0 : decode cX4_takeOut 0 = .ok (.aload_n 0, 1) := by decide +kernel
theorem dX4_takeOut_1 : decode cX4_takeOut 1 = .ok (.iload_n 1, 1) := by decide +kernel
theorem dX4_takeOut_2 : decode cX4_takeOut 2 = .ok (.invokevirtual 71, 3) := by decide +kernel
theorem dX4_takeOut_5 : decode cX4_takeOut 5 = .ok (.istore_n 3, 1) := by decide +kernel
theorem dX4_takeOut_6 : decode cX4_takeOut 6 = .ok (.iload_n 2, 1) := by decide +kernel
theorem dX4_takeOut_7 : decode cX4_takeOut 7 = .ok (.iconst 1, 1) := by decide +kernel
theorem dX4_takeOut_8 : decode cX4_takeOut 8 = .ok (.iadd, 1) := by decide +kernel
theorem dX4_takeOut_9 : decode cX4_takeOut 9 = .ok (.istore 4, 2) := by decide +kernel
theorem dX4_takeOut_11 : decode cX4_takeOut 11 = .ok (.iload 4, 2) := by decide +kernel
theorem dX4_takeOut_13 : decode cX4_takeOut 13 = .ok (.iload_n 3, 1) := by decide +kernel
theorem dX4_takeOut_14 : decode cX4_takeOut 14 = .ok (.if_icmp .ge 25, 3) := by decide +kernel
theorem dX4_takeOut_17 : decode cX4_takeOut 17 = .ok (.aload_n 0, 1) := by decide +kernel
theorem dX4_takeOut_18 : decode cX4_takeOut 18 = .ok (.iload_n 1, 1) := by decide +kernel
theorem dX4_takeOut_19 : decode cX4_takeOut 19 = .ok (.iload 4, 2) := by decide +kernel
theorem dX4_takeOut_21 : decode cX4_takeOut 21 = .ok (.iconst 1, 1) := by decide +kernel
theorem dX4_takeOut_22 : decode cX4_takeOut 22 = .ok (.isub, 1) := by decide +kernel
theorem dX4_takeOut_23 : decode cX4_takeOut 23 = .ok (.aload_n 0, 1) := by decide +kernel
theorem dX4_takeOut_24 : decode cX4_takeOut 24 = .ok (.iload_n 1, 1) := by decide +kernel
theorem dX4_takeOut_25 : decode cX4_takeOut 25 = .ok (.iload 4, 2) := by decide +kernel
theorem dX4_takeOut_27 : decode cX4_takeOut 27 = .ok (.invokevirtual 74, 3) := by decide +kernel
theorem dX4_takeOut_30 : decode cX4_takeOut 30 = .ok (.invokevirtual 77, 3) := by decide +kernel
theorem dX4_takeOut_33 : decode cX4_takeOut 33 = .ok (.iinc 4 1, 3) := by decide +kernel
theorem dX4_takeOut_36 : decode cX4_takeOut 36 = .ok (.goto (-25), 3) := by decide +kernel
theorem dX4_takeOut_39 : decode cX4_takeOut 39 = .ok (.aload_n 0, 1) := by decide +kernel
theorem dX4_takeOut_40 : decode cX4_takeOut 40 = .ok (.getfield 18, 3) := by decide +kernel
theorem dX4_takeOut_43 : decode cX4_takeOut 43 = .ok (.iload_n 1, 1) := by decide +kernel
theorem dX4_takeOut_44 : decode cX4_takeOut 44 = .ok (.iconst (-1), 1) := by decide +kernel
theorem dX4_takeOut_45 : decode cX4_takeOut 45 = .ok (.invokestatic 81, 3) := by decide +kernel
theorem dX4_takeOut_48 : decode cX4_takeOut 48 = .ok (.return_, 1) := by decide +kernel
set_option maxRecDepth 20000 in
theorem ggX4_drop_X4_come : GoodIn wsX4_drop wsX4_come := goodIn_r _ [6, 7, 8, 9, 5, 10, 11, 12, 13, 14, 15, 16, 17, 18, 19, 20, 21, 22, 23, 24, 25, 26, 27, 28, 29, 30, 31, 32, 33, 34, 35, 36, 37, 38, 39, 40, 41, 42, 43, 44, 45, 46, 47, 48, 49, 50, 51, 52, 53, 54, 55, 56, 57, 58, 59, 60, 61, 62, 63, 64, 65, 66, 67, 68, 69, 70, 71, 72, 73, 74, 75, 76, 77, 78, 79, 80, 81, 82, 83, 84, 85, 86, 87, 88, 89, 90, 91, 92, 93, 94, 95, 96, 97, 98, 99, 100, 101, 102, 103, 104, 105, 106, 107, 108, 109, 110, 111, 112, 113, 114, 115, 116, 117, 118, 119, 120, 121, 122, 123, 124, 125, 126, 127, 128, 129, 130, 131, 132, 133, 134, 2, 3, 4, 135, 136, 137, 138, 139, 140, 141, 142, 143, 144] (by decide +kernel) (by decide +kernel)
set_option maxRecDepth 20000 in
theorem gX4_drop_X4_come : GoodIn wsX4_drop (wsV RX4 85 RX4 yX4_come wsX4_come) := goodIn_app (goodIn_of _ (by decide +kernel)) ggX4_drop_X4_come
theorem dX4_drop_0 : decode cX4_drop 0 = .ok (.aload_n 0, 1) := by decide +kernel
theorem dX4_drop_1 : decode cX4_drop 1 = .ok (.dup, 1) := by decide +kernel
theorem dX4_drop_2 : decode cX4_drop 2 = .ok (.getfield 37, 3) := by decide +kernel
theorem dX4_drop_5 : decode cX4_drop 5 = .ok (.iconst 1, 1) := by decide +kernel
theorem dX4_drop_6 : decode cX4_drop 6 = .ok (.iadd, 1) := by decide +kernel
theorem dX4_drop_7 : decode cX4_drop 7 = .ok (.putfield 37, 3) := by decide +kernel
theorem dX4_drop_10 : decode cX4_drop 10 = .ok (.aload_n 0, 1) := by decide +kernel
theorem dX4_drop_11 : decode cX4_drop 11 = .ok (.iconst 0, 1) := by decide +kernel
theorem dX4_drop_12 : decode cX4_drop 12 = .ok (.iload_n 1, 1) := by decide +kernel
theorem dX4_drop_13 : decode cX4_drop 13 = .ok (.iconst 0, 1) := by decide +kernel
theorem dX4_drop_14 : decode cX4_drop 14 = .ok (.invokevirtual 85, 3) := by decide +kernel
theorem dX4_drop_17 : decode cX4_drop 17 = .ok (.return_, 1) := by decide +kernel
set_option maxRecDepth 20000 in
theorem ggX4_emptyBuffer_X2_level : GoodIn wsX4_emptyBuffer wsX2_level := goodIn_r _ [4] (by decide +kernel) (by decide +kernel)
set_option maxRecDepth 20000 in
theorem gX4_emptyBuffer_X2_level : GoodIn wsX4_emptyBuffer (va_wsS RX4 88 yX2_level wsX2_level) := goodIn_app (goodIn_of _ (by decide +kernel)) ggX4_emptyBuffer_X2_level
set_option maxRecDepth 20000 in
theorem ggX4_emptyBuffer_X4_sinkInto : GoodIn wsX4_emptyBuffer wsX4_sinkInto := goodIn_r _ [9, 10, 11, 12, 13, 3, 14, 15, 16, 17, 18, 19, 20, 21, 22, 23, 24, 25, 26, 27, 28, 29, 8, 30, 31, 32, 33, 34, 35, 36, 37, 38, 39, 40, 41, 42, 43, 44, 45, 46, 47, 48, 49, 50, 51, 52, 53, 54, 55, 56, 57, 58, 59, 60, 61, 62, 63, 64, 65, 66, 67, 68, 69, 70, 71, 72, 73, 74, 75, 76, 77, 78, 79, 80, 81, 82, 83, 84, 85, 86, 87, 88, 89, 90, 91, 92, 93, 94, 95, 96, 97, 98, 99, 100, 101, 102, 103, 104, 105, 106, 107, 108, 109, 110, 111, 112, 113, 114, 115, 116, 117, 118, 119, 120, 121, 122, 123, 124, 125, 126, 127, 128, 129, 130, 131, 132, 133, 134, 135, 136, 5, 6, 7, 137, 138, 139, 140, 141, 142, 143, 144, 145, 146] (by decide +kernel) (by decide +kernel)
set_option maxRecDepth 20000 in
theorem gX4_emptyBuffer_X4_sinkInto : GoodIn wsX4_emptyBuffer (wsV RX4 93 RX4 yX4_sinkInto wsX4_sinkInto) := goodIn_app (goodIn_of _ (by decide +kernel)) ggX4_emptyBuffer_X4_sinkInto
theorem dX4_emptyBuffer_0 : decode cX4_emptyBuffer 0 = .ok (.iconst 0, 1) := by decide +kernel
theorem dX4_emptyBuffer_1 : decode cX4_emptyBuffer 1 = .ok (.istore_n 2, 1) := by decide +kernel
theorem dX4_emptyBuffer_2 : decode cX4_emptyBuffer 2 = .ok (.iload_n 2, 1) := by decide +kernel
theorem dX4_emptyBuffer_3 : decode cX4_emptyBuffer 3 = .ok (.iconst 3, 1) := by decide +kernel
theorem dX4_emptyBuffer_4 : decode cX4_emptyBuffer 4 = .ok (.if_icmp .ge 19, 3) := by decide +kernel
theorem dX4_emptyBuffer_7 : decode cX4_emptyBuffer 7 = .ok (.aload_n 0, 1) := by decide +kernel
theorem dX4_emptyBuffer_8 : decode cX4_emptyBuffer 8 = .ok (.iload_n 1, 1) := by decide +kernel
theorem dX4_emptyBuffer_9 : decode cX4_emptyBuffer 9 = .ok (.iload_n 2, 1) := by decide +kernel
theorem dX4_emptyBuffer_10 : decode cX4_emptyBuffer 10 = .ok (.iload_n 1, 1) := by decide +kernel
theorem dX4_emptyBuffer_11 : decode cX4_emptyBuffer 11 = .ok (.invokestatic 88, 3) := by decide +kernel
theorem dX4_emptyBuffer_14 : decode cX4_emptyBuffer 14 = .ok (.invokevirtual 93, 3) := by decide +kernel
theorem dX4_emptyBuffer_17 : decode cX4_emptyBuffer 17 = .ok (.iinc 2 1, 3) := by decide +kernel
theorem dX4_emptyBuffer_20 : decode cX4_emptyBuffer 20 = .ok (.goto (-18), 3) := by decide +kernel
theorem dX4_emptyBuffer_23 : decode cX4_emptyBuffer 23 = .ok (.return_, 1) := by decide +kernel
set_option maxRecDepth 20000 in
theorem ggX4_come_X4_stonesIn : GoodIn wsX4_come wsX4_stonesIn := goodIn_r _ [5, 6, 133, 134, 135, 136, 137, 138, 139, 140, 141, 142] (by decide +kernel) (by decide +kernel)
set_option maxRecDepth 20000 in
theorem gX4_come_X4_stonesIn : GoodIn wsX4_come (wsV RX4 71 RX4 yX4_stonesIn wsX4_stonesIn) := goodIn_app (goodIn_of _ (by decide +kernel)) ggX4_come_X4_stonesIn
set_option maxRecDepth 20000 in
theorem ggX4_come_X4_putIn : GoodIn wsX4_come wsX4_putIn := goodIn_r _ [10, 6, 1, 2, 3, 4, 5, 11, 12, 13, 14, 15, 16, 17, 18, 19, 20, 21, 22, 133, 134, 135, 136, 137, 138, 139, 140, 141, 142] (by decide +kernel) (by decide +kernel)
set_option maxRecDepth 20000 in
theorem gX4_come_X4_putIn : GoodIn wsX4_come (wsV RX4 96 RX4 yX4_putIn wsX4_putIn) := goodIn_app (goodIn_of _ (by decide +kernel)) ggX4_come_X4_putIn
set_option maxRecDepth 20000 in
theorem ggX4_come_X4_setting : GoodIn wsX4_come wsX4_setting := goodIn_r _ [26, 27, 133, 134, 135, 136, 137, 138, 139, 140, 141, 142] (by decide +kernel) (by decide +kernel)
set_option maxRecDepth 20000 in
theorem gX4_come_X4_setting : GoodIn wsX4_come (wsV RX4 59 RX4 yX4_setting wsX4_setting) := goodIn_app (goodIn_of _ (by decide +kernel)) ggX4_come_X4_setting
set_option maxRecDepth 20000 in
theorem ggX4_come_X4_joinLast : GoodIn wsX4_come wsX4_joinLast := goodIn_r _ [31, 32, 1, 2, 3, 4, 5, 6, 11, 12, 13, 14, 15, 33, 34, 35, 36, 37, 38, 39, 40, 41, 42, 43, 44, 45, 46, 47, 48, 49, 50, 51, 52, 53, 54, 55, 56, 57, 58, 59, 60, 61, 62, 63, 16, 17, 18, 19, 64, 65, 66, 67, 20, 21, 22, 133, 134, 135, 136, 137, 138, 139, 140, 141, 142] (by decide +kernel) (by decide +kernel)
set_option maxRecDepth 20000 in
theorem gX4_come_X4_joinLast : GoodIn wsX4_come (wsV RX4 99 RX4 yX4_joinLast wsX4_joinLast) := goodIn_app (goodIn_of _ (by decide +kernel)) ggX4_come_X4_joinLast
set_option maxRecDepth 20000 in
theorem ggX4_come_X4_heaviestChild : GoodIn wsX4_come wsX4_heaviestChild := goodIn_r _ [71, 72, 73, 74, 75, 76, 77, 78, 79, 80, 81, 82, 83, 84, 85, 86, 87, 88, 89, 90, 4, 91, 1, 2, 3, 5, 6, 11, 12, 13, 14, 15, 48, 49, 35, 50, 37, 38, 39, 40, 41, 42, 133, 134, 135, 136, 137, 138, 139, 140, 141, 142] (by decide +kernel) (by decide +kernel)
set_option maxRecDepth 20000 in
theorem gX4_come_X4_heaviestChild : GoodIn wsX4_come (wsV RX4 103 RX4 yX4_heaviestChild wsX4_heaviestChild) := goodIn_app (goodIn_of _ (by decide +kernel)) ggX4_come_X4_heaviestChild
set_option maxRecDepth 20000 in
theorem ggX4_come_X4_sinkInto : GoodIn wsX4_come wsX4_sinkInto := goodIn_r _ [95, 96, 97, 72, 73, 74, 75, 76, 77, 78, 79, 80, 81, 82, 83, 84, 85, 86, 87, 1, 2, 3, 4, 5, 6, 11, 12, 13, 14, 15, 48, 49, 35, 50, 37, 38, 39, 40, 41, 42, 98, 99, 100, 101, 64, 65, 66, 67, 16, 17, 18, 19, 20, 21, 22, 43, 102, 103, 104, 105, 106, 107, 108, 109, 110, 111, 112, 52, 53, 113, 55, 56, 114, 62, 63, 7, 8, 9, 10, 60, 115, 116, 117, 118, 119, 120, 121, 122, 123, 124, 125, 126, 127, 128, 129, 130, 131, 132, 0, 23, 24, 25, 26, 27, 28, 29, 30, 31, 32, 33, 34, 36, 44, 45, 46, 47, 51, 54, 57, 58, 59, 61, 68, 69, 70, 71, 88, 89, 90, 91, 92, 93, 94, 133, 134, 135, 136, 137, 138, 139, 140, 141, 142] (by decide +kernel) (by decide +kernel)
set_option maxRecDepth 20000 in
theorem gX4_come_X4_sinkInto : GoodIn wsX4_come (wsV RX4 93 RX4 yX4_sinkInto wsX4_sinkInto) := goodIn_app (goodIn_of _ (by decide +kernel)) ggX4_come_X4_sinkInto
theorem dX4_come_0 : decode cX4_come 0 = .ok (.iload_n 3, 1) := by decide +kernel
theorem dX4_come_1 : decode cX4_come 1 = .ok (.iconst 3, 1) := by decide +kernel
theorem dX4_come_2 : decode cX4_come 2 = .ok (.if_icmp .lt 4, 3) := by decide +kernel
theorem dX4_come_5 : decode cX4_come 5 = .ok (.return_, 1) := by decide +kernel
theorem dX4_come_6 : decode cX4_come 6 = .ok (.aload_n 0, 1) := by decide +kernel
theorem dX4_come_7 : decode cX4_come 7 = .ok (.iload_n 1, 1) := by decide +kernel
theorem dX4_come_8 : decode cX4_come 8 = .ok (.aload_n 0, 1) := by decide +kernel
theorem dX4_come_9 : decode cX4_come 9 = .ok (.iload_n 1, 1) := by decide +kernel
theorem dX4_come_10 : decode cX4_come 10 = .ok (.invokevirtual 71, 3) := by decide +kernel
theorem dX4_come_13 : decode cX4_come 13 = .ok (.iload_n 2, 1) := by decide +kernel
theorem dX4_come_14 : decode cX4_come 14 = .ok (.invokevirtual 96, 3) := by decide +kernel
theorem dX4_come_17 : decode cX4_come 17 = .ok (.aload_n 0, 1) := by decide +kernel
theorem dX4_come_18 : decode cX4_come 18 = .ok (.iconst 1, 1) := by decide +kernel
theorem dX4_come_19 : decode cX4_come 19 = .ok (.invokevirtual 59, 3) := by decide +kernel
theorem dX4_come_22 : decode cX4_come 22 = .ok (.iconst 1, 1) := by decide +kernel
theorem dX4_come_23 : decode cX4_come 23 = .ok (.if_icmp .ne 8, 3) := by decide +kernel
theorem dX4_come_26 : decode cX4_come 26 = .ok (.aload_n 0, 1) := by decide +kernel
theorem dX4_come_27 : decode cX4_come 27 = .ok (.iload_n 1, 1) := by decide +kernel
theorem dX4_come_28 : decode cX4_come 28 = .ok (.invokevirtual 99, 3) := by decide +kernel
theorem dX4_come_31 : decode cX4_come 31 = .ok (.iconst 0, 1) := by decide +kernel
theorem dX4_come_32 : decode cX4_come 32 = .ok (.istore 4, 2) := by decide +kernel
theorem dX4_come_34 : decode cX4_come 34 = .ok (.iload 4, 2) := by decide +kernel
theorem dX4_come_36 : decode cX4_come 36 = .ok (.iconst 3, 1) := by decide +kernel
theorem dX4_come_37 : decode cX4_come 37 = .ok (.if_icmp .ge 33, 3) := by decide +kernel
theorem dX4_come_40 : decode cX4_come 40 = .ok (.aload_n 0, 1) := by decide +kernel
theorem dX4_come_41 : decode cX4_come 41 = .ok (.iload_n 1, 1) := by decide +kernel
theorem dX4_come_42 : decode cX4_come 42 = .ok (.invokevirtual 71, 3) := by decide +kernel
theorem dX4_come_45 : decode cX4_come 45 = .ok (.aload_n 0, 1) := by decide +kernel
theorem dX4_come_46 : decode cX4_come 46 = .ok (.iconst 0, 1) := by decide +kernel
theorem dX4_come_47 : decode cX4_come 47 = .ok (.invokevirtual 59, 3) := by decide +kernel
theorem dX4_come_50 : decode cX4_come 50 = .ok (.if_icmp .le 20, 3) := by decide +kernel
theorem dX4_come_53 : decode cX4_come 53 = .ok (.aload_n 0, 1) := by decide +kernel
theorem dX4_come_54 : decode cX4_come 54 = .ok (.iload_n 1, 1) := by decide +kernel
theorem dX4_come_55 : decode cX4_come 55 = .ok (.aload_n 0, 1) := by decide +kernel
theorem dX4_come_56 : decode cX4_come 56 = .ok (.iload_n 1, 1) := by decide +kernel
theorem dX4_come_57 : decode cX4_come 57 = .ok (.invokevirtual 103, 3) := by decide +kernel
theorem dX4_come_60 : decode cX4_come 60 = .ok (.iload_n 3, 1) := by decide +kernel
theorem dX4_come_61 : decode cX4_come 61 = .ok (.invokevirtual 93, 3) := by decide +kernel
theorem dX4_come_64 : decode cX4_come 64 = .ok (.iinc 4 1, 3) := by decide +kernel
theorem dX4_come_67 : decode cX4_come 67 = .ok (.goto (-33), 3) := by decide +kernel
theorem dX4_come_70 : decode cX4_come 70 = .ok (.return_, 1) := by decide +kernel
set_option maxRecDepth 20000 in
theorem ggX4_sinkInto_X2_firstKeyOfChild : GoodIn wsX4_sinkInto wsX2_firstKeyOfChild := goodIn_r _ [6, 7, 8, 5, 9, 10, 11, 12, 13, 14] (by decide +kernel) (by decide +kernel)
set_option maxRecDepth 20000 in
theorem gX4_sinkInto_X2_firstKeyOfChild : GoodIn wsX4_sinkInto (va_wsS RX4 106 yX2_firstKeyOfChild wsX2_firstKeyOfChild) := goodIn_app (goodIn_of _ (by decide +kernel)) ggX4_sinkInto_X2_firstKeyOfChild
set_option maxRecDepth 20000 in
theorem ggX4_sinkInto_X2_lastKeyOfChild : GoodIn wsX4_sinkInto wsX2_lastKeyOfChild := goodIn_r _ [17, 18, 4, 5, 6, 7, 8, 9, 10, 11, 12, 13, 14] (by decide +kernel) (by decide +kernel)
set_option maxRecDepth 20000 in
theorem gX4_sinkInto_X2_lastKeyOfChild : GoodIn wsX4_sinkInto (va_wsS RX4 109 yX2_lastKeyOfChild wsX2_lastKeyOfChild) := goodIn_app (goodIn_of _ (by decide +kernel)) ggX4_sinkInto_X2_lastKeyOfChild
set_option maxRecDepth 20000 in
theorem ggX4_sinkInto_X4_stonesIn : GoodIn wsX4_sinkInto wsX4_stonesIn := goodIn_r _ [23, 24, 133, 134, 135, 136, 137, 138, 139, 140, 141, 142] (by decide +kernel) (by decide +kernel)
set_option maxRecDepth 20000 in
theorem gX4_sinkInto_X4_stonesIn : GoodIn wsX4_sinkInto (wsV RX4 71 RX4 yX4_stonesIn wsX4_stonesIn) := goodIn_app (goodIn_of _ (by decide +kernel)) ggX4_sinkInto_X4_stonesIn
set_option maxRecDepth 20000 in
theorem ggX4_sinkInto_X4_stoneAt : GoodIn wsX4_sinkInto wsX4_stoneAt := goodIn_r _ [28, 29, 133, 134, 135, 136, 137, 138, 139, 140, 141, 142] (by decide +kernel) (by decide +kernel)
set_option maxRecDepth 20000 in
theorem gX4_sinkInto_X4_stoneAt : GoodIn wsX4_sinkInto (wsV RX4 74 RX4 yX4_stoneAt wsX4_stoneAt) := goodIn_app (goodIn_of _ (by decide +kernel)) ggX4_sinkInto_X4_stoneAt
set_option maxRecDepth 20000 in
theorem ggX4_sinkInto_X3_touches : GoodIn wsX4_sinkInto wsX3_touches := goodIn_r _ [33, 34, 35, 32, 36, 37, 38, 39] (by decide +kernel) (by decide +kernel)
set_option maxRecDepth 20000 in
theorem gX4_sinkInto_X3_touches : GoodIn wsX4_sinkInto (va_wsS RX4 112 yX3_touches wsX3_touches) := goodIn_app (goodIn_of _ (by decide +kernel)) ggX4_sinkInto_X3_touches
set_option maxRecDepth 20000 in
theorem ggX4_sinkInto_X4_leaveRest : GoodIn wsX4_sinkInto wsX4_leaveRest := goodIn_r _ [43, 25, 26, 27, 22, 28, 29, 44, 45, 46, 47, 24, 19, 20, 21, 23, 48, 49, 50, 51, 52, 53, 54, 55, 35, 32, 36, 56, 57, 58, 59, 60, 61, 62, 63, 64, 65, 66, 67, 68, 34, 37, 38, 39, 69, 70, 71, 72, 73, 74, 75, 76, 77, 78, 79, 133, 134, 135, 136, 137, 138, 139, 140, 141, 142] (by decide +kernel) (by decide +kernel)
set_option maxRecDepth 20000 in
theorem gX4_sinkInto_X4_leaveRest : GoodIn wsX4_sinkInto (wsV RX4 118 RX4 yX4_leaveRest wsX4_leaveRest) := goodIn_app (goodIn_of _ (by decide +kernel)) ggX4_sinkInto_X4_leaveRest
set_option maxRecDepth 20000 in
theorem ggX4_sinkInto_X3_part : GoodIn wsX4_sinkInto wsX3_part := goodIn_r _ [58, 59, 60, 61, 62, 63, 64, 65, 66, 67, 32, 68, 34, 35, 36, 37, 38, 39, 69, 70, 71, 72, 73, 74] (by decide +kernel) (by decide +kernel)
set_option maxRecDepth 20000 in
theorem gX4_sinkInto_X3_part : GoodIn wsX4_sinkInto (va_wsS RX4 122 yX3_part wsX3_part) := goodIn_app (goodIn_of _ (by decide +kernel)) ggX4_sinkInto_X3_part
set_option maxRecDepth 20000 in
theorem ggX4_sinkInto_X2_isLow : GoodIn wsX4_sinkInto wsX2_isLow := goodIn_r _ [82] (by decide +kernel) (by decide +kernel)
set_option maxRecDepth 20000 in
theorem gX4_sinkInto_X2_isLow : GoodIn wsX4_sinkInto (va_wsS RX4 126 yX2_isLow wsX2_isLow) := goodIn_app (goodIn_of _ (by decide +kernel)) ggX4_sinkInto_X2_isLow
set_option maxRecDepth 20000 in
theorem ggX4_sinkInto_X4_applyToLeaf : GoodIn wsX4_sinkInto wsX4_applyToLeaf := goodIn_r _ [86, 87, 88, 89, 90, 32, 91, 66, 67, 68, 69, 70, 71, 133, 134, 135, 136, 137, 138, 139, 140, 141, 142] (by decide +kernel) (by decide +kernel)
set_option maxRecDepth 20000 in
theorem gX4_sinkInto_X4_applyToLeaf : GoodIn wsX4_sinkInto (wsV RX4 130 RX4 yX4_applyToLeaf wsX4_applyToLeaf) := goodIn_app (goodIn_of _ (by decide +kernel)) ggX4_sinkInto_X4_applyToLeaf
set_option maxRecDepth 20000 in
theorem ggX4_sinkInto_X2_childNode : GoodIn wsX4_sinkInto wsX2_childNode := goodIn_r _ [94] (by decide +kernel) (by decide +kernel)
set_option maxRecDepth 20000 in
theorem gX4_sinkInto_X2_childNode : GoodIn wsX4_sinkInto (va_wsS RX4 134 yX2_childNode wsX2_childNode) := goodIn_app (goodIn_of _ (by decide +kernel)) ggX4_sinkInto_X2_childNode
set_option maxRecDepth 20000 in
theorem ggX4_sinkInto_X4_come : GoodIn wsX4_sinkInto wsX4_come := goodIn_r _ [98, 19, 20, 21, 22, 23, 24, 75, 76, 77, 78, 25, 26, 27, 28, 29, 48, 49, 50, 51, 52, 53, 54, 99, 100, 101, 102, 103, 104, 105, 106, 107, 108, 109, 110, 32, 111, 34, 35, 36, 37, 38, 39, 55, 112, 113, 114, 115, 30, 31, 33, 116, 67, 68, 117, 70, 71, 118, 119, 120, 79, 121, 73, 74, 44, 45, 46, 47, 122, 123, 124, 125, 3, 4, 5, 6, 7, 8, 9, 10, 11, 12, 13, 14, 15, 16, 17, 18, 126, 127, 128, 129, 130, 131, 132, 0, 1, 2, 40, 41, 42, 43, 56, 57, 58, 59, 60, 61, 62, 63, 64, 65, 66, 69, 72, 80, 81, 82, 83, 84, 85, 86, 87, 88, 89, 90, 91, 92, 93, 94, 95, 96, 97, 133, 134, 135, 136, 137, 138, 139, 140, 141, 142] (by decide +kernel) (by decide +kernel)
set_option maxRecDepth 20000 in
theorem gX4_sinkInto_X4_come : GoodIn wsX4_sinkInto (wsV RX4 85 RX4 yX4_come wsX4_come) := goodIn_app (goodIn_of _ (by decide +kernel)) ggX4_sinkInto_X4_come
set_option maxRecDepth 20000 in
theorem ggX4_sinkInto_X4_addTo : GoodIn wsX4_sinkInto wsX4_addTo := goodIn_r _ [54] (by decide +kernel) (by decide +kernel)
set_option maxRecDepth 20000 in
theorem gX4_sinkInto_X4_addTo : GoodIn wsX4_sinkInto (va_wsS RX4 81 yX4_addTo wsX4_addTo) := goodIn_app (goodIn_of _ (by decide +kernel)) ggX4_sinkInto_X4_addTo
theorem dX4_sinkInto_0 : decode cX4_sinkInto 0 = .ok (.iload_n 2, 1) := by decide +kernel
theorem dX4_sinkInto_1 : decode cX4_sinkInto 1 = .ok (.ifCond .lt 8, 3) := by decide +kernel
theorem dX4_sinkInto_4 : decode cX4_sinkInto 4 = .ok (.iload_n 2, 1) := by decide +kernel
theorem dX4_sinkInto_5 : decode cX4_sinkInto 5 = .ok (.iconst 3, 1) := by decide +kernel
theorem dX4_sinkInto_6 : decode cX4_sinkInto 6 = .ok (.if_icmp .lt 4, 3) := by decide +kernel
theorem dX4_sinkInto_9 : decode cX4_sinkInto 9 = .ok (.return_, 1) := by decide +kernel
theorem dX4_sinkInto_10 : decode cX4_sinkInto 10 = .ok (.iload_n 1, 1) := by decide +kernel
theorem dX4_sinkInto_11 : decode cX4_sinkInto 11 = .ok (.iload_n 2, 1) := by decide +kernel
theorem dX4_sinkInto_12 : decode cX4_sinkInto 12 = .ok (.invokestatic 106, 3) := by decide +kernel
theorem dX4_sinkInto_15 : decode cX4_sinkInto 15 = .ok (.istore 4, 2) := by decide +kernel
theorem dX4_sinkInto_17 : decode cX4_sinkInto 17 = .ok (.iload_n 1, 1) := by decide +kernel
theorem dX4_sinkInto_18 : decode cX4_sinkInto 18 = .ok (.iload_n 2, 1) := by decide +kernel
theorem dX4_sinkInto_19 : decode cX4_sinkInto 19 = .ok (.invokestatic 109, 3) := by decide +kernel
theorem dX4_sinkInto_22 : decode cX4_sinkInto 22 = .ok (.istore 5, 2) := by decide +kernel
theorem dX4_sinkInto_24 : decode cX4_sinkInto 24 = .ok (.aload_n 0, 1) := by decide +kernel
theorem dX4_sinkInto_25 : decode cX4_sinkInto 25 = .ok (.iload_n 1, 1) := by decide +kernel
theorem dX4_sinkInto_26 : decode cX4_sinkInto 26 = .ok (.invokevirtual 71, 3) := by decide +kernel
theorem dX4_sinkInto_29 : decode cX4_sinkInto 29 = .ok (.istore 6, 2) := by decide +kernel
theorem dX4_sinkInto_31 : decode cX4_sinkInto 31 = .ok (.iconst 0, 1) := by decide +kernel
theorem dX4_sinkInto_32 : decode cX4_sinkInto 32 = .ok (.istore 7, 2) := by decide +kernel
theorem dX4_sinkInto_34 : decode cX4_sinkInto 34 = .ok (.iconst 0, 1) := by decide +kernel
theorem dX4_sinkInto_35 : decode cX4_sinkInto 35 = .ok (.istore 8, 2) := by decide +kernel
theorem dX4_sinkInto_37 : decode cX4_sinkInto 37 = .ok (.iconst 0, 1) := by decide +kernel
theorem dX4_sinkInto_38 : decode cX4_sinkInto 38 = .ok (.istore 9, 2) := by decide +kernel
theorem dX4_sinkInto_40 : decode cX4_sinkInto 40 = .ok (.iload 9, 2) := by decide +kernel
theorem dX4_sinkInto_42 : decode cX4_sinkInto 42 = .ok (.iload 6, 2) := by decide +kernel
theorem dX4_sinkInto_44 : decode cX4_sinkInto 44 = .ok (.if_icmp .ge 98, 3) := by decide +kernel
theorem dX4_sinkInto_47 : decode cX4_sinkInto 47 = .ok (.aload_n 0, 1) := by decide +kernel
theorem dX4_sinkInto_48 : decode cX4_sinkInto 48 = .ok (.iload_n 1, 1) := by decide +kernel
theorem dX4_sinkInto_49 : decode cX4_sinkInto 49 = .ok (.iload 7, 2) := by decide +kernel
theorem dX4_sinkInto_51 : decode cX4_sinkInto 51 = .ok (.invokevirtual 74, 3) := by decide +kernel
theorem dX4_sinkInto_54 : decode cX4_sinkInto 54 = .ok (.istore 10, 2) := by decide +kernel
theorem dX4_sinkInto_56 : decode cX4_sinkInto 56 = .ok (.iload 10, 2) := by decide +kernel
theorem dX4_sinkInto_58 : decode cX4_sinkInto 58 = .ok (.iload 4, 2) := by decide +kernel
theorem dX4_sinkInto_60 : decode cX4_sinkInto 60 = .ok (.iload 5, 2) := by decide +kernel
theorem dX4_sinkInto_62 : decode cX4_sinkInto 62 = .ok (.invokestatic 112, 3) := by decide +kernel
theorem dX4_sinkInto_65 : decode cX4_sinkInto 65 = .ok (.ifCond .ne 9, 3) := by decide +kernel
theorem dX4_sinkInto_68 : decode cX4_sinkInto 68 = .ok (.iinc 7 1, 3) := by decide +kernel
theorem dX4_sinkInto_71 : decode cX4_sinkInto 71 = .ok (.goto 65, 3) := by decide +kernel
theorem dX4_sinkInto_74 : decode cX4_sinkInto 74 = .ok (.iload 7, 2) := by decide +kernel
theorem dX4_sinkInto_76 : decode cX4_sinkInto 76 = .ok (.aload_n 0, 1) := by decide +kernel
theorem dX4_sinkInto_77 : decode cX4_sinkInto 77 = .ok (.iload_n 1, 1) := by decide +kernel
theorem dX4_sinkInto_78 : decode cX4_sinkInto 78 = .ok (.iload 7, 2) := by decide +kernel
theorem dX4_sinkInto_80 : decode cX4_sinkInto 80 = .ok (.iload 4, 2) := by decide +kernel
theorem dX4_sinkInto_82 : decode cX4_sinkInto 82 = .ok (.iload 5, 2) := by decide +kernel
theorem dX4_sinkInto_84 : decode cX4_sinkInto 84 = .ok (.invokevirtual 118, 3) := by decide +kernel
theorem dX4_sinkInto_87 : decode cX4_sinkInto 87 = .ok (.iadd, 1) := by decide +kernel
theorem dX4_sinkInto_88 : decode cX4_sinkInto 88 = .ok (.istore 7, 2) := by decide +kernel
theorem dX4_sinkInto_90 : decode cX4_sinkInto 90 = .ok (.iinc 8 1, 3) := by decide +kernel
theorem dX4_sinkInto_93 : decode cX4_sinkInto 93 = .ok (.iload 10, 2) := by decide +kernel
theorem dX4_sinkInto_95 : decode cX4_sinkInto 95 = .ok (.iload 4, 2) := by decide +kernel
theorem dX4_sinkInto_97 : decode cX4_sinkInto 97 = .ok (.iload 5, 2) := by decide +kernel
theorem dX4_sinkInto_99 : decode cX4_sinkInto 99 = .ok (.invokestatic 122, 3) := by decide +kernel
theorem dX4_sinkInto_102 : decode cX4_sinkInto 102 = .ok (.istore 11, 2) := by decide +kernel
theorem dX4_sinkInto_104 : decode cX4_sinkInto 104 = .ok (.iload_n 1, 1) := by decide +kernel
theorem dX4_sinkInto_105 : decode cX4_sinkInto 105 = .ok (.invokestatic 126, 3) := by decide +kernel
theorem dX4_sinkInto_108 : decode cX4_sinkInto 108 = .ok (.ifCond .eq 14, 3) := by decide +kernel
theorem dX4_sinkInto_111 : decode cX4_sinkInto 111 = .ok (.aload_n 0, 1) := by decide +kernel
theorem dX4_sinkInto_112 : decode cX4_sinkInto 112 = .ok (.iload 4, 2) := by decide +kernel
theorem dX4_sinkInto_114 : decode cX4_sinkInto 114 = .ok (.iload 11, 2) := by decide +kernel
theorem dX4_sinkInto_116 : decode cX4_sinkInto 116 = .ok (.invokevirtual 130, 3) := by decide +kernel
theorem dX4_sinkInto_119 : decode cX4_sinkInto 119 = .ok (.goto 17, 3) := by decide +kernel
theorem dX4_sinkInto_122 : decode cX4_sinkInto 122 = .ok (.aload_n 0, 1) := by decide +kernel
theorem dX4_sinkInto_123 : decode cX4_sinkInto 123 = .ok (.iload_n 1, 1) := by decide +kernel
theorem dX4_sinkInto_124 : decode cX4_sinkInto 124 = .ok (.iload_n 2, 1) := by decide +kernel
theorem dX4_sinkInto_125 : decode cX4_sinkInto 125 = .ok (.invokestatic 134, 3) := by decide +kernel
theorem dX4_sinkInto_128 : decode cX4_sinkInto 128 = .ok (.iload 11, 2) := by decide +kernel
theorem dX4_sinkInto_130 : decode cX4_sinkInto 130 = .ok (.iload_n 3, 1) := by decide +kernel
theorem dX4_sinkInto_131 : decode cX4_sinkInto 131 = .ok (.iconst 1, 1) := by decide +kernel
theorem dX4_sinkInto_132 : decode cX4_sinkInto 132 = .ok (.iadd, 1) := by decide +kernel
theorem dX4_sinkInto_133 : decode cX4_sinkInto 133 = .ok (.invokevirtual 85, 3) := by decide +kernel
theorem dX4_sinkInto_136 : decode cX4_sinkInto 136 = .ok (.iinc 9 1, 3) := by decide +kernel
theorem dX4_sinkInto_139 : decode cX4_sinkInto 139 = .ok (.goto (-99), 3) := by decide +kernel
theorem dX4_sinkInto_142 : decode cX4_sinkInto 142 = .ok (.iload 8, 2) := by decide +kernel
theorem dX4_sinkInto_144 : decode cX4_sinkInto 144 = .ok (.ifCond .le 22, 3) := by decide +kernel
theorem dX4_sinkInto_147 : decode cX4_sinkInto 147 = .ok (.aload_n 0, 1) := by decide +kernel
theorem dX4_sinkInto_148 : decode cX4_sinkInto 148 = .ok (.getfield 24, 3) := by decide +kernel
theorem dX4_sinkInto_151 : decode cX4_sinkInto 151 = .ok (.iload_n 1, 1) := by decide +kernel
theorem dX4_sinkInto_152 : decode cX4_sinkInto 152 = .ok (.iconst 1, 1) := by decide +kernel
theorem dX4_sinkInto_153 : decode cX4_sinkInto 153 = .ok (.invokestatic 81, 3) := by decide +kernel
theorem dX4_sinkInto_156 : decode cX4_sinkInto 156 = .ok (.aload_n 0, 1) := by decide +kernel
theorem dX4_sinkInto_157 : decode cX4_sinkInto 157 = .ok (.getfield 27, 3) := by decide +kernel
theorem dX4_sinkInto_160 : decode cX4_sinkInto 160 = .ok (.iload_n 1, 1) := by decide +kernel
theorem dX4_sinkInto_161 : decode cX4_sinkInto 161 = .ok (.iload 8, 2) := by decide +kernel
theorem dX4_sinkInto_163 : decode cX4_sinkInto 163 = .ok (.invokestatic 81, 3) := by decide +kernel
theorem dX4_sinkInto_166 : decode cX4_sinkInto 166 = .ok (.return_, 1) := by decide +kernel
set_option maxRecDepth 20000 in
theorem ggX4_leaveRest_X4_stoneAt : GoodIn wsX4_leaveRest wsX4_stoneAt := goodIn_r _ [5, 6, 55, 56, 57, 58, 59, 60, 61, 62, 63, 64] (by decide +kernel) (by decide +kernel)
set_option maxRecDepth 20000 in
theorem gX4_leaveRest_X4_stoneAt : GoodIn wsX4_leaveRest (wsV RX4 74 RX4 yX4_stoneAt wsX4_stoneAt) := goodIn_app (goodIn_of _ (by decide +kernel)) ggX4_leaveRest_X4_stoneAt
set_option maxRecDepth 20000 in
theorem ggX4_leaveRest_X4_takeOut : GoodIn wsX4_leaveRest wsX4_takeOut := goodIn_r _ [10, 11, 12, 13, 14, 4, 15, 1, 2, 3, 5, 6, 16, 17, 18, 19, 20, 21, 22, 55, 56, 57, 58, 59, 60, 61, 62, 63, 64] (by decide +kernel) (by decide +kernel)
set_option maxRecDepth 20000 in
theorem gX4_leaveRest_X4_takeOut : GoodIn wsX4_leaveRest (wsV RX4 137 RX4 yX4_takeOut wsX4_takeOut) := goodIn_app (goodIn_of _ (by decide +kernel)) ggX4_leaveRest_X4_takeOut
set_option maxRecDepth 20000 in
theorem ggX4_leaveRest_X3_first : GoodIn wsX4_leaveRest wsX3_first := goodIn_r _ [26] (by decide +kernel) (by decide +kernel)
set_option maxRecDepth 20000 in
theorem gX4_leaveRest_X3_first : GoodIn wsX4_leaveRest (va_wsS RX4 140 yX3_first wsX3_first) := goodIn_app (goodIn_of _ (by decide +kernel)) ggX4_leaveRest_X3_first
set_option maxRecDepth 20000 in
theorem ggX4_leaveRest_X3_part : GoodIn wsX4_leaveRest wsX3_part := goodIn_r _ [29, 30, 31, 32, 33, 34, 35, 36, 37, 38, 25, 39, 40, 24, 26, 41, 42, 43, 44, 45, 46, 47, 48, 49] (by decide +kernel) (by decide +kernel)
set_option maxRecDepth 20000 in
theorem gX4_leaveRest_X3_part : GoodIn wsX4_leaveRest (va_wsS RX4 122 yX3_part wsX3_part) := goodIn_app (goodIn_of _ (by decide +kernel)) ggX4_leaveRest_X3_part
set_option maxRecDepth 20000 in
theorem ggX4_leaveRest_X4_putIn : GoodIn wsX4_leaveRest wsX4_putIn := goodIn_r _ [53, 11, 12, 13, 14, 4, 15, 1, 2, 3, 5, 6, 16, 17, 18, 19, 20, 21, 22, 55, 56, 57, 58, 59, 60, 61, 62, 63, 64] (by decide +kernel) (by decide +kernel)
set_option maxRecDepth 20000 in
theorem gX4_leaveRest_X4_putIn : GoodIn wsX4_leaveRest (wsV RX4 96 RX4 yX4_putIn wsX4_putIn) := goodIn_app (goodIn_of _ (by decide +kernel)) ggX4_leaveRest_X4_putIn
set_option maxRecDepth 20000 in
theorem ggX4_leaveRest_X3_last : GoodIn wsX4_leaveRest wsX3_last := goodIn_r _ [43] (by decide +kernel) (by decide +kernel)
set_option maxRecDepth 20000 in
theorem gX4_leaveRest_X3_last : GoodIn wsX4_leaveRest (va_wsS RX4 143 yX3_last wsX3_last) := goodIn_app (goodIn_of _ (by decide +kernel)) ggX4_leaveRest_X3_last
theorem dX4_leaveRest_0 : decode cX4_leaveRest 0 = .ok (.aload_n 0, 1) := by decide +kernel
theorem dX4_leaveRest_1 : decode cX4_leaveRest 1 = .ok (.iload_n 1, 1) := by decide +kernel
theorem dX4_leaveRest_2 : decode cX4_leaveRest 2 = .ok (.iload_n 2, 1) := by decide +kernel
theorem dX4_leaveRest_3 : decode cX4_leaveRest 3 = .ok (.invokevirtual 74, 3) := by decide +kernel
theorem dX4_leaveRest_6 : decode cX4_leaveRest 6 = .ok (.istore 5, 2) := by decide +kernel
theorem dX4_leaveRest_8 : decode cX4_leaveRest 8 = .ok (.iconst 0, 1) := by decide +kernel
theorem dX4_leaveRest_9 : decode cX4_leaveRest 9 = .ok (.istore 6, 2) := by decide +kernel
theorem dX4_leaveRest_11 : decode cX4_leaveRest 11 = .ok (.aload_n 0, 1) := by decide +kernel
theorem dX4_leaveRest_12 : decode cX4_leaveRest 12 = .ok (.iload_n 1, 1) := by decide +kernel
theorem dX4_leaveRest_13 : decode cX4_leaveRest 13 = .ok (.iload_n 2, 1) := by decide +kernel
theorem dX4_leaveRest_14 : decode cX4_leaveRest 14 = .ok (.invokevirtual 137, 3) := by decide +kernel
theorem dX4_leaveRest_17 : decode cX4_leaveRest 17 = .ok (.iload 5, 2) := by decide +kernel
theorem dX4_leaveRest_19 : decode cX4_leaveRest 19 = .ok (.invokestatic 140, 3) := by decide +kernel
theorem dX4_leaveRest_22 : decode cX4_leaveRest 22 = .ok (.iload_n 3, 1) := by decide +kernel
theorem dX4_leaveRest_23 : decode cX4_leaveRest 23 = .ok (.if_icmp .ge 21, 3) := by decide +kernel
theorem dX4_leaveRest_26 : decode cX4_leaveRest 26 = .ok (.aload_n 0, 1) := by decide +kernel
theorem dX4_leaveRest_27 : decode cX4_leaveRest 27 = .ok (.iload_n 1, 1) := by decide +kernel
theorem dX4_leaveRest_28 : decode cX4_leaveRest 28 = .ok (.iload_n 2, 1) := by decide +kernel
theorem dX4_leaveRest_29 : decode cX4_leaveRest 29 = .ok (.iload 5, 2) := by decide +kernel
theorem dX4_leaveRest_31 : decode cX4_leaveRest 31 = .ok (.iconst 0, 1) := by decide +kernel
theorem dX4_leaveRest_32 : decode cX4_leaveRest 32 = .ok (.iload_n 3, 1) := by decide +kernel
theorem dX4_leaveRest_33 : decode cX4_leaveRest 33 = .ok (.iconst 1, 1) := by decide +kernel
theorem dX4_leaveRest_34 : decode cX4_leaveRest 34 = .ok (.isub, 1) := by decide +kernel
theorem dX4_leaveRest_35 : decode cX4_leaveRest 35 = .ok (.invokestatic 122, 3) := by decide +kernel
theorem dX4_leaveRest_38 : decode cX4_leaveRest 38 = .ok (.invokevirtual 96, 3) := by decide +kernel
theorem dX4_leaveRest_41 : decode cX4_leaveRest 41 = .ok (.iinc 6 1, 3) := by decide +kernel
theorem dX4_leaveRest_44 : decode cX4_leaveRest 44 = .ok (.iload 5, 2) := by decide +kernel
theorem dX4_leaveRest_46 : decode cX4_leaveRest 46 = .ok (.invokestatic 143, 3) := by decide +kernel
theorem dX4_leaveRest_49 : decode cX4_leaveRest 49 = .ok (.iload 4, 2) := by decide +kernel
theorem dX4_leaveRest_51 : decode cX4_leaveRest 51 = .ok (.if_icmp .le 26, 3) := by decide +kernel
theorem dX4_leaveRest_54 : decode cX4_leaveRest 54 = .ok (.aload_n 0, 1) := by decide +kernel
theorem dX4_leaveRest_55 : decode cX4_leaveRest 55 = .ok (.iload_n 1, 1) := by decide +kernel
theorem dX4_leaveRest_56 : decode cX4_leaveRest 56 = .ok (.iload_n 2, 1) := by decide +kernel
theorem dX4_leaveRest_57 : decode cX4_leaveRest 57 = .ok (.iload 6, 2) := by decide +kernel
theorem dX4_leaveRest_59 : decode cX4_leaveRest 59 = .ok (.iadd, 1) := by decide +kernel
theorem dX4_leaveRest_60 : decode cX4_leaveRest 60 = .ok (.iload 5, 2) := by decide +kernel
theorem dX4_leaveRest_62 : decode cX4_leaveRest 62 = .ok (.iload 4, 2) := by decide +kernel
theorem dX4_leaveRest_64 : decode cX4_leaveRest 64 = .ok (.iconst 1, 1) := by decide +kernel
theorem dX4_leaveRest_65 : decode cX4_leaveRest 65 = .ok (.iadd, 1) := by decide +kernel
theorem dX4_leaveRest_66 : decode cX4_leaveRest 66 = .ok (.bipush 26, 2) := by decide +kernel
theorem dX4_leaveRest_68 : decode cX4_leaveRest 68 = .ok (.invokestatic 122, 3) := by decide +kernel
theorem dX4_leaveRest_71 : decode cX4_leaveRest 71 = .ok (.invokevirtual 96, 3) := by decide +kernel
theorem dX4_leaveRest_74 : decode cX4_leaveRest 74 = .ok (.iinc 6 1, 3) := by decide +kernel
theorem dX4_leaveRest_77 : decode cX4_leaveRest 77 = .ok (.iload 6, 2) := by decide +kernel
theorem dX4_leaveRest_79 : decode cX4_leaveRest 79 = .ok (.ireturn, 1) := by decide +kernel
set_option maxRecDepth 20000 in
theorem ggX4_applyToLeaf_X3_valueAfter : GoodIn wsX4_applyToLeaf wsX3_valueAfter := goodIn_r _ [6, 7, 8, 5, 9, 10, 11, 12] (by decide +kernel) (by decide +kernel)
set_option maxRecDepth 20000 in
theorem gX4_applyToLeaf_X3_valueAfter : GoodIn wsX4_applyToLeaf (va_wsS RX4 146 yX3_valueAfter wsX3_valueAfter) := goodIn_app (goodIn_of _ (by decide +kernel)) ggX4_applyToLeaf_X3_valueAfter
theorem dX4_applyToLeaf_0 : decode cX4_applyToLeaf 0 = .ok (.iload_n 1, 1) := by decide +kernel
theorem dX4_applyToLeaf_1 : decode cX4_applyToLeaf 1 = .ok (.ifCond .lt 28, 3) := by decide +kernel
theorem dX4_applyToLeaf_4 : decode cX4_applyToLeaf 4 = .ok (.iload_n 1, 1) := by decide +kernel
theorem dX4_applyToLeaf_5 : decode cX4_applyToLeaf 5 = .ok (.aload_n 0, 1) := by decide +kernel
theorem dX4_applyToLeaf_6 : decode cX4_applyToLeaf 6 = .ok (.getfield 15, 3) := by decide +kernel
theorem dX4_applyToLeaf_9 : decode cX4_applyToLeaf 9 = .ok (.arraylength, 1) := by decide +kernel
theorem dX4_applyToLeaf_10 : decode cX4_applyToLeaf 10 = .ok (.if_icmp .ge 19, 3) := by decide +kernel
theorem dX4_applyToLeaf_13 : decode cX4_applyToLeaf 13 = .ok (.aload_n 0, 1) := by decide +kernel
theorem dX4_applyToLeaf_14 : decode cX4_applyToLeaf 14 = .ok (.getfield 15, 3) := by decide +kernel
theorem dX4_applyToLeaf_17 : decode cX4_applyToLeaf 17 = .ok (.iload_n 1, 1) := by decide +kernel
theorem dX4_applyToLeaf_18 : decode cX4_applyToLeaf 18 = .ok (.iload_n 2, 1) := by decide +kernel
theorem dX4_applyToLeaf_19 : decode cX4_applyToLeaf 19 = .ok (.aload_n 0, 1) := by decide +kernel
theorem dX4_applyToLeaf_20 : decode cX4_applyToLeaf 20 = .ok (.getfield 15, 3) := by decide +kernel
theorem dX4_applyToLeaf_23 : decode cX4_applyToLeaf 23 = .ok (.iload_n 1, 1) := by decide +kernel
theorem dX4_applyToLeaf_24 : decode cX4_applyToLeaf 24 = .ok (.iaload, 1) := by decide +kernel
theorem dX4_applyToLeaf_25 : decode cX4_applyToLeaf 25 = .ok (.invokestatic 146, 3) := by decide +kernel
theorem dX4_applyToLeaf_28 : decode cX4_applyToLeaf 28 = .ok (.iastore, 1) := by decide +kernel
theorem dX4_applyToLeaf_29 : decode cX4_applyToLeaf 29 = .ok (.aload_n 0, 1) := by decide +kernel
theorem dX4_applyToLeaf_30 : decode cX4_applyToLeaf 30 = .ok (.dup, 1) := by decide +kernel
theorem dX4_applyToLeaf_31 : decode cX4_applyToLeaf 31 = .ok (.getfield 41, 3) := by decide +kernel
theorem dX4_applyToLeaf_34 : decode cX4_applyToLeaf 34 = .ok (.iconst 1, 1) := by decide +kernel
theorem dX4_applyToLeaf_35 : decode cX4_applyToLeaf 35 = .ok (.iadd, 1) := by decide +kernel
theorem dX4_applyToLeaf_36 : decode cX4_applyToLeaf 36 = .ok (.putfield 41, 3) := by decide +kernel
theorem dX4_applyToLeaf_39 : decode cX4_applyToLeaf 39 = .ok (.return_, 1) := by decide +kernel
set_option maxRecDepth 20000 in
theorem ggX4_joinLast_X4_stonesIn : GoodIn wsX4_joinLast wsX4_stonesIn := goodIn_r _ [6, 7, 55, 56, 57, 58, 59, 60, 61, 62, 63, 64] (by decide +kernel) (by decide +kernel)
set_option maxRecDepth 20000 in
theorem gX4_joinLast_X4_stonesIn : GoodIn wsX4_joinLast (wsV RX4 71 RX4 yX4_stonesIn wsX4_stonesIn) := goodIn_app (goodIn_of _ (by decide +kernel)) ggX4_joinLast_X4_stonesIn
set_option maxRecDepth 20000 in
theorem ggX4_joinLast_X4_stoneAt : GoodIn wsX4_joinLast wsX4_stoneAt := goodIn_r _ [11, 12, 55, 56, 57, 58, 59, 60, 61, 62, 63, 64] (by decide +kernel) (by decide +kernel)
set_option maxRecDepth 20000 in
theorem gX4_joinLast_X4_stoneAt : GoodIn wsX4_joinLast (wsV RX4 74 RX4 yX4_stoneAt wsX4_stoneAt) := goodIn_app (goodIn_of _ (by decide +kernel)) ggX4_joinLast_X4_stoneAt
set_option maxRecDepth 20000 in
theorem ggX4_joinLast_X3_isOfOneKey : GoodIn wsX4_joinLast wsX3_isOfOneKey := goodIn_r _ [16, 17, 18, 15, 19, 20, 21, 22] (by decide +kernel) (by decide +kernel)
set_option maxRecDepth 20000 in
theorem gX4_joinLast_X3_isOfOneKey : GoodIn wsX4_joinLast (va_wsS RX4 149 yX3_isOfOneKey wsX3_isOfOneKey) := goodIn_app (goodIn_of _ (by decide +kernel)) ggX4_joinLast_X3_isOfOneKey
set_option maxRecDepth 20000 in
theorem ggX4_joinLast_X3_first : GoodIn wsX4_joinLast wsX3_first := goodIn_r _ [19] (by decide +kernel) (by decide +kernel)
set_option maxRecDepth 20000 in
theorem gX4_joinLast_X3_first : GoodIn wsX4_joinLast (va_wsS RX4 140 yX3_first wsX3_first) := goodIn_app (goodIn_of _ (by decide +kernel)) ggX4_joinLast_X3_first
set_option maxRecDepth 20000 in
theorem ggX4_joinLast_X4_lastPlaceWith : GoodIn wsX4_joinLast wsX4_lastPlaceWith := goodIn_r _ [27, 8, 9, 10, 5, 11, 12, 28, 29, 15, 30, 17, 18, 19, 20, 21, 22, 55, 56, 57, 58, 59, 60, 61, 62, 63, 64] (by decide +kernel) (by decide +kernel)
set_option maxRecDepth 20000 in
theorem gX4_joinLast_X4_lastPlaceWith : GoodIn wsX4_joinLast (wsV RX4 152 RX4 yX4_lastPlaceWith wsX4_lastPlaceWith) := goodIn_app (goodIn_of _ (by decide +kernel)) ggX4_joinLast_X4_lastPlaceWith
set_option maxRecDepth 20000 in
theorem ggX4_joinLast_X3_kind : GoodIn wsX4_joinLast wsX3_kind := goodIn_r _ [33] (by decide +kernel) (by decide +kernel)
set_option maxRecDepth 20000 in
theorem gX4_joinLast_X3_kind : GoodIn wsX4_joinLast (va_wsS RX4 155 yX3_kind wsX3_kind) := goodIn_app (goodIn_of _ (by decide +kernel)) ggX4_joinLast_X3_kind
set_option maxRecDepth 20000 in
theorem ggX4_joinLast_X3_number : GoodIn wsX4_joinLast wsX3_number := goodIn_r _ [36] (by decide +kernel) (by decide +kernel)
set_option maxRecDepth 20000 in
theorem gX4_joinLast_X3_number : GoodIn wsX4_joinLast (va_wsS RX4 158 yX3_number wsX3_number) := goodIn_app (goodIn_of _ (by decide +kernel)) ggX4_joinLast_X3_number
set_option maxRecDepth 20000 in
theorem ggX4_joinLast_X4_withMore : GoodIn wsX4_joinLast wsX4_withMore := goodIn_r _ [39, 31, 32, 15, 33, 34, 35, 36, 23, 18, 19, 40, 21, 22, 41, 42, 43] (by decide +kernel) (by decide +kernel)
set_option maxRecDepth 20000 in
theorem gX4_joinLast_X4_withMore : GoodIn wsX4_joinLast (va_wsS RX4 161 yX4_withMore wsX4_withMore) := goodIn_app (goodIn_of _ (by decide +kernel)) ggX4_joinLast_X4_withMore
set_option maxRecDepth 20000 in
theorem ggX4_joinLast_X4_layAt : GoodIn wsX4_joinLast wsX4_layAt := goodIn_r _ [47, 12, 55, 56, 57, 58, 59, 60, 61, 62, 63, 64] (by decide +kernel) (by decide +kernel)
set_option maxRecDepth 20000 in
theorem gX4_joinLast_X4_layAt : GoodIn wsX4_joinLast (wsV RX4 77 RX4 yX4_layAt wsX4_layAt) := goodIn_app (goodIn_of _ (by decide +kernel)) ggX4_joinLast_X4_layAt
set_option maxRecDepth 20000 in
theorem ggX4_joinLast_X4_takeOut : GoodIn wsX4_joinLast wsX4_takeOut := goodIn_r _ [51, 7, 2, 3, 4, 5, 6, 8, 9, 10, 11, 12, 44, 45, 46, 47, 52, 53, 54, 55, 56, 57, 58, 59, 60, 61, 62, 63, 64] (by decide +kernel) (by decide +kernel)
set_option maxRecDepth 20000 in
theorem gX4_joinLast_X4_takeOut : GoodIn wsX4_joinLast (wsV RX4 137 RX4 yX4_takeOut wsX4_takeOut) := goodIn_app (goodIn_of _ (by decide +kernel)) ggX4_joinLast_X4_takeOut
set_option maxRecDepth 20000 in
theorem ggX4_joinLast_X4_addTo : GoodIn wsX4_joinLast wsX4_addTo := goodIn_r _ [54] (by decide +kernel) (by decide +kernel)
set_option maxRecDepth 20000 in
theorem gX4_joinLast_X4_addTo : GoodIn wsX4_joinLast (va_wsS RX4 81 yX4_addTo wsX4_addTo) := goodIn_app (goodIn_of _ (by decide +kernel)) ggX4_joinLast_X4_addTo
theorem dX4_joinLast_0 : decode cX4_joinLast 0 = .ok (.aload_n 0, 1) := by decide +kernel
theorem dX4_joinLast_1 : decode cX4_joinLast 1 = .ok (.iload_n 1, 1) := by decide +kernel
theorem dX4_joinLast_2 : decode cX4_joinLast 2 = .ok (.invokevirtual 71, 3) := by decide +kernel
theorem dX4_joinLast_5 : decode cX4_joinLast 5 = .ok (.iconst 1, 1) := by decide +kernel
theorem dX4_joinLast_6 : decode cX4_joinLast 6 = .ok (.isub, 1) := by decide +kernel
theorem dX4_joinLast_7 : decode cX4_joinLast 7 = .ok (.istore_n 2, 1) := by decide +kernel
theorem dX4_joinLast_8 : decode cX4_joinLast 8 = .ok (.aload_n 0, 1) := by decide +kernel
theorem dX4_joinLast_9 : decode cX4_joinLast 9 = .ok (.iload_n 1, 1) := by decide +kernel
theorem dX4_joinLast_10 : decode cX4_joinLast 10 = .ok (.iload_n 2, 1) := by decide +kernel
theorem dX4_joinLast_11 : decode cX4_joinLast 11 = .ok (.invokevirtual 74, 3) := by decide +kernel
theorem dX4_joinLast_14 : decode cX4_joinLast 14 = .ok (.istore_n 3, 1) := by decide +kernel
theorem dX4_joinLast_15 : decode cX4_joinLast 15 = .ok (.iload_n 3, 1) := by decide +kernel
theorem dX4_joinLast_16 : decode cX4_joinLast 16 = .ok (.invokestatic 149, 3) := by decide +kernel
theorem dX4_joinLast_19 : decode cX4_joinLast 19 = .ok (.ifCond .ne 4, 3) := by decide +kernel
theorem dX4_joinLast_22 : decode cX4_joinLast 22 = .ok (.return_, 1) := by decide +kernel
theorem dX4_joinLast_23 : decode cX4_joinLast 23 = .ok (.aload_n 0, 1) := by decide +kernel
theorem dX4_joinLast_24 : decode cX4_joinLast 24 = .ok (.iload_n 1, 1) := by decide +kernel
theorem dX4_joinLast_25 : decode cX4_joinLast 25 = .ok (.iload_n 3, 1) := by decide +kernel
theorem dX4_joinLast_26 : decode cX4_joinLast 26 = .ok (.invokestatic 140, 3) := by decide +kernel
theorem dX4_joinLast_29 : decode cX4_joinLast 29 = .ok (.iload_n 2, 1) := by decide +kernel
theorem dX4_joinLast_30 : decode cX4_joinLast 30 = .ok (.invokevirtual 152, 3) := by decide +kernel
theorem dX4_joinLast_33 : decode cX4_joinLast 33 = .ok (.istore 4, 2) := by decide +kernel
theorem dX4_joinLast_35 : decode cX4_joinLast 35 = .ok (.iload 4, 2) := by decide +kernel
theorem dX4_joinLast_37 : decode cX4_joinLast 37 = .ok (.ifCond .lt 16, 3) := by decide +kernel
theorem dX4_joinLast_40 : decode cX4_joinLast 40 = .ok (.aload_n 0, 1) := by decide +kernel
theorem dX4_joinLast_41 : decode cX4_joinLast 41 = .ok (.iload_n 1, 1) := by decide +kernel
theorem dX4_joinLast_42 : decode cX4_joinLast 42 = .ok (.iload 4, 2) := by decide +kernel
theorem dX4_joinLast_44 : decode cX4_joinLast 44 = .ok (.invokevirtual 74, 3) := by decide +kernel
theorem dX4_joinLast_47 : decode cX4_joinLast 47 = .ok (.invokestatic 149, 3) := by decide +kernel
theorem dX4_joinLast_50 : decode cX4_joinLast 50 = .ok (.ifCond .ne 4, 3) := by decide +kernel
theorem dX4_joinLast_53 : decode cX4_joinLast 53 = .ok (.return_, 1) := by decide +kernel
theorem dX4_joinLast_54 : decode cX4_joinLast 54 = .ok (.iload_n 3, 1) := by decide +kernel
theorem dX4_joinLast_55 : decode cX4_joinLast 55 = .ok (.invokestatic 155, 3) := by decide +kernel
theorem dX4_joinLast_58 : decode cX4_joinLast 58 = .ok (.iconst 1, 1) := by decide +kernel
theorem dX4_joinLast_59 : decode cX4_joinLast 59 = .ok (.if_icmp .ne 33, 3) := by decide +kernel
theorem dX4_joinLast_62 : decode cX4_joinLast 62 = .ok (.aload_n 0, 1) := by decide +kernel
theorem dX4_joinLast_63 : decode cX4_joinLast 63 = .ok (.iload_n 1, 1) := by decide +kernel
theorem dX4_joinLast_64 : decode cX4_joinLast 64 = .ok (.iload 4, 2) := by decide +kernel
theorem dX4_joinLast_66 : decode cX4_joinLast 66 = .ok (.aload_n 0, 1) := by decide +kernel
theorem dX4_joinLast_67 : decode cX4_joinLast 67 = .ok (.iload_n 1, 1) := by decide +kernel
theorem dX4_joinLast_68 : decode cX4_joinLast 68 = .ok (.iload 4, 2) := by decide +kernel
theorem dX4_joinLast_70 : decode cX4_joinLast 70 = .ok (.invokevirtual 74, 3) := by decide +kernel
theorem dX4_joinLast_73 : decode cX4_joinLast 73 = .ok (.iload_n 3, 1) := by decide +kernel
theorem dX4_joinLast_74 : decode cX4_joinLast 74 = .ok (.invokestatic 158, 3) := by decide +kernel
theorem dX4_joinLast_77 : decode cX4_joinLast 77 = .ok (.invokestatic 161, 3) := by decide +kernel
theorem dX4_joinLast_80 : decode cX4_joinLast 80 = .ok (.invokevirtual 77, 3) := by decide +kernel
theorem dX4_joinLast_83 : decode cX4_joinLast 83 = .ok (.aload_n 0, 1) := by decide +kernel
theorem dX4_joinLast_84 : decode cX4_joinLast 84 = .ok (.iload_n 1, 1) := by decide +kernel
theorem dX4_joinLast_85 : decode cX4_joinLast 85 = .ok (.iload_n 2, 1) := by decide +kernel
theorem dX4_joinLast_86 : decode cX4_joinLast 86 = .ok (.invokevirtual 137, 3) := by decide +kernel
theorem dX4_joinLast_89 : decode cX4_joinLast 89 = .ok (.goto 10, 3) := by decide +kernel
theorem dX4_joinLast_92 : decode cX4_joinLast 92 = .ok (.aload_n 0, 1) := by decide +kernel
theorem dX4_joinLast_93 : decode cX4_joinLast 93 = .ok (.iload_n 1, 1) := by decide +kernel
theorem dX4_joinLast_94 : decode cX4_joinLast 94 = .ok (.iload 4, 2) := by decide +kernel
theorem dX4_joinLast_96 : decode cX4_joinLast 96 = .ok (.invokevirtual 137, 3) := by decide +kernel
theorem dX4_joinLast_99 : decode cX4_joinLast 99 = .ok (.aload_n 0, 1) := by decide +kernel
theorem dX4_joinLast_100 : decode cX4_joinLast 100 = .ok (.getfield 30, 3) := by decide +kernel
theorem dX4_joinLast_103 : decode cX4_joinLast 103 = .ok (.iload_n 1, 1) := by decide +kernel
theorem dX4_joinLast_104 : decode cX4_joinLast 104 = .ok (.iconst 1, 1) := by decide +kernel
theorem dX4_joinLast_105 : decode cX4_joinLast 105 = .ok (.invokestatic 81, 3) := by decide +kernel
theorem dX4_joinLast_108 : decode cX4_joinLast 108 = .ok (.return_, 1) := by decide +kernel
set_option maxRecDepth 20000 in
theorem ggX4_withMore_X3_kind : GoodIn wsX4_withMore wsX3_kind := goodIn_r _ [4] (by decide +kernel) (by decide +kernel)
set_option maxRecDepth 20000 in
theorem gX4_withMore_X3_kind : GoodIn wsX4_withMore (va_wsS RX4 155 yX3_kind wsX3_kind) := goodIn_app (goodIn_of _ (by decide +kernel)) ggX4_withMore_X3_kind
set_option maxRecDepth 20000 in
theorem ggX4_withMore_X3_number : GoodIn wsX4_withMore wsX3_number := goodIn_r _ [7] (by decide +kernel) (by decide +kernel)
set_option maxRecDepth 20000 in
theorem gX4_withMore_X3_number : GoodIn wsX4_withMore (va_wsS RX4 158 yX3_number wsX3_number) := goodIn_app (goodIn_of _ (by decide +kernel)) ggX4_withMore_X3_number
set_option maxRecDepth 20000 in
theorem ggX4_withMore_X3_first : GoodIn wsX4_withMore wsX3_first := goodIn_r _ [10] (by decide +kernel) (by decide +kernel)
set_option maxRecDepth 20000 in
theorem gX4_withMore_X3_first : GoodIn wsX4_withMore (va_wsS RX4 140 yX3_first wsX3_first) := goodIn_app (goodIn_of _ (by decide +kernel)) ggX4_withMore_X3_first
set_option maxRecDepth 20000 in
theorem ggX4_withMore_X3_last : GoodIn wsX4_withMore wsX3_last := goodIn_r _ [13] (by decide +kernel) (by decide +kernel)
set_option maxRecDepth 20000 in
theorem gX4_withMore_X3_last : GoodIn wsX4_withMore (va_wsS RX4 143 yX3_last wsX3_last) := goodIn_app (goodIn_of _ (by decide +kernel)) ggX4_withMore_X3_last
set_option maxRecDepth 20000 in
theorem ggX4_withMore_X3_of : GoodIn wsX4_withMore wsX3_of := goodIn_r _ [16] (by decide +kernel) (by decide +kernel)
set_option maxRecDepth 20000 in
theorem gX4_withMore_X3_of : GoodIn wsX4_withMore (va_wsS RX4 164 yX3_of wsX3_of) := goodIn_app (goodIn_of _ (by decide +kernel)) ggX4_withMore_X3_of
theorem dX4_withMore_0 : decode cX4_withMore 0 = .ok (.iload_n 0, 1) := by decide +kernel
theorem dX4_withMore_1 : decode cX4_withMore 1 = .ok (.invokestatic 155, 3) := by decide +kernel
theorem dX4_withMore_4 : decode cX4_withMore 4 = .ok (.iconst 2, 1) := by decide +kernel
theorem dX4_withMore_5 : decode cX4_withMore 5 = .ok (.if_icmp .ne 5, 3) := by decide +kernel
theorem dX4_withMore_8 : decode cX4_withMore 8 = .ok (.iload_n 0, 1) := by decide +kernel
theorem dX4_withMore_9 : decode cX4_withMore 9 = .ok (.ireturn, 1) := by decide +kernel
theorem dX4_withMore_10 : decode cX4_withMore 10 = .ok (.iload_n 0, 1) := by decide +kernel
theorem dX4_withMore_11 : decode cX4_withMore 11 = .ok (.invokestatic 158, 3) := by decide +kernel
theorem dX4_withMore_14 : decode cX4_withMore 14 = .ok (.iload_n 1, 1) := by decide +kernel
theorem dX4_withMore_15 : decode cX4_withMore 15 = .ok (.iadd, 1) := by decide +kernel
theorem dX4_withMore_16 : decode cX4_withMore 16 = .ok (.sipush 1000, 3) := by decide +kernel
theorem dX4_withMore_19 : decode cX4_withMore 19 = .ok (.irem, 1) := by decide +kernel
theorem dX4_withMore_20 : decode cX4_withMore 20 = .ok (.istore_n 2, 1) := by decide +kernel
theorem dX4_withMore_21 : decode cX4_withMore 21 = .ok (.iload_n 0, 1) := by decide +kernel
theorem dX4_withMore_22 : decode cX4_withMore 22 = .ok (.invokestatic 155, 3) := by decide +kernel
theorem dX4_withMore_25 : decode cX4_withMore 25 = .ok (.iload_n 0, 1) := by decide +kernel
theorem dX4_withMore_26 : decode cX4_withMore 26 = .ok (.invokestatic 140, 3) := by decide +kernel
theorem dX4_withMore_29 : decode cX4_withMore 29 = .ok (.iload_n 0, 1) := by decide +kernel
theorem dX4_withMore_30 : decode cX4_withMore 30 = .ok (.invokestatic 143, 3) := by decide +kernel
theorem dX4_withMore_33 : decode cX4_withMore 33 = .ok (.iload_n 2, 1) := by decide +kernel
theorem dX4_withMore_34 : decode cX4_withMore 34 = .ok (.invokestatic 164, 3) := by decide +kernel
theorem dX4_withMore_37 : decode cX4_withMore 37 = .ok (.ireturn, 1) := by decide +kernel
set_option maxRecDepth 20000 in
theorem ggX4_lastPlaceWith_X4_stoneAt : GoodIn wsX4_lastPlaceWith wsX4_stoneAt := goodIn_r _ [5, 6, 17, 18, 19, 20, 21, 22, 23, 24, 25, 26] (by decide +kernel) (by decide +kernel)
set_option maxRecDepth 20000 in
theorem gX4_lastPlaceWith_X4_stoneAt : GoodIn wsX4_lastPlaceWith (wsV RX4 74 RX4 yX4_stoneAt wsX4_stoneAt) := goodIn_app (goodIn_of _ (by decide +kernel)) ggX4_lastPlaceWith_X4_stoneAt
set_option maxRecDepth 20000 in
theorem ggX4_lastPlaceWith_X3_touches : GoodIn wsX4_lastPlaceWith wsX3_touches := goodIn_r _ [10, 11, 12, 9, 13, 14, 15, 16] (by decide +kernel) (by decide +kernel)
set_option maxRecDepth 20000 in
theorem gX4_lastPlaceWith_X3_touches : GoodIn wsX4_lastPlaceWith (va_wsS RX4 112 yX3_touches wsX3_touches) := goodIn_app (goodIn_of _ (by decide +kernel)) ggX4_lastPlaceWith_X3_touches
theorem dX4_lastPlaceWith_0 : decode cX4_lastPlaceWith 0 = .ok (.iload_n 3, 1) := by decide +kernel
theorem dX4_lastPlaceWith_1 : decode cX4_lastPlaceWith 1 = .ok (.iconst 1, 1) := by decide +kernel
theorem dX4_lastPlaceWith_2 : decode cX4_lastPlaceWith 2 = .ok (.isub, 1) := by decide +kernel
theorem dX4_lastPlaceWith_3 : decode cX4_lastPlaceWith 3 = .ok (.istore 4, 2) := by decide +kernel
theorem dX4_lastPlaceWith_5 : decode cX4_lastPlaceWith 5 = .ok (.iload 4, 2) := by decide +kernel
theorem dX4_lastPlaceWith_7 : decode cX4_lastPlaceWith 7 = .ok (.ifCond .lt 27, 3) := by decide +kernel
theorem dX4_lastPlaceWith_10 : decode cX4_lastPlaceWith 10 = .ok (.aload_n 0, 1) := by decide +kernel
theorem dX4_lastPlaceWith_11 : decode cX4_lastPlaceWith 11 = .ok (.iload_n 1, 1) := by decide +kernel
theorem dX4_lastPlaceWith_12 : decode cX4_lastPlaceWith 12 = .ok (.iload 4, 2) := by decide +kernel
theorem dX4_lastPlaceWith_14 : decode cX4_lastPlaceWith 14 = .ok (.invokevirtual 74, 3) := by decide +kernel
theorem dX4_lastPlaceWith_17 : decode cX4_lastPlaceWith 17 = .ok (.iload_n 2, 1) := by decide +kernel
theorem dX4_lastPlaceWith_18 : decode cX4_lastPlaceWith 18 = .ok (.iload_n 2, 1) := by decide +kernel
theorem dX4_lastPlaceWith_19 : decode cX4_lastPlaceWith 19 = .ok (.invokestatic 112, 3) := by decide +kernel
theorem dX4_lastPlaceWith_22 : decode cX4_lastPlaceWith 22 = .ok (.ifCond .eq 6, 3) := by decide +kernel
theorem dX4_lastPlaceWith_25 : decode cX4_lastPlaceWith 25 = .ok (.iload 4, 2) := by decide +kernel
theorem dX4_lastPlaceWith_27 : decode cX4_lastPlaceWith 27 = .ok (.ireturn, 1) := by decide +kernel
theorem dX4_lastPlaceWith_28 : decode cX4_lastPlaceWith 28 = .ok (.iinc 4 (-1), 3) := by decide +kernel
theorem dX4_lastPlaceWith_31 : decode cX4_lastPlaceWith 31 = .ok (.goto (-26), 3) := by decide +kernel
theorem dX4_lastPlaceWith_34 : decode cX4_lastPlaceWith 34 = .ok (.iconst (-1), 1) := by decide +kernel
theorem dX4_lastPlaceWith_35 : decode cX4_lastPlaceWith 35 = .ok (.ireturn, 1) := by decide +kernel
set_option maxRecDepth 20000 in
theorem ggX4_heaviestChild_X2_firstKeyOfChild : GoodIn wsX4_heaviestChild wsX2_firstKeyOfChild := goodIn_r _ [4, 5, 6, 3, 7, 8, 9, 10, 11, 12] (by decide +kernel) (by decide +kernel)
set_option maxRecDepth 20000 in
theorem gX4_heaviestChild_X2_firstKeyOfChild : GoodIn wsX4_heaviestChild (va_wsS RX4 106 yX2_firstKeyOfChild wsX2_firstKeyOfChild) := goodIn_app (goodIn_of _ (by decide +kernel)) ggX4_heaviestChild_X2_firstKeyOfChild
set_option maxRecDepth 20000 in
theorem ggX4_heaviestChild_X2_lastKeyOfChild : GoodIn wsX4_heaviestChild wsX2_lastKeyOfChild := goodIn_r _ [15, 16, 2, 3, 4, 5, 6, 7, 8, 9, 10, 11, 12] (by decide +kernel) (by decide +kernel)
set_option maxRecDepth 20000 in
theorem gX4_heaviestChild_X2_lastKeyOfChild : GoodIn wsX4_heaviestChild (va_wsS RX4 109 yX2_lastKeyOfChild wsX2_lastKeyOfChild) := goodIn_app (goodIn_of _ (by decide +kernel)) ggX4_heaviestChild_X2_lastKeyOfChild
set_option maxRecDepth 20000 in
theorem ggX4_heaviestChild_X4_stonesTouching : GoodIn wsX4_heaviestChild wsX4_stonesTouching := goodIn_r _ [21, 22, 23, 24, 20, 25, 26, 27, 28, 29, 30, 31, 32, 33, 34, 35, 36, 37, 38, 39, 40, 41, 42, 43, 44, 45, 46, 47, 48, 49, 50, 51] (by decide +kernel) (by decide +kernel)
set_option maxRecDepth 20000 in
theorem gX4_heaviestChild_X4_stonesTouching : GoodIn wsX4_heaviestChild (wsV RX4 167 RX4 yX4_stonesTouching wsX4_stonesTouching) := goodIn_app (goodIn_of _ (by decide +kernel)) ggX4_heaviestChild_X4_stonesTouching
theorem dX4_heaviestChild_0 : decode cX4_heaviestChild 0 = .ok (.iconst (-1), 1) := by decide +kernel
theorem dX4_heaviestChild_1 : decode cX4_heaviestChild 1 = .ok (.istore_n 2, 1) := by decide +kernel
theorem dX4_heaviestChild_2 : decode cX4_heaviestChild 2 = .ok (.iconst 0, 1) := by decide +kernel
theorem dX4_heaviestChild_3 : decode cX4_heaviestChild 3 = .ok (.istore_n 3, 1) := by decide +kernel
theorem dX4_heaviestChild_4 : decode cX4_heaviestChild 4 = .ok (.iconst 0, 1) := by decide +kernel
theorem dX4_heaviestChild_5 : decode cX4_heaviestChild 5 = .ok (.istore 4, 2) := by decide +kernel
theorem dX4_heaviestChild_7 : decode cX4_heaviestChild 7 = .ok (.iload 4, 2) := by decide +kernel
theorem dX4_heaviestChild_9 : decode cX4_heaviestChild 9 = .ok (.iconst 3, 1) := by decide +kernel
theorem dX4_heaviestChild_10 : decode cX4_heaviestChild 10 = .ok (.if_icmp .ge 40, 3) := by decide +kernel
theorem dX4_heaviestChild_13 : decode cX4_heaviestChild 13 = .ok (.aload_n 0, 1) := by decide +kernel
theorem dX4_heaviestChild_14 : decode cX4_heaviestChild 14 = .ok (.iload_n 1, 1) := by decide +kernel
theorem dX4_heaviestChild_15 : decode cX4_heaviestChild 15 = .ok (.iload_n 1, 1) := by decide +kernel
theorem dX4_heaviestChild_16 : decode cX4_heaviestChild 16 = .ok (.iload 4, 2) := by decide +kernel
theorem dX4_heaviestChild_18 : decode cX4_heaviestChild 18 = .ok (.invokestatic 106, 3) := by decide +kernel
theorem dX4_heaviestChild_21 : decode cX4_heaviestChild 21 = .ok (.iload_n 1, 1) := by decide +kernel
theorem dX4_heaviestChild_22 : decode cX4_heaviestChild 22 = .ok (.iload 4, 2) := by decide +kernel
theorem dX4_heaviestChild_24 : decode cX4_heaviestChild 24 = .ok (.invokestatic 109, 3) := by decide +kernel
theorem dX4_heaviestChild_27 : decode cX4_heaviestChild 27 = .ok (.invokevirtual 167, 3) := by decide +kernel
theorem dX4_heaviestChild_30 : decode cX4_heaviestChild 30 = .ok (.istore 5, 2) := by decide +kernel
theorem dX4_heaviestChild_32 : decode cX4_heaviestChild 32 = .ok (.iload 5, 2) := by decide +kernel
theorem dX4_heaviestChild_34 : decode cX4_heaviestChild 34 = .ok (.iload_n 3, 1) := by decide +kernel
theorem dX4_heaviestChild_35 : decode cX4_heaviestChild 35 = .ok (.if_icmp .le 9, 3) := by decide +kernel
theorem dX4_heaviestChild_38 : decode cX4_heaviestChild 38 = .ok (.iload 4, 2) := by decide +kernel
theorem dX4_heaviestChild_40 : decode cX4_heaviestChild 40 = .ok (.istore_n 2, 1) := by decide +kernel
theorem dX4_heaviestChild_41 : decode cX4_heaviestChild 41 = .ok (.iload 5, 2) := by decide +kernel
theorem dX4_heaviestChild_43 : decode cX4_heaviestChild 43 = .ok (.istore_n 3, 1) := by decide +kernel
theorem dX4_heaviestChild_44 : decode cX4_heaviestChild 44 = .ok (.iinc 4 1, 3) := by decide +kernel
theorem dX4_heaviestChild_47 : decode cX4_heaviestChild 47 = .ok (.goto (-40), 3) := by decide +kernel
theorem dX4_heaviestChild_50 : decode cX4_heaviestChild 50 = .ok (.iload_n 2, 1) := by decide +kernel
theorem dX4_heaviestChild_51 : decode cX4_heaviestChild 51 = .ok (.ireturn, 1) := by decide +kernel
set_option maxRecDepth 20000 in
theorem ggX4_stonesTouching_X4_stonesIn : GoodIn wsX4_stonesTouching wsX4_stonesIn := goodIn_r _ [5, 6, 22, 23, 24, 25, 26, 27, 28, 29, 30, 31] (by decide +kernel) (by decide +kernel)
set_option maxRecDepth 20000 in
theorem gX4_stonesTouching_X4_stonesIn : GoodIn wsX4_stonesTouching (wsV RX4 71 RX4 yX4_stonesIn wsX4_stonesIn) := goodIn_app (goodIn_of _ (by decide +kernel)) ggX4_stonesTouching_X4_stonesIn
set_option maxRecDepth 20000 in
theorem ggX4_stonesTouching_X4_stoneAt : GoodIn wsX4_stonesTouching wsX4_stoneAt := goodIn_r _ [10, 11, 22, 23, 24, 25, 26, 27, 28, 29, 30, 31] (by decide +kernel) (by decide +kernel)
set_option maxRecDepth 20000 in
theorem gX4_stonesTouching_X4_stoneAt : GoodIn wsX4_stonesTouching (wsV RX4 74 RX4 yX4_stoneAt wsX4_stoneAt) := goodIn_app (goodIn_of _ (by decide +kernel)) ggX4_stonesTouching_X4_stoneAt
set_option maxRecDepth 20000 in
theorem ggX4_stonesTouching_X3_touches : GoodIn wsX4_stonesTouching wsX3_touches := goodIn_r _ [15, 16, 17, 14, 18, 19, 20, 21] (by decide +kernel) (by decide +kernel)
set_option maxRecDepth 20000 in
theorem gX4_stonesTouching_X3_touches : GoodIn wsX4_stonesTouching (va_wsS RX4 112 yX3_touches wsX3_touches) := goodIn_app (goodIn_of _ (by decide +kernel)) ggX4_stonesTouching_X3_touches
theorem dX4_stonesTouching_0 : decode cX4_stonesTouching 0 = .ok (.iconst 0, 1) := by decide +kernel
theorem dX4_stonesTouching_1 : decode cX4_stonesTouching 1 = .ok (.istore 4, 2) := by decide +kernel
theorem dX4_stonesTouching_3 : decode cX4_stonesTouching 3 = .ok (.aload_n 0, 1) := by decide +kernel
theorem dX4_stonesTouching_4 : decode cX4_stonesTouching 4 = .ok (.iload_n 1, 1) := by decide +kernel
theorem dX4_stonesTouching_5 : decode cX4_stonesTouching 5 = .ok (.invokevirtual 71, 3) := by decide +kernel
theorem dX4_stonesTouching_8 : decode cX4_stonesTouching 8 = .ok (.istore 5, 2) := by decide +kernel
theorem dX4_stonesTouching_10 : decode cX4_stonesTouching 10 = .ok (.iconst 0, 1) := by decide +kernel
theorem dX4_stonesTouching_11 : decode cX4_stonesTouching 11 = .ok (.istore 6, 2) := by decide +kernel
theorem dX4_stonesTouching_13 : decode cX4_stonesTouching 13 = .ok (.iload 6, 2) := by decide +kernel
theorem dX4_stonesTouching_15 : decode cX4_stonesTouching 15 = .ok (.iload 5, 2) := by decide +kernel
theorem dX4_stonesTouching_17 : decode cX4_stonesTouching 17 = .ok (.if_icmp .ge 27, 3) := by decide +kernel
theorem dX4_stonesTouching_20 : decode cX4_stonesTouching 20 = .ok (.aload_n 0, 1) := by decide +kernel
theorem dX4_stonesTouching_21 : decode cX4_stonesTouching 21 = .ok (.iload_n 1, 1) := by decide +kernel
theorem dX4_stonesTouching_22 : decode cX4_stonesTouching 22 = .ok (.iload 6, 2) := by decide +kernel
theorem dX4_stonesTouching_24 : decode cX4_stonesTouching 24 = .ok (.invokevirtual 74, 3) := by decide +kernel
theorem dX4_stonesTouching_27 : decode cX4_stonesTouching 27 = .ok (.iload_n 2, 1) := by decide +kernel
theorem dX4_stonesTouching_28 : decode cX4_stonesTouching 28 = .ok (.iload_n 3, 1) := by decide +kernel
theorem dX4_stonesTouching_29 : decode cX4_stonesTouching 29 = .ok (.invokestatic 112, 3) := by decide +kernel
theorem dX4_stonesTouching_32 : decode cX4_stonesTouching 32 = .ok (.ifCond .eq 6, 3) := by decide +kernel
theorem dX4_stonesTouching_35 : decode cX4_stonesTouching 35 = .ok (.iinc 4 1, 3) := by decide +kernel
theorem dX4_stonesTouching_38 : decode cX4_stonesTouching 38 = .ok (.iinc 6 1, 3) := by decide +kernel
theorem dX4_stonesTouching_41 : decode cX4_stonesTouching 41 = .ok (.goto (-28), 3) := by decide +kernel
theorem dX4_stonesTouching_44 : decode cX4_stonesTouching 44 = .ok (.iload 4, 2) := by decide +kernel
theorem dX4_stonesTouching_46 : decode cX4_stonesTouching 46 = .ok (.ireturn, 1) := by decide +kernel
theorem dX4_noteRead_0 : decode cX4_noteRead 0 = .ok (.aload_n 0, 1) := by decide +kernel
theorem dX4_noteRead_1 : decode cX4_noteRead 1 = .ok (.dup, 1) := by decide +kernel
theorem dX4_noteRead_2 : decode cX4_noteRead 2 = .ok (.getfield 44, 3) := by decide +kernel
theorem dX4_noteRead_5 : decode cX4_noteRead 5 = .ok (.iconst 3, 1) := by decide +kernel
theorem dX4_noteRead_6 : decode cX4_noteRead 6 = .ok (.iadd, 1) := by decide +kernel
theorem dX4_noteRead_7 : decode cX4_noteRead 7 = .ok (.putfield 44, 3) := by decide +kernel
theorem dX4_noteRead_10 : decode cX4_noteRead 10 = .ok (.return_, 1) := by decide +kernel
theorem dX4_valueInLeaf_0 : decode cX4_valueInLeaf 0 = .ok (.iload_n 1, 1) := by decide +kernel
theorem dX4_valueInLeaf_1 : decode cX4_valueInLeaf 1 = .ok (.ifCond .lt 21, 3) := by decide +kernel
theorem dX4_valueInLeaf_4 : decode cX4_valueInLeaf 4 = .ok (.iload_n 1, 1) := by decide +kernel
theorem dX4_valueInLeaf_5 : decode cX4_valueInLeaf 5 = .ok (.aload_n 0, 1) := by decide +kernel
theorem dX4_valueInLeaf_6 : decode cX4_valueInLeaf 6 = .ok (.getfield 15, 3) := by decide +kernel
theorem dX4_valueInLeaf_9 : decode cX4_valueInLeaf 9 = .ok (.arraylength, 1) := by decide +kernel
theorem dX4_valueInLeaf_10 : decode cX4_valueInLeaf 10 = .ok (.if_icmp .ge 12, 3) := by decide +kernel
theorem dX4_valueInLeaf_13 : decode cX4_valueInLeaf 13 = .ok (.aload_n 0, 1) := by decide +kernel
theorem dX4_valueInLeaf_14 : decode cX4_valueInLeaf 14 = .ok (.getfield 15, 3) := by decide +kernel
theorem dX4_valueInLeaf_17 : decode cX4_valueInLeaf 17 = .ok (.iload_n 1, 1) := by decide +kernel
theorem dX4_valueInLeaf_18 : decode cX4_valueInLeaf 18 = .ok (.iaload, 1) := by decide +kernel
theorem dX4_valueInLeaf_19 : decode cX4_valueInLeaf 19 = .ok (.goto 5, 3) := by decide +kernel
theorem dX4_valueInLeaf_22 : decode cX4_valueInLeaf 22 = .ok (.bipush (-6), 2) := by decide +kernel
theorem dX4_valueInLeaf_24 : decode cX4_valueInLeaf 24 = .ok (.ireturn, 1) := by decide +kernel
set_option maxRecDepth 20000 in
theorem ggX4_valueAsRead_X4_valueInLeaf : GoodIn wsX4_valueAsRead wsX4_valueInLeaf := goodIn_r _ [5, 6, 47, 48, 49, 50, 51, 52, 53, 54, 55, 56] (by decide +kernel) (by decide +kernel)
set_option maxRecDepth 20000 in
theorem gX4_valueAsRead_X4_valueInLeaf : GoodIn wsX4_valueAsRead (wsV RX4 170 RX4 yX4_valueInLeaf wsX4_valueInLeaf) := goodIn_app (goodIn_of _ (by decide +kernel)) ggX4_valueAsRead_X4_valueInLeaf
set_option maxRecDepth 20000 in
theorem ggX4_valueAsRead_X2_lowNodeOf : GoodIn wsX4_valueAsRead wsX2_lowNodeOf := goodIn_r _ [10] (by decide +kernel) (by decide +kernel)
set_option maxRecDepth 20000 in
theorem gX4_valueAsRead_X2_lowNodeOf : GoodIn wsX4_valueAsRead (va_wsS RX4 173 yX2_lowNodeOf wsX2_lowNodeOf) := goodIn_app (goodIn_of _ (by decide +kernel)) ggX4_valueAsRead_X2_lowNodeOf
set_option maxRecDepth 20000 in
theorem ggX4_valueAsRead_X4_valueAbove : GoodIn wsX4_valueAsRead wsX4_valueAbove := goodIn_r _ [14, 15, 16, 17, 4, 18, 19, 20, 21, 22, 23, 24, 25, 26, 27, 28, 29, 30, 31, 32, 33, 34, 35, 36, 37, 38, 39, 40, 41, 42, 43, 47, 48, 49, 50, 51, 52, 53, 54, 55, 56] (by decide +kernel) (by decide +kernel)
set_option maxRecDepth 20000 in
theorem gX4_valueAsRead_X4_valueAbove : GoodIn wsX4_valueAsRead (wsV RX4 176 RX4 yX4_valueAbove wsX4_valueAbove) := goodIn_app (goodIn_of _ (by decide +kernel)) ggX4_valueAsRead_X4_valueAbove
set_option maxRecDepth 20000 in
theorem ggX4_valueAsRead_X2_parent : GoodIn wsX4_valueAsRead wsX2_parent := goodIn_r _ [46] (by decide +kernel) (by decide +kernel)
set_option maxRecDepth 20000 in
theorem gX4_valueAsRead_X2_parent : GoodIn wsX4_valueAsRead (va_wsS RX4 179 yX2_parent wsX2_parent) := goodIn_app (goodIn_of _ (by decide +kernel)) ggX4_valueAsRead_X2_parent
theorem dX4_valueAsRead_0 : decode cX4_valueAsRead 0 = .ok (.aload_n 0, 1) := by decide +kernel
theorem dX4_valueAsRead_1 : decode cX4_valueAsRead 1 = .ok (.iload_n 1, 1) := by decide +kernel
theorem dX4_valueAsRead_2 : decode cX4_valueAsRead 2 = .ok (.invokevirtual 170, 3) := by decide +kernel
theorem dX4_valueAsRead_5 : decode cX4_valueAsRead 5 = .ok (.istore_n 2, 1) := by decide +kernel
theorem dX4_valueAsRead_6 : decode cX4_valueAsRead 6 = .ok (.iload_n 1, 1) := by decide +kernel
theorem dX4_valueAsRead_7 : decode cX4_valueAsRead 7 = .ok (.invokestatic 173, 3) := by decide +kernel
theorem dX4_valueAsRead_10 : decode cX4_valueAsRead 10 = .ok (.istore_n 3, 1) := by decide +kernel
theorem dX4_valueAsRead_11 : decode cX4_valueAsRead 11 = .ok (.iconst 0, 1) := by decide +kernel
theorem dX4_valueAsRead_12 : decode cX4_valueAsRead 12 = .ok (.istore 4, 2) := by decide +kernel
theorem dX4_valueAsRead_14 : decode cX4_valueAsRead 14 = .ok (.iload 4, 2) := by decide +kernel
theorem dX4_valueAsRead_16 : decode cX4_valueAsRead 16 = .ok (.iconst 3, 1) := by decide +kernel
theorem dX4_valueAsRead_17 : decode cX4_valueAsRead 17 = .ok (.if_icmp .ge 22, 3) := by decide +kernel
theorem dX4_valueAsRead_20 : decode cX4_valueAsRead 20 = .ok (.aload_n 0, 1) := by decide +kernel
theorem dX4_valueAsRead_21 : decode cX4_valueAsRead 21 = .ok (.iload_n 3, 1) := by decide +kernel
theorem dX4_valueAsRead_22 : decode cX4_valueAsRead 22 = .ok (.iload_n 1, 1) := by decide +kernel
theorem dX4_valueAsRead_23 : decode cX4_valueAsRead 23 = .ok (.iload_n 2, 1) := by decide +kernel
theorem dX4_valueAsRead_24 : decode cX4_valueAsRead 24 = .ok (.invokevirtual 176, 3) := by decide +kernel
theorem dX4_valueAsRead_27 : decode cX4_valueAsRead 27 = .ok (.istore_n 2, 1) := by decide +kernel
theorem dX4_valueAsRead_28 : decode cX4_valueAsRead 28 = .ok (.iload_n 3, 1) := by decide +kernel
theorem dX4_valueAsRead_29 : decode cX4_valueAsRead 29 = .ok (.invokestatic 179, 3) := by decide +kernel
theorem dX4_valueAsRead_32 : decode cX4_valueAsRead 32 = .ok (.istore_n 3, 1) := by decide +kernel
theorem dX4_valueAsRead_33 : decode cX4_valueAsRead 33 = .ok (.iinc 4 1, 3) := by decide +kernel
theorem dX4_valueAsRead_36 : decode cX4_valueAsRead 36 = .ok (.goto (-22), 3) := by decide +kernel
theorem dX4_valueAsRead_39 : decode cX4_valueAsRead 39 = .ok (.iload_n 2, 1) := by decide +kernel
theorem dX4_valueAsRead_40 : decode cX4_valueAsRead 40 = .ok (.ireturn, 1) := by decide +kernel
set_option maxRecDepth 20000 in
theorem ggX4_valueAbove_X4_stonesIn : GoodIn wsX4_valueAbove wsX4_stonesIn := goodIn_r _ [5, 6, 31, 32, 33, 34, 35, 36, 37, 38, 39, 40] (by decide +kernel) (by decide +kernel)
set_option maxRecDepth 20000 in
theorem gX4_valueAbove_X4_stonesIn : GoodIn wsX4_valueAbove (wsV RX4 71 RX4 yX4_stonesIn wsX4_stonesIn) := goodIn_app (goodIn_of _ (by decide +kernel)) ggX4_valueAbove_X4_stonesIn
set_option maxRecDepth 20000 in
theorem ggX4_valueAbove_X4_stoneAt : GoodIn wsX4_valueAbove wsX4_stoneAt := goodIn_r _ [10, 11, 31, 32, 33, 34, 35, 36, 37, 38, 39, 40] (by decide +kernel) (by decide +kernel)
set_option maxRecDepth 20000 in
theorem gX4_valueAbove_X4_stoneAt : GoodIn wsX4_valueAbove (wsV RX4 74 RX4 yX4_stoneAt wsX4_stoneAt) := goodIn_app (goodIn_of _ (by decide +kernel)) ggX4_valueAbove_X4_stoneAt
set_option maxRecDepth 20000 in
theorem ggX4_valueAbove_X3_touches : GoodIn wsX4_valueAbove wsX3_touches := goodIn_r _ [15, 16, 17, 14, 18, 19, 20, 21] (by decide +kernel) (by decide +kernel)
set_option maxRecDepth 20000 in
theorem gX4_valueAbove_X3_touches : GoodIn wsX4_valueAbove (va_wsS RX4 112 yX3_touches wsX3_touches) := goodIn_app (goodIn_of _ (by decide +kernel)) ggX4_valueAbove_X3_touches
set_option maxRecDepth 20000 in
theorem ggX4_valueAbove_X3_valueAfter : GoodIn wsX4_valueAbove wsX3_valueAfter := goodIn_r _ [24, 25, 26, 14, 27, 28, 29, 30] (by decide +kernel) (by decide +kernel)
set_option maxRecDepth 20000 in
theorem gX4_valueAbove_X3_valueAfter : GoodIn wsX4_valueAbove (va_wsS RX4 146 yX3_valueAfter wsX3_valueAfter) := goodIn_app (goodIn_of _ (by decide +kernel)) ggX4_valueAbove_X3_valueAfter
theorem dX4_valueAbove_0 : decode cX4_valueAbove 0 = .ok (.aload_n 0, 1) := by decide +kernel
theorem dX4_valueAbove_1 : decode cX4_valueAbove 1 = .ok (.iload_n 1, 1) := by decide +kernel
theorem dX4_valueAbove_2 : decode cX4_valueAbove 2 = .ok (.invokevirtual 71, 3) := by decide +kernel
theorem dX4_valueAbove_5 : decode cX4_valueAbove 5 = .ok (.istore 4, 2) := by decide +kernel
theorem dX4_valueAbove_7 : decode cX4_valueAbove 7 = .ok (.iload_n 3, 1) := by decide +kernel
theorem dX4_valueAbove_8 : decode cX4_valueAbove 8 = .ok (.istore 5, 2) := by decide +kernel
theorem dX4_valueAbove_10 : decode cX4_valueAbove 10 = .ok (.iconst 0, 1) := by decide +kernel
theorem dX4_valueAbove_11 : decode cX4_valueAbove 11 = .ok (.istore 6, 2) := by decide +kernel
theorem dX4_valueAbove_13 : decode cX4_valueAbove 13 = .ok (.iload 6, 2) := by decide +kernel
theorem dX4_valueAbove_15 : decode cX4_valueAbove 15 = .ok (.iload 4, 2) := by decide +kernel
theorem dX4_valueAbove_17 : decode cX4_valueAbove 17 = .ok (.if_icmp .ge 37, 3) := by decide +kernel
theorem dX4_valueAbove_20 : decode cX4_valueAbove 20 = .ok (.aload_n 0, 1) := by decide +kernel
theorem dX4_valueAbove_21 : decode cX4_valueAbove 21 = .ok (.iload_n 1, 1) := by decide +kernel
theorem dX4_valueAbove_22 : decode cX4_valueAbove 22 = .ok (.iload 6, 2) := by decide +kernel
theorem dX4_valueAbove_24 : decode cX4_valueAbove 24 = .ok (.invokevirtual 74, 3) := by decide +kernel
theorem dX4_valueAbove_27 : decode cX4_valueAbove 27 = .ok (.istore 7, 2) := by decide +kernel
theorem dX4_valueAbove_29 : decode cX4_valueAbove 29 = .ok (.iload 7, 2) := by decide +kernel
theorem dX4_valueAbove_31 : decode cX4_valueAbove 31 = .ok (.iload_n 2, 1) := by decide +kernel
theorem dX4_valueAbove_32 : decode cX4_valueAbove 32 = .ok (.iload_n 2, 1) := by decide +kernel
theorem dX4_valueAbove_33 : decode cX4_valueAbove 33 = .ok (.invokestatic 112, 3) := by decide +kernel
theorem dX4_valueAbove_36 : decode cX4_valueAbove 36 = .ok (.ifCond .eq 12, 3) := by decide +kernel
theorem dX4_valueAbove_39 : decode cX4_valueAbove 39 = .ok (.iload 7, 2) := by decide +kernel
theorem dX4_valueAbove_41 : decode cX4_valueAbove 41 = .ok (.iload 5, 2) := by decide +kernel
theorem dX4_valueAbove_43 : decode cX4_valueAbove 43 = .ok (.invokestatic 146, 3) := by decide +kernel
theorem dX4_valueAbove_46 : decode cX4_valueAbove 46 = .ok (.istore 5, 2) := by decide +kernel
theorem dX4_valueAbove_48 : decode cX4_valueAbove 48 = .ok (.iinc 6 1, 3) := by decide +kernel
theorem dX4_valueAbove_51 : decode cX4_valueAbove 51 = .ok (.goto (-38), 3) := by decide +kernel
theorem dX4_valueAbove_54 : decode cX4_valueAbove 54 = .ok (.iload 5, 2) := by decide +kernel
theorem dX4_valueAbove_56 : decode cX4_valueAbove 56 = .ok (.ireturn, 1) := by decide +kernel
set_option maxRecDepth 20000 in
theorem ggX4_stonesWith_X2_lowNodeOf : GoodIn wsX4_stonesWith wsX2_lowNodeOf := goodIn_r _ [4] (by decide +kernel) (by decide +kernel)
set_option maxRecDepth 20000 in
theorem gX4_stonesWith_X2_lowNodeOf : GoodIn wsX4_stonesWith (va_wsS RX4 173 yX2_lowNodeOf wsX2_lowNodeOf) := goodIn_app (goodIn_of _ (by decide +kernel)) ggX4_stonesWith_X2_lowNodeOf
set_option maxRecDepth 20000 in
theorem ggX4_stonesWith_X4_stonesTouching : GoodIn wsX4_stonesWith wsX4_stonesTouching := goodIn_r _ [9, 10, 11, 12, 8, 13, 14, 15, 16, 17, 18, 19, 20, 21, 22, 23, 24, 25, 26, 27, 28, 29, 33, 34, 35, 36, 37, 38, 39, 40, 41, 42] (by decide +kernel) (by decide +kernel)
set_option maxRecDepth 20000 in
theorem gX4_stonesWith_X4_stonesTouching : GoodIn wsX4_stonesWith (wsV RX4 167 RX4 yX4_stonesTouching wsX4_stonesTouching) := goodIn_app (goodIn_of _ (by decide +kernel)) ggX4_stonesWith_X4_stonesTouching
set_option maxRecDepth 20000 in
theorem ggX4_stonesWith_X2_parent : GoodIn wsX4_stonesWith wsX2_parent := goodIn_r _ [32] (by decide +kernel) (by decide +kernel)
set_option maxRecDepth 20000 in
theorem gX4_stonesWith_X2_parent : GoodIn wsX4_stonesWith (va_wsS RX4 179 yX2_parent wsX2_parent) := goodIn_app (goodIn_of _ (by decide +kernel)) ggX4_stonesWith_X2_parent
theorem dX4_stonesWith_0 : decode cX4_stonesWith 0 = .ok (.iconst 0, 1) := by decide +kernel
theorem dX4_stonesWith_1 : decode cX4_stonesWith 1 = .ok (.istore_n 2, 1) := by decide +kernel
theorem dX4_stonesWith_2 : decode cX4_stonesWith 2 = .ok (.iload_n 1, 1) := by decide +kernel
theorem dX4_stonesWith_3 : decode cX4_stonesWith 3 = .ok (.invokestatic 173, 3) := by decide +kernel
theorem dX4_stonesWith_6 : decode cX4_stonesWith 6 = .ok (.istore_n 3, 1) := by decide +kernel
theorem dX4_stonesWith_7 : decode cX4_stonesWith 7 = .ok (.iconst 0, 1) := by decide +kernel
theorem dX4_stonesWith_8 : decode cX4_stonesWith 8 = .ok (.istore 4, 2) := by decide +kernel
theorem dX4_stonesWith_10 : decode cX4_stonesWith 10 = .ok (.iload 4, 2) := by decide +kernel
theorem dX4_stonesWith_12 : decode cX4_stonesWith 12 = .ok (.iconst 3, 1) := by decide +kernel
theorem dX4_stonesWith_13 : decode cX4_stonesWith 13 = .ok (.if_icmp .ge 24, 3) := by decide +kernel
theorem dX4_stonesWith_16 : decode cX4_stonesWith 16 = .ok (.iload_n 2, 1) := by decide +kernel
theorem dX4_stonesWith_17 : decode cX4_stonesWith 17 = .ok (.aload_n 0, 1) := by decide +kernel
theorem dX4_stonesWith_18 : decode cX4_stonesWith 18 = .ok (.iload_n 3, 1) := by decide +kernel
theorem dX4_stonesWith_19 : decode cX4_stonesWith 19 = .ok (.iload_n 1, 1) := by decide +kernel
theorem dX4_stonesWith_20 : decode cX4_stonesWith 20 = .ok (.iload_n 1, 1) := by decide +kernel
theorem dX4_stonesWith_21 : decode cX4_stonesWith 21 = .ok (.invokevirtual 167, 3) := by decide +kernel
theorem dX4_stonesWith_24 : decode cX4_stonesWith 24 = .ok (.iadd, 1) := by decide +kernel
theorem dX4_stonesWith_25 : decode cX4_stonesWith 25 = .ok (.istore_n 2, 1) := by decide +kernel
theorem dX4_stonesWith_26 : decode cX4_stonesWith 26 = .ok (.iload_n 3, 1) := by decide +kernel
theorem dX4_stonesWith_27 : decode cX4_stonesWith 27 = .ok (.invokestatic 179, 3) := by decide +kernel
theorem dX4_stonesWith_30 : decode cX4_stonesWith 30 = .ok (.istore_n 3, 1) := by decide +kernel
theorem dX4_stonesWith_31 : decode cX4_stonesWith 31 = .ok (.iinc 4 1, 3) := by decide +kernel
theorem dX4_stonesWith_34 : decode cX4_stonesWith 34 = .ok (.goto (-24), 3) := by decide +kernel
theorem dX4_stonesWith_37 : decode cX4_stonesWith 37 = .ok (.iload_n 2, 1) := by decide +kernel
theorem dX4_stonesWith_38 : decode cX4_stonesWith 38 = .ok (.ireturn, 1) := by decide +kernel
set_option maxRecDepth 20000 in
theorem ggX4_deepestWith_X2_lowNodeOf : GoodIn wsX4_deepestWith wsX2_lowNodeOf := goodIn_r _ [4] (by decide +kernel) (by decide +kernel)
set_option maxRecDepth 20000 in
theorem gX4_deepestWith_X2_lowNodeOf : GoodIn wsX4_deepestWith (va_wsS RX4 173 yX2_lowNodeOf wsX2_lowNodeOf) := goodIn_app (goodIn_of _ (by decide +kernel)) ggX4_deepestWith_X2_lowNodeOf
set_option maxRecDepth 20000 in
theorem ggX4_deepestWith_X4_stonesTouching : GoodIn wsX4_deepestWith wsX4_stonesTouching := goodIn_r _ [9, 10, 11, 12, 8, 13, 14, 15, 16, 17, 18, 19, 20, 21, 22, 23, 24, 25, 26, 27, 28, 29, 33, 34, 35, 36, 37, 38, 39, 40, 41, 42] (by decide +kernel) (by decide +kernel)
set_option maxRecDepth 20000 in
theorem gX4_deepestWith_X4_stonesTouching : GoodIn wsX4_deepestWith (wsV RX4 167 RX4 yX4_stonesTouching wsX4_stonesTouching) := goodIn_app (goodIn_of _ (by decide +kernel)) ggX4_deepestWith_X4_stonesTouching
set_option maxRecDepth 20000 in
theorem ggX4_deepestWith_X2_parent : GoodIn wsX4_deepestWith wsX2_parent := goodIn_r _ [32] (by decide +kernel) (by decide +kernel)
set_option maxRecDepth 20000 in
theorem gX4_deepestWith_X2_parent : GoodIn wsX4_deepestWith (va_wsS RX4 179 yX2_parent wsX2_parent) := goodIn_app (goodIn_of _ (by decide +kernel)) ggX4_deepestWith_X2_parent
theorem dX4_deepestWith_0 : decode cX4_deepestWith 0 = .ok (.iload_n 1, 1) := by decide +kernel
theorem dX4_deepestWith_1 : decode cX4_deepestWith 1 = .ok (.invokestatic 173, 3) := by decide +kernel
theorem dX4_deepestWith_4 : decode cX4_deepestWith 4 = .ok (.istore_n 2, 1) := by decide +kernel
theorem dX4_deepestWith_5 : decode cX4_deepestWith 5 = .ok (.iconst 0, 1) := by decide +kernel
theorem dX4_deepestWith_6 : decode cX4_deepestWith 6 = .ok (.istore_n 3, 1) := by decide +kernel
theorem dX4_deepestWith_7 : decode cX4_deepestWith 7 = .ok (.iload_n 3, 1) := by decide +kernel
theorem dX4_deepestWith_8 : decode cX4_deepestWith 8 = .ok (.iconst 3, 1) := by decide +kernel
theorem dX4_deepestWith_9 : decode cX4_deepestWith 9 = .ok (.if_icmp .ge 26, 3) := by decide +kernel
theorem dX4_deepestWith_12 : decode cX4_deepestWith 12 = .ok (.aload_n 0, 1) := by decide +kernel
theorem dX4_deepestWith_13 : decode cX4_deepestWith 13 = .ok (.iload_n 2, 1) := by decide +kernel
theorem dX4_deepestWith_14 : decode cX4_deepestWith 14 = .ok (.iload_n 1, 1) := by decide +kernel
theorem dX4_deepestWith_15 : decode cX4_deepestWith 15 = .ok (.iload_n 1, 1) := by decide +kernel
theorem dX4_deepestWith_16 : decode cX4_deepestWith 16 = .ok (.invokevirtual 167, 3) := by decide +kernel
theorem dX4_deepestWith_19 : decode cX4_deepestWith 19 = .ok (.ifCond .le 5, 3) := by decide +kernel
theorem dX4_deepestWith_22 : decode cX4_deepestWith 22 = .ok (.iload_n 2, 1) := by decide +kernel
theorem dX4_deepestWith_23 : decode cX4_deepestWith 23 = .ok (.ireturn, 1) := by decide +kernel
theorem dX4_deepestWith_24 : decode cX4_deepestWith 24 = .ok (.iload_n 2, 1) := by decide +kernel
theorem dX4_deepestWith_25 : decode cX4_deepestWith 25 = .ok (.invokestatic 179, 3) := by decide +kernel
theorem dX4_deepestWith_28 : decode cX4_deepestWith 28 = .ok (.istore_n 2, 1) := by decide +kernel
theorem dX4_deepestWith_29 : decode cX4_deepestWith 29 = .ok (.iinc 3 1, 3) := by decide +kernel
theorem dX4_deepestWith_32 : decode cX4_deepestWith 32 = .ok (.goto (-25), 3) := by decide +kernel
theorem dX4_deepestWith_35 : decode cX4_deepestWith 35 = .ok (.bipush (-6), 2) := by decide +kernel
theorem dX4_deepestWith_37 : decode cX4_deepestWith 37 = .ok (.ireturn, 1) := by decide +kernel
set_option maxRecDepth 20000 in
theorem ggX4_keysPresent_X4_valueAsRead : GoodIn wsX4_keysPresent wsX4_valueAsRead := goodIn_r _ [5, 6, 7, 8, 4, 9, 10, 11, 12, 13, 14, 15, 16, 17, 18, 19, 20, 21, 22, 23, 24, 25, 26, 27, 28, 29, 30, 31, 32, 33, 34, 35, 36, 37, 38, 39, 40, 41, 42, 43, 44, 45, 46, 47, 48, 49, 50, 51, 52, 53, 54, 55, 56, 57, 58, 59, 60] (by decide +kernel) (by decide +kernel)
set_option maxRecDepth 20000 in
theorem gX4_keysPresent_X4_valueAsRead : GoodIn wsX4_keysPresent (wsV RX4 182 RX4 yX4_valueAsRead wsX4_valueAsRead) := goodIn_app (goodIn_of _ (by decide +kernel)) ggX4_keysPresent_X4_valueAsRead
theorem dX4_keysPresent_0 : decode cX4_keysPresent 0 = .ok (.iconst 0, 1) := by decide +kernel
theorem dX4_keysPresent_1 : decode cX4_keysPresent 1 = .ok (.istore_n 1, 1) := by decide +kernel
theorem dX4_keysPresent_2 : decode cX4_keysPresent 2 = .ok (.iconst 0, 1) := by decide +kernel
theorem dX4_keysPresent_3 : decode cX4_keysPresent 3 = .ok (.istore_n 2, 1) := by decide +kernel
theorem dX4_keysPresent_4 : decode cX4_keysPresent 4 = .ok (.iload_n 2, 1) := by decide +kernel
theorem dX4_keysPresent_5 : decode cX4_keysPresent 5 = .ok (.bipush 27, 2) := by decide +kernel
theorem dX4_keysPresent_7 : decode cX4_keysPresent 7 = .ok (.if_icmp .ge 22, 3) := by decide +kernel
theorem dX4_keysPresent_10 : decode cX4_keysPresent 10 = .ok (.aload_n 0, 1) := by decide +kernel
theorem dX4_keysPresent_11 : decode cX4_keysPresent 11 = .ok (.iload_n 2, 1) := by decide +kernel
theorem dX4_keysPresent_12 : decode cX4_keysPresent 12 = .ok (.invokevirtual 182, 3) := by decide +kernel
theorem dX4_keysPresent_15 : decode cX4_keysPresent 15 = .ok (.bipush (-6), 2) := by decide +kernel
theorem dX4_keysPresent_17 : decode cX4_keysPresent 17 = .ok (.if_icmp .eq 6, 3) := by decide +kernel
theorem dX4_keysPresent_20 : decode cX4_keysPresent 20 = .ok (.iinc 1 1, 3) := by decide +kernel
theorem dX4_keysPresent_23 : decode cX4_keysPresent 23 = .ok (.iinc 2 1, 3) := by decide +kernel
theorem dX4_keysPresent_26 : decode cX4_keysPresent 26 = .ok (.goto (-22), 3) := by decide +kernel
theorem dX4_keysPresent_29 : decode cX4_keysPresent 29 = .ok (.iload_n 1, 1) := by decide +kernel
theorem dX4_keysPresent_30 : decode cX4_keysPresent 30 = .ok (.ireturn, 1) := by decide +kernel
set_option maxRecDepth 20000 in
theorem ggX4_sumAsRead_X4_valueAsRead : GoodIn wsX4_sumAsRead wsX4_valueAsRead := goodIn_r _ [5, 6, 7, 8, 4, 9, 10, 11, 12, 13, 14, 15, 16, 17, 18, 19, 20, 21, 22, 23, 24, 25, 26, 27, 28, 29, 30, 31, 32, 33, 34, 35, 36, 37, 38, 39, 40, 41, 42, 43, 44, 45, 46, 47, 48, 49, 50, 51, 52, 53, 54, 55, 56, 57, 58, 59, 60] (by decide +kernel) (by decide +kernel)
set_option maxRecDepth 20000 in
theorem gX4_sumAsRead_X4_valueAsRead : GoodIn wsX4_sumAsRead (wsV RX4 182 RX4 yX4_valueAsRead wsX4_valueAsRead) := goodIn_app (goodIn_of _ (by decide +kernel)) ggX4_sumAsRead_X4_valueAsRead
theorem dX4_sumAsRead_0 : decode cX4_sumAsRead 0 = .ok (.iconst 0, 1) := by decide +kernel
theorem dX4_sumAsRead_1 : decode cX4_sumAsRead 1 = .ok (.istore_n 3, 1) := by decide +kernel
theorem dX4_sumAsRead_2 : decode cX4_sumAsRead 2 = .ok (.iload_n 1, 1) := by decide +kernel
theorem dX4_sumAsRead_3 : decode cX4_sumAsRead 3 = .ok (.istore 4, 2) := by decide +kernel
theorem dX4_sumAsRead_5 : decode cX4_sumAsRead 5 = .ok (.iload 4, 2) := by decide +kernel
theorem dX4_sumAsRead_7 : decode cX4_sumAsRead 7 = .ok (.iload_n 2, 1) := by decide +kernel
theorem dX4_sumAsRead_8 : decode cX4_sumAsRead 8 = .ok (.if_icmp .gt 29, 3) := by decide +kernel
theorem dX4_sumAsRead_11 : decode cX4_sumAsRead 11 = .ok (.aload_n 0, 1) := by decide +kernel
theorem dX4_sumAsRead_12 : decode cX4_sumAsRead 12 = .ok (.iload 4, 2) := by decide +kernel
theorem dX4_sumAsRead_14 : decode cX4_sumAsRead 14 = .ok (.invokevirtual 182, 3) := by decide +kernel
theorem dX4_sumAsRead_17 : decode cX4_sumAsRead 17 = .ok (.istore 5, 2) := by decide +kernel
theorem dX4_sumAsRead_19 : decode cX4_sumAsRead 19 = .ok (.iload 5, 2) := by decide +kernel
theorem dX4_sumAsRead_21 : decode cX4_sumAsRead 21 = .ok (.bipush (-6), 2) := by decide +kernel
theorem dX4_sumAsRead_23 : decode cX4_sumAsRead 23 = .ok (.if_icmp .eq 8, 3) := by decide +kernel
theorem dX4_sumAsRead_26 : decode cX4_sumAsRead 26 = .ok (.iload_n 3, 1) := by decide +kernel
theorem dX4_sumAsRead_27 : decode cX4_sumAsRead 27 = .ok (.iload 5, 2) := by decide +kernel
theorem dX4_sumAsRead_29 : decode cX4_sumAsRead 29 = .ok (.iadd, 1) := by decide +kernel
theorem dX4_sumAsRead_30 : decode cX4_sumAsRead 30 = .ok (.istore_n 3, 1) := by decide +kernel
theorem dX4_sumAsRead_31 : decode cX4_sumAsRead 31 = .ok (.iinc 4 1, 3) := by decide +kernel
theorem dX4_sumAsRead_34 : decode cX4_sumAsRead 34 = .ok (.goto (-29), 3) := by decide +kernel
theorem dX4_sumAsRead_37 : decode cX4_sumAsRead 37 = .ok (.iload_n 3, 1) := by decide +kernel
theorem dX4_sumAsRead_38 : decode cX4_sumAsRead 38 = .ok (.ireturn, 1) := by decide +kernel
set_option maxRecDepth 20000 in
theorem ggX5_init_X4_init : GoodIn wsX5_init wsX4_init := goodIn_r _ [22, 23, 2, 3, 24, 25, 26, 27, 28, 29, 30, 31, 45, 46, 47, 48, 49, 50, 51, 52, 53, 54] (by decide +kernel) (by decide +kernel)
set_option maxRecDepth 20000 in
theorem gX5_init_X4_init : GoodIn wsX5_init (wsX4_init) := ggX5_init_X4_init
set_option maxRecDepth 20000 in
theorem ggX5_init_X0_init : GoodIn wsX5_init wsX0_init := goodIn_r _ [34, 35, 2, 3, 36, 37, 5, 6, 38, 21, 22, 23, 24, 25, 26, 27, 28, 29, 30, 31, 61, 62, 63, 45, 46, 47, 48, 49, 50, 51, 52, 53, 54] (by decide +kernel) (by decide +kernel)
set_option maxRecDepth 20000 in
theorem gX5_init_X0_init : GoodIn wsX5_init (wsX0_init) := ggX5_init_X0_init
set_option maxRecDepth 20000 in
theorem ggX5_init_X1_init : GoodIn wsX5_init wsX1_init := goodIn_r _ [40, 41, 2, 3, 42, 43, 24, 44, 64, 65, 66, 67, 68] (by decide +kernel) (by decide +kernel)
set_option maxRecDepth 20000 in
theorem gX5_init_X1_init_n36 : GoodIn wsX5_init (wsX1_init) := ggX5_init_X1_init
theorem dX5_init_0 : decode cX5_init 0 = .ok (.aload_n 0, 1) := by decide +kernel
theorem dX5_init_1 : decode cX5_init 1 = .ok (.invokespecial 3, 3) := by decide +kernel
theorem dX5_init_4 : decode cX5_init 4 = .ok (.aload_n 0, 1) := by decide +kernel
theorem dX5_init_5 : decode cX5_init 5 = .ok (.new 9, 3) := by decide +kernel
theorem dX5_init_8 : decode cX5_init 8 = .ok (.dup, 1) := by decide +kernel
theorem dX5_init_9 : decode cX5_init 9 = .ok (.invokespecial 11, 3) := by decide +kernel
theorem dX5_init_12 : decode cX5_init 12 = .ok (.putfield 12, 3) := by decide +kernel
theorem dX5_init_15 : decode cX5_init 15 = .ok (.aload_n 0, 1) := by decide +kernel
theorem dX5_init_16 : decode cX5_init 16 = .ok (.new 9, 3) := by decide +kernel
theorem dX5_init_19 : decode cX5_init 19 = .ok (.dup, 1) := by decide +kernel
theorem dX5_init_20 : decode cX5_init 20 = .ok (.invokespecial 11, 3) := by decide +kernel
theorem dX5_init_23 : decode cX5_init 23 = .ok (.putfield 16, 3) := by decide +kernel
theorem dX5_init_26 : decode cX5_init 26 = .ok (.aload_n 0, 1) := by decide +kernel
theorem dX5_init_27 : decode cX5_init 27 = .ok (.new 19, 3) := by decide +kernel
theorem dX5_init_30 : decode cX5_init 30 = .ok (.dup, 1) := by decide +kernel
theorem dX5_init_31 : decode cX5_init 31 = .ok (.invokespecial 21, 3) := by decide +kernel
theorem dX5_init_34 : decode cX5_init 34 = .ok (.putfield 22, 3) := by decide +kernel
theorem dX5_init_37 : decode cX5_init 37 = .ok (.aload_n 0, 1) := by decide +kernel
theorem dX5_init_38 : decode cX5_init 38 = .ok (.iconst 2, 1) := by decide +kernel
theorem dX5_init_39 : decode cX5_init 39 = .ok (.anewarray 9, 3) := by decide +kernel
theorem dX5_init_42 : decode cX5_init 42 = .ok (.putfield 26, 3) := by decide +kernel
theorem dX5_init_45 : decode cX5_init 45 = .ok (.aload_n 0, 1) := by decide +kernel
theorem dX5_init_46 : decode cX5_init 46 = .ok (.iconst 2, 1) := by decide +kernel
theorem dX5_init_47 : decode cX5_init 47 = .ok (.newarray .boolean, 2) := by decide +kernel
theorem dX5_init_49 : decode cX5_init 49 = .ok (.putfield 30, 3) := by decide +kernel
theorem dX5_init_52 : decode cX5_init 52 = .ok (.aload_n 0, 1) := by decide +kernel
theorem dX5_init_53 : decode cX5_init 53 = .ok (.new 34, 3) := by decide +kernel
theorem dX5_init_56 : decode cX5_init 56 = .ok (.dup, 1) := by decide +kernel
theorem dX5_init_57 : decode cX5_init 57 = .ok (.invokespecial 36, 3) := by decide +kernel
theorem dX5_init_60 : decode cX5_init 60 = .ok (.putfield 37, 3) := by decide +kernel
theorem dX5_init_63 : decode cX5_init 63 = .ok (.iconst 0, 1) := by decide +kernel
theorem dX5_init_64 : decode cX5_init 64 = .ok (.istore_n 1, 1) := by decide +kernel
theorem dX5_init_65 : decode cX5_init 65 = .ok (.iload_n 1, 1) := by decide +kernel
theorem dX5_init_66 : decode cX5_init 66 = .ok (.aload_n 0, 1) := by decide +kernel
theorem dX5_init_67 : decode cX5_init 67 = .ok (.getfield 26, 3) := by decide +kernel
theorem dX5_init_70 : decode cX5_init 70 = .ok (.arraylength, 1) := by decide +kernel
theorem dX5_init_71 : decode cX5_init 71 = .ok (.if_icmp .ge 22, 3) := by decide +kernel
theorem dX5_init_74 : decode cX5_init 74 = .ok (.aload_n 0, 1) := by decide +kernel
theorem dX5_init_75 : decode cX5_init 75 = .ok (.getfield 26, 3) := by decide +kernel
theorem dX5_init_78 : decode cX5_init 78 = .ok (.iload_n 1, 1) := by decide +kernel
theorem dX5_init_79 : decode cX5_init 79 = .ok (.new 9, 3) := by decide +kernel
theorem dX5_init_82 : decode cX5_init 82 = .ok (.dup, 1) := by decide +kernel
theorem dX5_init_83 : decode cX5_init 83 = .ok (.invokespecial 11, 3) := by decide +kernel
theorem dX5_init_86 : decode cX5_init 86 = .ok (.aastore, 1) := by decide +kernel
theorem dX5_init_87 : decode cX5_init 87 = .ok (.iinc 1 1, 3) := by decide +kernel
theorem dX5_init_90 : decode cX5_init 90 = .ok (.goto (-25), 3) := by decide +kernel
theorem dX5_init_93 : decode cX5_init 93 = .ok (.return_, 1) := by decide +kernel
set_option maxRecDepth 20000 in
theorem ggX5_set_X5_isSettingValue : GoodIn wsX5_set wsX5_isSettingValue := goodIn_r _ [6] (by decide +kernel) (by decide +kernel)
set_option maxRecDepth 20000 in
theorem gX5_set_X5_isSettingValue : GoodIn wsX5_set (va_wsS RX5 41 yX5_isSettingValue wsX5_isSettingValue) := goodIn_app (goodIn_of _ (by decide +kernel)) ggX5_set_X5_isSettingValue
set_option maxRecDepth 20000 in
theorem ggX5_set_X0_record : GoodIn wsX5_set wsX0_record := goodIn_r _ [11, 12, 13, 14, 15, 16, 17, 18, 19, 20, 21, 22, 23, 24, 25, 26, 27, 28, 29, 30, 31, 32, 33, 34, 35, 36, 37, 38, 39, 40, 41, 56, 57, 58, 59, 60, 61, 62, 63, 64, 65, 66, 67, 68] (by decide +kernel) (by decide +kernel)
set_option maxRecDepth 20000 in
theorem gX5_set_X0_record : GoodIn wsX5_set (wsV RX5 45 RX0 yX0_record wsX0_record) := goodIn_app (goodIn_of _ (by decide +kernel)) ggX5_set_X0_record
set_option maxRecDepth 20000 in
theorem ggX5_set_X4_changeSetting : GoodIn wsX5_set wsX4_changeSetting := goodIn_r _ [45, 24, 46, 47, 48, 22, 49, 59, 60, 61, 62, 63, 64, 65, 66, 67, 68] (by decide +kernel) (by decide +kernel)
set_option maxRecDepth 20000 in
theorem gX5_set_X4_changeSetting : GoodIn wsX5_set (wsV RX5 49 RX4 yX4_changeSetting wsX4_changeSetting) := goodIn_app (goodIn_of _ (by decide +kernel)) ggX5_set_X4_changeSetting
theorem dX5_set_0 : decode cX5_set 0 = .ok (.iload_n 1, 1) := by decide +kernel
theorem dX5_set_1 : decode cX5_set 1 = .ok (.iload_n 2, 1) := by decide +kernel
theorem dX5_set_2 : decode cX5_set 2 = .ok (.invokestatic 41, 3) := by decide +kernel
theorem dX5_set_5 : decode cX5_set 5 = .ok (.ifCond .ne 6, 3) := by decide +kernel
theorem dX5_set_8 : decode cX5_set 8 = .ok (.bipush (-2), 2) := by decide +kernel
theorem dX5_set_10 : decode cX5_set 10 = .ok (.ireturn, 1) := by decide +kernel
theorem dX5_set_11 : decode cX5_set 11 = .ok (.aload_n 0, 1) := by decide +kernel
theorem dX5_set_12 : decode cX5_set 12 = .ok (.getfield 22, 3) := by decide +kernel
theorem dX5_set_15 : decode cX5_set 15 = .ok (.aload_n 0, 1) := by decide +kernel
theorem dX5_set_16 : decode cX5_set 16 = .ok (.getfield 12, 3) := by decide +kernel
theorem dX5_set_19 : decode cX5_set 19 = .ok (.invokevirtual 45, 3) := by decide +kernel
theorem dX5_set_22 : decode cX5_set 22 = .ok (.aload_n 0, 1) := by decide +kernel
theorem dX5_set_23 : decode cX5_set 23 = .ok (.getfield 12, 3) := by decide +kernel
theorem dX5_set_26 : decode cX5_set 26 = .ok (.iload_n 1, 1) := by decide +kernel
theorem dX5_set_27 : decode cX5_set 27 = .ok (.iload_n 2, 1) := by decide +kernel
theorem dX5_set_28 : decode cX5_set 28 = .ok (.invokevirtual 49, 3) := by decide +kernel
theorem dX5_set_31 : decode cX5_set 31 = .ok (.ireturn, 1) := by decide +kernel
set_option maxRecDepth 20000 in
theorem ggX5_send_X5_isNumberFor : GoodIn wsX5_send wsX5_isNumberFor := goodIn_r _ [6] (by decide +kernel) (by decide +kernel)
set_option maxRecDepth 20000 in
theorem gX5_send_X5_isNumberFor : GoodIn wsX5_send (va_wsS RX5 53 yX5_isNumberFor wsX5_isNumberFor) := goodIn_app (goodIn_of _ (by decide +kernel)) ggX5_send_X5_isNumberFor
set_option maxRecDepth 20000 in
theorem ggX5_send_X5_isPiece : GoodIn wsX5_send wsX5_isPiece := goodIn_r _ [9, 10, 11, 5, 12] (by decide +kernel) (by decide +kernel)
set_option maxRecDepth 20000 in
theorem gX5_send_X5_isPiece : GoodIn wsX5_send (va_wsS RX5 56 yX5_isPiece wsX5_isPiece) := goodIn_app (goodIn_of _ (by decide +kernel)) ggX5_send_X5_isPiece
set_option maxRecDepth 20000 in
theorem ggX5_send_X0_record : GoodIn wsX5_send wsX0_record := goodIn_r _ [17, 18, 19, 20, 21, 22, 23, 24, 25, 26, 27, 28, 29, 30, 31, 32, 33, 34, 35, 36, 37, 38, 39, 40, 41, 42, 43, 44, 45, 46, 47, 187, 188, 189, 190, 191, 192, 193, 194, 195, 196, 197, 198, 199] (by decide +kernel) (by decide +kernel)
set_option maxRecDepth 20000 in
theorem gX5_send_X0_record : GoodIn wsX5_send (wsV RX5 45 RX0 yX0_record wsX0_record) := goodIn_app (goodIn_of _ (by decide +kernel)) ggX5_send_X0_record
set_option maxRecDepth 20000 in
theorem ggX5_send_X3_of : GoodIn wsX5_send wsX3_of := goodIn_r _ [51] (by decide +kernel) (by decide +kernel)
set_option maxRecDepth 20000 in
theorem gX5_send_X3_of : GoodIn wsX5_send (va_wsS RX5 59 yX3_of wsX3_of) := goodIn_app (goodIn_of _ (by decide +kernel)) ggX5_send_X3_of
set_option maxRecDepth 20000 in
theorem ggX5_send_X4_drop : GoodIn wsX5_send wsX4_drop := goodIn_r _ [55, 37, 56, 57, 58, 28, 59, 60, 61, 62, 63, 32, 64, 65, 66, 67, 68, 69, 70, 71, 33, 72, 73, 74, 75, 76, 77, 78, 79, 80, 81, 82, 30, 83, 84, 85, 86, 36, 87, 88, 50, 89, 90, 91, 92, 93, 94, 95, 96, 97, 98, 99, 100, 101, 102, 103, 104, 105, 106, 107, 108, 109, 110, 111, 112, 113, 114, 49, 51, 115, 116, 117, 118, 119, 120, 121, 122, 123, 124, 125, 126, 127, 128, 129, 130, 131, 132, 133, 134, 135, 136, 137, 138, 139, 140, 141, 142, 143, 144, 145, 146, 34, 35, 147, 148, 149, 150, 151, 152, 153, 154, 155, 23, 156, 157, 22, 24, 158, 159, 160, 161, 162, 163, 164, 165, 166, 167, 31, 38, 168, 169, 170, 171, 172, 173, 190, 191, 192, 193, 194, 195, 196, 197, 198, 199] (by decide +kernel) (by decide +kernel)
set_option maxRecDepth 20000 in
theorem gX5_send_X4_drop : GoodIn wsX5_send (wsV RX5 65 RX4 yX4_drop wsX4_drop) := goodIn_app (goodIn_of _ (by decide +kernel)) ggX5_send_X4_drop
set_option maxRecDepth 20000 in
theorem ggX5_send_X4_stones : GoodIn wsX5_send wsX4_stones := goodIn_r _ [177, 32, 178, 179, 28, 180, 190, 191, 192, 193, 194, 195, 196, 197, 198, 199] (by decide +kernel) (by decide +kernel)
set_option maxRecDepth 20000 in
theorem gX5_send_X4_stones : GoodIn wsX5_send (wsV RX5 69 RX4 yX4_stones wsX4_stones) := goodIn_app (goodIn_of _ (by decide +kernel)) ggX5_send_X4_stones
theorem dX5_send_0 : decode cX5_send 0 = .ok (.iload_n 1, 1) := by decide +kernel
theorem dX5_send_1 : decode cX5_send 1 = .ok (.ifCond .lt 17, 3) := by decide +kernel
theorem dX5_send_4 : decode cX5_send 4 = .ok (.iload_n 1, 1) := by decide +kernel
theorem dX5_send_5 : decode cX5_send 5 = .ok (.iconst 2, 1) := by decide +kernel
theorem dX5_send_6 : decode cX5_send 6 = .ok (.if_icmp .gt 12, 3) := by decide +kernel
theorem dX5_send_9 : decode cX5_send 9 = .ok (.iload_n 1, 1) := by decide +kernel
theorem dX5_send_10 : decode cX5_send 10 = .ok (.iload 4, 2) := by decide +kernel
theorem dX5_send_12 : decode cX5_send 12 = .ok (.invokestatic 53, 3) := by decide +kernel
theorem dX5_send_15 : decode cX5_send 15 = .ok (.ifCond .ne 6, 3) := by decide +kernel
theorem dX5_send_18 : decode cX5_send 18 = .ok (.bipush (-2), 2) := by decide +kernel
theorem dX5_send_20 : decode cX5_send 20 = .ok (.ireturn, 1) := by decide +kernel
theorem dX5_send_21 : decode cX5_send 21 = .ok (.iload_n 2, 1) := by decide +kernel
theorem dX5_send_22 : decode cX5_send 22 = .ok (.iload_n 3, 1) := by decide +kernel
theorem dX5_send_23 : decode cX5_send 23 = .ok (.invokestatic 56, 3) := by decide +kernel
theorem dX5_send_26 : decode cX5_send 26 = .ok (.ifCond .eq 13, 3) := by decide +kernel
theorem dX5_send_29 : decode cX5_send 29 = .ok (.iload_n 1, 1) := by decide +kernel
theorem dX5_send_30 : decode cX5_send 30 = .ok (.iconst 1, 1) := by decide +kernel
theorem dX5_send_31 : decode cX5_send 31 = .ok (.if_icmp .eq 10, 3) := by decide +kernel
theorem dX5_send_34 : decode cX5_send 34 = .ok (.iload_n 3, 1) := by decide +kernel
theorem dX5_send_35 : decode cX5_send 35 = .ok (.iload_n 2, 1) := by decide +kernel
theorem dX5_send_36 : decode cX5_send 36 = .ok (.if_icmp .eq 5, 3) := by decide +kernel
theorem dX5_send_39 : decode cX5_send 39 = .ok (.iconst (-1), 1) := by decide +kernel
theorem dX5_send_40 : decode cX5_send 40 = .ok (.ireturn, 1) := by decide +kernel
theorem dX5_send_41 : decode cX5_send 41 = .ok (.aload_n 0, 1) := by decide +kernel
theorem dX5_send_42 : decode cX5_send 42 = .ok (.getfield 22, 3) := by decide +kernel
theorem dX5_send_45 : decode cX5_send 45 = .ok (.aload_n 0, 1) := by decide +kernel
theorem dX5_send_46 : decode cX5_send 46 = .ok (.getfield 12, 3) := by decide +kernel
theorem dX5_send_49 : decode cX5_send 49 = .ok (.invokevirtual 45, 3) := by decide +kernel
theorem dX5_send_52 : decode cX5_send 52 = .ok (.aload_n 0, 1) := by decide +kernel
theorem dX5_send_53 : decode cX5_send 53 = .ok (.getfield 12, 3) := by decide +kernel
theorem dX5_send_56 : decode cX5_send 56 = .ok (.iload_n 1, 1) := by decide +kernel
theorem dX5_send_57 : decode cX5_send 57 = .ok (.iload_n 2, 1) := by decide +kernel
theorem dX5_send_58 : decode cX5_send 58 = .ok (.iload_n 3, 1) := by decide +kernel
theorem dX5_send_59 : decode cX5_send 59 = .ok (.iload 4, 2) := by decide +kernel
theorem dX5_send_61 : decode cX5_send 61 = .ok (.invokestatic 59, 3) := by decide +kernel
theorem dX5_send_64 : decode cX5_send 64 = .ok (.invokevirtual 65, 3) := by decide +kernel
theorem dX5_send_67 : decode cX5_send 67 = .ok (.aload_n 0, 1) := by decide +kernel
theorem dX5_send_68 : decode cX5_send 68 = .ok (.getfield 12, 3) := by decide +kernel
theorem dX5_send_71 : decode cX5_send 71 = .ok (.invokevirtual 69, 3) := by decide +kernel
theorem dX5_send_74 : decode cX5_send 74 = .ok (.ireturn, 1) := by decide +kernel
set_option maxRecDepth 20000 in
theorem ggX5_empty_X5_isNode : GoodIn wsX5_empty wsX5_isNode := goodIn_r _ [6] (by decide +kernel) (by decide +kernel)
set_option maxRecDepth 20000 in
theorem gX5_empty_X5_isNode : GoodIn wsX5_empty (va_wsS RX5 73 yX5_isNode wsX5_isNode) := goodIn_app (goodIn_of _ (by decide +kernel)) ggX5_empty_X5_isNode
set_option maxRecDepth 20000 in
theorem ggX5_empty_X0_record : GoodIn wsX5_empty wsX0_record := goodIn_r _ [11, 12, 13, 14, 15, 16, 17, 18, 19, 20, 21, 22, 23, 24, 25, 26, 27, 28, 29, 30, 31, 32, 33, 34, 35, 36, 37, 38, 39, 40, 41, 183, 184, 185, 186, 187, 188, 189, 190, 191, 192, 193, 194, 195] (by decide +kernel) (by decide +kernel)
set_option maxRecDepth 20000 in
theorem gX5_empty_X0_record : GoodIn wsX5_empty (wsV RX5 45 RX0 yX0_record wsX0_record) := goodIn_app (goodIn_of _ (by decide +kernel)) ggX5_empty_X0_record
set_option maxRecDepth 20000 in
theorem ggX5_empty_X4_emptyBuffer : GoodIn wsX5_empty wsX4_emptyBuffer := goodIn_r _ [45, 46, 47, 48, 49, 50, 51, 52, 22, 53, 28, 29, 54, 55, 56, 57, 58, 59, 60, 61, 62, 63, 64, 65, 66, 67, 68, 69, 70, 71, 72, 26, 73, 74, 75, 76, 27, 77, 78, 79, 80, 81, 82, 83, 84, 85, 86, 87, 88, 89, 90, 91, 92, 93, 94, 95, 96, 97, 98, 99, 100, 101, 102, 103, 104, 105, 106, 107, 17, 108, 109, 16, 18, 110, 111, 112, 113, 114, 115, 116, 117, 118, 119, 120, 121, 122, 123, 124, 125, 126, 127, 128, 129, 130, 25, 32, 131, 132, 133, 134, 135, 136, 137, 138, 139, 140, 141, 142, 143, 144, 24, 145, 146, 147, 148, 30, 149, 150, 151, 152, 153, 154, 155, 156, 157, 158, 159, 160, 161, 162, 163, 164, 165, 166, 167, 168, 169, 186, 187, 188, 189, 190, 191, 192, 193, 194, 195] (by decide +kernel) (by decide +kernel)
set_option maxRecDepth 20000 in
theorem gX5_empty_X4_emptyBuffer : GoodIn wsX5_empty (wsV RX5 77 RX4 yX4_emptyBuffer wsX4_emptyBuffer) := goodIn_app (goodIn_of _ (by decide +kernel)) ggX5_empty_X4_emptyBuffer
set_option maxRecDepth 20000 in
theorem ggX5_empty_X4_stones : GoodIn wsX5_empty wsX4_stones := goodIn_r _ [173, 26, 174, 175, 22, 176, 186, 187, 188, 189, 190, 191, 192, 193, 194, 195] (by decide +kernel) (by decide +kernel)
set_option maxRecDepth 20000 in
theorem gX5_empty_X4_stones : GoodIn wsX5_empty (wsV RX5 69 RX4 yX4_stones wsX4_stones) := goodIn_app (goodIn_of _ (by decide +kernel)) ggX5_empty_X4_stones
theorem dX5_empty_0 : decode cX5_empty 0 = .ok (.iload_n 1, 1) := by decide +kernel
theorem dX5_empty_1 : decode cX5_empty 1 = .ok (.invokestatic 73, 3) := by decide +kernel
theorem dX5_empty_4 : decode cX5_empty 4 = .ok (.ifCond .ne 5, 3) := by decide +kernel
theorem dX5_empty_7 : decode cX5_empty 7 = .ok (.iconst (-1), 1) := by decide +kernel
theorem dX5_empty_8 : decode cX5_empty 8 = .ok (.ireturn, 1) := by decide +kernel
theorem dX5_empty_9 : decode cX5_empty 9 = .ok (.aload_n 0, 1) := by decide +kernel
theorem dX5_empty_10 : decode cX5_empty 10 = .ok (.getfield 22, 3) := by decide +kernel
theorem dX5_empty_13 : decode cX5_empty 13 = .ok (.aload_n 0, 1) := by decide +kernel
theorem dX5_empty_14 : decode cX5_empty 14 = .ok (.getfield 12, 3) := by decide +kernel
theorem dX5_empty_17 : decode cX5_empty 17 = .ok (.invokevirtual 45, 3) := by decide +kernel
theorem dX5_empty_20 : decode cX5_empty 20 = .ok (.aload_n 0, 1) := by decide +kernel
theorem dX5_empty_21 : decode cX5_empty 21 = .ok (.getfield 12, 3) := by decide +kernel
theorem dX5_empty_24 : decode cX5_empty 24 = .ok (.iload_n 1, 1) := by decide +kernel
theorem dX5_empty_25 : decode cX5_empty 25 = .ok (.invokevirtual 77, 3) := by decide +kernel
theorem dX5_empty_28 : decode cX5_empty 28 = .ok (.aload_n 0, 1) := by decide +kernel
theorem dX5_empty_29 : decode cX5_empty 29 = .ok (.getfield 12, 3) := by decide +kernel
theorem dX5_empty_32 : decode cX5_empty 32 = .ok (.invokevirtual 69, 3) := by decide +kernel
theorem dX5_empty_35 : decode cX5_empty 35 = .ok (.ireturn, 1) := by decide +kernel
set_option maxRecDepth 20000 in
theorem ggX5_read_X5_isKey : GoodIn wsX5_read wsX5_isKey := goodIn_r _ [6] (by decide +kernel) (by decide +kernel)
set_option maxRecDepth 20000 in
theorem gX5_read_X5_isKey : GoodIn wsX5_read (va_wsS RX5 80 yX5_isKey wsX5_isKey) := goodIn_app (goodIn_of _ (by decide +kernel)) ggX5_read_X5_isKey
set_option maxRecDepth 20000 in
theorem ggX5_read_X0_record : GoodIn wsX5_read wsX0_record := goodIn_r _ [11, 12, 13, 14, 15, 16, 17, 18, 19, 20, 21, 22, 23, 24, 25, 26, 27, 28, 29, 30, 31, 32, 33, 34, 35, 36, 37, 38, 39, 40, 41, 98, 99, 100, 101, 102, 103, 104, 105, 106, 107, 108, 109, 110] (by decide +kernel) (by decide +kernel)
set_option maxRecDepth 20000 in
theorem gX5_read_X0_record : GoodIn wsX5_read (wsV RX5 45 RX0 yX0_record wsX0_record) := goodIn_app (goodIn_of _ (by decide +kernel)) ggX5_read_X0_record
set_option maxRecDepth 20000 in
theorem ggX5_read_X4_noteRead : GoodIn wsX5_read wsX4_noteRead := goodIn_r _ [45, 33, 101, 102, 103, 104, 105, 106, 107, 108, 109, 110] (by decide +kernel) (by decide +kernel)
set_option maxRecDepth 20000 in
theorem gX5_read_X4_noteRead : GoodIn wsX5_read (wsV RX5 83 RX4 yX4_noteRead wsX4_noteRead) := goodIn_app (goodIn_of _ (by decide +kernel)) ggX5_read_X4_noteRead
set_option maxRecDepth 20000 in
theorem ggX5_read_X4_valueAsRead : GoodIn wsX5_read wsX4_valueAsRead := goodIn_r _ [49, 50, 51, 52, 22, 53, 25, 54, 55, 56, 57, 58, 59, 60, 61, 62, 63, 64, 65, 26, 66, 67, 68, 69, 27, 70, 71, 72, 73, 74, 75, 76, 77, 78, 79, 80, 81, 82, 83, 84, 85, 86, 87, 88, 89, 90, 91, 101, 102, 103, 104, 105, 106, 107, 108, 109, 110] (by decide +kernel) (by decide +kernel)
set_option maxRecDepth 20000 in
theorem gX5_read_X4_valueAsRead : GoodIn wsX5_read (wsV RX5 86 RX4 yX4_valueAsRead wsX4_valueAsRead) := goodIn_app (goodIn_of _ (by decide +kernel)) ggX5_read_X4_valueAsRead
theorem dX5_read_0 : decode cX5_read 0 = .ok (.iload_n 1, 1) := by decide +kernel
theorem dX5_read_1 : decode cX5_read 1 = .ok (.invokestatic 80, 3) := by decide +kernel
theorem dX5_read_4 : decode cX5_read 4 = .ok (.ifCond .ne 5, 3) := by decide +kernel
theorem dX5_read_7 : decode cX5_read 7 = .ok (.iconst (-1), 1) := by decide +kernel
theorem dX5_read_8 : decode cX5_read 8 = .ok (.ireturn, 1) := by decide +kernel
theorem dX5_read_9 : decode cX5_read 9 = .ok (.aload_n 0, 1) := by decide +kernel
theorem dX5_read_10 : decode cX5_read 10 = .ok (.getfield 22, 3) := by decide +kernel
theorem dX5_read_13 : decode cX5_read 13 = .ok (.aload_n 0, 1) := by decide +kernel
theorem dX5_read_14 : decode cX5_read 14 = .ok (.getfield 12, 3) := by decide +kernel
theorem dX5_read_17 : decode cX5_read 17 = .ok (.invokevirtual 45, 3) := by decide +kernel
theorem dX5_read_20 : decode cX5_read 20 = .ok (.aload_n 0, 1) := by decide +kernel
theorem dX5_read_21 : decode cX5_read 21 = .ok (.getfield 12, 3) := by decide +kernel
theorem dX5_read_24 : decode cX5_read 24 = .ok (.invokevirtual 83, 3) := by decide +kernel
theorem dX5_read_27 : decode cX5_read 27 = .ok (.aload_n 0, 1) := by decide +kernel
theorem dX5_read_28 : decode cX5_read 28 = .ok (.getfield 12, 3) := by decide +kernel
theorem dX5_read_31 : decode cX5_read 31 = .ok (.iload_n 1, 1) := by decide +kernel
theorem dX5_read_32 : decode cX5_read 32 = .ok (.invokevirtual 86, 3) := by decide +kernel
theorem dX5_read_35 : decode cX5_read 35 = .ok (.ireturn, 1) := by decide +kernel
set_option maxRecDepth 20000 in
theorem ggX5_stone_X5_isNode : GoodIn wsX5_stone wsX5_isNode := goodIn_r _ [5] (by decide +kernel) (by decide +kernel)
set_option maxRecDepth 20000 in
theorem gX5_stone_X5_isNode : GoodIn wsX5_stone (va_wsS RX5 73 yX5_isNode wsX5_isNode) := goodIn_app (goodIn_of _ (by decide +kernel)) ggX5_stone_X5_isNode
set_option maxRecDepth 20000 in
theorem ggX5_stone_X4_stonesIn : GoodIn wsX5_stone wsX4_stonesIn := goodIn_r _ [10, 11, 36, 37, 38, 39, 40, 41, 42, 43, 44, 45] (by decide +kernel) (by decide +kernel)
set_option maxRecDepth 20000 in
theorem gX5_stone_X4_stonesIn : GoodIn wsX5_stone (wsV RX5 90 RX4 yX4_stonesIn wsX4_stonesIn) := goodIn_app (goodIn_of _ (by decide +kernel)) ggX5_stone_X4_stonesIn
set_option maxRecDepth 20000 in
theorem ggX5_stone_X4_stoneAt : GoodIn wsX5_stone wsX4_stoneAt := goodIn_r _ [15, 16, 36, 37, 38, 39, 40, 41, 42, 43, 44, 45] (by decide +kernel) (by decide +kernel)
set_option maxRecDepth 20000 in
theorem gX5_stone_X4_stoneAt : GoodIn wsX5_stone (wsV RX5 93 RX4 yX4_stoneAt wsX4_stoneAt) := goodIn_app (goodIn_of _ (by decide +kernel)) ggX5_stone_X4_stoneAt
set_option maxRecDepth 20000 in
theorem ggX5_stone_X3_kind : GoodIn wsX5_stone wsX3_kind := goodIn_r _ [20] (by decide +kernel) (by decide +kernel)
set_option maxRecDepth 20000 in
theorem gX5_stone_X3_kind : GoodIn wsX5_stone (va_wsS RX5 96 yX3_kind wsX3_kind) := goodIn_app (goodIn_of _ (by decide +kernel)) ggX5_stone_X3_kind
set_option maxRecDepth 20000 in
theorem ggX5_stone_X3_first : GoodIn wsX5_stone wsX3_first := goodIn_r _ [23] (by decide +kernel) (by decide +kernel)
set_option maxRecDepth 20000 in
theorem gX5_stone_X3_first : GoodIn wsX5_stone (va_wsS RX5 99 yX3_first wsX3_first) := goodIn_app (goodIn_of _ (by decide +kernel)) ggX5_stone_X3_first
set_option maxRecDepth 20000 in
theorem ggX5_stone_X3_last : GoodIn wsX5_stone wsX3_last := goodIn_r _ [26] (by decide +kernel) (by decide +kernel)
set_option maxRecDepth 20000 in
theorem gX5_stone_X3_last : GoodIn wsX5_stone (va_wsS RX5 102 yX3_last wsX3_last) := goodIn_app (goodIn_of _ (by decide +kernel)) ggX5_stone_X3_last
set_option maxRecDepth 20000 in
theorem ggX5_stone_X3_number : GoodIn wsX5_stone wsX3_number := goodIn_r _ [29] (by decide +kernel) (by decide +kernel)
set_option maxRecDepth 20000 in
theorem gX5_stone_X3_number : GoodIn wsX5_stone (va_wsS RX5 105 yX3_number wsX3_number) := goodIn_app (goodIn_of _ (by decide +kernel)) ggX5_stone_X3_number
theorem dX5_stone_0 : decode cX5_stone 0 = .ok (.iload_n 1, 1) := by decide +kernel
theorem dX5_stone_1 : decode cX5_stone 1 = .ok (.invokestatic 73, 3) := by decide +kernel
theorem dX5_stone_4 : decode cX5_stone 4 = .ok (.ifCond .eq 19, 3) := by decide +kernel
theorem dX5_stone_7 : decode cX5_stone 7 = .ok (.iload_n 2, 1) := by decide +kernel
theorem dX5_stone_8 : decode cX5_stone 8 = .ok (.ifCond .lt 15, 3) := by decide +kernel
theorem dX5_stone_11 : decode cX5_stone 11 = .ok (.iload_n 2, 1) := by decide +kernel
theorem dX5_stone_12 : decode cX5_stone 12 = .ok (.aload_n 0, 1) := by decide +kernel
theorem dX5_stone_13 : decode cX5_stone 13 = .ok (.getfield 12, 3) := by decide +kernel
theorem dX5_stone_16 : decode cX5_stone 16 = .ok (.iload_n 1, 1) := by decide +kernel
theorem dX5_stone_17 : decode cX5_stone 17 = .ok (.invokevirtual 90, 3) := by decide +kernel
theorem dX5_stone_20 : decode cX5_stone 20 = .ok (.if_icmp .lt 5, 3) := by decide +kernel
theorem dX5_stone_23 : decode cX5_stone 23 = .ok (.iconst (-1), 1) := by decide +kernel
theorem dX5_stone_24 : decode cX5_stone 24 = .ok (.ireturn, 1) := by decide +kernel
theorem dX5_stone_25 : decode cX5_stone 25 = .ok (.aload_n 0, 1) := by decide +kernel
theorem dX5_stone_26 : decode cX5_stone 26 = .ok (.getfield 12, 3) := by decide +kernel
theorem dX5_stone_29 : decode cX5_stone 29 = .ok (.iload_n 1, 1) := by decide +kernel
theorem dX5_stone_30 : decode cX5_stone 30 = .ok (.iload_n 2, 1) := by decide +kernel
theorem dX5_stone_31 : decode cX5_stone 31 = .ok (.invokevirtual 93, 3) := by decide +kernel
theorem dX5_stone_34 : decode cX5_stone 34 = .ok (.istore 4, 2) := by decide +kernel
theorem dX5_stone_36 : decode cX5_stone 36 = .ok (.iload_n 3, 1) := by decide +kernel
theorem dX5_stone_37 : decode cX5_stone 37 = .ok (.tableswitch 55 0 3 #[31, 37, 43, 49], 31) := by decide +kernel
theorem dX5_stone_68 : decode cX5_stone 68 = .ok (.iload 4, 2) := by decide +kernel
theorem dX5_stone_70 : decode cX5_stone 70 = .ok (.invokestatic 96, 3) := by decide +kernel
theorem dX5_stone_73 : decode cX5_stone 73 = .ok (.ireturn, 1) := by decide +kernel
theorem dX5_stone_74 : decode cX5_stone 74 = .ok (.iload 4, 2) := by decide +kernel
theorem dX5_stone_76 : decode cX5_stone 76 = .ok (.invokestatic 99, 3) := by decide +kernel
theorem dX5_stone_79 : decode cX5_stone 79 = .ok (.ireturn, 1) := by decide +kernel
theorem dX5_stone_80 : decode cX5_stone 80 = .ok (.iload 4, 2) := by decide +kernel
theorem dX5_stone_82 : decode cX5_stone 82 = .ok (.invokestatic 102, 3) := by decide +kernel
theorem dX5_stone_85 : decode cX5_stone 85 = .ok (.ireturn, 1) := by decide +kernel
theorem dX5_stone_86 : decode cX5_stone 86 = .ok (.iload 4, 2) := by decide +kernel
theorem dX5_stone_88 : decode cX5_stone 88 = .ok (.invokestatic 105, 3) := by decide +kernel
theorem dX5_stone_91 : decode cX5_stone 91 = .ok (.ireturn, 1) := by decide +kernel
theorem dX5_stone_92 : decode cX5_stone 92 = .ok (.bipush (-2), 2) := by decide +kernel
theorem dX5_stone_94 : decode cX5_stone 94 = .ok (.ireturn, 1) := by decide +kernel
set_option maxRecDepth 20000 in
theorem ggX5_ofNode_X5_isNode : GoodIn wsX5_ofNode wsX5_isNode := goodIn_r _ [5] (by decide +kernel) (by decide +kernel)
set_option maxRecDepth 20000 in
theorem gX5_ofNode_X5_isNode : GoodIn wsX5_ofNode (va_wsS RX5 73 yX5_isNode wsX5_isNode) := goodIn_app (goodIn_of _ (by decide +kernel)) ggX5_ofNode_X5_isNode
set_option maxRecDepth 20000 in
theorem ggX5_ofNode_X4_stonesIn : GoodIn wsX5_ofNode wsX4_stonesIn := goodIn_r _ [10, 11, 55, 56, 57, 58, 59, 60, 61, 62, 63, 64] (by decide +kernel) (by decide +kernel)
set_option maxRecDepth 20000 in
theorem gX5_ofNode_X4_stonesIn : GoodIn wsX5_ofNode (wsV RX5 90 RX4 yX4_stonesIn wsX4_stonesIn) := goodIn_app (goodIn_of _ (by decide +kernel)) ggX5_ofNode_X4_stonesIn
set_option maxRecDepth 20000 in
theorem ggX5_ofNode_X2_firstKey : GoodIn wsX5_ofNode wsX2_firstKey := goodIn_r _ [15, 16] (by decide +kernel) (by decide +kernel)
set_option maxRecDepth 20000 in
theorem gX5_ofNode_X2_firstKey : GoodIn wsX5_ofNode (va_wsS RX5 108 yX2_firstKey wsX2_firstKey) := goodIn_app (goodIn_of _ (by decide +kernel)) ggX5_ofNode_X2_firstKey
set_option maxRecDepth 20000 in
theorem ggX5_ofNode_X2_lastKey : GoodIn wsX5_ofNode wsX2_lastKey := goodIn_r _ [19, 20, 21, 14, 22, 23, 24, 25, 26, 13, 15, 16, 27, 28, 29, 30] (by decide +kernel) (by decide +kernel)
set_option maxRecDepth 20000 in
theorem gX5_ofNode_X2_lastKey : GoodIn wsX5_ofNode (va_wsS RX5 113 yX2_lastKey wsX2_lastKey) := goodIn_app (goodIn_of _ (by decide +kernel)) ggX5_ofNode_X2_lastKey
set_option maxRecDepth 20000 in
theorem ggX5_ofNode_X4_timesSunk : GoodIn wsX5_ofNode wsX4_timesSunk := goodIn_r _ [34, 35, 36, 37, 9, 38, 55, 56, 57, 58, 59, 60, 61, 62, 63, 64] (by decide +kernel) (by decide +kernel)
set_option maxRecDepth 20000 in
theorem gX5_ofNode_X4_timesSunk : GoodIn wsX5_ofNode (wsV RX5 116 RX4 yX4_timesSunk wsX4_timesSunk) := goodIn_app (goodIn_of _ (by decide +kernel)) ggX5_ofNode_X4_timesSunk
set_option maxRecDepth 20000 in
theorem ggX5_ofNode_X4_stonesSunk : GoodIn wsX5_ofNode wsX4_stonesSunk := goodIn_r _ [42, 43, 36, 37, 9, 38, 55, 56, 57, 58, 59, 60, 61, 62, 63, 64] (by decide +kernel) (by decide +kernel)
set_option maxRecDepth 20000 in
theorem gX5_ofNode_X4_stonesSunk : GoodIn wsX5_ofNode (wsV RX5 119 RX4 yX4_stonesSunk wsX4_stonesSunk) := goodIn_app (goodIn_of _ (by decide +kernel)) ggX5_ofNode_X4_stonesSunk
set_option maxRecDepth 20000 in
theorem ggX5_ofNode_X4_stonesJoined : GoodIn wsX5_ofNode wsX4_stonesJoined := goodIn_r _ [47, 48, 36, 37, 9, 38, 55, 56, 57, 58, 59, 60, 61, 62, 63, 64] (by decide +kernel) (by decide +kernel)
set_option maxRecDepth 20000 in
theorem gX5_ofNode_X4_stonesJoined : GoodIn wsX5_ofNode (wsV RX5 122 RX4 yX4_stonesJoined wsX4_stonesJoined) := goodIn_app (goodIn_of _ (by decide +kernel)) ggX5_ofNode_X4_stonesJoined
theorem dX5_ofNode_0 : decode cX5_ofNode 0 = .ok (.iload_n 1, 1) := by decide +kernel
theorem dX5_ofNode_1 : decode cX5_ofNode 1 = .ok (.invokestatic 73, 3) := by decide +kernel
theorem dX5_ofNode_4 : decode cX5_ofNode 4 = .ok (.ifCond .ne 5, 3) := by decide +kernel
theorem dX5_ofNode_7 : decode cX5_ofNode 7 = .ok (.iconst (-1), 1) := by decide +kernel
theorem dX5_ofNode_8 : decode cX5_ofNode 8 = .ok (.ireturn, 1) := by decide +kernel
theorem dX5_ofNode_9 : decode cX5_ofNode 9 = .ok (.iload_n 2, 1) := by decide +kernel
theorem dX5_ofNode_10 : decode cX5_ofNode 10 = .ok (.tableswitch 84 0 5 #[38, 47, 52, 57, 66, 75], 38) := by decide +kernel
theorem dX5_ofNode_48 : decode cX5_ofNode 48 = .ok (.aload_n 0, 1) := by decide +kernel
theorem dX5_ofNode_49 : decode cX5_ofNode 49 = .ok (.getfield 12, 3) := by decide +kernel
theorem dX5_ofNode_52 : decode cX5_ofNode 52 = .ok (.iload_n 1, 1) := by decide +kernel
theorem dX5_ofNode_53 : decode cX5_ofNode 53 = .ok (.invokevirtual 90, 3) := by decide +kernel
theorem dX5_ofNode_56 : decode cX5_ofNode 56 = .ok (.ireturn, 1) := by decide +kernel
theorem dX5_ofNode_57 : decode cX5_ofNode 57 = .ok (.iload_n 1, 1) := by decide +kernel
theorem dX5_ofNode_58 : decode cX5_ofNode 58 = .ok (.invokestatic 108, 3) := by decide +kernel
theorem dX5_ofNode_61 : decode cX5_ofNode 61 = .ok (.ireturn, 1) := by decide +kernel
theorem dX5_ofNode_62 : decode cX5_ofNode 62 = .ok (.iload_n 1, 1) := by decide +kernel
theorem dX5_ofNode_63 : decode cX5_ofNode 63 = .ok (.invokestatic 113, 3) := by decide +kernel
theorem dX5_ofNode_66 : decode cX5_ofNode 66 = .ok (.ireturn, 1) := by decide +kernel
theorem dX5_ofNode_67 : decode cX5_ofNode 67 = .ok (.aload_n 0, 1) := by decide +kernel
theorem dX5_ofNode_68 : decode cX5_ofNode 68 = .ok (.getfield 12, 3) := by decide +kernel
theorem dX5_ofNode_71 : decode cX5_ofNode 71 = .ok (.iload_n 1, 1) := by decide +kernel
theorem dX5_ofNode_72 : decode cX5_ofNode 72 = .ok (.invokevirtual 116, 3) := by decide +kernel
theorem dX5_ofNode_75 : decode cX5_ofNode 75 = .ok (.ireturn, 1) := by decide +kernel
theorem dX5_ofNode_76 : decode cX5_ofNode 76 = .ok (.aload_n 0, 1) := by decide +kernel
theorem dX5_ofNode_77 : decode cX5_ofNode 77 = .ok (.getfield 12, 3) := by decide +kernel
theorem dX5_ofNode_80 : decode cX5_ofNode 80 = .ok (.iload_n 1, 1) := by decide +kernel
theorem dX5_ofNode_81 : decode cX5_ofNode 81 = .ok (.invokevirtual 119, 3) := by decide +kernel
theorem dX5_ofNode_84 : decode cX5_ofNode 84 = .ok (.ireturn, 1) := by decide +kernel
theorem dX5_ofNode_85 : decode cX5_ofNode 85 = .ok (.aload_n 0, 1) := by decide +kernel
theorem dX5_ofNode_86 : decode cX5_ofNode 86 = .ok (.getfield 12, 3) := by decide +kernel
theorem dX5_ofNode_89 : decode cX5_ofNode 89 = .ok (.iload_n 1, 1) := by decide +kernel
theorem dX5_ofNode_90 : decode cX5_ofNode 90 = .ok (.invokevirtual 122, 3) := by decide +kernel
theorem dX5_ofNode_93 : decode cX5_ofNode 93 = .ok (.ireturn, 1) := by decide +kernel
theorem dX5_ofNode_94 : decode cX5_ofNode 94 = .ok (.bipush (-2), 2) := by decide +kernel
theorem dX5_ofNode_96 : decode cX5_ofNode 96 = .ok (.ireturn, 1) := by decide +kernel
set_option maxRecDepth 20000 in
theorem ggX5_ofKey_X5_isKey : GoodIn wsX5_ofKey wsX5_isKey := goodIn_r _ [5] (by decide +kernel) (by decide +kernel)
set_option maxRecDepth 20000 in
theorem gX5_ofKey_X5_isKey : GoodIn wsX5_ofKey (va_wsS RX5 80 yX5_isKey wsX5_isKey) := goodIn_app (goodIn_of _ (by decide +kernel)) ggX5_ofKey_X5_isKey
set_option maxRecDepth 20000 in
theorem ggX5_ofKey_X4_valueInLeaf : GoodIn wsX5_ofKey wsX4_valueInLeaf := goodIn_r _ [10, 11, 75, 76, 77, 78, 79, 80, 81, 82, 83, 84] (by decide +kernel) (by decide +kernel)
set_option maxRecDepth 20000 in
theorem gX5_ofKey_X4_valueInLeaf : GoodIn wsX5_ofKey (wsV RX5 125 RX4 yX4_valueInLeaf wsX4_valueInLeaf) := goodIn_app (goodIn_of _ (by decide +kernel)) ggX5_ofKey_X4_valueInLeaf
set_option maxRecDepth 20000 in
theorem ggX5_ofKey_X4_valueAsRead : GoodIn wsX5_ofKey wsX4_valueAsRead := goodIn_r _ [15, 16, 7, 8, 9, 10, 11, 17, 18, 19, 20, 21, 22, 23, 24, 25, 26, 27, 28, 29, 30, 31, 32, 33, 34, 35, 36, 37, 38, 39, 40, 41, 42, 43, 44, 45, 46, 47, 48, 49, 50, 51, 52, 53, 54, 55, 56, 75, 76, 77, 78, 79, 80, 81, 82, 83, 84] (by decide +kernel) (by decide +kernel)
set_option maxRecDepth 20000 in
theorem gX5_ofKey_X4_valueAsRead : GoodIn wsX5_ofKey (wsV RX5 86 RX4 yX4_valueAsRead wsX4_valueAsRead) := goodIn_app (goodIn_of _ (by decide +kernel)) ggX5_ofKey_X4_valueAsRead
set_option maxRecDepth 20000 in
theorem ggX5_ofKey_X4_stonesWith : GoodIn wsX5_ofKey wsX4_stonesWith := goodIn_r _ [60, 17, 18, 19, 20, 61, 62, 63, 9, 64, 25, 26, 27, 28, 29, 30, 31, 32, 33, 34, 35, 36, 37, 38, 39, 40, 41, 42, 43, 44, 54, 55, 56, 75, 76, 77, 78, 79, 80, 81, 82, 83, 84] (by decide +kernel) (by decide +kernel)
set_option maxRecDepth 20000 in
theorem gX5_ofKey_X4_stonesWith : GoodIn wsX5_ofKey (wsV RX5 128 RX4 yX4_stonesWith wsX4_stonesWith) := goodIn_app (goodIn_of _ (by decide +kernel)) ggX5_ofKey_X4_stonesWith
set_option maxRecDepth 20000 in
theorem ggX5_ofKey_X4_deepestWith : GoodIn wsX5_ofKey wsX4_deepestWith := goodIn_r _ [68, 17, 18, 19, 20, 61, 62, 63, 9, 64, 25, 26, 27, 28, 29, 30, 31, 32, 33, 34, 35, 36, 37, 38, 39, 40, 41, 42, 43, 44, 54, 55, 56, 75, 76, 77, 78, 79, 80, 81, 82, 83, 84] (by decide +kernel) (by decide +kernel)
set_option maxRecDepth 20000 in
theorem gX5_ofKey_X4_deepestWith : GoodIn wsX5_ofKey (wsV RX5 131 RX4 yX4_deepestWith wsX4_deepestWith) := goodIn_app (goodIn_of _ (by decide +kernel)) ggX5_ofKey_X4_deepestWith
theorem dX5_ofKey_0 : decode cX5_ofKey 0 = .ok (.iload_n 1, 1) := by decide +kernel
theorem dX5_ofKey_1 : decode cX5_ofKey 1 = .ok (.invokestatic 80, 3) := by decide +kernel
theorem dX5_ofKey_4 : decode cX5_ofKey 4 = .ok (.ifCond .ne 5, 3) := by decide +kernel
theorem dX5_ofKey_7 : decode cX5_ofKey 7 = .ok (.iconst (-1), 1) := by decide +kernel
theorem dX5_ofKey_8 : decode cX5_ofKey 8 = .ok (.ireturn, 1) := by decide +kernel
theorem dX5_ofKey_9 : decode cX5_ofKey 9 = .ok (.iload_n 2, 1) := by decide +kernel
theorem dX5_ofKey_10 : decode cX5_ofKey 10 = .ok (.tableswitch 66 0 3 #[30, 39, 48, 57], 30) := by decide +kernel
theorem dX5_ofKey_40 : decode cX5_ofKey 40 = .ok (.aload_n 0, 1) := by decide +kernel
theorem dX5_ofKey_41 : decode cX5_ofKey 41 = .ok (.getfield 12, 3) := by decide +kernel
theorem dX5_ofKey_44 : decode cX5_ofKey 44 = .ok (.iload_n 1, 1) := by decide +kernel
theorem dX5_ofKey_45 : decode cX5_ofKey 45 = .ok (.invokevirtual 125, 3) := by decide +kernel
theorem dX5_ofKey_48 : decode cX5_ofKey 48 = .ok (.ireturn, 1) := by decide +kernel
theorem dX5_ofKey_49 : decode cX5_ofKey 49 = .ok (.aload_n 0, 1) := by decide +kernel
theorem dX5_ofKey_50 : decode cX5_ofKey 50 = .ok (.getfield 12, 3) := by decide +kernel
theorem dX5_ofKey_53 : decode cX5_ofKey 53 = .ok (.iload_n 1, 1) := by decide +kernel
theorem dX5_ofKey_54 : decode cX5_ofKey 54 = .ok (.invokevirtual 86, 3) := by decide +kernel
theorem dX5_ofKey_57 : decode cX5_ofKey 57 = .ok (.ireturn, 1) := by decide +kernel
theorem dX5_ofKey_58 : decode cX5_ofKey 58 = .ok (.aload_n 0, 1) := by decide +kernel
theorem dX5_ofKey_59 : decode cX5_ofKey 59 = .ok (.getfield 12, 3) := by decide +kernel
theorem dX5_ofKey_62 : decode cX5_ofKey 62 = .ok (.iload_n 1, 1) := by decide +kernel
theorem dX5_ofKey_63 : decode cX5_ofKey 63 = .ok (.invokevirtual 128, 3) := by decide +kernel
theorem dX5_ofKey_66 : decode cX5_ofKey 66 = .ok (.ireturn, 1) := by decide +kernel
theorem dX5_ofKey_67 : decode cX5_ofKey 67 = .ok (.aload_n 0, 1) := by decide +kernel
theorem dX5_ofKey_68 : decode cX5_ofKey 68 = .ok (.getfield 12, 3) := by decide +kernel
theorem dX5_ofKey_71 : decode cX5_ofKey 71 = .ok (.iload_n 1, 1) := by decide +kernel
theorem dX5_ofKey_72 : decode cX5_ofKey 72 = .ok (.invokevirtual 131, 3) := by decide +kernel
theorem dX5_ofKey_75 : decode cX5_ofKey 75 = .ok (.ireturn, 1) := by decide +kernel
theorem dX5_ofKey_76 : decode cX5_ofKey 76 = .ok (.bipush (-2), 2) := by decide +kernel
theorem dX5_ofKey_78 : decode cX5_ofKey 78 = .ok (.ireturn, 1) := by decide +kernel
set_option maxRecDepth 20000 in
theorem ggX5_count_X4_stones : GoodIn wsX5_count wsX4_stones := goodIn_r _ [8, 9, 10, 11, 7, 12, 108, 109, 110, 111, 112, 113, 114, 115, 116, 117] (by decide +kernel) (by decide +kernel)
set_option maxRecDepth 20000 in
theorem gX5_count_X4_stones : GoodIn wsX5_count (wsV RX5 69 RX4 yX4_stones wsX4_stones) := goodIn_app (goodIn_of _ (by decide +kernel)) ggX5_count_X4_stones
set_option maxRecDepth 20000 in
theorem ggX5_count_X4_stonesSent : GoodIn wsX5_count wsX4_stonesSent := goodIn_r _ [16, 17, 108, 109, 110, 111, 112, 113, 114, 115, 116, 117] (by decide +kernel) (by decide +kernel)
set_option maxRecDepth 20000 in
theorem gX5_count_X4_stonesSent : GoodIn wsX5_count (wsV RX5 134 RX4 yX4_stonesSent wsX4_stonesSent) := goodIn_app (goodIn_of _ (by decide +kernel)) ggX5_count_X4_stonesSent
set_option maxRecDepth 20000 in
theorem ggX5_count_X4_allStonesSunk : GoodIn wsX5_count wsX4_allStonesSunk := goodIn_r _ [21, 22, 10, 11, 7, 12, 108, 109, 110, 111, 112, 113, 114, 115, 116, 117] (by decide +kernel) (by decide +kernel)
set_option maxRecDepth 20000 in
theorem gX5_count_X4_allStonesSunk : GoodIn wsX5_count (wsV RX5 137 RX4 yX4_allStonesSunk wsX4_allStonesSunk) := goodIn_app (goodIn_of _ (by decide +kernel)) ggX5_count_X4_allStonesSunk
set_option maxRecDepth 20000 in
theorem ggX5_count_X4_stonesApplied : GoodIn wsX5_count wsX4_stonesApplied := goodIn_r _ [26, 27, 108, 109, 110, 111, 112, 113, 114, 115, 116, 117] (by decide +kernel) (by decide +kernel)
set_option maxRecDepth 20000 in
theorem gX5_count_X4_stonesApplied : GoodIn wsX5_count (wsV RX5 140 RX4 yX4_stonesApplied wsX4_stonesApplied) := goodIn_app (goodIn_of _ (by decide +kernel)) ggX5_count_X4_stonesApplied
set_option maxRecDepth 20000 in
theorem ggX5_count_X4_buffersLookedAt : GoodIn wsX5_count wsX4_buffersLookedAt := goodIn_r _ [31, 32, 108, 109, 110, 111, 112, 113, 114, 115, 116, 117] (by decide +kernel) (by decide +kernel)
set_option maxRecDepth 20000 in
theorem gX5_count_X4_buffersLookedAt : GoodIn wsX5_count (wsV RX5 143 RX4 yX4_buffersLookedAt wsX4_buffersLookedAt) := goodIn_app (goodIn_of _ (by decide +kernel)) ggX5_count_X4_buffersLookedAt
set_option maxRecDepth 20000 in
theorem ggX5_count_X4_keysPresent : GoodIn wsX5_count wsX4_keysPresent := goodIn_r _ [36, 37, 38, 39, 7, 40, 41, 42, 43, 44, 45, 46, 47, 48, 49, 50, 51, 52, 53, 54, 55, 56, 57, 9, 58, 59, 60, 61, 62, 63, 64, 65, 66, 67, 68, 69, 70, 71, 72, 73, 74, 75, 76, 77, 78, 79, 80, 81, 82, 83, 84, 108, 109, 110, 111, 112, 113, 114, 115, 116, 117] (by decide +kernel) (by decide +kernel)
set_option maxRecDepth 20000 in
theorem gX5_count_X4_keysPresent : GoodIn wsX5_count (wsV RX5 146 RX4 yX4_keysPresent wsX4_keysPresent) := goodIn_app (goodIn_of _ (by decide +kernel)) ggX5_count_X4_keysPresent
set_option maxRecDepth 20000 in
theorem ggX5_count_X1_length : GoodIn wsX5_count wsX1_length := goodIn_r _ [89, 90, 118, 119, 120, 121, 122] (by decide +kernel) (by decide +kernel)
set_option maxRecDepth 20000 in
theorem gX5_count_X1_length : GoodIn wsX5_count (wsV RX5 149 RX1 yX1_length wsX1_length) := goodIn_app (goodIn_of _ (by decide +kernel)) ggX5_count_X1_length
set_option maxRecDepth 20000 in
theorem ggX5_count_X0_states : GoodIn wsX5_count wsX0_states := goodIn_r _ [95, 96, 123, 124, 125] (by decide +kernel) (by decide +kernel)
set_option maxRecDepth 20000 in
theorem gX5_count_X0_states : GoodIn wsX5_count (wsV RX5 152 RX0 yX0_states wsX0_states) := goodIn_app (goodIn_of _ (by decide +kernel)) ggX5_count_X0_states
set_option maxRecDepth 20000 in
theorem ggX5_count_X4_setting : GoodIn wsX5_count wsX4_setting := goodIn_r _ [100, 101, 108, 109, 110, 111, 112, 113, 114, 115, 116, 117] (by decide +kernel) (by decide +kernel)
set_option maxRecDepth 20000 in
theorem gX5_count_X4_setting : GoodIn wsX5_count (wsV RX5 155 RX4 yX4_setting wsX4_setting) := goodIn_app (goodIn_of _ (by decide +kernel)) ggX5_count_X4_setting
theorem dX5_count_0 : decode cX5_count 0 = .ok (.iload_n 1, 1) := by decide +kernel
theorem dX5_count_1 : decode cX5_count 1 = .ok (.tableswitch 137 0 9 #[55, 63, 71, 79, 87, 95, 103, 111, 119, 128], 55) := by decide +kernel
theorem dX5_count_56 : decode cX5_count 56 = .ok (.aload_n 0, 1) := by decide +kernel
theorem dX5_count_57 : decode cX5_count 57 = .ok (.getfield 12, 3) := by decide +kernel
theorem dX5_count_60 : decode cX5_count 60 = .ok (.invokevirtual 69, 3) := by decide +kernel
theorem dX5_count_63 : decode cX5_count 63 = .ok (.ireturn, 1) := by decide +kernel
theorem dX5_count_64 : decode cX5_count 64 = .ok (.aload_n 0, 1) := by decide +kernel
theorem dX5_count_65 : decode cX5_count 65 = .ok (.getfield 12, 3) := by decide +kernel
theorem dX5_count_68 : decode cX5_count 68 = .ok (.invokevirtual 134, 3) := by decide +kernel
theorem dX5_count_71 : decode cX5_count 71 = .ok (.ireturn, 1) := by decide +kernel
theorem dX5_count_72 : decode cX5_count 72 = .ok (.aload_n 0, 1) := by decide +kernel
theorem dX5_count_73 : decode cX5_count 73 = .ok (.getfield 12, 3) := by decide +kernel
theorem dX5_count_76 : decode cX5_count 76 = .ok (.invokevirtual 137, 3) := by decide +kernel
theorem dX5_count_79 : decode cX5_count 79 = .ok (.ireturn, 1) := by decide +kernel
theorem dX5_count_80 : decode cX5_count 80 = .ok (.aload_n 0, 1) := by decide +kernel
theorem dX5_count_81 : decode cX5_count 81 = .ok (.getfield 12, 3) := by decide +kernel
theorem dX5_count_84 : decode cX5_count 84 = .ok (.invokevirtual 140, 3) := by decide +kernel
theorem dX5_count_87 : decode cX5_count 87 = .ok (.ireturn, 1) := by decide +kernel
theorem dX5_count_88 : decode cX5_count 88 = .ok (.aload_n 0, 1) := by decide +kernel
theorem dX5_count_89 : decode cX5_count 89 = .ok (.getfield 12, 3) := by decide +kernel
theorem dX5_count_92 : decode cX5_count 92 = .ok (.invokevirtual 143, 3) := by decide +kernel
theorem dX5_count_95 : decode cX5_count 95 = .ok (.ireturn, 1) := by decide +kernel
theorem dX5_count_96 : decode cX5_count 96 = .ok (.aload_n 0, 1) := by decide +kernel
theorem dX5_count_97 : decode cX5_count 97 = .ok (.getfield 12, 3) := by decide +kernel
theorem dX5_count_100 : decode cX5_count 100 = .ok (.invokevirtual 146, 3) := by decide +kernel
theorem dX5_count_103 : decode cX5_count 103 = .ok (.ireturn, 1) := by decide +kernel
theorem dX5_count_104 : decode cX5_count 104 = .ok (.aload_n 0, 1) := by decide +kernel
theorem dX5_count_105 : decode cX5_count 105 = .ok (.getfield 37, 3) := by decide +kernel
theorem dX5_count_108 : decode cX5_count 108 = .ok (.invokevirtual 149, 3) := by decide +kernel
theorem dX5_count_111 : decode cX5_count 111 = .ok (.ireturn, 1) := by decide +kernel
theorem dX5_count_112 : decode cX5_count 112 = .ok (.aload_n 0, 1) := by decide +kernel
theorem dX5_count_113 : decode cX5_count 113 = .ok (.getfield 22, 3) := by decide +kernel
theorem dX5_count_116 : decode cX5_count 116 = .ok (.invokevirtual 152, 3) := by decide +kernel
theorem dX5_count_119 : decode cX5_count 119 = .ok (.ireturn, 1) := by decide +kernel
theorem dX5_count_120 : decode cX5_count 120 = .ok (.aload_n 0, 1) := by decide +kernel
theorem dX5_count_121 : decode cX5_count 121 = .ok (.getfield 12, 3) := by decide +kernel
theorem dX5_count_124 : decode cX5_count 124 = .ok (.iconst 0, 1) := by decide +kernel
theorem dX5_count_125 : decode cX5_count 125 = .ok (.invokevirtual 155, 3) := by decide +kernel
theorem dX5_count_128 : decode cX5_count 128 = .ok (.ireturn, 1) := by decide +kernel
theorem dX5_count_129 : decode cX5_count 129 = .ok (.aload_n 0, 1) := by decide +kernel
theorem dX5_count_130 : decode cX5_count 130 = .ok (.getfield 12, 3) := by decide +kernel
theorem dX5_count_133 : decode cX5_count 133 = .ok (.iconst 1, 1) := by decide +kernel
theorem dX5_count_134 : decode cX5_count 134 = .ok (.invokevirtual 155, 3) := by decide +kernel
theorem dX5_count_137 : decode cX5_count 137 = .ok (.ireturn, 1) := by decide +kernel
theorem dX5_count_138 : decode cX5_count 138 = .ok (.bipush (-2), 2) := by decide +kernel
theorem dX5_count_140 : decode cX5_count 140 = .ok (.ireturn, 1) := by decide +kernel
set_option maxRecDepth 20000 in
theorem ggX5_sum_X5_isPiece : GoodIn wsX5_sum wsX5_isPiece := goodIn_r _ [5, 6, 7, 4, 8] (by decide +kernel) (by decide +kernel)
set_option maxRecDepth 20000 in
theorem gX5_sum_X5_isPiece : GoodIn wsX5_sum (va_wsS RX5 56 yX5_isPiece wsX5_isPiece) := goodIn_app (goodIn_of _ (by decide +kernel)) ggX5_sum_X5_isPiece
set_option maxRecDepth 20000 in
theorem ggX5_sum_X4_sumAsRead : GoodIn wsX5_sum wsX4_sumAsRead := goodIn_r _ [13, 14, 15, 16, 12, 17, 18, 19, 20, 21, 22, 23, 24, 25, 26, 27, 28, 29, 30, 31, 32, 33, 34, 35, 36, 37, 38, 39, 40, 41, 42, 43, 44, 45, 46, 47, 48, 49, 50, 51, 52, 53, 54, 55, 56, 57, 58, 59, 60, 61, 62, 69, 70, 71, 72, 73, 74, 75, 76, 77, 78] (by decide +kernel) (by decide +kernel)
set_option maxRecDepth 20000 in
theorem gX5_sum_X4_sumAsRead : GoodIn wsX5_sum (wsV RX5 158 RX4 yX4_sumAsRead wsX4_sumAsRead) := goodIn_app (goodIn_of _ (by decide +kernel)) ggX5_sum_X4_sumAsRead
theorem dX5_sum_0 : decode cX5_sum 0 = .ok (.iload_n 1, 1) := by decide +kernel
theorem dX5_sum_1 : decode cX5_sum 1 = .ok (.iload_n 2, 1) := by decide +kernel
theorem dX5_sum_2 : decode cX5_sum 2 = .ok (.invokestatic 56, 3) := by decide +kernel
theorem dX5_sum_5 : decode cX5_sum 5 = .ok (.ifCond .ne 5, 3) := by decide +kernel
theorem dX5_sum_8 : decode cX5_sum 8 = .ok (.iconst (-1), 1) := by decide +kernel
theorem dX5_sum_9 : decode cX5_sum 9 = .ok (.ireturn, 1) := by decide +kernel
theorem dX5_sum_10 : decode cX5_sum 10 = .ok (.aload_n 0, 1) := by decide +kernel
theorem dX5_sum_11 : decode cX5_sum 11 = .ok (.getfield 12, 3) := by decide +kernel
theorem dX5_sum_14 : decode cX5_sum 14 = .ok (.iload_n 1, 1) := by decide +kernel
theorem dX5_sum_15 : decode cX5_sum 15 = .ok (.iload_n 2, 1) := by decide +kernel
theorem dX5_sum_16 : decode cX5_sum 16 = .ok (.invokevirtual 158, 3) := by decide +kernel
theorem dX5_sum_19 : decode cX5_sum 19 = .ok (.ireturn, 1) := by decide +kernel
set_option maxRecDepth 20000 in
theorem ggX5_heaviest_X5_isNode : GoodIn wsX5_heaviest wsX5_isNode := goodIn_r _ [5] (by decide +kernel) (by decide +kernel)
set_option maxRecDepth 20000 in
theorem gX5_heaviest_X5_isNode : GoodIn wsX5_heaviest (va_wsS RX5 73 yX5_isNode wsX5_isNode) := goodIn_app (goodIn_of _ (by decide +kernel)) ggX5_heaviest_X5_isNode
set_option maxRecDepth 20000 in
theorem ggX5_heaviest_X4_heaviestChild : GoodIn wsX5_heaviest wsX4_heaviestChild := goodIn_r _ [10, 11, 12, 13, 14, 15, 16, 17, 18, 19, 20, 21, 22, 23, 24, 25, 26, 27, 28, 29, 9, 30, 31, 32, 33, 34, 35, 36, 37, 38, 39, 40, 41, 42, 43, 44, 45, 46, 47, 48, 49, 50, 64, 65, 66, 67, 68, 69, 70, 71, 72, 73] (by decide +kernel) (by decide +kernel)
set_option maxRecDepth 20000 in
theorem gX5_heaviest_X4_heaviestChild : GoodIn wsX5_heaviest (wsV RX5 161 RX4 yX4_heaviestChild wsX4_heaviestChild) := goodIn_app (goodIn_of _ (by decide +kernel)) ggX5_heaviest_X4_heaviestChild
set_option maxRecDepth 20000 in
theorem ggX5_heaviest_X2_isLow : GoodIn wsX5_heaviest wsX2_isLow := goodIn_r _ [53] (by decide +kernel) (by decide +kernel)
set_option maxRecDepth 20000 in
theorem gX5_heaviest_X2_isLow : GoodIn wsX5_heaviest (va_wsS RX5 164 yX2_isLow wsX2_isLow) := goodIn_app (goodIn_of _ (by decide +kernel)) ggX5_heaviest_X2_isLow
set_option maxRecDepth 20000 in
theorem ggX5_heaviest_X2_firstKeyOfChild : GoodIn wsX5_heaviest wsX2_firstKeyOfChild := goodIn_r _ [14, 15, 16, 13, 17, 18, 19, 20, 21, 22] (by decide +kernel) (by decide +kernel)
set_option maxRecDepth 20000 in
theorem gX5_heaviest_X2_firstKeyOfChild : GoodIn wsX5_heaviest (va_wsS RX5 167 yX2_firstKeyOfChild wsX2_firstKeyOfChild) := goodIn_app (goodIn_of _ (by decide +kernel)) ggX5_heaviest_X2_firstKeyOfChild
set_option maxRecDepth 20000 in
theorem ggX5_heaviest_X2_childNode : GoodIn wsX5_heaviest wsX2_childNode := goodIn_r _ [57] (by decide +kernel) (by decide +kernel)
set_option maxRecDepth 20000 in
theorem gX5_heaviest_X2_childNode : GoodIn wsX5_heaviest (va_wsS RX5 170 yX2_childNode wsX2_childNode) := goodIn_app (goodIn_of _ (by decide +kernel)) ggX5_heaviest_X2_childNode
theorem dX5_heaviest_0 : decode cX5_heaviest 0 = .ok (.iload_n 1, 1) := by decide +kernel
theorem dX5_heaviest_1 : decode cX5_heaviest 1 = .ok (.invokestatic 73, 3) := by decide +kernel
theorem dX5_heaviest_4 : decode cX5_heaviest 4 = .ok (.ifCond .ne 5, 3) := by decide +kernel
theorem dX5_heaviest_7 : decode cX5_heaviest 7 = .ok (.iconst (-1), 1) := by decide +kernel
theorem dX5_heaviest_8 : decode cX5_heaviest 8 = .ok (.ireturn, 1) := by decide +kernel
theorem dX5_heaviest_9 : decode cX5_heaviest 9 = .ok (.aload_n 0, 1) := by decide +kernel
theorem dX5_heaviest_10 : decode cX5_heaviest 10 = .ok (.getfield 12, 3) := by decide +kernel
theorem dX5_heaviest_13 : decode cX5_heaviest 13 = .ok (.iload_n 1, 1) := by decide +kernel
theorem dX5_heaviest_14 : decode cX5_heaviest 14 = .ok (.invokevirtual 161, 3) := by decide +kernel
theorem dX5_heaviest_17 : decode cX5_heaviest 17 = .ok (.istore_n 2, 1) := by decide +kernel
theorem dX5_heaviest_18 : decode cX5_heaviest 18 = .ok (.iload_n 2, 1) := by decide +kernel
theorem dX5_heaviest_19 : decode cX5_heaviest 19 = .ok (.ifCond .ge 6, 3) := by decide +kernel
theorem dX5_heaviest_22 : decode cX5_heaviest 22 = .ok (.bipush (-6), 2) := by decide +kernel
theorem dX5_heaviest_24 : decode cX5_heaviest 24 = .ok (.ireturn, 1) := by decide +kernel
theorem dX5_heaviest_25 : decode cX5_heaviest 25 = .ok (.iload_n 1, 1) := by decide +kernel
theorem dX5_heaviest_26 : decode cX5_heaviest 26 = .ok (.invokestatic 164, 3) := by decide +kernel
theorem dX5_heaviest_29 : decode cX5_heaviest 29 = .ok (.ifCond .eq 11, 3) := by decide +kernel
theorem dX5_heaviest_32 : decode cX5_heaviest 32 = .ok (.iload_n 1, 1) := by decide +kernel
theorem dX5_heaviest_33 : decode cX5_heaviest 33 = .ok (.iload_n 2, 1) := by decide +kernel
theorem dX5_heaviest_34 : decode cX5_heaviest 34 = .ok (.invokestatic 167, 3) := by decide +kernel
theorem dX5_heaviest_37 : decode cX5_heaviest 37 = .ok (.goto 8, 3) := by decide +kernel
theorem dX5_heaviest_40 : decode cX5_heaviest 40 = .ok (.iload_n 1, 1) := by decide +kernel
theorem dX5_heaviest_41 : decode cX5_heaviest 41 = .ok (.iload_n 2, 1) := by decide +kernel
theorem dX5_heaviest_42 : decode cX5_heaviest 42 = .ok (.invokestatic 170, 3) := by decide +kernel
theorem dX5_heaviest_45 : decode cX5_heaviest 45 = .ok (.ireturn, 1) := by decide +kernel
set_option maxRecDepth 20000 in
theorem ggX5_wouldSink_X5_isKey : GoodIn wsX5_wouldSink wsX5_isKey := goodIn_r _ [4] (by decide +kernel) (by decide +kernel)
set_option maxRecDepth 20000 in
theorem gX5_wouldSink_X5_isKey : GoodIn wsX5_wouldSink (va_wsS RX5 80 yX5_isKey wsX5_isKey) := goodIn_app (goodIn_of _ (by decide +kernel)) ggX5_wouldSink_X5_isKey
set_option maxRecDepth 20000 in
theorem ggX5_wouldSink_X5_sunkBySetting : GoodIn wsX5_wouldSink wsX5_sunkBySetting := goodIn_r _ [8, 9, 10, 11, 12, 13, 14, 15, 16, 17, 18, 19, 20, 21, 22, 23, 24, 25, 26, 27, 28, 29, 30, 31, 32, 33, 34, 35, 36, 37, 38, 39, 40, 41, 42, 43, 44, 45, 46, 47, 48, 49, 50, 51, 52, 53, 54, 55, 56, 57, 58, 59, 60, 61, 62, 63, 64, 65, 66, 67, 68, 69, 70, 71, 72, 73, 74, 75, 76, 77, 78, 79, 80, 81, 82, 83, 84, 85, 86, 87, 88, 89, 90, 91, 92, 93, 94, 95, 96, 97, 98, 99, 100, 101, 102, 103, 104, 105, 106, 107, 108, 109, 110, 111, 112, 113, 114, 115, 116, 117, 118, 119, 120, 121, 122, 123, 124, 125, 126, 127, 128, 129, 130, 131, 132, 133, 134, 135, 136, 137, 138, 139, 140, 141, 142, 143, 144, 145, 146, 147, 148, 149, 150, 151, 152, 153, 154, 155, 156, 157, 158, 159, 160, 161, 162, 163, 164, 165, 166, 167, 168, 169, 170, 171, 172, 173, 174, 175, 176, 177, 178, 179, 180, 181, 182, 183, 184, 185] (by decide +kernel) (by decide +kernel)
set_option maxRecDepth 20000 in
theorem gX5_wouldSink_X5_sunkBySetting : GoodIn wsX5_wouldSink (wsV RX5 173 RX5 yX5_sunkBySetting wsX5_sunkBySetting) := goodIn_app (goodIn_of _ (by decide +kernel)) ggX5_wouldSink_X5_sunkBySetting
theorem dX5_wouldSink_0 : decode cX5_wouldSink 0 = .ok (.iload_n 1, 1) := by decide +kernel
theorem dX5_wouldSink_1 : decode cX5_wouldSink 1 = .ok (.invokestatic 80, 3) := by decide +kernel
theorem dX5_wouldSink_4 : decode cX5_wouldSink 4 = .ok (.ifCond .ne 5, 3) := by decide +kernel
theorem dX5_wouldSink_7 : decode cX5_wouldSink 7 = .ok (.iconst (-1), 1) := by decide +kernel
theorem dX5_wouldSink_8 : decode cX5_wouldSink 8 = .ok (.ireturn, 1) := by decide +kernel
theorem dX5_wouldSink_9 : decode cX5_wouldSink 9 = .ok (.aload_n 0, 1) := by decide +kernel
theorem dX5_wouldSink_10 : decode cX5_wouldSink 10 = .ok (.iload_n 1, 1) := by decide +kernel
theorem dX5_wouldSink_11 : decode cX5_wouldSink 11 = .ok (.invokevirtual 173, 3) := by decide +kernel
theorem dX5_wouldSink_14 : decode cX5_wouldSink 14 = .ok (.ireturn, 1) := by decide +kernel
set_option maxRecDepth 20000 in
theorem ggX5_worstKey_X5_sunkBySetting : GoodIn wsX5_worstKey wsX5_sunkBySetting := goodIn_r _ [5, 6, 7, 8, 9, 10, 11, 12, 13, 14, 15, 16, 17, 18, 19, 20, 21, 22, 23, 24, 25, 26, 27, 28, 29, 30, 31, 32, 33, 34, 35, 36, 37, 38, 39, 40, 41, 42, 43, 44, 45, 46, 47, 48, 49, 50, 51, 52, 53, 54, 55, 56, 57, 58, 59, 60, 61, 62, 63, 64, 65, 66, 67, 68, 69, 70, 71, 72, 73, 74, 75, 76, 77, 78, 79, 80, 81, 82, 83, 84, 85, 86, 87, 88, 89, 90, 91, 92, 93, 94, 95, 96, 97, 98, 99, 100, 101, 102, 103, 104, 105, 106, 107, 108, 109, 110, 111, 112, 113, 114, 115, 116, 117, 118, 119, 120, 121, 122, 123, 124, 125, 126, 127, 128, 129, 130, 131, 132, 133, 134, 135, 136, 137, 138, 139, 140, 141, 142, 143, 144, 145, 146, 147, 148, 149, 150, 151, 152, 153, 154, 155, 156, 157, 158, 159, 160, 161, 162, 163, 164, 165, 166, 167, 168, 169, 170, 171, 172, 173, 174, 175, 176, 177, 178, 179, 180, 181, 182] (by decide +kernel) (by decide +kernel)
set_option maxRecDepth 20000 in
theorem gX5_worstKey_X5_sunkBySetting : GoodIn wsX5_worstKey (wsV RX5 173 RX5 yX5_sunkBySetting wsX5_sunkBySetting) := goodIn_app (goodIn_of _ (by decide +kernel)) ggX5_worstKey_X5_sunkBySetting
theorem dX5_worstKey_0 : decode cX5_worstKey 0 = .ok (.iload_n 1, 1) := by decide +kernel
theorem dX5_worstKey_1 : decode cX5_worstKey 1 = .ok (.ifCond .eq 11, 3) := by decide +kernel
theorem dX5_worstKey_4 : decode cX5_worstKey 4 = .ok (.iload_n 1, 1) := by decide +kernel
theorem dX5_worstKey_5 : decode cX5_worstKey 5 = .ok (.iconst 1, 1) := by decide +kernel
theorem dX5_worstKey_6 : decode cX5_worstKey 6 = .ok (.if_icmp .eq 6, 3) := by decide +kernel
theorem dX5_worstKey_9 : decode cX5_worstKey 9 = .ok (.bipush (-2), 2) := by decide +kernel
theorem dX5_worstKey_11 : decode cX5_worstKey 11 = .ok (.ireturn, 1) := by decide +kernel
theorem dX5_worstKey_12 : decode cX5_worstKey 12 = .ok (.iconst 0, 1) := by decide +kernel
theorem dX5_worstKey_13 : decode cX5_worstKey 13 = .ok (.istore_n 2, 1) := by decide +kernel
theorem dX5_worstKey_14 : decode cX5_worstKey 14 = .ok (.aload_n 0, 1) := by decide +kernel
theorem dX5_worstKey_15 : decode cX5_worstKey 15 = .ok (.iconst 0, 1) := by decide +kernel
theorem dX5_worstKey_16 : decode cX5_worstKey 16 = .ok (.invokevirtual 173, 3) := by decide +kernel
theorem dX5_worstKey_19 : decode cX5_worstKey 19 = .ok (.istore_n 3, 1) := by decide +kernel
theorem dX5_worstKey_20 : decode cX5_worstKey 20 = .ok (.iconst 1, 1) := by decide +kernel
theorem dX5_worstKey_21 : decode cX5_worstKey 21 = .ok (.istore 4, 2) := by decide +kernel
theorem dX5_worstKey_23 : decode cX5_worstKey 23 = .ok (.iload 4, 2) := by decide +kernel
theorem dX5_worstKey_25 : decode cX5_worstKey 25 = .ok (.bipush 27, 2) := by decide +kernel
theorem dX5_worstKey_27 : decode cX5_worstKey 27 = .ok (.if_icmp .ge 29, 3) := by decide +kernel
theorem dX5_worstKey_30 : decode cX5_worstKey 30 = .ok (.aload_n 0, 1) := by decide +kernel
theorem dX5_worstKey_31 : decode cX5_worstKey 31 = .ok (.iload 4, 2) := by decide +kernel
theorem dX5_worstKey_33 : decode cX5_worstKey 33 = .ok (.invokevirtual 173, 3) := by decide +kernel
theorem dX5_worstKey_36 : decode cX5_worstKey 36 = .ok (.istore 5, 2) := by decide +kernel
theorem dX5_worstKey_38 : decode cX5_worstKey 38 = .ok (.iload 5, 2) := by decide +kernel
theorem dX5_worstKey_40 : decode cX5_worstKey 40 = .ok (.iload_n 3, 1) := by decide +kernel
theorem dX5_worstKey_41 : decode cX5_worstKey 41 = .ok (.if_icmp .le 9, 3) := by decide +kernel
theorem dX5_worstKey_44 : decode cX5_worstKey 44 = .ok (.iload 4, 2) := by decide +kernel
theorem dX5_worstKey_46 : decode cX5_worstKey 46 = .ok (.istore_n 2, 1) := by decide +kernel
theorem dX5_worstKey_47 : decode cX5_worstKey 47 = .ok (.iload 5, 2) := by decide +kernel
theorem dX5_worstKey_49 : decode cX5_worstKey 49 = .ok (.istore_n 3, 1) := by decide +kernel
theorem dX5_worstKey_50 : decode cX5_worstKey 50 = .ok (.iinc 4 1, 3) := by decide +kernel
theorem dX5_worstKey_53 : decode cX5_worstKey 53 = .ok (.goto (-30), 3) := by decide +kernel
theorem dX5_worstKey_56 : decode cX5_worstKey 56 = .ok (.iload_n 1, 1) := by decide +kernel
theorem dX5_worstKey_57 : decode cX5_worstKey 57 = .ok (.ifCond .ne 7, 3) := by decide +kernel
theorem dX5_worstKey_60 : decode cX5_worstKey 60 = .ok (.iload_n 2, 1) := by decide +kernel
theorem dX5_worstKey_61 : decode cX5_worstKey 61 = .ok (.goto 4, 3) := by decide +kernel
theorem dX5_worstKey_64 : decode cX5_worstKey 64 = .ok (.iload_n 3, 1) := by decide +kernel
theorem dX5_worstKey_65 : decode cX5_worstKey 65 = .ok (.ireturn, 1) := by decide +kernel
set_option maxRecDepth 20000 in
theorem ggX5_toEmptyAll_X4_copyFrom : GoodIn wsX5_toEmptyAll wsX4_copyFrom := goodIn_r _ [7, 8, 9, 10, 11, 12, 13, 14, 15, 16, 17, 18, 19, 6, 20, 21, 22, 23, 24, 25, 26, 27, 28, 170, 171, 172, 173, 174, 175, 176, 177, 178, 179] (by decide +kernel) (by decide +kernel)
set_option maxRecDepth 20000 in
theorem gX5_toEmptyAll_X4_copyFrom : GoodIn wsX5_toEmptyAll (wsV RX5 176 RX4 yX4_copyFrom wsX4_copyFrom) := goodIn_app (goodIn_of _ (by decide +kernel)) ggX5_toEmptyAll_X4_copyFrom
set_option maxRecDepth 20000 in
theorem ggX5_toEmptyAll_X4_emptyBuffer : GoodIn wsX5_toEmptyAll wsX4_emptyBuffer := goodIn_r _ [32, 33, 34, 35, 36, 37, 38, 39, 6, 40, 12, 13, 41, 42, 43, 44, 45, 46, 47, 48, 49, 50, 51, 52, 53, 54, 55, 56, 57, 58, 59, 10, 60, 61, 62, 63, 11, 64, 65, 66, 67, 68, 69, 70, 71, 72, 73, 74, 75, 76, 77, 78, 79, 80, 81, 82, 83, 84, 85, 86, 87, 88, 89, 90, 91, 92, 93, 94, 23, 95, 96, 22, 24, 97, 98, 99, 100, 101, 102, 103, 104, 105, 106, 107, 108, 109, 110, 111, 112, 113, 114, 115, 116, 117, 9, 16, 118, 119, 120, 121, 122, 123, 124, 125, 126, 127, 128, 129, 130, 131, 8, 132, 133, 134, 135, 14, 136, 137, 138, 139, 140, 141, 142, 143, 144, 145, 146, 147, 148, 149, 150, 151, 152, 153, 154, 155, 156, 170, 171, 172, 173, 174, 175, 176, 177, 178, 179] (by decide +kernel) (by decide +kernel)
set_option maxRecDepth 20000 in
theorem gX5_toEmptyAll_X4_emptyBuffer : GoodIn wsX5_toEmptyAll (wsV RX5 77 RX4 yX4_emptyBuffer wsX4_emptyBuffer) := goodIn_app (goodIn_of _ (by decide +kernel)) ggX5_toEmptyAll_X4_emptyBuffer
set_option maxRecDepth 20000 in
theorem ggX5_toEmptyAll_X4_allStonesSunk : GoodIn wsX5_toEmptyAll wsX4_allStonesSunk := goodIn_r _ [160, 13, 161, 162, 6, 163, 170, 171, 172, 173, 174, 175, 176, 177, 178, 179] (by decide +kernel) (by decide +kernel)
set_option maxRecDepth 20000 in
theorem gX5_toEmptyAll_X4_allStonesSunk : GoodIn wsX5_toEmptyAll (wsV RX5 137 RX4 yX4_allStonesSunk wsX4_allStonesSunk) := goodIn_app (goodIn_of _ (by decide +kernel)) ggX5_toEmptyAll_X4_allStonesSunk
theorem dX5_toEmptyAll_0 : decode cX5_toEmptyAll 0 = .ok (.aload_n 0, 1) := by decide +kernel
theorem dX5_toEmptyAll_1 : decode cX5_toEmptyAll 1 = .ok (.getfield 16, 3) := by decide +kernel
theorem dX5_toEmptyAll_4 : decode cX5_toEmptyAll 4 = .ok (.aload_n 0, 1) := by decide +kernel
theorem dX5_toEmptyAll_5 : decode cX5_toEmptyAll 5 = .ok (.getfield 12, 3) := by decide +kernel
theorem dX5_toEmptyAll_8 : decode cX5_toEmptyAll 8 = .ok (.invokevirtual 176, 3) := by decide +kernel
theorem dX5_toEmptyAll_11 : decode cX5_toEmptyAll 11 = .ok (.iconst 0, 1) := by decide +kernel
theorem dX5_toEmptyAll_12 : decode cX5_toEmptyAll 12 = .ok (.istore_n 1, 1) := by decide +kernel
theorem dX5_toEmptyAll_13 : decode cX5_toEmptyAll 13 = .ok (.iload_n 1, 1) := by decide +kernel
theorem dX5_toEmptyAll_14 : decode cX5_toEmptyAll 14 = .ok (.bipush 13, 2) := by decide +kernel
theorem dX5_toEmptyAll_16 : decode cX5_toEmptyAll 16 = .ok (.if_icmp .ge 17, 3) := by decide +kernel
theorem dX5_toEmptyAll_19 : decode cX5_toEmptyAll 19 = .ok (.aload_n 0, 1) := by decide +kernel
theorem dX5_toEmptyAll_20 : decode cX5_toEmptyAll 20 = .ok (.getfield 16, 3) := by decide +kernel
theorem dX5_toEmptyAll_23 : decode cX5_toEmptyAll 23 = .ok (.iload_n 1, 1) := by decide +kernel
theorem dX5_toEmptyAll_24 : decode cX5_toEmptyAll 24 = .ok (.invokevirtual 77, 3) := by decide +kernel
theorem dX5_toEmptyAll_27 : decode cX5_toEmptyAll 27 = .ok (.iinc 1 1, 3) := by decide +kernel
theorem dX5_toEmptyAll_30 : decode cX5_toEmptyAll 30 = .ok (.goto (-17), 3) := by decide +kernel
theorem dX5_toEmptyAll_33 : decode cX5_toEmptyAll 33 = .ok (.aload_n 0, 1) := by decide +kernel
theorem dX5_toEmptyAll_34 : decode cX5_toEmptyAll 34 = .ok (.getfield 16, 3) := by decide +kernel
theorem dX5_toEmptyAll_37 : decode cX5_toEmptyAll 37 = .ok (.invokevirtual 137, 3) := by decide +kernel
theorem dX5_toEmptyAll_40 : decode cX5_toEmptyAll 40 = .ok (.aload_n 0, 1) := by decide +kernel
theorem dX5_toEmptyAll_41 : decode cX5_toEmptyAll 41 = .ok (.getfield 12, 3) := by decide +kernel
theorem dX5_toEmptyAll_44 : decode cX5_toEmptyAll 44 = .ok (.invokevirtual 137, 3) := by decide +kernel
theorem dX5_toEmptyAll_47 : decode cX5_toEmptyAll 47 = .ok (.isub, 1) := by decide +kernel
theorem dX5_toEmptyAll_48 : decode cX5_toEmptyAll 48 = .ok (.ireturn, 1) := by decide +kernel
set_option maxRecDepth 20000 in
theorem ggX5_same_X5_isKey : GoodIn wsX5_same wsX5_isKey := goodIn_r _ [5] (by decide +kernel) (by decide +kernel)
set_option maxRecDepth 20000 in
theorem gX5_same_X5_isKey : GoodIn wsX5_same (va_wsS RX5 80 yX5_isKey wsX5_isKey) := goodIn_app (goodIn_of _ (by decide +kernel)) ggX5_same_X5_isKey
set_option maxRecDepth 20000 in
theorem ggX5_same_X4_valueAsRead : GoodIn wsX5_same wsX4_valueAsRead := goodIn_r _ [10, 11, 12, 13, 9, 14, 15, 16, 17, 18, 19, 20, 21, 22, 23, 24, 25, 26, 27, 28, 29, 30, 31, 32, 33, 34, 35, 36, 37, 38, 39, 40, 41, 42, 43, 44, 45, 46, 47, 48, 49, 50, 51, 52, 53, 54, 55, 62, 63, 64, 65, 66, 67, 68, 69, 70, 71] (by decide +kernel) (by decide +kernel)
set_option maxRecDepth 20000 in
theorem gX5_same_X4_valueAsRead : GoodIn wsX5_same (wsV RX5 86 RX4 yX4_valueAsRead wsX4_valueAsRead) := goodIn_app (goodIn_of _ (by decide +kernel)) ggX5_same_X4_valueAsRead
theorem dX5_same_0 : decode cX5_same 0 = .ok (.iload_n 1, 1) := by decide +kernel
theorem dX5_same_1 : decode cX5_same 1 = .ok (.invokestatic 80, 3) := by decide +kernel
theorem dX5_same_4 : decode cX5_same 4 = .ok (.ifCond .eq 10, 3) := by decide +kernel
theorem dX5_same_7 : decode cX5_same 7 = .ok (.iload_n 2, 1) := by decide +kernel
theorem dX5_same_8 : decode cX5_same 8 = .ok (.invokestatic 80, 3) := by decide +kernel
theorem dX5_same_11 : decode cX5_same 11 = .ok (.ifCond .ne 5, 3) := by decide +kernel
theorem dX5_same_14 : decode cX5_same 14 = .ok (.iconst (-1), 1) := by decide +kernel
theorem dX5_same_15 : decode cX5_same 15 = .ok (.ireturn, 1) := by decide +kernel
theorem dX5_same_16 : decode cX5_same 16 = .ok (.aload_n 0, 1) := by decide +kernel
theorem dX5_same_17 : decode cX5_same 17 = .ok (.getfield 12, 3) := by decide +kernel
theorem dX5_same_20 : decode cX5_same 20 = .ok (.iload_n 1, 1) := by decide +kernel
theorem dX5_same_21 : decode cX5_same 21 = .ok (.invokevirtual 86, 3) := by decide +kernel
theorem dX5_same_24 : decode cX5_same 24 = .ok (.aload_n 0, 1) := by decide +kernel
theorem dX5_same_25 : decode cX5_same 25 = .ok (.getfield 12, 3) := by decide +kernel
theorem dX5_same_28 : decode cX5_same 28 = .ok (.iload_n 2, 1) := by decide +kernel
theorem dX5_same_29 : decode cX5_same 29 = .ok (.invokevirtual 86, 3) := by decide +kernel
theorem dX5_same_32 : decode cX5_same 32 = .ok (.if_icmp .ne 7, 3) := by decide +kernel
theorem dX5_same_35 : decode cX5_same 35 = .ok (.iconst 1, 1) := by decide +kernel
theorem dX5_same_36 : decode cX5_same 36 = .ok (.goto 4, 3) := by decide +kernel
theorem dX5_same_39 : decode cX5_same 39 = .ok (.iconst 0, 1) := by decide +kernel
theorem dX5_same_40 : decode cX5_same 40 = .ok (.ireturn, 1) := by decide +kernel
set_option maxRecDepth 20000 in
theorem ggX5_put_X1_charactersIn : GoodIn wsX5_put wsX1_charactersIn := goodIn_r _ [5, 6, 7, 8] (by decide +kernel) (by decide +kernel)
set_option maxRecDepth 20000 in
theorem gX5_put_X1_charactersIn : GoodIn wsX5_put (va_wsS RX5 179 yX1_charactersIn wsX1_charactersIn) := goodIn_app (goodIn_of _ (by decide +kernel)) ggX5_put_X1_charactersIn
set_option maxRecDepth 20000 in
theorem ggX5_put_X1_length : GoodIn wsX5_put wsX1_length := goodIn_r _ [12, 13, 25, 26, 27, 28, 29] (by decide +kernel) (by decide +kernel)
set_option maxRecDepth 20000 in
theorem gX5_put_X1_length : GoodIn wsX5_put (wsV RX5 149 RX1 yX1_length wsX1_length) := goodIn_app (goodIn_of _ (by decide +kernel)) ggX5_put_X1_length
set_option maxRecDepth 20000 in
theorem ggX5_put_X1_append : GoodIn wsX5_put wsX1_append := goodIn_r _ [17, 13, 18, 6, 25, 26, 27, 28, 29] (by decide +kernel) (by decide +kernel)
set_option maxRecDepth 20000 in
theorem gX5_put_X1_append : GoodIn wsX5_put (wsV RX5 183 RX1 yX1_append wsX1_append) := goodIn_app (goodIn_of _ (by decide +kernel)) ggX5_put_X1_append
theorem dX5_put_0 : decode cX5_put 0 = .ok (.lload_n 1, 1) := by decide +kernel
theorem dX5_put_1 : decode cX5_put 1 = .ok (.invokestatic 179, 3) := by decide +kernel
theorem dX5_put_4 : decode cX5_put 4 = .ok (.istore_n 3, 1) := by decide +kernel
theorem dX5_put_5 : decode cX5_put 5 = .ok (.iload_n 3, 1) := by decide +kernel
theorem dX5_put_6 : decode cX5_put 6 = .ok (.ifCond .ne 6, 3) := by decide +kernel
theorem dX5_put_9 : decode cX5_put 9 = .ok (.bipush (-2), 2) := by decide +kernel
theorem dX5_put_11 : decode cX5_put 11 = .ok (.ireturn, 1) := by decide +kernel
theorem dX5_put_12 : decode cX5_put 12 = .ok (.aload_n 0, 1) := by decide +kernel
theorem dX5_put_13 : decode cX5_put 13 = .ok (.getfield 37, 3) := by decide +kernel
theorem dX5_put_16 : decode cX5_put 16 = .ok (.invokevirtual 149, 3) := by decide +kernel
theorem dX5_put_19 : decode cX5_put 19 = .ok (.iload_n 3, 1) := by decide +kernel
theorem dX5_put_20 : decode cX5_put 20 = .ok (.iadd, 1) := by decide +kernel
theorem dX5_put_21 : decode cX5_put 21 = .ok (.bipush 60, 2) := by decide +kernel
theorem dX5_put_23 : decode cX5_put 23 = .ok (.if_icmp .le 6, 3) := by decide +kernel
theorem dX5_put_26 : decode cX5_put 26 = .ok (.bipush (-4), 2) := by decide +kernel
theorem dX5_put_28 : decode cX5_put 28 = .ok (.ireturn, 1) := by decide +kernel
theorem dX5_put_29 : decode cX5_put 29 = .ok (.aload_n 0, 1) := by decide +kernel
theorem dX5_put_30 : decode cX5_put 30 = .ok (.getfield 37, 3) := by decide +kernel
theorem dX5_put_33 : decode cX5_put 33 = .ok (.lload_n 1, 1) := by decide +kernel
theorem dX5_put_34 : decode cX5_put 34 = .ok (.iload_n 3, 1) := by decide +kernel
theorem dX5_put_35 : decode cX5_put 35 = .ok (.invokevirtual 183, 3) := by decide +kernel
theorem dX5_put_38 : decode cX5_put 38 = .ok (.aload_n 0, 1) := by decide +kernel
theorem dX5_put_39 : decode cX5_put 39 = .ok (.getfield 37, 3) := by decide +kernel
theorem dX5_put_42 : decode cX5_put 42 = .ok (.invokevirtual 149, 3) := by decide +kernel
theorem dX5_put_45 : decode cX5_put 45 = .ok (.ireturn, 1) := by decide +kernel
set_option maxRecDepth 20000 in
theorem ggX5_wipe_X1_length : GoodIn wsX5_wipe wsX1_length := goodIn_r _ [6, 7, 18, 19, 20, 21, 22] (by decide +kernel) (by decide +kernel)
set_option maxRecDepth 20000 in
theorem gX5_wipe_X1_length : GoodIn wsX5_wipe (wsV RX5 149 RX1 yX1_length wsX1_length) := goodIn_app (goodIn_of _ (by decide +kernel)) ggX5_wipe_X1_length
set_option maxRecDepth 20000 in
theorem ggX5_wipe_X1_clear : GoodIn wsX5_wipe wsX1_clear := goodIn_r _ [11, 7, 18, 19, 20, 21, 22] (by decide +kernel) (by decide +kernel)
set_option maxRecDepth 20000 in
theorem gX5_wipe_X1_clear : GoodIn wsX5_wipe (wsV RX5 187 RX1 yX1_clear wsX1_clear) := goodIn_app (goodIn_of _ (by decide +kernel)) ggX5_wipe_X1_clear
theorem dX5_wipe_0 : decode cX5_wipe 0 = .ok (.aload_n 0, 1) := by decide +kernel
theorem dX5_wipe_1 : decode cX5_wipe 1 = .ok (.getfield 37, 3) := by decide +kernel
theorem dX5_wipe_4 : decode cX5_wipe 4 = .ok (.invokevirtual 149, 3) := by decide +kernel
theorem dX5_wipe_7 : decode cX5_wipe 7 = .ok (.istore_n 1, 1) := by decide +kernel
theorem dX5_wipe_8 : decode cX5_wipe 8 = .ok (.aload_n 0, 1) := by decide +kernel
theorem dX5_wipe_9 : decode cX5_wipe 9 = .ok (.getfield 37, 3) := by decide +kernel
theorem dX5_wipe_12 : decode cX5_wipe 12 = .ok (.invokevirtual 187, 3) := by decide +kernel
theorem dX5_wipe_15 : decode cX5_wipe 15 = .ok (.iload_n 1, 1) := by decide +kernel
theorem dX5_wipe_16 : decode cX5_wipe 16 = .ok (.ireturn, 1) := by decide +kernel
set_option maxRecDepth 20000 in
theorem ggX5_fault_X1_readOrders : GoodIn wsX5_fault wsX1_readOrders := goodIn_r _ [6, 7, 8, 9, 10, 11, 12, 5, 13, 14, 15, 16, 17, 18, 19, 20, 21, 22, 23, 24, 25, 26, 27, 28, 29, 30, 31, 32, 33, 34, 35, 36, 37, 38, 39, 40, 41, 42, 43, 50, 51, 52, 53, 54] (by decide +kernel) (by decide +kernel)
set_option maxRecDepth 20000 in
theorem gX5_fault_X1_readOrders : GoodIn wsX5_fault (wsV RX5 190 RX1 yX1_readOrders wsX1_readOrders) := goodIn_app (goodIn_of _ (by decide +kernel)) ggX5_fault_X1_readOrders
theorem dX5_fault_0 : decode cX5_fault 0 = .ok (.aload_n 0, 1) := by decide +kernel
theorem dX5_fault_1 : decode cX5_fault 1 = .ok (.getfield 37, 3) := by decide +kernel
theorem dX5_fault_4 : decode cX5_fault 4 = .ok (.invokevirtual 190, 3) := by decide +kernel
theorem dX5_fault_7 : decode cX5_fault 7 = .ok (.ireturn, 1) := by decide +kernel
set_option maxRecDepth 20000 in
theorem ggX5_carryOut_X1_readOrders : GoodIn wsX5_carryOut wsX1_readOrders := goodIn_r _ [8, 9, 10, 11, 12, 13, 14, 7, 15, 16, 17, 18, 19, 20, 21, 22, 23, 24, 25, 26, 27, 28, 29, 30, 31, 32, 33, 34, 35, 36, 37, 38, 39, 40, 41, 42, 43, 44, 45, 218, 219, 220, 221, 222] (by decide +kernel) (by decide +kernel)
set_option maxRecDepth 20000 in
theorem gX5_carryOut_X1_readOrders : GoodIn wsX5_carryOut (wsV RX5 190 RX1 yX1_readOrders wsX1_readOrders) := goodIn_app (goodIn_of _ (by decide +kernel)) ggX5_carryOut_X1_readOrders
set_option maxRecDepth 20000 in
theorem ggX5_carryOut_X0_record : GoodIn wsX5_carryOut wsX0_record := goodIn_r _ [50, 51, 52, 53, 54, 55, 22, 56, 57, 58, 59, 60, 61, 62, 63, 64, 65, 66, 67, 68, 69, 70, 71, 72, 73, 74, 75, 76, 77, 78, 79, 223, 224, 225, 226, 227, 228, 229, 230, 231, 232, 233, 234, 235] (by decide +kernel) (by decide +kernel)
set_option maxRecDepth 20000 in
theorem gX5_carryOut_X0_record : GoodIn wsX5_carryOut (wsV RX5 45 RX0 yX0_record wsX0_record) := goodIn_app (goodIn_of _ (by decide +kernel)) ggX5_carryOut_X0_record
set_option maxRecDepth 20000 in
theorem ggX5_carryOut_X1_orders : GoodIn wsX5_carryOut wsX1_orders := goodIn_r _ [83, 9, 218, 219, 220, 221, 222] (by decide +kernel) (by decide +kernel)
set_option maxRecDepth 20000 in
theorem gX5_carryOut_X1_orders : GoodIn wsX5_carryOut (wsV RX5 193 RX1 yX1_orders wsX1_orders) := goodIn_app (goodIn_of _ (by decide +kernel)) ggX5_carryOut_X1_orders
set_option maxRecDepth 20000 in
theorem ggX5_carryOut_X1_order : GoodIn wsX5_carryOut wsX1_order := goodIn_r _ [87, 41, 218, 219, 220, 221, 222] (by decide +kernel) (by decide +kernel)
set_option maxRecDepth 20000 in
theorem gX5_carryOut_X1_order : GoodIn wsX5_carryOut (wsV RX5 196 RX1 yX1_order wsX1_order) := goodIn_app (goodIn_of _ (by decide +kernel)) ggX5_carryOut_X1_order
set_option maxRecDepth 20000 in
theorem ggX5_carryOut_X4_drop : GoodIn wsX5_carryOut wsX4_drop := goodIn_r _ [91, 69, 92, 93, 94, 60, 95, 96, 97, 98, 99, 64, 100, 101, 102, 103, 104, 105, 106, 107, 65, 108, 109, 110, 111, 112, 113, 114, 115, 116, 117, 118, 62, 119, 120, 121, 122, 68, 123, 124, 44, 125, 126, 127, 128, 129, 130, 131, 132, 133, 134, 135, 136, 137, 138, 139, 140, 141, 142, 143, 144, 145, 146, 147, 148, 149, 150, 43, 45, 151, 152, 153, 154, 155, 156, 157, 158, 159, 160, 161, 162, 163, 164, 165, 166, 167, 168, 169, 170, 171, 172, 173, 174, 175, 176, 177, 178, 179, 180, 181, 182, 66, 67, 183, 184, 185, 186, 187, 188, 189, 190, 21, 22, 23, 191, 55, 56, 192, 193, 194, 195, 196, 197, 198, 199, 200, 201, 63, 70, 202, 203, 204, 205, 206, 207, 226, 227, 228, 229, 230, 231, 232, 233, 234, 235] (by decide +kernel) (by decide +kernel)
set_option maxRecDepth 20000 in
theorem gX5_carryOut_X4_drop : GoodIn wsX5_carryOut (wsV RX5 65 RX4 yX4_drop wsX4_drop) := goodIn_app (goodIn_of _ (by decide +kernel)) ggX5_carryOut_X4_drop
set_option maxRecDepth 20000 in
theorem ggX5_carryOut_X1_clear : GoodIn wsX5_carryOut wsX1_clear := goodIn_r _ [211, 11, 218, 219, 220, 221, 222] (by decide +kernel) (by decide +kernel)
set_option maxRecDepth 20000 in
theorem gX5_carryOut_X1_clear : GoodIn wsX5_carryOut (wsV RX5 187 RX1 yX1_clear wsX1_clear) := goodIn_app (goodIn_of _ (by decide +kernel)) ggX5_carryOut_X1_clear
theorem dX5_carryOut_0 : decode cX5_carryOut 0 = .ok (.aload_n 0, 1) := by decide +kernel
theorem dX5_carryOut_1 : decode cX5_carryOut 1 = .ok (.getfield 37, 3) := by decide +kernel
theorem dX5_carryOut_4 : decode cX5_carryOut 4 = .ok (.invokevirtual 190, 3) := by decide +kernel
theorem dX5_carryOut_7 : decode cX5_carryOut 7 = .ok (.bipush (-6), 2) := by decide +kernel
theorem dX5_carryOut_9 : decode cX5_carryOut 9 = .ok (.if_icmp .eq 6, 3) := by decide +kernel
theorem dX5_carryOut_12 : decode cX5_carryOut 12 = .ok (.bipush (-3), 2) := by decide +kernel
theorem dX5_carryOut_14 : decode cX5_carryOut 14 = .ok (.ireturn, 1) := by decide +kernel
theorem dX5_carryOut_15 : decode cX5_carryOut 15 = .ok (.aload_n 0, 1) := by decide +kernel
theorem dX5_carryOut_16 : decode cX5_carryOut 16 = .ok (.getfield 22, 3) := by decide +kernel
theorem dX5_carryOut_19 : decode cX5_carryOut 19 = .ok (.aload_n 0, 1) := by decide +kernel
theorem dX5_carryOut_20 : decode cX5_carryOut 20 = .ok (.getfield 12, 3) := by decide +kernel
theorem dX5_carryOut_23 : decode cX5_carryOut 23 = .ok (.invokevirtual 45, 3) := by decide +kernel
theorem dX5_carryOut_26 : decode cX5_carryOut 26 = .ok (.aload_n 0, 1) := by decide +kernel
theorem dX5_carryOut_27 : decode cX5_carryOut 27 = .ok (.getfield 37, 3) := by decide +kernel
theorem dX5_carryOut_30 : decode cX5_carryOut 30 = .ok (.invokevirtual 193, 3) := by decide +kernel
theorem dX5_carryOut_33 : decode cX5_carryOut 33 = .ok (.istore_n 1, 1) := by decide +kernel
theorem dX5_carryOut_34 : decode cX5_carryOut 34 = .ok (.iconst 0, 1) := by decide +kernel
theorem dX5_carryOut_35 : decode cX5_carryOut 35 = .ok (.istore_n 2, 1) := by decide +kernel
theorem dX5_carryOut_36 : decode cX5_carryOut 36 = .ok (.iload_n 2, 1) := by decide +kernel
theorem dX5_carryOut_37 : decode cX5_carryOut 37 = .ok (.iload_n 1, 1) := by decide +kernel
theorem dX5_carryOut_38 : decode cX5_carryOut 38 = .ok (.if_icmp .ge 24, 3) := by decide +kernel
theorem dX5_carryOut_41 : decode cX5_carryOut 41 = .ok (.aload_n 0, 1) := by decide +kernel
theorem dX5_carryOut_42 : decode cX5_carryOut 42 = .ok (.getfield 12, 3) := by decide +kernel
theorem dX5_carryOut_45 : decode cX5_carryOut 45 = .ok (.aload_n 0, 1) := by decide +kernel
theorem dX5_carryOut_46 : decode cX5_carryOut 46 = .ok (.getfield 37, 3) := by decide +kernel
theorem dX5_carryOut_49 : decode cX5_carryOut 49 = .ok (.iload_n 2, 1) := by decide +kernel
theorem dX5_carryOut_50 : decode cX5_carryOut 50 = .ok (.invokevirtual 196, 3) := by decide +kernel
theorem dX5_carryOut_53 : decode cX5_carryOut 53 = .ok (.invokevirtual 65, 3) := by decide +kernel
theorem dX5_carryOut_56 : decode cX5_carryOut 56 = .ok (.iinc 2 1, 3) := by decide +kernel
theorem dX5_carryOut_59 : decode cX5_carryOut 59 = .ok (.goto (-23), 3) := by decide +kernel
theorem dX5_carryOut_62 : decode cX5_carryOut 62 = .ok (.aload_n 0, 1) := by decide +kernel
theorem dX5_carryOut_63 : decode cX5_carryOut 63 = .ok (.getfield 37, 3) := by decide +kernel
theorem dX5_carryOut_66 : decode cX5_carryOut 66 = .ok (.invokevirtual 187, 3) := by decide +kernel
theorem dX5_carryOut_69 : decode cX5_carryOut 69 = .ok (.iload_n 1, 1) := by decide +kernel
theorem dX5_carryOut_70 : decode cX5_carryOut 70 = .ok (.ireturn, 1) := by decide +kernel
set_option maxRecDepth 20000 in
theorem ggX5_undo_X0_states : GoodIn wsX5_undo wsX0_states := goodIn_r _ [7, 8, 47, 48, 49] (by decide +kernel) (by decide +kernel)
set_option maxRecDepth 20000 in
theorem gX5_undo_X0_states : GoodIn wsX5_undo (wsV RX5 152 RX0 yX0_states wsX0_states) := goodIn_app (goodIn_of _ (by decide +kernel)) ggX5_undo_X0_states
set_option maxRecDepth 20000 in
theorem ggX5_undo_X0_takeBack : GoodIn wsX5_undo wsX0_takeBack := goodIn_r _ [12, 13, 8, 14, 15, 16, 17, 18, 19, 20, 21, 22, 23, 24, 25, 26, 27, 28, 29, 30, 31, 32, 33, 34, 35, 36, 37, 38, 39, 40, 47, 48, 49, 50, 51, 52, 53, 54, 55, 56, 57, 58, 59] (by decide +kernel) (by decide +kernel)
set_option maxRecDepth 20000 in
theorem gX5_undo_X0_takeBack : GoodIn wsX5_undo (wsV RX5 199 RX0 yX0_takeBack wsX0_takeBack) := goodIn_app (goodIn_of _ (by decide +kernel)) ggX5_undo_X0_takeBack
theorem dX5_undo_0 : decode cX5_undo 0 = .ok (.aload_n 0, 1) := by decide +kernel
theorem dX5_undo_1 : decode cX5_undo 1 = .ok (.getfield 22, 3) := by decide +kernel
theorem dX5_undo_4 : decode cX5_undo 4 = .ok (.invokevirtual 152, 3) := by decide +kernel
theorem dX5_undo_7 : decode cX5_undo 7 = .ok (.ifCond .ne 6, 3) := by decide +kernel
theorem dX5_undo_10 : decode cX5_undo 10 = .ok (.bipush (-5), 2) := by decide +kernel
theorem dX5_undo_12 : decode cX5_undo 12 = .ok (.ireturn, 1) := by decide +kernel
theorem dX5_undo_13 : decode cX5_undo 13 = .ok (.aload_n 0, 1) := by decide +kernel
theorem dX5_undo_14 : decode cX5_undo 14 = .ok (.getfield 22, 3) := by decide +kernel
theorem dX5_undo_17 : decode cX5_undo 17 = .ok (.aload_n 0, 1) := by decide +kernel
theorem dX5_undo_18 : decode cX5_undo 18 = .ok (.getfield 12, 3) := by decide +kernel
theorem dX5_undo_21 : decode cX5_undo 21 = .ok (.invokevirtual 199, 3) := by decide +kernel
theorem dX5_undo_24 : decode cX5_undo 24 = .ok (.aload_n 0, 1) := by decide +kernel
theorem dX5_undo_25 : decode cX5_undo 25 = .ok (.getfield 22, 3) := by decide +kernel
theorem dX5_undo_28 : decode cX5_undo 28 = .ok (.invokevirtual 152, 3) := by decide +kernel
theorem dX5_undo_31 : decode cX5_undo 31 = .ok (.ireturn, 1) := by decide +kernel
set_option maxRecDepth 20000 in
theorem ggX5_save_X5_isSlot : GoodIn wsX5_save wsX5_isSlot := goodIn_r _ [8, 1, 42, 43, 44, 45, 46, 47] (by decide +kernel) (by decide +kernel)
set_option maxRecDepth 20000 in
theorem gX5_save_X5_isSlot : GoodIn wsX5_save (wsV RX5 202 RX5 yX5_isSlot wsX5_isSlot) := goodIn_app (goodIn_of _ (by decide +kernel)) ggX5_save_X5_isSlot
set_option maxRecDepth 20000 in
theorem ggX5_save_X4_copyFrom : GoodIn wsX5_save wsX4_copyFrom := goodIn_r _ [13, 14, 15, 16, 17, 18, 19, 20, 21, 22, 23, 24, 25, 12, 26, 27, 28, 29, 30, 31, 32, 33, 34, 48, 49, 50, 51, 52, 53, 54, 55, 56, 57] (by decide +kernel) (by decide +kernel)
set_option maxRecDepth 20000 in
theorem gX5_save_X4_copyFrom : GoodIn wsX5_save (wsV RX5 176 RX4 yX4_copyFrom wsX4_copyFrom) := goodIn_app (goodIn_of _ (by decide +kernel)) ggX5_save_X4_copyFrom
set_option maxRecDepth 20000 in
theorem ggX5_save_X4_stones : GoodIn wsX5_save wsX4_stones := goodIn_r _ [38, 16, 39, 40, 12, 41, 48, 49, 50, 51, 52, 53, 54, 55, 56, 57] (by decide +kernel) (by decide +kernel)
set_option maxRecDepth 20000 in
theorem gX5_save_X4_stones : GoodIn wsX5_save (wsV RX5 69 RX4 yX4_stones wsX4_stones) := goodIn_app (goodIn_of _ (by decide +kernel)) ggX5_save_X4_stones
theorem dX5_save_0 : decode cX5_save 0 = .ok (.aload_n 0, 1) := by decide +kernel
theorem dX5_save_1 : decode cX5_save 1 = .ok (.iload_n 1, 1) := by decide +kernel
theorem dX5_save_2 : decode cX5_save 2 = .ok (.invokevirtual 202, 3) := by decide +kernel
theorem dX5_save_5 : decode cX5_save 5 = .ok (.ifCond .ne 6, 3) := by decide +kernel
theorem dX5_save_8 : decode cX5_save 8 = .ok (.bipush (-2), 2) := by decide +kernel
theorem dX5_save_10 : decode cX5_save 10 = .ok (.ireturn, 1) := by decide +kernel
theorem dX5_save_11 : decode cX5_save 11 = .ok (.aload_n 0, 1) := by decide +kernel
theorem dX5_save_12 : decode cX5_save 12 = .ok (.getfield 26, 3) := by decide +kernel
theorem dX5_save_15 : decode cX5_save 15 = .ok (.iload_n 1, 1) := by decide +kernel
theorem dX5_save_16 : decode cX5_save 16 = .ok (.aaload, 1) := by decide +kernel
theorem dX5_save_17 : decode cX5_save 17 = .ok (.aload_n 0, 1) := by decide +kernel
theorem dX5_save_18 : decode cX5_save 18 = .ok (.getfield 12, 3) := by decide +kernel
theorem dX5_save_21 : decode cX5_save 21 = .ok (.invokevirtual 176, 3) := by decide +kernel
theorem dX5_save_24 : decode cX5_save 24 = .ok (.aload_n 0, 1) := by decide +kernel
theorem dX5_save_25 : decode cX5_save 25 = .ok (.getfield 30, 3) := by decide +kernel
theorem dX5_save_28 : decode cX5_save 28 = .ok (.iload_n 1, 1) := by decide +kernel
theorem dX5_save_29 : decode cX5_save 29 = .ok (.iconst 1, 1) := by decide +kernel
theorem dX5_save_30 : decode cX5_save 30 = .ok (.bastore, 1) := by decide +kernel
theorem dX5_save_31 : decode cX5_save 31 = .ok (.aload_n 0, 1) := by decide +kernel
theorem dX5_save_32 : decode cX5_save 32 = .ok (.getfield 12, 3) := by decide +kernel
theorem dX5_save_35 : decode cX5_save 35 = .ok (.invokevirtual 69, 3) := by decide +kernel
theorem dX5_save_38 : decode cX5_save 38 = .ok (.ireturn, 1) := by decide +kernel
set_option maxRecDepth 20000 in
theorem ggX5_restore_X5_isSlot : GoodIn wsX5_restore wsX5_isSlot := goodIn_r _ [9, 4, 53, 54, 55, 56, 57, 58] (by decide +kernel) (by decide +kernel)
set_option maxRecDepth 20000 in
theorem gX5_restore_X5_isSlot : GoodIn wsX5_restore (wsV RX5 202 RX5 yX5_isSlot wsX5_isSlot) := goodIn_app (goodIn_of _ (by decide +kernel)) ggX5_restore_X5_isSlot
set_option maxRecDepth 20000 in
theorem ggX5_restore_X0_record : GoodIn wsX5_restore wsX0_record := goodIn_r _ [14, 15, 16, 17, 18, 19, 20, 21, 22, 23, 24, 25, 26, 27, 28, 29, 30, 31, 32, 33, 34, 35, 36, 37, 38, 39, 40, 41, 42, 43, 44, 59, 60, 61, 62, 63, 64, 65, 66, 67, 68, 69, 70, 71] (by decide +kernel) (by decide +kernel)
set_option maxRecDepth 20000 in
theorem gX5_restore_X0_record : GoodIn wsX5_restore (wsV RX5 45 RX0 yX0_record wsX0_record) := goodIn_app (goodIn_of _ (by decide +kernel)) ggX5_restore_X0_record
set_option maxRecDepth 20000 in
theorem ggX5_restore_X4_copyFrom : GoodIn wsX5_restore wsX4_copyFrom := goodIn_r _ [26, 27, 28, 29, 30, 31, 32, 33, 34, 35, 36, 37, 38, 25, 39, 40, 19, 20, 21, 41, 42, 43, 44, 62, 63, 64, 65, 66, 67, 68, 69, 70, 71] (by decide +kernel) (by decide +kernel)
set_option maxRecDepth 20000 in
theorem gX5_restore_X4_copyFrom : GoodIn wsX5_restore (wsV RX5 176 RX4 yX4_copyFrom wsX4_copyFrom) := goodIn_app (goodIn_of _ (by decide +kernel)) ggX5_restore_X4_copyFrom
set_option maxRecDepth 20000 in
theorem ggX5_restore_X4_stones : GoodIn wsX5_restore wsX4_stones := goodIn_r _ [49, 29, 50, 51, 25, 52, 62, 63, 64, 65, 66, 67, 68, 69, 70, 71] (by decide +kernel) (by decide +kernel)
set_option maxRecDepth 20000 in
theorem gX5_restore_X4_stones : GoodIn wsX5_restore (wsV RX5 69 RX4 yX4_stones wsX4_stones) := goodIn_app (goodIn_of _ (by decide +kernel)) ggX5_restore_X4_stones
theorem dX5_restore_0 : decode cX5_restore 0 = .ok (.aload_n 0, 1) := by decide +kernel
theorem dX5_restore_1 : decode cX5_restore 1 = .ok (.iload_n 1, 1) := by decide +kernel
theorem dX5_restore_2 : decode cX5_restore 2 = .ok (.invokevirtual 202, 3) := by decide +kernel
theorem dX5_restore_5 : decode cX5_restore 5 = .ok (.ifCond .ne 6, 3) := by decide +kernel
theorem dX5_restore_8 : decode cX5_restore 8 = .ok (.bipush (-2), 2) := by decide +kernel
theorem dX5_restore_10 : decode cX5_restore 10 = .ok (.ireturn, 1) := by decide +kernel
theorem dX5_restore_11 : decode cX5_restore 11 = .ok (.aload_n 0, 1) := by decide +kernel
theorem dX5_restore_12 : decode cX5_restore 12 = .ok (.getfield 30, 3) := by decide +kernel
theorem dX5_restore_15 : decode cX5_restore 15 = .ok (.iload_n 1, 1) := by decide +kernel
theorem dX5_restore_16 : decode cX5_restore 16 = .ok (.baload, 1) := by decide +kernel
theorem dX5_restore_17 : decode cX5_restore 17 = .ok (.ifCond .ne 6, 3) := by decide +kernel
theorem dX5_restore_20 : decode cX5_restore 20 = .ok (.bipush (-5), 2) := by decide +kernel
theorem dX5_restore_22 : decode cX5_restore 22 = .ok (.ireturn, 1) := by decide +kernel
theorem dX5_restore_23 : decode cX5_restore 23 = .ok (.aload_n 0, 1) := by decide +kernel
theorem dX5_restore_24 : decode cX5_restore 24 = .ok (.getfield 22, 3) := by decide +kernel
theorem dX5_restore_27 : decode cX5_restore 27 = .ok (.aload_n 0, 1) := by decide +kernel
theorem dX5_restore_28 : decode cX5_restore 28 = .ok (.getfield 12, 3) := by decide +kernel
theorem dX5_restore_31 : decode cX5_restore 31 = .ok (.invokevirtual 45, 3) := by decide +kernel
theorem dX5_restore_34 : decode cX5_restore 34 = .ok (.aload_n 0, 1) := by decide +kernel
theorem dX5_restore_35 : decode cX5_restore 35 = .ok (.getfield 12, 3) := by decide +kernel
theorem dX5_restore_38 : decode cX5_restore 38 = .ok (.aload_n 0, 1) := by decide +kernel
theorem dX5_restore_39 : decode cX5_restore 39 = .ok (.getfield 26, 3) := by decide +kernel
theorem dX5_restore_42 : decode cX5_restore 42 = .ok (.iload_n 1, 1) := by decide +kernel
theorem dX5_restore_43 : decode cX5_restore 43 = .ok (.aaload, 1) := by decide +kernel
theorem dX5_restore_44 : decode cX5_restore 44 = .ok (.invokevirtual 176, 3) := by decide +kernel
theorem dX5_restore_47 : decode cX5_restore 47 = .ok (.aload_n 0, 1) := by decide +kernel
theorem dX5_restore_48 : decode cX5_restore 48 = .ok (.getfield 12, 3) := by decide +kernel
theorem dX5_restore_51 : decode cX5_restore 51 = .ok (.invokevirtual 69, 3) := by decide +kernel
theorem dX5_restore_54 : decode cX5_restore 54 = .ok (.ireturn, 1) := by decide +kernel
set_option maxRecDepth 20000 in
theorem ggX5_sunkBySetting_X4_copyFrom : GoodIn wsX5_sunkBySetting wsX4_copyFrom := goodIn_r _ [7, 8, 9, 10, 11, 12, 13, 14, 15, 16, 17, 18, 19, 6, 20, 21, 22, 23, 24, 25, 26, 27, 28, 168, 169, 170, 171, 172, 173, 174, 175, 176, 177] (by decide +kernel) (by decide +kernel)
set_option maxRecDepth 20000 in
theorem gX5_sunkBySetting_X4_copyFrom : GoodIn wsX5_sunkBySetting (wsV RX5 176 RX4 yX4_copyFrom wsX4_copyFrom) := goodIn_app (goodIn_of _ (by decide +kernel)) ggX5_sunkBySetting_X4_copyFrom
set_option maxRecDepth 20000 in
theorem ggX5_sunkBySetting_X3_of : GoodIn wsX5_sunkBySetting wsX3_of := goodIn_r _ [32] (by decide +kernel) (by decide +kernel)
set_option maxRecDepth 20000 in
theorem gX5_sunkBySetting_X3_of : GoodIn wsX5_sunkBySetting (va_wsS RX5 59 yX3_of wsX3_of) := goodIn_app (goodIn_of _ (by decide +kernel)) ggX5_sunkBySetting_X3_of
set_option maxRecDepth 20000 in
theorem ggX5_sunkBySetting_X4_drop : GoodIn wsX5_sunkBySetting wsX4_drop := goodIn_r _ [36, 15, 37, 38, 39, 6, 40, 41, 42, 43, 44, 10, 45, 46, 47, 48, 49, 50, 51, 52, 11, 53, 54, 55, 56, 57, 58, 59, 60, 61, 62, 63, 8, 64, 65, 66, 67, 14, 68, 69, 31, 70, 71, 72, 73, 74, 75, 76, 77, 78, 79, 80, 81, 82, 83, 84, 85, 86, 87, 88, 89, 90, 91, 92, 93, 94, 95, 30, 32, 96, 97, 98, 99, 100, 101, 102, 103, 104, 105, 106, 107, 108, 109, 110, 111, 112, 113, 114, 115, 116, 117, 118, 119, 120, 121, 122, 123, 124, 125, 126, 127, 12, 13, 128, 129, 130, 131, 132, 133, 134, 135, 136, 23, 137, 138, 22, 24, 139, 140, 141, 142, 143, 144, 145, 146, 147, 148, 9, 16, 149, 150, 151, 152, 153, 154, 168, 169, 170, 171, 172, 173, 174, 175, 176, 177] (by decide +kernel) (by decide +kernel)
set_option maxRecDepth 20000 in
theorem gX5_sunkBySetting_X4_drop : GoodIn wsX5_sunkBySetting (wsV RX5 65 RX4 yX4_drop wsX4_drop) := goodIn_app (goodIn_of _ (by decide +kernel)) ggX5_sunkBySetting_X4_drop
set_option maxRecDepth 20000 in
theorem ggX5_sunkBySetting_X4_allStonesSunk : GoodIn wsX5_sunkBySetting wsX4_allStonesSunk := goodIn_r _ [158, 13, 159, 160, 6, 161, 168, 169, 170, 171, 172, 173, 174, 175, 176, 177] (by decide +kernel) (by decide +kernel)
set_option maxRecDepth 20000 in
theorem gX5_sunkBySetting_X4_allStonesSunk : GoodIn wsX5_sunkBySetting (wsV RX5 137 RX4 yX4_allStonesSunk wsX4_allStonesSunk) := goodIn_app (goodIn_of _ (by decide +kernel)) ggX5_sunkBySetting_X4_allStonesSunk
theorem dX5_sunkBySetting_0 : decode cX5_sunkBySetting 0 = .ok (.aload_n 0, 1) := by decide +kernel
theorem dX5_sunkBySetting_1 : decode cX5_sunkBySetting 1 = .ok (.getfield 16, 3) := by decide +kernel
theorem dX5_sunkBySetting_4 : decode cX5_sunkBySetting 4 = .ok (.aload_n 0, 1) := by decide +kernel
theorem dX5_sunkBySetting_5 : decode cX5_sunkBySetting 5 = .ok (.getfield 12, 3) := by decide +kernel
theorem dX5_sunkBySetting_8 : decode cX5_sunkBySetting 8 = .ok (.invokevirtual 176, 3) := by decide +kernel
theorem dX5_sunkBySetting_11 : decode cX5_sunkBySetting 11 = .ok (.aload_n 0, 1) := by decide +kernel
theorem dX5_sunkBySetting_12 : decode cX5_sunkBySetting 12 = .ok (.getfield 16, 3) := by decide +kernel
theorem dX5_sunkBySetting_15 : decode cX5_sunkBySetting 15 = .ok (.iconst 0, 1) := by decide +kernel
theorem dX5_sunkBySetting_16 : decode cX5_sunkBySetting 16 = .ok (.iload_n 1, 1) := by decide +kernel
theorem dX5_sunkBySetting_17 : decode cX5_sunkBySetting 17 = .ok (.iload_n 1, 1) := by decide +kernel
theorem dX5_sunkBySetting_18 : decode cX5_sunkBySetting 18 = .ok (.iconst 0, 1) := by decide +kernel
theorem dX5_sunkBySetting_19 : decode cX5_sunkBySetting 19 = .ok (.invokestatic 59, 3) := by decide +kernel
theorem dX5_sunkBySetting_22 : decode cX5_sunkBySetting 22 = .ok (.invokevirtual 65, 3) := by decide +kernel
theorem dX5_sunkBySetting_25 : decode cX5_sunkBySetting 25 = .ok (.aload_n 0, 1) := by decide +kernel
theorem dX5_sunkBySetting_26 : decode cX5_sunkBySetting 26 = .ok (.getfield 16, 3) := by decide +kernel
theorem dX5_sunkBySetting_29 : decode cX5_sunkBySetting 29 = .ok (.invokevirtual 137, 3) := by decide +kernel
theorem dX5_sunkBySetting_32 : decode cX5_sunkBySetting 32 = .ok (.aload_n 0, 1) := by decide +kernel
theorem dX5_sunkBySetting_33 : decode cX5_sunkBySetting 33 = .ok (.getfield 12, 3) := by decide +kernel
theorem dX5_sunkBySetting_36 : decode cX5_sunkBySetting 36 = .ok (.invokevirtual 137, 3) := by decide +kernel
theorem dX5_sunkBySetting_39 : decode cX5_sunkBySetting 39 = .ok (.isub, 1) := by decide +kernel
theorem dX5_sunkBySetting_40 : decode cX5_sunkBySetting 40 = .ok (.ireturn, 1) := by decide +kernel
theorem dX5_isSlot_0 : decode cX5_isSlot 0 = .ok (.iload_n 1, 1) := by decide +kernel
theorem dX5_isSlot_1 : decode cX5_isSlot 1 = .ok (.ifCond .lt 21, 3) := by decide +kernel
theorem dX5_isSlot_4 : decode cX5_isSlot 4 = .ok (.iload_n 1, 1) := by decide +kernel
theorem dX5_isSlot_5 : decode cX5_isSlot 5 = .ok (.iconst 2, 1) := by decide +kernel
theorem dX5_isSlot_6 : decode cX5_isSlot 6 = .ok (.if_icmp .ge 16, 3) := by decide +kernel
theorem dX5_isSlot_9 : decode cX5_isSlot 9 = .ok (.aload_n 0, 1) := by decide +kernel
theorem dX5_isSlot_10 : decode cX5_isSlot 10 = .ok (.getfield 26, 3) := by decide +kernel
theorem dX5_isSlot_13 : decode cX5_isSlot 13 = .ok (.iload_n 1, 1) := by decide +kernel
theorem dX5_isSlot_14 : decode cX5_isSlot 14 = .ok (.aaload, 1) := by decide +kernel
theorem dX5_isSlot_15 : decode cX5_isSlot 15 = .ok (.ifnull 7, 3) := by decide +kernel
theorem dX5_isSlot_18 : decode cX5_isSlot 18 = .ok (.iconst 1, 1) := by decide +kernel
theorem dX5_isSlot_19 : decode cX5_isSlot 19 = .ok (.goto 4, 3) := by decide +kernel
theorem dX5_isSlot_22 : decode cX5_isSlot 22 = .ok (.iconst 0, 1) := by decide +kernel
theorem dX5_isSlot_23 : decode cX5_isSlot 23 = .ok (.ireturn, 1) := by decide +kernel
theorem dX5_isSettingValue_0 : decode cX5_isSettingValue 0 = .ok (.iload_n 0, 1) := by decide +kernel
theorem dX5_isSettingValue_1 : decode cX5_isSettingValue 1 = .ok (.ifCond .ne 20, 3) := by decide +kernel
theorem dX5_isSettingValue_4 : decode cX5_isSettingValue 4 = .ok (.iload_n 1, 1) := by decide +kernel
theorem dX5_isSettingValue_5 : decode cX5_isSettingValue 5 = .ok (.iconst 1, 1) := by decide +kernel
theorem dX5_isSettingValue_6 : decode cX5_isSettingValue 6 = .ok (.if_icmp .lt 13, 3) := by decide +kernel
theorem dX5_isSettingValue_9 : decode cX5_isSettingValue 9 = .ok (.iload_n 1, 1) := by decide +kernel
theorem dX5_isSettingValue_10 : decode cX5_isSettingValue 10 = .ok (.bipush 10, 2) := by decide +kernel
theorem dX5_isSettingValue_12 : decode cX5_isSettingValue 12 = .ok (.if_icmp .gt 7, 3) := by decide +kernel
theorem dX5_isSettingValue_15 : decode cX5_isSettingValue 15 = .ok (.iconst 1, 1) := by decide +kernel
theorem dX5_isSettingValue_16 : decode cX5_isSettingValue 16 = .ok (.goto 4, 3) := by decide +kernel
theorem dX5_isSettingValue_19 : decode cX5_isSettingValue 19 = .ok (.iconst 0, 1) := by decide +kernel
theorem dX5_isSettingValue_20 : decode cX5_isSettingValue 20 = .ok (.ireturn, 1) := by decide +kernel
theorem dX5_isSettingValue_21 : decode cX5_isSettingValue 21 = .ok (.iload_n 0, 1) := by decide +kernel
theorem dX5_isSettingValue_22 : decode cX5_isSettingValue 22 = .ok (.iconst 1, 1) := by decide +kernel
theorem dX5_isSettingValue_23 : decode cX5_isSettingValue 23 = .ok (.if_icmp .ne 16, 3) := by decide +kernel
theorem dX5_isSettingValue_26 : decode cX5_isSettingValue 26 = .ok (.iload_n 1, 1) := by decide +kernel
theorem dX5_isSettingValue_27 : decode cX5_isSettingValue 27 = .ok (.ifCond .eq 8, 3) := by decide +kernel
theorem dX5_isSettingValue_30 : decode cX5_isSettingValue 30 = .ok (.iload_n 1, 1) := by decide +kernel
theorem dX5_isSettingValue_31 : decode cX5_isSettingValue 31 = .ok (.iconst 1, 1) := by decide +kernel
theorem dX5_isSettingValue_32 : decode cX5_isSettingValue 32 = .ok (.if_icmp .ne 7, 3) := by decide +kernel
theorem dX5_isSettingValue_35 : decode cX5_isSettingValue 35 = .ok (.iconst 1, 1) := by decide +kernel
theorem dX5_isSettingValue_36 : decode cX5_isSettingValue 36 = .ok (.goto 4, 3) := by decide +kernel
theorem dX5_isSettingValue_39 : decode cX5_isSettingValue 39 = .ok (.iconst 0, 1) := by decide +kernel
theorem dX5_isSettingValue_40 : decode cX5_isSettingValue 40 = .ok (.ireturn, 1) := by decide +kernel
theorem dX5_isNumberFor_0 : decode cX5_isNumberFor 0 = .ok (.iload_n 1, 1) := by decide +kernel
theorem dX5_isNumberFor_1 : decode cX5_isNumberFor 1 = .ok (.ifCond .lt 23, 3) := by decide +kernel
theorem dX5_isNumberFor_4 : decode cX5_isNumberFor 4 = .ok (.iload_n 1, 1) := by decide +kernel
theorem dX5_isNumberFor_5 : decode cX5_isNumberFor 5 = .ok (.iload_n 0, 1) := by decide +kernel
theorem dX5_isNumberFor_6 : decode cX5_isNumberFor 6 = .ok (.iconst 2, 1) := by decide +kernel
theorem dX5_isNumberFor_7 : decode cX5_isNumberFor 7 = .ok (.if_icmp .ne 7, 3) := by decide +kernel
theorem dX5_isNumberFor_10 : decode cX5_isNumberFor 10 = .ok (.iconst 1, 1) := by decide +kernel
theorem dX5_isNumberFor_11 : decode cX5_isNumberFor 11 = .ok (.goto 6, 3) := by decide +kernel
theorem dX5_isNumberFor_14 : decode cX5_isNumberFor 14 = .ok (.sipush 1000, 3) := by decide +kernel
theorem dX5_isNumberFor_17 : decode cX5_isNumberFor 17 = .ok (.if_icmp .ge 7, 3) := by decide +kernel
theorem dX5_isNumberFor_20 : decode cX5_isNumberFor 20 = .ok (.iconst 1, 1) := by decide +kernel
theorem dX5_isNumberFor_21 : decode cX5_isNumberFor 21 = .ok (.goto 4, 3) := by decide +kernel
theorem dX5_isNumberFor_24 : decode cX5_isNumberFor 24 = .ok (.iconst 0, 1) := by decide +kernel
theorem dX5_isNumberFor_25 : decode cX5_isNumberFor 25 = .ok (.ireturn, 1) := by decide +kernel
theorem dX5_isNode_0 : decode cX5_isNode 0 = .ok (.iload_n 0, 1) := by decide +kernel
theorem dX5_isNode_1 : decode cX5_isNode 1 = .ok (.ifCond .lt 13, 3) := by decide +kernel
theorem dX5_isNode_4 : decode cX5_isNode 4 = .ok (.iload_n 0, 1) := by decide +kernel
theorem dX5_isNode_5 : decode cX5_isNode 5 = .ok (.bipush 13, 2) := by decide +kernel
theorem dX5_isNode_7 : decode cX5_isNode 7 = .ok (.if_icmp .ge 7, 3) := by decide +kernel
theorem dX5_isNode_10 : decode cX5_isNode 10 = .ok (.iconst 1, 1) := by decide +kernel
theorem dX5_isNode_11 : decode cX5_isNode 11 = .ok (.goto 4, 3) := by decide +kernel
theorem dX5_isNode_14 : decode cX5_isNode 14 = .ok (.iconst 0, 1) := by decide +kernel
theorem dX5_isNode_15 : decode cX5_isNode 15 = .ok (.ireturn, 1) := by decide +kernel
theorem dX5_isKey_0 : decode cX5_isKey 0 = .ok (.iload_n 0, 1) := by decide +kernel
theorem dX5_isKey_1 : decode cX5_isKey 1 = .ok (.ifCond .lt 13, 3) := by decide +kernel
theorem dX5_isKey_4 : decode cX5_isKey 4 = .ok (.iload_n 0, 1) := by decide +kernel
theorem dX5_isKey_5 : decode cX5_isKey 5 = .ok (.bipush 27, 2) := by decide +kernel
theorem dX5_isKey_7 : decode cX5_isKey 7 = .ok (.if_icmp .ge 7, 3) := by decide +kernel
theorem dX5_isKey_10 : decode cX5_isKey 10 = .ok (.iconst 1, 1) := by decide +kernel
theorem dX5_isKey_11 : decode cX5_isKey 11 = .ok (.goto 4, 3) := by decide +kernel
theorem dX5_isKey_14 : decode cX5_isKey 14 = .ok (.iconst 0, 1) := by decide +kernel
theorem dX5_isKey_15 : decode cX5_isKey 15 = .ok (.ireturn, 1) := by decide +kernel
set_option maxRecDepth 20000 in
theorem ggX5_isPiece_X5_isKey : GoodIn wsX5_isPiece wsX5_isKey := goodIn_r _ [4] (by decide +kernel) (by decide +kernel)
set_option maxRecDepth 20000 in
theorem gX5_isPiece_X5_isKey : GoodIn wsX5_isPiece (va_wsS RX5 80 yX5_isKey wsX5_isKey) := goodIn_app (goodIn_of _ (by decide +kernel)) ggX5_isPiece_X5_isKey
theorem dX5_isPiece_0 : decode cX5_isPiece 0 = .ok (.iload_n 0, 1) := by decide +kernel
theorem dX5_isPiece_1 : decode cX5_isPiece 1 = .ok (.invokestatic 80, 3) := by decide +kernel
theorem dX5_isPiece_4 : decode cX5_isPiece 4 = .ok (.ifCond .eq 19, 3) := by decide +kernel
theorem dX5_isPiece_7 : decode cX5_isPiece 7 = .ok (.iload_n 1, 1) := by decide +kernel
theorem dX5_isPiece_8 : decode cX5_isPiece 8 = .ok (.invokestatic 80, 3) := by decide +kernel
theorem dX5_isPiece_11 : decode cX5_isPiece 11 = .ok (.ifCond .eq 12, 3) := by decide +kernel
theorem dX5_isPiece_14 : decode cX5_isPiece 14 = .ok (.iload_n 0, 1) := by decide +kernel
theorem dX5_isPiece_15 : decode cX5_isPiece 15 = .ok (.iload_n 1, 1) := by decide +kernel
theorem dX5_isPiece_16 : decode cX5_isPiece 16 = .ok (.if_icmp .gt 7, 3) := by decide +kernel
theorem dX5_isPiece_19 : decode cX5_isPiece 19 = .ok (.iconst 1, 1) := by decide +kernel
theorem dX5_isPiece_20 : decode cX5_isPiece 20 = .ok (.goto 4, 3) := by decide +kernel
theorem dX5_isPiece_23 : decode cX5_isPiece 23 = .ok (.iconst 0, 1) := by decide +kernel
theorem dX5_isPiece_24 : decode cX5_isPiece 24 = .ok (.ireturn, 1) := by decide +kernel
theorem dJ9_max_7cf53_0 : decode cJ9_max_7cf53 0 = .ok (.iload_n 0, 1) := by decide +kernel
theorem dJ9_max_7cf53_1 : decode cJ9_max_7cf53 1 = .ok (.iload_n 1, 1) := by decide +kernel
theorem dJ9_max_7cf53_2 : decode cJ9_max_7cf53 2 = .ok (.if_icmp .lt 7, 3) := by decide +kernel
theorem dJ9_max_7cf53_5 : decode cJ9_max_7cf53 5 = .ok (.iload_n 0, 1) := by decide +kernel
theorem dJ9_max_7cf53_6 : decode cJ9_max_7cf53 6 = .ok (.goto 4, 3) := by decide +kernel
theorem dJ9_max_7cf53_9 : decode cJ9_max_7cf53 9 = .ok (.iload_n 1, 1) := by decide +kernel
theorem dJ9_max_7cf53_10 : decode cJ9_max_7cf53 10 = .ok (.ireturn, 1) := by decide +kernel
theorem dJ9_min_7cf53_0 : decode cJ9_min_7cf53 0 = .ok (.iload_n 0, 1) := by decide +kernel
theorem dJ9_min_7cf53_1 : decode cJ9_min_7cf53 1 = .ok (.iload_n 1, 1) := by decide +kernel
theorem dJ9_min_7cf53_2 : decode cJ9_min_7cf53 2 = .ok (.if_icmp .gt 7, 3) := by decide +kernel
theorem dJ9_min_7cf53_5 : decode cJ9_min_7cf53 5 = .ok (.iload_n 0, 1) := by decide +kernel
theorem dJ9_min_7cf53_6 : decode cJ9_min_7cf53 6 = .ok (.goto 4, 3) := by decide +kernel
theorem dJ9_min_7cf53_9 : decode cJ9_min_7cf53 9 = .ok (.iload_n 1, 1) := by decide +kernel
theorem dJ9_min_7cf53_10 : decode cJ9_min_7cf53 10 = .ok (.ireturn, 1) := by decide +kernel
