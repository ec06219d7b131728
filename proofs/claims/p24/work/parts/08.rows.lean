/-! rows for the machine proofs, by program -/
theorem kb_10 : (Int8.ofInt 10).toInt32 = (10 : Int32) := by decide
theorem kb_120 : (Int8.ofInt 120).toInt32 = (120 : Int32) := by decide
theorem kb_13 : (Int8.ofInt 13).toInt32 = (13 : Int32) := by decide
theorem kb_15 : (Int8.ofInt 15).toInt32 = (15 : Int32) := by decide
theorem kb_20 : (Int8.ofInt 20).toInt32 = (20 : Int32) := by decide
theorem kb_22 : (Int8.ofInt 22).toInt32 = (22 : Int32) := by decide
theorem kb_26 : (Int8.ofInt 26).toInt32 = (26 : Int32) := by decide
theorem kb_27 : (Int8.ofInt 27).toInt32 = (27 : Int32) := by decide
theorem kb_31 : (Int8.ofInt 31).toInt32 = (31 : Int32) := by decide
theorem kb_43 : (Int8.ofInt 43).toInt32 = (43 : Int32) := by decide
theorem kb_45 : (Int8.ofInt 45).toInt32 = (45 : Int32) := by decide
theorem kb_48 : (Int8.ofInt 48).toInt32 = (48 : Int32) := by decide
theorem kb_57 : (Int8.ofInt 57).toInt32 = (57 : Int32) := by decide
theorem kb_59 : (Int8.ofInt 59).toInt32 = (59 : Int32) := by decide
theorem kb_6 : (Int8.ofInt 6).toInt32 = (6 : Int32) := by decide
theorem kb_60 : (Int8.ofInt 60).toInt32 = (60 : Int32) := by decide
theorem kb_61 : (Int8.ofInt 61).toInt32 = (61 : Int32) := by decide
theorem kb_8 : (Int8.ofInt 8).toInt32 = (8 : Int32) := by decide
theorem kb_m2 : (Int8.ofInt (-2)).toInt32 = (-2 : Int32) := by decide
theorem kb_m3 : (Int8.ofInt (-3)).toInt32 = (-3 : Int32) := by decide
theorem kb_m4 : (Int8.ofInt (-4)).toInt32 = (-4 : Int32) := by decide
theorem kb_m5 : (Int8.ofInt (-5)).toInt32 = (-5 : Int32) := by decide
theorem kb_m6 : (Int8.ofInt (-6)).toInt32 = (-6 : Int32) := by decide
theorem ki_0 : Int32.ofInt 0 = (0 : Int32) := by decide
theorem ki_1 : Int32.ofInt 1 = (1 : Int32) := by decide
theorem ki_2 : Int32.ofInt 2 = (2 : Int32) := by decide
theorem ki_3 : Int32.ofInt 3 = (3 : Int32) := by decide
theorem ki_4 : Int32.ofInt 4 = (4 : Int32) := by decide
theorem ki_m1 : Int32.ofInt (-1) = (-1 : Int32) := by decide
theorem ks_1000 : (Int16.ofInt 1000).toInt32 = (1000 : Int32) := by decide
theorem ks_1023 : (Int16.ofInt 1023).toInt32 = (1023 : Int32) := by decide
theorem ks_999 : (Int16.ofInt 999).toInt32 = (999 : Int32) := by decide
theorem ai_1 (x : Int32) : x + Int32.ofInt 1 = x + (1 : Int32) := by rw [ki_1]
theorem ai_m1 (x : Int32) : x + Int32.ofInt (-1) = x + (-1 : Int32) := by rw [ki_m1]
theorem shT_0 : shT[0]? = some (.inr (.inr (2, [.inl 2, .inl 3, .inl 4, .inl 5, .inl 6, .inl 7, .inl 8, .inr 0, .inr 1, .inr 2]))) := rfl
theorem shT_1 : shT[1]? = some (.inl (0, 2)) := rfl
theorem shT_2 : shT[2]? = some (.inl (0, 27)) := rfl
theorem shT_3 : shT[3]? = some (.inl (0, 13)) := rfl
theorem shT_4 : shT[4]? = some (.inl (0, 286)) := rfl
theorem shT_5 : shT[5]? = some (.inl (0, 13)) := rfl
theorem shT_6 : shT[6]? = some (.inl (0, 13)) := rfl
theorem shT_7 : shT[7]? = some (.inl (0, 13)) := rfl
theorem em_shT_id : embB shT shT (fun k => k) = true := by decide +kernel
theorem shTT_0 : shTT[0]? = some (.inr (.inr (2, [.inl 2, .inl 3, .inl 4, .inl 5, .inl 6, .inl 7, .inl 8, .inr 0, .inr 1, .inr 2]))) := rfl
theorem shTT_1 : shTT[1]? = some (.inl (0, 2)) := rfl
theorem shTT_2 : shTT[2]? = some (.inl (0, 27)) := rfl
theorem shTT_3 : shTT[3]? = some (.inl (0, 13)) := rfl
theorem shTT_4 : shTT[4]? = some (.inl (0, 286)) := rfl
theorem shTT_5 : shTT[5]? = some (.inl (0, 13)) := rfl
theorem shTT_6 : shTT[6]? = some (.inl (0, 13)) := rfl
theorem shTT_7 : shTT[7]? = some (.inl (0, 13)) := rfl
theorem shTT_8 : shTT[8]? = some (.inr (.inr (2, [.inl 10, .inl 11, .inl 12, .inl 13, .inl 14, .inl 15, .inl 16, .inr 0, .inr 1, .inr 2]))) := rfl
theorem shTT_9 : shTT[9]? = some (.inl (0, 2)) := rfl
theorem shTT_10 : shTT[10]? = some (.inl (0, 27)) := rfl
theorem shTT_11 : shTT[11]? = some (.inl (0, 13)) := rfl
theorem shTT_12 : shTT[12]? = some (.inl (0, 286)) := rfl
theorem shTT_13 : shTT[13]? = some (.inl (0, 13)) := rfl
theorem shTT_14 : shTT[14]? = some (.inl (0, 13)) := rfl
theorem shTT_15 : shTT[15]? = some (.inl (0, 13)) := rfl
theorem em_shTT_id : embB shTT shTT (fun k => k) = true := by decide +kernel
theorem shH_0 : shH[0]? = some (.inr (.inr (0, [.inl 2, .inr 0, .inr 1]))) := rfl
theorem shH_1 : shH[1]? = some (.inr (.inl (3, [3, 11, 19, 27, 35, 43]))) := rfl
theorem shH_2 : shH[2]? = some (.inr (.inr (2, [.inl 4, .inl 5, .inl 6, .inl 7, .inl 8, .inl 9, .inl 10, .inr 0, .inr 1, .inr 2]))) := rfl
theorem shH_3 : shH[3]? = some (.inl (0, 2)) := rfl
theorem shH_4 : shH[4]? = some (.inl (0, 27)) := rfl
theorem shH_5 : shH[5]? = some (.inl (0, 13)) := rfl
theorem shH_6 : shH[6]? = some (.inl (0, 286)) := rfl
theorem shH_7 : shH[7]? = some (.inl (0, 13)) := rfl
theorem shH_8 : shH[8]? = some (.inl (0, 13)) := rfl
theorem shH_9 : shH[9]? = some (.inl (0, 13)) := rfl
theorem shH_10 : shH[10]? = some (.inr (.inr (2, [.inl 12, .inl 13, .inl 14, .inl 15, .inl 16, .inl 17, .inl 18, .inr 0, .inr 1, .inr 2]))) := rfl
theorem shH_11 : shH[11]? = some (.inl (0, 2)) := rfl
theorem shH_12 : shH[12]? = some (.inl (0, 27)) := rfl
theorem shH_13 : shH[13]? = some (.inl (0, 13)) := rfl
theorem shH_14 : shH[14]? = some (.inl (0, 286)) := rfl
theorem shH_15 : shH[15]? = some (.inl (0, 13)) := rfl
theorem shH_16 : shH[16]? = some (.inl (0, 13)) := rfl
theorem shH_17 : shH[17]? = some (.inl (0, 13)) := rfl
theorem shH_18 : shH[18]? = some (.inr (.inr (2, [.inl 20, .inl 21, .inl 22, .inl 23, .inl 24, .inl 25, .inl 26, .inr 0, .inr 1, .inr 2]))) := rfl
theorem shH_19 : shH[19]? = some (.inl (0, 2)) := rfl
theorem shH_20 : shH[20]? = some (.inl (0, 27)) := rfl
theorem shH_21 : shH[21]? = some (.inl (0, 13)) := rfl
theorem shH_22 : shH[22]? = some (.inl (0, 286)) := rfl
theorem shH_23 : shH[23]? = some (.inl (0, 13)) := rfl
theorem shH_24 : shH[24]? = some (.inl (0, 13)) := rfl
theorem shH_25 : shH[25]? = some (.inl (0, 13)) := rfl
theorem shH_26 : shH[26]? = some (.inr (.inr (2, [.inl 28, .inl 29, .inl 30, .inl 31, .inl 32, .inl 33, .inl 34, .inr 0, .inr 1, .inr 2]))) := rfl
theorem shH_27 : shH[27]? = some (.inl (0, 2)) := rfl
theorem shH_28 : shH[28]? = some (.inl (0, 27)) := rfl
theorem shH_29 : shH[29]? = some (.inl (0, 13)) := rfl
theorem shH_30 : shH[30]? = some (.inl (0, 286)) := rfl
theorem shH_31 : shH[31]? = some (.inl (0, 13)) := rfl
theorem shH_32 : shH[32]? = some (.inl (0, 13)) := rfl
theorem shH_33 : shH[33]? = some (.inl (0, 13)) := rfl
theorem shH_34 : shH[34]? = some (.inr (.inr (2, [.inl 36, .inl 37, .inl 38, .inl 39, .inl 40, .inl 41, .inl 42, .inr 0, .inr 1, .inr 2]))) := rfl
theorem shH_35 : shH[35]? = some (.inl (0, 2)) := rfl
theorem shH_36 : shH[36]? = some (.inl (0, 27)) := rfl
theorem shH_37 : shH[37]? = some (.inl (0, 13)) := rfl
theorem shH_38 : shH[38]? = some (.inl (0, 286)) := rfl
theorem shH_39 : shH[39]? = some (.inl (0, 13)) := rfl
theorem shH_40 : shH[40]? = some (.inl (0, 13)) := rfl
theorem shH_41 : shH[41]? = some (.inl (0, 13)) := rfl
theorem shH_42 : shH[42]? = some (.inr (.inr (2, [.inl 44, .inl 45, .inl 46, .inl 47, .inl 48, .inl 49, .inl 50, .inr 0, .inr 1, .inr 2]))) := rfl
theorem shH_43 : shH[43]? = some (.inl (0, 2)) := rfl
theorem shH_44 : shH[44]? = some (.inl (0, 27)) := rfl
theorem shH_45 : shH[45]? = some (.inl (0, 13)) := rfl
theorem shH_46 : shH[46]? = some (.inl (0, 286)) := rfl
theorem shH_47 : shH[47]? = some (.inl (0, 13)) := rfl
theorem shH_48 : shH[48]? = some (.inl (0, 13)) := rfl
theorem shH_49 : shH[49]? = some (.inl (0, 13)) := rfl
theorem em_shH_id : embB shH shH (fun k => k) = true := by decide +kernel
theorem shHT_0 : shHT[0]? = some (.inr (.inr (0, [.inl 2, .inr 0, .inr 1]))) := rfl
theorem shHT_1 : shHT[1]? = some (.inr (.inl (3, [3, 11, 19, 27, 35, 43]))) := rfl
theorem shHT_2 : shHT[2]? = some (.inr (.inr (2, [.inl 4, .inl 5, .inl 6, .inl 7, .inl 8, .inl 9, .inl 10, .inr 0, .inr 1, .inr 2]))) := rfl
theorem shHT_3 : shHT[3]? = some (.inl (0, 2)) := rfl
theorem shHT_4 : shHT[4]? = some (.inl (0, 27)) := rfl
theorem shHT_5 : shHT[5]? = some (.inl (0, 13)) := rfl
theorem shHT_6 : shHT[6]? = some (.inl (0, 286)) := rfl
theorem shHT_7 : shHT[7]? = some (.inl (0, 13)) := rfl
theorem shHT_8 : shHT[8]? = some (.inl (0, 13)) := rfl
theorem shHT_9 : shHT[9]? = some (.inl (0, 13)) := rfl
theorem shHT_10 : shHT[10]? = some (.inr (.inr (2, [.inl 12, .inl 13, .inl 14, .inl 15, .inl 16, .inl 17, .inl 18, .inr 0, .inr 1, .inr 2]))) := rfl
theorem shHT_11 : shHT[11]? = some (.inl (0, 2)) := rfl
theorem shHT_12 : shHT[12]? = some (.inl (0, 27)) := rfl
theorem shHT_13 : shHT[13]? = some (.inl (0, 13)) := rfl
theorem shHT_14 : shHT[14]? = some (.inl (0, 286)) := rfl
theorem shHT_15 : shHT[15]? = some (.inl (0, 13)) := rfl
theorem shHT_16 : shHT[16]? = some (.inl (0, 13)) := rfl
theorem shHT_17 : shHT[17]? = some (.inl (0, 13)) := rfl
theorem shHT_18 : shHT[18]? = some (.inr (.inr (2, [.inl 20, .inl 21, .inl 22, .inl 23, .inl 24, .inl 25, .inl 26, .inr 0, .inr 1, .inr 2]))) := rfl
theorem shHT_19 : shHT[19]? = some (.inl (0, 2)) := rfl
theorem shHT_20 : shHT[20]? = some (.inl (0, 27)) := rfl
theorem shHT_21 : shHT[21]? = some (.inl (0, 13)) := rfl
theorem shHT_22 : shHT[22]? = some (.inl (0, 286)) := rfl
theorem shHT_23 : shHT[23]? = some (.inl (0, 13)) := rfl
theorem shHT_24 : shHT[24]? = some (.inl (0, 13)) := rfl
theorem shHT_25 : shHT[25]? = some (.inl (0, 13)) := rfl
theorem shHT_26 : shHT[26]? = some (.inr (.inr (2, [.inl 28, .inl 29, .inl 30, .inl 31, .inl 32, .inl 33, .inl 34, .inr 0, .inr 1, .inr 2]))) := rfl
theorem shHT_27 : shHT[27]? = some (.inl (0, 2)) := rfl
theorem shHT_28 : shHT[28]? = some (.inl (0, 27)) := rfl
theorem shHT_29 : shHT[29]? = some (.inl (0, 13)) := rfl
theorem shHT_30 : shHT[30]? = some (.inl (0, 286)) := rfl
theorem shHT_31 : shHT[31]? = some (.inl (0, 13)) := rfl
theorem shHT_32 : shHT[32]? = some (.inl (0, 13)) := rfl
theorem shHT_33 : shHT[33]? = some (.inl (0, 13)) := rfl
theorem shHT_34 : shHT[34]? = some (.inr (.inr (2, [.inl 36, .inl 37, .inl 38, .inl 39, .inl 40, .inl 41, .inl 42, .inr 0, .inr 1, .inr 2]))) := rfl
theorem shHT_35 : shHT[35]? = some (.inl (0, 2)) := rfl
theorem shHT_36 : shHT[36]? = some (.inl (0, 27)) := rfl
theorem shHT_37 : shHT[37]? = some (.inl (0, 13)) := rfl
theorem shHT_38 : shHT[38]? = some (.inl (0, 286)) := rfl
theorem shHT_39 : shHT[39]? = some (.inl (0, 13)) := rfl
theorem shHT_40 : shHT[40]? = some (.inl (0, 13)) := rfl
theorem shHT_41 : shHT[41]? = some (.inl (0, 13)) := rfl
theorem shHT_42 : shHT[42]? = some (.inr (.inr (2, [.inl 44, .inl 45, .inl 46, .inl 47, .inl 48, .inl 49, .inl 50, .inr 0, .inr 1, .inr 2]))) := rfl
theorem shHT_43 : shHT[43]? = some (.inl (0, 2)) := rfl
theorem shHT_44 : shHT[44]? = some (.inl (0, 27)) := rfl
theorem shHT_45 : shHT[45]? = some (.inl (0, 13)) := rfl
theorem shHT_46 : shHT[46]? = some (.inl (0, 286)) := rfl
theorem shHT_47 : shHT[47]? = some (.inl (0, 13)) := rfl
theorem shHT_48 : shHT[48]? = some (.inl (0, 13)) := rfl
theorem shHT_49 : shHT[49]? = some (.inl (0, 13)) := rfl
theorem shHT_50 : shHT[50]? = some (.inr (.inr (2, [.inl 52, .inl 53, .inl 54, .inl 55, .inl 56, .inl 57, .inl 58, .inr 0, .inr 1, .inr 2]))) := rfl
theorem shHT_51 : shHT[51]? = some (.inl (0, 2)) := rfl
theorem shHT_52 : shHT[52]? = some (.inl (0, 27)) := rfl
theorem shHT_53 : shHT[53]? = some (.inl (0, 13)) := rfl
theorem shHT_54 : shHT[54]? = some (.inl (0, 286)) := rfl
theorem shHT_55 : shHT[55]? = some (.inl (0, 13)) := rfl
theorem shHT_56 : shHT[56]? = some (.inl (0, 13)) := rfl
theorem shHT_57 : shHT[57]? = some (.inl (0, 13)) := rfl
theorem em_shHT_id : embB shHT shHT (fun k => k) = true := by decide +kernel
theorem shP_0 : shP[0]? = some (.inr (.inr (1, [.inl 2, .inl 3, .inr 0, .inr 1, .inr 2]))) := rfl
theorem shP_1 : shP[1]? = some (.inl (2, 60)) := rfl
theorem shP_2 : shP[2]? = some (.inl (0, 20)) := rfl
theorem em_shP_id : embB shP shP (fun k => k) = true := by decide +kernel
theorem shX_0 : shX[0]? = some (.inr (.inr (3, [.inl 2, .inl 10, .inl 18, .inl 68, .inl 85, .inl 86]))) := rfl
theorem shX_1 : shX[1]? = some (.inr (.inr (2, [.inl 3, .inl 4, .inl 5, .inl 6, .inl 7, .inl 8, .inl 9, .inr 0, .inr 1, .inr 2]))) := rfl
theorem shX_2 : shX[2]? = some (.inl (0, 2)) := rfl
theorem shX_3 : shX[3]? = some (.inl (0, 27)) := rfl
theorem shX_4 : shX[4]? = some (.inl (0, 13)) := rfl
theorem shX_5 : shX[5]? = some (.inl (0, 286)) := rfl
theorem shX_6 : shX[6]? = some (.inl (0, 13)) := rfl
theorem shX_7 : shX[7]? = some (.inl (0, 13)) := rfl
theorem shX_8 : shX[8]? = some (.inl (0, 13)) := rfl
theorem shX_9 : shX[9]? = some (.inr (.inr (2, [.inl 11, .inl 12, .inl 13, .inl 14, .inl 15, .inl 16, .inl 17, .inr 0, .inr 1, .inr 2]))) := rfl
theorem shX_10 : shX[10]? = some (.inl (0, 2)) := rfl
theorem shX_11 : shX[11]? = some (.inl (0, 27)) := rfl
theorem shX_12 : shX[12]? = some (.inl (0, 13)) := rfl
theorem shX_13 : shX[13]? = some (.inl (0, 286)) := rfl
theorem shX_14 : shX[14]? = some (.inl (0, 13)) := rfl
theorem shX_15 : shX[15]? = some (.inl (0, 13)) := rfl
theorem shX_16 : shX[16]? = some (.inl (0, 13)) := rfl
theorem shX_17 : shX[17]? = some (.inr (.inr (0, [.inl 19, .inr 0, .inr 1]))) := rfl
theorem shX_18 : shX[18]? = some (.inr (.inl (3, [20, 28, 36, 44, 52, 60]))) := rfl
theorem shX_19 : shX[19]? = some (.inr (.inr (2, [.inl 21, .inl 22, .inl 23, .inl 24, .inl 25, .inl 26, .inl 27, .inr 0, .inr 1, .inr 2]))) := rfl
theorem shX_20 : shX[20]? = some (.inl (0, 2)) := rfl
theorem shX_21 : shX[21]? = some (.inl (0, 27)) := rfl
theorem shX_22 : shX[22]? = some (.inl (0, 13)) := rfl
theorem shX_23 : shX[23]? = some (.inl (0, 286)) := rfl
theorem shX_24 : shX[24]? = some (.inl (0, 13)) := rfl
theorem shX_25 : shX[25]? = some (.inl (0, 13)) := rfl
theorem shX_26 : shX[26]? = some (.inl (0, 13)) := rfl
theorem shX_27 : shX[27]? = some (.inr (.inr (2, [.inl 29, .inl 30, .inl 31, .inl 32, .inl 33, .inl 34, .inl 35, .inr 0, .inr 1, .inr 2]))) := rfl
theorem shX_28 : shX[28]? = some (.inl (0, 2)) := rfl
theorem shX_29 : shX[29]? = some (.inl (0, 27)) := rfl
theorem shX_30 : shX[30]? = some (.inl (0, 13)) := rfl
theorem shX_31 : shX[31]? = some (.inl (0, 286)) := rfl
theorem shX_32 : shX[32]? = some (.inl (0, 13)) := rfl
theorem shX_33 : shX[33]? = some (.inl (0, 13)) := rfl
theorem shX_34 : shX[34]? = some (.inl (0, 13)) := rfl
theorem shX_35 : shX[35]? = some (.inr (.inr (2, [.inl 37, .inl 38, .inl 39, .inl 40, .inl 41, .inl 42, .inl 43, .inr 0, .inr 1, .inr 2]))) := rfl
theorem shX_36 : shX[36]? = some (.inl (0, 2)) := rfl
theorem shX_37 : shX[37]? = some (.inl (0, 27)) := rfl
theorem shX_38 : shX[38]? = some (.inl (0, 13)) := rfl
theorem shX_39 : shX[39]? = some (.inl (0, 286)) := rfl
theorem shX_40 : shX[40]? = some (.inl (0, 13)) := rfl
theorem shX_41 : shX[41]? = some (.inl (0, 13)) := rfl
theorem shX_42 : shX[42]? = some (.inl (0, 13)) := rfl
theorem shX_43 : shX[43]? = some (.inr (.inr (2, [.inl 45, .inl 46, .inl 47, .inl 48, .inl 49, .inl 50, .inl 51, .inr 0, .inr 1, .inr 2]))) := rfl
theorem shX_44 : shX[44]? = some (.inl (0, 2)) := rfl
theorem shX_45 : shX[45]? = some (.inl (0, 27)) := rfl
theorem shX_46 : shX[46]? = some (.inl (0, 13)) := rfl
theorem shX_47 : shX[47]? = some (.inl (0, 286)) := rfl
theorem shX_48 : shX[48]? = some (.inl (0, 13)) := rfl
theorem shX_49 : shX[49]? = some (.inl (0, 13)) := rfl
theorem shX_50 : shX[50]? = some (.inl (0, 13)) := rfl
theorem shX_51 : shX[51]? = some (.inr (.inr (2, [.inl 53, .inl 54, .inl 55, .inl 56, .inl 57, .inl 58, .inl 59, .inr 0, .inr 1, .inr 2]))) := rfl
theorem shX_52 : shX[52]? = some (.inl (0, 2)) := rfl
theorem shX_53 : shX[53]? = some (.inl (0, 27)) := rfl
theorem shX_54 : shX[54]? = some (.inl (0, 13)) := rfl
theorem shX_55 : shX[55]? = some (.inl (0, 286)) := rfl
theorem shX_56 : shX[56]? = some (.inl (0, 13)) := rfl
theorem shX_57 : shX[57]? = some (.inl (0, 13)) := rfl
theorem shX_58 : shX[58]? = some (.inl (0, 13)) := rfl
theorem shX_59 : shX[59]? = some (.inr (.inr (2, [.inl 61, .inl 62, .inl 63, .inl 64, .inl 65, .inl 66, .inl 67, .inr 0, .inr 1, .inr 2]))) := rfl
theorem shX_60 : shX[60]? = some (.inl (0, 2)) := rfl
theorem shX_61 : shX[61]? = some (.inl (0, 27)) := rfl
theorem shX_62 : shX[62]? = some (.inl (0, 13)) := rfl
theorem shX_63 : shX[63]? = some (.inl (0, 286)) := rfl
theorem shX_64 : shX[64]? = some (.inl (0, 13)) := rfl
theorem shX_65 : shX[65]? = some (.inl (0, 13)) := rfl
theorem shX_66 : shX[66]? = some (.inl (0, 13)) := rfl
theorem shX_67 : shX[67]? = some (.inr (.inl (3, [69, 77]))) := rfl
theorem shX_68 : shX[68]? = some (.inr (.inr (2, [.inl 70, .inl 71, .inl 72, .inl 73, .inl 74, .inl 75, .inl 76, .inr 0, .inr 1, .inr 2]))) := rfl
theorem shX_69 : shX[69]? = some (.inl (0, 2)) := rfl
theorem shX_70 : shX[70]? = some (.inl (0, 27)) := rfl
theorem shX_71 : shX[71]? = some (.inl (0, 13)) := rfl
theorem shX_72 : shX[72]? = some (.inl (0, 286)) := rfl
theorem shX_73 : shX[73]? = some (.inl (0, 13)) := rfl
theorem shX_74 : shX[74]? = some (.inl (0, 13)) := rfl
theorem shX_75 : shX[75]? = some (.inl (0, 13)) := rfl
theorem shX_76 : shX[76]? = some (.inr (.inr (2, [.inl 78, .inl 79, .inl 80, .inl 81, .inl 82, .inl 83, .inl 84, .inr 0, .inr 1, .inr 2]))) := rfl
theorem shX_77 : shX[77]? = some (.inl (0, 2)) := rfl
theorem shX_78 : shX[78]? = some (.inl (0, 27)) := rfl
theorem shX_79 : shX[79]? = some (.inl (0, 13)) := rfl
theorem shX_80 : shX[80]? = some (.inl (0, 286)) := rfl
theorem shX_81 : shX[81]? = some (.inl (0, 13)) := rfl
theorem shX_82 : shX[82]? = some (.inl (0, 13)) := rfl
theorem shX_83 : shX[83]? = some (.inl (0, 13)) := rfl
theorem shX_84 : shX[84]? = some (.inl (1, 2)) := rfl
theorem shX_85 : shX[85]? = some (.inr (.inr (1, [.inl 87, .inl 88, .inr 0, .inr 1, .inr 2]))) := rfl
theorem shX_86 : shX[86]? = some (.inl (2, 60)) := rfl
theorem shX_87 : shX[87]? = some (.inl (0, 20)) := rfl
theorem em_shX_id : embB shX shX (fun k => k) = true := by decide +kernel
theorem fuX0_1 {b0 : Nat} : ∀ i : Nat, i ≠ 1 → ([.inl b0, .inr 0, .inr 1] : List (Nat ⊕ Nat))[i]? ≠ some (.inr 0) := by
  intro i hi h
  rcases Nat.lt_or_ge i 3 with hl | hl
  · rcases (show i = 0 ∨ i = 1 ∨ i = 2 by omega) with rfl | rfl | rfl <;> first | exact absurd rfl hi | (simp at h; done)
  · rw [List.getElem?_eq_none (by simpa using hl)] at h; cases h
theorem fuX0_2 {b0 : Nat} : ∀ i : Nat, i ≠ 2 → ([.inl b0, .inr 0, .inr 1] : List (Nat ⊕ Nat))[i]? ≠ some (.inr 1) := by
  intro i hi h
  rcases Nat.lt_or_ge i 3 with hl | hl
  · rcases (show i = 0 ∨ i = 1 ∨ i = 2 by omega) with rfl | rfl | rfl <;> first | exact absurd rfl hi | (simp at h; done)
  · rw [List.getElem?_eq_none (by simpa using hl)] at h; cases h
theorem fuX1_2 {b0 b1 : Nat} : ∀ i : Nat, i ≠ 2 → ([.inl b0, .inl b1, .inr 0, .inr 1, .inr 2] : List (Nat ⊕ Nat))[i]? ≠ some (.inr 0) := by
  intro i hi h
  rcases Nat.lt_or_ge i 5 with hl | hl
  · rcases (show i = 0 ∨ i = 1 ∨ i = 2 ∨ i = 3 ∨ i = 4 by omega) with rfl | rfl | rfl | rfl | rfl <;> first | exact absurd rfl hi | (simp at h; done)
  · rw [List.getElem?_eq_none (by simpa using hl)] at h; cases h
theorem fuX1_3 {b0 b1 : Nat} : ∀ i : Nat, i ≠ 3 → ([.inl b0, .inl b1, .inr 0, .inr 1, .inr 2] : List (Nat ⊕ Nat))[i]? ≠ some (.inr 1) := by
  intro i hi h
  rcases Nat.lt_or_ge i 5 with hl | hl
  · rcases (show i = 0 ∨ i = 1 ∨ i = 2 ∨ i = 3 ∨ i = 4 by omega) with rfl | rfl | rfl | rfl | rfl <;> first | exact absurd rfl hi | (simp at h; done)
  · rw [List.getElem?_eq_none (by simpa using hl)] at h; cases h
theorem fuX1_4 {b0 b1 : Nat} : ∀ i : Nat, i ≠ 4 → ([.inl b0, .inl b1, .inr 0, .inr 1, .inr 2] : List (Nat ⊕ Nat))[i]? ≠ some (.inr 2) := by
  intro i hi h
  rcases Nat.lt_or_ge i 5 with hl | hl
  · rcases (show i = 0 ∨ i = 1 ∨ i = 2 ∨ i = 3 ∨ i = 4 by omega) with rfl | rfl | rfl | rfl | rfl <;> first | exact absurd rfl hi | (simp at h; done)
  · rw [List.getElem?_eq_none (by simpa using hl)] at h; cases h
theorem fuX4_7 {b0 b1 b2 b3 b4 b5 b6 : Nat} : ∀ i : Nat, i ≠ 7 → ([.inl b0, .inl b1, .inl b2, .inl b3, .inl b4, .inl b5, .inl b6, .inr 0, .inr 1, .inr 2] : List (Nat ⊕ Nat))[i]? ≠ some (.inr 0) := by
  intro i hi h
  rcases Nat.lt_or_ge i 10 with hl | hl
  · rcases (show i = 0 ∨ i = 1 ∨ i = 2 ∨ i = 3 ∨ i = 4 ∨ i = 5 ∨ i = 6 ∨ i = 7 ∨ i = 8 ∨ i = 9 by omega) with rfl | rfl | rfl | rfl | rfl | rfl | rfl | rfl | rfl | rfl <;> first | exact absurd rfl hi | (simp at h; done)
  · rw [List.getElem?_eq_none (by simpa using hl)] at h; cases h
theorem fuX4_8 {b0 b1 b2 b3 b4 b5 b6 : Nat} : ∀ i : Nat, i ≠ 8 → ([.inl b0, .inl b1, .inl b2, .inl b3, .inl b4, .inl b5, .inl b6, .inr 0, .inr 1, .inr 2] : List (Nat ⊕ Nat))[i]? ≠ some (.inr 1) := by
  intro i hi h
  rcases Nat.lt_or_ge i 10 with hl | hl
  · rcases (show i = 0 ∨ i = 1 ∨ i = 2 ∨ i = 3 ∨ i = 4 ∨ i = 5 ∨ i = 6 ∨ i = 7 ∨ i = 8 ∨ i = 9 by omega) with rfl | rfl | rfl | rfl | rfl | rfl | rfl | rfl | rfl | rfl <;> first | exact absurd rfl hi | (simp at h; done)
  · rw [List.getElem?_eq_none (by simpa using hl)] at h; cases h
theorem fuX4_9 {b0 b1 b2 b3 b4 b5 b6 : Nat} : ∀ i : Nat, i ≠ 9 → ([.inl b0, .inl b1, .inl b2, .inl b3, .inl b4, .inl b5, .inl b6, .inr 0, .inr 1, .inr 2] : List (Nat ⊕ Nat))[i]? ≠ some (.inr 2) := by
  intro i hi h
  rcases Nat.lt_or_ge i 10 with hl | hl
  · rcases (show i = 0 ∨ i = 1 ∨ i = 2 ∨ i = 3 ∨ i = 4 ∨ i = 5 ∨ i = 6 ∨ i = 7 ∨ i = 8 ∨ i = 9 by omega) with rfl | rfl | rfl | rfl | rfl | rfl | rfl | rfl | rfl | rfl <;> first | exact absurd rfl hi | (simp at h; done)
  · rw [List.getElem?_eq_none (by simpa using hl)] at h; cases h
theorem vp_lt {i : Int32} {n : Nat} (h : vp_in i n) : i.toNatClampNeg < n := Nat.not_le.mp fun q => h (Or.inr q)
theorem rf_2_68 {i : Int32} (h : vp_in i 2) : ([69, 77] : List Nat)[i.toNatClampNeg]? = some (68 + 8 * i.toNatClampNeg + 1) := by
  have h1 := vp_lt h
  generalize i.toNatClampNeg = k at h1 ⊢
  revert h1 k
  decide
theorem rf_6_2 {i : Int32} (h : vp_in i 6) : ([3, 11, 19, 27, 35, 43] : List Nat)[i.toNatClampNeg]? = some (2 + 8 * i.toNatClampNeg + 1) := by
  have h1 := vp_lt h
  generalize i.toNatClampNeg = k at h1 ⊢
  revert h1 k
  decide
theorem sa_shHT_2 {i : Int32} (h : vp_in i 6) : shHT[2 + 8 * i.toNatClampNeg]? = some (.inr (.inr (2, [.inl (2 + 8 * i.toNatClampNeg + 2), .inl (2 + 8 * i.toNatClampNeg + 3), .inl (2 + 8 * i.toNatClampNeg + 4), .inl (2 + 8 * i.toNatClampNeg + 5), .inl (2 + 8 * i.toNatClampNeg + 6), .inl (2 + 8 * i.toNatClampNeg + 7), .inl (2 + 8 * i.toNatClampNeg + 8), .inr 0, .inr 1, .inr 2]))) := by
  have h1 := vp_lt h
  generalize i.toNatClampNeg = k at h1 ⊢
  rcases (show k = 0 ∨ k = 1 ∨ k = 2 ∨ k = 3 ∨ k = 4 ∨ k = 5 by omega) with rfl | rfl | rfl | rfl | rfl | rfl <;> rfl
theorem sa_shX_68 {i : Int32} (h : vp_in i 2) : shX[68 + 8 * i.toNatClampNeg]? = some (.inr (.inr (2, [.inl (68 + 8 * i.toNatClampNeg + 2), .inl (68 + 8 * i.toNatClampNeg + 3), .inl (68 + 8 * i.toNatClampNeg + 4), .inl (68 + 8 * i.toNatClampNeg + 5), .inl (68 + 8 * i.toNatClampNeg + 6), .inl (68 + 8 * i.toNatClampNeg + 7), .inl (68 + 8 * i.toNatClampNeg + 8), .inr 0, .inr 1, .inr 2]))) := by
  have h1 := vp_lt h
  generalize i.toNatClampNeg = k at h1 ⊢
  rcases (show k = 0 ∨ k = 1 by omega) with rfl | rfl <;> rfl
theorem em_shHT_shTT_e2_8_2i_50 {i : Int32} (h : vp_in i 6) : embB shHT shTT (e2 8 (2 + 8 * i.toNatClampNeg) 50) = true := by
  have h1 := vp_lt h
  generalize i.toNatClampNeg = k at h1 ⊢
  revert h1 k
  decide +kernel
theorem em_shHT_shTT_e2_8_50_2i {i : Int32} (h : vp_in i 6) : embB shHT shTT (e2 8 50 (2 + 8 * i.toNatClampNeg)) = true := by
  have h1 := vp_lt h
  generalize i.toNatClampNeg = k at h1 ⊢
  revert h1 k
  decide +kernel
theorem em_shTT_sh2_13_13_e2_1_11_3 : embB shTT (sh2 13 13) (e2 1 11 3) = true := by decide +kernel
theorem em_shTT_sh2_13_13_e2_1_13_5 : embB shTT (sh2 13 13) (e2 1 13 5) = true := by decide +kernel
theorem em_shTT_sh2_13_13_e2_1_14_6 : embB shTT (sh2 13 13) (e2 1 14 6) = true := by decide +kernel
theorem em_shTT_sh2_13_13_e2_1_15_7 : embB shTT (sh2 13 13) (e2 1 15 7) = true := by decide +kernel
theorem em_shTT_sh2_27_27_e2_1_10_2 : embB shTT (sh2 27 27) (e2 1 10 2) = true := by decide +kernel
theorem em_shTT_sh2_286_286_e2_1_12_4 : embB shTT (sh2 286 286) (e2 1 12 4) = true := by decide +kernel
theorem em_shTT_sh2_2_2_e2_1_9_1 : embB shTT (sh2 2 2) (e2 1 9 1) = true := by decide +kernel
theorem em_shT_sh1_13_e1_3 : embB shT (sh1 13) (e1 3) = true := by decide +kernel
theorem em_shT_sh1_13_e1_5 : embB shT (sh1 13) (e1 5) = true := by decide +kernel
theorem em_shT_sh1_13_e1_6 : embB shT (sh1 13) (e1 6) = true := by decide +kernel
theorem em_shT_sh1_13_e1_7 : embB shT (sh1 13) (e1 7) = true := by decide +kernel
theorem em_shX_shHT_e2_50_17_1 : embB shX shHT (e2 50 17 1) = true := by decide +kernel
theorem em_shX_shH_e1_17 : embB shX shH (e1 17) = true := by decide +kernel
theorem em_shX_shP_e1_85 : embB shX shP (e1 85) = true := by decide +kernel
theorem em_shX_shTT_e2_8_1_68i {i : Int32} (h : vp_in i 2) : embB shX shTT (e2 8 1 (68 + 8 * i.toNatClampNeg)) = true := by
  have h1 := vp_lt h
  generalize i.toNatClampNeg = k at h1 ⊢
  revert h1 k
  decide +kernel
theorem em_shX_shTT_e2_8_68i_1 {i : Int32} (h : vp_in i 2) : embB shX shTT (e2 8 (68 + 8 * i.toNatClampNeg) 1) = true := by
  have h1 := vp_lt h
  generalize i.toNatClampNeg = k at h1 ⊢
  revert h1 k
  decide +kernel
theorem em_shX_shTT_e2_8_9_1 : embB shX shTT (e2 8 9 1) = true := by decide +kernel
theorem em_shX_shT_e1_1 : embB shX shT (e1 1) = true := by decide +kernel
theorem em_shX_shT_e1_9 : embB shX shT (e1 9) = true := by decide +kernel
theorem miX2_childNode : MI yX2_childNode wsX2_childNode cX2_childNode 2 (some .int) 2 := ⟨⟨_, rfl⟩, by decide, by decide, by decide +kernel⟩
abbrev rmX2_childNode : Room := { frames := 0, cells := 0, slots := 0, locals := 0 }
theorem miX2_firstKey : MI yX2_firstKey wsX2_firstKey cX2_firstKey 1 (some .int) 1 := ⟨⟨_, rfl⟩, by decide, by decide, by decide +kernel⟩
abbrev rmX2_firstKey : Room := { frames := 0, cells := 0, slots := 0, locals := 0 }
theorem miX2_keysOfChild : MI yX2_keysOfChild wsX2_keysOfChild cX2_keysOfChild 1 (some .int) 1 := ⟨⟨_, rfl⟩, by decide, by decide, by decide +kernel⟩
abbrev rmX2_keysOfChild : Room := { frames := 0, cells := 0, slots := 0, locals := 0 }
theorem miX2_firstKeyOfChild : MI yX2_firstKeyOfChild wsX2_firstKeyOfChild cX2_firstKeyOfChild 2 (some .int) 2 := ⟨⟨_, rfl⟩, by decide, by decide, by decide +kernel⟩
abbrev rmX2_firstKeyOfChild : Room := { frames := 1, cells := 0, slots := 0, locals := 20 }
theorem miX2_isLow : MI yX2_isLow wsX2_isLow cX2_isLow 1 (some .boolean) 1 := ⟨⟨_, rfl⟩, by decide, by decide, by decide +kernel⟩
abbrev rmX2_isLow : Room := { frames := 0, cells := 0, slots := 0, locals := 0 }
theorem miX2_lastKeyOfChild : MI yX2_lastKeyOfChild wsX2_lastKeyOfChild cX2_lastKeyOfChild 2 (some .int) 2 := ⟨⟨_, rfl⟩, by decide, by decide, by decide +kernel⟩
abbrev rmX2_lastKeyOfChild : Room := { frames := 2, cells := 0, slots := 0, locals := 41 }
theorem miX2_lastKey : MI yX2_lastKey wsX2_lastKey cX2_lastKey 1 (some .int) 1 := ⟨⟨_, rfl⟩, by decide, by decide, by decide +kernel⟩
abbrev rmX2_lastKey : Room := { frames := 3, cells := 0, slots := 0, locals := 62 }
theorem miX2_level : MI yX2_level wsX2_level cX2_level 1 (some .int) 1 := ⟨⟨_, rfl⟩, by decide, by decide, by decide +kernel⟩
abbrev rmX2_level : Room := { frames := 0, cells := 0, slots := 0, locals := 0 }
theorem miX2_lowNodeOf : MI yX2_lowNodeOf wsX2_lowNodeOf cX2_lowNodeOf 1 (some .int) 1 := ⟨⟨_, rfl⟩, by decide, by decide, by decide +kernel⟩
abbrev rmX2_lowNodeOf : Room := { frames := 0, cells := 0, slots := 0, locals := 0 }
theorem miX2_parent : MI yX2_parent wsX2_parent cX2_parent 1 (some .int) 1 := ⟨⟨_, rfl⟩, by decide, by decide, by decide +kernel⟩
abbrev rmX2_parent : Room := { frames := 0, cells := 0, slots := 0, locals := 0 }
theorem miX3_first : MI yX3_first wsX3_first cX3_first 1 (some .int) 1 := ⟨⟨_, rfl⟩, by decide, by decide, by decide +kernel⟩
abbrev rmX3_first : Room := { frames := 0, cells := 0, slots := 0, locals := 0 }
theorem miX3_last : MI yX3_last wsX3_last cX3_last 1 (some .int) 1 := ⟨⟨_, rfl⟩, by decide, by decide, by decide +kernel⟩
abbrev rmX3_last : Room := { frames := 0, cells := 0, slots := 0, locals := 0 }
theorem miX3_isOfOneKey : MI yX3_isOfOneKey wsX3_isOfOneKey cX3_isOfOneKey 1 (some .boolean) 1 := ⟨⟨_, rfl⟩, by decide, by decide, by decide +kernel⟩
abbrev rmX3_isOfOneKey : Room := { frames := 1, cells := 0, slots := 0, locals := 20 }
theorem miX3_kind : MI yX3_kind wsX3_kind cX3_kind 1 (some .int) 1 := ⟨⟨_, rfl⟩, by decide, by decide, by decide +kernel⟩
abbrev rmX3_kind : Room := { frames := 0, cells := 0, slots := 0, locals := 0 }
theorem miX3_number : MI yX3_number wsX3_number cX3_number 1 (some .int) 1 := ⟨⟨_, rfl⟩, by decide, by decide, by decide +kernel⟩
abbrev rmX3_number : Room := { frames := 0, cells := 0, slots := 0, locals := 0 }
theorem miX3_of : MI yX3_of wsX3_of cX3_of 4 (some .int) 4 := ⟨⟨_, rfl⟩, by decide, by decide, by decide +kernel⟩
abbrev rmX3_of : Room := { frames := 0, cells := 0, slots := 0, locals := 0 }
theorem miX3_part : MI yX3_part wsX3_part cX3_part 3 (some .int) 3 := ⟨⟨_, rfl⟩, by decide, by decide, by decide +kernel⟩
abbrev rmX3_part : Room := { frames := 1, cells := 0, slots := 0, locals := 30 }
theorem miX3_touches : MI yX3_touches wsX3_touches cX3_touches 3 (some .boolean) 3 := ⟨⟨_, rfl⟩, by decide, by decide, by decide +kernel⟩
abbrev rmX3_touches : Room := { frames := 1, cells := 0, slots := 0, locals := 20 }
theorem miX3_valueAfter : MI yX3_valueAfter wsX3_valueAfter cX3_valueAfter 2 (some .int) 2 := ⟨⟨_, rfl⟩, by decide, by decide, by decide +kernel⟩
abbrev rmX3_valueAfter : Room := { frames := 1, cells := 0, slots := 0, locals := 20 }
theorem miX4_copyRow : MI yX4_copyRow wsX4_copyRow cX4_copyRow 2 none 2 := ⟨⟨_, rfl⟩, by decide, by decide, by decide +kernel⟩
abbrev rmX4_copyRow : Room := { frames := 1, cells := 0, slots := 0, locals := 200 }
theorem iwX4_copyFrom_X4 : ∀ w ∈ u_ws RX4 TX4 10, w ∈ wsX4_copyFrom := by decide +kernel
theorem miX4_copyFrom : MI yX4_copyFrom wsX4_copyFrom cX4_copyFrom 2 none 1 := ⟨⟨_, rfl⟩, by decide, by decide, by decide +kernel⟩
abbrev rmX4_copyFrom : Room := { frames := 2, cells := 0, slots := 0, locals := 221 }
theorem iwX0_record_X0 : ∀ w ∈ u_ws RX0 TX0 3, w ∈ wsX0_record := by decide +kernel
theorem miX0_record : MI yX0_record wsX0_record cX0_record 2 none 1 := ⟨⟨_, rfl⟩, by decide, by decide, by decide +kernel⟩
abbrev rmX0_record : Room := { frames := 3, cells := 0, slots := 0, locals := 242 }
theorem iwX0_states_X0 : ∀ w ∈ u_ws RX0 TX0 3, w ∈ wsX0_states := by decide +kernel
theorem miX0_states : MI yX0_states wsX0_states cX0_states 1 (some .int) 0 := ⟨⟨_, rfl⟩, by decide, by decide, by decide +kernel⟩
abbrev rmX0_states : Room := { frames := 0, cells := 0, slots := 0, locals := 0 }
theorem iwX0_takeBack_X0 : ∀ w ∈ u_ws RX0 TX0 3, w ∈ wsX0_takeBack := by decide +kernel
theorem miX0_takeBack : MI yX0_takeBack wsX0_takeBack cX0_takeBack 3 none 1 := ⟨⟨_, rfl⟩, by decide, by decide, by decide +kernel⟩
abbrev rmX0_takeBack : Room := { frames := 3, cells := 0, slots := 0, locals := 242 }
theorem iwX1_append_X1 : ∀ w ∈ u_ws RX1 TX1 5, w ∈ wsX1_append := by decide +kernel
theorem miX1_append : MI yX1_append wsX1_append cX1_append 5 none 2 := ⟨⟨_, rfl⟩, by decide, by decide, by decide +kernel⟩
abbrev rmX1_append : Room := { frames := 0, cells := 0, slots := 0, locals := 0 }
theorem iwX1_characterAtCursor_X1 : ∀ w ∈ u_ws RX1 TX1 5, w ∈ wsX1_characterAtCursor := by decide +kernel
theorem miX1_characterAtCursor : MI yX1_characterAtCursor wsX1_characterAtCursor cX1_characterAtCursor 2 (some .char) 0 := ⟨⟨_, rfl⟩, by decide, by decide, by decide +kernel⟩
abbrev rmX1_characterAtCursor : Room := { frames := 0, cells := 0, slots := 0, locals := 0 }
theorem miX1_charactersIn : MI yX1_charactersIn wsX1_charactersIn cX1_charactersIn 6 (some .int) 1 := ⟨⟨_, rfl⟩, by decide, by decide, by decide +kernel⟩
abbrev rmX1_charactersIn : Room := { frames := 0, cells := 0, slots := 0, locals := 0 }
theorem iwX1_clear_X1 : ∀ w ∈ u_ws RX1 TX1 5, w ∈ wsX1_clear := by decide +kernel
theorem miX1_clear : MI yX1_clear wsX1_clear cX1_clear 1 none 0 := ⟨⟨_, rfl⟩, by decide, by decide, by decide +kernel⟩
abbrev rmX1_clear : Room := { frames := 0, cells := 0, slots := 0, locals := 0 }
theorem miX1_digitAtCursor : MI yX1_digitAtCursor wsX1_digitAtCursor cX1_digitAtCursor 2 (some .int) 0 := ⟨⟨_, rfl⟩, by decide, by decide, by decide +kernel⟩
abbrev rmX1_digitAtCursor : Room := { frames := 1, cells := 0, slots := 0, locals := 21 }
theorem iwX1_keep_X1 : ∀ w ∈ u_ws RX1 TX1 5, w ∈ wsX1_keep := by decide +kernel
theorem miX1_keep : MI yX1_keep wsX1_keep cX1_keep 5 (some .boolean) 4 := ⟨⟨_, rfl⟩, by decide, by decide, by decide +kernel⟩
abbrev rmX1_keep : Room := { frames := 1, cells := 0, slots := 0, locals := 23 }
theorem iwX1_length_X1 : ∀ w ∈ u_ws RX1 TX1 5, w ∈ wsX1_length := by decide +kernel
theorem miX1_length : MI yX1_length wsX1_length cX1_length 1 (some .int) 0 := ⟨⟨_, rfl⟩, by decide, by decide, by decide +kernel⟩
abbrev rmX1_length : Room := { frames := 0, cells := 0, slots := 0, locals := 0 }
theorem iwX1_order_X1 : ∀ w ∈ u_ws RX1 TX1 5, w ∈ wsX1_order := by decide +kernel
theorem miX1_order : MI yX1_order wsX1_order cX1_order 2 (some .int) 1 := ⟨⟨_, rfl⟩, by decide, by decide, by decide +kernel⟩
abbrev rmX1_order : Room := { frames := 0, cells := 0, slots := 0, locals := 0 }
theorem iwX1_orders_X1 : ∀ w ∈ u_ws RX1 TX1 5, w ∈ wsX1_orders := by decide +kernel
theorem miX1_orders : MI yX1_orders wsX1_orders cX1_orders 1 (some .int) 0 := ⟨⟨_, rfl⟩, by decide, by decide, by decide +kernel⟩
abbrev rmX1_orders : Room := { frames := 0, cells := 0, slots := 0, locals := 0 }
theorem iwX1_readNumber_X1 : ∀ w ∈ u_ws RX1 TX1 5, w ∈ wsX1_readNumber := by decide +kernel
theorem miX1_readNumber : MI yX1_readNumber wsX1_readNumber cX1_readNumber 6 (some .int) 1 := ⟨⟨_, rfl⟩, by decide, by decide, by decide +kernel⟩
abbrev rmX1_readNumber : Room := { frames := 2, cells := 0, slots := 0, locals := 42 }
theorem iwX1_take_X1 : ∀ w ∈ u_ws RX1 TX1 5, w ∈ wsX1_take := by decide +kernel
theorem miX1_take : MI yX1_take wsX1_take cX1_take 2 (some .boolean) 1 := ⟨⟨_, rfl⟩, by decide, by decide, by decide +kernel⟩
abbrev rmX1_take : Room := { frames := 1, cells := 0, slots := 0, locals := 21 }
theorem miX1_readOrder : MI yX1_readOrder wsX1_readOrder cX1_readOrder 3 (some .boolean) 0 := ⟨⟨_, rfl⟩, by decide, by decide, by decide +kernel⟩
abbrev rmX1_readOrder : Room := { frames := 3, cells := 0, slots := 0, locals := 67 }
theorem iwX1_readOrders_X1 : ∀ w ∈ u_ws RX1 TX1 5, w ∈ wsX1_readOrders := by decide +kernel
theorem miX1_readOrders : MI yX1_readOrders wsX1_readOrders cX1_readOrders 2 (some .int) 0 := ⟨⟨_, rfl⟩, by decide, by decide, by decide +kernel⟩
abbrev rmX1_readOrders : Room := { frames := 4, cells := 0, slots := 0, locals := 89 }
theorem miX4_addTo : MI yX4_addTo wsX4_addTo cX4_addTo 3 none 3 := ⟨⟨_, rfl⟩, by decide, by decide, by decide +kernel⟩
abbrev rmX4_addTo : Room := { frames := 0, cells := 0, slots := 0, locals := 0 }
theorem miX4_total : MI yX4_total wsX4_total cX4_total 6 (some .int) 1 := ⟨⟨_, rfl⟩, by decide, by decide, by decide +kernel⟩
abbrev rmX4_total : Room := { frames := 0, cells := 0, slots := 0, locals := 0 }
theorem iwX4_allStonesSunk_X4 : ∀ w ∈ u_ws RX4 TX4 10, w ∈ wsX4_allStonesSunk := by decide +kernel
theorem miX4_allStonesSunk : MI yX4_allStonesSunk wsX4_allStonesSunk cX4_allStonesSunk 1 (some .int) 0 := ⟨⟨_, rfl⟩, by decide, by decide, by decide +kernel⟩
abbrev rmX4_allStonesSunk : Room := { frames := 1, cells := 0, slots := 0, locals := 25 }
theorem iwX4_applyToLeaf_X4 : ∀ w ∈ u_ws RX4 TX4 10, w ∈ wsX4_applyToLeaf := by decide +kernel
theorem miX4_applyToLeaf : MI yX4_applyToLeaf wsX4_applyToLeaf cX4_applyToLeaf 3 none 2 := ⟨⟨_, rfl⟩, by decide, by decide, by decide +kernel⟩
abbrev rmX4_applyToLeaf : Room := { frames := 2, cells := 0, slots := 0, locals := 41 }
theorem iwX4_buffersLookedAt_X4 : ∀ w ∈ u_ws RX4 TX4 10, w ∈ wsX4_buffersLookedAt := by decide +kernel
theorem miX4_buffersLookedAt : MI yX4_buffersLookedAt wsX4_buffersLookedAt cX4_buffersLookedAt 1 (some .int) 0 := ⟨⟨_, rfl⟩, by decide, by decide, by decide +kernel⟩
abbrev rmX4_buffersLookedAt : Room := { frames := 0, cells := 0, slots := 0, locals := 0 }
theorem iwX4_setting_X4 : ∀ w ∈ u_ws RX4 TX4 10, w ∈ wsX4_setting := by decide +kernel
theorem miX4_setting : MI yX4_setting wsX4_setting cX4_setting 2 (some .int) 1 := ⟨⟨_, rfl⟩, by decide, by decide, by decide +kernel⟩
abbrev rmX4_setting : Room := { frames := 0, cells := 0, slots := 0, locals := 0 }
theorem iwX4_changeSetting_X4 : ∀ w ∈ u_ws RX4 TX4 10, w ∈ wsX4_changeSetting := by decide +kernel
theorem miX4_changeSetting : MI yX4_changeSetting wsX4_changeSetting cX4_changeSetting 4 (some .int) 2 := ⟨⟨_, rfl⟩, by decide, by decide, by decide +kernel⟩
abbrev rmX4_changeSetting : Room := { frames := 1, cells := 0, slots := 0, locals := 21 }
theorem iwX4_stoneAt_X4 : ∀ w ∈ u_ws RX4 TX4 10, w ∈ wsX4_stoneAt := by decide +kernel
theorem miX4_stoneAt : MI yX4_stoneAt wsX4_stoneAt cX4_stoneAt 4 (some .int) 2 := ⟨⟨_, rfl⟩, by decide, by decide, by decide +kernel⟩
abbrev rmX4_stoneAt : Room := { frames := 0, cells := 0, slots := 0, locals := 0 }
theorem iwX4_stonesIn_X4 : ∀ w ∈ u_ws RX4 TX4 10, w ∈ wsX4_stonesIn := by decide +kernel
theorem miX4_stonesIn : MI yX4_stonesIn wsX4_stonesIn cX4_stonesIn 2 (some .int) 1 := ⟨⟨_, rfl⟩, by decide, by decide, by decide +kernel⟩
abbrev rmX4_stonesIn : Room := { frames := 0, cells := 0, slots := 0, locals := 0 }
theorem miX4_stonesTouching : MI yX4_stonesTouching wsX4_stonesTouching cX4_stonesTouching 7 (some .int) 3 := ⟨⟨_, rfl⟩, by decide, by decide, by decide +kernel⟩
abbrev rmX4_stonesTouching : Room := { frames := 2, cells := 0, slots := 0, locals := 42 }
theorem miX4_heaviestChild : MI yX4_heaviestChild wsX4_heaviestChild cX4_heaviestChild 6 (some .int) 1 := ⟨⟨_, rfl⟩, by decide, by decide, by decide +kernel⟩
abbrev rmX4_heaviestChild : Room := { frames := 3, cells := 0, slots := 0, locals := 68 }
theorem miX4_lastPlaceWith : MI yX4_lastPlaceWith wsX4_lastPlaceWith cX4_lastPlaceWith 5 (some .int) 3 := ⟨⟨_, rfl⟩, by decide, by decide, by decide +kernel⟩
abbrev rmX4_lastPlaceWith : Room := { frames := 2, cells := 0, slots := 0, locals := 42 }
theorem iwX4_layAt_X4 : ∀ w ∈ u_ws RX4 TX4 10, w ∈ wsX4_layAt := by decide +kernel
theorem miX4_layAt : MI yX4_layAt wsX4_layAt cX4_layAt 4 none 3 := ⟨⟨_, rfl⟩, by decide, by decide, by decide +kernel⟩
abbrev rmX4_layAt : Room := { frames := 0, cells := 0, slots := 0, locals := 0 }
theorem iwX4_takeOut_X4 : ∀ w ∈ u_ws RX4 TX4 10, w ∈ wsX4_takeOut := by decide +kernel
theorem miX4_takeOut : MI yX4_takeOut wsX4_takeOut cX4_takeOut 5 none 2 := ⟨⟨_, rfl⟩, by decide, by decide, by decide +kernel⟩
abbrev rmX4_takeOut : Room := { frames := 1, cells := 0, slots := 0, locals := 23 }
theorem miX4_withMore : MI yX4_withMore wsX4_withMore cX4_withMore 3 (some .int) 2 := ⟨⟨_, rfl⟩, by decide, by decide, by decide +kernel⟩
abbrev rmX4_withMore : Room := { frames := 1, cells := 0, slots := 0, locals := 23 }
theorem iwX4_joinLast_X4 : ∀ w ∈ u_ws RX4 TX4 10, w ∈ wsX4_joinLast := by decide +kernel
theorem miX4_joinLast : MI yX4_joinLast wsX4_joinLast cX4_joinLast 5 none 1 := ⟨⟨_, rfl⟩, by decide, by decide, by decide +kernel⟩
abbrev rmX4_joinLast : Room := { frames := 3, cells := 0, slots := 0, locals := 66 }
theorem iwX4_putIn_X4 : ∀ w ∈ u_ws RX4 TX4 10, w ∈ wsX4_putIn := by decide +kernel
theorem miX4_putIn : MI yX4_putIn wsX4_putIn cX4_putIn 6 none 3 := ⟨⟨_, rfl⟩, by decide, by decide, by decide +kernel⟩
abbrev rmX4_putIn : Room := { frames := 1, cells := 0, slots := 0, locals := 23 }
theorem miX4_leaveRest : MI yX4_leaveRest wsX4_leaveRest cX4_leaveRest 7 (some .int) 4 := ⟨⟨_, rfl⟩, by decide, by decide, by decide +kernel⟩
abbrev rmX4_leaveRest : Room := { frames := 2, cells := 0, slots := 0, locals := 52 }
theorem miX4_come : MI yX4_come wsX4_come cX4_come 5 none 3 := ⟨⟨_, rfl⟩, by decide, by decide, by decide +kernel⟩
theorem iwX4_sinkInto_X4 : ∀ w ∈ u_ws RX4 TX4 10, w ∈ wsX4_sinkInto := by decide +kernel
theorem miX4_sinkInto : MI yX4_sinkInto wsX4_sinkInto cX4_sinkInto 12 none 3 := ⟨⟨_, rfl⟩, by decide, by decide, by decide +kernel⟩
theorem miX4_deepestWith : MI yX4_deepestWith wsX4_deepestWith cX4_deepestWith 4 (some .int) 1 := ⟨⟨_, rfl⟩, by decide, by decide, by decide +kernel⟩
abbrev rmX4_deepestWith : Room := { frames := 3, cells := 0, slots := 0, locals := 68 }
theorem iwX4_drop_X4 : ∀ w ∈ u_ws RX4 TX4 10, w ∈ wsX4_drop := by decide +kernel
theorem miX4_drop : MI yX4_drop wsX4_drop cX4_drop 2 none 1 := ⟨⟨_, rfl⟩, by decide, by decide, by decide +kernel⟩
abbrev rmX4_drop : Room := { frames := 9, cells := 0, slots := 0, locals := 243 }
theorem miX4_emptyBuffer : MI yX4_emptyBuffer wsX4_emptyBuffer cX4_emptyBuffer 3 none 1 := ⟨⟨_, rfl⟩, by decide, by decide, by decide +kernel⟩
abbrev rmX4_emptyBuffer : Room := { frames := 8, cells := 0, slots := 0, locals := 219 }
theorem miX4_valueAbove : MI yX4_valueAbove wsX4_valueAbove cX4_valueAbove 8 (some .int) 3 := ⟨⟨_, rfl⟩, by decide, by decide, by decide +kernel⟩
abbrev rmX4_valueAbove : Room := { frames := 2, cells := 0, slots := 0, locals := 42 }
theorem iwX4_valueInLeaf_X4 : ∀ w ∈ u_ws RX4 TX4 10, w ∈ wsX4_valueInLeaf := by decide +kernel
theorem miX4_valueInLeaf : MI yX4_valueInLeaf wsX4_valueInLeaf cX4_valueInLeaf 2 (some .int) 1 := ⟨⟨_, rfl⟩, by decide, by decide, by decide +kernel⟩
abbrev rmX4_valueInLeaf : Room := { frames := 0, cells := 0, slots := 0, locals := 0 }
theorem miX4_valueAsRead : MI yX4_valueAsRead wsX4_valueAsRead cX4_valueAsRead 5 (some .int) 1 := ⟨⟨_, rfl⟩, by decide, by decide, by decide +kernel⟩
abbrev rmX4_valueAsRead : Room := { frames := 3, cells := 0, slots := 0, locals := 69 }
theorem miX4_keysPresent : MI yX4_keysPresent wsX4_keysPresent cX4_keysPresent 3 (some .int) 0 := ⟨⟨_, rfl⟩, by decide, by decide, by decide +kernel⟩
abbrev rmX4_keysPresent : Room := { frames := 4, cells := 0, slots := 0, locals := 93 }
theorem iwX4_noteRead_X4 : ∀ w ∈ u_ws RX4 TX4 10, w ∈ wsX4_noteRead := by decide +kernel
theorem miX4_noteRead : MI yX4_noteRead wsX4_noteRead cX4_noteRead 1 none 0 := ⟨⟨_, rfl⟩, by decide, by decide, by decide +kernel⟩
abbrev rmX4_noteRead : Room := { frames := 0, cells := 0, slots := 0, locals := 0 }
theorem miX4_numberOf : MI yX4_numberOf wsX4_numberOf cX4_numberOf 2 (some .int) 2 := ⟨⟨_, rfl⟩, by decide, by decide, by decide +kernel⟩
abbrev rmX4_numberOf : Room := { frames := 0, cells := 0, slots := 0, locals := 0 }
theorem iwX4_stones_X4 : ∀ w ∈ u_ws RX4 TX4 10, w ∈ wsX4_stones := by decide +kernel
theorem miX4_stones : MI yX4_stones wsX4_stones cX4_stones 1 (some .int) 0 := ⟨⟨_, rfl⟩, by decide, by decide, by decide +kernel⟩
abbrev rmX4_stones : Room := { frames := 1, cells := 0, slots := 0, locals := 25 }
theorem iwX4_stonesApplied_X4 : ∀ w ∈ u_ws RX4 TX4 10, w ∈ wsX4_stonesApplied := by decide +kernel
theorem miX4_stonesApplied : MI yX4_stonesApplied wsX4_stonesApplied cX4_stonesApplied 1 (some .int) 0 := ⟨⟨_, rfl⟩, by decide, by decide, by decide +kernel⟩
abbrev rmX4_stonesApplied : Room := { frames := 0, cells := 0, slots := 0, locals := 0 }
theorem iwX4_stonesJoined_X4 : ∀ w ∈ u_ws RX4 TX4 10, w ∈ wsX4_stonesJoined := by decide +kernel
theorem miX4_stonesJoined : MI yX4_stonesJoined wsX4_stonesJoined cX4_stonesJoined 2 (some .int) 1 := ⟨⟨_, rfl⟩, by decide, by decide, by decide +kernel⟩
abbrev rmX4_stonesJoined : Room := { frames := 1, cells := 0, slots := 0, locals := 21 }
theorem iwX4_stonesSent_X4 : ∀ w ∈ u_ws RX4 TX4 10, w ∈ wsX4_stonesSent := by decide +kernel
theorem miX4_stonesSent : MI yX4_stonesSent wsX4_stonesSent cX4_stonesSent 1 (some .int) 0 := ⟨⟨_, rfl⟩, by decide, by decide, by decide +kernel⟩
abbrev rmX4_stonesSent : Room := { frames := 0, cells := 0, slots := 0, locals := 0 }
theorem iwX4_stonesSunk_X4 : ∀ w ∈ u_ws RX4 TX4 10, w ∈ wsX4_stonesSunk := by decide +kernel
theorem miX4_stonesSunk : MI yX4_stonesSunk wsX4_stonesSunk cX4_stonesSunk 2 (some .int) 1 := ⟨⟨_, rfl⟩, by decide, by decide, by decide +kernel⟩
abbrev rmX4_stonesSunk : Room := { frames := 1, cells := 0, slots := 0, locals := 21 }
theorem miX4_stonesWith : MI yX4_stonesWith wsX4_stonesWith cX4_stonesWith 5 (some .int) 1 := ⟨⟨_, rfl⟩, by decide, by decide, by decide +kernel⟩
abbrev rmX4_stonesWith : Room := { frames := 3, cells := 0, slots := 0, locals := 68 }
theorem miX4_sumAsRead : MI yX4_sumAsRead wsX4_sumAsRead cX4_sumAsRead 6 (some .int) 2 := ⟨⟨_, rfl⟩, by decide, by decide, by decide +kernel⟩
abbrev rmX4_sumAsRead : Room := { frames := 4, cells := 0, slots := 0, locals := 93 }
theorem iwX4_timesSunk_X4 : ∀ w ∈ u_ws RX4 TX4 10, w ∈ wsX4_timesSunk := by decide +kernel
theorem miX4_timesSunk : MI yX4_timesSunk wsX4_timesSunk cX4_timesSunk 2 (some .int) 1 := ⟨⟨_, rfl⟩, by decide, by decide, by decide +kernel⟩
abbrev rmX4_timesSunk : Room := { frames := 1, cells := 0, slots := 0, locals := 21 }
theorem iwX5_carryOut_X5 : ∀ w ∈ u_ws RX5 TX5 6, w ∈ wsX5_carryOut := by decide +kernel
theorem miX5_carryOut : MI yX5_carryOut wsX5_carryOut cX5_carryOut 3 (some .int) 0 := ⟨⟨_, rfl⟩, by decide, by decide, by decide +kernel⟩
abbrev rmX5_carryOut : Room := { frames := 10, cells := 0, slots := 0, locals := 264 }
theorem iwX5_count_X5 : ∀ w ∈ u_ws RX5 TX5 6, w ∈ wsX5_count := by decide +kernel
theorem miX5_count : MI yX5_count wsX5_count cX5_count 2 (some .int) 1 := ⟨⟨_, rfl⟩, by decide, by decide, by decide +kernel⟩
abbrev rmX5_count : Room := { frames := 5, cells := 0, slots := 0, locals := 115 }
theorem miX5_isNode : MI yX5_isNode wsX5_isNode cX5_isNode 1 (some .boolean) 1 := ⟨⟨_, rfl⟩, by decide, by decide, by decide +kernel⟩
abbrev rmX5_isNode : Room := { frames := 0, cells := 0, slots := 0, locals := 0 }
theorem iwX5_empty_X5 : ∀ w ∈ u_ws RX5 TX5 6, w ∈ wsX5_empty := by decide +kernel
theorem miX5_empty : MI yX5_empty wsX5_empty cX5_empty 2 (some .int) 1 := ⟨⟨_, rfl⟩, by decide, by decide, by decide +kernel⟩
abbrev rmX5_empty : Room := { frames := 9, cells := 0, slots := 0, locals := 263 }
theorem iwX5_fault_X5 : ∀ w ∈ u_ws RX5 TX5 6, w ∈ wsX5_fault := by decide +kernel
theorem miX5_fault : MI yX5_fault wsX5_fault cX5_fault 1 (some .int) 0 := ⟨⟨_, rfl⟩, by decide, by decide, by decide +kernel⟩
abbrev rmX5_fault : Room := { frames := 5, cells := 0, slots := 0, locals := 110 }
theorem iwX5_heaviest_X5 : ∀ w ∈ u_ws RX5 TX5 6, w ∈ wsX5_heaviest := by decide +kernel
theorem miX5_heaviest : MI yX5_heaviest wsX5_heaviest cX5_heaviest 3 (some .int) 1 := ⟨⟨_, rfl⟩, by decide, by decide, by decide +kernel⟩
abbrev rmX5_heaviest : Room := { frames := 4, cells := 0, slots := 0, locals := 93 }
theorem miX5_isKey : MI yX5_isKey wsX5_isKey cX5_isKey 1 (some .boolean) 1 := ⟨⟨_, rfl⟩, by decide, by decide, by decide +kernel⟩
abbrev rmX5_isKey : Room := { frames := 0, cells := 0, slots := 0, locals := 0 }
theorem miX5_isNumberFor : MI yX5_isNumberFor wsX5_isNumberFor cX5_isNumberFor 2 (some .boolean) 2 := ⟨⟨_, rfl⟩, by decide, by decide, by decide +kernel⟩
abbrev rmX5_isNumberFor : Room := { frames := 0, cells := 0, slots := 0, locals := 0 }
theorem miX5_isPiece : MI yX5_isPiece wsX5_isPiece cX5_isPiece 2 (some .boolean) 2 := ⟨⟨_, rfl⟩, by decide, by decide, by decide +kernel⟩
abbrev rmX5_isPiece : Room := { frames := 1, cells := 0, slots := 0, locals := 20 }
theorem miX5_isSettingValue : MI yX5_isSettingValue wsX5_isSettingValue cX5_isSettingValue 2 (some .boolean) 2 := ⟨⟨_, rfl⟩, by decide, by decide, by decide +kernel⟩
abbrev rmX5_isSettingValue : Room := { frames := 0, cells := 0, slots := 0, locals := 0 }
theorem iwX5_isSlot_X5 : ∀ w ∈ u_ws RX5 TX5 6, w ∈ wsX5_isSlot := by decide +kernel
theorem miX5_isSlot : MI yX5_isSlot wsX5_isSlot cX5_isSlot 2 (some .boolean) 1 := ⟨⟨_, rfl⟩, by decide, by decide, by decide +kernel⟩
abbrev rmX5_isSlot : Room := { frames := 0, cells := 0, slots := 0, locals := 0 }
theorem iwX5_ofKey_X5 : ∀ w ∈ u_ws RX5 TX5 6, w ∈ wsX5_ofKey := by decide +kernel
theorem miX5_ofKey : MI yX5_ofKey wsX5_ofKey cX5_ofKey 3 (some .int) 2 := ⟨⟨_, rfl⟩, by decide, by decide, by decide +kernel⟩
abbrev rmX5_ofKey : Room := { frames := 4, cells := 0, slots := 0, locals := 93 }
theorem iwX5_ofNode_X5 : ∀ w ∈ u_ws RX5 TX5 6, w ∈ wsX5_ofNode := by decide +kernel
theorem miX5_ofNode : MI yX5_ofNode wsX5_ofNode cX5_ofNode 3 (some .int) 2 := ⟨⟨_, rfl⟩, by decide, by decide, by decide +kernel⟩
abbrev rmX5_ofNode : Room := { frames := 4, cells := 0, slots := 0, locals := 82 }
theorem iwX5_put_X5 : ∀ w ∈ u_ws RX5 TX5 6, w ∈ wsX5_put := by decide +kernel
theorem miX5_put : MI yX5_put wsX5_put cX5_put 4 (some .int) 1 := ⟨⟨_, rfl⟩, by decide, by decide, by decide +kernel⟩
abbrev rmX5_put : Room := { frames := 1, cells := 0, slots := 0, locals := 25 }
theorem iwX5_read_X5 : ∀ w ∈ u_ws RX5 TX5 6, w ∈ wsX5_read := by decide +kernel
theorem miX5_read : MI yX5_read wsX5_read cX5_read 2 (some .int) 1 := ⟨⟨_, rfl⟩, by decide, by decide, by decide +kernel⟩
abbrev rmX5_read : Room := { frames := 4, cells := 0, slots := 0, locals := 263 }
theorem iwX5_restore_X5 : ∀ w ∈ u_ws RX5 TX5 6, w ∈ wsX5_restore := by decide +kernel
theorem miX5_restore : MI yX5_restore wsX5_restore cX5_restore 2 (some .int) 1 := ⟨⟨_, rfl⟩, by decide, by decide, by decide +kernel⟩
abbrev rmX5_restore : Room := { frames := 4, cells := 0, slots := 0, locals := 263 }
theorem iwX5_same_X5 : ∀ w ∈ u_ws RX5 TX5 6, w ∈ wsX5_same := by decide +kernel
theorem miX5_same : MI yX5_same wsX5_same cX5_same 3 (some .int) 2 := ⟨⟨_, rfl⟩, by decide, by decide, by decide +kernel⟩
abbrev rmX5_same : Room := { frames := 4, cells := 0, slots := 0, locals := 93 }
theorem iwX5_save_X5 : ∀ w ∈ u_ws RX5 TX5 6, w ∈ wsX5_save := by decide +kernel
theorem miX5_save : MI yX5_save wsX5_save cX5_save 2 (some .int) 1 := ⟨⟨_, rfl⟩, by decide, by decide, by decide +kernel⟩
abbrev rmX5_save : Room := { frames := 3, cells := 0, slots := 0, locals := 242 }
theorem iwX5_send_X5 : ∀ w ∈ u_ws RX5 TX5 6, w ∈ wsX5_send := by decide +kernel
theorem miX5_send : MI yX5_send wsX5_send cX5_send 5 (some .int) 4 := ⟨⟨_, rfl⟩, by decide, by decide, by decide +kernel⟩
abbrev rmX5_send : Room := { frames := 10, cells := 0, slots := 0, locals := 264 }
theorem iwX5_set_X5 : ∀ w ∈ u_ws RX5 TX5 6, w ∈ wsX5_set := by decide +kernel
theorem miX5_set : MI yX5_set wsX5_set cX5_set 3 (some .int) 2 := ⟨⟨_, rfl⟩, by decide, by decide, by decide +kernel⟩
abbrev rmX5_set : Room := { frames := 4, cells := 0, slots := 0, locals := 263 }
theorem iwX5_stone_X5 : ∀ w ∈ u_ws RX5 TX5 6, w ∈ wsX5_stone := by decide +kernel
theorem miX5_stone : MI yX5_stone wsX5_stone cX5_stone 5 (some .int) 3 := ⟨⟨_, rfl⟩, by decide, by decide, by decide +kernel⟩
abbrev rmX5_stone : Room := { frames := 1, cells := 0, slots := 0, locals := 23 }
theorem iwX5_sum_X5 : ∀ w ∈ u_ws RX5 TX5 6, w ∈ wsX5_sum := by decide +kernel
theorem miX5_sum : MI yX5_sum wsX5_sum cX5_sum 3 (some .int) 2 := ⟨⟨_, rfl⟩, by decide, by decide, by decide +kernel⟩
abbrev rmX5_sum : Room := { frames := 5, cells := 0, slots := 0, locals := 118 }
theorem iwX5_sunkBySetting_X5 : ∀ w ∈ u_ws RX5 TX5 6, w ∈ wsX5_sunkBySetting := by decide +kernel
theorem miX5_sunkBySetting : MI yX5_sunkBySetting wsX5_sunkBySetting cX5_sunkBySetting 2 (some .int) 1 := ⟨⟨_, rfl⟩, by decide, by decide, by decide +kernel⟩
abbrev rmX5_sunkBySetting : Room := { frames := 10, cells := 0, slots := 0, locals := 264 }
theorem iwX5_toEmptyAll_X5 : ∀ w ∈ u_ws RX5 TX5 6, w ∈ wsX5_toEmptyAll := by decide +kernel
theorem miX5_toEmptyAll : MI yX5_toEmptyAll wsX5_toEmptyAll cX5_toEmptyAll 2 (some .int) 0 := ⟨⟨_, rfl⟩, by decide, by decide, by decide +kernel⟩
abbrev rmX5_toEmptyAll : Room := { frames := 9, cells := 0, slots := 0, locals := 242 }
theorem iwX5_undo_X5 : ∀ w ∈ u_ws RX5 TX5 6, w ∈ wsX5_undo := by decide +kernel
theorem miX5_undo : MI yX5_undo wsX5_undo cX5_undo 1 (some .int) 0 := ⟨⟨_, rfl⟩, by decide, by decide, by decide +kernel⟩
abbrev rmX5_undo : Room := { frames := 4, cells := 0, slots := 0, locals := 264 }
theorem iwX5_wipe_X5 : ∀ w ∈ u_ws RX5 TX5 6, w ∈ wsX5_wipe := by decide +kernel
theorem miX5_wipe : MI yX5_wipe wsX5_wipe cX5_wipe 2 (some .int) 0 := ⟨⟨_, rfl⟩, by decide, by decide, by decide +kernel⟩
abbrev rmX5_wipe : Room := { frames := 1, cells := 0, slots := 0, locals := 20 }
theorem miX5_worstKey : MI yX5_worstKey wsX5_worstKey cX5_worstKey 6 (some .int) 1 := ⟨⟨_, rfl⟩, by decide, by decide, by decide +kernel⟩
abbrev rmX5_worstKey : Room := { frames := 11, cells := 0, slots := 0, locals := 285 }
theorem miX5_wouldSink : MI yX5_wouldSink wsX5_wouldSink cX5_wouldSink 2 (some .int) 1 := ⟨⟨_, rfl⟩, by decide, by decide, by decide +kernel⟩
abbrev rmX5_wouldSink : Room := { frames := 11, cells := 0, slots := 0, locals := 285 }
abbrev rmX4_come_0 : Room := { frames := 0, cells := 0, slots := 0, locals := 0 }
abbrev rmX4_come_1 : Room := { frames := 4, cells := 0, slots := 0, locals := 109 }
abbrev rmX4_come_2 : Room := { frames := 6, cells := 0, slots := 0, locals := 164 }
abbrev rmX4_come_3 : Room := { frames := 8, cells := 0, slots := 0, locals := 219 }
abbrev rmX4_sinkInto_0 : Room := { frames := 3, cells := 0, slots := 0, locals := 78 }
abbrev rmX4_sinkInto_1 : Room := { frames := 5, cells := 0, slots := 0, locals := 133 }
abbrev rmX4_sinkInto_2 : Room := { frames := 7, cells := 0, slots := 0, locals := 188 }
abbrev rmX4_come : Room := rmX4_come_3
abbrev rmX4_sinkInto : Room := rmX4_sinkInto_2
