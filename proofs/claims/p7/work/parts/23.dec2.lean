/-! TABLES: every instruction stands where the listing says (written by a program) -/
theorem dk100_0 : [cL100_0, cL100_1, cL100_2, cL100_3, cL100_4, cL100_5, cL100_6].all (dOK prog_4_method_6_code 6) = true := by decide +kernel
theorem dk100 : dOK prog_4_method_6_code 6 cL100 = true := (dOK_gr (R := []) rfl dk100_0)
theorem dk101_0 : [cL101_0, cL101_1, cL101_2].all (dOK prog_4_method_9_code 3) = true := by decide +kernel
theorem dk101 : dOK prog_4_method_9_code 3 cL101 = true := (dOK_gr (R := []) rfl dk101_0)
theorem dk102_0 : [cL102_0, cL102_1, cL102_2].all (dOK prog_4_method_10_code 4) = true := by decide +kernel
theorem dk102 : dOK prog_4_method_10_code 4 cL102 = true := (dOK_gr (R := []) rfl dk102_0)
theorem dk103_0 : [cL103_0, cL103_1].all (dOK prog_4_method_8_code 4) = true := by decide +kernel
theorem dk103 : dOK prog_4_method_8_code 4 cL103 = true := (dOK_gr (R := []) rfl dk103_0)
theorem dk104_0 : [cL104_0, cL104_1, cL104_2, cL104_3, cL104_4, cL104_5, cL104_6, cL104_7].all (dOK prog_4_method_7_code 13) = true := by decide +kernel
theorem dk104_1 : [cL104_8].all (dOK prog_4_method_7_code 13) = true := by decide +kernel
theorem dk104 : dOK prog_4_method_7_code 13 cL104 = true := (dOK_gr (R := cL104_8 ++ ([])) (dOK_gr (R := []) rfl dk104_1) dk104_0)
theorem dk105_0 : [cL105_0, cL105_1, cL105_2].all (dOK prog_2_method_16_code 4) = true := by decide +kernel
theorem dk105 : dOK prog_2_method_16_code 4 cL105 = true := (dOK_gr (R := []) rfl dk105_0)
theorem dk106_0 : [cL106_0, cL106_1].all (dOK prog_4_method_5_code 2) = true := by decide +kernel
theorem dk106 : dOK prog_4_method_5_code 2 cL106 = true := (dOK_gr (R := []) rfl dk106_0)
theorem dk107_0 : [cL107_0, cL107_1, cL107_2, cL107_3, cL107_4].all (dOK prog_1_method_22_code 3) = true := by decide +kernel
theorem dk107 : dOK prog_1_method_22_code 3 cL107 = true := (dOK_gr (R := []) rfl dk107_0)
theorem dk108_0 : [cL108_0, cL108_1, cL108_2].all (dOK prog_4_method_3_code 3) = true := by decide +kernel
theorem dk108 : dOK prog_4_method_3_code 3 cL108 = true := (dOK_gr (R := []) rfl dk108_0)
theorem dk109_0 : [cL109_0, cL109_1, cL109_2, cL109_3, cL109_4, cL109_5].all (dOK prog_1_method_23_code 5) = true := by decide +kernel
theorem dk109 : dOK prog_1_method_23_code 5 cL109 = true := (dOK_gr (R := []) rfl dk109_0)
theorem dk110_0 : [cL110_0, cL110_1].all (dOK prog_2_method_9_code 3) = true := by decide +kernel
theorem dk110 : dOK prog_2_method_9_code 3 cL110 = true := (dOK_gr (R := []) rfl dk110_0)
theorem dk111_0 : [cL111_0, cL111_1, cL111_2, cL111_3, cL111_4].all (dOK prog_1_method_24_code 5) = true := by decide +kernel
theorem dk111 : dOK prog_1_method_24_code 5 cL111 = true := (dOK_gr (R := []) rfl dk111_0)
theorem dk112_0 : [cL112_0, cL112_1, cL112_2, cL112_3].all (dOK prog_7_method_5_code 4) = true := by decide +kernel
theorem dk112 : dOK prog_7_method_5_code 4 cL112 = true := (dOK_gr (R := []) rfl dk112_0)
theorem dk113_0 : [cL113_0, cL113_1, cL113_2].all (dOK prog_1_method_25_code 3) = true := by decide +kernel
theorem dk113 : dOK prog_1_method_25_code 3 cL113 = true := (dOK_gr (R := []) rfl dk113_0)
theorem dk114_0 : [cL114_0, cL114_1, cL114_2, cL114_3, cL114_4, cL114_5, cL114_6].all (dOK prog_1_method_26_code 4) = true := by decide +kernel
theorem dk114 : dOK prog_1_method_26_code 4 cL114 = true := (dOK_gr (R := []) rfl dk114_0)
theorem dk115_0 : [cL115_0].all (dOK prog_8_method_9_code 3) = true := by decide +kernel
theorem dk115 : dOK prog_8_method_9_code 3 cL115 = true := (dOK_gr (R := []) rfl dk115_0)
theorem dk116_0 : [cL116_0, cL116_1, cL116_2, cL116_3].all (dOK prog_7_method_6_code 4) = true := by decide +kernel
theorem dk116 : dOK prog_7_method_6_code 4 cL116 = true := (dOK_gr (R := []) rfl dk116_0)
theorem dk117_0 : [cL117_0, cL117_1, cL117_2, cL117_3, cL117_4, cL117_5].all (dOK prog_1_method_27_code 3) = true := by decide +kernel
theorem dk117 : dOK prog_1_method_27_code 3 cL117 = true := (dOK_gr (R := []) rfl dk117_0)
theorem dk118_0 : [cL118_0, cL118_1, cL118_2, cL118_3].all (dOK prog_1_method_28_code 2) = true := by decide +kernel
theorem dk118 : dOK prog_1_method_28_code 2 cL118 = true := (dOK_gr (R := []) rfl dk118_0)
theorem dk119_0 : [cL119_0, cL119_1, cL119_2, cL119_3, cL119_4].all (dOK prog_1_method_48_code 4) = true := by decide +kernel
theorem dk119 : dOK prog_1_method_48_code 4 cL119 = true := (dOK_gr (R := []) rfl dk119_0)
theorem dk120_0 : [cL120_0, cL120_1, cL120_2, cL120_3, cL120_4, cL120_5, cL120_6].all (dOK prog_1_method_49_code 3) = true := by decide +kernel
theorem dk120 : dOK prog_1_method_49_code 3 cL120 = true := (dOK_gr (R := []) rfl dk120_0)
theorem dk121_0 : [cL121_0, cL121_1, cL121_2, cL121_3, cL121_4, cL121_5, cL121_6, cL121_7].all (dOK prog_1_method_29_code 10) = true := by decide +kernel
theorem dk121 : dOK prog_1_method_29_code 10 cL121 = true := (dOK_gr (R := []) rfl dk121_0)
theorem dk122_0 : [cL122_0, cL122_1, cL122_2].all (dOK prog_7_method_7_code 3) = true := by decide +kernel
theorem dk122 : dOK prog_7_method_7_code 3 cL122 = true := (dOK_gr (R := []) rfl dk122_0)
theorem dk123_0 : [cL123_0, cL123_1, cL123_2].all (dOK prog_1_method_51_code 6) = true := by decide +kernel
theorem dk123 : dOK prog_1_method_51_code 6 cL123 = true := (dOK_gr (R := []) rfl dk123_0)
theorem dk124_0 : [cL124_0, cL124_1, cL124_2, cL124_3, cL124_4, cL124_5].all (dOK prog_1_method_50_code 5) = true := by decide +kernel
theorem dk124 : dOK prog_1_method_50_code 5 cL124 = true := (dOK_gr (R := []) rfl dk124_0)
theorem dk125_0 : [cL125_0, cL125_1].all (dOK prog_1_method_52_code 4) = true := by decide +kernel
theorem dk125 : dOK prog_1_method_52_code 4 cL125 = true := (dOK_gr (R := []) rfl dk125_0)
theorem dk126_0 : [cL126_0, cL126_1, cL126_2, cL126_3, cL126_4].all (dOK prog_1_method_53_code 12) = true := by decide +kernel
theorem dk126 : dOK prog_1_method_53_code 12 cL126 = true := (dOK_gr (R := []) rfl dk126_0)
theorem dk127_0 : [cL127_0, cL127_1, cL127_2, cL127_3, cL127_4, cL127_5, cL127_6].all (dOK prog_1_method_30_code 9) = true := by decide +kernel
theorem dk127 : dOK prog_1_method_30_code 9 cL127 = true := (dOK_gr (R := []) rfl dk127_0)
theorem dk128_0 : [cL128_0, cL128_1, cL128_2, cL128_3, cL128_4, cL128_5, cL128_6, cL128_7].all (dOK prog_1_method_31_code 6) = true := by decide +kernel
theorem dk128 : dOK prog_1_method_31_code 6 cL128 = true := (dOK_gr (R := []) rfl dk128_0)
theorem dk129_0 : [cL129_0, cL129_1, cL129_2, cL129_3].all (dOK prog_8_method_15_code 3) = true := by decide +kernel
theorem dk129 : dOK prog_8_method_15_code 3 cL129 = true := (dOK_gr (R := []) rfl dk129_0)
theorem dk130_0 : [cL130_0, cL130_1, cL130_2].all (dOK prog_1_method_32_code 3) = true := by decide +kernel
theorem dk130 : dOK prog_1_method_32_code 3 cL130 = true := (dOK_gr (R := []) rfl dk130_0)
theorem dk131_0 : [cL131_0, cL131_1, cL131_2].all (dOK prog_1_method_33_code 2) = true := by decide +kernel
theorem dk131 : dOK prog_1_method_33_code 2 cL131 = true := (dOK_gr (R := []) rfl dk131_0)
theorem dk132_0 : [cL132_0, cL132_1, cL132_2].all (dOK prog_1_method_34_code 4) = true := by decide +kernel
theorem dk132 : dOK prog_1_method_34_code 4 cL132 = true := (dOK_gr (R := []) rfl dk132_0)
theorem dk133_0 : [cL133_0].all (dOK prog_1_method_40_code 1) = true := by decide +kernel
theorem dk133 : dOK prog_1_method_40_code 1 cL133 = true := (dOK_gr (R := []) rfl dk133_0)
theorem dk134_0 : [cL134_0].all (dOK prog_1_method_41_code 1) = true := by decide +kernel
theorem dk134 : dOK prog_1_method_41_code 1 cL134 = true := (dOK_gr (R := []) rfl dk134_0)
theorem dk135_0 : [cL135_0, cL135_1].all (dOK prog_5_method_2_code 4) = true := by decide +kernel
theorem dk135 : dOK prog_5_method_2_code 4 cL135 = true := (dOK_gr (R := []) rfl dk135_0)
theorem dk136_0 : [cL136_0, cL136_1, cL136_2, cL136_3].all (dOK prog_1_method_35_code 6) = true := by decide +kernel
theorem dk136 : dOK prog_1_method_35_code 6 cL136 = true := (dOK_gr (R := []) rfl dk136_0)
theorem dk137_0 : [cL137_0, cL137_1, cL137_2].all (dOK prog_5_method_3_code 3) = true := by decide +kernel
theorem dk137 : dOK prog_5_method_3_code 3 cL137 = true := (dOK_gr (R := []) rfl dk137_0)
theorem dk138_0 : [cL138_0, cL138_1, cL138_2].all (dOK prog_5_method_5_code 3) = true := by decide +kernel
theorem dk138 : dOK prog_5_method_5_code 3 cL138 = true := (dOK_gr (R := []) rfl dk138_0)
theorem dk139_0 : [cL139_0, cL139_1, cL139_2, cL139_3, cL139_4, cL139_5, cL139_6, cL139_7].all (dOK prog_1_method_36_code 10) = true := by decide +kernel
theorem dk139_1 : [cL139_8, cL139_9, cL139_10].all (dOK prog_1_method_36_code 10) = true := by decide +kernel
theorem dk139 : dOK prog_1_method_36_code 10 cL139 = true := (dOK_gr (R := cL139_8 ++ ( cL139_9 ++ ( cL139_10 ++ ([])))) (dOK_gr (R := []) rfl dk139_1) dk139_0)
theorem dk140_0 : [cL140_0, cL140_1].all (dOK prog_5_method_4_code 4) = true := by decide +kernel
theorem dk140 : dOK prog_5_method_4_code 4 cL140 = true := (dOK_gr (R := []) rfl dk140_0)
theorem dk141_0 : [cL141_0, cL141_1].all (dOK prog_5_method_6_code 2) = true := by decide +kernel
theorem dk141 : dOK prog_5_method_6_code 2 cL141 = true := (dOK_gr (R := []) rfl dk141_0)
theorem dk142_0 : [cL142_0].all (dOK prog_1_method_37_code 1) = true := by decide +kernel
theorem dk142 : dOK prog_1_method_37_code 1 cL142 = true := (dOK_gr (R := []) rfl dk142_0)
theorem dk143_0 : [cL143_0, cL143_1, cL143_2, cL143_3, cL143_4, cL143_5, cL143_6, cL143_7].all (dOK prog_1_method_38_code 2) = true := by decide +kernel
theorem dk143 : dOK prog_1_method_38_code 2 cL143 = true := (dOK_gr (R := []) rfl dk143_0)
theorem dk144_0 : [cL144_0, cL144_1, cL144_2, cL144_3, cL144_4, cL144_5, cL144_6, cL144_7].all (dOK prog_11_method_1_code 2) = true := by decide +kernel
theorem dk144 : dOK prog_11_method_1_code 2 cL144 = true := (dOK_gr (R := []) rfl dk144_0)
theorem dk145_0 : [cL145_0, cL145_1, cL145_2, cL145_3, cL145_4].all (dOK prog_11_method_5_code 2) = true := by decide +kernel
theorem dk145 : dOK prog_11_method_5_code 2 cL145 = true := (dOK_gr (R := []) rfl dk145_0)
theorem dk146_0 : [cL146_0, cL146_1, cL146_2, cL146_3, cL146_4, cL146_5].all (dOK prog_11_method_6_code 2) = true := by decide +kernel
theorem dk146 : dOK prog_11_method_6_code 2 cL146 = true := (dOK_gr (R := []) rfl dk146_0)
theorem dk147_0 : [cL147_0, cL147_1, cL147_2, cL147_3].all (dOK prog_11_method_7_code 2) = true := by decide +kernel
theorem dk147 : dOK prog_11_method_7_code 2 cL147 = true := (dOK_gr (R := []) rfl dk147_0)
theorem dk148_0 : [cL148_0, cL148_1].all (dOK prog_11_method_3_code 6) = true := by decide +kernel
theorem dk148 : dOK prog_11_method_3_code 6 cL148 = true := (dOK_gr (R := []) rfl dk148_0)
theorem dk149_0 : [cL149_0, cL149_1].all (dOK prog_11_method_8_code 3) = true := by decide +kernel
theorem dk149 : dOK prog_11_method_8_code 3 cL149 = true := (dOK_gr (R := []) rfl dk149_0)
theorem dk150_0 : [cL150_0, cL150_1, cL150_2, cL150_3, cL150_4, cL150_5, cL150_6].all (dOK prog_11_method_24_code 2) = true := by decide +kernel
theorem dk150 : dOK prog_11_method_24_code 2 cL150 = true := (dOK_gr (R := []) rfl dk150_0)
theorem dk151_0 : [cL151_0, cL151_1, cL151_2, cL151_3, cL151_4, cL151_5, cL151_6, cL151_7].all (dOK prog_11_method_14_code 2) = true := by decide +kernel
theorem dk151_1 : [cL151_8, cL151_9, cL151_10, cL151_11, cL151_12, cL151_13, cL151_14, cL151_15].all (dOK prog_11_method_14_code 2) = true := by decide +kernel
theorem dk151_2 : [cL151_16, cL151_17].all (dOK prog_11_method_14_code 2) = true := by decide +kernel
theorem dk151 : dOK prog_11_method_14_code 2 cL151 = true := (dOK_gr (R := cL151_8 ++ ( cL151_9 ++ ( cL151_10 ++ ( cL151_11 ++ ( cL151_12 ++ ( cL151_13 ++ ( cL151_14 ++ ( cL151_15 ++ ( cL151_16 ++ ( cL151_17 ++ ([]))))))))))) (dOK_gr (R := cL151_16 ++ ( cL151_17 ++ ([]))) (dOK_gr (R := []) rfl dk151_2) dk151_1) dk151_0)
theorem dk152_0 : [cL152_0, cL152_1].all (dOK prog_11_method_10_code 2) = true := by decide +kernel
theorem dk152 : dOK prog_11_method_10_code 2 cL152 = true := (dOK_gr (R := []) rfl dk152_0)
theorem dk153_0 : [cL153_0, cL153_1].all (dOK prog_11_method_9_code 3) = true := by decide +kernel
theorem dk153 : dOK prog_11_method_9_code 3 cL153 = true := (dOK_gr (R := []) rfl dk153_0)
theorem dk154_0 : [cL154_0, cL154_1, cL154_2, cL154_3, cL154_4, cL154_5, cL154_6, cL154_7].all (dOK prog_11_method_23_code 2) = true := by decide +kernel
theorem dk154_1 : [cL154_8, cL154_9, cL154_10].all (dOK prog_11_method_23_code 2) = true := by decide +kernel
theorem dk154 : dOK prog_11_method_23_code 2 cL154 = true := (dOK_gr (R := cL154_8 ++ ( cL154_9 ++ ( cL154_10 ++ ([])))) (dOK_gr (R := []) rfl dk154_1) dk154_0)
theorem dk155_0 : [cL155_0, cL155_1, cL155_2, cL155_3, cL155_4, cL155_5, cL155_6, cL155_7].all (dOK prog_11_method_13_code 1) = true := by decide +kernel
theorem dk155_1 : [cL155_8, cL155_9, cL155_10, cL155_11].all (dOK prog_11_method_13_code 1) = true := by decide +kernel
theorem dk155 : dOK prog_11_method_13_code 1 cL155 = true := (dOK_gr (R := cL155_8 ++ ( cL155_9 ++ ( cL155_10 ++ ( cL155_11 ++ ([]))))) (dOK_gr (R := []) rfl dk155_1) dk155_0)
theorem dk156_0 : [cL156_0, cL156_1, cL156_2, cL156_3].all (dOK prog_11_method_11_code 5) = true := by decide +kernel
theorem dk156 : dOK prog_11_method_11_code 5 cL156 = true := (dOK_gr (R := []) rfl dk156_0)
theorem dk157_0 : [cL157_0, cL157_1, cL157_2, cL157_3].all (dOK prog_11_method_12_code 4) = true := by decide +kernel
theorem dk157 : dOK prog_11_method_12_code 4 cL157 = true := (dOK_gr (R := []) rfl dk157_0)
theorem dk158_0 : [cL158_0, cL158_1, cL158_2, cL158_3].all (dOK prog_11_method_22_code 2) = true := by decide +kernel
theorem dk158 : dOK prog_11_method_22_code 2 cL158 = true := (dOK_gr (R := []) rfl dk158_0)
theorem dk159_0 : [cL159_0, cL159_1, cL159_2, cL159_3, cL159_4, cL159_5, cL159_6].all (dOK prog_11_method_18_code 3) = true := by decide +kernel
theorem dk159 : dOK prog_11_method_18_code 3 cL159 = true := (dOK_gr (R := []) rfl dk159_0)
theorem dk160_0 : [cL160_0].all (dOK prog_11_method_16_code 4) = true := by decide +kernel
theorem dk160 : dOK prog_11_method_16_code 4 cL160 = true := (dOK_gr (R := []) rfl dk160_0)
theorem dk161_0 : [cL161_0, cL161_1, cL161_2, cL161_3, cL161_4].all (dOK prog_11_method_15_code 3) = true := by decide +kernel
theorem dk161 : dOK prog_11_method_15_code 3 cL161 = true := (dOK_gr (R := []) rfl dk161_0)
theorem dk162_0 : [cL162_0, cL162_1, cL162_2, cL162_3, cL162_4, cL162_5].all (dOK prog_11_method_19_code 3) = true := by decide +kernel
theorem dk162 : dOK prog_11_method_19_code 3 cL162 = true := (dOK_gr (R := []) rfl dk162_0)
theorem dk163_0 : [cL163_0, cL163_1, cL163_2, cL163_3, cL163_4, cL163_5, cL163_6, cL163_7].all (dOK prog_11_method_21_code 1) = true := by decide +kernel
theorem dk163_1 : [cL163_8, cL163_9, cL163_10, cL163_11].all (dOK prog_11_method_21_code 1) = true := by decide +kernel
theorem dk163 : dOK prog_11_method_21_code 1 cL163 = true := (dOK_gr (R := cL163_8 ++ ( cL163_9 ++ ( cL163_10 ++ ( cL163_11 ++ ([]))))) (dOK_gr (R := []) rfl dk163_1) dk163_0)
theorem dk164_0 : [cL164_0, cL164_1, cL164_2].all (dOK prog_11_method_20_code 1) = true := by decide +kernel
theorem dk164 : dOK prog_11_method_20_code 1 cL164 = true := (dOK_gr (R := []) rfl dk164_0)
