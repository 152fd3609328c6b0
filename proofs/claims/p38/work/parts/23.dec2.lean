/-! TABLES: every instruction stands where the listing says (written by a program) -/
theorem dg100_0 : dOK prog_4_method_6_code 6 cG100_0 = true := dOK_fl (Ls := [cL100_0, cL100_1, cL100_2, cL100_3, cL100_4, cL100_5, cL100_6]) rfl (dGo_ok (k := 0) (m := 200) (j := 0) (by decide +kernel))
theorem dk100 : dOK prog_4_method_6_code 6 cL100 = true := dOK_app dg100_0 rfl
theorem dg101_0 : dOK prog_4_method_9_code 3 cG101_0 = true := by decide +kernel
theorem dk101 : dOK prog_4_method_9_code 3 cL101 = true := dOK_app dg101_0 rfl
theorem dg102_0 : dOK prog_4_method_10_code 4 cG102_0 = true := by decide +kernel
theorem dk102 : dOK prog_4_method_10_code 4 cL102 = true := dOK_app dg102_0 rfl
theorem dg103_0 : dOK prog_4_method_8_code 4 cG103_0 = true := by decide +kernel
theorem dk103 : dOK prog_4_method_8_code 4 cL103 = true := dOK_app dg103_0 rfl
theorem dg104_0 : dOK prog_4_method_7_code 13 cG104_0 = true := dOK_fl (Ls := [cL104_0, cL104_1, cL104_2, cL104_3, cL104_4, cL104_5, cL104_6, cL104_7]) rfl (dGo_ok (k := 0) (m := 200) (j := 0) (by decide +kernel))
theorem dg104_1 : dOK prog_4_method_7_code 13 cG104_1 = true := dOK_fl (Ls := [cL104_8]) rfl (dGo_ok (k := 128) (m := 200) (j := 0) (by decide +kernel))
theorem dk104 : dOK prog_4_method_7_code 13 cL104 = true := dOK_app dg104_0 (dOK_app dg104_1 rfl)
theorem dg105_0 : dOK prog_2_method_16_code 4 cG105_0 = true := by decide +kernel
theorem dk105 : dOK prog_2_method_16_code 4 cL105 = true := dOK_app dg105_0 rfl
theorem dg106_0 : dOK prog_4_method_5_code 2 cG106_0 = true := by decide +kernel
theorem dk106 : dOK prog_4_method_5_code 2 cL106 = true := dOK_app dg106_0 rfl
theorem dg107_0 : dOK prog_1_method_22_code 3 cG107_0 = true := dOK_fl (Ls := [cL107_0, cL107_1, cL107_2, cL107_3, cL107_4]) rfl (dGo_ok (k := 0) (m := 200) (j := 0) (by decide +kernel))
theorem dk107 : dOK prog_1_method_22_code 3 cL107 = true := dOK_app dg107_0 rfl
theorem dg108_0 : dOK prog_4_method_3_code 3 cG108_0 = true := by decide +kernel
theorem dk108 : dOK prog_4_method_3_code 3 cL108 = true := dOK_app dg108_0 rfl
theorem dg109_0 : dOK prog_1_method_23_code 5 cG109_0 = true := dOK_fl (Ls := [cL109_0, cL109_1, cL109_2, cL109_3, cL109_4, cL109_5]) rfl (dGo_ok (k := 0) (m := 200) (j := 0) (by decide +kernel))
theorem dk109 : dOK prog_1_method_23_code 5 cL109 = true := dOK_app dg109_0 rfl
theorem dg110_0 : dOK prog_2_method_9_code 3 cG110_0 = true := by decide +kernel
theorem dk110 : dOK prog_2_method_9_code 3 cL110 = true := dOK_app dg110_0 rfl
theorem dg111_0 : dOK prog_1_method_24_code 5 cG111_0 = true := dOK_fl (Ls := [cL111_0, cL111_1, cL111_2, cL111_3, cL111_4]) rfl (dGo_ok (k := 0) (m := 200) (j := 0) (by decide +kernel))
theorem dk111 : dOK prog_1_method_24_code 5 cL111 = true := dOK_app dg111_0 rfl
theorem dg112_0 : dOK prog_7_method_5_code 4 cG112_0 = true := by decide +kernel
theorem dk112 : dOK prog_7_method_5_code 4 cL112 = true := dOK_app dg112_0 rfl
theorem dg113_0 : dOK prog_1_method_25_code 3 cG113_0 = true := by decide +kernel
theorem dk113 : dOK prog_1_method_25_code 3 cL113 = true := dOK_app dg113_0 rfl
theorem dg114_0 : dOK prog_1_method_26_code 4 cG114_0 = true := dOK_fl (Ls := [cL114_0, cL114_1, cL114_2, cL114_3, cL114_4, cL114_5, cL114_6]) rfl (dGo_ok (k := 0) (m := 200) (j := 0) (by decide +kernel))
theorem dk114 : dOK prog_1_method_26_code 4 cL114 = true := dOK_app dg114_0 rfl
theorem dg115_0 : dOK prog_8_method_9_code 3 cG115_0 = true := by decide +kernel
theorem dk115 : dOK prog_8_method_9_code 3 cL115 = true := dOK_app dg115_0 rfl
theorem dg116_0 : dOK prog_7_method_6_code 4 cG116_0 = true := by decide +kernel
theorem dk116 : dOK prog_7_method_6_code 4 cL116 = true := dOK_app dg116_0 rfl
theorem dg117_0 : dOK prog_1_method_27_code 3 cG117_0 = true := dOK_fl (Ls := [cL117_0, cL117_1, cL117_2, cL117_3, cL117_4, cL117_5]) rfl (dGo_ok (k := 0) (m := 200) (j := 0) (by decide +kernel))
theorem dk117 : dOK prog_1_method_27_code 3 cL117 = true := dOK_app dg117_0 rfl
theorem dg118_0 : dOK prog_1_method_28_code 2 cG118_0 = true := by decide +kernel
theorem dk118 : dOK prog_1_method_28_code 2 cL118 = true := dOK_app dg118_0 rfl
theorem dg119_0 : dOK prog_1_method_48_code 4 cG119_0 = true := dOK_fl (Ls := [cL119_0, cL119_1, cL119_2, cL119_3, cL119_4]) rfl (dGo_ok (k := 0) (m := 200) (j := 0) (by decide +kernel))
theorem dk119 : dOK prog_1_method_48_code 4 cL119 = true := dOK_app dg119_0 rfl
theorem dg120_0 : dOK prog_1_method_49_code 3 cG120_0 = true := dOK_fl (Ls := [cL120_0, cL120_1, cL120_2, cL120_3, cL120_4, cL120_5, cL120_6]) rfl (dGo_ok (k := 0) (m := 200) (j := 0) (by decide +kernel))
theorem dk120 : dOK prog_1_method_49_code 3 cL120 = true := dOK_app dg120_0 rfl
theorem dg121_0 : dOK prog_1_method_29_code 10 cG121_0 = true := dOK_fl (Ls := [cL121_0, cL121_1, cL121_2, cL121_3, cL121_4, cL121_5, cL121_6, cL121_7]) rfl (dGo_ok (k := 0) (m := 200) (j := 0) (by decide +kernel))
theorem dk121 : dOK prog_1_method_29_code 10 cL121 = true := dOK_app dg121_0 rfl
theorem dg122_0 : dOK prog_7_method_7_code 3 cG122_0 = true := by decide +kernel
theorem dk122 : dOK prog_7_method_7_code 3 cL122 = true := dOK_app dg122_0 rfl
theorem dg123_0 : dOK prog_1_method_51_code 6 cG123_0 = true := by decide +kernel
theorem dk123 : dOK prog_1_method_51_code 6 cL123 = true := dOK_app dg123_0 rfl
theorem dg124_0 : dOK prog_1_method_50_code 5 cG124_0 = true := dOK_fl (Ls := [cL124_0, cL124_1, cL124_2, cL124_3, cL124_4, cL124_5]) rfl (dGo_ok (k := 0) (m := 200) (j := 0) (by decide +kernel))
theorem dk124 : dOK prog_1_method_50_code 5 cL124 = true := dOK_app dg124_0 rfl
theorem dg125_0 : dOK prog_1_method_52_code 4 cG125_0 = true := by decide +kernel
theorem dk125 : dOK prog_1_method_52_code 4 cL125 = true := dOK_app dg125_0 rfl
theorem dg126_0 : dOK prog_1_method_53_code 12 cG126_0 = true := dOK_fl (Ls := [cL126_0, cL126_1, cL126_2, cL126_3, cL126_4]) rfl (dGo_ok (k := 0) (m := 200) (j := 0) (by decide +kernel))
theorem dk126 : dOK prog_1_method_53_code 12 cL126 = true := dOK_app dg126_0 rfl
theorem dg127_0 : dOK prog_1_method_30_code 9 cG127_0 = true := dOK_fl (Ls := [cL127_0, cL127_1, cL127_2, cL127_3, cL127_4, cL127_5, cL127_6]) rfl (dGo_ok (k := 0) (m := 200) (j := 0) (by decide +kernel))
theorem dk127 : dOK prog_1_method_30_code 9 cL127 = true := dOK_app dg127_0 rfl
theorem dg128_0 : dOK prog_1_method_31_code 6 cG128_0 = true := dOK_fl (Ls := [cL128_0, cL128_1, cL128_2, cL128_3, cL128_4, cL128_5, cL128_6, cL128_7]) rfl (dGo_ok (k := 0) (m := 200) (j := 0) (by decide +kernel))
theorem dk128 : dOK prog_1_method_31_code 6 cL128 = true := dOK_app dg128_0 rfl
theorem dg129_0 : dOK prog_8_method_15_code 3 cG129_0 = true := by decide +kernel
theorem dk129 : dOK prog_8_method_15_code 3 cL129 = true := dOK_app dg129_0 rfl
theorem dg130_0 : dOK prog_1_method_32_code 3 cG130_0 = true := by decide +kernel
theorem dk130 : dOK prog_1_method_32_code 3 cL130 = true := dOK_app dg130_0 rfl
theorem dg131_0 : dOK prog_1_method_33_code 2 cG131_0 = true := by decide +kernel
theorem dk131 : dOK prog_1_method_33_code 2 cL131 = true := dOK_app dg131_0 rfl
theorem dg132_0 : dOK prog_1_method_34_code 4 cG132_0 = true := by decide +kernel
theorem dk132 : dOK prog_1_method_34_code 4 cL132 = true := dOK_app dg132_0 rfl
theorem dg133_0 : dOK prog_1_method_40_code 1 cG133_0 = true := by decide +kernel
theorem dk133 : dOK prog_1_method_40_code 1 cL133 = true := dOK_app dg133_0 rfl
theorem dg134_0 : dOK prog_1_method_41_code 1 cG134_0 = true := by decide +kernel
theorem dk134 : dOK prog_1_method_41_code 1 cL134 = true := dOK_app dg134_0 rfl
theorem dg135_0 : dOK prog_5_method_2_code 4 cG135_0 = true := by decide +kernel
theorem dk135 : dOK prog_5_method_2_code 4 cL135 = true := dOK_app dg135_0 rfl
theorem dg136_0 : dOK prog_1_method_35_code 6 cG136_0 = true := by decide +kernel
theorem dk136 : dOK prog_1_method_35_code 6 cL136 = true := dOK_app dg136_0 rfl
theorem dg137_0 : dOK prog_5_method_3_code 3 cG137_0 = true := by decide +kernel
theorem dk137 : dOK prog_5_method_3_code 3 cL137 = true := dOK_app dg137_0 rfl
theorem dg138_0 : dOK prog_5_method_5_code 3 cG138_0 = true := by decide +kernel
theorem dk138 : dOK prog_5_method_5_code 3 cL138 = true := dOK_app dg138_0 rfl
theorem dg139_0 : dOK prog_1_method_36_code 10 cG139_0 = true := dOK_fl (Ls := [cL139_0, cL139_1, cL139_2, cL139_3, cL139_4, cL139_5, cL139_6, cL139_7]) rfl (dGo_ok (k := 0) (m := 200) (j := 0) (by decide +kernel))
theorem dg139_1 : dOK prog_1_method_36_code 10 cG139_1 = true := dOK_fl (Ls := [cL139_8, cL139_9, cL139_10]) rfl (dGo_ok (k := 128) (m := 200) (j := 0) (by decide +kernel))
theorem dk139 : dOK prog_1_method_36_code 10 cL139 = true := dOK_app dg139_0 (dOK_app dg139_1 rfl)
theorem dg140_0 : dOK prog_5_method_4_code 4 cG140_0 = true := by decide +kernel
theorem dk140 : dOK prog_5_method_4_code 4 cL140 = true := dOK_app dg140_0 rfl
theorem dg141_0 : dOK prog_5_method_6_code 2 cG141_0 = true := by decide +kernel
theorem dk141 : dOK prog_5_method_6_code 2 cL141 = true := dOK_app dg141_0 rfl
theorem dg142_0 : dOK prog_1_method_37_code 1 cG142_0 = true := by decide +kernel
theorem dk142 : dOK prog_1_method_37_code 1 cL142 = true := dOK_app dg142_0 rfl
theorem dg143_0 : dOK prog_1_method_38_code 2 cG143_0 = true := dOK_fl (Ls := [cL143_0, cL143_1, cL143_2, cL143_3, cL143_4, cL143_5, cL143_6, cL143_7]) rfl (dGo_ok (k := 0) (m := 200) (j := 0) (by decide +kernel))
theorem dk143 : dOK prog_1_method_38_code 2 cL143 = true := dOK_app dg143_0 rfl
theorem dg144_0 : dOK prog_11_method_1_code 2 cG144_0 = true := dOK_fl (Ls := [cL144_0, cL144_1, cL144_2, cL144_3, cL144_4, cL144_5, cL144_6, cL144_7]) rfl (dGo_ok (k := 0) (m := 200) (j := 0) (by decide +kernel))
theorem dk144 : dOK prog_11_method_1_code 2 cL144 = true := dOK_app dg144_0 rfl
theorem dg145_0 : dOK prog_11_method_5_code 2 cG145_0 = true := dOK_fl (Ls := [cL145_0, cL145_1, cL145_2, cL145_3, cL145_4]) rfl (dGo_ok (k := 0) (m := 200) (j := 0) (by decide +kernel))
theorem dk145 : dOK prog_11_method_5_code 2 cL145 = true := dOK_app dg145_0 rfl
theorem dg146_0 : dOK prog_11_method_6_code 2 cG146_0 = true := dOK_fl (Ls := [cL146_0, cL146_1, cL146_2, cL146_3, cL146_4, cL146_5]) rfl (dGo_ok (k := 0) (m := 200) (j := 0) (by decide +kernel))
theorem dk146 : dOK prog_11_method_6_code 2 cL146 = true := dOK_app dg146_0 rfl
theorem dg147_0 : dOK prog_11_method_7_code 2 cG147_0 = true := by decide +kernel
theorem dk147 : dOK prog_11_method_7_code 2 cL147 = true := dOK_app dg147_0 rfl
theorem dg148_0 : dOK prog_11_method_3_code 6 cG148_0 = true := by decide +kernel
theorem dk148 : dOK prog_11_method_3_code 6 cL148 = true := dOK_app dg148_0 rfl
theorem dg149_0 : dOK prog_11_method_8_code 3 cG149_0 = true := by decide +kernel
theorem dk149 : dOK prog_11_method_8_code 3 cL149 = true := dOK_app dg149_0 rfl
theorem dg150_0 : dOK prog_11_method_24_code 2 cG150_0 = true := dOK_fl (Ls := [cL150_0, cL150_1, cL150_2, cL150_3, cL150_4, cL150_5, cL150_6]) rfl (dGo_ok (k := 0) (m := 200) (j := 0) (by decide +kernel))
theorem dk150 : dOK prog_11_method_24_code 2 cL150 = true := dOK_app dg150_0 rfl
theorem dg151_0 : dOK prog_11_method_14_code 2 cG151_0 = true := dOK_fl (Ls := [cL151_0, cL151_1, cL151_2, cL151_3, cL151_4, cL151_5, cL151_6, cL151_7]) rfl (dGo_ok (k := 0) (m := 200) (j := 0) (by decide +kernel))
theorem dg151_1 : dOK prog_11_method_14_code 2 cG151_1 = true := dOK_fl (Ls := [cL151_8, cL151_9, cL151_10, cL151_11, cL151_12, cL151_13, cL151_14, cL151_15]) rfl (dGo_ok (k := 128) (m := 200) (j := 0) (by decide +kernel))
theorem dg151_2 : dOK prog_11_method_14_code 2 cG151_2 = true := dOK_fl (Ls := [cL151_16, cL151_17]) rfl (dGo_ok (k := 256) (m := 200) (j := 0) (by decide +kernel))
theorem dk151 : dOK prog_11_method_14_code 2 cL151 = true := dOK_app dg151_0 (dOK_app dg151_1 (dOK_app dg151_2 rfl))
theorem dg152_0 : dOK prog_11_method_10_code 2 cG152_0 = true := by decide +kernel
theorem dk152 : dOK prog_11_method_10_code 2 cL152 = true := dOK_app dg152_0 rfl
theorem dg153_0 : dOK prog_11_method_9_code 3 cG153_0 = true := by decide +kernel
theorem dk153 : dOK prog_11_method_9_code 3 cL153 = true := dOK_app dg153_0 rfl
theorem dg154_0 : dOK prog_11_method_23_code 2 cG154_0 = true := dOK_fl (Ls := [cL154_0, cL154_1, cL154_2, cL154_3, cL154_4, cL154_5, cL154_6, cL154_7]) rfl (dGo_ok (k := 0) (m := 200) (j := 0) (by decide +kernel))
theorem dg154_1 : dOK prog_11_method_23_code 2 cG154_1 = true := dOK_fl (Ls := [cL154_8, cL154_9, cL154_10]) rfl (dGo_ok (k := 128) (m := 200) (j := 0) (by decide +kernel))
theorem dk154 : dOK prog_11_method_23_code 2 cL154 = true := dOK_app dg154_0 (dOK_app dg154_1 rfl)
theorem dg155_0 : dOK prog_11_method_13_code 1 cG155_0 = true := dOK_fl (Ls := [cL155_0, cL155_1, cL155_2, cL155_3, cL155_4, cL155_5, cL155_6, cL155_7]) rfl (dGo_ok (k := 0) (m := 200) (j := 0) (by decide +kernel))
theorem dg155_1 : dOK prog_11_method_13_code 1 cG155_1 = true := dOK_fl (Ls := [cL155_8, cL155_9, cL155_10, cL155_11]) rfl (dGo_ok (k := 128) (m := 200) (j := 0) (by decide +kernel))
theorem dk155 : dOK prog_11_method_13_code 1 cL155 = true := dOK_app dg155_0 (dOK_app dg155_1 rfl)
theorem dg156_0 : dOK prog_11_method_11_code 5 cG156_0 = true := by decide +kernel
theorem dk156 : dOK prog_11_method_11_code 5 cL156 = true := dOK_app dg156_0 rfl
theorem dg157_0 : dOK prog_11_method_12_code 4 cG157_0 = true := by decide +kernel
theorem dk157 : dOK prog_11_method_12_code 4 cL157 = true := dOK_app dg157_0 rfl
theorem dg158_0 : dOK prog_11_method_22_code 2 cG158_0 = true := by decide +kernel
theorem dk158 : dOK prog_11_method_22_code 2 cL158 = true := dOK_app dg158_0 rfl
theorem dg159_0 : dOK prog_11_method_18_code 3 cG159_0 = true := dOK_fl (Ls := [cL159_0, cL159_1, cL159_2, cL159_3, cL159_4, cL159_5, cL159_6]) rfl (dGo_ok (k := 0) (m := 200) (j := 0) (by decide +kernel))
theorem dk159 : dOK prog_11_method_18_code 3 cL159 = true := dOK_app dg159_0 rfl
theorem dg160_0 : dOK prog_11_method_16_code 4 cG160_0 = true := by decide +kernel
theorem dk160 : dOK prog_11_method_16_code 4 cL160 = true := dOK_app dg160_0 rfl
theorem dg161_0 : dOK prog_11_method_15_code 3 cG161_0 = true := dOK_fl (Ls := [cL161_0, cL161_1, cL161_2, cL161_3, cL161_4]) rfl (dGo_ok (k := 0) (m := 200) (j := 0) (by decide +kernel))
theorem dk161 : dOK prog_11_method_15_code 3 cL161 = true := dOK_app dg161_0 rfl
theorem dg162_0 : dOK prog_11_method_19_code 3 cG162_0 = true := dOK_fl (Ls := [cL162_0, cL162_1, cL162_2, cL162_3, cL162_4, cL162_5]) rfl (dGo_ok (k := 0) (m := 200) (j := 0) (by decide +kernel))
theorem dk162 : dOK prog_11_method_19_code 3 cL162 = true := dOK_app dg162_0 rfl
theorem dg163_0 : dOK prog_11_method_21_code 1 cG163_0 = true := dOK_fl (Ls := [cL163_0, cL163_1, cL163_2, cL163_3, cL163_4, cL163_5, cL163_6, cL163_7]) rfl (dGo_ok (k := 0) (m := 200) (j := 0) (by decide +kernel))
theorem dg163_1 : dOK prog_11_method_21_code 1 cG163_1 = true := dOK_fl (Ls := [cL163_8, cL163_9, cL163_10, cL163_11]) rfl (dGo_ok (k := 128) (m := 200) (j := 0) (by decide +kernel))
theorem dk163 : dOK prog_11_method_21_code 1 cL163 = true := dOK_app dg163_0 (dOK_app dg163_1 rfl)
theorem dg164_0 : dOK prog_11_method_20_code 1 cG164_0 = true := by decide +kernel
theorem dk164 : dOK prog_11_method_20_code 1 cL164 = true := dOK_app dg164_0 rfl
