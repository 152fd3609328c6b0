/-! TABLES: every instruction stands where the listing says (written by a program) -/
theorem dk1_0 : [cL1_0, cL1_1, cL1_2, cL1_3, cL1_4, cL1_5, cL1_6, cL1_7].all (dOK prog_1_method_1_code 2) = true := by decide +kernel
theorem dk1_1 : [cL1_8].all (dOK prog_1_method_1_code 2) = true := by decide +kernel
theorem dk1 : dOK prog_1_method_1_code 2 cL1 = true := (dOK_gr (R := cL1_8 ++ ([])) (dOK_gr (R := []) rfl dk1_1) dk1_0)
theorem dk2_0 : [cL2_0, cL2_1].all (dOK prog_3_method_1_code 1) = true := by decide +kernel
theorem dk2 : dOK prog_3_method_1_code 1 cL2 = true := (dOK_gr (R := []) rfl dk2_0)
theorem dk3_0 : [cL3_0, cL3_1, cL3_2].all (dOK prog_7_method_1_code 1) = true := by decide +kernel
theorem dk3 : dOK prog_7_method_1_code 1 cL3 = true := (dOK_gr (R := []) rfl dk3_0)
theorem dk4_0 : [cL4_0, cL4_1, cL4_2, cL4_3, cL4_4].all (dOK prog_8_method_1_code 2) = true := by decide +kernel
theorem dk4 : dOK prog_8_method_1_code 2 cL4 = true := (dOK_gr (R := []) rfl dk4_0)
theorem dk5_0 : [cL5_0].all (dOK prog_9_method_1_code 1) = true := by decide +kernel
theorem dk5 : dOK prog_9_method_1_code 1 cL5 = true := (dOK_gr (R := []) rfl dk5_0)
theorem dk6_0 : [cL6_0].all (dOK prog_2_method_1_code 1) = true := by decide +kernel
theorem dk6 : dOK prog_2_method_1_code 1 cL6 = true := (dOK_gr (R := []) rfl dk6_0)
theorem dk7_0 : [cL7_0].all (dOK prog_6_method_1_code 1) = true := by decide +kernel
theorem dk7 : dOK prog_6_method_1_code 1 cL7 = true := (dOK_gr (R := []) rfl dk7_0)
theorem dk8_0 : [cL8_0, cL8_1].all (dOK prog_4_method_1_code 1) = true := by decide +kernel
theorem dk8 : dOK prog_4_method_1_code 1 cL8 = true := (dOK_gr (R := []) rfl dk8_0)
theorem dk9_0 : [cL9_0, cL9_1].all (dOK prog_5_method_1_code 1) = true := by decide +kernel
theorem dk9 : dOK prog_5_method_1_code 1 cL9 = true := (dOK_gr (R := []) rfl dk9_0)
theorem dk10_0 : [cL10_0, cL10_1, cL10_2].all (dOK prog_1_method_2_code 2) = true := by decide +kernel
theorem dk10 : dOK prog_1_method_2_code 2 cL10 = true := (dOK_gr (R := []) rfl dk10_0)
theorem dk11_0 : [cL11_0, cL11_1, cL11_2].all (dOK prog_6_method_2_code 2) = true := by decide +kernel
theorem dk11 : dOK prog_6_method_2_code 2 cL11 = true := (dOK_gr (R := []) rfl dk11_0)
theorem dk12_0 : [cL12_0, cL12_1, cL12_2].all (dOK prog_1_method_3_code 3) = true := by decide +kernel
theorem dk12 : dOK prog_1_method_3_code 3 cL12 = true := (dOK_gr (R := []) rfl dk12_0)
theorem dk13_0 : [cL13_0, cL13_1, cL13_2, cL13_3, cL13_4].all (dOK prog_1_method_4_code 3) = true := by decide +kernel
theorem dk13 : dOK prog_1_method_4_code 3 cL13 = true := (dOK_gr (R := []) rfl dk13_0)
theorem dk14_0 : [cL14_0, cL14_1, cL14_2, cL14_3, cL14_4, cL14_5, cL14_6, cL14_7].all (dOK prog_3_method_2_code 2) = true := by decide +kernel
theorem dk14 : dOK prog_3_method_2_code 2 cL14 = true := (dOK_gr (R := []) rfl dk14_0)
theorem dk15_0 : [cL15_0, cL15_1].all (dOK prog_7_method_3_code 1) = true := by decide +kernel
theorem dk15 : dOK prog_7_method_3_code 1 cL15 = true := (dOK_gr (R := []) rfl dk15_0)
theorem dk16_0 : [cL16_0, cL16_1, cL16_2].all (dOK prog_8_method_3_code 2) = true := by decide +kernel
theorem dk16 : dOK prog_8_method_3_code 2 cL16 = true := (dOK_gr (R := []) rfl dk16_0)
theorem dk17_0 : [cL17_0].all (dOK prog_2_method_3_code 1) = true := by decide +kernel
theorem dk17 : dOK prog_2_method_3_code 1 cL17 = true := (dOK_gr (R := []) rfl dk17_0)
theorem dk18_0 : [cL18_0].all (dOK prog_6_method_3_code 1) = true := by decide +kernel
theorem dk18 : dOK prog_6_method_3_code 1 cL18 = true := (dOK_gr (R := []) rfl dk18_0)
theorem dk19_0 : [cL19_0, cL19_1, cL19_2, cL19_3, cL19_4, cL19_5, cL19_6, cL19_7].all (dOK prog_6_method_4_code 1) = true := by decide +kernel
theorem dk19_1 : [cL19_8].all (dOK prog_6_method_4_code 1) = true := by decide +kernel
theorem dk19 : dOK prog_6_method_4_code 1 cL19 = true := (dOK_gr (R := cL19_8 ++ ([])) (dOK_gr (R := []) rfl dk19_1) dk19_0)
theorem dk20_0 : [cL20_0, cL20_1, cL20_2, cL20_3, cL20_4].all (dOK prog_6_method_5_code 3) = true := by decide +kernel
theorem dk20 : dOK prog_6_method_5_code 3 cL20 = true := (dOK_gr (R := []) rfl dk20_0)
theorem dk21_0 : [cL21_0, cL21_1, cL21_2, cL21_3, cL21_4].all (dOK prog_6_method_6_code 2) = true := by decide +kernel
theorem dk21 : dOK prog_6_method_6_code 2 cL21 = true := (dOK_gr (R := []) rfl dk21_0)
theorem dk22_0 : [cL22_0, cL22_1, cL22_2, cL22_3, cL22_4].all (dOK prog_3_method_3_code 1) = true := by decide +kernel
theorem dk22 : dOK prog_3_method_3_code 1 cL22 = true := (dOK_gr (R := []) rfl dk22_0)
theorem dk23_0 : [cL23_0, cL23_1, cL23_2].all (dOK prog_3_method_11_code 2) = true := by decide +kernel
theorem dk23 : dOK prog_3_method_11_code 2 cL23 = true := (dOK_gr (R := []) rfl dk23_0)
theorem dk24_0 : [cL24_0, cL24_1].all (dOK prog_3_method_12_code 2) = true := by decide +kernel
theorem dk24 : dOK prog_3_method_12_code 2 cL24 = true := (dOK_gr (R := []) rfl dk24_0)
theorem dk25_0 : [cL25_0, cL25_1, cL25_2, cL25_3, cL25_4].all (dOK prog_6_method_7_code 3) = true := by decide +kernel
theorem dk25 : dOK prog_6_method_7_code 3 cL25 = true := (dOK_gr (R := []) rfl dk25_0)
theorem dk26_0 : [cL26_0].all (dOK prog_14_method_54_code 1) = true := by decide +kernel
theorem dk26 : dOK prog_14_method_54_code 1 cL26 = true := (dOK_gr (R := []) rfl dk26_0)
theorem dk27_0 : [cL27_0].all (dOK prog_14_method_152_code 1) = true := by decide +kernel
theorem dk27 : dOK prog_14_method_152_code 1 cL27 = true := (dOK_gr (R := []) rfl dk27_0)
theorem dk28_0 : [cL28_0, cL28_1].all (dOK prog_14_method_56_code 2) = true := by decide +kernel
theorem dk28 : dOK prog_14_method_56_code 2 cL28 = true := (dOK_gr (R := []) rfl dk28_0)
theorem dk29_0 : [cL29_0, cL29_1].all (dOK prog_14_method_154_code 1) = true := by decide +kernel
theorem dk29 : dOK prog_14_method_154_code 1 cL29 = true := (dOK_gr (R := []) rfl dk29_0)
theorem dk30_0 : [cL30_0].all (dOK prog_15_method_2_code 2) = true := by decide +kernel
theorem dk30 : dOK prog_15_method_2_code 2 cL30 = true := (dOK_gr (R := []) rfl dk30_0)
theorem dk31_0 : [cL31_0].all (dOK prog_14_method_155_code 2) = true := by decide +kernel
theorem dk31 : dOK prog_14_method_155_code 2 cL31 = true := (dOK_gr (R := []) rfl dk31_0)
theorem dk32_0 : [cL32_0, cL32_1].all (dOK prog_17_method_11_code 3) = true := by decide +kernel
theorem dk32 : dOK prog_17_method_11_code 3 cL32 = true := (dOK_gr (R := []) rfl dk32_0)
theorem dk33_0 : [cL33_0, cL33_1, cL33_2, cL33_3, cL33_4, cL33_5, cL33_6, cL33_7].all (dOK prog_3_method_6_code 3) = true := by decide +kernel
theorem dk33_1 : [cL33_8].all (dOK prog_3_method_6_code 3) = true := by decide +kernel
theorem dk33 : dOK prog_3_method_6_code 3 cL33 = true := (dOK_gr (R := cL33_8 ++ ([])) (dOK_gr (R := []) rfl dk33_1) dk33_0)
theorem dk34_0 : [cL34_0, cL34_1].all (dOK prog_3_method_10_code 2) = true := by decide +kernel
theorem dk34 : dOK prog_3_method_10_code 2 cL34 = true := (dOK_gr (R := []) rfl dk34_0)
theorem dk35_0 : [cL35_0, cL35_1, cL35_2].all (dOK prog_2_method_11_code 2) = true := by decide +kernel
theorem dk35 : dOK prog_2_method_11_code 2 cL35 = true := (dOK_gr (R := []) rfl dk35_0)
theorem dk36_0 : [cL36_0].all (dOK prog_3_method_9_code 1) = true := by decide +kernel
theorem dk36 : dOK prog_3_method_9_code 1 cL36 = true := (dOK_gr (R := []) rfl dk36_0)
theorem dk37_0 : [cL37_0, cL37_1, cL37_2, cL37_3, cL37_4, cL37_5].all (dOK prog_3_method_7_code 2) = true := by decide +kernel
theorem dk37 : dOK prog_3_method_7_code 2 cL37 = true := (dOK_gr (R := []) rfl dk37_0)
theorem dk38_0 : [cL38_0, cL38_1].all (dOK prog_2_method_7_code 2) = true := by decide +kernel
theorem dk38 : dOK prog_2_method_7_code 2 cL38 = true := (dOK_gr (R := []) rfl dk38_0)
theorem dk39_0 : [cL39_0, cL39_1].all (dOK prog_2_method_8_code 4) = true := by decide +kernel
theorem dk39 : dOK prog_2_method_8_code 4 cL39 = true := (dOK_gr (R := []) rfl dk39_0)
theorem dk40_0 : [cL40_0, cL40_1, cL40_2, cL40_3, cL40_4, cL40_5, cL40_6].all (dOK prog_3_method_8_code 2) = true := by decide +kernel
theorem dk40 : dOK prog_3_method_8_code 2 cL40 = true := (dOK_gr (R := []) rfl dk40_0)
theorem dk41_0 : [cL41_0, cL41_1, cL41_2].all (dOK prog_1_method_43_code 2) = true := by decide +kernel
theorem dk41 : dOK prog_1_method_43_code 2 cL41 = true := (dOK_gr (R := []) rfl dk41_0)
theorem dk42_0 : [cL42_0, cL42_1].all (dOK prog_1_method_42_code 1) = true := by decide +kernel
theorem dk42 : dOK prog_1_method_42_code 1 cL42 = true := (dOK_gr (R := []) rfl dk42_0)
theorem dk43_0 : [cL43_0, cL43_1, cL43_2].all (dOK prog_7_method_4_code 2) = true := by decide +kernel
theorem dk43 : dOK prog_7_method_4_code 2 cL43 = true := (dOK_gr (R := []) rfl dk43_0)
theorem dk44_0 : [cL44_0, cL44_1, cL44_2, cL44_3].all (dOK prog_3_method_4_code 1) = true := by decide +kernel
theorem dk44 : dOK prog_3_method_4_code 1 cL44 = true := (dOK_gr (R := []) rfl dk44_0)
theorem dk45_0 : [cL45_0, cL45_1, cL45_2, cL45_3, cL45_4, cL45_5, cL45_6].all (dOK prog_3_method_5_code 3) = true := by decide +kernel
theorem dk45 : dOK prog_3_method_5_code 3 cL45 = true := (dOK_gr (R := []) rfl dk45_0)
theorem dk46_0 : [cL46_0, cL46_1, cL46_2, cL46_3].all (dOK prog_8_method_8_code 5) = true := by decide +kernel
theorem dk46 : dOK prog_8_method_8_code 5 cL46 = true := (dOK_gr (R := []) rfl dk46_0)
theorem dk47_0 : [cL47_0, cL47_1, cL47_2, cL47_3, cL47_4].all (dOK prog_7_method_8_code 2) = true := by decide +kernel
theorem dk47 : dOK prog_7_method_8_code 2 cL47 = true := (dOK_gr (R := []) rfl dk47_0)
theorem dk48_0 : [cL48_0, cL48_1, cL48_2].all (dOK prog_8_method_7_code 2) = true := by decide +kernel
theorem dk48 : dOK prog_8_method_7_code 2 cL48 = true := (dOK_gr (R := []) rfl dk48_0)
theorem dk49_0 : [cL49_0, cL49_1].all (dOK prog_8_method_4_code 2) = true := by decide +kernel
theorem dk49 : dOK prog_8_method_4_code 2 cL49 = true := (dOK_gr (R := []) rfl dk49_0)
theorem dk50_0 : [cL50_0, cL50_1].all (dOK prog_8_method_5_code 2) = true := by decide +kernel
theorem dk50 : dOK prog_8_method_5_code 2 cL50 = true := (dOK_gr (R := []) rfl dk50_0)
theorem dk51_0 : [cL51_0, cL51_1, cL51_2, cL51_3, cL51_4, cL51_5, cL51_6].all (dOK prog_7_method_2_code 3) = true := by decide +kernel
theorem dk51 : dOK prog_7_method_2_code 3 cL51 = true := (dOK_gr (R := []) rfl dk51_0)
theorem dk52_0 : [cL52_0, cL52_1, cL52_2, cL52_3, cL52_4, cL52_5].all (dOK prog_8_method_2_code 3) = true := by decide +kernel
theorem dk52 : dOK prog_8_method_2_code 3 cL52 = true := (dOK_gr (R := []) rfl dk52_0)
theorem dk53_0 : [cL53_0, cL53_1, cL53_2].all (dOK prog_9_method_2_code 2) = true := by decide +kernel
theorem dk53 : dOK prog_9_method_2_code 2 cL53 = true := (dOK_gr (R := []) rfl dk53_0)
theorem dk54_0 : [cL54_0, cL54_1, cL54_2, cL54_3].all (dOK prog_2_method_2_code 3) = true := by decide +kernel
theorem dk54 : dOK prog_2_method_2_code 3 cL54 = true := (dOK_gr (R := []) rfl dk54_0)
theorem dk55_0 : [cL55_0].all (dOK prog_1_method_5_code 1) = true := by decide +kernel
theorem dk55 : dOK prog_1_method_5_code 1 cL55 = true := (dOK_gr (R := []) rfl dk55_0)
theorem dk56_0 : [cL56_0, cL56_1, cL56_2, cL56_3, cL56_4, cL56_5, cL56_6].all (dOK prog_1_method_6_code 2) = true := by decide +kernel
theorem dk56 : dOK prog_1_method_6_code 2 cL56 = true := (dOK_gr (R := []) rfl dk56_0)
theorem dk57_0 : [cL57_0, cL57_1, cL57_2].all (dOK prog_8_method_18_code 3) = true := by decide +kernel
theorem dk57 : dOK prog_8_method_18_code 3 cL57 = true := (dOK_gr (R := []) rfl dk57_0)
theorem dk58_0 : [cL58_0, cL58_1, cL58_2].all (dOK prog_8_method_19_code 3) = true := by decide +kernel
theorem dk58 : dOK prog_8_method_19_code 3 cL58 = true := (dOK_gr (R := []) rfl dk58_0)
theorem dk59_0 : [cL59_0, cL59_1].all (dOK prog_2_method_6_code 2) = true := by decide +kernel
theorem dk59 : dOK prog_2_method_6_code 2 cL59 = true := (dOK_gr (R := []) rfl dk59_0)
theorem dk60_0 : [cL60_0, cL60_1, cL60_2].all (dOK prog_2_method_5_code 1) = true := by decide +kernel
theorem dk60 : dOK prog_2_method_5_code 1 cL60 = true := (dOK_gr (R := []) rfl dk60_0)
theorem dk61_0 : [cL61_0, cL61_1].all (dOK prog_8_method_16_code 3) = true := by decide +kernel
theorem dk61 : dOK prog_8_method_16_code 3 cL61 = true := (dOK_gr (R := []) rfl dk61_0)
theorem dk62_0 : [cL62_0, cL62_1, cL62_2, cL62_3, cL62_4, cL62_5, cL62_6].all (dOK prog_1_method_7_code 4) = true := by decide +kernel
theorem dk62 : dOK prog_1_method_7_code 4 cL62 = true := (dOK_gr (R := []) rfl dk62_0)
theorem dk63_0 : [cL63_0, cL63_1, cL63_2, cL63_3].all (dOK prog_8_method_10_code 2) = true := by decide +kernel
theorem dk63 : dOK prog_8_method_10_code 2 cL63 = true := (dOK_gr (R := []) rfl dk63_0)
theorem dk64_0 : [cL64_0, cL64_1, cL64_2, cL64_3, cL64_4, cL64_5, cL64_6].all (dOK prog_1_method_8_code 4) = true := by decide +kernel
theorem dk64 : dOK prog_1_method_8_code 4 cL64 = true := (dOK_gr (R := []) rfl dk64_0)
theorem dk65_0 : [cL65_0, cL65_1].all (dOK prog_2_method_4_code 2) = true := by decide +kernel
theorem dk65 : dOK prog_2_method_4_code 2 cL65 = true := (dOK_gr (R := []) rfl dk65_0)
theorem dk66_0 : [cL66_0, cL66_1].all (dOK prog_1_method_9_code 2) = true := by decide +kernel
theorem dk66 : dOK prog_1_method_9_code 2 cL66 = true := (dOK_gr (R := []) rfl dk66_0)
theorem dk67_0 : [cL67_0].all (dOK prog_1_method_10_code 3) = true := by decide +kernel
theorem dk67 : dOK prog_1_method_10_code 3 cL67 = true := (dOK_gr (R := []) rfl dk67_0)
theorem dk68_0 : [cL68_0, cL68_1, cL68_2, cL68_3, cL68_4].all (dOK prog_8_method_11_code 4) = true := by decide +kernel
theorem dk68 : dOK prog_8_method_11_code 4 cL68 = true := (dOK_gr (R := []) rfl dk68_0)
theorem dk69_0 : [cL69_0].all (dOK prog_1_method_11_code 3) = true := by decide +kernel
theorem dk69 : dOK prog_1_method_11_code 3 cL69 = true := (dOK_gr (R := []) rfl dk69_0)
theorem dk70_0 : [cL70_0, cL70_1, cL70_2, cL70_3, cL70_4, cL70_5, cL70_6, cL70_7].all (dOK prog_8_method_12_code 6) = true := by decide +kernel
theorem dk70 : dOK prog_8_method_12_code 6 cL70 = true := (dOK_gr (R := []) rfl dk70_0)
theorem dk71_0 : [cL71_0, cL71_1].all (dOK prog_2_method_10_code 1) = true := by decide +kernel
theorem dk71 : dOK prog_2_method_10_code 1 cL71 = true := (dOK_gr (R := []) rfl dk71_0)
theorem dk72_0 : [cL72_0, cL72_1].all (dOK prog_9_method_3_code 2) = true := by decide +kernel
theorem dk72 : dOK prog_9_method_3_code 2 cL72 = true := (dOK_gr (R := []) rfl dk72_0)
theorem dk73_0 : [cL73_0].all (dOK prog_1_method_39_code 1) = true := by decide +kernel
theorem dk73 : dOK prog_1_method_39_code 1 cL73 = true := (dOK_gr (R := []) rfl dk73_0)
theorem dk74_0 : [cL74_0, cL74_1, cL74_2, cL74_3].all (dOK prog_2_method_13_code 3) = true := by decide +kernel
theorem dk74 : dOK prog_2_method_13_code 3 cL74 = true := (dOK_gr (R := []) rfl dk74_0)
theorem dk75_0 : [cL75_0, cL75_1, cL75_2].all (dOK prog_1_method_12_code 2) = true := by decide +kernel
theorem dk75 : dOK prog_1_method_12_code 2 cL75 = true := (dOK_gr (R := []) rfl dk75_0)
theorem dk76_0 : [cL76_0, cL76_1, cL76_2, cL76_3, cL76_4].all (dOK prog_8_method_13_code 3) = true := by decide +kernel
theorem dk76 : dOK prog_8_method_13_code 3 cL76 = true := (dOK_gr (R := []) rfl dk76_0)
theorem dk77_0 : [cL77_0, cL77_1, cL77_2, cL77_3].all (dOK prog_2_method_14_code 3) = true := by decide +kernel
theorem dk77 : dOK prog_2_method_14_code 3 cL77 = true := (dOK_gr (R := []) rfl dk77_0)
theorem dk78_0 : [cL78_0, cL78_1].all (dOK prog_2_method_12_code 1) = true := by decide +kernel
theorem dk78 : dOK prog_2_method_12_code 1 cL78 = true := (dOK_gr (R := []) rfl dk78_0)
theorem dk79_0 : [cL79_0, cL79_1].all (dOK prog_2_method_15_code 2) = true := by decide +kernel
theorem dk79 : dOK prog_2_method_15_code 2 cL79 = true := (dOK_gr (R := []) rfl dk79_0)
theorem dk80_0 : [cL80_0, cL80_1].all (dOK prog_8_method_17_code 3) = true := by decide +kernel
theorem dk80 : dOK prog_8_method_17_code 3 cL80 = true := (dOK_gr (R := []) rfl dk80_0)
theorem dk81_0 : [cL81_0, cL81_1, cL81_2, cL81_3].all (dOK prog_1_method_13_code 3) = true := by decide +kernel
theorem dk81 : dOK prog_1_method_13_code 3 cL81 = true := (dOK_gr (R := []) rfl dk81_0)
theorem dk82_0 : [cL82_0, cL82_1, cL82_2, cL82_3, cL82_4, cL82_5, cL82_6, cL82_7].all (dOK prog_1_method_14_code 6) = true := by decide +kernel
theorem dk82_1 : [cL82_8].all (dOK prog_1_method_14_code 6) = true := by decide +kernel
theorem dk82 : dOK prog_1_method_14_code 6 cL82 = true := (dOK_gr (R := cL82_8 ++ ([])) (dOK_gr (R := []) rfl dk82_1) dk82_0)
theorem dk83_0 : [cL83_0, cL83_1, cL83_2, cL83_3].all (dOK prog_1_method_15_code 4) = true := by decide +kernel
theorem dk83 : dOK prog_1_method_15_code 4 cL83 = true := (dOK_gr (R := []) rfl dk83_0)
theorem dk84_0 : [cL84_0, cL84_1, cL84_2].all (dOK prog_1_method_16_code 2) = true := by decide +kernel
theorem dk84 : dOK prog_1_method_16_code 2 cL84 = true := (dOK_gr (R := []) rfl dk84_0)
theorem dk85_0 : [cL85_0, cL85_1, cL85_2].all (dOK prog_1_method_17_code 3) = true := by decide +kernel
theorem dk85 : dOK prog_1_method_17_code 3 cL85 = true := (dOK_gr (R := []) rfl dk85_0)
theorem dk86_0 : [cL86_0, cL86_1, cL86_2, cL86_3, cL86_4].all (dOK prog_1_method_18_code 3) = true := by decide +kernel
theorem dk86 : dOK prog_1_method_18_code 3 cL86 = true := (dOK_gr (R := []) rfl dk86_0)
theorem dk87_0 : [cL87_0, cL87_1].all (dOK prog_1_method_45_code 1) = true := by decide +kernel
theorem dk87 : dOK prog_1_method_45_code 1 cL87 = true := (dOK_gr (R := []) rfl dk87_0)
theorem dk88_0 : [cL88_0, cL88_1, cL88_2, cL88_3].all (dOK prog_1_method_46_code 5) = true := by decide +kernel
theorem dk88 : dOK prog_1_method_46_code 5 cL88 = true := (dOK_gr (R := []) rfl dk88_0)
theorem dk89_0 : [cL89_0, cL89_1, cL89_2].all (dOK prog_8_method_14_code 2) = true := by decide +kernel
theorem dk89 : dOK prog_8_method_14_code 2 cL89 = true := (dOK_gr (R := []) rfl dk89_0)
theorem dk90_0 : [cL90_0, cL90_1].all (dOK prog_1_method_44_code 1) = true := by decide +kernel
theorem dk90 : dOK prog_1_method_44_code 1 cL90 = true := (dOK_gr (R := []) rfl dk90_0)
theorem dk91_0 : [cL91_0, cL91_1].all (dOK prog_1_method_47_code 1) = true := by decide +kernel
theorem dk91 : dOK prog_1_method_47_code 1 cL91 = true := (dOK_gr (R := []) rfl dk91_0)
theorem dk92_0 : [cL92_0, cL92_1, cL92_2].all (dOK prog_8_method_20_code 3) = true := by decide +kernel
theorem dk92 : dOK prog_8_method_20_code 3 cL92 = true := (dOK_gr (R := []) rfl dk92_0)
theorem dk93_0 : [cL93_0, cL93_1, cL93_2].all (dOK prog_1_method_19_code 2) = true := by decide +kernel
theorem dk93 : dOK prog_1_method_19_code 2 cL93 = true := (dOK_gr (R := []) rfl dk93_0)
theorem dk94_0 : [cL94_0, cL94_1, cL94_2, cL94_3, cL94_4, cL94_5].all (dOK prog_1_method_20_code 4) = true := by decide +kernel
theorem dk94 : dOK prog_1_method_20_code 4 cL94 = true := (dOK_gr (R := []) rfl dk94_0)
theorem dk95_0 : [cL95_0, cL95_1, cL95_2, cL95_3, cL95_4, cL95_5].all (dOK prog_1_method_21_code 3) = true := by decide +kernel
theorem dk95 : dOK prog_1_method_21_code 3 cL95 = true := (dOK_gr (R := []) rfl dk95_0)
theorem dk96_0 : [cL96_0, cL96_1, cL96_2].all (dOK prog_4_method_2_code 3) = true := by decide +kernel
theorem dk96 : dOK prog_4_method_2_code 3 cL96 = true := (dOK_gr (R := []) rfl dk96_0)
theorem dk97_0 : [cL97_0, cL97_1].all (dOK prog_4_method_4_code 3) = true := by decide +kernel
theorem dk97 : dOK prog_4_method_4_code 3 cL97 = true := (dOK_gr (R := []) rfl dk97_0)
theorem dk98_0 : [cL98_0, cL98_1].all (dOK prog_8_method_6_code 1) = true := by decide +kernel
theorem dk98 : dOK prog_8_method_6_code 1 cL98 = true := (dOK_gr (R := []) rfl dk98_0)
theorem dk99_0 : [cL99_0, cL99_1, cL99_2, cL99_3].all (dOK prog_12_method_49_code 1) = true := by decide +kernel
theorem dk99 : dOK prog_12_method_49_code 1 cL99 = true := (dOK_gr (R := []) rfl dk99_0)
