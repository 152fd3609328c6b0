/-! TABLES: every instruction stands where the listing says (written by a program) -/
theorem dg1_0 : dOK prog_1_method_1_code 2 cG1_0 = true := dOK_fl (Ls := [cL1_0, cL1_1, cL1_2, cL1_3, cL1_4, cL1_5, cL1_6, cL1_7]) rfl (dGo_ok (k := 0) (m := 200) (j := 0) (by decide +kernel))
theorem dg1_1 : dOK prog_1_method_1_code 2 cG1_1 = true := dOK_fl (Ls := [cL1_8]) rfl (dGo_ok (k := 128) (m := 200) (j := 0) (by decide +kernel))
theorem dk1 : dOK prog_1_method_1_code 2 cL1 = true := dOK_app dg1_0 (dOK_app dg1_1 rfl)
theorem dg2_0 : dOK prog_3_method_1_code 1 cG2_0 = true := by decide +kernel
theorem dk2 : dOK prog_3_method_1_code 1 cL2 = true := dOK_app dg2_0 rfl
theorem dg3_0 : dOK prog_7_method_1_code 1 cG3_0 = true := by decide +kernel
theorem dk3 : dOK prog_7_method_1_code 1 cL3 = true := dOK_app dg3_0 rfl
theorem dg4_0 : dOK prog_8_method_1_code 2 cG4_0 = true := dOK_fl (Ls := [cL4_0, cL4_1, cL4_2, cL4_3, cL4_4]) rfl (dGo_ok (k := 0) (m := 200) (j := 0) (by decide +kernel))
theorem dk4 : dOK prog_8_method_1_code 2 cL4 = true := dOK_app dg4_0 rfl
theorem dg5_0 : dOK prog_9_method_1_code 1 cG5_0 = true := by decide +kernel
theorem dk5 : dOK prog_9_method_1_code 1 cL5 = true := dOK_app dg5_0 rfl
theorem dg6_0 : dOK prog_2_method_1_code 1 cG6_0 = true := by decide +kernel
theorem dk6 : dOK prog_2_method_1_code 1 cL6 = true := dOK_app dg6_0 rfl
theorem dg7_0 : dOK prog_6_method_1_code 1 cG7_0 = true := by decide +kernel
theorem dk7 : dOK prog_6_method_1_code 1 cL7 = true := dOK_app dg7_0 rfl
theorem dg8_0 : dOK prog_4_method_1_code 1 cG8_0 = true := by decide +kernel
theorem dk8 : dOK prog_4_method_1_code 1 cL8 = true := dOK_app dg8_0 rfl
theorem dg9_0 : dOK prog_5_method_1_code 1 cG9_0 = true := by decide +kernel
theorem dk9 : dOK prog_5_method_1_code 1 cL9 = true := dOK_app dg9_0 rfl
theorem dg10_0 : dOK prog_1_method_2_code 2 cG10_0 = true := by decide +kernel
theorem dk10 : dOK prog_1_method_2_code 2 cL10 = true := dOK_app dg10_0 rfl
theorem dg11_0 : dOK prog_6_method_2_code 2 cG11_0 = true := by decide +kernel
theorem dk11 : dOK prog_6_method_2_code 2 cL11 = true := dOK_app dg11_0 rfl
theorem dg12_0 : dOK prog_1_method_3_code 3 cG12_0 = true := by decide +kernel
theorem dk12 : dOK prog_1_method_3_code 3 cL12 = true := dOK_app dg12_0 rfl
theorem dg13_0 : dOK prog_1_method_4_code 3 cG13_0 = true := dOK_fl (Ls := [cL13_0, cL13_1, cL13_2, cL13_3, cL13_4]) rfl (dGo_ok (k := 0) (m := 200) (j := 0) (by decide +kernel))
theorem dk13 : dOK prog_1_method_4_code 3 cL13 = true := dOK_app dg13_0 rfl
theorem dg14_0 : dOK prog_3_method_2_code 2 cG14_0 = true := dOK_fl (Ls := [cL14_0, cL14_1, cL14_2, cL14_3, cL14_4, cL14_5, cL14_6, cL14_7]) rfl (dGo_ok (k := 0) (m := 200) (j := 0) (by decide +kernel))
theorem dk14 : dOK prog_3_method_2_code 2 cL14 = true := dOK_app dg14_0 rfl
theorem dg15_0 : dOK prog_7_method_3_code 1 cG15_0 = true := by decide +kernel
theorem dk15 : dOK prog_7_method_3_code 1 cL15 = true := dOK_app dg15_0 rfl
theorem dg16_0 : dOK prog_8_method_3_code 2 cG16_0 = true := by decide +kernel
theorem dk16 : dOK prog_8_method_3_code 2 cL16 = true := dOK_app dg16_0 rfl
theorem dg17_0 : dOK prog_2_method_3_code 1 cG17_0 = true := by decide +kernel
theorem dk17 : dOK prog_2_method_3_code 1 cL17 = true := dOK_app dg17_0 rfl
theorem dg18_0 : dOK prog_6_method_3_code 1 cG18_0 = true := by decide +kernel
theorem dk18 : dOK prog_6_method_3_code 1 cL18 = true := dOK_app dg18_0 rfl
theorem dg19_0 : dOK prog_6_method_4_code 1 cG19_0 = true := dOK_fl (Ls := [cL19_0, cL19_1, cL19_2, cL19_3, cL19_4, cL19_5, cL19_6, cL19_7]) rfl (dGo_ok (k := 0) (m := 200) (j := 0) (by decide +kernel))
theorem dg19_1 : dOK prog_6_method_4_code 1 cG19_1 = true := dOK_fl (Ls := [cL19_8]) rfl (dGo_ok (k := 128) (m := 200) (j := 0) (by decide +kernel))
theorem dk19 : dOK prog_6_method_4_code 1 cL19 = true := dOK_app dg19_0 (dOK_app dg19_1 rfl)
theorem dg20_0 : dOK prog_6_method_5_code 3 cG20_0 = true := dOK_fl (Ls := [cL20_0, cL20_1, cL20_2, cL20_3, cL20_4]) rfl (dGo_ok (k := 0) (m := 200) (j := 0) (by decide +kernel))
theorem dk20 : dOK prog_6_method_5_code 3 cL20 = true := dOK_app dg20_0 rfl
theorem dg21_0 : dOK prog_6_method_6_code 2 cG21_0 = true := dOK_fl (Ls := [cL21_0, cL21_1, cL21_2, cL21_3, cL21_4]) rfl (dGo_ok (k := 0) (m := 200) (j := 0) (by decide +kernel))
theorem dk21 : dOK prog_6_method_6_code 2 cL21 = true := dOK_app dg21_0 rfl
theorem dg22_0 : dOK prog_3_method_3_code 1 cG22_0 = true := dOK_fl (Ls := [cL22_0, cL22_1, cL22_2, cL22_3, cL22_4]) rfl (dGo_ok (k := 0) (m := 200) (j := 0) (by decide +kernel))
theorem dk22 : dOK prog_3_method_3_code 1 cL22 = true := dOK_app dg22_0 rfl
theorem dg23_0 : dOK prog_3_method_11_code 2 cG23_0 = true := by decide +kernel
theorem dk23 : dOK prog_3_method_11_code 2 cL23 = true := dOK_app dg23_0 rfl
theorem dg24_0 : dOK prog_3_method_12_code 2 cG24_0 = true := by decide +kernel
theorem dk24 : dOK prog_3_method_12_code 2 cL24 = true := dOK_app dg24_0 rfl
theorem dg25_0 : dOK prog_6_method_7_code 3 cG25_0 = true := dOK_fl (Ls := [cL25_0, cL25_1, cL25_2, cL25_3, cL25_4]) rfl (dGo_ok (k := 0) (m := 200) (j := 0) (by decide +kernel))
theorem dk25 : dOK prog_6_method_7_code 3 cL25 = true := dOK_app dg25_0 rfl
theorem dg26_0 : dOK prog_14_method_54_code 1 cG26_0 = true := by decide +kernel
theorem dk26 : dOK prog_14_method_54_code 1 cL26 = true := dOK_app dg26_0 rfl
theorem dg27_0 : dOK prog_14_method_152_code 1 cG27_0 = true := by decide +kernel
theorem dk27 : dOK prog_14_method_152_code 1 cL27 = true := dOK_app dg27_0 rfl
theorem dg28_0 : dOK prog_14_method_56_code 2 cG28_0 = true := by decide +kernel
theorem dk28 : dOK prog_14_method_56_code 2 cL28 = true := dOK_app dg28_0 rfl
theorem dg29_0 : dOK prog_14_method_154_code 1 cG29_0 = true := by decide +kernel
theorem dk29 : dOK prog_14_method_154_code 1 cL29 = true := dOK_app dg29_0 rfl
theorem dg30_0 : dOK prog_15_method_2_code 2 cG30_0 = true := by decide +kernel
theorem dk30 : dOK prog_15_method_2_code 2 cL30 = true := dOK_app dg30_0 rfl
theorem dg31_0 : dOK prog_14_method_155_code 2 cG31_0 = true := by decide +kernel
theorem dk31 : dOK prog_14_method_155_code 2 cL31 = true := dOK_app dg31_0 rfl
theorem dg32_0 : dOK prog_17_method_11_code 3 cG32_0 = true := by decide +kernel
theorem dk32 : dOK prog_17_method_11_code 3 cL32 = true := dOK_app dg32_0 rfl
theorem dg33_0 : dOK prog_3_method_6_code 3 cG33_0 = true := dOK_fl (Ls := [cL33_0, cL33_1, cL33_2, cL33_3, cL33_4, cL33_5, cL33_6, cL33_7]) rfl (dGo_ok (k := 0) (m := 200) (j := 0) (by decide +kernel))
theorem dg33_1 : dOK prog_3_method_6_code 3 cG33_1 = true := dOK_fl (Ls := [cL33_8]) rfl (dGo_ok (k := 128) (m := 200) (j := 0) (by decide +kernel))
theorem dk33 : dOK prog_3_method_6_code 3 cL33 = true := dOK_app dg33_0 (dOK_app dg33_1 rfl)
theorem dg34_0 : dOK prog_3_method_10_code 2 cG34_0 = true := by decide +kernel
theorem dk34 : dOK prog_3_method_10_code 2 cL34 = true := dOK_app dg34_0 rfl
theorem dg35_0 : dOK prog_2_method_11_code 2 cG35_0 = true := by decide +kernel
theorem dk35 : dOK prog_2_method_11_code 2 cL35 = true := dOK_app dg35_0 rfl
theorem dg36_0 : dOK prog_3_method_9_code 1 cG36_0 = true := by decide +kernel
theorem dk36 : dOK prog_3_method_9_code 1 cL36 = true := dOK_app dg36_0 rfl
theorem dg37_0 : dOK prog_3_method_7_code 2 cG37_0 = true := dOK_fl (Ls := [cL37_0, cL37_1, cL37_2, cL37_3, cL37_4, cL37_5]) rfl (dGo_ok (k := 0) (m := 200) (j := 0) (by decide +kernel))
theorem dk37 : dOK prog_3_method_7_code 2 cL37 = true := dOK_app dg37_0 rfl
theorem dg38_0 : dOK prog_2_method_7_code 2 cG38_0 = true := by decide +kernel
theorem dk38 : dOK prog_2_method_7_code 2 cL38 = true := dOK_app dg38_0 rfl
theorem dg39_0 : dOK prog_2_method_8_code 4 cG39_0 = true := by decide +kernel
theorem dk39 : dOK prog_2_method_8_code 4 cL39 = true := dOK_app dg39_0 rfl
theorem dg40_0 : dOK prog_3_method_8_code 2 cG40_0 = true := dOK_fl (Ls := [cL40_0, cL40_1, cL40_2, cL40_3, cL40_4, cL40_5, cL40_6]) rfl (dGo_ok (k := 0) (m := 200) (j := 0) (by decide +kernel))
theorem dk40 : dOK prog_3_method_8_code 2 cL40 = true := dOK_app dg40_0 rfl
theorem dg41_0 : dOK prog_1_method_43_code 2 cG41_0 = true := by decide +kernel
theorem dk41 : dOK prog_1_method_43_code 2 cL41 = true := dOK_app dg41_0 rfl
theorem dg42_0 : dOK prog_1_method_42_code 1 cG42_0 = true := by decide +kernel
theorem dk42 : dOK prog_1_method_42_code 1 cL42 = true := dOK_app dg42_0 rfl
theorem dg43_0 : dOK prog_7_method_4_code 2 cG43_0 = true := by decide +kernel
theorem dk43 : dOK prog_7_method_4_code 2 cL43 = true := dOK_app dg43_0 rfl
theorem dg44_0 : dOK prog_3_method_4_code 1 cG44_0 = true := dOK_fl (Ls := [cL44_0, cL44_1, cL44_2, cL44_3]) rfl (dGo_ok (k := 0) (m := 200) (j := 0) (by decide +kernel))
theorem dk44 : dOK prog_3_method_4_code 1 cL44 = true := dOK_app dg44_0 rfl
theorem dg45_0 : dOK prog_3_method_5_code 3 cG45_0 = true := dOK_fl (Ls := [cL45_0, cL45_1, cL45_2, cL45_3, cL45_4, cL45_5, cL45_6]) rfl (dGo_ok (k := 0) (m := 200) (j := 0) (by decide +kernel))
theorem dk45 : dOK prog_3_method_5_code 3 cL45 = true := dOK_app dg45_0 rfl
theorem dg46_0 : dOK prog_8_method_8_code 5 cG46_0 = true := by decide +kernel
theorem dk46 : dOK prog_8_method_8_code 5 cL46 = true := dOK_app dg46_0 rfl
theorem dg47_0 : dOK prog_7_method_8_code 2 cG47_0 = true := dOK_fl (Ls := [cL47_0, cL47_1, cL47_2, cL47_3, cL47_4]) rfl (dGo_ok (k := 0) (m := 200) (j := 0) (by decide +kernel))
theorem dk47 : dOK prog_7_method_8_code 2 cL47 = true := dOK_app dg47_0 rfl
theorem dg48_0 : dOK prog_8_method_7_code 2 cG48_0 = true := by decide +kernel
theorem dk48 : dOK prog_8_method_7_code 2 cL48 = true := dOK_app dg48_0 rfl
theorem dg49_0 : dOK prog_8_method_4_code 2 cG49_0 = true := by decide +kernel
theorem dk49 : dOK prog_8_method_4_code 2 cL49 = true := dOK_app dg49_0 rfl
theorem dg50_0 : dOK prog_8_method_5_code 2 cG50_0 = true := by decide +kernel
theorem dk50 : dOK prog_8_method_5_code 2 cL50 = true := dOK_app dg50_0 rfl
theorem dg51_0 : dOK prog_7_method_2_code 3 cG51_0 = true := dOK_fl (Ls := [cL51_0, cL51_1, cL51_2, cL51_3, cL51_4, cL51_5, cL51_6]) rfl (dGo_ok (k := 0) (m := 200) (j := 0) (by decide +kernel))
theorem dk51 : dOK prog_7_method_2_code 3 cL51 = true := dOK_app dg51_0 rfl
theorem dg52_0 : dOK prog_8_method_2_code 3 cG52_0 = true := dOK_fl (Ls := [cL52_0, cL52_1, cL52_2, cL52_3, cL52_4, cL52_5]) rfl (dGo_ok (k := 0) (m := 200) (j := 0) (by decide +kernel))
theorem dk52 : dOK prog_8_method_2_code 3 cL52 = true := dOK_app dg52_0 rfl
theorem dg53_0 : dOK prog_9_method_2_code 2 cG53_0 = true := by decide +kernel
theorem dk53 : dOK prog_9_method_2_code 2 cL53 = true := dOK_app dg53_0 rfl
theorem dg54_0 : dOK prog_2_method_2_code 3 cG54_0 = true := by decide +kernel
theorem dk54 : dOK prog_2_method_2_code 3 cL54 = true := dOK_app dg54_0 rfl
theorem dg55_0 : dOK prog_1_method_5_code 1 cG55_0 = true := by decide +kernel
theorem dk55 : dOK prog_1_method_5_code 1 cL55 = true := dOK_app dg55_0 rfl
theorem dg56_0 : dOK prog_1_method_6_code 2 cG56_0 = true := dOK_fl (Ls := [cL56_0, cL56_1, cL56_2, cL56_3, cL56_4, cL56_5, cL56_6]) rfl (dGo_ok (k := 0) (m := 200) (j := 0) (by decide +kernel))
theorem dk56 : dOK prog_1_method_6_code 2 cL56 = true := dOK_app dg56_0 rfl
theorem dg57_0 : dOK prog_8_method_18_code 3 cG57_0 = true := by decide +kernel
theorem dk57 : dOK prog_8_method_18_code 3 cL57 = true := dOK_app dg57_0 rfl
theorem dg58_0 : dOK prog_8_method_19_code 3 cG58_0 = true := by decide +kernel
theorem dk58 : dOK prog_8_method_19_code 3 cL58 = true := dOK_app dg58_0 rfl
theorem dg59_0 : dOK prog_2_method_6_code 2 cG59_0 = true := by decide +kernel
theorem dk59 : dOK prog_2_method_6_code 2 cL59 = true := dOK_app dg59_0 rfl
theorem dg60_0 : dOK prog_2_method_5_code 1 cG60_0 = true := by decide +kernel
theorem dk60 : dOK prog_2_method_5_code 1 cL60 = true := dOK_app dg60_0 rfl
theorem dg61_0 : dOK prog_8_method_16_code 3 cG61_0 = true := by decide +kernel
theorem dk61 : dOK prog_8_method_16_code 3 cL61 = true := dOK_app dg61_0 rfl
theorem dg62_0 : dOK prog_1_method_7_code 4 cG62_0 = true := dOK_fl (Ls := [cL62_0, cL62_1, cL62_2, cL62_3, cL62_4, cL62_5, cL62_6]) rfl (dGo_ok (k := 0) (m := 200) (j := 0) (by decide +kernel))
theorem dk62 : dOK prog_1_method_7_code 4 cL62 = true := dOK_app dg62_0 rfl
theorem dg63_0 : dOK prog_8_method_10_code 2 cG63_0 = true := by decide +kernel
theorem dk63 : dOK prog_8_method_10_code 2 cL63 = true := dOK_app dg63_0 rfl
theorem dg64_0 : dOK prog_1_method_8_code 4 cG64_0 = true := dOK_fl (Ls := [cL64_0, cL64_1, cL64_2, cL64_3, cL64_4, cL64_5, cL64_6]) rfl (dGo_ok (k := 0) (m := 200) (j := 0) (by decide +kernel))
theorem dk64 : dOK prog_1_method_8_code 4 cL64 = true := dOK_app dg64_0 rfl
theorem dg65_0 : dOK prog_2_method_4_code 2 cG65_0 = true := by decide +kernel
theorem dk65 : dOK prog_2_method_4_code 2 cL65 = true := dOK_app dg65_0 rfl
theorem dg66_0 : dOK prog_1_method_9_code 2 cG66_0 = true := by decide +kernel
theorem dk66 : dOK prog_1_method_9_code 2 cL66 = true := dOK_app dg66_0 rfl
theorem dg67_0 : dOK prog_1_method_10_code 3 cG67_0 = true := by decide +kernel
theorem dk67 : dOK prog_1_method_10_code 3 cL67 = true := dOK_app dg67_0 rfl
theorem dg68_0 : dOK prog_8_method_11_code 4 cG68_0 = true := dOK_fl (Ls := [cL68_0, cL68_1, cL68_2, cL68_3, cL68_4]) rfl (dGo_ok (k := 0) (m := 200) (j := 0) (by decide +kernel))
theorem dk68 : dOK prog_8_method_11_code 4 cL68 = true := dOK_app dg68_0 rfl
theorem dg69_0 : dOK prog_1_method_11_code 3 cG69_0 = true := by decide +kernel
theorem dk69 : dOK prog_1_method_11_code 3 cL69 = true := dOK_app dg69_0 rfl
theorem dg70_0 : dOK prog_8_method_12_code 6 cG70_0 = true := dOK_fl (Ls := [cL70_0, cL70_1, cL70_2, cL70_3, cL70_4, cL70_5, cL70_6, cL70_7]) rfl (dGo_ok (k := 0) (m := 200) (j := 0) (by decide +kernel))
theorem dk70 : dOK prog_8_method_12_code 6 cL70 = true := dOK_app dg70_0 rfl
theorem dg71_0 : dOK prog_2_method_10_code 1 cG71_0 = true := by decide +kernel
theorem dk71 : dOK prog_2_method_10_code 1 cL71 = true := dOK_app dg71_0 rfl
theorem dg72_0 : dOK prog_9_method_3_code 2 cG72_0 = true := by decide +kernel
theorem dk72 : dOK prog_9_method_3_code 2 cL72 = true := dOK_app dg72_0 rfl
theorem dg73_0 : dOK prog_1_method_39_code 1 cG73_0 = true := by decide +kernel
theorem dk73 : dOK prog_1_method_39_code 1 cL73 = true := dOK_app dg73_0 rfl
theorem dg74_0 : dOK prog_2_method_13_code 3 cG74_0 = true := by decide +kernel
theorem dk74 : dOK prog_2_method_13_code 3 cL74 = true := dOK_app dg74_0 rfl
theorem dg75_0 : dOK prog_1_method_12_code 2 cG75_0 = true := by decide +kernel
theorem dk75 : dOK prog_1_method_12_code 2 cL75 = true := dOK_app dg75_0 rfl
theorem dg76_0 : dOK prog_8_method_13_code 3 cG76_0 = true := dOK_fl (Ls := [cL76_0, cL76_1, cL76_2, cL76_3, cL76_4]) rfl (dGo_ok (k := 0) (m := 200) (j := 0) (by decide +kernel))
theorem dk76 : dOK prog_8_method_13_code 3 cL76 = true := dOK_app dg76_0 rfl
theorem dg77_0 : dOK prog_2_method_14_code 3 cG77_0 = true := by decide +kernel
theorem dk77 : dOK prog_2_method_14_code 3 cL77 = true := dOK_app dg77_0 rfl
theorem dg78_0 : dOK prog_2_method_12_code 1 cG78_0 = true := by decide +kernel
theorem dk78 : dOK prog_2_method_12_code 1 cL78 = true := dOK_app dg78_0 rfl
theorem dg79_0 : dOK prog_2_method_15_code 2 cG79_0 = true := by decide +kernel
theorem dk79 : dOK prog_2_method_15_code 2 cL79 = true := dOK_app dg79_0 rfl
theorem dg80_0 : dOK prog_8_method_17_code 3 cG80_0 = true := by decide +kernel
theorem dk80 : dOK prog_8_method_17_code 3 cL80 = true := dOK_app dg80_0 rfl
theorem dg81_0 : dOK prog_1_method_13_code 3 cG81_0 = true := by decide +kernel
theorem dk81 : dOK prog_1_method_13_code 3 cL81 = true := dOK_app dg81_0 rfl
theorem dg82_0 : dOK prog_1_method_14_code 6 cG82_0 = true := dOK_fl (Ls := [cL82_0, cL82_1, cL82_2, cL82_3, cL82_4, cL82_5, cL82_6, cL82_7]) rfl (dGo_ok (k := 0) (m := 200) (j := 0) (by decide +kernel))
theorem dg82_1 : dOK prog_1_method_14_code 6 cG82_1 = true := dOK_fl (Ls := [cL82_8]) rfl (dGo_ok (k := 128) (m := 200) (j := 0) (by decide +kernel))
theorem dk82 : dOK prog_1_method_14_code 6 cL82 = true := dOK_app dg82_0 (dOK_app dg82_1 rfl)
theorem dg83_0 : dOK prog_1_method_15_code 4 cG83_0 = true := by decide +kernel
theorem dk83 : dOK prog_1_method_15_code 4 cL83 = true := dOK_app dg83_0 rfl
theorem dg84_0 : dOK prog_1_method_16_code 2 cG84_0 = true := by decide +kernel
theorem dk84 : dOK prog_1_method_16_code 2 cL84 = true := dOK_app dg84_0 rfl
theorem dg85_0 : dOK prog_1_method_17_code 3 cG85_0 = true := by decide +kernel
theorem dk85 : dOK prog_1_method_17_code 3 cL85 = true := dOK_app dg85_0 rfl
theorem dg86_0 : dOK prog_1_method_18_code 3 cG86_0 = true := dOK_fl (Ls := [cL86_0, cL86_1, cL86_2, cL86_3, cL86_4]) rfl (dGo_ok (k := 0) (m := 200) (j := 0) (by decide +kernel))
theorem dk86 : dOK prog_1_method_18_code 3 cL86 = true := dOK_app dg86_0 rfl
theorem dg87_0 : dOK prog_1_method_45_code 1 cG87_0 = true := by decide +kernel
theorem dk87 : dOK prog_1_method_45_code 1 cL87 = true := dOK_app dg87_0 rfl
theorem dg88_0 : dOK prog_1_method_46_code 5 cG88_0 = true := dOK_fl (Ls := [cL88_0, cL88_1, cL88_2, cL88_3]) rfl (dGo_ok (k := 0) (m := 200) (j := 0) (by decide +kernel))
theorem dk88 : dOK prog_1_method_46_code 5 cL88 = true := dOK_app dg88_0 rfl
theorem dg89_0 : dOK prog_8_method_14_code 2 cG89_0 = true := by decide +kernel
theorem dk89 : dOK prog_8_method_14_code 2 cL89 = true := dOK_app dg89_0 rfl
theorem dg90_0 : dOK prog_1_method_44_code 1 cG90_0 = true := by decide +kernel
theorem dk90 : dOK prog_1_method_44_code 1 cL90 = true := dOK_app dg90_0 rfl
theorem dg91_0 : dOK prog_1_method_47_code 1 cG91_0 = true := by decide +kernel
theorem dk91 : dOK prog_1_method_47_code 1 cL91 = true := dOK_app dg91_0 rfl
theorem dg92_0 : dOK prog_8_method_20_code 3 cG92_0 = true := by decide +kernel
theorem dk92 : dOK prog_8_method_20_code 3 cL92 = true := dOK_app dg92_0 rfl
theorem dg93_0 : dOK prog_1_method_19_code 2 cG93_0 = true := by decide +kernel
theorem dk93 : dOK prog_1_method_19_code 2 cL93 = true := dOK_app dg93_0 rfl
theorem dg94_0 : dOK prog_1_method_20_code 4 cG94_0 = true := dOK_fl (Ls := [cL94_0, cL94_1, cL94_2, cL94_3, cL94_4, cL94_5]) rfl (dGo_ok (k := 0) (m := 200) (j := 0) (by decide +kernel))
theorem dk94 : dOK prog_1_method_20_code 4 cL94 = true := dOK_app dg94_0 rfl
theorem dg95_0 : dOK prog_1_method_21_code 3 cG95_0 = true := dOK_fl (Ls := [cL95_0, cL95_1, cL95_2, cL95_3, cL95_4, cL95_5]) rfl (dGo_ok (k := 0) (m := 200) (j := 0) (by decide +kernel))
theorem dk95 : dOK prog_1_method_21_code 3 cL95 = true := dOK_app dg95_0 rfl
theorem dg96_0 : dOK prog_4_method_2_code 3 cG96_0 = true := by decide +kernel
theorem dk96 : dOK prog_4_method_2_code 3 cL96 = true := dOK_app dg96_0 rfl
theorem dg97_0 : dOK prog_4_method_4_code 3 cG97_0 = true := by decide +kernel
theorem dk97 : dOK prog_4_method_4_code 3 cL97 = true := dOK_app dg97_0 rfl
theorem dg98_0 : dOK prog_8_method_6_code 1 cG98_0 = true := by decide +kernel
theorem dk98 : dOK prog_8_method_6_code 1 cL98 = true := dOK_app dg98_0 rfl
theorem dg99_0 : dOK prog_12_method_49_code 1 cG99_0 = true := by decide +kernel
theorem dk99 : dOK prog_12_method_49_code 1 cL99 = true := dOK_app dg99_0 rfl
