/-! TABLES: the links stand in the tables (written by a program) -/
theorem lk0_0 : kOKs "DoorPaintsLaw" "law" [cL0_0, cL0_1, cL0_2, cL0_3, cL0_4, cL0_5, cL0_6, cL0_7] [[89, 0, 91, 0, 974, 0, 976, 0], [0, 0, 0, 0, 0, 0, 0, 0, 0, 0, 0, 0, 0], [0], [], [], [], [], []] = true := by decide +kernel
theorem lk0_1 : kOKs "DoorPaintsLaw" "law" [cL0_8, cL0_9, cL0_10, cL0_11, cL0_12, cL0_13, cL0_14, cL0_15] [[], [], [], [], [0, 0, 0, 0, 0, 0, 378, 0, 0, 0], [0, 0, 0, 0, 1088, 0, 0, 0, 0, 0, 0, 0], [0, 386, 0, 0, 0, 0, 0, 0, 0, 1096, 0, 0], [0, 390, 0, 0, 1100, 0, 0, 0]] = true := by decide +kernel
theorem lk0_2 : kOKs "DoorPaintsLaw" "law" [cL0_16, cL0_17, cL0_18, cL0_19, cL0_20, cL0_21, cL0_22, cL0_23] [[586, 0, 0, 1170, 0, 0, 0, 0, 0, 0], [0, 0, 590, 0, 0, 0, 0, 0, 0, 0, 1174, 0], [0, 0, 0, 0, 0, 0, 0, 0, 0, 0, 0, 0, 615], [0, 0, 0, 0, 0, 0, 0, 0, 0, 0, 0, 1209, 0], [0, 0, 0, 0, 0, 0, 0, 0, 0, 0, 0, 0, 0, 624], [0, 0, 0, 0, 0, 0, 0, 0, 0, 0, 0, 0, 1226], [0, 0, 0, 0, 0, 0, 0, 0, 634, 0, 0], [0, 0, 0, 0, 0, 1235, 0, 0, 0, 0, 0, 0]] = true := by decide +kernel
theorem lk0_3 : kOKs "DoorPaintsLaw" "law" [cL0_24, cL0_25, cL0_26, cL0_27, cL0_28, cL0_29, cL0_30, cL0_31] [[0, 0, 0, 0, 0, 0, 0, 638, 0, 0, 0, 0, 0, 0], [0, 0, 0, 0, 0, 0, 1239, 0, 0, 0, 0, 0], [0, 0, 0, 0, 0, 0, 0, 0, 646, 0, 0, 0, 0, 0], [0, 0, 0, 0, 0, 0, 0, 1247, 0, 0, 0, 0], [0, 0, 0, 0, 673, 0, 0, 0, 0, 0, 0, 0, 1267], [0, 0, 0, 0, 0, 0, 0, 0, 697, 0, 0], [0, 0, 0, 0, 0, 1284, 0, 0, 0, 0, 0, 0], [0, 0, 0, 0, 0, 0, 0, 0, 0, 0, 0, 0, 702, 0]] = true := by decide +kernel
theorem lk0_4 : kOKs "DoorPaintsLaw" "law" [cL0_32, cL0_33, cL0_34, cL0_35, cL0_36, cL0_37, cL0_38, cL0_39] [[0, 0, 0, 0, 0, 0, 0, 0, 0, 0, 0, 0, 0, 0, 0, 0], [1288, 0, 0, 0, 0, 0, 0, 0, 0, 0, 0, 0], [0, 0, 0, 0, 0, 0, 0, 0, 0, 0, 0, 706], [0, 0, 0, 0, 0, 0, 0, 0, 0, 0, 0, 0, 0, 0], [0, 0, 0, 0, 0, 0, 0, 1299, 0, 0], [0, 0, 0, 0, 0, 0, 712, 0, 0, 0, 0, 0], [0, 0, 1303, 0, 0, 0, 0, 0, 0, 0, 0, 719], [0, 0, 0, 0, 0, 0, 0, 1311, 0, 0]] = true := by decide +kernel
theorem lk0_5 : kOKs "DoorPaintsLaw" "law" [cL0_40, cL0_41, cL0_42, cL0_43, cL0_44, cL0_45, cL0_46, cL0_47] [[0, 0, 0, 0, 0, 0, 723, 0, 0, 0, 0, 0, 0, 0], [1315, 0, 0, 0, 0, 0, 0, 0, 0, 753], [0, 0, 0, 0, 0, 0, 0, 1323, 0, 0, 0, 0], [0, 0, 0, 0, 757, 0, 0, 0, 0, 0, 0, 0, 1331], [0, 0, 0, 0, 0, 0, 0, 0, 0, 0, 0, 0, 0], [763, 0, 0, 0, 0, 0, 0, 0, 0, 0, 0, 0, 0, 1335], [0, 0, 0, 0, 0, 0, 0, 0, 822, 0], [0, 0, 0, 0, 0, 0, 1366, 0, 0, 0, 0, 0]] = true := by decide +kernel
theorem lk0_6 : kOKs "DoorPaintsLaw" "law" [cL0_48, cL0_49, cL0_50, cL0_51, cL0_52, cL0_53, cL0_54, cL0_55] [[0, 0, 0, 830, 0, 0, 0, 0, 0, 0, 0, 1370], [0, 0, 0, 0, 0, 0, 0, 0, 0, 0, 0, 0, 0, 0], [0, 0, 0, 0, 838, 0, 0, 0, 0, 0, 0, 0, 0, 0], [0, 0, 0, 0, 0, 0, 0, 0, 1374, 0, 0, 0], [0, 0, 0, 0, 0, 846, 0, 0, 0, 0, 0, 0, 0, 1378], [0, 0, 0, 0, 0, 0, 0, 0, 850, 0], [0, 0, 0, 0, 0, 0, 1382, 0, 0, 0, 864], [0, 0, 1390, 0, 0, 0, 0, 0, 0, 0, 0]] = true := by decide +kernel
theorem lk0_7 : kOKs "DoorPaintsLaw" "law" [cL0_56, cL0_57, cL0_58, cL0_59, cL0_60, cL0_61, cL0_62, cL0_63] [[868, 0, 0, 0, 0, 0, 0, 0, 1394, 0, 0], [0, 0, 0, 0, 0, 0, 0, 0, 0, 0, 0, 0, 0, 0, 0], [0, 880, 0, 0, 0, 0, 0, 0, 0, 0, 0, 0, 0, 0], [0, 0, 0, 0, 0, 1402, 0, 0, 0, 0, 0, 0], [0, 0, 0, 0, 0, 0, 0, 904, 0, 0, 0, 0, 0, 0], [0, 0, 0, 0, 0, 0, 1418, 0, 0, 0, 0, 0], [0, 0, 0, 0, 0, 0, 0, 0, 0, 0, 0, 0, 0, 908], [0, 0, 0, 0, 0, 0, 0, 0, 0, 0, 0, 0, 0, 0, 0, 0]] = true := by decide +kernel
theorem lk0_8 : kOKs "DoorPaintsLaw" "law" [cL0_64, cL0_65, cL0_66, cL0_67, cL0_68, cL0_69, cL0_70, cL0_71] [[0, 1422, 0, 0, 0, 0, 0, 0, 0, 0, 919], [0, 0, 0, 0, 0, 0, 0, 1428, 0, 0, 0], [0, 0, 0, 0, 0, 923, 0, 0, 0, 0, 0, 0, 0, 1436], [0, 0, 0, 0, 0, 0, 0, 0, 0, 0, 0, 0], [0, 0, 0, 0, 0, 0, 927, 0, 0, 0, 0, 0, 0, 0], [0, 0, 0, 0, 0, 0, 0, 0, 0, 0, 1440, 0, 0], [0, 0, 0, 0, 0, 0, 0, 0, 0, 0, 0, 0, 0, 0, 0], [0, 941, 0, 0, 0, 0, 0, 0, 0, 0, 0, 0, 0, 0]] = true := by decide +kernel
theorem lk0_9 : kOKs "DoorPaintsLaw" "law" [cL0_72, cL0_73, cL0_74, cL0_75, cL0_76, cL0_77, cL0_78] [[0, 0, 0, 0, 0, 1447, 0, 0, 0, 0, 0, 0], [0, 0, 0, 0, 0, 0, 0, 0, 0, 0, 0, 0, 0, 0, 0, 0], [0, 953, 0, 0, 0, 0, 0, 0, 0, 0, 0, 0, 0, 0], [0, 0, 0, 0, 0, 0, 0, 0, 0, 0, 1451, 0, 0], [0, 966, 0, 0, 1457, 0, 0, 0, 0], [0, 0, 0, 0, 970, 0, 0, 0, 0, 0, 0, 0, 1461], [0, 0, 0, 0, 0, 0]] = true := by decide +kernel
theorem lk0 : kAll "DoorPaintsLaw" "law" cL0 := (kAll_gr (R := cL0_8 ++ ( cL0_9 ++ ( cL0_10 ++ ( cL0_11 ++ ( cL0_12 ++ ( cL0_13 ++ ( cL0_14 ++ ( cL0_15 ++ ( cL0_16 ++ ( cL0_17 ++ ( cL0_18 ++ ( cL0_19 ++ ( cL0_20 ++ ( cL0_21 ++ ( cL0_22 ++ ( cL0_23 ++ ( cL0_24 ++ ( cL0_25 ++ ( cL0_26 ++ ( cL0_27 ++ ( cL0_28 ++ ( cL0_29 ++ ( cL0_30 ++ ( cL0_31 ++ ( cL0_32 ++ ( cL0_33 ++ ( cL0_34 ++ ( cL0_35 ++ ( cL0_36 ++ ( cL0_37 ++ ( cL0_38 ++ ( cL0_39 ++ ( cL0_40 ++ ( cL0_41 ++ ( cL0_42 ++ ( cL0_43 ++ ( cL0_44 ++ ( cL0_45 ++ ( cL0_46 ++ ( cL0_47 ++ ( cL0_48 ++ ( cL0_49 ++ ( cL0_50 ++ ( cL0_51 ++ ( cL0_52 ++ ( cL0_53 ++ ( cL0_54 ++ ( cL0_55 ++ ( cL0_56 ++ ( cL0_57 ++ ( cL0_58 ++ ( cL0_59 ++ ( cL0_60 ++ ( cL0_61 ++ ( cL0_62 ++ ( cL0_63 ++ ( cL0_64 ++ ( cL0_65 ++ ( cL0_66 ++ ( cL0_67 ++ ( cL0_68 ++ ( cL0_69 ++ ( cL0_70 ++ ( cL0_71 ++ ( cL0_72 ++ ( cL0_73 ++ ( cL0_74 ++ ( cL0_75 ++ ( cL0_76 ++ ( cL0_77 ++ ( cL0_78 ++ ([])))))))))))))))))))))))))))))))))))))))))))))))))))))))))))))))))))))))) (kAll_gr (R := cL0_16 ++ ( cL0_17 ++ ( cL0_18 ++ ( cL0_19 ++ ( cL0_20 ++ ( cL0_21 ++ ( cL0_22 ++ ( cL0_23 ++ ( cL0_24 ++ ( cL0_25 ++ ( cL0_26 ++ ( cL0_27 ++ ( cL0_28 ++ ( cL0_29 ++ ( cL0_30 ++ ( cL0_31 ++ ( cL0_32 ++ ( cL0_33 ++ ( cL0_34 ++ ( cL0_35 ++ ( cL0_36 ++ ( cL0_37 ++ ( cL0_38 ++ ( cL0_39 ++ ( cL0_40 ++ ( cL0_41 ++ ( cL0_42 ++ ( cL0_43 ++ ( cL0_44 ++ ( cL0_45 ++ ( cL0_46 ++ ( cL0_47 ++ ( cL0_48 ++ ( cL0_49 ++ ( cL0_50 ++ ( cL0_51 ++ ( cL0_52 ++ ( cL0_53 ++ ( cL0_54 ++ ( cL0_55 ++ ( cL0_56 ++ ( cL0_57 ++ ( cL0_58 ++ ( cL0_59 ++ ( cL0_60 ++ ( cL0_61 ++ ( cL0_62 ++ ( cL0_63 ++ ( cL0_64 ++ ( cL0_65 ++ ( cL0_66 ++ ( cL0_67 ++ ( cL0_68 ++ ( cL0_69 ++ ( cL0_70 ++ ( cL0_71 ++ ( cL0_72 ++ ( cL0_73 ++ ( cL0_74 ++ ( cL0_75 ++ ( cL0_76 ++ ( cL0_77 ++ ( cL0_78 ++ ([])))))))))))))))))))))))))))))))))))))))))))))))))))))))))))))))) (kAll_gr (R := cL0_24 ++ ( cL0_25 ++ ( cL0_26 ++ ( cL0_27 ++ ( cL0_28 ++ ( cL0_29 ++ ( cL0_30 ++ ( cL0_31 ++ ( cL0_32 ++ ( cL0_33 ++ ( cL0_34 ++ ( cL0_35 ++ ( cL0_36 ++ ( cL0_37 ++ ( cL0_38 ++ ( cL0_39 ++ ( cL0_40 ++ ( cL0_41 ++ ( cL0_42 ++ ( cL0_43 ++ ( cL0_44 ++ ( cL0_45 ++ ( cL0_46 ++ ( cL0_47 ++ ( cL0_48 ++ ( cL0_49 ++ ( cL0_50 ++ ( cL0_51 ++ ( cL0_52 ++ ( cL0_53 ++ ( cL0_54 ++ ( cL0_55 ++ ( cL0_56 ++ ( cL0_57 ++ ( cL0_58 ++ ( cL0_59 ++ ( cL0_60 ++ ( cL0_61 ++ ( cL0_62 ++ ( cL0_63 ++ ( cL0_64 ++ ( cL0_65 ++ ( cL0_66 ++ ( cL0_67 ++ ( cL0_68 ++ ( cL0_69 ++ ( cL0_70 ++ ( cL0_71 ++ ( cL0_72 ++ ( cL0_73 ++ ( cL0_74 ++ ( cL0_75 ++ ( cL0_76 ++ ( cL0_77 ++ ( cL0_78 ++ ([])))))))))))))))))))))))))))))))))))))))))))))))))))))))) (kAll_gr (R := cL0_32 ++ ( cL0_33 ++ ( cL0_34 ++ ( cL0_35 ++ ( cL0_36 ++ ( cL0_37 ++ ( cL0_38 ++ ( cL0_39 ++ ( cL0_40 ++ ( cL0_41 ++ ( cL0_42 ++ ( cL0_43 ++ ( cL0_44 ++ ( cL0_45 ++ ( cL0_46 ++ ( cL0_47 ++ ( cL0_48 ++ ( cL0_49 ++ ( cL0_50 ++ ( cL0_51 ++ ( cL0_52 ++ ( cL0_53 ++ ( cL0_54 ++ ( cL0_55 ++ ( cL0_56 ++ ( cL0_57 ++ ( cL0_58 ++ ( cL0_59 ++ ( cL0_60 ++ ( cL0_61 ++ ( cL0_62 ++ ( cL0_63 ++ ( cL0_64 ++ ( cL0_65 ++ ( cL0_66 ++ ( cL0_67 ++ ( cL0_68 ++ ( cL0_69 ++ ( cL0_70 ++ ( cL0_71 ++ ( cL0_72 ++ ( cL0_73 ++ ( cL0_74 ++ ( cL0_75 ++ ( cL0_76 ++ ( cL0_77 ++ ( cL0_78 ++ ([])))))))))))))))))))))))))))))))))))))))))))))))) (kAll_gr (R := cL0_40 ++ ( cL0_41 ++ ( cL0_42 ++ ( cL0_43 ++ ( cL0_44 ++ ( cL0_45 ++ ( cL0_46 ++ ( cL0_47 ++ ( cL0_48 ++ ( cL0_49 ++ ( cL0_50 ++ ( cL0_51 ++ ( cL0_52 ++ ( cL0_53 ++ ( cL0_54 ++ ( cL0_55 ++ ( cL0_56 ++ ( cL0_57 ++ ( cL0_58 ++ ( cL0_59 ++ ( cL0_60 ++ ( cL0_61 ++ ( cL0_62 ++ ( cL0_63 ++ ( cL0_64 ++ ( cL0_65 ++ ( cL0_66 ++ ( cL0_67 ++ ( cL0_68 ++ ( cL0_69 ++ ( cL0_70 ++ ( cL0_71 ++ ( cL0_72 ++ ( cL0_73 ++ ( cL0_74 ++ ( cL0_75 ++ ( cL0_76 ++ ( cL0_77 ++ ( cL0_78 ++ ([])))))))))))))))))))))))))))))))))))))))) (kAll_gr (R := cL0_48 ++ ( cL0_49 ++ ( cL0_50 ++ ( cL0_51 ++ ( cL0_52 ++ ( cL0_53 ++ ( cL0_54 ++ ( cL0_55 ++ ( cL0_56 ++ ( cL0_57 ++ ( cL0_58 ++ ( cL0_59 ++ ( cL0_60 ++ ( cL0_61 ++ ( cL0_62 ++ ( cL0_63 ++ ( cL0_64 ++ ( cL0_65 ++ ( cL0_66 ++ ( cL0_67 ++ ( cL0_68 ++ ( cL0_69 ++ ( cL0_70 ++ ( cL0_71 ++ ( cL0_72 ++ ( cL0_73 ++ ( cL0_74 ++ ( cL0_75 ++ ( cL0_76 ++ ( cL0_77 ++ ( cL0_78 ++ ([])))))))))))))))))))))))))))))))) (kAll_gr (R := cL0_56 ++ ( cL0_57 ++ ( cL0_58 ++ ( cL0_59 ++ ( cL0_60 ++ ( cL0_61 ++ ( cL0_62 ++ ( cL0_63 ++ ( cL0_64 ++ ( cL0_65 ++ ( cL0_66 ++ ( cL0_67 ++ ( cL0_68 ++ ( cL0_69 ++ ( cL0_70 ++ ( cL0_71 ++ ( cL0_72 ++ ( cL0_73 ++ ( cL0_74 ++ ( cL0_75 ++ ( cL0_76 ++ ( cL0_77 ++ ( cL0_78 ++ ([])))))))))))))))))))))))) (kAll_gr (R := cL0_64 ++ ( cL0_65 ++ ( cL0_66 ++ ( cL0_67 ++ ( cL0_68 ++ ( cL0_69 ++ ( cL0_70 ++ ( cL0_71 ++ ( cL0_72 ++ ( cL0_73 ++ ( cL0_74 ++ ( cL0_75 ++ ( cL0_76 ++ ( cL0_77 ++ ( cL0_78 ++ ([])))))))))))))))) (kAll_gr (R := cL0_72 ++ ( cL0_73 ++ ( cL0_74 ++ ( cL0_75 ++ ( cL0_76 ++ ( cL0_77 ++ ( cL0_78 ++ ([])))))))) (kAll_gr (R := []) kAll_nil lk0_9) lk0_8) lk0_7) lk0_6) lk0_5) lk0_4) lk0_3) lk0_2) lk0_1) lk0_0)
theorem lk1_0 : kOKs "DoorPaints" "<init>" [cL1_0, cL1_1, cL1_2, cL1_3, cL1_4, cL1_5, cL1_6, cL1_7] [[0, 94, 0, 97, 0, 99, 338, 0], [0, 338, 264, 339, 0, 281, 0, 282], [340, 0, 0, 281, 341, 0, 0, 0], [0, 0, 0, 341, 0, 281, 0, 282], [0, 0, 0, 0, 0, 0, 342, 0, 284], [0, 285, 343, 0, 286, 0, 288], [344, 0, 0, 0, 345, 0, 0, 319], [346, 0, 0, 0, 0, 0, 0, 346, 0, 319]] = true := by decide +kernel
theorem lk1_1 : kOKs "DoorPaints" "<init>" [cL1_8] [[0, 322, 0, 0, 0, 0]] = true := by decide +kernel
theorem lk1 : kAll "DoorPaints" "<init>" cL1 := (kAll_gr (R := cL1_8 ++ ([])) (kAll_gr (R := []) kAll_nil lk1_1) lk1_0)
theorem lk2_0 : kOKs "DoorPaints$Reader" "<init>" [cL2_0, cL2_1] [[0, 102, 0, 103, 0, 105, 262, 0], [232, 0, 234, 265, 0]] = true := by decide +kernel
theorem lk2 : kAll "DoorPaints$Reader" "<init>" cL2 := (kAll_gr (R := []) kAll_nil lk2_0)
theorem lk3_0 : kOKs "DoorPaints$Told" "<init>" [cL3_0, cL3_1, cL3_2] [[0, 108, 0, 109, 0, 111, 205, 0], [0, 0, 208, 0, 0, 0, 212, 0], [0, 0, 213, 0, 0, 0, 214, 0]] = true := by decide +kernel
theorem lk3 : kAll "DoorPaints$Told" "<init>" cL3 := (kAll_gr (R := []) kAll_nil lk3_0)
theorem lk4_0 : kOKs "DoorPaints$Town" "<init>" [cL4_0, cL4_1, cL4_2, cL4_3, cL4_4] [[0, 114, 0, 0, 115, 173, 0, 0, 0, 0], [0, 0, 173, 0, 115, 0, 10000, 0], [0, 0, 0, 0, 144, 176, 0, 0], [0, 0, 0, 0, 176, 0, 144, 0, 147], [0, 0, 0, 0, 0, 190, 0]] = true := by decide +kernel
theorem lk4 : kAll "DoorPaints$Town" "<init>" cL4 := (kAll_gr (R := []) kAll_nil lk4_0)
theorem lk5_0 : kOKs "DoorPaints$Visitor" "<init>" [cL5_0] [[0, 121, 0]] = true := by decide +kernel
theorem lk5 : kAll "DoorPaints$Visitor" "<init>" cL5 := (kAll_gr (R := []) kAll_nil lk5_0)
theorem lk6_0 : kOKs "DoorPaints$Door" "<init>" [cL6_0] [[0, 150, 0, 0, 0, 151, 0]] = true := by decide +kernel
theorem lk6 : kAll "DoorPaints$Door" "<init>" cL6 := (kAll_gr (R := []) kAll_nil lk6_0)
theorem lk7_0 : kOKs "DoorPaints$Tape" "<init>" [cL7_0] [[0, 237, 0, 0, 0, 238, 0]] = true := by decide +kernel
theorem lk7 : kAll "DoorPaints$Tape" "<init>" cL7 := (kAll_gr (R := []) kAll_nil lk7_0)
theorem lk8_0 : kOKs "DoorPaints$Search" "<init>" [cL8_0, cL8_1] [[0, 291, 0, 292, 0, 293, 294, 0], [0, 0, 295, 0, 0, 0, 296, 0]] = true := by decide +kernel
theorem lk8 : kAll "DoorPaints$Search" "<init>" cL8 := (kAll_gr (R := []) kAll_nil lk8_0)
theorem lk9_0 : kOKs "DoorPaints$Sheet" "<init>" [cL9_0, cL9_1] [[0, 325, 0, 0, 0, 326, 0, 0, 329], [0]] = true := by decide +kernel
theorem lk9 : kAll "DoorPaints$Sheet" "<init>" cL9 := (kAll_gr (R := []) kAll_nil lk9_0)
theorem lk10_0 : kOKs "DoorPaints" "feed" [cL10_0, cL10_1, cL10_2] [[0, 0, 0, 0, 0, 0, 0, 0, 339], [0, 382, 0, 0, 339, 240, 0], [0, 0]] = true := by decide +kernel
theorem lk10 : kAll "DoorPaints" "feed" cL10 := (kAll_gr (R := []) kAll_nil lk10_0)
theorem lk11_0 : kOKs "DoorPaints$Tape" "append" [cL11_0, cL11_1, cL11_2] [[0, 239, 0, 0, 0, 0, 0, 238], [0, 239, 0, 0, 0, 0, 239, 0, 0, 239], [0, 0]] = true := by decide +kernel
theorem lk11 : kAll "DoorPaints$Tape" "append" cL11 := (kAll_gr (R := []) kAll_nil lk11_0)
theorem lk12_0 : kOKs "DoorPaints" "end" [cL12_0, cL12_1, cL12_2] [[0, 0, 0, 0, 339, 240, 0, 0], [0, 0, 339, 240, 0, 0, 339, 0, 240], [0, 0]] = true := by decide +kernel
theorem lk12 : kAll "DoorPaints" "end" cL12 := (kAll_gr (R := []) kAll_nil lk12_0)
theorem lk13_0 : kOKs "DoorPaints" "text" [cL13_0, cL13_1, cL13_2, cL13_3, cL13_4] [[0, 338, 394, 0, 0, 339, 0, 240], [0, 0, 338, 267, 347, 0, 347, 0], [0, 340, 0, 338, 263, 569], [0, 0, 0, 0, 0, 0, 342, 0, 0, 0, 0], [0, 0, 0]] = true := by decide +kernel
theorem lk13 : kAll "DoorPaints" "text" cL13 := (kAll_gr (R := []) kAll_nil lk13_0)
theorem lk14_0 : kOKs "DoorPaints$Reader" "readAll" [cL14_0, cL14_1, cL14_2, cL14_3, cL14_4, cL14_5, cL14_6, cL14_7] [[0, 0, 266, 0, 0, 269, 0, 262, 398], [0, 265, 410, 0, 0, 0, 0, 0], [0, 266, 0, 0, 265, 242, 0], [0, 426, 0, 0, 0, 266], [0, 0, 262, 552, 0, 0, 0], [266, 0, 0, 265, 241, 268, 0, 266], [0, 0, 0, 0, 0, 268, 0], [0]] = true := by decide +kernel
theorem lk14 : kAll "DoorPaints$Reader" "readAll" cL14 := (kAll_gr (R := []) kAll_nil lk14_0)
theorem lk15_0 : kOKs "DoorPaints$Told" "clear" [cL15_0, cL15_1] [[0, 205, 402, 0, 0, 210, 0, 0, 215], [0]] = true := by decide +kernel
theorem lk15 : kAll "DoorPaints$Told" "clear" cL15 := (kAll_gr (R := []) kAll_nil lk15_0)
theorem lk16_0 : kOKs "DoorPaints$Town" "clear" [cL16_0, cL16_1, cL16_2] [[0, 0, 181, 0, 0, 185, 0, 0, 0, 0, 0], [0, 176, 0, 0, 406, 0, 0], [0]] = true := by decide +kernel
theorem lk16 : kAll "DoorPaints$Town" "clear" cL16 := (kAll_gr (R := []) kAll_nil lk16_0)
theorem lk17_0 : kOKs "DoorPaints$Door" "clear" [cL17_0] [[0, 0, 152, 0, 0, 156, 0, 0, 159, 0]] = true := by decide +kernel
theorem lk17 : kAll "DoorPaints$Door" "clear" cL17 := (kAll_gr (R := []) kAll_nil lk17_0)
theorem lk18_0 : kOKs "DoorPaints$Tape" "rewind" [cL18_0] [[0, 0, 246, 0, 414, 0]] = true := by decide +kernel
theorem lk18 : kAll "DoorPaints$Tape" "rewind" cL18 := (kAll_gr (R := []) kAll_nil lk18_0)
theorem lk19_0 : kOKs "DoorPaints$Tape" "advance" [cL19_0, cL19_1, cL19_2, cL19_3, cL19_4, cL19_5, cL19_6, cL19_7] [[0, 246, 0, 239, 0, 0, 238, 0], [246, 0, 0, 0, 0, 0, 246, 0, 0], [246, 0, 0, 0, 246, 244, 0, 246], [0, 239, 0, 0, 0, 243, 0], [0, 0, 0, 418, 0, 0, 0, 243], [0, 0, 0, 0, 418, 0, 0], [422, 0, 0, 0, 238, 0, 246, 0], [0, 0, 0, 0, 0, 243, 0, 0, 246]] = true := by decide +kernel
theorem lk19_1 : kOKs "DoorPaints$Tape" "advance" [cL19_8] [[0, 0, 246, 0]] = true := by decide +kernel
theorem lk19 : kAll "DoorPaints$Tape" "advance" cL19 := (kAll_gr (R := cL19_8 ++ ([])) (kAll_gr (R := []) kAll_nil lk19_1) lk19_0)
theorem lk20_0 : kOKs "DoorPaints$Tape" "skip" [cL20_0, cL20_1, cL20_2, cL20_3, cL20_4] [[0, 246, 0, 239, 0, 0, 238, 0], [246, 0, 0, 0, 0, 238, 0, 246], [0, 0, 0, 0, 0, 246, 0, 0, 246, 0], [0, 246, 0, 244, 0, 0, 0], [0, 0]] = true := by decide +kernel
theorem lk20 : kAll "DoorPaints$Tape" "skip" cL20 := (kAll_gr (R := []) kAll_nil lk20_0)
theorem lk21_0 : kOKs "DoorPaints$Tape" "takeNumber" [cL21_0, cL21_1, cL21_2, cL21_3, cL21_4] [[0, 0, 246, 0, 244, 0, 0, 0, 0, 0], [0, 243, 0, 0, 248, 0, 244, 0], [0, 0, 246, 0, 0, 243, 0, 0], [0, 0, 248, 0, 0, 0, 238, 0, 0, 0, 0], [0, 248, 0, 0, 0]] = true := by decide +kernel
theorem lk21 : kAll "DoorPaints$Tape" "takeNumber" cL21 := (kAll_gr (R := []) kAll_nil lk21_0)
theorem lk22_0 : kOKs "DoorPaints$Reader" "readLine" [cL22_0, cL22_1, cL22_2, cL22_3, cL22_4] [[0, 0, 430, 0, 0, 0, 265, 20000, 439], [0, 0, 491, 0, 0, 265], [20001, 439, 0, 0, 509, 0, 0], [265, 20002, 439, 0, 0, 522, 0], [0, 0, 536, 544, 0]] = true := by decide +kernel
theorem lk22 : kAll "DoorPaints$Reader" "readLine" cL22 := (kAll_gr (R := []) kAll_nil lk22_0)
theorem lk23_0 : kOKs "DoorPaints$Reader" "stands" [cL23_0, cL23_1, cL23_2] [[0, 265, 242, 0, 0, 0, 0, 0, 0, 265], [242, 0, 0, 0, 0, 0, 434], [0, 0]] = true := by decide +kernel
theorem lk23 : kAll "DoorPaints$Reader" "stands" cL23 := (kAll_gr (R := []) kAll_nil lk23_0)
theorem lk24_0 : kOKs "DoorPaints$Reader" "fail" [cL24_0, cL24_1] [[0, 0, 266, 0, 0, 265, 245, 268], [0]] = true := by decide +kernel
theorem lk24 : kAll "DoorPaints$Reader" "fail" cL24 := (kAll_gr (R := []) kAll_nil lk24_0)
theorem lk25_0 : kOKs "DoorPaints$Tape" "nameIs" [cL25_0, cL25_1, cL25_2, cL25_3, cL25_4] [[0, 243, 0, 0, 0, 246, 0, 244], [0, 0, 443, 0, 0, 0, 0, 0, 0, 0, 443], [0, 0, 238, 0, 244, 0, 0, 0, 0], [0, 453, 0, 0, 0, 0, 0, 0], [0]] = true := by decide +kernel
theorem lk25 : kAll "DoorPaints$Tape" "nameIs" cL25 := (kAll_gr (R := []) kAll_nil lk25_0)
theorem lk26_0 : kOKs "java/lang/String" "length" [cL26_0] [[0, 1465, 0, 0, 447, 0, 0]] = true := by decide +kernel
theorem lk26 : kAll "java/lang/String" "length" cL26 := (kAll_gr (R := []) kAll_nil lk26_0)
theorem lk27_0 : kOKs "java/lang/String" "coder" [cL27_0] [[451, 0, 0, 1466, 0, 0, 0]] = true := by decide +kernel
theorem lk27 : kAll "java/lang/String" "coder" cL27 := (kAll_gr (R := []) kAll_nil lk27_0)
theorem lk28_0 : kOKs "java/lang/String" "charAt" [cL28_0, cL28_1] [[0, 457, 0, 0, 1465, 0, 461, 0], [0, 1465, 0, 0]] = true := by decide +kernel
theorem lk28 : kAll "java/lang/String" "charAt" cL28 := (kAll_gr (R := []) kAll_nil lk28_0)
theorem lk29_0 : kOKs "java/lang/String" "isLatin1" [cL29_0, cL29_1] [[451, 0, 0, 1466, 0, 0, 0], [0, 0]] = true := by decide +kernel
theorem lk29 : kAll "java/lang/String" "isLatin1" cL29 := (kAll_gr (R := []) kAll_nil lk29_0)
theorem lk30_0 : kOKs "java/lang/StringLatin1" "charAt" [cL30_0] [[0, 0, 0, 464, 0, 0, 0, 0, 0, 0, 0]] = true := by decide +kernel
theorem lk30 : kAll "java/lang/StringLatin1" "charAt" cL30 := (kAll_gr (R := []) kAll_nil lk30_0)
theorem lk31_0 : kOKs "java/lang/String" "checkIndex" [cL31_0] [[0, 0, 467, 469, 0, 0]] = true := by decide +kernel
theorem lk31 : kAll "java/lang/String" "checkIndex" cL31 := (kAll_gr (R := []) kAll_nil lk31_0)
theorem lk32_0 : kOKs "jdk/internal/util/Preconditions" "checkIndex" [cL32_0, cL32_1] [[0, 0, 0, 0, 0, 0, 0, 0], [0, 0]] = true := by decide +kernel
theorem lk32 : kAll "jdk/internal/util/Preconditions" "checkIndex" cL32 := (kAll_gr (R := []) kAll_nil lk32_0)
theorem lk33_0 : kOKs "DoorPaints$Reader" "readDoor" [cL33_0, cL33_1, cL33_2, cL33_3, cL33_4, cL33_5, cL33_6, cL33_7] [[0, 262, 206, 186, 0, 0, 0, 0], [434, 0, 0, 262, 206, 178, 0, 262], [206, 186, 0, 0, 0, 262, 206], [0, 186, 0, 0, 186, 0, 265, 495], [0, 0, 0, 0, 0, 0, 265, 242], [0, 0, 0, 0, 496, 0, 0, 0, 0, 265], [247, 500, 0, 0, 0, 434], [0, 0, 265, 495, 0, 0, 0, 504]] = true := by decide +kernel
theorem lk33_1 : kOKs "DoorPaints$Reader" "readDoor" [cL33_8] [[0]] = true := by decide +kernel
theorem lk33 : kAll "DoorPaints$Reader" "readDoor" cL33 := (kAll_gr (R := cL33_8 ++ ([])) (kAll_gr (R := []) kAll_nil lk33_1) lk33_0)
theorem lk34_0 : kOKs "DoorPaints$Reader" "numberStands" [cL34_0, cL34_1] [[0, 0, 430, 0, 0, 0, 0, 265, 247], [0, 0, 0, 0, 434, 0, 0, 0, 0]] = true := by decide +kernel
theorem lk34 : kAll "DoorPaints$Reader" "numberStands" cL34 := (kAll_gr (R := []) kAll_nil lk34_0)
theorem lk35_0 : kOKs "DoorPaints$Door" "addLayer" [cL35_0, cL35_1, cL35_2] [[0, 152, 0, 0, 0, 0, 0, 151, 0], [152, 0, 0, 0, 0, 152, 0, 0, 152, 0], [0]] = true := by decide +kernel
theorem lk35 : kAll "DoorPaints$Door" "addLayer" cL35 := (kAll_gr (R := []) kAll_nil lk35_0)
theorem lk36_0 : kOKs "DoorPaints$Reader" "endLine" [cL36_0] [[0, 0, 430, 0, 0, 265, 495, 0]] = true := by decide +kernel
theorem lk36 : kAll "DoorPaints$Reader" "endLine" cL36 := (kAll_gr (R := []) kAll_nil lk36_0)
theorem lk37_0 : kOKs "DoorPaints$Reader" "readNot" [cL37_0, cL37_1, cL37_2, cL37_3, cL37_4, cL37_5] [[0, 265, 495, 0, 0, 496, 0, 0], [0, 262, 206, 178, 0, 265, 247], [0, 0, 0, 265, 495, 0, 0, 496, 0], [0, 0, 0, 265, 247, 513, 0], [0, 0, 434, 0, 0, 0, 265, 247, 0], [517, 0, 265, 495, 0, 504, 0]] = true := by decide +kernel
theorem lk37 : kAll "DoorPaints$Reader" "readNot" cL37 := (kAll_gr (R := []) kAll_nil lk37_0)
theorem lk38_0 : kOKs "DoorPaints$Door" "forbids" [cL38_0, cL38_1] [[0, 156, 0, 0, 0, 0, 0, 0, 0, 0], [0, 0]] = true := by decide +kernel
theorem lk38 : kAll "DoorPaints$Door" "forbids" cL38 := (kAll_gr (R := []) kAll_nil lk38_0)
theorem lk39_0 : kOKs "DoorPaints$Door" "forbid" [cL39_0, cL39_1] [[0, 0, 0, 0, 0, 0, 0, 0, 156, 0, 0, 0], [0, 156, 0, 0, 0, 0, 156, 0]] = true := by decide +kernel
theorem lk39 : kAll "DoorPaints$Door" "forbid" cL39 := (kAll_gr (R := []) kAll_nil lk39_0)
theorem lk40_0 : kOKs "DoorPaints$Reader" "readPlan" [cL40_0, cL40_1, cL40_2, cL40_3, cL40_4, cL40_5, cL40_6] [[0, 269, 0, 0, 0, 434, 0, 0, 0, 269], [0, 265, 495, 0, 0, 0, 0, 0], [0, 265, 242, 0, 0, 0, 265], [247, 10001, 0, 0, 0, 434, 0, 0], [262, 0, 265, 247, 532, 0], [0, 0, 434, 0, 0, 265, 495, 0], [0, 0, 504, 0]] = true := by decide +kernel
theorem lk40 : kAll "DoorPaints$Reader" "readPlan" cL40 := (kAll_gr (R := []) kAll_nil lk40_0)
theorem lk41_0 : kOKs "DoorPaints" "isAct" [cL41_0, cL41_1, cL41_2] [[0, 0, 0, 0, 0, 0, 0, 0, 0, 0], [0, 0, 0, 0, 0, 0, 0, 0, 0, 529], [0, 0, 0, 0, 0]] = true := by decide +kernel
theorem lk41 : kAll "DoorPaints" "isAct" cL41 := (kAll_gr (R := []) kAll_nil lk41_0)
theorem lk42_0 : kOKs "DoorPaints" "isSkyAct" [cL42_0, cL42_1] [[0, 0, 0, 0, 0, 0, 0, 0], [0, 0]] = true := by decide +kernel
theorem lk42 : kAll "DoorPaints" "isSkyAct" cL42 := (kAll_gr (R := []) kAll_nil lk42_0)
theorem lk43_0 : kOKs "DoorPaints$Told" "addAct" [cL43_0, cL43_1, cL43_2] [[0, 210, 0, 0, 0, 0, 0, 208, 0], [210, 0, 0, 0, 0, 210, 0, 0, 210, 0], [0]] = true := by decide +kernel
theorem lk43 : kAll "DoorPaints$Told" "addAct" cL43 := (kAll_gr (R := []) kAll_nil lk43_0)
theorem lk44_0 : kOKs "DoorPaints$Reader" "kindNamed" [cL44_0, cL44_1, cL44_2, cL44_3] [[0, 265, 20003, 439, 0, 0, 0, 0, 265], [20004, 439, 0, 0, 0, 0, 265], [20005, 439, 0, 0, 0, 0, 265, 20006], [439, 0, 0, 0, 0, 0]] = true := by decide +kernel
theorem lk44 : kAll "DoorPaints$Reader" "kindNamed" cL44 := (kAll_gr (R := []) kAll_nil lk44_0)
theorem lk45_0 : kOKs "DoorPaints$Reader" "readVisitor" [cL45_0, cL45_1, cL45_2, cL45_3, cL45_4, cL45_5, cL45_6] [[0, 0, 0, 0, 0, 434, 0, 0, 262], [206, 182, 0, 0, 0, 0, 434, 0], [0, 265, 495, 0, 0, 496, 0, 0], [0, 265, 247, 0, 0, 265, 495, 0], [0, 496, 0, 0, 0, 262, 206], [0, 0, 0, 265, 247, 548, 0, 265], [495, 0, 504, 0]] = true := by decide +kernel
theorem lk45 : kAll "DoorPaints$Reader" "readVisitor" cL45 := (kAll_gr (R := []) kAll_nil lk45_0)
theorem lk46_0 : kOKs "DoorPaints$Town" "addVisitor" [cL46_0, cL46_1, cL46_2, cL46_3] [[0, 181, 0, 0, 0, 173, 0, 181], [0, 0, 0, 0, 124, 0, 0, 127, 0], [0, 131, 0, 0, 134, 0, 0, 181], [0, 0, 181, 0]] = true := by decide +kernel
theorem lk46 : kAll "DoorPaints$Town" "addVisitor" cL46 := (kAll_gr (R := []) kAll_nil lk46_0)
theorem lk47_0 : kOKs "DoorPaints$Told" "isWhole" [cL47_0, cL47_1, cL47_2, cL47_3, cL47_4] [[0, 0, 0, 0, 210, 0, 0, 205, 0, 208], [0, 0, 556, 0, 0, 0, 0, 0], [0, 205, 189, 0, 0, 0, 0, 0], [205, 177, 0, 0, 157, 0, 0, 0], [0, 0, 0, 0]] = true := by decide +kernel
theorem lk47 : kAll "DoorPaints$Told" "isWhole" cL47 := (kAll_gr (R := []) kAll_nil lk47_0)
theorem lk48_0 : kOKs "DoorPaints$Town" "knows" [cL48_0, cL48_1, cL48_2] [[0, 10002, 0, 0, 0, 0, 0, 561, 0], [0, 0, 0, 0, 565, 0, 0, 0], [0, 0]] = true := by decide +kernel
theorem lk48 : kAll "DoorPaints$Town" "knows" cL48 := (kAll_gr (R := []) kAll_nil lk48_0)
theorem lk49_0 : kOKs "DoorPaints$Town" "hasVisitor" [cL49_0, cL49_1] [[0, 0, 0, 0, 181, 0, 0, 0], [0, 0]] = true := by decide +kernel
theorem lk49 : kAll "DoorPaints$Town" "hasVisitor" cL49 := (kAll_gr (R := []) kAll_nil lk49_0)
theorem lk50_0 : kOKs "DoorPaints$Town" "hasDoor" [cL50_0, cL50_1] [[0, 0, 0, 0, 185, 0, 0, 0], [0, 0]] = true := by decide +kernel
theorem lk50 : kAll "DoorPaints$Town" "hasDoor" cL50 := (kAll_gr (R := []) kAll_nil lk50_0)
theorem lk51_0 : kOKs "DoorPaints$Told" "become" [cL51_0, cL51_1, cL51_2, cL51_3, cL51_4, cL51_5, cL51_6] [[0, 205, 0, 205, 573, 0, 0, 210], [210, 0, 0, 0, 0, 210, 0, 0, 208], [0, 0, 208, 0, 0, 0, 0, 0, 0], [0, 215, 215, 0, 0, 0, 0, 215, 0], [0, 212, 0, 0, 212, 0, 0, 0, 0, 213], [0, 0, 213, 0, 0, 0, 0, 214, 0, 0, 214], [0, 0, 0, 0, 0, 0]] = true := by decide +kernel
theorem lk51 : kAll "DoorPaints$Told" "become" cL51 := (kAll_gr (R := []) kAll_nil lk51_0)
theorem lk52_0 : kOKs "DoorPaints$Town" "become" [cL52_0, cL52_1, cL52_2, cL52_3, cL52_4, cL52_5] [[0, 0, 181, 181, 0, 0, 0, 0, 181, 0], [0, 173, 0, 0, 0, 173, 0, 0, 577], [0, 0, 0, 0, 185, 185, 0], [0, 0, 0, 185, 0, 0, 176, 0, 0, 0], [176, 0, 0, 581, 0, 0, 0, 0], [190, 0]] = true := by decide +kernel
theorem lk52 : kAll "DoorPaints$Town" "become" cL52 := (kAll_gr (R := []) kAll_nil lk52_0)
theorem lk53_0 : kOKs "DoorPaints$Visitor" "become" [cL53_0, cL53_1, cL53_2] [[0, 0, 122, 122, 0, 0, 125, 125], [0, 0, 128, 128, 0, 0, 132, 132], [0]] = true := by decide +kernel
theorem lk53 : kAll "DoorPaints$Visitor" "become" cL53 := (kAll_gr (R := []) kAll_nil lk53_0)
theorem lk54_0 : kOKs "DoorPaints$Door" "become" [cL54_0, cL54_1, cL54_2, cL54_3] [[0, 0, 0, 0, 152, 0, 0, 151, 0, 0], [151, 0, 0, 0, 0, 0, 0, 0, 152], [152, 0, 0, 156, 156, 0, 0, 159], [159, 0]] = true := by decide +kernel
theorem lk54 : kAll "DoorPaints$Door" "become" cL54 := (kAll_gr (R := []) kAll_nil lk54_0)
theorem lk55_0 : kOKs "DoorPaints" "fault" [cL55_0] [[0, 347, 0]] = true := by decide +kernel
theorem lk55 : kAll "DoorPaints" "fault" cL55 := (kAll_gr (R := []) kAll_nil lk55_0)
theorem lk56_0 : kOKs "DoorPaints" "rule" [cL56_0, cL56_1, cL56_2, cL56_3, cL56_4, cL56_5, cL56_6] [[0, 0], [], [0, 340, 207, 184], [0, 0, 340, 207, 188, 0, 0, 340], [211, 0, 0, 340, 207, 594], [0, 0, 340, 207, 598, 0, 0, 340], [207, 611, 0, 0, 0]] = true := by decide +kernel
theorem lk56 : kAll "DoorPaints" "rule" cL56 := (kAll_gr (R := []) kAll_nil lk56_0)
theorem lk57_0 : kOKs "DoorPaints$Town" "wetBits" [cL57_0, cL57_1, cL57_2] [[0, 0, 0, 0, 0, 0, 185, 0, 0, 0, 176], [0, 0, 162, 0, 0, 0, 0, 0, 0], [0, 0, 0, 0, 0, 0]] = true := by decide +kernel
theorem lk57 : kAll "DoorPaints$Town" "wetBits" cL57 := (kAll_gr (R := []) kAll_nil lk57_0)
theorem lk58_0 : kOKs "DoorPaints$Town" "wrongBits" [cL58_0, cL58_1, cL58_2] [[0, 0, 0, 0, 0, 0, 185, 0, 0, 0, 176], [0, 0, 602, 0, 0, 0, 0, 0, 0], [0, 0, 0, 0, 0, 0]] = true := by decide +kernel
theorem lk58 : kAll "DoorPaints$Town" "wrongBits" cL58 := (kAll_gr (R := []) kAll_nil lk58_0)
theorem lk59_0 : kOKs "DoorPaints$Door" "isWrong" [cL59_0, cL59_1] [[0, 606, 0, 0, 0, 0, 0, 0, 610], [0, 0, 0, 0, 0]] = true := by decide +kernel
theorem lk59 : kAll "DoorPaints$Door" "isWrong" cL59 := (kAll_gr (R := []) kAll_nil lk59_0)
theorem lk60_0 : kOKs "DoorPaints$Door" "shown" [cL60_0, cL60_1, cL60_2] [[0, 152, 0, 0, 152, 0, 0], [0, 151, 0, 152, 0, 0, 0, 0, 0], [0]] = true := by decide +kernel
theorem lk60 : kAll "DoorPaints$Door" "shown" cL60 := (kAll_gr (R := []) kAll_nil lk60_0)
theorem lk61_0 : kOKs "DoorPaints$Town" "allPaint" [cL61_0, cL61_1] [[0, 0, 0, 0, 0, 0, 181, 0, 0, 0, 173], [0, 0, 131, 0, 0, 0, 0, 0, 0]] = true := by decide +kernel
theorem lk61 : kAll "DoorPaints$Town" "allPaint" cL61 := (kAll_gr (R := []) kAll_nil lk61_0)
theorem lk62_0 : kOKs "DoorPaints" "visitor" [cL62_0, cL62_1, cL62_2, cL62_3, cL62_4, cL62_5, cL62_6] [[0, 340, 207, 0, 619, 0, 0, 0], [0, 340, 207, 175, 0, 0, 0, 0, 0], [], [], [0, 123, 0, 0, 126, 0, 0, 130, 0, 0], [133, 0, 0, 340, 207, 0, 620, 0], [0, 0]] = true := by decide +kernel
theorem lk62 : kAll "DoorPaints" "visitor" cL62 := (kAll_gr (R := []) kAll_nil lk62_0)
theorem lk63_0 : kOKs "DoorPaints$Town" "brushOf" [cL63_0, cL63_1, cL63_2, cL63_3] [[0, 0, 561, 0, 0, 0, 0, 0, 190, 0], [0, 191, 0, 0, 173, 0, 0, 124], [0, 0, 0, 173, 0, 0, 127, 0], [0, 173, 0, 0, 127, 0]] = true := by decide +kernel
theorem lk63 : kAll "DoorPaints$Town" "brushOf" cL63 := (kAll_gr (R := []) kAll_nil lk63_0)
theorem lk64_0 : kOKs "DoorPaints" "door" [cL64_0, cL64_1, cL64_2, cL64_3, cL64_4, cL64_5, cL64_6] [[0, 340, 207, 0, 628, 0, 0, 0], [0, 340, 207, 180, 0, 0, 0, 0, 0], [0, 0, 0, 0, 0, 0, 0, 0, 629], [0, 0, 0], [], [0, 154, 0, 0, 633, 0, 0, 158, 0, 0], [161, 0, 0, 0, 0, 0, 0, 0]] = true := by decide +kernel
theorem lk64 : kAll "DoorPaints" "door" cL64 := (kAll_gr (R := []) kAll_nil lk64_0)
theorem lk65_0 : kOKs "DoorPaints$Door" "layerAt" [cL65_0, cL65_1] [[0, 0, 0, 0, 152, 0, 0, 151], [0, 0, 0, 0, 0]] = true := by decide +kernel
theorem lk65 : kAll "DoorPaints$Door" "layerAt" cL65 := (kAll_gr (R := []) kAll_nil lk65_0)
theorem lk66_0 : kOKs "DoorPaints" "plan" [cL66_0, cL66_1] [[0, 0, 0, 0, 340, 211, 0, 0], [340, 209, 0, 0, 0, 0, 0]] = true := by decide +kernel
theorem lk66 : kAll "DoorPaints" "plan" cL66 := (kAll_gr (R := []) kAll_nil lk66_0)
theorem lk67_0 : kOKs "DoorPaints" "uses" [cL67_0] [[0, 340, 207, 0, 0, 642, 0]] = true := by decide +kernel
theorem lk67 : kAll "DoorPaints" "uses" cL67 := (kAll_gr (R := []) kAll_nil lk67_0)
theorem lk68_0 : kOKs "DoorPaints$Town" "costOf" [cL68_0, cL68_1, cL68_2, cL68_3, cL68_4] [[0, 0, 561, 0, 0, 0, 565, 0], [0, 0, 0, 0, 176, 0, 0, 155, 0, 0, 0, 0], [0, 173, 0, 0, 124, 0], [], [0, 0, 0, 0, 0, 0, 0, 0]] = true := by decide +kernel
theorem lk68 : kAll "DoorPaints$Town" "costOf" cL68 := (kAll_gr (R := []) kAll_nil lk68_0)
theorem lk69_0 : kOKs "DoorPaints" "visit" [cL69_0] [[0, 340, 207, 0, 0, 650, 0]] = true := by decide +kernel
theorem lk69 : kAll "DoorPaints" "visit" cL69 := (kAll_gr (R := []) kAll_nil lk69_0)
theorem lk70_0 : kOKs "DoorPaints$Town" "receive" [cL70_0, cL70_1, cL70_2, cL70_3, cL70_4, cL70_5, cL70_6, cL70_7] [[0, 0, 0, 654, 0, 0, 0, 0, 0, 0, 0, 173], [0, 0, 0, 0, 176, 0, 0, 0, 0], [131, 0, 0, 0, 0, 0, 124, 0], [0, 0, 655, 0, 0, 0, 0], [0, 131, 0, 0, 131, 0, 162, 0], [0, 0, 659, 660, 0, 124], [0, 0, 0, 0, 0, 667, 668, 0], [659, 0]] = true := by decide +kernel
theorem lk70 : kAll "DoorPaints$Town" "receive" cL70 := (kAll_gr (R := []) kAll_nil lk70_0)
theorem lk71_0 : kOKs "DoorPaints$Door" "takesNoLayer" [cL71_0, cL71_1] [[0, 152, 0, 0, 0, 159, 0], [0, 0, 0, 0]] = true := by decide +kernel
theorem lk71 : kAll "DoorPaints$Door" "takesNoLayer" cL71 := (kAll_gr (R := []) kAll_nil lk71_0)
theorem lk72_0 : kOKs "DoorPaints$Visitor" "markSleeve" [cL72_0, cL72_1] [[0, 10003, 0, 0, 0, 132, 0, 0, 0, 0], [132, 0]] = true := by decide +kernel
theorem lk72 : kAll "DoorPaints$Visitor" "markSleeve" cL72 := (kAll_gr (R := []) kAll_nil lk72_0)
theorem lk73_0 : kOKs "DoorPaints" "isColour" [cL73_0] [[0, 0, 0, 0, 0, 0, 0, 0, 0]] = true := by decide +kernel
theorem lk73 : kAll "DoorPaints" "isColour" cL73 := (kAll_gr (R := []) kAll_nil lk73_0)
theorem lk74_0 : kOKs "DoorPaints$Door" "paintWith" [cL74_0, cL74_1, cL74_2, cL74_3] [[0, 606, 0, 0, 159, 0, 0, 0, 0], [0, 151, 0, 152, 0, 0, 0, 0, 0, 0], [0, 0, 0, 0, 0, 672, 0, 0, 0, 159], [0]] = true := by decide +kernel
theorem lk74 : kAll "DoorPaints$Door" "paintWith" cL74 := (kAll_gr (R := []) kAll_nil lk74_0)
theorem lk75_0 : kOKs "DoorPaints" "sky" [cL75_0, cL75_1, cL75_2] [[0, 0, 0, 0, 0, 0, 0, 0, 340, 207], [0, 0, 0, 677, 0, 340, 207], [693, 0]] = true := by decide +kernel
theorem lk75 : kAll "DoorPaints" "sky" cL75 := (kAll_gr (R := []) kAll_nil lk75_0)
theorem lk76_0 : kOKs "DoorPaints$Town" "weather" [cL76_0, cL76_1, cL76_2, cL76_3, cL76_4] [[0, 0, 0, 0, 185, 0, 0, 0], [], [0, 176, 0, 0, 0, 162, 0], [0, 176, 0, 0, 681, 0, 0, 176], [0, 0, 689, 0, 0, 0, 0]] = true := by decide +kernel
theorem lk76 : kAll "DoorPaints$Town" "weather" cL76 := (kAll_gr (R := []) kAll_nil lk76_0)
theorem lk77_0 : kOKs "DoorPaints$Door" "rainOn" [cL77_0, cL77_1, cL77_2, cL77_3] [[0, 152, 0, 0, 0, 0, 0, 0, 0, 0, 0], [0, 152, 0, 0, 0, 606, 0, 0, 0], [685, 0, 0, 0, 0, 0, 0, 672], [0, 0, 0, 159, 0]] = true := by decide +kernel
theorem lk77 : kAll "DoorPaints$Door" "rainOn" cL77 := (kAll_gr (R := []) kAll_nil lk77_0)
theorem lk78_0 : kOKs "DoorPaints$Door" "loseTop" [cL78_0, cL78_1] [[0, 152, 0, 0, 0, 152, 0, 0, 152], [0]] = true := by decide +kernel
theorem lk78 : kAll "DoorPaints$Door" "loseTop" cL78 := (kAll_gr (R := []) kAll_nil lk78_0)
theorem lk79_0 : kOKs "DoorPaints$Door" "shineOn" [cL79_0, cL79_1] [[0, 0, 0, 0, 0, 0, 606, 0, 0], [685, 0, 0, 0, 0, 159, 0]] = true := by decide +kernel
theorem lk79 : kAll "DoorPaints$Door" "shineOn" cL79 := (kAll_gr (R := []) kAll_nil lk79_0)
theorem lk80_0 : kOKs "DoorPaints$Town" "allLayers" [cL80_0, cL80_1] [[0, 0, 0, 0, 0, 0, 185, 0, 0, 0, 176], [0, 0, 155, 0, 0, 0, 0, 0, 0]] = true := by decide +kernel
theorem lk80 : kAll "DoorPaints$Town" "allLayers" cL80 := (kAll_gr (R := []) kAll_nil lk80_0)
theorem lk81_0 : kOKs "DoorPaints" "scrape" [cL81_0, cL81_1, cL81_2, cL81_3] [[0, 340, 207, 0, 628, 0, 0, 0], [0, 340, 207, 180, 0, 0, 0, 0, 154], [0, 0, 0, 0, 701, 0, 0, 161], [0, 633, 0]] = true := by decide +kernel
theorem lk81 : kAll "DoorPaints" "scrape" cL81 := (kAll_gr (R := []) kAll_nil lk81_0)
theorem lk82_0 : kOKs "DoorPaints" "alter" [cL82_0, cL82_1, cL82_2, cL82_3, cL82_4, cL82_5, cL82_6, cL82_7] [[0, 340, 207, 0, 619, 0, 0, 0], [0, 0, 0, 340, 207, 175, 0, 0], [0, 0, 0, 0, 0, 0, 0, 123], [0, 0, 0, 123, 0, 0, 0, 0, 0], [0, 0, 0, 0, 126, 0, 0, 0], [126, 0, 0, 0, 0, 0, 0, 0, 0], [0, 130, 0, 0, 0, 130, 0], [0, 0, 0, 0, 0, 0, 0, 133, 0]] = true := by decide +kernel
theorem lk82_1 : kOKs "DoorPaints" "alter" [cL82_8] [[0, 0, 133, 0, 0, 0, 0]] = true := by decide +kernel
theorem lk82 : kAll "DoorPaints" "alter" cL82 := (kAll_gr (R := cL82_8 ++ ([])) (kAll_gr (R := []) kAll_nil lk82_1) lk82_0)
theorem lk83_0 : kOKs "DoorPaints" "ought" [cL83_0, cL83_1, cL83_2, cL83_3] [[0, 340, 207, 0, 628, 0, 0, 710], [0, 0, 0, 0, 340, 207, 180], [0, 0, 0, 0, 711, 0, 0, 0, 0], [0, 0]] = true := by decide +kernel
theorem lk83 : kAll "DoorPaints" "ought" cL83 := (kAll_gr (R := []) kAll_nil lk83_0)
theorem lk84_0 : kOKs "DoorPaints" "plans" [cL84_0, cL84_1, cL84_2] [[0, 716, 0, 0, 340, 207, 0, 717], [0, 0, 0, 0, 340, 0, 718, 0], [0, 340, 211, 0, 0, 0]] = true := by decide +kernel
theorem lk84 : kAll "DoorPaints" "plans" cL84 := (kAll_gr (R := []) kAll_nil lk84_0)
theorem lk85_0 : kOKs "DoorPaints" "cut" [cL85_0, cL85_1, cL85_2] [[0, 0, 0, 0, 340, 211, 0, 0], [0, 0, 340, 211, 0, 0, 340, 0, 211], [0, 0]] = true := by decide +kernel
theorem lk85 : kAll "DoorPaints" "cut" cL85 := (kAll_gr (R := []) kAll_nil lk85_0)
theorem lk86_0 : kOKs "DoorPaints" "runs" [cL86_0, cL86_1, cL86_2, cL86_3, cL86_4] [[0, 0, 0, 0, 0, 0, 0, 0, 727, 0], [0, 0], [], [0, 745, 0, 0, 343, 598, 0, 0, 0, 0], [343, 693, 0, 0, 343, 749, 0]] = true := by decide +kernel
theorem lk86 : kAll "DoorPaints" "runs" cL86 := (kAll_gr (R := []) kAll_nil lk86_0)
theorem lk87_0 : kOKs "DoorPaints" "rehearse" [cL87_0, cL87_1] [[0, 343, 0, 340, 207, 731, 0, 0], [0, 340, 211, 732, 0]] = true := by decide +kernel
theorem lk87 : kAll "DoorPaints" "rehearse" cL87 := (kAll_gr (R := []) kAll_nil lk87_0)
theorem lk88_0 : kOKs "DoorPaints" "actInTrial" [cL88_0, cL88_1, cL88_2, cL88_3] [[0, 0, 0, 0, 0, 0, 0, 0, 0, 340], [211, 0, 0, 343, 0, 340], [209, 0, 0, 736, 0, 0, 0, 0], [0, 0, 0, 0, 0, 0]] = true := by decide +kernel
theorem lk88 : kAll "DoorPaints" "actInTrial" cL88 := (kAll_gr (R := []) kAll_nil lk88_0)
theorem lk89_0 : kOKs "DoorPaints$Town" "undergo" [cL89_0, cL89_1, cL89_2] [[0, 10002, 0, 0, 0, 740, 0, 0, 0, 0], [0, 0, 0, 0, 0, 741, 10004, 0], [0, 0, 0, 0]] = true := by decide +kernel
theorem lk89 : kAll "DoorPaints$Town" "undergo" cL89 := (kAll_gr (R := []) kAll_nil lk89_0)
theorem lk90_0 : kOKs "DoorPaints" "isRefusal" [cL90_0, cL90_1] [[0, 0, 0, 0, 0, 0, 0, 0, 0], [0, 0, 0, 0]] = true := by decide +kernel
theorem lk90 : kAll "DoorPaints" "isRefusal" cL90 := (kAll_gr (R := []) kAll_nil lk90_0)
theorem lk91_0 : kOKs "DoorPaints" "takenInTrial" [cL91_0, cL91_1] [[0, 340, 207, 611, 0, 343, 611], [0, 0]] = true := by decide +kernel
theorem lk91 : kAll "DoorPaints" "takenInTrial" cL91 := (kAll_gr (R := []) kAll_nil lk91_0)
theorem lk92_0 : kOKs "DoorPaints$Town" "markedBits" [cL92_0, cL92_1, cL92_2] [[0, 0, 0, 0, 0, 0, 181, 0, 0, 0, 173], [0, 0, 134, 0, 0, 0, 0, 0, 0], [0, 0, 0, 0, 0, 0]] = true := by decide +kernel
theorem lk92 : kAll "DoorPaints$Town" "markedBits" cL92 := (kAll_gr (R := []) kAll_nil lk92_0)
theorem lk93_0 : kOKs "DoorPaints" "ahead" [cL93_0, cL93_1, cL93_2] [[0, 340, 207, 0, 628, 0, 0, 0], [0, 727, 0, 0, 343, 180, 0, 0, 633], [0]] = true := by decide +kernel
theorem lk93 : kAll "DoorPaints" "ahead" cL93 := (kAll_gr (R := []) kAll_nil lk93_0)
