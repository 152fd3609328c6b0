/-! TABLES: the links stand in the tables (written by a program) -/
theorem lg0_0 : kAll "DoorPaintsLaw" "law" cG0_0 := kOK_of (by decide +kernel : kOK "DoorPaintsLaw" "law" cG0_0 [89, 0, 91, 0, 974, 0, 976, 0, 0, 0, 0, 0, 0, 0, 0, 0, 0, 0, 0, 0, 0, 0] = true)
theorem lg0_1 : kAll "DoorPaintsLaw" "law" cG0_1 := kOK_of (by decide +kernel : kOK "DoorPaintsLaw" "law" cG0_1 [0, 0, 0, 0, 0, 0, 378, 0, 0, 0, 0, 0, 0, 0, 1088, 0, 0, 0, 0, 0, 0, 0, 0, 386, 0, 0, 0, 0, 0, 0, 0, 1096, 0, 0, 0, 390, 0, 0, 1100, 0, 0, 0] = true)
theorem lg0_2 : kAll "DoorPaintsLaw" "law" cG0_2 := kOK_of (by decide +kernel : kOK "DoorPaintsLaw" "law" cG0_2 [586, 0, 0, 1170, 0, 0, 0, 0, 0, 0, 0, 0, 590, 0, 0, 0, 0, 0, 0, 0, 1174, 0, 0, 0, 0, 0, 0, 0, 0, 0, 0, 0, 0, 0, 615, 0, 0, 0, 0, 0, 0, 0, 0, 0, 0, 0, 0, 1209, 0, 0, 0, 0, 0, 0, 0, 0, 0, 0, 0, 0, 0, 624, 0, 0, 0, 0, 0, 0, 0, 0, 0, 0, 0, 0, 1226, 0, 0, 0, 0, 0, 0, 0, 0, 634, 0, 0, 0, 0, 0, 0, 0, 1235, 0, 0, 0, 0, 0, 0] = true)
theorem lg0_3 : kAll "DoorPaintsLaw" "law" cG0_3 := kOK_of (by decide +kernel : kOK "DoorPaintsLaw" "law" cG0_3 [0, 0, 0, 0, 0, 0, 0, 638, 0, 0, 0, 0, 0, 0, 0, 0, 0, 0, 0, 0, 1239, 0, 0, 0, 0, 0, 0, 0, 0, 0, 0, 0, 0, 0, 646, 0, 0, 0, 0, 0, 0, 0, 0, 0, 0, 0, 0, 1247, 0, 0, 0, 0, 0, 0, 0, 0, 673, 0, 0, 0, 0, 0, 0, 0, 1267, 0, 0, 0, 0, 0, 0, 0, 0, 697, 0, 0, 0, 0, 0, 0, 0, 1284, 0, 0, 0, 0, 0, 0, 0, 0, 0, 0, 0, 0, 0, 0, 0, 0, 0, 0, 702, 0] = true)
theorem lg0_4 : kAll "DoorPaintsLaw" "law" cG0_4 := kOK_of (by decide +kernel : kOK "DoorPaintsLaw" "law" cG0_4 [0, 0, 0, 0, 0, 0, 0, 0, 0, 0, 0, 0, 0, 0, 0, 0, 1288, 0, 0, 0, 0, 0, 0, 0, 0, 0, 0, 0, 0, 0, 0, 0, 0, 0, 0, 0, 0, 0, 0, 706, 0, 0, 0, 0, 0, 0, 0, 0, 0, 0, 0, 0, 0, 0, 0, 0, 0, 0, 0, 0, 0, 1299, 0, 0, 0, 0, 0, 0, 0, 0, 712, 0, 0, 0, 0, 0, 0, 0, 1303, 0, 0, 0, 0, 0, 0, 0, 0, 719, 0, 0, 0, 0, 0, 0, 0, 1311, 0, 0] = true)
theorem lg0_5 : kAll "DoorPaintsLaw" "law" cG0_5 := kOK_of (by decide +kernel : kOK "DoorPaintsLaw" "law" cG0_5 [0, 0, 0, 0, 0, 0, 723, 0, 0, 0, 0, 0, 0, 0, 1315, 0, 0, 0, 0, 0, 0, 0, 0, 753, 0, 0, 0, 0, 0, 0, 0, 1323, 0, 0, 0, 0, 0, 0, 0, 0, 757, 0, 0, 0, 0, 0, 0, 0, 1331, 0, 0, 0, 0, 0, 0, 0, 0, 0, 0, 0, 0, 0, 763, 0, 0, 0, 0, 0, 0, 0, 0, 0, 0, 0, 0, 1335, 0, 0, 0, 0, 0, 0, 0, 0, 822, 0, 0, 0, 0, 0, 0, 0, 1366, 0, 0, 0, 0, 0] = true)
theorem lg0_6 : kAll "DoorPaintsLaw" "law" cG0_6 := kOK_of (by decide +kernel : kOK "DoorPaintsLaw" "law" cG0_6 [0, 0, 0, 830, 0, 0, 0, 0, 0, 0, 0, 1370, 0, 0, 0, 0, 0, 0, 0, 0, 0, 0, 0, 0, 0, 0, 0, 0, 0, 0, 838, 0, 0, 0, 0, 0, 0, 0, 0, 0, 0, 0, 0, 0, 0, 0, 0, 0, 1374, 0, 0, 0, 0, 0, 0, 0, 0, 846, 0, 0, 0, 0, 0, 0, 0, 1378, 0, 0, 0, 0, 0, 0, 0, 0, 850, 0, 0, 0, 0, 0, 0, 0, 1382, 0, 0, 0, 864, 0, 0, 1390, 0, 0, 0, 0, 0, 0, 0, 0] = true)
theorem lg0_7 : kAll "DoorPaintsLaw" "law" cG0_7 := kOK_of (by decide +kernel : kOK "DoorPaintsLaw" "law" cG0_7 [868, 0, 0, 0, 0, 0, 0, 0, 1394, 0, 0, 0, 0, 0, 0, 0, 0, 0, 0, 0, 0, 0, 0, 0, 0, 0, 0, 880, 0, 0, 0, 0, 0, 0, 0, 0, 0, 0, 0, 0, 0, 0, 0, 0, 0, 1402, 0, 0, 0, 0, 0, 0, 0, 0, 0, 0, 0, 0, 0, 904, 0, 0, 0, 0, 0, 0, 0, 0, 0, 0, 0, 0, 1418, 0, 0, 0, 0, 0, 0, 0, 0, 0, 0, 0, 0, 0, 0, 0, 0, 0, 0, 908, 0, 0, 0, 0, 0, 0, 0, 0, 0, 0, 0, 0, 0, 0, 0, 0] = true)
theorem lg0_8 : kAll "DoorPaintsLaw" "law" cG0_8 := kOK_of (by decide +kernel : kOK "DoorPaintsLaw" "law" cG0_8 [0, 1422, 0, 0, 0, 0, 0, 0, 0, 0, 919, 0, 0, 0, 0, 0, 0, 0, 1428, 0, 0, 0, 0, 0, 0, 0, 0, 923, 0, 0, 0, 0, 0, 0, 0, 1436, 0, 0, 0, 0, 0, 0, 0, 0, 0, 0, 0, 0, 0, 0, 0, 0, 0, 0, 927, 0, 0, 0, 0, 0, 0, 0, 0, 0, 0, 0, 0, 0, 0, 0, 0, 0, 1440, 0, 0, 0, 0, 0, 0, 0, 0, 0, 0, 0, 0, 0, 0, 0, 0, 0, 0, 941, 0, 0, 0, 0, 0, 0, 0, 0, 0, 0, 0, 0] = true)
theorem lg0_9 : kAll "DoorPaintsLaw" "law" cG0_9 := kOK_of (by decide +kernel : kOK "DoorPaintsLaw" "law" cG0_9 [0, 0, 0, 0, 0, 1447, 0, 0, 0, 0, 0, 0, 0, 0, 0, 0, 0, 0, 0, 0, 0, 0, 0, 0, 0, 0, 0, 0, 0, 953, 0, 0, 0, 0, 0, 0, 0, 0, 0, 0, 0, 0, 0, 0, 0, 0, 0, 0, 0, 0, 0, 0, 1451, 0, 0, 0, 966, 0, 0, 1457, 0, 0, 0, 0, 0, 0, 0, 0, 970, 0, 0, 0, 0, 0, 0, 1461, 0, 0, 0, 0, 0, 0, 0] = true)
theorem lk0 : kAll "DoorPaintsLaw" "law" cL0 := kAll_app lg0_0 (kAll_app lg0_1 (kAll_app lg0_2 (kAll_app lg0_3 (kAll_app lg0_4 (kAll_app lg0_5 (kAll_app lg0_6 (kAll_app lg0_7 (kAll_app lg0_8 (kAll_app lg0_9 kAll_nil)))))))))
theorem lg1_0 : kAll "DoorPaints" "<init>" cG1_0 := kOK_of (by decide +kernel : kOK "DoorPaints" "<init>" cG1_0 [0, 94, 0, 97, 0, 99, 338, 0, 0, 338, 264, 339, 0, 281, 0, 282, 340, 0, 0, 281, 341, 0, 0, 0, 0, 0, 0, 341, 0, 281, 0, 282, 0, 0, 0, 0, 0, 0, 342, 0, 284, 0, 285, 343, 0, 286, 0, 288, 344, 0, 0, 0, 345, 0, 0, 319, 346, 0, 0, 0, 0, 0, 0, 346, 0, 319] = true)
theorem lg1_1 : kAll "DoorPaints" "<init>" cG1_1 := kOK_of (by decide +kernel : kOK "DoorPaints" "<init>" cG1_1 [0, 322, 0, 0, 0, 0] = true)
theorem lk1 : kAll "DoorPaints" "<init>" cL1 := kAll_app lg1_0 (kAll_app lg1_1 kAll_nil)
theorem lg2_0 : kAll "DoorPaints$Reader" "<init>" cG2_0 := kOK_of (by decide +kernel : kOK "DoorPaints$Reader" "<init>" cG2_0 [0, 102, 0, 103, 0, 105, 262, 0, 232, 0, 234, 265, 0] = true)
theorem lk2 : kAll "DoorPaints$Reader" "<init>" cL2 := kAll_app lg2_0 kAll_nil
theorem lg3_0 : kAll "DoorPaints$Told" "<init>" cG3_0 := kOK_of (by decide +kernel : kOK "DoorPaints$Told" "<init>" cG3_0 [0, 108, 0, 109, 0, 111, 205, 0, 0, 0, 208, 0, 0, 0, 212, 0, 0, 0, 213, 0, 0, 0, 214, 0] = true)
theorem lk3 : kAll "DoorPaints$Told" "<init>" cL3 := kAll_app lg3_0 kAll_nil
theorem lg4_0 : kAll "DoorPaints$Town" "<init>" cG4_0 := kOK_of (by decide +kernel : kOK "DoorPaints$Town" "<init>" cG4_0 [0, 114, 0, 0, 115, 173, 0, 0, 0, 0, 0, 0, 173, 0, 115, 0, 10000, 0, 0, 0, 0, 0, 144, 176, 0, 0, 0, 0, 0, 0, 176, 0, 144, 0, 147, 0, 0, 0, 0, 0, 190, 0] = true)
theorem lk4 : kAll "DoorPaints$Town" "<init>" cL4 := kAll_app lg4_0 kAll_nil
theorem lg5_0 : kAll "DoorPaints$Visitor" "<init>" cG5_0 := kOK_of (by decide +kernel : kOK "DoorPaints$Visitor" "<init>" cG5_0 [0, 121, 0] = true)
theorem lk5 : kAll "DoorPaints$Visitor" "<init>" cL5 := kAll_app lg5_0 kAll_nil
theorem lg6_0 : kAll "DoorPaints$Door" "<init>" cG6_0 := kOK_of (by decide +kernel : kOK "DoorPaints$Door" "<init>" cG6_0 [0, 150, 0, 0, 0, 151, 0] = true)
theorem lk6 : kAll "DoorPaints$Door" "<init>" cL6 := kAll_app lg6_0 kAll_nil
theorem lg7_0 : kAll "DoorPaints$Tape" "<init>" cG7_0 := kOK_of (by decide +kernel : kOK "DoorPaints$Tape" "<init>" cG7_0 [0, 237, 0, 0, 0, 238, 0] = true)
theorem lk7 : kAll "DoorPaints$Tape" "<init>" cL7 := kAll_app lg7_0 kAll_nil
theorem lg8_0 : kAll "DoorPaints$Search" "<init>" cG8_0 := kOK_of (by decide +kernel : kOK "DoorPaints$Search" "<init>" cG8_0 [0, 291, 0, 292, 0, 293, 294, 0, 0, 0, 295, 0, 0, 0, 296, 0] = true)
theorem lk8 : kAll "DoorPaints$Search" "<init>" cL8 := kAll_app lg8_0 kAll_nil
theorem lg9_0 : kAll "DoorPaints$Sheet" "<init>" cG9_0 := kOK_of (by decide +kernel : kOK "DoorPaints$Sheet" "<init>" cG9_0 [0, 325, 0, 0, 0, 326, 0, 0, 329, 0] = true)
theorem lk9 : kAll "DoorPaints$Sheet" "<init>" cL9 := kAll_app lg9_0 kAll_nil
theorem lg10_0 : kAll "DoorPaints" "feed" cG10_0 := kOK_of (by decide +kernel : kOK "DoorPaints" "feed" cG10_0 [0, 0, 0, 0, 0, 0, 0, 0, 339, 0, 382, 0, 0, 339, 240, 0, 0, 0] = true)
theorem lk10 : kAll "DoorPaints" "feed" cL10 := kAll_app lg10_0 kAll_nil
theorem lg11_0 : kAll "DoorPaints$Tape" "append" cG11_0 := kOK_of (by decide +kernel : kOK "DoorPaints$Tape" "append" cG11_0 [0, 239, 0, 0, 0, 0, 0, 238, 0, 239, 0, 0, 0, 0, 239, 0, 0, 239, 0, 0] = true)
theorem lk11 : kAll "DoorPaints$Tape" "append" cL11 := kAll_app lg11_0 kAll_nil
theorem lg12_0 : kAll "DoorPaints" "end" cG12_0 := kOK_of (by decide +kernel : kOK "DoorPaints" "end" cG12_0 [0, 0, 0, 0, 339, 240, 0, 0, 0, 0, 339, 240, 0, 0, 339, 0, 240, 0, 0] = true)
theorem lk12 : kAll "DoorPaints" "end" cL12 := kAll_app lg12_0 kAll_nil
theorem lg13_0 : kAll "DoorPaints" "text" cG13_0 := kOK_of (by decide +kernel : kOK "DoorPaints" "text" cG13_0 [0, 338, 394, 0, 0, 339, 0, 240, 0, 0, 338, 267, 347, 0, 347, 0, 0, 340, 0, 338, 263, 569, 0, 0, 0, 0, 0, 0, 342, 0, 0, 0, 0, 0, 0, 0] = true)
theorem lk13 : kAll "DoorPaints" "text" cL13 := kAll_app lg13_0 kAll_nil
theorem lg14_0 : kAll "DoorPaints$Reader" "readAll" cG14_0 := kOK_of (by decide +kernel : kOK "DoorPaints$Reader" "readAll" cG14_0 [0, 0, 266, 0, 0, 269, 0, 262, 398, 0, 265, 410, 0, 0, 0, 0, 0, 0, 266, 0, 0, 265, 242, 0, 0, 426, 0, 0, 0, 266, 0, 0, 262, 552, 0, 0, 0, 266, 0, 0, 265, 241, 268, 0, 266, 0, 0, 0, 0, 0, 268, 0, 0] = true)
theorem lk14 : kAll "DoorPaints$Reader" "readAll" cL14 := kAll_app lg14_0 kAll_nil
theorem lg15_0 : kAll "DoorPaints$Told" "clear" cG15_0 := kOK_of (by decide +kernel : kOK "DoorPaints$Told" "clear" cG15_0 [0, 205, 402, 0, 0, 210, 0, 0, 215, 0] = true)
theorem lk15 : kAll "DoorPaints$Told" "clear" cL15 := kAll_app lg15_0 kAll_nil
theorem lg16_0 : kAll "DoorPaints$Town" "clear" cG16_0 := kOK_of (by decide +kernel : kOK "DoorPaints$Town" "clear" cG16_0 [0, 0, 181, 0, 0, 185, 0, 0, 0, 0, 0, 0, 176, 0, 0, 406, 0, 0, 0] = true)
theorem lk16 : kAll "DoorPaints$Town" "clear" cL16 := kAll_app lg16_0 kAll_nil
theorem lg17_0 : kAll "DoorPaints$Door" "clear" cG17_0 := kOK_of (by decide +kernel : kOK "DoorPaints$Door" "clear" cG17_0 [0, 0, 152, 0, 0, 156, 0, 0, 159, 0] = true)
theorem lk17 : kAll "DoorPaints$Door" "clear" cL17 := kAll_app lg17_0 kAll_nil
theorem lg18_0 : kAll "DoorPaints$Tape" "rewind" cG18_0 := kOK_of (by decide +kernel : kOK "DoorPaints$Tape" "rewind" cG18_0 [0, 0, 246, 0, 414, 0] = true)
theorem lk18 : kAll "DoorPaints$Tape" "rewind" cL18 := kAll_app lg18_0 kAll_nil
theorem lg19_0 : kAll "DoorPaints$Tape" "advance" cG19_0 := kOK_of (by decide +kernel : kOK "DoorPaints$Tape" "advance" cG19_0 [0, 246, 0, 239, 0, 0, 238, 0, 246, 0, 0, 0, 0, 0, 246, 0, 0, 246, 0, 0, 0, 246, 244, 0, 246, 0, 239, 0, 0, 0, 243, 0, 0, 0, 0, 418, 0, 0, 0, 243, 0, 0, 0, 0, 418, 0, 0, 422, 0, 0, 0, 238, 0, 246, 0, 0, 0, 0, 0, 0, 243, 0, 0, 246] = true)
theorem lg19_1 : kAll "DoorPaints$Tape" "advance" cG19_1 := kOK_of (by decide +kernel : kOK "DoorPaints$Tape" "advance" cG19_1 [0, 0, 246, 0] = true)
theorem lk19 : kAll "DoorPaints$Tape" "advance" cL19 := kAll_app lg19_0 (kAll_app lg19_1 kAll_nil)
theorem lg20_0 : kAll "DoorPaints$Tape" "skip" cG20_0 := kOK_of (by decide +kernel : kOK "DoorPaints$Tape" "skip" cG20_0 [0, 246, 0, 239, 0, 0, 238, 0, 246, 0, 0, 0, 0, 238, 0, 246, 0, 0, 0, 0, 0, 246, 0, 0, 246, 0, 0, 246, 0, 244, 0, 0, 0, 0, 0] = true)
theorem lk20 : kAll "DoorPaints$Tape" "skip" cL20 := kAll_app lg20_0 kAll_nil
theorem lg21_0 : kAll "DoorPaints$Tape" "takeNumber" cG21_0 := kOK_of (by decide +kernel : kOK "DoorPaints$Tape" "takeNumber" cG21_0 [0, 0, 246, 0, 244, 0, 0, 0, 0, 0, 0, 243, 0, 0, 248, 0, 244, 0, 0, 0, 246, 0, 0, 243, 0, 0, 0, 0, 248, 0, 0, 0, 238, 0, 0, 0, 0, 0, 248, 0, 0, 0] = true)
theorem lk21 : kAll "DoorPaints$Tape" "takeNumber" cL21 := kAll_app lg21_0 kAll_nil
theorem lg22_0 : kAll "DoorPaints$Reader" "readLine" cG22_0 := kOK_of (by decide +kernel : kOK "DoorPaints$Reader" "readLine" cG22_0 [0, 0, 430, 0, 0, 0, 265, 20000, 439, 0, 0, 491, 0, 0, 265, 20001, 439, 0, 0, 509, 0, 0, 265, 20002, 439, 0, 0, 522, 0, 0, 0, 536, 544, 0] = true)
theorem lk22 : kAll "DoorPaints$Reader" "readLine" cL22 := kAll_app lg22_0 kAll_nil
theorem lg23_0 : kAll "DoorPaints$Reader" "stands" cG23_0 := kOK_of (by decide +kernel : kOK "DoorPaints$Reader" "stands" cG23_0 [0, 265, 242, 0, 0, 0, 0, 0, 0, 265, 242, 0, 0, 0, 0, 0, 434, 0, 0] = true)
theorem lk23 : kAll "DoorPaints$Reader" "stands" cL23 := kAll_app lg23_0 kAll_nil
theorem lg24_0 : kAll "DoorPaints$Reader" "fail" cG24_0 := kOK_of (by decide +kernel : kOK "DoorPaints$Reader" "fail" cG24_0 [0, 0, 266, 0, 0, 265, 245, 268, 0] = true)
theorem lk24 : kAll "DoorPaints$Reader" "fail" cL24 := kAll_app lg24_0 kAll_nil
theorem lg25_0 : kAll "DoorPaints$Tape" "nameIs" cG25_0 := kOK_of (by decide +kernel : kOK "DoorPaints$Tape" "nameIs" cG25_0 [0, 243, 0, 0, 0, 246, 0, 244, 0, 0, 443, 0, 0, 0, 0, 0, 0, 0, 443, 0, 0, 238, 0, 244, 0, 0, 0, 0, 0, 453, 0, 0, 0, 0, 0, 0, 0] = true)
theorem lk25 : kAll "DoorPaints$Tape" "nameIs" cL25 := kAll_app lg25_0 kAll_nil
theorem lg26_0 : kAll "java/lang/String" "length" cG26_0 := kOK_of (by decide +kernel : kOK "java/lang/String" "length" cG26_0 [0, 1465, 0, 0, 447, 0, 0] = true)
theorem lk26 : kAll "java/lang/String" "length" cL26 := kAll_app lg26_0 kAll_nil
theorem lg27_0 : kAll "java/lang/String" "coder" cG27_0 := kOK_of (by decide +kernel : kOK "java/lang/String" "coder" cG27_0 [451, 0, 0, 1466, 0, 0, 0] = true)
theorem lk27 : kAll "java/lang/String" "coder" cL27 := kAll_app lg27_0 kAll_nil
theorem lg28_0 : kAll "java/lang/String" "charAt" cG28_0 := kOK_of (by decide +kernel : kOK "java/lang/String" "charAt" cG28_0 [0, 457, 0, 0, 1465, 0, 461, 0, 0, 1465, 0, 0] = true)
theorem lk28 : kAll "java/lang/String" "charAt" cL28 := kAll_app lg28_0 kAll_nil
theorem lg29_0 : kAll "java/lang/String" "isLatin1" cG29_0 := kOK_of (by decide +kernel : kOK "java/lang/String" "isLatin1" cG29_0 [451, 0, 0, 1466, 0, 0, 0, 0, 0] = true)
theorem lk29 : kAll "java/lang/String" "isLatin1" cL29 := kAll_app lg29_0 kAll_nil
theorem lg30_0 : kAll "java/lang/StringLatin1" "charAt" cG30_0 := kOK_of (by decide +kernel : kOK "java/lang/StringLatin1" "charAt" cG30_0 [0, 0, 0, 464, 0, 0, 0, 0, 0, 0, 0] = true)
theorem lk30 : kAll "java/lang/StringLatin1" "charAt" cL30 := kAll_app lg30_0 kAll_nil
theorem lg31_0 : kAll "java/lang/String" "checkIndex" cG31_0 := kOK_of (by decide +kernel : kOK "java/lang/String" "checkIndex" cG31_0 [0, 0, 467, 469, 0, 0] = true)
theorem lk31 : kAll "java/lang/String" "checkIndex" cL31 := kAll_app lg31_0 kAll_nil
theorem lg32_0 : kAll "jdk/internal/util/Preconditions" "checkIndex" cG32_0 := kOK_of (by decide +kernel : kOK "jdk/internal/util/Preconditions" "checkIndex" cG32_0 [0, 0, 0, 0, 0, 0, 0, 0, 0, 0] = true)
theorem lk32 : kAll "jdk/internal/util/Preconditions" "checkIndex" cL32 := kAll_app lg32_0 kAll_nil
theorem lg33_0 : kAll "DoorPaints$Reader" "readDoor" cG33_0 := kOK_of (by decide +kernel : kOK "DoorPaints$Reader" "readDoor" cG33_0 [0, 262, 206, 186, 0, 0, 0, 0, 434, 0, 0, 262, 206, 178, 0, 262, 206, 186, 0, 0, 0, 262, 206, 0, 186, 0, 0, 186, 0, 265, 495, 0, 0, 0, 0, 0, 0, 265, 242, 0, 0, 0, 0, 496, 0, 0, 0, 0, 265, 247, 500, 0, 0, 0, 434, 0, 0, 265, 495, 0, 0, 0, 504] = true)
theorem lg33_1 : kAll "DoorPaints$Reader" "readDoor" cG33_1 := kOK_of (by decide +kernel : kOK "DoorPaints$Reader" "readDoor" cG33_1 [0] = true)
theorem lk33 : kAll "DoorPaints$Reader" "readDoor" cL33 := kAll_app lg33_0 (kAll_app lg33_1 kAll_nil)
theorem lg34_0 : kAll "DoorPaints$Reader" "numberStands" cG34_0 := kOK_of (by decide +kernel : kOK "DoorPaints$Reader" "numberStands" cG34_0 [0, 0, 430, 0, 0, 0, 0, 265, 247, 0, 0, 0, 0, 434, 0, 0, 0, 0] = true)
theorem lk34 : kAll "DoorPaints$Reader" "numberStands" cL34 := kAll_app lg34_0 kAll_nil
theorem lg35_0 : kAll "DoorPaints$Door" "addLayer" cG35_0 := kOK_of (by decide +kernel : kOK "DoorPaints$Door" "addLayer" cG35_0 [0, 152, 0, 0, 0, 0, 0, 151, 0, 152, 0, 0, 0, 0, 152, 0, 0, 152, 0, 0] = true)
theorem lk35 : kAll "DoorPaints$Door" "addLayer" cL35 := kAll_app lg35_0 kAll_nil
theorem lg36_0 : kAll "DoorPaints$Reader" "endLine" cG36_0 := kOK_of (by decide +kernel : kOK "DoorPaints$Reader" "endLine" cG36_0 [0, 0, 430, 0, 0, 265, 495, 0] = true)
theorem lk36 : kAll "DoorPaints$Reader" "endLine" cL36 := kAll_app lg36_0 kAll_nil
theorem lg37_0 : kAll "DoorPaints$Reader" "readNot" cG37_0 := kOK_of (by decide +kernel : kOK "DoorPaints$Reader" "readNot" cG37_0 [0, 265, 495, 0, 0, 496, 0, 0, 0, 262, 206, 178, 0, 265, 247, 0, 0, 0, 265, 495, 0, 0, 496, 0, 0, 0, 0, 265, 247, 513, 0, 0, 0, 434, 0, 0, 0, 265, 247, 0, 517, 0, 265, 495, 0, 504, 0] = true)
theorem lk37 : kAll "DoorPaints$Reader" "readNot" cL37 := kAll_app lg37_0 kAll_nil
theorem lg38_0 : kAll "DoorPaints$Door" "forbids" cG38_0 := kOK_of (by decide +kernel : kOK "DoorPaints$Door" "forbids" cG38_0 [0, 156, 0, 0, 0, 0, 0, 0, 0, 0, 0, 0] = true)
theorem lk38 : kAll "DoorPaints$Door" "forbids" cL38 := kAll_app lg38_0 kAll_nil
theorem lg39_0 : kAll "DoorPaints$Door" "forbid" cG39_0 := kOK_of (by decide +kernel : kOK "DoorPaints$Door" "forbid" cG39_0 [0, 0, 0, 0, 0, 0, 0, 0, 156, 0, 0, 0, 0, 156, 0, 0, 0, 0, 156, 0] = true)
theorem lk39 : kAll "DoorPaints$Door" "forbid" cL39 := kAll_app lg39_0 kAll_nil
theorem lg40_0 : kAll "DoorPaints$Reader" "readPlan" cG40_0 := kOK_of (by decide +kernel : kOK "DoorPaints$Reader" "readPlan" cG40_0 [0, 269, 0, 0, 0, 434, 0, 0, 0, 269, 0, 265, 495, 0, 0, 0, 0, 0, 0, 265, 242, 0, 0, 0, 265, 247, 10001, 0, 0, 0, 434, 0, 0, 262, 0, 265, 247, 532, 0, 0, 0, 434, 0, 0, 265, 495, 0, 0, 0, 504, 0] = true)
theorem lk40 : kAll "DoorPaints$Reader" "readPlan" cL40 := kAll_app lg40_0 kAll_nil
theorem lg41_0 : kAll "DoorPaints" "isAct" cG41_0 := kOK_of (by decide +kernel : kOK "DoorPaints" "isAct" cG41_0 [0, 0, 0, 0, 0, 0, 0, 0, 0, 0, 0, 0, 0, 0, 0, 0, 0, 0, 0, 529, 0, 0, 0, 0, 0] = true)
theorem lk41 : kAll "DoorPaints" "isAct" cL41 := kAll_app lg41_0 kAll_nil
theorem lg42_0 : kAll "DoorPaints" "isSkyAct" cG42_0 := kOK_of (by decide +kernel : kOK "DoorPaints" "isSkyAct" cG42_0 [0, 0, 0, 0, 0, 0, 0, 0, 0, 0] = true)
theorem lk42 : kAll "DoorPaints" "isSkyAct" cL42 := kAll_app lg42_0 kAll_nil
theorem lg43_0 : kAll "DoorPaints$Told" "addAct" cG43_0 := kOK_of (by decide +kernel : kOK "DoorPaints$Told" "addAct" cG43_0 [0, 210, 0, 0, 0, 0, 0, 208, 0, 210, 0, 0, 0, 0, 210, 0, 0, 210, 0, 0] = true)
theorem lk43 : kAll "DoorPaints$Told" "addAct" cL43 := kAll_app lg43_0 kAll_nil
theorem lg44_0 : kAll "DoorPaints$Reader" "kindNamed" cG44_0 := kOK_of (by decide +kernel : kOK "DoorPaints$Reader" "kindNamed" cG44_0 [0, 265, 20003, 439, 0, 0, 0, 0, 265, 20004, 439, 0, 0, 0, 0, 265, 20005, 439, 0, 0, 0, 0, 265, 20006, 439, 0, 0, 0, 0, 0] = true)
theorem lk44 : kAll "DoorPaints$Reader" "kindNamed" cL44 := kAll_app lg44_0 kAll_nil
theorem lg45_0 : kAll "DoorPaints$Reader" "readVisitor" cG45_0 := kOK_of (by decide +kernel : kOK "DoorPaints$Reader" "readVisitor" cG45_0 [0, 0, 0, 0, 0, 434, 0, 0, 262, 206, 182, 0, 0, 0, 0, 434, 0, 0, 265, 495, 0, 0, 496, 0, 0, 0, 265, 247, 0, 0, 265, 495, 0, 0, 496, 0, 0, 0, 262, 206, 0, 0, 0, 265, 247, 548, 0, 265, 495, 0, 504, 0] = true)
theorem lk45 : kAll "DoorPaints$Reader" "readVisitor" cL45 := kAll_app lg45_0 kAll_nil
theorem lg46_0 : kAll "DoorPaints$Town" "addVisitor" cG46_0 := kOK_of (by decide +kernel : kOK "DoorPaints$Town" "addVisitor" cG46_0 [0, 181, 0, 0, 0, 173, 0, 181, 0, 0, 0, 0, 124, 0, 0, 127, 0, 0, 131, 0, 0, 134, 0, 0, 181, 0, 0, 181, 0] = true)
theorem lk46 : kAll "DoorPaints$Town" "addVisitor" cL46 := kAll_app lg46_0 kAll_nil
theorem lg47_0 : kAll "DoorPaints$Told" "isWhole" cG47_0 := kOK_of (by decide +kernel : kOK "DoorPaints$Told" "isWhole" cG47_0 [0, 0, 0, 0, 210, 0, 0, 205, 0, 208, 0, 0, 556, 0, 0, 0, 0, 0, 0, 205, 189, 0, 0, 0, 0, 0, 205, 177, 0, 0, 157, 0, 0, 0, 0, 0, 0, 0] = true)
theorem lk47 : kAll "DoorPaints$Told" "isWhole" cL47 := kAll_app lg47_0 kAll_nil
theorem lg48_0 : kAll "DoorPaints$Town" "knows" cG48_0 := kOK_of (by decide +kernel : kOK "DoorPaints$Town" "knows" cG48_0 [0, 10002, 0, 0, 0, 0, 0, 561, 0, 0, 0, 0, 0, 565, 0, 0, 0, 0, 0] = true)
theorem lk48 : kAll "DoorPaints$Town" "knows" cL48 := kAll_app lg48_0 kAll_nil
theorem lg49_0 : kAll "DoorPaints$Town" "hasVisitor" cG49_0 := kOK_of (by decide +kernel : kOK "DoorPaints$Town" "hasVisitor" cG49_0 [0, 0, 0, 0, 181, 0, 0, 0, 0, 0] = true)
theorem lk49 : kAll "DoorPaints$Town" "hasVisitor" cL49 := kAll_app lg49_0 kAll_nil
theorem lg50_0 : kAll "DoorPaints$Town" "hasDoor" cG50_0 := kOK_of (by decide +kernel : kOK "DoorPaints$Town" "hasDoor" cG50_0 [0, 0, 0, 0, 185, 0, 0, 0, 0, 0] = true)
theorem lk50 : kAll "DoorPaints$Town" "hasDoor" cL50 := kAll_app lg50_0 kAll_nil
theorem lg51_0 : kAll "DoorPaints$Told" "become" cG51_0 := kOK_of (by decide +kernel : kOK "DoorPaints$Told" "become" cG51_0 [0, 205, 0, 205, 573, 0, 0, 210, 210, 0, 0, 0, 0, 210, 0, 0, 208, 0, 0, 208, 0, 0, 0, 0, 0, 0, 0, 215, 215, 0, 0, 0, 0, 215, 0, 0, 212, 0, 0, 212, 0, 0, 0, 0, 213, 0, 0, 213, 0, 0, 0, 0, 214, 0, 0, 214, 0, 0, 0, 0, 0, 0] = true)
theorem lk51 : kAll "DoorPaints$Told" "become" cL51 := kAll_app lg51_0 kAll_nil
theorem lg52_0 : kAll "DoorPaints$Town" "become" cG52_0 := kOK_of (by decide +kernel : kOK "DoorPaints$Town" "become" cG52_0 [0, 0, 181, 181, 0, 0, 0, 0, 181, 0, 0, 173, 0, 0, 0, 173, 0, 0, 577, 0, 0, 0, 0, 185, 185, 0, 0, 0, 0, 185, 0, 0, 176, 0, 0, 0, 176, 0, 0, 581, 0, 0, 0, 0, 190, 0] = true)
theorem lk52 : kAll "DoorPaints$Town" "become" cL52 := kAll_app lg52_0 kAll_nil
theorem lg53_0 : kAll "DoorPaints$Visitor" "become" cG53_0 := kOK_of (by decide +kernel : kOK "DoorPaints$Visitor" "become" cG53_0 [0, 0, 122, 122, 0, 0, 125, 125, 0, 0, 128, 128, 0, 0, 132, 132, 0] = true)
theorem lk53 : kAll "DoorPaints$Visitor" "become" cL53 := kAll_app lg53_0 kAll_nil
theorem lg54_0 : kAll "DoorPaints$Door" "become" cG54_0 := kOK_of (by decide +kernel : kOK "DoorPaints$Door" "become" cG54_0 [0, 0, 0, 0, 152, 0, 0, 151, 0, 0, 151, 0, 0, 0, 0, 0, 0, 0, 152, 152, 0, 0, 156, 156, 0, 0, 159, 159, 0] = true)
theorem lk54 : kAll "DoorPaints$Door" "become" cL54 := kAll_app lg54_0 kAll_nil
theorem lg55_0 : kAll "DoorPaints" "fault" cG55_0 := kOK_of (by decide +kernel : kOK "DoorPaints" "fault" cG55_0 [0, 347, 0] = true)
theorem lk55 : kAll "DoorPaints" "fault" cL55 := kAll_app lg55_0 kAll_nil
theorem lg56_0 : kAll "DoorPaints" "rule" cG56_0 := kOK_of (by decide +kernel : kOK "DoorPaints" "rule" cG56_0 [0, 0, 0, 340, 207, 184, 0, 0, 340, 207, 188, 0, 0, 340, 211, 0, 0, 340, 207, 594, 0, 0, 340, 207, 598, 0, 0, 340, 207, 611, 0, 0, 0] = true)
theorem lk56 : kAll "DoorPaints" "rule" cL56 := kAll_app lg56_0 kAll_nil
theorem lg57_0 : kAll "DoorPaints$Town" "wetBits" cG57_0 := kOK_of (by decide +kernel : kOK "DoorPaints$Town" "wetBits" cG57_0 [0, 0, 0, 0, 0, 0, 185, 0, 0, 0, 176, 0, 0, 162, 0, 0, 0, 0, 0, 0, 0, 0, 0, 0, 0, 0] = true)
theorem lk57 : kAll "DoorPaints$Town" "wetBits" cL57 := kAll_app lg57_0 kAll_nil
theorem lg58_0 : kAll "DoorPaints$Town" "wrongBits" cG58_0 := kOK_of (by decide +kernel : kOK "DoorPaints$Town" "wrongBits" cG58_0 [0, 0, 0, 0, 0, 0, 185, 0, 0, 0, 176, 0, 0, 602, 0, 0, 0, 0, 0, 0, 0, 0, 0, 0, 0, 0] = true)
theorem lk58 : kAll "DoorPaints$Town" "wrongBits" cL58 := kAll_app lg58_0 kAll_nil
theorem lg59_0 : kAll "DoorPaints$Door" "isWrong" cG59_0 := kOK_of (by decide +kernel : kOK "DoorPaints$Door" "isWrong" cG59_0 [0, 606, 0, 0, 0, 0, 0, 0, 610, 0, 0, 0, 0, 0] = true)
theorem lk59 : kAll "DoorPaints$Door" "isWrong" cL59 := kAll_app lg59_0 kAll_nil
theorem lg60_0 : kAll "DoorPaints$Door" "shown" cG60_0 := kOK_of (by decide +kernel : kOK "DoorPaints$Door" "shown" cG60_0 [0, 152, 0, 0, 152, 0, 0, 0, 151, 0, 152, 0, 0, 0, 0, 0, 0] = true)
theorem lk60 : kAll "DoorPaints$Door" "shown" cL60 := kAll_app lg60_0 kAll_nil
theorem lg61_0 : kAll "DoorPaints$Town" "allPaint" cG61_0 := kOK_of (by decide +kernel : kOK "DoorPaints$Town" "allPaint" cG61_0 [0, 0, 0, 0, 0, 0, 181, 0, 0, 0, 173, 0, 0, 131, 0, 0, 0, 0, 0, 0] = true)
theorem lk61 : kAll "DoorPaints$Town" "allPaint" cL61 := kAll_app lg61_0 kAll_nil
theorem lg62_0 : kAll "DoorPaints" "visitor" cG62_0 := kOK_of (by decide +kernel : kOK "DoorPaints" "visitor" cG62_0 [0, 340, 207, 0, 619, 0, 0, 0, 0, 340, 207, 175, 0, 0, 0, 0, 0, 0, 123, 0, 0, 126, 0, 0, 130, 0, 0, 133, 0, 0, 340, 207, 0, 620, 0, 0, 0] = true)
theorem lk62 : kAll "DoorPaints" "visitor" cL62 := kAll_app lg62_0 kAll_nil
theorem lg63_0 : kAll "DoorPaints$Town" "brushOf" cG63_0 := kOK_of (by decide +kernel : kOK "DoorPaints$Town" "brushOf" cG63_0 [0, 0, 561, 0, 0, 0, 0, 0, 190, 0, 0, 191, 0, 0, 173, 0, 0, 124, 0, 0, 0, 173, 0, 0, 127, 0, 0, 173, 0, 0, 127, 0] = true)
theorem lk63 : kAll "DoorPaints$Town" "brushOf" cL63 := kAll_app lg63_0 kAll_nil
theorem lg64_0 : kAll "DoorPaints" "door" cG64_0 := kOK_of (by decide +kernel : kOK "DoorPaints" "door" cG64_0 [0, 340, 207, 0, 628, 0, 0, 0, 0, 340, 207, 180, 0, 0, 0, 0, 0, 0, 0, 0, 0, 0, 0, 0, 0, 629, 0, 0, 0, 0, 154, 0, 0, 633, 0, 0, 158, 0, 0, 161, 0, 0, 0, 0, 0, 0, 0] = true)
theorem lk64 : kAll "DoorPaints" "door" cL64 := kAll_app lg64_0 kAll_nil
theorem lg65_0 : kAll "DoorPaints$Door" "layerAt" cG65_0 := kOK_of (by decide +kernel : kOK "DoorPaints$Door" "layerAt" cG65_0 [0, 0, 0, 0, 152, 0, 0, 151, 0, 0, 0, 0, 0] = true)
theorem lk65 : kAll "DoorPaints$Door" "layerAt" cL65 := kAll_app lg65_0 kAll_nil
theorem lg66_0 : kAll "DoorPaints" "plan" cG66_0 := kOK_of (by decide +kernel : kOK "DoorPaints" "plan" cG66_0 [0, 0, 0, 0, 340, 211, 0, 0, 340, 209, 0, 0, 0, 0, 0] = true)
theorem lk66 : kAll "DoorPaints" "plan" cL66 := kAll_app lg66_0 kAll_nil
theorem lg67_0 : kAll "DoorPaints" "uses" cG67_0 := kOK_of (by decide +kernel : kOK "DoorPaints" "uses" cG67_0 [0, 340, 207, 0, 0, 642, 0] = true)
theorem lk67 : kAll "DoorPaints" "uses" cL67 := kAll_app lg67_0 kAll_nil
theorem lg68_0 : kAll "DoorPaints$Town" "costOf" cG68_0 := kOK_of (by decide +kernel : kOK "DoorPaints$Town" "costOf" cG68_0 [0, 0, 561, 0, 0, 0, 565, 0, 0, 0, 0, 0, 176, 0, 0, 155, 0, 0, 0, 0, 0, 173, 0, 0, 124, 0, 0, 0, 0, 0, 0, 0, 0, 0] = true)
theorem lk68 : kAll "DoorPaints$Town" "costOf" cL68 := kAll_app lg68_0 kAll_nil
theorem lg69_0 : kAll "DoorPaints" "visit" cG69_0 := kOK_of (by decide +kernel : kOK "DoorPaints" "visit" cG69_0 [0, 340, 207, 0, 0, 650, 0] = true)
theorem lk69 : kAll "DoorPaints" "visit" cL69 := kAll_app lg69_0 kAll_nil
theorem lg70_0 : kAll "DoorPaints$Town" "receive" cG70_0 := kOK_of (by decide +kernel : kOK "DoorPaints$Town" "receive" cG70_0 [0, 0, 0, 654, 0, 0, 0, 0, 0, 0, 0, 173, 0, 0, 0, 0, 176, 0, 0, 0, 0, 131, 0, 0, 0, 0, 0, 124, 0, 0, 0, 655, 0, 0, 0, 0, 0, 131, 0, 0, 131, 0, 162, 0, 0, 0, 659, 660, 0, 124, 0, 0, 0, 0, 0, 667, 668, 0, 659, 0] = true)
theorem lk70 : kAll "DoorPaints$Town" "receive" cL70 := kAll_app lg70_0 kAll_nil
theorem lg71_0 : kAll "DoorPaints$Door" "takesNoLayer" cG71_0 := kOK_of (by decide +kernel : kOK "DoorPaints$Door" "takesNoLayer" cG71_0 [0, 152, 0, 0, 0, 159, 0, 0, 0, 0, 0] = true)
theorem lk71 : kAll "DoorPaints$Door" "takesNoLayer" cL71 := kAll_app lg71_0 kAll_nil
theorem lg72_0 : kAll "DoorPaints$Visitor" "markSleeve" cG72_0 := kOK_of (by decide +kernel : kOK "DoorPaints$Visitor" "markSleeve" cG72_0 [0, 10003, 0, 0, 0, 132, 0, 0, 0, 0, 132, 0] = true)
theorem lk72 : kAll "DoorPaints$Visitor" "markSleeve" cL72 := kAll_app lg72_0 kAll_nil
theorem lg73_0 : kAll "DoorPaints" "isColour" cG73_0 := kOK_of (by decide +kernel : kOK "DoorPaints" "isColour" cG73_0 [0, 0, 0, 0, 0, 0, 0, 0, 0] = true)
theorem lk73 : kAll "DoorPaints" "isColour" cL73 := kAll_app lg73_0 kAll_nil
theorem lg74_0 : kAll "DoorPaints$Door" "paintWith" cG74_0 := kOK_of (by decide +kernel : kOK "DoorPaints$Door" "paintWith" cG74_0 [0, 606, 0, 0, 159, 0, 0, 0, 0, 0, 151, 0, 152, 0, 0, 0, 0, 0, 0, 0, 0, 0, 0, 0, 672, 0, 0, 0, 159, 0] = true)
theorem lk74 : kAll "DoorPaints$Door" "paintWith" cL74 := kAll_app lg74_0 kAll_nil
theorem lg75_0 : kAll "DoorPaints" "sky" cG75_0 := kOK_of (by decide +kernel : kOK "DoorPaints" "sky" cG75_0 [0, 0, 0, 0, 0, 0, 0, 0, 340, 207, 0, 0, 0, 677, 0, 340, 207, 693, 0] = true)
theorem lk75 : kAll "DoorPaints" "sky" cL75 := kAll_app lg75_0 kAll_nil
theorem lg76_0 : kAll "DoorPaints$Town" "weather" cG76_0 := kOK_of (by decide +kernel : kOK "DoorPaints$Town" "weather" cG76_0 [0, 0, 0, 0, 185, 0, 0, 0, 0, 176, 0, 0, 0, 162, 0, 0, 176, 0, 0, 681, 0, 0, 176, 0, 0, 689, 0, 0, 0, 0] = true)
theorem lk76 : kAll "DoorPaints$Town" "weather" cL76 := kAll_app lg76_0 kAll_nil
theorem lg77_0 : kAll "DoorPaints$Door" "rainOn" cG77_0 := kOK_of (by decide +kernel : kOK "DoorPaints$Door" "rainOn" cG77_0 [0, 152, 0, 0, 0, 0, 0, 0, 0, 0, 0, 0, 152, 0, 0, 0, 606, 0, 0, 0, 685, 0, 0, 0, 0, 0, 0, 672, 0, 0, 0, 159, 0] = true)
theorem lk77 : kAll "DoorPaints$Door" "rainOn" cL77 := kAll_app lg77_0 kAll_nil
theorem lg78_0 : kAll "DoorPaints$Door" "loseTop" cG78_0 := kOK_of (by decide +kernel : kOK "DoorPaints$Door" "loseTop" cG78_0 [0, 152, 0, 0, 0, 152, 0, 0, 152, 0] = true)
theorem lk78 : kAll "DoorPaints$Door" "loseTop" cL78 := kAll_app lg78_0 kAll_nil
theorem lg79_0 : kAll "DoorPaints$Door" "shineOn" cG79_0 := kOK_of (by decide +kernel : kOK "DoorPaints$Door" "shineOn" cG79_0 [0, 0, 0, 0, 0, 0, 606, 0, 0, 685, 0, 0, 0, 0, 159, 0] = true)
theorem lk79 : kAll "DoorPaints$Door" "shineOn" cL79 := kAll_app lg79_0 kAll_nil
theorem lg80_0 : kAll "DoorPaints$Town" "allLayers" cG80_0 := kOK_of (by decide +kernel : kOK "DoorPaints$Town" "allLayers" cG80_0 [0, 0, 0, 0, 0, 0, 185, 0, 0, 0, 176, 0, 0, 155, 0, 0, 0, 0, 0, 0] = true)
theorem lk80 : kAll "DoorPaints$Town" "allLayers" cL80 := kAll_app lg80_0 kAll_nil
theorem lg81_0 : kAll "DoorPaints" "scrape" cG81_0 := kOK_of (by decide +kernel : kOK "DoorPaints" "scrape" cG81_0 [0, 340, 207, 0, 628, 0, 0, 0, 0, 340, 207, 180, 0, 0, 0, 0, 154, 0, 0, 0, 0, 701, 0, 0, 161, 0, 633, 0] = true)
theorem lk81 : kAll "DoorPaints" "scrape" cL81 := kAll_app lg81_0 kAll_nil
theorem lg82_0 : kAll "DoorPaints" "alter" cG82_0 := kOK_of (by decide +kernel : kOK "DoorPaints" "alter" cG82_0 [0, 340, 207, 0, 619, 0, 0, 0, 0, 0, 0, 340, 207, 175, 0, 0, 0, 0, 0, 0, 0, 0, 0, 123, 0, 0, 0, 123, 0, 0, 0, 0, 0, 0, 0, 0, 0, 126, 0, 0, 0, 126, 0, 0, 0, 0, 0, 0, 0, 0, 0, 130, 0, 0, 0, 130, 0, 0, 0, 0, 0, 0, 0, 0, 133, 0] = true)
theorem lg82_1 : kAll "DoorPaints" "alter" cG82_1 := kOK_of (by decide +kernel : kOK "DoorPaints" "alter" cG82_1 [0, 0, 133, 0, 0, 0, 0] = true)
theorem lk82 : kAll "DoorPaints" "alter" cL82 := kAll_app lg82_0 (kAll_app lg82_1 kAll_nil)
theorem lg83_0 : kAll "DoorPaints" "ought" cG83_0 := kOK_of (by decide +kernel : kOK "DoorPaints" "ought" cG83_0 [0, 340, 207, 0, 628, 0, 0, 710, 0, 0, 0, 0, 340, 207, 180, 0, 0, 0, 0, 711, 0, 0, 0, 0, 0, 0] = true)
theorem lk83 : kAll "DoorPaints" "ought" cL83 := kAll_app lg83_0 kAll_nil
theorem lg84_0 : kAll "DoorPaints" "plans" cG84_0 := kOK_of (by decide +kernel : kOK "DoorPaints" "plans" cG84_0 [0, 716, 0, 0, 340, 207, 0, 717, 0, 0, 0, 0, 340, 0, 718, 0, 0, 340, 211, 0, 0, 0] = true)
theorem lk84 : kAll "DoorPaints" "plans" cL84 := kAll_app lg84_0 kAll_nil
theorem lg85_0 : kAll "DoorPaints" "cut" cG85_0 := kOK_of (by decide +kernel : kOK "DoorPaints" "cut" cG85_0 [0, 0, 0, 0, 340, 211, 0, 0, 0, 0, 340, 211, 0, 0, 340, 0, 211, 0, 0] = true)
theorem lk85 : kAll "DoorPaints" "cut" cL85 := kAll_app lg85_0 kAll_nil
theorem lg86_0 : kAll "DoorPaints" "runs" cG86_0 := kOK_of (by decide +kernel : kOK "DoorPaints" "runs" cG86_0 [0, 0, 0, 0, 0, 0, 0, 0, 727, 0, 0, 0, 0, 745, 0, 0, 343, 598, 0, 0, 0, 0, 343, 693, 0, 0, 343, 749, 0] = true)
theorem lk86 : kAll "DoorPaints" "runs" cL86 := kAll_app lg86_0 kAll_nil
theorem lg87_0 : kAll "DoorPaints" "rehearse" cG87_0 := kOK_of (by decide +kernel : kOK "DoorPaints" "rehearse" cG87_0 [0, 343, 0, 340, 207, 731, 0, 0, 0, 340, 211, 732, 0] = true)
theorem lk87 : kAll "DoorPaints" "rehearse" cL87 := kAll_app lg87_0 kAll_nil
theorem lg88_0 : kAll "DoorPaints" "actInTrial" cG88_0 := kOK_of (by decide +kernel : kOK "DoorPaints" "actInTrial" cG88_0 [0, 0, 0, 0, 0, 0, 0, 0, 0, 340, 211, 0, 0, 343, 0, 340, 209, 0, 0, 736, 0, 0, 0, 0, 0, 0, 0, 0, 0, 0] = true)
theorem lk88 : kAll "DoorPaints" "actInTrial" cL88 := kAll_app lg88_0 kAll_nil
theorem lg89_0 : kAll "DoorPaints$Town" "undergo" cG89_0 := kOK_of (by decide +kernel : kOK "DoorPaints$Town" "undergo" cG89_0 [0, 10002, 0, 0, 0, 740, 0, 0, 0, 0, 0, 0, 0, 0, 0, 741, 10004, 0, 0, 0, 0, 0] = true)
theorem lk89 : kAll "DoorPaints$Town" "undergo" cL89 := kAll_app lg89_0 kAll_nil
theorem lg90_0 : kAll "DoorPaints" "isRefusal" cG90_0 := kOK_of (by decide +kernel : kOK "DoorPaints" "isRefusal" cG90_0 [0, 0, 0, 0, 0, 0, 0, 0, 0, 0, 0, 0, 0] = true)
theorem lk90 : kAll "DoorPaints" "isRefusal" cL90 := kAll_app lg90_0 kAll_nil
theorem lg91_0 : kAll "DoorPaints" "takenInTrial" cG91_0 := kOK_of (by decide +kernel : kOK "DoorPaints" "takenInTrial" cG91_0 [0, 340, 207, 611, 0, 343, 611, 0, 0] = true)
theorem lk91 : kAll "DoorPaints" "takenInTrial" cL91 := kAll_app lg91_0 kAll_nil
theorem lg92_0 : kAll "DoorPaints$Town" "markedBits" cG92_0 := kOK_of (by decide +kernel : kOK "DoorPaints$Town" "markedBits" cG92_0 [0, 0, 0, 0, 0, 0, 181, 0, 0, 0, 173, 0, 0, 134, 0, 0, 0, 0, 0, 0, 0, 0, 0, 0, 0, 0] = true)
theorem lk92 : kAll "DoorPaints$Town" "markedBits" cL92 := kAll_app lg92_0 kAll_nil
theorem lg93_0 : kAll "DoorPaints" "ahead" cG93_0 := kOK_of (by decide +kernel : kOK "DoorPaints" "ahead" cG93_0 [0, 340, 207, 0, 628, 0, 0, 0, 0, 727, 0, 0, 343, 180, 0, 0, 633, 0] = true)
theorem lk93 : kAll "DoorPaints" "ahead" cL93 := kAll_app lg93_0 kAll_nil
