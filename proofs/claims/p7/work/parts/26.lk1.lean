/-! TABLES: the links stand in the tables (written by a program) -/
theorem lk94_0 : kOKs "DoorPaints" "clears" [cL94_0, cL94_1, cL94_2, cL94_3, cL94_4, cL94_5] [[0, 340, 207, 0, 628, 0, 0, 0], [0, 0, 0, 0, 0, 0, 340, 207, 184, 0], [0, 343, 0, 340, 207, 731], [0, 343, 0, 0, 650, 761, 0, 0], [343, 180, 0, 0, 762, 0, 0, 0], [0, 0, 0, 0, 0, 0, 0, 0]] = true := by decide +kernel
theorem lk94 : kAll "DoorPaints" "clears" cL94 := (kAll_gr (R := []) kAll_nil lk94_0)
theorem lk95_0 : kOKs "DoorPaints" "best" [cL95_0, cL95_1, cL95_2, cL95_3, cL95_4, cL95_5] [[0, 0, 0, 0, 0, 0, 0, 0, 0, 0], [0, 0, 0, 0, 0, 0, 344, 0, 340], [207, 0, 767, 0, 0], [], [0, 344, 299, 0, 0, 344], [301, 0, 0, 344, 0, 0, 0, 818, 0]] = true := by decide +kernel
theorem lk95 : kAll "DoorPaints" "best" cL95 := (kAll_gr (R := []) kAll_nil lk95_0)
theorem lk96_0 : kOKs "DoorPaints$Search" "forBest" [cL96_0, cL96_1, cL96_2] [[0, 0, 302, 0, 771, 298, 0, 0, 0, 772], [0, 0, 0, 294, 781, 782, 0, 788], [0]] = true := by decide +kernel
theorem lk96 : kAll "DoorPaints$Search" "forBest" cL96 := (kAll_gr (R := []) kAll_nil lk96_0)
theorem lk97_0 : kOKs "DoorPaints$Search" "begin" [cL97_0, cL97_1] [[0, 294, 0, 776, 0, 0, 777, 0], [0, 0, 0, 297, 0, 771, 300, 0]] = true := by decide +kernel
theorem lk97 : kAll "DoorPaints$Search" "begin" cL97 := (kAll_gr (R := []) kAll_nil lk97_0)
theorem lk98_0 : kOKs "DoorPaints$Town" "hasVisits" [cL98_0, cL98_1] [[0, 181, 0, 0, 185, 0, 0, 0], [0, 0]] = true := by decide +kernel
theorem lk98 : kAll "DoorPaints$Town" "hasVisits" cL98 := (kAll_gr (R := []) kAll_nil lk98_0)
theorem lk99_0 : kOKs "java/lang/Integer" "bitCount" [cL99_0, cL99_1, cL99_2, cL99_3] [[0, 0, 0, 0, 785, 0, 0, 0, 0, 786, 0, 0], [0, 0, 786, 0, 0, 0, 0, 0, 0, 0, 0, 787], [0, 0, 0, 0, 0, 0, 0, 0, 0, 0, 0, 0, 0, 0], [0, 0, 0, 0]] = true := by decide +kernel
theorem lk99 : kAll "java/lang/Integer" "bitCount" cL99 := (kAll_gr (R := []) kAll_nil lk99_0)
theorem lk100_0 : kOKs "DoorPaints$Search" "tryFrom" [cL100_0, cL100_1, cL100_2, cL100_3, cL100_4, cL100_5, cL100_6] [[0, 0, 297, 0, 0, 0, 0, 0, 0, 0], [792, 0, 0, 0, 0, 796, 0, 0, 0], [0, 0, 294, 183, 0, 0, 0, 0], [0, 294, 187, 0, 0, 0, 0, 0, 800], [0, 0, 295, 0, 0, 0, 0, 0], [0, 0, 0, 0, 0, 0, 0, 0, 807, 0], [0, 0, 0, 0]] = true := by decide +kernel
theorem lk100 : kAll "DoorPaints$Search" "tryFrom" cL100 := (kAll_gr (R := []) kAll_nil lk100_0)
theorem lk101_0 : kOKs "DoorPaints$Search" "isBetter" [cL101_0, cL101_1, cL101_2] [[0, 0, 298, 0, 0, 302, 0, 0], [0, 298, 0, 0, 0, 300, 0, 0], [0, 0, 0]] = true := by decide +kernel
theorem lk101 : kAll "DoorPaints$Search" "isBetter" cL101 := (kAll_gr (R := []) kAll_nil lk101_0)
theorem lk102_0 : kOKs "DoorPaints$Search" "take" [cL102_0, cL102_1, cL102_2] [[0, 0, 298, 0, 0, 300, 0, 0, 0, 0, 297], [0, 0, 0, 0, 0, 296, 0, 0, 295], [0, 0, 0, 0, 0, 0]] = true := by decide +kernel
theorem lk102 : kAll "DoorPaints$Search" "take" cL102 := (kAll_gr (R := []) kAll_nil lk102_0)
theorem lk103_0 : kOKs "DoorPaints$Search" "mayImprove" [cL103_0, cL103_1] [[0, 0, 0, 0, 297, 0, 0, 0, 804, 0, 792], [0]] = true := by decide +kernel
theorem lk103 : kAll "DoorPaints$Search" "mayImprove" cL103 := (kAll_gr (R := []) kAll_nil lk103_0)
theorem lk104_0 : kOKs "DoorPaints$Search" "tryVisit" [cL104_0, cL104_1, cL104_2, cL104_3, cL104_4, cL104_5, cL104_6, cL104_7] [[0, 294, 174, 0, 0, 0, 0, 294, 179], [0, 0, 0, 0, 129, 0, 0, 153], [0, 0, 811, 0, 0, 160], [0, 0, 812, 0, 0, 0, 0, 0], [0, 0, 0, 294, 0, 0, 813, 0, 0], [0, 0, 0, 0, 812, 0, 0, 0, 0, 0], [0, 0, 0, 0, 0, 129, 0, 788], [0, 0, 129, 0, 0, 0, 0]] = true := by decide +kernel
theorem lk104_1 : kOKs "DoorPaints$Search" "tryVisit" [cL104_8] [[814, 0]] = true := by decide +kernel
theorem lk104 : kAll "DoorPaints$Search" "tryVisit" cL104 := (kAll_gr (R := cL104_8 ++ ([])) (kAll_gr (R := []) kAll_nil lk104_1) lk104_0)
theorem lk105_0 : kOKs "DoorPaints$Door" "restore" [cL105_0, cL105_1, cL105_2] [[0, 0, 152, 0, 152, 0, 0, 152], [0, 0, 0, 151, 0, 152, 0, 0, 0], [0, 0, 0, 159, 0]] = true := by decide +kernel
theorem lk105 : kAll "DoorPaints$Door" "restore" cL105 := (kAll_gr (R := []) kAll_nil lk105_0)
theorem lk106_0 : kOKs "DoorPaints$Search" "visitAt" [cL106_0, cL106_1] [[0, 0, 0, 0, 297, 0, 0, 0, 0], [0, 296, 0, 0, 0, 0, 0]] = true := by decide +kernel
theorem lk106 : kAll "DoorPaints$Search" "visitAt" cL106 := (kAll_gr (R := []) kAll_nil lk106_0)
theorem lk107_0 : kOKs "DoorPaints" "few" [cL107_0, cL107_1, cL107_2, cL107_3, cL107_4] [[0, 0, 0, 0, 0, 0, 0, 0, 0, 0, 0], [0, 0, 344, 0, 340, 207, 0, 826], [0, 0, 0, 0, 0, 0, 344], [0, 0, 0, 818, 0, 0, 0, 0], [0]] = true := by decide +kernel
theorem lk107 : kAll "DoorPaints" "few" cL107 := (kAll_gr (R := []) kAll_nil lk107_0)
theorem lk108_0 : kOKs "DoorPaints$Search" "clearsAll" [cL108_0, cL108_1, cL108_2] [[0, 0, 302, 0, 0, 298, 0, 0, 0, 772], [0, 0, 0, 294, 781, 782, 0, 788], [0, 298, 0, 0, 0, 0, 0]] = true := by decide +kernel
theorem lk108 : kAll "DoorPaints$Search" "clearsAll" cL108 := (kAll_gr (R := []) kAll_nil lk108_0)
theorem lk109_0 : kOKs "DoorPaints" "reads" [cL109_0, cL109_1, cL109_2, cL109_3, cL109_4, cL109_5] [[0, 340, 207, 0, 619, 0, 0, 0], [0, 340, 207, 0, 620, 0, 0, 0, 0, 0], [0, 0, 340, 207, 188, 0], [0, 340, 207, 180, 0, 0, 0, 834], [0, 0, 0, 0, 0, 0, 0, 0, 0], [0, 0]] = true := by decide +kernel
theorem lk109 : kAll "DoorPaints" "reads" cL109 := (kAll_gr (R := []) kAll_nil lk109_0)
theorem lk110_0 : kOKs "DoorPaints$Door" "hasLayerOf" [cL110_0, cL110_1] [[0, 0, 0, 0, 152, 0, 0, 151, 0, 0], [0, 0, 0, 0, 0, 0, 0, 0]] = true := by decide +kernel
theorem lk110 : kAll "DoorPaints$Door" "hasLayerOf" cL110 := (kAll_gr (R := []) kAll_nil lk110_0)
theorem lk111_0 : kOKs "DoorPaints" "see" [cL111_0, cL111_1, cL111_2, cL111_3, cL111_4] [[0, 710, 0, 0, 0, 0, 0, 0], [0, 0, 0, 340, 207, 0, 628, 0], [0, 0, 0, 0, 0, 0, 0], [0, 0, 0, 340, 0, 0, 0, 842, 0], [0, 340, 216, 0, 0, 0]] = true := by decide +kernel
theorem lk111 : kAll "DoorPaints" "see" cL111 := (kAll_gr (R := []) kAll_nil lk111_0)
theorem lk112_0 : kOKs "DoorPaints$Told" "addSeen" [cL112_0, cL112_1, cL112_2, cL112_3] [[0, 215, 0, 0, 0, 0, 0, 212, 0], [215, 0, 0, 0, 213, 0, 215, 0, 0, 0], [214, 0, 215, 0, 0, 0, 0, 215, 0, 0], [215, 0, 0]] = true := by decide +kernel
theorem lk112 : kAll "DoorPaints$Told" "addSeen" cL112 := (kAll_gr (R := []) kAll_nil lk112_0)
theorem lk113_0 : kOKs "DoorPaints" "forget" [cL113_0, cL113_1, cL113_2] [[0, 0, 0, 0, 340, 216, 0, 0], [0, 0, 340, 216, 0, 0, 340, 0, 216], [0, 0]] = true := by decide +kernel
theorem lk113 : kAll "DoorPaints" "forget" cL113 := (kAll_gr (R := []) kAll_nil lk113_0)
theorem lk114_0 : kOKs "DoorPaints" "pots" [cL114_0, cL114_1, cL114_2, cL114_3, cL114_4, cL114_5, cL114_6] [[0, 340, 207, 0, 619, 0, 0, 0], [0, 0, 0, 0, 0, 0, 340, 207, 184, 0], [0, 343, 0, 340, 207, 731], [0, 343, 0, 0, 340, 207, 0, 620], [854, 0, 0, 0, 340, 211, 732, 0], [0, 340, 0, 343, 858, 0, 0, 0], [0, 0, 0, 0, 0, 0, 0, 0]] = true := by decide +kernel
theorem lk114 : kAll "DoorPaints" "pots" cL114 := (kAll_gr (R := []) kAll_nil lk114_0)
theorem lk115_0 : kOKs "DoorPaints$Town" "lend" [cL115_0] [[0, 0, 190, 0, 0, 191, 0]] = true := by decide +kernel
theorem lk115 : kAll "DoorPaints$Town" "lend" cL115 := (kAll_gr (R := []) kAll_nil lk115_0)
theorem lk116_0 : kOKs "DoorPaints$Told" "agreesWith" [cL116_0, cL116_1, cL116_2, cL116_3] [[0, 0, 0, 0, 215, 0, 0, 212, 0, 0], [0, 0, 0, 862, 0, 0, 177, 0, 0, 0], [213, 0, 0, 863, 0, 214, 0, 0, 0], [0, 0, 0, 0, 0, 0]] = true := by decide +kernel
theorem lk116 : kAll "DoorPaints$Told" "agreesWith" cL116 := (kAll_gr (R := []) kAll_nil lk116_0)
theorem lk117_0 : kOKs "DoorPaints" "rained" [cL117_0, cL117_1, cL117_2, cL117_3, cL117_4, cL117_5] [[0, 0, 0, 0, 0, 0, 340, 211, 0, 0], [343, 0, 340, 207, 731, 0, 0, 0], [732, 0, 0, 343, 0, 677, 0, 0, 0], [340, 211, 732, 0, 0, 340, 0, 343], [858, 0, 0, 0, 0, 0, 0, 0, 0], [0, 0, 0]] = true := by decide +kernel
theorem lk117 : kAll "DoorPaints" "rained" cL117 := (kAll_gr (R := []) kAll_nil lk117_0)
theorem lk118_0 : kOKs "DoorPaints" "orders" [cL118_0, cL118_1, cL118_2, cL118_3] [[0, 0, 0, 0, 0, 0, 0, 0, 340, 211], [0, 0, 0, 0, 0, 0, 349, 0, 0], [350, 0, 0, 0, 872, 0, 0, 0, 349], [0, 0, 350, 0]] = true := by decide +kernel
theorem lk118 : kAll "DoorPaints" "orders" cL118 := (kAll_gr (R := []) kAll_nil lk118_0)
theorem lk119_0 : kOKs "DoorPaints" "arrange" [cL119_0, cL119_1, cL119_2, cL119_3, cL119_4] [[0, 0, 340, 211, 0, 0, 0, 0], [0, 0, 876, 0, 0, 0, 0, 0, 340, 211], [0, 0, 0, 0, 0, 0, 0, 0, 345, 0], [0, 0, 0, 0, 0, 0, 0, 0, 0, 0, 0, 872, 0], [0, 0]] = true := by decide +kernel
theorem lk119 : kAll "DoorPaints" "arrange" cL119 := (kAll_gr (R := []) kAll_nil lk119_0)
theorem lk120_0 : kOKs "DoorPaints" "judgeOrder" [cL120_0, cL120_1, cL120_2, cL120_3, cL120_4, cL120_5, cL120_6] [[0, 343, 0, 340, 207, 731, 0, 0], [0, 0, 0, 0, 343, 0, 340, 209], [0, 345, 0, 0, 0, 736, 0, 0, 0], [0, 340, 0, 343, 858, 0, 0], [0, 349, 0, 0, 349, 0, 0, 350, 0, 0], [0, 0, 345, 0, 0, 0, 0, 0, 0, 0], [0, 350, 0]] = true := by decide +kernel
theorem lk120 : kAll "DoorPaints" "judgeOrder" cL120 := (kAll_gr (R := []) kAll_nil lk120_0)
theorem lk121_0 : kOKs "DoorPaints" "luck" [cL121_0, cL121_1, cL121_2, cL121_3, cL121_4, cL121_5, cL121_6, cL121_7] [[0, 0, 0, 0, 0, 0, 340, 207], [0, 628, 0, 0, 0, 0, 0, 0], [884, 0, 0, 340, 885, 0, 0, 0], [0, 0, 0, 0, 0, 0, 0, 0, 0], [0, 890, 0, 0, 0, 0, 0, 0, 0], [893, 0, 0, 343, 180, 0, 0, 762], [0, 0, 0, 0, 0, 0, 0], [0, 0, 0, 897, 0, 901, 0]] = true := by decide +kernel
theorem lk121 : kAll "DoorPaints" "luck" cL121 := (kAll_gr (R := []) kAll_nil lk121_0)
theorem lk122_0 : kOKs "DoorPaints$Told" "visitsPlanned" [cL122_0, cL122_1, cL122_2] [[0, 0, 0, 0, 0, 0, 210, 0, 0, 0, 208], [0, 0, 10005, 0, 0, 0, 0, 0, 0], [0, 0, 0, 0]] = true := by decide +kernel
theorem lk122 : kAll "DoorPaints$Told" "visitsPlanned" cL122 := (kAll_gr (R := []) kAll_nil lk122_0)
theorem lk123_0 : kOKs "DoorPaints" "weightOf" [cL123_0, cL123_1, cL123_2] [[0, 0, 0, 0, 0, 0, 0, 0, 0, 0, 0], [0, 0, 0, 0, 0, 0, 0, 0, 0, 0, 0], [0, 0, 0, 0, 0, 0]] = true := by decide +kernel
theorem lk123 : kAll "DoorPaints" "weightOf" cL123 := (kAll_gr (R := []) kAll_nil lk123_0)
theorem lk124_0 : kOKs "DoorPaints" "actChosen" [cL124_0, cL124_1, cL124_2, cL124_3, cL124_4, cL124_5] [[0, 343, 0, 340, 207, 731, 0, 0], [0, 0, 0, 0, 340, 211, 0, 0, 340], [209, 0, 0, 0, 0, 529, 0], [0, 343, 0, 677, 0, 0, 0, 0, 0], [0, 0, 0, 0, 343, 0, 736, 0, 0], [0, 0, 0]] = true := by decide +kernel
theorem lk124 : kAll "DoorPaints" "actChosen" cL124 := (kAll_gr (R := []) kAll_nil lk124_0)
theorem lk125_0 : kOKs "DoorPaints" "powerOfTen" [cL125_0, cL125_1] [[0, 0, 0, 0, 0, 0, 0, 0, 900, 0, 0, 0], [0, 0, 0]] = true := by decide +kernel
theorem lk125 : kAll "DoorPaints" "powerOfTen" cL125 := (kAll_gr (R := []) kAll_nil lk125_0)
theorem lk126_0 : kOKs "DoorPaints" "ofFraction" [cL126_0, cL126_1, cL126_2, cL126_3, cL126_4] [[0, 0, 0, 0, 0, 0, 0, 0, 0], [0, 0, 0, 0, 0, 0, 0, 0, 0], [0, 0, 0, 0, 0, 0, 0, 0], [0, 884, 0, 0, 0, 0, 0, 0], [0, 0, 0, 0, 0]] = true := by decide +kernel
theorem lk126 : kAll "DoorPaints" "ofFraction" cL126 := (kAll_gr (R := []) kAll_nil lk126_0)
theorem lk127_0 : kOKs "DoorPaints" "mean" [cL127_0, cL127_1, cL127_2, cL127_3, cL127_4, cL127_5, cL127_6] [[0, 0, 0, 0, 0, 0, 0, 0, 0], [0, 884, 0, 0, 340, 885, 0, 0], [0, 0, 0, 0, 0, 0, 0, 0, 0, 0], [0, 890, 0, 0, 0, 0, 0, 0, 0], [893, 0, 0, 0, 745, 0, 0, 0, 0], [0, 0, 0, 0, 897, 0, 901], [0]] = true := by decide +kernel
theorem lk127 : kAll "DoorPaints" "mean" cL127 := (kAll_gr (R := []) kAll_nil lk127_0)
theorem lk128_0 : kOKs "DoorPaints" "drift" [cL128_0, cL128_1, cL128_2, cL128_3, cL128_4, cL128_5, cL128_6, cL128_7] [[0, 0, 0, 0, 0, 0, 0, 0, 0], [0, 0, 0, 0, 0, 340, 207, 912], [0, 0, 0, 0, 343, 0, 340, 207], [731, 0, 0, 0, 0, 0, 0, 0], [0, 913, 0, 0, 0, 0, 0, 343], [0, 0, 0, 0, 0, 914, 0, 0], [0, 0, 0, 343, 693, 0], [0, 343, 598, 0]] = true := by decide +kernel
theorem lk128 : kAll "DoorPaints" "drift" cL128 := (kAll_gr (R := []) kAll_nil lk128_0)
theorem lk129_0 : kOKs "DoorPaints$Town" "actBySeed" [cL129_0, cL129_1, cL129_2, cL129_3] [[0, 0, 0, 0, 0, 0, 0, 0, 0, 0, 0, 0], [0, 740, 0, 0, 918, 0, 0, 0], [0, 0, 0, 181, 0, 0, 0, 0, 0, 185], [0, 741, 0, 0]] = true := by decide +kernel
theorem lk129 : kAll "DoorPaints$Town" "actBySeed" cL129 := (kAll_gr (R := []) kAll_nil lk129_0)
theorem lk130_0 : kOKs "DoorPaints" "keep" [cL130_0, cL130_1, cL130_2] [[0, 0, 0, 0, 0, 0, 0, 0, 342, 0], [0, 0, 0, 0, 0, 0, 0, 341, 0, 0], [0, 340, 569, 0, 342, 0, 0, 0, 0, 0]] = true := by decide +kernel
theorem lk130 : kAll "DoorPaints" "keep" cL130 := (kAll_gr (R := []) kAll_nil lk130_0)
theorem lk131_0 : kOKs "DoorPaints" "back" [cL131_0, cL131_1, cL131_2] [[0, 0, 0, 0, 0, 0, 0, 0, 342, 0], [0, 0, 0, 0, 0, 340, 0, 341, 0], [0, 569, 0, 340, 207, 693, 0]] = true := by decide +kernel
theorem lk131 : kAll "DoorPaints" "back" cL131 := (kAll_gr (R := []) kAll_nil lk131_0)
theorem lk132_0 : kOKs "DoorPaints" "sheet" [cL132_0, cL132_1, cL132_2] [[0, 931, 0, 0, 934, 0, 0, 0], [0, 0, 0, 0, 0, 0, 0, 0, 346], [0, 0, 0, 0, 937, 0, 0]] = true := by decide +kernel
theorem lk132 : kAll "DoorPaints" "sheet" cL132 := (kAll_gr (R := []) kAll_nil lk132_0)
theorem lk133_0 : kOKs "DoorPaints" "isSheet" [cL133_0] [[0, 0, 0, 0, 0, 0, 0, 0, 0]] = true := by decide +kernel
theorem lk133 : kAll "DoorPaints" "isSheet" cL133 := (kAll_gr (R := []) kAll_nil lk133_0)
theorem lk134_0 : kOKs "DoorPaints" "isLane" [cL134_0] [[0, 0, 0, 0, 0, 0, 0, 0, 0]] = true := by decide +kernel
theorem lk134 : kAll "DoorPaints" "isLane" cL134 := (kAll_gr (R := []) kAll_nil lk134_0)
theorem lk135_0 : kOKs "DoorPaints$Sheet" "renew" [cL135_0, cL135_1] [[0, 0, 329, 0, 0, 327, 0, 0, 0, 0, 0], [0, 326, 0, 0, 0, 0, 0, 0]] = true := by decide +kernel
theorem lk135 : kAll "DoorPaints$Sheet" "renew" cL135 := (kAll_gr (R := []) kAll_nil lk135_0)
theorem lk136_0 : kOKs "DoorPaints" "lay" [cL136_0, cL136_1, cL136_2, cL136_3] [[0, 931, 0, 0, 0, 0, 346, 0, 0, 0], [0, 0, 330, 0, 945, 0, 0], [0, 0, 0, 0, 0, 0, 0, 0, 949], [0, 0]] = true := by decide +kernel
theorem lk136 : kAll "DoorPaints" "lay" cL136 := (kAll_gr (R := []) kAll_nil lk136_0)
theorem lk137_0 : kOKs "DoorPaints$Sheet" "faultAt" [cL137_0, cL137_1, cL137_2] [[0, 329, 0, 0, 0, 0, 0, 329, 0], [0, 0, 0, 0, 0, 0, 0, 327, 0], [0, 0, 0, 0]] = true := by decide +kernel
theorem lk137 : kAll "DoorPaints$Sheet" "faultAt" cL137 := (kAll_gr (R := []) kAll_nil lk137_0)
theorem lk138_0 : kOKs "DoorPaints$Sheet" "put" [cL138_0, cL138_1, cL138_2] [[0, 0, 0, 0, 327, 0, 0, 326], [0, 0, 329, 0, 0, 0, 0, 0, 329], [0, 0, 0, 0, 0, 0, 0, 0]] = true := by decide +kernel
theorem lk138 : kAll "DoorPaints$Sheet" "put" cL138 := (kAll_gr (R := []) kAll_nil lk138_0)
theorem lk139_0 : kOKs "DoorPaints" "read" [cL139_0, cL139_1, cL139_2, cL139_3, cL139_4, cL139_5, cL139_6, cL139_7] [[0, 931, 0, 0, 934, 0, 0], [0, 0, 0, 0, 0, 0, 0, 346], [0, 0, 0, 0, 343, 0, 340, 207, 731], [0, 0, 0, 0, 0, 0, 0, 0, 0], [0, 0, 0, 0, 0, 0, 0, 0, 0], [0, 0, 957, 0, 0, 0, 0, 343], [0, 0, 962, 0, 0, 0, 0, 962], [650, 761, 0, 0, 0, 0]] = true := by decide +kernel
theorem lk139_1 : kOKs "DoorPaints" "read" [cL139_8, cL139_9, cL139_10] [[0, 0, 0, 0, 0, 340, 207], [0, 343, 731, 0, 0, 348, 0], [0]] = true := by decide +kernel
theorem lk139 : kAll "DoorPaints" "read" cL139 := (kAll_gr (R := cL139_8 ++ ( cL139_9 ++ ( cL139_10 ++ ([])))) (kAll_gr (R := []) kAll_nil lk139_1) lk139_0)
theorem lk140_0 : kOKs "DoorPaints$Sheet" "faultOfPair" [cL140_0, cL140_1] [[0, 0, 0, 961, 0, 0, 0, 0, 0, 0], [0, 0, 0, 0, 961, 0]] = true := by decide +kernel
theorem lk140 : kAll "DoorPaints$Sheet" "faultOfPair" cL140 := (kAll_gr (R := []) kAll_nil lk140_0)
theorem lk141_0 : kOKs "DoorPaints$Sheet" "cellAt" [cL141_0, cL141_1] [[0, 0, 0, 0, 327, 0, 0, 326], [0, 0, 0, 0, 0]] = true := by decide +kernel
theorem lk141 : kAll "DoorPaints$Sheet" "cellAt" cL141 := (kAll_gr (R := []) kAll_nil lk141_0)
theorem lk142_0 : kOKs "DoorPaints" "torn" [cL142_0] [[0, 348, 0]] = true := by decide +kernel
theorem lk142 : kAll "DoorPaints" "torn" cL142 := (kAll_gr (R := []) kAll_nil lk142_0)
theorem lk143_0 : kOKs "DoorPaints" "count" [cL143_0, cL143_1, cL143_2, cL143_3, cL143_4, cL143_5, cL143_6, cL143_7] [[0, 0], [], [0, 340, 207, 693, 0, 0], [340, 216, 0, 0, 342, 0, 0, 0], [0, 0, 0, 0, 342, 0, 0, 0, 0, 0], [0, 0, 0, 0, 339, 240, 0, 0, 346], [0, 0, 330, 0, 0, 0, 0], [0, 346, 0, 0, 328, 0, 0, 0]] = true := by decide +kernel
theorem lk143 : kAll "DoorPaints" "count" cL143 := (kAll_gr (R := []) kAll_nil lk143_0)
theorem lk144_0 : kOKs "DoorPaintsModel" "<init>" [cL144_0, cL144_1, cL144_2, cL144_3, cL144_4, cL144_5, cL144_6, cL144_7] [[0, 979, 0, 0, 0, 988, 0, 0], [0, 989, 0, 0, 0, 990, 0, 0, 0], [993, 0, 0, 0, 999, 0, 0, 0], [1000, 0, 0, 0, 1012, 0, 0, 0, 1016], [0, 0, 0, 1017, 0, 0, 0, 1018], [0, 0, 0, 1020, 0, 0, 0, 0, 0], [0, 1016, 0, 0, 0, 0, 0, 0], [980, 0, 984, 0]] = true := by decide +kernel
theorem lk144 : kAll "DoorPaintsModel" "<init>" cL144 := (kAll_gr (R := []) kAll_nil lk144_0)
theorem lk145_0 : kOKs "DoorPaintsModel" "firstDraft" [cL145_0, cL145_1, cL145_2, cL145_3, cL145_4] [[0, 0, 0, 0, 0, 0, 993, 0, 0, 0, 0], [0, 0, 0, 0, 0, 0, 0, 999], [0, 0, 0, 0, 0, 0, 0, 994, 0, 0], [995, 0, 0, 996, 0, 0, 997, 0, 0], [998, 0]] = true := by decide +kernel
theorem lk145 : kAll "DoorPaintsModel" "firstDraft" cL145 := (kAll_gr (R := []) kAll_nil lk145_0)
theorem lk146_0 : kOKs "DoorPaintsModel" "keepDraft" [cL146_0, cL146_1, cL146_2, cL146_3, cL146_4, cL146_5] [[0, 0, 0, 0, 0, 0, 988, 0, 0, 993], [0, 0, 0, 0, 0, 0, 0, 994, 991], [0, 0, 995, 992, 0, 0, 0, 0, 992], [0, 0, 988, 0, 0, 0, 0, 0, 0], [0, 0, 999, 0, 0, 0, 0, 0, 0, 990], [0, 0, 0, 0, 990, 0, 0, 0, 0]] = true := by decide +kernel
theorem lk146 : kAll "DoorPaintsModel" "keepDraft" cL146 := (kAll_gr (R := []) kAll_nil lk146_0)
theorem lk147_0 : kOKs "DoorPaintsModel" "feed" [cL147_0, cL147_1, cL147_2, cL147_3] [[0, 0, 0, 1092, 1093, 0, 0, 0, 0, 1001], [0, 0, 0, 0, 0, 1000, 0], [1001, 0, 0, 0, 0, 1001, 0, 0, 1001, 0], [1001, 0]] = true := by decide +kernel
theorem lk147 : kAll "DoorPaintsModel" "feed" cL147 := (kAll_gr (R := []) kAll_nil lk147_0)
theorem lk148_0 : kOKs "DoorPaintsModel" "in" [cL148_0, cL148_1] [[0, 0, 0, 0, 0, 0, 0, 0, 0, 0], [0, 0]] = true := by decide +kernel
theorem lk148 : kAll "DoorPaintsModel" "in" cL148 := (kAll_gr (R := []) kAll_nil lk148_0)
theorem lk149_0 : kOKs "DoorPaintsModel" "end" [cL149_0, cL149_1] [[0, 0, 0, 0, 1001, 0, 1093, 0, 0, 0], [0, 1001, 0, 0, 0, 1001, 0, 0]] = true := by decide +kernel
theorem lk149 : kAll "DoorPaintsModel" "end" cL149 := (kAll_gr (R := []) kAll_nil lk149_0)
theorem lk150_0 : kOKs "DoorPaintsModel" "text" [cL150_0, cL150_1, cL150_2, cL150_3, cL150_4, cL150_5, cL150_6] [[0, 0, 0, 0, 1006, 0, 0, 1002, 0, 980], [0, 1104, 0, 1006, 0, 0, 1004, 0], [0, 1120, 0, 0, 0, 1006], [0, 0, 0, 997, 0, 994, 0, 0], [998, 0, 995, 0, 0, 0, 0, 0], [1116, 0, 0, 1001, 0, 1006, 0], [0, 0, 1007, 0, 0, 0, 984, 0, 0]] = true := by decide +kernel
theorem lk150 : kAll "DoorPaintsModel" "text" cL150 := (kAll_gr (R := []) kAll_nil lk150_0)
theorem lk151_0 : kOKs "DoorPaintsModel" "next" [cL151_0, cL151_1, cL151_2, cL151_3, cL151_4, cL151_5, cL151_6, cL151_7] [[0, 1006, 0, 0, 0, 0, 1002, 1108], [0, 0, 0, 0, 1002, 0, 0, 1002, 0], [0, 0, 1002, 1003, 0, 0, 1002, 1108], [0, 0, 0, 0, 0, 1004, 0, 0], [0, 1112, 1113, 1093, 0, 0, 0, 1004], [0, 0, 1002, 1108, 0, 1112, 1113], [1093, 0, 0, 0, 1002, 0, 0, 1002], [0, 0, 0, 1114, 1115, 1093, 0]] = true := by decide +kernel
theorem lk151_1 : kOKs "DoorPaintsModel" "next" [cL151_8, cL151_9, cL151_10, cL151_11, cL151_12, cL151_13, cL151_14, cL151_15] [[0, 0, 1004, 0, 0, 1005, 0, 0, 1002], [1108, 0, 1114, 1115, 1093, 0], [0, 0, 1002, 0, 1003, 0, 0, 0, 0], [0, 1005, 0, 0, 0, 1002, 1108, 0, 0], [0, 0, 0, 1005, 1005, 0, 0, 1002], [0, 0, 1002, 0, 0, 0, 1002, 0, 1003], [0, 0, 0, 0, 0, 0, 0, 1116], [0, 0, 0, 1004, 0, 0, 0, 0, 0]] = true := by decide +kernel
theorem lk151_2 : kOKs "DoorPaintsModel" "next" [cL151_16, cL151_17] [[0, 0, 0, 1116, 0, 0, 1002, 0, 0, 1002], [0]] = true := by decide +kernel
theorem lk151 : kAll "DoorPaintsModel" "next" cL151 := (kAll_gr (R := cL151_8 ++ ( cL151_9 ++ ( cL151_10 ++ ( cL151_11 ++ ( cL151_12 ++ ( cL151_13 ++ ( cL151_14 ++ ( cL151_15 ++ ( cL151_16 ++ ( cL151_17 ++ ([]))))))))))) (kAll_gr (R := cL151_16 ++ ( cL151_17 ++ ([]))) (kAll_gr (R := []) kAll_nil lk151_2) lk151_1) lk151_0)
theorem lk152_0 : kOKs "DoorPaintsModel" "byteAt" [cL152_0, cL152_1] [[0, 0, 1001, 0, 0, 1000, 0, 0, 0], [0, 0]] = true := by decide +kernel
theorem lk152 : kAll "DoorPaintsModel" "byteAt" cL152 := (kAll_gr (R := []) kAll_nil lk152_0)
theorem lk153_0 : kOKs "DoorPaintsModel" "needs" [cL153_0, cL153_1] [[0, 0, 0, 1006, 0, 0, 0, 1006], [0, 0, 1003, 1007, 0]] = true := by decide +kernel
theorem lk153 : kAll "DoorPaintsModel" "needs" cL153 := (kAll_gr (R := []) kAll_nil lk153_0)
theorem lk154_0 : kOKs "DoorPaintsModel" "readLine" [cL154_0, cL154_1, cL154_2, cL154_3, cL154_4, cL154_5, cL154_6, cL154_7] [[0, 1004, 0, 0, 0, 1124, 0, 0], [0, 0, 0, 0, 0, 0, 0, 0, 0, 1116], [0, 0, 0, 0, 0, 995, 0, 0], [0, 0, 0, 0, 0, 0, 0, 0, 994], [0, 0, 0, 0, 0, 0, 1116, 0, 0], [0, 0, 0, 996, 0, 0, 0], [0, 0, 1116, 0, 0, 996, 0, 0, 0], [0, 0, 0, 0, 996, 0, 1104, 0]] = true := by decide +kernel
theorem lk154_1 : kOKs "DoorPaintsModel" "readLine" [cL154_8, cL154_9, cL154_10] [[1006, 0, 0, 0, 0, 1136, 0, 1006], [0, 0, 0, 1004, 0, 0, 0, 0], [0, 0, 1116, 0, 1104, 0]] = true := by decide +kernel
theorem lk154 : kAll "DoorPaintsModel" "readLine" cL154 := (kAll_gr (R := cL154_8 ++ ( cL154_9 ++ ( cL154_10 ++ ([])))) (kAll_gr (R := []) kAll_nil lk154_1) lk154_0)
theorem lk155_0 : kOKs "DoorPaintsModel" "lineNow" [cL155_0, cL155_1, cL155_2, cL155_3, cL155_4, cL155_5, cL155_6, cL155_7] [[0, 0, 0, 0, 0, 1128, 0, 0, 0], [0, 0, 1132, 0, 0, 0, 0, 0, 0], [0, 0, 1128, 0, 0, 0, 0], [0, 1132, 0, 0, 0, 0, 0, 0, 0], [0, 1128, 0, 0, 0, 0, 0, 1132], [0, 0, 0, 0, 0, 0, 0, 0, 1128], [0, 0, 0, 0, 0, 0, 0, 0, 1128], [0, 0, 0, 0, 0, 1132, 0, 0]] = true := by decide +kernel
theorem lk155_1 : kOKs "DoorPaintsModel" "lineNow" [cL155_8, cL155_9, cL155_10, cL155_11] [[0, 0, 0, 0, 0, 0, 1128, 0, 0], [0, 0, 0, 0, 0, 0, 1128, 0], [0, 0, 0, 0, 1132, 0, 0, 0], [0, 0]] = true := by decide +kernel
theorem lk155 : kAll "DoorPaintsModel" "lineNow" cL155 := (kAll_gr (R := cL155_8 ++ ( cL155_9 ++ ( cL155_10 ++ ( cL155_11 ++ ([]))))) (kAll_gr (R := []) kAll_nil lk155_1) lk155_0)
theorem lk156_0 : kOKs "DoorPaintsModel" "is" [cL156_0, cL156_1, cL156_2, cL156_3] [[0, 1002, 0, 1003, 0, 0, 0, 0, 0, 1003], [1108, 0, 0, 0, 0, 1003, 0, 0], [1108, 0, 0, 0, 0, 1003, 0, 0, 1108], [0, 0, 0, 0, 0, 0]] = true := by decide +kernel
theorem lk156 : kAll "DoorPaintsModel" "is" cL156 := (kAll_gr (R := []) kAll_nil lk156_0)
theorem lk157_0 : kOKs "DoorPaintsModel" "ends" [cL157_0, cL157_1, cL157_2, cL157_3] [[0, 0, 1003, 0, 0, 1108, 0, 0, 0, 0], [0, 0, 1003, 0, 0, 1108, 0, 0], [0, 0, 0, 0, 1003, 0, 0, 1108, 0, 0], [0, 0, 0, 0]] = true := by decide +kernel
theorem lk157 : kAll "DoorPaintsModel" "ends" cL157 := (kAll_gr (R := []) kAll_nil lk157_0)
theorem lk158_0 : kOKs "DoorPaintsModel" "readLineOf" [cL158_0, cL158_1, cL158_2, cL158_3] [[0, 0], [0, 1140], [0, 0, 1152, 0, 0, 1156, 0], [0, 0, 1166, 0]] = true := by decide +kernel
theorem lk158 : kAll "DoorPaintsModel" "readLineOf" cL158 := (kAll_gr (R := []) kAll_nil lk158_0)
theorem lk159_0 : kOKs "DoorPaintsModel" "readDoor" [cL159_0, cL159_1, cL159_2, cL159_3, cL159_4, cL159_5, cL159_6] [[0, 0, 0, 995, 0, 0, 0, 0, 1006, 0], [0, 1004, 0, 0, 0, 0, 993, 0], [0, 0, 0, 0, 0, 0, 0, 0, 0, 1116], [0, 0, 0, 1144, 0, 0, 1006, 0, 0], [993, 0, 0, 0, 0, 993, 0, 0, 0, 0, 0, 0], [0, 0, 993, 0, 0, 0, 0, 0, 0, 0, 0, 0], [0, 0, 995, 0, 0, 995, 0]] = true := by decide +kernel
theorem lk159 : kAll "DoorPaintsModel" "readDoor" cL159 := (kAll_gr (R := []) kAll_nil lk159_0)
theorem lk160_0 : kOKs "DoorPaintsModel" "readNumber" [cL160_0] [[0, 0, 0, 1148, 0, 0, 1104, 0, 0]] = true := by decide +kernel
theorem lk160 : kAll "DoorPaintsModel" "readNumber" cL160 := (kAll_gr (R := []) kAll_nil lk160_0)
theorem lk161_0 : kOKs "DoorPaintsModel" "looked" [cL161_0, cL161_1, cL161_2, cL161_3, cL161_4] [[0, 1006, 0, 0, 0, 1004, 0, 0], [0, 0, 0, 0, 1116, 0, 1006, 0], [0, 0, 1005, 0, 0, 0, 0, 0, 1093, 0, 1116], [0, 1006, 0, 0, 1005, 0, 0], [0]] = true := by decide +kernel
theorem lk161 : kAll "DoorPaintsModel" "looked" cL161 := (kAll_gr (R := []) kAll_nil lk161_0)
theorem lk162_0 : kOKs "DoorPaintsModel" "readNot" [cL162_0, cL162_1, cL162_2, cL162_3, cL162_4, cL162_5] [[0, 0, 0, 1144, 0, 0, 0, 1006, 0, 0], [0, 998, 0, 0, 0, 0, 998, 998], [0, 0, 0, 1148, 0, 0, 1006, 0], [0, 0, 999, 0, 0, 0, 0, 0, 0, 0, 0, 0], [0, 0, 1116, 0, 999, 0, 0, 0, 0, 0], [0, 0, 0, 0, 1104, 0]] = true := by decide +kernel
theorem lk162 : kAll "DoorPaintsModel" "readNot" cL162 := (kAll_gr (R := []) kAll_nil lk162_0)
theorem lk163_0 : kOKs "DoorPaintsModel" "readPlan" [cL163_0, cL163_1, cL163_2, cL163_3, cL163_4, cL163_5, cL163_6, cL163_7] [[0, 1006, 0, 0, 1004, 0, 0, 0], [0, 993, 0, 0, 0, 0, 0, 0], [0, 0, 1116, 0, 1006, 0, 0, 0, 1005], [1160, 0, 1116, 0, 1006, 0, 0], [993, 0, 0, 993, 0, 0, 0, 0, 1005], [0, 0, 993, 0, 0, 0, 0, 0, 0, 0, 0, 1005], [0, 0, 0, 1005, 0, 0, 0, 997], [0, 0, 1005, 0, 0, 0, 0]] = true := by decide +kernel
theorem lk163_1 : kOKs "DoorPaintsModel" "readPlan" [cL163_8, cL163_9, cL163_10, cL163_11] [[997, 997, 0, 0, 1005, 0, 0], [0, 1005, 0, 0, 0, 998, 0, 0, 1005], [0, 0, 0, 0, 998, 998, 0], [1104, 0, 0]] = true := by decide +kernel
theorem lk163 : kAll "DoorPaintsModel" "readPlan" cL163 := (kAll_gr (R := cL163_8 ++ ( cL163_9 ++ ( cL163_10 ++ ( cL163_11 ++ ([]))))) (kAll_gr (R := []) kAll_nil lk163_1) lk163_0)
theorem lk164_0 : kOKs "DoorPaintsModel" "isActLike" [cL164_0, cL164_1, cL164_2] [[0, 0, 1163, 1164, 1093, 0, 0, 0], [0, 0, 0, 1165, 1093, 0, 0, 0], [0, 0, 0, 0, 0, 0, 0]] = true := by decide +kernel
theorem lk164 : kAll "DoorPaintsModel" "isActLike" cL164 := (kAll_gr (R := []) kAll_nil lk164_0)
theorem lk165_0 : kOKs "DoorPaintsModel" "readVisitor" [cL165_0, cL165_1, cL165_2, cL165_3] [[0, 0, 994, 0, 0, 0, 993, 0, 0, 0, 0, 0], [0, 993, 0, 0, 0, 0, 0, 0, 1144, 0, 0, 993], [0, 0, 0, 0, 0, 0, 1144, 0, 0, 0, 994], [0, 0, 994, 0]] = true := by decide +kernel
theorem lk165 : kAll "DoorPaintsModel" "readVisitor" cL165 := (kAll_gr (R := []) kAll_nil lk165_0)
theorem lk166_0 : kOKs "DoorPaintsModel" "fault" [cL166_0] [[0, 1006, 0]] = true := by decide +kernel
theorem lk166 : kAll "DoorPaintsModel" "fault" cL166 := (kAll_gr (R := []) kAll_nil lk166_0)
theorem lk167_0 : kOKs "DoorPaintsModel" "rule" [cL167_0, cL167_1, cL167_2, cL167_3, cL167_4, cL167_5, cL167_6, cL167_7] [[0, 1178, 0, 0, 0, 0, 0, 0, 0, 0, 992], [0, 0, 0, 0, 0, 1182, 0, 0, 0], [0, 0, 0, 0, 0, 0, 0, 991], [0, 0, 0, 0, 0, 1186, 0, 0, 0], [0, 0, 0], [], [0, 991], [0, 0, 992, 0, 0, 988, 0, 0, 0, 0, 0]] = true := by decide +kernel
theorem lk167_1 : kOKs "DoorPaintsModel" "rule" [cL167_8] [[0, 1190, 0, 0, 0, 0, 0]] = true := by decide +kernel
theorem lk167 : kAll "DoorPaintsModel" "rule" cL167 := (kAll_gr (R := cL167_8 ++ ([])) (kAll_gr (R := []) kAll_nil lk167_1) lk167_0)
theorem lk168_0 : kOKs "DoorPaintsModel" "starts" [cL168_0, cL168_1, cL168_2] [[0, 0, 0, 0, 0, 0, 989, 0, 0, 988], [0, 0, 0, 0, 0, 0, 0, 1008], [0]] = true := by decide +kernel
theorem lk168 : kAll "DoorPaintsModel" "starts" cL168 := (kAll_gr (R := []) kAll_nil lk168_0)
theorem lk169_0 : kOKs "DoorPaintsModel" "ofDoor" [cL169_0] [[0, 989, 0, 0, 0, 0, 0, 0, 0, 0, 0]] = true := by decide +kernel
theorem lk169 : kAll "DoorPaintsModel" "ofDoor" cL169 := (kAll_gr (R := []) kAll_nil lk169_0)
theorem lk170_0 : kOKs "DoorPaintsModel" "of" [cL170_0] [[0, 989, 0, 0, 0, 0, 0, 0, 0]] = true := by decide +kernel
theorem lk170 : kAll "DoorPaintsModel" "of" cL170 := (kAll_gr (R := []) kAll_nil lk170_0)
theorem lk171_0 : kOKs "DoorPaintsModel" "wrong" [cL171_0, cL171_1, cL171_2] [[0, 0, 0, 0, 0, 0, 992, 0, 0, 0, 0, 1194], [1206, 0, 0, 0, 0, 0, 0, 0], [0]] = true := by decide +kernel
theorem lk171 : kAll "DoorPaintsModel" "wrong" cL171 := (kAll_gr (R := []) kAll_nil lk171_0)
theorem lk172_0 : kOKs "DoorPaintsModel" "isWrong" [cL172_0, cL172_1, cL172_2] [[0, 0, 1198, 0, 0, 0, 0, 0, 1182], [0, 0, 1198, 0, 0, 0, 0, 0, 0, 0], [0, 0]] = true := by decide +kernel
theorem lk172 : kAll "DoorPaintsModel" "isWrong" cL172 := (kAll_gr (R := []) kAll_nil lk172_0)
theorem lk173_0 : kOKs "DoorPaintsModel" "showsOf" [cL173_0, cL173_1] [[0, 0, 0, 1182, 0, 0, 0, 0, 0], [0, 0, 0, 1182, 0, 0, 1202, 0]] = true := by decide +kernel
theorem lk173 : kAll "DoorPaintsModel" "showsOf" cL173 := (kAll_gr (R := []) kAll_nil lk173_0)
theorem lk174_0 : kOKs "DoorPaintsModel" "layerOf" [cL174_0] [[0, 0, 0, 0, 0, 1182, 0]] = true := by decide +kernel
theorem lk174 : kAll "DoorPaintsModel" "layerOf" cL174 := (kAll_gr (R := []) kAll_nil lk174_0)
theorem lk175_0 : kOKs "DoorPaintsModel" "flag" [cL175_0] [[0, 0, 0, 0, 0, 0]] = true := by decide +kernel
theorem lk175 : kAll "DoorPaintsModel" "flag" cL175 := (kAll_gr (R := []) kAll_nil lk175_0)
theorem lk176_0 : kOKs "DoorPaintsModel" "visitor" [cL176_0, cL176_1, cL176_2] [[0, 0, 1213, 0, 0, 0, 0, 1217, 1093], [0, 0, 0, 0, 1178, 0, 0, 0, 0], [0, 0, 1186, 0, 0, 0, 1218, 0]] = true := by decide +kernel
theorem lk176 : kAll "DoorPaintsModel" "visitor" cL176 := (kAll_gr (R := []) kAll_nil lk176_0)
theorem lk177_0 : kOKs "DoorPaintsModel" "isVisitor" [cL177_0] [[0, 0, 0, 0, 991, 0, 0, 0, 1093, 0]] = true := by decide +kernel
theorem lk177 : kAll "DoorPaintsModel" "isVisitor" cL177 := (kAll_gr (R := []) kAll_nil lk177_0)
theorem lk178_0 : kOKs "DoorPaintsModel" "brushOf" [cL178_0, cL178_1] [[0, 0, 1008, 0, 0, 0, 1009, 1222], [0, 0, 0, 1222, 0]] = true := by decide +kernel
theorem lk178 : kAll "DoorPaintsModel" "brushOf" cL178 := (kAll_gr (R := []) kAll_nil lk178_0)
theorem lk179_0 : kOKs "DoorPaintsModel" "ownBrush" [cL179_0, cL179_1] [[0, 0, 0, 1186, 0, 0, 0, 0, 0, 1186], [0, 0, 0, 0, 1186, 0]] = true := by decide +kernel
theorem lk179 : kAll "DoorPaintsModel" "ownBrush" cL179 := (kAll_gr (R := []) kAll_nil lk179_0)
theorem lk180_0 : kOKs "DoorPaintsModel" "door" [cL180_0, cL180_1, cL180_2, cL180_3, cL180_4, cL180_5, cL180_6, cL180_7] [[0, 0, 1230, 0, 0, 0, 0, 1178, 0, 0], [], [0, 0, 0, 1182], [0, 0, 0, 1198, 0, 0, 0, 0, 1182, 0], [0, 0, 0, 1182, 0, 0, 0, 0, 0, 0, 1234], [1093, 0, 0, 0, 0, 0, 0, 0, 0], [0, 1182, 0, 0, 0, 0, 0, 0, 1202], [0, 0, 0]] = true := by decide +kernel
theorem lk180 : kAll "DoorPaintsModel" "door" cL180 := (kAll_gr (R := []) kAll_nil lk180_0)
theorem lk181_0 : kOKs "DoorPaintsModel" "isDoor" [cL181_0] [[0, 0, 0, 0, 992, 0, 0, 0, 1093, 0]] = true := by decide +kernel
theorem lk181 : kAll "DoorPaintsModel" "isDoor" cL181 := (kAll_gr (R := []) kAll_nil lk181_0)
theorem lk182_0 : kOKs "DoorPaintsModel" "plan" [cL182_0, cL182_1, cL182_2] [[0, 0, 0, 0, 988, 0, 0, 0, 0, 0, 1093], [0, 0, 988, 0, 0, 0, 0, 0, 0], [0]] = true := by decide +kernel
theorem lk182 : kAll "DoorPaintsModel" "plan" cL182 := (kAll_gr (R := []) kAll_nil lk182_0)
theorem lk183_0 : kOKs "DoorPaintsModel" "uses" [cL183_0, cL183_1] [[0, 0, 1213, 0, 0, 0, 1230, 0], [0, 0, 0, 1178, 0, 0, 0, 1243, 0]] = true := by decide +kernel
theorem lk183 : kAll "DoorPaintsModel" "uses" cL183 := (kAll_gr (R := []) kAll_nil lk183_0)
theorem lk184_0 : kOKs "DoorPaintsModel" "usesOf" [cL184_0, cL184_1, cL184_2] [[0, 0, 0, 0, 1182, 0, 0, 0, 0, 0, 0, 0, 1186], [0, 0, 0, 0, 0, 0, 0, 0], [0, 0, 0, 0, 0, 0, 0]] = true := by decide +kernel
theorem lk184 : kAll "DoorPaintsModel" "usesOf" cL184 := (kAll_gr (R := []) kAll_nil lk184_0)
theorem lk185_0 : kOKs "DoorPaintsModel" "visit" [cL185_0, cL185_1, cL185_2, cL185_3] [[0, 0, 1213, 0, 0, 0, 1230, 0], [0, 0, 0, 1178, 0, 0, 0, 1251, 0, 0, 0], [0, 0, 0, 0, 0, 1255, 0, 0, 1263, 0, 0], [1198, 0]] = true := by decide +kernel
theorem lk185 : kAll "DoorPaintsModel" "visit" cL185 := (kAll_gr (R := []) kAll_nil lk185_0)
theorem lk186_0 : kOKs "DoorPaintsModel" "keepsOut" [cL186_0, cL186_1, cL186_2, cL186_3, cL186_4] [[0, 0, 0, 1186, 0, 0, 0, 0, 0, 1182], [0, 0, 0, 0, 0, 1182, 0, 0, 0], [0, 0, 0, 0, 0, 1186, 0, 0, 0, 1243], [0, 0, 0, 0, 0, 0, 0], [0, 0]] = true := by decide +kernel
theorem lk186 : kAll "DoorPaintsModel" "keepsOut" cL186 := (kAll_gr (R := []) kAll_nil lk186_0)
theorem lk187_0 : kOKs "DoorPaintsModel" "visits" [cL187_0, cL187_1, cL187_2, cL187_3, cL187_4, cL187_5, cL187_6, cL187_7] [[0, 0, 0, 1243, 0, 0, 0, 1198, 0, 0, 0], [0, 1182, 0, 0, 0, 0, 0, 0], [0, 0, 0, 0, 989, 0, 0, 0, 0, 0, 0], [0, 0, 0, 0, 0, 0, 0, 989, 0, 0, 0], [0, 0, 0, 0, 0, 0, 0, 0, 0, 0, 0, 0, 1186], [0, 0, 0, 0, 0, 1182, 0, 0, 0, 0, 0], [0, 0, 0, 0, 0, 0, 0, 0], [0, 0, 0, 0, 1218, 0, 0, 0, 0]] = true := by decide +kernel
theorem lk187_1 : kOKs "DoorPaintsModel" "visits" [cL187_8, cL187_9, cL187_10] [[0, 0, 1218, 1259, 0, 0, 0, 0, 0], [0, 0, 0, 0, 0, 1259, 0, 0, 0], [0, 1259, 0, 0]] = true := by decide +kernel
theorem lk187 : kAll "DoorPaintsModel" "visits" cL187 := (kAll_gr (R := cL187_8 ++ ( cL187_9 ++ ( cL187_10 ++ ([])))) (kAll_gr (R := []) kAll_nil lk187_1) lk187_0)
theorem lk188_0 : kOKs "DoorPaintsModel" "becomesDoor" [cL188_0] [[0, 989, 0, 0, 0, 0, 0, 0, 0, 0, 0, 0]] = true := by decide +kernel
theorem lk188 : kAll "DoorPaintsModel" "becomesDoor" cL188 := (kAll_gr (R := []) kAll_nil lk188_0)
theorem lk189_0 : kOKs "DoorPaintsModel" "settles" [cL189_0, cL189_1] [[0, 0, 0, 0, 0, 0, 988, 0, 0, 989], [0, 0, 0, 0, 0, 0]] = true := by decide +kernel
theorem lk189 : kAll "DoorPaintsModel" "settles" cL189 := (kAll_gr (R := []) kAll_nil lk189_0)
theorem lk190_0 : kOKs "DoorPaintsModel" "sky" [cL190_0, cL190_1, cL190_2] [[0, 0, 0, 1271, 1093, 0, 0, 0, 0, 1178], [0, 0, 0, 0, 1272, 0, 1263, 0, 1280], [0]] = true := by decide +kernel
theorem lk190 : kAll "DoorPaintsModel" "sky" cL190 := (kAll_gr (R := []) kAll_nil lk190_0)
theorem lk191_0 : kOKs "DoorPaintsModel" "goesBy" [cL191_0, cL191_1, cL191_2, cL191_3, cL191_4] [[0, 0, 0, 0, 992, 0, 0, 0, 0], [0, 0, 1276, 0, 0, 0, 0, 0, 1259, 0], [0, 0, 0, 0, 1198, 0, 0, 0, 0], [0, 0, 0, 1182, 0, 0, 1259, 0, 0], [0, 0]] = true := by decide +kernel
theorem lk191 : kAll "DoorPaintsModel" "goesBy" cL191 := (kAll_gr (R := []) kAll_nil lk191_0)
theorem lk192_0 : kOKs "DoorPaintsModel" "rains" [cL192_0, cL192_1, cL192_2, cL192_3, cL192_4, cL192_5] [[0, 0, 0, 1182, 0, 0, 0, 0, 0, 0], [0, 0, 0, 0, 0, 0, 0, 0, 0, 0, 0], [0, 0, 0, 0, 0, 0, 1202, 0, 0], [0, 0, 0, 0, 0, 0, 0, 0, 0, 0], [1259, 0, 0, 0, 0, 0, 0, 1259, 0, 0, 0, 0], [1259, 0]] = true := by decide +kernel
theorem lk192 : kAll "DoorPaintsModel" "rains" cL192 := (kAll_gr (R := []) kAll_nil lk192_0)
theorem lk193_0 : kOKs "DoorPaintsModel" "layers" [cL193_0, cL193_1] [[0, 0, 0, 0, 0, 0, 992, 0, 0, 0, 0, 0], [1182, 0, 0, 0, 0, 0, 0]] = true := by decide +kernel
theorem lk193 : kAll "DoorPaintsModel" "layers" cL193 := (kAll_gr (R := []) kAll_nil lk193_0)
theorem lk194_0 : kOKs "DoorPaintsModel" "scrape" [cL194_0, cL194_1, cL194_2, cL194_3] [[0, 0, 1230, 0, 0, 0, 0, 1178, 0, 0], [1198, 0, 0, 0, 0, 0, 0, 0, 0, 0], [0, 1182, 0, 0, 1259, 0, 0, 0, 0, 1259], [0, 1263, 0, 0, 1198, 0]] = true := by decide +kernel
theorem lk194 : kAll "DoorPaintsModel" "scrape" cL194 := (kAll_gr (R := []) kAll_nil lk194_0)
theorem lk195_0 : kOKs "DoorPaintsModel" "alter" [cL195_0, cL195_1, cL195_2, cL195_3] [[0, 0, 1213, 0, 0, 0, 0, 1165, 1093], [0, 0, 0, 0, 0, 1292, 0, 1093, 0], [0, 0, 0, 0, 0, 0, 0, 1295, 0, 0], [0]] = true := by decide +kernel
theorem lk195 : kAll "DoorPaintsModel" "alter" cL195 := (kAll_gr (R := []) kAll_nil lk195_0)
