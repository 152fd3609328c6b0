/-! TABLES: the links stand in the tables (written by a program) -/
theorem lg94_0 : kAll "DoorPaints" "clears" cG94_0 := kOK_of (by decide +kernel : kOK "DoorPaints" "clears" cG94_0 [0, 340, 207, 0, 628, 0, 0, 0, 0, 0, 0, 0, 0, 0, 340, 207, 184, 0, 0, 343, 0, 340, 207, 731, 0, 343, 0, 0, 650, 761, 0, 0, 343, 180, 0, 0, 762, 0, 0, 0, 0, 0, 0, 0, 0, 0, 0, 0] = true)
theorem lk94 : kAll "DoorPaints" "clears" cL94 := kAll_app lg94_0 kAll_nil
theorem lg95_0 : kAll "DoorPaints" "best" cG95_0 := kOK_of (by decide +kernel : kOK "DoorPaints" "best" cG95_0 [0, 0, 0, 0, 0, 0, 0, 0, 0, 0, 0, 0, 0, 0, 0, 0, 344, 0, 340, 207, 0, 767, 0, 0, 0, 344, 299, 0, 0, 344, 301, 0, 0, 344, 0, 0, 0, 818, 0] = true)
theorem lk95 : kAll "DoorPaints" "best" cL95 := kAll_app lg95_0 kAll_nil
theorem lg96_0 : kAll "DoorPaints$Search" "forBest" cG96_0 := kOK_of (by decide +kernel : kOK "DoorPaints$Search" "forBest" cG96_0 [0, 0, 302, 0, 771, 298, 0, 0, 0, 772, 0, 0, 0, 294, 781, 782, 0, 788, 0] = true)
theorem lk96 : kAll "DoorPaints$Search" "forBest" cL96 := kAll_app lg96_0 kAll_nil
theorem lg97_0 : kAll "DoorPaints$Search" "begin" cG97_0 := kOK_of (by decide +kernel : kOK "DoorPaints$Search" "begin" cG97_0 [0, 294, 0, 776, 0, 0, 777, 0, 0, 0, 0, 297, 0, 771, 300, 0] = true)
theorem lk97 : kAll "DoorPaints$Search" "begin" cL97 := kAll_app lg97_0 kAll_nil
theorem lg98_0 : kAll "DoorPaints$Town" "hasVisits" cG98_0 := kOK_of (by decide +kernel : kOK "DoorPaints$Town" "hasVisits" cG98_0 [0, 181, 0, 0, 185, 0, 0, 0, 0, 0] = true)
theorem lk98 : kAll "DoorPaints$Town" "hasVisits" cL98 := kAll_app lg98_0 kAll_nil
theorem lg99_0 : kAll "java/lang/Integer" "bitCount" cG99_0 := kOK_of (by decide +kernel : kOK "java/lang/Integer" "bitCount" cG99_0 [0, 0, 0, 0, 785, 0, 0, 0, 0, 786, 0, 0, 0, 0, 786, 0, 0, 0, 0, 0, 0, 0, 0, 787, 0, 0, 0, 0, 0, 0, 0, 0, 0, 0, 0, 0, 0, 0, 0, 0, 0, 0] = true)
theorem lk99 : kAll "java/lang/Integer" "bitCount" cL99 := kAll_app lg99_0 kAll_nil
theorem lg100_0 : kAll "DoorPaints$Search" "tryFrom" cG100_0 := kOK_of (by decide +kernel : kOK "DoorPaints$Search" "tryFrom" cG100_0 [0, 0, 297, 0, 0, 0, 0, 0, 0, 0, 792, 0, 0, 0, 0, 796, 0, 0, 0, 0, 0, 294, 183, 0, 0, 0, 0, 0, 294, 187, 0, 0, 0, 0, 0, 800, 0, 0, 295, 0, 0, 0, 0, 0, 0, 0, 0, 0, 0, 0, 0, 0, 807, 0, 0, 0, 0, 0] = true)
theorem lk100 : kAll "DoorPaints$Search" "tryFrom" cL100 := kAll_app lg100_0 kAll_nil
theorem lg101_0 : kAll "DoorPaints$Search" "isBetter" cG101_0 := kOK_of (by decide +kernel : kOK "DoorPaints$Search" "isBetter" cG101_0 [0, 0, 298, 0, 0, 302, 0, 0, 0, 298, 0, 0, 0, 300, 0, 0, 0, 0, 0] = true)
theorem lk101 : kAll "DoorPaints$Search" "isBetter" cL101 := kAll_app lg101_0 kAll_nil
theorem lg102_0 : kAll "DoorPaints$Search" "take" cG102_0 := kOK_of (by decide +kernel : kOK "DoorPaints$Search" "take" cG102_0 [0, 0, 298, 0, 0, 300, 0, 0, 0, 0, 297, 0, 0, 0, 0, 0, 296, 0, 0, 295, 0, 0, 0, 0, 0, 0] = true)
theorem lk102 : kAll "DoorPaints$Search" "take" cL102 := kAll_app lg102_0 kAll_nil
theorem lg103_0 : kAll "DoorPaints$Search" "mayImprove" cG103_0 := kOK_of (by decide +kernel : kOK "DoorPaints$Search" "mayImprove" cG103_0 [0, 0, 0, 0, 297, 0, 0, 0, 804, 0, 792, 0] = true)
theorem lk103 : kAll "DoorPaints$Search" "mayImprove" cL103 := kAll_app lg103_0 kAll_nil
theorem lg104_0 : kAll "DoorPaints$Search" "tryVisit" cG104_0 := kOK_of (by decide +kernel : kOK "DoorPaints$Search" "tryVisit" cG104_0 [0, 294, 174, 0, 0, 0, 0, 294, 179, 0, 0, 0, 0, 129, 0, 0, 153, 0, 0, 811, 0, 0, 160, 0, 0, 812, 0, 0, 0, 0, 0, 0, 0, 0, 294, 0, 0, 813, 0, 0, 0, 0, 0, 0, 812, 0, 0, 0, 0, 0, 0, 0, 0, 0, 0, 129, 0, 788, 0, 0, 129, 0, 0, 0, 0] = true)
theorem lg104_1 : kAll "DoorPaints$Search" "tryVisit" cG104_1 := kOK_of (by decide +kernel : kOK "DoorPaints$Search" "tryVisit" cG104_1 [814, 0] = true)
theorem lk104 : kAll "DoorPaints$Search" "tryVisit" cL104 := kAll_app lg104_0 (kAll_app lg104_1 kAll_nil)
theorem lg105_0 : kAll "DoorPaints$Door" "restore" cG105_0 := kOK_of (by decide +kernel : kOK "DoorPaints$Door" "restore" cG105_0 [0, 0, 152, 0, 152, 0, 0, 152, 0, 0, 0, 151, 0, 152, 0, 0, 0, 0, 0, 0, 159, 0] = true)
theorem lk105 : kAll "DoorPaints$Door" "restore" cL105 := kAll_app lg105_0 kAll_nil
theorem lg106_0 : kAll "DoorPaints$Search" "visitAt" cG106_0 := kOK_of (by decide +kernel : kOK "DoorPaints$Search" "visitAt" cG106_0 [0, 0, 0, 0, 297, 0, 0, 0, 0, 0, 296, 0, 0, 0, 0, 0] = true)
theorem lk106 : kAll "DoorPaints$Search" "visitAt" cL106 := kAll_app lg106_0 kAll_nil
theorem lg107_0 : kAll "DoorPaints" "few" cG107_0 := kOK_of (by decide +kernel : kOK "DoorPaints" "few" cG107_0 [0, 0, 0, 0, 0, 0, 0, 0, 0, 0, 0, 0, 0, 344, 0, 340, 207, 0, 826, 0, 0, 0, 0, 0, 0, 344, 0, 0, 0, 818, 0, 0, 0, 0, 0] = true)
theorem lk107 : kAll "DoorPaints" "few" cL107 := kAll_app lg107_0 kAll_nil
theorem lg108_0 : kAll "DoorPaints$Search" "clearsAll" cG108_0 := kOK_of (by decide +kernel : kOK "DoorPaints$Search" "clearsAll" cG108_0 [0, 0, 302, 0, 0, 298, 0, 0, 0, 772, 0, 0, 0, 294, 781, 782, 0, 788, 0, 298, 0, 0, 0, 0, 0] = true)
theorem lk108 : kAll "DoorPaints$Search" "clearsAll" cL108 := kAll_app lg108_0 kAll_nil
theorem lg109_0 : kAll "DoorPaints" "reads" cG109_0 := kOK_of (by decide +kernel : kOK "DoorPaints" "reads" cG109_0 [0, 340, 207, 0, 619, 0, 0, 0, 0, 340, 207, 0, 620, 0, 0, 0, 0, 0, 0, 0, 340, 207, 188, 0, 0, 340, 207, 180, 0, 0, 0, 834, 0, 0, 0, 0, 0, 0, 0, 0, 0, 0, 0] = true)
theorem lk109 : kAll "DoorPaints" "reads" cL109 := kAll_app lg109_0 kAll_nil
theorem lg110_0 : kAll "DoorPaints$Door" "hasLayerOf" cG110_0 := kOK_of (by decide +kernel : kOK "DoorPaints$Door" "hasLayerOf" cG110_0 [0, 0, 0, 0, 152, 0, 0, 151, 0, 0, 0, 0, 0, 0, 0, 0, 0, 0] = true)
theorem lk110 : kAll "DoorPaints$Door" "hasLayerOf" cL110 := kAll_app lg110_0 kAll_nil
theorem lg111_0 : kAll "DoorPaints" "see" cG111_0 := kOK_of (by decide +kernel : kOK "DoorPaints" "see" cG111_0 [0, 710, 0, 0, 0, 0, 0, 0, 0, 0, 0, 340, 207, 0, 628, 0, 0, 0, 0, 0, 0, 0, 0, 0, 0, 0, 340, 0, 0, 0, 842, 0, 0, 340, 216, 0, 0, 0] = true)
theorem lk111 : kAll "DoorPaints" "see" cL111 := kAll_app lg111_0 kAll_nil
theorem lg112_0 : kAll "DoorPaints$Told" "addSeen" cG112_0 := kOK_of (by decide +kernel : kOK "DoorPaints$Told" "addSeen" cG112_0 [0, 215, 0, 0, 0, 0, 0, 212, 0, 215, 0, 0, 0, 213, 0, 215, 0, 0, 0, 214, 0, 215, 0, 0, 0, 0, 215, 0, 0, 215, 0, 0] = true)
theorem lk112 : kAll "DoorPaints$Told" "addSeen" cL112 := kAll_app lg112_0 kAll_nil
theorem lg113_0 : kAll "DoorPaints" "forget" cG113_0 := kOK_of (by decide +kernel : kOK "DoorPaints" "forget" cG113_0 [0, 0, 0, 0, 340, 216, 0, 0, 0, 0, 340, 216, 0, 0, 340, 0, 216, 0, 0] = true)
theorem lk113 : kAll "DoorPaints" "forget" cL113 := kAll_app lg113_0 kAll_nil
theorem lg114_0 : kAll "DoorPaints" "pots" cG114_0 := kOK_of (by decide +kernel : kOK "DoorPaints" "pots" cG114_0 [0, 340, 207, 0, 619, 0, 0, 0, 0, 0, 0, 0, 0, 0, 340, 207, 184, 0, 0, 343, 0, 340, 207, 731, 0, 343, 0, 0, 340, 207, 0, 620, 854, 0, 0, 0, 340, 211, 732, 0, 0, 340, 0, 343, 858, 0, 0, 0, 0, 0, 0, 0, 0, 0, 0, 0] = true)
theorem lk114 : kAll "DoorPaints" "pots" cL114 := kAll_app lg114_0 kAll_nil
theorem lg115_0 : kAll "DoorPaints$Town" "lend" cG115_0 := kOK_of (by decide +kernel : kOK "DoorPaints$Town" "lend" cG115_0 [0, 0, 190, 0, 0, 191, 0] = true)
theorem lk115 : kAll "DoorPaints$Town" "lend" cL115 := kAll_app lg115_0 kAll_nil
theorem lg116_0 : kAll "DoorPaints$Told" "agreesWith" cG116_0 := kOK_of (by decide +kernel : kOK "DoorPaints$Told" "agreesWith" cG116_0 [0, 0, 0, 0, 215, 0, 0, 212, 0, 0, 0, 0, 0, 862, 0, 0, 177, 0, 0, 0, 213, 0, 0, 863, 0, 214, 0, 0, 0, 0, 0, 0, 0, 0, 0] = true)
theorem lk116 : kAll "DoorPaints$Told" "agreesWith" cL116 := kAll_app lg116_0 kAll_nil
theorem lg117_0 : kAll "DoorPaints" "rained" cG117_0 := kOK_of (by decide +kernel : kOK "DoorPaints" "rained" cG117_0 [0, 0, 0, 0, 0, 0, 340, 211, 0, 0, 343, 0, 340, 207, 731, 0, 0, 0, 732, 0, 0, 343, 0, 677, 0, 0, 0, 340, 211, 732, 0, 0, 340, 0, 343, 858, 0, 0, 0, 0, 0, 0, 0, 0, 0, 0, 0] = true)
theorem lk117 : kAll "DoorPaints" "rained" cL117 := kAll_app lg117_0 kAll_nil
theorem lg118_0 : kAll "DoorPaints" "orders" cG118_0 := kOK_of (by decide +kernel : kOK "DoorPaints" "orders" cG118_0 [0, 0, 0, 0, 0, 0, 0, 0, 340, 211, 0, 0, 0, 0, 0, 0, 349, 0, 0, 350, 0, 0, 0, 872, 0, 0, 0, 349, 0, 0, 350, 0] = true)
theorem lk118 : kAll "DoorPaints" "orders" cL118 := kAll_app lg118_0 kAll_nil
theorem lg119_0 : kAll "DoorPaints" "arrange" cG119_0 := kOK_of (by decide +kernel : kOK "DoorPaints" "arrange" cG119_0 [0, 0, 340, 211, 0, 0, 0, 0, 0, 0, 876, 0, 0, 0, 0, 0, 340, 211, 0, 0, 0, 0, 0, 0, 0, 0, 345, 0, 0, 0, 0, 0, 0, 0, 0, 0, 0, 0, 0, 872, 0, 0, 0] = true)
theorem lk119 : kAll "DoorPaints" "arrange" cL119 := kAll_app lg119_0 kAll_nil
theorem lg120_0 : kAll "DoorPaints" "judgeOrder" cG120_0 := kOK_of (by decide +kernel : kOK "DoorPaints" "judgeOrder" cG120_0 [0, 343, 0, 340, 207, 731, 0, 0, 0, 0, 0, 0, 343, 0, 340, 209, 0, 345, 0, 0, 0, 736, 0, 0, 0, 0, 340, 0, 343, 858, 0, 0, 0, 349, 0, 0, 349, 0, 0, 350, 0, 0, 0, 0, 345, 0, 0, 0, 0, 0, 0, 0, 0, 350, 0] = true)
theorem lk120 : kAll "DoorPaints" "judgeOrder" cL120 := kAll_app lg120_0 kAll_nil
theorem lg121_0 : kAll "DoorPaints" "luck" cG121_0 := kOK_of (by decide +kernel : kOK "DoorPaints" "luck" cG121_0 [0, 0, 0, 0, 0, 0, 340, 207, 0, 628, 0, 0, 0, 0, 0, 0, 884, 0, 0, 340, 885, 0, 0, 0, 0, 0, 0, 0, 0, 0, 0, 0, 0, 0, 890, 0, 0, 0, 0, 0, 0, 0, 893, 0, 0, 343, 180, 0, 0, 762, 0, 0, 0, 0, 0, 0, 0, 0, 0, 0, 897, 0, 901, 0] = true)
theorem lk121 : kAll "DoorPaints" "luck" cL121 := kAll_app lg121_0 kAll_nil
theorem lg122_0 : kAll "DoorPaints$Told" "visitsPlanned" cG122_0 := kOK_of (by decide +kernel : kOK "DoorPaints$Told" "visitsPlanned" cG122_0 [0, 0, 0, 0, 0, 0, 210, 0, 0, 0, 208, 0, 0, 10005, 0, 0, 0, 0, 0, 0, 0, 0, 0, 0] = true)
theorem lk122 : kAll "DoorPaints$Told" "visitsPlanned" cL122 := kAll_app lg122_0 kAll_nil
theorem lg123_0 : kAll "DoorPaints" "weightOf" cG123_0 := kOK_of (by decide +kernel : kOK "DoorPaints" "weightOf" cG123_0 [0, 0, 0, 0, 0, 0, 0, 0, 0, 0, 0, 0, 0, 0, 0, 0, 0, 0, 0, 0, 0, 0, 0, 0, 0, 0, 0, 0] = true)
theorem lk123 : kAll "DoorPaints" "weightOf" cL123 := kAll_app lg123_0 kAll_nil
theorem lg124_0 : kAll "DoorPaints" "actChosen" cG124_0 := kOK_of (by decide +kernel : kOK "DoorPaints" "actChosen" cG124_0 [0, 343, 0, 340, 207, 731, 0, 0, 0, 0, 0, 0, 340, 211, 0, 0, 340, 209, 0, 0, 0, 0, 529, 0, 0, 343, 0, 677, 0, 0, 0, 0, 0, 0, 0, 0, 0, 343, 0, 736, 0, 0, 0, 0, 0] = true)
theorem lk124 : kAll "DoorPaints" "actChosen" cL124 := kAll_app lg124_0 kAll_nil
theorem lg125_0 : kAll "DoorPaints" "powerOfTen" cG125_0 := kOK_of (by decide +kernel : kOK "DoorPaints" "powerOfTen" cG125_0 [0, 0, 0, 0, 0, 0, 0, 0, 900, 0, 0, 0, 0, 0, 0] = true)
theorem lk125 : kAll "DoorPaints" "powerOfTen" cL125 := kAll_app lg125_0 kAll_nil
theorem lg126_0 : kAll "DoorPaints" "ofFraction" cG126_0 := kOK_of (by decide +kernel : kOK "DoorPaints" "ofFraction" cG126_0 [0, 0, 0, 0, 0, 0, 0, 0, 0, 0, 0, 0, 0, 0, 0, 0, 0, 0, 0, 0, 0, 0, 0, 0, 0, 0, 0, 884, 0, 0, 0, 0, 0, 0, 0, 0, 0, 0, 0] = true)
theorem lk126 : kAll "DoorPaints" "ofFraction" cL126 := kAll_app lg126_0 kAll_nil
theorem lg127_0 : kAll "DoorPaints" "mean" cG127_0 := kOK_of (by decide +kernel : kOK "DoorPaints" "mean" cG127_0 [0, 0, 0, 0, 0, 0, 0, 0, 0, 0, 884, 0, 0, 340, 885, 0, 0, 0, 0, 0, 0, 0, 0, 0, 0, 0, 0, 0, 890, 0, 0, 0, 0, 0, 0, 0, 893, 0, 0, 0, 745, 0, 0, 0, 0, 0, 0, 0, 0, 897, 0, 901, 0] = true)
theorem lk127 : kAll "DoorPaints" "mean" cL127 := kAll_app lg127_0 kAll_nil
theorem lg128_0 : kAll "DoorPaints" "drift" cG128_0 := kOK_of (by decide +kernel : kOK "DoorPaints" "drift" cG128_0 [0, 0, 0, 0, 0, 0, 0, 0, 0, 0, 0, 0, 0, 0, 340, 207, 912, 0, 0, 0, 0, 343, 0, 340, 207, 731, 0, 0, 0, 0, 0, 0, 0, 0, 913, 0, 0, 0, 0, 0, 343, 0, 0, 0, 0, 0, 914, 0, 0, 0, 0, 0, 343, 693, 0, 0, 343, 598, 0] = true)
theorem lk128 : kAll "DoorPaints" "drift" cL128 := kAll_app lg128_0 kAll_nil
theorem lg129_0 : kAll "DoorPaints$Town" "actBySeed" cG129_0 := kOK_of (by decide +kernel : kOK "DoorPaints$Town" "actBySeed" cG129_0 [0, 0, 0, 0, 0, 0, 0, 0, 0, 0, 0, 0, 0, 740, 0, 0, 918, 0, 0, 0, 0, 0, 0, 181, 0, 0, 0, 0, 0, 185, 0, 741, 0, 0] = true)
theorem lk129 : kAll "DoorPaints$Town" "actBySeed" cL129 := kAll_app lg129_0 kAll_nil
theorem lg130_0 : kAll "DoorPaints" "keep" cG130_0 := kOK_of (by decide +kernel : kOK "DoorPaints" "keep" cG130_0 [0, 0, 0, 0, 0, 0, 0, 0, 342, 0, 0, 0, 0, 0, 0, 0, 0, 341, 0, 0, 0, 340, 569, 0, 342, 0, 0, 0, 0, 0] = true)
theorem lk130 : kAll "DoorPaints" "keep" cL130 := kAll_app lg130_0 kAll_nil
theorem lg131_0 : kAll "DoorPaints" "back" cG131_0 := kOK_of (by decide +kernel : kOK "DoorPaints" "back" cG131_0 [0, 0, 0, 0, 0, 0, 0, 0, 342, 0, 0, 0, 0, 0, 0, 340, 0, 341, 0, 0, 569, 0, 340, 207, 693, 0] = true)
theorem lk131 : kAll "DoorPaints" "back" cL131 := kAll_app lg131_0 kAll_nil
theorem lg132_0 : kAll "DoorPaints" "sheet" cG132_0 := kOK_of (by decide +kernel : kOK "DoorPaints" "sheet" cG132_0 [0, 931, 0, 0, 934, 0, 0, 0, 0, 0, 0, 0, 0, 0, 0, 0, 346, 0, 0, 0, 0, 937, 0, 0] = true)
theorem lk132 : kAll "DoorPaints" "sheet" cL132 := kAll_app lg132_0 kAll_nil
theorem lg133_0 : kAll "DoorPaints" "isSheet" cG133_0 := kOK_of (by decide +kernel : kOK "DoorPaints" "isSheet" cG133_0 [0, 0, 0, 0, 0, 0, 0, 0, 0] = true)
theorem lk133 : kAll "DoorPaints" "isSheet" cL133 := kAll_app lg133_0 kAll_nil
theorem lg134_0 : kAll "DoorPaints" "isLane" cG134_0 := kOK_of (by decide +kernel : kOK "DoorPaints" "isLane" cG134_0 [0, 0, 0, 0, 0, 0, 0, 0, 0] = true)
theorem lk134 : kAll "DoorPaints" "isLane" cL134 := kAll_app lg134_0 kAll_nil
theorem lg135_0 : kAll "DoorPaints$Sheet" "renew" cG135_0 := kOK_of (by decide +kernel : kOK "DoorPaints$Sheet" "renew" cG135_0 [0, 0, 329, 0, 0, 327, 0, 0, 0, 0, 0, 0, 326, 0, 0, 0, 0, 0, 0] = true)
theorem lk135 : kAll "DoorPaints$Sheet" "renew" cL135 := kAll_app lg135_0 kAll_nil
theorem lg136_0 : kAll "DoorPaints" "lay" cG136_0 := kOK_of (by decide +kernel : kOK "DoorPaints" "lay" cG136_0 [0, 931, 0, 0, 0, 0, 346, 0, 0, 0, 0, 0, 330, 0, 945, 0, 0, 0, 0, 0, 0, 0, 0, 0, 0, 949, 0, 0] = true)
theorem lk136 : kAll "DoorPaints" "lay" cL136 := kAll_app lg136_0 kAll_nil
theorem lg137_0 : kAll "DoorPaints$Sheet" "faultAt" cG137_0 := kOK_of (by decide +kernel : kOK "DoorPaints$Sheet" "faultAt" cG137_0 [0, 329, 0, 0, 0, 0, 0, 329, 0, 0, 0, 0, 0, 0, 0, 0, 327, 0, 0, 0, 0, 0] = true)
theorem lk137 : kAll "DoorPaints$Sheet" "faultAt" cL137 := kAll_app lg137_0 kAll_nil
theorem lg138_0 : kAll "DoorPaints$Sheet" "put" cG138_0 := kOK_of (by decide +kernel : kOK "DoorPaints$Sheet" "put" cG138_0 [0, 0, 0, 0, 327, 0, 0, 326, 0, 0, 329, 0, 0, 0, 0, 0, 329, 0, 0, 0, 0, 0, 0, 0, 0] = true)
theorem lk138 : kAll "DoorPaints$Sheet" "put" cL138 := kAll_app lg138_0 kAll_nil
theorem lg139_0 : kAll "DoorPaints" "read" cG139_0 := kOK_of (by decide +kernel : kOK "DoorPaints" "read" cG139_0 [0, 931, 0, 0, 934, 0, 0, 0, 0, 0, 0, 0, 0, 0, 346, 0, 0, 0, 0, 343, 0, 340, 207, 731, 0, 0, 0, 0, 0, 0, 0, 0, 0, 0, 0, 0, 0, 0, 0, 0, 0, 0, 0, 0, 957, 0, 0, 0, 0, 343, 0, 0, 962, 0, 0, 0, 0, 962, 650, 761, 0, 0, 0, 0] = true)
theorem lg139_1 : kAll "DoorPaints" "read" cG139_1 := kOK_of (by decide +kernel : kOK "DoorPaints" "read" cG139_1 [0, 0, 0, 0, 0, 340, 207, 0, 343, 731, 0, 0, 348, 0, 0] = true)
theorem lk139 : kAll "DoorPaints" "read" cL139 := kAll_app lg139_0 (kAll_app lg139_1 kAll_nil)
theorem lg140_0 : kAll "DoorPaints$Sheet" "faultOfPair" cG140_0 := kOK_of (by decide +kernel : kOK "DoorPaints$Sheet" "faultOfPair" cG140_0 [0, 0, 0, 961, 0, 0, 0, 0, 0, 0, 0, 0, 0, 0, 961, 0] = true)
theorem lk140 : kAll "DoorPaints$Sheet" "faultOfPair" cL140 := kAll_app lg140_0 kAll_nil
theorem lg141_0 : kAll "DoorPaints$Sheet" "cellAt" cG141_0 := kOK_of (by decide +kernel : kOK "DoorPaints$Sheet" "cellAt" cG141_0 [0, 0, 0, 0, 327, 0, 0, 326, 0, 0, 0, 0, 0] = true)
theorem lk141 : kAll "DoorPaints$Sheet" "cellAt" cL141 := kAll_app lg141_0 kAll_nil
theorem lg142_0 : kAll "DoorPaints" "torn" cG142_0 := kOK_of (by decide +kernel : kOK "DoorPaints" "torn" cG142_0 [0, 348, 0] = true)
theorem lk142 : kAll "DoorPaints" "torn" cL142 := kAll_app lg142_0 kAll_nil
theorem lg143_0 : kAll "DoorPaints" "count" cG143_0 := kOK_of (by decide +kernel : kOK "DoorPaints" "count" cG143_0 [0, 0, 0, 340, 207, 693, 0, 0, 340, 216, 0, 0, 342, 0, 0, 0, 0, 0, 0, 0, 342, 0, 0, 0, 0, 0, 0, 0, 0, 0, 339, 240, 0, 0, 346, 0, 0, 330, 0, 0, 0, 0, 0, 346, 0, 0, 328, 0, 0, 0] = true)
theorem lk143 : kAll "DoorPaints" "count" cL143 := kAll_app lg143_0 kAll_nil
theorem lg144_0 : kAll "DoorPaintsModel" "<init>" cG144_0 := kOK_of (by decide +kernel : kOK "DoorPaintsModel" "<init>" cG144_0 [0, 979, 0, 0, 0, 988, 0, 0, 0, 989, 0, 0, 0, 990, 0, 0, 0, 993, 0, 0, 0, 999, 0, 0, 0, 1000, 0, 0, 0, 1012, 0, 0, 0, 1016, 0, 0, 0, 1017, 0, 0, 0, 1018, 0, 0, 0, 1020, 0, 0, 0, 0, 0, 0, 1016, 0, 0, 0, 0, 0, 0, 980, 0, 984, 0] = true)
theorem lk144 : kAll "DoorPaintsModel" "<init>" cL144 := kAll_app lg144_0 kAll_nil
theorem lg145_0 : kAll "DoorPaintsModel" "firstDraft" cG145_0 := kOK_of (by decide +kernel : kOK "DoorPaintsModel" "firstDraft" cG145_0 [0, 0, 0, 0, 0, 0, 993, 0, 0, 0, 0, 0, 0, 0, 0, 0, 0, 0, 999, 0, 0, 0, 0, 0, 0, 0, 994, 0, 0, 995, 0, 0, 996, 0, 0, 997, 0, 0, 998, 0] = true)
theorem lk145 : kAll "DoorPaintsModel" "firstDraft" cL145 := kAll_app lg145_0 kAll_nil
theorem lg146_0 : kAll "DoorPaintsModel" "keepDraft" cG146_0 := kOK_of (by decide +kernel : kOK "DoorPaintsModel" "keepDraft" cG146_0 [0, 0, 0, 0, 0, 0, 988, 0, 0, 993, 0, 0, 0, 0, 0, 0, 0, 994, 991, 0, 0, 995, 992, 0, 0, 0, 0, 992, 0, 0, 988, 0, 0, 0, 0, 0, 0, 0, 0, 999, 0, 0, 0, 0, 0, 0, 990, 0, 0, 0, 0, 990, 0, 0, 0, 0] = true)
theorem lk146 : kAll "DoorPaintsModel" "keepDraft" cL146 := kAll_app lg146_0 kAll_nil
theorem lg147_0 : kAll "DoorPaintsModel" "feed" cG147_0 := kOK_of (by decide +kernel : kOK "DoorPaintsModel" "feed" cG147_0 [0, 0, 0, 1092, 1093, 0, 0, 0, 0, 1001, 0, 0, 0, 0, 0, 1000, 0, 1001, 0, 0, 0, 0, 1001, 0, 0, 1001, 0, 1001, 0] = true)
theorem lk147 : kAll "DoorPaintsModel" "feed" cL147 := kAll_app lg147_0 kAll_nil
theorem lg148_0 : kAll "DoorPaintsModel" "in" cG148_0 := kOK_of (by decide +kernel : kOK "DoorPaintsModel" "in" cG148_0 [0, 0, 0, 0, 0, 0, 0, 0, 0, 0, 0, 0] = true)
theorem lk148 : kAll "DoorPaintsModel" "in" cL148 := kAll_app lg148_0 kAll_nil
theorem lg149_0 : kAll "DoorPaintsModel" "end" cG149_0 := kOK_of (by decide +kernel : kOK "DoorPaintsModel" "end" cG149_0 [0, 0, 0, 0, 1001, 0, 1093, 0, 0, 0, 0, 1001, 0, 0, 0, 1001, 0, 0] = true)
theorem lk149 : kAll "DoorPaintsModel" "end" cL149 := kAll_app lg149_0 kAll_nil
theorem lg150_0 : kAll "DoorPaintsModel" "text" cG150_0 := kOK_of (by decide +kernel : kOK "DoorPaintsModel" "text" cG150_0 [0, 0, 0, 0, 1006, 0, 0, 1002, 0, 980, 0, 1104, 0, 1006, 0, 0, 1004, 0, 0, 1120, 0, 0, 0, 1006, 0, 0, 0, 997, 0, 994, 0, 0, 998, 0, 995, 0, 0, 0, 0, 0, 1116, 0, 0, 1001, 0, 1006, 0, 0, 0, 1007, 0, 0, 0, 984, 0, 0] = true)
theorem lk150 : kAll "DoorPaintsModel" "text" cL150 := kAll_app lg150_0 kAll_nil
theorem lg151_0 : kAll "DoorPaintsModel" "next" cG151_0 := kOK_of (by decide +kernel : kOK "DoorPaintsModel" "next" cG151_0 [0, 1006, 0, 0, 0, 0, 1002, 1108, 0, 0, 0, 0, 1002, 0, 0, 1002, 0, 0, 0, 1002, 1003, 0, 0, 1002, 1108, 0, 0, 0, 0, 0, 1004, 0, 0, 0, 1112, 1113, 1093, 0, 0, 0, 1004, 0, 0, 1002, 1108, 0, 1112, 1113, 1093, 0, 0, 0, 1002, 0, 0, 1002, 0, 0, 0, 1114, 1115, 1093, 0] = true)
theorem lg151_1 : kAll "DoorPaintsModel" "next" cG151_1 := kOK_of (by decide +kernel : kOK "DoorPaintsModel" "next" cG151_1 [0, 0, 1004, 0, 0, 1005, 0, 0, 1002, 1108, 0, 1114, 1115, 1093, 0, 0, 0, 1002, 0, 1003, 0, 0, 0, 0, 0, 1005, 0, 0, 0, 1002, 1108, 0, 0, 0, 0, 0, 1005, 1005, 0, 0, 1002, 0, 0, 1002, 0, 0, 0, 1002, 0, 1003, 0, 0, 0, 0, 0, 0, 0, 1116, 0, 0, 0, 1004, 0, 0, 0, 0, 0] = true)
theorem lg151_2 : kAll "DoorPaintsModel" "next" cG151_2 := kOK_of (by decide +kernel : kOK "DoorPaintsModel" "next" cG151_2 [0, 0, 0, 1116, 0, 0, 1002, 0, 0, 1002, 0] = true)
theorem lk151 : kAll "DoorPaintsModel" "next" cL151 := kAll_app lg151_0 (kAll_app lg151_1 (kAll_app lg151_2 kAll_nil))
theorem lg152_0 : kAll "DoorPaintsModel" "byteAt" cG152_0 := kOK_of (by decide +kernel : kOK "DoorPaintsModel" "byteAt" cG152_0 [0, 0, 1001, 0, 0, 1000, 0, 0, 0, 0, 0] = true)
theorem lk152 : kAll "DoorPaintsModel" "byteAt" cL152 := kAll_app lg152_0 kAll_nil
theorem lg153_0 : kAll "DoorPaintsModel" "needs" cG153_0 := kOK_of (by decide +kernel : kOK "DoorPaintsModel" "needs" cG153_0 [0, 0, 0, 1006, 0, 0, 0, 1006, 0, 0, 1003, 1007, 0] = true)
theorem lk153 : kAll "DoorPaintsModel" "needs" cL153 := kAll_app lg153_0 kAll_nil
theorem lg154_0 : kAll "DoorPaintsModel" "readLine" cG154_0 := kOK_of (by decide +kernel : kOK "DoorPaintsModel" "readLine" cG154_0 [0, 1004, 0, 0, 0, 1124, 0, 0, 0, 0, 0, 0, 0, 0, 0, 0, 0, 1116, 0, 0, 0, 0, 0, 995, 0, 0, 0, 0, 0, 0, 0, 0, 0, 0, 994, 0, 0, 0, 0, 0, 0, 1116, 0, 0, 0, 0, 0, 996, 0, 0, 0, 0, 0, 1116, 0, 0, 996, 0, 0, 0, 0, 0, 0, 0, 996, 0, 1104, 0] = true)
theorem lg154_1 : kAll "DoorPaintsModel" "readLine" cG154_1 := kOK_of (by decide +kernel : kOK "DoorPaintsModel" "readLine" cG154_1 [1006, 0, 0, 0, 0, 1136, 0, 1006, 0, 0, 0, 1004, 0, 0, 0, 0, 0, 0, 1116, 0, 1104, 0] = true)
theorem lk154 : kAll "DoorPaintsModel" "readLine" cL154 := kAll_app lg154_0 (kAll_app lg154_1 kAll_nil)
theorem lg155_0 : kAll "DoorPaintsModel" "lineNow" cG155_0 := kOK_of (by decide +kernel : kOK "DoorPaintsModel" "lineNow" cG155_0 [0, 0, 0, 0, 0, 1128, 0, 0, 0, 0, 0, 1132, 0, 0, 0, 0, 0, 0, 0, 0, 1128, 0, 0, 0, 0, 0, 1132, 0, 0, 0, 0, 0, 0, 0, 0, 1128, 0, 0, 0, 0, 0, 1132, 0, 0, 0, 0, 0, 0, 0, 0, 1128, 0, 0, 0, 0, 0, 0, 0, 0, 1128, 0, 0, 0, 0, 0, 1132, 0, 0] = true)
theorem lg155_1 : kAll "DoorPaintsModel" "lineNow" cG155_1 := kOK_of (by decide +kernel : kOK "DoorPaintsModel" "lineNow" cG155_1 [0, 0, 0, 0, 0, 0, 1128, 0, 0, 0, 0, 0, 0, 0, 0, 1128, 0, 0, 0, 0, 0, 1132, 0, 0, 0, 0, 0] = true)
theorem lk155 : kAll "DoorPaintsModel" "lineNow" cL155 := kAll_app lg155_0 (kAll_app lg155_1 kAll_nil)
theorem lg156_0 : kAll "DoorPaintsModel" "is" cG156_0 := kOK_of (by decide +kernel : kOK "DoorPaintsModel" "is" cG156_0 [0, 1002, 0, 1003, 0, 0, 0, 0, 0, 1003, 1108, 0, 0, 0, 0, 1003, 0, 0, 1108, 0, 0, 0, 0, 1003, 0, 0, 1108, 0, 0, 0, 0, 0, 0] = true)
theorem lk156 : kAll "DoorPaintsModel" "is" cL156 := kAll_app lg156_0 kAll_nil
theorem lg157_0 : kAll "DoorPaintsModel" "ends" cG157_0 := kOK_of (by decide +kernel : kOK "DoorPaintsModel" "ends" cG157_0 [0, 0, 1003, 0, 0, 1108, 0, 0, 0, 0, 0, 0, 1003, 0, 0, 1108, 0, 0, 0, 0, 0, 0, 1003, 0, 0, 1108, 0, 0, 0, 0, 0, 0] = true)
theorem lk157 : kAll "DoorPaintsModel" "ends" cL157 := kAll_app lg157_0 kAll_nil
theorem lg158_0 : kAll "DoorPaintsModel" "readLineOf" cG158_0 := kOK_of (by decide +kernel : kOK "DoorPaintsModel" "readLineOf" cG158_0 [0, 0, 0, 1140, 0, 0, 1152, 0, 0, 1156, 0, 0, 0, 1166, 0] = true)
theorem lk158 : kAll "DoorPaintsModel" "readLineOf" cL158 := kAll_app lg158_0 kAll_nil
theorem lg159_0 : kAll "DoorPaintsModel" "readDoor" cG159_0 := kOK_of (by decide +kernel : kOK "DoorPaintsModel" "readDoor" cG159_0 [0, 0, 0, 995, 0, 0, 0, 0, 1006, 0, 0, 1004, 0, 0, 0, 0, 993, 0, 0, 0, 0, 0, 0, 0, 0, 0, 0, 1116, 0, 0, 0, 1144, 0, 0, 1006, 0, 0, 993, 0, 0, 0, 0, 993, 0, 0, 0, 0, 0, 0, 0, 0, 993, 0, 0, 0, 0, 0, 0, 0, 0, 0, 0, 0, 995, 0, 0, 995, 0] = true)
theorem lk159 : kAll "DoorPaintsModel" "readDoor" cL159 := kAll_app lg159_0 kAll_nil
theorem lg160_0 : kAll "DoorPaintsModel" "readNumber" cG160_0 := kOK_of (by decide +kernel : kOK "DoorPaintsModel" "readNumber" cG160_0 [0, 0, 0, 1148, 0, 0, 1104, 0, 0] = true)
theorem lk160 : kAll "DoorPaintsModel" "readNumber" cL160 := kAll_app lg160_0 kAll_nil
theorem lg161_0 : kAll "DoorPaintsModel" "looked" cG161_0 := kOK_of (by decide +kernel : kOK "DoorPaintsModel" "looked" cG161_0 [0, 1006, 0, 0, 0, 1004, 0, 0, 0, 0, 0, 0, 1116, 0, 1006, 0, 0, 0, 1005, 0, 0, 0, 0, 0, 1093, 0, 1116, 0, 1006, 0, 0, 1005, 0, 0, 0] = true)
theorem lk161 : kAll "DoorPaintsModel" "looked" cL161 := kAll_app lg161_0 kAll_nil
theorem lg162_0 : kAll "DoorPaintsModel" "readNot" cG162_0 := kOK_of (by decide +kernel : kOK "DoorPaintsModel" "readNot" cG162_0 [0, 0, 0, 1144, 0, 0, 0, 1006, 0, 0, 0, 998, 0, 0, 0, 0, 998, 998, 0, 0, 0, 1148, 0, 0, 1006, 0, 0, 0, 999, 0, 0, 0, 0, 0, 0, 0, 0, 0, 0, 0, 1116, 0, 999, 0, 0, 0, 0, 0, 0, 0, 0, 0, 1104, 0] = true)
theorem lk162 : kAll "DoorPaintsModel" "readNot" cL162 := kAll_app lg162_0 kAll_nil
theorem lg163_0 : kAll "DoorPaintsModel" "readPlan" cG163_0 := kOK_of (by decide +kernel : kOK "DoorPaintsModel" "readPlan" cG163_0 [0, 1006, 0, 0, 1004, 0, 0, 0, 0, 993, 0, 0, 0, 0, 0, 0, 0, 0, 1116, 0, 1006, 0, 0, 0, 1005, 1160, 0, 1116, 0, 1006, 0, 0, 993, 0, 0, 993, 0, 0, 0, 0, 1005, 0, 0, 993, 0, 0, 0, 0, 0, 0, 0, 0, 1005, 0, 0, 0, 1005, 0, 0, 0, 997, 0, 0, 1005, 0, 0, 0, 0] = true)
theorem lg163_1 : kAll "DoorPaintsModel" "readPlan" cG163_1 := kOK_of (by decide +kernel : kOK "DoorPaintsModel" "readPlan" cG163_1 [997, 997, 0, 0, 1005, 0, 0, 0, 1005, 0, 0, 0, 998, 0, 0, 1005, 0, 0, 0, 0, 998, 998, 0, 1104, 0, 0] = true)
theorem lk163 : kAll "DoorPaintsModel" "readPlan" cL163 := kAll_app lg163_0 (kAll_app lg163_1 kAll_nil)
theorem lg164_0 : kAll "DoorPaintsModel" "isActLike" cG164_0 := kOK_of (by decide +kernel : kOK "DoorPaintsModel" "isActLike" cG164_0 [0, 0, 1163, 1164, 1093, 0, 0, 0, 0, 0, 0, 1165, 1093, 0, 0, 0, 0, 0, 0, 0, 0, 0, 0] = true)
theorem lk164 : kAll "DoorPaintsModel" "isActLike" cL164 := kAll_app lg164_0 kAll_nil
theorem lg165_0 : kAll "DoorPaintsModel" "readVisitor" cG165_0 := kOK_of (by decide +kernel : kOK "DoorPaintsModel" "readVisitor" cG165_0 [0, 0, 994, 0, 0, 0, 993, 0, 0, 0, 0, 0, 0, 993, 0, 0, 0, 0, 0, 0, 1144, 0, 0, 993, 0, 0, 0, 0, 0, 0, 1144, 0, 0, 0, 994, 0, 0, 994, 0] = true)
theorem lk165 : kAll "DoorPaintsModel" "readVisitor" cL165 := kAll_app lg165_0 kAll_nil
theorem lg166_0 : kAll "DoorPaintsModel" "fault" cG166_0 := kOK_of (by decide +kernel : kOK "DoorPaintsModel" "fault" cG166_0 [0, 1006, 0] = true)
theorem lk166 : kAll "DoorPaintsModel" "fault" cL166 := kAll_app lg166_0 kAll_nil
theorem lg167_0 : kAll "DoorPaintsModel" "rule" cG167_0 := kOK_of (by decide +kernel : kOK "DoorPaintsModel" "rule" cG167_0 [0, 1178, 0, 0, 0, 0, 0, 0, 0, 0, 992, 0, 0, 0, 0, 0, 1182, 0, 0, 0, 0, 0, 0, 0, 0, 0, 0, 991, 0, 0, 0, 0, 0, 1186, 0, 0, 0, 0, 0, 0, 0, 991, 0, 0, 992, 0, 0, 988, 0, 0, 0, 0, 0] = true)
theorem lg167_1 : kAll "DoorPaintsModel" "rule" cG167_1 := kOK_of (by decide +kernel : kOK "DoorPaintsModel" "rule" cG167_1 [0, 1190, 0, 0, 0, 0, 0] = true)
theorem lk167 : kAll "DoorPaintsModel" "rule" cL167 := kAll_app lg167_0 (kAll_app lg167_1 kAll_nil)
theorem lg168_0 : kAll "DoorPaintsModel" "starts" cG168_0 := kOK_of (by decide +kernel : kOK "DoorPaintsModel" "starts" cG168_0 [0, 0, 0, 0, 0, 0, 989, 0, 0, 988, 0, 0, 0, 0, 0, 0, 0, 1008, 0] = true)
theorem lk168 : kAll "DoorPaintsModel" "starts" cL168 := kAll_app lg168_0 kAll_nil
theorem lg169_0 : kAll "DoorPaintsModel" "ofDoor" cG169_0 := kOK_of (by decide +kernel : kOK "DoorPaintsModel" "ofDoor" cG169_0 [0, 989, 0, 0, 0, 0, 0, 0, 0, 0, 0] = true)
theorem lk169 : kAll "DoorPaintsModel" "ofDoor" cL169 := kAll_app lg169_0 kAll_nil
theorem lg170_0 : kAll "DoorPaintsModel" "of" cG170_0 := kOK_of (by decide +kernel : kOK "DoorPaintsModel" "of" cG170_0 [0, 989, 0, 0, 0, 0, 0, 0, 0] = true)
theorem lk170 : kAll "DoorPaintsModel" "of" cL170 := kAll_app lg170_0 kAll_nil
theorem lg171_0 : kAll "DoorPaintsModel" "wrong" cG171_0 := kOK_of (by decide +kernel : kOK "DoorPaintsModel" "wrong" cG171_0 [0, 0, 0, 0, 0, 0, 992, 0, 0, 0, 0, 1194, 1206, 0, 0, 0, 0, 0, 0, 0, 0] = true)
theorem lk171 : kAll "DoorPaintsModel" "wrong" cL171 := kAll_app lg171_0 kAll_nil
theorem lg172_0 : kAll "DoorPaintsModel" "isWrong" cG172_0 := kOK_of (by decide +kernel : kOK "DoorPaintsModel" "isWrong" cG172_0 [0, 0, 1198, 0, 0, 0, 0, 0, 1182, 0, 0, 1198, 0, 0, 0, 0, 0, 0, 0, 0, 0] = true)
theorem lk172 : kAll "DoorPaintsModel" "isWrong" cL172 := kAll_app lg172_0 kAll_nil
theorem lg173_0 : kAll "DoorPaintsModel" "showsOf" cG173_0 := kOK_of (by decide +kernel : kOK "DoorPaintsModel" "showsOf" cG173_0 [0, 0, 0, 1182, 0, 0, 0, 0, 0, 0, 0, 0, 1182, 0, 0, 1202, 0] = true)
theorem lk173 : kAll "DoorPaintsModel" "showsOf" cL173 := kAll_app lg173_0 kAll_nil
theorem lg174_0 : kAll "DoorPaintsModel" "layerOf" cG174_0 := kOK_of (by decide +kernel : kOK "DoorPaintsModel" "layerOf" cG174_0 [0, 0, 0, 0, 0, 1182, 0] = true)
theorem lk174 : kAll "DoorPaintsModel" "layerOf" cL174 := kAll_app lg174_0 kAll_nil
theorem lg175_0 : kAll "DoorPaintsModel" "flag" cG175_0 := kOK_of (by decide +kernel : kOK "DoorPaintsModel" "flag" cG175_0 [0, 0, 0, 0, 0, 0] = true)
theorem lk175 : kAll "DoorPaintsModel" "flag" cL175 := kAll_app lg175_0 kAll_nil
theorem lg176_0 : kAll "DoorPaintsModel" "visitor" cG176_0 := kOK_of (by decide +kernel : kOK "DoorPaintsModel" "visitor" cG176_0 [0, 0, 1213, 0, 0, 0, 0, 1217, 1093, 0, 0, 0, 0, 1178, 0, 0, 0, 0, 0, 0, 1186, 0, 0, 0, 1218, 0] = true)
theorem lk176 : kAll "DoorPaintsModel" "visitor" cL176 := kAll_app lg176_0 kAll_nil
theorem lg177_0 : kAll "DoorPaintsModel" "isVisitor" cG177_0 := kOK_of (by decide +kernel : kOK "DoorPaintsModel" "isVisitor" cG177_0 [0, 0, 0, 0, 991, 0, 0, 0, 1093, 0] = true)
theorem lk177 : kAll "DoorPaintsModel" "isVisitor" cL177 := kAll_app lg177_0 kAll_nil
theorem lg178_0 : kAll "DoorPaintsModel" "brushOf" cG178_0 := kOK_of (by decide +kernel : kOK "DoorPaintsModel" "brushOf" cG178_0 [0, 0, 1008, 0, 0, 0, 1009, 1222, 0, 0, 0, 1222, 0] = true)
theorem lk178 : kAll "DoorPaintsModel" "brushOf" cL178 := kAll_app lg178_0 kAll_nil
theorem lg179_0 : kAll "DoorPaintsModel" "ownBrush" cG179_0 := kOK_of (by decide +kernel : kOK "DoorPaintsModel" "ownBrush" cG179_0 [0, 0, 0, 1186, 0, 0, 0, 0, 0, 1186, 0, 0, 0, 0, 1186, 0] = true)
theorem lk179 : kAll "DoorPaintsModel" "ownBrush" cL179 := kAll_app lg179_0 kAll_nil
theorem lg180_0 : kAll "DoorPaintsModel" "door" cG180_0 := kOK_of (by decide +kernel : kOK "DoorPaintsModel" "door" cG180_0 [0, 0, 1230, 0, 0, 0, 0, 1178, 0, 0, 0, 0, 0, 1182, 0, 0, 0, 1198, 0, 0, 0, 0, 1182, 0, 0, 0, 0, 1182, 0, 0, 0, 0, 0, 0, 1234, 1093, 0, 0, 0, 0, 0, 0, 0, 0, 0, 1182, 0, 0, 0, 0, 0, 0, 1202, 0, 0, 0] = true)
theorem lk180 : kAll "DoorPaintsModel" "door" cL180 := kAll_app lg180_0 kAll_nil
theorem lg181_0 : kAll "DoorPaintsModel" "isDoor" cG181_0 := kOK_of (by decide +kernel : kOK "DoorPaintsModel" "isDoor" cG181_0 [0, 0, 0, 0, 992, 0, 0, 0, 1093, 0] = true)
theorem lk181 : kAll "DoorPaintsModel" "isDoor" cL181 := kAll_app lg181_0 kAll_nil
theorem lg182_0 : kAll "DoorPaintsModel" "plan" cG182_0 := kOK_of (by decide +kernel : kOK "DoorPaintsModel" "plan" cG182_0 [0, 0, 0, 0, 988, 0, 0, 0, 0, 0, 1093, 0, 0, 988, 0, 0, 0, 0, 0, 0, 0] = true)
theorem lk182 : kAll "DoorPaintsModel" "plan" cL182 := kAll_app lg182_0 kAll_nil
theorem lg183_0 : kAll "DoorPaintsModel" "uses" cG183_0 := kOK_of (by decide +kernel : kOK "DoorPaintsModel" "uses" cG183_0 [0, 0, 1213, 0, 0, 0, 1230, 0, 0, 0, 0, 1178, 0, 0, 0, 1243, 0] = true)
theorem lk183 : kAll "DoorPaintsModel" "uses" cL183 := kAll_app lg183_0 kAll_nil
theorem lg184_0 : kAll "DoorPaintsModel" "usesOf" cG184_0 := kOK_of (by decide +kernel : kOK "DoorPaintsModel" "usesOf" cG184_0 [0, 0, 0, 0, 1182, 0, 0, 0, 0, 0, 0, 0, 1186, 0, 0, 0, 0, 0, 0, 0, 0, 0, 0, 0, 0, 0, 0, 0] = true)
theorem lk184 : kAll "DoorPaintsModel" "usesOf" cL184 := kAll_app lg184_0 kAll_nil
theorem lg185_0 : kAll "DoorPaintsModel" "visit" cG185_0 := kOK_of (by decide +kernel : kOK "DoorPaintsModel" "visit" cG185_0 [0, 0, 1213, 0, 0, 0, 1230, 0, 0, 0, 0, 1178, 0, 0, 0, 1251, 0, 0, 0, 0, 0, 0, 0, 0, 1255, 0, 0, 1263, 0, 0, 1198, 0] = true)
theorem lk185 : kAll "DoorPaintsModel" "visit" cL185 := kAll_app lg185_0 kAll_nil
theorem lg186_0 : kAll "DoorPaintsModel" "keepsOut" cG186_0 := kOK_of (by decide +kernel : kOK "DoorPaintsModel" "keepsOut" cG186_0 [0, 0, 0, 1186, 0, 0, 0, 0, 0, 1182, 0, 0, 0, 0, 0, 1182, 0, 0, 0, 0, 0, 0, 0, 0, 1186, 0, 0, 0, 1243, 0, 0, 0, 0, 0, 0, 0, 0, 0] = true)
theorem lk186 : kAll "DoorPaintsModel" "keepsOut" cL186 := kAll_app lg186_0 kAll_nil
theorem lg187_0 : kAll "DoorPaintsModel" "visits" cG187_0 := kOK_of (by decide +kernel : kOK "DoorPaintsModel" "visits" cG187_0 [0, 0, 0, 1243, 0, 0, 0, 1198, 0, 0, 0, 0, 1182, 0, 0, 0, 0, 0, 0, 0, 0, 0, 0, 989, 0, 0, 0, 0, 0, 0, 0, 0, 0, 0, 0, 0, 0, 989, 0, 0, 0, 0, 0, 0, 0, 0, 0, 0, 0, 0, 0, 0, 0, 1186, 0, 0, 0, 0, 0, 1182, 0, 0, 0, 0, 0, 0, 0, 0, 0, 0, 0, 0, 0, 0, 0, 0, 0, 1218, 0, 0, 0, 0] = true)
theorem lg187_1 : kAll "DoorPaintsModel" "visits" cG187_1 := kOK_of (by decide +kernel : kOK "DoorPaintsModel" "visits" cG187_1 [0, 0, 1218, 1259, 0, 0, 0, 0, 0, 0, 0, 0, 0, 0, 1259, 0, 0, 0, 0, 1259, 0, 0] = true)
theorem lk187 : kAll "DoorPaintsModel" "visits" cL187 := kAll_app lg187_0 (kAll_app lg187_1 kAll_nil)
theorem lg188_0 : kAll "DoorPaintsModel" "becomesDoor" cG188_0 := kOK_of (by decide +kernel : kOK "DoorPaintsModel" "becomesDoor" cG188_0 [0, 989, 0, 0, 0, 0, 0, 0, 0, 0, 0, 0] = true)
theorem lk188 : kAll "DoorPaintsModel" "becomesDoor" cL188 := kAll_app lg188_0 kAll_nil
theorem lg189_0 : kAll "DoorPaintsModel" "settles" cG189_0 := kOK_of (by decide +kernel : kOK "DoorPaintsModel" "settles" cG189_0 [0, 0, 0, 0, 0, 0, 988, 0, 0, 989, 0, 0, 0, 0, 0, 0] = true)
theorem lk189 : kAll "DoorPaintsModel" "settles" cL189 := kAll_app lg189_0 kAll_nil
theorem lg190_0 : kAll "DoorPaintsModel" "sky" cG190_0 := kOK_of (by decide +kernel : kOK "DoorPaintsModel" "sky" cG190_0 [0, 0, 0, 1271, 1093, 0, 0, 0, 0, 1178, 0, 0, 0, 0, 1272, 0, 1263, 0, 1280, 0] = true)
theorem lk190 : kAll "DoorPaintsModel" "sky" cL190 := kAll_app lg190_0 kAll_nil
theorem lg191_0 : kAll "DoorPaintsModel" "goesBy" cG191_0 := kOK_of (by decide +kernel : kOK "DoorPaintsModel" "goesBy" cG191_0 [0, 0, 0, 0, 992, 0, 0, 0, 0, 0, 0, 1276, 0, 0, 0, 0, 0, 1259, 0, 0, 0, 0, 0, 1198, 0, 0, 0, 0, 0, 0, 0, 1182, 0, 0, 1259, 0, 0, 0, 0] = true)
theorem lk191 : kAll "DoorPaintsModel" "goesBy" cL191 := kAll_app lg191_0 kAll_nil
theorem lg192_0 : kAll "DoorPaintsModel" "rains" cG192_0 := kOK_of (by decide +kernel : kOK "DoorPaintsModel" "rains" cG192_0 [0, 0, 0, 1182, 0, 0, 0, 0, 0, 0, 0, 0, 0, 0, 0, 0, 0, 0, 0, 0, 0, 0, 0, 0, 0, 0, 0, 1202, 0, 0, 0, 0, 0, 0, 0, 0, 0, 0, 0, 0, 1259, 0, 0, 0, 0, 0, 0, 1259, 0, 0, 0, 0, 1259, 0] = true)
theorem lk192 : kAll "DoorPaintsModel" "rains" cL192 := kAll_app lg192_0 kAll_nil
theorem lg193_0 : kAll "DoorPaintsModel" "layers" cG193_0 := kOK_of (by decide +kernel : kOK "DoorPaintsModel" "layers" cG193_0 [0, 0, 0, 0, 0, 0, 992, 0, 0, 0, 0, 0, 1182, 0, 0, 0, 0, 0, 0] = true)
theorem lk193 : kAll "DoorPaintsModel" "layers" cL193 := kAll_app lg193_0 kAll_nil
theorem lg194_0 : kAll "DoorPaintsModel" "scrape" cG194_0 := kOK_of (by decide +kernel : kOK "DoorPaintsModel" "scrape" cG194_0 [0, 0, 1230, 0, 0, 0, 0, 1178, 0, 0, 1198, 0, 0, 0, 0, 0, 0, 0, 0, 0, 0, 1182, 0, 0, 1259, 0, 0, 0, 0, 1259, 0, 1263, 0, 0, 1198, 0] = true)
theorem lk194 : kAll "DoorPaintsModel" "scrape" cL194 := kAll_app lg194_0 kAll_nil
theorem lg195_0 : kAll "DoorPaintsModel" "alter" cG195_0 := kOK_of (by decide +kernel : kOK "DoorPaintsModel" "alter" cG195_0 [0, 0, 1213, 0, 0, 0, 0, 1165, 1093, 0, 0, 0, 0, 0, 1292, 0, 1093, 0, 0, 0, 0, 0, 0, 0, 0, 1295, 0, 0, 0] = true)
theorem lk195 : kAll "DoorPaintsModel" "alter" cL195 := kAll_app lg195_0 kAll_nil
