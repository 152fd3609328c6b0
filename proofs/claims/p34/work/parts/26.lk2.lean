/-! TABLES: the links stand in the tables (written by a program) -/
theorem lk94 : kAll "DoorPaints" "clears" cL94 := kOK_of (by decide +kernel : kOK "DoorPaints" "clears" cL94 cK94 = true)
theorem lk95 : kAll "DoorPaints" "best" cL95 := kOK_of (by decide +kernel : kOK "DoorPaints" "best" cL95 cK95 = true)
theorem lk96 : kAll "DoorPaints$Search" "forBest" cL96 := kOK_of (by decide +kernel : kOK "DoorPaints$Search" "forBest" cL96 cK96 = true)
theorem lk97 : kAll "DoorPaints$Search" "begin" cL97 := kOK_of (by decide +kernel : kOK "DoorPaints$Search" "begin" cL97 cK97 = true)
theorem lk98 : kAll "DoorPaints$Town" "hasVisits" cL98 := kOK_of (by decide +kernel : kOK "DoorPaints$Town" "hasVisits" cL98 cK98 = true)
theorem lk99 : kAll "java/lang/Integer" "bitCount" cL99 := kOK_of (by decide +kernel : kOK "java/lang/Integer" "bitCount" cL99 cK99 = true)
theorem lk100_0 : kOK "DoorPaints$Search" "tryFrom" cL100_0 cK100_0 = true := by decide +kernel
theorem lk100_1 : kOK "DoorPaints$Search" "tryFrom" cL100_1 cK100_1 = true := by decide +kernel
theorem lk100 : kAll "DoorPaints$Search" "tryFrom" cL100 := kOK_app lk100_0 (kOK_of lk100_1)
theorem lk101 : kAll "DoorPaints$Search" "isBetter" cL101 := kOK_of (by decide +kernel : kOK "DoorPaints$Search" "isBetter" cL101 cK101 = true)
theorem lk102 : kAll "DoorPaints$Search" "take" cL102 := kOK_of (by decide +kernel : kOK "DoorPaints$Search" "take" cL102 cK102 = true)
theorem lk103 : kAll "DoorPaints$Search" "mayImprove" cL103 := kOK_of (by decide +kernel : kOK "DoorPaints$Search" "mayImprove" cL103 cK103 = true)
theorem lk104 : kAll "java/lang/Math" "max" cL104 := kOK_of (by decide +kernel : kOK "java/lang/Math" "max" cL104 cK104 = true)
theorem lk105_0 : kOK "DoorPaints$Search" "tryVisit" cL105_0 cK105_0 = true := by decide +kernel
theorem lk105_1 : kOK "DoorPaints$Search" "tryVisit" cL105_1 cK105_1 = true := by decide +kernel
theorem lk105 : kAll "DoorPaints$Search" "tryVisit" cL105 := kOK_app lk105_0 (kOK_of lk105_1)
theorem lk106 : kAll "DoorPaints$Door" "restore" cL106 := kOK_of (by decide +kernel : kOK "DoorPaints$Door" "restore" cL106 cK106 = true)
theorem lk107 : kAll "DoorPaints$Search" "visitAt" cL107 := kOK_of (by decide +kernel : kOK "DoorPaints$Search" "visitAt" cL107 cK107 = true)
theorem lk108 : kAll "DoorPaints" "few" cL108 := kOK_of (by decide +kernel : kOK "DoorPaints" "few" cL108 cK108 = true)
theorem lk109 : kAll "DoorPaints$Search" "clearsAll" cL109 := kOK_of (by decide +kernel : kOK "DoorPaints$Search" "clearsAll" cL109 cK109 = true)
theorem lk110 : kAll "DoorPaints" "reads" cL110 := kOK_of (by decide +kernel : kOK "DoorPaints" "reads" cL110 cK110 = true)
theorem lk111 : kAll "DoorPaints$Door" "hasLayerOf" cL111 := kOK_of (by decide +kernel : kOK "DoorPaints$Door" "hasLayerOf" cL111 cK111 = true)
theorem lk112 : kAll "DoorPaints" "see" cL112 := kOK_of (by decide +kernel : kOK "DoorPaints" "see" cL112 cK112 = true)
theorem lk113 : kAll "DoorPaints$Told" "addSeen" cL113 := kOK_of (by decide +kernel : kOK "DoorPaints$Told" "addSeen" cL113 cK113 = true)
theorem lk114 : kAll "DoorPaints" "forget" cL114 := kOK_of (by decide +kernel : kOK "DoorPaints" "forget" cL114 cK114 = true)
theorem lk115_0 : kOK "DoorPaints" "pots" cL115_0 cK115_0 = true := by decide +kernel
theorem lk115_1 : kOK "DoorPaints" "pots" cL115_1 cK115_1 = true := by decide +kernel
theorem lk115 : kAll "DoorPaints" "pots" cL115 := kOK_app lk115_0 (kOK_of lk115_1)
theorem lk116 : kAll "DoorPaints$Town" "lend" cL116 := kOK_of (by decide +kernel : kOK "DoorPaints$Town" "lend" cL116 cK116 = true)
theorem lk117 : kAll "DoorPaints$Told" "agreesWith" cL117 := kOK_of (by decide +kernel : kOK "DoorPaints$Told" "agreesWith" cL117 cK117 = true)
theorem lk118 : kAll "DoorPaints" "rained" cL118 := kOK_of (by decide +kernel : kOK "DoorPaints" "rained" cL118 cK118 = true)
theorem lk119 : kAll "DoorPaints" "orders" cL119 := kOK_of (by decide +kernel : kOK "DoorPaints" "orders" cL119 cK119 = true)
theorem lk120 : kAll "DoorPaints" "arrange" cL120 := kOK_of (by decide +kernel : kOK "DoorPaints" "arrange" cL120 cK120 = true)
theorem lk121_0 : kOK "DoorPaints" "judgeOrder" cL121_0 cK121_0 = true := by decide +kernel
theorem lk121_1 : kOK "DoorPaints" "judgeOrder" cL121_1 cK121_1 = true := by decide +kernel
theorem lk121 : kAll "DoorPaints" "judgeOrder" cL121 := kOK_app lk121_0 (kOK_of lk121_1)
theorem lk122_0 : kOK "DoorPaints" "luck" cL122_0 cK122_0 = true := by decide +kernel
theorem lk122_1 : kOK "DoorPaints" "luck" cL122_1 cK122_1 = true := by decide +kernel
theorem lk122 : kAll "DoorPaints" "luck" cL122 := kOK_app lk122_0 (kOK_of lk122_1)
theorem lk123 : kAll "DoorPaints$Told" "visitsPlanned" cL123 := kOK_of (by decide +kernel : kOK "DoorPaints$Told" "visitsPlanned" cL123 cK123 = true)
theorem lk124 : kAll "DoorPaints" "weightOf" cL124 := kOK_of (by decide +kernel : kOK "DoorPaints" "weightOf" cL124 cK124 = true)
theorem lk125 : kAll "DoorPaints" "actChosen" cL125 := kOK_of (by decide +kernel : kOK "DoorPaints" "actChosen" cL125 cK125 = true)
theorem lk126 : kAll "DoorPaints" "powerOfTen" cL126 := kOK_of (by decide +kernel : kOK "DoorPaints" "powerOfTen" cL126 cK126 = true)
theorem lk127 : kAll "DoorPaints" "ofFraction" cL127 := kOK_of (by decide +kernel : kOK "DoorPaints" "ofFraction" cL127 cK127 = true)
theorem lk128_0 : kOK "DoorPaints" "mean" cL128_0 cK128_0 = true := by decide +kernel
theorem lk128_1 : kOK "DoorPaints" "mean" cL128_1 cK128_1 = true := by decide +kernel
theorem lk128 : kAll "DoorPaints" "mean" cL128 := kOK_app lk128_0 (kOK_of lk128_1)
theorem lk129_0 : kOK "DoorPaints" "drift" cL129_0 cK129_0 = true := by decide +kernel
theorem lk129_1 : kOK "DoorPaints" "drift" cL129_1 cK129_1 = true := by decide +kernel
theorem lk129 : kAll "DoorPaints" "drift" cL129 := kOK_app lk129_0 (kOK_of lk129_1)
theorem lk130 : kAll "DoorPaints$Town" "actBySeed" cL130 := kOK_of (by decide +kernel : kOK "DoorPaints$Town" "actBySeed" cL130 cK130 = true)
theorem lk131 : kAll "DoorPaints" "keep" cL131 := kOK_of (by decide +kernel : kOK "DoorPaints" "keep" cL131 cK131 = true)
theorem lk132 : kAll "DoorPaints" "back" cL132 := kOK_of (by decide +kernel : kOK "DoorPaints" "back" cL132 cK132 = true)
theorem lk133 : kAll "DoorPaints" "sheet" cL133 := kOK_of (by decide +kernel : kOK "DoorPaints" "sheet" cL133 cK133 = true)
theorem lk134 : kAll "DoorPaints" "isSheet" cL134 := kOK_of (by decide +kernel : kOK "DoorPaints" "isSheet" cL134 cK134 = true)
theorem lk135 : kAll "DoorPaints" "isLane" cL135 := kOK_of (by decide +kernel : kOK "DoorPaints" "isLane" cL135 cK135 = true)
theorem lk136 : kAll "DoorPaints$Sheet" "renew" cL136 := kOK_of (by decide +kernel : kOK "DoorPaints$Sheet" "renew" cL136 cK136 = true)
theorem lk137 : kAll "DoorPaints" "lay" cL137 := kOK_of (by decide +kernel : kOK "DoorPaints" "lay" cL137 cK137 = true)
theorem lk138 : kAll "DoorPaints$Sheet" "faultAt" cL138 := kOK_of (by decide +kernel : kOK "DoorPaints$Sheet" "faultAt" cL138 cK138 = true)
theorem lk139 : kAll "DoorPaints$Sheet" "put" cL139 := kOK_of (by decide +kernel : kOK "DoorPaints$Sheet" "put" cL139 cK139 = true)
theorem lk140_0 : kOK "DoorPaints" "read" cL140_0 cK140_0 = true := by decide +kernel
theorem lk140_1 : kOK "DoorPaints" "read" cL140_1 cK140_1 = true := by decide +kernel
theorem lk140 : kAll "DoorPaints" "read" cL140 := kOK_app lk140_0 (kOK_of lk140_1)
theorem lk141 : kAll "DoorPaints$Sheet" "faultOfPair" cL141 := kOK_of (by decide +kernel : kOK "DoorPaints$Sheet" "faultOfPair" cL141 cK141 = true)
theorem lk142 : kAll "DoorPaints$Sheet" "cellAt" cL142 := kOK_of (by decide +kernel : kOK "DoorPaints$Sheet" "cellAt" cL142 cK142 = true)
theorem lk143 : kAll "DoorPaints" "torn" cL143 := kOK_of (by decide +kernel : kOK "DoorPaints" "torn" cL143 cK143 = true)
theorem lk144 : kAll "DoorPaints" "count" cL144 := kOK_of (by decide +kernel : kOK "DoorPaints" "count" cL144 cK144 = true)
theorem lk145_0 : kOK "DoorPaintsModel" "<init>" cL145_0 cK145_0 = true := by decide +kernel
theorem lk145_1 : kOK "DoorPaintsModel" "<init>" cL145_1 cK145_1 = true := by decide +kernel
theorem lk145 : kAll "DoorPaintsModel" "<init>" cL145 := kOK_app lk145_0 (kOK_of lk145_1)
