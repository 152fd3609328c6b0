/-! TABLES: the links stand in the tables (written by a program) -/
theorem lk94 : kAll "DoorPaints" "clears" cL94 := kOK_of (by decide +kernel : kOK "DoorPaints" "clears" cL94 cK94 = true)
theorem lk95 : kAll "DoorPaints" "best" cL95 := kOK_of (by decide +kernel : kOK "DoorPaints" "best" cL95 cK95 = true)
theorem lk96 : kAll "DoorPaints$Search" "forBest" cL96 := kOK_of (by decide +kernel : kOK "DoorPaints$Search" "forBest" cL96 cK96 = true)
theorem lk97 : kAll "DoorPaints$Search" "begin" cL97 := kOK_of (by decide +kernel : kOK "DoorPaints$Search" "begin" cL97 cK97 = true)
theorem lk98 : kAll "DoorPaints$Town" "hasVisits" cL98 := kOK_of (by decide +kernel : kOK "DoorPaints$Town" "hasVisits" cL98 cK98 = true)
theorem lk99 : kAll "java/lang/Integer" "bitCount" cL99 := kOK_of (by decide +kernel : kOK "java/lang/Integer" "bitCount" cL99 cK99 = true)
theorem lk100_0 : kOK "DoorPaints$Search" "tryFrom" cL100_0 cK100_0 = true := by decide +kernel
theorem lk100_1 : kOK "DoorPaints$Search" "tryFrom" cL100_1 cK100_1 = true := by decide +kernel
theorem lk100 : kAll "DoorPaints$Search" "tryFrom" cL100 := kOK_app lk100_0 (kOK_of lk100_1)
theorem lk101 : kAll "DoorPaints$Search" "isBetter" cL101 := kOK_of (by decide +kernel : kOK "DoorPaints$Search" "isBetter" cL101 cK101 = true)
theorem lk102 : kAll "DoorPaints$Search" "take" cL102 := kOK_of (by decide +kernel : kOK "DoorPaints$Search" "take" cL102 cK102 = true)
theorem lk103 : kAll "DoorPaints$Search" "mayImprove" cL103 := kOK_of (by decide +kernel : kOK "DoorPaints$Search" "mayImprove" cL103 cK103 = true)
theorem lk104_0 : kOK "DoorPaints$Search" "tryVisit" cL104_0 cK104_0 = true := by decide +kernel
theorem lk104_1 : kOK "DoorPaints$Search" "tryVisit" cL104_1 cK104_1 = true := by decide +kernel
theorem lk104 : kAll "DoorPaints$Search" "tryVisit" cL104 := kOK_app lk104_0 (kOK_of lk104_1)
theorem lk105 : kAll "DoorPaints$Door" "restore" cL105 := kOK_of (by decide +kernel : kOK "DoorPaints$Door" "restore" cL105 cK105 = true)
theorem lk106 : kAll "DoorPaints$Search" "visitAt" cL106 := kOK_of (by decide +kernel : kOK "DoorPaints$Search" "visitAt" cL106 cK106 = true)
theorem lk107 : kAll "DoorPaints" "few" cL107 := kOK_of (by decide +kernel : kOK "DoorPaints" "few" cL107 cK107 = true)
theorem lk108 : kAll "DoorPaints$Search" "clearsAll" cL108 := kOK_of (by decide +kernel : kOK "DoorPaints$Search" "clearsAll" cL108 cK108 = true)
theorem lk109 : kAll "DoorPaints" "reads" cL109 := kOK_of (by decide +kernel : kOK "DoorPaints" "reads" cL109 cK109 = true)
theorem lk110 : kAll "DoorPaints$Door" "hasLayerOf" cL110 := kOK_of (by decide +kernel : kOK "DoorPaints$Door" "hasLayerOf" cL110 cK110 = true)
theorem lk111 : kAll "DoorPaints" "see" cL111 := kOK_of (by decide +kernel : kOK "DoorPaints" "see" cL111 cK111 = true)
theorem lk112 : kAll "DoorPaints$Told" "addSeen" cL112 := kOK_of (by decide +kernel : kOK "DoorPaints$Told" "addSeen" cL112 cK112 = true)
theorem lk113 : kAll "DoorPaints" "forget" cL113 := kOK_of (by decide +kernel : kOK "DoorPaints" "forget" cL113 cK113 = true)
theorem lk114_0 : kOK "DoorPaints" "pots" cL114_0 cK114_0 = true := by decide +kernel
theorem lk114_1 : kOK "DoorPaints" "pots" cL114_1 cK114_1 = true := by decide +kernel
theorem lk114 : kAll "DoorPaints" "pots" cL114 := kOK_app lk114_0 (kOK_of lk114_1)
theorem lk115 : kAll "DoorPaints$Town" "lend" cL115 := kOK_of (by decide +kernel : kOK "DoorPaints$Town" "lend" cL115 cK115 = true)
theorem lk116 : kAll "DoorPaints$Told" "agreesWith" cL116 := kOK_of (by decide +kernel : kOK "DoorPaints$Told" "agreesWith" cL116 cK116 = true)
theorem lk117 : kAll "DoorPaints" "rained" cL117 := kOK_of (by decide +kernel : kOK "DoorPaints" "rained" cL117 cK117 = true)
theorem lk118 : kAll "DoorPaints" "orders" cL118 := kOK_of (by decide +kernel : kOK "DoorPaints" "orders" cL118 cK118 = true)
theorem lk119 : kAll "DoorPaints" "arrange" cL119 := kOK_of (by decide +kernel : kOK "DoorPaints" "arrange" cL119 cK119 = true)
theorem lk120_0 : kOK "DoorPaints" "judgeOrder" cL120_0 cK120_0 = true := by decide +kernel
theorem lk120_1 : kOK "DoorPaints" "judgeOrder" cL120_1 cK120_1 = true := by decide +kernel
theorem lk120 : kAll "DoorPaints" "judgeOrder" cL120 := kOK_app lk120_0 (kOK_of lk120_1)
theorem lk121_0 : kOK "DoorPaints" "luck" cL121_0 cK121_0 = true := by decide +kernel
theorem lk121_1 : kOK "DoorPaints" "luck" cL121_1 cK121_1 = true := by decide +kernel
theorem lk121 : kAll "DoorPaints" "luck" cL121 := kOK_app lk121_0 (kOK_of lk121_1)
theorem lk122 : kAll "DoorPaints$Told" "visitsPlanned" cL122 := kOK_of (by decide +kernel : kOK "DoorPaints$Told" "visitsPlanned" cL122 cK122 = true)
theorem lk123 : kAll "DoorPaints" "weightOf" cL123 := kOK_of (by decide +kernel : kOK "DoorPaints" "weightOf" cL123 cK123 = true)
theorem lk124 : kAll "DoorPaints" "actChosen" cL124 := kOK_of (by decide +kernel : kOK "DoorPaints" "actChosen" cL124 cK124 = true)
theorem lk125 : kAll "DoorPaints" "powerOfTen" cL125 := kOK_of (by decide +kernel : kOK "DoorPaints" "powerOfTen" cL125 cK125 = true)
theorem lk126 : kAll "DoorPaints" "ofFraction" cL126 := kOK_of (by decide +kernel : kOK "DoorPaints" "ofFraction" cL126 cK126 = true)
theorem lk127_0 : kOK "DoorPaints" "mean" cL127_0 cK127_0 = true := by decide +kernel
theorem lk127_1 : kOK "DoorPaints" "mean" cL127_1 cK127_1 = true := by decide +kernel
theorem lk127 : kAll "DoorPaints" "mean" cL127 := kOK_app lk127_0 (kOK_of lk127_1)
theorem lk128_0 : kOK "DoorPaints" "drift" cL128_0 cK128_0 = true := by decide +kernel
theorem lk128_1 : kOK "DoorPaints" "drift" cL128_1 cK128_1 = true := by decide +kernel
theorem lk128 : kAll "DoorPaints" "drift" cL128 := kOK_app lk128_0 (kOK_of lk128_1)
theorem lk129 : kAll "DoorPaints$Town" "actBySeed" cL129 := kOK_of (by decide +kernel : kOK "DoorPaints$Town" "actBySeed" cL129 cK129 = true)
theorem lk130 : kAll "DoorPaints" "keep" cL130 := kOK_of (by decide +kernel : kOK "DoorPaints" "keep" cL130 cK130 = true)
theorem lk131 : kAll "DoorPaints" "back" cL131 := kOK_of (by decide +kernel : kOK "DoorPaints" "back" cL131 cK131 = true)
theorem lk132 : kAll "DoorPaints" "sheet" cL132 := kOK_of (by decide +kernel : kOK "DoorPaints" "sheet" cL132 cK132 = true)
theorem lk133 : kAll "DoorPaints" "isSheet" cL133 := kOK_of (by decide +kernel : kOK "DoorPaints" "isSheet" cL133 cK133 = true)
theorem lk134 : kAll "DoorPaints" "isLane" cL134 := kOK_of (by decide +kernel : kOK "DoorPaints" "isLane" cL134 cK134 = true)
theorem lk135 : kAll "DoorPaints$Sheet" "renew" cL135 := kOK_of (by decide +kernel : kOK "DoorPaints$Sheet" "renew" cL135 cK135 = true)
theorem lk136 : kAll "DoorPaints" "lay" cL136 := kOK_of (by decide +kernel : kOK "DoorPaints" "lay" cL136 cK136 = true)
theorem lk137 : kAll "DoorPaints$Sheet" "faultAt" cL137 := kOK_of (by decide +kernel : kOK "DoorPaints$Sheet" "faultAt" cL137 cK137 = true)
theorem lk138 : kAll "DoorPaints$Sheet" "put" cL138 := kOK_of (by decide +kernel : kOK "DoorPaints$Sheet" "put" cL138 cK138 = true)
theorem lk139_0 : kOK "DoorPaints" "read" cL139_0 cK139_0 = true := by decide +kernel
theorem lk139_1 : kOK "DoorPaints" "read" cL139_1 cK139_1 = true := by decide +kernel
theorem lk139 : kAll "DoorPaints" "read" cL139 := kOK_app lk139_0 (kOK_of lk139_1)
theorem lk140 : kAll "DoorPaints$Sheet" "faultOfPair" cL140 := kOK_of (by decide +kernel : kOK "DoorPaints$Sheet" "faultOfPair" cL140 cK140 = true)
theorem lk141 : kAll "DoorPaints$Sheet" "cellAt" cL141 := kOK_of (by decide +kernel : kOK "DoorPaints$Sheet" "cellAt" cL141 cK141 = true)
theorem lk142 : kAll "DoorPaints" "torn" cL142 := kOK_of (by decide +kernel : kOK "DoorPaints" "torn" cL142 cK142 = true)
theorem lk143 : kAll "DoorPaints" "count" cL143 := kOK_of (by decide +kernel : kOK "DoorPaints" "count" cL143 cK143 = true)
theorem lk144_0 : kOK "DoorPaintsModel" "<init>" cL144_0 cK144_0 = true := by decide +kernel
theorem lk144_1 : kOK "DoorPaintsModel" "<init>" cL144_1 cK144_1 = true := by decide +kernel
theorem lk144 : kAll "DoorPaintsModel" "<init>" cL144 := kOK_app lk144_0 (kOK_of lk144_1)
