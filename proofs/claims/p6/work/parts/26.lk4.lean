/-! TABLES: the links stand in the tables (written by a program) -/
theorem lk200 : kAll "DoorPaintsModel" "isAct" cL200 := kOK_of (by decide +kernel : kOK "DoorPaintsModel" "isAct" cL200 cK200 = true)
theorem lk201 : kAll "DoorPaintsModel" "cut" cL201 := kOK_of (by decide +kernel : kOK "DoorPaintsModel" "cut" cL201 cK201 = true)
theorem lk202_0 : kOK "DoorPaintsModel" "runs" cL202_0 cK202_0 = true := by decide +kernel
theorem lk202_1 : kOK "DoorPaintsModel" "runs" cL202_1 cK202_1 = true := by decide +kernel
theorem lk202 : kAll "DoorPaintsModel" "runs" cL202 := kOK_app lk202_0 (kOK_of lk202_1)
theorem lk203 : kAll "DoorPaintsModel" "acts" cL203 := kOK_of (by decide +kernel : kOK "DoorPaintsModel" "acts" cL203 cK203 = true)
theorem lk204 : kAll "DoorPaintsModel" "ahead" cL204 := kOK_of (by decide +kernel : kOK "DoorPaintsModel" "ahead" cL204 cK204 = true)
theorem lk205 : kAll "DoorPaintsModel" "plansGo" cL205 := kOK_of (by decide +kernel : kOK "DoorPaintsModel" "plansGo" cL205 cK205 = true)
theorem lk206 : kAll "DoorPaintsModel" "clears" cL206 := kOK_of (by decide +kernel : kOK "DoorPaintsModel" "clears" cL206 cK206 = true)
theorem lk207_0 : kOK "DoorPaintsModel" "best" cL207_0 cK207_0 = true := by decide +kernel
theorem lk207_1 : kOK "DoorPaintsModel" "best" cL207_1 cK207_1 = true := by decide +kernel
theorem lk207_2 : kOK "DoorPaintsModel" "best" cL207_2 cK207_2 = true := by decide +kernel
theorem lk207 : kAll "DoorPaintsModel" "best" cL207 := kOK_app lk207_0 (kOK_app lk207_1 (kOK_of lk207_2))
theorem lk208 : kAll "DoorPaintsModel" "isPart" cL208 := kOK_of (by decide +kernel : kOK "DoorPaintsModel" "isPart" cL208 cK208 = true)
theorem lk209 : kAll "DoorPaintsModel" "kindsOfVisit" cL209 := kOK_of (by decide +kernel : kOK "DoorPaintsModel" "kindsOfVisit" cL209 cK209 = true)
theorem lk210 : kAll "DoorPaintsModel" "rowsOf" cL210 := kOK_of (by decide +kernel : kOK "DoorPaintsModel" "rowsOf" cL210 cK210 = true)
theorem lk211 : kAll "DoorPaintsModel" "goesRow" cL211 := kOK_of (by decide +kernel : kOK "DoorPaintsModel" "goesRow" cL211 cK211 = true)
theorem lk212 : kAll "DoorPaintsModel" "actAt" cL212 := kOK_of (by decide +kernel : kOK "DoorPaintsModel" "actAt" cL212 cK212 = true)
theorem lk213 : kAll "DoorPaintsModel" "bitsOf" cL213 := kOK_of (by decide +kernel : kOK "DoorPaintsModel" "bitsOf" cL213 cK213 = true)
theorem lk214 : kAll "DoorPaintsModel" "visitIn" cL214 := kOK_of (by decide +kernel : kOK "DoorPaintsModel" "visitIn" cL214 cK214 = true)
theorem lk215_0 : kOK "DoorPaintsModel" "few" cL215_0 cK215_0 = true := by decide +kernel
theorem lk215_1 : kOK "DoorPaintsModel" "few" cL215_1 cK215_1 = true := by decide +kernel
theorem lk215 : kAll "DoorPaintsModel" "few" cL215 := kOK_app lk215_0 (kOK_of lk215_1)
theorem lk216_0 : kOK "DoorPaintsModel" "reads" cL216_0 cK216_0 = true := by decide +kernel
theorem lk216_1 : kOK "DoorPaintsModel" "reads" cL216_1 cK216_1 = true := by decide +kernel
theorem lk216 : kAll "DoorPaintsModel" "reads" cL216 := kOK_app lk216_0 (kOK_of lk216_1)
theorem lk217_0 : kOK "DoorPaintsModel" "see" cL217_0 cK217_0 = true := by decide +kernel
theorem lk217_1 : kOK "DoorPaintsModel" "see" cL217_1 cK217_1 = true := by decide +kernel
theorem lk217 : kAll "DoorPaintsModel" "see" cL217 := kOK_app lk217_0 (kOK_of lk217_1)
theorem lk218 : kAll "DoorPaintsModel" "forget" cL218 := kOK_of (by decide +kernel : kOK "DoorPaintsModel" "forget" cL218 cK218 = true)
theorem lk219 : kAll "DoorPaintsModel" "pots" cL219 := kOK_of (by decide +kernel : kOK "DoorPaintsModel" "pots" cL219 cK219 = true)
theorem lk220_0 : kOK "DoorPaintsModel" "isSo" cL220_0 cK220_0 = true := by decide +kernel
theorem lk220_1 : kOK "DoorPaintsModel" "isSo" cL220_1 cK220_1 = true := by decide +kernel
theorem lk220 : kAll "DoorPaintsModel" "isSo" cL220 := kOK_app lk220_0 (kOK_of lk220_1)
theorem lk221_0 : kOK "DoorPaintsModel" "rained" cL221_0 cK221_0 = true := by decide +kernel
theorem lk221_1 : kOK "DoorPaintsModel" "rained" cL221_1 cK221_1 = true := by decide +kernel
theorem lk221 : kAll "DoorPaintsModel" "rained" cL221 := kOK_app lk221_0 (kOK_of lk221_1)
theorem lk222_0 : kOK "DoorPaintsModel" "orders" cL222_0 cK222_0 = true := by decide +kernel
theorem lk222_1 : kOK "DoorPaintsModel" "orders" cL222_1 cK222_1 = true := by decide +kernel
theorem lk222 : kAll "DoorPaintsModel" "orders" cL222 := kOK_app lk222_0 (kOK_of lk222_1)
theorem lk223 : kAll "DoorPaintsModel" "isOrder" cL223 := kOK_of (by decide +kernel : kOK "DoorPaintsModel" "isOrder" cL223 cK223 = true)
theorem lk224 : kAll "DoorPaintsModel" "luck" cL224 := kOK_of (by decide +kernel : kOK "DoorPaintsModel" "luck" cL224 cK224 = true)
theorem lk225_0 : kOK "DoorPaintsModel" "findOdds" cL225_0 cK225_0 = true := by decide +kernel
theorem lk225_1 : kOK "DoorPaintsModel" "findOdds" cL225_1 cK225_1 = true := by decide +kernel
theorem lk225_2 : kOK "DoorPaintsModel" "findOdds" cL225_2 cK225_2 = true := by decide +kernel
theorem lk225 : kAll "DoorPaintsModel" "findOdds" cL225 := kOK_app lk225_0 (kOK_app lk225_1 (kOK_of lk225_2))
theorem lk226 : kAll "DoorPaintsModel" "told" cL226 := kOK_of (by decide +kernel : kOK "DoorPaintsModel" "told" cL226 cK226 = true)
theorem lk227 : kAll "DoorPaintsModel" "common" cL227 := kOK_of (by decide +kernel : kOK "DoorPaintsModel" "common" cL227 cK227 = true)
theorem lk228 : kAll "DoorPaintsModel" "mean" cL228 := kOK_of (by decide +kernel : kOK "DoorPaintsModel" "mean" cL228 cK228 = true)
theorem lk229_0 : kOK "DoorPaintsModel" "drift" cL229_0 cK229_0 = true := by decide +kernel
theorem lk229_1 : kOK "DoorPaintsModel" "drift" cL229_1 cK229_1 = true := by decide +kernel
theorem lk229 : kAll "DoorPaintsModel" "drift" cL229 := kOK_app lk229_0 (kOK_of lk229_1)
theorem lk230 : kAll "DoorPaintsModel" "keep" cL230 := kOK_of (by decide +kernel : kOK "DoorPaintsModel" "keep" cL230 cK230 = true)
theorem lk231 : kAll "DoorPaintsModel" "copies" cL231 := kOK_of (by decide +kernel : kOK "DoorPaintsModel" "copies" cL231 cK231 = true)
theorem lk232 : kAll "DoorPaintsModel" "back" cL232 := kOK_of (by decide +kernel : kOK "DoorPaintsModel" "back" cL232 cK232 = true)
theorem lk233 : kAll "DoorPaintsModel" "sheet" cL233 := kOK_of (by decide +kernel : kOK "DoorPaintsModel" "sheet" cL233 cK233 = true)
theorem lk234 : kAll "DoorPaintsModel" "isSheet" cL234 := kOK_of (by decide +kernel : kOK "DoorPaintsModel" "isSheet" cL234 cK234 = true)
theorem lk235_0 : kOK "DoorPaintsModel" "lay" cL235_0 cK235_0 = true := by decide +kernel
theorem lk235_1 : kOK "DoorPaintsModel" "lay" cL235_1 cK235_1 = true := by decide +kernel
theorem lk235 : kAll "DoorPaintsModel" "lay" cL235 := kOK_app lk235_0 (kOK_of lk235_1)
theorem lk236_0 : kOK "DoorPaintsModel" "read" cL236_0 cK236_0 = true := by decide +kernel
theorem lk236_1 : kOK "DoorPaintsModel" "read" cL236_1 cK236_1 = true := by decide +kernel
theorem lk236_2 : kOK "DoorPaintsModel" "read" cL236_2 cK236_2 = true := by decide +kernel
theorem lk236 : kAll "DoorPaintsModel" "read" cL236 := kOK_app lk236_0 (kOK_app lk236_1 (kOK_of lk236_2))
theorem lk237 : kAll "DoorPaintsModel" "torn" cL237 := kOK_of (by decide +kernel : kOK "DoorPaintsModel" "torn" cL237 cK237 = true)
theorem lk238 : kAll "DoorPaintsModel" "count" cL238 := kOK_of (by decide +kernel : kOK "DoorPaintsModel" "count" cL238 cK238 = true)
