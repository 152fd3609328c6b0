/-! TABLES: the links stand in the tables (written by a program) -/
theorem lk201 : kAll "DoorPaintsModel" "isAct" cL201 := kOK_of (by decide +kernel : kOK "DoorPaintsModel" "isAct" cL201 cK201 = true)
theorem lk202 : kAll "DoorPaintsModel" "cut" cL202 := kOK_of (by decide +kernel : kOK "DoorPaintsModel" "cut" cL202 cK202 = true)
theorem lk203_0 : kOK "DoorPaintsModel" "runs" cL203_0 cK203_0 = true := by decide +kernel
theorem lk203_1 : kOK "DoorPaintsModel" "runs" cL203_1 cK203_1 = true := by decide +kernel
theorem lk203 : kAll "DoorPaintsModel" "runs" cL203 := kOK_app lk203_0 (kOK_of lk203_1)
theorem lk204 : kAll "DoorPaintsModel" "acts" cL204 := kOK_of (by decide +kernel : kOK "DoorPaintsModel" "acts" cL204 cK204 = true)
theorem lk205 : kAll "DoorPaintsModel" "ahead" cL205 := kOK_of (by decide +kernel : kOK "DoorPaintsModel" "ahead" cL205 cK205 = true)
theorem lk206 : kAll "DoorPaintsModel" "plansGo" cL206 := kOK_of (by decide +kernel : kOK "DoorPaintsModel" "plansGo" cL206 cK206 = true)
theorem lk207 : kAll "DoorPaintsModel" "clears" cL207 := kOK_of (by decide +kernel : kOK "DoorPaintsModel" "clears" cL207 cK207 = true)
theorem lk208_0 : kOK "DoorPaintsModel" "best" cL208_0 cK208_0 = true := by decide +kernel
theorem lk208_1 : kOK "DoorPaintsModel" "best" cL208_1 cK208_1 = true := by decide +kernel
theorem lk208_2 : kOK "DoorPaintsModel" "best" cL208_2 cK208_2 = true := by decide +kernel
theorem lk208 : kAll "DoorPaintsModel" "best" cL208 := kOK_app lk208_0 (kOK_app lk208_1 (kOK_of lk208_2))
theorem lk209 : kAll "DoorPaintsModel" "isPart" cL209 := kOK_of (by decide +kernel : kOK "DoorPaintsModel" "isPart" cL209 cK209 = true)
theorem lk210 : kAll "DoorPaintsModel" "kindsOfVisit" cL210 := kOK_of (by decide +kernel : kOK "DoorPaintsModel" "kindsOfVisit" cL210 cK210 = true)
theorem lk211 : kAll "DoorPaintsModel" "rowsOf" cL211 := kOK_of (by decide +kernel : kOK "DoorPaintsModel" "rowsOf" cL211 cK211 = true)
theorem lk212 : kAll "DoorPaintsModel" "goesRow" cL212 := kOK_of (by decide +kernel : kOK "DoorPaintsModel" "goesRow" cL212 cK212 = true)
theorem lk213 : kAll "DoorPaintsModel" "actAt" cL213 := kOK_of (by decide +kernel : kOK "DoorPaintsModel" "actAt" cL213 cK213 = true)
theorem lk214 : kAll "DoorPaintsModel" "bitsOf" cL214 := kOK_of (by decide +kernel : kOK "DoorPaintsModel" "bitsOf" cL214 cK214 = true)
theorem lk215 : kAll "DoorPaintsModel" "visitIn" cL215 := kOK_of (by decide +kernel : kOK "DoorPaintsModel" "visitIn" cL215 cK215 = true)
theorem lk216_0 : kOK "DoorPaintsModel" "few" cL216_0 cK216_0 = true := by decide +kernel
theorem lk216_1 : kOK "DoorPaintsModel" "few" cL216_1 cK216_1 = true := by decide +kernel
theorem lk216 : kAll "DoorPaintsModel" "few" cL216 := kOK_app lk216_0 (kOK_of lk216_1)
theorem lk217_0 : kOK "DoorPaintsModel" "reads" cL217_0 cK217_0 = true := by decide +kernel
theorem lk217_1 : kOK "DoorPaintsModel" "reads" cL217_1 cK217_1 = true := by decide +kernel
theorem lk217 : kAll "DoorPaintsModel" "reads" cL217 := kOK_app lk217_0 (kOK_of lk217_1)
theorem lk218_0 : kOK "DoorPaintsModel" "see" cL218_0 cK218_0 = true := by decide +kernel
theorem lk218_1 : kOK "DoorPaintsModel" "see" cL218_1 cK218_1 = true := by decide +kernel
theorem lk218 : kAll "DoorPaintsModel" "see" cL218 := kOK_app lk218_0 (kOK_of lk218_1)
theorem lk219 : kAll "DoorPaintsModel" "forget" cL219 := kOK_of (by decide +kernel : kOK "DoorPaintsModel" "forget" cL219 cK219 = true)
theorem lk220 : kAll "DoorPaintsModel" "pots" cL220 := kOK_of (by decide +kernel : kOK "DoorPaintsModel" "pots" cL220 cK220 = true)
theorem lk221_0 : kOK "DoorPaintsModel" "isSo" cL221_0 cK221_0 = true := by decide +kernel
theorem lk221_1 : kOK "DoorPaintsModel" "isSo" cL221_1 cK221_1 = true := by decide +kernel
theorem lk221 : kAll "DoorPaintsModel" "isSo" cL221 := kOK_app lk221_0 (kOK_of lk221_1)
theorem lk222_0 : kOK "DoorPaintsModel" "rained" cL222_0 cK222_0 = true := by decide +kernel
theorem lk222_1 : kOK "DoorPaintsModel" "rained" cL222_1 cK222_1 = true := by decide +kernel
theorem lk222 : kAll "DoorPaintsModel" "rained" cL222 := kOK_app lk222_0 (kOK_of lk222_1)
theorem lk223_0 : kOK "DoorPaintsModel" "orders" cL223_0 cK223_0 = true := by decide +kernel
theorem lk223_1 : kOK "DoorPaintsModel" "orders" cL223_1 cK223_1 = true := by decide +kernel
theorem lk223 : kAll "DoorPaintsModel" "orders" cL223 := kOK_app lk223_0 (kOK_of lk223_1)
theorem lk224 : kAll "DoorPaintsModel" "isOrder" cL224 := kOK_of (by decide +kernel : kOK "DoorPaintsModel" "isOrder" cL224 cK224 = true)
theorem lk225 : kAll "DoorPaintsModel" "luck" cL225 := kOK_of (by decide +kernel : kOK "DoorPaintsModel" "luck" cL225 cK225 = true)
theorem lk226_0 : kOK "DoorPaintsModel" "findOdds" cL226_0 cK226_0 = true := by decide +kernel
theorem lk226_1 : kOK "DoorPaintsModel" "findOdds" cL226_1 cK226_1 = true := by decide +kernel
theorem lk226_2 : kOK "DoorPaintsModel" "findOdds" cL226_2 cK226_2 = true := by decide +kernel
theorem lk226 : kAll "DoorPaintsModel" "findOdds" cL226 := kOK_app lk226_0 (kOK_app lk226_1 (kOK_of lk226_2))
theorem lk227 : kAll "DoorPaintsModel" "told" cL227 := kOK_of (by decide +kernel : kOK "DoorPaintsModel" "told" cL227 cK227 = true)
theorem lk228 : kAll "DoorPaintsModel" "common" cL228 := kOK_of (by decide +kernel : kOK "DoorPaintsModel" "common" cL228 cK228 = true)
theorem lk229 : kAll "DoorPaintsModel" "mean" cL229 := kOK_of (by decide +kernel : kOK "DoorPaintsModel" "mean" cL229 cK229 = true)
theorem lk230_0 : kOK "DoorPaintsModel" "drift" cL230_0 cK230_0 = true := by decide +kernel
theorem lk230_1 : kOK "DoorPaintsModel" "drift" cL230_1 cK230_1 = true := by decide +kernel
theorem lk230 : kAll "DoorPaintsModel" "drift" cL230 := kOK_app lk230_0 (kOK_of lk230_1)
theorem lk231 : kAll "DoorPaintsModel" "keep" cL231 := kOK_of (by decide +kernel : kOK "DoorPaintsModel" "keep" cL231 cK231 = true)
theorem lk232 : kAll "DoorPaintsModel" "copies" cL232 := kOK_of (by decide +kernel : kOK "DoorPaintsModel" "copies" cL232 cK232 = true)
theorem lk233 : kAll "DoorPaintsModel" "back" cL233 := kOK_of (by decide +kernel : kOK "DoorPaintsModel" "back" cL233 cK233 = true)
theorem lk234 : kAll "DoorPaintsModel" "sheet" cL234 := kOK_of (by decide +kernel : kOK "DoorPaintsModel" "sheet" cL234 cK234 = true)
theorem lk235 : kAll "DoorPaintsModel" "isSheet" cL235 := kOK_of (by decide +kernel : kOK "DoorPaintsModel" "isSheet" cL235 cK235 = true)
theorem lk236_0 : kOK "DoorPaintsModel" "lay" cL236_0 cK236_0 = true := by decide +kernel
theorem lk236_1 : kOK "DoorPaintsModel" "lay" cL236_1 cK236_1 = true := by decide +kernel
theorem lk236 : kAll "DoorPaintsModel" "lay" cL236 := kOK_app lk236_0 (kOK_of lk236_1)
theorem lk237_0 : kOK "DoorPaintsModel" "read" cL237_0 cK237_0 = true := by decide +kernel
theorem lk237_1 : kOK "DoorPaintsModel" "read" cL237_1 cK237_1 = true := by decide +kernel
theorem lk237_2 : kOK "DoorPaintsModel" "read" cL237_2 cK237_2 = true := by decide +kernel
theorem lk237 : kAll "DoorPaintsModel" "read" cL237 := kOK_app lk237_0 (kOK_app lk237_1 (kOK_of lk237_2))
theorem lk238 : kAll "DoorPaintsModel" "torn" cL238 := kOK_of (by decide +kernel : kOK "DoorPaintsModel" "torn" cL238 cK238 = true)
theorem lk239 : kAll "DoorPaintsModel" "count" cL239 := kOK_of (by decide +kernel : kOK "DoorPaintsModel" "count" cL239 cK239 = true)
