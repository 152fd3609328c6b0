/-! TABLES: the links stand in the tables (written by a program) -/
theorem lk196_0 : kOKs "DoorPaintsModel" "mostOf" [cL196_0, cL196_1] [[0, 0, 0, 0, 0, 0, 0, 0, 0], [0, 0, 0, 0, 0, 0, 0]] = true := by decide +kernel
theorem lk196 : kAll "DoorPaintsModel" "mostOf" cL196 := (kAll_gr (R := []) kAll_nil lk196_0)
theorem lk197_0 : kOKs "DoorPaintsModel" "becomes" [cL197_0] [[0, 988, 0, 0, 0, 0, 988, 0, 0, 0, 0, 0]] = true := by decide +kernel
theorem lk197 : kAll "DoorPaintsModel" "becomes" cL197 := (kAll_gr (R := []) kAll_nil lk197_0)
theorem lk198_0 : kOKs "DoorPaintsModel" "ought" [cL198_0, cL198_1, cL198_2, cL198_3, cL198_4] [[0, 0, 1230, 0, 0, 0, 0, 1234, 1093], [0, 0, 0, 0, 0, 0, 0, 0, 0, 0, 0], [0, 988, 0, 0, 0, 0, 988, 0], [0, 0, 0, 0, 0, 0, 0, 0, 0, 0], [0, 0, 0, 0, 0, 0, 0, 0, 0, 0, 0, 0]] = true := by decide +kernel
theorem lk198 : kAll "DoorPaintsModel" "ought" cL198 := (kAll_gr (R := []) kAll_nil lk198_0)
theorem lk199_0 : kOKs "DoorPaintsModel" "plans" [cL199_0, cL199_1, cL199_2, cL199_3] [[0, 0, 1307, 0, 0, 0, 0, 988, 0], [0, 0, 0, 0, 0, 0, 988, 0, 0], [988, 0, 0, 0, 0, 0, 0, 988, 0, 0], [0, 0, 0, 0, 0, 988, 0, 0, 0]] = true := by decide +kernel
theorem lk199 : kAll "DoorPaintsModel" "plans" cL199 := (kAll_gr (R := []) kAll_nil lk199_0)
theorem lk200_0 : kOKs "DoorPaintsModel" "isAct" [cL200_0, cL200_1, cL200_2] [[0, 0, 1163, 1164, 1093, 0, 0, 0], [0, 0, 0, 0, 1213, 0, 0, 0, 0], [0, 1230, 0, 0, 0, 0, 0]] = true := by decide +kernel
theorem lk200 : kAll "DoorPaintsModel" "isAct" cL200 := (kAll_gr (R := []) kAll_nil lk200_0)
theorem lk201_0 : kOKs "DoorPaintsModel" "cut" [cL201_0, cL201_1] [[0, 0, 0, 0, 988, 0, 0, 0, 1093, 0], [0, 0, 0, 1295, 0, 0, 0]] = true := by decide +kernel
theorem lk201 : kAll "DoorPaintsModel" "cut" cL201 := (kAll_gr (R := []) kAll_nil lk201_0)
theorem lk202_0 : kOKs "DoorPaintsModel" "runs" [cL202_0, cL202_1, cL202_2, cL202_3, cL202_4, cL202_5, cL202_6, cL202_7] [[0, 0, 0, 1217, 1093, 0, 0, 0, 0, 1178], [0, 0, 1010, 0, 0, 0, 0, 0, 0, 988], [0, 0, 0, 0, 0, 988, 0, 0, 0], [0, 1319, 0, 1011, 0, 0, 0, 0], [0, 0, 0, 0, 0, 0, 0, 0, 0], [0, 0, 0, 991, 0, 0, 0, 0, 0], [1186, 0, 0, 0, 0, 1206, 0], [0, 0, 0, 0, 0, 0, 0, 0, 1010]] = true := by decide +kernel
theorem lk202_1 : kOKs "DoorPaintsModel" "runs" [cL202_8, cL202_9, cL202_10] [[0, 0, 0, 0, 0, 1190, 0], [0, 0, 0, 0, 0, 0, 0, 0, 0, 1280], [0, 0, 0]] = true := by decide +kernel
theorem lk202 : kAll "DoorPaintsModel" "runs" cL202 := (kAll_gr (R := cL202_8 ++ ( cL202_9 ++ ( cL202_10 ++ ([])))) (kAll_gr (R := []) kAll_nil lk202_1) lk202_0)
theorem lk203_0 : kOKs "DoorPaintsModel" "acts" [cL203_0, cL203_1, cL203_2, cL203_3] [[0, 0, 1011, 0, 0, 0, 0, 0, 1272], [0, 0, 0, 0, 0, 0, 0, 0, 1251, 0], [0, 0, 1010, 0, 0, 0, 0, 0, 0, 0], [1255, 0, 1010, 0, 0, 0, 1011, 0]] = true := by decide +kernel
theorem lk203 : kAll "DoorPaintsModel" "acts" cL203 := (kAll_gr (R := []) kAll_nil lk203_0)
theorem lk204_0 : kOKs "DoorPaintsModel" "ahead" [cL204_0, cL204_1] [[0, 0, 1230, 0, 0, 0, 0, 1178, 0, 1327], [0, 0, 1198, 0]] = true := by decide +kernel
theorem lk204 : kAll "DoorPaintsModel" "ahead" cL204 := (kAll_gr (R := []) kAll_nil lk204_0)
theorem lk205_0 : kOKs "DoorPaintsModel" "plansGo" [cL205_0, cL205_1, cL205_2] [[0, 0, 1010, 0, 0, 0, 0, 988, 0, 0, 0], [0, 0, 988, 0, 0, 0, 0, 1319, 0], [0, 0]] = true := by decide +kernel
theorem lk205 : kAll "DoorPaintsModel" "plansGo" cL205 := (kAll_gr (R := []) kAll_nil lk205_0)
theorem lk206_0 : kOKs "DoorPaintsModel" "clears" [cL206_0, cL206_1, cL206_2, cL206_3, cL206_4] [[0, 0, 1230, 0, 0, 0, 0, 0, 0, 0, 0, 0], [991, 0, 0, 1178, 0, 0, 0, 1251], [0, 0, 0, 0, 1255, 0, 0, 0, 0, 1194], [0, 0, 0, 0, 1206, 0, 0, 0, 0, 0], [0, 0, 0]] = true := by decide +kernel
theorem lk206 : kAll "DoorPaintsModel" "clears" cL206 := (kAll_gr (R := []) kAll_nil lk206_0)
theorem lk207_0 : kOKs "DoorPaintsModel" "best" [cL207_0, cL207_1, cL207_2, cL207_3, cL207_4, cL207_5, cL207_6, cL207_7] [[0, 0, 0, 1165, 1093, 0, 0, 1339], [0, 0, 0, 0, 0, 0, 1271, 1093, 0], [0, 0, 0, 1342, 0, 0, 0, 0], [0, 1346, 0, 0, 0, 0, 0, 0, 0, 0], [0, 0, 1347, 0, 0, 0, 0, 1351], [0, 1190, 1359, 0, 0, 0, 0], [0, 0, 0, 0, 1010, 0, 0], [0, 0, 0, 0, 0, 0, 0, 0]] = true := by decide +kernel
theorem lk207_1 : kOKs "DoorPaintsModel" "best" [cL207_8, cL207_9, cL207_10, cL207_11, cL207_12, cL207_13] [[0, 0, 0, 0, 0, 1010, 0], [0, 0, 0, 0, 0, 0, 0], [0, 0, 0, 0, 1339, 0], [0, 0, 0, 0, 0, 0, 0, 0, 0], [0, 0, 0, 0, 0, 0, 0, 0, 1362, 0], [0, 0]] = true := by decide +kernel
theorem lk207 : kAll "DoorPaintsModel" "best" cL207 := (kAll_gr (R := cL207_8 ++ ( cL207_9 ++ ( cL207_10 ++ ( cL207_11 ++ ( cL207_12 ++ ( cL207_13 ++ ([]))))))) (kAll_gr (R := []) kAll_nil lk207_1) lk207_0)
theorem lk208_0 : kOKs "DoorPaintsModel" "isPart" [cL208_0] [[0, 0, 0, 0, 1093, 0]] = true := by decide +kernel
theorem lk208 : kAll "DoorPaintsModel" "isPart" cL208 := (kAll_gr (R := []) kAll_nil lk208_0)
theorem lk209_0 : kOKs "DoorPaintsModel" "kindsOfVisit" [cL209_0] [[0, 991, 0, 992, 0, 0]] = true := by decide +kernel
theorem lk209 : kAll "DoorPaintsModel" "kindsOfVisit" cL209 := (kAll_gr (R := []) kAll_nil lk209_0)
theorem lk210_0 : kOKs "DoorPaintsModel" "rowsOf" [cL210_0, cL210_1] [[0, 0, 0, 0, 0, 0, 0, 0, 0, 1342, 0, 0], [0, 0, 0, 0]] = true := by decide +kernel
theorem lk210 : kAll "DoorPaintsModel" "rowsOf" cL210 := (kAll_gr (R := []) kAll_nil lk210_0)
theorem lk211_0 : kOKs "DoorPaintsModel" "goesRow" [cL211_0, cL211_1, cL211_2, cL211_3] [[0, 0, 1347, 0, 0, 1178, 0, 0, 1010, 0], [0, 0, 0, 0, 0, 0, 1342, 0, 0, 0], [0, 0, 0, 0, 0, 1342, 0, 1355, 1319, 0], [0, 0]] = true := by decide +kernel
theorem lk211 : kAll "DoorPaintsModel" "goesRow" cL211 := (kAll_gr (R := []) kAll_nil lk211_0)
theorem lk212_0 : kOKs "DoorPaintsModel" "actAt" [cL212_0, cL212_1] [[0, 0, 0, 992, 0, 0, 0, 0, 992, 0, 0], [0]] = true := by decide +kernel
theorem lk212 : kAll "DoorPaintsModel" "actAt" cL212 := (kAll_gr (R := []) kAll_nil lk212_0)
theorem lk213_0 : kOKs "DoorPaintsModel" "bitsOf" [cL213_0, cL213_1] [[0, 0, 0, 0, 0, 0, 0, 0, 0, 0, 0, 0, 0], [0, 0, 0, 0, 0, 0]] = true := by decide +kernel
theorem lk213 : kAll "DoorPaintsModel" "bitsOf" cL213 := (kAll_gr (R := []) kAll_nil lk213_0)
theorem lk214_0 : kOKs "DoorPaintsModel" "visitIn" [cL214_0, cL214_1] [[0, 0, 0, 0, 0, 0, 0, 0, 1347, 0, 0, 1342], [0, 1355, 0]] = true := by decide +kernel
theorem lk214 : kAll "DoorPaintsModel" "visitIn" cL214 := (kAll_gr (R := []) kAll_nil lk214_0)
theorem lk215_0 : kOKs "DoorPaintsModel" "few" [cL215_0, cL215_1, cL215_2, cL215_3, cL215_4, cL215_5, cL215_6] [[0, 0, 0, 0, 0, 0, 0, 1271, 1093], [0, 0, 0, 0, 0, 0, 0, 1342, 0, 0], [0, 0, 0, 0, 0, 0, 0, 0, 1347, 0], [0, 0, 0, 1351, 0, 1190, 0, 0], [0, 0, 0, 0, 0, 0, 0, 0, 0], [0, 0, 0, 0, 0, 1362, 0, 0, 0, 0], [0, 0, 0, 0, 0]] = true := by decide +kernel
theorem lk215 : kAll "DoorPaintsModel" "few" cL215 := (kAll_gr (R := []) kAll_nil lk215_0)
theorem lk216_0 : kOKs "DoorPaintsModel" "reads" [cL216_0, cL216_1, cL216_2, cL216_3, cL216_4, cL216_5] [[0, 0, 1213, 0, 0, 0, 0, 1178, 0, 0], [0, 0, 0, 0, 992, 0, 0, 0, 0, 0], [0, 0, 0, 0, 1182, 0, 0, 0], [0, 0, 0, 1202, 0, 0, 1218, 0, 0], [0, 0, 0, 0, 0, 0, 0, 1206], [0, 0, 0, 0, 0, 0, 0, 0]] = true := by decide +kernel
theorem lk216 : kAll "DoorPaintsModel" "reads" cL216 := (kAll_gr (R := []) kAll_nil lk216_0)
theorem lk217_0 : kOKs "DoorPaintsModel" "see" [cL217_0, cL217_1, cL217_2, cL217_3, cL217_4, cL217_5, cL217_6, cL217_7] [[0, 0, 1230, 0, 0, 0, 0, 1234, 1093], [0, 0, 0, 0, 0, 0, 0, 1234], [1093, 0, 0, 0, 0, 988, 0, 0, 0], [0, 0, 0, 0, 0, 0, 988, 0], [0, 0, 0, 0, 0, 988, 0, 0, 0, 0, 988], [0, 0, 0, 0, 0, 0, 988, 0, 0, 0, 0], [0, 0, 988, 0, 0, 0, 0, 0, 0, 0, 988], [0, 0, 0]] = true := by decide +kernel
theorem lk217 : kAll "DoorPaintsModel" "see" cL217 := (kAll_gr (R := []) kAll_nil lk217_0)
theorem lk218_0 : kOKs "DoorPaintsModel" "forget" [cL218_0, cL218_1] [[0, 0, 0, 0, 988, 0, 0, 0, 1093, 0], [0, 0, 0, 1295, 0, 0, 0]] = true := by decide +kernel
theorem lk218 : kAll "DoorPaintsModel" "forget" cL218 := (kAll_gr (R := []) kAll_nil lk218_0)
theorem lk219_0 : kOKs "DoorPaintsModel" "pots" [cL219_0, cL219_1, cL219_2, cL219_3, cL219_4] [[0, 0, 1213, 0, 0, 0, 0, 0, 0, 0, 0, 0], [991, 0, 0, 1178, 0, 0, 1008, 0], [0, 1009, 0, 1327, 0, 0, 1386, 1206], [0, 0, 0, 0, 0, 0, 0, 0, 1008], [0, 0]] = true := by decide +kernel
theorem lk219 : kAll "DoorPaintsModel" "pots" cL219 := (kAll_gr (R := []) kAll_nil lk219_0)
theorem lk220_0 : kOKs "DoorPaintsModel" "isSo" [cL220_0, cL220_1, cL220_2, cL220_3, cL220_4, cL220_5, cL220_6] [[0, 0, 0, 0, 0, 0, 988, 0, 0, 0, 0], [988, 0, 0, 0, 0, 0, 0, 0, 0, 988, 0], [0, 0, 0, 0, 0, 0, 0, 0, 0, 0, 0, 0, 1182], [0, 0, 0, 0, 1202, 0, 0], [0, 0, 0, 0, 0, 988, 0, 0], [0, 0, 0, 0, 0, 0, 0, 0, 0, 0, 0, 0], [0, 0, 0]] = true := by decide +kernel
theorem lk220 : kAll "DoorPaintsModel" "isSo" cL220 := (kAll_gr (R := []) kAll_nil lk220_0)
theorem lk221_0 : kOKs "DoorPaintsModel" "rained" [cL221_0, cL221_1, cL221_2, cL221_3, cL221_4, cL221_5] [[0, 0, 0, 0, 0, 0, 988, 0, 0, 0, 0], [1178, 0, 0, 0, 0, 988, 0, 0, 0], [0, 0, 0, 0, 0, 1319, 0, 0, 988], [0, 0, 0, 0, 0, 988, 0, 0, 0, 0], [1319, 0, 0, 0, 0, 1386, 1206], [0, 0, 0, 0, 0, 0, 0, 0]] = true := by decide +kernel
theorem lk221 : kAll "DoorPaintsModel" "rained" cL221 := (kAll_gr (R := []) kAll_nil lk221_0)
theorem lk222_0 : kOKs "DoorPaintsModel" "orders" [cL222_0, cL222_1, cL222_2, cL222_3, cL222_4, cL222_5, cL222_6, cL222_7] [[0, 1339, 0, 0, 0, 0, 988, 0, 0], [0, 0, 0, 0, 0, 0, 0, 0, 0, 0, 0], [0, 0, 0, 0, 0, 0, 0, 0, 0, 0], [0, 0, 0, 0, 0, 0, 0, 0, 0], [1398, 0, 0, 1178, 0, 0, 0, 0], [0, 0, 0, 988, 0, 0, 1012, 0], [0, 0, 0, 1319, 0, 0, 0, 1386], [0, 0, 0, 1206, 0, 0, 0, 0]] = true := by decide +kernel
theorem lk222_1 : kOKs "DoorPaintsModel" "orders" [cL222_8, cL222_9, cL222_10] [[0, 0, 0, 0, 0, 1012, 0, 0, 0, 0], [0, 0, 0, 0, 0, 0, 0, 0, 0], [0, 0, 0, 0]] = true := by decide +kernel
theorem lk222 : kAll "DoorPaintsModel" "orders" cL222 := (kAll_gr (R := cL222_8 ++ ( cL222_9 ++ ( cL222_10 ++ ([])))) (kAll_gr (R := []) kAll_nil lk222_1) lk222_0)
theorem lk223_0 : kOKs "DoorPaintsModel" "isOrder" [cL223_0, cL223_1, cL223_2, cL223_3, cL223_4] [[0, 988, 0, 0, 0, 0, 0, 0, 0, 0, 0, 0], [0, 0, 0, 0, 1012, 0, 0, 0, 0], [0, 0, 0, 0, 0, 0, 0, 0, 1012, 0, 0, 0], [0, 0, 0, 0, 0, 0, 0, 0, 0, 0], [0, 0, 0, 0, 0]] = true := by decide +kernel
theorem lk223 : kAll "DoorPaintsModel" "isOrder" cL223 := (kAll_gr (R := []) kAll_nil lk223_0)
theorem lk224_0 : kOKs "DoorPaintsModel" "luck" [cL224_0, cL224_1, cL224_2, cL224_3] [[0, 0, 0, 1406, 1093, 0, 0, 0, 1230], [0, 0, 1339, 0, 1407, 0, 0], [0, 0, 1408, 0, 1013, 0, 1015, 0, 1412], [0]] = true := by decide +kernel
theorem lk224 : kAll "DoorPaintsModel" "luck" cL224 := (kAll_gr (R := []) kAll_nil lk224_0)
theorem lk225_0 : kOKs "DoorPaintsModel" "findOdds" [cL225_0, cL225_1, cL225_2, cL225_3, cL225_4, cL225_5, cL225_6, cL225_7] [[0, 988, 0, 0, 0, 0, 0, 1013, 0, 0, 1014], [0, 0, 1015, 0, 0, 0, 0, 0, 0], [0, 0, 988, 0, 0, 0, 0, 0, 0], [0, 0, 0, 0, 0, 0, 1206], [0, 0, 0, 0, 0, 0, 1015, 0, 0], [0, 0, 1406, 0, 1015, 0, 0], [0, 0, 0, 0, 0, 0, 0, 0, 0], [0, 0, 0, 0, 0, 0, 1178, 0, 0, 1010]] = true := by decide +kernel
theorem lk225_1 : kOKs "DoorPaintsModel" "findOdds" [cL225_8, cL225_9, cL225_10, cL225_11, cL225_12, cL225_13, cL225_14, cL225_15] [[0, 0, 0, 0, 0, 0, 0, 0], [0, 0, 0, 0, 0, 0, 0, 0, 0, 0], [0, 0, 0, 0, 0, 0, 0, 0, 0], [0, 0, 0, 0, 0, 0, 0, 0, 0, 0], [0, 0, 0, 0, 988, 0, 0, 0, 0], [1319, 0, 0, 0, 0, 1013, 0, 0], [1194, 0, 0, 0, 0, 0, 1013], [0, 0, 1014, 0, 0, 1010, 0, 0, 0, 1014]] = true := by decide +kernel
theorem lk225_2 : kOKs "DoorPaintsModel" "findOdds" [cL225_16] [[0, 0, 0]] = true := by decide +kernel
theorem lk225 : kAll "DoorPaintsModel" "findOdds" cL225 := (kAll_gr (R := cL225_8 ++ ( cL225_9 ++ ( cL225_10 ++ ( cL225_11 ++ ( cL225_12 ++ ( cL225_13 ++ ( cL225_14 ++ ( cL225_15 ++ ( cL225_16 ++ ([])))))))))) (kAll_gr (R := cL225_16 ++ ([])) (kAll_gr (R := []) kAll_nil lk225_2) lk225_1) lk225_0)
theorem lk226_0 : kOKs "DoorPaintsModel" "told" [cL226_0, cL226_1] [[0, 0, 1415, 0, 0, 0, 0, 0, 0], [0, 0, 0, 0, 0]] = true := by decide +kernel
theorem lk226 : kAll "DoorPaintsModel" "told" cL226 := (kAll_gr (R := []) kAll_nil lk226_0)
theorem lk227_0 : kOKs "DoorPaintsModel" "common" [cL227_0, cL227_1, cL227_2] [[0, 0, 0, 0, 0, 0, 0, 0, 0, 0], [0, 0, 0, 0, 0, 0, 0, 0], [0]] = true := by decide +kernel
theorem lk227 : kAll "DoorPaintsModel" "common" cL227 := (kAll_gr (R := []) kAll_nil lk227_0)
theorem lk228_0 : kOKs "DoorPaintsModel" "mean" [cL228_0, cL228_1, cL228_2] [[0, 0, 0, 1406, 1093, 0, 0, 1339], [0, 1407, 0, 0, 0, 0, 1408, 0, 1014], [0, 1015, 0, 1412, 0]] = true := by decide +kernel
theorem lk228 : kAll "DoorPaintsModel" "mean" cL228 := (kAll_gr (R := []) kAll_nil lk228_0)
theorem lk229_0 : kOKs "DoorPaintsModel" "drift" [cL229_0, cL229_1, cL229_2, cL229_3, cL229_4, cL229_5, cL229_6, cL229_7] [[0, 0, 0, 1426, 1093, 0, 0, 1339], [0, 0, 0, 0, 991, 0, 0, 992], [0, 0, 0, 0, 0, 0, 1178, 0, 0], [0, 0, 0, 0, 1427, 0, 0, 0], [0, 0, 0, 0, 0, 0, 0, 0, 0], [0, 0, 0, 0, 0, 0, 0, 0, 0], [0, 0, 991, 0, 0, 0, 0, 0, 0, 992], [0, 0, 0, 0, 0, 0, 0, 0, 1319]] = true := by decide +kernel
theorem lk229_1 : kOKs "DoorPaintsModel" "drift" [cL229_8, cL229_9] [[0, 0, 0, 0, 0, 1280, 0], [0, 1190, 0]] = true := by decide +kernel
theorem lk229 : kAll "DoorPaintsModel" "drift" cL229 := (kAll_gr (R := cL229_8 ++ ( cL229_9 ++ ([]))) (kAll_gr (R := []) kAll_nil lk229_1) lk229_0)
theorem lk230_0 : kOKs "DoorPaintsModel" "keep" [cL230_0, cL230_1, cL230_2] [[0, 0, 0, 0, 1093, 0, 0, 0, 0, 990], [0, 0, 1206, 0, 0, 990, 0, 0, 0, 0, 0], [0, 0, 0, 0, 0, 1432, 0, 0]] = true := by decide +kernel
theorem lk230 : kAll "DoorPaintsModel" "keep" cL230 := (kAll_gr (R := []) kAll_nil lk230_0)
theorem lk231_0 : kOKs "DoorPaintsModel" "copies" [cL231_0, cL231_1] [[0, 0, 0, 0, 0, 0, 988, 0, 0, 0, 0], [988, 0, 0, 0, 0, 0, 0, 0, 0]] = true := by decide +kernel
theorem lk231 : kAll "DoorPaintsModel" "copies" cL231 := (kAll_gr (R := []) kAll_nil lk231_0)
theorem lk232_0 : kOKs "DoorPaintsModel" "back" [cL232_0, cL232_1, cL232_2] [[0, 0, 0, 0, 1093, 0, 0, 0, 0, 990], [0, 0, 0, 0, 0, 0, 0, 0, 0, 0, 0, 0], [1432, 0, 1178, 0, 1280, 0]] = true := by decide +kernel
theorem lk232 : kAll "DoorPaintsModel" "back" cL232 := (kAll_gr (R := []) kAll_nil lk232_0)
theorem lk233_0 : kOKs "DoorPaintsModel" "sheet" [cL233_0, cL233_1, cL233_2, cL233_3, cL233_4] [[0, 0, 1444, 0, 0, 0, 0, 0, 0], [0, 0, 0, 0, 0, 1016, 0, 0, 0, 0, 1017], [0, 0, 0, 0, 0, 0, 0, 0, 0], [1018, 0, 0, 0, 0, 0, 0, 0, 0, 0], [0, 0]] = true := by decide +kernel
theorem lk233 : kAll "DoorPaintsModel" "sheet" cL233 := (kAll_gr (R := []) kAll_nil lk233_0)
theorem lk234_0 : kOKs "DoorPaintsModel" "isSheet" [cL234_0, cL234_1] [[0, 0, 0, 1165, 1093, 0, 0, 0, 0, 1271], [1093, 0, 0, 0, 0, 0]] = true := by decide +kernel
theorem lk234 : kAll "DoorPaintsModel" "isSheet" cL234 := (kAll_gr (R := []) kAll_nil lk234_0)
theorem lk235_0 : kOKs "DoorPaintsModel" "lay" [cL235_0, cL235_1, cL235_2, cL235_3, cL235_4, cL235_5] [[0, 0, 1444, 0, 0, 0, 0, 1016, 0, 0], [0, 0, 0, 0, 0, 0, 0, 0, 1017, 0], [0, 0, 0, 0, 1093, 0, 0, 0, 0, 1018], [0, 0, 0, 0, 0, 0, 1016, 0, 0, 0], [0, 0, 0, 0, 1016, 0, 0, 0, 0, 0], [0, 0, 0, 0, 0, 0]] = true := by decide +kernel
theorem lk235 : kAll "DoorPaintsModel" "lay" cL235 := (kAll_gr (R := []) kAll_nil lk235_0)
theorem lk236_0 : kOKs "DoorPaintsModel" "read" [cL236_0, cL236_1, cL236_2, cL236_3, cL236_4, cL236_5, cL236_6, cL236_7] [[0, 0, 1444, 0, 0, 0, 0, 1455, 1093], [0, 0, 0, 0, 0, 0, 0, 0], [0, 1020, 0, 0, 988, 0, 0, 0, 0], [0, 0, 0, 0, 0, 0, 0, 0], [0, 0, 0, 0, 0, 0, 0, 0], [0, 0, 0, 0, 0, 0, 0, 0, 0, 0], [0, 0, 0, 0, 0, 1016, 0, 0, 0, 0], [0, 0, 0, 1016, 0, 0, 0, 0, 0]] = true := by decide +kernel
theorem lk236_1 : kOKs "DoorPaintsModel" "read" [cL236_8, cL236_9, cL236_10, cL236_11, cL236_12, cL236_13, cL236_14, cL236_15] [[0, 0, 0, 0, 0, 0, 0, 1017], [0, 0, 0, 0, 0, 0, 0, 0, 0, 0], [0, 0, 0, 0, 0, 0, 0, 0, 0], [0, 0, 0, 0, 0, 0, 1018, 0, 0, 0, 1018], [0, 0, 0, 0, 1456, 0, 0, 0], [0, 0, 0, 0, 0, 0, 0, 0], [0, 988, 0, 0, 1020, 0, 0, 0], [0, 0, 0, 0, 0, 0, 0, 0]] = true := by decide +kernel
theorem lk236_2 : kOKs "DoorPaintsModel" "read" [cL236_16] [[0, 0, 0, 1019, 0, 0]] = true := by decide +kernel
theorem lk236 : kAll "DoorPaintsModel" "read" cL236 := (kAll_gr (R := cL236_8 ++ ( cL236_9 ++ ( cL236_10 ++ ( cL236_11 ++ ( cL236_12 ++ ( cL236_13 ++ ( cL236_14 ++ ( cL236_15 ++ ( cL236_16 ++ ([])))))))))) (kAll_gr (R := cL236_16 ++ ([])) (kAll_gr (R := []) kAll_nil lk236_2) lk236_1) lk236_0)
theorem lk237_0 : kOKs "DoorPaintsModel" "torn" [cL237_0] [[0, 1019, 0]] = true := by decide +kernel
theorem lk237 : kAll "DoorPaintsModel" "torn" cL237 := (kAll_gr (R := []) kAll_nil lk237_0)
theorem lk238_0 : kOKs "DoorPaintsModel" "count" [cL238_0, cL238_1, cL238_2, cL238_3, cL238_4, cL238_5, cL238_6] [[0, 1178, 0, 0], [], [0, 1280, 0, 0, 988], [0, 0, 0, 0, 990, 0, 0, 1206, 0, 990], [0, 0, 1206, 0, 0, 0, 1001, 0, 0, 1016], [0, 0, 0, 0, 0, 0, 0, 1017], [0, 0, 0, 0, 0]] = true := by decide +kernel
theorem lk238 : kAll "DoorPaintsModel" "count" cL238 := (kAll_gr (R := []) kAll_nil lk238_0)
