/-! TABLES: the links stand in the tables (written by a program) -/
theorem lg196_0 : kAll "DoorPaintsModel" "mostOf" cG196_0 := kOK_of (by decide +kernel : kOK "DoorPaintsModel" "mostOf" cG196_0 [0, 0, 0, 0, 0, 0, 0, 0, 0, 0, 0, 0, 0, 0, 0, 0] = true)
theorem lk196 : kAll "DoorPaintsModel" "mostOf" cL196 := kAll_app lg196_0 kAll_nil
theorem lg197_0 : kAll "DoorPaintsModel" "becomes" cG197_0 := kOK_of (by decide +kernel : kOK "DoorPaintsModel" "becomes" cG197_0 [0, 988, 0, 0, 0, 0, 988, 0, 0, 0, 0, 0] = true)
theorem lk197 : kAll "DoorPaintsModel" "becomes" cL197 := kAll_app lg197_0 kAll_nil
theorem lg198_0 : kAll "DoorPaintsModel" "ought" cG198_0 := kOK_of (by decide +kernel : kOK "DoorPaintsModel" "ought" cG198_0 [0, 0, 1230, 0, 0, 0, 0, 1234, 1093, 0, 0, 0, 0, 0, 0, 0, 0, 0, 0, 0, 0, 988, 0, 0, 0, 0, 988, 0, 0, 0, 0, 0, 0, 0, 0, 0, 0, 0, 0, 0, 0, 0, 0, 0, 0, 0, 0, 0, 0, 0] = true)
theorem lk198 : kAll "DoorPaintsModel" "ought" cL198 := kAll_app lg198_0 kAll_nil
theorem lg199_0 : kAll "DoorPaintsModel" "plans" cG199_0 := kOK_of (by decide +kernel : kOK "DoorPaintsModel" "plans" cG199_0 [0, 0, 1307, 0, 0, 0, 0, 988, 0, 0, 0, 0, 0, 0, 0, 988, 0, 0, 988, 0, 0, 0, 0, 0, 0, 988, 0, 0, 0, 0, 0, 0, 0, 988, 0, 0, 0] = true)
theorem lk199 : kAll "DoorPaintsModel" "plans" cL199 := kAll_app lg199_0 kAll_nil
theorem lg200_0 : kAll "DoorPaintsModel" "isAct" cG200_0 := kOK_of (by decide +kernel : kOK "DoorPaintsModel" "isAct" cG200_0 [0, 0, 1163, 1164, 1093, 0, 0, 0, 0, 0, 0, 0, 1213, 0, 0, 0, 0, 0, 1230, 0, 0, 0, 0, 0] = true)
theorem lk200 : kAll "DoorPaintsModel" "isAct" cL200 := kAll_app lg200_0 kAll_nil
theorem lg201_0 : kAll "DoorPaintsModel" "cut" cG201_0 := kOK_of (by decide +kernel : kOK "DoorPaintsModel" "cut" cG201_0 [0, 0, 0, 0, 988, 0, 0, 0, 1093, 0, 0, 0, 0, 1295, 0, 0, 0] = true)
theorem lk201 : kAll "DoorPaintsModel" "cut" cL201 := kAll_app lg201_0 kAll_nil
theorem lg202_0 : kAll "DoorPaintsModel" "runs" cG202_0 := kOK_of (by decide +kernel : kOK "DoorPaintsModel" "runs" cG202_0 [0, 0, 0, 1217, 1093, 0, 0, 0, 0, 1178, 0, 0, 1010, 0, 0, 0, 0, 0, 0, 988, 0, 0, 0, 0, 0, 988, 0, 0, 0, 0, 1319, 0, 1011, 0, 0, 0, 0, 0, 0, 0, 0, 0, 0, 0, 0, 0, 0, 0, 0, 991, 0, 0, 0, 0, 0, 1186, 0, 0, 0, 0, 1206, 0, 0, 0, 0, 0, 0, 0, 0, 0, 1010] = true)
theorem lg202_1 : kAll "DoorPaintsModel" "runs" cG202_1 := kOK_of (by decide +kernel : kOK "DoorPaintsModel" "runs" cG202_1 [0, 0, 0, 0, 0, 1190, 0, 0, 0, 0, 0, 0, 0, 0, 0, 0, 1280, 0, 0, 0] = true)
theorem lk202 : kAll "DoorPaintsModel" "runs" cL202 := kAll_app lg202_0 (kAll_app lg202_1 kAll_nil)
theorem lg203_0 : kAll "DoorPaintsModel" "acts" cG203_0 := kOK_of (by decide +kernel : kOK "DoorPaintsModel" "acts" cG203_0 [0, 0, 1011, 0, 0, 0, 0, 0, 1272, 0, 0, 0, 0, 0, 0, 0, 0, 1251, 0, 0, 0, 1010, 0, 0, 0, 0, 0, 0, 0, 1255, 0, 1010, 0, 0, 0, 1011, 0] = true)
theorem lk203 : kAll "DoorPaintsModel" "acts" cL203 := kAll_app lg203_0 kAll_nil
theorem lg204_0 : kAll "DoorPaintsModel" "ahead" cG204_0 := kOK_of (by decide +kernel : kOK "DoorPaintsModel" "ahead" cG204_0 [0, 0, 1230, 0, 0, 0, 0, 1178, 0, 1327, 0, 0, 1198, 0] = true)
theorem lk204 : kAll "DoorPaintsModel" "ahead" cL204 := kAll_app lg204_0 kAll_nil
theorem lg205_0 : kAll "DoorPaintsModel" "plansGo" cG205_0 := kOK_of (by decide +kernel : kOK "DoorPaintsModel" "plansGo" cG205_0 [0, 0, 1010, 0, 0, 0, 0, 988, 0, 0, 0, 0, 0, 988, 0, 0, 0, 0, 1319, 0, 0, 0] = true)
theorem lk205 : kAll "DoorPaintsModel" "plansGo" cL205 := kAll_app lg205_0 kAll_nil
theorem lg206_0 : kAll "DoorPaintsModel" "clears" cG206_0 := kOK_of (by decide +kernel : kOK "DoorPaintsModel" "clears" cG206_0 [0, 0, 1230, 0, 0, 0, 0, 0, 0, 0, 0, 0, 991, 0, 0, 1178, 0, 0, 0, 1251, 0, 0, 0, 0, 1255, 0, 0, 0, 0, 1194, 0, 0, 0, 0, 1206, 0, 0, 0, 0, 0, 0, 0, 0] = true)
theorem lk206 : kAll "DoorPaintsModel" "clears" cL206 := kAll_app lg206_0 kAll_nil
theorem lg207_0 : kAll "DoorPaintsModel" "best" cG207_0 := kOK_of (by decide +kernel : kOK "DoorPaintsModel" "best" cG207_0 [0, 0, 0, 1165, 1093, 0, 0, 1339, 0, 0, 0, 0, 0, 0, 1271, 1093, 0, 0, 0, 0, 1342, 0, 0, 0, 0, 0, 1346, 0, 0, 0, 0, 0, 0, 0, 0, 0, 0, 1347, 0, 0, 0, 0, 1351, 0, 1190, 1359, 0, 0, 0, 0, 0, 0, 0, 0, 1010, 0, 0, 0, 0, 0, 0, 0, 0, 0, 0] = true)
theorem lg207_1 : kAll "DoorPaintsModel" "best" cG207_1 := kOK_of (by decide +kernel : kOK "DoorPaintsModel" "best" cG207_1 [0, 0, 0, 0, 0, 1010, 0, 0, 0, 0, 0, 0, 0, 0, 0, 0, 0, 0, 1339, 0, 0, 0, 0, 0, 0, 0, 0, 0, 0, 0, 0, 0, 0, 0, 0, 0, 0, 1362, 0, 0, 0] = true)
theorem lk207 : kAll "DoorPaintsModel" "best" cL207 := kAll_app lg207_0 (kAll_app lg207_1 kAll_nil)
theorem lg208_0 : kAll "DoorPaintsModel" "isPart" cG208_0 := kOK_of (by decide +kernel : kOK "DoorPaintsModel" "isPart" cG208_0 [0, 0, 0, 0, 1093, 0] = true)
theorem lk208 : kAll "DoorPaintsModel" "isPart" cL208 := kAll_app lg208_0 kAll_nil
theorem lg209_0 : kAll "DoorPaintsModel" "kindsOfVisit" cG209_0 := kOK_of (by decide +kernel : kOK "DoorPaintsModel" "kindsOfVisit" cG209_0 [0, 991, 0, 992, 0, 0] = true)
theorem lk209 : kAll "DoorPaintsModel" "kindsOfVisit" cL209 := kAll_app lg209_0 kAll_nil
theorem lg210_0 : kAll "DoorPaintsModel" "rowsOf" cG210_0 := kOK_of (by decide +kernel : kOK "DoorPaintsModel" "rowsOf" cG210_0 [0, 0, 0, 0, 0, 0, 0, 0, 0, 1342, 0, 0, 0, 0, 0, 0] = true)
theorem lk210 : kAll "DoorPaintsModel" "rowsOf" cL210 := kAll_app lg210_0 kAll_nil
theorem lg211_0 : kAll "DoorPaintsModel" "goesRow" cG211_0 := kOK_of (by decide +kernel : kOK "DoorPaintsModel" "goesRow" cG211_0 [0, 0, 1347, 0, 0, 1178, 0, 0, 1010, 0, 0, 0, 0, 0, 0, 0, 1342, 0, 0, 0, 0, 0, 0, 0, 0, 1342, 0, 1355, 1319, 0, 0, 0] = true)
theorem lk211 : kAll "DoorPaintsModel" "goesRow" cL211 := kAll_app lg211_0 kAll_nil
theorem lg212_0 : kAll "DoorPaintsModel" "actAt" cG212_0 := kOK_of (by decide +kernel : kOK "DoorPaintsModel" "actAt" cG212_0 [0, 0, 0, 992, 0, 0, 0, 0, 992, 0, 0, 0] = true)
theorem lk212 : kAll "DoorPaintsModel" "actAt" cL212 := kAll_app lg212_0 kAll_nil
theorem lg213_0 : kAll "DoorPaintsModel" "bitsOf" cG213_0 := kOK_of (by decide +kernel : kOK "DoorPaintsModel" "bitsOf" cG213_0 [0, 0, 0, 0, 0, 0, 0, 0, 0, 0, 0, 0, 0, 0, 0, 0, 0, 0, 0] = true)
theorem lk213 : kAll "DoorPaintsModel" "bitsOf" cL213 := kAll_app lg213_0 kAll_nil
theorem lg214_0 : kAll "DoorPaintsModel" "visitIn" cG214_0 := kOK_of (by decide +kernel : kOK "DoorPaintsModel" "visitIn" cG214_0 [0, 0, 0, 0, 0, 0, 0, 0, 1347, 0, 0, 1342, 0, 1355, 0] = true)
theorem lk214 : kAll "DoorPaintsModel" "visitIn" cL214 := kAll_app lg214_0 kAll_nil
theorem lg215_0 : kAll "DoorPaintsModel" "few" cG215_0 := kOK_of (by decide +kernel : kOK "DoorPaintsModel" "few" cG215_0 [0, 0, 0, 0, 0, 0, 0, 1271, 1093, 0, 0, 0, 0, 0, 0, 0, 1342, 0, 0, 0, 0, 0, 0, 0, 0, 0, 0, 1347, 0, 0, 0, 0, 1351, 0, 1190, 0, 0, 0, 0, 0, 0, 0, 0, 0, 0, 0, 0, 0, 0, 0, 0, 1362, 0, 0, 0, 0, 0, 0, 0, 0, 0] = true)
theorem lk215 : kAll "DoorPaintsModel" "few" cL215 := kAll_app lg215_0 kAll_nil
theorem lg216_0 : kAll "DoorPaintsModel" "reads" cG216_0 := kOK_of (by decide +kernel : kOK "DoorPaintsModel" "reads" cG216_0 [0, 0, 1213, 0, 0, 0, 0, 1178, 0, 0, 0, 0, 0, 0, 992, 0, 0, 0, 0, 0, 0, 0, 0, 0, 1182, 0, 0, 0, 0, 0, 0, 1202, 0, 0, 1218, 0, 0, 0, 0, 0, 0, 0, 0, 0, 1206, 0, 0, 0, 0, 0, 0, 0, 0] = true)
theorem lk216 : kAll "DoorPaintsModel" "reads" cL216 := kAll_app lg216_0 kAll_nil
theorem lg217_0 : kAll "DoorPaintsModel" "see" cG217_0 := kOK_of (by decide +kernel : kOK "DoorPaintsModel" "see" cG217_0 [0, 0, 1230, 0, 0, 0, 0, 1234, 1093, 0, 0, 0, 0, 0, 0, 0, 1234, 1093, 0, 0, 0, 0, 988, 0, 0, 0, 0, 0, 0, 0, 0, 0, 988, 0, 0, 0, 0, 0, 0, 988, 0, 0, 0, 0, 988, 0, 0, 0, 0, 0, 0, 988, 0, 0, 0, 0, 0, 0, 988, 0, 0, 0, 0, 0, 0, 0, 988, 0, 0, 0] = true)
theorem lk217 : kAll "DoorPaintsModel" "see" cL217 := kAll_app lg217_0 kAll_nil
theorem lg218_0 : kAll "DoorPaintsModel" "forget" cG218_0 := kOK_of (by decide +kernel : kOK "DoorPaintsModel" "forget" cG218_0 [0, 0, 0, 0, 988, 0, 0, 0, 1093, 0, 0, 0, 0, 1295, 0, 0, 0] = true)
theorem lk218 : kAll "DoorPaintsModel" "forget" cL218 := kAll_app lg218_0 kAll_nil
theorem lg219_0 : kAll "DoorPaintsModel" "pots" cG219_0 := kOK_of (by decide +kernel : kOK "DoorPaintsModel" "pots" cG219_0 [0, 0, 1213, 0, 0, 0, 0, 0, 0, 0, 0, 0, 991, 0, 0, 1178, 0, 0, 1008, 0, 0, 1009, 0, 1327, 0, 0, 1386, 1206, 0, 0, 0, 0, 0, 0, 0, 0, 1008, 0, 0] = true)
theorem lk219 : kAll "DoorPaintsModel" "pots" cL219 := kAll_app lg219_0 kAll_nil
theorem lg220_0 : kAll "DoorPaintsModel" "isSo" cG220_0 := kOK_of (by decide +kernel : kOK "DoorPaintsModel" "isSo" cG220_0 [0, 0, 0, 0, 0, 0, 988, 0, 0, 0, 0, 988, 0, 0, 0, 0, 0, 0, 0, 0, 988, 0, 0, 0, 0, 0, 0, 0, 0, 0, 0, 0, 0, 0, 1182, 0, 0, 0, 0, 1202, 0, 0, 0, 0, 0, 0, 0, 988, 0, 0, 0, 0, 0, 0, 0, 0, 0, 0, 0, 0, 0, 0, 0, 0, 0] = true)
theorem lk220 : kAll "DoorPaintsModel" "isSo" cL220 := kAll_app lg220_0 kAll_nil
theorem lg221_0 : kAll "DoorPaintsModel" "rained" cG221_0 := kOK_of (by decide +kernel : kOK "DoorPaintsModel" "rained" cG221_0 [0, 0, 0, 0, 0, 0, 988, 0, 0, 0, 0, 1178, 0, 0, 0, 0, 988, 0, 0, 0, 0, 0, 0, 0, 0, 1319, 0, 0, 988, 0, 0, 0, 0, 0, 988, 0, 0, 0, 0, 1319, 0, 0, 0, 0, 1386, 1206, 0, 0, 0, 0, 0, 0, 0, 0] = true)
theorem lk221 : kAll "DoorPaintsModel" "rained" cL221 := kAll_app lg221_0 kAll_nil
theorem lg222_0 : kAll "DoorPaintsModel" "orders" cG222_0 := kOK_of (by decide +kernel : kOK "DoorPaintsModel" "orders" cG222_0 [0, 1339, 0, 0, 0, 0, 988, 0, 0, 0, 0, 0, 0, 0, 0, 0, 0, 0, 0, 0, 0, 0, 0, 0, 0, 0, 0, 0, 0, 0, 0, 0, 0, 0, 0, 0, 0, 0, 0, 1398, 0, 0, 1178, 0, 0, 0, 0, 0, 0, 0, 988, 0, 0, 1012, 0, 0, 0, 0, 1319, 0, 0, 0, 1386, 0, 0, 0, 1206, 0, 0, 0, 0] = true)
theorem lg222_1 : kAll "DoorPaintsModel" "orders" cG222_1 := kOK_of (by decide +kernel : kOK "DoorPaintsModel" "orders" cG222_1 [0, 0, 0, 0, 0, 1012, 0, 0, 0, 0, 0, 0, 0, 0, 0, 0, 0, 0, 0, 0, 0, 0, 0] = true)
theorem lk222 : kAll "DoorPaintsModel" "orders" cL222 := kAll_app lg222_0 (kAll_app lg222_1 kAll_nil)
theorem lg223_0 : kAll "DoorPaintsModel" "isOrder" cG223_0 := kOK_of (by decide +kernel : kOK "DoorPaintsModel" "isOrder" cG223_0 [0, 988, 0, 0, 0, 0, 0, 0, 0, 0, 0, 0, 0, 0, 0, 0, 1012, 0, 0, 0, 0, 0, 0, 0, 0, 0, 0, 0, 0, 1012, 0, 0, 0, 0, 0, 0, 0, 0, 0, 0, 0, 0, 0, 0, 0, 0, 0, 0] = true)
theorem lk223 : kAll "DoorPaintsModel" "isOrder" cL223 := kAll_app lg223_0 kAll_nil
theorem lg224_0 : kAll "DoorPaintsModel" "luck" cG224_0 := kOK_of (by decide +kernel : kOK "DoorPaintsModel" "luck" cG224_0 [0, 0, 0, 1406, 1093, 0, 0, 0, 1230, 0, 0, 1339, 0, 1407, 0, 0, 0, 0, 1408, 0, 1013, 0, 1015, 0, 1412, 0] = true)
theorem lk224 : kAll "DoorPaintsModel" "luck" cL224 := kAll_app lg224_0 kAll_nil
theorem lg225_0 : kAll "DoorPaintsModel" "findOdds" cG225_0 := kOK_of (by decide +kernel : kOK "DoorPaintsModel" "findOdds" cG225_0 [0, 988, 0, 0, 0, 0, 0, 1013, 0, 0, 1014, 0, 0, 1015, 0, 0, 0, 0, 0, 0, 0, 0, 988, 0, 0, 0, 0, 0, 0, 0, 0, 0, 0, 0, 0, 1206, 0, 0, 0, 0, 0, 0, 1015, 0, 0, 0, 0, 1406, 0, 1015, 0, 0, 0, 0, 0, 0, 0, 0, 0, 0, 0, 0, 0, 0, 0, 0, 0, 1178, 0, 0, 1010] = true)
theorem lg225_1 : kAll "DoorPaintsModel" "findOdds" cG225_1 := kOK_of (by decide +kernel : kOK "DoorPaintsModel" "findOdds" cG225_1 [0, 0, 0, 0, 0, 0, 0, 0, 0, 0, 0, 0, 0, 0, 0, 0, 0, 0, 0, 0, 0, 0, 0, 0, 0, 0, 0, 0, 0, 0, 0, 0, 0, 0, 0, 0, 0, 0, 0, 0, 0, 988, 0, 0, 0, 0, 1319, 0, 0, 0, 0, 1013, 0, 0, 1194, 0, 0, 0, 0, 0, 1013, 0, 0, 1014, 0, 0, 1010, 0, 0, 0, 1014] = true)
theorem lg225_2 : kAll "DoorPaintsModel" "findOdds" cG225_2 := kOK_of (by decide +kernel : kOK "DoorPaintsModel" "findOdds" cG225_2 [0, 0, 0] = true)
theorem lk225 : kAll "DoorPaintsModel" "findOdds" cL225 := kAll_app lg225_0 (kAll_app lg225_1 (kAll_app lg225_2 kAll_nil))
theorem lg226_0 : kAll "DoorPaintsModel" "told" cG226_0 := kOK_of (by decide +kernel : kOK "DoorPaintsModel" "told" cG226_0 [0, 0, 1415, 0, 0, 0, 0, 0, 0, 0, 0, 0, 0, 0] = true)
theorem lk226 : kAll "DoorPaintsModel" "told" cL226 := kAll_app lg226_0 kAll_nil
theorem lg227_0 : kAll "DoorPaintsModel" "common" cG227_0 := kOK_of (by decide +kernel : kOK "DoorPaintsModel" "common" cG227_0 [0, 0, 0, 0, 0, 0, 0, 0, 0, 0, 0, 0, 0, 0, 0, 0, 0, 0, 0] = true)
theorem lk227 : kAll "DoorPaintsModel" "common" cL227 := kAll_app lg227_0 kAll_nil
theorem lg228_0 : kAll "DoorPaintsModel" "mean" cG228_0 := kOK_of (by decide +kernel : kOK "DoorPaintsModel" "mean" cG228_0 [0, 0, 0, 1406, 1093, 0, 0, 1339, 0, 1407, 0, 0, 0, 0, 1408, 0, 1014, 0, 1015, 0, 1412, 0] = true)
theorem lk228 : kAll "DoorPaintsModel" "mean" cL228 := kAll_app lg228_0 kAll_nil
theorem lg229_0 : kAll "DoorPaintsModel" "drift" cG229_0 := kOK_of (by decide +kernel : kOK "DoorPaintsModel" "drift" cG229_0 [0, 0, 0, 1426, 1093, 0, 0, 1339, 0, 0, 0, 0, 991, 0, 0, 992, 0, 0, 0, 0, 0, 0, 1178, 0, 0, 0, 0, 0, 0, 1427, 0, 0, 0, 0, 0, 0, 0, 0, 0, 0, 0, 0, 0, 0, 0, 0, 0, 0, 0, 0, 0, 0, 0, 991, 0, 0, 0, 0, 0, 0, 992, 0, 0, 0, 0, 0, 0, 0, 0, 1319] = true)
theorem lg229_1 : kAll "DoorPaintsModel" "drift" cG229_1 := kOK_of (by decide +kernel : kOK "DoorPaintsModel" "drift" cG229_1 [0, 0, 0, 0, 0, 1280, 0, 0, 1190, 0] = true)
theorem lk229 : kAll "DoorPaintsModel" "drift" cL229 := kAll_app lg229_0 (kAll_app lg229_1 kAll_nil)
theorem lg230_0 : kAll "DoorPaintsModel" "keep" cG230_0 := kOK_of (by decide +kernel : kOK "DoorPaintsModel" "keep" cG230_0 [0, 0, 0, 0, 1093, 0, 0, 0, 0, 990, 0, 0, 1206, 0, 0, 990, 0, 0, 0, 0, 0, 0, 0, 0, 0, 0, 1432, 0, 0] = true)
theorem lk230 : kAll "DoorPaintsModel" "keep" cL230 := kAll_app lg230_0 kAll_nil
theorem lg231_0 : kAll "DoorPaintsModel" "copies" cG231_0 := kOK_of (by decide +kernel : kOK "DoorPaintsModel" "copies" cG231_0 [0, 0, 0, 0, 0, 0, 988, 0, 0, 0, 0, 988, 0, 0, 0, 0, 0, 0, 0, 0] = true)
theorem lk231 : kAll "DoorPaintsModel" "copies" cL231 := kAll_app lg231_0 kAll_nil
theorem lg232_0 : kAll "DoorPaintsModel" "back" cG232_0 := kOK_of (by decide +kernel : kOK "DoorPaintsModel" "back" cG232_0 [0, 0, 0, 0, 1093, 0, 0, 0, 0, 990, 0, 0, 0, 0, 0, 0, 0, 0, 0, 0, 0, 0, 1432, 0, 1178, 0, 1280, 0] = true)
theorem lk232 : kAll "DoorPaintsModel" "back" cL232 := kAll_app lg232_0 kAll_nil
theorem lg233_0 : kAll "DoorPaintsModel" "sheet" cG233_0 := kOK_of (by decide +kernel : kOK "DoorPaintsModel" "sheet" cG233_0 [0, 0, 1444, 0, 0, 0, 0, 0, 0, 0, 0, 0, 0, 0, 1016, 0, 0, 0, 0, 1017, 0, 0, 0, 0, 0, 0, 0, 0, 0, 1018, 0, 0, 0, 0, 0, 0, 0, 0, 0, 0, 0] = true)
theorem lk233 : kAll "DoorPaintsModel" "sheet" cL233 := kAll_app lg233_0 kAll_nil
theorem lg234_0 : kAll "DoorPaintsModel" "isSheet" cG234_0 := kOK_of (by decide +kernel : kOK "DoorPaintsModel" "isSheet" cG234_0 [0, 0, 0, 1165, 1093, 0, 0, 0, 0, 1271, 1093, 0, 0, 0, 0, 0] = true)
theorem lk234 : kAll "DoorPaintsModel" "isSheet" cL234 := kAll_app lg234_0 kAll_nil
theorem lg235_0 : kAll "DoorPaintsModel" "lay" cG235_0 := kOK_of (by decide +kernel : kOK "DoorPaintsModel" "lay" cG235_0 [0, 0, 1444, 0, 0, 0, 0, 1016, 0, 0, 0, 0, 0, 0, 0, 0, 0, 0, 1017, 0, 0, 0, 0, 0, 1093, 0, 0, 0, 0, 1018, 0, 0, 0, 0, 0, 0, 1016, 0, 0, 0, 0, 0, 0, 0, 1016, 0, 0, 0, 0, 0, 0, 0, 0, 0, 0, 0] = true)
theorem lk235 : kAll "DoorPaintsModel" "lay" cL235 := kAll_app lg235_0 kAll_nil
theorem lg236_0 : kAll "DoorPaintsModel" "read" cG236_0 := kOK_of (by decide +kernel : kOK "DoorPaintsModel" "read" cG236_0 [0, 0, 1444, 0, 0, 0, 0, 1455, 1093, 0, 0, 0, 0, 0, 0, 0, 0, 0, 1020, 0, 0, 988, 0, 0, 0, 0, 0, 0, 0, 0, 0, 0, 0, 0, 0, 0, 0, 0, 0, 0, 0, 0, 0, 0, 0, 0, 0, 0, 0, 0, 0, 0, 0, 0, 0, 0, 0, 1016, 0, 0, 0, 0, 0, 0, 0, 1016, 0, 0, 0, 0, 0] = true)
theorem lg236_1 : kAll "DoorPaintsModel" "read" cG236_1 := kOK_of (by decide +kernel : kOK "DoorPaintsModel" "read" cG236_1 [0, 0, 0, 0, 0, 0, 0, 1017, 0, 0, 0, 0, 0, 0, 0, 0, 0, 0, 0, 0, 0, 0, 0, 0, 0, 0, 0, 0, 0, 0, 0, 0, 0, 1018, 0, 0, 0, 1018, 0, 0, 0, 0, 1456, 0, 0, 0, 0, 0, 0, 0, 0, 0, 0, 0, 0, 988, 0, 0, 1020, 0, 0, 0, 0, 0, 0, 0, 0, 0, 0, 0] = true)
theorem lg236_2 : kAll "DoorPaintsModel" "read" cG236_2 := kOK_of (by decide +kernel : kOK "DoorPaintsModel" "read" cG236_2 [0, 0, 0, 1019, 0, 0] = true)
theorem lk236 : kAll "DoorPaintsModel" "read" cL236 := kAll_app lg236_0 (kAll_app lg236_1 (kAll_app lg236_2 kAll_nil))
theorem lg237_0 : kAll "DoorPaintsModel" "torn" cG237_0 := kOK_of (by decide +kernel : kOK "DoorPaintsModel" "torn" cG237_0 [0, 1019, 0] = true)
theorem lk237 : kAll "DoorPaintsModel" "torn" cL237 := kAll_app lg237_0 kAll_nil
theorem lg238_0 : kAll "DoorPaintsModel" "count" cG238_0 := kOK_of (by decide +kernel : kOK "DoorPaintsModel" "count" cG238_0 [0, 1178, 0, 0, 0, 1280, 0, 0, 988, 0, 0, 0, 0, 990, 0, 0, 1206, 0, 990, 0, 0, 1206, 0, 0, 0, 1001, 0, 0, 1016, 0, 0, 0, 0, 0, 0, 0, 1017, 0, 0, 0, 0, 0] = true)
theorem lk238 : kAll "DoorPaintsModel" "count" cL238 := kAll_app lg238_0 kAll_nil
