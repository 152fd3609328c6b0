/-! NODES, 19 -/
set_option maxRecDepth 100000 in
theorem ck215 : n_chk tGam tSets tRoles tFty tMT tAt tAn 5000 nd215 = true := by decide +kernel
set_option maxRecDepth 100000 in
theorem ck216 : n_chk tGam tSets tRoles tFty tMT tAt tAn 5000 nd216 = true := by decide +kernel
set_option maxRecDepth 100000 in
theorem ck217 : n_chk tGam tSets tRoles tFty tMT tAt tAn 5000 nd217 = true := by decide +kernel
set_option maxRecDepth 100000 in
theorem ck218 : n_chk tGam tSets tRoles tFty tMT tAt tAn 5000 nd218 = true := by decide +kernel
