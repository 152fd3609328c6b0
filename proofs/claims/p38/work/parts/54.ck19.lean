/-! NODES, 19 -/
set_option maxRecDepth 100000 in
theorem ck248 : n_chk tGam tSets tRoles tFty tMT tAt tAn 5000 nd248 = true := by decide +kernel
set_option maxRecDepth 100000 in
theorem ck249 : n_chk tGam tSets tRoles tFty tMT tAt tAn 5000 nd249 = true := by decide +kernel
set_option maxRecDepth 100000 in
theorem ck250 : n_chk tGam tSets tRoles tFty tMT tAt tAn 5000 nd250 = true := by decide +kernel
set_option maxRecDepth 100000 in
theorem ck251 : n_chk tGam tSets tRoles tFty tMT tAt tAn 5000 nd251 = true := by decide +kernel
set_option maxRecDepth 100000 in
theorem ck252 : n_chk tGam tSets tRoles tFty tMT tAt tAn 5000 nd252 = true := by decide +kernel
set_option maxRecDepth 100000 in
theorem ck253 : n_chk tGam tSets tRoles tFty tMT tAt tAn 5000 nd253 = true := by decide +kernel
