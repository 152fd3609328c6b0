/-! NODES, 22 -/
set_option maxRecDepth 100000 in
theorem ck323 : n_chk tGam tSets tRoles tFty tMT tAt tAn 5000 nd323 = true := by decide +kernel
set_option maxRecDepth 100000 in
theorem ck324 : n_chk tGam tSets tRoles tFty tMT tAt tAn 5000 nd324 = true := by decide +kernel
set_option maxRecDepth 100000 in
theorem ck325 : n_chk tGam tSets tRoles tFty tMT tAt tAn 5000 nd325 = true := by decide +kernel
set_option maxRecDepth 100000 in
theorem ck326 : n_chk tGam tSets tRoles tFty tMT tAt tAn 5000 nd326 = true := by decide +kernel
set_option maxRecDepth 100000 in
theorem ck327 : n_chk tGam tSets tRoles tFty tMT tAt tAn 5000 nd327 = true := by decide +kernel
set_option maxRecDepth 100000 in
theorem ck328 : n_chk tGam tSets tRoles tFty tMT tAt tAn 5000 nd328 = true := by decide +kernel
set_option maxRecDepth 100000 in
theorem ck329 : n_chk tGam tSets tRoles tFty tMT tAt tAn 5000 nd329 = true := by decide +kernel
set_option maxRecDepth 100000 in
theorem ck330 : n_chk tGam tSets tRoles tFty tMT tAt tAn 5000 nd330 = true := by decide +kernel
