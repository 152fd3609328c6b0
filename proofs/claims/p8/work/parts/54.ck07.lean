/-! NODES, 7 -/
set_option maxRecDepth 100000 in
theorem ck47 : n_chk tGam tSets tRoles tFty tMT tAt tAn 5000 nd47 = true := by decide +kernel
set_option maxRecDepth 100000 in
theorem ck48 : n_chk tGam tSets tRoles tFty tMT tAt tAn 5000 nd48 = true := by decide +kernel
set_option maxRecDepth 100000 in
theorem ck49 : n_chk tGam tSets tRoles tFty tMT tAt tAn 5000 nd49 = true := by decide +kernel
set_option maxRecDepth 100000 in
theorem ck50 : n_chk tGam tSets tRoles tFty tMT tAt tAn 5000 nd50 = true := by decide +kernel
set_option maxRecDepth 100000 in
theorem ck51 : n_chk tGam tSets tRoles tFty tMT tAt tAn 5000 nd51 = true := by decide +kernel
set_option maxRecDepth 100000 in
theorem ck52 : n_chk tGam tSets tRoles tFty tMT tAt tAn 5000 nd52 = true := by decide +kernel
set_option maxRecDepth 100000 in
theorem ck53 : n_chk tGam tSets tRoles tFty tMT tAt tAn 5000 nd53 = true := by decide +kernel
set_option maxRecDepth 100000 in
theorem ck54 : n_chk tGam tSets tRoles tFty tMT tAt tAn 5000 nd54 = true := by decide +kernel
