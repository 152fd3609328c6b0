/-! NODES, 12 -/
set_option maxRecDepth 100000 in
theorem ck102 : n_chk tGam tSets tRoles tFty tMT tAt tAn 5000 nd102 = true := by decide +kernel
set_option maxRecDepth 100000 in
theorem ck103 : n_chk tGam tSets tRoles tFty tMT tAt tAn 5000 nd103 = true := by decide +kernel
set_option maxRecDepth 100000 in
theorem ck104 : n_chk tGam tSets tRoles tFty tMT tAt tAn 5000 nd104 = true := by decide +kernel
set_option maxRecDepth 100000 in
theorem ck105 : n_chk tGam tSets tRoles tFty tMT tAt tAn 5000 nd105 = true := by decide +kernel
set_option maxRecDepth 100000 in
theorem ck106 : n_chk tGam tSets tRoles tFty tMT tAt tAn 5000 nd106 = true := by decide +kernel
