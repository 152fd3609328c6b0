/-! NODES, 10 -/
set_option maxRecDepth 100000 in
theorem ck100 : n_chk tGam tSets tRoles tFty tMT tAt tAn 5000 nd100 = true := by decide +kernel
set_option maxRecDepth 100000 in
theorem ck101 : n_chk tGam tSets tRoles tFty tMT tAt tAn 5000 nd101 = true := by decide +kernel
set_option maxRecDepth 100000 in
theorem ck102 : n_chk tGam tSets tRoles tFty tMT tAt tAn 5000 nd102 = true := by decide +kernel
set_option maxRecDepth 100000 in
theorem ck103 : n_chk tGam tSets tRoles tFty tMT tAt tAn 5000 nd103 = true := by decide +kernel
