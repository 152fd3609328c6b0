/-! NODES, 3 -/
set_option maxRecDepth 100000 in
theorem ck22 : n_chk tGam tSets tRoles tFty tMT tAt tAn 5000 nd22 = true := by decide +kernel
set_option maxRecDepth 100000 in
theorem ck23 : n_chk tGam tSets tRoles tFty tMT tAt tAn 5000 nd23 = true := by decide +kernel
set_option maxRecDepth 100000 in
theorem ck24 : n_chk tGam tSets tRoles tFty tMT tAt tAn 5000 nd24 = true := by decide +kernel
