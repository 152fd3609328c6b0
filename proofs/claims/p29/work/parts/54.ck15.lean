/-! NODES, 15 -/
set_option maxRecDepth 100000 in
theorem ck199 : n_chk tGam tSets tRoles tFty tMT tAt tAn 5000 nd199 = true := by decide +kernel
set_option maxRecDepth 100000 in
theorem ck200 : n_chk tGam tSets tRoles tFty tMT tAt tAn 5000 nd200 = true := by decide +kernel
