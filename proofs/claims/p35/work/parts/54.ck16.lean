/-! NODES, 16 -/
set_option maxRecDepth 100000 in
theorem ck186 : n_chk tGam tSets tRoles tFty tMT tAt tAn 5000 nd186 = true := by decide +kernel
set_option maxRecDepth 100000 in
theorem ck187 : n_chk tGam tSets tRoles tFty tMT tAt tAn 5000 nd187 = true := by decide +kernel
