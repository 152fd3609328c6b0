/-! NODES, 24 -/
set_option maxRecDepth 100000 in
theorem ck241 : n_chk tGam tSets tRoles tFty tMT tAt tAn 5000 nd241 = true := by decide +kernel
