/-! NODES, 22 -/
set_option maxRecDepth 100000 in
theorem ck215 : n_chk tGam tSets tRoles tFty tMT tAt tAn 5000 nd215 = true := by decide +kernel
