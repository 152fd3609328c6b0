/-! NODES, 17 -/
set_option maxRecDepth 100000 in
theorem ck188 : n_chk tGam tSets tRoles tFty tMT tAt tAn 5000 nd188 = true := by decide +kernel
