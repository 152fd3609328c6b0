/-! NODES, 20 -/
set_option maxRecDepth 100000 in
theorem ck254 : n_chk tGam tSets tRoles tFty tMT tAt tAn 5000 nd254 = true := by decide +kernel
