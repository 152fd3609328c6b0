/-! NODES, 1 -/
set_option maxRecDepth 100000 in
theorem ck5 : n_chk tGam tSets tRoles tFty tMT tAt tAn 5000 nd5 = true := by decide +kernel
