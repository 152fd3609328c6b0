/-! NODES, 11 -/
set_option maxRecDepth 100000 in
theorem ck100 : n_chk tGam tSets tRoles tFty tMT tA 5000 nd100 = true := by decide +kernel
