/-! NODES, 8 -/
set_option maxRecDepth 100000 in
theorem ck64 : n_chk tGam tSets tRoles tFty tMT tA 5000 nd64 = true := by decide +kernel
