/-! NODES, 23 -/
set_option maxRecDepth 100000 in
theorem ck216 : n_chk tGam tSets tRoles tFty tMT tA 5000 nd216 = true := by decide +kernel
