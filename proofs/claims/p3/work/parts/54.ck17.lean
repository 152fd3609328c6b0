/-! NODES, 17 -/
set_option maxRecDepth 100000 in
theorem ck184 : n_chk tGam tSets tRoles tFty tMT tA 5000 nd184 = true := by decide +kernel
