/-! NODES, 18 -/
set_option maxRecDepth 100000 in
theorem ck190 : n_chk tGam tSets tRoles tFty tMT tA 5000 nd190 = true := by decide +kernel
