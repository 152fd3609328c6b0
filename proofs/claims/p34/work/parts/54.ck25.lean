/-! NODES, 25 -/
set_option maxRecDepth 100000 in
theorem ck231 : n_chk tGam tSets tRoles tFty tMT tA 5000 nd231 = true := by decide +kernel
