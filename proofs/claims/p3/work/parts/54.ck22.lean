/-! NODES, 22 -/
set_option maxRecDepth 100000 in
theorem ck211 : n_chk tGam tSets tRoles tFty tMT tA 5000 nd211 = true := by decide +kernel
