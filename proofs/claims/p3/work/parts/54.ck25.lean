/-! NODES, 25 -/
set_option maxRecDepth 100000 in
theorem ck227 : n_chk tGam tSets tRoles tFty tMT tA 5000 nd227 = true := by decide +kernel
