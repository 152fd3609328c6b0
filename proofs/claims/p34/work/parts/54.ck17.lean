/-! NODES, 17 -/
set_option maxRecDepth 100000 in
theorem ck188 : n_chk tGam tSets tRoles tFty tMT tA 5000 nd188 = true := by decide +kernel
set_option maxRecDepth 100000 in
theorem ck189 : n_chk tGam tSets tRoles tFty tMT tA 5000 nd189 = true := by decide +kernel
