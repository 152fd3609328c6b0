/-! NODES, 10 -/
set_option maxRecDepth 100000 in
theorem ck97 : n_chk tGam tSets tRoles tFty tMT tA 5000 nd97 = true := by decide +kernel
set_option maxRecDepth 100000 in
theorem ck98 : n_chk tGam tSets tRoles tFty tMT tA 5000 nd98 = true := by decide +kernel
set_option maxRecDepth 100000 in
theorem ck99 : n_chk tGam tSets tRoles tFty tMT tA 5000 nd99 = true := by decide +kernel
