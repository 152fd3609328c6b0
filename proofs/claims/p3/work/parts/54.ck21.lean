/-! NODES, 21 -/
set_option maxRecDepth 100000 in
theorem ck207 : n_chk tGam tSets tRoles tFty tMT tA 5000 nd207 = true := by decide +kernel
set_option maxRecDepth 100000 in
theorem ck208 : n_chk tGam tSets tRoles tFty tMT tA 5000 nd208 = true := by decide +kernel
set_option maxRecDepth 100000 in
theorem ck209 : n_chk tGam tSets tRoles tFty tMT tA 5000 nd209 = true := by decide +kernel
set_option maxRecDepth 100000 in
theorem ck210 : n_chk tGam tSets tRoles tFty tMT tA 5000 nd210 = true := by decide +kernel
