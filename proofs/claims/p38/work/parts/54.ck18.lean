/-! NODES, 18 -/
set_option maxRecDepth 100000 in
theorem ck245 : n_chk tGam tSets tRoles tFty tMT tAt tAn 5000 nd245 = true := by decide +kernel
set_option maxRecDepth 100000 in
theorem ck246 : n_chk tGam tSets tRoles tFty tMT tAt tAn 5000 nd246 = true := by decide +kernel
set_option maxRecDepth 100000 in
theorem ck247 : n_chk tGam tSets tRoles tFty tMT tAt tAn 5000 nd247 = true := by decide +kernel
