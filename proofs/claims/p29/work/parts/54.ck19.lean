/-! NODES, 19 -/
set_option maxRecDepth 100000 in
theorem ck241 : n_chk tGam tSets tRoles tFty tMT tAt tAn 5000 nd241 = true := by decide +kernel
set_option maxRecDepth 100000 in
theorem ck242 : n_chk tGam tSets tRoles tFty tMT tAt tAn 5000 nd242 = true := by decide +kernel
set_option maxRecDepth 100000 in
theorem ck243 : n_chk tGam tSets tRoles tFty tMT tAt tAn 5000 nd243 = true := by decide +kernel
set_option maxRecDepth 100000 in
theorem ck244 : n_chk tGam tSets tRoles tFty tMT tAt tAn 5000 nd244 = true := by decide +kernel
set_option maxRecDepth 100000 in
theorem ck245 : n_chk tGam tSets tRoles tFty tMT tAt tAn 5000 nd245 = true := by decide +kernel
set_option maxRecDepth 100000 in
theorem ck246 : n_chk tGam tSets tRoles tFty tMT tAt tAn 5000 nd246 = true := by decide +kernel
set_option maxRecDepth 100000 in
theorem ck247 : n_chk tGam tSets tRoles tFty tMT tAt tAn 5000 nd247 = true := by decide +kernel
set_option maxRecDepth 100000 in
theorem ck248 : n_chk tGam tSets tRoles tFty tMT tAt tAn 5000 nd248 = true := by decide +kernel
