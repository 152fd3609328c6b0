/-! NODES, 17 -/
set_option maxRecDepth 100000 in
theorem ck232 : n_chk tGam tSets tRoles tFty tMT tAt tAn 5000 nd232 = true := by decide +kernel
set_option maxRecDepth 100000 in
theorem ck233 : n_chk tGam tSets tRoles tFty tMT tAt tAn 5000 nd233 = true := by decide +kernel
set_option maxRecDepth 100000 in
theorem ck234 : n_chk tGam tSets tRoles tFty tMT tAt tAn 5000 nd234 = true := by decide +kernel
set_option maxRecDepth 100000 in
theorem ck235 : n_chk tGam tSets tRoles tFty tMT tAt tAn 5000 nd235 = true := by decide +kernel
set_option maxRecDepth 100000 in
theorem ck236 : n_chk tGam tSets tRoles tFty tMT tAt tAn 5000 nd236 = true := by decide +kernel
set_option maxRecDepth 100000 in
theorem ck237 : n_chk tGam tSets tRoles tFty tMT tAt tAn 5000 nd237 = true := by decide +kernel
set_option maxRecDepth 100000 in
theorem ck238 : n_chk tGam tSets tRoles tFty tMT tAt tAn 5000 nd238 = true := by decide +kernel
set_option maxRecDepth 100000 in
theorem ck239 : n_chk tGam tSets tRoles tFty tMT tAt tAn 5000 nd239 = true := by decide +kernel
set_option maxRecDepth 100000 in
theorem ck240 : n_chk tGam tSets tRoles tFty tMT tAt tAn 5000 nd240 = true := by decide +kernel
set_option maxRecDepth 100000 in
theorem ck241 : n_chk tGam tSets tRoles tFty tMT tAt tAn 5000 nd241 = true := by decide +kernel
set_option maxRecDepth 100000 in
theorem ck242 : n_chk tGam tSets tRoles tFty tMT tAt tAn 5000 nd242 = true := by decide +kernel
set_option maxRecDepth 100000 in
theorem ck243 : n_chk tGam tSets tRoles tFty tMT tAt tAn 5000 nd243 = true := by decide +kernel
set_option maxRecDepth 100000 in
theorem ck244 : n_chk tGam tSets tRoles tFty tMT tAt tAn 5000 nd244 = true := by decide +kernel
