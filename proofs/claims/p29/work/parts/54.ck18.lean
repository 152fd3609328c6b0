/-! NODES, 18 -/
set_option maxRecDepth 100000 in
theorem ck228 : n_chk tGam tSets tRoles tFty tMT tAt tAn 5000 nd228 = true := by decide +kernel
set_option maxRecDepth 100000 in
theorem ck229 : n_chk tGam tSets tRoles tFty tMT tAt tAn 5000 nd229 = true := by decide +kernel
set_option maxRecDepth 100000 in
theorem ck230 : n_chk tGam tSets tRoles tFty tMT tAt tAn 5000 nd230 = true := by decide +kernel
set_option maxRecDepth 100000 in
theorem ck231 : n_chk tGam tSets tRoles tFty tMT tAt tAn 5000 nd231 = true := by decide +kernel
set_option maxRecDepth 100000 in
theorem ck232 : n_chk tGam tSets tRoles tFty tMT tAt tAn 5000 nd232 = true := by decide +kernel
set_option maxRecDepth 100000 in
theorem ck233 : n_chk tGam tSets tRoles tFty tMT tAt tAn 5000 nd233 = true := by decide +kernel
set_option maxRecDepth 100000 in
theorem ck234 : n_chk tGam tSets tRoles tFty tMT tAt tAn 5000 nd234 = true := by decide +kernel
set_option maxRecDepth 100000 in
theorem ck235 : n_chk tGam tSets tRoles tFty tMT tAt tAn 5000 nd235 = true := by decide +kernel
set_option maxRecDepth 100000 in
theorem ck236 : n_chk tGam tSets tRoles tFty tMT tAt tAn 5000 nd236 = true := by decide +kernel
set_option maxRecDepth 100000 in
theorem ck237 : n_chk tGam tSets tRoles tFty tMT tAt tAn 5000 nd237 = true := by decide +kernel
set_option maxRecDepth 100000 in
theorem ck238 : n_chk tGam tSets tRoles tFty tMT tAt tAn 5000 nd238 = true := by decide +kernel
set_option maxRecDepth 100000 in
theorem ck239 : n_chk tGam tSets tRoles tFty tMT tAt tAn 5000 nd239 = true := by decide +kernel
set_option maxRecDepth 100000 in
theorem ck240 : n_chk tGam tSets tRoles tFty tMT tAt tAn 5000 nd240 = true := by decide +kernel
