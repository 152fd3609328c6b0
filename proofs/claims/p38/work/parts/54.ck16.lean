/-! NODES, 16 -/
set_option maxRecDepth 100000 in
theorem ck228 : n_chk tGam tSets tRoles tFty tMT tAt tAn 5000 nd228 = true := by decide +kernel
set_option maxRecDepth 100000 in
theorem ck229 : n_chk tGam tSets tRoles tFty tMT tAt tAn 5000 nd229 = true := by decide +kernel
set_option maxRecDepth 100000 in
theorem ck230 : n_chk tGam tSets tRoles tFty tMT tAt tAn 5000 nd230 = true := by decide +kernel
set_option maxRecDepth 100000 in
theorem ck231 : n_chk tGam tSets tRoles tFty tMT tAt tAn 5000 nd231 = true := by decide +kernel
