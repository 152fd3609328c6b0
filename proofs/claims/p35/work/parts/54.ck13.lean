/-! NODES, 13 -/
set_option maxRecDepth 100000 in
theorem ck110 : n_chk tGam tSets tRoles tFty tMT tAt tAn 5000 nd110 = true := by decide +kernel
set_option maxRecDepth 100000 in
theorem ck111 : n_chk tGam tSets tRoles tFty tMT tAt tAn 5000 nd111 = true := by decide +kernel
set_option maxRecDepth 100000 in
theorem ck112 : n_chk tGam tSets tRoles tFty tMT tAt tAn 5000 nd112 = true := by decide +kernel
set_option maxRecDepth 100000 in
theorem ck113 : n_chk tGam tSets tRoles tFty tMT tAt tAn 5000 nd113 = true := by decide +kernel
set_option maxRecDepth 100000 in
theorem ck114 : n_chk tGam tSets tRoles tFty tMT tAt tAn 5000 nd114 = true := by decide +kernel
