/-! NODES, 11 -/
set_option maxRecDepth 100000 in
theorem ck104 : n_chk tGam tSets tRoles tFty tMT tAt tAn 5000 nd104 = true := by decide +kernel
set_option maxRecDepth 100000 in
theorem ck105 : n_chk tGam tSets tRoles tFty tMT tAt tAn 5000 nd105 = true := by decide +kernel
set_option maxRecDepth 100000 in
theorem ck106 : n_chk tGam tSets tRoles tFty tMT tAt tAn 5000 nd106 = true := by decide +kernel
set_option maxRecDepth 100000 in
theorem ck107 : n_chk tGam tSets tRoles tFty tMT tAt tAn 5000 nd107 = true := by decide +kernel
set_option maxRecDepth 100000 in
theorem ck108 : n_chk tGam tSets tRoles tFty tMT tAt tAn 5000 nd108 = true := by decide +kernel
set_option maxRecDepth 100000 in
theorem ck109 : n_chk tGam tSets tRoles tFty tMT tAt tAn 5000 nd109 = true := by decide +kernel
