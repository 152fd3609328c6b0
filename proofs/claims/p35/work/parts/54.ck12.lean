/-! NODES, 12 -/
set_option maxRecDepth 100000 in
theorem ck97 : n_chk tGam tSets tRoles tFty tMT tAt tAn 5000 nd97 = true := by decide +kernel
set_option maxRecDepth 100000 in
theorem ck98 : n_chk tGam tSets tRoles tFty tMT tAt tAn 5000 nd98 = true := by decide +kernel
set_option maxRecDepth 100000 in
theorem ck99 : n_chk tGam tSets tRoles tFty tMT tAt tAn 5000 nd99 = true := by decide +kernel
set_option maxRecDepth 100000 in
theorem ck100 : n_chk tGam tSets tRoles tFty tMT tAt tAn 5000 nd100 = true := by decide +kernel
set_option maxRecDepth 100000 in
theorem ck101 : n_chk tGam tSets tRoles tFty tMT tAt tAn 5000 nd101 = true := by decide +kernel
set_option maxRecDepth 100000 in
theorem ck102 : n_chk tGam tSets tRoles tFty tMT tAt tAn 5000 nd102 = true := by decide +kernel
set_option maxRecDepth 100000 in
theorem ck103 : n_chk tGam tSets tRoles tFty tMT tAt tAn 5000 nd103 = true := by decide +kernel
set_option maxRecDepth 100000 in
theorem ck104 : n_chk tGam tSets tRoles tFty tMT tAt tAn 5000 nd104 = true := by decide +kernel
set_option maxRecDepth 100000 in
theorem ck105 : n_chk tGam tSets tRoles tFty tMT tAt tAn 5000 nd105 = true := by decide +kernel
set_option maxRecDepth 100000 in
theorem ck106 : n_chk tGam tSets tRoles tFty tMT tAt tAn 5000 nd106 = true := by decide +kernel
set_option maxRecDepth 100000 in
theorem ck107 : n_chk tGam tSets tRoles tFty tMT tAt tAn 5000 nd107 = true := by decide +kernel
set_option maxRecDepth 100000 in
theorem ck108 : n_chk tGam tSets tRoles tFty tMT tAt tAn 5000 nd108 = true := by decide +kernel
set_option maxRecDepth 100000 in
theorem ck109 : n_chk tGam tSets tRoles tFty tMT tAt tAn 5000 nd109 = true := by decide +kernel
