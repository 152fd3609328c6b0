/-! NODES, 11 -/
set_option maxRecDepth 100000 in
theorem ck104 : n_chk tGam tSets tRoles tFty tMT tAt tAn 5000 nd104 = true := by decide +kernel
set_option maxRecDepth 100000 in
theorem ck105 : n_chk tGam tSets tRoles tFty tMT tAt tAn 5000 nd105 = true := by decide +kernel
set_option maxRecDepth 100000 in
theorem ck106 : n_chk tGam tSets tRoles tFty tMT tAt tAn 5000 nd106 = true := by decide +kernel
set_option maxRecDepth 100000 in
theorem ck107 : n_chk tGam tSets tRoles tFty tMT tAt tAn 5000 nd107 = true := by decide +kernel
set_option maxRecDepth 100000 in
theorem ck108 : n_chk tGam tSets tRoles tFty tMT tAt tAn 5000 nd108 = true := by decide +kernel
set_option maxRecDepth 100000 in
theorem ck109 : n_chk tGam tSets tRoles tFty tMT tAt tAn 5000 nd109 = true := by decide +kernel
set_option maxRecDepth 100000 in
theorem ck110 : n_chk tGam tSets tRoles tFty tMT tAt tAn 5000 nd110 = true := by decide +kernel
set_option maxRecDepth 100000 in
theorem ck111 : n_chk tGam tSets tRoles tFty tMT tAt tAn 5000 nd111 = true := by decide +kernel
set_option maxRecDepth 100000 in
theorem ck112 : n_chk tGam tSets tRoles tFty tMT tAt tAn 5000 nd112 = true := by decide +kernel
set_option maxRecDepth 100000 in
theorem ck113 : n_chk tGam tSets tRoles tFty tMT tAt tAn 5000 nd113 = true := by decide +kernel
set_option maxRecDepth 100000 in
theorem ck114 : n_chk tGam tSets tRoles tFty tMT tAt tAn 5000 nd114 = true := by decide +kernel
set_option maxRecDepth 100000 in
theorem ck115 : n_chk tGam tSets tRoles tFty tMT tAt tAn 5000 nd115 = true := by decide +kernel
set_option maxRecDepth 100000 in
theorem ck116 : n_chk tGam tSets tRoles tFty tMT tAt tAn 5000 nd116 = true := by decide +kernel
set_option maxRecDepth 100000 in
theorem ck117 : n_chk tGam tSets tRoles tFty tMT tAt tAn 5000 nd117 = true := by decide +kernel
set_option maxRecDepth 100000 in
theorem ck118 : n_chk tGam tSets tRoles tFty tMT tAt tAn 5000 nd118 = true := by decide +kernel
set_option maxRecDepth 100000 in
theorem ck119 : n_chk tGam tSets tRoles tFty tMT tAt tAn 5000 nd119 = true := by decide +kernel
set_option maxRecDepth 100000 in
theorem ck120 : n_chk tGam tSets tRoles tFty tMT tAt tAn 5000 nd120 = true := by decide +kernel
set_option maxRecDepth 100000 in
theorem ck121 : n_chk tGam tSets tRoles tFty tMT tAt tAn 5000 nd121 = true := by decide +kernel
set_option maxRecDepth 100000 in
theorem ck122 : n_chk tGam tSets tRoles tFty tMT tAt tAn 5000 nd122 = true := by decide +kernel
set_option maxRecDepth 100000 in
theorem ck123 : n_chk tGam tSets tRoles tFty tMT tAt tAn 5000 nd123 = true := by decide +kernel
set_option maxRecDepth 100000 in
theorem ck124 : n_chk tGam tSets tRoles tFty tMT tAt tAn 5000 nd124 = true := by decide +kernel
set_option maxRecDepth 100000 in
theorem ck125 : n_chk tGam tSets tRoles tFty tMT tAt tAn 5000 nd125 = true := by decide +kernel
set_option maxRecDepth 100000 in
theorem ck126 : n_chk tGam tSets tRoles tFty tMT tAt tAn 5000 nd126 = true := by decide +kernel
set_option maxRecDepth 100000 in
theorem ck127 : n_chk tGam tSets tRoles tFty tMT tAt tAn 5000 nd127 = true := by decide +kernel
set_option maxRecDepth 100000 in
theorem ck128 : n_chk tGam tSets tRoles tFty tMT tAt tAn 5000 nd128 = true := by decide +kernel
set_option maxRecDepth 100000 in
theorem ck129 : n_chk tGam tSets tRoles tFty tMT tAt tAn 5000 nd129 = true := by decide +kernel
set_option maxRecDepth 100000 in
theorem ck130 : n_chk tGam tSets tRoles tFty tMT tAt tAn 5000 nd130 = true := by decide +kernel
set_option maxRecDepth 100000 in
theorem ck131 : n_chk tGam tSets tRoles tFty tMT tAt tAn 5000 nd131 = true := by decide +kernel
set_option maxRecDepth 100000 in
theorem ck132 : n_chk tGam tSets tRoles tFty tMT tAt tAn 5000 nd132 = true := by decide +kernel
set_option maxRecDepth 100000 in
theorem ck133 : n_chk tGam tSets tRoles tFty tMT tAt tAn 5000 nd133 = true := by decide +kernel
set_option maxRecDepth 100000 in
theorem ck134 : n_chk tGam tSets tRoles tFty tMT tAt tAn 5000 nd134 = true := by decide +kernel
set_option maxRecDepth 100000 in
theorem ck135 : n_chk tGam tSets tRoles tFty tMT tAt tAn 5000 nd135 = true := by decide +kernel
set_option maxRecDepth 100000 in
theorem ck136 : n_chk tGam tSets tRoles tFty tMT tAt tAn 5000 nd136 = true := by decide +kernel
set_option maxRecDepth 100000 in
theorem ck137 : n_chk tGam tSets tRoles tFty tMT tAt tAn 5000 nd137 = true := by decide +kernel
set_option maxRecDepth 100000 in
theorem ck138 : n_chk tGam tSets tRoles tFty tMT tAt tAn 5000 nd138 = true := by decide +kernel
set_option maxRecDepth 100000 in
theorem ck139 : n_chk tGam tSets tRoles tFty tMT tAt tAn 5000 nd139 = true := by decide +kernel
