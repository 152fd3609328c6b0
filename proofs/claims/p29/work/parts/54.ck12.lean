/-! NODES, 12 -/
set_option maxRecDepth 100000 in
theorem ck110 : n_chk tGam tSets tRoles tFty tMT tAt tAn 5000 nd110 = true := by decide +kernel
set_option maxRecDepth 100000 in
theorem ck111 : n_chk tGam tSets tRoles tFty tMT tAt tAn 5000 nd111 = true := by decide +kernel
set_option maxRecDepth 100000 in
theorem ck112 : n_chk tGam tSets tRoles tFty tMT tAt tAn 5000 nd112 = true := by decide +kernel
set_option maxRecDepth 100000 in
theorem ck113 : n_chk tGam tSets tRoles tFty tMT tAt tAn 5000 nd113 = true := by decide +kernel
set_option maxRecDepth 100000 in
theorem ck114 : n_chk tGam tSets tRoles tFty tMT tAt tAn 5000 nd114 = true := by decide +kernel
set_option maxRecDepth 100000 in
theorem ck115 : n_chk tGam tSets tRoles tFty tMT tAt tAn 5000 nd115 = true := by decide +kernel
set_option maxRecDepth 100000 in
theorem ck116 : n_chk tGam tSets tRoles tFty tMT tAt tAn 5000 nd116 = true := by decide +kernel
set_option maxRecDepth 100000 in
theorem ck117 : n_chk tGam tSets tRoles tFty tMT tAt tAn 5000 nd117 = true := by decide +kernel
set_option maxRecDepth 100000 in
theorem ck118 : n_chk tGam tSets tRoles tFty tMT tAt tAn 5000 nd118 = true := by decide +kernel
set_option maxRecDepth 100000 in
theorem ck119 : n_chk tGam tSets tRoles tFty tMT tAt tAn 5000 nd119 = true := by decide +kernel
set_option maxRecDepth 100000 in
theorem ck120 : n_chk tGam tSets tRoles tFty tMT tAt tAn 5000 nd120 = true := by decide +kernel
set_option maxRecDepth 100000 in
theorem ck121 : n_chk tGam tSets tRoles tFty tMT tAt tAn 5000 nd121 = true := by decide +kernel
set_option maxRecDepth 100000 in
theorem ck122 : n_chk tGam tSets tRoles tFty tMT tAt tAn 5000 nd122 = true := by decide +kernel
set_option maxRecDepth 100000 in
theorem ck123 : n_chk tGam tSets tRoles tFty tMT tAt tAn 5000 nd123 = true := by decide +kernel
set_option maxRecDepth 100000 in
theorem ck124 : n_chk tGam tSets tRoles tFty tMT tAt tAn 5000 nd124 = true := by decide +kernel
set_option maxRecDepth 100000 in
theorem ck125 : n_chk tGam tSets tRoles tFty tMT tAt tAn 5000 nd125 = true := by decide +kernel
set_option maxRecDepth 100000 in
theorem ck126 : n_chk tGam tSets tRoles tFty tMT tAt tAn 5000 nd126 = true := by decide +kernel
set_option maxRecDepth 100000 in
theorem ck127 : n_chk tGam tSets tRoles tFty tMT tAt tAn 5000 nd127 = true := by decide +kernel
set_option maxRecDepth 100000 in
theorem ck128 : n_chk tGam tSets tRoles tFty tMT tAt tAn 5000 nd128 = true := by decide +kernel
set_option maxRecDepth 100000 in
theorem ck129 : n_chk tGam tSets tRoles tFty tMT tAt tAn 5000 nd129 = true := by decide +kernel
set_option maxRecDepth 100000 in
theorem ck130 : n_chk tGam tSets tRoles tFty tMT tAt tAn 5000 nd130 = true := by decide +kernel
set_option maxRecDepth 100000 in
theorem ck131 : n_chk tGam tSets tRoles tFty tMT tAt tAn 5000 nd131 = true := by decide +kernel
set_option maxRecDepth 100000 in
theorem ck132 : n_chk tGam tSets tRoles tFty tMT tAt tAn 5000 nd132 = true := by decide +kernel
set_option maxRecDepth 100000 in
theorem ck133 : n_chk tGam tSets tRoles tFty tMT tAt tAn 5000 nd133 = true := by decide +kernel
set_option maxRecDepth 100000 in
theorem ck134 : n_chk tGam tSets tRoles tFty tMT tAt tAn 5000 nd134 = true := by decide +kernel
set_option maxRecDepth 100000 in
theorem ck135 : n_chk tGam tSets tRoles tFty tMT tAt tAn 5000 nd135 = true := by decide +kernel
set_option maxRecDepth 100000 in
theorem ck136 : n_chk tGam tSets tRoles tFty tMT tAt tAn 5000 nd136 = true := by decide +kernel
set_option maxRecDepth 100000 in
theorem ck137 : n_chk tGam tSets tRoles tFty tMT tAt tAn 5000 nd137 = true := by decide +kernel
set_option maxRecDepth 100000 in
theorem ck138 : n_chk tGam tSets tRoles tFty tMT tAt tAn 5000 nd138 = true := by decide +kernel
set_option maxRecDepth 100000 in
theorem ck139 : n_chk tGam tSets tRoles tFty tMT tAt tAn 5000 nd139 = true := by decide +kernel
set_option maxRecDepth 100000 in
theorem ck140 : n_chk tGam tSets tRoles tFty tMT tAt tAn 5000 nd140 = true := by decide +kernel
set_option maxRecDepth 100000 in
theorem ck141 : n_chk tGam tSets tRoles tFty tMT tAt tAn 5000 nd141 = true := by decide +kernel
set_option maxRecDepth 100000 in
theorem ck142 : n_chk tGam tSets tRoles tFty tMT tAt tAn 5000 nd142 = true := by decide +kernel
set_option maxRecDepth 100000 in
theorem ck143 : n_chk tGam tSets tRoles tFty tMT tAt tAn 5000 nd143 = true := by decide +kernel
set_option maxRecDepth 100000 in
theorem ck144 : n_chk tGam tSets tRoles tFty tMT tAt tAn 5000 nd144 = true := by decide +kernel
set_option maxRecDepth 100000 in
theorem ck145 : n_chk tGam tSets tRoles tFty tMT tAt tAn 5000 nd145 = true := by decide +kernel
set_option maxRecDepth 100000 in
theorem ck146 : n_chk tGam tSets tRoles tFty tMT tAt tAn 5000 nd146 = true := by decide +kernel
set_option maxRecDepth 100000 in
theorem ck147 : n_chk tGam tSets tRoles tFty tMT tAt tAn 5000 nd147 = true := by decide +kernel
set_option maxRecDepth 100000 in
theorem ck148 : n_chk tGam tSets tRoles tFty tMT tAt tAn 5000 nd148 = true := by decide +kernel
set_option maxRecDepth 100000 in
theorem ck149 : n_chk tGam tSets tRoles tFty tMT tAt tAn 5000 nd149 = true := by decide +kernel
set_option maxRecDepth 100000 in
theorem ck150 : n_chk tGam tSets tRoles tFty tMT tAt tAn 5000 nd150 = true := by decide +kernel
set_option maxRecDepth 100000 in
theorem ck151 : n_chk tGam tSets tRoles tFty tMT tAt tAn 5000 nd151 = true := by decide +kernel
set_option maxRecDepth 100000 in
theorem ck152 : n_chk tGam tSets tRoles tFty tMT tAt tAn 5000 nd152 = true := by decide +kernel
set_option maxRecDepth 100000 in
theorem ck153 : n_chk tGam tSets tRoles tFty tMT tAt tAn 5000 nd153 = true := by decide +kernel
set_option maxRecDepth 100000 in
theorem ck154 : n_chk tGam tSets tRoles tFty tMT tAt tAn 5000 nd154 = true := by decide +kernel
set_option maxRecDepth 100000 in
theorem ck155 : n_chk tGam tSets tRoles tFty tMT tAt tAn 5000 nd155 = true := by decide +kernel
set_option maxRecDepth 100000 in
theorem ck156 : n_chk tGam tSets tRoles tFty tMT tAt tAn 5000 nd156 = true := by decide +kernel
set_option maxRecDepth 100000 in
theorem ck157 : n_chk tGam tSets tRoles tFty tMT tAt tAn 5000 nd157 = true := by decide +kernel
set_option maxRecDepth 100000 in
theorem ck158 : n_chk tGam tSets tRoles tFty tMT tAt tAn 5000 nd158 = true := by decide +kernel
set_option maxRecDepth 100000 in
theorem ck159 : n_chk tGam tSets tRoles tFty tMT tAt tAn 5000 nd159 = true := by decide +kernel
set_option maxRecDepth 100000 in
theorem ck160 : n_chk tGam tSets tRoles tFty tMT tAt tAn 5000 nd160 = true := by decide +kernel
set_option maxRecDepth 100000 in
theorem ck161 : n_chk tGam tSets tRoles tFty tMT tAt tAn 5000 nd161 = true := by decide +kernel
set_option maxRecDepth 100000 in
theorem ck162 : n_chk tGam tSets tRoles tFty tMT tAt tAn 5000 nd162 = true := by decide +kernel
set_option maxRecDepth 100000 in
theorem ck163 : n_chk tGam tSets tRoles tFty tMT tAt tAn 5000 nd163 = true := by decide +kernel
set_option maxRecDepth 100000 in
theorem ck164 : n_chk tGam tSets tRoles tFty tMT tAt tAn 5000 nd164 = true := by decide +kernel
set_option maxRecDepth 100000 in
theorem ck165 : n_chk tGam tSets tRoles tFty tMT tAt tAn 5000 nd165 = true := by decide +kernel
set_option maxRecDepth 100000 in
theorem ck166 : n_chk tGam tSets tRoles tFty tMT tAt tAn 5000 nd166 = true := by decide +kernel
set_option maxRecDepth 100000 in
theorem ck167 : n_chk tGam tSets tRoles tFty tMT tAt tAn 5000 nd167 = true := by decide +kernel
set_option maxRecDepth 100000 in
theorem ck168 : n_chk tGam tSets tRoles tFty tMT tAt tAn 5000 nd168 = true := by decide +kernel
