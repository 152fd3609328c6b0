/-! NODES, 12 -/
set_option maxRecDepth 100000 in
theorem ck140 : n_chk tGam tSets tRoles tFty tMT tAt tAn 5000 nd140 = true := by decide +kernel
set_option maxRecDepth 100000 in
theorem ck141 : n_chk tGam tSets tRoles tFty tMT tAt tAn 5000 nd141 = true := by decide +kernel
set_option maxRecDepth 100000 in
theorem ck142 : n_chk tGam tSets tRoles tFty tMT tAt tAn 5000 nd142 = true := by decide +kernel
set_option maxRecDepth 100000 in
theorem ck143 : n_chk tGam tSets tRoles tFty tMT tAt tAn 5000 nd143 = true := by decide +kernel
set_option maxRecDepth 100000 in
theorem ck144 : n_chk tGam tSets tRoles tFty tMT tAt tAn 5000 nd144 = true := by decide +kernel
set_option maxRecDepth 100000 in
theorem ck145 : n_chk tGam tSets tRoles tFty tMT tAt tAn 5000 nd145 = true := by decide +kernel
set_option maxRecDepth 100000 in
theorem ck146 : n_chk tGam tSets tRoles tFty tMT tAt tAn 5000 nd146 = true := by decide +kernel
set_option maxRecDepth 100000 in
theorem ck147 : n_chk tGam tSets tRoles tFty tMT tAt tAn 5000 nd147 = true := by decide +kernel
set_option maxRecDepth 100000 in
theorem ck148 : n_chk tGam tSets tRoles tFty tMT tAt tAn 5000 nd148 = true := by decide +kernel
set_option maxRecDepth 100000 in
theorem ck149 : n_chk tGam tSets tRoles tFty tMT tAt tAn 5000 nd149 = true := by decide +kernel
set_option maxRecDepth 100000 in
theorem ck150 : n_chk tGam tSets tRoles tFty tMT tAt tAn 5000 nd150 = true := by decide +kernel
set_option maxRecDepth 100000 in
theorem ck151 : n_chk tGam tSets tRoles tFty tMT tAt tAn 5000 nd151 = true := by decide +kernel
set_option maxRecDepth 100000 in
theorem ck152 : n_chk tGam tSets tRoles tFty tMT tAt tAn 5000 nd152 = true := by decide +kernel
set_option maxRecDepth 100000 in
theorem ck153 : n_chk tGam tSets tRoles tFty tMT tAt tAn 5000 nd153 = true := by decide +kernel
set_option maxRecDepth 100000 in
theorem ck154 : n_chk tGam tSets tRoles tFty tMT tAt tAn 5000 nd154 = true := by decide +kernel
set_option maxRecDepth 100000 in
theorem ck155 : n_chk tGam tSets tRoles tFty tMT tAt tAn 5000 nd155 = true := by decide +kernel
set_option maxRecDepth 100000 in
theorem ck156 : n_chk tGam tSets tRoles tFty tMT tAt tAn 5000 nd156 = true := by decide +kernel
set_option maxRecDepth 100000 in
theorem ck157 : n_chk tGam tSets tRoles tFty tMT tAt tAn 5000 nd157 = true := by decide +kernel
set_option maxRecDepth 100000 in
theorem ck158 : n_chk tGam tSets tRoles tFty tMT tAt tAn 5000 nd158 = true := by decide +kernel
set_option maxRecDepth 100000 in
theorem ck159 : n_chk tGam tSets tRoles tFty tMT tAt tAn 5000 nd159 = true := by decide +kernel
set_option maxRecDepth 100000 in
theorem ck160 : n_chk tGam tSets tRoles tFty tMT tAt tAn 5000 nd160 = true := by decide +kernel
set_option maxRecDepth 100000 in
theorem ck161 : n_chk tGam tSets tRoles tFty tMT tAt tAn 5000 nd161 = true := by decide +kernel
set_option maxRecDepth 100000 in
theorem ck162 : n_chk tGam tSets tRoles tFty tMT tAt tAn 5000 nd162 = true := by decide +kernel
set_option maxRecDepth 100000 in
theorem ck163 : n_chk tGam tSets tRoles tFty tMT tAt tAn 5000 nd163 = true := by decide +kernel
set_option maxRecDepth 100000 in
theorem ck164 : n_chk tGam tSets tRoles tFty tMT tAt tAn 5000 nd164 = true := by decide +kernel
set_option maxRecDepth 100000 in
theorem ck165 : n_chk tGam tSets tRoles tFty tMT tAt tAn 5000 nd165 = true := by decide +kernel
set_option maxRecDepth 100000 in
theorem ck166 : n_chk tGam tSets tRoles tFty tMT tAt tAn 5000 nd166 = true := by decide +kernel
set_option maxRecDepth 100000 in
theorem ck167 : n_chk tGam tSets tRoles tFty tMT tAt tAn 5000 nd167 = true := by decide +kernel
set_option maxRecDepth 100000 in
theorem ck168 : n_chk tGam tSets tRoles tFty tMT tAt tAn 5000 nd168 = true := by decide +kernel
set_option maxRecDepth 100000 in
theorem ck169 : n_chk tGam tSets tRoles tFty tMT tAt tAn 5000 nd169 = true := by decide +kernel
