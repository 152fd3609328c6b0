/-! NODES, 19 -/
set_option maxRecDepth 100000 in
theorem ck193 : n_chk tGam tSets tRoles tFty tMT tA 5000 nd193 = true := by decide +kernel
set_option maxRecDepth 100000 in
theorem ck194 : n_chk tGam tSets tRoles tFty tMT tA 5000 nd194 = true := by decide +kernel
set_option maxRecDepth 100000 in
theorem ck195 : n_chk tGam tSets tRoles tFty tMT tA 5000 nd195 = true := by decide +kernel
set_option maxRecDepth 100000 in
theorem ck196 : n_chk tGam tSets tRoles tFty tMT tA 5000 nd196 = true := by decide +kernel
set_option maxRecDepth 100000 in
theorem ck197 : n_chk tGam tSets tRoles tFty tMT tA 5000 nd197 = true := by decide +kernel
set_option maxRecDepth 100000 in
theorem ck198 : n_chk tGam tSets tRoles tFty tMT tA 5000 nd198 = true := by decide +kernel
set_option maxRecDepth 100000 in
theorem ck199 : n_chk tGam tSets tRoles tFty tMT tA 5000 nd199 = true := by decide +kernel
set_option maxRecDepth 100000 in
theorem ck200 : n_chk tGam tSets tRoles tFty tMT tA 5000 nd200 = true := by decide +kernel
set_option maxRecDepth 100000 in
theorem ck201 : n_chk tGam tSets tRoles tFty tMT tA 5000 nd201 = true := by decide +kernel
set_option maxRecDepth 100000 in
theorem ck202 : n_chk tGam tSets tRoles tFty tMT tA 5000 nd202 = true := by decide +kernel
set_option maxRecDepth 100000 in
theorem ck203 : n_chk tGam tSets tRoles tFty tMT tA 5000 nd203 = true := by decide +kernel
set_option maxRecDepth 100000 in
theorem ck204 : n_chk tGam tSets tRoles tFty tMT tA 5000 nd204 = true := by decide +kernel
set_option maxRecDepth 100000 in
theorem ck205 : n_chk tGam tSets tRoles tFty tMT tA 5000 nd205 = true := by decide +kernel
