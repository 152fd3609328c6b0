/-! NODES, 6 -/
set_option maxRecDepth 100000 in
theorem ck42 : n_chk tGam tSets tRoles tFty tMT tAt tAn 5000 nd42 = true := by decide +kernel
set_option maxRecDepth 100000 in
theorem ck43 : n_chk tGam tSets tRoles tFty tMT tAt tAn 5000 nd43 = true := by decide +kernel
set_option maxRecDepth 100000 in
theorem ck44 : n_chk tGam tSets tRoles tFty tMT tAt tAn 5000 nd44 = true := by decide +kernel
set_option maxRecDepth 100000 in
theorem ck45 : n_chk tGam tSets tRoles tFty tMT tAt tAn 5000 nd45 = true := by decide +kernel
set_option maxRecDepth 100000 in
theorem ck46 : n_chk tGam tSets tRoles tFty tMT tAt tAn 5000 nd46 = true := by decide +kernel
set_option maxRecDepth 100000 in
theorem ck47 : n_chk tGam tSets tRoles tFty tMT tAt tAn 5000 nd47 = true := by decide +kernel
set_option maxRecDepth 100000 in
theorem ck48 : n_chk tGam tSets tRoles tFty tMT tAt tAn 5000 nd48 = true := by decide +kernel
