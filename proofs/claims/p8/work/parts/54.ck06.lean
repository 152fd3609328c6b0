/-! NODES, 6 -/
set_option maxRecDepth 100000 in
theorem ck38 : n_chk tGam tSets tRoles tFty tMT tAt tAn 5000 nd38 = true := by decide +kernel
set_option maxRecDepth 100000 in
theorem ck39 : n_chk tGam tSets tRoles tFty tMT tAt tAn 5000 nd39 = true := by decide +kernel
set_option maxRecDepth 100000 in
theorem ck40 : n_chk tGam tSets tRoles tFty tMT tAt tAn 5000 nd40 = true := by decide +kernel
set_option maxRecDepth 100000 in
theorem ck41 : n_chk tGam tSets tRoles tFty tMT tAt tAn 5000 nd41 = true := by decide +kernel
set_option maxRecDepth 100000 in
theorem ck42 : n_chk tGam tSets tRoles tFty tMT tAt tAn 5000 nd42 = true := by decide +kernel
set_option maxRecDepth 100000 in
theorem ck43 : n_chk tGam tSets tRoles tFty tMT tAt tAn 5000 nd43 = true := by decide +kernel
set_option maxRecDepth 100000 in
theorem ck44 : n_chk tGam tSets tRoles tFty tMT tAt tAn 5000 nd44 = true := by decide +kernel
set_option maxRecDepth 100000 in
theorem ck45 : n_chk tGam tSets tRoles tFty tMT tAt tAn 5000 nd45 = true := by decide +kernel
set_option maxRecDepth 100000 in
theorem ck46 : n_chk tGam tSets tRoles tFty tMT tAt tAn 5000 nd46 = true := by decide +kernel
