/-! NODES, 5 -/
set_option maxRecDepth 100000 in
theorem ck32 : n_chk tGam tSets tRoles tFty tMT tAt tAn 5000 nd32 = true := by decide +kernel
set_option maxRecDepth 100000 in
theorem ck33 : n_chk tGam tSets tRoles tFty tMT tAt tAn 5000 nd33 = true := by decide +kernel
set_option maxRecDepth 100000 in
theorem ck34 : n_chk tGam tSets tRoles tFty tMT tAt tAn 5000 nd34 = true := by decide +kernel
set_option maxRecDepth 100000 in
theorem ck35 : n_chk tGam tSets tRoles tFty tMT tAt tAn 5000 nd35 = true := by decide +kernel
set_option maxRecDepth 100000 in
theorem ck36 : n_chk tGam tSets tRoles tFty tMT tAt tAn 5000 nd36 = true := by decide +kernel
set_option maxRecDepth 100000 in
theorem ck37 : n_chk tGam tSets tRoles tFty tMT tAt tAn 5000 nd37 = true := by decide +kernel
set_option maxRecDepth 100000 in
theorem ck38 : n_chk tGam tSets tRoles tFty tMT tAt tAn 5000 nd38 = true := by decide +kernel
set_option maxRecDepth 100000 in
theorem ck39 : n_chk tGam tSets tRoles tFty tMT tAt tAn 5000 nd39 = true := by decide +kernel
set_option maxRecDepth 100000 in
theorem ck40 : n_chk tGam tSets tRoles tFty tMT tAt tAn 5000 nd40 = true := by decide +kernel
set_option maxRecDepth 100000 in
theorem ck41 : n_chk tGam tSets tRoles tFty tMT tAt tAn 5000 nd41 = true := by decide +kernel
