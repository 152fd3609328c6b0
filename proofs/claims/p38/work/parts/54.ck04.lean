/-! NODES, 4 -/
set_option maxRecDepth 100000 in
theorem ck25 : n_chk tGam tSets tRoles tFty tMT tAt tAn 5000 nd25 = true := by decide +kernel
set_option maxRecDepth 100000 in
theorem ck26 : n_chk tGam tSets tRoles tFty tMT tAt tAn 5000 nd26 = true := by decide +kernel
set_option maxRecDepth 100000 in
theorem ck27 : n_chk tGam tSets tRoles tFty tMT tAt tAn 5000 nd27 = true := by decide +kernel
set_option maxRecDepth 100000 in
theorem ck28 : n_chk tGam tSets tRoles tFty tMT tAt tAn 5000 nd28 = true := by decide +kernel
set_option maxRecDepth 100000 in
theorem ck29 : n_chk tGam tSets tRoles tFty tMT tAt tAn 5000 nd29 = true := by decide +kernel
set_option maxRecDepth 100000 in
theorem ck30 : n_chk tGam tSets tRoles tFty tMT tAt tAn 5000 nd30 = true := by decide +kernel
set_option maxRecDepth 100000 in
theorem ck31 : n_chk tGam tSets tRoles tFty tMT tAt tAn 5000 nd31 = true := by decide +kernel
