/-! NODES, 3 -/
set_option maxRecDepth 100000 in
theorem ck29 : n_chk tGam tSets tRoles tFty tMT tA 5000 nd29 = true := by decide +kernel
set_option maxRecDepth 100000 in
theorem ck30 : n_chk tGam tSets tRoles tFty tMT tA 5000 nd30 = true := by decide +kernel
set_option maxRecDepth 100000 in
theorem ck31 : n_chk tGam tSets tRoles tFty tMT tA 5000 nd31 = true := by decide +kernel
set_option maxRecDepth 100000 in
theorem ck32 : n_chk tGam tSets tRoles tFty tMT tA 5000 nd32 = true := by decide +kernel
set_option maxRecDepth 100000 in
theorem ck33 : n_chk tGam tSets tRoles tFty tMT tA 5000 nd33 = true := by decide +kernel
set_option maxRecDepth 100000 in
theorem ck34 : n_chk tGam tSets tRoles tFty tMT tA 5000 nd34 = true := by decide +kernel
