/-! NODES, 0 -/
set_option maxRecDepth 100000 in
theorem ck0 : n_chk tGam tSets tRoles tFty tMT tAt tAn 5000 nd0 = true := by decide +kernel
set_option maxRecDepth 100000 in
theorem ck1 : n_chk tGam tSets tRoles tFty tMT tAt tAn 5000 nd1 = true := by decide +kernel
set_option maxRecDepth 100000 in
theorem ck2 : n_chk tGam tSets tRoles tFty tMT tAt tAn 5000 nd2 = true := by decide +kernel
set_option maxRecDepth 100000 in
theorem ck3 : n_chk tGam tSets tRoles tFty tMT tAt tAn 5000 nd3 = true := by decide +kernel
set_option maxRecDepth 100000 in
theorem ck4 : n_chk tGam tSets tRoles tFty tMT tAt tAn 5000 nd4 = true := by decide +kernel
