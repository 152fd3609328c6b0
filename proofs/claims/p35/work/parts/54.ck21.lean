/-! NODES, 21 -/
set_option maxRecDepth 100000 in
theorem ck211 : n_chk tGam tSets tRoles tFty tMT tAt tAn 5000 nd211 = true := by decide +kernel
set_option maxRecDepth 100000 in
theorem ck212 : n_chk tGam tSets tRoles tFty tMT tAt tAn 5000 nd212 = true := by decide +kernel
set_option maxRecDepth 100000 in
theorem ck213 : n_chk tGam tSets tRoles tFty tMT tAt tAn 5000 nd213 = true := by decide +kernel
set_option maxRecDepth 100000 in
theorem ck214 : n_chk tGam tSets tRoles tFty tMT tAt tAn 5000 nd214 = true := by decide +kernel
