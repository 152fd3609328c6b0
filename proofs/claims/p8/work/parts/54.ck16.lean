/-! NODES, 16 -/
set_option maxRecDepth 100000 in
theorem ck193 : n_chk tGam tSets tRoles tFty tMT tAt tAn 5000 nd193 = true := by decide +kernel
set_option maxRecDepth 100000 in
theorem ck194 : n_chk tGam tSets tRoles tFty tMT tAt tAn 5000 nd194 = true := by decide +kernel
