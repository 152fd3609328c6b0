/-! NODES, 26 -/
set_option maxRecDepth 100000 in
theorem ck232 : n_chk tGam tSets tRoles tFty tMT tAt tAn 5000 nd232 = true := by decide +kernel
