/-! NODES, 17 -/
set_option maxRecDepth 100000 in
theorem ck195 : n_chk tGam tSets tRoles tFty tMT tAt tAn 5000 nd195 = true := by decide +kernel
