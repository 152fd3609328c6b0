/-! NODES, 8 -/
set_option maxRecDepth 100000 in
theorem ck65 : n_chk tGam tSets tRoles tFty tMT tAt tAn 5000 nd65 = true := by decide +kernel
