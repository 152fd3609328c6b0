/-! NODES, 22 -/
set_option maxRecDepth 100000 in
theorem ck224 : n_chk tGam tSets tRoles tFty tMT tAt tAn 5000 nd224 = true := by decide +kernel
