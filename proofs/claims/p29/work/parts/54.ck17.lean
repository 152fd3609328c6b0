/-! NODES, 17 -/
set_option maxRecDepth 100000 in
theorem ck224 : n_chk tGam tSets tRoles tFty tMT tAt tAn 5000 nd224 = true := by decide +kernel
set_option maxRecDepth 100000 in
theorem ck225 : n_chk tGam tSets tRoles tFty tMT tAt tAn 5000 nd225 = true := by decide +kernel
set_option maxRecDepth 100000 in
theorem ck226 : n_chk tGam tSets tRoles tFty tMT tAt tAn 5000 nd226 = true := by decide +kernel
set_option maxRecDepth 100000 in
theorem ck227 : n_chk tGam tSets tRoles tFty tMT tAt tAn 5000 nd227 = true := by decide +kernel
