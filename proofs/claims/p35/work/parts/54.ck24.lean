/-! NODES, 24 -/
set_option maxRecDepth 100000 in
theorem ck222 : n_chk tGam tSets tRoles tFty tMT tAt tAn 5000 nd222 = true := by decide +kernel
set_option maxRecDepth 100000 in
theorem ck223 : n_chk tGam tSets tRoles tFty tMT tAt tAn 5000 nd223 = true := by decide +kernel
set_option maxRecDepth 100000 in
theorem ck224 : n_chk tGam tSets tRoles tFty tMT tAt tAn 5000 nd224 = true := by decide +kernel
set_option maxRecDepth 100000 in
theorem ck225 : n_chk tGam tSets tRoles tFty tMT tAt tAn 5000 nd225 = true := by decide +kernel
set_option maxRecDepth 100000 in
theorem ck226 : n_chk tGam tSets tRoles tFty tMT tAt tAn 5000 nd226 = true := by decide +kernel
