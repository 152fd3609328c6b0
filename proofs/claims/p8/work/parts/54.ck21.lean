/-! NODES, 21 -/
set_option maxRecDepth 100000 in
theorem ck220 : n_chk tGam tSets tRoles tFty tMT tAt tAn 5000 nd220 = true := by decide +kernel
set_option maxRecDepth 100000 in
theorem ck221 : n_chk tGam tSets tRoles tFty tMT tAt tAn 5000 nd221 = true := by decide +kernel
set_option maxRecDepth 100000 in
theorem ck222 : n_chk tGam tSets tRoles tFty tMT tAt tAn 5000 nd222 = true := by decide +kernel
set_option maxRecDepth 100000 in
theorem ck223 : n_chk tGam tSets tRoles tFty tMT tAt tAn 5000 nd223 = true := by decide +kernel
