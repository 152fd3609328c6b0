/-! NODES, 23 -/
set_option maxRecDepth 100000 in
theorem ck212 : n_chk tGam tSets tRoles tFty tMT tA 5000 nd212 = true := by decide +kernel
set_option maxRecDepth 100000 in
theorem ck213 : n_chk tGam tSets tRoles tFty tMT tA 5000 nd213 = true := by decide +kernel
set_option maxRecDepth 100000 in
theorem ck214 : n_chk tGam tSets tRoles tFty tMT tA 5000 nd214 = true := by decide +kernel
set_option maxRecDepth 100000 in
theorem ck215 : n_chk tGam tSets tRoles tFty tMT tA 5000 nd215 = true := by decide +kernel
set_option maxRecDepth 100000 in
theorem ck216 : n_chk tGam tSets tRoles tFty tMT tA 5000 nd216 = true := by decide +kernel
set_option maxRecDepth 100000 in
theorem ck217 : n_chk tGam tSets tRoles tFty tMT tA 5000 nd217 = true := by decide +kernel
