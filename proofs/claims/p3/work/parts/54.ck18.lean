/-! NODES, 18 -/
set_option maxRecDepth 100000 in
theorem ck185 : n_chk tGam tSets tRoles tFty tMT tA 5000 nd185 = true := by decide +kernel
set_option maxRecDepth 100000 in
theorem ck186 : n_chk tGam tSets tRoles tFty tMT tA 5000 nd186 = true := by decide +kernel
set_option maxRecDepth 100000 in
theorem ck187 : n_chk tGam tSets tRoles tFty tMT tA 5000 nd187 = true := by decide +kernel
set_option maxRecDepth 100000 in
theorem ck188 : n_chk tGam tSets tRoles tFty tMT tA 5000 nd188 = true := by decide +kernel
set_option maxRecDepth 100000 in
theorem ck189 : n_chk tGam tSets tRoles tFty tMT tA 5000 nd189 = true := by decide +kernel
set_option maxRecDepth 100000 in
theorem ck190 : n_chk tGam tSets tRoles tFty tMT tA 5000 nd190 = true := by decide +kernel
set_option maxRecDepth 100000 in
theorem ck191 : n_chk tGam tSets tRoles tFty tMT tA 5000 nd191 = true := by decide +kernel
set_option maxRecDepth 100000 in
theorem ck192 : n_chk tGam tSets tRoles tFty tMT tA 5000 nd192 = true := by decide +kernel
