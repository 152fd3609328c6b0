/-! NODES, 14 -/
set_option maxRecDepth 100000 in
theorem ck183 : n_chk tGam tSets tRoles tFty tMT tAt tAn 5000 nd183 = true := by decide +kernel
set_option maxRecDepth 100000 in
theorem ck184 : n_chk tGam tSets tRoles tFty tMT tAt tAn 5000 nd184 = true := by decide +kernel
set_option maxRecDepth 100000 in
theorem ck185 : n_chk tGam tSets tRoles tFty tMT tAt tAn 5000 nd185 = true := by decide +kernel
set_option maxRecDepth 100000 in
theorem ck186 : n_chk tGam tSets tRoles tFty tMT tAt tAn 5000 nd186 = true := by decide +kernel
set_option maxRecDepth 100000 in
theorem ck187 : n_chk tGam tSets tRoles tFty tMT tAt tAn 5000 nd187 = true := by decide +kernel
set_option maxRecDepth 100000 in
theorem ck188 : n_chk tGam tSets tRoles tFty tMT tAt tAn 5000 nd188 = true := by decide +kernel
set_option maxRecDepth 100000 in
theorem ck189 : n_chk tGam tSets tRoles tFty tMT tAt tAn 5000 nd189 = true := by decide +kernel
set_option maxRecDepth 100000 in
theorem ck190 : n_chk tGam tSets tRoles tFty tMT tAt tAn 5000 nd190 = true := by decide +kernel
set_option maxRecDepth 100000 in
theorem ck191 : n_chk tGam tSets tRoles tFty tMT tAt tAn 5000 nd191 = true := by decide +kernel
set_option maxRecDepth 100000 in
theorem ck192 : n_chk tGam tSets tRoles tFty tMT tAt tAn 5000 nd192 = true := by decide +kernel
set_option maxRecDepth 100000 in
theorem ck193 : n_chk tGam tSets tRoles tFty tMT tAt tAn 5000 nd193 = true := by decide +kernel
set_option maxRecDepth 100000 in
theorem ck194 : n_chk tGam tSets tRoles tFty tMT tAt tAn 5000 nd194 = true := by decide +kernel
set_option maxRecDepth 100000 in
theorem ck195 : n_chk tGam tSets tRoles tFty tMT tAt tAn 5000 nd195 = true := by decide +kernel
set_option maxRecDepth 100000 in
theorem ck196 : n_chk tGam tSets tRoles tFty tMT tAt tAn 5000 nd196 = true := by decide +kernel
set_option maxRecDepth 100000 in
theorem ck197 : n_chk tGam tSets tRoles tFty tMT tAt tAn 5000 nd197 = true := by decide +kernel
set_option maxRecDepth 100000 in
theorem ck198 : n_chk tGam tSets tRoles tFty tMT tAt tAn 5000 nd198 = true := by decide +kernel
