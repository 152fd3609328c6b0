/-! NODES, 14 -/
set_option maxRecDepth 100000 in
theorem ck186 : n_chk tGam tSets tRoles tFty tMT tAt tAn 5000 nd186 = true := by decide +kernel
set_option maxRecDepth 100000 in
theorem ck187 : n_chk tGam tSets tRoles tFty tMT tAt tAn 5000 nd187 = true := by decide +kernel
set_option maxRecDepth 100000 in
theorem ck188 : n_chk tGam tSets tRoles tFty tMT tAt tAn 5000 nd188 = true := by decide +kernel
set_option maxRecDepth 100000 in
theorem ck189 : n_chk tGam tSets tRoles tFty tMT tAt tAn 5000 nd189 = true := by decide +kernel
set_option maxRecDepth 100000 in
theorem ck190 : n_chk tGam tSets tRoles tFty tMT tAt tAn 5000 nd190 = true := by decide +kernel
set_option maxRecDepth 100000 in
theorem ck191 : n_chk tGam tSets tRoles tFty tMT tAt tAn 5000 nd191 = true := by decide +kernel
set_option maxRecDepth 100000 in
theorem ck192 : n_chk tGam tSets tRoles tFty tMT tAt tAn 5000 nd192 = true := by decide +kernel
set_option maxRecDepth 100000 in
theorem ck193 : n_chk tGam tSets tRoles tFty tMT tAt tAn 5000 nd193 = true := by decide +kernel
set_option maxRecDepth 100000 in
theorem ck194 : n_chk tGam tSets tRoles tFty tMT tAt tAn 5000 nd194 = true := by decide +kernel
set_option maxRecDepth 100000 in
theorem ck195 : n_chk tGam tSets tRoles tFty tMT tAt tAn 5000 nd195 = true := by decide +kernel
set_option maxRecDepth 100000 in
theorem ck196 : n_chk tGam tSets tRoles tFty tMT tAt tAn 5000 nd196 = true := by decide +kernel
set_option maxRecDepth 100000 in
theorem ck197 : n_chk tGam tSets tRoles tFty tMT tAt tAn 5000 nd197 = true := by decide +kernel
set_option maxRecDepth 100000 in
theorem ck198 : n_chk tGam tSets tRoles tFty tMT tAt tAn 5000 nd198 = true := by decide +kernel
set_option maxRecDepth 100000 in
theorem ck199 : n_chk tGam tSets tRoles tFty tMT tAt tAn 5000 nd199 = true := by decide +kernel
set_option maxRecDepth 100000 in
theorem ck200 : n_chk tGam tSets tRoles tFty tMT tAt tAn 5000 nd200 = true := by decide +kernel
set_option maxRecDepth 100000 in
theorem ck201 : n_chk tGam tSets tRoles tFty tMT tAt tAn 5000 nd201 = true := by decide +kernel
set_option maxRecDepth 100000 in
theorem ck202 : n_chk tGam tSets tRoles tFty tMT tAt tAn 5000 nd202 = true := by decide +kernel
set_option maxRecDepth 100000 in
theorem ck203 : n_chk tGam tSets tRoles tFty tMT tAt tAn 5000 nd203 = true := by decide +kernel
set_option maxRecDepth 100000 in
theorem ck204 : n_chk tGam tSets tRoles tFty tMT tAt tAn 5000 nd204 = true := by decide +kernel
set_option maxRecDepth 100000 in
theorem ck205 : n_chk tGam tSets tRoles tFty tMT tAt tAn 5000 nd205 = true := by decide +kernel
set_option maxRecDepth 100000 in
theorem ck206 : n_chk tGam tSets tRoles tFty tMT tAt tAn 5000 nd206 = true := by decide +kernel
set_option maxRecDepth 100000 in
theorem ck207 : n_chk tGam tSets tRoles tFty tMT tAt tAn 5000 nd207 = true := by decide +kernel
set_option maxRecDepth 100000 in
theorem ck208 : n_chk tGam tSets tRoles tFty tMT tAt tAn 5000 nd208 = true := by decide +kernel
set_option maxRecDepth 100000 in
theorem ck209 : n_chk tGam tSets tRoles tFty tMT tAt tAn 5000 nd209 = true := by decide +kernel
set_option maxRecDepth 100000 in
theorem ck210 : n_chk tGam tSets tRoles tFty tMT tAt tAn 5000 nd210 = true := by decide +kernel
