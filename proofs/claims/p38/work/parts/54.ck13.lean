/-! NODES, 13 -/
set_option maxRecDepth 100000 in
theorem ck170 : n_chk tGam tSets tRoles tFty tMT tAt tAn 5000 nd170 = true := by decide +kernel
set_option maxRecDepth 100000 in
theorem ck171 : n_chk tGam tSets tRoles tFty tMT tAt tAn 5000 nd171 = true := by decide +kernel
set_option maxRecDepth 100000 in
theorem ck172 : n_chk tGam tSets tRoles tFty tMT tAt tAn 5000 nd172 = true := by decide +kernel
set_option maxRecDepth 100000 in
theorem ck173 : n_chk tGam tSets tRoles tFty tMT tAt tAn 5000 nd173 = true := by decide +kernel
set_option maxRecDepth 100000 in
theorem ck174 : n_chk tGam tSets tRoles tFty tMT tAt tAn 5000 nd174 = true := by decide +kernel
set_option maxRecDepth 100000 in
theorem ck175 : n_chk tGam tSets tRoles tFty tMT tAt tAn 5000 nd175 = true := by decide +kernel
set_option maxRecDepth 100000 in
theorem ck176 : n_chk tGam tSets tRoles tFty tMT tAt tAn 5000 nd176 = true := by decide +kernel
set_option maxRecDepth 100000 in
theorem ck177 : n_chk tGam tSets tRoles tFty tMT tAt tAn 5000 nd177 = true := by decide +kernel
set_option maxRecDepth 100000 in
theorem ck178 : n_chk tGam tSets tRoles tFty tMT tAt tAn 5000 nd178 = true := by decide +kernel
set_option maxRecDepth 100000 in
theorem ck179 : n_chk tGam tSets tRoles tFty tMT tAt tAn 5000 nd179 = true := by decide +kernel
set_option maxRecDepth 100000 in
theorem ck180 : n_chk tGam tSets tRoles tFty tMT tAt tAn 5000 nd180 = true := by decide +kernel
set_option maxRecDepth 100000 in
theorem ck181 : n_chk tGam tSets tRoles tFty tMT tAt tAn 5000 nd181 = true := by decide +kernel
set_option maxRecDepth 100000 in
theorem ck182 : n_chk tGam tSets tRoles tFty tMT tAt tAn 5000 nd182 = true := by decide +kernel
set_option maxRecDepth 100000 in
theorem ck183 : n_chk tGam tSets tRoles tFty tMT tAt tAn 5000 nd183 = true := by decide +kernel
set_option maxRecDepth 100000 in
theorem ck184 : n_chk tGam tSets tRoles tFty tMT tAt tAn 5000 nd184 = true := by decide +kernel
set_option maxRecDepth 100000 in
theorem ck185 : n_chk tGam tSets tRoles tFty tMT tAt tAn 5000 nd185 = true := by decide +kernel
