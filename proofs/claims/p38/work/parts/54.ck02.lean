/-! NODES, 2 -/
set_option maxRecDepth 100000 in
theorem ck6 : n_chk tGam tSets tRoles tFty tMT tAt tAn 5000 nd6 = true := by decide +kernel
set_option maxRecDepth 100000 in
theorem ck7 : n_chk tGam tSets tRoles tFty tMT tAt tAn 5000 nd7 = true := by decide +kernel
set_option maxRecDepth 100000 in
theorem ck8 : n_chk tGam tSets tRoles tFty tMT tAt tAn 5000 nd8 = true := by decide +kernel
set_option maxRecDepth 100000 in
theorem ck10 : n_chk tGam tSets tRoles tFty tMT tAt tAn 5000 nd10 = true := by decide +kernel
set_option maxRecDepth 100000 in
theorem ck11 : n_chk tGam tSets tRoles tFty tMT tAt tAn 5000 nd11 = true := by decide +kernel
set_option maxRecDepth 100000 in
theorem ck12 : n_chk tGam tSets tRoles tFty tMT tAt tAn 5000 nd12 = true := by decide +kernel
set_option maxRecDepth 100000 in
theorem ck13 : n_chk tGam tSets tRoles tFty tMT tAt tAn 5000 nd13 = true := by decide +kernel
set_option maxRecDepth 100000 in
theorem ck14 : n_chk tGam tSets tRoles tFty tMT tAt tAn 5000 nd14 = true := by decide +kernel
set_option maxRecDepth 100000 in
theorem ck15 : n_chk tGam tSets tRoles tFty tMT tAt tAn 5000 nd15 = true := by decide +kernel
set_option maxRecDepth 100000 in
theorem ck16 : n_chk tGam tSets tRoles tFty tMT tAt tAn 5000 nd16 = true := by decide +kernel
set_option maxRecDepth 100000 in
theorem ck17 : n_chk tGam tSets tRoles tFty tMT tAt tAn 5000 nd17 = true := by decide +kernel
set_option maxRecDepth 100000 in
theorem ck18 : n_chk tGam tSets tRoles tFty tMT tAt tAn 5000 nd18 = true := by decide +kernel
set_option maxRecDepth 100000 in
theorem ck19 : n_chk tGam tSets tRoles tFty tMT tAt tAn 5000 nd19 = true := by decide +kernel
set_option maxRecDepth 100000 in
theorem ck20 : n_chk tGam tSets tRoles tFty tMT tAt tAn 5000 nd20 = true := by decide +kernel
set_option maxRecDepth 100000 in
theorem ck21 : n_chk tGam tSets tRoles tFty tMT tAt tAn 5000 nd21 = true := by decide +kernel
