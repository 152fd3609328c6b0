/-! NODES, 7 -/
set_option maxRecDepth 100000 in
theorem ck49 : n_chk tGam tSets tRoles tFty tMT tAt tAn 5000 nd49 = true := by decide +kernel
set_option maxRecDepth 100000 in
theorem ck50 : n_chk tGam tSets tRoles tFty tMT tAt tAn 5000 nd50 = true := by decide +kernel
set_option maxRecDepth 100000 in
theorem ck51 : n_chk tGam tSets tRoles tFty tMT tAt tAn 5000 nd51 = true := by decide +kernel
set_option maxRecDepth 100000 in
theorem ck52 : n_chk tGam tSets tRoles tFty tMT tAt tAn 5000 nd52 = true := by decide +kernel
set_option maxRecDepth 100000 in
theorem ck53 : n_chk tGam tSets tRoles tFty tMT tAt tAn 5000 nd53 = true := by decide +kernel
set_option maxRecDepth 100000 in
theorem ck54 : n_chk tGam tSets tRoles tFty tMT tAt tAn 5000 nd54 = true := by decide +kernel
set_option maxRecDepth 100000 in
theorem ck55 : n_chk tGam tSets tRoles tFty tMT tAt tAn 5000 nd55 = true := by decide +kernel
set_option maxRecDepth 100000 in
theorem ck56 : n_chk tGam tSets tRoles tFty tMT tAt tAn 5000 nd56 = true := by decide +kernel
set_option maxRecDepth 100000 in
theorem ck57 : n_chk tGam tSets tRoles tFty tMT tAt tAn 5000 nd57 = true := by decide +kernel
set_option maxRecDepth 100000 in
theorem ck58 : n_chk tGam tSets tRoles tFty tMT tAt tAn 5000 nd58 = true := by decide +kernel
set_option maxRecDepth 100000 in
theorem ck59 : n_chk tGam tSets tRoles tFty tMT tAt tAn 5000 nd59 = true := by decide +kernel
set_option maxRecDepth 100000 in
theorem ck60 : n_chk tGam tSets tRoles tFty tMT tAt tAn 5000 nd60 = true := by decide +kernel
set_option maxRecDepth 100000 in
theorem ck61 : n_chk tGam tSets tRoles tFty tMT tAt tAn 5000 nd61 = true := by decide +kernel
set_option maxRecDepth 100000 in
theorem ck62 : n_chk tGam tSets tRoles tFty tMT tAt tAn 5000 nd62 = true := by decide +kernel
set_option maxRecDepth 100000 in
theorem ck63 : n_chk tGam tSets tRoles tFty tMT tAt tAn 5000 nd63 = true := by decide +kernel
set_option maxRecDepth 100000 in
theorem ck64 : n_chk tGam tSets tRoles tFty tMT tAt tAn 5000 nd64 = true := by decide +kernel
