/-! NODES, 23 -/
set_option maxRecDepth 100000 in
theorem ck216 : n_chk tGam tSets tRoles tFty tMT tAt tAn 5000 nd216 = true := by decide +kernel
set_option maxRecDepth 100000 in
theorem ck217 : n_chk tGam tSets tRoles tFty tMT tAt tAn 5000 nd217 = true := by decide +kernel
set_option maxRecDepth 100000 in
theorem ck218 : n_chk tGam tSets tRoles tFty tMT tAt tAn 5000 nd218 = true := by decide +kernel
set_option maxRecDepth 100000 in
theorem ck219 : n_chk tGam tSets tRoles tFty tMT tAt tAn 5000 nd219 = true := by decide +kernel
set_option maxRecDepth 100000 in
theorem ck220 : n_chk tGam tSets tRoles tFty tMT tAt tAn 5000 nd220 = true := by decide +kernel
set_option maxRecDepth 100000 in
theorem ck221 : n_chk tGam tSets tRoles tFty tMT tAt tAn 5000 nd221 = true := by decide +kernel
