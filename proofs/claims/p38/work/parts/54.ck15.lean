/-! NODES, 15 -/
set_option maxRecDepth 100000 in
theorem ck211 : n_chk tGam tSets tRoles tFty tMT tAt tAn 5000 nd211 = true := by decide +kernel
set_option maxRecDepth 100000 in
theorem ck212 : n_chk tGam tSets tRoles tFty tMT tAt tAn 5000 nd212 = true := by decide +kernel
set_option maxRecDepth 100000 in
theorem ck213 : n_chk tGam tSets tRoles tFty tMT tAt tAn 5000 nd213 = true := by decide +kernel
set_option maxRecDepth 100000 in
theorem ck214 : n_chk tGam tSets tRoles tFty tMT tAt tAn 5000 nd214 = true := by decide +kernel
set_option maxRecDepth 100000 in
theorem ck215 : n_chk tGam tSets tRoles tFty tMT tAt tAn 5000 nd215 = true := by decide +kernel
set_option maxRecDepth 100000 in
theorem ck216 : n_chk tGam tSets tRoles tFty tMT tAt tAn 5000 nd216 = true := by decide +kernel
set_option maxRecDepth 100000 in
theorem ck217 : n_chk tGam tSets tRoles tFty tMT tAt tAn 5000 nd217 = true := by decide +kernel
set_option maxRecDepth 100000 in
theorem ck218 : n_chk tGam tSets tRoles tFty tMT tAt tAn 5000 nd218 = true := by decide +kernel
set_option maxRecDepth 100000 in
theorem ck219 : n_chk tGam tSets tRoles tFty tMT tAt tAn 5000 nd219 = true := by decide +kernel
set_option maxRecDepth 100000 in
theorem ck220 : n_chk tGam tSets tRoles tFty tMT tAt tAn 5000 nd220 = true := by decide +kernel
set_option maxRecDepth 100000 in
theorem ck221 : n_chk tGam tSets tRoles tFty tMT tAt tAn 5000 nd221 = true := by decide +kernel
set_option maxRecDepth 100000 in
theorem ck222 : n_chk tGam tSets tRoles tFty tMT tAt tAn 5000 nd222 = true := by decide +kernel
set_option maxRecDepth 100000 in
theorem ck223 : n_chk tGam tSets tRoles tFty tMT tAt tAn 5000 nd223 = true := by decide +kernel
set_option maxRecDepth 100000 in
theorem ck224 : n_chk tGam tSets tRoles tFty tMT tAt tAn 5000 nd224 = true := by decide +kernel
set_option maxRecDepth 100000 in
theorem ck225 : n_chk tGam tSets tRoles tFty tMT tAt tAn 5000 nd225 = true := by decide +kernel
set_option maxRecDepth 100000 in
theorem ck226 : n_chk tGam tSets tRoles tFty tMT tAt tAn 5000 nd226 = true := by decide +kernel
