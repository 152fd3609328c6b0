/-! NODES, 16 -/
set_option maxRecDepth 100000 in
theorem ck201 : n_chk tGam tSets tRoles tFty tMT tAt tAn 5000 nd201 = true := by decide +kernel
set_option maxRecDepth 100000 in
theorem ck202 : n_chk tGam tSets tRoles tFty tMT tAt tAn 5000 nd202 = true := by decide +kernel
set_option maxRecDepth 100000 in
theorem ck203 : n_chk tGam tSets tRoles tFty tMT tAt tAn 5000 nd203 = true := by decide +kernel
set_option maxRecDepth 100000 in
theorem ck204 : n_chk tGam tSets tRoles tFty tMT tAt tAn 5000 nd204 = true := by decide +kernel
set_option maxRecDepth 100000 in
theorem ck205 : n_chk tGam tSets tRoles tFty tMT tAt tAn 5000 nd205 = true := by decide +kernel
set_option maxRecDepth 100000 in
theorem ck206 : n_chk tGam tSets tRoles tFty tMT tAt tAn 5000 nd206 = true := by decide +kernel
set_option maxRecDepth 100000 in
theorem ck207 : n_chk tGam tSets tRoles tFty tMT tAt tAn 5000 nd207 = true := by decide +kernel
set_option maxRecDepth 100000 in
theorem ck208 : n_chk tGam tSets tRoles tFty tMT tAt tAn 5000 nd208 = true := by decide +kernel
set_option maxRecDepth 100000 in
theorem ck209 : n_chk tGam tSets tRoles tFty tMT tAt tAn 5000 nd209 = true := by decide +kernel
set_option maxRecDepth 100000 in
theorem ck210 : n_chk tGam tSets tRoles tFty tMT tAt tAn 5000 nd210 = true := by decide +kernel
set_option maxRecDepth 100000 in
theorem ck211 : n_chk tGam tSets tRoles tFty tMT tAt tAn 5000 nd211 = true := by decide +kernel
set_option maxRecDepth 100000 in
theorem ck212 : n_chk tGam tSets tRoles tFty tMT tAt tAn 5000 nd212 = true := by decide +kernel
set_option maxRecDepth 100000 in
theorem ck213 : n_chk tGam tSets tRoles tFty tMT tAt tAn 5000 nd213 = true := by decide +kernel
set_option maxRecDepth 100000 in
theorem ck214 : n_chk tGam tSets tRoles tFty tMT tAt tAn 5000 nd214 = true := by decide +kernel
set_option maxRecDepth 100000 in
theorem ck215 : n_chk tGam tSets tRoles tFty tMT tAt tAn 5000 nd215 = true := by decide +kernel
set_option maxRecDepth 100000 in
theorem ck216 : n_chk tGam tSets tRoles tFty tMT tAt tAn 5000 nd216 = true := by decide +kernel
set_option maxRecDepth 100000 in
theorem ck217 : n_chk tGam tSets tRoles tFty tMT tAt tAn 5000 nd217 = true := by decide +kernel
set_option maxRecDepth 100000 in
theorem ck218 : n_chk tGam tSets tRoles tFty tMT tAt tAn 5000 nd218 = true := by decide +kernel
set_option maxRecDepth 100000 in
theorem ck219 : n_chk tGam tSets tRoles tFty tMT tAt tAn 5000 nd219 = true := by decide +kernel
set_option maxRecDepth 100000 in
theorem ck220 : n_chk tGam tSets tRoles tFty tMT tAt tAn 5000 nd220 = true := by decide +kernel
set_option maxRecDepth 100000 in
theorem ck221 : n_chk tGam tSets tRoles tFty tMT tAt tAn 5000 nd221 = true := by decide +kernel
set_option maxRecDepth 100000 in
theorem ck222 : n_chk tGam tSets tRoles tFty tMT tAt tAn 5000 nd222 = true := by decide +kernel
