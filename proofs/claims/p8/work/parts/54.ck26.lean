/-! NODES, 26 -/
set_option maxRecDepth 100000 in
theorem ck285 : n_chk tGam tSets tRoles tFty tMT tAt tAn 5000 nd285 = true := by decide +kernel
set_option maxRecDepth 100000 in
theorem ck286 : n_chk tGam tSets tRoles tFty tMT tAt tAn 5000 nd286 = true := by decide +kernel
set_option maxRecDepth 100000 in
theorem ck287 : n_chk tGam tSets tRoles tFty tMT tAt tAn 5000 nd287 = true := by decide +kernel
set_option maxRecDepth 100000 in
theorem ck288 : n_chk tGam tSets tRoles tFty tMT tAt tAn 5000 nd288 = true := by decide +kernel
set_option maxRecDepth 100000 in
theorem ck289 : n_chk tGam tSets tRoles tFty tMT tAt tAn 5000 nd289 = true := by decide +kernel
set_option maxRecDepth 100000 in
theorem ck290 : n_chk tGam tSets tRoles tFty tMT tAt tAn 5000 nd290 = true := by decide +kernel
set_option maxRecDepth 100000 in
theorem ck291 : n_chk tGam tSets tRoles tFty tMT tAt tAn 5000 nd291 = true := by decide +kernel
set_option maxRecDepth 100000 in
theorem ck292 : n_chk tGam tSets tRoles tFty tMT tAt tAn 5000 nd292 = true := by decide +kernel
set_option maxRecDepth 100000 in
theorem ck293 : n_chk tGam tSets tRoles tFty tMT tAt tAn 5000 nd293 = true := by decide +kernel
set_option maxRecDepth 100000 in
theorem ck294 : n_chk tGam tSets tRoles tFty tMT tAt tAn 5000 nd294 = true := by decide +kernel
set_option maxRecDepth 100000 in
theorem ck295 : n_chk tGam tSets tRoles tFty tMT tAt tAn 5000 nd295 = true := by decide +kernel
set_option maxRecDepth 100000 in
theorem ck296 : n_chk tGam tSets tRoles tFty tMT tAt tAn 5000 nd296 = true := by decide +kernel
set_option maxRecDepth 100000 in
theorem ck297 : n_chk tGam tSets tRoles tFty tMT tAt tAn 5000 nd297 = true := by decide +kernel
set_option maxRecDepth 100000 in
theorem ck298 : n_chk tGam tSets tRoles tFty tMT tAt tAn 5000 nd298 = true := by decide +kernel
set_option maxRecDepth 100000 in
theorem ck299 : n_chk tGam tSets tRoles tFty tMT tAt tAn 5000 nd299 = true := by decide +kernel
set_option maxRecDepth 100000 in
theorem ck300 : n_chk tGam tSets tRoles tFty tMT tAt tAn 5000 nd300 = true := by decide +kernel
set_option maxRecDepth 100000 in
theorem ck301 : n_chk tGam tSets tRoles tFty tMT tAt tAn 5000 nd301 = true := by decide +kernel
set_option maxRecDepth 100000 in
theorem ck302 : n_chk tGam tSets tRoles tFty tMT tAt tAn 5000 nd302 = true := by decide +kernel
set_option maxRecDepth 100000 in
theorem ck303 : n_chk tGam tSets tRoles tFty tMT tAt tAn 5000 nd303 = true := by decide +kernel
set_option maxRecDepth 100000 in
theorem ck304 : n_chk tGam tSets tRoles tFty tMT tAt tAn 5000 nd304 = true := by decide +kernel
set_option maxRecDepth 100000 in
theorem ck305 : n_chk tGam tSets tRoles tFty tMT tAt tAn 5000 nd305 = true := by decide +kernel
set_option maxRecDepth 100000 in
theorem ck306 : n_chk tGam tSets tRoles tFty tMT tAt tAn 5000 nd306 = true := by decide +kernel
set_option maxRecDepth 100000 in
theorem ck307 : n_chk tGam tSets tRoles tFty tMT tAt tAn 5000 nd307 = true := by decide +kernel
set_option maxRecDepth 100000 in
theorem ck308 : n_chk tGam tSets tRoles tFty tMT tAt tAn 5000 nd308 = true := by decide +kernel
set_option maxRecDepth 100000 in
theorem ck309 : n_chk tGam tSets tRoles tFty tMT tAt tAn 5000 nd309 = true := by decide +kernel
