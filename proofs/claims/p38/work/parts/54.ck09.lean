/-! NODES, 9 -/
set_option maxRecDepth 100000 in
theorem ck66 : n_chk tGam tSets tRoles tFty tMT tAt tAn 5000 nd66 = true := by decide +kernel
set_option maxRecDepth 100000 in
theorem ck67 : n_chk tGam tSets tRoles tFty tMT tAt tAn 5000 nd67 = true := by decide +kernel
set_option maxRecDepth 100000 in
theorem ck68 : n_chk tGam tSets tRoles tFty tMT tAt tAn 5000 nd68 = true := by decide +kernel
set_option maxRecDepth 100000 in
theorem ck69 : n_chk tGam tSets tRoles tFty tMT tAt tAn 5000 nd69 = true := by decide +kernel
set_option maxRecDepth 100000 in
theorem ck70 : n_chk tGam tSets tRoles tFty tMT tAt tAn 5000 nd70 = true := by decide +kernel
set_option maxRecDepth 100000 in
theorem ck71 : n_chk tGam tSets tRoles tFty tMT tAt tAn 5000 nd71 = true := by decide +kernel
set_option maxRecDepth 100000 in
theorem ck72 : n_chk tGam tSets tRoles tFty tMT tAt tAn 5000 nd72 = true := by decide +kernel
set_option maxRecDepth 100000 in
theorem ck73 : n_chk tGam tSets tRoles tFty tMT tAt tAn 5000 nd73 = true := by decide +kernel
set_option maxRecDepth 100000 in
theorem ck74 : n_chk tGam tSets tRoles tFty tMT tAt tAn 5000 nd74 = true := by decide +kernel
set_option maxRecDepth 100000 in
theorem ck75 : n_chk tGam tSets tRoles tFty tMT tAt tAn 5000 nd75 = true := by decide +kernel
set_option maxRecDepth 100000 in
theorem ck76 : n_chk tGam tSets tRoles tFty tMT tAt tAn 5000 nd76 = true := by decide +kernel
set_option maxRecDepth 100000 in
theorem ck77 : n_chk tGam tSets tRoles tFty tMT tAt tAn 5000 nd77 = true := by decide +kernel
set_option maxRecDepth 100000 in
theorem ck78 : n_chk tGam tSets tRoles tFty tMT tAt tAn 5000 nd78 = true := by decide +kernel
set_option maxRecDepth 100000 in
theorem ck79 : n_chk tGam tSets tRoles tFty tMT tAt tAn 5000 nd79 = true := by decide +kernel
set_option maxRecDepth 100000 in
theorem ck80 : n_chk tGam tSets tRoles tFty tMT tAt tAn 5000 nd80 = true := by decide +kernel
set_option maxRecDepth 100000 in
theorem ck81 : n_chk tGam tSets tRoles tFty tMT tAt tAn 5000 nd81 = true := by decide +kernel
set_option maxRecDepth 100000 in
theorem ck82 : n_chk tGam tSets tRoles tFty tMT tAt tAn 5000 nd82 = true := by decide +kernel
set_option maxRecDepth 100000 in
theorem ck83 : n_chk tGam tSets tRoles tFty tMT tAt tAn 5000 nd83 = true := by decide +kernel
set_option maxRecDepth 100000 in
theorem ck84 : n_chk tGam tSets tRoles tFty tMT tAt tAn 5000 nd84 = true := by decide +kernel
set_option maxRecDepth 100000 in
theorem ck85 : n_chk tGam tSets tRoles tFty tMT tAt tAn 5000 nd85 = true := by decide +kernel
set_option maxRecDepth 100000 in
theorem ck86 : n_chk tGam tSets tRoles tFty tMT tAt tAn 5000 nd86 = true := by decide +kernel
set_option maxRecDepth 100000 in
theorem ck87 : n_chk tGam tSets tRoles tFty tMT tAt tAn 5000 nd87 = true := by decide +kernel
set_option maxRecDepth 100000 in
theorem ck88 : n_chk tGam tSets tRoles tFty tMT tAt tAn 5000 nd88 = true := by decide +kernel
set_option maxRecDepth 100000 in
theorem ck89 : n_chk tGam tSets tRoles tFty tMT tAt tAn 5000 nd89 = true := by decide +kernel
set_option maxRecDepth 100000 in
theorem ck90 : n_chk tGam tSets tRoles tFty tMT tAt tAn 5000 nd90 = true := by decide +kernel
set_option maxRecDepth 100000 in
theorem ck91 : n_chk tGam tSets tRoles tFty tMT tAt tAn 5000 nd91 = true := by decide +kernel
set_option maxRecDepth 100000 in
theorem ck92 : n_chk tGam tSets tRoles tFty tMT tAt tAn 5000 nd92 = true := by decide +kernel
set_option maxRecDepth 100000 in
theorem ck93 : n_chk tGam tSets tRoles tFty tMT tAt tAn 5000 nd93 = true := by decide +kernel
set_option maxRecDepth 100000 in
theorem ck94 : n_chk tGam tSets tRoles tFty tMT tAt tAn 5000 nd94 = true := by decide +kernel
set_option maxRecDepth 100000 in
theorem ck95 : n_chk tGam tSets tRoles tFty tMT tAt tAn 5000 nd95 = true := by decide +kernel
set_option maxRecDepth 100000 in
theorem ck96 : n_chk tGam tSets tRoles tFty tMT tAt tAn 5000 nd96 = true := by decide +kernel
set_option maxRecDepth 100000 in
theorem ck98 : n_chk tGam tSets tRoles tFty tMT tAt tAn 5000 nd98 = true := by decide +kernel
set_option maxRecDepth 100000 in
theorem ck99 : n_chk tGam tSets tRoles tFty tMT tAt tAn 5000 nd99 = true := by decide +kernel
