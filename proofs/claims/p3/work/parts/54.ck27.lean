/-! NODES, 27 -/
set_option maxRecDepth 100000 in
theorem ck263 : n_chk tGam tSets tRoles tFty tMT tA 5000 nd263 = true := by decide +kernel
set_option maxRecDepth 100000 in
theorem ck264 : n_chk tGam tSets tRoles tFty tMT tA 5000 nd264 = true := by decide +kernel
set_option maxRecDepth 100000 in
theorem ck265 : n_chk tGam tSets tRoles tFty tMT tA 5000 nd265 = true := by decide +kernel
set_option maxRecDepth 100000 in
theorem ck266 : n_chk tGam tSets tRoles tFty tMT tA 5000 nd266 = true := by decide +kernel
set_option maxRecDepth 100000 in
theorem ck267 : n_chk tGam tSets tRoles tFty tMT tA 5000 nd267 = true := by decide +kernel
set_option maxRecDepth 100000 in
theorem ck268 : n_chk tGam tSets tRoles tFty tMT tA 5000 nd268 = true := by decide +kernel
set_option maxRecDepth 100000 in
theorem ck269 : n_chk tGam tSets tRoles tFty tMT tA 5000 nd269 = true := by decide +kernel
set_option maxRecDepth 100000 in
theorem ck270 : n_chk tGam tSets tRoles tFty tMT tA 5000 nd270 = true := by decide +kernel
set_option maxRecDepth 100000 in
theorem ck271 : n_chk tGam tSets tRoles tFty tMT tA 5000 nd271 = true := by decide +kernel
set_option maxRecDepth 100000 in
theorem ck272 : n_chk tGam tSets tRoles tFty tMT tA 5000 nd272 = true := by decide +kernel
set_option maxRecDepth 100000 in
theorem ck273 : n_chk tGam tSets tRoles tFty tMT tA 5000 nd273 = true := by decide +kernel
set_option maxRecDepth 100000 in
theorem ck274 : n_chk tGam tSets tRoles tFty tMT tA 5000 nd274 = true := by decide +kernel
set_option maxRecDepth 100000 in
theorem ck275 : n_chk tGam tSets tRoles tFty tMT tA 5000 nd275 = true := by decide +kernel
set_option maxRecDepth 100000 in
theorem ck276 : n_chk tGam tSets tRoles tFty tMT tA 5000 nd276 = true := by decide +kernel
set_option maxRecDepth 100000 in
theorem ck277 : n_chk tGam tSets tRoles tFty tMT tA 5000 nd277 = true := by decide +kernel
set_option maxRecDepth 100000 in
theorem ck278 : n_chk tGam tSets tRoles tFty tMT tA 5000 nd278 = true := by decide +kernel
set_option maxRecDepth 100000 in
theorem ck279 : n_chk tGam tSets tRoles tFty tMT tA 5000 nd279 = true := by decide +kernel
set_option maxRecDepth 100000 in
theorem ck280 : n_chk tGam tSets tRoles tFty tMT tA 5000 nd280 = true := by decide +kernel
set_option maxRecDepth 100000 in
theorem ck281 : n_chk tGam tSets tRoles tFty tMT tA 5000 nd281 = true := by decide +kernel
set_option maxRecDepth 100000 in
theorem ck282 : n_chk tGam tSets tRoles tFty tMT tA 5000 nd282 = true := by decide +kernel
set_option maxRecDepth 100000 in
theorem ck283 : n_chk tGam tSets tRoles tFty tMT tA 5000 nd283 = true := by decide +kernel
set_option maxRecDepth 100000 in
theorem ck284 : n_chk tGam tSets tRoles tFty tMT tA 5000 nd284 = true := by decide +kernel
set_option maxRecDepth 100000 in
theorem ck285 : n_chk tGam tSets tRoles tFty tMT tA 5000 nd285 = true := by decide +kernel
set_option maxRecDepth 100000 in
theorem ck286 : n_chk tGam tSets tRoles tFty tMT tA 5000 nd286 = true := by decide +kernel
set_option maxRecDepth 100000 in
theorem ck287 : n_chk tGam tSets tRoles tFty tMT tA 5000 nd287 = true := by decide +kernel
set_option maxRecDepth 100000 in
theorem ck288 : n_chk tGam tSets tRoles tFty tMT tA 5000 nd288 = true := by decide +kernel
set_option maxRecDepth 100000 in
theorem ck289 : n_chk tGam tSets tRoles tFty tMT tA 5000 nd289 = true := by decide +kernel
set_option maxRecDepth 100000 in
theorem ck290 : n_chk tGam tSets tRoles tFty tMT tA 5000 nd290 = true := by decide +kernel
set_option maxRecDepth 100000 in
theorem ck291 : n_chk tGam tSets tRoles tFty tMT tA 5000 nd291 = true := by decide +kernel
set_option maxRecDepth 100000 in
theorem ck292 : n_chk tGam tSets tRoles tFty tMT tA 5000 nd292 = true := by decide +kernel
set_option maxRecDepth 100000 in
theorem ck293 : n_chk tGam tSets tRoles tFty tMT tA 5000 nd293 = true := by decide +kernel
set_option maxRecDepth 100000 in
theorem ck294 : n_chk tGam tSets tRoles tFty tMT tA 5000 nd294 = true := by decide +kernel
set_option maxRecDepth 100000 in
theorem ck295 : n_chk tGam tSets tRoles tFty tMT tA 5000 nd295 = true := by decide +kernel
