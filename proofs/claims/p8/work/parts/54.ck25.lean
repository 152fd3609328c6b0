/-! NODES, 25 -/
set_option maxRecDepth 100000 in
theorem ck242 : n_chk tGam tSets tRoles tFty tMT tAt tAn 5000 nd242 = true := by decide +kernel
set_option maxRecDepth 100000 in
theorem ck243 : n_chk tGam tSets tRoles tFty tMT tAt tAn 5000 nd243 = true := by decide +kernel
set_option maxRecDepth 100000 in
theorem ck244 : n_chk tGam tSets tRoles tFty tMT tAt tAn 5000 nd244 = true := by decide +kernel
set_option maxRecDepth 100000 in
theorem ck245 : n_chk tGam tSets tRoles tFty tMT tAt tAn 5000 nd245 = true := by decide +kernel
set_option maxRecDepth 100000 in
theorem ck246 : n_chk tGam tSets tRoles tFty tMT tAt tAn 5000 nd246 = true := by decide +kernel
set_option maxRecDepth 100000 in
theorem ck247 : n_chk tGam tSets tRoles tFty tMT tAt tAn 5000 nd247 = true := by decide +kernel
set_option maxRecDepth 100000 in
theorem ck248 : n_chk tGam tSets tRoles tFty tMT tAt tAn 5000 nd248 = true := by decide +kernel
set_option maxRecDepth 100000 in
theorem ck249 : n_chk tGam tSets tRoles tFty tMT tAt tAn 5000 nd249 = true := by decide +kernel
set_option maxRecDepth 100000 in
theorem ck250 : n_chk tGam tSets tRoles tFty tMT tAt tAn 5000 nd250 = true := by decide +kernel
set_option maxRecDepth 100000 in
theorem ck251 : n_chk tGam tSets tRoles tFty tMT tAt tAn 5000 nd251 = true := by decide +kernel
set_option maxRecDepth 100000 in
theorem ck252 : n_chk tGam tSets tRoles tFty tMT tAt tAn 5000 nd252 = true := by decide +kernel
set_option maxRecDepth 100000 in
theorem ck253 : n_chk tGam tSets tRoles tFty tMT tAt tAn 5000 nd253 = true := by decide +kernel
set_option maxRecDepth 100000 in
theorem ck254 : n_chk tGam tSets tRoles tFty tMT tAt tAn 5000 nd254 = true := by decide +kernel
set_option maxRecDepth 100000 in
theorem ck255 : n_chk tGam tSets tRoles tFty tMT tAt tAn 5000 nd255 = true := by decide +kernel
set_option maxRecDepth 100000 in
theorem ck256 : n_chk tGam tSets tRoles tFty tMT tAt tAn 5000 nd256 = true := by decide +kernel
set_option maxRecDepth 100000 in
theorem ck257 : n_chk tGam tSets tRoles tFty tMT tAt tAn 5000 nd257 = true := by decide +kernel
set_option maxRecDepth 100000 in
theorem ck258 : n_chk tGam tSets tRoles tFty tMT tAt tAn 5000 nd258 = true := by decide +kernel
set_option maxRecDepth 100000 in
theorem ck259 : n_chk tGam tSets tRoles tFty tMT tAt tAn 5000 nd259 = true := by decide +kernel
set_option maxRecDepth 100000 in
theorem ck260 : n_chk tGam tSets tRoles tFty tMT tAt tAn 5000 nd260 = true := by decide +kernel
set_option maxRecDepth 100000 in
theorem ck261 : n_chk tGam tSets tRoles tFty tMT tAt tAn 5000 nd261 = true := by decide +kernel
set_option maxRecDepth 100000 in
theorem ck262 : n_chk tGam tSets tRoles tFty tMT tAt tAn 5000 nd262 = true := by decide +kernel
set_option maxRecDepth 100000 in
theorem ck263 : n_chk tGam tSets tRoles tFty tMT tAt tAn 5000 nd263 = true := by decide +kernel
set_option maxRecDepth 100000 in
theorem ck264 : n_chk tGam tSets tRoles tFty tMT tAt tAn 5000 nd264 = true := by decide +kernel
set_option maxRecDepth 100000 in
theorem ck265 : n_chk tGam tSets tRoles tFty tMT tAt tAn 5000 nd265 = true := by decide +kernel
set_option maxRecDepth 100000 in
theorem ck266 : n_chk tGam tSets tRoles tFty tMT tAt tAn 5000 nd266 = true := by decide +kernel
set_option maxRecDepth 100000 in
theorem ck267 : n_chk tGam tSets tRoles tFty tMT tAt tAn 5000 nd267 = true := by decide +kernel
set_option maxRecDepth 100000 in
theorem ck268 : n_chk tGam tSets tRoles tFty tMT tAt tAn 5000 nd268 = true := by decide +kernel
set_option maxRecDepth 100000 in
theorem ck269 : n_chk tGam tSets tRoles tFty tMT tAt tAn 5000 nd269 = true := by decide +kernel
set_option maxRecDepth 100000 in
theorem ck270 : n_chk tGam tSets tRoles tFty tMT tAt tAn 5000 nd270 = true := by decide +kernel
set_option maxRecDepth 100000 in
theorem ck271 : n_chk tGam tSets tRoles tFty tMT tAt tAn 5000 nd271 = true := by decide +kernel
set_option maxRecDepth 100000 in
theorem ck272 : n_chk tGam tSets tRoles tFty tMT tAt tAn 5000 nd272 = true := by decide +kernel
set_option maxRecDepth 100000 in
theorem ck273 : n_chk tGam tSets tRoles tFty tMT tAt tAn 5000 nd273 = true := by decide +kernel
set_option maxRecDepth 100000 in
theorem ck274 : n_chk tGam tSets tRoles tFty tMT tAt tAn 5000 nd274 = true := by decide +kernel
set_option maxRecDepth 100000 in
theorem ck275 : n_chk tGam tSets tRoles tFty tMT tAt tAn 5000 nd275 = true := by decide +kernel
set_option maxRecDepth 100000 in
theorem ck276 : n_chk tGam tSets tRoles tFty tMT tAt tAn 5000 nd276 = true := by decide +kernel
set_option maxRecDepth 100000 in
theorem ck277 : n_chk tGam tSets tRoles tFty tMT tAt tAn 5000 nd277 = true := by decide +kernel
set_option maxRecDepth 100000 in
theorem ck278 : n_chk tGam tSets tRoles tFty tMT tAt tAn 5000 nd278 = true := by decide +kernel
set_option maxRecDepth 100000 in
theorem ck279 : n_chk tGam tSets tRoles tFty tMT tAt tAn 5000 nd279 = true := by decide +kernel
set_option maxRecDepth 100000 in
theorem ck280 : n_chk tGam tSets tRoles tFty tMT tAt tAn 5000 nd280 = true := by decide +kernel
set_option maxRecDepth 100000 in
theorem ck281 : n_chk tGam tSets tRoles tFty tMT tAt tAn 5000 nd281 = true := by decide +kernel
set_option maxRecDepth 100000 in
theorem ck282 : n_chk tGam tSets tRoles tFty tMT tAt tAn 5000 nd282 = true := by decide +kernel
set_option maxRecDepth 100000 in
theorem ck283 : n_chk tGam tSets tRoles tFty tMT tAt tAn 5000 nd283 = true := by decide +kernel
set_option maxRecDepth 100000 in
theorem ck284 : n_chk tGam tSets tRoles tFty tMT tAt tAn 5000 nd284 = true := by decide +kernel
