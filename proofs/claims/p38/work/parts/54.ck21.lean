/-! NODES, 21 -/
set_option maxRecDepth 100000 in
theorem ck255 : n_chk tGam tSets tRoles tFty tMT tAt tAn 5000 nd255 = true := by decide +kernel
set_option maxRecDepth 100000 in
theorem ck256 : n_chk tGam tSets tRoles tFty tMT tAt tAn 5000 nd256 = true := by decide +kernel
set_option maxRecDepth 100000 in
theorem ck257 : n_chk tGam tSets tRoles tFty tMT tAt tAn 5000 nd257 = true := by decide +kernel
set_option maxRecDepth 100000 in
theorem ck258 : n_chk tGam tSets tRoles tFty tMT tAt tAn 5000 nd258 = true := by decide +kernel
set_option maxRecDepth 100000 in
theorem ck259 : n_chk tGam tSets tRoles tFty tMT tAt tAn 5000 nd259 = true := by decide +kernel
set_option maxRecDepth 100000 in
theorem ck260 : n_chk tGam tSets tRoles tFty tMT tAt tAn 5000 nd260 = true := by decide +kernel
set_option maxRecDepth 100000 in
theorem ck261 : n_chk tGam tSets tRoles tFty tMT tAt tAn 5000 nd261 = true := by decide +kernel
set_option maxRecDepth 100000 in
theorem ck262 : n_chk tGam tSets tRoles tFty tMT tAt tAn 5000 nd262 = true := by decide +kernel
set_option maxRecDepth 100000 in
theorem ck263 : n_chk tGam tSets tRoles tFty tMT tAt tAn 5000 nd263 = true := by decide +kernel
set_option maxRecDepth 100000 in
theorem ck264 : n_chk tGam tSets tRoles tFty tMT tAt tAn 5000 nd264 = true := by decide +kernel
set_option maxRecDepth 100000 in
theorem ck265 : n_chk tGam tSets tRoles tFty tMT tAt tAn 5000 nd265 = true := by decide +kernel
set_option maxRecDepth 100000 in
theorem ck266 : n_chk tGam tSets tRoles tFty tMT tAt tAn 5000 nd266 = true := by decide +kernel
set_option maxRecDepth 100000 in
theorem ck267 : n_chk tGam tSets tRoles tFty tMT tAt tAn 5000 nd267 = true := by decide +kernel
set_option maxRecDepth 100000 in
theorem ck268 : n_chk tGam tSets tRoles tFty tMT tAt tAn 5000 nd268 = true := by decide +kernel
set_option maxRecDepth 100000 in
theorem ck269 : n_chk tGam tSets tRoles tFty tMT tAt tAn 5000 nd269 = true := by decide +kernel
set_option maxRecDepth 100000 in
theorem ck270 : n_chk tGam tSets tRoles tFty tMT tAt tAn 5000 nd270 = true := by decide +kernel
set_option maxRecDepth 100000 in
theorem ck271 : n_chk tGam tSets tRoles tFty tMT tAt tAn 5000 nd271 = true := by decide +kernel
set_option maxRecDepth 100000 in
theorem ck272 : n_chk tGam tSets tRoles tFty tMT tAt tAn 5000 nd272 = true := by decide +kernel
set_option maxRecDepth 100000 in
theorem ck273 : n_chk tGam tSets tRoles tFty tMT tAt tAn 5000 nd273 = true := by decide +kernel
set_option maxRecDepth 100000 in
theorem ck274 : n_chk tGam tSets tRoles tFty tMT tAt tAn 5000 nd274 = true := by decide +kernel
set_option maxRecDepth 100000 in
theorem ck275 : n_chk tGam tSets tRoles tFty tMT tAt tAn 5000 nd275 = true := by decide +kernel
set_option maxRecDepth 100000 in
theorem ck276 : n_chk tGam tSets tRoles tFty tMT tAt tAn 5000 nd276 = true := by decide +kernel
set_option maxRecDepth 100000 in
theorem ck277 : n_chk tGam tSets tRoles tFty tMT tAt tAn 5000 nd277 = true := by decide +kernel
set_option maxRecDepth 100000 in
theorem ck278 : n_chk tGam tSets tRoles tFty tMT tAt tAn 5000 nd278 = true := by decide +kernel
set_option maxRecDepth 100000 in
theorem ck279 : n_chk tGam tSets tRoles tFty tMT tAt tAn 5000 nd279 = true := by decide +kernel
set_option maxRecDepth 100000 in
theorem ck280 : n_chk tGam tSets tRoles tFty tMT tAt tAn 5000 nd280 = true := by decide +kernel
set_option maxRecDepth 100000 in
theorem ck281 : n_chk tGam tSets tRoles tFty tMT tAt tAn 5000 nd281 = true := by decide +kernel
set_option maxRecDepth 100000 in
theorem ck282 : n_chk tGam tSets tRoles tFty tMT tAt tAn 5000 nd282 = true := by decide +kernel
set_option maxRecDepth 100000 in
theorem ck283 : n_chk tGam tSets tRoles tFty tMT tAt tAn 5000 nd283 = true := by decide +kernel
set_option maxRecDepth 100000 in
theorem ck284 : n_chk tGam tSets tRoles tFty tMT tAt tAn 5000 nd284 = true := by decide +kernel
set_option maxRecDepth 100000 in
theorem ck285 : n_chk tGam tSets tRoles tFty tMT tAt tAn 5000 nd285 = true := by decide +kernel
set_option maxRecDepth 100000 in
theorem ck286 : n_chk tGam tSets tRoles tFty tMT tAt tAn 5000 nd286 = true := by decide +kernel
set_option maxRecDepth 100000 in
theorem ck287 : n_chk tGam tSets tRoles tFty tMT tAt tAn 5000 nd287 = true := by decide +kernel
set_option maxRecDepth 100000 in
theorem ck288 : n_chk tGam tSets tRoles tFty tMT tAt tAn 5000 nd288 = true := by decide +kernel
set_option maxRecDepth 100000 in
theorem ck289 : n_chk tGam tSets tRoles tFty tMT tAt tAn 5000 nd289 = true := by decide +kernel
set_option maxRecDepth 100000 in
theorem ck290 : n_chk tGam tSets tRoles tFty tMT tAt tAn 5000 nd290 = true := by decide +kernel
set_option maxRecDepth 100000 in
theorem ck291 : n_chk tGam tSets tRoles tFty tMT tAt tAn 5000 nd291 = true := by decide +kernel
set_option maxRecDepth 100000 in
theorem ck292 : n_chk tGam tSets tRoles tFty tMT tAt tAn 5000 nd292 = true := by decide +kernel
set_option maxRecDepth 100000 in
theorem ck293 : n_chk tGam tSets tRoles tFty tMT tAt tAn 5000 nd293 = true := by decide +kernel
set_option maxRecDepth 100000 in
theorem ck294 : n_chk tGam tSets tRoles tFty tMT tAt tAn 5000 nd294 = true := by decide +kernel
set_option maxRecDepth 100000 in
theorem ck295 : n_chk tGam tSets tRoles tFty tMT tAt tAn 5000 nd295 = true := by decide +kernel
set_option maxRecDepth 100000 in
theorem ck296 : n_chk tGam tSets tRoles tFty tMT tAt tAn 5000 nd296 = true := by decide +kernel
set_option maxRecDepth 100000 in
theorem ck297 : n_chk tGam tSets tRoles tFty tMT tAt tAn 5000 nd297 = true := by decide +kernel
set_option maxRecDepth 100000 in
theorem ck298 : n_chk tGam tSets tRoles tFty tMT tAt tAn 5000 nd298 = true := by decide +kernel
set_option maxRecDepth 100000 in
theorem ck299 : n_chk tGam tSets tRoles tFty tMT tAt tAn 5000 nd299 = true := by decide +kernel
set_option maxRecDepth 100000 in
theorem ck300 : n_chk tGam tSets tRoles tFty tMT tAt tAn 5000 nd300 = true := by decide +kernel
set_option maxRecDepth 100000 in
theorem ck301 : n_chk tGam tSets tRoles tFty tMT tAt tAn 5000 nd301 = true := by decide +kernel
set_option maxRecDepth 100000 in
theorem ck302 : n_chk tGam tSets tRoles tFty tMT tAt tAn 5000 nd302 = true := by decide +kernel
set_option maxRecDepth 100000 in
theorem ck303 : n_chk tGam tSets tRoles tFty tMT tAt tAn 5000 nd303 = true := by decide +kernel
set_option maxRecDepth 100000 in
theorem ck304 : n_chk tGam tSets tRoles tFty tMT tAt tAn 5000 nd304 = true := by decide +kernel
set_option maxRecDepth 100000 in
theorem ck305 : n_chk tGam tSets tRoles tFty tMT tAt tAn 5000 nd305 = true := by decide +kernel
set_option maxRecDepth 100000 in
theorem ck306 : n_chk tGam tSets tRoles tFty tMT tAt tAn 5000 nd306 = true := by decide +kernel
set_option maxRecDepth 100000 in
theorem ck307 : n_chk tGam tSets tRoles tFty tMT tAt tAn 5000 nd307 = true := by decide +kernel
set_option maxRecDepth 100000 in
theorem ck308 : n_chk tGam tSets tRoles tFty tMT tAt tAn 5000 nd308 = true := by decide +kernel
set_option maxRecDepth 100000 in
theorem ck309 : n_chk tGam tSets tRoles tFty tMT tAt tAn 5000 nd309 = true := by decide +kernel
set_option maxRecDepth 100000 in
theorem ck310 : n_chk tGam tSets tRoles tFty tMT tAt tAn 5000 nd310 = true := by decide +kernel
set_option maxRecDepth 100000 in
theorem ck311 : n_chk tGam tSets tRoles tFty tMT tAt tAn 5000 nd311 = true := by decide +kernel
set_option maxRecDepth 100000 in
theorem ck312 : n_chk tGam tSets tRoles tFty tMT tAt tAn 5000 nd312 = true := by decide +kernel
set_option maxRecDepth 100000 in
theorem ck313 : n_chk tGam tSets tRoles tFty tMT tAt tAn 5000 nd313 = true := by decide +kernel
set_option maxRecDepth 100000 in
theorem ck314 : n_chk tGam tSets tRoles tFty tMT tAt tAn 5000 nd314 = true := by decide +kernel
set_option maxRecDepth 100000 in
theorem ck315 : n_chk tGam tSets tRoles tFty tMT tAt tAn 5000 nd315 = true := by decide +kernel
set_option maxRecDepth 100000 in
theorem ck316 : n_chk tGam tSets tRoles tFty tMT tAt tAn 5000 nd316 = true := by decide +kernel
set_option maxRecDepth 100000 in
theorem ck317 : n_chk tGam tSets tRoles tFty tMT tAt tAn 5000 nd317 = true := by decide +kernel
set_option maxRecDepth 100000 in
theorem ck318 : n_chk tGam tSets tRoles tFty tMT tAt tAn 5000 nd318 = true := by decide +kernel
set_option maxRecDepth 100000 in
theorem ck319 : n_chk tGam tSets tRoles tFty tMT tAt tAn 5000 nd319 = true := by decide +kernel
set_option maxRecDepth 100000 in
theorem ck320 : n_chk tGam tSets tRoles tFty tMT tAt tAn 5000 nd320 = true := by decide +kernel
set_option maxRecDepth 100000 in
theorem ck321 : n_chk tGam tSets tRoles tFty tMT tAt tAn 5000 nd321 = true := by decide +kernel
set_option maxRecDepth 100000 in
theorem ck322 : n_chk tGam tSets tRoles tFty tMT tAt tAn 5000 nd322 = true := by decide +kernel
