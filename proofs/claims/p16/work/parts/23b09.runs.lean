set_option maxRecDepth 10000000 in
theorem bc_291 : bx_chk yp_P [] 1500 bw_INV bw_PC yp_m141 bk_291 = true := by decide +kernel
set_option maxRecDepth 10000000 in
theorem bc_292 : bx_chk yp_P [bk_300, bk_309, bk_310] 1500 bw_INV bw_PC yp_m67 bk_292 = true := by decide +kernel
set_option maxRecDepth 10000000 in
theorem bc_293 : bx_chk yp_P [bk_86, bk_109, bk_301] 1500 bw_INV bw_PC yp_m67 bk_293 = true := by decide +kernel
set_option maxRecDepth 10000000 in
theorem bc_294 : bx_chk yp_P [bk_168, bk_203, bk_237, bk_279] 1500 bw_INV bw_PC yp_m32 bk_294 = true := by decide +kernel
set_option maxRecDepth 10000000 in
theorem bc_295 : bx_chk yp_P [] 1500 bw_INV bw_PC yp_m40 bk_295 = true := by decide +kernel
set_option maxRecDepth 10000000 in
theorem bc_296 : bx_chk yp_P [bk_266] 1500 bw_INV bw_PC yp_m114 bk_296 = true := by decide +kernel
set_option maxRecDepth 10000000 in
theorem bc_297 : bx_chk yp_P [bk_165, bk_166, bk_168, bk_201, bk_203] 1500 bw_INV bw_PC yp_m33 bk_297 = true := by decide +kernel
set_option maxRecDepth 10000000 in
theorem bc_298 : bx_chk yp_P [bk_168, bk_203, bk_241, bk_295] 1500 bw_INV bw_PC yp_m31 bk_298 = true := by decide +kernel
set_option maxRecDepth 10000000 in
theorem bc_299 : bx_chk yp_P [bk_168, bk_203, bk_237, bk_288] 1500 bw_INV bw_PC yp_m32 bk_299 = true := by decide +kernel
set_option maxRecDepth 10000000 in
theorem bc_300 : bx_chk yp_P [bk_306] 1500 bw_INV bw_PC yp_m68 bk_300 = true := by decide +kernel
set_option maxRecDepth 10000000 in
theorem bc_301 : bx_chk yp_P [bk_307] 1500 bw_INV bw_PC yp_m68 bk_301 = true := by decide +kernel
set_option maxRecDepth 10000000 in
theorem bc_302 : bx_chk yp_P [bk_178, bk_189] 1500 bw_INV bw_PC yp_m192 bk_302 = true := by decide +kernel
set_option maxRecDepth 10000000 in
theorem bc_303 : bx_chk yp_P [bk_168, bk_203, bk_254, bk_295] 1500 bw_INV bw_PC yp_m31 bk_303 = true := by decide +kernel
set_option maxRecDepth 10000000 in
theorem bc_304 : bx_chk yp_P [bk_311] 1500 bw_INV bw_PC yp_m140 bk_304 = true := by decide +kernel
set_option maxRecDepth 10000000 in
theorem bc_305 : bx_chk yp_P [bk_168, bk_203, bk_237, bk_297] 1500 bw_INV bw_PC yp_m32 bk_305 = true := by decide +kernel
set_option maxRecDepth 10000000 in
theorem bc_306 : bx_chk yp_P [] 1500 bw_INV bw_PC yp_m69 bk_306 = true := by decide +kernel
set_option maxRecDepth 10000000 in
theorem bc_307 : bx_chk yp_P [] 1500 bw_INV bw_PC yp_m69 bk_307 = true := by decide +kernel
set_option maxRecDepth 10000000 in
theorem bc_308 : bx_chk yp_P [bk_168, bk_203, bk_269, bk_295] 1500 bw_INV bw_PC yp_m31 bk_308 = true := by decide +kernel
set_option maxRecDepth 10000000 in
theorem bc_309 : bx_chk yp_P [] 1500 bw_INV bw_PC yp_m19 bk_309 = true := by decide +kernel
set_option maxRecDepth 10000000 in
theorem bc_310 : bx_chk yp_P [bk_309] 1500 bw_INV bw_PC yp_m16 bk_310 = true := by decide +kernel
set_option maxRecDepth 10000000 in
theorem bc_311 : bx_chk yp_P [bk_276, bk_291, bk_292, bk_317, bk_329] 1500 bw_INV bw_PC yp_m140 bk_311 = true := by decide +kernel
set_option maxRecDepth 10000000 in
theorem bc_312 : bx_chk yp_P [bk_320, bk_359] 1500 bw_INV bw_PC yp_m229 bk_312 = true := by decide +kernel
