set_option maxRecDepth 10000000 in
theorem bc_313 : bx_chk yp_P [bk_178, bk_189] 1500 bw_INV bw_PC yp_m192 bk_313 = true := by decide +kernel
set_option maxRecDepth 10000000 in
theorem bc_314 : bx_chk yp_P [bk_168, bk_203, bk_212, bk_321] 1500 bw_INV bw_PC yp_m42 bk_314 = true := by decide +kernel
set_option maxRecDepth 10000000 in
theorem bc_315 : bx_chk yp_P [bk_168, bk_203, bk_222, bk_321] 1500 bw_INV bw_PC yp_m42 bk_315 = true := by decide +kernel
set_option maxRecDepth 10000000 in
theorem bc_316 : bx_chk yp_P [bk_168, bk_203, bk_281, bk_295] 1500 bw_INV bw_PC yp_m31 bk_316 = true := by decide +kernel
set_option maxRecDepth 10000000 in
theorem bc_317 : bx_chk yp_P [bk_322] 1500 bw_INV bw_PC yp_m140 bk_317 = true := by decide +kernel
set_option maxRecDepth 10000000 in
theorem bc_318 : bx_chk yp_P [bk_168, bk_203, bk_234, bk_321] 1500 bw_INV bw_PC yp_m42 bk_318 = true := by decide +kernel
set_option maxRecDepth 10000000 in
theorem bc_319 : bx_chk yp_P [bk_168, bk_203, bk_289, bk_295] 1500 bw_INV bw_PC yp_m31 bk_319 = true := by decide +kernel
set_option maxRecDepth 10000000 in
theorem bc_320 : bx_chk yp_P [bk_330] 1500 bw_INV bw_PC yp_m231 bk_320 = true := by decide +kernel
set_option maxRecDepth 10000000 in
theorem bc_321 : bx_chk yp_P [] 1500 bw_INV bw_PC yp_m44 bk_321 = true := by decide +kernel
set_option maxRecDepth 10000000 in
theorem bc_322 : bx_chk yp_P [bk_276, bk_291, bk_292, bk_329, bk_331] 1500 bw_INV bw_PC yp_m140 bk_322 = true := by decide +kernel
set_option maxRecDepth 10000000 in
theorem bc_323 : bx_chk yp_P [bk_336] 1500 bw_INV bw_PC yp_m90 bk_323 = true := by decide +kernel
set_option maxRecDepth 10000000 in
theorem bc_324 : bx_chk yp_P [bk_337] 1500 bw_INV bw_PC yp_m86 bk_324 = true := by decide +kernel
set_option maxRecDepth 10000000 in
theorem bc_325 : bx_chk yp_P [bk_338] 1500 bw_INV bw_PC yp_m64 bk_325 = true := by decide +kernel
set_option maxRecDepth 10000000 in
theorem bc_326 : bx_chk yp_P [bk_178, bk_189] 1500 bw_INV bw_PC yp_m192 bk_326 = true := by decide +kernel
set_option maxRecDepth 10000000 in
theorem bc_327 : bx_chk yp_P [bk_339] 1500 bw_INV bw_PC yp_m123 bk_327 = true := by decide +kernel
set_option maxRecDepth 10000000 in
theorem bc_328 : bx_chk yp_P [bk_168, bk_203, bk_244, bk_321] 1500 bw_INV bw_PC yp_m42 bk_328 = true := by decide +kernel
set_option maxRecDepth 10000000 in
theorem bc_329 : bx_chk yp_P [] 1500 bw_INV bw_PC yp_m142 bk_329 = true := by decide +kernel
set_option maxRecDepth 10000000 in
theorem bc_330 : bx_chk yp_P [bk_340] 1500 bw_INV bw_PC yp_m231 bk_330 = true := by decide +kernel
set_option maxRecDepth 10000000 in
theorem bc_331 : bx_chk yp_P [bk_341] 1500 bw_INV bw_PC yp_m140 bk_331 = true := by decide +kernel
set_option maxRecDepth 10000000 in
theorem bc_332 : bx_chk yp_P [bk_130] 1500 bw_INV bw_PC yp_m152 bk_332 = true := by decide +kernel
set_option maxRecDepth 10000000 in
theorem bc_333 : bx_chk yp_P [bk_168, bk_200, bk_203, bk_321] 1500 bw_INV bw_PC yp_m41 bk_333 = true := by decide +kernel
set_option maxRecDepth 10000000 in
theorem bc_334 : bx_chk yp_P [bk_168, bk_203, bk_231, bk_321] 1500 bw_INV bw_PC yp_m41 bk_334 = true := by decide +kernel
set_option maxRecDepth 10000000 in
theorem bc_335 : bx_chk yp_P [bk_168, bk_203, bk_257, bk_321] 1500 bw_INV bw_PC yp_m42 bk_335 = true := by decide +kernel
set_option maxRecDepth 10000000 in
theorem bc_336 : bx_chk yp_P [bk_345] 1500 bw_INV bw_PC yp_m91 bk_336 = true := by decide +kernel
set_option maxRecDepth 10000000 in
theorem bc_337 : bx_chk yp_P [bk_346] 1500 bw_INV bw_PC yp_m87 bk_337 = true := by decide +kernel
set_option maxRecDepth 10000000 in
theorem bc_338 : bx_chk yp_P [] 1500 bw_INV bw_PC yp_m64 bk_338 = true := by decide +kernel
set_option maxRecDepth 10000000 in
theorem bc_339 : bx_chk yp_P [bk_347] 1500 bw_INV bw_PC yp_m125 bk_339 = true := by decide +kernel
set_option maxRecDepth 10000000 in
theorem bc_340 : bx_chk yp_P [bk_99, bk_176] 1500 bw_INV bw_PC yp_m231 bk_340 = true := by decide +kernel
set_option maxRecDepth 10000000 in
theorem bc_341 : bx_chk yp_P [bk_276, bk_291, bk_292, bk_329, bk_348] 1500 bw_INV bw_PC yp_m140 bk_341 = true := by decide +kernel
