set_option maxRecDepth 10000000 in
theorem bc_342 : bx_chk yp_P [bk_178, bk_189] 1500 bw_INV bw_PC yp_m192 bk_342 = true := by decide +kernel
set_option maxRecDepth 10000000 in
theorem bc_343 : bx_chk yp_P [bk_168, bk_203, bk_240, bk_321] 1500 bw_INV bw_PC yp_m41 bk_343 = true := by decide +kernel
set_option maxRecDepth 10000000 in
theorem bc_344 : bx_chk yp_P [bk_168, bk_203, bk_272, bk_321] 1500 bw_INV bw_PC yp_m42 bk_344 = true := by decide +kernel
set_option maxRecDepth 10000000 in
theorem bc_345 : bx_chk yp_P [bk_352] 1500 bw_INV bw_PC yp_m91 bk_345 = true := by decide +kernel
set_option maxRecDepth 10000000 in
theorem bc_346 : bx_chk yp_P [bk_352] 1500 bw_INV bw_PC yp_m87 bk_346 = true := by decide +kernel
set_option maxRecDepth 10000000 in
theorem bc_347 : bx_chk yp_P [] 1500 bw_INV bw_PC yp_m125 bk_347 = true := by decide +kernel
set_option maxRecDepth 10000000 in
theorem bc_348 : bx_chk yp_P [bk_353] 1500 bw_INV bw_PC yp_m140 bk_348 = true := by decide +kernel
set_option maxRecDepth 10000000 in
theorem bc_349 : bx_chk yp_P [bk_360] 1500 bw_INV bw_PC yp_m144 bk_349 = true := by decide +kernel
set_option maxRecDepth 10000000 in
theorem bc_350 : bx_chk yp_P [bk_361] 1500 bw_INV bw_PC yp_m136 bk_350 = true := by decide +kernel
set_option maxRecDepth 10000000 in
theorem bc_351 : bx_chk yp_P [bk_168, bk_203, bk_253, bk_321] 1500 bw_INV bw_PC yp_m41 bk_351 = true := by decide +kernel
set_option maxRecDepth 10000000 in
theorem bc_352 : bx_chk yp_P [] 1500 bw_INV bw_PC yp_m88 bk_352 = true := by decide +kernel
set_option maxRecDepth 10000000 in
theorem bc_353 : bx_chk yp_P [bk_276, bk_291, bk_292, bk_329, bk_362] 1500 bw_INV bw_PC yp_m140 bk_353 = true := by decide +kernel
set_option maxRecDepth 10000000 in
theorem bc_354 : bx_chk yp_P [bk_33] 1500 bw_INV bw_PC yp_m97 bk_354 = true := by decide +kernel
set_option maxRecDepth 10000000 in
theorem bc_355 : bx_chk yp_P [bk_178, bk_189] 1500 bw_INV bw_PC yp_m192 bk_355 = true := by decide +kernel
set_option maxRecDepth 10000000 in
theorem bc_356 : bx_chk yp_P [] 1500 bw_INV bw_PC yp_m45 bk_356 = true := by decide +kernel
set_option maxRecDepth 10000000 in
theorem bc_357 : bx_chk yp_P [bk_99, bk_172, bk_199, bk_367, bk_368] 1500 bw_INV bw_PC yp_m259 bk_357 = true := by decide +kernel
set_option maxRecDepth 10000000 in
theorem bc_358 : bx_chk yp_P [bk_168, bk_203, bk_268, bk_321] 1500 bw_INV bw_PC yp_m41 bk_358 = true := by decide +kernel
set_option maxRecDepth 10000000 in
theorem bc_359 : bx_chk yp_P [] 1500 bw_INV bw_PC yp_m206 bk_359 = true := by decide +kernel
