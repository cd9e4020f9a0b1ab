set_option maxRecDepth 10000000 in
theorem bc_360 : bx_chk yp_P [] 1500 bw_INV bw_PC yp_m144 bk_360 = true := by decide +kernel
set_option maxRecDepth 10000000 in
theorem bc_361 : bx_chk yp_P [bk_47, bk_307] 1500 bw_INV bw_PC yp_m136 bk_361 = true := by decide +kernel
set_option maxRecDepth 10000000 in
theorem bc_362 : bx_chk yp_P [bk_369] 1500 bw_INV bw_PC yp_m140 bk_362 = true := by decide +kernel
set_option maxRecDepth 10000000 in
theorem bc_363 : bx_chk yp_P [] 1500 bw_INV bw_PC yp_m236 bk_363 = true := by decide +kernel
set_option maxRecDepth 10000000 in
theorem bc_364 : bx_chk yp_P [bk_373] 1500 bw_INV bw_PC yp_m136 bk_364 = true := by decide +kernel
set_option maxRecDepth 10000000 in
theorem bc_365 : bx_chk yp_P [bk_374] 1500 bw_INV bw_PC yp_m255 bk_365 = true := by decide +kernel
set_option maxRecDepth 10000000 in
theorem bc_366 : bx_chk yp_P [bk_168, bk_203, bk_280, bk_321] 1500 bw_INV bw_PC yp_m41 bk_366 = true := by decide +kernel
set_option maxRecDepth 10000000 in
theorem bc_369 : bx_chk yp_P [bk_276, bk_291, bk_292, bk_329, bk_375] 1500 bw_INV bw_PC yp_m140 bk_369 = true := by decide +kernel
set_option maxRecDepth 10000000 in
theorem bc_370 : bx_chk yp_P [bk_186] 1500 bw_INV bw_PC yp_m267 bk_370 = true := by decide +kernel
set_option maxRecDepth 10000000 in
theorem bc_371 : bx_chk yp_P [bk_178, bk_189] 1500 bw_INV bw_PC yp_m192 bk_371 = true := by decide +kernel
set_option maxRecDepth 10000000 in
theorem bc_373 : bx_chk yp_P [bk_179, bk_306] 1500 bw_INV bw_PC yp_m136 bk_373 = true := by decide +kernel
set_option maxRecDepth 10000000 in
theorem bc_374 : bx_chk yp_P [bk_170] 1500 bw_INV bw_PC yp_m255 bk_374 = true := by decide +kernel
set_option maxRecDepth 10000000 in
theorem bc_375 : bx_chk yp_P [] 1500 bw_INV bw_PC yp_m140 bk_375 = true := by decide +kernel
set_option maxRecDepth 10000000 in
theorem bc_376 : bx_chk yp_P [bk_178, bk_189] 1500 bw_INV bw_PC yp_m192 bk_376 = true := by decide +kernel
set_option maxRecDepth 10000000 in
theorem bc_377 : bx_chk yp_P [bk_380] 1500 bw_INV bw_PC yp_m58 bk_377 = true := by decide +kernel
set_option maxRecDepth 10000000 in
theorem bc_378 : bx_chk yp_P [bk_381] 1500 bw_INV bw_PC yp_m58 bk_378 = true := by decide +kernel
