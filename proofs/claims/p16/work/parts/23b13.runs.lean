set_option maxRecDepth 10000000 in
theorem bc_379 : bx_chk yp_P [bk_178, bk_189] 1500 bw_INV bw_PC yp_m192 bk_379 = true := by decide +kernel
set_option maxRecDepth 10000000 in
theorem bc_380 : bx_chk yp_P [bk_382, bk_388, bk_392] 1500 bw_INV bw_PC yp_m58 bk_380 = true := by decide +kernel
set_option maxRecDepth 10000000 in
theorem bc_381 : bx_chk yp_P [bk_383, bk_388, bk_392] 1500 bw_INV bw_PC yp_m58 bk_381 = true := by decide +kernel
set_option maxRecDepth 10000000 in
theorem bc_382 : bx_chk yp_P [bk_33, bk_325] 1500 bw_INV bw_PC yp_m59 bk_382 = true := by decide +kernel
set_option maxRecDepth 10000000 in
theorem bc_383 : bx_chk yp_P [bk_385, bk_414] 1500 bw_INV bw_PC yp_m59 bk_383 = true := by decide +kernel
