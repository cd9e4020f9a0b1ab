set_option maxRecDepth 10000000 in
theorem bc_273 : bx_chk yp_P [bk_178, bk_189] 1500 bw_INV bw_PC yp_m192 bk_273 = true := by decide +kernel
set_option maxRecDepth 10000000 in
theorem bc_274 : bx_chk yp_P [bk_168, bk_203, bk_237, bk_252] 1500 bw_INV bw_PC yp_m32 bk_274 = true := by decide +kernel
set_option maxRecDepth 10000000 in
theorem bc_275 : bx_chk yp_P [] 1500 bw_INV bw_PC yp_m126 bk_275 = true := by decide +kernel
set_option maxRecDepth 10000000 in
theorem bc_276 : bx_chk yp_P [bk_287] 1500 bw_INV bw_PC yp_m54 bk_276 = true := by decide +kernel
set_option maxRecDepth 10000000 in
theorem bc_277 : bx_chk yp_P [bk_46] 1500 bw_INV bw_PC yp_m54 bk_277 = true := by decide +kernel
set_option maxRecDepth 10000000 in
theorem bc_278 : bx_chk yp_P [] 1500 bw_INV bw_PC yp_m124 bk_278 = true := by decide +kernel
set_option maxRecDepth 10000000 in
theorem bc_279 : bx_chk yp_P [bk_165, bk_166, bk_168, bk_184, bk_201, bk_203, bk_271] 1500 bw_INV bw_PC yp_m33 bk_279 = true := by decide +kernel
set_option maxRecDepth 10000000 in
theorem bc_280 : bx_chk yp_P [bk_272, bk_344] 1500 bw_INV bw_PC yp_m42 bk_280 = true := by decide +kernel
set_option maxRecDepth 10000000 in
theorem bc_281 : bx_chk yp_P [bk_288, bk_299] 1500 bw_INV bw_PC yp_m32 bk_281 = true := by decide +kernel
set_option maxRecDepth 10000000 in
theorem bc_282 : bx_chk yp_P [bk_289, bk_319] 1500 bw_INV bw_PC yp_m31 bk_282 = true := by decide +kernel
set_option maxRecDepth 10000000 in
theorem bc_283 : bx_chk yp_P [bk_168, bk_190, bk_203, bk_295] 1500 bw_INV bw_PC yp_m31 bk_283 = true := by decide +kernel
set_option maxRecDepth 10000000 in
theorem bc_284 : bx_chk yp_P [bk_168, bk_203, bk_213, bk_295] 1500 bw_INV bw_PC yp_m31 bk_284 = true := by decide +kernel
set_option maxRecDepth 10000000 in
theorem bc_285 : bx_chk yp_P [bk_296] 1500 bw_INV bw_PC yp_m112 bk_285 = true := by decide +kernel
set_option maxRecDepth 10000000 in
theorem bc_286 : bx_chk yp_P [bk_168, bk_203, bk_237, bk_267] 1500 bw_INV bw_PC yp_m32 bk_286 = true := by decide +kernel
set_option maxRecDepth 10000000 in
theorem bc_287 : bx_chk yp_P [bk_187] 1500 bw_INV bw_PC yp_m55 bk_287 = true := by decide +kernel
set_option maxRecDepth 10000000 in
theorem bc_288 : bx_chk yp_P [bk_165, bk_166, bk_168, bk_184, bk_201, bk_203, bk_282] 1500 bw_INV bw_PC yp_m33 bk_288 = true := by decide +kernel
set_option maxRecDepth 10000000 in
theorem bc_289 : bx_chk yp_P [bk_297, bk_305] 1500 bw_INV bw_PC yp_m32 bk_289 = true := by decide +kernel
set_option maxRecDepth 10000000 in
theorem bc_290 : bx_chk yp_P [bk_178, bk_189] 1500 bw_INV bw_PC yp_m192 bk_290 = true := by decide +kernel
