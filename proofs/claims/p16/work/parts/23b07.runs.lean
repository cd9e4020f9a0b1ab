set_option maxRecDepth 10000000 in
theorem bc_241 : bx_chk yp_P [bk_252, bk_274] 1500 bw_INV bw_PC yp_m32 bk_241 = true := by decide +kernel
set_option maxRecDepth 10000000 in
theorem bc_242 : bx_chk yp_P [bk_253, bk_351] 1500 bw_INV bw_PC yp_m41 bk_242 = true := by decide +kernel
set_option maxRecDepth 10000000 in
theorem bc_243 : bx_chk yp_P [bk_254, bk_303] 1500 bw_INV bw_PC yp_m31 bk_243 = true := by decide +kernel
set_option maxRecDepth 10000000 in
theorem bc_244 : bx_chk yp_P [bk_165, bk_168, bk_184, bk_203, bk_255, bk_256, bk_257] 1500 bw_INV bw_PC yp_m43 bk_244 = true := by decide +kernel
set_option maxRecDepth 10000000 in
theorem bc_245 : bx_chk yp_P [bk_262] 1500 bw_INV bw_PC yp_m140 bk_245 = true := by decide +kernel
set_option maxRecDepth 10000000 in
theorem bc_246 : bx_chk yp_P [bk_263] 1500 bw_INV bw_PC yp_m70 bk_246 = true := by decide +kernel
set_option maxRecDepth 10000000 in
theorem bc_247 : bx_chk yp_P [bk_264] 1500 bw_INV bw_PC yp_m48 bk_247 = true := by decide +kernel
set_option maxRecDepth 10000000 in
theorem bc_248 : bx_chk yp_P [bk_178, bk_189] 1500 bw_INV bw_PC yp_m192 bk_248 = true := by decide +kernel
set_option maxRecDepth 10000000 in
theorem bc_249 : bx_chk yp_P [bk_265] 1500 bw_INV bw_PC yp_m123 bk_249 = true := by decide +kernel
set_option maxRecDepth 10000000 in
theorem bc_250 : bx_chk yp_P [] 1500 bw_INV bw_PC yp_m115 bk_250 = true := by decide +kernel
set_option maxRecDepth 10000000 in
theorem bc_251 : bx_chk yp_P [bk_266, bk_285] 1500 bw_INV bw_PC yp_m112 bk_251 = true := by decide +kernel
set_option maxRecDepth 10000000 in
theorem bc_252 : bx_chk yp_P [bk_165, bk_166, bk_168, bk_184, bk_201, bk_203, bk_243] 1500 bw_INV bw_PC yp_m33 bk_252 = true := by decide +kernel
set_option maxRecDepth 10000000 in
theorem bc_253 : bx_chk yp_P [bk_244, bk_328] 1500 bw_INV bw_PC yp_m42 bk_253 = true := by decide +kernel
set_option maxRecDepth 10000000 in
theorem bc_254 : bx_chk yp_P [bk_267, bk_286] 1500 bw_INV bw_PC yp_m32 bk_254 = true := by decide +kernel
set_option maxRecDepth 10000000 in
theorem bc_255 : bx_chk yp_P [bk_268, bk_358] 1500 bw_INV bw_PC yp_m41 bk_255 = true := by decide +kernel
set_option maxRecDepth 10000000 in
theorem bc_256 : bx_chk yp_P [bk_269, bk_308] 1500 bw_INV bw_PC yp_m31 bk_256 = true := by decide +kernel
set_option maxRecDepth 10000000 in
theorem bc_257 : bx_chk yp_P [bk_165, bk_168, bk_184, bk_203, bk_270, bk_271, bk_272] 1500 bw_INV bw_PC yp_m43 bk_257 = true := by decide +kernel
set_option maxRecDepth 10000000 in
theorem bc_258 : bx_chk yp_P [bk_275] 1500 bw_INV bw_PC yp_m126 bk_258 = true := by decide +kernel
set_option maxRecDepth 10000000 in
theorem bc_259 : bx_chk yp_P [] 1500 bw_INV bw_PC yp_m119 bk_259 = true := by decide +kernel
set_option maxRecDepth 10000000 in
theorem bc_261 : bx_chk yp_P [] 1500 bw_INV bw_PC yp_m248 bk_261 = true := by decide +kernel
set_option maxRecDepth 10000000 in
theorem bc_262 : bx_chk yp_P [bk_276, bk_291, bk_292, bk_304, bk_329] 1500 bw_INV bw_PC yp_m140 bk_262 = true := by decide +kernel
set_option maxRecDepth 10000000 in
theorem bc_263 : bx_chk yp_P [bk_276, bk_292] 1500 bw_INV bw_PC yp_m53 bk_263 = true := by decide +kernel
set_option maxRecDepth 10000000 in
theorem bc_264 : bx_chk yp_P [bk_277, bk_293] 1500 bw_INV bw_PC yp_m53 bk_264 = true := by decide +kernel
set_option maxRecDepth 10000000 in
theorem bc_265 : bx_chk yp_P [bk_278] 1500 bw_INV bw_PC yp_m124 bk_265 = true := by decide +kernel
set_option maxRecDepth 10000000 in
theorem bc_266 : bx_chk yp_P [] 1500 bw_INV bw_PC yp_m113 bk_266 = true := by decide +kernel
set_option maxRecDepth 10000000 in
theorem bc_267 : bx_chk yp_P [bk_165, bk_166, bk_168, bk_184, bk_201, bk_203, bk_256] 1500 bw_INV bw_PC yp_m33 bk_267 = true := by decide +kernel
set_option maxRecDepth 10000000 in
theorem bc_268 : bx_chk yp_P [bk_257, bk_335] 1500 bw_INV bw_PC yp_m42 bk_268 = true := by decide +kernel
set_option maxRecDepth 10000000 in
theorem bc_269 : bx_chk yp_P [bk_279, bk_294] 1500 bw_INV bw_PC yp_m32 bk_269 = true := by decide +kernel
set_option maxRecDepth 10000000 in
theorem bc_270 : bx_chk yp_P [bk_280, bk_366] 1500 bw_INV bw_PC yp_m41 bk_270 = true := by decide +kernel
set_option maxRecDepth 10000000 in
theorem bc_271 : bx_chk yp_P [bk_281, bk_316] 1500 bw_INV bw_PC yp_m31 bk_271 = true := by decide +kernel
set_option maxRecDepth 10000000 in
theorem bc_272 : bx_chk yp_P [bk_165, bk_168, bk_203, bk_282] 1500 bw_INV bw_PC yp_m43 bk_272 = true := by decide +kernel
