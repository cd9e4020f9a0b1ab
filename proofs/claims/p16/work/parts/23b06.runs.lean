set_option maxRecDepth 10000000 in
theorem bc_210 : bx_chk yp_P [bk_218] 1500 bw_INV bw_PC yp_m110 bk_210 = true := by decide +kernel
set_option maxRecDepth 10000000 in
theorem bc_211 : bx_chk yp_P [bk_99, bk_152, bk_199, bk_219, bk_220] 1500 bw_INV bw_PC yp_m195 bk_211 = true := by decide +kernel
set_option maxRecDepth 10000000 in
theorem bc_212 : bx_chk yp_P [bk_165, bk_168, bk_184, bk_202, bk_203, bk_221, bk_222] 1500 bw_INV bw_PC yp_m43 bk_212 = true := by decide +kernel
set_option maxRecDepth 10000000 in
theorem bc_213 : bx_chk yp_P [bk_223, bk_236] 1500 bw_INV bw_PC yp_m32 bk_213 = true := by decide +kernel
set_option maxRecDepth 10000000 in
theorem bc_214 : bx_chk yp_P [bk_229] 1500 bw_INV bw_PC yp_m147 bk_214 = true := by decide +kernel
set_option maxRecDepth 10000000 in
theorem bc_215 : bx_chk yp_P [bk_230] 1500 bw_INV bw_PC yp_m105 bk_215 = true := by decide +kernel
set_option maxRecDepth 10000000 in
theorem bc_216 : bx_chk yp_P [] 1500 bw_INV bw_PC yp_m248 bk_216 = true := by decide +kernel
set_option maxRecDepth 10000000 in
theorem bc_217 : bx_chk yp_P [bk_47] 1500 bw_INV bw_PC yp_m122 bk_217 = true := by decide +kernel
set_option maxRecDepth 10000000 in
theorem bc_218 : bx_chk yp_P [bk_47] 1500 bw_INV bw_PC yp_m110 bk_218 = true := by decide +kernel
set_option maxRecDepth 10000000 in
theorem bc_219 : bx_chk yp_P [bk_199] 1500 bw_INV bw_PC yp_m197 bk_219 = true := by decide +kernel
set_option maxRecDepth 10000000 in
theorem bc_220 : bx_chk yp_P [] 1500 bw_INV bw_PC yp_m210 bk_220 = true := by decide +kernel
set_option maxRecDepth 10000000 in
theorem bc_221 : bx_chk yp_P [bk_231, bk_334] 1500 bw_INV bw_PC yp_m41 bk_221 = true := by decide +kernel
set_option maxRecDepth 10000000 in
theorem bc_222 : bx_chk yp_P [bk_165, bk_168, bk_184, bk_203, bk_232, bk_233, bk_234] 1500 bw_INV bw_PC yp_m43 bk_222 = true := by decide +kernel
set_option maxRecDepth 10000000 in
theorem bc_223 : bx_chk yp_P [bk_165, bk_166, bk_168, bk_184, bk_201, bk_203, bk_233] 1500 bw_INV bw_PC yp_m33 bk_223 = true := by decide +kernel
set_option maxRecDepth 10000000 in
theorem bc_224 : bx_chk yp_P [bk_178, bk_189] 1500 bw_INV bw_PC yp_m192 bk_224 = true := by decide +kernel
set_option maxRecDepth 10000000 in
theorem bc_225 : bx_chk yp_P [bk_153, bk_199, bk_220, bk_372] 1500 bw_INV bw_PC yp_m260 bk_225 = true := by decide +kernel
set_option maxRecDepth 10000000 in
theorem bc_226 : bx_chk yp_P [bk_168, bk_195, bk_203, bk_237] 1500 bw_INV bw_PC yp_m32 bk_226 = true := by decide +kernel
set_option maxRecDepth 10000000 in
theorem bc_227 : bx_chk yp_P [bk_238] 1500 bw_INV bw_PC yp_m122 bk_227 = true := by decide +kernel
set_option maxRecDepth 10000000 in
theorem bc_228 : bx_chk yp_P [bk_239] 1500 bw_INV bw_PC yp_m110 bk_228 = true := by decide +kernel
set_option maxRecDepth 10000000 in
theorem bc_229 : bx_chk yp_P [] 1500 bw_INV bw_PC yp_m147 bk_229 = true := by decide +kernel
set_option maxRecDepth 10000000 in
theorem bc_230 : bx_chk yp_P [] 1500 bw_INV bw_PC yp_m105 bk_230 = true := by decide +kernel
set_option maxRecDepth 10000000 in
theorem bc_231 : bx_chk yp_P [bk_222, bk_315] 1500 bw_INV bw_PC yp_m42 bk_231 = true := by decide +kernel
set_option maxRecDepth 10000000 in
theorem bc_232 : bx_chk yp_P [bk_240, bk_343] 1500 bw_INV bw_PC yp_m41 bk_232 = true := by decide +kernel
set_option maxRecDepth 10000000 in
theorem bc_233 : bx_chk yp_P [bk_241, bk_298] 1500 bw_INV bw_PC yp_m31 bk_233 = true := by decide +kernel
set_option maxRecDepth 10000000 in
theorem bc_234 : bx_chk yp_P [bk_165, bk_168, bk_184, bk_203, bk_242, bk_243, bk_244] 1500 bw_INV bw_PC yp_m43 bk_234 = true := by decide +kernel
set_option maxRecDepth 10000000 in
theorem bc_235 : bx_chk yp_P [] 1500 bw_INV bw_PC yp_m129 bk_235 = true := by decide +kernel
set_option maxRecDepth 10000000 in
theorem bc_236 : bx_chk yp_P [bk_168, bk_203, bk_223, bk_237] 1500 bw_INV bw_PC yp_m32 bk_236 = true := by decide +kernel
set_option maxRecDepth 10000000 in
theorem bc_237 : bx_chk yp_P [] 1500 bw_INV bw_PC yp_m39 bk_237 = true := by decide +kernel
set_option maxRecDepth 10000000 in
theorem bc_238 : bx_chk yp_P [bk_249, bk_327] 1500 bw_INV bw_PC yp_m123 bk_238 = true := by decide +kernel
set_option maxRecDepth 10000000 in
theorem bc_239 : bx_chk yp_P [bk_250, bk_251] 1500 bw_INV bw_PC yp_m110 bk_239 = true := by decide +kernel
set_option maxRecDepth 10000000 in
theorem bc_240 : bx_chk yp_P [bk_234, bk_318] 1500 bw_INV bw_PC yp_m42 bk_240 = true := by decide +kernel
