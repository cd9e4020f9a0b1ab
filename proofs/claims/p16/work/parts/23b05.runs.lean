set_option maxRecDepth 10000000 in
theorem bc_189 : bx_chk yp_P [] 1500 bw_INV bw_PC yp_m193 bk_189 = true := by decide +kernel
set_option maxRecDepth 10000000 in
theorem bc_190 : bx_chk yp_P [bk_195, bk_226] 1500 bw_INV bw_PC yp_m32 bk_190 = true := by decide +kernel
set_option maxRecDepth 10000000 in
theorem bc_191 : bx_chk yp_P [bk_154] 1500 bw_INV bw_PC yp_m234 bk_191 = true := by decide +kernel
set_option maxRecDepth 10000000 in
theorem bc_192 : bx_chk yp_P [bk_378] 1500 bw_INV bw_PC yp_m57 bk_192 = true := by decide +kernel
set_option maxRecDepth 10000000 in
theorem bc_193 : bx_chk yp_P [bk_178, bk_189] 1500 bw_INV bw_PC yp_m192 bk_193 = true := by decide +kernel
set_option maxRecDepth 10000000 in
theorem bc_194 : bx_chk yp_P [bk_200, bk_333] 1500 bw_INV bw_PC yp_m41 bk_194 = true := by decide +kernel
set_option maxRecDepth 10000000 in
theorem bc_195 : bx_chk yp_P [bk_165, bk_166, bk_168, bk_184, bk_201, bk_202, bk_203] 1500 bw_INV bw_PC yp_m33 bk_195 = true := by decide +kernel
set_option maxRecDepth 10000000 in
theorem bc_196 : bx_chk yp_P [bk_209, bk_227] 1500 bw_INV bw_PC yp_m122 bk_196 = true := by decide +kernel
set_option maxRecDepth 10000000 in
theorem bc_197 : bx_chk yp_P [bk_210, bk_228, bk_413] 1500 bw_INV bw_PC yp_m110 bk_197 = true := by decide +kernel
set_option maxRecDepth 10000000 in
theorem bc_198 : bx_chk yp_P [bk_211] 1500 bw_INV bw_PC yp_m190 bk_198 = true := by decide +kernel
set_option maxRecDepth 10000000 in
theorem bc_199 : bx_chk yp_P [] 1500 bw_INV bw_PC yp_m199 bk_199 = true := by decide +kernel
set_option maxRecDepth 10000000 in
theorem bc_200 : bx_chk yp_P [bk_212, bk_314] 1500 bw_INV bw_PC yp_m42 bk_200 = true := by decide +kernel
set_option maxRecDepth 10000000 in
theorem bc_201 : bx_chk yp_P [] 1500 bw_INV bw_PC yp_m38 bk_201 = true := by decide +kernel
set_option maxRecDepth 10000000 in
theorem bc_202 : bx_chk yp_P [bk_213, bk_284] 1500 bw_INV bw_PC yp_m31 bk_202 = true := by decide +kernel
set_option maxRecDepth 10000000 in
theorem bc_203 : bx_chk yp_P [] 1500 bw_INV bw_PC yp_m36 bk_203 = true := by decide +kernel
set_option maxRecDepth 10000000 in
theorem bc_204 : bx_chk yp_P [bk_104, bk_214] 1500 bw_INV bw_PC yp_m146 bk_204 = true := by decide +kernel
set_option maxRecDepth 10000000 in
theorem bc_205 : bx_chk yp_P [bk_215] 1500 bw_INV bw_PC yp_m104 bk_205 = true := by decide +kernel
set_option maxRecDepth 10000000 in
theorem bc_206 : bx_chk yp_P [bk_216] 1500 bw_INV bw_PC yp_m248 bk_206 = true := by decide +kernel
set_option maxRecDepth 10000000 in
theorem bc_207 : bx_chk yp_P [] 1500 bw_INV bw_PC yp_m46 bk_207 = true := by decide +kernel
set_option maxRecDepth 10000000 in
theorem bc_208 : bx_chk yp_P [bk_178, bk_189] 1500 bw_INV bw_PC yp_m192 bk_208 = true := by decide +kernel
set_option maxRecDepth 10000000 in
theorem bc_209 : bx_chk yp_P [bk_217] 1500 bw_INV bw_PC yp_m122 bk_209 = true := by decide +kernel
