set_option maxRecDepth 10000000 in
theorem bc_164 : bx_chk yp_P [bk_178, bk_189] 1500 bw_INV bw_PC yp_m192 bk_164 = true := by decide +kernel
set_option maxRecDepth 10000000 in
theorem bc_165 : bx_chk yp_P [] 1500 bw_INV bw_PC yp_m29 bk_165 = true := by decide +kernel
set_option maxRecDepth 10000000 in
theorem bc_166 : bx_chk yp_P [bk_168] 1500 bw_INV bw_PC yp_m35 bk_166 = true := by decide +kernel
set_option maxRecDepth 10000000 in
theorem bc_167 : bx_chk yp_P [bk_179, bk_310] 1500 bw_INV bw_PC yp_m135 bk_167 = true := by decide +kernel
set_option maxRecDepth 10000000 in
theorem bc_168 : bx_chk yp_P [bk_30] 1500 bw_INV bw_PC yp_m30 bk_168 = true := by decide +kernel
set_option maxRecDepth 10000000 in
theorem bc_169 : bx_chk yp_P [bk_225] 1500 bw_INV bw_PC yp_m259 bk_169 = true := by decide +kernel
set_option maxRecDepth 10000000 in
theorem bc_170 : bx_chk yp_P [bk_180] 1500 bw_INV bw_PC yp_m254 bk_170 = true := by decide +kernel
set_option maxRecDepth 10000000 in
theorem bc_171 : bx_chk yp_P [bk_170, bk_365] 1500 bw_INV bw_PC yp_m253 bk_171 = true := by decide +kernel
set_option maxRecDepth 10000000 in
theorem bc_172 : bx_chk yp_P [bk_140, bk_185] 1500 bw_INV bw_PC yp_m203 bk_172 = true := by decide +kernel
set_option maxRecDepth 10000000 in
theorem bc_173 : bx_chk yp_P [] 1500 bw_INV bw_PC yp_m220 bk_173 = true := by decide +kernel
set_option maxRecDepth 10000000 in
theorem bc_174 : bx_chk yp_P [bk_186] 1500 bw_INV bw_PC yp_m233 bk_174 = true := by decide +kernel
set_option maxRecDepth 10000000 in
theorem bc_175 : bx_chk yp_P [bk_176] 1500 bw_INV bw_PC yp_m230 bk_175 = true := by decide +kernel
set_option maxRecDepth 10000000 in
theorem bc_176 : bx_chk yp_P [bk_99, bk_154] 1500 bw_INV bw_PC yp_m228 bk_176 = true := by decide +kernel
set_option maxRecDepth 10000000 in
theorem bc_177 : bx_chk yp_P [] 1500 bw_INV bw_PC yp_m243 bk_177 = true := by decide +kernel
set_option maxRecDepth 10000000 in
theorem bc_178 : bx_chk yp_P [] 1500 bw_INV bw_PC yp_m193 bk_178 = true := by decide +kernel
set_option maxRecDepth 10000000 in
theorem bc_179 : bx_chk yp_P [bk_187, bk_378, bk_393] 1500 bw_INV bw_PC yp_m82 bk_179 = true := by decide +kernel
set_option maxRecDepth 10000000 in
theorem bc_180 : bx_chk yp_P [] 1500 bw_INV bw_PC yp_m254 bk_180 = true := by decide +kernel
set_option maxRecDepth 10000000 in
theorem bc_181 : bx_chk yp_P [] 1500 bw_INV bw_PC yp_m121 bk_181 = true := by decide +kernel
set_option maxRecDepth 10000000 in
theorem bc_182 : bx_chk yp_P [] 1500 bw_INV bw_PC yp_m108 bk_182 = true := by decide +kernel
set_option maxRecDepth 10000000 in
theorem bc_183 : bx_chk yp_P [bk_190, bk_283] 1500 bw_INV bw_PC yp_m31 bk_183 = true := by decide +kernel
set_option maxRecDepth 10000000 in
theorem bc_184 : bx_chk yp_P [bk_165, bk_168] 1500 bw_INV bw_PC yp_m37 bk_184 = true := by decide +kernel
set_option maxRecDepth 10000000 in
theorem bc_185 : bx_chk yp_P [] 1500 bw_INV bw_PC yp_m203 bk_185 = true := by decide +kernel
set_option maxRecDepth 10000000 in
theorem bc_186 : bx_chk yp_P [bk_191] 1500 bw_INV bw_PC yp_m234 bk_186 = true := by decide +kernel
set_option maxRecDepth 10000000 in
theorem bc_187 : bx_chk yp_P [bk_192] 1500 bw_INV bw_PC yp_m57 bk_187 = true := by decide +kernel
set_option maxRecDepth 10000000 in
theorem bc_188 : bx_chk yp_P [bk_165, bk_166, bk_168] 1500 bw_INV bw_PC yp_m52 bk_188 = true := by decide +kernel
