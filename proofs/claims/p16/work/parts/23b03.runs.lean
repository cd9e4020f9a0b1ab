set_option maxRecDepth 10000000 in
theorem bc_142 : bx_chk yp_P [bk_164, bk_193, bk_208, bk_224, bk_248, bk_273, bk_290, bk_302, bk_313, bk_326, bk_342, bk_355, bk_371, bk_376, bk_379, bk_384, bk_390] 1500 bw_INV bw_PC yp_m191 bk_142 = true := by decide +kernel
set_option maxRecDepth 10000000 in
theorem bc_143 : bx_chk yp_P [bk_165, bk_166, bk_168, bk_188] 1500 bw_INV bw_PC yp_m50 bk_143 = true := by decide +kernel
set_option maxRecDepth 10000000 in
theorem bc_144 : bx_chk yp_P [bk_167] 1500 bw_INV bw_PC yp_m135 bk_144 = true := by decide +kernel
set_option maxRecDepth 10000000 in
theorem bc_145 : bx_chk yp_P [bk_30] 1500 bw_INV bw_PC yp_m109 bk_145 = true := by decide +kernel
set_option maxRecDepth 10000000 in
theorem bc_146 : bx_chk yp_P [bk_165, bk_168, bk_183, bk_184, bk_194, bk_356] 1500 bw_INV bw_PC yp_m27 bk_146 = true := by decide +kernel
set_option maxRecDepth 10000000 in
theorem bc_147 : bx_chk yp_P [] 1500 bw_INV bw_PC yp_m273 bk_147 = true := by decide +kernel
set_option maxRecDepth 10000000 in
theorem bc_148 : bx_chk yp_P [bk_169, bk_357] 1500 bw_INV bw_PC yp_m259 bk_148 = true := by decide +kernel
set_option maxRecDepth 10000000 in
theorem bc_149 : bx_chk yp_P [bk_170] 1500 bw_INV bw_PC yp_m256 bk_149 = true := by decide +kernel
set_option maxRecDepth 10000000 in
theorem bc_150 : bx_chk yp_P [] 1500 bw_INV bw_PC yp_m98 bk_150 = true := by decide +kernel
set_option maxRecDepth 10000000 in
theorem bc_151 : bx_chk yp_P [bk_171] 1500 bw_INV bw_PC yp_m253 bk_151 = true := by decide +kernel
set_option maxRecDepth 10000000 in
theorem bc_153 : bx_chk yp_P [bk_132, bk_172, bk_359] 1500 bw_INV bw_PC yp_m202 bk_153 = true := by decide +kernel
set_option maxRecDepth 10000000 in
theorem bc_154 : bx_chk yp_P [] 1500 bw_INV bw_PC yp_m205 bk_154 = true := by decide +kernel
set_option maxRecDepth 10000000 in
theorem bc_155 : bx_chk yp_P [bk_154] 1500 bw_INV bw_PC yp_m207 bk_155 = true := by decide +kernel
set_option maxRecDepth 10000000 in
theorem bc_156 : bx_chk yp_P [bk_173] 1500 bw_INV bw_PC yp_m220 bk_156 = true := by decide +kernel
set_option maxRecDepth 10000000 in
theorem bc_157 : bx_chk yp_P [bk_174] 1500 bw_INV bw_PC yp_m233 bk_157 = true := by decide +kernel
set_option maxRecDepth 10000000 in
theorem bc_158 : bx_chk yp_P [bk_175] 1500 bw_INV bw_PC yp_m230 bk_158 = true := by decide +kernel
set_option maxRecDepth 10000000 in
theorem bc_159 : bx_chk yp_P [bk_176] 1500 bw_INV bw_PC yp_m227 bk_159 = true := by decide +kernel
set_option maxRecDepth 10000000 in
theorem bc_160 : bx_chk yp_P [] 1500 bw_INV bw_PC yp_m221 bk_160 = true := by decide +kernel
set_option maxRecDepth 10000000 in
theorem bc_161 : bx_chk yp_P [bk_156] 1500 bw_INV bw_PC yp_m219 bk_161 = true := by decide +kernel
set_option maxRecDepth 10000000 in
theorem bc_162 : bx_chk yp_P [bk_154] 1500 bw_INV bw_PC yp_m204 bk_162 = true := by decide +kernel
set_option maxRecDepth 10000000 in
theorem bc_163 : bx_chk yp_P [bk_177] 1500 bw_INV bw_PC yp_m243 bk_163 = true := by decide +kernel
