set_option maxRecDepth 10000000 in
theorem bc_3 : bx_chk yp_P [] 1500 bw_INV bw_PC yp_m71 bk_3 = true := by decide +kernel
set_option maxRecDepth 10000000 in
theorem bc_22 : bx_chk yp_P [bk_33, bk_34, bk_48, bk_314] 1500 bw_INV bw_PC yp_m75 bk_22 = true := by decide +kernel
set_option maxRecDepth 10000000 in
theorem bc_23 : bx_chk yp_P [] 1500 bw_INV bw_PC yp_m72 bk_23 = true := by decide +kernel
set_option maxRecDepth 10000000 in
theorem bc_33 : bx_chk yp_P [bk_77] 1500 bw_INV bw_PC yp_m60 bk_33 = true := by decide +kernel
set_option maxRecDepth 10000000 in
theorem bc_36 : bx_chk yp_P [] 1500 bw_INV bw_PC yp_m71 bk_36 = true := by decide +kernel
set_option maxRecDepth 10000000 in
theorem bc_70 : bx_chk yp_P [bk_99, bk_129, bk_135, bk_136, bk_137] 1500 bw_INV bw_PC yp_m218 bk_70 = true := by decide +kernel
set_option maxRecDepth 10000000 in
theorem bc_71 : bx_chk yp_P [] 1500 bw_INV bw_PC yp_m217 bk_71 = true := by decide +kernel
set_option maxRecDepth 10000000 in
theorem bc_73 : bx_chk yp_P [] 1500 bw_INV bw_PC yp_m71 bk_73 = true := by decide +kernel
set_option maxRecDepth 10000000 in
theorem bc_77 : bx_chk yp_P [] 1500 bw_INV bw_PC yp_m60 bk_77 = true := by decide +kernel
set_option maxRecDepth 10000000 in
theorem bc_367 : bx_chk yp_P [bk_371] 1500 bw_INV bw_PC yp_m60 bk_367 = true := by decide +kernel
set_option maxRecDepth 10000000 in
theorem bc_371 : bx_chk yp_P [] 1500 bw_INV bw_PC yp_m60 bk_371 = true := by decide +kernel
