set_option maxRecDepth 10000000 in
theorem bc_0 : bx_chk yp_P [bk_28, bk_29] 1500 bw_INV bw_PC yp_m158 bk_0 = true := by decide +kernel
set_option maxRecDepth 10000000 in
theorem bc_1 : bx_chk yp_P [bk_30, bk_87] 1500 bw_INV bw_PC yp_m156 bk_1 = true := by decide +kernel
set_option maxRecDepth 10000000 in
theorem bc_2 : bx_chk yp_P [bk_72] 1500 bw_INV bw_PC yp_m155 bk_2 = true := by decide +kernel
set_option maxRecDepth 10000000 in
theorem bc_3 : bx_chk yp_P [] 1500 bw_INV bw_PC yp_m71 bk_3 = true := by decide +kernel
set_option maxRecDepth 10000000 in
theorem bc_4 : bx_chk yp_P [bk_31] 1500 bw_INV bw_PC yp_m151 bk_4 = true := by decide +kernel
set_option maxRecDepth 10000000 in
theorem bc_5 : bx_chk yp_P [bk_32, bk_419] 1500 bw_INV bw_PC yp_m145 bk_5 = true := by decide +kernel
set_option maxRecDepth 10000000 in
theorem bc_6 : bx_chk yp_P [bk_33, bk_34, bk_325, bk_349] 1500 bw_INV bw_PC yp_m143 bk_6 = true := by decide +kernel
set_option maxRecDepth 10000000 in
theorem bc_7 : bx_chk yp_P [bk_30, bk_35, bk_36, bk_88, bk_245] 1500 bw_INV bw_PC yp_m139 bk_7 = true := by decide +kernel
set_option maxRecDepth 10000000 in
theorem bc_8 : bx_chk yp_P [bk_36, bk_89, bk_385, bk_395] 1500 bw_INV bw_PC yp_m137 bk_8 = true := by decide +kernel
set_option maxRecDepth 10000000 in
theorem bc_9 : bx_chk yp_P [bk_37] 1500 bw_INV bw_PC yp_m133 bk_9 = true := by decide +kernel
set_option maxRecDepth 10000000 in
theorem bc_10 : bx_chk yp_P [bk_38] 1500 bw_INV bw_PC yp_m132 bk_10 = true := by decide +kernel
set_option maxRecDepth 10000000 in
theorem bc_11 : bx_chk yp_P [bk_39, bk_40, bk_41] 1500 bw_INV bw_PC yp_m127 bk_11 = true := by decide +kernel
set_option maxRecDepth 10000000 in
theorem bc_12 : bx_chk yp_P [bk_30, bk_35, bk_90, bk_196, bk_258, bk_259] 1500 bw_INV bw_PC yp_m120 bk_12 = true := by decide +kernel
set_option maxRecDepth 10000000 in
theorem bc_13 : bx_chk yp_P [bk_30, bk_35, bk_91, bk_197, bk_259, bk_266, bk_418] 1500 bw_INV bw_PC yp_m107 bk_13 = true := by decide +kernel
set_option maxRecDepth 10000000 in
theorem bc_14 : bx_chk yp_P [bk_42, bk_386] 1500 bw_INV bw_PC yp_m103 bk_14 = true := by decide +kernel
set_option maxRecDepth 10000000 in
theorem bc_15 : bx_chk yp_P [bk_33, bk_325, bk_408, bk_424] 1500 bw_INV bw_PC yp_m99 bk_15 = true := by decide +kernel
set_option maxRecDepth 10000000 in
theorem bc_16 : bx_chk yp_P [bk_43] 1500 bw_INV bw_PC yp_m95 bk_16 = true := by decide +kernel
set_option maxRecDepth 10000000 in
theorem bc_17 : bx_chk yp_P [bk_44, bk_398, bk_399] 1500 bw_INV bw_PC yp_m89 bk_17 = true := by decide +kernel
set_option maxRecDepth 10000000 in
theorem bc_18 : bx_chk yp_P [bk_45] 1500 bw_INV bw_PC yp_m85 bk_18 = true := by decide +kernel
set_option maxRecDepth 10000000 in
theorem bc_19 : bx_chk yp_P [bk_46] 1500 bw_INV bw_PC yp_m84 bk_19 = true := by decide +kernel
set_option maxRecDepth 10000000 in
theorem bc_20 : bx_chk yp_P [bk_47] 1500 bw_INV bw_PC yp_m81 bk_20 = true := by decide +kernel
set_option maxRecDepth 10000000 in
theorem bc_21 : bx_chk yp_P [bk_33, bk_34] 1500 bw_INV bw_PC yp_m80 bk_21 = true := by decide +kernel
set_option maxRecDepth 10000000 in
theorem bc_22 : bx_chk yp_P [bk_33, bk_34, bk_48, bk_325] 1500 bw_INV bw_PC yp_m75 bk_22 = true := by decide +kernel
set_option maxRecDepth 10000000 in
theorem bc_23 : bx_chk yp_P [] 1500 bw_INV bw_PC yp_m72 bk_23 = true := by decide +kernel
