set_option maxRecDepth 10000000 in
theorem bc_24 : bx_chk yp_P [bk_30, bk_35, bk_36, bk_88, bk_246] 1500 bw_INV bw_PC yp_m70 bk_24 = true := by decide +kernel
set_option maxRecDepth 10000000 in
theorem bc_25 : bx_chk yp_P [bk_30, bk_35, bk_88, bk_247] 1500 bw_INV bw_PC yp_m48 bk_25 = true := by decide +kernel
set_option maxRecDepth 10000000 in
theorem bc_26 : bx_chk yp_P [bk_30, bk_35, bk_92] 1500 bw_INV bw_PC yp_m22 bk_26 = true := by decide +kernel
set_option maxRecDepth 10000000 in
theorem bc_27 : bx_chk yp_P [bk_49] 1500 bw_INV bw_PC yp_m12 bk_27 = true := by decide +kernel
set_option maxRecDepth 10000000 in
theorem bc_28 : bx_chk yp_P [bk_73] 1500 bw_INV bw_PC yp_m138 bk_28 = true := by decide +kernel
set_option maxRecDepth 10000000 in
theorem bc_29 : bx_chk yp_P [bk_74] 1500 bw_INV bw_PC yp_m159 bk_29 = true := by decide +kernel
set_option maxRecDepth 10000000 in
theorem bc_30 : bx_chk yp_P [] 1500 bw_INV bw_PC yp_m25 bk_30 = true := by decide +kernel
set_option maxRecDepth 10000000 in
theorem bc_31 : bx_chk yp_P [bk_33, bk_130, bk_325, bk_332] 1500 bw_INV bw_PC yp_m152 bk_31 = true := by decide +kernel
set_option maxRecDepth 10000000 in
theorem bc_32 : bx_chk yp_P [bk_75, bk_204, bk_400] 1500 bw_INV bw_PC yp_m146 bk_32 = true := by decide +kernel
set_option maxRecDepth 10000000 in
theorem bc_33 : bx_chk yp_P [bk_76] 1500 bw_INV bw_PC yp_m60 bk_33 = true := by decide +kernel
set_option maxRecDepth 10000000 in
theorem bc_34 : bx_chk yp_P [bk_77] 1500 bw_INV bw_PC yp_m76 bk_34 = true := by decide +kernel
set_option maxRecDepth 10000000 in
theorem bc_35 : bx_chk yp_P [] 1500 bw_INV bw_PC yp_m23 bk_35 = true := by decide +kernel
set_option maxRecDepth 10000000 in
theorem bc_36 : bx_chk yp_P [] 1500 bw_INV bw_PC yp_m71 bk_36 = true := by decide +kernel
set_option maxRecDepth 10000000 in
theorem bc_37 : bx_chk yp_P [bk_78] 1500 bw_INV bw_PC yp_m134 bk_37 = true := by decide +kernel
set_option maxRecDepth 10000000 in
theorem bc_38 : bx_chk yp_P [] 1500 bw_INV bw_PC yp_m132 bk_38 = true := by decide +kernel
set_option maxRecDepth 10000000 in
theorem bc_39 : bx_chk yp_P [bk_79] 1500 bw_INV bw_PC yp_m131 bk_39 = true := by decide +kernel
set_option maxRecDepth 10000000 in
theorem bc_40 : bx_chk yp_P [bk_80] 1500 bw_INV bw_PC yp_m130 bk_40 = true := by decide +kernel
set_option maxRecDepth 10000000 in
theorem bc_41 : bx_chk yp_P [bk_81] 1500 bw_INV bw_PC yp_m128 bk_41 = true := by decide +kernel
set_option maxRecDepth 10000000 in
theorem bc_42 : bx_chk yp_P [bk_82, bk_205] 1500 bw_INV bw_PC yp_m104 bk_42 = true := by decide +kernel
set_option maxRecDepth 10000000 in
theorem bc_43 : bx_chk yp_P [bk_83] 1500 bw_INV bw_PC yp_m95 bk_43 = true := by decide +kernel
set_option maxRecDepth 10000000 in
theorem bc_44 : bx_chk yp_P [bk_33, bk_323, bk_394] 1500 bw_INV bw_PC yp_m90 bk_44 = true := by decide +kernel
set_option maxRecDepth 10000000 in
theorem bc_45 : bx_chk yp_P [bk_33, bk_324] 1500 bw_INV bw_PC yp_m86 bk_45 = true := by decide +kernel
set_option maxRecDepth 10000000 in
theorem bc_46 : bx_chk yp_P [bk_84] 1500 bw_INV bw_PC yp_m55 bk_46 = true := by decide +kernel
set_option maxRecDepth 10000000 in
theorem bc_47 : bx_chk yp_P [bk_84, bk_377, bk_393] 1500 bw_INV bw_PC yp_m82 bk_47 = true := by decide +kernel
set_option maxRecDepth 10000000 in
theorem bc_48 : bx_chk yp_P [bk_85] 1500 bw_INV bw_PC yp_m78 bk_48 = true := by decide +kernel
set_option maxRecDepth 10000000 in
theorem bc_49 : bx_chk yp_P [bk_86] 1500 bw_INV bw_PC yp_m15 bk_49 = true := by decide +kernel
set_option maxRecDepth 10000000 in
theorem bc_50 : bx_chk yp_P [bk_93, bk_94, bk_95] 1500 bw_INV bw_PC yp_m274 bk_50 = true := by decide +kernel
set_option maxRecDepth 10000000 in
theorem bc_51 : bx_chk yp_P [bk_96] 1500 bw_INV bw_PC yp_m272 bk_51 = true := by decide +kernel
set_option maxRecDepth 10000000 in
theorem bc_52 : bx_chk yp_P [bk_97] 1500 bw_INV bw_PC yp_m271 bk_52 = true := by decide +kernel
set_option maxRecDepth 10000000 in
theorem bc_53 : bx_chk yp_P [bk_98] 1500 bw_INV bw_PC yp_m212 bk_53 = true := by decide +kernel
set_option maxRecDepth 10000000 in
theorem bc_54 : bx_chk yp_P [bk_99, bk_131, bk_359, bk_370] 1500 bw_INV bw_PC yp_m267 bk_54 = true := by decide +kernel
set_option maxRecDepth 10000000 in
theorem bc_56 : bx_chk yp_P [bk_99, bk_132, bk_133] 1500 bw_INV bw_PC yp_m263 bk_56 = true := by decide +kernel
set_option maxRecDepth 10000000 in
theorem bc_57 : bx_chk yp_P [bk_93, bk_99, bk_100, bk_101, bk_140, bk_411] 1500 bw_INV bw_PC yp_m261 bk_57 = true := by decide +kernel
set_option maxRecDepth 10000000 in
theorem bc_58 : bx_chk yp_P [bk_101] 1500 bw_INV bw_PC yp_m257 bk_58 = true := by decide +kernel
set_option maxRecDepth 10000000 in
theorem bc_59 : bx_chk yp_P [bk_102] 1500 bw_INV bw_PC yp_m235 bk_59 = true := by decide +kernel
set_option maxRecDepth 10000000 in
theorem bc_60 : bx_chk yp_P [bk_103, bk_151, bk_170, bk_365] 1500 bw_INV bw_PC yp_m252 bk_60 = true := by decide +kernel
set_option maxRecDepth 10000000 in
theorem bc_62 : bx_chk yp_P [bk_99, bk_132, bk_363, bk_426] 1500 bw_INV bw_PC yp_m236 bk_62 = true := by decide +kernel
set_option maxRecDepth 10000000 in
theorem bc_63 : bx_chk yp_P [bk_99, bk_134] 1500 bw_INV bw_PC yp_m232 bk_63 = true := by decide +kernel
set_option maxRecDepth 10000000 in
theorem bc_64 : bx_chk yp_P [bk_99, bk_135, bk_312, bk_359] 1500 bw_INV bw_PC yp_m229 bk_64 = true := by decide +kernel
set_option maxRecDepth 10000000 in
theorem bc_65 : bx_chk yp_P [bk_99, bk_136] 1500 bw_INV bw_PC yp_m227 bk_65 = true := by decide +kernel
set_option maxRecDepth 10000000 in
theorem bc_66 : bx_chk yp_P [bk_99, bk_152] 1500 bw_INV bw_PC yp_m226 bk_66 = true := by decide +kernel
set_option maxRecDepth 10000000 in
theorem bc_67 : bx_chk yp_P [bk_99, bk_153, bk_368] 1500 bw_INV bw_PC yp_m223 bk_67 = true := by decide +kernel
set_option maxRecDepth 10000000 in
theorem bc_68 : bx_chk yp_P [bk_99, bk_137] 1500 bw_INV bw_PC yp_m222 bk_68 = true := by decide +kernel
set_option maxRecDepth 10000000 in
theorem bc_69 : bx_chk yp_P [bk_99, bk_132, bk_138, bk_139, bk_140] 1500 bw_INV bw_PC yp_m218 bk_69 = true := by decide +kernel
set_option maxRecDepth 10000000 in
theorem bc_70 : bx_chk yp_P [] 1500 bw_INV bw_PC yp_m217 bk_70 = true := by decide +kernel
set_option maxRecDepth 10000000 in
theorem bc_71 : bx_chk yp_P [bk_99] 1500 bw_INV bw_PC yp_m163 bk_71 = true := by decide +kernel
set_option maxRecDepth 10000000 in
theorem bc_72 : bx_chk yp_P [] 1500 bw_INV bw_PC yp_m71 bk_72 = true := by decide +kernel
set_option maxRecDepth 10000000 in
theorem bc_73 : bx_chk yp_P [] 1500 bw_INV bw_PC yp_m138 bk_73 = true := by decide +kernel
set_option maxRecDepth 10000000 in
theorem bc_74 : bx_chk yp_P [] 1500 bw_INV bw_PC yp_m159 bk_74 = true := by decide +kernel
set_option maxRecDepth 10000000 in
theorem bc_75 : bx_chk yp_P [] 1500 bw_INV bw_PC yp_m146 bk_75 = true := by decide +kernel
set_option maxRecDepth 10000000 in
theorem bc_76 : bx_chk yp_P [] 1500 bw_INV bw_PC yp_m60 bk_76 = true := by decide +kernel
set_option maxRecDepth 10000000 in
theorem bc_77 : bx_chk yp_P [bk_104] 1500 bw_INV bw_PC yp_m76 bk_77 = true := by decide +kernel
set_option maxRecDepth 10000000 in
theorem bc_78 : bx_chk yp_P [bk_105, bk_350] 1500 bw_INV bw_PC yp_m134 bk_78 = true := by decide +kernel
set_option maxRecDepth 10000000 in
theorem bc_79 : bx_chk yp_P [bk_106, bk_235, bk_387, bk_405] 1500 bw_INV bw_PC yp_m129 bk_79 = true := by decide +kernel
