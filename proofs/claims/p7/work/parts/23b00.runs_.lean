section
set_option maxRecDepth 10000000 in
theorem bc_0 : bx_chk yp_P [bk_28, bk_29] 1500 bw_INV bw_PC yp_m158 bk_0 = true := by decide +kernel
set_option maxRecDepth 10000000 in
theorem bc_1 : bx_chk yp_P [bk_30, bk_87] 1500 bw_INV bw_PC yp_m156 bk_1 = true := by decide +kernel
set_option maxRecDepth 10000000 in
theorem bc_2 : bx_chk yp_P [bk_72] 1500 bw_INV bw_PC yp_m155 bk_2 = true := by decide +kernel
set_option maxRecDepth 10000000 in
theorem bc_3 : bx_chk yp_P [] 1500 bw_INV bw_PC yp_m71 bk_3 = true := by decide +kernel
set_option maxRecDepth 10000000 in
theorem bc_4 : bx_chk yp_P [bk_31] 1500 bw_INV bw_PC yp_m151 bk_4 = true := by decide +kernel
set_option maxRecDepth 10000000 in
theorem bc_5 : bx_chk yp_P [bk_32, bk_419] 1500 bw_INV bw_PC yp_m145 bk_5 = true := by decide +kernel
set_option maxRecDepth 10000000 in
theorem bc_6 : bx_chk yp_P [bk_33, bk_34, bk_325, bk_349] 1500 bw_INV bw_PC yp_m143 bk_6 = true := by decide +kernel
set_option maxRecDepth 10000000 in
theorem bc_7 : bx_chk yp_P [bk_30, bk_35, bk_36, bk_88, bk_245] 1500 bw_INV bw_PC yp_m139 bk_7 = true := by decide +kernel
set_option maxRecDepth 10000000 in
theorem bc_8 : bx_chk yp_P [bk_36, bk_89, bk_385, bk_395] 1500 bw_INV bw_PC yp_m137 bk_8 = true := by decide +kernel
set_option maxRecDepth 10000000 in
theorem bc_9 : bx_chk yp_P [bk_37] 1500 bw_INV bw_PC yp_m133 bk_9 = true := by decide +kernel
set_option maxRecDepth 10000000 in
theorem bc_10 : bx_chk yp_P [bk_38] 1500 bw_INV bw_PC yp_m132 bk_10 = true := by decide +kernel
set_option maxRecDepth 10000000 in
theorem bc_11 : bx_chk yp_P [bk_39, bk_40, bk_41] 1500 bw_INV bw_PC yp_m127 bk_11 = true := by decide +kernel
set_option maxRecDepth 10000000 in
theorem bc_12 : bx_chk yp_P [bk_30, bk_35, bk_90, bk_196, bk_258, bk_259] 1500 bw_INV bw_PC yp_m120 bk_12 = true := by decide +kernel
set_option maxRecDepth 10000000 in
theorem bc_13 : bx_chk yp_P [bk_30, bk_35, bk_91, bk_197, bk_259, bk_266, bk_418] 1500 bw_INV bw_PC yp_m107 bk_13 = true := by decide +kernel
set_option maxRecDepth 10000000 in
theorem bc_14 : bx_chk yp_P [bk_42, bk_386] 1500 bw_INV bw_PC yp_m103 bk_14 = true := by decide +kernel
set_option maxRecDepth 10000000 in
theorem bc_15 : bx_chk yp_P [bk_33, bk_325, bk_408, bk_424] 1500 bw_INV bw_PC yp_m99 bk_15 = true := by decide +kernel
set_option maxRecDepth 10000000 in
theorem bc_16 : bx_chk yp_P [bk_43] 1500 bw_INV bw_PC yp_m95 bk_16 = true := by decide +kernel
set_option maxRecDepth 10000000 in
theorem bc_17 : bx_chk yp_P [bk_44, bk_398, bk_399] 1500 bw_INV bw_PC yp_m89 bk_17 = true := by decide +kernel
set_option maxRecDepth 10000000 in
theorem bc_18 : bx_chk yp_P [bk_45] 1500 bw_INV bw_PC yp_m85 bk_18 = true := by decide +kernel
set_option maxRecDepth 10000000 in
theorem bc_19 : bx_chk yp_P [bk_46] 1500 bw_INV bw_PC yp_m84 bk_19 = true := by decide +kernel
set_option maxRecDepth 10000000 in
theorem bc_20 : bx_chk yp_P [bk_47] 1500 bw_INV bw_PC yp_m81 bk_20 = true := by decide +kernel
set_option maxRecDepth 10000000 in
theorem bc_21 : bx_chk yp_P [bk_33, bk_34] 1500 bw_INV bw_PC yp_m80 bk_21 = true := by decide +kernel
set_option maxRecDepth 10000000 in
theorem bc_22 : bx_chk yp_P [bk_33, bk_34, bk_48, bk_325] 1500 bw_INV bw_PC yp_m75 bk_22 = true := by decide +kernel
set_option maxRecDepth 10000000 in
theorem bc_23 : bx_chk yp_P [] 1500 bw_INV bw_PC yp_m72 bk_23 = true := by decide +kernel
end
section
set_option maxRecDepth 10000000 in
theorem bc_24 : bx_chk yp_P [bk_30, bk_35, bk_36, bk_88, bk_246] 1500 bw_INV bw_PC yp_m70 bk_24 = true := by decide +kernel
set_option maxRecDepth 10000000 in
theorem bc_25 : bx_chk yp_P [bk_30, bk_35, bk_88, bk_247] 1500 bw_INV bw_PC yp_m48 bk_25 = true := by decide +kernel
set_option maxRecDepth 10000000 in
theorem bc_26 : bx_chk yp_P [bk_30, bk_35, bk_92] 1500 bw_INV bw_PC yp_m22 bk_26 = true := by decide +kernel
set_option maxRecDepth 10000000 in
theorem bc_27 : bx_chk yp_P [bk_49] 1500 bw_INV bw_PC yp_m12 bk_27 = true := by decide +kernel
set_option maxRecDepth 10000000 in
theorem bc_28 : bx_chk yp_P [bk_73] 1500 bw_INV bw_PC yp_m138 bk_28 = true := by decide +kernel
set_option maxRecDepth 10000000 in
theorem bc_29 : bx_chk yp_P [bk_74] 1500 bw_INV bw_PC yp_m159 bk_29 = true := by decide +kernel
set_option maxRecDepth 10000000 in
theorem bc_30 : bx_chk yp_P [] 1500 bw_INV bw_PC yp_m25 bk_30 = true := by decide +kernel
set_option maxRecDepth 10000000 in
theorem bc_31 : bx_chk yp_P [bk_33, bk_130, bk_325, bk_332] 1500 bw_INV bw_PC yp_m152 bk_31 = true := by decide +kernel
set_option maxRecDepth 10000000 in
theorem bc_32 : bx_chk yp_P [bk_75, bk_204, bk_400] 1500 bw_INV bw_PC yp_m146 bk_32 = true := by decide +kernel
set_option maxRecDepth 10000000 in
theorem bc_33 : bx_chk yp_P [bk_76] 1500 bw_INV bw_PC yp_m60 bk_33 = true := by decide +kernel
set_option maxRecDepth 10000000 in
theorem bc_34 : bx_chk yp_P [bk_77] 1500 bw_INV bw_PC yp_m76 bk_34 = true := by decide +kernel
set_option maxRecDepth 10000000 in
theorem bc_35 : bx_chk yp_P [] 1500 bw_INV bw_PC yp_m23 bk_35 = true := by decide +kernel
set_option maxRecDepth 10000000 in
theorem bc_36 : bx_chk yp_P [] 1500 bw_INV bw_PC yp_m71 bk_36 = true := by decide +kernel
set_option maxRecDepth 10000000 in
theorem bc_37 : bx_chk yp_P [bk_78] 1500 bw_INV bw_PC yp_m134 bk_37 = true := by decide +kernel
set_option maxRecDepth 10000000 in
theorem bc_38 : bx_chk yp_P [] 1500 bw_INV bw_PC yp_m132 bk_38 = true := by decide +kernel
set_option maxRecDepth 10000000 in
theorem bc_39 : bx_chk yp_P [bk_79] 1500 bw_INV bw_PC yp_m131 bk_39 = true := by decide +kernel
set_option maxRecDepth 10000000 in
theorem bc_40 : bx_chk yp_P [bk_80] 1500 bw_INV bw_PC yp_m130 bk_40 = true := by decide +kernel
set_option maxRecDepth 10000000 in
theorem bc_41 : bx_chk yp_P [bk_81] 1500 bw_INV bw_PC yp_m128 bk_41 = true := by decide +kernel
set_option maxRecDepth 10000000 in
theorem bc_42 : bx_chk yp_P [bk_82, bk_205] 1500 bw_INV bw_PC yp_m104 bk_42 = true := by decide +kernel
set_option maxRecDepth 10000000 in
theorem bc_43 : bx_chk yp_P [bk_83] 1500 bw_INV bw_PC yp_m95 bk_43 = true := by decide +kernel
set_option maxRecDepth 10000000 in
theorem bc_44 : bx_chk yp_P [bk_33, bk_323, bk_394] 1500 bw_INV bw_PC yp_m90 bk_44 = true := by decide +kernel
set_option maxRecDepth 10000000 in
theorem bc_45 : bx_chk yp_P [bk_33, bk_324] 1500 bw_INV bw_PC yp_m86 bk_45 = true := by decide +kernel
set_option maxRecDepth 10000000 in
theorem bc_46 : bx_chk yp_P [bk_84] 1500 bw_INV bw_PC yp_m55 bk_46 = true := by decide +kernel
set_option maxRecDepth 10000000 in
theorem bc_47 : bx_chk yp_P [bk_84, bk_377, bk_393] 1500 bw_INV bw_PC yp_m82 bk_47 = true := by decide +kernel
set_option maxRecDepth 10000000 in
theorem bc_48 : bx_chk yp_P [bk_85] 1500 bw_INV bw_PC yp_m78 bk_48 = true := by decide +kernel
set_option maxRecDepth 10000000 in
theorem bc_49 : bx_chk yp_P [bk_86] 1500 bw_INV bw_PC yp_m15 bk_49 = true := by decide +kernel
set_option maxRecDepth 10000000 in
theorem bc_50 : bx_chk yp_P [bk_93, bk_94, bk_95] 1500 bw_INV bw_PC yp_m274 bk_50 = true := by decide +kernel
set_option maxRecDepth 10000000 in
theorem bc_51 : bx_chk yp_P [bk_96] 1500 bw_INV bw_PC yp_m272 bk_51 = true := by decide +kernel
set_option maxRecDepth 10000000 in
theorem bc_52 : bx_chk yp_P [bk_97] 1500 bw_INV bw_PC yp_m271 bk_52 = true := by decide +kernel
set_option maxRecDepth 10000000 in
theorem bc_53 : bx_chk yp_P [bk_98] 1500 bw_INV bw_PC yp_m212 bk_53 = true := by decide +kernel
set_option maxRecDepth 10000000 in
theorem bc_54 : bx_chk yp_P [bk_99, bk_131, bk_359, bk_370] 1500 bw_INV bw_PC yp_m267 bk_54 = true := by decide +kernel
set_option maxRecDepth 10000000 in
theorem bc_56 : bx_chk yp_P [bk_99, bk_132, bk_133] 1500 bw_INV bw_PC yp_m263 bk_56 = true := by decide +kernel
set_option maxRecDepth 10000000 in
theorem bc_57 : bx_chk yp_P [bk_93, bk_99, bk_100, bk_101, bk_140, bk_411] 1500 bw_INV bw_PC yp_m261 bk_57 = true := by decide +kernel
set_option maxRecDepth 10000000 in
theorem bc_58 : bx_chk yp_P [bk_101] 1500 bw_INV bw_PC yp_m257 bk_58 = true := by decide +kernel
set_option maxRecDepth 10000000 in
theorem bc_59 : bx_chk yp_P [bk_102] 1500 bw_INV bw_PC yp_m235 bk_59 = true := by decide +kernel
set_option maxRecDepth 10000000 in
theorem bc_60 : bx_chk yp_P [bk_103, bk_151, bk_170, bk_365] 1500 bw_INV bw_PC yp_m252 bk_60 = true := by decide +kernel
set_option maxRecDepth 10000000 in
theorem bc_62 : bx_chk yp_P [bk_99, bk_132, bk_363, bk_426] 1500 bw_INV bw_PC yp_m236 bk_62 = true := by decide +kernel
set_option maxRecDepth 10000000 in
theorem bc_63 : bx_chk yp_P [bk_99, bk_134] 1500 bw_INV bw_PC yp_m232 bk_63 = true := by decide +kernel
set_option maxRecDepth 10000000 in
theorem bc_64 : bx_chk yp_P [bk_99, bk_135, bk_312, bk_359] 1500 bw_INV bw_PC yp_m229 bk_64 = true := by decide +kernel
set_option maxRecDepth 10000000 in
theorem bc_65 : bx_chk yp_P [bk_99, bk_136] 1500 bw_INV bw_PC yp_m227 bk_65 = true := by decide +kernel
set_option maxRecDepth 10000000 in
theorem bc_66 : bx_chk yp_P [bk_99, bk_152] 1500 bw_INV bw_PC yp_m226 bk_66 = true := by decide +kernel
set_option maxRecDepth 10000000 in
theorem bc_67 : bx_chk yp_P [bk_99, bk_153, bk_368] 1500 bw_INV bw_PC yp_m223 bk_67 = true := by decide +kernel
set_option maxRecDepth 10000000 in
theorem bc_68 : bx_chk yp_P [bk_99, bk_137] 1500 bw_INV bw_PC yp_m222 bk_68 = true := by decide +kernel
set_option maxRecDepth 10000000 in
theorem bc_69 : bx_chk yp_P [bk_99, bk_132, bk_138, bk_139, bk_140] 1500 bw_INV bw_PC yp_m218 bk_69 = true := by decide +kernel
set_option maxRecDepth 10000000 in
theorem bc_70 : bx_chk yp_P [] 1500 bw_INV bw_PC yp_m217 bk_70 = true := by decide +kernel
set_option maxRecDepth 10000000 in
theorem bc_71 : bx_chk yp_P [bk_99] 1500 bw_INV bw_PC yp_m163 bk_71 = true := by decide +kernel
set_option maxRecDepth 10000000 in
theorem bc_72 : bx_chk yp_P [] 1500 bw_INV bw_PC yp_m71 bk_72 = true := by decide +kernel
set_option maxRecDepth 10000000 in
theorem bc_73 : bx_chk yp_P [] 1500 bw_INV bw_PC yp_m138 bk_73 = true := by decide +kernel
set_option maxRecDepth 10000000 in
theorem bc_74 : bx_chk yp_P [] 1500 bw_INV bw_PC yp_m159 bk_74 = true := by decide +kernel
set_option maxRecDepth 10000000 in
theorem bc_75 : bx_chk yp_P [] 1500 bw_INV bw_PC yp_m146 bk_75 = true := by decide +kernel
set_option maxRecDepth 10000000 in
theorem bc_76 : bx_chk yp_P [] 1500 bw_INV bw_PC yp_m60 bk_76 = true := by decide +kernel
set_option maxRecDepth 10000000 in
theorem bc_77 : bx_chk yp_P [bk_104] 1500 bw_INV bw_PC yp_m76 bk_77 = true := by decide +kernel
set_option maxRecDepth 10000000 in
theorem bc_78 : bx_chk yp_P [bk_105, bk_350] 1500 bw_INV bw_PC yp_m134 bk_78 = true := by decide +kernel
set_option maxRecDepth 10000000 in
theorem bc_79 : bx_chk yp_P [bk_106, bk_235, bk_387, bk_405] 1500 bw_INV bw_PC yp_m129 bk_79 = true := by decide +kernel
end
section
set_option maxRecDepth 10000000 in
theorem bc_80 : bx_chk yp_P [bk_79] 1500 bw_INV bw_PC yp_m130 bk_80 = true := by decide +kernel
set_option maxRecDepth 10000000 in
theorem bc_81 : bx_chk yp_P [bk_79] 1500 bw_INV bw_PC yp_m128 bk_81 = true := by decide +kernel
set_option maxRecDepth 10000000 in
theorem bc_82 : bx_chk yp_P [bk_33, bk_325] 1500 bw_INV bw_PC yp_m104 bk_82 = true := by decide +kernel
set_option maxRecDepth 10000000 in
theorem bc_83 : bx_chk yp_P [bk_107] 1500 bw_INV bw_PC yp_m96 bk_83 = true := by decide +kernel
set_option maxRecDepth 10000000 in
theorem bc_84 : bx_chk yp_P [bk_108] 1500 bw_INV bw_PC yp_m57 bk_84 = true := by decide +kernel
set_option maxRecDepth 10000000 in
theorem bc_85 : bx_chk yp_P [] 1500 bw_INV bw_PC yp_m78 bk_85 = true := by decide +kernel
set_option maxRecDepth 10000000 in
theorem bc_86 : bx_chk yp_P [bk_109] 1500 bw_INV bw_PC yp_m16 bk_86 = true := by decide +kernel
set_option maxRecDepth 10000000 in
theorem bc_87 : bx_chk yp_P [bk_30] 1500 bw_INV bw_PC yp_m156 bk_87 = true := by decide +kernel
set_option maxRecDepth 10000000 in
theorem bc_88 : bx_chk yp_P [bk_116] 1500 bw_INV bw_PC yp_m49 bk_88 = true := by decide +kernel
set_option maxRecDepth 10000000 in
theorem bc_89 : bx_chk yp_P [bk_117] 1500 bw_INV bw_PC yp_m134 bk_89 = true := by decide +kernel
set_option maxRecDepth 10000000 in
theorem bc_90 : bx_chk yp_P [bk_118, bk_181] 1500 bw_INV bw_PC yp_m121 bk_90 = true := by decide +kernel
set_option maxRecDepth 10000000 in
theorem bc_91 : bx_chk yp_P [bk_118, bk_182] 1500 bw_INV bw_PC yp_m108 bk_91 = true := by decide +kernel
set_option maxRecDepth 10000000 in
theorem bc_92 : bx_chk yp_P [bk_119] 1500 bw_INV bw_PC yp_m26 bk_92 = true := by decide +kernel
set_option maxRecDepth 10000000 in
theorem bc_93 : bx_chk yp_P [bk_120] 1500 bw_INV bw_PC yp_m262 bk_93 = true := by decide +kernel
set_option maxRecDepth 10000000 in
theorem bc_94 : bx_chk yp_P [bk_121] 1500 bw_INV bw_PC yp_m275 bk_94 = true := by decide +kernel
set_option maxRecDepth 10000000 in
theorem bc_95 : bx_chk yp_P [bk_122] 1500 bw_INV bw_PC yp_m270 bk_95 = true := by decide +kernel
set_option maxRecDepth 10000000 in
theorem bc_96 : bx_chk yp_P [bk_123] 1500 bw_INV bw_PC yp_m272 bk_96 = true := by decide +kernel
set_option maxRecDepth 10000000 in
theorem bc_97 : bx_chk yp_P [bk_124] 1500 bw_INV bw_PC yp_m212 bk_97 = true := by decide +kernel
set_option maxRecDepth 10000000 in
theorem bc_98 : bx_chk yp_P [] 1500 bw_INV bw_PC yp_m212 bk_98 = true := by decide +kernel
set_option maxRecDepth 10000000 in
theorem bc_99 : bx_chk yp_P [] 1500 bw_INV bw_PC yp_m165 bk_99 = true := by decide +kernel
set_option maxRecDepth 10000000 in
theorem bc_100 : bx_chk yp_P [bk_125] 1500 bw_INV bw_PC yp_m212 bk_100 = true := by decide +kernel
set_option maxRecDepth 10000000 in
theorem bc_101 : bx_chk yp_P [bk_126] 1500 bw_INV bw_PC yp_m258 bk_101 = true := by decide +kernel
set_option maxRecDepth 10000000 in
theorem bc_102 : bx_chk yp_P [] 1500 bw_INV bw_PC yp_m235 bk_102 = true := by decide +kernel
set_option maxRecDepth 10000000 in
theorem bc_103 : bx_chk yp_P [bk_127, bk_151, bk_365] 1500 bw_INV bw_PC yp_m252 bk_103 = true := by decide +kernel
set_option maxRecDepth 10000000 in
theorem bc_104 : bx_chk yp_P [bk_128] 1500 bw_INV bw_PC yp_m77 bk_104 = true := by decide +kernel
set_option maxRecDepth 10000000 in
theorem bc_105 : bx_chk yp_P [bk_129] 1500 bw_INV bw_PC yp_m135 bk_105 = true := by decide +kernel
set_option maxRecDepth 10000000 in
theorem bc_106 : bx_chk yp_P [] 1500 bw_INV bw_PC yp_m129 bk_106 = true := by decide +kernel
set_option maxRecDepth 10000000 in
theorem bc_107 : bx_chk yp_P [bk_130, bk_354] 1500 bw_INV bw_PC yp_m97 bk_107 = true := by decide +kernel
set_option maxRecDepth 10000000 in
theorem bc_108 : bx_chk yp_P [bk_377] 1500 bw_INV bw_PC yp_m57 bk_108 = true := by decide +kernel
set_option maxRecDepth 10000000 in
theorem bc_109 : bx_chk yp_P [] 1500 bw_INV bw_PC yp_m19 bk_109 = true := by decide +kernel
set_option maxRecDepth 10000000 in
theorem bc_111 : bx_chk yp_P [bk_141, bk_206, bk_260, bk_261] 1500 bw_INV bw_PC yp_m248 bk_111 = true := by decide +kernel
set_option maxRecDepth 10000000 in
theorem bc_113 : bx_chk yp_P [bk_100, bk_142, bk_410, bk_411] 1500 bw_INV bw_PC yp_m211 bk_113 = true := by decide +kernel
set_option maxRecDepth 10000000 in
theorem bc_114 : bx_chk yp_P [bk_142, bk_198] 1500 bw_INV bw_PC yp_m190 bk_114 = true := by decide +kernel
set_option maxRecDepth 10000000 in
theorem bc_116 : bx_chk yp_P [bk_143, bk_184, bk_207] 1500 bw_INV bw_PC yp_m49 bk_116 = true := by decide +kernel
set_option maxRecDepth 10000000 in
theorem bc_117 : bx_chk yp_P [bk_144, bk_364] 1500 bw_INV bw_PC yp_m134 bk_117 = true := by decide +kernel
set_option maxRecDepth 10000000 in
theorem bc_118 : bx_chk yp_P [bk_145] 1500 bw_INV bw_PC yp_m109 bk_118 = true := by decide +kernel
set_option maxRecDepth 10000000 in
theorem bc_119 : bx_chk yp_P [bk_146, bk_184, bk_207] 1500 bw_INV bw_PC yp_m26 bk_119 = true := by decide +kernel
set_option maxRecDepth 10000000 in
theorem bc_120 : bx_chk yp_P [bk_99] 1500 bw_INV bw_PC yp_m262 bk_120 = true := by decide +kernel
set_option maxRecDepth 10000000 in
theorem bc_121 : bx_chk yp_P [] 1500 bw_INV bw_PC yp_m275 bk_121 = true := by decide +kernel
set_option maxRecDepth 10000000 in
theorem bc_122 : bx_chk yp_P [] 1500 bw_INV bw_PC yp_m270 bk_122 = true := by decide +kernel
set_option maxRecDepth 10000000 in
theorem bc_123 : bx_chk yp_P [bk_147] 1500 bw_INV bw_PC yp_m273 bk_123 = true := by decide +kernel
set_option maxRecDepth 10000000 in
theorem bc_124 : bx_chk yp_P [] 1500 bw_INV bw_PC yp_m212 bk_124 = true := by decide +kernel
set_option maxRecDepth 10000000 in
theorem bc_125 : bx_chk yp_P [] 1500 bw_INV bw_PC yp_m212 bk_125 = true := by decide +kernel
set_option maxRecDepth 10000000 in
theorem bc_126 : bx_chk yp_P [bk_148] 1500 bw_INV bw_PC yp_m258 bk_126 = true := by decide +kernel
set_option maxRecDepth 10000000 in
theorem bc_127 : bx_chk yp_P [bk_149] 1500 bw_INV bw_PC yp_m256 bk_127 = true := by decide +kernel
set_option maxRecDepth 10000000 in
theorem bc_128 : bx_chk yp_P [] 1500 bw_INV bw_PC yp_m77 bk_128 = true := by decide +kernel
set_option maxRecDepth 10000000 in
theorem bc_129 : bx_chk yp_P [bk_47, bk_86] 1500 bw_INV bw_PC yp_m135 bk_129 = true := by decide +kernel
set_option maxRecDepth 10000000 in
theorem bc_130 : bx_chk yp_P [bk_150] 1500 bw_INV bw_PC yp_m98 bk_130 = true := by decide +kernel
set_option maxRecDepth 10000000 in
theorem bc_131 : bx_chk yp_P [bk_154] 1500 bw_INV bw_PC yp_m267 bk_131 = true := by decide +kernel
set_option maxRecDepth 10000000 in
theorem bc_132 : bx_chk yp_P [bk_155] 1500 bw_INV bw_PC yp_m207 bk_132 = true := by decide +kernel
set_option maxRecDepth 10000000 in
theorem bc_133 : bx_chk yp_P [bk_156, bk_199] 1500 bw_INV bw_PC yp_m263 bk_133 = true := by decide +kernel
set_option maxRecDepth 10000000 in
theorem bc_134 : bx_chk yp_P [bk_157] 1500 bw_INV bw_PC yp_m232 bk_134 = true := by decide +kernel
set_option maxRecDepth 10000000 in
theorem bc_135 : bx_chk yp_P [bk_158] 1500 bw_INV bw_PC yp_m229 bk_135 = true := by decide +kernel
set_option maxRecDepth 10000000 in
theorem bc_136 : bx_chk yp_P [bk_159] 1500 bw_INV bw_PC yp_m227 bk_136 = true := by decide +kernel
set_option maxRecDepth 10000000 in
theorem bc_137 : bx_chk yp_P [bk_154, bk_156] 1500 bw_INV bw_PC yp_m222 bk_137 = true := by decide +kernel
set_option maxRecDepth 10000000 in
theorem bc_138 : bx_chk yp_P [bk_160] 1500 bw_INV bw_PC yp_m221 bk_138 = true := by decide +kernel
set_option maxRecDepth 10000000 in
theorem bc_139 : bx_chk yp_P [bk_161] 1500 bw_INV bw_PC yp_m219 bk_139 = true := by decide +kernel
set_option maxRecDepth 10000000 in
theorem bc_140 : bx_chk yp_P [bk_162] 1500 bw_INV bw_PC yp_m204 bk_140 = true := by decide +kernel
set_option maxRecDepth 10000000 in
theorem bc_141 : bx_chk yp_P [bk_163] 1500 bw_INV bw_PC yp_m243 bk_141 = true := by decide +kernel
end
section
set_option maxRecDepth 10000000 in
theorem bc_142 : bx_chk yp_P [bk_164, bk_193, bk_208, bk_224, bk_248, bk_273, bk_290, bk_302, bk_313, bk_326, bk_342, bk_355, bk_371, bk_376, bk_379, bk_384, bk_390] 1500 bw_INV bw_PC yp_m191 bk_142 = true := by decide +kernel
set_option maxRecDepth 10000000 in
theorem bc_143 : bx_chk yp_P [bk_165, bk_166, bk_168, bk_188] 1500 bw_INV bw_PC yp_m50 bk_143 = true := by decide +kernel
set_option maxRecDepth 10000000 in
theorem bc_144 : bx_chk yp_P [bk_167] 1500 bw_INV bw_PC yp_m135 bk_144 = true := by decide +kernel
set_option maxRecDepth 10000000 in
theorem bc_145 : bx_chk yp_P [bk_30] 1500 bw_INV bw_PC yp_m109 bk_145 = true := by decide +kernel
set_option maxRecDepth 10000000 in
theorem bc_146 : bx_chk yp_P [bk_165, bk_168, bk_183, bk_184, bk_194, bk_356] 1500 bw_INV bw_PC yp_m27 bk_146 = true := by decide +kernel
set_option maxRecDepth 10000000 in
theorem bc_147 : bx_chk yp_P [] 1500 bw_INV bw_PC yp_m273 bk_147 = true := by decide +kernel
set_option maxRecDepth 10000000 in
theorem bc_148 : bx_chk yp_P [bk_169, bk_357] 1500 bw_INV bw_PC yp_m259 bk_148 = true := by decide +kernel
set_option maxRecDepth 10000000 in
theorem bc_149 : bx_chk yp_P [bk_170] 1500 bw_INV bw_PC yp_m256 bk_149 = true := by decide +kernel
set_option maxRecDepth 10000000 in
theorem bc_150 : bx_chk yp_P [] 1500 bw_INV bw_PC yp_m98 bk_150 = true := by decide +kernel
set_option maxRecDepth 10000000 in
theorem bc_151 : bx_chk yp_P [bk_171] 1500 bw_INV bw_PC yp_m253 bk_151 = true := by decide +kernel
set_option maxRecDepth 10000000 in
theorem bc_153 : bx_chk yp_P [bk_132, bk_172, bk_359] 1500 bw_INV bw_PC yp_m202 bk_153 = true := by decide +kernel
set_option maxRecDepth 10000000 in
theorem bc_154 : bx_chk yp_P [] 1500 bw_INV bw_PC yp_m205 bk_154 = true := by decide +kernel
set_option maxRecDepth 10000000 in
theorem bc_155 : bx_chk yp_P [bk_154] 1500 bw_INV bw_PC yp_m207 bk_155 = true := by decide +kernel
set_option maxRecDepth 10000000 in
theorem bc_156 : bx_chk yp_P [bk_173] 1500 bw_INV bw_PC yp_m220 bk_156 = true := by decide +kernel
set_option maxRecDepth 10000000 in
theorem bc_157 : bx_chk yp_P [bk_174] 1500 bw_INV bw_PC yp_m233 bk_157 = true := by decide +kernel
set_option maxRecDepth 10000000 in
theorem bc_158 : bx_chk yp_P [bk_175] 1500 bw_INV bw_PC yp_m230 bk_158 = true := by decide +kernel
set_option maxRecDepth 10000000 in
theorem bc_159 : bx_chk yp_P [bk_176] 1500 bw_INV bw_PC yp_m227 bk_159 = true := by decide +kernel
set_option maxRecDepth 10000000 in
theorem bc_160 : bx_chk yp_P [] 1500 bw_INV bw_PC yp_m221 bk_160 = true := by decide +kernel
set_option maxRecDepth 10000000 in
theorem bc_161 : bx_chk yp_P [bk_156] 1500 bw_INV bw_PC yp_m219 bk_161 = true := by decide +kernel
set_option maxRecDepth 10000000 in
theorem bc_162 : bx_chk yp_P [bk_154] 1500 bw_INV bw_PC yp_m204 bk_162 = true := by decide +kernel
set_option maxRecDepth 10000000 in
theorem bc_163 : bx_chk yp_P [bk_177] 1500 bw_INV bw_PC yp_m243 bk_163 = true := by decide +kernel
end
section
set_option maxRecDepth 10000000 in
theorem bc_164 : bx_chk yp_P [bk_178, bk_189] 1500 bw_INV bw_PC yp_m192 bk_164 = true := by decide +kernel
set_option maxRecDepth 10000000 in
theorem bc_165 : bx_chk yp_P [] 1500 bw_INV bw_PC yp_m29 bk_165 = true := by decide +kernel
set_option maxRecDepth 10000000 in
theorem bc_166 : bx_chk yp_P [bk_168] 1500 bw_INV bw_PC yp_m35 bk_166 = true := by decide +kernel
set_option maxRecDepth 10000000 in
theorem bc_167 : bx_chk yp_P [bk_179, bk_310] 1500 bw_INV bw_PC yp_m135 bk_167 = true := by decide +kernel
set_option maxRecDepth 10000000 in
theorem bc_168 : bx_chk yp_P [bk_30] 1500 bw_INV bw_PC yp_m30 bk_168 = true := by decide +kernel
set_option maxRecDepth 10000000 in
theorem bc_169 : bx_chk yp_P [bk_225] 1500 bw_INV bw_PC yp_m259 bk_169 = true := by decide +kernel
set_option maxRecDepth 10000000 in
theorem bc_170 : bx_chk yp_P [bk_180] 1500 bw_INV bw_PC yp_m254 bk_170 = true := by decide +kernel
set_option maxRecDepth 10000000 in
theorem bc_171 : bx_chk yp_P [bk_170, bk_365] 1500 bw_INV bw_PC yp_m253 bk_171 = true := by decide +kernel
set_option maxRecDepth 10000000 in
theorem bc_172 : bx_chk yp_P [bk_140, bk_185] 1500 bw_INV bw_PC yp_m203 bk_172 = true := by decide +kernel
set_option maxRecDepth 10000000 in
theorem bc_173 : bx_chk yp_P [] 1500 bw_INV bw_PC yp_m220 bk_173 = true := by decide +kernel
set_option maxRecDepth 10000000 in
theorem bc_174 : bx_chk yp_P [bk_186] 1500 bw_INV bw_PC yp_m233 bk_174 = true := by decide +kernel
set_option maxRecDepth 10000000 in
theorem bc_175 : bx_chk yp_P [bk_176] 1500 bw_INV bw_PC yp_m230 bk_175 = true := by decide +kernel
set_option maxRecDepth 10000000 in
theorem bc_176 : bx_chk yp_P [bk_99, bk_154] 1500 bw_INV bw_PC yp_m228 bk_176 = true := by decide +kernel
set_option maxRecDepth 10000000 in
theorem bc_177 : bx_chk yp_P [] 1500 bw_INV bw_PC yp_m243 bk_177 = true := by decide +kernel
set_option maxRecDepth 10000000 in
theorem bc_178 : bx_chk yp_P [] 1500 bw_INV bw_PC yp_m193 bk_178 = true := by decide +kernel
set_option maxRecDepth 10000000 in
theorem bc_179 : bx_chk yp_P [bk_187, bk_378, bk_393] 1500 bw_INV bw_PC yp_m82 bk_179 = true := by decide +kernel
set_option maxRecDepth 10000000 in
theorem bc_180 : bx_chk yp_P [] 1500 bw_INV bw_PC yp_m254 bk_180 = true := by decide +kernel
set_option maxRecDepth 10000000 in
theorem bc_181 : bx_chk yp_P [] 1500 bw_INV bw_PC yp_m121 bk_181 = true := by decide +kernel
set_option maxRecDepth 10000000 in
theorem bc_182 : bx_chk yp_P [] 1500 bw_INV bw_PC yp_m108 bk_182 = true := by decide +kernel
set_option maxRecDepth 10000000 in
theorem bc_183 : bx_chk yp_P [bk_190, bk_283] 1500 bw_INV bw_PC yp_m31 bk_183 = true := by decide +kernel
set_option maxRecDepth 10000000 in
theorem bc_184 : bx_chk yp_P [bk_165, bk_168] 1500 bw_INV bw_PC yp_m37 bk_184 = true := by decide +kernel
set_option maxRecDepth 10000000 in
theorem bc_185 : bx_chk yp_P [] 1500 bw_INV bw_PC yp_m203 bk_185 = true := by decide +kernel
set_option maxRecDepth 10000000 in
theorem bc_186 : bx_chk yp_P [bk_191] 1500 bw_INV bw_PC yp_m234 bk_186 = true := by decide +kernel
set_option maxRecDepth 10000000 in
theorem bc_187 : bx_chk yp_P [bk_192] 1500 bw_INV bw_PC yp_m57 bk_187 = true := by decide +kernel
set_option maxRecDepth 10000000 in
theorem bc_188 : bx_chk yp_P [bk_165, bk_166, bk_168] 1500 bw_INV bw_PC yp_m52 bk_188 = true := by decide +kernel
end
