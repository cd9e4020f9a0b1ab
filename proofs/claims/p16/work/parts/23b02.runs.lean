set_option maxRecDepth 10000000 in
theorem bc_80 : bx_chk yp_P [bk_79] 1500 bw_INV bw_PC yp_m130 bk_80 = true := by decide +kernel
set_option maxRecDepth 10000000 in
theorem bc_81 : bx_chk yp_P [bk_79] 1500 bw_INV bw_PC yp_m128 bk_81 = true := by decide +kernel
set_option maxRecDepth 10000000 in
theorem bc_82 : bx_chk yp_P [bk_33, bk_325] 1500 bw_INV bw_PC yp_m104 bk_82 = true := by decide +kernel
set_option maxRecDepth 10000000 in
theorem bc_83 : bx_chk yp_P [bk_107] 1500 bw_INV bw_PC yp_m96 bk_83 = true := by decide +kernel
set_option maxRecDepth 10000000 in
theorem bc_84 : bx_chk yp_P [bk_108] 1500 bw_INV bw_PC yp_m57 bk_84 = true := by decide +kernel
set_option maxRecDepth 10000000 in
theorem bc_85 : bx_chk yp_P [] 1500 bw_INV bw_PC yp_m78 bk_85 = true := by decide +kernel
set_option maxRecDepth 10000000 in
theorem bc_86 : bx_chk yp_P [bk_109] 1500 bw_INV bw_PC yp_m16 bk_86 = true := by decide +kernel
set_option maxRecDepth 10000000 in
theorem bc_87 : bx_chk yp_P [bk_30] 1500 bw_INV bw_PC yp_m156 bk_87 = true := by decide +kernel
set_option maxRecDepth 10000000 in
theorem bc_88 : bx_chk yp_P [bk_116] 1500 bw_INV bw_PC yp_m49 bk_88 = true := by decide +kernel
set_option maxRecDepth 10000000 in
theorem bc_89 : bx_chk yp_P [bk_117] 1500 bw_INV bw_PC yp_m134 bk_89 = true := by decide +kernel
set_option maxRecDepth 10000000 in
theorem bc_90 : bx_chk yp_P [bk_118, bk_181] 1500 bw_INV bw_PC yp_m121 bk_90 = true := by decide +kernel
set_option maxRecDepth 10000000 in
theorem bc_91 : bx_chk yp_P [bk_118, bk_182] 1500 bw_INV bw_PC yp_m108 bk_91 = true := by decide +kernel
set_option maxRecDepth 10000000 in
theorem bc_92 : bx_chk yp_P [bk_119] 1500 bw_INV bw_PC yp_m26 bk_92 = true := by decide +kernel
set_option maxRecDepth 10000000 in
theorem bc_93 : bx_chk yp_P [bk_120] 1500 bw_INV bw_PC yp_m262 bk_93 = true := by decide +kernel
set_option maxRecDepth 10000000 in
theorem bc_94 : bx_chk yp_P [bk_121] 1500 bw_INV bw_PC yp_m275 bk_94 = true := by decide +kernel
set_option maxRecDepth 10000000 in
theorem bc_95 : bx_chk yp_P [bk_122] 1500 bw_INV bw_PC yp_m270 bk_95 = true := by decide +kernel
set_option maxRecDepth 10000000 in
theorem bc_96 : bx_chk yp_P [bk_123] 1500 bw_INV bw_PC yp_m272 bk_96 = true := by decide +kernel
set_option maxRecDepth 10000000 in
theorem bc_97 : bx_chk yp_P [bk_124] 1500 bw_INV bw_PC yp_m212 bk_97 = true := by decide +kernel
set_option maxRecDepth 10000000 in
theorem bc_98 : bx_chk yp_P [] 1500 bw_INV bw_PC yp_m212 bk_98 = true := by decide +kernel
set_option maxRecDepth 10000000 in
theorem bc_99 : bx_chk yp_P [] 1500 bw_INV bw_PC yp_m165 bk_99 = true := by decide +kernel
set_option maxRecDepth 10000000 in
theorem bc_100 : bx_chk yp_P [bk_125] 1500 bw_INV bw_PC yp_m212 bk_100 = true := by decide +kernel
set_option maxRecDepth 10000000 in
theorem bc_101 : bx_chk yp_P [bk_126] 1500 bw_INV bw_PC yp_m258 bk_101 = true := by decide +kernel
set_option maxRecDepth 10000000 in
theorem bc_102 : bx_chk yp_P [] 1500 bw_INV bw_PC yp_m235 bk_102 = true := by decide +kernel
set_option maxRecDepth 10000000 in
theorem bc_103 : bx_chk yp_P [bk_127, bk_151, bk_365] 1500 bw_INV bw_PC yp_m252 bk_103 = true := by decide +kernel
set_option maxRecDepth 10000000 in
theorem bc_104 : bx_chk yp_P [bk_128] 1500 bw_INV bw_PC yp_m77 bk_104 = true := by decide +kernel
set_option maxRecDepth 10000000 in
theorem bc_105 : bx_chk yp_P [bk_129] 1500 bw_INV bw_PC yp_m135 bk_105 = true := by decide +kernel
set_option maxRecDepth 10000000 in
theorem bc_106 : bx_chk yp_P [] 1500 bw_INV bw_PC yp_m129 bk_106 = true := by decide +kernel
set_option maxRecDepth 10000000 in
theorem bc_107 : bx_chk yp_P [bk_130, bk_354] 1500 bw_INV bw_PC yp_m97 bk_107 = true := by decide +kernel
set_option maxRecDepth 10000000 in
theorem bc_108 : bx_chk yp_P [bk_377] 1500 bw_INV bw_PC yp_m57 bk_108 = true := by decide +kernel
set_option maxRecDepth 10000000 in
theorem bc_109 : bx_chk yp_P [] 1500 bw_INV bw_PC yp_m19 bk_109 = true := by decide +kernel
set_option maxRecDepth 10000000 in
theorem bc_111 : bx_chk yp_P [bk_141, bk_206, bk_260, bk_261] 1500 bw_INV bw_PC yp_m248 bk_111 = true := by decide +kernel
set_option maxRecDepth 10000000 in
theorem bc_113 : bx_chk yp_P [bk_100, bk_142, bk_410, bk_411] 1500 bw_INV bw_PC yp_m211 bk_113 = true := by decide +kernel
set_option maxRecDepth 10000000 in
theorem bc_114 : bx_chk yp_P [bk_142, bk_198] 1500 bw_INV bw_PC yp_m190 bk_114 = true := by decide +kernel
set_option maxRecDepth 10000000 in
theorem bc_116 : bx_chk yp_P [bk_143, bk_184, bk_207] 1500 bw_INV bw_PC yp_m49 bk_116 = true := by decide +kernel
set_option maxRecDepth 10000000 in
theorem bc_117 : bx_chk yp_P [bk_144, bk_364] 1500 bw_INV bw_PC yp_m134 bk_117 = true := by decide +kernel
set_option maxRecDepth 10000000 in
theorem bc_118 : bx_chk yp_P [bk_145] 1500 bw_INV bw_PC yp_m109 bk_118 = true := by decide +kernel
set_option maxRecDepth 10000000 in
theorem bc_119 : bx_chk yp_P [bk_146, bk_184, bk_207] 1500 bw_INV bw_PC yp_m26 bk_119 = true := by decide +kernel
set_option maxRecDepth 10000000 in
theorem bc_120 : bx_chk yp_P [bk_99] 1500 bw_INV bw_PC yp_m262 bk_120 = true := by decide +kernel
set_option maxRecDepth 10000000 in
theorem bc_121 : bx_chk yp_P [] 1500 bw_INV bw_PC yp_m275 bk_121 = true := by decide +kernel
set_option maxRecDepth 10000000 in
theorem bc_122 : bx_chk yp_P [] 1500 bw_INV bw_PC yp_m270 bk_122 = true := by decide +kernel
set_option maxRecDepth 10000000 in
theorem bc_123 : bx_chk yp_P [bk_147] 1500 bw_INV bw_PC yp_m273 bk_123 = true := by decide +kernel
set_option maxRecDepth 10000000 in
theorem bc_124 : bx_chk yp_P [] 1500 bw_INV bw_PC yp_m212 bk_124 = true := by decide +kernel
set_option maxRecDepth 10000000 in
theorem bc_125 : bx_chk yp_P [] 1500 bw_INV bw_PC yp_m212 bk_125 = true := by decide +kernel
set_option maxRecDepth 10000000 in
theorem bc_126 : bx_chk yp_P [bk_148] 1500 bw_INV bw_PC yp_m258 bk_126 = true := by decide +kernel
set_option maxRecDepth 10000000 in
theorem bc_127 : bx_chk yp_P [bk_149] 1500 bw_INV bw_PC yp_m256 bk_127 = true := by decide +kernel
set_option maxRecDepth 10000000 in
theorem bc_128 : bx_chk yp_P [] 1500 bw_INV bw_PC yp_m77 bk_128 = true := by decide +kernel
set_option maxRecDepth 10000000 in
theorem bc_129 : bx_chk yp_P [bk_47, bk_86] 1500 bw_INV bw_PC yp_m135 bk_129 = true := by decide +kernel
set_option maxRecDepth 10000000 in
theorem bc_130 : bx_chk yp_P [bk_150] 1500 bw_INV bw_PC yp_m98 bk_130 = true := by decide +kernel
set_option maxRecDepth 10000000 in
theorem bc_131 : bx_chk yp_P [bk_154] 1500 bw_INV bw_PC yp_m267 bk_131 = true := by decide +kernel
set_option maxRecDepth 10000000 in
theorem bc_132 : bx_chk yp_P [bk_155] 1500 bw_INV bw_PC yp_m207 bk_132 = true := by decide +kernel
set_option maxRecDepth 10000000 in
theorem bc_133 : bx_chk yp_P [bk_156, bk_199] 1500 bw_INV bw_PC yp_m263 bk_133 = true := by decide +kernel
set_option maxRecDepth 10000000 in
theorem bc_134 : bx_chk yp_P [bk_157] 1500 bw_INV bw_PC yp_m232 bk_134 = true := by decide +kernel
set_option maxRecDepth 10000000 in
theorem bc_135 : bx_chk yp_P [bk_158] 1500 bw_INV bw_PC yp_m229 bk_135 = true := by decide +kernel
set_option maxRecDepth 10000000 in
theorem bc_136 : bx_chk yp_P [bk_159] 1500 bw_INV bw_PC yp_m227 bk_136 = true := by decide +kernel
set_option maxRecDepth 10000000 in
theorem bc_137 : bx_chk yp_P [bk_154, bk_156] 1500 bw_INV bw_PC yp_m222 bk_137 = true := by decide +kernel
set_option maxRecDepth 10000000 in
theorem bc_138 : bx_chk yp_P [bk_160] 1500 bw_INV bw_PC yp_m221 bk_138 = true := by decide +kernel
set_option maxRecDepth 10000000 in
theorem bc_139 : bx_chk yp_P [bk_161] 1500 bw_INV bw_PC yp_m219 bk_139 = true := by decide +kernel
set_option maxRecDepth 10000000 in
theorem bc_140 : bx_chk yp_P [bk_162] 1500 bw_INV bw_PC yp_m204 bk_140 = true := by decide +kernel
set_option maxRecDepth 10000000 in
theorem bc_141 : bx_chk yp_P [bk_163] 1500 bw_INV bw_PC yp_m243 bk_141 = true := by decide +kernel
