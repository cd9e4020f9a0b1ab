section BWK
variable {xs : List Int32} {X : sx_W → Prop}
theorem bo_94 (h : bw_H xs X) : bx_Kok yp_P xs bw_INV X bk_94 := bx_chk_K h.1 h.2.1 (List.forall_mem_cons.mpr ⟨bo_121 h, bx_Tnil⟩) (M := yp_m275) rfl bc_94
theorem bo_122 (h : bw_H xs X) : bx_Kok yp_P xs bw_INV X bk_122 := bx_chk_K h.1 h.2.1 bx_Tnil (M := yp_m270) rfl bc_122
theorem bo_95 (h : bw_H xs X) : bx_Kok yp_P xs bw_INV X bk_95 := bx_chk_K h.1 h.2.1 (List.forall_mem_cons.mpr ⟨bo_122 h, bx_Tnil⟩) (M := yp_m270) rfl bc_95
theorem bo_50 (h : bw_H xs X) : bx_Kok yp_P xs bw_INV X bk_50 := bx_chk_K h.1 h.2.1 (List.forall_mem_cons.mpr ⟨bo_93 h, (List.forall_mem_cons.mpr ⟨bo_94 h, (List.forall_mem_cons.mpr ⟨bo_95 h, bx_Tnil⟩)⟩)⟩) (M := yp_m274) rfl bc_50
theorem bo_147 (h : bw_H xs X) : bx_Kok yp_P xs bw_INV X bk_147 := bx_chk_K h.1 h.2.1 bx_Tnil (M := yp_m273) rfl bc_147
theorem bo_123 (h : bw_H xs X) : bx_Kok yp_P xs bw_INV X bk_123 := bx_chk_K h.1 h.2.1 (List.forall_mem_cons.mpr ⟨bo_147 h, bx_Tnil⟩) (M := yp_m273) rfl bc_123
theorem bo_96 (h : bw_H xs X) : bx_Kok yp_P xs bw_INV X bk_96 := bx_chk_K h.1 h.2.1 (List.forall_mem_cons.mpr ⟨bo_123 h, bx_Tnil⟩) (M := yp_m272) rfl bc_96
theorem bo_51 (h : bw_H xs X) : bx_Kok yp_P xs bw_INV X bk_51 := bx_chk_K h.1 h.2.1 (List.forall_mem_cons.mpr ⟨bo_96 h, bx_Tnil⟩) (M := yp_m272) rfl bc_51
theorem bo_124 (h : bw_H xs X) : bx_Kok yp_P xs bw_INV X bk_124 := bx_chk_K h.1 h.2.1 bx_Tnil (M := yp_m212) rfl bc_124
theorem bo_97 (h : bw_H xs X) : bx_Kok yp_P xs bw_INV X bk_97 := bx_chk_K h.1 h.2.1 (List.forall_mem_cons.mpr ⟨bo_124 h, bx_Tnil⟩) (M := yp_m212) rfl bc_97
theorem bo_52 (h : bw_H xs X) : bx_Kok yp_P xs bw_INV X bk_52 := bx_chk_K h.1 h.2.1 (List.forall_mem_cons.mpr ⟨bo_97 h, bx_Tnil⟩) (M := yp_m271) rfl bc_52
theorem bo_98 (h : bw_H xs X) : bx_Kok yp_P xs bw_INV X bk_98 := bx_chk_K h.1 h.2.1 bx_Tnil (M := yp_m212) rfl bc_98
theorem bo_53 (h : bw_H xs X) : bx_Kok yp_P xs bw_INV X bk_53 := bx_chk_K h.1 h.2.1 (List.forall_mem_cons.mpr ⟨bo_98 h, bx_Tnil⟩) (M := yp_m212) rfl bc_53
theorem bo_154 (h : bw_H xs X) : bx_Kok yp_P xs bw_INV X bk_154 := bx_chk_K h.1 h.2.1 bx_Tnil (M := yp_m205) rfl bc_154
theorem bo_131 (h : bw_H xs X) : bx_Kok yp_P xs bw_INV X bk_131 := bx_chk_K h.1 h.2.1 (List.forall_mem_cons.mpr ⟨bo_154 h, bx_Tnil⟩) (M := yp_m267) rfl bc_131
theorem bo_359 (h : bw_H xs X) : bx_Kok yp_P xs bw_INV X bk_359 := bx_chk_K h.1 h.2.1 bx_Tnil (M := yp_m206) rfl bc_359
theorem bo_191 (h : bw_H xs X) : bx_Kok yp_P xs bw_INV X bk_191 := bx_chk_K h.1 h.2.1 (List.forall_mem_cons.mpr ⟨bo_154 h, bx_Tnil⟩) (M := yp_m234) rfl bc_191
theorem bo_186 (h : bw_H xs X) : bx_Kok yp_P xs bw_INV X bk_186 := bx_chk_K h.1 h.2.1 (List.forall_mem_cons.mpr ⟨bo_191 h, bx_Tnil⟩) (M := yp_m234) rfl bc_186
theorem bo_370 (h : bw_H xs X) : bx_Kok yp_P xs bw_INV X bk_370 := bx_chk_K h.1 h.2.1 (List.forall_mem_cons.mpr ⟨bo_186 h, bx_Tnil⟩) (M := yp_m267) rfl bc_370
theorem bo_54 (h : bw_H xs X) : bx_Kok yp_P xs bw_INV X bk_54 := bx_chk_K h.1 h.2.1 (List.forall_mem_cons.mpr ⟨bo_99 h, (List.forall_mem_cons.mpr ⟨bo_131 h, (List.forall_mem_cons.mpr ⟨bo_359 h, (List.forall_mem_cons.mpr ⟨bo_370 h, bx_Tnil⟩)⟩)⟩)⟩) (M := yp_m267) rfl bc_54
theorem bo_55 (h : bw_H xs X) : bx_Kok yp_P xs bw_INV X bk_55 := h.2.2 _ (List.mem_of_getElem? (i := 0) rfl)
theorem bo_155 (h : bw_H xs X) : bx_Kok yp_P xs bw_INV X bk_155 := bx_chk_K h.1 h.2.1 (List.forall_mem_cons.mpr ⟨bo_154 h, bx_Tnil⟩) (M := yp_m207) rfl bc_155
theorem bo_132 (h : bw_H xs X) : bx_Kok yp_P xs bw_INV X bk_132 := bx_chk_K h.1 h.2.1 (List.forall_mem_cons.mpr ⟨bo_155 h, bx_Tnil⟩) (M := yp_m207) rfl bc_132
theorem bo_173 (h : bw_H xs X) : bx_Kok yp_P xs bw_INV X bk_173 := bx_chk_K h.1 h.2.1 bx_Tnil (M := yp_m220) rfl bc_173
theorem bo_156 (h : bw_H xs X) : bx_Kok yp_P xs bw_INV X bk_156 := bx_chk_K h.1 h.2.1 (List.forall_mem_cons.mpr ⟨bo_173 h, bx_Tnil⟩) (M := yp_m220) rfl bc_156
theorem bo_199 (h : bw_H xs X) : bx_Kok yp_P xs bw_INV X bk_199 := bx_chk_K h.1 h.2.1 bx_Tnil (M := yp_m199) rfl bc_199
theorem bo_133 (h : bw_H xs X) : bx_Kok yp_P xs bw_INV X bk_133 := bx_chk_K h.1 h.2.1 (List.forall_mem_cons.mpr ⟨bo_156 h, (List.forall_mem_cons.mpr ⟨bo_199 h, bx_Tnil⟩)⟩) (M := yp_m263) rfl bc_133
theorem bo_56 (h : bw_H xs X) : bx_Kok yp_P xs bw_INV X bk_56 := bx_chk_K h.1 h.2.1 (List.forall_mem_cons.mpr ⟨bo_99 h, (List.forall_mem_cons.mpr ⟨bo_132 h, (List.forall_mem_cons.mpr ⟨bo_133 h, bx_Tnil⟩)⟩)⟩) (M := yp_m263) rfl bc_56
theorem bo_125 (h : bw_H xs X) : bx_Kok yp_P xs bw_INV X bk_125 := bx_chk_K h.1 h.2.1 bx_Tnil (M := yp_m212) rfl bc_125
theorem bo_100 (h : bw_H xs X) : bx_Kok yp_P xs bw_INV X bk_100 := bx_chk_K h.1 h.2.1 (List.forall_mem_cons.mpr ⟨bo_125 h, bx_Tnil⟩) (M := yp_m212) rfl bc_100
theorem bo_162 (h : bw_H xs X) : bx_Kok yp_P xs bw_INV X bk_162 := bx_chk_K h.1 h.2.1 (List.forall_mem_cons.mpr ⟨bo_154 h, bx_Tnil⟩) (M := yp_m204) rfl bc_162
theorem bo_140 (h : bw_H xs X) : bx_Kok yp_P xs bw_INV X bk_140 := bx_chk_K h.1 h.2.1 (List.forall_mem_cons.mpr ⟨bo_162 h, bx_Tnil⟩) (M := yp_m204) rfl bc_140
theorem bo_185 (h : bw_H xs X) : bx_Kok yp_P xs bw_INV X bk_185 := bx_chk_K h.1 h.2.1 bx_Tnil (M := yp_m203) rfl bc_185
theorem bo_172 (h : bw_H xs X) : bx_Kok yp_P xs bw_INV X bk_172 := bx_chk_K h.1 h.2.1 (List.forall_mem_cons.mpr ⟨bo_140 h, (List.forall_mem_cons.mpr ⟨bo_185 h, bx_Tnil⟩)⟩) (M := yp_m203) rfl bc_172
theorem bo_153 (h : bw_H xs X) : bx_Kok yp_P xs bw_INV X bk_153 := bx_chk_K h.1 h.2.1 (List.forall_mem_cons.mpr ⟨bo_132 h, (List.forall_mem_cons.mpr ⟨bo_172 h, (List.forall_mem_cons.mpr ⟨bo_359 h, bx_Tnil⟩)⟩)⟩) (M := yp_m202) rfl bc_153
theorem bo_220 (h : bw_H xs X) : bx_Kok yp_P xs bw_INV X bk_220 := bx_chk_K h.1 h.2.1 bx_Tnil (M := yp_m210) rfl bc_220
theorem bo_372 (h : bw_H xs X) : bx_Kok yp_P xs bw_INV X bk_372 := h.2.2 _ (List.mem_of_getElem? (i := 9) rfl)
theorem bo_225 (h : bw_H xs X) : bx_Kok yp_P xs bw_INV X bk_225 := bx_chk_K h.1 h.2.1 (List.forall_mem_cons.mpr ⟨bo_153 h, (List.forall_mem_cons.mpr ⟨bo_199 h, (List.forall_mem_cons.mpr ⟨bo_220 h, (List.forall_mem_cons.mpr ⟨bo_372 h, bx_Tnil⟩)⟩)⟩)⟩) (M := yp_m260) rfl bc_225
theorem bo_169 (h : bw_H xs X) : bx_Kok yp_P xs bw_INV X bk_169 := bx_chk_K h.1 h.2.1 (List.forall_mem_cons.mpr ⟨bo_225 h, bx_Tnil⟩) (M := yp_m259) rfl bc_169
theorem bo_367 (h : bw_H xs X) : bx_Kok yp_P xs bw_INV X bk_367 := h.2.2 _ (List.mem_of_getElem? (i := 7) rfl)
theorem bo_368 (h : bw_H xs X) : bx_Kok yp_P xs bw_INV X bk_368 := h.2.2 _ (List.mem_of_getElem? (i := 8) rfl)
theorem bo_357 (h : bw_H xs X) : bx_Kok yp_P xs bw_INV X bk_357 := bx_chk_K h.1 h.2.1 (List.forall_mem_cons.mpr ⟨bo_99 h, (List.forall_mem_cons.mpr ⟨bo_172 h, (List.forall_mem_cons.mpr ⟨bo_199 h, (List.forall_mem_cons.mpr ⟨bo_367 h, (List.forall_mem_cons.mpr ⟨bo_368 h, bx_Tnil⟩)⟩)⟩)⟩)⟩) (M := yp_m259) rfl bc_357
theorem bo_148 (h : bw_H xs X) : bx_Kok yp_P xs bw_INV X bk_148 := bx_chk_K h.1 h.2.1 (List.forall_mem_cons.mpr ⟨bo_169 h, (List.forall_mem_cons.mpr ⟨bo_357 h, bx_Tnil⟩)⟩) (M := yp_m259) rfl bc_148
theorem bo_126 (h : bw_H xs X) : bx_Kok yp_P xs bw_INV X bk_126 := bx_chk_K h.1 h.2.1 (List.forall_mem_cons.mpr ⟨bo_148 h, bx_Tnil⟩) (M := yp_m258) rfl bc_126
theorem bo_101 (h : bw_H xs X) : bx_Kok yp_P xs bw_INV X bk_101 := bx_chk_K h.1 h.2.1 (List.forall_mem_cons.mpr ⟨bo_126 h, bx_Tnil⟩) (M := yp_m258) rfl bc_101
theorem bo_412 (h : bw_H xs X) : bx_Kok yp_P xs bw_INV X bk_412 := bx_chk_K h.1 h.2.1 bx_Tnil (M := yp_m212) rfl bc_412
theorem bo_411 (h : bw_H xs X) : bx_Kok yp_P xs bw_INV X bk_411 := bx_chk_K h.1 h.2.1 (List.forall_mem_cons.mpr ⟨bo_412 h, bx_Tnil⟩) (M := yp_m212) rfl bc_411
theorem bo_57 (h : bw_H xs X) : bx_Kok yp_P xs bw_INV X bk_57 := bx_chk_K h.1 h.2.1 (List.forall_mem_cons.mpr ⟨bo_93 h, (List.forall_mem_cons.mpr ⟨bo_99 h, (List.forall_mem_cons.mpr ⟨bo_100 h, (List.forall_mem_cons.mpr ⟨bo_101 h, (List.forall_mem_cons.mpr ⟨bo_140 h, (List.forall_mem_cons.mpr ⟨bo_411 h, bx_Tnil⟩)⟩)⟩)⟩)⟩)⟩) (M := yp_m261) rfl bc_57
theorem bo_58 (h : bw_H xs X) : bx_Kok yp_P xs bw_INV X bk_58 := bx_chk_K h.1 h.2.1 (List.forall_mem_cons.mpr ⟨bo_101 h, bx_Tnil⟩) (M := yp_m257) rfl bc_58
theorem bo_102 (h : bw_H xs X) : bx_Kok yp_P xs bw_INV X bk_102 := bx_chk_K h.1 h.2.1 bx_Tnil (M := yp_m235) rfl bc_102
theorem bo_59 (h : bw_H xs X) : bx_Kok yp_P xs bw_INV X bk_59 := bx_chk_K h.1 h.2.1 (List.forall_mem_cons.mpr ⟨bo_102 h, bx_Tnil⟩) (M := yp_m235) rfl bc_59
theorem bo_180 (h : bw_H xs X) : bx_Kok yp_P xs bw_INV X bk_180 := bx_chk_K h.1 h.2.1 bx_Tnil (M := yp_m254) rfl bc_180
theorem bo_170 (h : bw_H xs X) : bx_Kok yp_P xs bw_INV X bk_170 := bx_chk_K h.1 h.2.1 (List.forall_mem_cons.mpr ⟨bo_180 h, bx_Tnil⟩) (M := yp_m254) rfl bc_170
theorem bo_149 (h : bw_H xs X) : bx_Kok yp_P xs bw_INV X bk_149 := bx_chk_K h.1 h.2.1 (List.forall_mem_cons.mpr ⟨bo_170 h, bx_Tnil⟩) (M := yp_m256) rfl bc_149
theorem bo_127 (h : bw_H xs X) : bx_Kok yp_P xs bw_INV X bk_127 := bx_chk_K h.1 h.2.1 (List.forall_mem_cons.mpr ⟨bo_149 h, bx_Tnil⟩) (M := yp_m256) rfl bc_127
theorem bo_374 (h : bw_H xs X) : bx_Kok yp_P xs bw_INV X bk_374 := bx_chk_K h.1 h.2.1 (List.forall_mem_cons.mpr ⟨bo_170 h, bx_Tnil⟩) (M := yp_m255) rfl bc_374
theorem bo_365 (h : bw_H xs X) : bx_Kok yp_P xs bw_INV X bk_365 := bx_chk_K h.1 h.2.1 (List.forall_mem_cons.mpr ⟨bo_374 h, bx_Tnil⟩) (M := yp_m255) rfl bc_365
theorem bo_171 (h : bw_H xs X) : bx_Kok yp_P xs bw_INV X bk_171 := bx_chk_K h.1 h.2.1 (List.forall_mem_cons.mpr ⟨bo_170 h, (List.forall_mem_cons.mpr ⟨bo_365 h, bx_Tnil⟩)⟩) (M := yp_m253) rfl bc_171
theorem bo_151 (h : bw_H xs X) : bx_Kok yp_P xs bw_INV X bk_151 := bx_chk_K h.1 h.2.1 (List.forall_mem_cons.mpr ⟨bo_171 h, bx_Tnil⟩) (M := yp_m253) rfl bc_151
theorem bo_103 (h : bw_H xs X) : bx_Kok yp_P xs bw_INV X bk_103 := bx_chk_K h.1 h.2.1 (List.forall_mem_cons.mpr ⟨bo_127 h, (List.forall_mem_cons.mpr ⟨bo_151 h, (List.forall_mem_cons.mpr ⟨bo_365 h, bx_Tnil⟩)⟩)⟩) (M := yp_m252) rfl bc_103
theorem bo_60 (h : bw_H xs X) : bx_Kok yp_P xs bw_INV X bk_60 := bx_chk_K h.1 h.2.1 (List.forall_mem_cons.mpr ⟨bo_103 h, (List.forall_mem_cons.mpr ⟨bo_151 h, (List.forall_mem_cons.mpr ⟨bo_170 h, (List.forall_mem_cons.mpr ⟨bo_365 h, bx_Tnil⟩)⟩)⟩)⟩) (M := yp_m252) rfl bc_60
theorem bo_61 (h : bw_H xs X) : bx_Kok yp_P xs bw_INV X bk_61 := h.2.2 _ (List.mem_of_getElem? (i := 1) rfl)
theorem bo_363 (h : bw_H xs X) : bx_Kok yp_P xs bw_INV X bk_363 := bx_chk_K h.1 h.2.1 bx_Tnil (M := yp_m236) rfl bc_363
theorem bo_152 (h : bw_H xs X) : bx_Kok yp_P xs bw_INV X bk_152 := h.2.2 _ (List.mem_of_getElem? (i := 5) rfl)
theorem bo_428 (h : bw_H xs X) : bx_Kok yp_P xs bw_INV X bk_428 := bx_chk_K h.1 h.2.1 (List.forall_mem_cons.mpr ⟨bo_199 h, bx_Tnil⟩) (M := yp_m237) rfl bc_428
theorem bo_427 (h : bw_H xs X) : bx_Kok yp_P xs bw_INV X bk_427 := bx_chk_K h.1 h.2.1 (List.forall_mem_cons.mpr ⟨bo_428 h, bx_Tnil⟩) (M := yp_m237) rfl bc_427
theorem bo_426 (h : bw_H xs X) : bx_Kok yp_P xs bw_INV X bk_426 := bx_chk_K h.1 h.2.1 (List.forall_mem_cons.mpr ⟨bo_152 h, (List.forall_mem_cons.mpr ⟨bo_153 h, (List.forall_mem_cons.mpr ⟨bo_368 h, (List.forall_mem_cons.mpr ⟨bo_427 h, bx_Tnil⟩)⟩)⟩)⟩) (M := yp_m236) rfl bc_426
theorem bo_62 (h : bw_H xs X) : bx_Kok yp_P xs bw_INV X bk_62 := bx_chk_K h.1 h.2.1 (List.forall_mem_cons.mpr ⟨bo_99 h, (List.forall_mem_cons.mpr ⟨bo_132 h, (List.forall_mem_cons.mpr ⟨bo_363 h, (List.forall_mem_cons.mpr ⟨bo_426 h, bx_Tnil⟩)⟩)⟩)⟩) (M := yp_m236) rfl bc_62
theorem bo_174 (h : bw_H xs X) : bx_Kok yp_P xs bw_INV X bk_174 := bx_chk_K h.1 h.2.1 (List.forall_mem_cons.mpr ⟨bo_186 h, bx_Tnil⟩) (M := yp_m233) rfl bc_174
theorem bo_157 (h : bw_H xs X) : bx_Kok yp_P xs bw_INV X bk_157 := bx_chk_K h.1 h.2.1 (List.forall_mem_cons.mpr ⟨bo_174 h, bx_Tnil⟩) (M := yp_m233) rfl bc_157
theorem bo_134 (h : bw_H xs X) : bx_Kok yp_P xs bw_INV X bk_134 := bx_chk_K h.1 h.2.1 (List.forall_mem_cons.mpr ⟨bo_157 h, bx_Tnil⟩) (M := yp_m232) rfl bc_134
theorem bo_63 (h : bw_H xs X) : bx_Kok yp_P xs bw_INV X bk_63 := bx_chk_K h.1 h.2.1 (List.forall_mem_cons.mpr ⟨bo_99 h, (List.forall_mem_cons.mpr ⟨bo_134 h, bx_Tnil⟩)⟩) (M := yp_m232) rfl bc_63
theorem bo_176 (h : bw_H xs X) : bx_Kok yp_P xs bw_INV X bk_176 := bx_chk_K h.1 h.2.1 (List.forall_mem_cons.mpr ⟨bo_99 h, (List.forall_mem_cons.mpr ⟨bo_154 h, bx_Tnil⟩)⟩) (M := yp_m228) rfl bc_176
theorem bo_175 (h : bw_H xs X) : bx_Kok yp_P xs bw_INV X bk_175 := bx_chk_K h.1 h.2.1 (List.forall_mem_cons.mpr ⟨bo_176 h, bx_Tnil⟩) (M := yp_m230) rfl bc_175
theorem bo_158 (h : bw_H xs X) : bx_Kok yp_P xs bw_INV X bk_158 := bx_chk_K h.1 h.2.1 (List.forall_mem_cons.mpr ⟨bo_175 h, bx_Tnil⟩) (M := yp_m230) rfl bc_158
theorem bo_135 (h : bw_H xs X) : bx_Kok yp_P xs bw_INV X bk_135 := bx_chk_K h.1 h.2.1 (List.forall_mem_cons.mpr ⟨bo_158 h, bx_Tnil⟩) (M := yp_m229) rfl bc_135
theorem bo_340 (h : bw_H xs X) : bx_Kok yp_P xs bw_INV X bk_340 := bx_chk_K h.1 h.2.1 (List.forall_mem_cons.mpr ⟨bo_99 h, (List.forall_mem_cons.mpr ⟨bo_176 h, bx_Tnil⟩)⟩) (M := yp_m231) rfl bc_340
theorem bo_330 (h : bw_H xs X) : bx_Kok yp_P xs bw_INV X bk_330 := bx_chk_K h.1 h.2.1 (List.forall_mem_cons.mpr ⟨bo_340 h, bx_Tnil⟩) (M := yp_m231) rfl bc_330
theorem bo_320 (h : bw_H xs X) : bx_Kok yp_P xs bw_INV X bk_320 := bx_chk_K h.1 h.2.1 (List.forall_mem_cons.mpr ⟨bo_330 h, bx_Tnil⟩) (M := yp_m231) rfl bc_320
theorem bo_312 (h : bw_H xs X) : bx_Kok yp_P xs bw_INV X bk_312 := bx_chk_K h.1 h.2.1 (List.forall_mem_cons.mpr ⟨bo_320 h, (List.forall_mem_cons.mpr ⟨bo_359 h, bx_Tnil⟩)⟩) (M := yp_m229) rfl bc_312
theorem bo_64 (h : bw_H xs X) : bx_Kok yp_P xs bw_INV X bk_64 := bx_chk_K h.1 h.2.1 (List.forall_mem_cons.mpr ⟨bo_99 h, (List.forall_mem_cons.mpr ⟨bo_135 h, (List.forall_mem_cons.mpr ⟨bo_312 h, (List.forall_mem_cons.mpr ⟨bo_359 h, bx_Tnil⟩)⟩)⟩)⟩) (M := yp_m229) rfl bc_64
theorem bo_159 (h : bw_H xs X) : bx_Kok yp_P xs bw_INV X bk_159 := bx_chk_K h.1 h.2.1 (List.forall_mem_cons.mpr ⟨bo_176 h, bx_Tnil⟩) (M := yp_m227) rfl bc_159
theorem bo_136 (h : bw_H xs X) : bx_Kok yp_P xs bw_INV X bk_136 := bx_chk_K h.1 h.2.1 (List.forall_mem_cons.mpr ⟨bo_159 h, bx_Tnil⟩) (M := yp_m227) rfl bc_136
theorem bo_65 (h : bw_H xs X) : bx_Kok yp_P xs bw_INV X bk_65 := bx_chk_K h.1 h.2.1 (List.forall_mem_cons.mpr ⟨bo_99 h, (List.forall_mem_cons.mpr ⟨bo_136 h, bx_Tnil⟩)⟩) (M := yp_m227) rfl bc_65
theorem bo_66 (h : bw_H xs X) : bx_Kok yp_P xs bw_INV X bk_66 := bx_chk_K h.1 h.2.1 (List.forall_mem_cons.mpr ⟨bo_99 h, (List.forall_mem_cons.mpr ⟨bo_152 h, bx_Tnil⟩)⟩) (M := yp_m226) rfl bc_66
theorem bo_67 (h : bw_H xs X) : bx_Kok yp_P xs bw_INV X bk_67 := bx_chk_K h.1 h.2.1 (List.forall_mem_cons.mpr ⟨bo_99 h, (List.forall_mem_cons.mpr ⟨bo_153 h, (List.forall_mem_cons.mpr ⟨bo_368 h, bx_Tnil⟩)⟩)⟩) (M := yp_m223) rfl bc_67
theorem bo_137 (h : bw_H xs X) : bx_Kok yp_P xs bw_INV X bk_137 := bx_chk_K h.1 h.2.1 (List.forall_mem_cons.mpr ⟨bo_154 h, (List.forall_mem_cons.mpr ⟨bo_156 h, bx_Tnil⟩)⟩) (M := yp_m222) rfl bc_137
theorem bo_68 (h : bw_H xs X) : bx_Kok yp_P xs bw_INV X bk_68 := bx_chk_K h.1 h.2.1 (List.forall_mem_cons.mpr ⟨bo_99 h, (List.forall_mem_cons.mpr ⟨bo_137 h, bx_Tnil⟩)⟩) (M := yp_m222) rfl bc_68
theorem bo_160 (h : bw_H xs X) : bx_Kok yp_P xs bw_INV X bk_160 := bx_chk_K h.1 h.2.1 bx_Tnil (M := yp_m221) rfl bc_160
theorem bo_138 (h : bw_H xs X) : bx_Kok yp_P xs bw_INV X bk_138 := bx_chk_K h.1 h.2.1 (List.forall_mem_cons.mpr ⟨bo_160 h, bx_Tnil⟩) (M := yp_m221) rfl bc_138
theorem bo_161 (h : bw_H xs X) : bx_Kok yp_P xs bw_INV X bk_161 := bx_chk_K h.1 h.2.1 (List.forall_mem_cons.mpr ⟨bo_156 h, bx_Tnil⟩) (M := yp_m219) rfl bc_161
theorem bo_139 (h : bw_H xs X) : bx_Kok yp_P xs bw_INV X bk_139 := bx_chk_K h.1 h.2.1 (List.forall_mem_cons.mpr ⟨bo_161 h, bx_Tnil⟩) (M := yp_m219) rfl bc_139
theorem bo_69 (h : bw_H xs X) : bx_Kok yp_P xs bw_INV X bk_69 := bx_chk_K h.1 h.2.1 (List.forall_mem_cons.mpr ⟨bo_99 h, (List.forall_mem_cons.mpr ⟨bo_132 h, (List.forall_mem_cons.mpr ⟨bo_138 h, (List.forall_mem_cons.mpr ⟨bo_139 h, (List.forall_mem_cons.mpr ⟨bo_140 h, bx_Tnil⟩)⟩)⟩)⟩)⟩) (M := yp_m218) rfl bc_69
theorem bo_70 (h : bw_H xs X) : bx_Kok yp_P xs bw_INV X bk_70 := bx_chk_K h.1 h.2.1 bx_Tnil (M := yp_m217) rfl bc_70
theorem bo_71 (h : bw_H xs X) : bx_Kok yp_P xs bw_INV X bk_71 := bx_chk_K h.1 h.2.1 (List.forall_mem_cons.mpr ⟨bo_99 h, bx_Tnil⟩) (M := yp_m163) rfl bc_71
theorem bo_110 (h : bw_H xs X) : bx_Kok yp_P xs bw_INV X bk_110 := h.2.2 _ (List.mem_of_getElem? (i := 2) rfl)
theorem bo_177 (h : bw_H xs X) : bx_Kok yp_P xs bw_INV X bk_177 := bx_chk_K h.1 h.2.1 bx_Tnil (M := yp_m243) rfl bc_177
theorem bo_163 (h : bw_H xs X) : bx_Kok yp_P xs bw_INV X bk_163 := bx_chk_K h.1 h.2.1 (List.forall_mem_cons.mpr ⟨bo_177 h, bx_Tnil⟩) (M := yp_m243) rfl bc_163
theorem bo_141 (h : bw_H xs X) : bx_Kok yp_P xs bw_INV X bk_141 := bx_chk_K h.1 h.2.1 (List.forall_mem_cons.mpr ⟨bo_163 h, bx_Tnil⟩) (M := yp_m243) rfl bc_141
theorem bo_216 (h : bw_H xs X) : bx_Kok yp_P xs bw_INV X bk_216 := bx_chk_K h.1 h.2.1 bx_Tnil (M := yp_m248) rfl bc_216
theorem bo_206 (h : bw_H xs X) : bx_Kok yp_P xs bw_INV X bk_206 := bx_chk_K h.1 h.2.1 (List.forall_mem_cons.mpr ⟨bo_216 h, bx_Tnil⟩) (M := yp_m248) rfl bc_206
theorem bo_260 (h : bw_H xs X) : bx_Kok yp_P xs bw_INV X bk_260 := h.2.2 _ (List.mem_of_getElem? (i := 6) rfl)
theorem bo_261 (h : bw_H xs X) : bx_Kok yp_P xs bw_INV X bk_261 := bx_chk_K h.1 h.2.1 bx_Tnil (M := yp_m248) rfl bc_261
theorem bo_111 (h : bw_H xs X) : bx_Kok yp_P xs bw_INV X bk_111 := bx_chk_K h.1 h.2.1 (List.forall_mem_cons.mpr ⟨bo_141 h, (List.forall_mem_cons.mpr ⟨bo_206 h, (List.forall_mem_cons.mpr ⟨bo_260 h, (List.forall_mem_cons.mpr ⟨bo_261 h, bx_Tnil⟩)⟩)⟩)⟩) (M := yp_m248) rfl bc_111
theorem bo_112 (h : bw_H xs X) : bx_Kok yp_P xs bw_INV X bk_112 := h.2.2 _ (List.mem_of_getElem? (i := 3) rfl)
theorem bo_178 (h : bw_H xs X) : bx_Kok yp_P xs bw_INV X bk_178 := bx_chk_K h.1 h.2.1 bx_Tnil (M := yp_m193) rfl bc_178
theorem bo_189 (h : bw_H xs X) : bx_Kok yp_P xs bw_INV X bk_189 := bx_chk_K h.1 h.2.1 bx_Tnil (M := yp_m193) rfl bc_189
theorem bo_164 (h : bw_H xs X) : bx_Kok yp_P xs bw_INV X bk_164 := bx_chk_K h.1 h.2.1 (List.forall_mem_cons.mpr ⟨bo_178 h, (List.forall_mem_cons.mpr ⟨bo_189 h, bx_Tnil⟩)⟩) (M := yp_m192) rfl bc_164
theorem bo_193 (h : bw_H xs X) : bx_Kok yp_P xs bw_INV X bk_193 := bx_chk_K h.1 h.2.1 (List.forall_mem_cons.mpr ⟨bo_178 h, (List.forall_mem_cons.mpr ⟨bo_189 h, bx_Tnil⟩)⟩) (M := yp_m192) rfl bc_193
theorem bo_208 (h : bw_H xs X) : bx_Kok yp_P xs bw_INV X bk_208 := bx_chk_K h.1 h.2.1 (List.forall_mem_cons.mpr ⟨bo_178 h, (List.forall_mem_cons.mpr ⟨bo_189 h, bx_Tnil⟩)⟩) (M := yp_m192) rfl bc_208
theorem bo_224 (h : bw_H xs X) : bx_Kok yp_P xs bw_INV X bk_224 := bx_chk_K h.1 h.2.1 (List.forall_mem_cons.mpr ⟨bo_178 h, (List.forall_mem_cons.mpr ⟨bo_189 h, bx_Tnil⟩)⟩) (M := yp_m192) rfl bc_224
theorem bo_248 (h : bw_H xs X) : bx_Kok yp_P xs bw_INV X bk_248 := bx_chk_K h.1 h.2.1 (List.forall_mem_cons.mpr ⟨bo_178 h, (List.forall_mem_cons.mpr ⟨bo_189 h, bx_Tnil⟩)⟩) (M := yp_m192) rfl bc_248
theorem bo_273 (h : bw_H xs X) : bx_Kok yp_P xs bw_INV X bk_273 := bx_chk_K h.1 h.2.1 (List.forall_mem_cons.mpr ⟨bo_178 h, (List.forall_mem_cons.mpr ⟨bo_189 h, bx_Tnil⟩)⟩) (M := yp_m192) rfl bc_273
theorem bo_290 (h : bw_H xs X) : bx_Kok yp_P xs bw_INV X bk_290 := bx_chk_K h.1 h.2.1 (List.forall_mem_cons.mpr ⟨bo_178 h, (List.forall_mem_cons.mpr ⟨bo_189 h, bx_Tnil⟩)⟩) (M := yp_m192) rfl bc_290
theorem bo_302 (h : bw_H xs X) : bx_Kok yp_P xs bw_INV X bk_302 := bx_chk_K h.1 h.2.1 (List.forall_mem_cons.mpr ⟨bo_178 h, (List.forall_mem_cons.mpr ⟨bo_189 h, bx_Tnil⟩)⟩) (M := yp_m192) rfl bc_302
theorem bo_313 (h : bw_H xs X) : bx_Kok yp_P xs bw_INV X bk_313 := bx_chk_K h.1 h.2.1 (List.forall_mem_cons.mpr ⟨bo_178 h, (List.forall_mem_cons.mpr ⟨bo_189 h, bx_Tnil⟩)⟩) (M := yp_m192) rfl bc_313
theorem bo_326 (h : bw_H xs X) : bx_Kok yp_P xs bw_INV X bk_326 := bx_chk_K h.1 h.2.1 (List.forall_mem_cons.mpr ⟨bo_178 h, (List.forall_mem_cons.mpr ⟨bo_189 h, bx_Tnil⟩)⟩) (M := yp_m192) rfl bc_326
theorem bo_342 (h : bw_H xs X) : bx_Kok yp_P xs bw_INV X bk_342 := bx_chk_K h.1 h.2.1 (List.forall_mem_cons.mpr ⟨bo_178 h, (List.forall_mem_cons.mpr ⟨bo_189 h, bx_Tnil⟩)⟩) (M := yp_m192) rfl bc_342
theorem bo_355 (h : bw_H xs X) : bx_Kok yp_P xs bw_INV X bk_355 := bx_chk_K h.1 h.2.1 (List.forall_mem_cons.mpr ⟨bo_178 h, (List.forall_mem_cons.mpr ⟨bo_189 h, bx_Tnil⟩)⟩) (M := yp_m192) rfl bc_355
theorem bo_371 (h : bw_H xs X) : bx_Kok yp_P xs bw_INV X bk_371 := bx_chk_K h.1 h.2.1 (List.forall_mem_cons.mpr ⟨bo_178 h, (List.forall_mem_cons.mpr ⟨bo_189 h, bx_Tnil⟩)⟩) (M := yp_m192) rfl bc_371
theorem bo_376 (h : bw_H xs X) : bx_Kok yp_P xs bw_INV X bk_376 := bx_chk_K h.1 h.2.1 (List.forall_mem_cons.mpr ⟨bo_178 h, (List.forall_mem_cons.mpr ⟨bo_189 h, bx_Tnil⟩)⟩) (M := yp_m192) rfl bc_376
theorem bo_379 (h : bw_H xs X) : bx_Kok yp_P xs bw_INV X bk_379 := bx_chk_K h.1 h.2.1 (List.forall_mem_cons.mpr ⟨bo_178 h, (List.forall_mem_cons.mpr ⟨bo_189 h, bx_Tnil⟩)⟩) (M := yp_m192) rfl bc_379
theorem bo_384 (h : bw_H xs X) : bx_Kok yp_P xs bw_INV X bk_384 := bx_chk_K h.1 h.2.1 (List.forall_mem_cons.mpr ⟨bo_178 h, (List.forall_mem_cons.mpr ⟨bo_189 h, bx_Tnil⟩)⟩) (M := yp_m192) rfl bc_384
theorem bo_390 (h : bw_H xs X) : bx_Kok yp_P xs bw_INV X bk_390 := bx_chk_K h.1 h.2.1 bx_Tnil (M := yp_m192) rfl bc_390
theorem bo_142 (h : bw_H xs X) : bx_Kok yp_P xs bw_INV X bk_142 := bx_chk_K h.1 h.2.1 (List.forall_mem_cons.mpr ⟨bo_164 h, (List.forall_mem_cons.mpr ⟨bo_193 h, (List.forall_mem_cons.mpr ⟨bo_208 h, (List.forall_mem_cons.mpr ⟨bo_224 h, (List.forall_mem_cons.mpr ⟨bo_248 h, (List.forall_mem_cons.mpr ⟨bo_273 h, (List.forall_mem_cons.mpr ⟨bo_290 h, (List.forall_mem_cons.mpr ⟨bo_302 h, (List.forall_mem_cons.mpr ⟨bo_313 h, (List.forall_mem_cons.mpr ⟨bo_326 h, (List.forall_mem_cons.mpr ⟨bo_342 h, (List.forall_mem_cons.mpr ⟨bo_355 h, (List.forall_mem_cons.mpr ⟨bo_371 h, (List.forall_mem_cons.mpr ⟨bo_376 h, (List.forall_mem_cons.mpr ⟨bo_379 h, (List.forall_mem_cons.mpr ⟨bo_384 h, (List.forall_mem_cons.mpr ⟨bo_390 h, bx_Tnil⟩)⟩)⟩)⟩)⟩)⟩)⟩)⟩)⟩)⟩)⟩)⟩)⟩)⟩)⟩)⟩)⟩) (M := yp_m191) rfl bc_142
theorem bo_219 (h : bw_H xs X) : bx_Kok yp_P xs bw_INV X bk_219 := bx_chk_K h.1 h.2.1 (List.forall_mem_cons.mpr ⟨bo_199 h, bx_Tnil⟩) (M := yp_m197) rfl bc_219
theorem bo_211 (h : bw_H xs X) : bx_Kok yp_P xs bw_INV X bk_211 := bx_chk_K h.1 h.2.1 (List.forall_mem_cons.mpr ⟨bo_99 h, (List.forall_mem_cons.mpr ⟨bo_152 h, (List.forall_mem_cons.mpr ⟨bo_199 h, (List.forall_mem_cons.mpr ⟨bo_219 h, (List.forall_mem_cons.mpr ⟨bo_220 h, bx_Tnil⟩)⟩)⟩)⟩)⟩) (M := yp_m195) rfl bc_211
theorem bo_410 (h : bw_H xs X) : bx_Kok yp_P xs bw_INV X bk_410 := bx_chk_K h.1 h.2.1 (List.forall_mem_cons.mpr ⟨bo_211 h, bx_Tnil⟩) (M := yp_m211) rfl bc_410
theorem bo_113 (h : bw_H xs X) : bx_Kok yp_P xs bw_INV X bk_113 := bx_chk_K h.1 h.2.1 (List.forall_mem_cons.mpr ⟨bo_100 h, (List.forall_mem_cons.mpr ⟨bo_142 h, (List.forall_mem_cons.mpr ⟨bo_410 h, (List.forall_mem_cons.mpr ⟨bo_411 h, bx_Tnil⟩)⟩)⟩)⟩) (M := yp_m211) rfl bc_113
theorem bo_198 (h : bw_H xs X) : bx_Kok yp_P xs bw_INV X bk_198 := bx_chk_K h.1 h.2.1 (List.forall_mem_cons.mpr ⟨bo_211 h, bx_Tnil⟩) (M := yp_m190) rfl bc_198
theorem bo_114 (h : bw_H xs X) : bx_Kok yp_P xs bw_INV X bk_114 := bx_chk_K h.1 h.2.1 (List.forall_mem_cons.mpr ⟨bo_142 h, (List.forall_mem_cons.mpr ⟨bo_198 h, bx_Tnil⟩)⟩) (M := yp_m190) rfl bc_114
theorem bo_115 (h : bw_H xs X) : bx_Kok yp_P xs bw_INV X bk_115 := h.2.2 _ (List.mem_of_getElem? (i := 4) rfl)
end BWK
