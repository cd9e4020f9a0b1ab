/-! contracts of the reader that need none of those by hand, and those that need one: printed out of 24a-c (wip/gen/gxall.py) -/
section BWP
variable {xs : List Int32} {X : sx_W → Prop}
def bw_H1 (xs : List Int32) (X : sx_W → Prop) : Prop := xs.length ≤ 4096 ∧ bx_keeps xs bw_PC X
theorem bp_154 (h : bw_H1 xs X) : bx_Kok yp_P xs bw_INV X bk_154 := bx_chk_K h.1 h.2 bx_Tnil (M := yp_m205) rfl bc_154
theorem bp_155 (h : bw_H1 xs X) : bx_Kok yp_P xs bw_INV X bk_155 := bx_chk_K h.1 h.2 (List.forall_mem_cons.mpr ⟨bp_154 h, bx_Tnil⟩) (M := yp_m207) rfl bc_155
theorem bp_132 (h : bw_H1 xs X) : bx_Kok yp_P xs bw_INV X bk_132 := bx_chk_K h.1 h.2 (List.forall_mem_cons.mpr ⟨bp_155 h, bx_Tnil⟩) (M := yp_m207) rfl bc_132
theorem bp_162 (h : bw_H1 xs X) : bx_Kok yp_P xs bw_INV X bk_162 := bx_chk_K h.1 h.2 (List.forall_mem_cons.mpr ⟨bp_154 h, bx_Tnil⟩) (M := yp_m204) rfl bc_162
theorem bp_140 (h : bw_H1 xs X) : bx_Kok yp_P xs bw_INV X bk_140 := bx_chk_K h.1 h.2 (List.forall_mem_cons.mpr ⟨bp_162 h, bx_Tnil⟩) (M := yp_m204) rfl bc_140
theorem bp_185 (h : bw_H1 xs X) : bx_Kok yp_P xs bw_INV X bk_185 := bx_chk_K h.1 h.2 bx_Tnil (M := yp_m203) rfl bc_185
theorem bp_172 (h : bw_H1 xs X) : bx_Kok yp_P xs bw_INV X bk_172 := bx_chk_K h.1 h.2 (List.forall_mem_cons.mpr ⟨bp_140 h, (List.forall_mem_cons.mpr ⟨bp_185 h, bx_Tnil⟩)⟩) (M := yp_m203) rfl bc_172
theorem bp_359 (h : bw_H1 xs X) : bx_Kok yp_P xs bw_INV X bk_359 := bx_chk_K h.1 h.2 bx_Tnil (M := yp_m206) rfl bc_359
theorem bp_153 (h : bw_H1 xs X) : bx_Kok yp_P xs bw_INV X bk_153 := bx_chk_K h.1 h.2 (List.forall_mem_cons.mpr ⟨bp_132 h, (List.forall_mem_cons.mpr ⟨bp_172 h, (List.forall_mem_cons.mpr ⟨bp_359 h, bx_Tnil⟩)⟩)⟩) (M := yp_m202) rfl bc_153
theorem bp_177 (h : bw_H1 xs X) : bx_Kok yp_P xs bw_INV X bk_177 := bx_chk_K h.1 h.2 bx_Tnil (M := yp_m243) rfl bc_177
theorem bp_163 (h : bw_H1 xs X) : bx_Kok yp_P xs bw_INV X bk_163 := bx_chk_K h.1 h.2 (List.forall_mem_cons.mpr ⟨bp_177 h, bx_Tnil⟩) (M := yp_m243) rfl bc_163
theorem bp_141 (h : bw_H1 xs X) : bx_Kok yp_P xs bw_INV X bk_141 := bx_chk_K h.1 h.2 (List.forall_mem_cons.mpr ⟨bp_163 h, bx_Tnil⟩) (M := yp_m243) rfl bc_141
theorem bp_178 (h : bw_H1 xs X) : bx_Kok yp_P xs bw_INV X bk_178 := bx_chk_K h.1 h.2 bx_Tnil (M := yp_m193) rfl bc_178
theorem bp_189 (h : bw_H1 xs X) : bx_Kok yp_P xs bw_INV X bk_189 := bx_chk_K h.1 h.2 bx_Tnil (M := yp_m193) rfl bc_189
theorem bp_164 (h : bw_H1 xs X) : bx_Kok yp_P xs bw_INV X bk_164 := bx_chk_K h.1 h.2 (List.forall_mem_cons.mpr ⟨bp_178 h, (List.forall_mem_cons.mpr ⟨bp_189 h, bx_Tnil⟩)⟩) (M := yp_m192) rfl bc_164
theorem bp_193 (h : bw_H1 xs X) : bx_Kok yp_P xs bw_INV X bk_193 := bx_chk_K h.1 h.2 (List.forall_mem_cons.mpr ⟨bp_178 h, (List.forall_mem_cons.mpr ⟨bp_189 h, bx_Tnil⟩)⟩) (M := yp_m192) rfl bc_193
theorem bp_208 (h : bw_H1 xs X) : bx_Kok yp_P xs bw_INV X bk_208 := bx_chk_K h.1 h.2 (List.forall_mem_cons.mpr ⟨bp_178 h, (List.forall_mem_cons.mpr ⟨bp_189 h, bx_Tnil⟩)⟩) (M := yp_m192) rfl bc_208
theorem bp_224 (h : bw_H1 xs X) : bx_Kok yp_P xs bw_INV X bk_224 := bx_chk_K h.1 h.2 (List.forall_mem_cons.mpr ⟨bp_178 h, (List.forall_mem_cons.mpr ⟨bp_189 h, bx_Tnil⟩)⟩) (M := yp_m192) rfl bc_224
theorem bp_248 (h : bw_H1 xs X) : bx_Kok yp_P xs bw_INV X bk_248 := bx_chk_K h.1 h.2 (List.forall_mem_cons.mpr ⟨bp_178 h, (List.forall_mem_cons.mpr ⟨bp_189 h, bx_Tnil⟩)⟩) (M := yp_m192) rfl bc_248
theorem bp_273 (h : bw_H1 xs X) : bx_Kok yp_P xs bw_INV X bk_273 := bx_chk_K h.1 h.2 (List.forall_mem_cons.mpr ⟨bp_178 h, (List.forall_mem_cons.mpr ⟨bp_189 h, bx_Tnil⟩)⟩) (M := yp_m192) rfl bc_273
theorem bp_290 (h : bw_H1 xs X) : bx_Kok yp_P xs bw_INV X bk_290 := bx_chk_K h.1 h.2 (List.forall_mem_cons.mpr ⟨bp_178 h, (List.forall_mem_cons.mpr ⟨bp_189 h, bx_Tnil⟩)⟩) (M := yp_m192) rfl bc_290
theorem bp_302 (h : bw_H1 xs X) : bx_Kok yp_P xs bw_INV X bk_302 := bx_chk_K h.1 h.2 (List.forall_mem_cons.mpr ⟨bp_178 h, (List.forall_mem_cons.mpr ⟨bp_189 h, bx_Tnil⟩)⟩) (M := yp_m192) rfl bc_302
theorem bp_313 (h : bw_H1 xs X) : bx_Kok yp_P xs bw_INV X bk_313 := bx_chk_K h.1 h.2 (List.forall_mem_cons.mpr ⟨bp_178 h, (List.forall_mem_cons.mpr ⟨bp_189 h, bx_Tnil⟩)⟩) (M := yp_m192) rfl bc_313
theorem bp_326 (h : bw_H1 xs X) : bx_Kok yp_P xs bw_INV X bk_326 := bx_chk_K h.1 h.2 (List.forall_mem_cons.mpr ⟨bp_178 h, (List.forall_mem_cons.mpr ⟨bp_189 h, bx_Tnil⟩)⟩) (M := yp_m192) rfl bc_326
theorem bp_342 (h : bw_H1 xs X) : bx_Kok yp_P xs bw_INV X bk_342 := bx_chk_K h.1 h.2 (List.forall_mem_cons.mpr ⟨bp_178 h, (List.forall_mem_cons.mpr ⟨bp_189 h, bx_Tnil⟩)⟩) (M := yp_m192) rfl bc_342
theorem bp_355 (h : bw_H1 xs X) : bx_Kok yp_P xs bw_INV X bk_355 := bx_chk_K h.1 h.2 (List.forall_mem_cons.mpr ⟨bp_178 h, (List.forall_mem_cons.mpr ⟨bp_189 h, bx_Tnil⟩)⟩) (M := yp_m192) rfl bc_355
theorem bp_371 (h : bw_H1 xs X) : bx_Kok yp_P xs bw_INV X bk_371 := bx_chk_K h.1 h.2 (List.forall_mem_cons.mpr ⟨bp_178 h, (List.forall_mem_cons.mpr ⟨bp_189 h, bx_Tnil⟩)⟩) (M := yp_m192) rfl bc_371
theorem bp_376 (h : bw_H1 xs X) : bx_Kok yp_P xs bw_INV X bk_376 := bx_chk_K h.1 h.2 (List.forall_mem_cons.mpr ⟨bp_178 h, (List.forall_mem_cons.mpr ⟨bp_189 h, bx_Tnil⟩)⟩) (M := yp_m192) rfl bc_376
theorem bp_379 (h : bw_H1 xs X) : bx_Kok yp_P xs bw_INV X bk_379 := bx_chk_K h.1 h.2 (List.forall_mem_cons.mpr ⟨bp_178 h, (List.forall_mem_cons.mpr ⟨bp_189 h, bx_Tnil⟩)⟩) (M := yp_m192) rfl bc_379
theorem bp_384 (h : bw_H1 xs X) : bx_Kok yp_P xs bw_INV X bk_384 := bx_chk_K h.1 h.2 (List.forall_mem_cons.mpr ⟨bp_178 h, (List.forall_mem_cons.mpr ⟨bp_189 h, bx_Tnil⟩)⟩) (M := yp_m192) rfl bc_384
theorem bp_390 (h : bw_H1 xs X) : bx_Kok yp_P xs bw_INV X bk_390 := bx_chk_K h.1 h.2 bx_Tnil (M := yp_m192) rfl bc_390
theorem bp_142 (h : bw_H1 xs X) : bx_Kok yp_P xs bw_INV X bk_142 := bx_chk_K h.1 h.2 (List.forall_mem_cons.mpr ⟨bp_164 h, (List.forall_mem_cons.mpr ⟨bp_193 h, (List.forall_mem_cons.mpr ⟨bp_208 h, (List.forall_mem_cons.mpr ⟨bp_224 h, (List.forall_mem_cons.mpr ⟨bp_248 h, (List.forall_mem_cons.mpr ⟨bp_273 h, (List.forall_mem_cons.mpr ⟨bp_290 h, (List.forall_mem_cons.mpr ⟨bp_302 h, (List.forall_mem_cons.mpr ⟨bp_313 h, (List.forall_mem_cons.mpr ⟨bp_326 h, (List.forall_mem_cons.mpr ⟨bp_342 h, (List.forall_mem_cons.mpr ⟨bp_355 h, (List.forall_mem_cons.mpr ⟨bp_371 h, (List.forall_mem_cons.mpr ⟨bp_376 h, (List.forall_mem_cons.mpr ⟨bp_379 h, (List.forall_mem_cons.mpr ⟨bp_384 h, (List.forall_mem_cons.mpr ⟨bp_390 h, bx_Tnil⟩)⟩)⟩)⟩)⟩)⟩)⟩)⟩)⟩)⟩)⟩)⟩)⟩)⟩)⟩)⟩)⟩) (M := yp_m191) rfl bc_142
theorem bp_98 (h : bw_H1 xs X) : bx_Kok yp_P xs bw_INV X bk_98 := bx_chk_K h.1 h.2 bx_Tnil (M := yp_m212) rfl bc_98
theorem bp_53 (h : bw_H1 xs X) : bx_Kok yp_P xs bw_INV X bk_53 := bx_chk_K h.1 h.2 (List.forall_mem_cons.mpr ⟨bp_98 h, bx_Tnil⟩) (M := yp_m212) rfl bc_53
theorem bp_124 (h : bw_H1 xs X) : bx_Kok yp_P xs bw_INV X bk_124 := bx_chk_K h.1 h.2 bx_Tnil (M := yp_m212) rfl bc_124
theorem bp_97 (h : bw_H1 xs X) : bx_Kok yp_P xs bw_INV X bk_97 := bx_chk_K h.1 h.2 (List.forall_mem_cons.mpr ⟨bp_124 h, bx_Tnil⟩) (M := yp_m212) rfl bc_97
theorem bp_125 (h : bw_H1 xs X) : bx_Kok yp_P xs bw_INV X bk_125 := bx_chk_K h.1 h.2 bx_Tnil (M := yp_m212) rfl bc_125
theorem bp_100 (h : bw_H1 xs X) : bx_Kok yp_P xs bw_INV X bk_100 := bx_chk_K h.1 h.2 (List.forall_mem_cons.mpr ⟨bp_125 h, bx_Tnil⟩) (M := yp_m212) rfl bc_100
theorem bp_412 (h : bw_H1 xs X) : bx_Kok yp_P xs bw_INV X bk_412 := bx_chk_K h.1 h.2 bx_Tnil (M := yp_m212) rfl bc_412
theorem bp_411 (h : bw_H1 xs X) : bx_Kok yp_P xs bw_INV X bk_411 := bx_chk_K h.1 h.2 (List.forall_mem_cons.mpr ⟨bp_412 h, bx_Tnil⟩) (M := yp_m212) rfl bc_411
theorem bq_99 (h : bw_H1 xs X) (hB : bx_Kok yp_P xs bw_INV X bk_152) : bx_Kok yp_P xs bw_INV X bk_99 := bx_chk_K h.1 h.2 bx_Tnil (M := yp_m165) rfl bc_99
theorem bq_199 (h : bw_H1 xs X) (hB : bx_Kok yp_P xs bw_INV X bk_152) : bx_Kok yp_P xs bw_INV X bk_199 := bx_chk_K h.1 h.2 bx_Tnil (M := yp_m199) rfl bc_199
theorem bq_219 (h : bw_H1 xs X) (hB : bx_Kok yp_P xs bw_INV X bk_152) : bx_Kok yp_P xs bw_INV X bk_219 := bx_chk_K h.1 h.2 (List.forall_mem_cons.mpr ⟨bq_199 h hB, bx_Tnil⟩) (M := yp_m197) rfl bc_219
theorem bq_220 (h : bw_H1 xs X) (hB : bx_Kok yp_P xs bw_INV X bk_152) : bx_Kok yp_P xs bw_INV X bk_220 := bx_chk_K h.1 h.2 bx_Tnil (M := yp_m210) rfl bc_220
theorem bq_211 (h : bw_H1 xs X) (hB : bx_Kok yp_P xs bw_INV X bk_152) : bx_Kok yp_P xs bw_INV X bk_211 := bx_chk_K h.1 h.2 (List.forall_mem_cons.mpr ⟨bq_99 h hB, (List.forall_mem_cons.mpr ⟨hB, (List.forall_mem_cons.mpr ⟨bq_199 h hB, (List.forall_mem_cons.mpr ⟨bq_219 h hB, (List.forall_mem_cons.mpr ⟨bq_220 h hB, bx_Tnil⟩)⟩)⟩)⟩)⟩) (M := yp_m195) rfl bc_211
end BWP
