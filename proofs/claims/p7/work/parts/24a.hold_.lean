section
/-! the contracts hold, one behind another, where those by hand do -/
def bw_hand : List bx_K := [bk_55, bk_61, bk_110, bk_112, bk_115, bk_152, bk_260, bk_367, bk_368, bk_372]
theorem bx_Tnil {p : bx_K → Prop} : ∀ K ∈ ([] : List bx_K), p K := fun _ h => by cases h
section BWK
variable {xs : List Int32} {X : sx_W → Prop}
noncomputable def bw_H (xs : List Int32) (X : sx_W → Prop) : Prop := xs.length ≤ 4096 ∧ bx_keeps xs bw_PC X ∧ ∀ K ∈ bw_hand, bx_Kok yp_P xs bw_INV X K
theorem bo_73 (h : bw_H xs X) : bx_Kok yp_P xs bw_INV X bk_73 := bx_chk_K h.1 h.2.1 bx_Tnil (M := yp_m138) rfl bc_73
theorem bo_28 (h : bw_H xs X) : bx_Kok yp_P xs bw_INV X bk_28 := bx_chk_K h.1 h.2.1 (List.forall_mem_cons.mpr ⟨bo_73 h, bx_Tnil⟩) (M := yp_m138) rfl bc_28
theorem bo_74 (h : bw_H xs X) : bx_Kok yp_P xs bw_INV X bk_74 := bx_chk_K h.1 h.2.1 bx_Tnil (M := yp_m159) rfl bc_74
theorem bo_29 (h : bw_H xs X) : bx_Kok yp_P xs bw_INV X bk_29 := bx_chk_K h.1 h.2.1 (List.forall_mem_cons.mpr ⟨bo_74 h, bx_Tnil⟩) (M := yp_m159) rfl bc_29
theorem bo_0 (h : bw_H xs X) : bx_Kok yp_P xs bw_INV X bk_0 := bx_chk_K h.1 h.2.1 (List.forall_mem_cons.mpr ⟨bo_28 h, (List.forall_mem_cons.mpr ⟨bo_29 h, bx_Tnil⟩)⟩) (M := yp_m158) rfl bc_0
theorem bo_30 (h : bw_H xs X) : bx_Kok yp_P xs bw_INV X bk_30 := bx_chk_K h.1 h.2.1 bx_Tnil (M := yp_m25) rfl bc_30
theorem bo_87 (h : bw_H xs X) : bx_Kok yp_P xs bw_INV X bk_87 := bx_chk_K h.1 h.2.1 (List.forall_mem_cons.mpr ⟨bo_30 h, bx_Tnil⟩) (M := yp_m156) rfl bc_87
theorem bo_1 (h : bw_H xs X) : bx_Kok yp_P xs bw_INV X bk_1 := bx_chk_K h.1 h.2.1 (List.forall_mem_cons.mpr ⟨bo_30 h, (List.forall_mem_cons.mpr ⟨bo_87 h, bx_Tnil⟩)⟩) (M := yp_m156) rfl bc_1
theorem bo_72 (h : bw_H xs X) : bx_Kok yp_P xs bw_INV X bk_72 := bx_chk_K h.1 h.2.1 bx_Tnil (M := yp_m71) rfl bc_72
theorem bo_2 (h : bw_H xs X) : bx_Kok yp_P xs bw_INV X bk_2 := bx_chk_K h.1 h.2.1 (List.forall_mem_cons.mpr ⟨bo_72 h, bx_Tnil⟩) (M := yp_m155) rfl bc_2
theorem bo_3 (h : bw_H xs X) : bx_Kok yp_P xs bw_INV X bk_3 := bx_chk_K h.1 h.2.1 bx_Tnil (M := yp_m71) rfl bc_3
theorem bo_76 (h : bw_H xs X) : bx_Kok yp_P xs bw_INV X bk_76 := bx_chk_K h.1 h.2.1 bx_Tnil (M := yp_m60) rfl bc_76
theorem bo_33 (h : bw_H xs X) : bx_Kok yp_P xs bw_INV X bk_33 := bx_chk_K h.1 h.2.1 (List.forall_mem_cons.mpr ⟨bo_76 h, bx_Tnil⟩) (M := yp_m60) rfl bc_33
theorem bo_150 (h : bw_H xs X) : bx_Kok yp_P xs bw_INV X bk_150 := bx_chk_K h.1 h.2.1 bx_Tnil (M := yp_m98) rfl bc_150
theorem bo_130 (h : bw_H xs X) : bx_Kok yp_P xs bw_INV X bk_130 := bx_chk_K h.1 h.2.1 (List.forall_mem_cons.mpr ⟨bo_150 h, bx_Tnil⟩) (M := yp_m98) rfl bc_130
theorem bo_338 (h : bw_H xs X) : bx_Kok yp_P xs bw_INV X bk_338 := bx_chk_K h.1 h.2.1 bx_Tnil (M := yp_m64) rfl bc_338
theorem bo_325 (h : bw_H xs X) : bx_Kok yp_P xs bw_INV X bk_325 := bx_chk_K h.1 h.2.1 (List.forall_mem_cons.mpr ⟨bo_338 h, bx_Tnil⟩) (M := yp_m64) rfl bc_325
theorem bo_332 (h : bw_H xs X) : bx_Kok yp_P xs bw_INV X bk_332 := bx_chk_K h.1 h.2.1 (List.forall_mem_cons.mpr ⟨bo_130 h, bx_Tnil⟩) (M := yp_m152) rfl bc_332
theorem bo_31 (h : bw_H xs X) : bx_Kok yp_P xs bw_INV X bk_31 := bx_chk_K h.1 h.2.1 (List.forall_mem_cons.mpr ⟨bo_33 h, (List.forall_mem_cons.mpr ⟨bo_130 h, (List.forall_mem_cons.mpr ⟨bo_325 h, (List.forall_mem_cons.mpr ⟨bo_332 h, bx_Tnil⟩)⟩)⟩)⟩) (M := yp_m152) rfl bc_31
theorem bo_4 (h : bw_H xs X) : bx_Kok yp_P xs bw_INV X bk_4 := bx_chk_K h.1 h.2.1 (List.forall_mem_cons.mpr ⟨bo_31 h, bx_Tnil⟩) (M := yp_m151) rfl bc_4
theorem bo_75 (h : bw_H xs X) : bx_Kok yp_P xs bw_INV X bk_75 := bx_chk_K h.1 h.2.1 bx_Tnil (M := yp_m146) rfl bc_75
theorem bo_128 (h : bw_H xs X) : bx_Kok yp_P xs bw_INV X bk_128 := bx_chk_K h.1 h.2.1 bx_Tnil (M := yp_m77) rfl bc_128
theorem bo_104 (h : bw_H xs X) : bx_Kok yp_P xs bw_INV X bk_104 := bx_chk_K h.1 h.2.1 (List.forall_mem_cons.mpr ⟨bo_128 h, bx_Tnil⟩) (M := yp_m77) rfl bc_104
theorem bo_229 (h : bw_H xs X) : bx_Kok yp_P xs bw_INV X bk_229 := bx_chk_K h.1 h.2.1 bx_Tnil (M := yp_m147) rfl bc_229
theorem bo_214 (h : bw_H xs X) : bx_Kok yp_P xs bw_INV X bk_214 := bx_chk_K h.1 h.2.1 (List.forall_mem_cons.mpr ⟨bo_229 h, bx_Tnil⟩) (M := yp_m147) rfl bc_214
theorem bo_204 (h : bw_H xs X) : bx_Kok yp_P xs bw_INV X bk_204 := bx_chk_K h.1 h.2.1 (List.forall_mem_cons.mpr ⟨bo_104 h, (List.forall_mem_cons.mpr ⟨bo_214 h, bx_Tnil⟩)⟩) (M := yp_m146) rfl bc_204
theorem bo_407 (h : bw_H xs X) : bx_Kok yp_P xs bw_INV X bk_407 := bx_chk_K h.1 h.2.1 bx_Tnil (M := yp_m148) rfl bc_407
theorem bo_404 (h : bw_H xs X) : bx_Kok yp_P xs bw_INV X bk_404 := bx_chk_K h.1 h.2.1 (List.forall_mem_cons.mpr ⟨bo_407 h, bx_Tnil⟩) (M := yp_m148) rfl bc_404
theorem bo_402 (h : bw_H xs X) : bx_Kok yp_P xs bw_INV X bk_402 := bx_chk_K h.1 h.2.1 (List.forall_mem_cons.mpr ⟨bo_404 h, bx_Tnil⟩) (M := yp_m146) rfl bc_402
theorem bo_400 (h : bw_H xs X) : bx_Kok yp_P xs bw_INV X bk_400 := bx_chk_K h.1 h.2.1 (List.forall_mem_cons.mpr ⟨bo_402 h, bx_Tnil⟩) (M := yp_m146) rfl bc_400
theorem bo_32 (h : bw_H xs X) : bx_Kok yp_P xs bw_INV X bk_32 := bx_chk_K h.1 h.2.1 (List.forall_mem_cons.mpr ⟨bo_75 h, (List.forall_mem_cons.mpr ⟨bo_204 h, (List.forall_mem_cons.mpr ⟨bo_400 h, bx_Tnil⟩)⟩)⟩) (M := yp_m146) rfl bc_32
theorem bo_423 (h : bw_H xs X) : bx_Kok yp_P xs bw_INV X bk_423 := bx_chk_K h.1 h.2.1 bx_Tnil (M := yp_m150) rfl bc_423
theorem bo_422 (h : bw_H xs X) : bx_Kok yp_P xs bw_INV X bk_422 := bx_chk_K h.1 h.2.1 (List.forall_mem_cons.mpr ⟨bo_423 h, bx_Tnil⟩) (M := yp_m150) rfl bc_422
theorem bo_421 (h : bw_H xs X) : bx_Kok yp_P xs bw_INV X bk_421 := bx_chk_K h.1 h.2.1 (List.forall_mem_cons.mpr ⟨bo_422 h, bx_Tnil⟩) (M := yp_m149) rfl bc_421
theorem bo_419 (h : bw_H xs X) : bx_Kok yp_P xs bw_INV X bk_419 := bx_chk_K h.1 h.2.1 (List.forall_mem_cons.mpr ⟨bo_421 h, bx_Tnil⟩) (M := yp_m149) rfl bc_419
theorem bo_5 (h : bw_H xs X) : bx_Kok yp_P xs bw_INV X bk_5 := bx_chk_K h.1 h.2.1 (List.forall_mem_cons.mpr ⟨bo_32 h, (List.forall_mem_cons.mpr ⟨bo_419 h, bx_Tnil⟩)⟩) (M := yp_m145) rfl bc_5
theorem bo_77 (h : bw_H xs X) : bx_Kok yp_P xs bw_INV X bk_77 := bx_chk_K h.1 h.2.1 (List.forall_mem_cons.mpr ⟨bo_104 h, bx_Tnil⟩) (M := yp_m76) rfl bc_77
theorem bo_34 (h : bw_H xs X) : bx_Kok yp_P xs bw_INV X bk_34 := bx_chk_K h.1 h.2.1 (List.forall_mem_cons.mpr ⟨bo_77 h, bx_Tnil⟩) (M := yp_m76) rfl bc_34
theorem bo_360 (h : bw_H xs X) : bx_Kok yp_P xs bw_INV X bk_360 := bx_chk_K h.1 h.2.1 bx_Tnil (M := yp_m144) rfl bc_360
theorem bo_349 (h : bw_H xs X) : bx_Kok yp_P xs bw_INV X bk_349 := bx_chk_K h.1 h.2.1 (List.forall_mem_cons.mpr ⟨bo_360 h, bx_Tnil⟩) (M := yp_m144) rfl bc_349
theorem bo_6 (h : bw_H xs X) : bx_Kok yp_P xs bw_INV X bk_6 := bx_chk_K h.1 h.2.1 (List.forall_mem_cons.mpr ⟨bo_33 h, (List.forall_mem_cons.mpr ⟨bo_34 h, (List.forall_mem_cons.mpr ⟨bo_325 h, (List.forall_mem_cons.mpr ⟨bo_349 h, bx_Tnil⟩)⟩)⟩)⟩) (M := yp_m143) rfl bc_6
theorem bo_35 (h : bw_H xs X) : bx_Kok yp_P xs bw_INV X bk_35 := bx_chk_K h.1 h.2.1 bx_Tnil (M := yp_m23) rfl bc_35
theorem bo_36 (h : bw_H xs X) : bx_Kok yp_P xs bw_INV X bk_36 := bx_chk_K h.1 h.2.1 bx_Tnil (M := yp_m71) rfl bc_36
theorem bo_165 (h : bw_H xs X) : bx_Kok yp_P xs bw_INV X bk_165 := bx_chk_K h.1 h.2.1 bx_Tnil (M := yp_m29) rfl bc_165
theorem bo_168 (h : bw_H xs X) : bx_Kok yp_P xs bw_INV X bk_168 := bx_chk_K h.1 h.2.1 (List.forall_mem_cons.mpr ⟨bo_30 h, bx_Tnil⟩) (M := yp_m30) rfl bc_168
theorem bo_166 (h : bw_H xs X) : bx_Kok yp_P xs bw_INV X bk_166 := bx_chk_K h.1 h.2.1 (List.forall_mem_cons.mpr ⟨bo_168 h, bx_Tnil⟩) (M := yp_m35) rfl bc_166
theorem bo_188 (h : bw_H xs X) : bx_Kok yp_P xs bw_INV X bk_188 := bx_chk_K h.1 h.2.1 (List.forall_mem_cons.mpr ⟨bo_165 h, (List.forall_mem_cons.mpr ⟨bo_166 h, (List.forall_mem_cons.mpr ⟨bo_168 h, bx_Tnil⟩)⟩)⟩) (M := yp_m52) rfl bc_188
theorem bo_143 (h : bw_H xs X) : bx_Kok yp_P xs bw_INV X bk_143 := bx_chk_K h.1 h.2.1 (List.forall_mem_cons.mpr ⟨bo_165 h, (List.forall_mem_cons.mpr ⟨bo_166 h, (List.forall_mem_cons.mpr ⟨bo_168 h, (List.forall_mem_cons.mpr ⟨bo_188 h, bx_Tnil⟩)⟩)⟩)⟩) (M := yp_m50) rfl bc_143
theorem bo_184 (h : bw_H xs X) : bx_Kok yp_P xs bw_INV X bk_184 := bx_chk_K h.1 h.2.1 (List.forall_mem_cons.mpr ⟨bo_165 h, (List.forall_mem_cons.mpr ⟨bo_168 h, bx_Tnil⟩)⟩) (M := yp_m37) rfl bc_184
theorem bo_207 (h : bw_H xs X) : bx_Kok yp_P xs bw_INV X bk_207 := bx_chk_K h.1 h.2.1 bx_Tnil (M := yp_m46) rfl bc_207
theorem bo_116 (h : bw_H xs X) : bx_Kok yp_P xs bw_INV X bk_116 := bx_chk_K h.1 h.2.1 (List.forall_mem_cons.mpr ⟨bo_143 h, (List.forall_mem_cons.mpr ⟨bo_184 h, (List.forall_mem_cons.mpr ⟨bo_207 h, bx_Tnil⟩)⟩)⟩) (M := yp_m49) rfl bc_116
theorem bo_88 (h : bw_H xs X) : bx_Kok yp_P xs bw_INV X bk_88 := bx_chk_K h.1 h.2.1 (List.forall_mem_cons.mpr ⟨bo_116 h, bx_Tnil⟩) (M := yp_m49) rfl bc_88
theorem bo_389 (h : bw_H xs X) : bx_Kok yp_P xs bw_INV X bk_389 := bx_chk_K h.1 h.2.1 bx_Tnil (M := yp_m60) rfl bc_389
theorem bo_385 (h : bw_H xs X) : bx_Kok yp_P xs bw_INV X bk_385 := bx_chk_K h.1 h.2.1 (List.forall_mem_cons.mpr ⟨bo_389 h, bx_Tnil⟩) (M := yp_m60) rfl bc_385
theorem bo_416 (h : bw_H xs X) : bx_Kok yp_P xs bw_INV X bk_416 := bx_chk_K h.1 h.2.1 bx_Tnil (M := yp_m64) rfl bc_416
theorem bo_414 (h : bw_H xs X) : bx_Kok yp_P xs bw_INV X bk_414 := bx_chk_K h.1 h.2.1 (List.forall_mem_cons.mpr ⟨bo_416 h, bx_Tnil⟩) (M := yp_m64) rfl bc_414
theorem bo_383 (h : bw_H xs X) : bx_Kok yp_P xs bw_INV X bk_383 := bx_chk_K h.1 h.2.1 (List.forall_mem_cons.mpr ⟨bo_385 h, (List.forall_mem_cons.mpr ⟨bo_414 h, bx_Tnil⟩)⟩) (M := yp_m59) rfl bc_383
theorem bo_388 (h : bw_H xs X) : bx_Kok yp_P xs bw_INV X bk_388 := bx_chk_K h.1 h.2.1 bx_Tnil (M := yp_m65) rfl bc_388
theorem bo_392 (h : bw_H xs X) : bx_Kok yp_P xs bw_INV X bk_392 := bx_chk_K h.1 h.2.1 bx_Tnil (M := yp_m66) rfl bc_392
theorem bo_381 (h : bw_H xs X) : bx_Kok yp_P xs bw_INV X bk_381 := bx_chk_K h.1 h.2.1 (List.forall_mem_cons.mpr ⟨bo_383 h, (List.forall_mem_cons.mpr ⟨bo_388 h, (List.forall_mem_cons.mpr ⟨bo_392 h, bx_Tnil⟩)⟩)⟩) (M := yp_m58) rfl bc_381
theorem bo_378 (h : bw_H xs X) : bx_Kok yp_P xs bw_INV X bk_378 := bx_chk_K h.1 h.2.1 (List.forall_mem_cons.mpr ⟨bo_381 h, bx_Tnil⟩) (M := yp_m58) rfl bc_378
theorem bo_192 (h : bw_H xs X) : bx_Kok yp_P xs bw_INV X bk_192 := bx_chk_K h.1 h.2.1 (List.forall_mem_cons.mpr ⟨bo_378 h, bx_Tnil⟩) (M := yp_m57) rfl bc_192
theorem bo_187 (h : bw_H xs X) : bx_Kok yp_P xs bw_INV X bk_187 := bx_chk_K h.1 h.2.1 (List.forall_mem_cons.mpr ⟨bo_192 h, bx_Tnil⟩) (M := yp_m57) rfl bc_187
theorem bo_287 (h : bw_H xs X) : bx_Kok yp_P xs bw_INV X bk_287 := bx_chk_K h.1 h.2.1 (List.forall_mem_cons.mpr ⟨bo_187 h, bx_Tnil⟩) (M := yp_m55) rfl bc_287
theorem bo_276 (h : bw_H xs X) : bx_Kok yp_P xs bw_INV X bk_276 := bx_chk_K h.1 h.2.1 (List.forall_mem_cons.mpr ⟨bo_287 h, bx_Tnil⟩) (M := yp_m54) rfl bc_276
theorem bo_291 (h : bw_H xs X) : bx_Kok yp_P xs bw_INV X bk_291 := bx_chk_K h.1 h.2.1 bx_Tnil (M := yp_m141) rfl bc_291
theorem bo_306 (h : bw_H xs X) : bx_Kok yp_P xs bw_INV X bk_306 := bx_chk_K h.1 h.2.1 bx_Tnil (M := yp_m69) rfl bc_306
theorem bo_300 (h : bw_H xs X) : bx_Kok yp_P xs bw_INV X bk_300 := bx_chk_K h.1 h.2.1 (List.forall_mem_cons.mpr ⟨bo_306 h, bx_Tnil⟩) (M := yp_m68) rfl bc_300
theorem bo_309 (h : bw_H xs X) : bx_Kok yp_P xs bw_INV X bk_309 := bx_chk_K h.1 h.2.1 bx_Tnil (M := yp_m19) rfl bc_309
theorem bo_310 (h : bw_H xs X) : bx_Kok yp_P xs bw_INV X bk_310 := bx_chk_K h.1 h.2.1 (List.forall_mem_cons.mpr ⟨bo_309 h, bx_Tnil⟩) (M := yp_m16) rfl bc_310
theorem bo_292 (h : bw_H xs X) : bx_Kok yp_P xs bw_INV X bk_292 := bx_chk_K h.1 h.2.1 (List.forall_mem_cons.mpr ⟨bo_300 h, (List.forall_mem_cons.mpr ⟨bo_309 h, (List.forall_mem_cons.mpr ⟨bo_310 h, bx_Tnil⟩)⟩)⟩) (M := yp_m67) rfl bc_292
theorem bo_329 (h : bw_H xs X) : bx_Kok yp_P xs bw_INV X bk_329 := bx_chk_K h.1 h.2.1 bx_Tnil (M := yp_m142) rfl bc_329
theorem bo_375 (h : bw_H xs X) : bx_Kok yp_P xs bw_INV X bk_375 := bx_chk_K h.1 h.2.1 bx_Tnil (M := yp_m140) rfl bc_375
theorem bo_369 (h : bw_H xs X) : bx_Kok yp_P xs bw_INV X bk_369 := bx_chk_K h.1 h.2.1 (List.forall_mem_cons.mpr ⟨bo_276 h, (List.forall_mem_cons.mpr ⟨bo_291 h, (List.forall_mem_cons.mpr ⟨bo_292 h, (List.forall_mem_cons.mpr ⟨bo_329 h, (List.forall_mem_cons.mpr ⟨bo_375 h, bx_Tnil⟩)⟩)⟩)⟩)⟩) (M := yp_m140) rfl bc_369
theorem bo_362 (h : bw_H xs X) : bx_Kok yp_P xs bw_INV X bk_362 := bx_chk_K h.1 h.2.1 (List.forall_mem_cons.mpr ⟨bo_369 h, bx_Tnil⟩) (M := yp_m140) rfl bc_362
theorem bo_353 (h : bw_H xs X) : bx_Kok yp_P xs bw_INV X bk_353 := bx_chk_K h.1 h.2.1 (List.forall_mem_cons.mpr ⟨bo_276 h, (List.forall_mem_cons.mpr ⟨bo_291 h, (List.forall_mem_cons.mpr ⟨bo_292 h, (List.forall_mem_cons.mpr ⟨bo_329 h, (List.forall_mem_cons.mpr ⟨bo_362 h, bx_Tnil⟩)⟩)⟩)⟩)⟩) (M := yp_m140) rfl bc_353
theorem bo_348 (h : bw_H xs X) : bx_Kok yp_P xs bw_INV X bk_348 := bx_chk_K h.1 h.2.1 (List.forall_mem_cons.mpr ⟨bo_353 h, bx_Tnil⟩) (M := yp_m140) rfl bc_348
theorem bo_341 (h : bw_H xs X) : bx_Kok yp_P xs bw_INV X bk_341 := bx_chk_K h.1 h.2.1 (List.forall_mem_cons.mpr ⟨bo_276 h, (List.forall_mem_cons.mpr ⟨bo_291 h, (List.forall_mem_cons.mpr ⟨bo_292 h, (List.forall_mem_cons.mpr ⟨bo_329 h, (List.forall_mem_cons.mpr ⟨bo_348 h, bx_Tnil⟩)⟩)⟩)⟩)⟩) (M := yp_m140) rfl bc_341
theorem bo_331 (h : bw_H xs X) : bx_Kok yp_P xs bw_INV X bk_331 := bx_chk_K h.1 h.2.1 (List.forall_mem_cons.mpr ⟨bo_341 h, bx_Tnil⟩) (M := yp_m140) rfl bc_331
theorem bo_322 (h : bw_H xs X) : bx_Kok yp_P xs bw_INV X bk_322 := bx_chk_K h.1 h.2.1 (List.forall_mem_cons.mpr ⟨bo_276 h, (List.forall_mem_cons.mpr ⟨bo_291 h, (List.forall_mem_cons.mpr ⟨bo_292 h, (List.forall_mem_cons.mpr ⟨bo_329 h, (List.forall_mem_cons.mpr ⟨bo_331 h, bx_Tnil⟩)⟩)⟩)⟩)⟩) (M := yp_m140) rfl bc_322
theorem bo_317 (h : bw_H xs X) : bx_Kok yp_P xs bw_INV X bk_317 := bx_chk_K h.1 h.2.1 (List.forall_mem_cons.mpr ⟨bo_322 h, bx_Tnil⟩) (M := yp_m140) rfl bc_317
theorem bo_311 (h : bw_H xs X) : bx_Kok yp_P xs bw_INV X bk_311 := bx_chk_K h.1 h.2.1 (List.forall_mem_cons.mpr ⟨bo_276 h, (List.forall_mem_cons.mpr ⟨bo_291 h, (List.forall_mem_cons.mpr ⟨bo_292 h, (List.forall_mem_cons.mpr ⟨bo_317 h, (List.forall_mem_cons.mpr ⟨bo_329 h, bx_Tnil⟩)⟩)⟩)⟩)⟩) (M := yp_m140) rfl bc_311
theorem bo_304 (h : bw_H xs X) : bx_Kok yp_P xs bw_INV X bk_304 := bx_chk_K h.1 h.2.1 (List.forall_mem_cons.mpr ⟨bo_311 h, bx_Tnil⟩) (M := yp_m140) rfl bc_304
theorem bo_262 (h : bw_H xs X) : bx_Kok yp_P xs bw_INV X bk_262 := bx_chk_K h.1 h.2.1 (List.forall_mem_cons.mpr ⟨bo_276 h, (List.forall_mem_cons.mpr ⟨bo_291 h, (List.forall_mem_cons.mpr ⟨bo_292 h, (List.forall_mem_cons.mpr ⟨bo_304 h, (List.forall_mem_cons.mpr ⟨bo_329 h, bx_Tnil⟩)⟩)⟩)⟩)⟩) (M := yp_m140) rfl bc_262
theorem bo_245 (h : bw_H xs X) : bx_Kok yp_P xs bw_INV X bk_245 := bx_chk_K h.1 h.2.1 (List.forall_mem_cons.mpr ⟨bo_262 h, bx_Tnil⟩) (M := yp_m140) rfl bc_245
theorem bo_7 (h : bw_H xs X) : bx_Kok yp_P xs bw_INV X bk_7 := bx_chk_K h.1 h.2.1 (List.forall_mem_cons.mpr ⟨bo_30 h, (List.forall_mem_cons.mpr ⟨bo_35 h, (List.forall_mem_cons.mpr ⟨bo_36 h, (List.forall_mem_cons.mpr ⟨bo_88 h, (List.forall_mem_cons.mpr ⟨bo_245 h, bx_Tnil⟩)⟩)⟩)⟩)⟩) (M := yp_m139) rfl bc_7
theorem bo_393 (h : bw_H xs X) : bx_Kok yp_P xs bw_INV X bk_393 := bx_chk_K h.1 h.2.1 bx_Tnil (M := yp_m83) rfl bc_393
theorem bo_179 (h : bw_H xs X) : bx_Kok yp_P xs bw_INV X bk_179 := bx_chk_K h.1 h.2.1 (List.forall_mem_cons.mpr ⟨bo_187 h, (List.forall_mem_cons.mpr ⟨bo_378 h, (List.forall_mem_cons.mpr ⟨bo_393 h, bx_Tnil⟩)⟩)⟩) (M := yp_m82) rfl bc_179
theorem bo_167 (h : bw_H xs X) : bx_Kok yp_P xs bw_INV X bk_167 := bx_chk_K h.1 h.2.1 (List.forall_mem_cons.mpr ⟨bo_179 h, (List.forall_mem_cons.mpr ⟨bo_310 h, bx_Tnil⟩)⟩) (M := yp_m135) rfl bc_167
theorem bo_144 (h : bw_H xs X) : bx_Kok yp_P xs bw_INV X bk_144 := bx_chk_K h.1 h.2.1 (List.forall_mem_cons.mpr ⟨bo_167 h, bx_Tnil⟩) (M := yp_m135) rfl bc_144
theorem bo_373 (h : bw_H xs X) : bx_Kok yp_P xs bw_INV X bk_373 := bx_chk_K h.1 h.2.1 (List.forall_mem_cons.mpr ⟨bo_179 h, (List.forall_mem_cons.mpr ⟨bo_306 h, bx_Tnil⟩)⟩) (M := yp_m136) rfl bc_373
theorem bo_364 (h : bw_H xs X) : bx_Kok yp_P xs bw_INV X bk_364 := bx_chk_K h.1 h.2.1 (List.forall_mem_cons.mpr ⟨bo_373 h, bx_Tnil⟩) (M := yp_m136) rfl bc_364
theorem bo_117 (h : bw_H xs X) : bx_Kok yp_P xs bw_INV X bk_117 := bx_chk_K h.1 h.2.1 (List.forall_mem_cons.mpr ⟨bo_144 h, (List.forall_mem_cons.mpr ⟨bo_364 h, bx_Tnil⟩)⟩) (M := yp_m134) rfl bc_117
theorem bo_89 (h : bw_H xs X) : bx_Kok yp_P xs bw_INV X bk_89 := bx_chk_K h.1 h.2.1 (List.forall_mem_cons.mpr ⟨bo_117 h, bx_Tnil⟩) (M := yp_m134) rfl bc_89
theorem bo_397 (h : bw_H xs X) : bx_Kok yp_P xs bw_INV X bk_397 := bx_chk_K h.1 h.2.1 bx_Tnil (M := yp_m138) rfl bc_397
theorem bo_395 (h : bw_H xs X) : bx_Kok yp_P xs bw_INV X bk_395 := bx_chk_K h.1 h.2.1 (List.forall_mem_cons.mpr ⟨bo_397 h, bx_Tnil⟩) (M := yp_m138) rfl bc_395
theorem bo_8 (h : bw_H xs X) : bx_Kok yp_P xs bw_INV X bk_8 := bx_chk_K h.1 h.2.1 (List.forall_mem_cons.mpr ⟨bo_36 h, (List.forall_mem_cons.mpr ⟨bo_89 h, (List.forall_mem_cons.mpr ⟨bo_385 h, (List.forall_mem_cons.mpr ⟨bo_395 h, bx_Tnil⟩)⟩)⟩)⟩) (M := yp_m137) rfl bc_8
theorem bo_382 (h : bw_H xs X) : bx_Kok yp_P xs bw_INV X bk_382 := bx_chk_K h.1 h.2.1 (List.forall_mem_cons.mpr ⟨bo_33 h, (List.forall_mem_cons.mpr ⟨bo_325 h, bx_Tnil⟩)⟩) (M := yp_m59) rfl bc_382
theorem bo_380 (h : bw_H xs X) : bx_Kok yp_P xs bw_INV X bk_380 := bx_chk_K h.1 h.2.1 (List.forall_mem_cons.mpr ⟨bo_382 h, (List.forall_mem_cons.mpr ⟨bo_388 h, (List.forall_mem_cons.mpr ⟨bo_392 h, bx_Tnil⟩)⟩)⟩) (M := yp_m58) rfl bc_380
theorem bo_377 (h : bw_H xs X) : bx_Kok yp_P xs bw_INV X bk_377 := bx_chk_K h.1 h.2.1 (List.forall_mem_cons.mpr ⟨bo_380 h, bx_Tnil⟩) (M := yp_m58) rfl bc_377
theorem bo_108 (h : bw_H xs X) : bx_Kok yp_P xs bw_INV X bk_108 := bx_chk_K h.1 h.2.1 (List.forall_mem_cons.mpr ⟨bo_377 h, bx_Tnil⟩) (M := yp_m57) rfl bc_108
theorem bo_84 (h : bw_H xs X) : bx_Kok yp_P xs bw_INV X bk_84 := bx_chk_K h.1 h.2.1 (List.forall_mem_cons.mpr ⟨bo_108 h, bx_Tnil⟩) (M := yp_m57) rfl bc_84
theorem bo_47 (h : bw_H xs X) : bx_Kok yp_P xs bw_INV X bk_47 := bx_chk_K h.1 h.2.1 (List.forall_mem_cons.mpr ⟨bo_84 h, (List.forall_mem_cons.mpr ⟨bo_377 h, (List.forall_mem_cons.mpr ⟨bo_393 h, bx_Tnil⟩)⟩)⟩) (M := yp_m82) rfl bc_47
theorem bo_109 (h : bw_H xs X) : bx_Kok yp_P xs bw_INV X bk_109 := bx_chk_K h.1 h.2.1 bx_Tnil (M := yp_m19) rfl bc_109
theorem bo_86 (h : bw_H xs X) : bx_Kok yp_P xs bw_INV X bk_86 := bx_chk_K h.1 h.2.1 (List.forall_mem_cons.mpr ⟨bo_109 h, bx_Tnil⟩) (M := yp_m16) rfl bc_86
theorem bo_129 (h : bw_H xs X) : bx_Kok yp_P xs bw_INV X bk_129 := bx_chk_K h.1 h.2.1 (List.forall_mem_cons.mpr ⟨bo_47 h, (List.forall_mem_cons.mpr ⟨bo_86 h, bx_Tnil⟩)⟩) (M := yp_m135) rfl bc_129
theorem bo_105 (h : bw_H xs X) : bx_Kok yp_P xs bw_INV X bk_105 := bx_chk_K h.1 h.2.1 (List.forall_mem_cons.mpr ⟨bo_129 h, bx_Tnil⟩) (M := yp_m135) rfl bc_105
theorem bo_307 (h : bw_H xs X) : bx_Kok yp_P xs bw_INV X bk_307 := bx_chk_K h.1 h.2.1 bx_Tnil (M := yp_m69) rfl bc_307
theorem bo_361 (h : bw_H xs X) : bx_Kok yp_P xs bw_INV X bk_361 := bx_chk_K h.1 h.2.1 (List.forall_mem_cons.mpr ⟨bo_47 h, (List.forall_mem_cons.mpr ⟨bo_307 h, bx_Tnil⟩)⟩) (M := yp_m136) rfl bc_361
theorem bo_350 (h : bw_H xs X) : bx_Kok yp_P xs bw_INV X bk_350 := bx_chk_K h.1 h.2.1 (List.forall_mem_cons.mpr ⟨bo_361 h, bx_Tnil⟩) (M := yp_m136) rfl bc_350
theorem bo_78 (h : bw_H xs X) : bx_Kok yp_P xs bw_INV X bk_78 := bx_chk_K h.1 h.2.1 (List.forall_mem_cons.mpr ⟨bo_105 h, (List.forall_mem_cons.mpr ⟨bo_350 h, bx_Tnil⟩)⟩) (M := yp_m134) rfl bc_78
theorem bo_37 (h : bw_H xs X) : bx_Kok yp_P xs bw_INV X bk_37 := bx_chk_K h.1 h.2.1 (List.forall_mem_cons.mpr ⟨bo_78 h, bx_Tnil⟩) (M := yp_m134) rfl bc_37
theorem bo_9 (h : bw_H xs X) : bx_Kok yp_P xs bw_INV X bk_9 := bx_chk_K h.1 h.2.1 (List.forall_mem_cons.mpr ⟨bo_37 h, bx_Tnil⟩) (M := yp_m133) rfl bc_9
theorem bo_38 (h : bw_H xs X) : bx_Kok yp_P xs bw_INV X bk_38 := bx_chk_K h.1 h.2.1 bx_Tnil (M := yp_m132) rfl bc_38
theorem bo_10 (h : bw_H xs X) : bx_Kok yp_P xs bw_INV X bk_10 := bx_chk_K h.1 h.2.1 (List.forall_mem_cons.mpr ⟨bo_38 h, bx_Tnil⟩) (M := yp_m132) rfl bc_10
theorem bo_106 (h : bw_H xs X) : bx_Kok yp_P xs bw_INV X bk_106 := bx_chk_K h.1 h.2.1 bx_Tnil (M := yp_m129) rfl bc_106
theorem bo_235 (h : bw_H xs X) : bx_Kok yp_P xs bw_INV X bk_235 := bx_chk_K h.1 h.2.1 bx_Tnil (M := yp_m129) rfl bc_235
theorem bo_387 (h : bw_H xs X) : bx_Kok yp_P xs bw_INV X bk_387 := bx_chk_K h.1 h.2.1 bx_Tnil (M := yp_m129) rfl bc_387
theorem bo_405 (h : bw_H xs X) : bx_Kok yp_P xs bw_INV X bk_405 := bx_chk_K h.1 h.2.1 bx_Tnil (M := yp_m129) rfl bc_405
theorem bo_79 (h : bw_H xs X) : bx_Kok yp_P xs bw_INV X bk_79 := bx_chk_K h.1 h.2.1 (List.forall_mem_cons.mpr ⟨bo_106 h, (List.forall_mem_cons.mpr ⟨bo_235 h, (List.forall_mem_cons.mpr ⟨bo_387 h, (List.forall_mem_cons.mpr ⟨bo_405 h, bx_Tnil⟩)⟩)⟩)⟩) (M := yp_m129) rfl bc_79
theorem bo_39 (h : bw_H xs X) : bx_Kok yp_P xs bw_INV X bk_39 := bx_chk_K h.1 h.2.1 (List.forall_mem_cons.mpr ⟨bo_79 h, bx_Tnil⟩) (M := yp_m131) rfl bc_39
theorem bo_80 (h : bw_H xs X) : bx_Kok yp_P xs bw_INV X bk_80 := bx_chk_K h.1 h.2.1 (List.forall_mem_cons.mpr ⟨bo_79 h, bx_Tnil⟩) (M := yp_m130) rfl bc_80
theorem bo_40 (h : bw_H xs X) : bx_Kok yp_P xs bw_INV X bk_40 := bx_chk_K h.1 h.2.1 (List.forall_mem_cons.mpr ⟨bo_80 h, bx_Tnil⟩) (M := yp_m130) rfl bc_40
theorem bo_81 (h : bw_H xs X) : bx_Kok yp_P xs bw_INV X bk_81 := bx_chk_K h.1 h.2.1 (List.forall_mem_cons.mpr ⟨bo_79 h, bx_Tnil⟩) (M := yp_m128) rfl bc_81
theorem bo_41 (h : bw_H xs X) : bx_Kok yp_P xs bw_INV X bk_41 := bx_chk_K h.1 h.2.1 (List.forall_mem_cons.mpr ⟨bo_81 h, bx_Tnil⟩) (M := yp_m128) rfl bc_41
theorem bo_11 (h : bw_H xs X) : bx_Kok yp_P xs bw_INV X bk_11 := bx_chk_K h.1 h.2.1 (List.forall_mem_cons.mpr ⟨bo_39 h, (List.forall_mem_cons.mpr ⟨bo_40 h, (List.forall_mem_cons.mpr ⟨bo_41 h, bx_Tnil⟩)⟩)⟩) (M := yp_m127) rfl bc_11
theorem bo_145 (h : bw_H xs X) : bx_Kok yp_P xs bw_INV X bk_145 := bx_chk_K h.1 h.2.1 (List.forall_mem_cons.mpr ⟨bo_30 h, bx_Tnil⟩) (M := yp_m109) rfl bc_145
theorem bo_118 (h : bw_H xs X) : bx_Kok yp_P xs bw_INV X bk_118 := bx_chk_K h.1 h.2.1 (List.forall_mem_cons.mpr ⟨bo_145 h, bx_Tnil⟩) (M := yp_m109) rfl bc_118
theorem bo_181 (h : bw_H xs X) : bx_Kok yp_P xs bw_INV X bk_181 := bx_chk_K h.1 h.2.1 bx_Tnil (M := yp_m121) rfl bc_181
theorem bo_90 (h : bw_H xs X) : bx_Kok yp_P xs bw_INV X bk_90 := bx_chk_K h.1 h.2.1 (List.forall_mem_cons.mpr ⟨bo_118 h, (List.forall_mem_cons.mpr ⟨bo_181 h, bx_Tnil⟩)⟩) (M := yp_m121) rfl bc_90
theorem bo_217 (h : bw_H xs X) : bx_Kok yp_P xs bw_INV X bk_217 := bx_chk_K h.1 h.2.1 (List.forall_mem_cons.mpr ⟨bo_47 h, bx_Tnil⟩) (M := yp_m122) rfl bc_217
theorem bo_209 (h : bw_H xs X) : bx_Kok yp_P xs bw_INV X bk_209 := bx_chk_K h.1 h.2.1 (List.forall_mem_cons.mpr ⟨bo_217 h, bx_Tnil⟩) (M := yp_m122) rfl bc_209
theorem bo_278 (h : bw_H xs X) : bx_Kok yp_P xs bw_INV X bk_278 := bx_chk_K h.1 h.2.1 bx_Tnil (M := yp_m124) rfl bc_278
theorem bo_265 (h : bw_H xs X) : bx_Kok yp_P xs bw_INV X bk_265 := bx_chk_K h.1 h.2.1 (List.forall_mem_cons.mpr ⟨bo_278 h, bx_Tnil⟩) (M := yp_m124) rfl bc_265
theorem bo_249 (h : bw_H xs X) : bx_Kok yp_P xs bw_INV X bk_249 := bx_chk_K h.1 h.2.1 (List.forall_mem_cons.mpr ⟨bo_265 h, bx_Tnil⟩) (M := yp_m123) rfl bc_249
theorem bo_347 (h : bw_H xs X) : bx_Kok yp_P xs bw_INV X bk_347 := bx_chk_K h.1 h.2.1 bx_Tnil (M := yp_m125) rfl bc_347
theorem bo_339 (h : bw_H xs X) : bx_Kok yp_P xs bw_INV X bk_339 := bx_chk_K h.1 h.2.1 (List.forall_mem_cons.mpr ⟨bo_347 h, bx_Tnil⟩) (M := yp_m125) rfl bc_339
theorem bo_327 (h : bw_H xs X) : bx_Kok yp_P xs bw_INV X bk_327 := bx_chk_K h.1 h.2.1 (List.forall_mem_cons.mpr ⟨bo_339 h, bx_Tnil⟩) (M := yp_m123) rfl bc_327
theorem bo_238 (h : bw_H xs X) : bx_Kok yp_P xs bw_INV X bk_238 := bx_chk_K h.1 h.2.1 (List.forall_mem_cons.mpr ⟨bo_249 h, (List.forall_mem_cons.mpr ⟨bo_327 h, bx_Tnil⟩)⟩) (M := yp_m123) rfl bc_238
theorem bo_227 (h : bw_H xs X) : bx_Kok yp_P xs bw_INV X bk_227 := bx_chk_K h.1 h.2.1 (List.forall_mem_cons.mpr ⟨bo_238 h, bx_Tnil⟩) (M := yp_m122) rfl bc_227
theorem bo_196 (h : bw_H xs X) : bx_Kok yp_P xs bw_INV X bk_196 := bx_chk_K h.1 h.2.1 (List.forall_mem_cons.mpr ⟨bo_209 h, (List.forall_mem_cons.mpr ⟨bo_227 h, bx_Tnil⟩)⟩) (M := yp_m122) rfl bc_196
theorem bo_275 (h : bw_H xs X) : bx_Kok yp_P xs bw_INV X bk_275 := bx_chk_K h.1 h.2.1 bx_Tnil (M := yp_m126) rfl bc_275
theorem bo_258 (h : bw_H xs X) : bx_Kok yp_P xs bw_INV X bk_258 := bx_chk_K h.1 h.2.1 (List.forall_mem_cons.mpr ⟨bo_275 h, bx_Tnil⟩) (M := yp_m126) rfl bc_258
theorem bo_259 (h : bw_H xs X) : bx_Kok yp_P xs bw_INV X bk_259 := bx_chk_K h.1 h.2.1 bx_Tnil (M := yp_m119) rfl bc_259
theorem bo_12 (h : bw_H xs X) : bx_Kok yp_P xs bw_INV X bk_12 := bx_chk_K h.1 h.2.1 (List.forall_mem_cons.mpr ⟨bo_30 h, (List.forall_mem_cons.mpr ⟨bo_35 h, (List.forall_mem_cons.mpr ⟨bo_90 h, (List.forall_mem_cons.mpr ⟨bo_196 h, (List.forall_mem_cons.mpr ⟨bo_258 h, (List.forall_mem_cons.mpr ⟨bo_259 h, bx_Tnil⟩)⟩)⟩)⟩)⟩)⟩) (M := yp_m120) rfl bc_12
theorem bo_182 (h : bw_H xs X) : bx_Kok yp_P xs bw_INV X bk_182 := bx_chk_K h.1 h.2.1 bx_Tnil (M := yp_m108) rfl bc_182
theorem bo_91 (h : bw_H xs X) : bx_Kok yp_P xs bw_INV X bk_91 := bx_chk_K h.1 h.2.1 (List.forall_mem_cons.mpr ⟨bo_118 h, (List.forall_mem_cons.mpr ⟨bo_182 h, bx_Tnil⟩)⟩) (M := yp_m108) rfl bc_91
theorem bo_218 (h : bw_H xs X) : bx_Kok yp_P xs bw_INV X bk_218 := bx_chk_K h.1 h.2.1 (List.forall_mem_cons.mpr ⟨bo_47 h, bx_Tnil⟩) (M := yp_m110) rfl bc_218
theorem bo_210 (h : bw_H xs X) : bx_Kok yp_P xs bw_INV X bk_210 := bx_chk_K h.1 h.2.1 (List.forall_mem_cons.mpr ⟨bo_218 h, bx_Tnil⟩) (M := yp_m110) rfl bc_210
theorem bo_250 (h : bw_H xs X) : bx_Kok yp_P xs bw_INV X bk_250 := bx_chk_K h.1 h.2.1 bx_Tnil (M := yp_m115) rfl bc_250
end BWK
end
section
section BWK
variable {xs : List Int32} {X : sx_W → Prop}
theorem bo_266 (h : bw_H xs X) : bx_Kok yp_P xs bw_INV X bk_266 := bx_chk_K h.1 h.2.1 bx_Tnil (M := yp_m113) rfl bc_266
theorem bo_296 (h : bw_H xs X) : bx_Kok yp_P xs bw_INV X bk_296 := bx_chk_K h.1 h.2.1 (List.forall_mem_cons.mpr ⟨bo_266 h, bx_Tnil⟩) (M := yp_m114) rfl bc_296
theorem bo_285 (h : bw_H xs X) : bx_Kok yp_P xs bw_INV X bk_285 := bx_chk_K h.1 h.2.1 (List.forall_mem_cons.mpr ⟨bo_296 h, bx_Tnil⟩) (M := yp_m112) rfl bc_285
theorem bo_251 (h : bw_H xs X) : bx_Kok yp_P xs bw_INV X bk_251 := bx_chk_K h.1 h.2.1 (List.forall_mem_cons.mpr ⟨bo_266 h, (List.forall_mem_cons.mpr ⟨bo_285 h, bx_Tnil⟩)⟩) (M := yp_m112) rfl bc_251
theorem bo_239 (h : bw_H xs X) : bx_Kok yp_P xs bw_INV X bk_239 := bx_chk_K h.1 h.2.1 (List.forall_mem_cons.mpr ⟨bo_250 h, (List.forall_mem_cons.mpr ⟨bo_251 h, bx_Tnil⟩)⟩) (M := yp_m110) rfl bc_239
theorem bo_228 (h : bw_H xs X) : bx_Kok yp_P xs bw_INV X bk_228 := bx_chk_K h.1 h.2.1 (List.forall_mem_cons.mpr ⟨bo_239 h, bx_Tnil⟩) (M := yp_m110) rfl bc_228
theorem bo_417 (h : bw_H xs X) : bx_Kok yp_P xs bw_INV X bk_417 := bx_chk_K h.1 h.2.1 (List.forall_mem_cons.mpr ⟨bo_266 h, (List.forall_mem_cons.mpr ⟨bo_296 h, bx_Tnil⟩)⟩) (M := yp_m116) rfl bc_417
theorem bo_415 (h : bw_H xs X) : bx_Kok yp_P xs bw_INV X bk_415 := bx_chk_K h.1 h.2.1 (List.forall_mem_cons.mpr ⟨bo_417 h, bx_Tnil⟩) (M := yp_m116) rfl bc_415
theorem bo_413 (h : bw_H xs X) : bx_Kok yp_P xs bw_INV X bk_413 := bx_chk_K h.1 h.2.1 (List.forall_mem_cons.mpr ⟨bo_415 h, bx_Tnil⟩) (M := yp_m116) rfl bc_413
theorem bo_197 (h : bw_H xs X) : bx_Kok yp_P xs bw_INV X bk_197 := bx_chk_K h.1 h.2.1 (List.forall_mem_cons.mpr ⟨bo_210 h, (List.forall_mem_cons.mpr ⟨bo_228 h, (List.forall_mem_cons.mpr ⟨bo_413 h, bx_Tnil⟩)⟩)⟩) (M := yp_m110) rfl bc_197
theorem bo_420 (h : bw_H xs X) : bx_Kok yp_P xs bw_INV X bk_420 := bx_chk_K h.1 h.2.1 bx_Tnil (M := yp_m117) rfl bc_420
theorem bo_418 (h : bw_H xs X) : bx_Kok yp_P xs bw_INV X bk_418 := bx_chk_K h.1 h.2.1 (List.forall_mem_cons.mpr ⟨bo_266 h, (List.forall_mem_cons.mpr ⟨bo_420 h, bx_Tnil⟩)⟩) (M := yp_m117) rfl bc_418
theorem bo_13 (h : bw_H xs X) : bx_Kok yp_P xs bw_INV X bk_13 := bx_chk_K h.1 h.2.1 (List.forall_mem_cons.mpr ⟨bo_30 h, (List.forall_mem_cons.mpr ⟨bo_35 h, (List.forall_mem_cons.mpr ⟨bo_91 h, (List.forall_mem_cons.mpr ⟨bo_197 h, (List.forall_mem_cons.mpr ⟨bo_259 h, (List.forall_mem_cons.mpr ⟨bo_266 h, (List.forall_mem_cons.mpr ⟨bo_418 h, bx_Tnil⟩)⟩)⟩)⟩)⟩)⟩)⟩) (M := yp_m107) rfl bc_13
theorem bo_82 (h : bw_H xs X) : bx_Kok yp_P xs bw_INV X bk_82 := bx_chk_K h.1 h.2.1 (List.forall_mem_cons.mpr ⟨bo_33 h, (List.forall_mem_cons.mpr ⟨bo_325 h, bx_Tnil⟩)⟩) (M := yp_m104) rfl bc_82
theorem bo_230 (h : bw_H xs X) : bx_Kok yp_P xs bw_INV X bk_230 := bx_chk_K h.1 h.2.1 bx_Tnil (M := yp_m105) rfl bc_230
theorem bo_215 (h : bw_H xs X) : bx_Kok yp_P xs bw_INV X bk_215 := bx_chk_K h.1 h.2.1 (List.forall_mem_cons.mpr ⟨bo_230 h, bx_Tnil⟩) (M := yp_m105) rfl bc_215
theorem bo_205 (h : bw_H xs X) : bx_Kok yp_P xs bw_INV X bk_205 := bx_chk_K h.1 h.2.1 (List.forall_mem_cons.mpr ⟨bo_215 h, bx_Tnil⟩) (M := yp_m104) rfl bc_205
theorem bo_42 (h : bw_H xs X) : bx_Kok yp_P xs bw_INV X bk_42 := bx_chk_K h.1 h.2.1 (List.forall_mem_cons.mpr ⟨bo_82 h, (List.forall_mem_cons.mpr ⟨bo_205 h, bx_Tnil⟩)⟩) (M := yp_m104) rfl bc_42
theorem bo_391 (h : bw_H xs X) : bx_Kok yp_P xs bw_INV X bk_391 := bx_chk_K h.1 h.2.1 bx_Tnil (M := yp_m106) rfl bc_391
theorem bo_386 (h : bw_H xs X) : bx_Kok yp_P xs bw_INV X bk_386 := bx_chk_K h.1 h.2.1 (List.forall_mem_cons.mpr ⟨bo_391 h, bx_Tnil⟩) (M := yp_m106) rfl bc_386
theorem bo_14 (h : bw_H xs X) : bx_Kok yp_P xs bw_INV X bk_14 := bx_chk_K h.1 h.2.1 (List.forall_mem_cons.mpr ⟨bo_42 h, (List.forall_mem_cons.mpr ⟨bo_386 h, bx_Tnil⟩)⟩) (M := yp_m103) rfl bc_14
theorem bo_46 (h : bw_H xs X) : bx_Kok yp_P xs bw_INV X bk_46 := bx_chk_K h.1 h.2.1 (List.forall_mem_cons.mpr ⟨bo_84 h, bx_Tnil⟩) (M := yp_m55) rfl bc_46
theorem bo_409 (h : bw_H xs X) : bx_Kok yp_P xs bw_INV X bk_409 := bx_chk_K h.1 h.2.1 (List.forall_mem_cons.mpr ⟨bo_46 h, (List.forall_mem_cons.mpr ⟨bo_47 h, bx_Tnil⟩)⟩) (M := yp_m100) rfl bc_409
theorem bo_408 (h : bw_H xs X) : bx_Kok yp_P xs bw_INV X bk_408 := bx_chk_K h.1 h.2.1 (List.forall_mem_cons.mpr ⟨bo_409 h, bx_Tnil⟩) (M := yp_m100) rfl bc_408
theorem bo_425 (h : bw_H xs X) : bx_Kok yp_P xs bw_INV X bk_425 := bx_chk_K h.1 h.2.1 bx_Tnil (M := yp_m101) rfl bc_425
theorem bo_431 (h : bw_H xs X) : bx_Kok yp_P xs bw_INV X bk_431 := bx_chk_K h.1 h.2.1 bx_Tnil (M := yp_m102) rfl bc_431
theorem bo_430 (h : bw_H xs X) : bx_Kok yp_P xs bw_INV X bk_430 := bx_chk_K h.1 h.2.1 (List.forall_mem_cons.mpr ⟨bo_431 h, bx_Tnil⟩) (M := yp_m102) rfl bc_430
theorem bo_429 (h : bw_H xs X) : bx_Kok yp_P xs bw_INV X bk_429 := bx_chk_K h.1 h.2.1 (List.forall_mem_cons.mpr ⟨bo_430 h, bx_Tnil⟩) (M := yp_m101) rfl bc_429
theorem bo_424 (h : bw_H xs X) : bx_Kok yp_P xs bw_INV X bk_424 := bx_chk_K h.1 h.2.1 (List.forall_mem_cons.mpr ⟨bo_425 h, (List.forall_mem_cons.mpr ⟨bo_429 h, bx_Tnil⟩)⟩) (M := yp_m101) rfl bc_424
theorem bo_15 (h : bw_H xs X) : bx_Kok yp_P xs bw_INV X bk_15 := bx_chk_K h.1 h.2.1 (List.forall_mem_cons.mpr ⟨bo_33 h, (List.forall_mem_cons.mpr ⟨bo_325 h, (List.forall_mem_cons.mpr ⟨bo_408 h, (List.forall_mem_cons.mpr ⟨bo_424 h, bx_Tnil⟩)⟩)⟩)⟩) (M := yp_m99) rfl bc_15
theorem bo_354 (h : bw_H xs X) : bx_Kok yp_P xs bw_INV X bk_354 := bx_chk_K h.1 h.2.1 (List.forall_mem_cons.mpr ⟨bo_33 h, bx_Tnil⟩) (M := yp_m97) rfl bc_354
theorem bo_107 (h : bw_H xs X) : bx_Kok yp_P xs bw_INV X bk_107 := bx_chk_K h.1 h.2.1 (List.forall_mem_cons.mpr ⟨bo_130 h, (List.forall_mem_cons.mpr ⟨bo_354 h, bx_Tnil⟩)⟩) (M := yp_m97) rfl bc_107
theorem bo_83 (h : bw_H xs X) : bx_Kok yp_P xs bw_INV X bk_83 := bx_chk_K h.1 h.2.1 (List.forall_mem_cons.mpr ⟨bo_107 h, bx_Tnil⟩) (M := yp_m96) rfl bc_83
theorem bo_43 (h : bw_H xs X) : bx_Kok yp_P xs bw_INV X bk_43 := bx_chk_K h.1 h.2.1 (List.forall_mem_cons.mpr ⟨bo_83 h, bx_Tnil⟩) (M := yp_m95) rfl bc_43
theorem bo_16 (h : bw_H xs X) : bx_Kok yp_P xs bw_INV X bk_16 := bx_chk_K h.1 h.2.1 (List.forall_mem_cons.mpr ⟨bo_43 h, bx_Tnil⟩) (M := yp_m95) rfl bc_16
theorem bo_352 (h : bw_H xs X) : bx_Kok yp_P xs bw_INV X bk_352 := bx_chk_K h.1 h.2.1 bx_Tnil (M := yp_m88) rfl bc_352
theorem bo_345 (h : bw_H xs X) : bx_Kok yp_P xs bw_INV X bk_345 := bx_chk_K h.1 h.2.1 (List.forall_mem_cons.mpr ⟨bo_352 h, bx_Tnil⟩) (M := yp_m91) rfl bc_345
theorem bo_336 (h : bw_H xs X) : bx_Kok yp_P xs bw_INV X bk_336 := bx_chk_K h.1 h.2.1 (List.forall_mem_cons.mpr ⟨bo_345 h, bx_Tnil⟩) (M := yp_m91) rfl bc_336
theorem bo_323 (h : bw_H xs X) : bx_Kok yp_P xs bw_INV X bk_323 := bx_chk_K h.1 h.2.1 (List.forall_mem_cons.mpr ⟨bo_336 h, bx_Tnil⟩) (M := yp_m90) rfl bc_323
theorem bo_396 (h : bw_H xs X) : bx_Kok yp_P xs bw_INV X bk_396 := bx_chk_K h.1 h.2.1 (List.forall_mem_cons.mpr ⟨bo_352 h, bx_Tnil⟩) (M := yp_m90) rfl bc_396
theorem bo_394 (h : bw_H xs X) : bx_Kok yp_P xs bw_INV X bk_394 := bx_chk_K h.1 h.2.1 (List.forall_mem_cons.mpr ⟨bo_396 h, bx_Tnil⟩) (M := yp_m90) rfl bc_394
theorem bo_44 (h : bw_H xs X) : bx_Kok yp_P xs bw_INV X bk_44 := bx_chk_K h.1 h.2.1 (List.forall_mem_cons.mpr ⟨bo_33 h, (List.forall_mem_cons.mpr ⟨bo_323 h, (List.forall_mem_cons.mpr ⟨bo_394 h, bx_Tnil⟩)⟩)⟩) (M := yp_m90) rfl bc_44
theorem bo_398 (h : bw_H xs X) : bx_Kok yp_P xs bw_INV X bk_398 := bx_chk_K h.1 h.2.1 bx_Tnil (M := yp_m92) rfl bc_398
theorem bo_406 (h : bw_H xs X) : bx_Kok yp_P xs bw_INV X bk_406 := bx_chk_K h.1 h.2.1 bx_Tnil (M := yp_m94) rfl bc_406
theorem bo_403 (h : bw_H xs X) : bx_Kok yp_P xs bw_INV X bk_403 := bx_chk_K h.1 h.2.1 (List.forall_mem_cons.mpr ⟨bo_406 h, bx_Tnil⟩) (M := yp_m94) rfl bc_403
theorem bo_401 (h : bw_H xs X) : bx_Kok yp_P xs bw_INV X bk_401 := bx_chk_K h.1 h.2.1 (List.forall_mem_cons.mpr ⟨bo_403 h, bx_Tnil⟩) (M := yp_m93) rfl bc_401
theorem bo_399 (h : bw_H xs X) : bx_Kok yp_P xs bw_INV X bk_399 := bx_chk_K h.1 h.2.1 (List.forall_mem_cons.mpr ⟨bo_401 h, bx_Tnil⟩) (M := yp_m93) rfl bc_399
theorem bo_17 (h : bw_H xs X) : bx_Kok yp_P xs bw_INV X bk_17 := bx_chk_K h.1 h.2.1 (List.forall_mem_cons.mpr ⟨bo_44 h, (List.forall_mem_cons.mpr ⟨bo_398 h, (List.forall_mem_cons.mpr ⟨bo_399 h, bx_Tnil⟩)⟩)⟩) (M := yp_m89) rfl bc_17
theorem bo_346 (h : bw_H xs X) : bx_Kok yp_P xs bw_INV X bk_346 := bx_chk_K h.1 h.2.1 (List.forall_mem_cons.mpr ⟨bo_352 h, bx_Tnil⟩) (M := yp_m87) rfl bc_346
theorem bo_337 (h : bw_H xs X) : bx_Kok yp_P xs bw_INV X bk_337 := bx_chk_K h.1 h.2.1 (List.forall_mem_cons.mpr ⟨bo_346 h, bx_Tnil⟩) (M := yp_m87) rfl bc_337
theorem bo_324 (h : bw_H xs X) : bx_Kok yp_P xs bw_INV X bk_324 := bx_chk_K h.1 h.2.1 (List.forall_mem_cons.mpr ⟨bo_337 h, bx_Tnil⟩) (M := yp_m86) rfl bc_324
theorem bo_45 (h : bw_H xs X) : bx_Kok yp_P xs bw_INV X bk_45 := bx_chk_K h.1 h.2.1 (List.forall_mem_cons.mpr ⟨bo_33 h, (List.forall_mem_cons.mpr ⟨bo_324 h, bx_Tnil⟩)⟩) (M := yp_m86) rfl bc_45
theorem bo_18 (h : bw_H xs X) : bx_Kok yp_P xs bw_INV X bk_18 := bx_chk_K h.1 h.2.1 (List.forall_mem_cons.mpr ⟨bo_45 h, bx_Tnil⟩) (M := yp_m85) rfl bc_18
theorem bo_19 (h : bw_H xs X) : bx_Kok yp_P xs bw_INV X bk_19 := bx_chk_K h.1 h.2.1 (List.forall_mem_cons.mpr ⟨bo_46 h, bx_Tnil⟩) (M := yp_m84) rfl bc_19
theorem bo_20 (h : bw_H xs X) : bx_Kok yp_P xs bw_INV X bk_20 := bx_chk_K h.1 h.2.1 (List.forall_mem_cons.mpr ⟨bo_47 h, bx_Tnil⟩) (M := yp_m81) rfl bc_20
theorem bo_21 (h : bw_H xs X) : bx_Kok yp_P xs bw_INV X bk_21 := bx_chk_K h.1 h.2.1 (List.forall_mem_cons.mpr ⟨bo_33 h, (List.forall_mem_cons.mpr ⟨bo_34 h, bx_Tnil⟩)⟩) (M := yp_m80) rfl bc_21
theorem bo_85 (h : bw_H xs X) : bx_Kok yp_P xs bw_INV X bk_85 := bx_chk_K h.1 h.2.1 bx_Tnil (M := yp_m78) rfl bc_85
theorem bo_48 (h : bw_H xs X) : bx_Kok yp_P xs bw_INV X bk_48 := bx_chk_K h.1 h.2.1 (List.forall_mem_cons.mpr ⟨bo_85 h, bx_Tnil⟩) (M := yp_m78) rfl bc_48
theorem bo_22 (h : bw_H xs X) : bx_Kok yp_P xs bw_INV X bk_22 := bx_chk_K h.1 h.2.1 (List.forall_mem_cons.mpr ⟨bo_33 h, (List.forall_mem_cons.mpr ⟨bo_34 h, (List.forall_mem_cons.mpr ⟨bo_48 h, (List.forall_mem_cons.mpr ⟨bo_325 h, bx_Tnil⟩)⟩)⟩)⟩) (M := yp_m75) rfl bc_22
theorem bo_23 (h : bw_H xs X) : bx_Kok yp_P xs bw_INV X bk_23 := bx_chk_K h.1 h.2.1 bx_Tnil (M := yp_m72) rfl bc_23
theorem bo_263 (h : bw_H xs X) : bx_Kok yp_P xs bw_INV X bk_263 := bx_chk_K h.1 h.2.1 (List.forall_mem_cons.mpr ⟨bo_276 h, (List.forall_mem_cons.mpr ⟨bo_292 h, bx_Tnil⟩)⟩) (M := yp_m53) rfl bc_263
theorem bo_246 (h : bw_H xs X) : bx_Kok yp_P xs bw_INV X bk_246 := bx_chk_K h.1 h.2.1 (List.forall_mem_cons.mpr ⟨bo_263 h, bx_Tnil⟩) (M := yp_m70) rfl bc_246
theorem bo_24 (h : bw_H xs X) : bx_Kok yp_P xs bw_INV X bk_24 := bx_chk_K h.1 h.2.1 (List.forall_mem_cons.mpr ⟨bo_30 h, (List.forall_mem_cons.mpr ⟨bo_35 h, (List.forall_mem_cons.mpr ⟨bo_36 h, (List.forall_mem_cons.mpr ⟨bo_88 h, (List.forall_mem_cons.mpr ⟨bo_246 h, bx_Tnil⟩)⟩)⟩)⟩)⟩) (M := yp_m70) rfl bc_24
theorem bo_277 (h : bw_H xs X) : bx_Kok yp_P xs bw_INV X bk_277 := bx_chk_K h.1 h.2.1 (List.forall_mem_cons.mpr ⟨bo_46 h, bx_Tnil⟩) (M := yp_m54) rfl bc_277
theorem bo_301 (h : bw_H xs X) : bx_Kok yp_P xs bw_INV X bk_301 := bx_chk_K h.1 h.2.1 (List.forall_mem_cons.mpr ⟨bo_307 h, bx_Tnil⟩) (M := yp_m68) rfl bc_301
theorem bo_293 (h : bw_H xs X) : bx_Kok yp_P xs bw_INV X bk_293 := bx_chk_K h.1 h.2.1 (List.forall_mem_cons.mpr ⟨bo_86 h, (List.forall_mem_cons.mpr ⟨bo_109 h, (List.forall_mem_cons.mpr ⟨bo_301 h, bx_Tnil⟩)⟩)⟩) (M := yp_m67) rfl bc_293
theorem bo_264 (h : bw_H xs X) : bx_Kok yp_P xs bw_INV X bk_264 := bx_chk_K h.1 h.2.1 (List.forall_mem_cons.mpr ⟨bo_277 h, (List.forall_mem_cons.mpr ⟨bo_293 h, bx_Tnil⟩)⟩) (M := yp_m53) rfl bc_264
theorem bo_247 (h : bw_H xs X) : bx_Kok yp_P xs bw_INV X bk_247 := bx_chk_K h.1 h.2.1 (List.forall_mem_cons.mpr ⟨bo_264 h, bx_Tnil⟩) (M := yp_m48) rfl bc_247
theorem bo_25 (h : bw_H xs X) : bx_Kok yp_P xs bw_INV X bk_25 := bx_chk_K h.1 h.2.1 (List.forall_mem_cons.mpr ⟨bo_30 h, (List.forall_mem_cons.mpr ⟨bo_35 h, (List.forall_mem_cons.mpr ⟨bo_88 h, (List.forall_mem_cons.mpr ⟨bo_247 h, bx_Tnil⟩)⟩)⟩)⟩) (M := yp_m48) rfl bc_25
theorem bo_201 (h : bw_H xs X) : bx_Kok yp_P xs bw_INV X bk_201 := bx_chk_K h.1 h.2.1 bx_Tnil (M := yp_m38) rfl bc_201
theorem bo_203 (h : bw_H xs X) : bx_Kok yp_P xs bw_INV X bk_203 := bx_chk_K h.1 h.2.1 bx_Tnil (M := yp_m36) rfl bc_203
theorem bo_297 (h : bw_H xs X) : bx_Kok yp_P xs bw_INV X bk_297 := bx_chk_K h.1 h.2.1 (List.forall_mem_cons.mpr ⟨bo_165 h, (List.forall_mem_cons.mpr ⟨bo_166 h, (List.forall_mem_cons.mpr ⟨bo_168 h, (List.forall_mem_cons.mpr ⟨bo_201 h, (List.forall_mem_cons.mpr ⟨bo_203 h, bx_Tnil⟩)⟩)⟩)⟩)⟩) (M := yp_m33) rfl bc_297
theorem bo_237 (h : bw_H xs X) : bx_Kok yp_P xs bw_INV X bk_237 := bx_chk_K h.1 h.2.1 bx_Tnil (M := yp_m39) rfl bc_237
theorem bo_305 (h : bw_H xs X) : bx_Kok yp_P xs bw_INV X bk_305 := bx_chk_K h.1 h.2.1 (List.forall_mem_cons.mpr ⟨bo_168 h, (List.forall_mem_cons.mpr ⟨bo_203 h, (List.forall_mem_cons.mpr ⟨bo_237 h, (List.forall_mem_cons.mpr ⟨bo_297 h, bx_Tnil⟩)⟩)⟩)⟩) (M := yp_m32) rfl bc_305
theorem bo_289 (h : bw_H xs X) : bx_Kok yp_P xs bw_INV X bk_289 := bx_chk_K h.1 h.2.1 (List.forall_mem_cons.mpr ⟨bo_297 h, (List.forall_mem_cons.mpr ⟨bo_305 h, bx_Tnil⟩)⟩) (M := yp_m32) rfl bc_289
theorem bo_295 (h : bw_H xs X) : bx_Kok yp_P xs bw_INV X bk_295 := bx_chk_K h.1 h.2.1 bx_Tnil (M := yp_m40) rfl bc_295
theorem bo_319 (h : bw_H xs X) : bx_Kok yp_P xs bw_INV X bk_319 := bx_chk_K h.1 h.2.1 (List.forall_mem_cons.mpr ⟨bo_168 h, (List.forall_mem_cons.mpr ⟨bo_203 h, (List.forall_mem_cons.mpr ⟨bo_289 h, (List.forall_mem_cons.mpr ⟨bo_295 h, bx_Tnil⟩)⟩)⟩)⟩) (M := yp_m31) rfl bc_319
theorem bo_282 (h : bw_H xs X) : bx_Kok yp_P xs bw_INV X bk_282 := bx_chk_K h.1 h.2.1 (List.forall_mem_cons.mpr ⟨bo_289 h, (List.forall_mem_cons.mpr ⟨bo_319 h, bx_Tnil⟩)⟩) (M := yp_m31) rfl bc_282
theorem bo_288 (h : bw_H xs X) : bx_Kok yp_P xs bw_INV X bk_288 := bx_chk_K h.1 h.2.1 (List.forall_mem_cons.mpr ⟨bo_165 h, (List.forall_mem_cons.mpr ⟨bo_166 h, (List.forall_mem_cons.mpr ⟨bo_168 h, (List.forall_mem_cons.mpr ⟨bo_184 h, (List.forall_mem_cons.mpr ⟨bo_201 h, (List.forall_mem_cons.mpr ⟨bo_203 h, (List.forall_mem_cons.mpr ⟨bo_282 h, bx_Tnil⟩)⟩)⟩)⟩)⟩)⟩)⟩) (M := yp_m33) rfl bc_288
theorem bo_299 (h : bw_H xs X) : bx_Kok yp_P xs bw_INV X bk_299 := bx_chk_K h.1 h.2.1 (List.forall_mem_cons.mpr ⟨bo_168 h, (List.forall_mem_cons.mpr ⟨bo_203 h, (List.forall_mem_cons.mpr ⟨bo_237 h, (List.forall_mem_cons.mpr ⟨bo_288 h, bx_Tnil⟩)⟩)⟩)⟩) (M := yp_m32) rfl bc_299
theorem bo_281 (h : bw_H xs X) : bx_Kok yp_P xs bw_INV X bk_281 := bx_chk_K h.1 h.2.1 (List.forall_mem_cons.mpr ⟨bo_288 h, (List.forall_mem_cons.mpr ⟨bo_299 h, bx_Tnil⟩)⟩) (M := yp_m32) rfl bc_281
theorem bo_316 (h : bw_H xs X) : bx_Kok yp_P xs bw_INV X bk_316 := bx_chk_K h.1 h.2.1 (List.forall_mem_cons.mpr ⟨bo_168 h, (List.forall_mem_cons.mpr ⟨bo_203 h, (List.forall_mem_cons.mpr ⟨bo_281 h, (List.forall_mem_cons.mpr ⟨bo_295 h, bx_Tnil⟩)⟩)⟩)⟩) (M := yp_m31) rfl bc_316
theorem bo_271 (h : bw_H xs X) : bx_Kok yp_P xs bw_INV X bk_271 := bx_chk_K h.1 h.2.1 (List.forall_mem_cons.mpr ⟨bo_281 h, (List.forall_mem_cons.mpr ⟨bo_316 h, bx_Tnil⟩)⟩) (M := yp_m31) rfl bc_271
theorem bo_279 (h : bw_H xs X) : bx_Kok yp_P xs bw_INV X bk_279 := bx_chk_K h.1 h.2.1 (List.forall_mem_cons.mpr ⟨bo_165 h, (List.forall_mem_cons.mpr ⟨bo_166 h, (List.forall_mem_cons.mpr ⟨bo_168 h, (List.forall_mem_cons.mpr ⟨bo_184 h, (List.forall_mem_cons.mpr ⟨bo_201 h, (List.forall_mem_cons.mpr ⟨bo_203 h, (List.forall_mem_cons.mpr ⟨bo_271 h, bx_Tnil⟩)⟩)⟩)⟩)⟩)⟩)⟩) (M := yp_m33) rfl bc_279
theorem bo_294 (h : bw_H xs X) : bx_Kok yp_P xs bw_INV X bk_294 := bx_chk_K h.1 h.2.1 (List.forall_mem_cons.mpr ⟨bo_168 h, (List.forall_mem_cons.mpr ⟨bo_203 h, (List.forall_mem_cons.mpr ⟨bo_237 h, (List.forall_mem_cons.mpr ⟨bo_279 h, bx_Tnil⟩)⟩)⟩)⟩) (M := yp_m32) rfl bc_294
theorem bo_269 (h : bw_H xs X) : bx_Kok yp_P xs bw_INV X bk_269 := bx_chk_K h.1 h.2.1 (List.forall_mem_cons.mpr ⟨bo_279 h, (List.forall_mem_cons.mpr ⟨bo_294 h, bx_Tnil⟩)⟩) (M := yp_m32) rfl bc_269
theorem bo_308 (h : bw_H xs X) : bx_Kok yp_P xs bw_INV X bk_308 := bx_chk_K h.1 h.2.1 (List.forall_mem_cons.mpr ⟨bo_168 h, (List.forall_mem_cons.mpr ⟨bo_203 h, (List.forall_mem_cons.mpr ⟨bo_269 h, (List.forall_mem_cons.mpr ⟨bo_295 h, bx_Tnil⟩)⟩)⟩)⟩) (M := yp_m31) rfl bc_308
theorem bo_256 (h : bw_H xs X) : bx_Kok yp_P xs bw_INV X bk_256 := bx_chk_K h.1 h.2.1 (List.forall_mem_cons.mpr ⟨bo_269 h, (List.forall_mem_cons.mpr ⟨bo_308 h, bx_Tnil⟩)⟩) (M := yp_m31) rfl bc_256
theorem bo_267 (h : bw_H xs X) : bx_Kok yp_P xs bw_INV X bk_267 := bx_chk_K h.1 h.2.1 (List.forall_mem_cons.mpr ⟨bo_165 h, (List.forall_mem_cons.mpr ⟨bo_166 h, (List.forall_mem_cons.mpr ⟨bo_168 h, (List.forall_mem_cons.mpr ⟨bo_184 h, (List.forall_mem_cons.mpr ⟨bo_201 h, (List.forall_mem_cons.mpr ⟨bo_203 h, (List.forall_mem_cons.mpr ⟨bo_256 h, bx_Tnil⟩)⟩)⟩)⟩)⟩)⟩)⟩) (M := yp_m33) rfl bc_267
theorem bo_286 (h : bw_H xs X) : bx_Kok yp_P xs bw_INV X bk_286 := bx_chk_K h.1 h.2.1 (List.forall_mem_cons.mpr ⟨bo_168 h, (List.forall_mem_cons.mpr ⟨bo_203 h, (List.forall_mem_cons.mpr ⟨bo_237 h, (List.forall_mem_cons.mpr ⟨bo_267 h, bx_Tnil⟩)⟩)⟩)⟩) (M := yp_m32) rfl bc_286
theorem bo_254 (h : bw_H xs X) : bx_Kok yp_P xs bw_INV X bk_254 := bx_chk_K h.1 h.2.1 (List.forall_mem_cons.mpr ⟨bo_267 h, (List.forall_mem_cons.mpr ⟨bo_286 h, bx_Tnil⟩)⟩) (M := yp_m32) rfl bc_254
theorem bo_303 (h : bw_H xs X) : bx_Kok yp_P xs bw_INV X bk_303 := bx_chk_K h.1 h.2.1 (List.forall_mem_cons.mpr ⟨bo_168 h, (List.forall_mem_cons.mpr ⟨bo_203 h, (List.forall_mem_cons.mpr ⟨bo_254 h, (List.forall_mem_cons.mpr ⟨bo_295 h, bx_Tnil⟩)⟩)⟩)⟩) (M := yp_m31) rfl bc_303
theorem bo_243 (h : bw_H xs X) : bx_Kok yp_P xs bw_INV X bk_243 := bx_chk_K h.1 h.2.1 (List.forall_mem_cons.mpr ⟨bo_254 h, (List.forall_mem_cons.mpr ⟨bo_303 h, bx_Tnil⟩)⟩) (M := yp_m31) rfl bc_243
theorem bo_252 (h : bw_H xs X) : bx_Kok yp_P xs bw_INV X bk_252 := bx_chk_K h.1 h.2.1 (List.forall_mem_cons.mpr ⟨bo_165 h, (List.forall_mem_cons.mpr ⟨bo_166 h, (List.forall_mem_cons.mpr ⟨bo_168 h, (List.forall_mem_cons.mpr ⟨bo_184 h, (List.forall_mem_cons.mpr ⟨bo_201 h, (List.forall_mem_cons.mpr ⟨bo_203 h, (List.forall_mem_cons.mpr ⟨bo_243 h, bx_Tnil⟩)⟩)⟩)⟩)⟩)⟩)⟩) (M := yp_m33) rfl bc_252
theorem bo_274 (h : bw_H xs X) : bx_Kok yp_P xs bw_INV X bk_274 := bx_chk_K h.1 h.2.1 (List.forall_mem_cons.mpr ⟨bo_168 h, (List.forall_mem_cons.mpr ⟨bo_203 h, (List.forall_mem_cons.mpr ⟨bo_237 h, (List.forall_mem_cons.mpr ⟨bo_252 h, bx_Tnil⟩)⟩)⟩)⟩) (M := yp_m32) rfl bc_274
theorem bo_241 (h : bw_H xs X) : bx_Kok yp_P xs bw_INV X bk_241 := bx_chk_K h.1 h.2.1 (List.forall_mem_cons.mpr ⟨bo_252 h, (List.forall_mem_cons.mpr ⟨bo_274 h, bx_Tnil⟩)⟩) (M := yp_m32) rfl bc_241
theorem bo_298 (h : bw_H xs X) : bx_Kok yp_P xs bw_INV X bk_298 := bx_chk_K h.1 h.2.1 (List.forall_mem_cons.mpr ⟨bo_168 h, (List.forall_mem_cons.mpr ⟨bo_203 h, (List.forall_mem_cons.mpr ⟨bo_241 h, (List.forall_mem_cons.mpr ⟨bo_295 h, bx_Tnil⟩)⟩)⟩)⟩) (M := yp_m31) rfl bc_298
theorem bo_233 (h : bw_H xs X) : bx_Kok yp_P xs bw_INV X bk_233 := bx_chk_K h.1 h.2.1 (List.forall_mem_cons.mpr ⟨bo_241 h, (List.forall_mem_cons.mpr ⟨bo_298 h, bx_Tnil⟩)⟩) (M := yp_m31) rfl bc_233
theorem bo_223 (h : bw_H xs X) : bx_Kok yp_P xs bw_INV X bk_223 := bx_chk_K h.1 h.2.1 (List.forall_mem_cons.mpr ⟨bo_165 h, (List.forall_mem_cons.mpr ⟨bo_166 h, (List.forall_mem_cons.mpr ⟨bo_168 h, (List.forall_mem_cons.mpr ⟨bo_184 h, (List.forall_mem_cons.mpr ⟨bo_201 h, (List.forall_mem_cons.mpr ⟨bo_203 h, (List.forall_mem_cons.mpr ⟨bo_233 h, bx_Tnil⟩)⟩)⟩)⟩)⟩)⟩)⟩) (M := yp_m33) rfl bc_223
theorem bo_236 (h : bw_H xs X) : bx_Kok yp_P xs bw_INV X bk_236 := bx_chk_K h.1 h.2.1 (List.forall_mem_cons.mpr ⟨bo_168 h, (List.forall_mem_cons.mpr ⟨bo_203 h, (List.forall_mem_cons.mpr ⟨bo_223 h, (List.forall_mem_cons.mpr ⟨bo_237 h, bx_Tnil⟩)⟩)⟩)⟩) (M := yp_m32) rfl bc_236
theorem bo_213 (h : bw_H xs X) : bx_Kok yp_P xs bw_INV X bk_213 := bx_chk_K h.1 h.2.1 (List.forall_mem_cons.mpr ⟨bo_223 h, (List.forall_mem_cons.mpr ⟨bo_236 h, bx_Tnil⟩)⟩) (M := yp_m32) rfl bc_213
theorem bo_284 (h : bw_H xs X) : bx_Kok yp_P xs bw_INV X bk_284 := bx_chk_K h.1 h.2.1 (List.forall_mem_cons.mpr ⟨bo_168 h, (List.forall_mem_cons.mpr ⟨bo_203 h, (List.forall_mem_cons.mpr ⟨bo_213 h, (List.forall_mem_cons.mpr ⟨bo_295 h, bx_Tnil⟩)⟩)⟩)⟩) (M := yp_m31) rfl bc_284
theorem bo_202 (h : bw_H xs X) : bx_Kok yp_P xs bw_INV X bk_202 := bx_chk_K h.1 h.2.1 (List.forall_mem_cons.mpr ⟨bo_213 h, (List.forall_mem_cons.mpr ⟨bo_284 h, bx_Tnil⟩)⟩) (M := yp_m31) rfl bc_202
theorem bo_195 (h : bw_H xs X) : bx_Kok yp_P xs bw_INV X bk_195 := bx_chk_K h.1 h.2.1 (List.forall_mem_cons.mpr ⟨bo_165 h, (List.forall_mem_cons.mpr ⟨bo_166 h, (List.forall_mem_cons.mpr ⟨bo_168 h, (List.forall_mem_cons.mpr ⟨bo_184 h, (List.forall_mem_cons.mpr ⟨bo_201 h, (List.forall_mem_cons.mpr ⟨bo_202 h, (List.forall_mem_cons.mpr ⟨bo_203 h, bx_Tnil⟩)⟩)⟩)⟩)⟩)⟩)⟩) (M := yp_m33) rfl bc_195
theorem bo_226 (h : bw_H xs X) : bx_Kok yp_P xs bw_INV X bk_226 := bx_chk_K h.1 h.2.1 (List.forall_mem_cons.mpr ⟨bo_168 h, (List.forall_mem_cons.mpr ⟨bo_195 h, (List.forall_mem_cons.mpr ⟨bo_203 h, (List.forall_mem_cons.mpr ⟨bo_237 h, bx_Tnil⟩)⟩)⟩)⟩) (M := yp_m32) rfl bc_226
theorem bo_190 (h : bw_H xs X) : bx_Kok yp_P xs bw_INV X bk_190 := bx_chk_K h.1 h.2.1 (List.forall_mem_cons.mpr ⟨bo_195 h, (List.forall_mem_cons.mpr ⟨bo_226 h, bx_Tnil⟩)⟩) (M := yp_m32) rfl bc_190
theorem bo_283 (h : bw_H xs X) : bx_Kok yp_P xs bw_INV X bk_283 := bx_chk_K h.1 h.2.1 (List.forall_mem_cons.mpr ⟨bo_168 h, (List.forall_mem_cons.mpr ⟨bo_190 h, (List.forall_mem_cons.mpr ⟨bo_203 h, (List.forall_mem_cons.mpr ⟨bo_295 h, bx_Tnil⟩)⟩)⟩)⟩) (M := yp_m31) rfl bc_283
theorem bo_183 (h : bw_H xs X) : bx_Kok yp_P xs bw_INV X bk_183 := bx_chk_K h.1 h.2.1 (List.forall_mem_cons.mpr ⟨bo_190 h, (List.forall_mem_cons.mpr ⟨bo_283 h, bx_Tnil⟩)⟩) (M := yp_m31) rfl bc_183
theorem bo_272 (h : bw_H xs X) : bx_Kok yp_P xs bw_INV X bk_272 := bx_chk_K h.1 h.2.1 (List.forall_mem_cons.mpr ⟨bo_165 h, (List.forall_mem_cons.mpr ⟨bo_168 h, (List.forall_mem_cons.mpr ⟨bo_203 h, (List.forall_mem_cons.mpr ⟨bo_282 h, bx_Tnil⟩)⟩)⟩)⟩) (M := yp_m43) rfl bc_272
theorem bo_321 (h : bw_H xs X) : bx_Kok yp_P xs bw_INV X bk_321 := bx_chk_K h.1 h.2.1 bx_Tnil (M := yp_m44) rfl bc_321
theorem bo_344 (h : bw_H xs X) : bx_Kok yp_P xs bw_INV X bk_344 := bx_chk_K h.1 h.2.1 (List.forall_mem_cons.mpr ⟨bo_168 h, (List.forall_mem_cons.mpr ⟨bo_203 h, (List.forall_mem_cons.mpr ⟨bo_272 h, (List.forall_mem_cons.mpr ⟨bo_321 h, bx_Tnil⟩)⟩)⟩)⟩) (M := yp_m42) rfl bc_344
theorem bo_280 (h : bw_H xs X) : bx_Kok yp_P xs bw_INV X bk_280 := bx_chk_K h.1 h.2.1 (List.forall_mem_cons.mpr ⟨bo_272 h, (List.forall_mem_cons.mpr ⟨bo_344 h, bx_Tnil⟩)⟩) (M := yp_m42) rfl bc_280
theorem bo_366 (h : bw_H xs X) : bx_Kok yp_P xs bw_INV X bk_366 := bx_chk_K h.1 h.2.1 (List.forall_mem_cons.mpr ⟨bo_168 h, (List.forall_mem_cons.mpr ⟨bo_203 h, (List.forall_mem_cons.mpr ⟨bo_280 h, (List.forall_mem_cons.mpr ⟨bo_321 h, bx_Tnil⟩)⟩)⟩)⟩) (M := yp_m41) rfl bc_366
theorem bo_270 (h : bw_H xs X) : bx_Kok yp_P xs bw_INV X bk_270 := bx_chk_K h.1 h.2.1 (List.forall_mem_cons.mpr ⟨bo_280 h, (List.forall_mem_cons.mpr ⟨bo_366 h, bx_Tnil⟩)⟩) (M := yp_m41) rfl bc_270
theorem bo_257 (h : bw_H xs X) : bx_Kok yp_P xs bw_INV X bk_257 := bx_chk_K h.1 h.2.1 (List.forall_mem_cons.mpr ⟨bo_165 h, (List.forall_mem_cons.mpr ⟨bo_168 h, (List.forall_mem_cons.mpr ⟨bo_184 h, (List.forall_mem_cons.mpr ⟨bo_203 h, (List.forall_mem_cons.mpr ⟨bo_270 h, (List.forall_mem_cons.mpr ⟨bo_271 h, (List.forall_mem_cons.mpr ⟨bo_272 h, bx_Tnil⟩)⟩)⟩)⟩)⟩)⟩)⟩) (M := yp_m43) rfl bc_257
theorem bo_335 (h : bw_H xs X) : bx_Kok yp_P xs bw_INV X bk_335 := bx_chk_K h.1 h.2.1 (List.forall_mem_cons.mpr ⟨bo_168 h, (List.forall_mem_cons.mpr ⟨bo_203 h, (List.forall_mem_cons.mpr ⟨bo_257 h, (List.forall_mem_cons.mpr ⟨bo_321 h, bx_Tnil⟩)⟩)⟩)⟩) (M := yp_m42) rfl bc_335
theorem bo_268 (h : bw_H xs X) : bx_Kok yp_P xs bw_INV X bk_268 := bx_chk_K h.1 h.2.1 (List.forall_mem_cons.mpr ⟨bo_257 h, (List.forall_mem_cons.mpr ⟨bo_335 h, bx_Tnil⟩)⟩) (M := yp_m42) rfl bc_268
theorem bo_358 (h : bw_H xs X) : bx_Kok yp_P xs bw_INV X bk_358 := bx_chk_K h.1 h.2.1 (List.forall_mem_cons.mpr ⟨bo_168 h, (List.forall_mem_cons.mpr ⟨bo_203 h, (List.forall_mem_cons.mpr ⟨bo_268 h, (List.forall_mem_cons.mpr ⟨bo_321 h, bx_Tnil⟩)⟩)⟩)⟩) (M := yp_m41) rfl bc_358
theorem bo_255 (h : bw_H xs X) : bx_Kok yp_P xs bw_INV X bk_255 := bx_chk_K h.1 h.2.1 (List.forall_mem_cons.mpr ⟨bo_268 h, (List.forall_mem_cons.mpr ⟨bo_358 h, bx_Tnil⟩)⟩) (M := yp_m41) rfl bc_255
theorem bo_244 (h : bw_H xs X) : bx_Kok yp_P xs bw_INV X bk_244 := bx_chk_K h.1 h.2.1 (List.forall_mem_cons.mpr ⟨bo_165 h, (List.forall_mem_cons.mpr ⟨bo_168 h, (List.forall_mem_cons.mpr ⟨bo_184 h, (List.forall_mem_cons.mpr ⟨bo_203 h, (List.forall_mem_cons.mpr ⟨bo_255 h, (List.forall_mem_cons.mpr ⟨bo_256 h, (List.forall_mem_cons.mpr ⟨bo_257 h, bx_Tnil⟩)⟩)⟩)⟩)⟩)⟩)⟩) (M := yp_m43) rfl bc_244
theorem bo_328 (h : bw_H xs X) : bx_Kok yp_P xs bw_INV X bk_328 := bx_chk_K h.1 h.2.1 (List.forall_mem_cons.mpr ⟨bo_168 h, (List.forall_mem_cons.mpr ⟨bo_203 h, (List.forall_mem_cons.mpr ⟨bo_244 h, (List.forall_mem_cons.mpr ⟨bo_321 h, bx_Tnil⟩)⟩)⟩)⟩) (M := yp_m42) rfl bc_328
theorem bo_253 (h : bw_H xs X) : bx_Kok yp_P xs bw_INV X bk_253 := bx_chk_K h.1 h.2.1 (List.forall_mem_cons.mpr ⟨bo_244 h, (List.forall_mem_cons.mpr ⟨bo_328 h, bx_Tnil⟩)⟩) (M := yp_m42) rfl bc_253
theorem bo_351 (h : bw_H xs X) : bx_Kok yp_P xs bw_INV X bk_351 := bx_chk_K h.1 h.2.1 (List.forall_mem_cons.mpr ⟨bo_168 h, (List.forall_mem_cons.mpr ⟨bo_203 h, (List.forall_mem_cons.mpr ⟨bo_253 h, (List.forall_mem_cons.mpr ⟨bo_321 h, bx_Tnil⟩)⟩)⟩)⟩) (M := yp_m41) rfl bc_351
theorem bo_242 (h : bw_H xs X) : bx_Kok yp_P xs bw_INV X bk_242 := bx_chk_K h.1 h.2.1 (List.forall_mem_cons.mpr ⟨bo_253 h, (List.forall_mem_cons.mpr ⟨bo_351 h, bx_Tnil⟩)⟩) (M := yp_m41) rfl bc_242
theorem bo_234 (h : bw_H xs X) : bx_Kok yp_P xs bw_INV X bk_234 := bx_chk_K h.1 h.2.1 (List.forall_mem_cons.mpr ⟨bo_165 h, (List.forall_mem_cons.mpr ⟨bo_168 h, (List.forall_mem_cons.mpr ⟨bo_184 h, (List.forall_mem_cons.mpr ⟨bo_203 h, (List.forall_mem_cons.mpr ⟨bo_242 h, (List.forall_mem_cons.mpr ⟨bo_243 h, (List.forall_mem_cons.mpr ⟨bo_244 h, bx_Tnil⟩)⟩)⟩)⟩)⟩)⟩)⟩) (M := yp_m43) rfl bc_234
theorem bo_318 (h : bw_H xs X) : bx_Kok yp_P xs bw_INV X bk_318 := bx_chk_K h.1 h.2.1 (List.forall_mem_cons.mpr ⟨bo_168 h, (List.forall_mem_cons.mpr ⟨bo_203 h, (List.forall_mem_cons.mpr ⟨bo_234 h, (List.forall_mem_cons.mpr ⟨bo_321 h, bx_Tnil⟩)⟩)⟩)⟩) (M := yp_m42) rfl bc_318
theorem bo_240 (h : bw_H xs X) : bx_Kok yp_P xs bw_INV X bk_240 := bx_chk_K h.1 h.2.1 (List.forall_mem_cons.mpr ⟨bo_234 h, (List.forall_mem_cons.mpr ⟨bo_318 h, bx_Tnil⟩)⟩) (M := yp_m42) rfl bc_240
theorem bo_343 (h : bw_H xs X) : bx_Kok yp_P xs bw_INV X bk_343 := bx_chk_K h.1 h.2.1 (List.forall_mem_cons.mpr ⟨bo_168 h, (List.forall_mem_cons.mpr ⟨bo_203 h, (List.forall_mem_cons.mpr ⟨bo_240 h, (List.forall_mem_cons.mpr ⟨bo_321 h, bx_Tnil⟩)⟩)⟩)⟩) (M := yp_m41) rfl bc_343
theorem bo_232 (h : bw_H xs X) : bx_Kok yp_P xs bw_INV X bk_232 := bx_chk_K h.1 h.2.1 (List.forall_mem_cons.mpr ⟨bo_240 h, (List.forall_mem_cons.mpr ⟨bo_343 h, bx_Tnil⟩)⟩) (M := yp_m41) rfl bc_232
theorem bo_222 (h : bw_H xs X) : bx_Kok yp_P xs bw_INV X bk_222 := bx_chk_K h.1 h.2.1 (List.forall_mem_cons.mpr ⟨bo_165 h, (List.forall_mem_cons.mpr ⟨bo_168 h, (List.forall_mem_cons.mpr ⟨bo_184 h, (List.forall_mem_cons.mpr ⟨bo_203 h, (List.forall_mem_cons.mpr ⟨bo_232 h, (List.forall_mem_cons.mpr ⟨bo_233 h, (List.forall_mem_cons.mpr ⟨bo_234 h, bx_Tnil⟩)⟩)⟩)⟩)⟩)⟩)⟩) (M := yp_m43) rfl bc_222
theorem bo_315 (h : bw_H xs X) : bx_Kok yp_P xs bw_INV X bk_315 := bx_chk_K h.1 h.2.1 (List.forall_mem_cons.mpr ⟨bo_168 h, (List.forall_mem_cons.mpr ⟨bo_203 h, (List.forall_mem_cons.mpr ⟨bo_222 h, (List.forall_mem_cons.mpr ⟨bo_321 h, bx_Tnil⟩)⟩)⟩)⟩) (M := yp_m42) rfl bc_315
theorem bo_231 (h : bw_H xs X) : bx_Kok yp_P xs bw_INV X bk_231 := bx_chk_K h.1 h.2.1 (List.forall_mem_cons.mpr ⟨bo_222 h, (List.forall_mem_cons.mpr ⟨bo_315 h, bx_Tnil⟩)⟩) (M := yp_m42) rfl bc_231
theorem bo_334 (h : bw_H xs X) : bx_Kok yp_P xs bw_INV X bk_334 := bx_chk_K h.1 h.2.1 (List.forall_mem_cons.mpr ⟨bo_168 h, (List.forall_mem_cons.mpr ⟨bo_203 h, (List.forall_mem_cons.mpr ⟨bo_231 h, (List.forall_mem_cons.mpr ⟨bo_321 h, bx_Tnil⟩)⟩)⟩)⟩) (M := yp_m41) rfl bc_334
theorem bo_221 (h : bw_H xs X) : bx_Kok yp_P xs bw_INV X bk_221 := bx_chk_K h.1 h.2.1 (List.forall_mem_cons.mpr ⟨bo_231 h, (List.forall_mem_cons.mpr ⟨bo_334 h, bx_Tnil⟩)⟩) (M := yp_m41) rfl bc_221
theorem bo_212 (h : bw_H xs X) : bx_Kok yp_P xs bw_INV X bk_212 := bx_chk_K h.1 h.2.1 (List.forall_mem_cons.mpr ⟨bo_165 h, (List.forall_mem_cons.mpr ⟨bo_168 h, (List.forall_mem_cons.mpr ⟨bo_184 h, (List.forall_mem_cons.mpr ⟨bo_202 h, (List.forall_mem_cons.mpr ⟨bo_203 h, (List.forall_mem_cons.mpr ⟨bo_221 h, (List.forall_mem_cons.mpr ⟨bo_222 h, bx_Tnil⟩)⟩)⟩)⟩)⟩)⟩)⟩) (M := yp_m43) rfl bc_212
theorem bo_314 (h : bw_H xs X) : bx_Kok yp_P xs bw_INV X bk_314 := bx_chk_K h.1 h.2.1 (List.forall_mem_cons.mpr ⟨bo_168 h, (List.forall_mem_cons.mpr ⟨bo_203 h, (List.forall_mem_cons.mpr ⟨bo_212 h, (List.forall_mem_cons.mpr ⟨bo_321 h, bx_Tnil⟩)⟩)⟩)⟩) (M := yp_m42) rfl bc_314
theorem bo_200 (h : bw_H xs X) : bx_Kok yp_P xs bw_INV X bk_200 := bx_chk_K h.1 h.2.1 (List.forall_mem_cons.mpr ⟨bo_212 h, (List.forall_mem_cons.mpr ⟨bo_314 h, bx_Tnil⟩)⟩) (M := yp_m42) rfl bc_200
theorem bo_333 (h : bw_H xs X) : bx_Kok yp_P xs bw_INV X bk_333 := bx_chk_K h.1 h.2.1 (List.forall_mem_cons.mpr ⟨bo_168 h, (List.forall_mem_cons.mpr ⟨bo_200 h, (List.forall_mem_cons.mpr ⟨bo_203 h, (List.forall_mem_cons.mpr ⟨bo_321 h, bx_Tnil⟩)⟩)⟩)⟩) (M := yp_m41) rfl bc_333
theorem bo_194 (h : bw_H xs X) : bx_Kok yp_P xs bw_INV X bk_194 := bx_chk_K h.1 h.2.1 (List.forall_mem_cons.mpr ⟨bo_200 h, (List.forall_mem_cons.mpr ⟨bo_333 h, bx_Tnil⟩)⟩) (M := yp_m41) rfl bc_194
theorem bo_356 (h : bw_H xs X) : bx_Kok yp_P xs bw_INV X bk_356 := bx_chk_K h.1 h.2.1 bx_Tnil (M := yp_m45) rfl bc_356
theorem bo_146 (h : bw_H xs X) : bx_Kok yp_P xs bw_INV X bk_146 := bx_chk_K h.1 h.2.1 (List.forall_mem_cons.mpr ⟨bo_165 h, (List.forall_mem_cons.mpr ⟨bo_168 h, (List.forall_mem_cons.mpr ⟨bo_183 h, (List.forall_mem_cons.mpr ⟨bo_184 h, (List.forall_mem_cons.mpr ⟨bo_194 h, (List.forall_mem_cons.mpr ⟨bo_356 h, bx_Tnil⟩)⟩)⟩)⟩)⟩)⟩) (M := yp_m27) rfl bc_146
theorem bo_119 (h : bw_H xs X) : bx_Kok yp_P xs bw_INV X bk_119 := bx_chk_K h.1 h.2.1 (List.forall_mem_cons.mpr ⟨bo_146 h, (List.forall_mem_cons.mpr ⟨bo_184 h, (List.forall_mem_cons.mpr ⟨bo_207 h, bx_Tnil⟩)⟩)⟩) (M := yp_m26) rfl bc_119
theorem bo_92 (h : bw_H xs X) : bx_Kok yp_P xs bw_INV X bk_92 := bx_chk_K h.1 h.2.1 (List.forall_mem_cons.mpr ⟨bo_119 h, bx_Tnil⟩) (M := yp_m26) rfl bc_92
theorem bo_26 (h : bw_H xs X) : bx_Kok yp_P xs bw_INV X bk_26 := bx_chk_K h.1 h.2.1 (List.forall_mem_cons.mpr ⟨bo_30 h, (List.forall_mem_cons.mpr ⟨bo_35 h, (List.forall_mem_cons.mpr ⟨bo_92 h, bx_Tnil⟩)⟩)⟩) (M := yp_m22) rfl bc_26
theorem bo_49 (h : bw_H xs X) : bx_Kok yp_P xs bw_INV X bk_49 := bx_chk_K h.1 h.2.1 (List.forall_mem_cons.mpr ⟨bo_86 h, bx_Tnil⟩) (M := yp_m15) rfl bc_49
theorem bo_27 (h : bw_H xs X) : bx_Kok yp_P xs bw_INV X bk_27 := bx_chk_K h.1 h.2.1 (List.forall_mem_cons.mpr ⟨bo_49 h, bx_Tnil⟩) (M := yp_m12) rfl bc_27
theorem bo_99 (h : bw_H xs X) : bx_Kok yp_P xs bw_INV X bk_99 := bx_chk_K h.1 h.2.1 bx_Tnil (M := yp_m165) rfl bc_99
theorem bo_120 (h : bw_H xs X) : bx_Kok yp_P xs bw_INV X bk_120 := bx_chk_K h.1 h.2.1 (List.forall_mem_cons.mpr ⟨bo_99 h, bx_Tnil⟩) (M := yp_m262) rfl bc_120
theorem bo_93 (h : bw_H xs X) : bx_Kok yp_P xs bw_INV X bk_93 := bx_chk_K h.1 h.2.1 (List.forall_mem_cons.mpr ⟨bo_120 h, bx_Tnil⟩) (M := yp_m262) rfl bc_93
theorem bo_121 (h : bw_H xs X) : bx_Kok yp_P xs bw_INV X bk_121 := bx_chk_K h.1 h.2.1 bx_Tnil (M := yp_m275) rfl bc_121
end BWK
end
section
section BWK
variable {xs : List Int32} {X : sx_W → Prop}
theorem bo_94 (h : bw_H xs X) : bx_Kok yp_P xs bw_INV X bk_94 := bx_chk_K h.1 h.2.1 (List.forall_mem_cons.mpr ⟨bo_121 h, bx_Tnil⟩) (M := yp_m275) rfl bc_94
theorem bo_122 (h : bw_H xs X) : bx_Kok yp_P xs bw_INV X bk_122 := bx_chk_K h.1 h.2.1 bx_Tnil (M := yp_m270) rfl bc_122
theorem bo_95 (h : bw_H xs X) : bx_Kok yp_P xs bw_INV X bk_95 := bx_chk_K h.1 h.2.1 (List.forall_mem_cons.mpr ⟨bo_122 h, bx_Tnil⟩) (M := yp_m270) rfl bc_95
theorem bo_50 (h : bw_H xs X) : bx_Kok yp_P xs bw_INV X bk_50 := bx_chk_K h.1 h.2.1 (List.forall_mem_cons.mpr ⟨bo_93 h, (List.forall_mem_cons.mpr ⟨bo_94 h, (List.forall_mem_cons.mpr ⟨bo_95 h, bx_Tnil⟩)⟩)⟩) (M := yp_m274) rfl bc_50
theorem bo_147 (h : bw_H xs X) : bx_Kok yp_P xs bw_INV X bk_147 := bx_chk_K h.1 h.2.1 bx_Tnil (M := yp_m273) rfl bc_147
theorem bo_123 (h : bw_H xs X) : bx_Kok yp_P xs bw_INV X bk_123 := bx_chk_K h.1 h.2.1 (List.forall_mem_cons.mpr ⟨bo_147 h, bx_Tnil⟩) (M := yp_m273) rfl bc_123
theorem bo_96 (h : bw_H xs X) : bx_Kok yp_P xs bw_INV X bk_96 := bx_chk_K h.1 h.2.1 (List.forall_mem_cons.mpr ⟨bo_123 h, bx_Tnil⟩) (M := yp_m272) rfl bc_96
theorem bo_51 (h : bw_H xs X) : bx_Kok yp_P xs bw_INV X bk_51 := bx_chk_K h.1 h.2.1 (List.forall_mem_cons.mpr ⟨bo_96 h, bx_Tnil⟩) (M := yp_m272) rfl bc_51
theorem bo_124 (h : bw_H xs X) : bx_Kok yp_P xs bw_INV X bk_124 := bx_chk_K h.1 h.2.1 bx_Tnil (M := yp_m212) rfl bc_124
theorem bo_97 (h : bw_H xs X) : bx_Kok yp_P xs bw_INV X bk_97 := bx_chk_K h.1 h.2.1 (List.forall_mem_cons.mpr ⟨bo_124 h, bx_Tnil⟩) (M := yp_m212) rfl bc_97
theorem bo_52 (h : bw_H xs X) : bx_Kok yp_P xs bw_INV X bk_52 := bx_chk_K h.1 h.2.1 (List.forall_mem_cons.mpr ⟨bo_97 h, bx_Tnil⟩) (M := yp_m271) rfl bc_52
theorem bo_98 (h : bw_H xs X) : bx_Kok yp_P xs bw_INV X bk_98 := bx_chk_K h.1 h.2.1 bx_Tnil (M := yp_m212) rfl bc_98
theorem bo_53 (h : bw_H xs X) : bx_Kok yp_P xs bw_INV X bk_53 := bx_chk_K h.1 h.2.1 (List.forall_mem_cons.mpr ⟨bo_98 h, bx_Tnil⟩) (M := yp_m212) rfl bc_53
theorem bo_154 (h : bw_H xs X) : bx_Kok yp_P xs bw_INV X bk_154 := bx_chk_K h.1 h.2.1 bx_Tnil (M := yp_m205) rfl bc_154
theorem bo_131 (h : bw_H xs X) : bx_Kok yp_P xs bw_INV X bk_131 := bx_chk_K h.1 h.2.1 (List.forall_mem_cons.mpr ⟨bo_154 h, bx_Tnil⟩) (M := yp_m267) rfl bc_131
theorem bo_359 (h : bw_H xs X) : bx_Kok yp_P xs bw_INV X bk_359 := bx_chk_K h.1 h.2.1 bx_Tnil (M := yp_m206) rfl bc_359
theorem bo_191 (h : bw_H xs X) : bx_Kok yp_P xs bw_INV X bk_191 := bx_chk_K h.1 h.2.1 (List.forall_mem_cons.mpr ⟨bo_154 h, bx_Tnil⟩) (M := yp_m234) rfl bc_191
theorem bo_186 (h : bw_H xs X) : bx_Kok yp_P xs bw_INV X bk_186 := bx_chk_K h.1 h.2.1 (List.forall_mem_cons.mpr ⟨bo_191 h, bx_Tnil⟩) (M := yp_m234) rfl bc_186
theorem bo_370 (h : bw_H xs X) : bx_Kok yp_P xs bw_INV X bk_370 := bx_chk_K h.1 h.2.1 (List.forall_mem_cons.mpr ⟨bo_186 h, bx_Tnil⟩) (M := yp_m267) rfl bc_370
theorem bo_54 (h : bw_H xs X) : bx_Kok yp_P xs bw_INV X bk_54 := bx_chk_K h.1 h.2.1 (List.forall_mem_cons.mpr ⟨bo_99 h, (List.forall_mem_cons.mpr ⟨bo_131 h, (List.forall_mem_cons.mpr ⟨bo_359 h, (List.forall_mem_cons.mpr ⟨bo_370 h, bx_Tnil⟩)⟩)⟩)⟩) (M := yp_m267) rfl bc_54
theorem bo_55 (h : bw_H xs X) : bx_Kok yp_P xs bw_INV X bk_55 := h.2.2 _ (List.mem_of_getElem? (i := 0) rfl)
theorem bo_155 (h : bw_H xs X) : bx_Kok yp_P xs bw_INV X bk_155 := bx_chk_K h.1 h.2.1 (List.forall_mem_cons.mpr ⟨bo_154 h, bx_Tnil⟩) (M := yp_m207) rfl bc_155
theorem bo_132 (h : bw_H xs X) : bx_Kok yp_P xs bw_INV X bk_132 := bx_chk_K h.1 h.2.1 (List.forall_mem_cons.mpr ⟨bo_155 h, bx_Tnil⟩) (M := yp_m207) rfl bc_132
theorem bo_173 (h : bw_H xs X) : bx_Kok yp_P xs bw_INV X bk_173 := bx_chk_K h.1 h.2.1 bx_Tnil (M := yp_m220) rfl bc_173
theorem bo_156 (h : bw_H xs X) : bx_Kok yp_P xs bw_INV X bk_156 := bx_chk_K h.1 h.2.1 (List.forall_mem_cons.mpr ⟨bo_173 h, bx_Tnil⟩) (M := yp_m220) rfl bc_156
theorem bo_199 (h : bw_H xs X) : bx_Kok yp_P xs bw_INV X bk_199 := bx_chk_K h.1 h.2.1 bx_Tnil (M := yp_m199) rfl bc_199
theorem bo_133 (h : bw_H xs X) : bx_Kok yp_P xs bw_INV X bk_133 := bx_chk_K h.1 h.2.1 (List.forall_mem_cons.mpr ⟨bo_156 h, (List.forall_mem_cons.mpr ⟨bo_199 h, bx_Tnil⟩)⟩) (M := yp_m263) rfl bc_133
theorem bo_56 (h : bw_H xs X) : bx_Kok yp_P xs bw_INV X bk_56 := bx_chk_K h.1 h.2.1 (List.forall_mem_cons.mpr ⟨bo_99 h, (List.forall_mem_cons.mpr ⟨bo_132 h, (List.forall_mem_cons.mpr ⟨bo_133 h, bx_Tnil⟩)⟩)⟩) (M := yp_m263) rfl bc_56
theorem bo_125 (h : bw_H xs X) : bx_Kok yp_P xs bw_INV X bk_125 := bx_chk_K h.1 h.2.1 bx_Tnil (M := yp_m212) rfl bc_125
theorem bo_100 (h : bw_H xs X) : bx_Kok yp_P xs bw_INV X bk_100 := bx_chk_K h.1 h.2.1 (List.forall_mem_cons.mpr ⟨bo_125 h, bx_Tnil⟩) (M := yp_m212) rfl bc_100
theorem bo_162 (h : bw_H xs X) : bx_Kok yp_P xs bw_INV X bk_162 := bx_chk_K h.1 h.2.1 (List.forall_mem_cons.mpr ⟨bo_154 h, bx_Tnil⟩) (M := yp_m204) rfl bc_162
theorem bo_140 (h : bw_H xs X) : bx_Kok yp_P xs bw_INV X bk_140 := bx_chk_K h.1 h.2.1 (List.forall_mem_cons.mpr ⟨bo_162 h, bx_Tnil⟩) (M := yp_m204) rfl bc_140
theorem bo_185 (h : bw_H xs X) : bx_Kok yp_P xs bw_INV X bk_185 := bx_chk_K h.1 h.2.1 bx_Tnil (M := yp_m203) rfl bc_185
theorem bo_172 (h : bw_H xs X) : bx_Kok yp_P xs bw_INV X bk_172 := bx_chk_K h.1 h.2.1 (List.forall_mem_cons.mpr ⟨bo_140 h, (List.forall_mem_cons.mpr ⟨bo_185 h, bx_Tnil⟩)⟩) (M := yp_m203) rfl bc_172
theorem bo_153 (h : bw_H xs X) : bx_Kok yp_P xs bw_INV X bk_153 := bx_chk_K h.1 h.2.1 (List.forall_mem_cons.mpr ⟨bo_132 h, (List.forall_mem_cons.mpr ⟨bo_172 h, (List.forall_mem_cons.mpr ⟨bo_359 h, bx_Tnil⟩)⟩)⟩) (M := yp_m202) rfl bc_153
theorem bo_220 (h : bw_H xs X) : bx_Kok yp_P xs bw_INV X bk_220 := bx_chk_K h.1 h.2.1 bx_Tnil (M := yp_m210) rfl bc_220
theorem bo_372 (h : bw_H xs X) : bx_Kok yp_P xs bw_INV X bk_372 := h.2.2 _ (List.mem_of_getElem? (i := 9) rfl)
theorem bo_225 (h : bw_H xs X) : bx_Kok yp_P xs bw_INV X bk_225 := bx_chk_K h.1 h.2.1 (List.forall_mem_cons.mpr ⟨bo_153 h, (List.forall_mem_cons.mpr ⟨bo_199 h, (List.forall_mem_cons.mpr ⟨bo_220 h, (List.forall_mem_cons.mpr ⟨bo_372 h, bx_Tnil⟩)⟩)⟩)⟩) (M := yp_m260) rfl bc_225
theorem bo_169 (h : bw_H xs X) : bx_Kok yp_P xs bw_INV X bk_169 := bx_chk_K h.1 h.2.1 (List.forall_mem_cons.mpr ⟨bo_225 h, bx_Tnil⟩) (M := yp_m259) rfl bc_169
theorem bo_367 (h : bw_H xs X) : bx_Kok yp_P xs bw_INV X bk_367 := h.2.2 _ (List.mem_of_getElem? (i := 7) rfl)
theorem bo_368 (h : bw_H xs X) : bx_Kok yp_P xs bw_INV X bk_368 := h.2.2 _ (List.mem_of_getElem? (i := 8) rfl)
theorem bo_357 (h : bw_H xs X) : bx_Kok yp_P xs bw_INV X bk_357 := bx_chk_K h.1 h.2.1 (List.forall_mem_cons.mpr ⟨bo_99 h, (List.forall_mem_cons.mpr ⟨bo_172 h, (List.forall_mem_cons.mpr ⟨bo_199 h, (List.forall_mem_cons.mpr ⟨bo_367 h, (List.forall_mem_cons.mpr ⟨bo_368 h, bx_Tnil⟩)⟩)⟩)⟩)⟩) (M := yp_m259) rfl bc_357
theorem bo_148 (h : bw_H xs X) : bx_Kok yp_P xs bw_INV X bk_148 := bx_chk_K h.1 h.2.1 (List.forall_mem_cons.mpr ⟨bo_169 h, (List.forall_mem_cons.mpr ⟨bo_357 h, bx_Tnil⟩)⟩) (M := yp_m259) rfl bc_148
theorem bo_126 (h : bw_H xs X) : bx_Kok yp_P xs bw_INV X bk_126 := bx_chk_K h.1 h.2.1 (List.forall_mem_cons.mpr ⟨bo_148 h, bx_Tnil⟩) (M := yp_m258) rfl bc_126
theorem bo_101 (h : bw_H xs X) : bx_Kok yp_P xs bw_INV X bk_101 := bx_chk_K h.1 h.2.1 (List.forall_mem_cons.mpr ⟨bo_126 h, bx_Tnil⟩) (M := yp_m258) rfl bc_101
theorem bo_412 (h : bw_H xs X) : bx_Kok yp_P xs bw_INV X bk_412 := bx_chk_K h.1 h.2.1 bx_Tnil (M := yp_m212) rfl bc_412
theorem bo_411 (h : bw_H xs X) : bx_Kok yp_P xs bw_INV X bk_411 := bx_chk_K h.1 h.2.1 (List.forall_mem_cons.mpr ⟨bo_412 h, bx_Tnil⟩) (M := yp_m212) rfl bc_411
theorem bo_57 (h : bw_H xs X) : bx_Kok yp_P xs bw_INV X bk_57 := bx_chk_K h.1 h.2.1 (List.forall_mem_cons.mpr ⟨bo_93 h, (List.forall_mem_cons.mpr ⟨bo_99 h, (List.forall_mem_cons.mpr ⟨bo_100 h, (List.forall_mem_cons.mpr ⟨bo_101 h, (List.forall_mem_cons.mpr ⟨bo_140 h, (List.forall_mem_cons.mpr ⟨bo_411 h, bx_Tnil⟩)⟩)⟩)⟩)⟩)⟩) (M := yp_m261) rfl bc_57
theorem bo_58 (h : bw_H xs X) : bx_Kok yp_P xs bw_INV X bk_58 := bx_chk_K h.1 h.2.1 (List.forall_mem_cons.mpr ⟨bo_101 h, bx_Tnil⟩) (M := yp_m257) rfl bc_58
theorem bo_102 (h : bw_H xs X) : bx_Kok yp_P xs bw_INV X bk_102 := bx_chk_K h.1 h.2.1 bx_Tnil (M := yp_m235) rfl bc_102
theorem bo_59 (h : bw_H xs X) : bx_Kok yp_P xs bw_INV X bk_59 := bx_chk_K h.1 h.2.1 (List.forall_mem_cons.mpr ⟨bo_102 h, bx_Tnil⟩) (M := yp_m235) rfl bc_59
theorem bo_180 (h : bw_H xs X) : bx_Kok yp_P xs bw_INV X bk_180 := bx_chk_K h.1 h.2.1 bx_Tnil (M := yp_m254) rfl bc_180
theorem bo_170 (h : bw_H xs X) : bx_Kok yp_P xs bw_INV X bk_170 := bx_chk_K h.1 h.2.1 (List.forall_mem_cons.mpr ⟨bo_180 h, bx_Tnil⟩) (M := yp_m254) rfl bc_170
theorem bo_149 (h : bw_H xs X) : bx_Kok yp_P xs bw_INV X bk_149 := bx_chk_K h.1 h.2.1 (List.forall_mem_cons.mpr ⟨bo_170 h, bx_Tnil⟩) (M := yp_m256) rfl bc_149
theorem bo_127 (h : bw_H xs X) : bx_Kok yp_P xs bw_INV X bk_127 := bx_chk_K h.1 h.2.1 (List.forall_mem_cons.mpr ⟨bo_149 h, bx_Tnil⟩) (M := yp_m256) rfl bc_127
theorem bo_374 (h : bw_H xs X) : bx_Kok yp_P xs bw_INV X bk_374 := bx_chk_K h.1 h.2.1 (List.forall_mem_cons.mpr ⟨bo_170 h, bx_Tnil⟩) (M := yp_m255) rfl bc_374
theorem bo_365 (h : bw_H xs X) : bx_Kok yp_P xs bw_INV X bk_365 := bx_chk_K h.1 h.2.1 (List.forall_mem_cons.mpr ⟨bo_374 h, bx_Tnil⟩) (M := yp_m255) rfl bc_365
theorem bo_171 (h : bw_H xs X) : bx_Kok yp_P xs bw_INV X bk_171 := bx_chk_K h.1 h.2.1 (List.forall_mem_cons.mpr ⟨bo_170 h, (List.forall_mem_cons.mpr ⟨bo_365 h, bx_Tnil⟩)⟩) (M := yp_m253) rfl bc_171
theorem bo_151 (h : bw_H xs X) : bx_Kok yp_P xs bw_INV X bk_151 := bx_chk_K h.1 h.2.1 (List.forall_mem_cons.mpr ⟨bo_171 h, bx_Tnil⟩) (M := yp_m253) rfl bc_151
theorem bo_103 (h : bw_H xs X) : bx_Kok yp_P xs bw_INV X bk_103 := bx_chk_K h.1 h.2.1 (List.forall_mem_cons.mpr ⟨bo_127 h, (List.forall_mem_cons.mpr ⟨bo_151 h, (List.forall_mem_cons.mpr ⟨bo_365 h, bx_Tnil⟩)⟩)⟩) (M := yp_m252) rfl bc_103
theorem bo_60 (h : bw_H xs X) : bx_Kok yp_P xs bw_INV X bk_60 := bx_chk_K h.1 h.2.1 (List.forall_mem_cons.mpr ⟨bo_103 h, (List.forall_mem_cons.mpr ⟨bo_151 h, (List.forall_mem_cons.mpr ⟨bo_170 h, (List.forall_mem_cons.mpr ⟨bo_365 h, bx_Tnil⟩)⟩)⟩)⟩) (M := yp_m252) rfl bc_60
theorem bo_61 (h : bw_H xs X) : bx_Kok yp_P xs bw_INV X bk_61 := h.2.2 _ (List.mem_of_getElem? (i := 1) rfl)
theorem bo_363 (h : bw_H xs X) : bx_Kok yp_P xs bw_INV X bk_363 := bx_chk_K h.1 h.2.1 bx_Tnil (M := yp_m236) rfl bc_363
theorem bo_152 (h : bw_H xs X) : bx_Kok yp_P xs bw_INV X bk_152 := h.2.2 _ (List.mem_of_getElem? (i := 5) rfl)
theorem bo_428 (h : bw_H xs X) : bx_Kok yp_P xs bw_INV X bk_428 := bx_chk_K h.1 h.2.1 (List.forall_mem_cons.mpr ⟨bo_199 h, bx_Tnil⟩) (M := yp_m237) rfl bc_428
theorem bo_427 (h : bw_H xs X) : bx_Kok yp_P xs bw_INV X bk_427 := bx_chk_K h.1 h.2.1 (List.forall_mem_cons.mpr ⟨bo_428 h, bx_Tnil⟩) (M := yp_m237) rfl bc_427
theorem bo_426 (h : bw_H xs X) : bx_Kok yp_P xs bw_INV X bk_426 := bx_chk_K h.1 h.2.1 (List.forall_mem_cons.mpr ⟨bo_152 h, (List.forall_mem_cons.mpr ⟨bo_153 h, (List.forall_mem_cons.mpr ⟨bo_368 h, (List.forall_mem_cons.mpr ⟨bo_427 h, bx_Tnil⟩)⟩)⟩)⟩) (M := yp_m236) rfl bc_426
theorem bo_62 (h : bw_H xs X) : bx_Kok yp_P xs bw_INV X bk_62 := bx_chk_K h.1 h.2.1 (List.forall_mem_cons.mpr ⟨bo_99 h, (List.forall_mem_cons.mpr ⟨bo_132 h, (List.forall_mem_cons.mpr ⟨bo_363 h, (List.forall_mem_cons.mpr ⟨bo_426 h, bx_Tnil⟩)⟩)⟩)⟩) (M := yp_m236) rfl bc_62
theorem bo_174 (h : bw_H xs X) : bx_Kok yp_P xs bw_INV X bk_174 := bx_chk_K h.1 h.2.1 (List.forall_mem_cons.mpr ⟨bo_186 h, bx_Tnil⟩) (M := yp_m233) rfl bc_174
theorem bo_157 (h : bw_H xs X) : bx_Kok yp_P xs bw_INV X bk_157 := bx_chk_K h.1 h.2.1 (List.forall_mem_cons.mpr ⟨bo_174 h, bx_Tnil⟩) (M := yp_m233) rfl bc_157
theorem bo_134 (h : bw_H xs X) : bx_Kok yp_P xs bw_INV X bk_134 := bx_chk_K h.1 h.2.1 (List.forall_mem_cons.mpr ⟨bo_157 h, bx_Tnil⟩) (M := yp_m232) rfl bc_134
theorem bo_63 (h : bw_H xs X) : bx_Kok yp_P xs bw_INV X bk_63 := bx_chk_K h.1 h.2.1 (List.forall_mem_cons.mpr ⟨bo_99 h, (List.forall_mem_cons.mpr ⟨bo_134 h, bx_Tnil⟩)⟩) (M := yp_m232) rfl bc_63
theorem bo_176 (h : bw_H xs X) : bx_Kok yp_P xs bw_INV X bk_176 := bx_chk_K h.1 h.2.1 (List.forall_mem_cons.mpr ⟨bo_99 h, (List.forall_mem_cons.mpr ⟨bo_154 h, bx_Tnil⟩)⟩) (M := yp_m228) rfl bc_176
theorem bo_175 (h : bw_H xs X) : bx_Kok yp_P xs bw_INV X bk_175 := bx_chk_K h.1 h.2.1 (List.forall_mem_cons.mpr ⟨bo_176 h, bx_Tnil⟩) (M := yp_m230) rfl bc_175
theorem bo_158 (h : bw_H xs X) : bx_Kok yp_P xs bw_INV X bk_158 := bx_chk_K h.1 h.2.1 (List.forall_mem_cons.mpr ⟨bo_175 h, bx_Tnil⟩) (M := yp_m230) rfl bc_158
theorem bo_135 (h : bw_H xs X) : bx_Kok yp_P xs bw_INV X bk_135 := bx_chk_K h.1 h.2.1 (List.forall_mem_cons.mpr ⟨bo_158 h, bx_Tnil⟩) (M := yp_m229) rfl bc_135
theorem bo_340 (h : bw_H xs X) : bx_Kok yp_P xs bw_INV X bk_340 := bx_chk_K h.1 h.2.1 (List.forall_mem_cons.mpr ⟨bo_99 h, (List.forall_mem_cons.mpr ⟨bo_176 h, bx_Tnil⟩)⟩) (M := yp_m231) rfl bc_340
theorem bo_330 (h : bw_H xs X) : bx_Kok yp_P xs bw_INV X bk_330 := bx_chk_K h.1 h.2.1 (List.forall_mem_cons.mpr ⟨bo_340 h, bx_Tnil⟩) (M := yp_m231) rfl bc_330
theorem bo_320 (h : bw_H xs X) : bx_Kok yp_P xs bw_INV X bk_320 := bx_chk_K h.1 h.2.1 (List.forall_mem_cons.mpr ⟨bo_330 h, bx_Tnil⟩) (M := yp_m231) rfl bc_320
theorem bo_312 (h : bw_H xs X) : bx_Kok yp_P xs bw_INV X bk_312 := bx_chk_K h.1 h.2.1 (List.forall_mem_cons.mpr ⟨bo_320 h, (List.forall_mem_cons.mpr ⟨bo_359 h, bx_Tnil⟩)⟩) (M := yp_m229) rfl bc_312
theorem bo_64 (h : bw_H xs X) : bx_Kok yp_P xs bw_INV X bk_64 := bx_chk_K h.1 h.2.1 (List.forall_mem_cons.mpr ⟨bo_99 h, (List.forall_mem_cons.mpr ⟨bo_135 h, (List.forall_mem_cons.mpr ⟨bo_312 h, (List.forall_mem_cons.mpr ⟨bo_359 h, bx_Tnil⟩)⟩)⟩)⟩) (M := yp_m229) rfl bc_64
theorem bo_159 (h : bw_H xs X) : bx_Kok yp_P xs bw_INV X bk_159 := bx_chk_K h.1 h.2.1 (List.forall_mem_cons.mpr ⟨bo_176 h, bx_Tnil⟩) (M := yp_m227) rfl bc_159
theorem bo_136 (h : bw_H xs X) : bx_Kok yp_P xs bw_INV X bk_136 := bx_chk_K h.1 h.2.1 (List.forall_mem_cons.mpr ⟨bo_159 h, bx_Tnil⟩) (M := yp_m227) rfl bc_136
theorem bo_65 (h : bw_H xs X) : bx_Kok yp_P xs bw_INV X bk_65 := bx_chk_K h.1 h.2.1 (List.forall_mem_cons.mpr ⟨bo_99 h, (List.forall_mem_cons.mpr ⟨bo_136 h, bx_Tnil⟩)⟩) (M := yp_m227) rfl bc_65
theorem bo_66 (h : bw_H xs X) : bx_Kok yp_P xs bw_INV X bk_66 := bx_chk_K h.1 h.2.1 (List.forall_mem_cons.mpr ⟨bo_99 h, (List.forall_mem_cons.mpr ⟨bo_152 h, bx_Tnil⟩)⟩) (M := yp_m226) rfl bc_66
theorem bo_67 (h : bw_H xs X) : bx_Kok yp_P xs bw_INV X bk_67 := bx_chk_K h.1 h.2.1 (List.forall_mem_cons.mpr ⟨bo_99 h, (List.forall_mem_cons.mpr ⟨bo_153 h, (List.forall_mem_cons.mpr ⟨bo_368 h, bx_Tnil⟩)⟩)⟩) (M := yp_m223) rfl bc_67
theorem bo_137 (h : bw_H xs X) : bx_Kok yp_P xs bw_INV X bk_137 := bx_chk_K h.1 h.2.1 (List.forall_mem_cons.mpr ⟨bo_154 h, (List.forall_mem_cons.mpr ⟨bo_156 h, bx_Tnil⟩)⟩) (M := yp_m222) rfl bc_137
theorem bo_68 (h : bw_H xs X) : bx_Kok yp_P xs bw_INV X bk_68 := bx_chk_K h.1 h.2.1 (List.forall_mem_cons.mpr ⟨bo_99 h, (List.forall_mem_cons.mpr ⟨bo_137 h, bx_Tnil⟩)⟩) (M := yp_m222) rfl bc_68
theorem bo_160 (h : bw_H xs X) : bx_Kok yp_P xs bw_INV X bk_160 := bx_chk_K h.1 h.2.1 bx_Tnil (M := yp_m221) rfl bc_160
theorem bo_138 (h : bw_H xs X) : bx_Kok yp_P xs bw_INV X bk_138 := bx_chk_K h.1 h.2.1 (List.forall_mem_cons.mpr ⟨bo_160 h, bx_Tnil⟩) (M := yp_m221) rfl bc_138
theorem bo_161 (h : bw_H xs X) : bx_Kok yp_P xs bw_INV X bk_161 := bx_chk_K h.1 h.2.1 (List.forall_mem_cons.mpr ⟨bo_156 h, bx_Tnil⟩) (M := yp_m219) rfl bc_161
theorem bo_139 (h : bw_H xs X) : bx_Kok yp_P xs bw_INV X bk_139 := bx_chk_K h.1 h.2.1 (List.forall_mem_cons.mpr ⟨bo_161 h, bx_Tnil⟩) (M := yp_m219) rfl bc_139
theorem bo_69 (h : bw_H xs X) : bx_Kok yp_P xs bw_INV X bk_69 := bx_chk_K h.1 h.2.1 (List.forall_mem_cons.mpr ⟨bo_99 h, (List.forall_mem_cons.mpr ⟨bo_132 h, (List.forall_mem_cons.mpr ⟨bo_138 h, (List.forall_mem_cons.mpr ⟨bo_139 h, (List.forall_mem_cons.mpr ⟨bo_140 h, bx_Tnil⟩)⟩)⟩)⟩)⟩) (M := yp_m218) rfl bc_69
theorem bo_70 (h : bw_H xs X) : bx_Kok yp_P xs bw_INV X bk_70 := bx_chk_K h.1 h.2.1 bx_Tnil (M := yp_m217) rfl bc_70
theorem bo_71 (h : bw_H xs X) : bx_Kok yp_P xs bw_INV X bk_71 := bx_chk_K h.1 h.2.1 (List.forall_mem_cons.mpr ⟨bo_99 h, bx_Tnil⟩) (M := yp_m163) rfl bc_71
theorem bo_110 (h : bw_H xs X) : bx_Kok yp_P xs bw_INV X bk_110 := h.2.2 _ (List.mem_of_getElem? (i := 2) rfl)
theorem bo_177 (h : bw_H xs X) : bx_Kok yp_P xs bw_INV X bk_177 := bx_chk_K h.1 h.2.1 bx_Tnil (M := yp_m243) rfl bc_177
theorem bo_163 (h : bw_H xs X) : bx_Kok yp_P xs bw_INV X bk_163 := bx_chk_K h.1 h.2.1 (List.forall_mem_cons.mpr ⟨bo_177 h, bx_Tnil⟩) (M := yp_m243) rfl bc_163
theorem bo_141 (h : bw_H xs X) : bx_Kok yp_P xs bw_INV X bk_141 := bx_chk_K h.1 h.2.1 (List.forall_mem_cons.mpr ⟨bo_163 h, bx_Tnil⟩) (M := yp_m243) rfl bc_141
theorem bo_216 (h : bw_H xs X) : bx_Kok yp_P xs bw_INV X bk_216 := bx_chk_K h.1 h.2.1 bx_Tnil (M := yp_m248) rfl bc_216
theorem bo_206 (h : bw_H xs X) : bx_Kok yp_P xs bw_INV X bk_206 := bx_chk_K h.1 h.2.1 (List.forall_mem_cons.mpr ⟨bo_216 h, bx_Tnil⟩) (M := yp_m248) rfl bc_206
theorem bo_260 (h : bw_H xs X) : bx_Kok yp_P xs bw_INV X bk_260 := h.2.2 _ (List.mem_of_getElem? (i := 6) rfl)
theorem bo_261 (h : bw_H xs X) : bx_Kok yp_P xs bw_INV X bk_261 := bx_chk_K h.1 h.2.1 bx_Tnil (M := yp_m248) rfl bc_261
theorem bo_111 (h : bw_H xs X) : bx_Kok yp_P xs bw_INV X bk_111 := bx_chk_K h.1 h.2.1 (List.forall_mem_cons.mpr ⟨bo_141 h, (List.forall_mem_cons.mpr ⟨bo_206 h, (List.forall_mem_cons.mpr ⟨bo_260 h, (List.forall_mem_cons.mpr ⟨bo_261 h, bx_Tnil⟩)⟩)⟩)⟩) (M := yp_m248) rfl bc_111
theorem bo_112 (h : bw_H xs X) : bx_Kok yp_P xs bw_INV X bk_112 := h.2.2 _ (List.mem_of_getElem? (i := 3) rfl)
theorem bo_178 (h : bw_H xs X) : bx_Kok yp_P xs bw_INV X bk_178 := bx_chk_K h.1 h.2.1 bx_Tnil (M := yp_m193) rfl bc_178
theorem bo_189 (h : bw_H xs X) : bx_Kok yp_P xs bw_INV X bk_189 := bx_chk_K h.1 h.2.1 bx_Tnil (M := yp_m193) rfl bc_189
theorem bo_164 (h : bw_H xs X) : bx_Kok yp_P xs bw_INV X bk_164 := bx_chk_K h.1 h.2.1 (List.forall_mem_cons.mpr ⟨bo_178 h, (List.forall_mem_cons.mpr ⟨bo_189 h, bx_Tnil⟩)⟩) (M := yp_m192) rfl bc_164
theorem bo_193 (h : bw_H xs X) : bx_Kok yp_P xs bw_INV X bk_193 := bx_chk_K h.1 h.2.1 (List.forall_mem_cons.mpr ⟨bo_178 h, (List.forall_mem_cons.mpr ⟨bo_189 h, bx_Tnil⟩)⟩) (M := yp_m192) rfl bc_193
theorem bo_208 (h : bw_H xs X) : bx_Kok yp_P xs bw_INV X bk_208 := bx_chk_K h.1 h.2.1 (List.forall_mem_cons.mpr ⟨bo_178 h, (List.forall_mem_cons.mpr ⟨bo_189 h, bx_Tnil⟩)⟩) (M := yp_m192) rfl bc_208
theorem bo_224 (h : bw_H xs X) : bx_Kok yp_P xs bw_INV X bk_224 := bx_chk_K h.1 h.2.1 (List.forall_mem_cons.mpr ⟨bo_178 h, (List.forall_mem_cons.mpr ⟨bo_189 h, bx_Tnil⟩)⟩) (M := yp_m192) rfl bc_224
theorem bo_248 (h : bw_H xs X) : bx_Kok yp_P xs bw_INV X bk_248 := bx_chk_K h.1 h.2.1 (List.forall_mem_cons.mpr ⟨bo_178 h, (List.forall_mem_cons.mpr ⟨bo_189 h, bx_Tnil⟩)⟩) (M := yp_m192) rfl bc_248
theorem bo_273 (h : bw_H xs X) : bx_Kok yp_P xs bw_INV X bk_273 := bx_chk_K h.1 h.2.1 (List.forall_mem_cons.mpr ⟨bo_178 h, (List.forall_mem_cons.mpr ⟨bo_189 h, bx_Tnil⟩)⟩) (M := yp_m192) rfl bc_273
theorem bo_290 (h : bw_H xs X) : bx_Kok yp_P xs bw_INV X bk_290 := bx_chk_K h.1 h.2.1 (List.forall_mem_cons.mpr ⟨bo_178 h, (List.forall_mem_cons.mpr ⟨bo_189 h, bx_Tnil⟩)⟩) (M := yp_m192) rfl bc_290
theorem bo_302 (h : bw_H xs X) : bx_Kok yp_P xs bw_INV X bk_302 := bx_chk_K h.1 h.2.1 (List.forall_mem_cons.mpr ⟨bo_178 h, (List.forall_mem_cons.mpr ⟨bo_189 h, bx_Tnil⟩)⟩) (M := yp_m192) rfl bc_302
theorem bo_313 (h : bw_H xs X) : bx_Kok yp_P xs bw_INV X bk_313 := bx_chk_K h.1 h.2.1 (List.forall_mem_cons.mpr ⟨bo_178 h, (List.forall_mem_cons.mpr ⟨bo_189 h, bx_Tnil⟩)⟩) (M := yp_m192) rfl bc_313
theorem bo_326 (h : bw_H xs X) : bx_Kok yp_P xs bw_INV X bk_326 := bx_chk_K h.1 h.2.1 (List.forall_mem_cons.mpr ⟨bo_178 h, (List.forall_mem_cons.mpr ⟨bo_189 h, bx_Tnil⟩)⟩) (M := yp_m192) rfl bc_326
theorem bo_342 (h : bw_H xs X) : bx_Kok yp_P xs bw_INV X bk_342 := bx_chk_K h.1 h.2.1 (List.forall_mem_cons.mpr ⟨bo_178 h, (List.forall_mem_cons.mpr ⟨bo_189 h, bx_Tnil⟩)⟩) (M := yp_m192) rfl bc_342
theorem bo_355 (h : bw_H xs X) : bx_Kok yp_P xs bw_INV X bk_355 := bx_chk_K h.1 h.2.1 (List.forall_mem_cons.mpr ⟨bo_178 h, (List.forall_mem_cons.mpr ⟨bo_189 h, bx_Tnil⟩)⟩) (M := yp_m192) rfl bc_355
theorem bo_371 (h : bw_H xs X) : bx_Kok yp_P xs bw_INV X bk_371 := bx_chk_K h.1 h.2.1 (List.forall_mem_cons.mpr ⟨bo_178 h, (List.forall_mem_cons.mpr ⟨bo_189 h, bx_Tnil⟩)⟩) (M := yp_m192) rfl bc_371
theorem bo_376 (h : bw_H xs X) : bx_Kok yp_P xs bw_INV X bk_376 := bx_chk_K h.1 h.2.1 (List.forall_mem_cons.mpr ⟨bo_178 h, (List.forall_mem_cons.mpr ⟨bo_189 h, bx_Tnil⟩)⟩) (M := yp_m192) rfl bc_376
theorem bo_379 (h : bw_H xs X) : bx_Kok yp_P xs bw_INV X bk_379 := bx_chk_K h.1 h.2.1 (List.forall_mem_cons.mpr ⟨bo_178 h, (List.forall_mem_cons.mpr ⟨bo_189 h, bx_Tnil⟩)⟩) (M := yp_m192) rfl bc_379
theorem bo_384 (h : bw_H xs X) : bx_Kok yp_P xs bw_INV X bk_384 := bx_chk_K h.1 h.2.1 (List.forall_mem_cons.mpr ⟨bo_178 h, (List.forall_mem_cons.mpr ⟨bo_189 h, bx_Tnil⟩)⟩) (M := yp_m192) rfl bc_384
theorem bo_390 (h : bw_H xs X) : bx_Kok yp_P xs bw_INV X bk_390 := bx_chk_K h.1 h.2.1 bx_Tnil (M := yp_m192) rfl bc_390
theorem bo_142 (h : bw_H xs X) : bx_Kok yp_P xs bw_INV X bk_142 := bx_chk_K h.1 h.2.1 (List.forall_mem_cons.mpr ⟨bo_164 h, (List.forall_mem_cons.mpr ⟨bo_193 h, (List.forall_mem_cons.mpr ⟨bo_208 h, (List.forall_mem_cons.mpr ⟨bo_224 h, (List.forall_mem_cons.mpr ⟨bo_248 h, (List.forall_mem_cons.mpr ⟨bo_273 h, (List.forall_mem_cons.mpr ⟨bo_290 h, (List.forall_mem_cons.mpr ⟨bo_302 h, (List.forall_mem_cons.mpr ⟨bo_313 h, (List.forall_mem_cons.mpr ⟨bo_326 h, (List.forall_mem_cons.mpr ⟨bo_342 h, (List.forall_mem_cons.mpr ⟨bo_355 h, (List.forall_mem_cons.mpr ⟨bo_371 h, (List.forall_mem_cons.mpr ⟨bo_376 h, (List.forall_mem_cons.mpr ⟨bo_379 h, (List.forall_mem_cons.mpr ⟨bo_384 h, (List.forall_mem_cons.mpr ⟨bo_390 h, bx_Tnil⟩)⟩)⟩)⟩)⟩)⟩)⟩)⟩)⟩)⟩)⟩)⟩)⟩)⟩)⟩)⟩)⟩) (M := yp_m191) rfl bc_142
theorem bo_219 (h : bw_H xs X) : bx_Kok yp_P xs bw_INV X bk_219 := bx_chk_K h.1 h.2.1 (List.forall_mem_cons.mpr ⟨bo_199 h, bx_Tnil⟩) (M := yp_m197) rfl bc_219
theorem bo_211 (h : bw_H xs X) : bx_Kok yp_P xs bw_INV X bk_211 := bx_chk_K h.1 h.2.1 (List.forall_mem_cons.mpr ⟨bo_99 h, (List.forall_mem_cons.mpr ⟨bo_152 h, (List.forall_mem_cons.mpr ⟨bo_199 h, (List.forall_mem_cons.mpr ⟨bo_219 h, (List.forall_mem_cons.mpr ⟨bo_220 h, bx_Tnil⟩)⟩)⟩)⟩)⟩) (M := yp_m195) rfl bc_211
theorem bo_410 (h : bw_H xs X) : bx_Kok yp_P xs bw_INV X bk_410 := bx_chk_K h.1 h.2.1 (List.forall_mem_cons.mpr ⟨bo_211 h, bx_Tnil⟩) (M := yp_m211) rfl bc_410
theorem bo_113 (h : bw_H xs X) : bx_Kok yp_P xs bw_INV X bk_113 := bx_chk_K h.1 h.2.1 (List.forall_mem_cons.mpr ⟨bo_100 h, (List.forall_mem_cons.mpr ⟨bo_142 h, (List.forall_mem_cons.mpr ⟨bo_410 h, (List.forall_mem_cons.mpr ⟨bo_411 h, bx_Tnil⟩)⟩)⟩)⟩) (M := yp_m211) rfl bc_113
theorem bo_198 (h : bw_H xs X) : bx_Kok yp_P xs bw_INV X bk_198 := bx_chk_K h.1 h.2.1 (List.forall_mem_cons.mpr ⟨bo_211 h, bx_Tnil⟩) (M := yp_m190) rfl bc_198
theorem bo_114 (h : bw_H xs X) : bx_Kok yp_P xs bw_INV X bk_114 := bx_chk_K h.1 h.2.1 (List.forall_mem_cons.mpr ⟨bo_142 h, (List.forall_mem_cons.mpr ⟨bo_198 h, bx_Tnil⟩)⟩) (M := yp_m190) rfl bc_114
theorem bo_115 (h : bw_H xs X) : bx_Kok yp_P xs bw_INV X bk_115 := h.2.2 _ (List.mem_of_getElem? (i := 4) rfl)
end BWK
end
section
/-! the tape's count, one number for the class and the reference: contracts that end with an empty tape -/
def bf_law : bx_K := (168, 21, [(0, (2, 86, 0)), (1, (0, 1, 240))], [], [(some (some (0, (-2147483648), 2147483647)), 0, [], [(86, 4, (0, 0, 0))])], [(86, 4, 5), (86, 5, 6), (86, 6, 7), (86, 7, 8), (86, 8, 9), (86, 9, 10), (86, 10, 11), (86, 11, 12), (86, 12, 13), (86, 13, 14), (91, 0, 260), (92, 0, 260), (93, 0, 16), (94, 0, 16), (95, 0, 16), (96, 0, 16), (97, 0, 260), (98, 0, 16), (99, 0, 16), (100, 0, 16), (101, 0, 16)], [], 8, none)
def bf_sold : bx_K := (242, 20, [(0, (2, 86, 0)), (1, (0, 1, 6)), (2, (0, (-2147483648), 2147483647)), (3, (0, (-2147483648), 2147483647))], [], [(some (some (0, (-2147483648), 2147483647)), 0, [], [(86, 4, (0, 0, 0))])], [(86, 4, 5), (86, 37, 38), (86, 38, 39), (102, 0, 260), (103, 0, 14), (112, 0, 8), (113, 0, 64), (114, 0, 1792)], [], 8, none)
def bf_order : bx_K := (213, 21, [(0, (2, 86, 0)), (1, (0, 1, 160)), (2, (0, (-2147483648), 2147483647))], [], [(some (some (0, (-2147483648), 2147483647)), 0, [], [(86, 4, (0, 0, 0))])], [(86, 4, 5), (86, 5, 6), (86, 6, 7), (86, 7, 8), (86, 8, 9), (86, 32, 33), (87, 0, 1131), (88, 0, 1131), (102, 0, 260), (103, 0, 14), (104, 0, 16), (105, 0, 16), (106, 0, 16), (107, 0, 16), (108, 0, 16), (109, 0, 6)], [], 8, none)
def bf_acts : bx_K := (191, 0, [(0, (2, 86, 0)), (1, (0, 1, 160))], [], [(some (some (0, 0, 1)), 0, [], [(86, 4, (0, 0, 0))])], [(86, 4, 5), (86, 5, 6), (86, 6, 7), (86, 7, 8), (86, 8, 9), (86, 32, 33), (104, 0, 16), (105, 0, 16), (106, 0, 16), (107, 0, 16), (108, 0, 16)], [2], 4, none)
set_option maxRecDepth 10000000 in
theorem bc_facts : bx_chk yp_P [bk_164, bk_193, bk_208, bk_224, bk_248, bk_273, bk_290, bk_302, bk_313, bk_326, bk_342, bk_355, bk_371, bk_376, bk_379, bk_384, bk_390] 1500 bw_INV bw_PC yp_m191 bf_acts = true := by decide +kernel
def bf_hand : List bx_K := [bf_law, bf_sold, bf_order]
noncomputable def bf_H (xs : List Int32) (X : sx_W → Prop) : Prop := bw_H xs X ∧ ∀ K ∈ bf_hand, bx_Kok yp_P xs bw_INV X K
section BFK
variable {xs : List Int32} {X : sx_W → Prop}
theorem bo_facts (h : bf_H xs X) : bx_Kok yp_P xs bw_INV X bf_acts := bx_chk_K h.1.1 h.1.2.1 (List.forall_mem_cons.mpr ⟨bo_164 h.1, (List.forall_mem_cons.mpr ⟨bo_193 h.1, (List.forall_mem_cons.mpr ⟨bo_208 h.1, (List.forall_mem_cons.mpr ⟨bo_224 h.1, (List.forall_mem_cons.mpr ⟨bo_248 h.1, (List.forall_mem_cons.mpr ⟨bo_273 h.1, (List.forall_mem_cons.mpr ⟨bo_290 h.1, (List.forall_mem_cons.mpr ⟨bo_302 h.1, (List.forall_mem_cons.mpr ⟨bo_313 h.1, (List.forall_mem_cons.mpr ⟨bo_326 h.1, (List.forall_mem_cons.mpr ⟨bo_342 h.1, (List.forall_mem_cons.mpr ⟨bo_355 h.1, (List.forall_mem_cons.mpr ⟨bo_371 h.1, (List.forall_mem_cons.mpr ⟨bo_376 h.1, (List.forall_mem_cons.mpr ⟨bo_379 h.1, (List.forall_mem_cons.mpr ⟨bo_384 h.1, (List.forall_mem_cons.mpr ⟨bo_390 h.1, bx_Tnil⟩)⟩)⟩)⟩)⟩)⟩)⟩)⟩)⟩)⟩)⟩)⟩)⟩)⟩)⟩)⟩)⟩) (M := yp_m191) rfl bc_facts
theorem bo_flaw (h : bf_H xs X) : bx_Kok yp_P xs bw_INV X bf_law := h.2 _ (List.mem_of_getElem? (i := 0) rfl)
theorem bo_fsold (h : bf_H xs X) : bx_Kok yp_P xs bw_INV X bf_sold := h.2 _ (List.mem_of_getElem? (i := 1) rfl)
theorem bo_forder (h : bf_H xs X) : bx_Kok yp_P xs bw_INV X bf_order := h.2 _ (List.mem_of_getElem? (i := 2) rfl)
end BFK
/-- the class's count and the reference's are one number -/
def bf_R (xs : List Int32) (w : sx_W) : Prop := ∃ z : Int, 0 ≤ z ∧ z ≤ 260 ∧ z % 20 = 0 ∧ (∀ v, bx_rd xs w 1 1 = some v → ∃ x : Int32, v = .int x ∧ x.toInt = z) ∧ (∀ v, bx_rd xs w 86 4 = some v → ∃ x : Int32, v = .int x ∧ x.toInt = z)
noncomputable def bf_chk (S : bx_S) : Bool := match bx_find S.2.2.2.2.1 1 (some (0, 1, 1)), bx_find S.2.2.2.2.1 86 (some (0, 4, 4)) with
  | some a, some b => decide (a = b) && (decide (a = (0, 0, 0)) || (decide (a.1 = 4) && (decide (a.2.1 = 1) && (decide (a.2.2 % 20 = 0) && (match S.1[1]? with
    | some q => decide (0 ≤ q.1 + a.2.2) && decide (q.2 + a.2.2 ≤ 260)
    | none => false)))))
  | _, _ => false
theorem bf_chk_ok {xs : List Int32} {S : bx_S} {vs : List Int} {w : sx_W} {z : Int} (h : bf_chk S = true) (he : bx_env S.1 vs) (hk : ∀ q ∈ S.2.2.2.2.1, bx_kn xs vs w q) (hz : vs[1]? = some z) (h20 : z % 20 = 0) : bf_R xs w := by
  unfold bf_chk at h
  split at h
  · rename_i a b ha hb
    rw [Bool.and_eq_true, decide_eq_true_eq] at h
    obtain ⟨e, h⟩ := h
    subst e
    obtain ⟨j1, e1, m1⟩ := bx_find_ok ha
    obtain ⟨j2, e2, m2⟩ := bx_find_ok hb
    cases e1; cases e2
    obtain ⟨y1, g1, k1⟩ := hk _ m1
    obtain ⟨y2, g2, k2⟩ := hk _ m2
    have f1 : y1 = 1 := by
      have g1' : bx_ixz vs (0, 1, 1) = some y1 := g1
      rw [show bx_ixz vs (0, 1, 1) = some (1 : Int) from bx_ixk 1] at g1'
      exact (Option.some.inj g1').symm
    have f2 : y2 = 4 := by
      have g2' : bx_ixz vs (0, 4, 4) = some y2 := g2
      rw [show bx_ixz vs (0, 4, 4) = some (4 : Int) from bx_ixk 4] at g2'
      exact (Option.some.inj g2').symm
    subst f1; subst f2
    have k1' : ∀ v, bx_rd xs w 1 1 = some v → bx_g vs a v := fun v hv => k1 v (by decide) hv
    have k2' : ∀ v, bx_rd xs w 86 4 = some v → bx_g vs a v := fun v hv => k2 v (by decide) hv
    rw [Bool.or_eq_true, decide_eq_true_eq] at h
    rcases h with rfl | h
    · refine ⟨0, Int.le_refl _, by decide, by decide, fun v hv => ?_, fun v hv => ?_⟩
      · rcases k1' v hv with ⟨e, -⟩ | ⟨-, x, e, u1, u2⟩
        · exact absurd e (by decide)
        · exact ⟨x, e, by dsimp only at u1 u2; omega⟩
      · rcases k2' v hv with ⟨e, -⟩ | ⟨-, x, e, u1, u2⟩
        · exact absurd e (by decide)
        · exact ⟨x, e, by dsimp only at u1 u2; omega⟩
    · simp only [Bool.and_eq_true, decide_eq_true_eq] at h
      obtain ⟨h1, h2, h3, h4⟩ := h
      split at h4
      · rename_i q hq
        rw [Bool.and_eq_true, decide_eq_true_eq, decide_eq_true_eq] at h4
        have hb := he.2 1 q z hq hz
        have hg : ∀ v, bx_g vs a v → ∃ x : Int32, v = .int x ∧ x.toInt = z + a.2.2 := by
          intro v hv
          rcases hv with ⟨-, x, z', e, u1, u2⟩ | ⟨hn, -⟩
          · rw [h2] at u1
            have u1' : vs[1]? = some z' := u1
            rw [hz] at u1'
            cases u1'
            exact ⟨x, e, u2⟩
          · exact absurd h1 hn
        exact ⟨z + a.2.2, by omega, by omega, by omega, fun v hv => hg v (k1' v hv), fun v hv => hg v (k2' v hv)⟩
      · cases h4
  · cases h
end
section
/-! a loop read in two stretches: from its head to places, and from these on -/
section BX2
variable {P : sx_P} {xs : List Int32} {INV : ax_W} {PC : bx_M} {X : sx_W → Prop} {T : List bx_K}
theorem bx_once2 {M : sx_M} {mi pc dk d0 : Nat} {pre : ax_L} {prek : bx_Q} {exits : List bx_E} {mods : bx_M} {lm : List Nat} {ctr : Option (Nat × Bool)} {outs : List bx_O} (hct : bx_ctrok INV pre prek ctr = true) (hall : outs.all (bx_fit INV (mi, pc, pre, prek, exits, mods, lm, dk, ctr)) = true) {stops : List Nat} {lv : sx_L} {w : sx_W} (hl : bx_cl pre lv) (hw : bx_in INV w ∧ X w) (hq : bx_cq xs prek w) (hout : ∀ vs, bx_ok xs INV X vs (bx_st0 pc pre prek) lv [] w → bx_out P xs (INV, PC, mods, lm) X stops d0 M outs vs pc lv [] w) :
    bx_post P xs INV X M pc exits mods lm d0 lv w ∨ ∃ (c : Nat × Bool) (lv' : sx_L) (w' : sx_W), ctr = some c ∧ bx_cl pre lv' ∧ (bx_in INV w' ∧ X w') ∧ bx_cq xs prek w' ∧ bx_fw xs mods w w' ∧ bx_fl lm lv lv' ∧ (∀ o, sx_rn P xs d0 M pc lv' [] w' o → sx_rn P xs d0 M pc lv [] w o) ∧ ∃ x y : Int32, bx_ctv xs c.1 lv w = some (.int x) ∧ bx_ctv xs c.1 lv' w' = some (.int y) ∧ (if c.2 = true then x.toInt + 1 ≤ y.toInt else y.toInt + 1 ≤ x.toInt) := by
  obtain ⟨vs1, x1, x2, x3⟩ := bx_frl_ok pre [] [] ⟨rfl, fun i q z h => by simp at h⟩ hl
  obtain ⟨vs, y1, y2, y3⟩ := bx_frq_ok prek _ vs1 x2 hq
  have hok : bx_ok xs INV X vs (bx_st0 pc pre prek) lv [] w := ⟨y2, y1.gl x3, rfl, hw, y3, fun q hq => by cases hq⟩
  have hl0 : bx_gl vs (bx_frl [] pre).2 lv := y1.gl x3
  obtain ⟨o, hom, vs', hx, lv', w', fw, hmt⟩ := hout vs hok
  have hfit := List.all_eq_true.mp hall o hom
  obtain ⟨r, S⟩ := o
  unfold bx_fit at hfit
  dsimp only at hfit
  match r, hmt, hfit with
  | some r, hmt, hfit =>
    left
    obtain ⟨g1, rv, g2, g3⟩ := hmt
    obtain ⟨e, hem, h1⟩ := List.any_eq_true.mp hfit
    obtain ⟨ret, rest⟩ := e
    match ret, h1, hem with
    | none, h1, hem => cases h1
    | some r', h1, hem =>
      rw [Bool.and_eq_true] at h1
      exact ⟨_, hem, lv', w', g1.2.1, bx_entq_ok g1.2.1.1 g1.1 g1.2.2.1 h1.2, fw, rv, bx_leO_ok g1.1 h1.1 g2, g3⟩
  | none, hmt, hfit =>
    obtain ⟨g1, g2, g3, g4⟩ := hmt
    obtain ⟨j1, j2, j3, j4, j5, j6⟩ := g1
    rw [Bool.or_eq_true] at hfit
    rcases hfit with hfit | hfit
    · right
      cases ctr with
      | none => cases hfit
      | some c =>
        dsimp only at hfit
        simp only [Bool.and_eq_true, decide_eq_true_eq] at hfit
        obtain ⟨⟨⟨f1, f2⟩, f3⟩, f4⟩ := hfit
        have f1' : S.2.1 = pc := f1
        rw [f1'] at g4
        refine ⟨c, lv', w', rfl, bx_entl_ok j1 j2 f2, j4, bx_entq_ok j4.1 j1 j5 f3, fw, g2, g4, ?_⟩
        unfold bx_prog at f4
        split at f4
        · rename_i a b ha hb
          obtain ⟨va, p1, p2⟩ := bx_ctv_ok (xs := xs) hct hw.1 (hx.gl hl0) (hx.kn y3) ha
          obtain ⟨vb, q1, q2⟩ := bx_ctv_ok (xs := xs) hct j4.1 j2 j5 hb
          simp only [Bool.and_eq_true, decide_eq_true_eq] at f4
          obtain ⟨⟨a4, b4⟩, f5⟩ := f4
          rcases p2 with ⟨-, x, za, rfl, hza, hx1⟩ | ⟨hn, -⟩
          · rcases q2 with ⟨-, y, zb, rfl, hzb, hy1⟩ | ⟨hn, -⟩
            · refine ⟨x, y, p1, q1, ?_⟩
              by_cases hup : c.2 = true
              · rw [if_pos hup] at f5 ⊢
                rw [Bool.or_eq_true] at f5
                rcases f5 with f5 | f5
                · simp only [Bool.and_eq_true, decide_eq_true_eq] at f5
                  rw [f5.1, hza] at hzb
                  cases hzb
                  omega
                · obtain ⟨zi, zj, d1, d2, d3⟩ := bx_dle_ok j6 f5
                  rw [d1] at hzb
                  rw [d2] at hza
                  cases hza; cases hzb
                  omega
              · rw [if_neg hup] at f5 ⊢
                simp only [Bool.and_eq_true, decide_eq_true_eq] at f5
                rw [f5.1, hza] at hzb
                cases hzb
                omega
            · exact absurd b4 hn
          · exact absurd a4 hn
        · cases f4
    · left
      obtain ⟨e, hem, h1⟩ := List.any_eq_true.mp hfit
      obtain ⟨ret, epc, rest⟩ := e
      match ret, h1, hem with
      | some r', h1, hem => cases h1
      | none, h1, hem =>
        simp only [Bool.and_eq_true, decide_eq_true_eq] at h1
        obtain ⟨⟨f1, f2⟩, f3⟩ := h1
        have f1' : epc = S.2.1 := f1
        exact ⟨_, hem, lv', w', j4, bx_entq_ok j4.1 j1 j5 f3, fw, bx_entl_ok j1 j2 f2, g2, fun o ho => g4 o (by rw [← f1']; exact ho)⟩

theorem bx_chk2_ok {M : sx_M} {mi pc dk : Nat} {pre : ax_L} {prek : bx_Q} {exits : List bx_E} {mods : bx_M} {lm : List Nat} {ctr : Option (Nat × Bool)} {outs : List bx_O} {stops : List Nat} (hctr : bx_ctrok INV pre prek ctr = true) (h : outs.all (bx_fit INV (mi, pc, pre, prek, exits, mods, lm, dk, ctr)) = true) (hout : ∀ d0, dk ≤ d0 → ∀ (vs : List Int) (lv : sx_L) (w : sx_W), bx_ok xs INV X vs (bx_st0 pc pre prek) lv [] w → bx_out P xs (INV, PC, mods, lm) X stops d0 M outs vs pc lv [] w) : bx_KokM P xs INV X M (mi, pc, pre, prek, exits, mods, lm, dk, ctr) := by
  intro d0 hd lv w hl hw hq
  show bx_post P xs INV X M pc exits mods lm d0 lv w
  cases ctr with
  | none =>
    rcases bx_once2 (PC := PC) (stops := stops) hctr h hl hw hq (fun vs hok => hout d0 hd vs _ _ hok) with h1 | ⟨c, lv', w', hc, -⟩
    · exact h1
    · cases hc
  | some c =>
    obtain ⟨⟨lo, hi⟩, hbe⟩ : ∃ b, b = bx_ctb pre prek c.1 := ⟨_, rfl⟩
    have hbd : ∀ (lv : sx_L) (w : sx_W), bx_cl pre lv → bx_cq xs prek w → ∀ x : Int32, bx_ctv xs c.1 lv w = some (.int x) → lo ≤ x.toInt ∧ x.toInt ≤ hi := by
      intro lv w hl hq x hx
      unfold bx_ctrok at hctr
      unfold bx_ctv at hx
      unfold bx_ctb at hbe
      dsimp only at hctr
      by_cases hs : c.1 < 1000
      · rw [if_pos hs] at hctr hx hbe
        cases ha : ax_get pre c.1 with
        | none => rw [ha] at hctr; cases hctr
        | some a =>
          rw [ha] at hctr hbe
          have ha0 : a.1 = 0 := of_decide_eq_true hctr
          unfold ax_get at ha
          simp only [sx_ff_eq, sx_nbe] at ha
          cases hf : pre.find? (fun q => q.1 == c.1) with
          | none => rw [hf] at ha; cases ha
          | some q =>
            rw [hf] at ha
            have h1 := List.find?_some hf
            have e1 : q.1 = c.1 := by simpa using h1
            have e2 : q.2 = a := Option.some.inj ha
            obtain ⟨v, h1, h2, h3⟩ := hl q (List.mem_of_find?_eq_some hf)
            rw [e1, hx] at h1
            cases h1
            rw [e2] at h3
            obtain ⟨t, la, hb⟩ := a
            dsimp only at ha0 hbe
            subst ha0
            cases hbe
            obtain ⟨y, e, h4, h5⟩ := h3
            cases e
            exact ⟨h4, h5⟩
      · rw [if_neg hs] at hctr hx hbe
        split at hctr
        · rename_i q t r hf hI
          rw [hf] at hbe
          simp only [Bool.and_eq_true, decide_eq_true_eq] at hctr
          have h1 := List.find?_some hf
          simp only [Bool.and_eq_true, decide_eq_true_eq] at h1
          obtain ⟨-, h3⟩ := hq q (List.mem_of_find?_eq_some hf) (.int x) (by rw [h1.1, h1.2]; exact hx)
          obtain ⟨qc, qk, t', la, hb⟩ := q
          have ht : t' = 0 := hctr.1.1
          dsimp only at hbe h3
          subst ht
          cases hbe
          obtain ⟨y, e, h4, h5⟩ := h3
          cases e
          exact ⟨h4, h5⟩
        · cases hctr
    have main : ∀ (m : Nat) (lv : sx_L) (w : sx_W), bx_cl pre lv → bx_in INV w ∧ X w → bx_cq xs prek w → (∀ x : Int32, bx_ctv xs c.1 lv w = some (.int x) → (if c.2 = true then hi - x.toInt else x.toInt - lo) < (m : Int)) → bx_post P xs INV X M pc exits mods lm d0 lv w := by
      intro m
      induction m with
      | zero =>
        intro lv w hl hw hq hm
        rcases bx_once2 (PC := PC) (stops := stops) hctr h hl hw hq (fun vs hok => hout d0 hd vs _ _ hok) with h1 | ⟨c', lv', w', hc, g1, g2, g3, g4, g5, g6, x, y, g7, g8, g9⟩
        · exact h1
        · cases hc
          have b1 := hbd lv w hl hq x g7
          have b2 := hm x g7
          split at b2 <;> omega
      | succ m ih =>
        intro lv w hl hw hq hm
        rcases bx_once2 (PC := PC) (stops := stops) hctr h hl hw hq (fun vs hok => hout d0 hd vs _ _ hok) with h1 | ⟨c', lv', w', hc, g1, g2, g3, g4, g5, g6, x, y, g7, g8, g9⟩
        · exact h1
        · cases hc
          refine bx_post_tr g4 g5 g6 (ih lv' w' g1 g2 g3 (fun z hz => ?_))
          rw [g8] at hz
          cases hz
          have b2 := hm x g7
          by_cases hup : c.2 = true
          · rw [if_pos hup] at b2 g9 ⊢
            omega
          · rw [if_neg hup] at b2 g9 ⊢
            omega
    have hx0 : ∃ m : Nat, hi - lo < (m : Int) := ⟨(hi - lo).toNat + 1, by omega⟩
    obtain ⟨m, hm⟩ := hx0
    refine main m lv w hl hw hq (fun x hx => ?_)
    have b1 := hbd lv w hl hq x hx
    split <;> omega
/-- the two stretches put together -/
theorem bx_two (hxs : xs.length ≤ 4096) (hX : bx_keeps xs PC X) (hT : ∀ K ∈ T, bx_Kok P xs INV X K) {M : sx_M} {mi pc dk n : Nat} {pre : ax_L} {prek : bx_Q} {mods : bx_M} {lm : List Nat} {stops stops1 : List Nat} {outs1 outs : List bx_O} (hmi : ∀ K ∈ T, K.1 = mi → bx_KokM P xs INV X M K) (h1 : bx_run P T n dk (INV, PC, mods, lm) M mi stops1 true (bx_st0 pc pre prek) = some outs1)
    (h2 : ∀ o ∈ outs1, o.1 = none ∧ ∃ (n2 : Nat) (T2 : List bx_K) (outs2 : List bx_O), (∀ K ∈ T2, bx_Kok P xs INV X K) ∧ (∀ K ∈ T2, K.1 = mi → bx_KokM P xs INV X M K) ∧ bx_run P T2 n2 dk (INV, PC, mods, lm) M mi stops false o.2 = some outs2 ∧ ∀ y ∈ outs2, y ∈ outs) : ∀ d0, dk ≤ d0 → ∀ (vs : List Int) (lv : sx_L) (w : sx_W), bx_ok xs INV X vs (bx_st0 pc pre prek) lv [] w → bx_out P xs (INV, PC, mods, lm) X stops d0 M outs vs pc lv [] w := by
  intro d0 hd vs lv w hok
  obtain ⟨o, hom, vs', hx, lv', w', fw, hmt⟩ := bx_run_ok hxs hX hT n dk mods lm M mi _ true _ outs1 hmi h1 vs lv [] w hok d0 hd
  obtain ⟨hn, n2, T2, outs2, g1, g2, g3, g4⟩ := h2 o hom
  obtain ⟨r, S⟩ := o
  dsimp only at hn
  subst hn
  obtain ⟨j1, j2, -, j4⟩ := hmt
  exact bx_out_back hx j2 fw j4 g4 (bx_run_ok hxs hX g1 n2 dk mods lm M mi _ false S outs2 g2 g3 vs' lv' [] w' j1 d0 hd)
end BX2
end
section
/-! the law's loop, in two stretches -/
def bk_law : bx_K := (276, 18, [(0, (3, 0, 0)), (1, (2, 0, 0)), (2, (2, 86, 0)), (3, (0, 0, 4096))], [], [(none, 1251, [(3, (0, 0, 4096))], []), (none, 438, [(3, (0, 0, 4088))], [])], [(200000, 0, 0)], [3], 27, some (3, true))
def bl_C : bx_C := (bw_INV, bw_PC, [(200000, 0, 0)], [3])
noncomputable def bl_run1 : Option (List bx_O) := bx_run yp_P [] 100 27 bl_C yp_m276 276 [172, 205, 308, 371, 394, 417, 440, 473, 506, 539, 572, 615, 638, 681, 714, 757, 800, 843, 876, 909, 932, 955, 988, 1021, 1064, 1107, 1150, 1173, 1186, 1199, 1222, 1245, 1251] true (bx_st0 18 bk_law.2.2.1 bk_law.2.2.2.1)
def bl_S0 : bx_S := ([(0, 4088), (8, 4096), ((-2147483648), 2147483647)], 1222, [(0, (3, 0, 0)), (1, (2, 0, 0)), (2, (2, 86, 0)), (3, (4, 0, 0))], [], [(100000, (4, 0, 0), (4, 2, 0)), (100001, (0, 0, 0), (4, 1, 0))], [(1, 0, 8)])
def bl_S1 : bx_S := ([(0, 4088), (8, 4096), ((-2147483648), 2147483647)], 1199, [(0, (3, 0, 0)), (1, (2, 0, 0)), (2, (2, 86, 0)), (3, (4, 0, 0))], [], [(100000, (4, 0, 0), (4, 2, 0)), (100001, (0, 0, 0), (4, 1, 0))], [(1, 0, 8)])
def bl_S2 : bx_S := ([(0, 4088), (8, 4096), ((-2147483648), 2147483647)], 1186, [(0, (3, 0, 0)), (1, (2, 0, 0)), (2, (2, 86, 0)), (3, (4, 0, 0))], [], [(100000, (4, 0, 0), (4, 2, 0)), (100001, (0, 0, 0), (4, 1, 0))], [(1, 0, 8)])
def bl_S3 : bx_S := ([(0, 4088), (8, 4096), ((-2147483648), 2147483647)], 1173, [(0, (3, 0, 0)), (1, (2, 0, 0)), (2, (2, 86, 0)), (3, (4, 0, 0))], [], [(100000, (4, 0, 0), (4, 2, 0)), (100001, (0, 0, 0), (4, 1, 0))], [(1, 0, 8)])
def bl_S4 : bx_S := ([(0, 4088), (8, 4096), ((-2147483648), 2147483647)], 1150, [(0, (3, 0, 0)), (1, (2, 0, 0)), (2, (2, 86, 0)), (3, (4, 0, 0))], [], [(100000, (4, 0, 0), (4, 2, 0)), (100001, (0, 0, 0), (4, 1, 0))], [(1, 0, 8)])
def bl_S5 : bx_S := ([(0, 4088), (8, 4096), ((-2147483648), 2147483647)], 1107, [(0, (3, 0, 0)), (1, (2, 0, 0)), (2, (2, 86, 0)), (3, (4, 0, 0))], [], [(100000, (4, 0, 0), (4, 2, 0)), (100001, (0, 0, 0), (4, 1, 0))], [(1, 0, 8)])
def bl_S6 : bx_S := ([(0, 4088), (8, 4096), ((-2147483648), 2147483647)], 1064, [(0, (3, 0, 0)), (1, (2, 0, 0)), (2, (2, 86, 0)), (3, (4, 0, 0))], [], [(100000, (4, 0, 0), (4, 2, 0)), (100001, (0, 0, 0), (4, 1, 0))], [(1, 0, 8)])
def bl_S7 : bx_S := ([(0, 4088), (8, 4096), ((-2147483648), 2147483647)], 1021, [(0, (3, 0, 0)), (1, (2, 0, 0)), (2, (2, 86, 0)), (3, (4, 0, 0))], [], [(100000, (4, 0, 0), (4, 2, 0)), (100001, (0, 0, 0), (4, 1, 0))], [(1, 0, 8)])
def bl_S8 : bx_S := ([(0, 4088), (8, 4096), ((-2147483648), 2147483647)], 988, [(0, (3, 0, 0)), (1, (2, 0, 0)), (2, (2, 86, 0)), (3, (4, 0, 0))], [], [(100000, (4, 0, 0), (4, 2, 0)), (100001, (0, 0, 0), (4, 1, 0))], [(1, 0, 8)])
def bl_S9 : bx_S := ([(0, 4088), (8, 4096), ((-2147483648), 2147483647)], 955, [(0, (3, 0, 0)), (1, (2, 0, 0)), (2, (2, 86, 0)), (3, (4, 0, 0))], [], [(100000, (4, 0, 0), (4, 2, 0)), (100001, (0, 0, 0), (4, 1, 0))], [(1, 0, 8)])
def bl_S10 : bx_S := ([(0, 4088), (8, 4096), ((-2147483648), 2147483647)], 932, [(0, (3, 0, 0)), (1, (2, 0, 0)), (2, (2, 86, 0)), (3, (4, 0, 0))], [], [(100000, (4, 0, 0), (4, 2, 0)), (100001, (0, 0, 0), (4, 1, 0))], [(1, 0, 8)])
def bl_S11 : bx_S := ([(0, 4088), (8, 4096), ((-2147483648), 2147483647)], 909, [(0, (3, 0, 0)), (1, (2, 0, 0)), (2, (2, 86, 0)), (3, (4, 0, 0))], [], [(100000, (4, 0, 0), (4, 2, 0)), (100001, (0, 0, 0), (4, 1, 0))], [(1, 0, 8)])
def bl_S12 : bx_S := ([(0, 4088), (8, 4096), ((-2147483648), 2147483647)], 876, [(0, (3, 0, 0)), (1, (2, 0, 0)), (2, (2, 86, 0)), (3, (4, 0, 0))], [], [(100000, (4, 0, 0), (4, 2, 0)), (100001, (0, 0, 0), (4, 1, 0))], [(1, 0, 8)])
def bl_S13 : bx_S := ([(0, 4088), (8, 4096), ((-2147483648), 2147483647)], 843, [(0, (3, 0, 0)), (1, (2, 0, 0)), (2, (2, 86, 0)), (3, (4, 0, 0))], [], [(100000, (4, 0, 0), (4, 2, 0)), (100001, (0, 0, 0), (4, 1, 0))], [(1, 0, 8)])
def bl_S14 : bx_S := ([(0, 4088), (8, 4096), ((-2147483648), 2147483647)], 800, [(0, (3, 0, 0)), (1, (2, 0, 0)), (2, (2, 86, 0)), (3, (4, 0, 0))], [], [(100000, (4, 0, 0), (4, 2, 0)), (100001, (0, 0, 0), (4, 1, 0))], [(1, 0, 8)])
def bl_S15 : bx_S := ([(0, 4088), (8, 4096), ((-2147483648), 2147483647)], 757, [(0, (3, 0, 0)), (1, (2, 0, 0)), (2, (2, 86, 0)), (3, (4, 0, 0))], [], [(100000, (4, 0, 0), (4, 2, 0)), (100001, (0, 0, 0), (4, 1, 0))], [(1, 0, 8)])
def bl_S16 : bx_S := ([(0, 4088), (8, 4096), ((-2147483648), 2147483647)], 714, [(0, (3, 0, 0)), (1, (2, 0, 0)), (2, (2, 86, 0)), (3, (4, 0, 0))], [], [(100000, (4, 0, 0), (4, 2, 0)), (100001, (0, 0, 0), (4, 1, 0))], [(1, 0, 8)])
def bl_S17 : bx_S := ([(0, 4088), (8, 4096), ((-2147483648), 2147483647)], 681, [(0, (3, 0, 0)), (1, (2, 0, 0)), (2, (2, 86, 0)), (3, (4, 0, 0))], [], [(100000, (4, 0, 0), (4, 2, 0)), (100001, (0, 0, 0), (4, 1, 0))], [(1, 0, 8)])
def bl_S18 : bx_S := ([(0, 4088), (8, 4096), ((-2147483648), 2147483647)], 638, [(0, (3, 0, 0)), (1, (2, 0, 0)), (2, (2, 86, 0)), (3, (4, 0, 0))], [], [(100000, (4, 0, 0), (4, 2, 0)), (100001, (0, 0, 0), (4, 1, 0))], [(1, 0, 8)])
def bl_S19 : bx_S := ([(0, 4088), (8, 4096), ((-2147483648), 2147483647)], 615, [(0, (3, 0, 0)), (1, (2, 0, 0)), (2, (2, 86, 0)), (3, (4, 0, 0))], [], [(100000, (4, 0, 0), (4, 2, 0)), (100001, (0, 0, 0), (4, 1, 0))], [(1, 0, 8)])
def bl_S20 : bx_S := ([(0, 4088), (8, 4096), ((-2147483648), 2147483647)], 572, [(0, (3, 0, 0)), (1, (2, 0, 0)), (2, (2, 86, 0)), (3, (4, 0, 0))], [], [(100000, (4, 0, 0), (4, 2, 0)), (100001, (0, 0, 0), (4, 1, 0))], [(1, 0, 8)])
def bl_S21 : bx_S := ([(0, 4088), (8, 4096), ((-2147483648), 2147483647)], 539, [(0, (3, 0, 0)), (1, (2, 0, 0)), (2, (2, 86, 0)), (3, (4, 0, 0))], [], [(100000, (4, 0, 0), (4, 2, 0)), (100001, (0, 0, 0), (4, 1, 0))], [(1, 0, 8)])
def bl_S22 : bx_S := ([(0, 4088), (8, 4096), ((-2147483648), 2147483647)], 506, [(0, (3, 0, 0)), (1, (2, 0, 0)), (2, (2, 86, 0)), (3, (4, 0, 0))], [], [(100000, (4, 0, 0), (4, 2, 0)), (100001, (0, 0, 0), (4, 1, 0))], [(1, 0, 8)])
def bl_S23 : bx_S := ([(0, 4088), (8, 4096), ((-2147483648), 2147483647)], 473, [(0, (3, 0, 0)), (1, (2, 0, 0)), (2, (2, 86, 0)), (3, (4, 0, 0))], [], [(100000, (4, 0, 0), (4, 2, 0)), (100001, (0, 0, 0), (4, 1, 0))], [(1, 0, 8)])
def bl_S24 : bx_S := ([(0, 4088), (8, 4096), ((-2147483648), 2147483647)], 440, [(0, (3, 0, 0)), (1, (2, 0, 0)), (2, (2, 86, 0)), (3, (4, 0, 0))], [], [(100000, (4, 0, 0), (4, 2, 0)), (100001, (0, 0, 0), (4, 1, 0))], [(1, 0, 8)])
def bl_S25 : bx_S := ([(0, 4088), (8, 4096), ((-2147483648), 2147483647)], 417, [(0, (3, 0, 0)), (1, (2, 0, 0)), (2, (2, 86, 0)), (3, (4, 0, 0))], [], [(100000, (4, 0, 0), (4, 2, 0)), (100001, (0, 0, 0), (4, 1, 0))], [(1, 0, 8)])
def bl_S26 : bx_S := ([(0, 4088), (8, 4096), ((-2147483648), 2147483647)], 394, [(0, (3, 0, 0)), (1, (2, 0, 0)), (2, (2, 86, 0)), (3, (4, 0, 0))], [], [(100000, (4, 0, 0), (4, 2, 0)), (100001, (0, 0, 0), (4, 1, 0))], [(1, 0, 8)])
def bl_S27 : bx_S := ([(0, 4088), (8, 4096), ((-2147483648), 2147483647)], 371, [(0, (3, 0, 0)), (1, (2, 0, 0)), (2, (2, 86, 0)), (3, (4, 0, 0))], [], [(100000, (4, 0, 0), (4, 2, 0)), (100001, (0, 0, 0), (4, 1, 0))], [(1, 0, 8)])
def bl_S28 : bx_S := ([(0, 4088), (8, 4096), ((-2147483648), 2147483647)], 308, [(0, (3, 0, 0)), (1, (2, 0, 0)), (2, (2, 86, 0)), (3, (4, 0, 0))], [], [(100000, (4, 0, 0), (4, 2, 0)), (100001, (0, 0, 0), (4, 1, 0))], [(1, 0, 8)])
def bl_S29 : bx_S := ([(0, 4088), (8, 4096), ((-2147483648), 2147483647)], 205, [(0, (3, 0, 0)), (1, (2, 0, 0)), (2, (2, 86, 0)), (3, (4, 0, 0))], [], [(100000, (4, 0, 0), (4, 2, 0)), (100001, (0, 0, 0), (4, 1, 0))], [(1, 0, 8)])
def bl_S30 : bx_S := ([(0, 4088), (8, 4096), ((-2147483648), 2147483647)], 172, [(0, (3, 0, 0)), (1, (2, 0, 0)), (2, (2, 86, 0)), (3, (4, 0, 0))], [], [(100000, (4, 0, 0), (4, 2, 0)), (100001, (0, 0, 0), (4, 1, 0))], [(1, 0, 8)])
def bl_S31 : bx_S := ([(0, 4088), (8, 4096), ((-2147483648), 2147483647)], 1245, [(0, (3, 0, 0)), (1, (2, 0, 0)), (2, (2, 86, 0)), (3, (4, 0, 0))], [], [(100000, (4, 0, 0), (4, 2, 0)), (100001, (0, 0, 0), (4, 1, 0))], [(1, 0, 8)])
def bl_S32 : bx_S := ([(0, 4096), (0, 4096)], 1251, [(0, (3, 0, 0)), (1, (2, 0, 0)), (2, (2, 86, 0)), (3, (4, 0, 0))], [], [(100001, (0, 0, 0), (4, 1, 0))], [(0, 1, (-7))])
noncomputable def bl_ok (r : Option (List bx_O)) : Bool := match r with
  | some outs => outs.all (bx_fit bw_INV bk_law)
  | none => false
def bl_L : List bx_O := [(none, bl_S0), (none, bl_S1), (none, bl_S2), (none, bl_S3), (none, bl_S4), (none, bl_S5), (none, bl_S6), (none, bl_S7), (none, bl_S8), (none, bl_S9), (none, bl_S10), (none, bl_S11), (none, bl_S12), (none, bl_S13), (none, bl_S14), (none, bl_S15), (none, bl_S16), (none, bl_S17), (none, bl_S18), (none, bl_S19), (none, bl_S20), (none, bl_S21), (none, bl_S22), (none, bl_S23), (none, bl_S24), (none, bl_S25), (none, bl_S26), (none, bl_S27), (none, bl_S28), (none, bl_S29), (none, bl_S30), (none, bl_S31), (none, bl_S32)]
def bl_eq (o q : bx_O) : Bool := decide (o.1 = q.1) && (decide (o.2.1 = q.2.1) && (decide (o.2.2.1 = q.2.2.1) && (decide (o.2.2.2.1 = q.2.2.2.1) && (decide (o.2.2.2.2.1 = q.2.2.2.2.1) && (decide (o.2.2.2.2.2.1 = q.2.2.2.2.2.1) && decide (o.2.2.2.2.2.2 = q.2.2.2.2.2.2))))))
theorem bl_eq_ok {o q : bx_O} (h : bl_eq o q = true) : o = q := by
  unfold bl_eq at h
  simp only [Bool.and_eq_true, decide_eq_true_eq] at h
  obtain ⟨h1, h2, h3, h4, h5, h6, h7⟩ := h
  exact Prod.ext h1 (Prod.ext h2 (Prod.ext h3 (Prod.ext h4 (Prod.ext h5 (Prod.ext h6 h7)))))
set_option maxRecDepth 10000000 in
theorem bl_len : (match bl_run1 with | some l => l.all (fun o => bl_L.any (fun q => bl_eq o q)) | none => false) = true := by decide +kernel
theorem bl_ctr : bx_ctrok bw_INV bk_law.2.2.1 bk_law.2.2.2.1 (some (3, true)) = true := by decide +kernel
set_option maxRecDepth 10000000 in
theorem bl_h0 : bl_ok (bx_run yp_P [bk_0, bk_50] 600 27 bl_C yp_m276 276 [18, 438, 1251] false bl_S0) = true := by decide +kernel
set_option maxRecDepth 10000000 in
theorem bl_h1 : bl_ok (bx_run yp_P [bk_1, bk_51] 600 27 bl_C yp_m276 276 [18, 438, 1251] false bl_S1) = true := by decide +kernel
set_option maxRecDepth 10000000 in
theorem bl_h2 : bl_ok (bx_run yp_P [bk_2, bk_52] 600 27 bl_C yp_m276 276 [18, 438, 1251] false bl_S2) = true := by decide +kernel
set_option maxRecDepth 10000000 in
theorem bl_h3 : bl_ok (bx_run yp_P [bk_3, bk_53, bk_95] 600 27 bl_C yp_m276 276 [18, 438, 1251] false bl_S3) = true := by decide +kernel
set_option maxRecDepth 10000000 in
theorem bl_h4 : bl_ok (bx_run yp_P [] 600 27 bl_C yp_m276 276 [18, 438, 1251] false bl_S4) = true := by decide +kernel
set_option maxRecDepth 10000000 in
theorem bl_h5 : bl_ok (bx_run yp_P [bk_4, bk_54] 600 27 bl_C yp_m276 276 [18, 438, 1251] false bl_S5) = true := by decide +kernel
set_option maxRecDepth 10000000 in
theorem bl_h6 : bl_ok (bx_run yp_P [bk_5, bk_55] 600 27 bl_C yp_m276 276 [18, 438, 1251] false bl_S6) = true := by decide +kernel
set_option maxRecDepth 10000000 in
theorem bl_h7 : bl_ok (bx_run yp_P [bk_6, bk_56] 600 27 bl_C yp_m276 276 [18, 438, 1251] false bl_S7) = true := by decide +kernel
set_option maxRecDepth 10000000 in
theorem bl_h8 : bl_ok (bx_run yp_P [bk_7, bk_110] 600 27 bl_C yp_m276 276 [18, 438, 1251] false bl_S8) = true := by decide +kernel
set_option maxRecDepth 10000000 in
theorem bl_h9 : bl_ok (bx_run yp_P [bk_8, bk_57] 600 27 bl_C yp_m276 276 [18, 438, 1251] false bl_S9) = true := by decide +kernel
set_option maxRecDepth 10000000 in
theorem bl_h10 : bl_ok (bx_run yp_P [bk_9, bk_58] 600 27 bl_C yp_m276 276 [18, 438, 1251] false bl_S10) = true := by decide +kernel
set_option maxRecDepth 10000000 in
theorem bl_h11 : bl_ok (bx_run yp_P [bk_10, bk_59] 600 27 bl_C yp_m276 276 [18, 438, 1251] false bl_S11) = true := by decide +kernel
set_option maxRecDepth 10000000 in
theorem bl_h12 : bl_ok (bx_run yp_P [bk_11, bk_60] 600 27 bl_C yp_m276 276 [18, 438, 1251] false bl_S12) = true := by decide +kernel
set_option maxRecDepth 10000000 in
theorem bl_h13 : bl_ok (bx_run yp_P [bk_12, bk_111] 600 27 bl_C yp_m276 276 [18, 438, 1251] false bl_S13) = true := by decide +kernel
set_option maxRecDepth 10000000 in
theorem bl_h14 : bl_ok (bx_run yp_P [bk_13, bk_112] 600 27 bl_C yp_m276 276 [18, 438, 1251] false bl_S14) = true := by decide +kernel
set_option maxRecDepth 10000000 in
theorem bl_h15 : bl_ok (bx_run yp_P [bk_14, bk_61] 600 27 bl_C yp_m276 276 [18, 438, 1251] false bl_S15) = true := by decide +kernel
set_option maxRecDepth 10000000 in
theorem bl_h16 : bl_ok (bx_run yp_P [bk_15, bk_62] 600 27 bl_C yp_m276 276 [18, 438, 1251] false bl_S16) = true := by decide +kernel
set_option maxRecDepth 10000000 in
theorem bl_h17 : bl_ok (bx_run yp_P [bk_16, bk_63] 600 27 bl_C yp_m276 276 [18, 438, 1251] false bl_S17) = true := by decide +kernel
set_option maxRecDepth 10000000 in
theorem bl_h18 : bl_ok (bx_run yp_P [bk_17, bk_64] 600 27 bl_C yp_m276 276 [18, 438, 1251] false bl_S18) = true := by decide +kernel
set_option maxRecDepth 10000000 in
theorem bl_h19 : bl_ok (bx_run yp_P [bk_18, bk_65] 600 27 bl_C yp_m276 276 [18, 438, 1251] false bl_S19) = true := by decide +kernel
set_option maxRecDepth 10000000 in
theorem bl_h20 : bl_ok (bx_run yp_P [bk_19, bk_66] 600 27 bl_C yp_m276 276 [18, 438, 1251] false bl_S20) = true := by decide +kernel
set_option maxRecDepth 10000000 in
theorem bl_h21 : bl_ok (bx_run yp_P [bk_20, bk_67] 600 27 bl_C yp_m276 276 [18, 438, 1251] false bl_S21) = true := by decide +kernel
set_option maxRecDepth 10000000 in
theorem bl_h22 : bl_ok (bx_run yp_P [bk_21, bk_68] 600 27 bl_C yp_m276 276 [18, 438, 1251] false bl_S22) = true := by decide +kernel
set_option maxRecDepth 10000000 in
theorem bl_h23 : bl_ok (bx_run yp_P [bk_22, bk_69] 600 27 bl_C yp_m276 276 [18, 438, 1251] false bl_S23) = true := by decide +kernel
set_option maxRecDepth 10000000 in
theorem bl_h24 : bl_ok (bx_run yp_P [bk_23, bk_70] 600 27 bl_C yp_m276 276 [18, 438, 1251] false bl_S24) = true := by decide +kernel
set_option maxRecDepth 10000000 in
theorem bl_h25 : bl_ok (bx_run yp_P [bk_24, bk_113] 600 27 bl_C yp_m276 276 [18, 438, 1251] false bl_S25) = true := by decide +kernel
set_option maxRecDepth 10000000 in
theorem bl_h26 : bl_ok (bx_run yp_P [bk_25, bk_114] 600 27 bl_C yp_m276 276 [18, 438, 1251] false bl_S26) = true := by decide +kernel
set_option maxRecDepth 10000000 in
theorem bl_h27 : bl_ok (bx_run yp_P [bk_26, bk_115] 600 27 bl_C yp_m276 276 [18, 438, 1251] false bl_S27) = true := by decide +kernel
set_option maxRecDepth 10000000 in
theorem bl_h28 : bl_ok (bx_run yp_P [] 600 27 bl_C yp_m276 276 [18, 438, 1251] false bl_S28) = true := by decide +kernel
set_option maxRecDepth 10000000 in
theorem bl_h29 : bl_ok (bx_run yp_P [bk_27, bk_71] 600 27 bl_C yp_m276 276 [18, 438, 1251] false bl_S29) = true := by decide +kernel
set_option maxRecDepth 10000000 in
theorem bl_h30 : bl_ok (bx_run yp_P [] 600 27 bl_C yp_m276 276 [18, 438, 1251] false bl_S30) = true := by decide +kernel
set_option maxRecDepth 10000000 in
theorem bl_h31 : bl_ok (bx_run yp_P [] 600 27 bl_C yp_m276 276 [18, 438, 1251] false bl_S31) = true := by decide +kernel
set_option maxRecDepth 10000000 in
theorem bl_h32 : bl_ok (bx_run yp_P [] 600 27 bl_C yp_m276 276 [18, 438, 1251] false bl_S32) = true := by decide +kernel
end
section
/-! the law's loop: its contract -/
theorem bl_some {r : Option (List bx_O)} (h : bl_ok r = true) : ∃ outs, r = some outs ∧ outs.all (bx_fit bw_INV bk_law) = true := by
  cases r with
  | none => cases h
  | some outs => exact ⟨outs, rfl, h⟩
noncomputable def bl_A (xs : List Int32) (X : sx_W → Prop) (o : bx_O) (outs2 : List bx_O) : Prop := o.1 = none ∧ ∃ T2 : List bx_K, (∀ K ∈ T2, bx_Kok yp_P xs bw_INV X K) ∧ (∀ K ∈ T2, K.1 ≠ 276) ∧ bx_run yp_P T2 600 27 bl_C yp_m276 276 [18, 438, 1251] false o.2 = some outs2
theorem bl_join {xs : List Int32} {X : sx_W → Prop} : ∀ l : List bx_O, (∀ o ∈ l, ∃ outs2, bl_A xs X o outs2 ∧ outs2.all (bx_fit bw_INV bk_law) = true) → ∃ outs : List bx_O, outs.all (bx_fit bw_INV bk_law) = true ∧ ∀ o ∈ l, ∃ outs2, bl_A xs X o outs2 ∧ ∀ y ∈ outs2, y ∈ outs
  | [], _ => ⟨[], rfl, fun o ho => by cases ho⟩
  | o :: l, h => by
    obtain ⟨outs2, h1, h2⟩ := h o List.mem_cons_self
    obtain ⟨outs, h3, h4⟩ := bl_join l (fun q hq => h q (List.mem_cons_of_mem _ hq))
    refine ⟨outs2 ++ outs, by rw [List.all_append, h2, h3]; rfl, fun q hq => ?_⟩
    rcases List.mem_cons.mp hq with rfl | hq
    · exact ⟨outs2, h1, fun y hy => List.mem_append_left _ hy⟩
    · obtain ⟨o2, h5, h6⟩ := h4 q hq
      exact ⟨o2, h5, fun y hy => List.mem_append_right _ (h6 y hy)⟩
theorem bl_one {xs : List Int32} {X : sx_W → Prop} {S : bx_S} {T2 : List bx_K} (hT : ∀ K ∈ T2, bx_Kok yp_P xs bw_INV X K) (hn : T2.all (fun K => decide (K.1 ≠ 276)) = true) (h : bl_ok (bx_run yp_P T2 600 27 bl_C yp_m276 276 [18, 438, 1251] false S) = true) : ∃ outs2, bl_A xs X (none, S) outs2 ∧ outs2.all (bx_fit bw_INV bk_law) = true := by
  obtain ⟨outs, h1, h2⟩ := bl_some h
  exact ⟨outs, ⟨rfl, T2, hT, fun K hK => of_decide_eq_true (List.all_eq_true.mp hn K hK), h1⟩, h2⟩
set_option maxRecDepth 100000 in
theorem bl_each {xs : List Int32} {X : sx_W → Prop} (h : bw_H xs X) : ∀ o ∈ bl_L, ∃ outs2, bl_A xs X o outs2 ∧ outs2.all (bx_fit bw_INV bk_law) = true := by
  unfold bl_L
  exact (List.forall_mem_cons.mpr ⟨bl_one (T2 := [bk_0, bk_50]) (List.forall_mem_cons.mpr ⟨bo_0 h, (List.forall_mem_cons.mpr ⟨bo_50 h, bx_Tnil⟩)⟩) (by decide +kernel) bl_h0, (List.forall_mem_cons.mpr ⟨bl_one (T2 := [bk_1, bk_51]) (List.forall_mem_cons.mpr ⟨bo_1 h, (List.forall_mem_cons.mpr ⟨bo_51 h, bx_Tnil⟩)⟩) (by decide +kernel) bl_h1, (List.forall_mem_cons.mpr ⟨bl_one (T2 := [bk_2, bk_52]) (List.forall_mem_cons.mpr ⟨bo_2 h, (List.forall_mem_cons.mpr ⟨bo_52 h, bx_Tnil⟩)⟩) (by decide +kernel) bl_h2, (List.forall_mem_cons.mpr ⟨bl_one (T2 := [bk_3, bk_53, bk_95]) (List.forall_mem_cons.mpr ⟨bo_3 h, (List.forall_mem_cons.mpr ⟨bo_53 h, (List.forall_mem_cons.mpr ⟨bo_95 h, bx_Tnil⟩)⟩)⟩) (by decide +kernel) bl_h3, (List.forall_mem_cons.mpr ⟨bl_one (T2 := []) bx_Tnil (by decide +kernel) bl_h4, (List.forall_mem_cons.mpr ⟨bl_one (T2 := [bk_4, bk_54]) (List.forall_mem_cons.mpr ⟨bo_4 h, (List.forall_mem_cons.mpr ⟨bo_54 h, bx_Tnil⟩)⟩) (by decide +kernel) bl_h5, (List.forall_mem_cons.mpr ⟨bl_one (T2 := [bk_5, bk_55]) (List.forall_mem_cons.mpr ⟨bo_5 h, (List.forall_mem_cons.mpr ⟨bo_55 h, bx_Tnil⟩)⟩) (by decide +kernel) bl_h6, (List.forall_mem_cons.mpr ⟨bl_one (T2 := [bk_6, bk_56]) (List.forall_mem_cons.mpr ⟨bo_6 h, (List.forall_mem_cons.mpr ⟨bo_56 h, bx_Tnil⟩)⟩) (by decide +kernel) bl_h7, (List.forall_mem_cons.mpr ⟨bl_one (T2 := [bk_7, bk_110]) (List.forall_mem_cons.mpr ⟨bo_7 h, (List.forall_mem_cons.mpr ⟨bo_110 h, bx_Tnil⟩)⟩) (by decide +kernel) bl_h8, (List.forall_mem_cons.mpr ⟨bl_one (T2 := [bk_8, bk_57]) (List.forall_mem_cons.mpr ⟨bo_8 h, (List.forall_mem_cons.mpr ⟨bo_57 h, bx_Tnil⟩)⟩) (by decide +kernel) bl_h9, (List.forall_mem_cons.mpr ⟨bl_one (T2 := [bk_9, bk_58]) (List.forall_mem_cons.mpr ⟨bo_9 h, (List.forall_mem_cons.mpr ⟨bo_58 h, bx_Tnil⟩)⟩) (by decide +kernel) bl_h10, (List.forall_mem_cons.mpr ⟨bl_one (T2 := [bk_10, bk_59]) (List.forall_mem_cons.mpr ⟨bo_10 h, (List.forall_mem_cons.mpr ⟨bo_59 h, bx_Tnil⟩)⟩) (by decide +kernel) bl_h11, (List.forall_mem_cons.mpr ⟨bl_one (T2 := [bk_11, bk_60]) (List.forall_mem_cons.mpr ⟨bo_11 h, (List.forall_mem_cons.mpr ⟨bo_60 h, bx_Tnil⟩)⟩) (by decide +kernel) bl_h12, (List.forall_mem_cons.mpr ⟨bl_one (T2 := [bk_12, bk_111]) (List.forall_mem_cons.mpr ⟨bo_12 h, (List.forall_mem_cons.mpr ⟨bo_111 h, bx_Tnil⟩)⟩) (by decide +kernel) bl_h13, (List.forall_mem_cons.mpr ⟨bl_one (T2 := [bk_13, bk_112]) (List.forall_mem_cons.mpr ⟨bo_13 h, (List.forall_mem_cons.mpr ⟨bo_112 h, bx_Tnil⟩)⟩) (by decide +kernel) bl_h14, (List.forall_mem_cons.mpr ⟨bl_one (T2 := [bk_14, bk_61]) (List.forall_mem_cons.mpr ⟨bo_14 h, (List.forall_mem_cons.mpr ⟨bo_61 h, bx_Tnil⟩)⟩) (by decide +kernel) bl_h15, (List.forall_mem_cons.mpr ⟨bl_one (T2 := [bk_15, bk_62]) (List.forall_mem_cons.mpr ⟨bo_15 h, (List.forall_mem_cons.mpr ⟨bo_62 h, bx_Tnil⟩)⟩) (by decide +kernel) bl_h16, (List.forall_mem_cons.mpr ⟨bl_one (T2 := [bk_16, bk_63]) (List.forall_mem_cons.mpr ⟨bo_16 h, (List.forall_mem_cons.mpr ⟨bo_63 h, bx_Tnil⟩)⟩) (by decide +kernel) bl_h17, (List.forall_mem_cons.mpr ⟨bl_one (T2 := [bk_17, bk_64]) (List.forall_mem_cons.mpr ⟨bo_17 h, (List.forall_mem_cons.mpr ⟨bo_64 h, bx_Tnil⟩)⟩) (by decide +kernel) bl_h18, (List.forall_mem_cons.mpr ⟨bl_one (T2 := [bk_18, bk_65]) (List.forall_mem_cons.mpr ⟨bo_18 h, (List.forall_mem_cons.mpr ⟨bo_65 h, bx_Tnil⟩)⟩) (by decide +kernel) bl_h19, (List.forall_mem_cons.mpr ⟨bl_one (T2 := [bk_19, bk_66]) (List.forall_mem_cons.mpr ⟨bo_19 h, (List.forall_mem_cons.mpr ⟨bo_66 h, bx_Tnil⟩)⟩) (by decide +kernel) bl_h20, (List.forall_mem_cons.mpr ⟨bl_one (T2 := [bk_20, bk_67]) (List.forall_mem_cons.mpr ⟨bo_20 h, (List.forall_mem_cons.mpr ⟨bo_67 h, bx_Tnil⟩)⟩) (by decide +kernel) bl_h21, (List.forall_mem_cons.mpr ⟨bl_one (T2 := [bk_21, bk_68]) (List.forall_mem_cons.mpr ⟨bo_21 h, (List.forall_mem_cons.mpr ⟨bo_68 h, bx_Tnil⟩)⟩) (by decide +kernel) bl_h22, (List.forall_mem_cons.mpr ⟨bl_one (T2 := [bk_22, bk_69]) (List.forall_mem_cons.mpr ⟨bo_22 h, (List.forall_mem_cons.mpr ⟨bo_69 h, bx_Tnil⟩)⟩) (by decide +kernel) bl_h23, (List.forall_mem_cons.mpr ⟨bl_one (T2 := [bk_23, bk_70]) (List.forall_mem_cons.mpr ⟨bo_23 h, (List.forall_mem_cons.mpr ⟨bo_70 h, bx_Tnil⟩)⟩) (by decide +kernel) bl_h24, (List.forall_mem_cons.mpr ⟨bl_one (T2 := [bk_24, bk_113]) (List.forall_mem_cons.mpr ⟨bo_24 h, (List.forall_mem_cons.mpr ⟨bo_113 h, bx_Tnil⟩)⟩) (by decide +kernel) bl_h25, (List.forall_mem_cons.mpr ⟨bl_one (T2 := [bk_25, bk_114]) (List.forall_mem_cons.mpr ⟨bo_25 h, (List.forall_mem_cons.mpr ⟨bo_114 h, bx_Tnil⟩)⟩) (by decide +kernel) bl_h26, (List.forall_mem_cons.mpr ⟨bl_one (T2 := [bk_26, bk_115]) (List.forall_mem_cons.mpr ⟨bo_26 h, (List.forall_mem_cons.mpr ⟨bo_115 h, bx_Tnil⟩)⟩) (by decide +kernel) bl_h27, (List.forall_mem_cons.mpr ⟨bl_one (T2 := []) bx_Tnil (by decide +kernel) bl_h28, (List.forall_mem_cons.mpr ⟨bl_one (T2 := [bk_27, bk_71]) (List.forall_mem_cons.mpr ⟨bo_27 h, (List.forall_mem_cons.mpr ⟨bo_71 h, bx_Tnil⟩)⟩) (by decide +kernel) bl_h29, (List.forall_mem_cons.mpr ⟨bl_one (T2 := []) bx_Tnil (by decide +kernel) bl_h30, (List.forall_mem_cons.mpr ⟨bl_one (T2 := []) bx_Tnil (by decide +kernel) bl_h31, (List.forall_mem_cons.mpr ⟨bl_one (T2 := []) bx_Tnil (by decide +kernel) bl_h32, (fun _ h => by cases h)⟩)⟩)⟩)⟩)⟩)⟩)⟩)⟩)⟩)⟩)⟩)⟩)⟩)⟩)⟩)⟩)⟩)⟩)⟩)⟩)⟩)⟩)⟩)⟩)⟩)⟩)⟩)⟩)⟩)⟩)⟩)⟩)⟩)
theorem bo_law {xs : List Int32} {X : sx_W → Prop} (h : bw_H xs X) : bx_KokM yp_P xs bw_INV X yp_m276 bk_law := by
  have hlen := bl_len
  obtain ⟨outs, hall, hjo⟩ := bl_join bl_L (bl_each h)
  cases hr : bl_run1 with
  | none => rw [hr] at hlen; cases hlen
  | some l =>
    rw [hr] at hlen
    refine bx_chk2_ok (PC := bw_PC) (stops := [18, 438, 1251]) bl_ctr hall (bx_two h.1 h.2.1 (T := []) bx_Tnil (fun K hK => by cases hK) hr (fun o ho => ?_))
    obtain ⟨q, hq, hoq⟩ := List.any_eq_true.mp (List.all_eq_true.mp hlen o ho)
    have hoq := bl_eq_ok hoq
    subst hoq
    obtain ⟨outs2, ⟨g1, T2, g2, g3, g4⟩, g5⟩ := hjo o hq
    exact ⟨g1, 600, T2, outs2, g2, fun K hK e => absurd e (g3 K hK), g4, g5⟩
end
