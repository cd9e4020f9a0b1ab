/-! the contracts hold, one behind another, where those by hand do -/
def bw_hand : List bx_K := [bk_55, bk_61, bk_110, bk_112, bk_115, bk_152, bk_260, bk_367, bk_368, bk_372]
theorem bx_Tnil {p : bx_K → Prop} : ∀ K ∈ ([] : List bx_K), p K := fun _ h => by cases h
section BWK
variable {xs : List Int32} {X : sx_W → Prop}
noncomputable def bw_H (xs : List Int32) (X : sx_W → Prop) : Prop := xs.length ≤ 4096 ∧ bx_keeps xs bw_PC X ∧ ∀ K ∈ bw_hand, bx_Kok yp_P xs bw_INV X K
theorem bo_73 (h : bw_H xs X) : bx_Kok yp_P xs bw_INV X bk_73 := bx_chk_K h.1 h.2.1 bx_Tnil (M := yp_m138) rfl bc_73
theorem bo_28 (h : bw_H xs X) : bx_Kok yp_P xs bw_INV X bk_28 := bx_chk_K h.1 h.2.1 (List.forall_mem_cons.mpr ⟨bo_73 h, bx_Tnil⟩) (M := yp_m138) rfl bc_28
theorem bo_74 (h : bw_H xs X) : bx_Kok yp_P xs bw_INV X bk_74 := bx_chk_K h.1 h.2.1 bx_Tnil (M := yp_m159) rfl bc_74
theorem bo_29 (h : bw_H xs X) : bx_Kok yp_P xs bw_INV X bk_29 := bx_chk_K h.1 h.2.1 (List.forall_mem_cons.mpr ⟨bo_74 h, bx_Tnil⟩) (M := yp_m159) rfl bc_29
theorem bo_0 (h : bw_H xs X) : bx_Kok yp_P xs bw_INV X bk_0 := bx_chk_K h.1 h.2.1 (List.forall_mem_cons.mpr ⟨bo_28 h, (List.forall_mem_cons.mpr ⟨bo_29 h, bx_Tnil⟩)⟩) (M := yp_m158) rfl bc_0
theorem bo_30 (h : bw_H xs X) : bx_Kok yp_P xs bw_INV X bk_30 := bx_chk_K h.1 h.2.1 bx_Tnil (M := yp_m25) rfl bc_30
theorem bo_87 (h : bw_H xs X) : bx_Kok yp_P xs bw_INV X bk_87 := bx_chk_K h.1 h.2.1 (List.forall_mem_cons.mpr ⟨bo_30 h, bx_Tnil⟩) (M := yp_m156) rfl bc_87
theorem bo_1 (h : bw_H xs X) : bx_Kok yp_P xs bw_INV X bk_1 := bx_chk_K h.1 h.2.1 (List.forall_mem_cons.mpr ⟨bo_30 h, (List.forall_mem_cons.mpr ⟨bo_87 h, bx_Tnil⟩)⟩) (M := yp_m156) rfl bc_1
theorem bo_72 (h : bw_H xs X) : bx_Kok yp_P xs bw_INV X bk_72 := bx_chk_K h.1 h.2.1 bx_Tnil (M := yp_m71) rfl bc_72
theorem bo_2 (h : bw_H xs X) : bx_Kok yp_P xs bw_INV X bk_2 := bx_chk_K h.1 h.2.1 (List.forall_mem_cons.mpr ⟨bo_72 h, bx_Tnil⟩) (M := yp_m155) rfl bc_2
theorem bo_3 (h : bw_H xs X) : bx_Kok yp_P xs bw_INV X bk_3 := bx_chk_K h.1 h.2.1 bx_Tnil (M := yp_m71) rfl bc_3
theorem bo_76 (h : bw_H xs X) : bx_Kok yp_P xs bw_INV X bk_76 := bx_chk_K h.1 h.2.1 bx_Tnil (M := yp_m60) rfl bc_76
theorem bo_33 (h : bw_H xs X) : bx_Kok yp_P xs bw_INV X bk_33 := bx_chk_K h.1 h.2.1 (List.forall_mem_cons.mpr ⟨bo_76 h, bx_Tnil⟩) (M := yp_m60) rfl bc_33
theorem bo_150 (h : bw_H xs X) : bx_Kok yp_P xs bw_INV X bk_150 := bx_chk_K h.1 h.2.1 bx_Tnil (M := yp_m98) rfl bc_150
theorem bo_130 (h : bw_H xs X) : bx_Kok yp_P xs bw_INV X bk_130 := bx_chk_K h.1 h.2.1 (List.forall_mem_cons.mpr ⟨bo_150 h, bx_Tnil⟩) (M := yp_m98) rfl bc_130
theorem bo_338 (h : bw_H xs X) : bx_Kok yp_P xs bw_INV X bk_338 := bx_chk_K h.1 h.2.1 bx_Tnil (M := yp_m64) rfl bc_338
theorem bo_325 (h : bw_H xs X) : bx_Kok yp_P xs bw_INV X bk_325 := bx_chk_K h.1 h.2.1 (List.forall_mem_cons.mpr ⟨bo_338 h, bx_Tnil⟩) (M := yp_m64) rfl bc_325
theorem bo_332 (h : bw_H xs X) : bx_Kok yp_P xs bw_INV X bk_332 := bx_chk_K h.1 h.2.1 (List.forall_mem_cons.mpr ⟨bo_130 h, bx_Tnil⟩) (M := yp_m152) rfl bc_332
theorem bo_31 (h : bw_H xs X) : bx_Kok yp_P xs bw_INV X bk_31 := bx_chk_K h.1 h.2.1 (List.forall_mem_cons.mpr ⟨bo_33 h, (List.forall_mem_cons.mpr ⟨bo_130 h, (List.forall_mem_cons.mpr ⟨bo_325 h, (List.forall_mem_cons.mpr ⟨bo_332 h, bx_Tnil⟩)⟩)⟩)⟩) (M := yp_m152) rfl bc_31
theorem bo_4 (h : bw_H xs X) : bx_Kok yp_P xs bw_INV X bk_4 := bx_chk_K h.1 h.2.1 (List.forall_mem_cons.mpr ⟨bo_31 h, bx_Tnil⟩) (M := yp_m151) rfl bc_4
theorem bo_75 (h : bw_H xs X) : bx_Kok yp_P xs bw_INV X bk_75 := bx_chk_K h.1 h.2.1 bx_Tnil (M := yp_m146) rfl bc_75
theorem bo_128 (h : bw_H xs X) : bx_Kok yp_P xs bw_INV X bk_128 := bx_chk_K h.1 h.2.1 bx_Tnil (M := yp_m77) rfl bc_128
theorem bo_104 (h : bw_H xs X) : bx_Kok yp_P xs bw_INV X bk_104 := bx_chk_K h.1 h.2.1 (List.forall_mem_cons.mpr ⟨bo_128 h, bx_Tnil⟩) (M := yp_m77) rfl bc_104
theorem bo_229 (h : bw_H xs X) : bx_Kok yp_P xs bw_INV X bk_229 := bx_chk_K h.1 h.2.1 bx_Tnil (M := yp_m147) rfl bc_229
theorem bo_214 (h : bw_H xs X) : bx_Kok yp_P xs bw_INV X bk_214 := bx_chk_K h.1 h.2.1 (List.forall_mem_cons.mpr ⟨bo_229 h, bx_Tnil⟩) (M := yp_m147) rfl bc_214
theorem bo_204 (h : bw_H xs X) : bx_Kok yp_P xs bw_INV X bk_204 := bx_chk_K h.1 h.2.1 (List.forall_mem_cons.mpr ⟨bo_104 h, (List.forall_mem_cons.mpr ⟨bo_214 h, bx_Tnil⟩)⟩) (M := yp_m146) rfl bc_204
theorem bo_407 (h : bw_H xs X) : bx_Kok yp_P xs bw_INV X bk_407 := bx_chk_K h.1 h.2.1 bx_Tnil (M := yp_m148) rfl bc_407
theorem bo_404 (h : bw_H xs X) : bx_Kok yp_P xs bw_INV X bk_404 := bx_chk_K h.1 h.2.1 (List.forall_mem_cons.mpr ⟨bo_407 h, bx_Tnil⟩) (M := yp_m148) rfl bc_404
theorem bo_402 (h : bw_H xs X) : bx_Kok yp_P xs bw_INV X bk_402 := bx_chk_K h.1 h.2.1 (List.forall_mem_cons.mpr ⟨bo_404 h, bx_Tnil⟩) (M := yp_m146) rfl bc_402
theorem bo_400 (h : bw_H xs X) : bx_Kok yp_P xs bw_INV X bk_400 := bx_chk_K h.1 h.2.1 (List.forall_mem_cons.mpr ⟨bo_402 h, bx_Tnil⟩) (M := yp_m146) rfl bc_400
theorem bo_32 (h : bw_H xs X) : bx_Kok yp_P xs bw_INV X bk_32 := bx_chk_K h.1 h.2.1 (List.forall_mem_cons.mpr ⟨bo_75 h, (List.forall_mem_cons.mpr ⟨bo_204 h, (List.forall_mem_cons.mpr ⟨bo_400 h, bx_Tnil⟩)⟩)⟩) (M := yp_m146) rfl bc_32
theorem bo_423 (h : bw_H xs X) : bx_Kok yp_P xs bw_INV X bk_423 := bx_chk_K h.1 h.2.1 bx_Tnil (M := yp_m150) rfl bc_423
theorem bo_422 (h : bw_H xs X) : bx_Kok yp_P xs bw_INV X bk_422 := bx_chk_K h.1 h.2.1 (List.forall_mem_cons.mpr ⟨bo_423 h, bx_Tnil⟩) (M := yp_m150) rfl bc_422
theorem bo_421 (h : bw_H xs X) : bx_Kok yp_P xs bw_INV X bk_421 := bx_chk_K h.1 h.2.1 (List.forall_mem_cons.mpr ⟨bo_422 h, bx_Tnil⟩) (M := yp_m149) rfl bc_421
theorem bo_419 (h : bw_H xs X) : bx_Kok yp_P xs bw_INV X bk_419 := bx_chk_K h.1 h.2.1 (List.forall_mem_cons.mpr ⟨bo_421 h, bx_Tnil⟩) (M := yp_m149) rfl bc_419
theorem bo_5 (h : bw_H xs X) : bx_Kok yp_P xs bw_INV X bk_5 := bx_chk_K h.1 h.2.1 (List.forall_mem_cons.mpr ⟨bo_32 h, (List.forall_mem_cons.mpr ⟨bo_419 h, bx_Tnil⟩)⟩) (M := yp_m145) rfl bc_5
theorem bo_77 (h : bw_H xs X) : bx_Kok yp_P xs bw_INV X bk_77 := bx_chk_K h.1 h.2.1 (List.forall_mem_cons.mpr ⟨bo_104 h, bx_Tnil⟩) (M := yp_m76) rfl bc_77
theorem bo_34 (h : bw_H xs X) : bx_Kok yp_P xs bw_INV X bk_34 := bx_chk_K h.1 h.2.1 (List.forall_mem_cons.mpr ⟨bo_77 h, bx_Tnil⟩) (M := yp_m76) rfl bc_34
theorem bo_360 (h : bw_H xs X) : bx_Kok yp_P xs bw_INV X bk_360 := bx_chk_K h.1 h.2.1 bx_Tnil (M := yp_m144) rfl bc_360
theorem bo_349 (h : bw_H xs X) : bx_Kok yp_P xs bw_INV X bk_349 := bx_chk_K h.1 h.2.1 (List.forall_mem_cons.mpr ⟨bo_360 h, bx_Tnil⟩) (M := yp_m144) rfl bc_349
theorem bo_6 (h : bw_H xs X) : bx_Kok yp_P xs bw_INV X bk_6 := bx_chk_K h.1 h.2.1 (List.forall_mem_cons.mpr ⟨bo_33 h, (List.forall_mem_cons.mpr ⟨bo_34 h, (List.forall_mem_cons.mpr ⟨bo_325 h, (List.forall_mem_cons.mpr ⟨bo_349 h, bx_Tnil⟩)⟩)⟩)⟩) (M := yp_m143) rfl bc_6
theorem bo_35 (h : bw_H xs X) : bx_Kok yp_P xs bw_INV X bk_35 := bx_chk_K h.1 h.2.1 bx_Tnil (M := yp_m23) rfl bc_35
theorem bo_36 (h : bw_H xs X) : bx_Kok yp_P xs bw_INV X bk_36 := bx_chk_K h.1 h.2.1 bx_Tnil (M := yp_m71) rfl bc_36
theorem bo_165 (h : bw_H xs X) : bx_Kok yp_P xs bw_INV X bk_165 := bx_chk_K h.1 h.2.1 bx_Tnil (M := yp_m29) rfl bc_165
theorem bo_168 (h : bw_H xs X) : bx_Kok yp_P xs bw_INV X bk_168 := bx_chk_K h.1 h.2.1 (List.forall_mem_cons.mpr ⟨bo_30 h, bx_Tnil⟩) (M := yp_m30) rfl bc_168
theorem bo_166 (h : bw_H xs X) : bx_Kok yp_P xs bw_INV X bk_166 := bx_chk_K h.1 h.2.1 (List.forall_mem_cons.mpr ⟨bo_168 h, bx_Tnil⟩) (M := yp_m35) rfl bc_166
theorem bo_188 (h : bw_H xs X) : bx_Kok yp_P xs bw_INV X bk_188 := bx_chk_K h.1 h.2.1 (List.forall_mem_cons.mpr ⟨bo_165 h, (List.forall_mem_cons.mpr ⟨bo_166 h, (List.forall_mem_cons.mpr ⟨bo_168 h, bx_Tnil⟩)⟩)⟩) (M := yp_m52) rfl bc_188
theorem bo_143 (h : bw_H xs X) : bx_Kok yp_P xs bw_INV X bk_143 := bx_chk_K h.1 h.2.1 (List.forall_mem_cons.mpr ⟨bo_165 h, (List.forall_mem_cons.mpr ⟨bo_166 h, (List.forall_mem_cons.mpr ⟨bo_168 h, (List.forall_mem_cons.mpr ⟨bo_188 h, bx_Tnil⟩)⟩)⟩)⟩) (M := yp_m50) rfl bc_143
theorem bo_184 (h : bw_H xs X) : bx_Kok yp_P xs bw_INV X bk_184 := bx_chk_K h.1 h.2.1 (List.forall_mem_cons.mpr ⟨bo_165 h, (List.forall_mem_cons.mpr ⟨bo_168 h, bx_Tnil⟩)⟩) (M := yp_m37) rfl bc_184
theorem bo_207 (h : bw_H xs X) : bx_Kok yp_P xs bw_INV X bk_207 := bx_chk_K h.1 h.2.1 bx_Tnil (M := yp_m46) rfl bc_207
theorem bo_116 (h : bw_H xs X) : bx_Kok yp_P xs bw_INV X bk_116 := bx_chk_K h.1 h.2.1 (List.forall_mem_cons.mpr ⟨bo_143 h, (List.forall_mem_cons.mpr ⟨bo_184 h, (List.forall_mem_cons.mpr ⟨bo_207 h, bx_Tnil⟩)⟩)⟩) (M := yp_m49) rfl bc_116
theorem bo_88 (h : bw_H xs X) : bx_Kok yp_P xs bw_INV X bk_88 := bx_chk_K h.1 h.2.1 (List.forall_mem_cons.mpr ⟨bo_116 h, bx_Tnil⟩) (M := yp_m49) rfl bc_88
theorem bo_389 (h : bw_H xs X) : bx_Kok yp_P xs bw_INV X bk_389 := bx_chk_K h.1 h.2.1 bx_Tnil (M := yp_m60) rfl bc_389
theorem bo_385 (h : bw_H xs X) : bx_Kok yp_P xs bw_INV X bk_385 := bx_chk_K h.1 h.2.1 (List.forall_mem_cons.mpr ⟨bo_389 h, bx_Tnil⟩) (M := yp_m60) rfl bc_385
theorem bo_416 (h : bw_H xs X) : bx_Kok yp_P xs bw_INV X bk_416 := bx_chk_K h.1 h.2.1 bx_Tnil (M := yp_m64) rfl bc_416
theorem bo_414 (h : bw_H xs X) : bx_Kok yp_P xs bw_INV X bk_414 := bx_chk_K h.1 h.2.1 (List.forall_mem_cons.mpr ⟨bo_416 h, bx_Tnil⟩) (M := yp_m64) rfl bc_414
theorem bo_383 (h : bw_H xs X) : bx_Kok yp_P xs bw_INV X bk_383 := bx_chk_K h.1 h.2.1 (List.forall_mem_cons.mpr ⟨bo_385 h, (List.forall_mem_cons.mpr ⟨bo_414 h, bx_Tnil⟩)⟩) (M := yp_m59) rfl bc_383
theorem bo_388 (h : bw_H xs X) : bx_Kok yp_P xs bw_INV X bk_388 := bx_chk_K h.1 h.2.1 bx_Tnil (M := yp_m65) rfl bc_388
theorem bo_392 (h : bw_H xs X) : bx_Kok yp_P xs bw_INV X bk_392 := bx_chk_K h.1 h.2.1 bx_Tnil (M := yp_m66) rfl bc_392
theorem bo_381 (h : bw_H xs X) : bx_Kok yp_P xs bw_INV X bk_381 := bx_chk_K h.1 h.2.1 (List.forall_mem_cons.mpr ⟨bo_383 h, (List.forall_mem_cons.mpr ⟨bo_388 h, (List.forall_mem_cons.mpr ⟨bo_392 h, bx_Tnil⟩)⟩)⟩) (M := yp_m58) rfl bc_381
theorem bo_378 (h : bw_H xs X) : bx_Kok yp_P xs bw_INV X bk_378 := bx_chk_K h.1 h.2.1 (List.forall_mem_cons.mpr ⟨bo_381 h, bx_Tnil⟩) (M := yp_m58) rfl bc_378
theorem bo_192 (h : bw_H xs X) : bx_Kok yp_P xs bw_INV X bk_192 := bx_chk_K h.1 h.2.1 (List.forall_mem_cons.mpr ⟨bo_378 h, bx_Tnil⟩) (M := yp_m57) rfl bc_192
theorem bo_187 (h : bw_H xs X) : bx_Kok yp_P xs bw_INV X bk_187 := bx_chk_K h.1 h.2.1 (List.forall_mem_cons.mpr ⟨bo_192 h, bx_Tnil⟩) (M := yp_m57) rfl bc_187
theorem bo_287 (h : bw_H xs X) : bx_Kok yp_P xs bw_INV X bk_287 := bx_chk_K h.1 h.2.1 (List.forall_mem_cons.mpr ⟨bo_187 h, bx_Tnil⟩) (M := yp_m55) rfl bc_287
theorem bo_276 (h : bw_H xs X) : bx_Kok yp_P xs bw_INV X bk_276 := bx_chk_K h.1 h.2.1 (List.forall_mem_cons.mpr ⟨bo_287 h, bx_Tnil⟩) (M := yp_m54) rfl bc_276
theorem bo_291 (h : bw_H xs X) : bx_Kok yp_P xs bw_INV X bk_291 := bx_chk_K h.1 h.2.1 bx_Tnil (M := yp_m141) rfl bc_291
theorem bo_306 (h : bw_H xs X) : bx_Kok yp_P xs bw_INV X bk_306 := bx_chk_K h.1 h.2.1 bx_Tnil (M := yp_m69) rfl bc_306
theorem bo_300 (h : bw_H xs X) : bx_Kok yp_P xs bw_INV X bk_300 := bx_chk_K h.1 h.2.1 (List.forall_mem_cons.mpr ⟨bo_306 h, bx_Tnil⟩) (M := yp_m68) rfl bc_300
theorem bo_309 (h : bw_H xs X) : bx_Kok yp_P xs bw_INV X bk_309 := bx_chk_K h.1 h.2.1 bx_Tnil (M := yp_m19) rfl bc_309
theorem bo_310 (h : bw_H xs X) : bx_Kok yp_P xs bw_INV X bk_310 := bx_chk_K h.1 h.2.1 (List.forall_mem_cons.mpr ⟨bo_309 h, bx_Tnil⟩) (M := yp_m16) rfl bc_310
theorem bo_292 (h : bw_H xs X) : bx_Kok yp_P xs bw_INV X bk_292 := bx_chk_K h.1 h.2.1 (List.forall_mem_cons.mpr ⟨bo_300 h, (List.forall_mem_cons.mpr ⟨bo_309 h, (List.forall_mem_cons.mpr ⟨bo_310 h, bx_Tnil⟩)⟩)⟩) (M := yp_m67) rfl bc_292
theorem bo_329 (h : bw_H xs X) : bx_Kok yp_P xs bw_INV X bk_329 := bx_chk_K h.1 h.2.1 bx_Tnil (M := yp_m142) rfl bc_329
theorem bo_375 (h : bw_H xs X) : bx_Kok yp_P xs bw_INV X bk_375 := bx_chk_K h.1 h.2.1 bx_Tnil (M := yp_m140) rfl bc_375
theorem bo_369 (h : bw_H xs X) : bx_Kok yp_P xs bw_INV X bk_369 := bx_chk_K h.1 h.2.1 (List.forall_mem_cons.mpr ⟨bo_276 h, (List.forall_mem_cons.mpr ⟨bo_291 h, (List.forall_mem_cons.mpr ⟨bo_292 h, (List.forall_mem_cons.mpr ⟨bo_329 h, (List.forall_mem_cons.mpr ⟨bo_375 h, bx_Tnil⟩)⟩)⟩)⟩)⟩) (M := yp_m140) rfl bc_369
theorem bo_362 (h : bw_H xs X) : bx_Kok yp_P xs bw_INV X bk_362 := bx_chk_K h.1 h.2.1 (List.forall_mem_cons.mpr ⟨bo_369 h, bx_Tnil⟩) (M := yp_m140) rfl bc_362
theorem bo_353 (h : bw_H xs X) : bx_Kok yp_P xs bw_INV X bk_353 := bx_chk_K h.1 h.2.1 (List.forall_mem_cons.mpr ⟨bo_276 h, (List.forall_mem_cons.mpr ⟨bo_291 h, (List.forall_mem_cons.mpr ⟨bo_292 h, (List.forall_mem_cons.mpr ⟨bo_329 h, (List.forall_mem_cons.mpr ⟨bo_362 h, bx_Tnil⟩)⟩)⟩)⟩)⟩) (M := yp_m140) rfl bc_353
theorem bo_348 (h : bw_H xs X) : bx_Kok yp_P xs bw_INV X bk_348 := bx_chk_K h.1 h.2.1 (List.forall_mem_cons.mpr ⟨bo_353 h, bx_Tnil⟩) (M := yp_m140) rfl bc_348
theorem bo_341 (h : bw_H xs X) : bx_Kok yp_P xs bw_INV X bk_341 := bx_chk_K h.1 h.2.1 (List.forall_mem_cons.mpr ⟨bo_276 h, (List.forall_mem_cons.mpr ⟨bo_291 h, (List.forall_mem_cons.mpr ⟨bo_292 h, (List.forall_mem_cons.mpr ⟨bo_329 h, (List.forall_mem_cons.mpr ⟨bo_348 h, bx_Tnil⟩)⟩)⟩)⟩)⟩) (M := yp_m140) rfl bc_341
theorem bo_331 (h : bw_H xs X) : bx_Kok yp_P xs bw_INV X bk_331 := bx_chk_K h.1 h.2.1 (List.forall_mem_cons.mpr ⟨bo_341 h, bx_Tnil⟩) (M := yp_m140) rfl bc_331
theorem bo_322 (h : bw_H xs X) : bx_Kok yp_P xs bw_INV X bk_322 := bx_chk_K h.1 h.2.1 (List.forall_mem_cons.mpr ⟨bo_276 h, (List.forall_mem_cons.mpr ⟨bo_291 h, (List.forall_mem_cons.mpr ⟨bo_292 h, (List.forall_mem_cons.mpr ⟨bo_329 h, (List.forall_mem_cons.mpr ⟨bo_331 h, bx_Tnil⟩)⟩)⟩)⟩)⟩) (M := yp_m140) rfl bc_322
theorem bo_317 (h : bw_H xs X) : bx_Kok yp_P xs bw_INV X bk_317 := bx_chk_K h.1 h.2.1 (List.forall_mem_cons.mpr ⟨bo_322 h, bx_Tnil⟩) (M := yp_m140) rfl bc_317
theorem bo_311 (h : bw_H xs X) : bx_Kok yp_P xs bw_INV X bk_311 := bx_chk_K h.1 h.2.1 (List.forall_mem_cons.mpr ⟨bo_276 h, (List.forall_mem_cons.mpr ⟨bo_291 h, (List.forall_mem_cons.mpr ⟨bo_292 h, (List.forall_mem_cons.mpr ⟨bo_317 h, (List.forall_mem_cons.mpr ⟨bo_329 h, bx_Tnil⟩)⟩)⟩)⟩)⟩) (M := yp_m140) rfl bc_311
theorem bo_304 (h : bw_H xs X) : bx_Kok yp_P xs bw_INV X bk_304 := bx_chk_K h.1 h.2.1 (List.forall_mem_cons.mpr ⟨bo_311 h, bx_Tnil⟩) (M := yp_m140) rfl bc_304
theorem bo_262 (h : bw_H xs X) : bx_Kok yp_P xs bw_INV X bk_262 := bx_chk_K h.1 h.2.1 (List.forall_mem_cons.mpr ⟨bo_276 h, (List.forall_mem_cons.mpr ⟨bo_291 h, (List.forall_mem_cons.mpr ⟨bo_292 h, (List.forall_mem_cons.mpr ⟨bo_304 h, (List.forall_mem_cons.mpr ⟨bo_329 h, bx_Tnil⟩)⟩)⟩)⟩)⟩) (M := yp_m140) rfl bc_262
theorem bo_245 (h : bw_H xs X) : bx_Kok yp_P xs bw_INV X bk_245 := bx_chk_K h.1 h.2.1 (List.forall_mem_cons.mpr ⟨bo_262 h, bx_Tnil⟩) (M := yp_m140) rfl bc_245
theorem bo_7 (h : bw_H xs X) : bx_Kok yp_P xs bw_INV X bk_7 := bx_chk_K h.1 h.2.1 (List.forall_mem_cons.mpr ⟨bo_30 h, (List.forall_mem_cons.mpr ⟨bo_35 h, (List.forall_mem_cons.mpr ⟨bo_36 h, (List.forall_mem_cons.mpr ⟨bo_88 h, (List.forall_mem_cons.mpr ⟨bo_245 h, bx_Tnil⟩)⟩)⟩)⟩)⟩) (M := yp_m139) rfl bc_7
theorem bo_393 (h : bw_H xs X) : bx_Kok yp_P xs bw_INV X bk_393 := bx_chk_K h.1 h.2.1 bx_Tnil (M := yp_m83) rfl bc_393
theorem bo_179 (h : bw_H xs X) : bx_Kok yp_P xs bw_INV X bk_179 := bx_chk_K h.1 h.2.1 (List.forall_mem_cons.mpr ⟨bo_187 h, (List.forall_mem_cons.mpr ⟨bo_378 h, (List.forall_mem_cons.mpr ⟨bo_393 h, bx_Tnil⟩)⟩)⟩) (M := yp_m82) rfl bc_179
theorem bo_167 (h : bw_H xs X) : bx_Kok yp_P xs bw_INV X bk_167 := bx_chk_K h.1 h.2.1 (List.forall_mem_cons.mpr ⟨bo_179 h, (List.forall_mem_cons.mpr ⟨bo_310 h, bx_Tnil⟩)⟩) (M := yp_m135) rfl bc_167
theorem bo_144 (h : bw_H xs X) : bx_Kok yp_P xs bw_INV X bk_144 := bx_chk_K h.1 h.2.1 (List.forall_mem_cons.mpr ⟨bo_167 h, bx_Tnil⟩) (M := yp_m135) rfl bc_144
theorem bo_373 (h : bw_H xs X) : bx_Kok yp_P xs bw_INV X bk_373 := bx_chk_K h.1 h.2.1 (List.forall_mem_cons.mpr ⟨bo_179 h, (List.forall_mem_cons.mpr ⟨bo_306 h, bx_Tnil⟩)⟩) (M := yp_m136) rfl bc_373
theorem bo_364 (h : bw_H xs X) : bx_Kok yp_P xs bw_INV X bk_364 := bx_chk_K h.1 h.2.1 (List.forall_mem_cons.mpr ⟨bo_373 h, bx_Tnil⟩) (M := yp_m136) rfl bc_364
theorem bo_117 (h : bw_H xs X) : bx_Kok yp_P xs bw_INV X bk_117 := bx_chk_K h.1 h.2.1 (List.forall_mem_cons.mpr ⟨bo_144 h, (List.forall_mem_cons.mpr ⟨bo_364 h, bx_Tnil⟩)⟩) (M := yp_m134) rfl bc_117
theorem bo_89 (h : bw_H xs X) : bx_Kok yp_P xs bw_INV X bk_89 := bx_chk_K h.1 h.2.1 (List.forall_mem_cons.mpr ⟨bo_117 h, bx_Tnil⟩) (M := yp_m134) rfl bc_89
theorem bo_397 (h : bw_H xs X) : bx_Kok yp_P xs bw_INV X bk_397 := bx_chk_K h.1 h.2.1 bx_Tnil (M := yp_m138) rfl bc_397
theorem bo_395 (h : bw_H xs X) : bx_Kok yp_P xs bw_INV X bk_395 := bx_chk_K h.1 h.2.1 (List.forall_mem_cons.mpr ⟨bo_397 h, bx_Tnil⟩) (M := yp_m138) rfl bc_395
theorem bo_8 (h : bw_H xs X) : bx_Kok yp_P xs bw_INV X bk_8 := bx_chk_K h.1 h.2.1 (List.forall_mem_cons.mpr ⟨bo_36 h, (List.forall_mem_cons.mpr ⟨bo_89 h, (List.forall_mem_cons.mpr ⟨bo_385 h, (List.forall_mem_cons.mpr ⟨bo_395 h, bx_Tnil⟩)⟩)⟩)⟩) (M := yp_m137) rfl bc_8
theorem bo_382 (h : bw_H xs X) : bx_Kok yp_P xs bw_INV X bk_382 := bx_chk_K h.1 h.2.1 (List.forall_mem_cons.mpr ⟨bo_33 h, (List.forall_mem_cons.mpr ⟨bo_325 h, bx_Tnil⟩)⟩) (M := yp_m59) rfl bc_382
theorem bo_380 (h : bw_H xs X) : bx_Kok yp_P xs bw_INV X bk_380 := bx_chk_K h.1 h.2.1 (List.forall_mem_cons.mpr ⟨bo_382 h, (List.forall_mem_cons.mpr ⟨bo_388 h, (List.forall_mem_cons.mpr ⟨bo_392 h, bx_Tnil⟩)⟩)⟩) (M := yp_m58) rfl bc_380
theorem bo_377 (h : bw_H xs X) : bx_Kok yp_P xs bw_INV X bk_377 := bx_chk_K h.1 h.2.1 (List.forall_mem_cons.mpr ⟨bo_380 h, bx_Tnil⟩) (M := yp_m58) rfl bc_377
theorem bo_108 (h : bw_H xs X) : bx_Kok yp_P xs bw_INV X bk_108 := bx_chk_K h.1 h.2.1 (List.forall_mem_cons.mpr ⟨bo_377 h, bx_Tnil⟩) (M := yp_m57) rfl bc_108
theorem bo_84 (h : bw_H xs X) : bx_Kok yp_P xs bw_INV X bk_84 := bx_chk_K h.1 h.2.1 (List.forall_mem_cons.mpr ⟨bo_108 h, bx_Tnil⟩) (M := yp_m57) rfl bc_84
theorem bo_47 (h : bw_H xs X) : bx_Kok yp_P xs bw_INV X bk_47 := bx_chk_K h.1 h.2.1 (List.forall_mem_cons.mpr ⟨bo_84 h, (List.forall_mem_cons.mpr ⟨bo_377 h, (List.forall_mem_cons.mpr ⟨bo_393 h, bx_Tnil⟩)⟩)⟩) (M := yp_m82) rfl bc_47
theorem bo_109 (h : bw_H xs X) : bx_Kok yp_P xs bw_INV X bk_109 := bx_chk_K h.1 h.2.1 bx_Tnil (M := yp_m19) rfl bc_109
theorem bo_86 (h : bw_H xs X) : bx_Kok yp_P xs bw_INV X bk_86 := bx_chk_K h.1 h.2.1 (List.forall_mem_cons.mpr ⟨bo_109 h, bx_Tnil⟩) (M := yp_m16) rfl bc_86
theorem bo_129 (h : bw_H xs X) : bx_Kok yp_P xs bw_INV X bk_129 := bx_chk_K h.1 h.2.1 (List.forall_mem_cons.mpr ⟨bo_47 h, (List.forall_mem_cons.mpr ⟨bo_86 h, bx_Tnil⟩)⟩) (M := yp_m135) rfl bc_129
theorem bo_105 (h : bw_H xs X) : bx_Kok yp_P xs bw_INV X bk_105 := bx_chk_K h.1 h.2.1 (List.forall_mem_cons.mpr ⟨bo_129 h, bx_Tnil⟩) (M := yp_m135) rfl bc_105
theorem bo_307 (h : bw_H xs X) : bx_Kok yp_P xs bw_INV X bk_307 := bx_chk_K h.1 h.2.1 bx_Tnil (M := yp_m69) rfl bc_307
theorem bo_361 (h : bw_H xs X) : bx_Kok yp_P xs bw_INV X bk_361 := bx_chk_K h.1 h.2.1 (List.forall_mem_cons.mpr ⟨bo_47 h, (List.forall_mem_cons.mpr ⟨bo_307 h, bx_Tnil⟩)⟩) (M := yp_m136) rfl bc_361
theorem bo_350 (h : bw_H xs X) : bx_Kok yp_P xs bw_INV X bk_350 := bx_chk_K h.1 h.2.1 (List.forall_mem_cons.mpr ⟨bo_361 h, bx_Tnil⟩) (M := yp_m136) rfl bc_350
theorem bo_78 (h : bw_H xs X) : bx_Kok yp_P xs bw_INV X bk_78 := bx_chk_K h.1 h.2.1 (List.forall_mem_cons.mpr ⟨bo_105 h, (List.forall_mem_cons.mpr ⟨bo_350 h, bx_Tnil⟩)⟩) (M := yp_m134) rfl bc_78
theorem bo_37 (h : bw_H xs X) : bx_Kok yp_P xs bw_INV X bk_37 := bx_chk_K h.1 h.2.1 (List.forall_mem_cons.mpr ⟨bo_78 h, bx_Tnil⟩) (M := yp_m134) rfl bc_37
theorem bo_9 (h : bw_H xs X) : bx_Kok yp_P xs bw_INV X bk_9 := bx_chk_K h.1 h.2.1 (List.forall_mem_cons.mpr ⟨bo_37 h, bx_Tnil⟩) (M := yp_m133) rfl bc_9
theorem bo_38 (h : bw_H xs X) : bx_Kok yp_P xs bw_INV X bk_38 := bx_chk_K h.1 h.2.1 bx_Tnil (M := yp_m132) rfl bc_38
theorem bo_10 (h : bw_H xs X) : bx_Kok yp_P xs bw_INV X bk_10 := bx_chk_K h.1 h.2.1 (List.forall_mem_cons.mpr ⟨bo_38 h, bx_Tnil⟩) (M := yp_m132) rfl bc_10
theorem bo_106 (h : bw_H xs X) : bx_Kok yp_P xs bw_INV X bk_106 := bx_chk_K h.1 h.2.1 bx_Tnil (M := yp_m129) rfl bc_106
theorem bo_235 (h : bw_H xs X) : bx_Kok yp_P xs bw_INV X bk_235 := bx_chk_K h.1 h.2.1 bx_Tnil (M := yp_m129) rfl bc_235
theorem bo_387 (h : bw_H xs X) : bx_Kok yp_P xs bw_INV X bk_387 := bx_chk_K h.1 h.2.1 bx_Tnil (M := yp_m129) rfl bc_387
theorem bo_405 (h : bw_H xs X) : bx_Kok yp_P xs bw_INV X bk_405 := bx_chk_K h.1 h.2.1 bx_Tnil (M := yp_m129) rfl bc_405
theorem bo_79 (h : bw_H xs X) : bx_Kok yp_P xs bw_INV X bk_79 := bx_chk_K h.1 h.2.1 (List.forall_mem_cons.mpr ⟨bo_106 h, (List.forall_mem_cons.mpr ⟨bo_235 h, (List.forall_mem_cons.mpr ⟨bo_387 h, (List.forall_mem_cons.mpr ⟨bo_405 h, bx_Tnil⟩)⟩)⟩)⟩) (M := yp_m129) rfl bc_79
theorem bo_39 (h : bw_H xs X) : bx_Kok yp_P xs bw_INV X bk_39 := bx_chk_K h.1 h.2.1 (List.forall_mem_cons.mpr ⟨bo_79 h, bx_Tnil⟩) (M := yp_m131) rfl bc_39
theorem bo_80 (h : bw_H xs X) : bx_Kok yp_P xs bw_INV X bk_80 := bx_chk_K h.1 h.2.1 (List.forall_mem_cons.mpr ⟨bo_79 h, bx_Tnil⟩) (M := yp_m130) rfl bc_80
theorem bo_40 (h : bw_H xs X) : bx_Kok yp_P xs bw_INV X bk_40 := bx_chk_K h.1 h.2.1 (List.forall_mem_cons.mpr ⟨bo_80 h, bx_Tnil⟩) (M := yp_m130) rfl bc_40
theorem bo_81 (h : bw_H xs X) : bx_Kok yp_P xs bw_INV X bk_81 := bx_chk_K h.1 h.2.1 (List.forall_mem_cons.mpr ⟨bo_79 h, bx_Tnil⟩) (M := yp_m128) rfl bc_81
theorem bo_41 (h : bw_H xs X) : bx_Kok yp_P xs bw_INV X bk_41 := bx_chk_K h.1 h.2.1 (List.forall_mem_cons.mpr ⟨bo_81 h, bx_Tnil⟩) (M := yp_m128) rfl bc_41
theorem bo_11 (h : bw_H xs X) : bx_Kok yp_P xs bw_INV X bk_11 := bx_chk_K h.1 h.2.1 (List.forall_mem_cons.mpr ⟨bo_39 h, (List.forall_mem_cons.mpr ⟨bo_40 h, (List.forall_mem_cons.mpr ⟨bo_41 h, bx_Tnil⟩)⟩)⟩) (M := yp_m127) rfl bc_11
theorem bo_145 (h : bw_H xs X) : bx_Kok yp_P xs bw_INV X bk_145 := bx_chk_K h.1 h.2.1 (List.forall_mem_cons.mpr ⟨bo_30 h, bx_Tnil⟩) (M := yp_m109) rfl bc_145
theorem bo_118 (h : bw_H xs X) : bx_Kok yp_P xs bw_INV X bk_118 := bx_chk_K h.1 h.2.1 (List.forall_mem_cons.mpr ⟨bo_145 h, bx_Tnil⟩) (M := yp_m109) rfl bc_118
theorem bo_181 (h : bw_H xs X) : bx_Kok yp_P xs bw_INV X bk_181 := bx_chk_K h.1 h.2.1 bx_Tnil (M := yp_m121) rfl bc_181
theorem bo_90 (h : bw_H xs X) : bx_Kok yp_P xs bw_INV X bk_90 := bx_chk_K h.1 h.2.1 (List.forall_mem_cons.mpr ⟨bo_118 h, (List.forall_mem_cons.mpr ⟨bo_181 h, bx_Tnil⟩)⟩) (M := yp_m121) rfl bc_90
theorem bo_217 (h : bw_H xs X) : bx_Kok yp_P xs bw_INV X bk_217 := bx_chk_K h.1 h.2.1 (List.forall_mem_cons.mpr ⟨bo_47 h, bx_Tnil⟩) (M := yp_m122) rfl bc_217
theorem bo_209 (h : bw_H xs X) : bx_Kok yp_P xs bw_INV X bk_209 := bx_chk_K h.1 h.2.1 (List.forall_mem_cons.mpr ⟨bo_217 h, bx_Tnil⟩) (M := yp_m122) rfl bc_209
theorem bo_278 (h : bw_H xs X) : bx_Kok yp_P xs bw_INV X bk_278 := bx_chk_K h.1 h.2.1 bx_Tnil (M := yp_m124) rfl bc_278
theorem bo_265 (h : bw_H xs X) : bx_Kok yp_P xs bw_INV X bk_265 := bx_chk_K h.1 h.2.1 (List.forall_mem_cons.mpr ⟨bo_278 h, bx_Tnil⟩) (M := yp_m124) rfl bc_265
theorem bo_249 (h : bw_H xs X) : bx_Kok yp_P xs bw_INV X bk_249 := bx_chk_K h.1 h.2.1 (List.forall_mem_cons.mpr ⟨bo_265 h, bx_Tnil⟩) (M := yp_m123) rfl bc_249
theorem bo_347 (h : bw_H xs X) : bx_Kok yp_P xs bw_INV X bk_347 := bx_chk_K h.1 h.2.1 bx_Tnil (M := yp_m125) rfl bc_347
theorem bo_339 (h : bw_H xs X) : bx_Kok yp_P xs bw_INV X bk_339 := bx_chk_K h.1 h.2.1 (List.forall_mem_cons.mpr ⟨bo_347 h, bx_Tnil⟩) (M := yp_m125) rfl bc_339
theorem bo_327 (h : bw_H xs X) : bx_Kok yp_P xs bw_INV X bk_327 := bx_chk_K h.1 h.2.1 (List.forall_mem_cons.mpr ⟨bo_339 h, bx_Tnil⟩) (M := yp_m123) rfl bc_327
theorem bo_238 (h : bw_H xs X) : bx_Kok yp_P xs bw_INV X bk_238 := bx_chk_K h.1 h.2.1 (List.forall_mem_cons.mpr ⟨bo_249 h, (List.forall_mem_cons.mpr ⟨bo_327 h, bx_Tnil⟩)⟩) (M := yp_m123) rfl bc_238
theorem bo_227 (h : bw_H xs X) : bx_Kok yp_P xs bw_INV X bk_227 := bx_chk_K h.1 h.2.1 (List.forall_mem_cons.mpr ⟨bo_238 h, bx_Tnil⟩) (M := yp_m122) rfl bc_227
theorem bo_196 (h : bw_H xs X) : bx_Kok yp_P xs bw_INV X bk_196 := bx_chk_K h.1 h.2.1 (List.forall_mem_cons.mpr ⟨bo_209 h, (List.forall_mem_cons.mpr ⟨bo_227 h, bx_Tnil⟩)⟩) (M := yp_m122) rfl bc_196
theorem bo_275 (h : bw_H xs X) : bx_Kok yp_P xs bw_INV X bk_275 := bx_chk_K h.1 h.2.1 bx_Tnil (M := yp_m126) rfl bc_275
theorem bo_258 (h : bw_H xs X) : bx_Kok yp_P xs bw_INV X bk_258 := bx_chk_K h.1 h.2.1 (List.forall_mem_cons.mpr ⟨bo_275 h, bx_Tnil⟩) (M := yp_m126) rfl bc_258
theorem bo_259 (h : bw_H xs X) : bx_Kok yp_P xs bw_INV X bk_259 := bx_chk_K h.1 h.2.1 bx_Tnil (M := yp_m119) rfl bc_259
theorem bo_12 (h : bw_H xs X) : bx_Kok yp_P xs bw_INV X bk_12 := bx_chk_K h.1 h.2.1 (List.forall_mem_cons.mpr ⟨bo_30 h, (List.forall_mem_cons.mpr ⟨bo_35 h, (List.forall_mem_cons.mpr ⟨bo_90 h, (List.forall_mem_cons.mpr ⟨bo_196 h, (List.forall_mem_cons.mpr ⟨bo_258 h, (List.forall_mem_cons.mpr ⟨bo_259 h, bx_Tnil⟩)⟩)⟩)⟩)⟩)⟩) (M := yp_m120) rfl bc_12
theorem bo_182 (h : bw_H xs X) : bx_Kok yp_P xs bw_INV X bk_182 := bx_chk_K h.1 h.2.1 bx_Tnil (M := yp_m108) rfl bc_182
theorem bo_91 (h : bw_H xs X) : bx_Kok yp_P xs bw_INV X bk_91 := bx_chk_K h.1 h.2.1 (List.forall_mem_cons.mpr ⟨bo_118 h, (List.forall_mem_cons.mpr ⟨bo_182 h, bx_Tnil⟩)⟩) (M := yp_m108) rfl bc_91
theorem bo_218 (h : bw_H xs X) : bx_Kok yp_P xs bw_INV X bk_218 := bx_chk_K h.1 h.2.1 (List.forall_mem_cons.mpr ⟨bo_47 h, bx_Tnil⟩) (M := yp_m110) rfl bc_218
theorem bo_210 (h : bw_H xs X) : bx_Kok yp_P xs bw_INV X bk_210 := bx_chk_K h.1 h.2.1 (List.forall_mem_cons.mpr ⟨bo_218 h, bx_Tnil⟩) (M := yp_m110) rfl bc_210
theorem bo_250 (h : bw_H xs X) : bx_Kok yp_P xs bw_INV X bk_250 := bx_chk_K h.1 h.2.1 bx_Tnil (M := yp_m115) rfl bc_250
end BWK
