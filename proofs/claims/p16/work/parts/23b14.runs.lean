set_option maxRecDepth 10000000 in
theorem bc_384 : bx_chk yp_P [bk_178, bk_189] 1500 bw_INV bw_PC yp_m192 bk_384 = true := by decide +kernel
set_option maxRecDepth 10000000 in
theorem bc_385 : bx_chk yp_P [bk_389] 1500 bw_INV bw_PC yp_m60 bk_385 = true := by decide +kernel
set_option maxRecDepth 10000000 in
theorem bc_386 : bx_chk yp_P [bk_391] 1500 bw_INV bw_PC yp_m106 bk_386 = true := by decide +kernel
set_option maxRecDepth 10000000 in
theorem bc_387 : bx_chk yp_P [] 1500 bw_INV bw_PC yp_m129 bk_387 = true := by decide +kernel
set_option maxRecDepth 10000000 in
theorem bc_388 : bx_chk yp_P [] 1500 bw_INV bw_PC yp_m65 bk_388 = true := by decide +kernel
set_option maxRecDepth 10000000 in
theorem bc_389 : bx_chk yp_P [] 1500 bw_INV bw_PC yp_m60 bk_389 = true := by decide +kernel
set_option maxRecDepth 10000000 in
theorem bc_390 : bx_chk yp_P [] 1500 bw_INV bw_PC yp_m192 bk_390 = true := by decide +kernel
set_option maxRecDepth 10000000 in
theorem bc_391 : bx_chk yp_P [] 1500 bw_INV bw_PC yp_m106 bk_391 = true := by decide +kernel
set_option maxRecDepth 10000000 in
theorem bc_392 : bx_chk yp_P [] 1500 bw_INV bw_PC yp_m66 bk_392 = true := by decide +kernel
set_option maxRecDepth 10000000 in
theorem bc_393 : bx_chk yp_P [] 1500 bw_INV bw_PC yp_m83 bk_393 = true := by decide +kernel
set_option maxRecDepth 10000000 in
theorem bc_394 : bx_chk yp_P [bk_396] 1500 bw_INV bw_PC yp_m90 bk_394 = true := by decide +kernel
set_option maxRecDepth 10000000 in
theorem bc_395 : bx_chk yp_P [bk_397] 1500 bw_INV bw_PC yp_m138 bk_395 = true := by decide +kernel
set_option maxRecDepth 10000000 in
theorem bc_396 : bx_chk yp_P [bk_352] 1500 bw_INV bw_PC yp_m90 bk_396 = true := by decide +kernel
set_option maxRecDepth 10000000 in
theorem bc_397 : bx_chk yp_P [] 1500 bw_INV bw_PC yp_m138 bk_397 = true := by decide +kernel
set_option maxRecDepth 10000000 in
theorem bc_398 : bx_chk yp_P [] 1500 bw_INV bw_PC yp_m92 bk_398 = true := by decide +kernel
set_option maxRecDepth 10000000 in
theorem bc_399 : bx_chk yp_P [bk_401] 1500 bw_INV bw_PC yp_m93 bk_399 = true := by decide +kernel
set_option maxRecDepth 10000000 in
theorem bc_400 : bx_chk yp_P [bk_402] 1500 bw_INV bw_PC yp_m146 bk_400 = true := by decide +kernel
set_option maxRecDepth 10000000 in
theorem bc_401 : bx_chk yp_P [bk_403] 1500 bw_INV bw_PC yp_m93 bk_401 = true := by decide +kernel
set_option maxRecDepth 10000000 in
theorem bc_402 : bx_chk yp_P [bk_404] 1500 bw_INV bw_PC yp_m146 bk_402 = true := by decide +kernel
set_option maxRecDepth 10000000 in
theorem bc_403 : bx_chk yp_P [bk_406] 1500 bw_INV bw_PC yp_m94 bk_403 = true := by decide +kernel
set_option maxRecDepth 10000000 in
theorem bc_404 : bx_chk yp_P [bk_407] 1500 bw_INV bw_PC yp_m148 bk_404 = true := by decide +kernel
set_option maxRecDepth 10000000 in
theorem bc_405 : bx_chk yp_P [] 1500 bw_INV bw_PC yp_m129 bk_405 = true := by decide +kernel
set_option maxRecDepth 10000000 in
theorem bc_406 : bx_chk yp_P [] 1500 bw_INV bw_PC yp_m94 bk_406 = true := by decide +kernel
set_option maxRecDepth 10000000 in
theorem bc_407 : bx_chk yp_P [] 1500 bw_INV bw_PC yp_m148 bk_407 = true := by decide +kernel
set_option maxRecDepth 10000000 in
theorem bc_408 : bx_chk yp_P [bk_409] 1500 bw_INV bw_PC yp_m100 bk_408 = true := by decide +kernel
set_option maxRecDepth 10000000 in
theorem bc_409 : bx_chk yp_P [bk_46, bk_47] 1500 bw_INV bw_PC yp_m100 bk_409 = true := by decide +kernel
set_option maxRecDepth 10000000 in
theorem bc_410 : bx_chk yp_P [bk_211] 1500 bw_INV bw_PC yp_m211 bk_410 = true := by decide +kernel
set_option maxRecDepth 10000000 in
theorem bc_411 : bx_chk yp_P [bk_412] 1500 bw_INV bw_PC yp_m212 bk_411 = true := by decide +kernel
set_option maxRecDepth 10000000 in
theorem bc_412 : bx_chk yp_P [] 1500 bw_INV bw_PC yp_m212 bk_412 = true := by decide +kernel
set_option maxRecDepth 10000000 in
theorem bc_413 : bx_chk yp_P [bk_415] 1500 bw_INV bw_PC yp_m116 bk_413 = true := by decide +kernel
set_option maxRecDepth 10000000 in
theorem bc_414 : bx_chk yp_P [bk_416] 1500 bw_INV bw_PC yp_m64 bk_414 = true := by decide +kernel
set_option maxRecDepth 10000000 in
theorem bc_415 : bx_chk yp_P [bk_417] 1500 bw_INV bw_PC yp_m116 bk_415 = true := by decide +kernel
set_option maxRecDepth 10000000 in
theorem bc_416 : bx_chk yp_P [] 1500 bw_INV bw_PC yp_m64 bk_416 = true := by decide +kernel
set_option maxRecDepth 10000000 in
theorem bc_417 : bx_chk yp_P [bk_266, bk_296] 1500 bw_INV bw_PC yp_m116 bk_417 = true := by decide +kernel
set_option maxRecDepth 10000000 in
theorem bc_418 : bx_chk yp_P [bk_266, bk_420] 1500 bw_INV bw_PC yp_m117 bk_418 = true := by decide +kernel
set_option maxRecDepth 10000000 in
theorem bc_419 : bx_chk yp_P [bk_421] 1500 bw_INV bw_PC yp_m149 bk_419 = true := by decide +kernel
set_option maxRecDepth 10000000 in
theorem bc_420 : bx_chk yp_P [] 1500 bw_INV bw_PC yp_m117 bk_420 = true := by decide +kernel
set_option maxRecDepth 10000000 in
theorem bc_421 : bx_chk yp_P [bk_422] 1500 bw_INV bw_PC yp_m149 bk_421 = true := by decide +kernel
set_option maxRecDepth 10000000 in
theorem bc_422 : bx_chk yp_P [bk_423] 1500 bw_INV bw_PC yp_m150 bk_422 = true := by decide +kernel
set_option maxRecDepth 10000000 in
theorem bc_423 : bx_chk yp_P [] 1500 bw_INV bw_PC yp_m150 bk_423 = true := by decide +kernel
set_option maxRecDepth 10000000 in
theorem bc_424 : bx_chk yp_P [bk_425, bk_429] 1500 bw_INV bw_PC yp_m101 bk_424 = true := by decide +kernel
set_option maxRecDepth 10000000 in
theorem bc_425 : bx_chk yp_P [] 1500 bw_INV bw_PC yp_m101 bk_425 = true := by decide +kernel
set_option maxRecDepth 10000000 in
theorem bc_426 : bx_chk yp_P [bk_152, bk_153, bk_368, bk_427] 1500 bw_INV bw_PC yp_m236 bk_426 = true := by decide +kernel
set_option maxRecDepth 10000000 in
theorem bc_427 : bx_chk yp_P [bk_428] 1500 bw_INV bw_PC yp_m237 bk_427 = true := by decide +kernel
set_option maxRecDepth 10000000 in
theorem bc_428 : bx_chk yp_P [bk_199] 1500 bw_INV bw_PC yp_m237 bk_428 = true := by decide +kernel
set_option maxRecDepth 10000000 in
theorem bc_429 : bx_chk yp_P [bk_430] 1500 bw_INV bw_PC yp_m101 bk_429 = true := by decide +kernel
set_option maxRecDepth 10000000 in
theorem bc_430 : bx_chk yp_P [bk_431] 1500 bw_INV bw_PC yp_m102 bk_430 = true := by decide +kernel
set_option maxRecDepth 10000000 in
theorem bc_431 : bx_chk yp_P [] 1500 bw_INV bw_PC yp_m102 bk_431 = true := by decide +kernel
