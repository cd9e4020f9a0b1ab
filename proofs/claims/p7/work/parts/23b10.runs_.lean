section
set_option maxRecDepth 10000000 in
theorem bc_313 : bx_chk yp_P [bk_178, bk_189] 1500 bw_INV bw_PC yp_m192 bk_313 = true := by decide +kernel
set_option maxRecDepth 10000000 in
theorem bc_314 : bx_chk yp_P [bk_168, bk_203, bk_212, bk_321] 1500 bw_INV bw_PC yp_m42 bk_314 = true := by decide +kernel
set_option maxRecDepth 10000000 in
theorem bc_315 : bx_chk yp_P [bk_168, bk_203, bk_222, bk_321] 1500 bw_INV bw_PC yp_m42 bk_315 = true := by decide +kernel
set_option maxRecDepth 10000000 in
theorem bc_316 : bx_chk yp_P [bk_168, bk_203, bk_281, bk_295] 1500 bw_INV bw_PC yp_m31 bk_316 = true := by decide +kernel
set_option maxRecDepth 10000000 in
theorem bc_317 : bx_chk yp_P [bk_322] 1500 bw_INV bw_PC yp_m140 bk_317 = true := by decide +kernel
set_option maxRecDepth 10000000 in
theorem bc_318 : bx_chk yp_P [bk_168, bk_203, bk_234, bk_321] 1500 bw_INV bw_PC yp_m42 bk_318 = true := by decide +kernel
set_option maxRecDepth 10000000 in
theorem bc_319 : bx_chk yp_P [bk_168, bk_203, bk_289, bk_295] 1500 bw_INV bw_PC yp_m31 bk_319 = true := by decide +kernel
set_option maxRecDepth 10000000 in
theorem bc_320 : bx_chk yp_P [bk_330] 1500 bw_INV bw_PC yp_m231 bk_320 = true := by decide +kernel
set_option maxRecDepth 10000000 in
theorem bc_321 : bx_chk yp_P [] 1500 bw_INV bw_PC yp_m44 bk_321 = true := by decide +kernel
set_option maxRecDepth 10000000 in
theorem bc_322 : bx_chk yp_P [bk_276, bk_291, bk_292, bk_329, bk_331] 1500 bw_INV bw_PC yp_m140 bk_322 = true := by decide +kernel
set_option maxRecDepth 10000000 in
theorem bc_323 : bx_chk yp_P [bk_336] 1500 bw_INV bw_PC yp_m90 bk_323 = true := by decide +kernel
set_option maxRecDepth 10000000 in
theorem bc_324 : bx_chk yp_P [bk_337] 1500 bw_INV bw_PC yp_m86 bk_324 = true := by decide +kernel
set_option maxRecDepth 10000000 in
theorem bc_325 : bx_chk yp_P [bk_338] 1500 bw_INV bw_PC yp_m64 bk_325 = true := by decide +kernel
set_option maxRecDepth 10000000 in
theorem bc_326 : bx_chk yp_P [bk_178, bk_189] 1500 bw_INV bw_PC yp_m192 bk_326 = true := by decide +kernel
set_option maxRecDepth 10000000 in
theorem bc_327 : bx_chk yp_P [bk_339] 1500 bw_INV bw_PC yp_m123 bk_327 = true := by decide +kernel
set_option maxRecDepth 10000000 in
theorem bc_328 : bx_chk yp_P [bk_168, bk_203, bk_244, bk_321] 1500 bw_INV bw_PC yp_m42 bk_328 = true := by decide +kernel
set_option maxRecDepth 10000000 in
theorem bc_329 : bx_chk yp_P [] 1500 bw_INV bw_PC yp_m142 bk_329 = true := by decide +kernel
set_option maxRecDepth 10000000 in
theorem bc_330 : bx_chk yp_P [bk_340] 1500 bw_INV bw_PC yp_m231 bk_330 = true := by decide +kernel
set_option maxRecDepth 10000000 in
theorem bc_331 : bx_chk yp_P [bk_341] 1500 bw_INV bw_PC yp_m140 bk_331 = true := by decide +kernel
set_option maxRecDepth 10000000 in
theorem bc_332 : bx_chk yp_P [bk_130] 1500 bw_INV bw_PC yp_m152 bk_332 = true := by decide +kernel
set_option maxRecDepth 10000000 in
theorem bc_333 : bx_chk yp_P [bk_168, bk_200, bk_203, bk_321] 1500 bw_INV bw_PC yp_m41 bk_333 = true := by decide +kernel
set_option maxRecDepth 10000000 in
theorem bc_334 : bx_chk yp_P [bk_168, bk_203, bk_231, bk_321] 1500 bw_INV bw_PC yp_m41 bk_334 = true := by decide +kernel
set_option maxRecDepth 10000000 in
theorem bc_335 : bx_chk yp_P [bk_168, bk_203, bk_257, bk_321] 1500 bw_INV bw_PC yp_m42 bk_335 = true := by decide +kernel
set_option maxRecDepth 10000000 in
theorem bc_336 : bx_chk yp_P [bk_345] 1500 bw_INV bw_PC yp_m91 bk_336 = true := by decide +kernel
set_option maxRecDepth 10000000 in
theorem bc_337 : bx_chk yp_P [bk_346] 1500 bw_INV bw_PC yp_m87 bk_337 = true := by decide +kernel
set_option maxRecDepth 10000000 in
theorem bc_338 : bx_chk yp_P [] 1500 bw_INV bw_PC yp_m64 bk_338 = true := by decide +kernel
set_option maxRecDepth 10000000 in
theorem bc_339 : bx_chk yp_P [bk_347] 1500 bw_INV bw_PC yp_m125 bk_339 = true := by decide +kernel
set_option maxRecDepth 10000000 in
theorem bc_340 : bx_chk yp_P [bk_99, bk_176] 1500 bw_INV bw_PC yp_m231 bk_340 = true := by decide +kernel
set_option maxRecDepth 10000000 in
theorem bc_341 : bx_chk yp_P [bk_276, bk_291, bk_292, bk_329, bk_348] 1500 bw_INV bw_PC yp_m140 bk_341 = true := by decide +kernel
end
section
set_option maxRecDepth 10000000 in
theorem bc_342 : bx_chk yp_P [bk_178, bk_189] 1500 bw_INV bw_PC yp_m192 bk_342 = true := by decide +kernel
set_option maxRecDepth 10000000 in
theorem bc_343 : bx_chk yp_P [bk_168, bk_203, bk_240, bk_321] 1500 bw_INV bw_PC yp_m41 bk_343 = true := by decide +kernel
set_option maxRecDepth 10000000 in
theorem bc_344 : bx_chk yp_P [bk_168, bk_203, bk_272, bk_321] 1500 bw_INV bw_PC yp_m42 bk_344 = true := by decide +kernel
set_option maxRecDepth 10000000 in
theorem bc_345 : bx_chk yp_P [bk_352] 1500 bw_INV bw_PC yp_m91 bk_345 = true := by decide +kernel
set_option maxRecDepth 10000000 in
theorem bc_346 : bx_chk yp_P [bk_352] 1500 bw_INV bw_PC yp_m87 bk_346 = true := by decide +kernel
set_option maxRecDepth 10000000 in
theorem bc_347 : bx_chk yp_P [] 1500 bw_INV bw_PC yp_m125 bk_347 = true := by decide +kernel
set_option maxRecDepth 10000000 in
theorem bc_348 : bx_chk yp_P [bk_353] 1500 bw_INV bw_PC yp_m140 bk_348 = true := by decide +kernel
set_option maxRecDepth 10000000 in
theorem bc_349 : bx_chk yp_P [bk_360] 1500 bw_INV bw_PC yp_m144 bk_349 = true := by decide +kernel
set_option maxRecDepth 10000000 in
theorem bc_350 : bx_chk yp_P [bk_361] 1500 bw_INV bw_PC yp_m136 bk_350 = true := by decide +kernel
set_option maxRecDepth 10000000 in
theorem bc_351 : bx_chk yp_P [bk_168, bk_203, bk_253, bk_321] 1500 bw_INV bw_PC yp_m41 bk_351 = true := by decide +kernel
set_option maxRecDepth 10000000 in
theorem bc_352 : bx_chk yp_P [] 1500 bw_INV bw_PC yp_m88 bk_352 = true := by decide +kernel
set_option maxRecDepth 10000000 in
theorem bc_353 : bx_chk yp_P [bk_276, bk_291, bk_292, bk_329, bk_362] 1500 bw_INV bw_PC yp_m140 bk_353 = true := by decide +kernel
set_option maxRecDepth 10000000 in
theorem bc_354 : bx_chk yp_P [bk_33] 1500 bw_INV bw_PC yp_m97 bk_354 = true := by decide +kernel
set_option maxRecDepth 10000000 in
theorem bc_355 : bx_chk yp_P [bk_178, bk_189] 1500 bw_INV bw_PC yp_m192 bk_355 = true := by decide +kernel
set_option maxRecDepth 10000000 in
theorem bc_356 : bx_chk yp_P [] 1500 bw_INV bw_PC yp_m45 bk_356 = true := by decide +kernel
set_option maxRecDepth 10000000 in
theorem bc_357 : bx_chk yp_P [bk_99, bk_172, bk_199, bk_367, bk_368] 1500 bw_INV bw_PC yp_m259 bk_357 = true := by decide +kernel
set_option maxRecDepth 10000000 in
theorem bc_358 : bx_chk yp_P [bk_168, bk_203, bk_268, bk_321] 1500 bw_INV bw_PC yp_m41 bk_358 = true := by decide +kernel
set_option maxRecDepth 10000000 in
theorem bc_359 : bx_chk yp_P [] 1500 bw_INV bw_PC yp_m206 bk_359 = true := by decide +kernel
end
section
set_option maxRecDepth 10000000 in
theorem bc_360 : bx_chk yp_P [] 1500 bw_INV bw_PC yp_m144 bk_360 = true := by decide +kernel
set_option maxRecDepth 10000000 in
theorem bc_361 : bx_chk yp_P [bk_47, bk_307] 1500 bw_INV bw_PC yp_m136 bk_361 = true := by decide +kernel
set_option maxRecDepth 10000000 in
theorem bc_362 : bx_chk yp_P [bk_369] 1500 bw_INV bw_PC yp_m140 bk_362 = true := by decide +kernel
set_option maxRecDepth 10000000 in
theorem bc_363 : bx_chk yp_P [] 1500 bw_INV bw_PC yp_m236 bk_363 = true := by decide +kernel
set_option maxRecDepth 10000000 in
theorem bc_364 : bx_chk yp_P [bk_373] 1500 bw_INV bw_PC yp_m136 bk_364 = true := by decide +kernel
set_option maxRecDepth 10000000 in
theorem bc_365 : bx_chk yp_P [bk_374] 1500 bw_INV bw_PC yp_m255 bk_365 = true := by decide +kernel
set_option maxRecDepth 10000000 in
theorem bc_366 : bx_chk yp_P [bk_168, bk_203, bk_280, bk_321] 1500 bw_INV bw_PC yp_m41 bk_366 = true := by decide +kernel
set_option maxRecDepth 10000000 in
theorem bc_369 : bx_chk yp_P [bk_276, bk_291, bk_292, bk_329, bk_375] 1500 bw_INV bw_PC yp_m140 bk_369 = true := by decide +kernel
set_option maxRecDepth 10000000 in
theorem bc_370 : bx_chk yp_P [bk_186] 1500 bw_INV bw_PC yp_m267 bk_370 = true := by decide +kernel
set_option maxRecDepth 10000000 in
theorem bc_371 : bx_chk yp_P [bk_178, bk_189] 1500 bw_INV bw_PC yp_m192 bk_371 = true := by decide +kernel
set_option maxRecDepth 10000000 in
theorem bc_373 : bx_chk yp_P [bk_179, bk_306] 1500 bw_INV bw_PC yp_m136 bk_373 = true := by decide +kernel
set_option maxRecDepth 10000000 in
theorem bc_374 : bx_chk yp_P [bk_170] 1500 bw_INV bw_PC yp_m255 bk_374 = true := by decide +kernel
set_option maxRecDepth 10000000 in
theorem bc_375 : bx_chk yp_P [] 1500 bw_INV bw_PC yp_m140 bk_375 = true := by decide +kernel
set_option maxRecDepth 10000000 in
theorem bc_376 : bx_chk yp_P [bk_178, bk_189] 1500 bw_INV bw_PC yp_m192 bk_376 = true := by decide +kernel
set_option maxRecDepth 10000000 in
theorem bc_377 : bx_chk yp_P [bk_380] 1500 bw_INV bw_PC yp_m58 bk_377 = true := by decide +kernel
set_option maxRecDepth 10000000 in
theorem bc_378 : bx_chk yp_P [bk_381] 1500 bw_INV bw_PC yp_m58 bk_378 = true := by decide +kernel
end
section
set_option maxRecDepth 10000000 in
theorem bc_379 : bx_chk yp_P [bk_178, bk_189] 1500 bw_INV bw_PC yp_m192 bk_379 = true := by decide +kernel
set_option maxRecDepth 10000000 in
theorem bc_380 : bx_chk yp_P [bk_382, bk_388, bk_392] 1500 bw_INV bw_PC yp_m58 bk_380 = true := by decide +kernel
set_option maxRecDepth 10000000 in
theorem bc_381 : bx_chk yp_P [bk_383, bk_388, bk_392] 1500 bw_INV bw_PC yp_m58 bk_381 = true := by decide +kernel
set_option maxRecDepth 10000000 in
theorem bc_382 : bx_chk yp_P [bk_33, bk_325] 1500 bw_INV bw_PC yp_m59 bk_382 = true := by decide +kernel
set_option maxRecDepth 10000000 in
theorem bc_383 : bx_chk yp_P [bk_385, bk_414] 1500 bw_INV bw_PC yp_m59 bk_383 = true := by decide +kernel
end
section
set_option maxRecDepth 10000000 in
theorem bc_384 : bx_chk yp_P [bk_178, bk_189] 1500 bw_INV bw_PC yp_m192 bk_384 = true := by decide +kernel
set_option maxRecDepth 10000000 in
theorem bc_385 : bx_chk yp_P [bk_389] 1500 bw_INV bw_PC yp_m60 bk_385 = true := by decide +kernel
set_option maxRecDepth 10000000 in
theorem bc_386 : bx_chk yp_P [bk_391] 1500 bw_INV bw_PC yp_m106 bk_386 = true := by decide +kernel
set_option maxRecDepth 10000000 in
theorem bc_387 : bx_chk yp_P [] 1500 bw_INV bw_PC yp_m129 bk_387 = true := by decide +kernel
set_option maxRecDepth 10000000 in
theorem bc_388 : bx_chk yp_P [] 1500 bw_INV bw_PC yp_m65 bk_388 = true := by decide +kernel
set_option maxRecDepth 10000000 in
theorem bc_389 : bx_chk yp_P [] 1500 bw_INV bw_PC yp_m60 bk_389 = true := by decide +kernel
set_option maxRecDepth 10000000 in
theorem bc_390 : bx_chk yp_P [] 1500 bw_INV bw_PC yp_m192 bk_390 = true := by decide +kernel
set_option maxRecDepth 10000000 in
theorem bc_391 : bx_chk yp_P [] 1500 bw_INV bw_PC yp_m106 bk_391 = true := by decide +kernel
set_option maxRecDepth 10000000 in
theorem bc_392 : bx_chk yp_P [] 1500 bw_INV bw_PC yp_m66 bk_392 = true := by decide +kernel
set_option maxRecDepth 10000000 in
theorem bc_393 : bx_chk yp_P [] 1500 bw_INV bw_PC yp_m83 bk_393 = true := by decide +kernel
set_option maxRecDepth 10000000 in
theorem bc_394 : bx_chk yp_P [bk_396] 1500 bw_INV bw_PC yp_m90 bk_394 = true := by decide +kernel
set_option maxRecDepth 10000000 in
theorem bc_395 : bx_chk yp_P [bk_397] 1500 bw_INV bw_PC yp_m138 bk_395 = true := by decide +kernel
set_option maxRecDepth 10000000 in
theorem bc_396 : bx_chk yp_P [bk_352] 1500 bw_INV bw_PC yp_m90 bk_396 = true := by decide +kernel
set_option maxRecDepth 10000000 in
theorem bc_397 : bx_chk yp_P [] 1500 bw_INV bw_PC yp_m138 bk_397 = true := by decide +kernel
set_option maxRecDepth 10000000 in
theorem bc_398 : bx_chk yp_P [] 1500 bw_INV bw_PC yp_m92 bk_398 = true := by decide +kernel
set_option maxRecDepth 10000000 in
theorem bc_399 : bx_chk yp_P [bk_401] 1500 bw_INV bw_PC yp_m93 bk_399 = true := by decide +kernel
set_option maxRecDepth 10000000 in
theorem bc_400 : bx_chk yp_P [bk_402] 1500 bw_INV bw_PC yp_m146 bk_400 = true := by decide +kernel
set_option maxRecDepth 10000000 in
theorem bc_401 : bx_chk yp_P [bk_403] 1500 bw_INV bw_PC yp_m93 bk_401 = true := by decide +kernel
set_option maxRecDepth 10000000 in
theorem bc_402 : bx_chk yp_P [bk_404] 1500 bw_INV bw_PC yp_m146 bk_402 = true := by decide +kernel
set_option maxRecDepth 10000000 in
theorem bc_403 : bx_chk yp_P [bk_406] 1500 bw_INV bw_PC yp_m94 bk_403 = true := by decide +kernel
set_option maxRecDepth 10000000 in
theorem bc_404 : bx_chk yp_P [bk_407] 1500 bw_INV bw_PC yp_m148 bk_404 = true := by decide +kernel
set_option maxRecDepth 10000000 in
theorem bc_405 : bx_chk yp_P [] 1500 bw_INV bw_PC yp_m129 bk_405 = true := by decide +kernel
set_option maxRecDepth 10000000 in
theorem bc_406 : bx_chk yp_P [] 1500 bw_INV bw_PC yp_m94 bk_406 = true := by decide +kernel
set_option maxRecDepth 10000000 in
theorem bc_407 : bx_chk yp_P [] 1500 bw_INV bw_PC yp_m148 bk_407 = true := by decide +kernel
set_option maxRecDepth 10000000 in
theorem bc_408 : bx_chk yp_P [bk_409] 1500 bw_INV bw_PC yp_m100 bk_408 = true := by decide +kernel
set_option maxRecDepth 10000000 in
theorem bc_409 : bx_chk yp_P [bk_46, bk_47] 1500 bw_INV bw_PC yp_m100 bk_409 = true := by decide +kernel
set_option maxRecDepth 10000000 in
theorem bc_410 : bx_chk yp_P [bk_211] 1500 bw_INV bw_PC yp_m211 bk_410 = true := by decide +kernel
set_option maxRecDepth 10000000 in
theorem bc_411 : bx_chk yp_P [bk_412] 1500 bw_INV bw_PC yp_m212 bk_411 = true := by decide +kernel
set_option maxRecDepth 10000000 in
theorem bc_412 : bx_chk yp_P [] 1500 bw_INV bw_PC yp_m212 bk_412 = true := by decide +kernel
set_option maxRecDepth 10000000 in
theorem bc_413 : bx_chk yp_P [bk_415] 1500 bw_INV bw_PC yp_m116 bk_413 = true := by decide +kernel
set_option maxRecDepth 10000000 in
theorem bc_414 : bx_chk yp_P [bk_416] 1500 bw_INV bw_PC yp_m64 bk_414 = true := by decide +kernel
set_option maxRecDepth 10000000 in
theorem bc_415 : bx_chk yp_P [bk_417] 1500 bw_INV bw_PC yp_m116 bk_415 = true := by decide +kernel
set_option maxRecDepth 10000000 in
theorem bc_416 : bx_chk yp_P [] 1500 bw_INV bw_PC yp_m64 bk_416 = true := by decide +kernel
set_option maxRecDepth 10000000 in
theorem bc_417 : bx_chk yp_P [bk_266, bk_296] 1500 bw_INV bw_PC yp_m116 bk_417 = true := by decide +kernel
set_option maxRecDepth 10000000 in
theorem bc_418 : bx_chk yp_P [bk_266, bk_420] 1500 bw_INV bw_PC yp_m117 bk_418 = true := by decide +kernel
set_option maxRecDepth 10000000 in
theorem bc_419 : bx_chk yp_P [bk_421] 1500 bw_INV bw_PC yp_m149 bk_419 = true := by decide +kernel
set_option maxRecDepth 10000000 in
theorem bc_420 : bx_chk yp_P [] 1500 bw_INV bw_PC yp_m117 bk_420 = true := by decide +kernel
set_option maxRecDepth 10000000 in
theorem bc_421 : bx_chk yp_P [bk_422] 1500 bw_INV bw_PC yp_m149 bk_421 = true := by decide +kernel
set_option maxRecDepth 10000000 in
theorem bc_422 : bx_chk yp_P [bk_423] 1500 bw_INV bw_PC yp_m150 bk_422 = true := by decide +kernel
set_option maxRecDepth 10000000 in
theorem bc_423 : bx_chk yp_P [] 1500 bw_INV bw_PC yp_m150 bk_423 = true := by decide +kernel
set_option maxRecDepth 10000000 in
theorem bc_424 : bx_chk yp_P [bk_425, bk_429] 1500 bw_INV bw_PC yp_m101 bk_424 = true := by decide +kernel
set_option maxRecDepth 10000000 in
theorem bc_425 : bx_chk yp_P [] 1500 bw_INV bw_PC yp_m101 bk_425 = true := by decide +kernel
set_option maxRecDepth 10000000 in
theorem bc_426 : bx_chk yp_P [bk_152, bk_153, bk_368, bk_427] 1500 bw_INV bw_PC yp_m236 bk_426 = true := by decide +kernel
set_option maxRecDepth 10000000 in
theorem bc_427 : bx_chk yp_P [bk_428] 1500 bw_INV bw_PC yp_m237 bk_427 = true := by decide +kernel
set_option maxRecDepth 10000000 in
theorem bc_428 : bx_chk yp_P [bk_199] 1500 bw_INV bw_PC yp_m237 bk_428 = true := by decide +kernel
set_option maxRecDepth 10000000 in
theorem bc_429 : bx_chk yp_P [bk_430] 1500 bw_INV bw_PC yp_m101 bk_429 = true := by decide +kernel
set_option maxRecDepth 10000000 in
theorem bc_430 : bx_chk yp_P [bk_431] 1500 bw_INV bw_PC yp_m102 bk_430 = true := by decide +kernel
set_option maxRecDepth 10000000 in
theorem bc_431 : bx_chk yp_P [] 1500 bw_INV bw_PC yp_m102 bk_431 = true := by decide +kernel
end
