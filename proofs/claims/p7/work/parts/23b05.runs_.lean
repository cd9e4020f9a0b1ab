section
set_option maxRecDepth 10000000 in
theorem bc_189 : bx_chk yp_P [] 1500 bw_INV bw_PC yp_m193 bk_189 = true := by decide +kernel
set_option maxRecDepth 10000000 in
theorem bc_190 : bx_chk yp_P [bk_195, bk_226] 1500 bw_INV bw_PC yp_m32 bk_190 = true := by decide +kernel
set_option maxRecDepth 10000000 in
theorem bc_191 : bx_chk yp_P [bk_154] 1500 bw_INV bw_PC yp_m234 bk_191 = true := by decide +kernel
set_option maxRecDepth 10000000 in
theorem bc_192 : bx_chk yp_P [bk_378] 1500 bw_INV bw_PC yp_m57 bk_192 = true := by decide +kernel
set_option maxRecDepth 10000000 in
theorem bc_193 : bx_chk yp_P [bk_178, bk_189] 1500 bw_INV bw_PC yp_m192 bk_193 = true := by decide +kernel
set_option maxRecDepth 10000000 in
theorem bc_194 : bx_chk yp_P [bk_200, bk_333] 1500 bw_INV bw_PC yp_m41 bk_194 = true := by decide +kernel
set_option maxRecDepth 10000000 in
theorem bc_195 : bx_chk yp_P [bk_165, bk_166, bk_168, bk_184, bk_201, bk_202, bk_203] 1500 bw_INV bw_PC yp_m33 bk_195 = true := by decide +kernel
set_option maxRecDepth 10000000 in
theorem bc_196 : bx_chk yp_P [bk_209, bk_227] 1500 bw_INV bw_PC yp_m122 bk_196 = true := by decide +kernel
set_option maxRecDepth 10000000 in
theorem bc_197 : bx_chk yp_P [bk_210, bk_228, bk_413] 1500 bw_INV bw_PC yp_m110 bk_197 = true := by decide +kernel
set_option maxRecDepth 10000000 in
theorem bc_198 : bx_chk yp_P [bk_211] 1500 bw_INV bw_PC yp_m190 bk_198 = true := by decide +kernel
set_option maxRecDepth 10000000 in
theorem bc_199 : bx_chk yp_P [] 1500 bw_INV bw_PC yp_m199 bk_199 = true := by decide +kernel
set_option maxRecDepth 10000000 in
theorem bc_200 : bx_chk yp_P [bk_212, bk_314] 1500 bw_INV bw_PC yp_m42 bk_200 = true := by decide +kernel
set_option maxRecDepth 10000000 in
theorem bc_201 : bx_chk yp_P [] 1500 bw_INV bw_PC yp_m38 bk_201 = true := by decide +kernel
set_option maxRecDepth 10000000 in
theorem bc_202 : bx_chk yp_P [bk_213, bk_284] 1500 bw_INV bw_PC yp_m31 bk_202 = true := by decide +kernel
set_option maxRecDepth 10000000 in
theorem bc_203 : bx_chk yp_P [] 1500 bw_INV bw_PC yp_m36 bk_203 = true := by decide +kernel
set_option maxRecDepth 10000000 in
theorem bc_204 : bx_chk yp_P [bk_104, bk_214] 1500 bw_INV bw_PC yp_m146 bk_204 = true := by decide +kernel
set_option maxRecDepth 10000000 in
theorem bc_205 : bx_chk yp_P [bk_215] 1500 bw_INV bw_PC yp_m104 bk_205 = true := by decide +kernel
set_option maxRecDepth 10000000 in
theorem bc_206 : bx_chk yp_P [bk_216] 1500 bw_INV bw_PC yp_m248 bk_206 = true := by decide +kernel
set_option maxRecDepth 10000000 in
theorem bc_207 : bx_chk yp_P [] 1500 bw_INV bw_PC yp_m46 bk_207 = true := by decide +kernel
set_option maxRecDepth 10000000 in
theorem bc_208 : bx_chk yp_P [bk_178, bk_189] 1500 bw_INV bw_PC yp_m192 bk_208 = true := by decide +kernel
set_option maxRecDepth 10000000 in
theorem bc_209 : bx_chk yp_P [bk_217] 1500 bw_INV bw_PC yp_m122 bk_209 = true := by decide +kernel
end
section
set_option maxRecDepth 10000000 in
theorem bc_210 : bx_chk yp_P [bk_218] 1500 bw_INV bw_PC yp_m110 bk_210 = true := by decide +kernel
set_option maxRecDepth 10000000 in
theorem bc_211 : bx_chk yp_P [bk_99, bk_152, bk_199, bk_219, bk_220] 1500 bw_INV bw_PC yp_m195 bk_211 = true := by decide +kernel
set_option maxRecDepth 10000000 in
theorem bc_212 : bx_chk yp_P [bk_165, bk_168, bk_184, bk_202, bk_203, bk_221, bk_222] 1500 bw_INV bw_PC yp_m43 bk_212 = true := by decide +kernel
set_option maxRecDepth 10000000 in
theorem bc_213 : bx_chk yp_P [bk_223, bk_236] 1500 bw_INV bw_PC yp_m32 bk_213 = true := by decide +kernel
set_option maxRecDepth 10000000 in
theorem bc_214 : bx_chk yp_P [bk_229] 1500 bw_INV bw_PC yp_m147 bk_214 = true := by decide +kernel
set_option maxRecDepth 10000000 in
theorem bc_215 : bx_chk yp_P [bk_230] 1500 bw_INV bw_PC yp_m105 bk_215 = true := by decide +kernel
set_option maxRecDepth 10000000 in
theorem bc_216 : bx_chk yp_P [] 1500 bw_INV bw_PC yp_m248 bk_216 = true := by decide +kernel
set_option maxRecDepth 10000000 in
theorem bc_217 : bx_chk yp_P [bk_47] 1500 bw_INV bw_PC yp_m122 bk_217 = true := by decide +kernel
set_option maxRecDepth 10000000 in
theorem bc_218 : bx_chk yp_P [bk_47] 1500 bw_INV bw_PC yp_m110 bk_218 = true := by decide +kernel
set_option maxRecDepth 10000000 in
theorem bc_219 : bx_chk yp_P [bk_199] 1500 bw_INV bw_PC yp_m197 bk_219 = true := by decide +kernel
set_option maxRecDepth 10000000 in
theorem bc_220 : bx_chk yp_P [] 1500 bw_INV bw_PC yp_m210 bk_220 = true := by decide +kernel
set_option maxRecDepth 10000000 in
theorem bc_221 : bx_chk yp_P [bk_231, bk_334] 1500 bw_INV bw_PC yp_m41 bk_221 = true := by decide +kernel
set_option maxRecDepth 10000000 in
theorem bc_222 : bx_chk yp_P [bk_165, bk_168, bk_184, bk_203, bk_232, bk_233, bk_234] 1500 bw_INV bw_PC yp_m43 bk_222 = true := by decide +kernel
set_option maxRecDepth 10000000 in
theorem bc_223 : bx_chk yp_P [bk_165, bk_166, bk_168, bk_184, bk_201, bk_203, bk_233] 1500 bw_INV bw_PC yp_m33 bk_223 = true := by decide +kernel
set_option maxRecDepth 10000000 in
theorem bc_224 : bx_chk yp_P [bk_178, bk_189] 1500 bw_INV bw_PC yp_m192 bk_224 = true := by decide +kernel
set_option maxRecDepth 10000000 in
theorem bc_225 : bx_chk yp_P [bk_153, bk_199, bk_220, bk_372] 1500 bw_INV bw_PC yp_m260 bk_225 = true := by decide +kernel
set_option maxRecDepth 10000000 in
theorem bc_226 : bx_chk yp_P [bk_168, bk_195, bk_203, bk_237] 1500 bw_INV bw_PC yp_m32 bk_226 = true := by decide +kernel
set_option maxRecDepth 10000000 in
theorem bc_227 : bx_chk yp_P [bk_238] 1500 bw_INV bw_PC yp_m122 bk_227 = true := by decide +kernel
set_option maxRecDepth 10000000 in
theorem bc_228 : bx_chk yp_P [bk_239] 1500 bw_INV bw_PC yp_m110 bk_228 = true := by decide +kernel
set_option maxRecDepth 10000000 in
theorem bc_229 : bx_chk yp_P [] 1500 bw_INV bw_PC yp_m147 bk_229 = true := by decide +kernel
set_option maxRecDepth 10000000 in
theorem bc_230 : bx_chk yp_P [] 1500 bw_INV bw_PC yp_m105 bk_230 = true := by decide +kernel
set_option maxRecDepth 10000000 in
theorem bc_231 : bx_chk yp_P [bk_222, bk_315] 1500 bw_INV bw_PC yp_m42 bk_231 = true := by decide +kernel
set_option maxRecDepth 10000000 in
theorem bc_232 : bx_chk yp_P [bk_240, bk_343] 1500 bw_INV bw_PC yp_m41 bk_232 = true := by decide +kernel
set_option maxRecDepth 10000000 in
theorem bc_233 : bx_chk yp_P [bk_241, bk_298] 1500 bw_INV bw_PC yp_m31 bk_233 = true := by decide +kernel
set_option maxRecDepth 10000000 in
theorem bc_234 : bx_chk yp_P [bk_165, bk_168, bk_184, bk_203, bk_242, bk_243, bk_244] 1500 bw_INV bw_PC yp_m43 bk_234 = true := by decide +kernel
set_option maxRecDepth 10000000 in
theorem bc_235 : bx_chk yp_P [] 1500 bw_INV bw_PC yp_m129 bk_235 = true := by decide +kernel
set_option maxRecDepth 10000000 in
theorem bc_236 : bx_chk yp_P [bk_168, bk_203, bk_223, bk_237] 1500 bw_INV bw_PC yp_m32 bk_236 = true := by decide +kernel
set_option maxRecDepth 10000000 in
theorem bc_237 : bx_chk yp_P [] 1500 bw_INV bw_PC yp_m39 bk_237 = true := by decide +kernel
set_option maxRecDepth 10000000 in
theorem bc_238 : bx_chk yp_P [bk_249, bk_327] 1500 bw_INV bw_PC yp_m123 bk_238 = true := by decide +kernel
set_option maxRecDepth 10000000 in
theorem bc_239 : bx_chk yp_P [bk_250, bk_251] 1500 bw_INV bw_PC yp_m110 bk_239 = true := by decide +kernel
set_option maxRecDepth 10000000 in
theorem bc_240 : bx_chk yp_P [bk_234, bk_318] 1500 bw_INV bw_PC yp_m42 bk_240 = true := by decide +kernel
end
section
set_option maxRecDepth 10000000 in
theorem bc_241 : bx_chk yp_P [bk_252, bk_274] 1500 bw_INV bw_PC yp_m32 bk_241 = true := by decide +kernel
set_option maxRecDepth 10000000 in
theorem bc_242 : bx_chk yp_P [bk_253, bk_351] 1500 bw_INV bw_PC yp_m41 bk_242 = true := by decide +kernel
set_option maxRecDepth 10000000 in
theorem bc_243 : bx_chk yp_P [bk_254, bk_303] 1500 bw_INV bw_PC yp_m31 bk_243 = true := by decide +kernel
set_option maxRecDepth 10000000 in
theorem bc_244 : bx_chk yp_P [bk_165, bk_168, bk_184, bk_203, bk_255, bk_256, bk_257] 1500 bw_INV bw_PC yp_m43 bk_244 = true := by decide +kernel
set_option maxRecDepth 10000000 in
theorem bc_245 : bx_chk yp_P [bk_262] 1500 bw_INV bw_PC yp_m140 bk_245 = true := by decide +kernel
set_option maxRecDepth 10000000 in
theorem bc_246 : bx_chk yp_P [bk_263] 1500 bw_INV bw_PC yp_m70 bk_246 = true := by decide +kernel
set_option maxRecDepth 10000000 in
theorem bc_247 : bx_chk yp_P [bk_264] 1500 bw_INV bw_PC yp_m48 bk_247 = true := by decide +kernel
set_option maxRecDepth 10000000 in
theorem bc_248 : bx_chk yp_P [bk_178, bk_189] 1500 bw_INV bw_PC yp_m192 bk_248 = true := by decide +kernel
set_option maxRecDepth 10000000 in
theorem bc_249 : bx_chk yp_P [bk_265] 1500 bw_INV bw_PC yp_m123 bk_249 = true := by decide +kernel
set_option maxRecDepth 10000000 in
theorem bc_250 : bx_chk yp_P [] 1500 bw_INV bw_PC yp_m115 bk_250 = true := by decide +kernel
set_option maxRecDepth 10000000 in
theorem bc_251 : bx_chk yp_P [bk_266, bk_285] 1500 bw_INV bw_PC yp_m112 bk_251 = true := by decide +kernel
set_option maxRecDepth 10000000 in
theorem bc_252 : bx_chk yp_P [bk_165, bk_166, bk_168, bk_184, bk_201, bk_203, bk_243] 1500 bw_INV bw_PC yp_m33 bk_252 = true := by decide +kernel
set_option maxRecDepth 10000000 in
theorem bc_253 : bx_chk yp_P [bk_244, bk_328] 1500 bw_INV bw_PC yp_m42 bk_253 = true := by decide +kernel
set_option maxRecDepth 10000000 in
theorem bc_254 : bx_chk yp_P [bk_267, bk_286] 1500 bw_INV bw_PC yp_m32 bk_254 = true := by decide +kernel
set_option maxRecDepth 10000000 in
theorem bc_255 : bx_chk yp_P [bk_268, bk_358] 1500 bw_INV bw_PC yp_m41 bk_255 = true := by decide +kernel
set_option maxRecDepth 10000000 in
theorem bc_256 : bx_chk yp_P [bk_269, bk_308] 1500 bw_INV bw_PC yp_m31 bk_256 = true := by decide +kernel
set_option maxRecDepth 10000000 in
theorem bc_257 : bx_chk yp_P [bk_165, bk_168, bk_184, bk_203, bk_270, bk_271, bk_272] 1500 bw_INV bw_PC yp_m43 bk_257 = true := by decide +kernel
set_option maxRecDepth 10000000 in
theorem bc_258 : bx_chk yp_P [bk_275] 1500 bw_INV bw_PC yp_m126 bk_258 = true := by decide +kernel
set_option maxRecDepth 10000000 in
theorem bc_259 : bx_chk yp_P [] 1500 bw_INV bw_PC yp_m119 bk_259 = true := by decide +kernel
set_option maxRecDepth 10000000 in
theorem bc_261 : bx_chk yp_P [] 1500 bw_INV bw_PC yp_m248 bk_261 = true := by decide +kernel
set_option maxRecDepth 10000000 in
theorem bc_262 : bx_chk yp_P [bk_276, bk_291, bk_292, bk_304, bk_329] 1500 bw_INV bw_PC yp_m140 bk_262 = true := by decide +kernel
set_option maxRecDepth 10000000 in
theorem bc_263 : bx_chk yp_P [bk_276, bk_292] 1500 bw_INV bw_PC yp_m53 bk_263 = true := by decide +kernel
set_option maxRecDepth 10000000 in
theorem bc_264 : bx_chk yp_P [bk_277, bk_293] 1500 bw_INV bw_PC yp_m53 bk_264 = true := by decide +kernel
set_option maxRecDepth 10000000 in
theorem bc_265 : bx_chk yp_P [bk_278] 1500 bw_INV bw_PC yp_m124 bk_265 = true := by decide +kernel
set_option maxRecDepth 10000000 in
theorem bc_266 : bx_chk yp_P [] 1500 bw_INV bw_PC yp_m113 bk_266 = true := by decide +kernel
set_option maxRecDepth 10000000 in
theorem bc_267 : bx_chk yp_P [bk_165, bk_166, bk_168, bk_184, bk_201, bk_203, bk_256] 1500 bw_INV bw_PC yp_m33 bk_267 = true := by decide +kernel
set_option maxRecDepth 10000000 in
theorem bc_268 : bx_chk yp_P [bk_257, bk_335] 1500 bw_INV bw_PC yp_m42 bk_268 = true := by decide +kernel
set_option maxRecDepth 10000000 in
theorem bc_269 : bx_chk yp_P [bk_279, bk_294] 1500 bw_INV bw_PC yp_m32 bk_269 = true := by decide +kernel
set_option maxRecDepth 10000000 in
theorem bc_270 : bx_chk yp_P [bk_280, bk_366] 1500 bw_INV bw_PC yp_m41 bk_270 = true := by decide +kernel
set_option maxRecDepth 10000000 in
theorem bc_271 : bx_chk yp_P [bk_281, bk_316] 1500 bw_INV bw_PC yp_m31 bk_271 = true := by decide +kernel
set_option maxRecDepth 10000000 in
theorem bc_272 : bx_chk yp_P [bk_165, bk_168, bk_203, bk_282] 1500 bw_INV bw_PC yp_m43 bk_272 = true := by decide +kernel
end
section
set_option maxRecDepth 10000000 in
theorem bc_273 : bx_chk yp_P [bk_178, bk_189] 1500 bw_INV bw_PC yp_m192 bk_273 = true := by decide +kernel
set_option maxRecDepth 10000000 in
theorem bc_274 : bx_chk yp_P [bk_168, bk_203, bk_237, bk_252] 1500 bw_INV bw_PC yp_m32 bk_274 = true := by decide +kernel
set_option maxRecDepth 10000000 in
theorem bc_275 : bx_chk yp_P [] 1500 bw_INV bw_PC yp_m126 bk_275 = true := by decide +kernel
set_option maxRecDepth 10000000 in
theorem bc_276 : bx_chk yp_P [bk_287] 1500 bw_INV bw_PC yp_m54 bk_276 = true := by decide +kernel
set_option maxRecDepth 10000000 in
theorem bc_277 : bx_chk yp_P [bk_46] 1500 bw_INV bw_PC yp_m54 bk_277 = true := by decide +kernel
set_option maxRecDepth 10000000 in
theorem bc_278 : bx_chk yp_P [] 1500 bw_INV bw_PC yp_m124 bk_278 = true := by decide +kernel
set_option maxRecDepth 10000000 in
theorem bc_279 : bx_chk yp_P [bk_165, bk_166, bk_168, bk_184, bk_201, bk_203, bk_271] 1500 bw_INV bw_PC yp_m33 bk_279 = true := by decide +kernel
set_option maxRecDepth 10000000 in
theorem bc_280 : bx_chk yp_P [bk_272, bk_344] 1500 bw_INV bw_PC yp_m42 bk_280 = true := by decide +kernel
set_option maxRecDepth 10000000 in
theorem bc_281 : bx_chk yp_P [bk_288, bk_299] 1500 bw_INV bw_PC yp_m32 bk_281 = true := by decide +kernel
set_option maxRecDepth 10000000 in
theorem bc_282 : bx_chk yp_P [bk_289, bk_319] 1500 bw_INV bw_PC yp_m31 bk_282 = true := by decide +kernel
set_option maxRecDepth 10000000 in
theorem bc_283 : bx_chk yp_P [bk_168, bk_190, bk_203, bk_295] 1500 bw_INV bw_PC yp_m31 bk_283 = true := by decide +kernel
set_option maxRecDepth 10000000 in
theorem bc_284 : bx_chk yp_P [bk_168, bk_203, bk_213, bk_295] 1500 bw_INV bw_PC yp_m31 bk_284 = true := by decide +kernel
set_option maxRecDepth 10000000 in
theorem bc_285 : bx_chk yp_P [bk_296] 1500 bw_INV bw_PC yp_m112 bk_285 = true := by decide +kernel
set_option maxRecDepth 10000000 in
theorem bc_286 : bx_chk yp_P [bk_168, bk_203, bk_237, bk_267] 1500 bw_INV bw_PC yp_m32 bk_286 = true := by decide +kernel
set_option maxRecDepth 10000000 in
theorem bc_287 : bx_chk yp_P [bk_187] 1500 bw_INV bw_PC yp_m55 bk_287 = true := by decide +kernel
set_option maxRecDepth 10000000 in
theorem bc_288 : bx_chk yp_P [bk_165, bk_166, bk_168, bk_184, bk_201, bk_203, bk_282] 1500 bw_INV bw_PC yp_m33 bk_288 = true := by decide +kernel
set_option maxRecDepth 10000000 in
theorem bc_289 : bx_chk yp_P [bk_297, bk_305] 1500 bw_INV bw_PC yp_m32 bk_289 = true := by decide +kernel
set_option maxRecDepth 10000000 in
theorem bc_290 : bx_chk yp_P [bk_178, bk_189] 1500 bw_INV bw_PC yp_m192 bk_290 = true := by decide +kernel
end
section
set_option maxRecDepth 10000000 in
theorem bc_291 : bx_chk yp_P [] 1500 bw_INV bw_PC yp_m141 bk_291 = true := by decide +kernel
set_option maxRecDepth 10000000 in
theorem bc_292 : bx_chk yp_P [bk_300, bk_309, bk_310] 1500 bw_INV bw_PC yp_m67 bk_292 = true := by decide +kernel
set_option maxRecDepth 10000000 in
theorem bc_293 : bx_chk yp_P [bk_86, bk_109, bk_301] 1500 bw_INV bw_PC yp_m67 bk_293 = true := by decide +kernel
set_option maxRecDepth 10000000 in
theorem bc_294 : bx_chk yp_P [bk_168, bk_203, bk_237, bk_279] 1500 bw_INV bw_PC yp_m32 bk_294 = true := by decide +kernel
set_option maxRecDepth 10000000 in
theorem bc_295 : bx_chk yp_P [] 1500 bw_INV bw_PC yp_m40 bk_295 = true := by decide +kernel
set_option maxRecDepth 10000000 in
theorem bc_296 : bx_chk yp_P [bk_266] 1500 bw_INV bw_PC yp_m114 bk_296 = true := by decide +kernel
set_option maxRecDepth 10000000 in
theorem bc_297 : bx_chk yp_P [bk_165, bk_166, bk_168, bk_201, bk_203] 1500 bw_INV bw_PC yp_m33 bk_297 = true := by decide +kernel
set_option maxRecDepth 10000000 in
theorem bc_298 : bx_chk yp_P [bk_168, bk_203, bk_241, bk_295] 1500 bw_INV bw_PC yp_m31 bk_298 = true := by decide +kernel
set_option maxRecDepth 10000000 in
theorem bc_299 : bx_chk yp_P [bk_168, bk_203, bk_237, bk_288] 1500 bw_INV bw_PC yp_m32 bk_299 = true := by decide +kernel
set_option maxRecDepth 10000000 in
theorem bc_300 : bx_chk yp_P [bk_306] 1500 bw_INV bw_PC yp_m68 bk_300 = true := by decide +kernel
set_option maxRecDepth 10000000 in
theorem bc_301 : bx_chk yp_P [bk_307] 1500 bw_INV bw_PC yp_m68 bk_301 = true := by decide +kernel
set_option maxRecDepth 10000000 in
theorem bc_302 : bx_chk yp_P [bk_178, bk_189] 1500 bw_INV bw_PC yp_m192 bk_302 = true := by decide +kernel
set_option maxRecDepth 10000000 in
theorem bc_303 : bx_chk yp_P [bk_168, bk_203, bk_254, bk_295] 1500 bw_INV bw_PC yp_m31 bk_303 = true := by decide +kernel
set_option maxRecDepth 10000000 in
theorem bc_304 : bx_chk yp_P [bk_311] 1500 bw_INV bw_PC yp_m140 bk_304 = true := by decide +kernel
set_option maxRecDepth 10000000 in
theorem bc_305 : bx_chk yp_P [bk_168, bk_203, bk_237, bk_297] 1500 bw_INV bw_PC yp_m32 bk_305 = true := by decide +kernel
set_option maxRecDepth 10000000 in
theorem bc_306 : bx_chk yp_P [] 1500 bw_INV bw_PC yp_m69 bk_306 = true := by decide +kernel
set_option maxRecDepth 10000000 in
theorem bc_307 : bx_chk yp_P [] 1500 bw_INV bw_PC yp_m69 bk_307 = true := by decide +kernel
set_option maxRecDepth 10000000 in
theorem bc_308 : bx_chk yp_P [bk_168, bk_203, bk_269, bk_295] 1500 bw_INV bw_PC yp_m31 bk_308 = true := by decide +kernel
set_option maxRecDepth 10000000 in
theorem bc_309 : bx_chk yp_P [] 1500 bw_INV bw_PC yp_m19 bk_309 = true := by decide +kernel
set_option maxRecDepth 10000000 in
theorem bc_310 : bx_chk yp_P [bk_309] 1500 bw_INV bw_PC yp_m16 bk_310 = true := by decide +kernel
set_option maxRecDepth 10000000 in
theorem bc_311 : bx_chk yp_P [bk_276, bk_291, bk_292, bk_317, bk_329] 1500 bw_INV bw_PC yp_m140 bk_311 = true := by decide +kernel
set_option maxRecDepth 10000000 in
theorem bc_312 : bx_chk yp_P [bk_320, bk_359] 1500 bw_INV bw_PC yp_m229 bk_312 = true := by decide +kernel
end
