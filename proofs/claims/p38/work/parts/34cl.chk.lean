/-! The contexts are right. -/
set_option maxRecDepth 1000000 in
theorem ck_286 : ab_smC tb_X5_search (ab_ev2 ab_ME2 1000000 7) 1000000 (none) 0 0 0 sm_286 = true := by decide +kernel
set_option maxRecDepth 1000000 in
theorem ck_287 : ab_smC tb_X6_readCond (ab_ev2 ab_ME2 1000000 7) 1000000 (some .boolean) 0 0 0 sm_287 = true := by decide +kernel
set_option maxRecDepth 1000000 in
theorem ck_288 : ab_smC tb_X6_readCond (ab_ev2 ab_ME2 1000000 7) 1000000 (some .boolean) 0 0 0 sm_288 = true := by decide +kernel
set_option maxRecDepth 1000000 in
theorem ck_289 : ab_smC tb_X6_readCond (ab_ev2 ab_ME2 1000000 7) 1000000 (some .boolean) 0 0 0 sm_289 = true := by decide +kernel
set_option maxRecDepth 1000000 in
theorem ck_290 : ab_smC tb_X6_readCond (ab_ev2 ab_ME2 1000000 7) 1000000 (some .boolean) 0 0 0 sm_290 = true := by decide +kernel
set_option maxRecDepth 1000000 in
theorem ck_291 : ab_smC tb_X10_book (ab_ev2 ab_ME2 1000000 8) 1000000 (some .int) 0 0 0 sm_291 = true := by decide +kernel
set_option maxRecDepth 1000000 in
theorem ck_292 : ab_smC tb_X5_search (ab_ev2 ab_ME2 1000000 8) 1000000 (none) 0 0 0 sm_292 = true := by decide +kernel
set_option maxRecDepth 1000000 in
theorem ck_293 : ab_smC tb_X5_search (ab_ev2 ab_ME2 1000000 8) 1000000 (none) 0 0 0 sm_293 = true := by decide +kernel
set_option maxRecDepth 1000000 in
theorem ck_294 : ab_smC tb_X6_readOne (ab_ev2 ab_ME2 1000000 8) 1000000 (some .boolean) 0 0 0 sm_294 = true := by decide +kernel
set_option maxRecDepth 1000000 in
theorem ck_295 : ab_smC tb_X6_readOne (ab_ev2 ab_ME2 1000000 8) 1000000 (some .boolean) 0 0 0 sm_295 = true := by decide +kernel
set_option maxRecDepth 1000000 in
theorem ck_296 : ab_smC tb_X6_readOne (ab_ev2 ab_ME2 1000000 8) 1000000 (some .boolean) 0 0 0 sm_296 = true := by decide +kernel
set_option maxRecDepth 1000000 in
theorem ck_297 : ab_smC tb_X6_readOne (ab_ev2 ab_ME2 1000000 8) 1000000 (some .boolean) 0 0 0 sm_297 = true := by decide +kernel
set_option maxRecDepth 1000000 in
theorem ck_298 : ab_smC tb_X5_search (ab_ev2 ab_ME2 1000000 9) 1000000 (none) 0 0 0 sm_298 = true := by decide +kernel
set_option maxRecDepth 1000000 in
theorem ck_299 : ab_smC tb_X5_search (ab_ev2 ab_ME2 1000000 9) 1000000 (none) 0 0 0 sm_299 = true := by decide +kernel
set_option maxRecDepth 1000000 in
theorem ck_300 : ab_smC tb_X6_readAll (ab_ev2 ab_ME2 1000000 9) 1000000 (some .boolean) 0 0 0 sm_300 = true := by decide +kernel
set_option maxRecDepth 1000000 in
theorem ck_301 : ab_smC tb_X6_readAll (ab_ev2 ab_ME2 1000000 9) 1000000 (some .boolean) 0 0 0 sm_301 = true := by decide +kernel
set_option maxRecDepth 1000000 in
theorem ck_302 : ab_smC tb_X6_readAll (ab_ev2 ab_ME2 1000000 9) 1000000 (some .boolean) 0 0 0 sm_302 = true := by decide +kernel
set_option maxRecDepth 1000000 in
theorem ck_303 : ab_smC tb_X6_readAll (ab_ev2 ab_ME2 1000000 9) 1000000 (some .boolean) 0 0 0 sm_303 = true := by decide +kernel
set_option maxRecDepth 1000000 in
theorem ck_304 : ab_smC tb_X5_search (ab_ev2 ab_ME2 1000000 10) 1000000 (none) 0 0 0 sm_304 = true := by decide +kernel
set_option maxRecDepth 1000000 in
theorem ck_305 : ab_smC tb_X5_search (ab_ev2 ab_ME2 1000000 10) 1000000 (none) 0 0 0 sm_305 = true := by decide +kernel
set_option maxRecDepth 1000000 in
theorem ck_306 : ab_smC tb_X6_readCond (ab_ev2 ab_ME2 1000000 10) 1000000 (some .boolean) 0 0 0 sm_306 = true := by decide +kernel
set_option maxRecDepth 1000000 in
theorem ck_307 : ab_smC tb_X6_readCond (ab_ev2 ab_ME2 1000000 10) 1000000 (some .boolean) 0 0 0 sm_307 = true := by decide +kernel
set_option maxRecDepth 1000000 in
theorem ck_308 : ab_smC tb_X6_readCond (ab_ev2 ab_ME2 1000000 10) 1000000 (some .boolean) 0 0 0 sm_308 = true := by decide +kernel
set_option maxRecDepth 1000000 in
theorem ck_309 : ab_smC tb_X6_readCond (ab_ev2 ab_ME2 1000000 10) 1000000 (some .boolean) 0 0 0 sm_309 = true := by decide +kernel
set_option maxRecDepth 1000000 in
theorem ck_310 : ab_smC tb_X6_readOne (ab_ev2 ab_ME2 1000000 11) 1000000 (some .boolean) 0 0 0 sm_310 = true := by decide +kernel
set_option maxRecDepth 1000000 in
theorem ck_311 : ab_smC tb_X6_readOne (ab_ev2 ab_ME2 1000000 11) 1000000 (some .boolean) 0 0 0 sm_311 = true := by decide +kernel
set_option maxRecDepth 1000000 in
theorem ck_312 : ab_smC tb_X6_readOne (ab_ev2 ab_ME2 1000000 11) 1000000 (some .boolean) 0 0 0 sm_312 = true := by decide +kernel
set_option maxRecDepth 1000000 in
theorem ck_313 : ab_smC tb_X6_readOne (ab_ev2 ab_ME2 1000000 11) 1000000 (some .boolean) 0 0 0 sm_313 = true := by decide +kernel
set_option maxRecDepth 1000000 in
theorem ck_314 : ab_smC tb_X6_readAll (ab_ev2 ab_ME2 1000000 12) 1000000 (some .boolean) 0 0 0 sm_314 = true := by decide +kernel
set_option maxRecDepth 1000000 in
theorem ck_315 : ab_smC tb_X6_readAll (ab_ev2 ab_ME2 1000000 12) 1000000 (some .boolean) 0 0 0 sm_315 = true := by decide +kernel
set_option maxRecDepth 1000000 in
theorem ck_316 : ab_smC tb_X6_readAll (ab_ev2 ab_ME2 1000000 12) 1000000 (some .boolean) 0 0 0 sm_316 = true := by decide +kernel
set_option maxRecDepth 1000000 in
theorem ck_317 : ab_smC tb_X6_readAll (ab_ev2 ab_ME2 1000000 12) 1000000 (some .boolean) 0 0 0 sm_317 = true := by decide +kernel
set_option maxRecDepth 1000000 in
theorem ck_318 : ab_smC tb_X6_readCond (ab_ev2 ab_ME2 1000000 13) 1000000 (some .boolean) 0 0 0 sm_318 = true := by decide +kernel
set_option maxRecDepth 1000000 in
theorem ck_319 : ab_smC tb_X6_readCond (ab_ev2 ab_ME2 1000000 13) 1000000 (some .boolean) 0 0 0 sm_319 = true := by decide +kernel
set_option maxRecDepth 1000000 in
theorem ck_320 : ab_smC tb_X6_readCond (ab_ev2 ab_ME2 1000000 13) 1000000 (some .boolean) 0 0 0 sm_320 = true := by decide +kernel
set_option maxRecDepth 1000000 in
theorem ck_321 : ab_smC tb_X6_readCond (ab_ev2 ab_ME2 1000000 13) 1000000 (some .boolean) 0 0 0 sm_321 = true := by decide +kernel
set_option maxRecDepth 1000000 in
theorem ck_322 : ab_smC tb_X6_readOne (ab_ev2 ab_ME2 1000000 14) 1000000 (some .boolean) 0 0 0 sm_322 = true := by decide +kernel
set_option maxRecDepth 1000000 in
theorem ck_323 : ab_smC tb_X6_readOne (ab_ev2 ab_ME2 1000000 14) 1000000 (some .boolean) 0 0 0 sm_323 = true := by decide +kernel
set_option maxRecDepth 1000000 in
theorem ck_324 : ab_smC tb_X6_readOne (ab_ev2 ab_ME2 1000000 14) 1000000 (some .boolean) 0 0 0 sm_324 = true := by decide +kernel
set_option maxRecDepth 1000000 in
theorem ck_325 : ab_smC tb_X6_readOne (ab_ev2 ab_ME2 1000000 14) 1000000 (some .boolean) 0 0 0 sm_325 = true := by decide +kernel
set_option maxRecDepth 1000000 in
theorem ck_326 : ab_smC tb_X6_readAll (ab_ev2 ab_ME2 1000000 15) 1000000 (some .boolean) 0 0 0 sm_326 = true := by decide +kernel
set_option maxRecDepth 1000000 in
theorem ck_327 : ab_smC tb_X6_readAll (ab_ev2 ab_ME2 1000000 15) 1000000 (some .boolean) 0 0 0 sm_327 = true := by decide +kernel
set_option maxRecDepth 1000000 in
theorem ck_328 : ab_smC tb_X6_readAll (ab_ev2 ab_ME2 1000000 15) 1000000 (some .boolean) 0 0 0 sm_328 = true := by decide +kernel
set_option maxRecDepth 1000000 in
theorem ck_329 : ab_smC tb_X6_readAll (ab_ev2 ab_ME2 1000000 15) 1000000 (some .boolean) 0 0 0 sm_329 = true := by decide +kernel
set_option maxRecDepth 1000000 in
theorem ck_330 : ab_smC tb_X6_readCond (ab_ev2 ab_ME2 1000000 16) 1000000 (some .boolean) 0 0 0 sm_330 = true := by decide +kernel
set_option maxRecDepth 1000000 in
theorem ck_331 : ab_smC tb_X6_readCond (ab_ev2 ab_ME2 1000000 16) 1000000 (some .boolean) 0 0 0 sm_331 = true := by decide +kernel
set_option maxRecDepth 1000000 in
theorem ck_332 : ab_smC tb_X6_readCond (ab_ev2 ab_ME2 1000000 16) 1000000 (some .boolean) 0 0 0 sm_332 = true := by decide +kernel
set_option maxRecDepth 1000000 in
theorem ck_333 : ab_smC tb_X6_readCond (ab_ev2 ab_ME2 1000000 16) 1000000 (some .boolean) 0 0 0 sm_333 = true := by decide +kernel
set_option maxRecDepth 1000000 in
theorem ck_334 : ab_smC tb_X6_readOne (ab_ev2 ab_ME2 1000000 17) 1000000 (some .boolean) 0 0 0 sm_334 = true := by decide +kernel
set_option maxRecDepth 1000000 in
theorem ck_335 : ab_smC tb_X6_readOne (ab_ev2 ab_ME2 1000000 17) 1000000 (some .boolean) 0 0 0 sm_335 = true := by decide +kernel
set_option maxRecDepth 1000000 in
theorem ck_336 : ab_smC tb_X6_readOne (ab_ev2 ab_ME2 1000000 17) 1000000 (some .boolean) 0 0 0 sm_336 = true := by decide +kernel
set_option maxRecDepth 1000000 in
theorem ck_337 : ab_smC tb_X6_readOne (ab_ev2 ab_ME2 1000000 17) 1000000 (some .boolean) 0 0 0 sm_337 = true := by decide +kernel
set_option maxRecDepth 1000000 in
theorem ck_338 : ab_smC tb_X6_readAll (ab_ev2 ab_ME2 1000000 18) 1000000 (some .boolean) 0 0 0 sm_338 = true := by decide +kernel
set_option maxRecDepth 1000000 in
theorem ck_339 : ab_smC tb_X6_readAll (ab_ev2 ab_ME2 1000000 18) 1000000 (some .boolean) 0 0 0 sm_339 = true := by decide +kernel
set_option maxRecDepth 1000000 in
theorem ck_340 : ab_smC tb_X6_readAll (ab_ev2 ab_ME2 1000000 18) 1000000 (some .boolean) 0 0 0 sm_340 = true := by decide +kernel
set_option maxRecDepth 1000000 in
theorem ck_341 : ab_smC tb_X6_readAll (ab_ev2 ab_ME2 1000000 18) 1000000 (some .boolean) 0 0 0 sm_341 = true := by decide +kernel
set_option maxRecDepth 1000000 in
theorem ck_342 : ab_smC tb_X6_readCond (ab_ev2 ab_ME2 1000000 19) 1000000 (some .boolean) 0 0 0 sm_342 = true := by decide +kernel
set_option maxRecDepth 1000000 in
theorem ck_343 : ab_smC tb_X6_readCond (ab_ev2 ab_ME2 1000000 19) 1000000 (some .boolean) 0 0 0 sm_343 = true := by decide +kernel
set_option maxRecDepth 1000000 in
theorem ck_344 : ab_smC tb_X6_readCond (ab_ev2 ab_ME2 1000000 19) 1000000 (some .boolean) 0 0 0 sm_344 = true := by decide +kernel
set_option maxRecDepth 1000000 in
theorem ck_345 : ab_smC tb_X6_readCond (ab_ev2 ab_ME2 1000000 19) 1000000 (some .boolean) 0 0 0 sm_345 = true := by decide +kernel
set_option maxRecDepth 1000000 in
theorem ck_346 : ab_smC tb_X6_readOne (ab_ev2 ab_ME2 1000000 20) 1000000 (some .boolean) 0 0 0 sm_346 = true := by decide +kernel
set_option maxRecDepth 1000000 in
theorem ck_347 : ab_smC tb_X6_readOne (ab_ev2 ab_ME2 1000000 20) 1000000 (some .boolean) 0 0 0 sm_347 = true := by decide +kernel
set_option maxRecDepth 1000000 in
theorem ck_348 : ab_smC tb_X6_readOne (ab_ev2 ab_ME2 1000000 20) 1000000 (some .boolean) 0 0 0 sm_348 = true := by decide +kernel
set_option maxRecDepth 1000000 in
theorem ck_349 : ab_smC tb_X6_readOne (ab_ev2 ab_ME2 1000000 20) 1000000 (some .boolean) 0 0 0 sm_349 = true := by decide +kernel
set_option maxRecDepth 1000000 in
theorem ck_350 : ab_smC tb_X6_readAll (ab_ev2 ab_ME2 1000000 21) 1000000 (some .boolean) 0 0 0 sm_350 = true := by decide +kernel
set_option maxRecDepth 1000000 in
theorem ck_351 : ab_smC tb_X6_readAll (ab_ev2 ab_ME2 1000000 21) 1000000 (some .boolean) 0 0 0 sm_351 = true := by decide +kernel
set_option maxRecDepth 1000000 in
theorem ck_352 : ab_smC tb_X6_readAll (ab_ev2 ab_ME2 1000000 21) 1000000 (some .boolean) 0 0 0 sm_352 = true := by decide +kernel
set_option maxRecDepth 1000000 in
theorem ck_353 : ab_smC tb_X6_readAll (ab_ev2 ab_ME2 1000000 21) 1000000 (some .boolean) 0 0 0 sm_353 = true := by decide +kernel
set_option maxRecDepth 1000000 in
theorem ck_354 : ab_smC tb_X6_readCond (ab_ev2 ab_ME2 1000000 22) 1000000 (some .boolean) 0 0 0 sm_354 = true := by decide +kernel
set_option maxRecDepth 1000000 in
theorem ck_355 : ab_smC tb_X6_readCond (ab_ev2 ab_ME2 1000000 22) 1000000 (some .boolean) 0 0 0 sm_355 = true := by decide +kernel
set_option maxRecDepth 1000000 in
theorem ck_356 : ab_smC tb_X6_readCond (ab_ev2 ab_ME2 1000000 22) 1000000 (some .boolean) 0 0 0 sm_356 = true := by decide +kernel
set_option maxRecDepth 1000000 in
theorem ck_357 : ab_smC tb_X6_readCond (ab_ev2 ab_ME2 1000000 22) 1000000 (some .boolean) 0 0 0 sm_357 = true := by decide +kernel
set_option maxRecDepth 1000000 in
theorem ck_358 : ab_smC tb_X6_readOne (ab_ev2 ab_ME2 1000000 23) 1000000 (some .boolean) 0 0 0 sm_358 = true := by decide +kernel
set_option maxRecDepth 1000000 in
theorem ck_359 : ab_smC tb_X6_readOne (ab_ev2 ab_ME2 1000000 23) 1000000 (some .boolean) 0 0 0 sm_359 = true := by decide +kernel
set_option maxRecDepth 1000000 in
theorem ck_360 : ab_smC tb_X6_readOne (ab_ev2 ab_ME2 1000000 23) 1000000 (some .boolean) 0 0 0 sm_360 = true := by decide +kernel
set_option maxRecDepth 1000000 in
theorem ck_361 : ab_smC tb_X6_readOne (ab_ev2 ab_ME2 1000000 23) 1000000 (some .boolean) 0 0 0 sm_361 = true := by decide +kernel
set_option maxRecDepth 1000000 in
theorem ck_362 : ab_smC tb_X6_readAll (ab_ev2 ab_ME2 1000000 24) 1000000 (some .boolean) 0 0 0 sm_362 = true := by decide +kernel
set_option maxRecDepth 1000000 in
theorem ck_363 : ab_smC tb_X6_readAll (ab_ev2 ab_ME2 1000000 24) 1000000 (some .boolean) 0 0 0 sm_363 = true := by decide +kernel
set_option maxRecDepth 1000000 in
theorem ck_364 : ab_smC tb_X6_readAll (ab_ev2 ab_ME2 1000000 24) 1000000 (some .boolean) 0 0 0 sm_364 = true := by decide +kernel
set_option maxRecDepth 1000000 in
theorem ck_365 : ab_smC tb_X6_readAll (ab_ev2 ab_ME2 1000000 24) 1000000 (some .boolean) 0 0 0 sm_365 = true := by decide +kernel
set_option maxRecDepth 1000000 in
theorem ck_366 : ab_smC tb_X6_readCond (ab_ev2 ab_ME2 1000000 25) 1000000 (some .boolean) 0 0 0 sm_366 = true := by decide +kernel
set_option maxRecDepth 1000000 in
theorem ck_367 : ab_smC tb_X6_readCond (ab_ev2 ab_ME2 1000000 25) 1000000 (some .boolean) 0 0 0 sm_367 = true := by decide +kernel
set_option maxRecDepth 1000000 in
theorem ck_368 : ab_smC tb_X6_readCond (ab_ev2 ab_ME2 1000000 25) 1000000 (some .boolean) 0 0 0 sm_368 = true := by decide +kernel
set_option maxRecDepth 1000000 in
theorem ck_369 : ab_smC tb_X6_readCond (ab_ev2 ab_ME2 1000000 25) 1000000 (some .boolean) 0 0 0 sm_369 = true := by decide +kernel
set_option maxRecDepth 1000000 in
theorem ck_370 : ab_smC tb_X6_readOne (ab_ev2 ab_ME2 1000000 26) 1000000 (some .boolean) 0 0 0 sm_370 = true := by decide +kernel
