theorem d_W_law_280 : decode b_W_law 280 = .ok (.iadd, 1) := by decide +kernel
theorem d_W_law_281 : decode b_W_law 281 = .ok (.iaload, 1) := by decide +kernel
theorem d_W_law_282 : decode b_W_law 282 = .ok (.i2l, 1) := by decide +kernel
theorem d_W_law_283 : decode b_W_law 283 = .ok (.bipush 32, 2) := by decide +kernel
theorem d_W_law_285 : decode b_W_law 285 = .ok (.lshl, 1) := by decide +kernel
theorem d_W_law_286 : decode b_W_law 286 = .ok (.aload_n 0, 1) := by decide +kernel
theorem d_W_law_287 : decode b_W_law 287 = .ok (.iload 4, 2) := by decide +kernel
theorem d_W_law_289 : decode b_W_law 289 = .ok (.iconst 2, 1) := by decide +kernel
theorem d_W_law_290 : decode b_W_law 290 = .ok (.iadd, 1) := by decide +kernel
theorem d_W_law_291 : decode b_W_law 291 = .ok (.iaload, 1) := by decide +kernel
theorem d_W_law_292 : decode b_W_law 292 = .ok (.i2l, 1) := by decide +kernel
theorem d_W_law_293 : decode b_W_law 293 = .ok (.ldc2_w 33, 3) := by decide +kernel
theorem d_W_law_296 : decode b_W_law 296 = .ok (.land, 1) := by decide +kernel
theorem d_W_law_297 : decode b_W_law 297 = .ok (.lor, 1) := by decide +kernel
theorem d_W_law_298 : decode b_W_law 298 = .ok (.invokevirtual 39, 3) := by decide +kernel
theorem d_W_law_301 : decode b_W_law 301 = .ok (.if_icmp .eq 721, 3) := by decide +kernel
theorem d_W_law_304 : decode b_W_law 304 = .ok (.iconst 0, 1) := by decide +kernel
theorem d_W_law_305 : decode b_W_law 305 = .ok (.ireturn, 1) := by decide +kernel
theorem d_W_law_306 : decode b_W_law 306 = .ok (.aload_n 1, 1) := by decide +kernel
theorem d_W_law_307 : decode b_W_law 307 = .ok (.aload_n 0, 1) := by decide +kernel
theorem d_W_law_308 : decode b_W_law 308 = .ok (.iload 4, 2) := by decide +kernel
theorem d_W_law_310 : decode b_W_law 310 = .ok (.iconst 1, 1) := by decide +kernel
theorem d_W_law_311 : decode b_W_law 311 = .ok (.iadd, 1) := by decide +kernel
theorem d_W_law_312 : decode b_W_law 312 = .ok (.iaload, 1) := by decide +kernel
theorem d_W_law_313 : decode b_W_law 313 = .ok (.aload_n 0, 1) := by decide +kernel
theorem d_W_law_314 : decode b_W_law 314 = .ok (.iload 4, 2) := by decide +kernel
theorem d_W_law_316 : decode b_W_law 316 = .ok (.iconst 2, 1) := by decide +kernel
theorem d_W_law_317 : decode b_W_law 317 = .ok (.iadd, 1) := by decide +kernel
theorem d_W_law_318 : decode b_W_law 318 = .ok (.iaload, 1) := by decide +kernel
theorem d_W_law_319 : decode b_W_law 319 = .ok (.aload_n 0, 1) := by decide +kernel
theorem d_W_law_320 : decode b_W_law 320 = .ok (.iload 4, 2) := by decide +kernel
theorem d_W_law_322 : decode b_W_law 322 = .ok (.iconst 3, 1) := by decide +kernel
theorem d_W_law_323 : decode b_W_law 323 = .ok (.iadd, 1) := by decide +kernel
theorem d_W_law_324 : decode b_W_law 324 = .ok (.iaload, 1) := by decide +kernel
theorem d_W_law_325 : decode b_W_law 325 = .ok (.aload_n 0, 1) := by decide +kernel
theorem d_W_law_326 : decode b_W_law 326 = .ok (.iload 4, 2) := by decide +kernel
theorem d_W_law_328 : decode b_W_law 328 = .ok (.iconst 4, 1) := by decide +kernel
theorem d_W_law_329 : decode b_W_law 329 = .ok (.iadd, 1) := by decide +kernel
theorem d_W_law_330 : decode b_W_law 330 = .ok (.iaload, 1) := by decide +kernel
theorem d_W_law_331 : decode b_W_law 331 = .ok (.i2l, 1) := by decide +kernel
theorem d_W_law_332 : decode b_W_law 332 = .ok (.bipush 32, 2) := by decide +kernel
theorem d_W_law_334 : decode b_W_law 334 = .ok (.lshl, 1) := by decide +kernel
theorem d_W_law_335 : decode b_W_law 335 = .ok (.aload_n 0, 1) := by decide +kernel
theorem d_W_law_336 : decode b_W_law 336 = .ok (.iload 4, 2) := by decide +kernel
theorem d_W_law_338 : decode b_W_law 338 = .ok (.iconst 5, 1) := by decide +kernel
theorem d_W_law_339 : decode b_W_law 339 = .ok (.iadd, 1) := by decide +kernel
theorem d_W_law_340 : decode b_W_law 340 = .ok (.iaload, 1) := by decide +kernel
theorem d_W_law_341 : decode b_W_law 341 = .ok (.i2l, 1) := by decide +kernel
theorem d_W_law_342 : decode b_W_law 342 = .ok (.ldc2_w 33, 3) := by decide +kernel
theorem d_W_law_345 : decode b_W_law 345 = .ok (.land, 1) := by decide +kernel
theorem d_W_law_346 : decode b_W_law 346 = .ok (.lor, 1) := by decide +kernel
theorem d_W_law_347 : decode b_W_law 347 = .ok (.invokevirtual 40, 3) := by decide +kernel
theorem d_W_law_350 : decode b_W_law 350 = .ok (.aload_n 2, 1) := by decide +kernel
theorem d_W_law_351 : decode b_W_law 351 = .ok (.aload_n 0, 1) := by decide +kernel
theorem d_W_law_352 : decode b_W_law 352 = .ok (.iload 4, 2) := by decide +kernel
theorem d_W_law_354 : decode b_W_law 354 = .ok (.iconst 1, 1) := by decide +kernel
theorem d_W_law_355 : decode b_W_law 355 = .ok (.iadd, 1) := by decide +kernel
theorem d_W_law_356 : decode b_W_law 356 = .ok (.iaload, 1) := by decide +kernel
theorem d_W_law_357 : decode b_W_law 357 = .ok (.aload_n 0, 1) := by decide +kernel
theorem d_W_law_358 : decode b_W_law 358 = .ok (.iload 4, 2) := by decide +kernel
theorem d_W_law_360 : decode b_W_law 360 = .ok (.iconst 2, 1) := by decide +kernel
theorem d_W_law_361 : decode b_W_law 361 = .ok (.iadd, 1) := by decide +kernel
theorem d_W_law_362 : decode b_W_law 362 = .ok (.iaload, 1) := by decide +kernel
theorem d_W_law_363 : decode b_W_law 363 = .ok (.aload_n 0, 1) := by decide +kernel
theorem d_W_law_364 : decode b_W_law 364 = .ok (.iload 4, 2) := by decide +kernel
theorem d_W_law_366 : decode b_W_law 366 = .ok (.iconst 3, 1) := by decide +kernel
theorem d_W_law_367 : decode b_W_law 367 = .ok (.iadd, 1) := by decide +kernel
theorem d_W_law_368 : decode b_W_law 368 = .ok (.iaload, 1) := by decide +kernel
theorem d_W_law_369 : decode b_W_law 369 = .ok (.aload_n 0, 1) := by decide +kernel
theorem d_W_law_370 : decode b_W_law 370 = .ok (.iload 4, 2) := by decide +kernel
