theorem zd_840 : (decode cL_law 264 = .ok (.goto 918, 3)) ∧ (decode cL_law 267 = .ok (.aload_n 1, 1)) ∧ (decode cL_law 268 = .ok (.aload_n 0, 1)) ∧ (decode cL_law 269 = .ok (.iload_n 3, 1)) ∧ (decode cL_law 270 = .ok (.iconst 1, 1)) ∧ (decode cL_law 271 = .ok (.iadd, 1)) ∧ (decode cL_law 272 = .ok (.iaload, 1)) ∧ (decode cL_law 273 = .ok (.aload_n 0, 1)) := by decide +kernel
theorem dL_law_264 : decode cL_law 264 = .ok (.goto 918, 3) := zd_840.1
theorem dL_law_267 : decode cL_law 267 = .ok (.aload_n 1, 1) := zd_840.2.1
theorem dL_law_268 : decode cL_law 268 = .ok (.aload_n 0, 1) := zd_840.2.2.1
theorem dL_law_269 : decode cL_law 269 = .ok (.iload_n 3, 1) := zd_840.2.2.2.1
theorem dL_law_270 : decode cL_law 270 = .ok (.iconst 1, 1) := zd_840.2.2.2.2.1
theorem dL_law_271 : decode cL_law 271 = .ok (.iadd, 1) := zd_840.2.2.2.2.2.1
theorem dL_law_272 : decode cL_law 272 = .ok (.iaload, 1) := zd_840.2.2.2.2.2.2.1
theorem dL_law_273 : decode cL_law 273 = .ok (.aload_n 0, 1) := zd_840.2.2.2.2.2.2.2
theorem zd_841 : (decode cL_law 274 = .ok (.iload_n 3, 1)) ∧ (decode cL_law 275 = .ok (.iconst 2, 1)) ∧ (decode cL_law 276 = .ok (.iadd, 1)) ∧ (decode cL_law 277 = .ok (.iaload, 1)) ∧ (decode cL_law 278 = .ok (.invokevirtual 28, 3)) ∧ (decode cL_law 281 = .ok (.pop, 1)) ∧ (decode cL_law 282 = .ok (.aload_n 2, 1)) ∧ (decode cL_law 283 = .ok (.aload_n 0, 1)) := by decide +kernel
theorem dL_law_274 : decode cL_law 274 = .ok (.iload_n 3, 1) := zd_841.1
theorem dL_law_275 : decode cL_law 275 = .ok (.iconst 2, 1) := zd_841.2.1
theorem dL_law_276 : decode cL_law 276 = .ok (.iadd, 1) := zd_841.2.2.1
theorem dL_law_277 : decode cL_law 277 = .ok (.iaload, 1) := zd_841.2.2.2.1
theorem dL_law_278 : decode cL_law 278 = .ok (.invokevirtual 28, 3) := zd_841.2.2.2.2.1
theorem dL_law_281 : decode cL_law 281 = .ok (.pop, 1) := zd_841.2.2.2.2.2.1
theorem dL_law_282 : decode cL_law 282 = .ok (.aload_n 2, 1) := zd_841.2.2.2.2.2.2.1
theorem dL_law_283 : decode cL_law 283 = .ok (.aload_n 0, 1) := zd_841.2.2.2.2.2.2.2
theorem zd_842 : (decode cL_law 284 = .ok (.iload_n 3, 1)) ∧ (decode cL_law 285 = .ok (.iconst 1, 1)) ∧ (decode cL_law 286 = .ok (.iadd, 1)) ∧ (decode cL_law 287 = .ok (.iaload, 1)) ∧ (decode cL_law 288 = .ok (.aload_n 0, 1)) ∧ (decode cL_law 289 = .ok (.iload_n 3, 1)) ∧ (decode cL_law 290 = .ok (.iconst 2, 1)) ∧ (decode cL_law 291 = .ok (.iadd, 1)) := by decide +kernel
theorem dL_law_284 : decode cL_law 284 = .ok (.iload_n 3, 1) := zd_842.1
theorem dL_law_285 : decode cL_law 285 = .ok (.iconst 1, 1) := zd_842.2.1
theorem dL_law_286 : decode cL_law 286 = .ok (.iadd, 1) := zd_842.2.2.1
theorem dL_law_287 : decode cL_law 287 = .ok (.iaload, 1) := zd_842.2.2.2.1
theorem dL_law_288 : decode cL_law 288 = .ok (.aload_n 0, 1) := zd_842.2.2.2.2.1
theorem dL_law_289 : decode cL_law 289 = .ok (.iload_n 3, 1) := zd_842.2.2.2.2.2.1
theorem dL_law_290 : decode cL_law 290 = .ok (.iconst 2, 1) := zd_842.2.2.2.2.2.2.1
theorem dL_law_291 : decode cL_law 291 = .ok (.iadd, 1) := zd_842.2.2.2.2.2.2.2
theorem zd_843 : (decode cL_law 292 = .ok (.iaload, 1)) ∧ (decode cL_law 293 = .ok (.invokevirtual 32, 3)) ∧ (decode cL_law 296 = .ok (.pop, 1)) ∧ (decode cL_law 297 = .ok (.goto 885, 3)) ∧ (decode cL_law 300 = .ok (.aload_n 1, 1)) ∧ (decode cL_law 301 = .ok (.aload_n 0, 1)) ∧ (decode cL_law 302 = .ok (.iload_n 3, 1)) ∧ (decode cL_law 303 = .ok (.iconst 1, 1)) := by decide +kernel
theorem dL_law_292 : decode cL_law 292 = .ok (.iaload, 1) := zd_843.1
theorem dL_law_293 : decode cL_law 293 = .ok (.invokevirtual 32, 3) := zd_843.2.1
theorem dL_law_296 : decode cL_law 296 = .ok (.pop, 1) := zd_843.2.2.1
theorem dL_law_297 : decode cL_law 297 = .ok (.goto 885, 3) := zd_843.2.2.2.1
theorem dL_law_300 : decode cL_law 300 = .ok (.aload_n 1, 1) := zd_843.2.2.2.2.1
theorem dL_law_301 : decode cL_law 301 = .ok (.aload_n 0, 1) := zd_843.2.2.2.2.2.1
theorem dL_law_302 : decode cL_law 302 = .ok (.iload_n 3, 1) := zd_843.2.2.2.2.2.2.1
theorem dL_law_303 : decode cL_law 303 = .ok (.iconst 1, 1) := zd_843.2.2.2.2.2.2.2
theorem zd_844 : (decode cL_law 304 = .ok (.iadd, 1)) ∧ (decode cL_law 305 = .ok (.iaload, 1)) ∧ (decode cL_law 306 = .ok (.aload_n 0, 1)) ∧ (decode cL_law 307 = .ok (.iload_n 3, 1)) ∧ (decode cL_law 308 = .ok (.iconst 2, 1)) ∧ (decode cL_law 309 = .ok (.iadd, 1)) ∧ (decode cL_law 310 = .ok (.iaload, 1)) ∧ (decode cL_law 311 = .ok (.aload_n 0, 1)) := by decide +kernel
theorem dL_law_304 : decode cL_law 304 = .ok (.iadd, 1) := zd_844.1
theorem dL_law_305 : decode cL_law 305 = .ok (.iaload, 1) := zd_844.2.1
theorem dL_law_306 : decode cL_law 306 = .ok (.aload_n 0, 1) := zd_844.2.2.1
theorem dL_law_307 : decode cL_law 307 = .ok (.iload_n 3, 1) := zd_844.2.2.2.1
theorem dL_law_308 : decode cL_law 308 = .ok (.iconst 2, 1) := zd_844.2.2.2.2.1
theorem dL_law_309 : decode cL_law 309 = .ok (.iadd, 1) := zd_844.2.2.2.2.2.1
theorem dL_law_310 : decode cL_law 310 = .ok (.iaload, 1) := zd_844.2.2.2.2.2.2.1
theorem dL_law_311 : decode cL_law 311 = .ok (.aload_n 0, 1) := zd_844.2.2.2.2.2.2.2
theorem zd_845 : (decode cL_law 312 = .ok (.iload_n 3, 1)) ∧ (decode cL_law 313 = .ok (.iconst 3, 1)) ∧ (decode cL_law 314 = .ok (.iadd, 1)) ∧ (decode cL_law 315 = .ok (.iaload, 1)) ∧ (decode cL_law 316 = .ok (.invokevirtual 33, 3)) ∧ (decode cL_law 319 = .ok (.aload_n 2, 1)) ∧ (decode cL_law 320 = .ok (.aload_n 0, 1)) ∧ (decode cL_law 321 = .ok (.iload_n 3, 1)) := by decide +kernel
theorem dL_law_312 : decode cL_law 312 = .ok (.iload_n 3, 1) := zd_845.1
theorem dL_law_313 : decode cL_law 313 = .ok (.iconst 3, 1) := zd_845.2.1
theorem dL_law_314 : decode cL_law 314 = .ok (.iadd, 1) := zd_845.2.2.1
theorem dL_law_315 : decode cL_law 315 = .ok (.iaload, 1) := zd_845.2.2.2.1
theorem dL_law_316 : decode cL_law 316 = .ok (.invokevirtual 33, 3) := zd_845.2.2.2.2.1
theorem dL_law_319 : decode cL_law 319 = .ok (.aload_n 2, 1) := zd_845.2.2.2.2.2.1
theorem dL_law_320 : decode cL_law 320 = .ok (.aload_n 0, 1) := zd_845.2.2.2.2.2.2.1
theorem dL_law_321 : decode cL_law 321 = .ok (.iload_n 3, 1) := zd_845.2.2.2.2.2.2.2
theorem zd_846 : (decode cL_law 322 = .ok (.iconst 1, 1)) ∧ (decode cL_law 323 = .ok (.iadd, 1)) ∧ (decode cL_law 324 = .ok (.iaload, 1)) ∧ (decode cL_law 325 = .ok (.aload_n 0, 1)) ∧ (decode cL_law 326 = .ok (.iload_n 3, 1)) ∧ (decode cL_law 327 = .ok (.iconst 2, 1)) ∧ (decode cL_law 328 = .ok (.iadd, 1)) ∧ (decode cL_law 329 = .ok (.iaload, 1)) := by decide +kernel
theorem dL_law_322 : decode cL_law 322 = .ok (.iconst 1, 1) := zd_846.1
theorem dL_law_323 : decode cL_law 323 = .ok (.iadd, 1) := zd_846.2.1
theorem dL_law_324 : decode cL_law 324 = .ok (.iaload, 1) := zd_846.2.2.1
theorem dL_law_325 : decode cL_law 325 = .ok (.aload_n 0, 1) := zd_846.2.2.2.1
theorem dL_law_326 : decode cL_law 326 = .ok (.iload_n 3, 1) := zd_846.2.2.2.2.1
theorem dL_law_327 : decode cL_law 327 = .ok (.iconst 2, 1) := zd_846.2.2.2.2.2.1
theorem dL_law_328 : decode cL_law 328 = .ok (.iadd, 1) := zd_846.2.2.2.2.2.2.1
theorem dL_law_329 : decode cL_law 329 = .ok (.iaload, 1) := zd_846.2.2.2.2.2.2.2
theorem zd_847 : (decode cL_law 330 = .ok (.aload_n 0, 1)) ∧ (decode cL_law 331 = .ok (.iload_n 3, 1)) ∧ (decode cL_law 332 = .ok (.iconst 3, 1)) ∧ (decode cL_law 333 = .ok (.iadd, 1)) ∧ (decode cL_law 334 = .ok (.iaload, 1)) ∧ (decode cL_law 335 = .ok (.invokevirtual 37, 3)) ∧ (decode cL_law 338 = .ok (.if_icmp .eq 844, 3)) ∧ (decode cL_law 341 = .ok (.iconst 0, 1)) := by decide +kernel
theorem dL_law_330 : decode cL_law 330 = .ok (.aload_n 0, 1) := zd_847.1
theorem dL_law_331 : decode cL_law 331 = .ok (.iload_n 3, 1) := zd_847.2.1
theorem dL_law_332 : decode cL_law 332 = .ok (.iconst 3, 1) := zd_847.2.2.1
theorem dL_law_333 : decode cL_law 333 = .ok (.iadd, 1) := zd_847.2.2.2.1
theorem dL_law_334 : decode cL_law 334 = .ok (.iaload, 1) := zd_847.2.2.2.2.1
theorem dL_law_335 : decode cL_law 335 = .ok (.invokevirtual 37, 3) := zd_847.2.2.2.2.2.1
theorem dL_law_338 : decode cL_law 338 = .ok (.if_icmp .eq 844, 3) := zd_847.2.2.2.2.2.2.1
theorem zd_848 : (decode cL_law 342 = .ok (.ireturn, 1)) ∧ (decode cL_law 343 = .ok (.aload_n 1, 1)) ∧ (decode cL_law 344 = .ok (.invokevirtual 38, 3)) ∧ (decode cL_law 347 = .ok (.pop, 1)) ∧ (decode cL_law 348 = .ok (.aload_n 2, 1)) ∧ (decode cL_law 349 = .ok (.invokevirtual 42, 3)) ∧ (decode cL_law 352 = .ok (.pop, 1)) ∧ (decode cL_law 353 = .ok (.goto 829, 3)) := by decide +kernel
theorem dL_law_343 : decode cL_law 343 = .ok (.aload_n 1, 1) := zd_848.2.1
theorem dL_law_344 : decode cL_law 344 = .ok (.invokevirtual 38, 3) := zd_848.2.2.1
theorem dL_law_347 : decode cL_law 347 = .ok (.pop, 1) := zd_848.2.2.2.1
theorem dL_law_348 : decode cL_law 348 = .ok (.aload_n 2, 1) := zd_848.2.2.2.2.1
theorem dL_law_349 : decode cL_law 349 = .ok (.invokevirtual 42, 3) := zd_848.2.2.2.2.2.1
theorem dL_law_352 : decode cL_law 352 = .ok (.pop, 1) := zd_848.2.2.2.2.2.2.1
theorem dL_law_353 : decode cL_law 353 = .ok (.goto 829, 3) := zd_848.2.2.2.2.2.2.2
theorem zd_849 : (decode cL_law 356 = .ok (.aload_n 1, 1)) ∧ (decode cL_law 357 = .ok (.aload_n 0, 1)) ∧ (decode cL_law 358 = .ok (.iload_n 3, 1)) ∧ (decode cL_law 359 = .ok (.iconst 1, 1)) ∧ (decode cL_law 360 = .ok (.iadd, 1)) ∧ (decode cL_law 361 = .ok (.iaload, 1)) ∧ (decode cL_law 362 = .ok (.aload_n 0, 1)) ∧ (decode cL_law 363 = .ok (.iload_n 3, 1)) := by decide +kernel
theorem dL_law_356 : decode cL_law 356 = .ok (.aload_n 1, 1) := zd_849.1
theorem dL_law_357 : decode cL_law 357 = .ok (.aload_n 0, 1) := zd_849.2.1
theorem dL_law_358 : decode cL_law 358 = .ok (.iload_n 3, 1) := zd_849.2.2.1
theorem dL_law_359 : decode cL_law 359 = .ok (.iconst 1, 1) := zd_849.2.2.2.1
theorem dL_law_360 : decode cL_law 360 = .ok (.iadd, 1) := zd_849.2.2.2.2.1
theorem dL_law_361 : decode cL_law 361 = .ok (.iaload, 1) := zd_849.2.2.2.2.2.1
theorem dL_law_362 : decode cL_law 362 = .ok (.aload_n 0, 1) := zd_849.2.2.2.2.2.2.1
theorem dL_law_363 : decode cL_law 363 = .ok (.iload_n 3, 1) := zd_849.2.2.2.2.2.2.2
theorem zd_850 : (decode cL_law 364 = .ok (.iconst 2, 1)) ∧ (decode cL_law 365 = .ok (.iadd, 1)) ∧ (decode cL_law 366 = .ok (.iaload, 1)) ∧ (decode cL_law 367 = .ok (.aload_n 0, 1)) ∧ (decode cL_law 368 = .ok (.iload_n 3, 1)) ∧ (decode cL_law 369 = .ok (.iconst 3, 1)) ∧ (decode cL_law 370 = .ok (.iadd, 1)) ∧ (decode cL_law 371 = .ok (.iaload, 1)) := by decide +kernel
theorem dL_law_364 : decode cL_law 364 = .ok (.iconst 2, 1) := zd_850.1
theorem dL_law_365 : decode cL_law 365 = .ok (.iadd, 1) := zd_850.2.1
theorem dL_law_366 : decode cL_law 366 = .ok (.iaload, 1) := zd_850.2.2.1
theorem dL_law_367 : decode cL_law 367 = .ok (.aload_n 0, 1) := zd_850.2.2.2.1
theorem dL_law_368 : decode cL_law 368 = .ok (.iload_n 3, 1) := zd_850.2.2.2.2.1
theorem dL_law_369 : decode cL_law 369 = .ok (.iconst 3, 1) := zd_850.2.2.2.2.2.1
theorem dL_law_370 : decode cL_law 370 = .ok (.iadd, 1) := zd_850.2.2.2.2.2.2.1
theorem dL_law_371 : decode cL_law 371 = .ok (.iaload, 1) := zd_850.2.2.2.2.2.2.2
theorem zd_851 : (decode cL_law 372 = .ok (.invokevirtual 43, 3)) ∧ (decode cL_law 375 = .ok (.pop, 1)) ∧ (decode cL_law 376 = .ok (.aload_n 2, 1)) ∧ (decode cL_law 377 = .ok (.aload_n 0, 1)) ∧ (decode cL_law 378 = .ok (.iload_n 3, 1)) ∧ (decode cL_law 379 = .ok (.iconst 1, 1)) ∧ (decode cL_law 380 = .ok (.iadd, 1)) ∧ (decode cL_law 381 = .ok (.iaload, 1)) := by decide +kernel
theorem dL_law_372 : decode cL_law 372 = .ok (.invokevirtual 43, 3) := zd_851.1
theorem dL_law_375 : decode cL_law 375 = .ok (.pop, 1) := zd_851.2.1
theorem dL_law_376 : decode cL_law 376 = .ok (.aload_n 2, 1) := zd_851.2.2.1
theorem dL_law_377 : decode cL_law 377 = .ok (.aload_n 0, 1) := zd_851.2.2.2.1
theorem dL_law_378 : decode cL_law 378 = .ok (.iload_n 3, 1) := zd_851.2.2.2.2.1
theorem dL_law_379 : decode cL_law 379 = .ok (.iconst 1, 1) := zd_851.2.2.2.2.2.1
theorem dL_law_380 : decode cL_law 380 = .ok (.iadd, 1) := zd_851.2.2.2.2.2.2.1
theorem dL_law_381 : decode cL_law 381 = .ok (.iaload, 1) := zd_851.2.2.2.2.2.2.2
theorem zd_852 : (decode cL_law 382 = .ok (.aload_n 0, 1)) ∧ (decode cL_law 383 = .ok (.iload_n 3, 1)) ∧ (decode cL_law 384 = .ok (.iconst 2, 1)) ∧ (decode cL_law 385 = .ok (.iadd, 1)) ∧ (decode cL_law 386 = .ok (.iaload, 1)) ∧ (decode cL_law 387 = .ok (.aload_n 0, 1)) ∧ (decode cL_law 388 = .ok (.iload_n 3, 1)) ∧ (decode cL_law 389 = .ok (.iconst 3, 1)) := by decide +kernel
theorem dL_law_382 : decode cL_law 382 = .ok (.aload_n 0, 1) := zd_852.1
theorem dL_law_383 : decode cL_law 383 = .ok (.iload_n 3, 1) := zd_852.2.1
theorem dL_law_384 : decode cL_law 384 = .ok (.iconst 2, 1) := zd_852.2.2.1
theorem dL_law_385 : decode cL_law 385 = .ok (.iadd, 1) := zd_852.2.2.2.1
theorem dL_law_386 : decode cL_law 386 = .ok (.iaload, 1) := zd_852.2.2.2.2.1
theorem dL_law_387 : decode cL_law 387 = .ok (.aload_n 0, 1) := zd_852.2.2.2.2.2.1
theorem dL_law_388 : decode cL_law 388 = .ok (.iload_n 3, 1) := zd_852.2.2.2.2.2.2.1
theorem dL_law_389 : decode cL_law 389 = .ok (.iconst 3, 1) := zd_852.2.2.2.2.2.2.2
theorem zd_853 : (decode cL_law 390 = .ok (.iadd, 1)) ∧ (decode cL_law 391 = .ok (.iaload, 1)) ∧ (decode cL_law 392 = .ok (.invokevirtual 46, 3)) ∧ (decode cL_law 395 = .ok (.pop, 1)) ∧ (decode cL_law 396 = .ok (.goto 786, 3)) ∧ (decode cL_law 399 = .ok (.aload_n 1, 1)) ∧ (decode cL_law 400 = .ok (.aload_n 0, 1)) ∧ (decode cL_law 401 = .ok (.iload_n 3, 1)) := by decide +kernel
theorem dL_law_390 : decode cL_law 390 = .ok (.iadd, 1) := zd_853.1
theorem dL_law_391 : decode cL_law 391 = .ok (.iaload, 1) := zd_853.2.1
theorem dL_law_392 : decode cL_law 392 = .ok (.invokevirtual 46, 3) := zd_853.2.2.1
theorem dL_law_395 : decode cL_law 395 = .ok (.pop, 1) := zd_853.2.2.2.1
theorem dL_law_396 : decode cL_law 396 = .ok (.goto 786, 3) := zd_853.2.2.2.2.1
theorem dL_law_399 : decode cL_law 399 = .ok (.aload_n 1, 1) := zd_853.2.2.2.2.2.1
theorem dL_law_400 : decode cL_law 400 = .ok (.aload_n 0, 1) := zd_853.2.2.2.2.2.2.1
theorem dL_law_401 : decode cL_law 401 = .ok (.iload_n 3, 1) := zd_853.2.2.2.2.2.2.2
theorem zd_854 : (decode cL_law 402 = .ok (.iconst 1, 1)) ∧ (decode cL_law 403 = .ok (.iadd, 1)) ∧ (decode cL_law 404 = .ok (.iaload, 1)) ∧ (decode cL_law 405 = .ok (.aload_n 0, 1)) ∧ (decode cL_law 406 = .ok (.iload_n 3, 1)) ∧ (decode cL_law 407 = .ok (.iconst 2, 1)) ∧ (decode cL_law 408 = .ok (.iadd, 1)) ∧ (decode cL_law 409 = .ok (.iaload, 1)) := by decide +kernel
theorem dL_law_402 : decode cL_law 402 = .ok (.iconst 1, 1) := zd_854.1
theorem dL_law_403 : decode cL_law 403 = .ok (.iadd, 1) := zd_854.2.1
theorem dL_law_404 : decode cL_law 404 = .ok (.iaload, 1) := zd_854.2.2.1
theorem dL_law_405 : decode cL_law 405 = .ok (.aload_n 0, 1) := zd_854.2.2.2.1
theorem dL_law_406 : decode cL_law 406 = .ok (.iload_n 3, 1) := zd_854.2.2.2.2.1
theorem dL_law_407 : decode cL_law 407 = .ok (.iconst 2, 1) := zd_854.2.2.2.2.2.1
theorem dL_law_408 : decode cL_law 408 = .ok (.iadd, 1) := zd_854.2.2.2.2.2.2.1
theorem dL_law_409 : decode cL_law 409 = .ok (.iaload, 1) := zd_854.2.2.2.2.2.2.2
theorem zd_855 : (decode cL_law 410 = .ok (.aload_n 0, 1)) ∧ (decode cL_law 411 = .ok (.iload_n 3, 1)) ∧ (decode cL_law 412 = .ok (.iconst 3, 1)) ∧ (decode cL_law 413 = .ok (.iadd, 1)) ∧ (decode cL_law 414 = .ok (.iaload, 1)) ∧ (decode cL_law 415 = .ok (.aload_n 0, 1)) ∧ (decode cL_law 416 = .ok (.iload_n 3, 1)) ∧ (decode cL_law 417 = .ok (.iconst 4, 1)) := by decide +kernel
theorem dL_law_410 : decode cL_law 410 = .ok (.aload_n 0, 1) := zd_855.1
theorem dL_law_411 : decode cL_law 411 = .ok (.iload_n 3, 1) := zd_855.2.1
theorem dL_law_412 : decode cL_law 412 = .ok (.iconst 3, 1) := zd_855.2.2.1
theorem dL_law_413 : decode cL_law 413 = .ok (.iadd, 1) := zd_855.2.2.2.1
theorem dL_law_414 : decode cL_law 414 = .ok (.iaload, 1) := zd_855.2.2.2.2.1
theorem dL_law_415 : decode cL_law 415 = .ok (.aload_n 0, 1) := zd_855.2.2.2.2.2.1
theorem dL_law_416 : decode cL_law 416 = .ok (.iload_n 3, 1) := zd_855.2.2.2.2.2.2.1
theorem dL_law_417 : decode cL_law 417 = .ok (.iconst 4, 1) := zd_855.2.2.2.2.2.2.2
theorem zd_856 : (decode cL_law 418 = .ok (.iadd, 1)) ∧ (decode cL_law 419 = .ok (.iaload, 1)) ∧ (decode cL_law 420 = .ok (.aload_n 0, 1)) ∧ (decode cL_law 421 = .ok (.iload_n 3, 1)) ∧ (decode cL_law 422 = .ok (.iconst 5, 1)) ∧ (decode cL_law 423 = .ok (.iadd, 1)) ∧ (decode cL_law 424 = .ok (.iaload, 1)) ∧ (decode cL_law 425 = .ok (.aload_n 0, 1)) := by decide +kernel
theorem dL_law_418 : decode cL_law 418 = .ok (.iadd, 1) := zd_856.1
theorem dL_law_419 : decode cL_law 419 = .ok (.iaload, 1) := zd_856.2.1
theorem dL_law_420 : decode cL_law 420 = .ok (.aload_n 0, 1) := zd_856.2.2.1
theorem dL_law_421 : decode cL_law 421 = .ok (.iload_n 3, 1) := zd_856.2.2.2.1
theorem dL_law_422 : decode cL_law 422 = .ok (.iconst 5, 1) := zd_856.2.2.2.2.1
theorem dL_law_423 : decode cL_law 423 = .ok (.iadd, 1) := zd_856.2.2.2.2.2.1
theorem dL_law_424 : decode cL_law 424 = .ok (.iaload, 1) := zd_856.2.2.2.2.2.2.1
theorem dL_law_425 : decode cL_law 425 = .ok (.aload_n 0, 1) := zd_856.2.2.2.2.2.2.2
theorem zd_857 : (decode cL_law 426 = .ok (.iload_n 3, 1)) ∧ (decode cL_law 427 = .ok (.bipush 6, 2)) ∧ (decode cL_law 429 = .ok (.iadd, 1)) ∧ (decode cL_law 430 = .ok (.iaload, 1)) ∧ (decode cL_law 431 = .ok (.aload_n 0, 1)) ∧ (decode cL_law 432 = .ok (.iload_n 3, 1)) ∧ (decode cL_law 433 = .ok (.bipush 7, 2)) ∧ (decode cL_law 435 = .ok (.iadd, 1)) := by decide +kernel
theorem dL_law_426 : decode cL_law 426 = .ok (.iload_n 3, 1) := zd_857.1
theorem dL_law_427 : decode cL_law 427 = .ok (.bipush 6, 2) := zd_857.2.1
theorem dL_law_429 : decode cL_law 429 = .ok (.iadd, 1) := zd_857.2.2.1
theorem dL_law_430 : decode cL_law 430 = .ok (.iaload, 1) := zd_857.2.2.2.1
theorem dL_law_431 : decode cL_law 431 = .ok (.aload_n 0, 1) := zd_857.2.2.2.2.1
theorem dL_law_432 : decode cL_law 432 = .ok (.iload_n 3, 1) := zd_857.2.2.2.2.2.1
theorem dL_law_433 : decode cL_law 433 = .ok (.bipush 7, 2) := zd_857.2.2.2.2.2.2.1
theorem dL_law_435 : decode cL_law 435 = .ok (.iadd, 1) := zd_857.2.2.2.2.2.2.2
theorem zd_858 : (decode cL_law 436 = .ok (.iaload, 1)) ∧ (decode cL_law 437 = .ok (.invokevirtual 47, 3)) ∧ (decode cL_law 440 = .ok (.pop, 1)) ∧ (decode cL_law 441 = .ok (.aload_n 2, 1)) ∧ (decode cL_law 442 = .ok (.aload_n 0, 1)) ∧ (decode cL_law 443 = .ok (.iload_n 3, 1)) ∧ (decode cL_law 444 = .ok (.iconst 1, 1)) ∧ (decode cL_law 445 = .ok (.iadd, 1)) := by decide +kernel
theorem dL_law_436 : decode cL_law 436 = .ok (.iaload, 1) := zd_858.1
theorem dL_law_437 : decode cL_law 437 = .ok (.invokevirtual 47, 3) := zd_858.2.1
theorem dL_law_440 : decode cL_law 440 = .ok (.pop, 1) := zd_858.2.2.1
theorem dL_law_441 : decode cL_law 441 = .ok (.aload_n 2, 1) := zd_858.2.2.2.1
theorem dL_law_442 : decode cL_law 442 = .ok (.aload_n 0, 1) := zd_858.2.2.2.2.1
theorem dL_law_443 : decode cL_law 443 = .ok (.iload_n 3, 1) := zd_858.2.2.2.2.2.1
theorem dL_law_444 : decode cL_law 444 = .ok (.iconst 1, 1) := zd_858.2.2.2.2.2.2.1
theorem dL_law_445 : decode cL_law 445 = .ok (.iadd, 1) := zd_858.2.2.2.2.2.2.2
theorem zd_859 : (decode cL_law 446 = .ok (.iaload, 1)) ∧ (decode cL_law 447 = .ok (.aload_n 0, 1)) ∧ (decode cL_law 448 = .ok (.iload_n 3, 1)) ∧ (decode cL_law 449 = .ok (.iconst 2, 1)) ∧ (decode cL_law 450 = .ok (.iadd, 1)) ∧ (decode cL_law 451 = .ok (.iaload, 1)) ∧ (decode cL_law 452 = .ok (.aload_n 0, 1)) ∧ (decode cL_law 453 = .ok (.iload_n 3, 1)) := by decide +kernel
theorem dL_law_446 : decode cL_law 446 = .ok (.iaload, 1) := zd_859.1
theorem dL_law_447 : decode cL_law 447 = .ok (.aload_n 0, 1) := zd_859.2.1
theorem dL_law_448 : decode cL_law 448 = .ok (.iload_n 3, 1) := zd_859.2.2.1
theorem dL_law_449 : decode cL_law 449 = .ok (.iconst 2, 1) := zd_859.2.2.2.1
theorem dL_law_450 : decode cL_law 450 = .ok (.iadd, 1) := zd_859.2.2.2.2.1
theorem dL_law_451 : decode cL_law 451 = .ok (.iaload, 1) := zd_859.2.2.2.2.2.1
theorem dL_law_452 : decode cL_law 452 = .ok (.aload_n 0, 1) := zd_859.2.2.2.2.2.2.1
theorem dL_law_453 : decode cL_law 453 = .ok (.iload_n 3, 1) := zd_859.2.2.2.2.2.2.2
theorem zd_860 : (decode cL_law 454 = .ok (.iconst 3, 1)) ∧ (decode cL_law 455 = .ok (.iadd, 1)) ∧ (decode cL_law 456 = .ok (.iaload, 1)) ∧ (decode cL_law 457 = .ok (.aload_n 0, 1)) ∧ (decode cL_law 458 = .ok (.iload_n 3, 1)) ∧ (decode cL_law 459 = .ok (.iconst 4, 1)) ∧ (decode cL_law 460 = .ok (.iadd, 1)) ∧ (decode cL_law 461 = .ok (.iaload, 1)) := by decide +kernel
theorem dL_law_454 : decode cL_law 454 = .ok (.iconst 3, 1) := zd_860.1
theorem dL_law_455 : decode cL_law 455 = .ok (.iadd, 1) := zd_860.2.1
theorem dL_law_456 : decode cL_law 456 = .ok (.iaload, 1) := zd_860.2.2.1
theorem dL_law_457 : decode cL_law 457 = .ok (.aload_n 0, 1) := zd_860.2.2.2.1
theorem dL_law_458 : decode cL_law 458 = .ok (.iload_n 3, 1) := zd_860.2.2.2.2.1
theorem dL_law_459 : decode cL_law 459 = .ok (.iconst 4, 1) := zd_860.2.2.2.2.2.1
theorem dL_law_460 : decode cL_law 460 = .ok (.iadd, 1) := zd_860.2.2.2.2.2.2.1
theorem dL_law_461 : decode cL_law 461 = .ok (.iaload, 1) := zd_860.2.2.2.2.2.2.2
theorem zd_861 : (decode cL_law 462 = .ok (.aload_n 0, 1)) ∧ (decode cL_law 463 = .ok (.iload_n 3, 1)) ∧ (decode cL_law 464 = .ok (.iconst 5, 1)) ∧ (decode cL_law 465 = .ok (.iadd, 1)) ∧ (decode cL_law 466 = .ok (.iaload, 1)) ∧ (decode cL_law 467 = .ok (.aload_n 0, 1)) ∧ (decode cL_law 468 = .ok (.iload_n 3, 1)) ∧ (decode cL_law 469 = .ok (.bipush 6, 2)) := by decide +kernel
theorem dL_law_462 : decode cL_law 462 = .ok (.aload_n 0, 1) := zd_861.1
theorem dL_law_463 : decode cL_law 463 = .ok (.iload_n 3, 1) := zd_861.2.1
theorem dL_law_464 : decode cL_law 464 = .ok (.iconst 5, 1) := zd_861.2.2.1
theorem dL_law_465 : decode cL_law 465 = .ok (.iadd, 1) := zd_861.2.2.2.1
theorem dL_law_466 : decode cL_law 466 = .ok (.iaload, 1) := zd_861.2.2.2.2.1
theorem dL_law_467 : decode cL_law 467 = .ok (.aload_n 0, 1) := zd_861.2.2.2.2.2.1
theorem dL_law_468 : decode cL_law 468 = .ok (.iload_n 3, 1) := zd_861.2.2.2.2.2.2.1
theorem dL_law_469 : decode cL_law 469 = .ok (.bipush 6, 2) := zd_861.2.2.2.2.2.2.2
theorem zd_862 : (decode cL_law 471 = .ok (.iadd, 1)) ∧ (decode cL_law 472 = .ok (.iaload, 1)) ∧ (decode cL_law 473 = .ok (.aload_n 0, 1)) ∧ (decode cL_law 474 = .ok (.iload_n 3, 1)) ∧ (decode cL_law 475 = .ok (.bipush 7, 2)) ∧ (decode cL_law 477 = .ok (.iadd, 1)) ∧ (decode cL_law 478 = .ok (.iaload, 1)) ∧ (decode cL_law 479 = .ok (.invokevirtual 51, 3)) := by decide +kernel
theorem dL_law_471 : decode cL_law 471 = .ok (.iadd, 1) := zd_862.1
theorem dL_law_472 : decode cL_law 472 = .ok (.iaload, 1) := zd_862.2.1
theorem dL_law_473 : decode cL_law 473 = .ok (.aload_n 0, 1) := zd_862.2.2.1
theorem dL_law_474 : decode cL_law 474 = .ok (.iload_n 3, 1) := zd_862.2.2.2.1
theorem dL_law_475 : decode cL_law 475 = .ok (.bipush 7, 2) := zd_862.2.2.2.2.1
theorem dL_law_477 : decode cL_law 477 = .ok (.iadd, 1) := zd_862.2.2.2.2.2.1
theorem dL_law_478 : decode cL_law 478 = .ok (.iaload, 1) := zd_862.2.2.2.2.2.2.1
theorem dL_law_479 : decode cL_law 479 = .ok (.invokevirtual 51, 3) := zd_862.2.2.2.2.2.2.2
theorem zd_863 : (decode cL_law 482 = .ok (.pop, 1)) ∧ (decode cL_law 483 = .ok (.goto 699, 3)) ∧ (decode cL_law 486 = .ok (.aload_n 1, 1)) ∧ (decode cL_law 487 = .ok (.aload_n 0, 1)) ∧ (decode cL_law 488 = .ok (.iload_n 3, 1)) ∧ (decode cL_law 489 = .ok (.iconst 1, 1)) ∧ (decode cL_law 490 = .ok (.iadd, 1)) ∧ (decode cL_law 491 = .ok (.iaload, 1)) := by decide +kernel
theorem dL_law_482 : decode cL_law 482 = .ok (.pop, 1) := zd_863.1
theorem dL_law_483 : decode cL_law 483 = .ok (.goto 699, 3) := zd_863.2.1
theorem dL_law_486 : decode cL_law 486 = .ok (.aload_n 1, 1) := zd_863.2.2.1
theorem dL_law_487 : decode cL_law 487 = .ok (.aload_n 0, 1) := zd_863.2.2.2.1
theorem dL_law_488 : decode cL_law 488 = .ok (.iload_n 3, 1) := zd_863.2.2.2.2.1
theorem dL_law_489 : decode cL_law 489 = .ok (.iconst 1, 1) := zd_863.2.2.2.2.2.1
theorem dL_law_490 : decode cL_law 490 = .ok (.iadd, 1) := zd_863.2.2.2.2.2.2.1
theorem dL_law_491 : decode cL_law 491 = .ok (.iaload, 1) := zd_863.2.2.2.2.2.2.2
theorem zd_864 : (decode cL_law 492 = .ok (.aload_n 0, 1)) ∧ (decode cL_law 493 = .ok (.iload_n 3, 1)) ∧ (decode cL_law 494 = .ok (.iconst 2, 1)) ∧ (decode cL_law 495 = .ok (.iadd, 1)) ∧ (decode cL_law 496 = .ok (.iaload, 1)) ∧ (decode cL_law 497 = .ok (.invokevirtual 52, 3)) ∧ (decode cL_law 500 = .ok (.pop, 1)) ∧ (decode cL_law 501 = .ok (.aload_n 2, 1)) := by decide +kernel
theorem dL_law_492 : decode cL_law 492 = .ok (.aload_n 0, 1) := zd_864.1
theorem dL_law_493 : decode cL_law 493 = .ok (.iload_n 3, 1) := zd_864.2.1
theorem dL_law_494 : decode cL_law 494 = .ok (.iconst 2, 1) := zd_864.2.2.1
theorem dL_law_495 : decode cL_law 495 = .ok (.iadd, 1) := zd_864.2.2.2.1
theorem dL_law_496 : decode cL_law 496 = .ok (.iaload, 1) := zd_864.2.2.2.2.1
theorem dL_law_497 : decode cL_law 497 = .ok (.invokevirtual 52, 3) := zd_864.2.2.2.2.2.1
theorem dL_law_500 : decode cL_law 500 = .ok (.pop, 1) := zd_864.2.2.2.2.2.2.1
theorem dL_law_501 : decode cL_law 501 = .ok (.aload_n 2, 1) := zd_864.2.2.2.2.2.2.2
theorem zd_865 : (decode cL_law 502 = .ok (.aload_n 0, 1)) ∧ (decode cL_law 503 = .ok (.iload_n 3, 1)) ∧ (decode cL_law 504 = .ok (.iconst 1, 1)) ∧ (decode cL_law 505 = .ok (.iadd, 1)) ∧ (decode cL_law 506 = .ok (.iaload, 1)) ∧ (decode cL_law 507 = .ok (.aload_n 0, 1)) ∧ (decode cL_law 508 = .ok (.iload_n 3, 1)) ∧ (decode cL_law 509 = .ok (.iconst 2, 1)) := by decide +kernel
theorem dL_law_502 : decode cL_law 502 = .ok (.aload_n 0, 1) := zd_865.1
theorem dL_law_503 : decode cL_law 503 = .ok (.iload_n 3, 1) := zd_865.2.1
theorem dL_law_504 : decode cL_law 504 = .ok (.iconst 1, 1) := zd_865.2.2.1
theorem dL_law_505 : decode cL_law 505 = .ok (.iadd, 1) := zd_865.2.2.2.1
theorem dL_law_506 : decode cL_law 506 = .ok (.iaload, 1) := zd_865.2.2.2.2.1
theorem dL_law_507 : decode cL_law 507 = .ok (.aload_n 0, 1) := zd_865.2.2.2.2.2.1
theorem dL_law_508 : decode cL_law 508 = .ok (.iload_n 3, 1) := zd_865.2.2.2.2.2.2.1
theorem dL_law_509 : decode cL_law 509 = .ok (.iconst 2, 1) := zd_865.2.2.2.2.2.2.2
theorem zd_866 : (decode cL_law 510 = .ok (.iadd, 1)) ∧ (decode cL_law 511 = .ok (.iaload, 1)) ∧ (decode cL_law 512 = .ok (.invokevirtual 55, 3)) ∧ (decode cL_law 515 = .ok (.pop, 1)) ∧ (decode cL_law 516 = .ok (.goto 666, 3)) ∧ (decode cL_law 519 = .ok (.aload_n 1, 1)) ∧ (decode cL_law 520 = .ok (.aload_n 0, 1)) ∧ (decode cL_law 521 = .ok (.iload_n 3, 1)) := by decide +kernel
theorem dL_law_510 : decode cL_law 510 = .ok (.iadd, 1) := zd_866.1
theorem dL_law_511 : decode cL_law 511 = .ok (.iaload, 1) := zd_866.2.1
theorem dL_law_512 : decode cL_law 512 = .ok (.invokevirtual 55, 3) := zd_866.2.2.1
theorem dL_law_515 : decode cL_law 515 = .ok (.pop, 1) := zd_866.2.2.2.1
theorem dL_law_516 : decode cL_law 516 = .ok (.goto 666, 3) := zd_866.2.2.2.2.1
theorem dL_law_519 : decode cL_law 519 = .ok (.aload_n 1, 1) := zd_866.2.2.2.2.2.1
theorem dL_law_520 : decode cL_law 520 = .ok (.aload_n 0, 1) := zd_866.2.2.2.2.2.2.1
theorem dL_law_521 : decode cL_law 521 = .ok (.iload_n 3, 1) := zd_866.2.2.2.2.2.2.2
theorem zd_867 : (decode cL_law 522 = .ok (.iconst 1, 1)) ∧ (decode cL_law 523 = .ok (.iadd, 1)) ∧ (decode cL_law 524 = .ok (.iaload, 1)) ∧ (decode cL_law 525 = .ok (.aload_n 0, 1)) ∧ (decode cL_law 526 = .ok (.iload_n 3, 1)) ∧ (decode cL_law 527 = .ok (.iconst 2, 1)) ∧ (decode cL_law 528 = .ok (.iadd, 1)) ∧ (decode cL_law 529 = .ok (.iaload, 1)) := by decide +kernel
theorem dL_law_522 : decode cL_law 522 = .ok (.iconst 1, 1) := zd_867.1
theorem dL_law_523 : decode cL_law 523 = .ok (.iadd, 1) := zd_867.2.1
theorem dL_law_524 : decode cL_law 524 = .ok (.iaload, 1) := zd_867.2.2.1
theorem dL_law_525 : decode cL_law 525 = .ok (.aload_n 0, 1) := zd_867.2.2.2.1
theorem dL_law_526 : decode cL_law 526 = .ok (.iload_n 3, 1) := zd_867.2.2.2.2.1
theorem dL_law_527 : decode cL_law 527 = .ok (.iconst 2, 1) := zd_867.2.2.2.2.2.1
theorem dL_law_528 : decode cL_law 528 = .ok (.iadd, 1) := zd_867.2.2.2.2.2.2.1
theorem dL_law_529 : decode cL_law 529 = .ok (.iaload, 1) := zd_867.2.2.2.2.2.2.2
theorem zd_868 : (decode cL_law 530 = .ok (.invokevirtual 56, 3)) ∧ (decode cL_law 533 = .ok (.pop, 1)) ∧ (decode cL_law 534 = .ok (.aload_n 2, 1)) ∧ (decode cL_law 535 = .ok (.aload_n 0, 1)) ∧ (decode cL_law 536 = .ok (.iload_n 3, 1)) ∧ (decode cL_law 537 = .ok (.iconst 1, 1)) ∧ (decode cL_law 538 = .ok (.iadd, 1)) ∧ (decode cL_law 539 = .ok (.iaload, 1)) := by decide +kernel
theorem dL_law_530 : decode cL_law 530 = .ok (.invokevirtual 56, 3) := zd_868.1
theorem dL_law_533 : decode cL_law 533 = .ok (.pop, 1) := zd_868.2.1
theorem dL_law_534 : decode cL_law 534 = .ok (.aload_n 2, 1) := zd_868.2.2.1
theorem dL_law_535 : decode cL_law 535 = .ok (.aload_n 0, 1) := zd_868.2.2.2.1
theorem dL_law_536 : decode cL_law 536 = .ok (.iload_n 3, 1) := zd_868.2.2.2.2.1
theorem dL_law_537 : decode cL_law 537 = .ok (.iconst 1, 1) := zd_868.2.2.2.2.2.1
theorem dL_law_538 : decode cL_law 538 = .ok (.iadd, 1) := zd_868.2.2.2.2.2.2.1
theorem dL_law_539 : decode cL_law 539 = .ok (.iaload, 1) := zd_868.2.2.2.2.2.2.2
theorem zd_869 : (decode cL_law 540 = .ok (.aload_n 0, 1)) ∧ (decode cL_law 541 = .ok (.iload_n 3, 1)) ∧ (decode cL_law 542 = .ok (.iconst 2, 1)) ∧ (decode cL_law 543 = .ok (.iadd, 1)) ∧ (decode cL_law 544 = .ok (.iaload, 1)) ∧ (decode cL_law 545 = .ok (.invokevirtual 59, 3)) ∧ (decode cL_law 548 = .ok (.pop, 1)) ∧ (decode cL_law 549 = .ok (.goto 633, 3)) := by decide +kernel
theorem dL_law_540 : decode cL_law 540 = .ok (.aload_n 0, 1) := zd_869.1
theorem dL_law_541 : decode cL_law 541 = .ok (.iload_n 3, 1) := zd_869.2.1
theorem dL_law_542 : decode cL_law 542 = .ok (.iconst 2, 1) := zd_869.2.2.1
theorem dL_law_543 : decode cL_law 543 = .ok (.iadd, 1) := zd_869.2.2.2.1
theorem dL_law_544 : decode cL_law 544 = .ok (.iaload, 1) := zd_869.2.2.2.2.1
theorem dL_law_545 : decode cL_law 545 = .ok (.invokevirtual 59, 3) := zd_869.2.2.2.2.2.1
theorem dL_law_548 : decode cL_law 548 = .ok (.pop, 1) := zd_869.2.2.2.2.2.2.1
theorem dL_law_549 : decode cL_law 549 = .ok (.goto 633, 3) := zd_869.2.2.2.2.2.2.2
theorem zd_870 : (decode cL_law 552 = .ok (.aload_n 1, 1)) ∧ (decode cL_law 553 = .ok (.aload_n 0, 1)) ∧ (decode cL_law 554 = .ok (.iload_n 3, 1)) ∧ (decode cL_law 555 = .ok (.iconst 1, 1)) ∧ (decode cL_law 556 = .ok (.iadd, 1)) ∧ (decode cL_law 557 = .ok (.iaload, 1)) ∧ (decode cL_law 558 = .ok (.aload_n 0, 1)) ∧ (decode cL_law 559 = .ok (.iload_n 3, 1)) := by decide +kernel
theorem dL_law_552 : decode cL_law 552 = .ok (.aload_n 1, 1) := zd_870.1
theorem dL_law_553 : decode cL_law 553 = .ok (.aload_n 0, 1) := zd_870.2.1
theorem dL_law_554 : decode cL_law 554 = .ok (.iload_n 3, 1) := zd_870.2.2.1
theorem dL_law_555 : decode cL_law 555 = .ok (.iconst 1, 1) := zd_870.2.2.2.1
theorem dL_law_556 : decode cL_law 556 = .ok (.iadd, 1) := zd_870.2.2.2.2.1
theorem dL_law_557 : decode cL_law 557 = .ok (.iaload, 1) := zd_870.2.2.2.2.2.1
theorem dL_law_558 : decode cL_law 558 = .ok (.aload_n 0, 1) := zd_870.2.2.2.2.2.2.1
theorem dL_law_559 : decode cL_law 559 = .ok (.iload_n 3, 1) := zd_870.2.2.2.2.2.2.2
theorem zd_871 : (decode cL_law 560 = .ok (.iconst 2, 1)) ∧ (decode cL_law 561 = .ok (.iadd, 1)) ∧ (decode cL_law 562 = .ok (.iaload, 1)) ∧ (decode cL_law 563 = .ok (.invokevirtual 60, 3)) ∧ (decode cL_law 566 = .ok (.pop, 1)) ∧ (decode cL_law 567 = .ok (.aload_n 2, 1)) ∧ (decode cL_law 568 = .ok (.aload_n 0, 1)) ∧ (decode cL_law 569 = .ok (.iload_n 3, 1)) := by decide +kernel
theorem dL_law_560 : decode cL_law 560 = .ok (.iconst 2, 1) := zd_871.1
theorem dL_law_561 : decode cL_law 561 = .ok (.iadd, 1) := zd_871.2.1
theorem dL_law_562 : decode cL_law 562 = .ok (.iaload, 1) := zd_871.2.2.1
theorem dL_law_563 : decode cL_law 563 = .ok (.invokevirtual 60, 3) := zd_871.2.2.2.1
theorem dL_law_566 : decode cL_law 566 = .ok (.pop, 1) := zd_871.2.2.2.2.1
theorem dL_law_567 : decode cL_law 567 = .ok (.aload_n 2, 1) := zd_871.2.2.2.2.2.1
theorem dL_law_568 : decode cL_law 568 = .ok (.aload_n 0, 1) := zd_871.2.2.2.2.2.2.1
theorem dL_law_569 : decode cL_law 569 = .ok (.iload_n 3, 1) := zd_871.2.2.2.2.2.2.2
theorem zd_872 : (decode cL_law 570 = .ok (.iconst 1, 1)) ∧ (decode cL_law 571 = .ok (.iadd, 1)) ∧ (decode cL_law 572 = .ok (.iaload, 1)) ∧ (decode cL_law 573 = .ok (.aload_n 0, 1)) ∧ (decode cL_law 574 = .ok (.iload_n 3, 1)) ∧ (decode cL_law 575 = .ok (.iconst 2, 1)) ∧ (decode cL_law 576 = .ok (.iadd, 1)) ∧ (decode cL_law 577 = .ok (.iaload, 1)) := by decide +kernel
theorem dL_law_570 : decode cL_law 570 = .ok (.iconst 1, 1) := zd_872.1
theorem dL_law_571 : decode cL_law 571 = .ok (.iadd, 1) := zd_872.2.1
theorem dL_law_572 : decode cL_law 572 = .ok (.iaload, 1) := zd_872.2.2.1
theorem dL_law_573 : decode cL_law 573 = .ok (.aload_n 0, 1) := zd_872.2.2.2.1
theorem dL_law_574 : decode cL_law 574 = .ok (.iload_n 3, 1) := zd_872.2.2.2.2.1
theorem dL_law_575 : decode cL_law 575 = .ok (.iconst 2, 1) := zd_872.2.2.2.2.2.1
theorem dL_law_576 : decode cL_law 576 = .ok (.iadd, 1) := zd_872.2.2.2.2.2.2.1
theorem dL_law_577 : decode cL_law 577 = .ok (.iaload, 1) := zd_872.2.2.2.2.2.2.2
theorem zd_873 : (decode cL_law 578 = .ok (.invokevirtual 63, 3)) ∧ (decode cL_law 581 = .ok (.pop, 1)) ∧ (decode cL_law 582 = .ok (.goto 600, 3)) ∧ (decode cL_law 585 = .ok (.aload_n 1, 1)) ∧ (decode cL_law 586 = .ok (.aload_n 0, 1)) ∧ (decode cL_law 587 = .ok (.iload_n 3, 1)) ∧ (decode cL_law 588 = .ok (.iconst 1, 1)) ∧ (decode cL_law 589 = .ok (.iadd, 1)) := by decide +kernel
theorem dL_law_578 : decode cL_law 578 = .ok (.invokevirtual 63, 3) := zd_873.1
theorem dL_law_581 : decode cL_law 581 = .ok (.pop, 1) := zd_873.2.1
theorem dL_law_582 : decode cL_law 582 = .ok (.goto 600, 3) := zd_873.2.2.1
theorem dL_law_585 : decode cL_law 585 = .ok (.aload_n 1, 1) := zd_873.2.2.2.1
theorem dL_law_586 : decode cL_law 586 = .ok (.aload_n 0, 1) := zd_873.2.2.2.2.1
theorem dL_law_587 : decode cL_law 587 = .ok (.iload_n 3, 1) := zd_873.2.2.2.2.2.1
theorem dL_law_588 : decode cL_law 588 = .ok (.iconst 1, 1) := zd_873.2.2.2.2.2.2.1
theorem dL_law_589 : decode cL_law 589 = .ok (.iadd, 1) := zd_873.2.2.2.2.2.2.2
theorem zd_874 : (decode cL_law 590 = .ok (.iaload, 1)) ∧ (decode cL_law 591 = .ok (.aload_n 0, 1)) ∧ (decode cL_law 592 = .ok (.iload_n 3, 1)) ∧ (decode cL_law 593 = .ok (.iconst 2, 1)) ∧ (decode cL_law 594 = .ok (.iadd, 1)) ∧ (decode cL_law 595 = .ok (.iaload, 1)) ∧ (decode cL_law 596 = .ok (.invokevirtual 64, 3)) ∧ (decode cL_law 599 = .ok (.pop, 1)) := by decide +kernel
theorem dL_law_590 : decode cL_law 590 = .ok (.iaload, 1) := zd_874.1
theorem dL_law_591 : decode cL_law 591 = .ok (.aload_n 0, 1) := zd_874.2.1
theorem dL_law_592 : decode cL_law 592 = .ok (.iload_n 3, 1) := zd_874.2.2.1
theorem dL_law_593 : decode cL_law 593 = .ok (.iconst 2, 1) := zd_874.2.2.2.1
theorem dL_law_594 : decode cL_law 594 = .ok (.iadd, 1) := zd_874.2.2.2.2.1
theorem dL_law_595 : decode cL_law 595 = .ok (.iaload, 1) := zd_874.2.2.2.2.2.1
theorem dL_law_596 : decode cL_law 596 = .ok (.invokevirtual 64, 3) := zd_874.2.2.2.2.2.2.1
theorem dL_law_599 : decode cL_law 599 = .ok (.pop, 1) := zd_874.2.2.2.2.2.2.2
theorem zd_875 : (decode cL_law 600 = .ok (.aload_n 2, 1)) ∧ (decode cL_law 601 = .ok (.aload_n 0, 1)) ∧ (decode cL_law 602 = .ok (.iload_n 3, 1)) ∧ (decode cL_law 603 = .ok (.iconst 1, 1)) ∧ (decode cL_law 604 = .ok (.iadd, 1)) ∧ (decode cL_law 605 = .ok (.iaload, 1)) ∧ (decode cL_law 606 = .ok (.aload_n 0, 1)) ∧ (decode cL_law 607 = .ok (.iload_n 3, 1)) := by decide +kernel
theorem dL_law_600 : decode cL_law 600 = .ok (.aload_n 2, 1) := zd_875.1
theorem dL_law_601 : decode cL_law 601 = .ok (.aload_n 0, 1) := zd_875.2.1
theorem dL_law_602 : decode cL_law 602 = .ok (.iload_n 3, 1) := zd_875.2.2.1
theorem dL_law_603 : decode cL_law 603 = .ok (.iconst 1, 1) := zd_875.2.2.2.1
theorem dL_law_604 : decode cL_law 604 = .ok (.iadd, 1) := zd_875.2.2.2.2.1
theorem dL_law_605 : decode cL_law 605 = .ok (.iaload, 1) := zd_875.2.2.2.2.2.1
theorem dL_law_606 : decode cL_law 606 = .ok (.aload_n 0, 1) := zd_875.2.2.2.2.2.2.1
theorem dL_law_607 : decode cL_law 607 = .ok (.iload_n 3, 1) := zd_875.2.2.2.2.2.2.2
theorem zd_876 : (decode cL_law 608 = .ok (.iconst 2, 1)) ∧ (decode cL_law 609 = .ok (.iadd, 1)) ∧ (decode cL_law 610 = .ok (.iaload, 1)) ∧ (decode cL_law 611 = .ok (.invokevirtual 67, 3)) ∧ (decode cL_law 614 = .ok (.pop, 1)) ∧ (decode cL_law 615 = .ok (.goto 567, 3)) ∧ (decode cL_law 618 = .ok (.aload_n 1, 1)) ∧ (decode cL_law 619 = .ok (.aload_n 0, 1)) := by decide +kernel
theorem dL_law_608 : decode cL_law 608 = .ok (.iconst 2, 1) := zd_876.1
theorem dL_law_609 : decode cL_law 609 = .ok (.iadd, 1) := zd_876.2.1
theorem dL_law_610 : decode cL_law 610 = .ok (.iaload, 1) := zd_876.2.2.1
theorem dL_law_611 : decode cL_law 611 = .ok (.invokevirtual 67, 3) := zd_876.2.2.2.1
theorem dL_law_614 : decode cL_law 614 = .ok (.pop, 1) := zd_876.2.2.2.2.1
theorem dL_law_615 : decode cL_law 615 = .ok (.goto 567, 3) := zd_876.2.2.2.2.2.1
theorem dL_law_618 : decode cL_law 618 = .ok (.aload_n 1, 1) := zd_876.2.2.2.2.2.2.1
theorem dL_law_619 : decode cL_law 619 = .ok (.aload_n 0, 1) := zd_876.2.2.2.2.2.2.2
theorem zd_877 : (decode cL_law 620 = .ok (.iload_n 3, 1)) ∧ (decode cL_law 621 = .ok (.iconst 1, 1)) ∧ (decode cL_law 622 = .ok (.iadd, 1)) ∧ (decode cL_law 623 = .ok (.iaload, 1)) ∧ (decode cL_law 624 = .ok (.aload_n 0, 1)) ∧ (decode cL_law 625 = .ok (.iload_n 3, 1)) ∧ (decode cL_law 626 = .ok (.iconst 2, 1)) ∧ (decode cL_law 627 = .ok (.iadd, 1)) := by decide +kernel
theorem dL_law_620 : decode cL_law 620 = .ok (.iload_n 3, 1) := zd_877.1
theorem dL_law_621 : decode cL_law 621 = .ok (.iconst 1, 1) := zd_877.2.1
theorem dL_law_622 : decode cL_law 622 = .ok (.iadd, 1) := zd_877.2.2.1
theorem dL_law_623 : decode cL_law 623 = .ok (.iaload, 1) := zd_877.2.2.2.1
theorem dL_law_624 : decode cL_law 624 = .ok (.aload_n 0, 1) := zd_877.2.2.2.2.1
theorem dL_law_625 : decode cL_law 625 = .ok (.iload_n 3, 1) := zd_877.2.2.2.2.2.1
theorem dL_law_626 : decode cL_law 626 = .ok (.iconst 2, 1) := zd_877.2.2.2.2.2.2.1
theorem dL_law_627 : decode cL_law 627 = .ok (.iadd, 1) := zd_877.2.2.2.2.2.2.2
theorem zd_878 : (decode cL_law 628 = .ok (.iaload, 1)) ∧ (decode cL_law 629 = .ok (.aload_n 0, 1)) ∧ (decode cL_law 630 = .ok (.iload_n 3, 1)) ∧ (decode cL_law 631 = .ok (.iconst 3, 1)) ∧ (decode cL_law 632 = .ok (.iadd, 1)) ∧ (decode cL_law 633 = .ok (.iaload, 1)) ∧ (decode cL_law 634 = .ok (.aload_n 0, 1)) ∧ (decode cL_law 635 = .ok (.iload_n 3, 1)) := by decide +kernel
theorem dL_law_628 : decode cL_law 628 = .ok (.iaload, 1) := zd_878.1
theorem dL_law_629 : decode cL_law 629 = .ok (.aload_n 0, 1) := zd_878.2.1
theorem dL_law_630 : decode cL_law 630 = .ok (.iload_n 3, 1) := zd_878.2.2.1
theorem dL_law_631 : decode cL_law 631 = .ok (.iconst 3, 1) := zd_878.2.2.2.1
theorem dL_law_632 : decode cL_law 632 = .ok (.iadd, 1) := zd_878.2.2.2.2.1
theorem dL_law_633 : decode cL_law 633 = .ok (.iaload, 1) := zd_878.2.2.2.2.2.1
theorem dL_law_634 : decode cL_law 634 = .ok (.aload_n 0, 1) := zd_878.2.2.2.2.2.2.1
theorem dL_law_635 : decode cL_law 635 = .ok (.iload_n 3, 1) := zd_878.2.2.2.2.2.2.2
theorem zd_879 : (decode cL_law 636 = .ok (.iconst 4, 1)) ∧ (decode cL_law 637 = .ok (.iadd, 1)) ∧ (decode cL_law 638 = .ok (.iaload, 1)) ∧ (decode cL_law 639 = .ok (.aload_n 0, 1)) ∧ (decode cL_law 640 = .ok (.iload_n 3, 1)) ∧ (decode cL_law 641 = .ok (.iconst 5, 1)) ∧ (decode cL_law 642 = .ok (.iadd, 1)) ∧ (decode cL_law 643 = .ok (.iaload, 1)) := by decide +kernel
theorem dL_law_636 : decode cL_law 636 = .ok (.iconst 4, 1) := zd_879.1
theorem dL_law_637 : decode cL_law 637 = .ok (.iadd, 1) := zd_879.2.1
theorem dL_law_638 : decode cL_law 638 = .ok (.iaload, 1) := zd_879.2.2.1
theorem dL_law_639 : decode cL_law 639 = .ok (.aload_n 0, 1) := zd_879.2.2.2.1
theorem dL_law_640 : decode cL_law 640 = .ok (.iload_n 3, 1) := zd_879.2.2.2.2.1
theorem dL_law_641 : decode cL_law 641 = .ok (.iconst 5, 1) := zd_879.2.2.2.2.2.1
theorem dL_law_642 : decode cL_law 642 = .ok (.iadd, 1) := zd_879.2.2.2.2.2.2.1
theorem dL_law_643 : decode cL_law 643 = .ok (.iaload, 1) := zd_879.2.2.2.2.2.2.2
theorem zd_880 : (decode cL_law 644 = .ok (.invokevirtual 68, 3)) ∧ (decode cL_law 647 = .ok (.pop, 1)) ∧ (decode cL_law 648 = .ok (.aload_n 2, 1)) ∧ (decode cL_law 649 = .ok (.aload_n 0, 1)) ∧ (decode cL_law 650 = .ok (.iload_n 3, 1)) ∧ (decode cL_law 651 = .ok (.iconst 1, 1)) ∧ (decode cL_law 652 = .ok (.iadd, 1)) ∧ (decode cL_law 653 = .ok (.iaload, 1)) := by decide +kernel
theorem dL_law_644 : decode cL_law 644 = .ok (.invokevirtual 68, 3) := zd_880.1
theorem dL_law_647 : decode cL_law 647 = .ok (.pop, 1) := zd_880.2.1
theorem dL_law_648 : decode cL_law 648 = .ok (.aload_n 2, 1) := zd_880.2.2.1
theorem dL_law_649 : decode cL_law 649 = .ok (.aload_n 0, 1) := zd_880.2.2.2.1
theorem dL_law_650 : decode cL_law 650 = .ok (.iload_n 3, 1) := zd_880.2.2.2.2.1
theorem dL_law_651 : decode cL_law 651 = .ok (.iconst 1, 1) := zd_880.2.2.2.2.2.1
theorem dL_law_652 : decode cL_law 652 = .ok (.iadd, 1) := zd_880.2.2.2.2.2.2.1
theorem dL_law_653 : decode cL_law 653 = .ok (.iaload, 1) := zd_880.2.2.2.2.2.2.2
theorem zd_881 : (decode cL_law 654 = .ok (.aload_n 0, 1)) ∧ (decode cL_law 655 = .ok (.iload_n 3, 1)) ∧ (decode cL_law 656 = .ok (.iconst 2, 1)) ∧ (decode cL_law 657 = .ok (.iadd, 1)) ∧ (decode cL_law 658 = .ok (.iaload, 1)) ∧ (decode cL_law 659 = .ok (.aload_n 0, 1)) ∧ (decode cL_law 660 = .ok (.iload_n 3, 1)) ∧ (decode cL_law 661 = .ok (.iconst 3, 1)) := by decide +kernel
theorem dL_law_654 : decode cL_law 654 = .ok (.aload_n 0, 1) := zd_881.1
theorem dL_law_655 : decode cL_law 655 = .ok (.iload_n 3, 1) := zd_881.2.1
theorem dL_law_656 : decode cL_law 656 = .ok (.iconst 2, 1) := zd_881.2.2.1
theorem dL_law_657 : decode cL_law 657 = .ok (.iadd, 1) := zd_881.2.2.2.1
theorem dL_law_658 : decode cL_law 658 = .ok (.iaload, 1) := zd_881.2.2.2.2.1
theorem dL_law_659 : decode cL_law 659 = .ok (.aload_n 0, 1) := zd_881.2.2.2.2.2.1
theorem dL_law_660 : decode cL_law 660 = .ok (.iload_n 3, 1) := zd_881.2.2.2.2.2.2.1
theorem dL_law_661 : decode cL_law 661 = .ok (.iconst 3, 1) := zd_881.2.2.2.2.2.2.2
theorem zd_882 : (decode cL_law 662 = .ok (.iadd, 1)) ∧ (decode cL_law 663 = .ok (.iaload, 1)) ∧ (decode cL_law 664 = .ok (.aload_n 0, 1)) ∧ (decode cL_law 665 = .ok (.iload_n 3, 1)) ∧ (decode cL_law 666 = .ok (.iconst 4, 1)) ∧ (decode cL_law 667 = .ok (.iadd, 1)) ∧ (decode cL_law 668 = .ok (.iaload, 1)) ∧ (decode cL_law 669 = .ok (.aload_n 0, 1)) := by decide +kernel
theorem dL_law_662 : decode cL_law 662 = .ok (.iadd, 1) := zd_882.1
theorem dL_law_663 : decode cL_law 663 = .ok (.iaload, 1) := zd_882.2.1
theorem dL_law_664 : decode cL_law 664 = .ok (.aload_n 0, 1) := zd_882.2.2.1
theorem dL_law_665 : decode cL_law 665 = .ok (.iload_n 3, 1) := zd_882.2.2.2.1
theorem dL_law_666 : decode cL_law 666 = .ok (.iconst 4, 1) := zd_882.2.2.2.2.1
theorem dL_law_667 : decode cL_law 667 = .ok (.iadd, 1) := zd_882.2.2.2.2.2.1
theorem dL_law_668 : decode cL_law 668 = .ok (.iaload, 1) := zd_882.2.2.2.2.2.2.1
theorem dL_law_669 : decode cL_law 669 = .ok (.aload_n 0, 1) := zd_882.2.2.2.2.2.2.2
theorem zd_883 : (decode cL_law 670 = .ok (.iload_n 3, 1)) ∧ (decode cL_law 671 = .ok (.iconst 5, 1)) ∧ (decode cL_law 672 = .ok (.iadd, 1)) ∧ (decode cL_law 673 = .ok (.iaload, 1)) ∧ (decode cL_law 674 = .ok (.invokevirtual 72, 3)) ∧ (decode cL_law 677 = .ok (.pop, 1)) ∧ (decode cL_law 678 = .ok (.goto 504, 3)) ∧ (decode cL_law 681 = .ok (.aload_n 1, 1)) := by decide +kernel
theorem dL_law_670 : decode cL_law 670 = .ok (.iload_n 3, 1) := zd_883.1
theorem dL_law_671 : decode cL_law 671 = .ok (.iconst 5, 1) := zd_883.2.1
theorem dL_law_672 : decode cL_law 672 = .ok (.iadd, 1) := zd_883.2.2.1
theorem dL_law_673 : decode cL_law 673 = .ok (.iaload, 1) := zd_883.2.2.2.1
theorem dL_law_674 : decode cL_law 674 = .ok (.invokevirtual 72, 3) := zd_883.2.2.2.2.1
theorem dL_law_677 : decode cL_law 677 = .ok (.pop, 1) := zd_883.2.2.2.2.2.1
theorem dL_law_678 : decode cL_law 678 = .ok (.goto 504, 3) := zd_883.2.2.2.2.2.2.1
theorem dL_law_681 : decode cL_law 681 = .ok (.aload_n 1, 1) := zd_883.2.2.2.2.2.2.2
theorem zd_884 : (decode cL_law 682 = .ok (.aload_n 0, 1)) ∧ (decode cL_law 683 = .ok (.iload_n 3, 1)) ∧ (decode cL_law 684 = .ok (.iconst 1, 1)) ∧ (decode cL_law 685 = .ok (.iadd, 1)) ∧ (decode cL_law 686 = .ok (.iaload, 1)) ∧ (decode cL_law 687 = .ok (.invokevirtual 73, 3)) ∧ (decode cL_law 690 = .ok (.pop, 1)) ∧ (decode cL_law 691 = .ok (.aload_n 2, 1)) := by decide +kernel
theorem dL_law_682 : decode cL_law 682 = .ok (.aload_n 0, 1) := zd_884.1
theorem dL_law_683 : decode cL_law 683 = .ok (.iload_n 3, 1) := zd_884.2.1
theorem dL_law_684 : decode cL_law 684 = .ok (.iconst 1, 1) := zd_884.2.2.1
theorem dL_law_685 : decode cL_law 685 = .ok (.iadd, 1) := zd_884.2.2.2.1
theorem dL_law_686 : decode cL_law 686 = .ok (.iaload, 1) := zd_884.2.2.2.2.1
theorem dL_law_687 : decode cL_law 687 = .ok (.invokevirtual 73, 3) := zd_884.2.2.2.2.2.1
theorem dL_law_690 : decode cL_law 690 = .ok (.pop, 1) := zd_884.2.2.2.2.2.2.1
theorem dL_law_691 : decode cL_law 691 = .ok (.aload_n 2, 1) := zd_884.2.2.2.2.2.2.2
theorem zd_885 : (decode cL_law 692 = .ok (.aload_n 0, 1)) ∧ (decode cL_law 693 = .ok (.iload_n 3, 1)) ∧ (decode cL_law 694 = .ok (.iconst 1, 1)) ∧ (decode cL_law 695 = .ok (.iadd, 1)) ∧ (decode cL_law 696 = .ok (.iaload, 1)) ∧ (decode cL_law 697 = .ok (.invokevirtual 76, 3)) ∧ (decode cL_law 700 = .ok (.pop, 1)) ∧ (decode cL_law 701 = .ok (.goto 481, 3)) := by decide +kernel
theorem dL_law_692 : decode cL_law 692 = .ok (.aload_n 0, 1) := zd_885.1
theorem dL_law_693 : decode cL_law 693 = .ok (.iload_n 3, 1) := zd_885.2.1
theorem dL_law_694 : decode cL_law 694 = .ok (.iconst 1, 1) := zd_885.2.2.1
theorem dL_law_695 : decode cL_law 695 = .ok (.iadd, 1) := zd_885.2.2.2.1
theorem dL_law_696 : decode cL_law 696 = .ok (.iaload, 1) := zd_885.2.2.2.2.1
theorem dL_law_697 : decode cL_law 697 = .ok (.invokevirtual 76, 3) := zd_885.2.2.2.2.2.1
theorem dL_law_700 : decode cL_law 700 = .ok (.pop, 1) := zd_885.2.2.2.2.2.2.1
theorem dL_law_701 : decode cL_law 701 = .ok (.goto 481, 3) := zd_885.2.2.2.2.2.2.2
theorem zd_886 : (decode cL_law 704 = .ok (.aload_n 1, 1)) ∧ (decode cL_law 705 = .ok (.aload_n 0, 1)) ∧ (decode cL_law 706 = .ok (.iload_n 3, 1)) ∧ (decode cL_law 707 = .ok (.iconst 1, 1)) ∧ (decode cL_law 708 = .ok (.iadd, 1)) ∧ (decode cL_law 709 = .ok (.iaload, 1)) ∧ (decode cL_law 710 = .ok (.aload_n 0, 1)) ∧ (decode cL_law 711 = .ok (.iload_n 3, 1)) := by decide +kernel
theorem dL_law_704 : decode cL_law 704 = .ok (.aload_n 1, 1) := zd_886.1
theorem dL_law_705 : decode cL_law 705 = .ok (.aload_n 0, 1) := zd_886.2.1
theorem dL_law_706 : decode cL_law 706 = .ok (.iload_n 3, 1) := zd_886.2.2.1
theorem dL_law_707 : decode cL_law 707 = .ok (.iconst 1, 1) := zd_886.2.2.2.1
theorem dL_law_708 : decode cL_law 708 = .ok (.iadd, 1) := zd_886.2.2.2.2.1
theorem dL_law_709 : decode cL_law 709 = .ok (.iaload, 1) := zd_886.2.2.2.2.2.1
theorem dL_law_710 : decode cL_law 710 = .ok (.aload_n 0, 1) := zd_886.2.2.2.2.2.2.1
theorem dL_law_711 : decode cL_law 711 = .ok (.iload_n 3, 1) := zd_886.2.2.2.2.2.2.2
theorem zd_887 : (decode cL_law 712 = .ok (.iconst 2, 1)) ∧ (decode cL_law 713 = .ok (.iadd, 1)) ∧ (decode cL_law 714 = .ok (.iaload, 1)) ∧ (decode cL_law 715 = .ok (.aload_n 0, 1)) ∧ (decode cL_law 716 = .ok (.iload_n 3, 1)) ∧ (decode cL_law 717 = .ok (.iconst 3, 1)) ∧ (decode cL_law 718 = .ok (.iadd, 1)) ∧ (decode cL_law 719 = .ok (.iaload, 1)) := by decide +kernel
theorem dL_law_712 : decode cL_law 712 = .ok (.iconst 2, 1) := zd_887.1
theorem dL_law_713 : decode cL_law 713 = .ok (.iadd, 1) := zd_887.2.1
theorem dL_law_714 : decode cL_law 714 = .ok (.iaload, 1) := zd_887.2.2.1
theorem dL_law_715 : decode cL_law 715 = .ok (.aload_n 0, 1) := zd_887.2.2.2.1
theorem dL_law_716 : decode cL_law 716 = .ok (.iload_n 3, 1) := zd_887.2.2.2.2.1
theorem dL_law_717 : decode cL_law 717 = .ok (.iconst 3, 1) := zd_887.2.2.2.2.2.1
theorem dL_law_718 : decode cL_law 718 = .ok (.iadd, 1) := zd_887.2.2.2.2.2.2.1
theorem dL_law_719 : decode cL_law 719 = .ok (.iaload, 1) := zd_887.2.2.2.2.2.2.2
theorem zd_888 : (decode cL_law 720 = .ok (.invokevirtual 77, 3)) ∧ (decode cL_law 723 = .ok (.pop, 1)) ∧ (decode cL_law 724 = .ok (.aload_n 2, 1)) ∧ (decode cL_law 725 = .ok (.aload_n 0, 1)) ∧ (decode cL_law 726 = .ok (.iload_n 3, 1)) ∧ (decode cL_law 727 = .ok (.iconst 1, 1)) ∧ (decode cL_law 728 = .ok (.iadd, 1)) ∧ (decode cL_law 729 = .ok (.iaload, 1)) := by decide +kernel
theorem dL_law_720 : decode cL_law 720 = .ok (.invokevirtual 77, 3) := zd_888.1
theorem dL_law_723 : decode cL_law 723 = .ok (.pop, 1) := zd_888.2.1
theorem dL_law_724 : decode cL_law 724 = .ok (.aload_n 2, 1) := zd_888.2.2.1
theorem dL_law_725 : decode cL_law 725 = .ok (.aload_n 0, 1) := zd_888.2.2.2.1
theorem dL_law_726 : decode cL_law 726 = .ok (.iload_n 3, 1) := zd_888.2.2.2.2.1
theorem dL_law_727 : decode cL_law 727 = .ok (.iconst 1, 1) := zd_888.2.2.2.2.2.1
theorem dL_law_728 : decode cL_law 728 = .ok (.iadd, 1) := zd_888.2.2.2.2.2.2.1
theorem dL_law_729 : decode cL_law 729 = .ok (.iaload, 1) := zd_888.2.2.2.2.2.2.2
theorem zd_889 : (decode cL_law 730 = .ok (.aload_n 0, 1)) ∧ (decode cL_law 731 = .ok (.iload_n 3, 1)) ∧ (decode cL_law 732 = .ok (.iconst 2, 1)) ∧ (decode cL_law 733 = .ok (.iadd, 1)) ∧ (decode cL_law 734 = .ok (.iaload, 1)) ∧ (decode cL_law 735 = .ok (.aload_n 0, 1)) ∧ (decode cL_law 736 = .ok (.iload_n 3, 1)) ∧ (decode cL_law 737 = .ok (.iconst 3, 1)) := by decide +kernel
theorem dL_law_730 : decode cL_law 730 = .ok (.aload_n 0, 1) := zd_889.1
theorem dL_law_731 : decode cL_law 731 = .ok (.iload_n 3, 1) := zd_889.2.1
theorem dL_law_732 : decode cL_law 732 = .ok (.iconst 2, 1) := zd_889.2.2.1
theorem dL_law_733 : decode cL_law 733 = .ok (.iadd, 1) := zd_889.2.2.2.1
theorem dL_law_734 : decode cL_law 734 = .ok (.iaload, 1) := zd_889.2.2.2.2.1
theorem dL_law_735 : decode cL_law 735 = .ok (.aload_n 0, 1) := zd_889.2.2.2.2.2.1
theorem dL_law_736 : decode cL_law 736 = .ok (.iload_n 3, 1) := zd_889.2.2.2.2.2.2.1
theorem dL_law_737 : decode cL_law 737 = .ok (.iconst 3, 1) := zd_889.2.2.2.2.2.2.2
theorem zd_890 : (decode cL_law 738 = .ok (.iadd, 1)) ∧ (decode cL_law 739 = .ok (.iaload, 1)) ∧ (decode cL_law 740 = .ok (.invokevirtual 80, 3)) ∧ (decode cL_law 743 = .ok (.pop, 1)) ∧ (decode cL_law 744 = .ok (.goto 438, 3)) ∧ (decode cL_law 747 = .ok (.aload_n 1, 1)) ∧ (decode cL_law 748 = .ok (.aload_n 0, 1)) ∧ (decode cL_law 749 = .ok (.iload_n 3, 1)) := by decide +kernel
theorem dL_law_738 : decode cL_law 738 = .ok (.iadd, 1) := zd_890.1
theorem dL_law_739 : decode cL_law 739 = .ok (.iaload, 1) := zd_890.2.1
theorem dL_law_740 : decode cL_law 740 = .ok (.invokevirtual 80, 3) := zd_890.2.2.1
theorem dL_law_743 : decode cL_law 743 = .ok (.pop, 1) := zd_890.2.2.2.1
theorem dL_law_744 : decode cL_law 744 = .ok (.goto 438, 3) := zd_890.2.2.2.2.1
theorem dL_law_747 : decode cL_law 747 = .ok (.aload_n 1, 1) := zd_890.2.2.2.2.2.1
theorem dL_law_748 : decode cL_law 748 = .ok (.aload_n 0, 1) := zd_890.2.2.2.2.2.2.1
theorem dL_law_749 : decode cL_law 749 = .ok (.iload_n 3, 1) := zd_890.2.2.2.2.2.2.2
theorem zd_891 : (decode cL_law 750 = .ok (.iconst 1, 1)) ∧ (decode cL_law 751 = .ok (.iadd, 1)) ∧ (decode cL_law 752 = .ok (.iaload, 1)) ∧ (decode cL_law 753 = .ok (.invokevirtual 81, 3)) ∧ (decode cL_law 756 = .ok (.pop, 1)) ∧ (decode cL_law 757 = .ok (.aload_n 2, 1)) ∧ (decode cL_law 758 = .ok (.aload_n 0, 1)) ∧ (decode cL_law 759 = .ok (.iload_n 3, 1)) := by decide +kernel
theorem dL_law_750 : decode cL_law 750 = .ok (.iconst 1, 1) := zd_891.1
theorem dL_law_751 : decode cL_law 751 = .ok (.iadd, 1) := zd_891.2.1
theorem dL_law_752 : decode cL_law 752 = .ok (.iaload, 1) := zd_891.2.2.1
theorem dL_law_753 : decode cL_law 753 = .ok (.invokevirtual 81, 3) := zd_891.2.2.2.1
theorem dL_law_756 : decode cL_law 756 = .ok (.pop, 1) := zd_891.2.2.2.2.1
theorem dL_law_757 : decode cL_law 757 = .ok (.aload_n 2, 1) := zd_891.2.2.2.2.2.1
theorem dL_law_758 : decode cL_law 758 = .ok (.aload_n 0, 1) := zd_891.2.2.2.2.2.2.1
theorem dL_law_759 : decode cL_law 759 = .ok (.iload_n 3, 1) := zd_891.2.2.2.2.2.2.2
theorem zd_892 : (decode cL_law 760 = .ok (.iconst 1, 1)) ∧ (decode cL_law 761 = .ok (.iadd, 1)) ∧ (decode cL_law 762 = .ok (.iaload, 1)) ∧ (decode cL_law 763 = .ok (.invokevirtual 84, 3)) ∧ (decode cL_law 766 = .ok (.pop, 1)) ∧ (decode cL_law 767 = .ok (.goto 415, 3)) ∧ (decode cL_law 770 = .ok (.aload_n 1, 1)) ∧ (decode cL_law 771 = .ok (.invokevirtual 85, 3)) := by decide +kernel
theorem dL_law_760 : decode cL_law 760 = .ok (.iconst 1, 1) := zd_892.1
theorem dL_law_761 : decode cL_law 761 = .ok (.iadd, 1) := zd_892.2.1
theorem dL_law_762 : decode cL_law 762 = .ok (.iaload, 1) := zd_892.2.2.1
theorem dL_law_763 : decode cL_law 763 = .ok (.invokevirtual 84, 3) := zd_892.2.2.2.1
theorem dL_law_766 : decode cL_law 766 = .ok (.pop, 1) := zd_892.2.2.2.2.1
theorem dL_law_767 : decode cL_law 767 = .ok (.goto 415, 3) := zd_892.2.2.2.2.2.1
theorem dL_law_770 : decode cL_law 770 = .ok (.aload_n 1, 1) := zd_892.2.2.2.2.2.2.1
theorem dL_law_771 : decode cL_law 771 = .ok (.invokevirtual 85, 3) := zd_892.2.2.2.2.2.2.2
theorem zd_893 : (decode cL_law 774 = .ok (.pop, 1)) ∧ (decode cL_law 775 = .ok (.aload_n 2, 1)) ∧ (decode cL_law 776 = .ok (.invokevirtual 88, 3)) ∧ (decode cL_law 779 = .ok (.pop, 1)) ∧ (decode cL_law 780 = .ok (.goto 402, 3)) ∧ (decode cL_law 783 = .ok (.aload_n 1, 1)) ∧ (decode cL_law 784 = .ok (.aload_n 0, 1)) ∧ (decode cL_law 785 = .ok (.iload_n 3, 1)) := by decide +kernel
theorem dL_law_774 : decode cL_law 774 = .ok (.pop, 1) := zd_893.1
theorem dL_law_775 : decode cL_law 775 = .ok (.aload_n 2, 1) := zd_893.2.1
theorem dL_law_776 : decode cL_law 776 = .ok (.invokevirtual 88, 3) := zd_893.2.2.1
theorem dL_law_779 : decode cL_law 779 = .ok (.pop, 1) := zd_893.2.2.2.1
theorem dL_law_780 : decode cL_law 780 = .ok (.goto 402, 3) := zd_893.2.2.2.2.1
theorem dL_law_783 : decode cL_law 783 = .ok (.aload_n 1, 1) := zd_893.2.2.2.2.2.1
theorem dL_law_784 : decode cL_law 784 = .ok (.aload_n 0, 1) := zd_893.2.2.2.2.2.2.1
theorem dL_law_785 : decode cL_law 785 = .ok (.iload_n 3, 1) := zd_893.2.2.2.2.2.2.2
theorem zd_894 : (decode cL_law 786 = .ok (.iconst 1, 1)) ∧ (decode cL_law 787 = .ok (.iadd, 1)) ∧ (decode cL_law 788 = .ok (.iaload, 1)) ∧ (decode cL_law 789 = .ok (.invokevirtual 89, 3)) ∧ (decode cL_law 792 = .ok (.pop, 1)) ∧ (decode cL_law 793 = .ok (.aload_n 2, 1)) ∧ (decode cL_law 794 = .ok (.aload_n 0, 1)) ∧ (decode cL_law 795 = .ok (.iload_n 3, 1)) := by decide +kernel
theorem dL_law_786 : decode cL_law 786 = .ok (.iconst 1, 1) := zd_894.1
theorem dL_law_787 : decode cL_law 787 = .ok (.iadd, 1) := zd_894.2.1
theorem dL_law_788 : decode cL_law 788 = .ok (.iaload, 1) := zd_894.2.2.1
theorem dL_law_789 : decode cL_law 789 = .ok (.invokevirtual 89, 3) := zd_894.2.2.2.1
theorem dL_law_792 : decode cL_law 792 = .ok (.pop, 1) := zd_894.2.2.2.2.1
theorem dL_law_793 : decode cL_law 793 = .ok (.aload_n 2, 1) := zd_894.2.2.2.2.2.1
theorem dL_law_794 : decode cL_law 794 = .ok (.aload_n 0, 1) := zd_894.2.2.2.2.2.2.1
theorem dL_law_795 : decode cL_law 795 = .ok (.iload_n 3, 1) := zd_894.2.2.2.2.2.2.2
theorem zd_895 : (decode cL_law 796 = .ok (.iconst 1, 1)) ∧ (decode cL_law 797 = .ok (.iadd, 1)) ∧ (decode cL_law 798 = .ok (.iaload, 1)) ∧ (decode cL_law 799 = .ok (.invokevirtual 92, 3)) ∧ (decode cL_law 802 = .ok (.pop, 1)) ∧ (decode cL_law 803 = .ok (.goto 379, 3)) ∧ (decode cL_law 806 = .ok (.aload_n 1, 1)) ∧ (decode cL_law 807 = .ok (.invokevirtual 93, 3)) := by decide +kernel
theorem dL_law_796 : decode cL_law 796 = .ok (.iconst 1, 1) := zd_895.1
theorem dL_law_797 : decode cL_law 797 = .ok (.iadd, 1) := zd_895.2.1
theorem dL_law_798 : decode cL_law 798 = .ok (.iaload, 1) := zd_895.2.2.1
theorem dL_law_799 : decode cL_law 799 = .ok (.invokevirtual 92, 3) := zd_895.2.2.2.1
theorem dL_law_802 : decode cL_law 802 = .ok (.pop, 1) := zd_895.2.2.2.2.1
theorem dL_law_803 : decode cL_law 803 = .ok (.goto 379, 3) := zd_895.2.2.2.2.2.1
theorem dL_law_806 : decode cL_law 806 = .ok (.aload_n 1, 1) := zd_895.2.2.2.2.2.2.1
theorem dL_law_807 : decode cL_law 807 = .ok (.invokevirtual 93, 3) := zd_895.2.2.2.2.2.2.2
theorem zd_896 : (decode cL_law 810 = .ok (.pop, 1)) ∧ (decode cL_law 811 = .ok (.aload_n 2, 1)) ∧ (decode cL_law 812 = .ok (.invokevirtual 96, 3)) ∧ (decode cL_law 815 = .ok (.pop, 1)) ∧ (decode cL_law 816 = .ok (.goto 366, 3)) ∧ (decode cL_law 819 = .ok (.aload_n 1, 1)) ∧ (decode cL_law 820 = .ok (.invokevirtual 97, 3)) ∧ (decode cL_law 823 = .ok (.pop, 1)) := by decide +kernel
theorem dL_law_810 : decode cL_law 810 = .ok (.pop, 1) := zd_896.1
theorem dL_law_811 : decode cL_law 811 = .ok (.aload_n 2, 1) := zd_896.2.1
theorem dL_law_812 : decode cL_law 812 = .ok (.invokevirtual 96, 3) := zd_896.2.2.1
theorem dL_law_815 : decode cL_law 815 = .ok (.pop, 1) := zd_896.2.2.2.1
theorem dL_law_816 : decode cL_law 816 = .ok (.goto 366, 3) := zd_896.2.2.2.2.1
theorem dL_law_819 : decode cL_law 819 = .ok (.aload_n 1, 1) := zd_896.2.2.2.2.2.1
theorem dL_law_820 : decode cL_law 820 = .ok (.invokevirtual 97, 3) := zd_896.2.2.2.2.2.2.1
theorem dL_law_823 : decode cL_law 823 = .ok (.pop, 1) := zd_896.2.2.2.2.2.2.2
theorem zd_897 : (decode cL_law 824 = .ok (.aload_n 2, 1)) ∧ (decode cL_law 825 = .ok (.invokevirtual 100, 3)) ∧ (decode cL_law 828 = .ok (.pop, 1)) ∧ (decode cL_law 829 = .ok (.goto 353, 3)) ∧ (decode cL_law 832 = .ok (.aload_n 1, 1)) ∧ (decode cL_law 833 = .ok (.aload_n 0, 1)) ∧ (decode cL_law 834 = .ok (.iload_n 3, 1)) ∧ (decode cL_law 835 = .ok (.iconst 1, 1)) := by decide +kernel
theorem dL_law_824 : decode cL_law 824 = .ok (.aload_n 2, 1) := zd_897.1
theorem dL_law_825 : decode cL_law 825 = .ok (.invokevirtual 100, 3) := zd_897.2.1
theorem dL_law_828 : decode cL_law 828 = .ok (.pop, 1) := zd_897.2.2.1
theorem dL_law_829 : decode cL_law 829 = .ok (.goto 353, 3) := zd_897.2.2.2.1
theorem dL_law_832 : decode cL_law 832 = .ok (.aload_n 1, 1) := zd_897.2.2.2.2.1
theorem dL_law_833 : decode cL_law 833 = .ok (.aload_n 0, 1) := zd_897.2.2.2.2.2.1
theorem dL_law_834 : decode cL_law 834 = .ok (.iload_n 3, 1) := zd_897.2.2.2.2.2.2.1
theorem dL_law_835 : decode cL_law 835 = .ok (.iconst 1, 1) := zd_897.2.2.2.2.2.2.2
theorem zd_898 : (decode cL_law 836 = .ok (.iadd, 1)) ∧ (decode cL_law 837 = .ok (.iaload, 1)) ∧ (decode cL_law 838 = .ok (.aload_n 0, 1)) ∧ (decode cL_law 839 = .ok (.iload_n 3, 1)) ∧ (decode cL_law 840 = .ok (.iconst 2, 1)) ∧ (decode cL_law 841 = .ok (.iadd, 1)) ∧ (decode cL_law 842 = .ok (.iaload, 1)) ∧ (decode cL_law 843 = .ok (.aload_n 0, 1)) := by decide +kernel
theorem dL_law_836 : decode cL_law 836 = .ok (.iadd, 1) := zd_898.1
theorem dL_law_837 : decode cL_law 837 = .ok (.iaload, 1) := zd_898.2.1
theorem dL_law_838 : decode cL_law 838 = .ok (.aload_n 0, 1) := zd_898.2.2.1
theorem dL_law_839 : decode cL_law 839 = .ok (.iload_n 3, 1) := zd_898.2.2.2.1
theorem dL_law_840 : decode cL_law 840 = .ok (.iconst 2, 1) := zd_898.2.2.2.2.1
theorem dL_law_841 : decode cL_law 841 = .ok (.iadd, 1) := zd_898.2.2.2.2.2.1
theorem dL_law_842 : decode cL_law 842 = .ok (.iaload, 1) := zd_898.2.2.2.2.2.2.1
theorem dL_law_843 : decode cL_law 843 = .ok (.aload_n 0, 1) := zd_898.2.2.2.2.2.2.2
theorem zd_899 : (decode cL_law 844 = .ok (.iload_n 3, 1)) ∧ (decode cL_law 845 = .ok (.iconst 3, 1)) ∧ (decode cL_law 846 = .ok (.iadd, 1)) ∧ (decode cL_law 847 = .ok (.iaload, 1)) ∧ (decode cL_law 848 = .ok (.invokevirtual 101, 3)) ∧ (decode cL_law 851 = .ok (.pop, 1)) ∧ (decode cL_law 852 = .ok (.aload_n 2, 1)) ∧ (decode cL_law 853 = .ok (.aload_n 0, 1)) := by decide +kernel
theorem dL_law_844 : decode cL_law 844 = .ok (.iload_n 3, 1) := zd_899.1
theorem dL_law_845 : decode cL_law 845 = .ok (.iconst 3, 1) := zd_899.2.1
theorem dL_law_846 : decode cL_law 846 = .ok (.iadd, 1) := zd_899.2.2.1
theorem dL_law_847 : decode cL_law 847 = .ok (.iaload, 1) := zd_899.2.2.2.1
theorem dL_law_848 : decode cL_law 848 = .ok (.invokevirtual 101, 3) := zd_899.2.2.2.2.1
theorem dL_law_851 : decode cL_law 851 = .ok (.pop, 1) := zd_899.2.2.2.2.2.1
theorem dL_law_852 : decode cL_law 852 = .ok (.aload_n 2, 1) := zd_899.2.2.2.2.2.2.1
theorem dL_law_853 : decode cL_law 853 = .ok (.aload_n 0, 1) := zd_899.2.2.2.2.2.2.2
theorem zd_900 : (decode cL_law 854 = .ok (.iload_n 3, 1)) ∧ (decode cL_law 855 = .ok (.iconst 1, 1)) ∧ (decode cL_law 856 = .ok (.iadd, 1)) ∧ (decode cL_law 857 = .ok (.iaload, 1)) ∧ (decode cL_law 858 = .ok (.aload_n 0, 1)) ∧ (decode cL_law 859 = .ok (.iload_n 3, 1)) ∧ (decode cL_law 860 = .ok (.iconst 2, 1)) ∧ (decode cL_law 861 = .ok (.iadd, 1)) := by decide +kernel
theorem dL_law_854 : decode cL_law 854 = .ok (.iload_n 3, 1) := zd_900.1
theorem dL_law_855 : decode cL_law 855 = .ok (.iconst 1, 1) := zd_900.2.1
theorem dL_law_856 : decode cL_law 856 = .ok (.iadd, 1) := zd_900.2.2.1
theorem dL_law_857 : decode cL_law 857 = .ok (.iaload, 1) := zd_900.2.2.2.1
theorem dL_law_858 : decode cL_law 858 = .ok (.aload_n 0, 1) := zd_900.2.2.2.2.1
theorem dL_law_859 : decode cL_law 859 = .ok (.iload_n 3, 1) := zd_900.2.2.2.2.2.1
theorem dL_law_860 : decode cL_law 860 = .ok (.iconst 2, 1) := zd_900.2.2.2.2.2.2.1
theorem dL_law_861 : decode cL_law 861 = .ok (.iadd, 1) := zd_900.2.2.2.2.2.2.2
theorem zd_901 : (decode cL_law 862 = .ok (.iaload, 1)) ∧ (decode cL_law 863 = .ok (.aload_n 0, 1)) ∧ (decode cL_law 864 = .ok (.iload_n 3, 1)) ∧ (decode cL_law 865 = .ok (.iconst 3, 1)) ∧ (decode cL_law 866 = .ok (.iadd, 1)) ∧ (decode cL_law 867 = .ok (.iaload, 1)) ∧ (decode cL_law 868 = .ok (.invokevirtual 104, 3)) ∧ (decode cL_law 871 = .ok (.pop, 1)) := by decide +kernel
theorem dL_law_862 : decode cL_law 862 = .ok (.iaload, 1) := zd_901.1
theorem dL_law_863 : decode cL_law 863 = .ok (.aload_n 0, 1) := zd_901.2.1
theorem dL_law_864 : decode cL_law 864 = .ok (.iload_n 3, 1) := zd_901.2.2.1
theorem dL_law_865 : decode cL_law 865 = .ok (.iconst 3, 1) := zd_901.2.2.2.1
theorem dL_law_866 : decode cL_law 866 = .ok (.iadd, 1) := zd_901.2.2.2.2.1
theorem dL_law_867 : decode cL_law 867 = .ok (.iaload, 1) := zd_901.2.2.2.2.2.1
theorem dL_law_868 : decode cL_law 868 = .ok (.invokevirtual 104, 3) := zd_901.2.2.2.2.2.2.1
theorem dL_law_871 : decode cL_law 871 = .ok (.pop, 1) := zd_901.2.2.2.2.2.2.2
theorem zd_902 : (decode cL_law 872 = .ok (.goto 310, 3)) ∧ (decode cL_law 875 = .ok (.aload_n 1, 1)) ∧ (decode cL_law 876 = .ok (.aload_n 0, 1)) ∧ (decode cL_law 877 = .ok (.iload_n 3, 1)) ∧ (decode cL_law 878 = .ok (.iconst 1, 1)) ∧ (decode cL_law 879 = .ok (.iadd, 1)) ∧ (decode cL_law 880 = .ok (.iaload, 1)) ∧ (decode cL_law 881 = .ok (.aload_n 0, 1)) := by decide +kernel
theorem dL_law_872 : decode cL_law 872 = .ok (.goto 310, 3) := zd_902.1
theorem dL_law_875 : decode cL_law 875 = .ok (.aload_n 1, 1) := zd_902.2.1
theorem dL_law_876 : decode cL_law 876 = .ok (.aload_n 0, 1) := zd_902.2.2.1
theorem dL_law_877 : decode cL_law 877 = .ok (.iload_n 3, 1) := zd_902.2.2.2.1
theorem dL_law_878 : decode cL_law 878 = .ok (.iconst 1, 1) := zd_902.2.2.2.2.1
theorem dL_law_879 : decode cL_law 879 = .ok (.iadd, 1) := zd_902.2.2.2.2.2.1
theorem dL_law_880 : decode cL_law 880 = .ok (.iaload, 1) := zd_902.2.2.2.2.2.2.1
theorem dL_law_881 : decode cL_law 881 = .ok (.aload_n 0, 1) := zd_902.2.2.2.2.2.2.2
theorem zd_903 : (decode cL_law 882 = .ok (.iload_n 3, 1)) ∧ (decode cL_law 883 = .ok (.iconst 2, 1)) ∧ (decode cL_law 884 = .ok (.iadd, 1)) ∧ (decode cL_law 885 = .ok (.iaload, 1)) ∧ (decode cL_law 886 = .ok (.aload_n 0, 1)) ∧ (decode cL_law 887 = .ok (.iload_n 3, 1)) ∧ (decode cL_law 888 = .ok (.iconst 3, 1)) ∧ (decode cL_law 889 = .ok (.iadd, 1)) := by decide +kernel
theorem dL_law_882 : decode cL_law 882 = .ok (.iload_n 3, 1) := zd_903.1
theorem dL_law_883 : decode cL_law 883 = .ok (.iconst 2, 1) := zd_903.2.1
theorem dL_law_884 : decode cL_law 884 = .ok (.iadd, 1) := zd_903.2.2.1
theorem dL_law_885 : decode cL_law 885 = .ok (.iaload, 1) := zd_903.2.2.2.1
theorem dL_law_886 : decode cL_law 886 = .ok (.aload_n 0, 1) := zd_903.2.2.2.2.1
theorem dL_law_887 : decode cL_law 887 = .ok (.iload_n 3, 1) := zd_903.2.2.2.2.2.1
theorem dL_law_888 : decode cL_law 888 = .ok (.iconst 3, 1) := zd_903.2.2.2.2.2.2.1
theorem dL_law_889 : decode cL_law 889 = .ok (.iadd, 1) := zd_903.2.2.2.2.2.2.2
theorem zd_904 : (decode cL_law 890 = .ok (.iaload, 1)) ∧ (decode cL_law 891 = .ok (.invokevirtual 105, 3)) ∧ (decode cL_law 894 = .ok (.pop, 1)) ∧ (decode cL_law 895 = .ok (.aload_n 2, 1)) ∧ (decode cL_law 896 = .ok (.aload_n 0, 1)) ∧ (decode cL_law 897 = .ok (.iload_n 3, 1)) ∧ (decode cL_law 898 = .ok (.iconst 1, 1)) ∧ (decode cL_law 899 = .ok (.iadd, 1)) := by decide +kernel
theorem dL_law_890 : decode cL_law 890 = .ok (.iaload, 1) := zd_904.1
theorem dL_law_891 : decode cL_law 891 = .ok (.invokevirtual 105, 3) := zd_904.2.1
theorem dL_law_894 : decode cL_law 894 = .ok (.pop, 1) := zd_904.2.2.1
theorem dL_law_895 : decode cL_law 895 = .ok (.aload_n 2, 1) := zd_904.2.2.2.1
theorem dL_law_896 : decode cL_law 896 = .ok (.aload_n 0, 1) := zd_904.2.2.2.2.1
theorem dL_law_897 : decode cL_law 897 = .ok (.iload_n 3, 1) := zd_904.2.2.2.2.2.1
theorem dL_law_898 : decode cL_law 898 = .ok (.iconst 1, 1) := zd_904.2.2.2.2.2.2.1
theorem dL_law_899 : decode cL_law 899 = .ok (.iadd, 1) := zd_904.2.2.2.2.2.2.2
theorem zd_905 : (decode cL_law 900 = .ok (.iaload, 1)) ∧ (decode cL_law 901 = .ok (.aload_n 0, 1)) ∧ (decode cL_law 902 = .ok (.iload_n 3, 1)) ∧ (decode cL_law 903 = .ok (.iconst 2, 1)) ∧ (decode cL_law 904 = .ok (.iadd, 1)) ∧ (decode cL_law 905 = .ok (.iaload, 1)) ∧ (decode cL_law 906 = .ok (.aload_n 0, 1)) ∧ (decode cL_law 907 = .ok (.iload_n 3, 1)) := by decide +kernel
theorem dL_law_900 : decode cL_law 900 = .ok (.iaload, 1) := zd_905.1
theorem dL_law_901 : decode cL_law 901 = .ok (.aload_n 0, 1) := zd_905.2.1
theorem dL_law_902 : decode cL_law 902 = .ok (.iload_n 3, 1) := zd_905.2.2.1
theorem dL_law_903 : decode cL_law 903 = .ok (.iconst 2, 1) := zd_905.2.2.2.1
theorem dL_law_904 : decode cL_law 904 = .ok (.iadd, 1) := zd_905.2.2.2.2.1
theorem dL_law_905 : decode cL_law 905 = .ok (.iaload, 1) := zd_905.2.2.2.2.2.1
theorem dL_law_906 : decode cL_law 906 = .ok (.aload_n 0, 1) := zd_905.2.2.2.2.2.2.1
theorem dL_law_907 : decode cL_law 907 = .ok (.iload_n 3, 1) := zd_905.2.2.2.2.2.2.2
theorem zd_906 : (decode cL_law 908 = .ok (.iconst 3, 1)) ∧ (decode cL_law 909 = .ok (.iadd, 1)) ∧ (decode cL_law 910 = .ok (.iaload, 1)) ∧ (decode cL_law 911 = .ok (.invokevirtual 108, 3)) ∧ (decode cL_law 914 = .ok (.pop, 1)) ∧ (decode cL_law 915 = .ok (.goto 267, 3)) ∧ (decode cL_law 918 = .ok (.aload_n 1, 1)) ∧ (decode cL_law 919 = .ok (.aload_n 0, 1)) := by decide +kernel
theorem dL_law_908 : decode cL_law 908 = .ok (.iconst 3, 1) := zd_906.1
theorem dL_law_909 : decode cL_law 909 = .ok (.iadd, 1) := zd_906.2.1
theorem dL_law_910 : decode cL_law 910 = .ok (.iaload, 1) := zd_906.2.2.1
theorem dL_law_911 : decode cL_law 911 = .ok (.invokevirtual 108, 3) := zd_906.2.2.2.1
theorem dL_law_914 : decode cL_law 914 = .ok (.pop, 1) := zd_906.2.2.2.2.1
theorem dL_law_915 : decode cL_law 915 = .ok (.goto 267, 3) := zd_906.2.2.2.2.2.1
theorem dL_law_918 : decode cL_law 918 = .ok (.aload_n 1, 1) := zd_906.2.2.2.2.2.2.1
theorem dL_law_919 : decode cL_law 919 = .ok (.aload_n 0, 1) := zd_906.2.2.2.2.2.2.2
theorem zd_907 : (decode cL_law 920 = .ok (.iload_n 3, 1)) ∧ (decode cL_law 921 = .ok (.iconst 1, 1)) ∧ (decode cL_law 922 = .ok (.iadd, 1)) ∧ (decode cL_law 923 = .ok (.iaload, 1)) ∧ (decode cL_law 924 = .ok (.aload_n 0, 1)) ∧ (decode cL_law 925 = .ok (.iload_n 3, 1)) ∧ (decode cL_law 926 = .ok (.iconst 2, 1)) ∧ (decode cL_law 927 = .ok (.iadd, 1)) := by decide +kernel
theorem dL_law_920 : decode cL_law 920 = .ok (.iload_n 3, 1) := zd_907.1
theorem dL_law_921 : decode cL_law 921 = .ok (.iconst 1, 1) := zd_907.2.1
theorem dL_law_922 : decode cL_law 922 = .ok (.iadd, 1) := zd_907.2.2.1
theorem dL_law_923 : decode cL_law 923 = .ok (.iaload, 1) := zd_907.2.2.2.1
theorem dL_law_924 : decode cL_law 924 = .ok (.aload_n 0, 1) := zd_907.2.2.2.2.1
theorem dL_law_925 : decode cL_law 925 = .ok (.iload_n 3, 1) := zd_907.2.2.2.2.2.1
theorem dL_law_926 : decode cL_law 926 = .ok (.iconst 2, 1) := zd_907.2.2.2.2.2.2.1
theorem dL_law_927 : decode cL_law 927 = .ok (.iadd, 1) := zd_907.2.2.2.2.2.2.2
theorem zd_908 : (decode cL_law 928 = .ok (.iaload, 1)) ∧ (decode cL_law 929 = .ok (.invokevirtual 109, 3)) ∧ (decode cL_law 932 = .ok (.pop, 1)) ∧ (decode cL_law 933 = .ok (.aload_n 2, 1)) ∧ (decode cL_law 934 = .ok (.aload_n 0, 1)) ∧ (decode cL_law 935 = .ok (.iload_n 3, 1)) ∧ (decode cL_law 936 = .ok (.iconst 1, 1)) ∧ (decode cL_law 937 = .ok (.iadd, 1)) := by decide +kernel
theorem dL_law_928 : decode cL_law 928 = .ok (.iaload, 1) := zd_908.1
theorem dL_law_929 : decode cL_law 929 = .ok (.invokevirtual 109, 3) := zd_908.2.1
theorem dL_law_932 : decode cL_law 932 = .ok (.pop, 1) := zd_908.2.2.1
theorem dL_law_933 : decode cL_law 933 = .ok (.aload_n 2, 1) := zd_908.2.2.2.1
theorem dL_law_934 : decode cL_law 934 = .ok (.aload_n 0, 1) := zd_908.2.2.2.2.1
theorem dL_law_935 : decode cL_law 935 = .ok (.iload_n 3, 1) := zd_908.2.2.2.2.2.1
theorem dL_law_936 : decode cL_law 936 = .ok (.iconst 1, 1) := zd_908.2.2.2.2.2.2.1
theorem dL_law_937 : decode cL_law 937 = .ok (.iadd, 1) := zd_908.2.2.2.2.2.2.2
theorem zd_909 : (decode cL_law 938 = .ok (.iaload, 1)) ∧ (decode cL_law 939 = .ok (.aload_n 0, 1)) ∧ (decode cL_law 940 = .ok (.iload_n 3, 1)) ∧ (decode cL_law 941 = .ok (.iconst 2, 1)) ∧ (decode cL_law 942 = .ok (.iadd, 1)) ∧ (decode cL_law 943 = .ok (.iaload, 1)) ∧ (decode cL_law 944 = .ok (.invokevirtual 112, 3)) ∧ (decode cL_law 947 = .ok (.pop, 1)) := by decide +kernel
theorem dL_law_938 : decode cL_law 938 = .ok (.iaload, 1) := zd_909.1
theorem dL_law_939 : decode cL_law 939 = .ok (.aload_n 0, 1) := zd_909.2.1
theorem dL_law_940 : decode cL_law 940 = .ok (.iload_n 3, 1) := zd_909.2.2.1
theorem dL_law_941 : decode cL_law 941 = .ok (.iconst 2, 1) := zd_909.2.2.2.1
theorem dL_law_942 : decode cL_law 942 = .ok (.iadd, 1) := zd_909.2.2.2.2.1
theorem dL_law_943 : decode cL_law 943 = .ok (.iaload, 1) := zd_909.2.2.2.2.2.1
theorem dL_law_944 : decode cL_law 944 = .ok (.invokevirtual 112, 3) := zd_909.2.2.2.2.2.2.1
theorem dL_law_947 : decode cL_law 947 = .ok (.pop, 1) := zd_909.2.2.2.2.2.2.2
theorem zd_910 : (decode cL_law 948 = .ok (.goto 234, 3)) ∧ (decode cL_law 951 = .ok (.aload_n 1, 1)) ∧ (decode cL_law 952 = .ok (.aload_n 0, 1)) ∧ (decode cL_law 953 = .ok (.iload_n 3, 1)) ∧ (decode cL_law 954 = .ok (.iconst 1, 1)) ∧ (decode cL_law 955 = .ok (.iadd, 1)) ∧ (decode cL_law 956 = .ok (.iaload, 1)) ∧ (decode cL_law 957 = .ok (.aload_n 0, 1)) := by decide +kernel
theorem dL_law_948 : decode cL_law 948 = .ok (.goto 234, 3) := zd_910.1
theorem dL_law_951 : decode cL_law 951 = .ok (.aload_n 1, 1) := zd_910.2.1
theorem dL_law_952 : decode cL_law 952 = .ok (.aload_n 0, 1) := zd_910.2.2.1
theorem dL_law_953 : decode cL_law 953 = .ok (.iload_n 3, 1) := zd_910.2.2.2.1
theorem dL_law_954 : decode cL_law 954 = .ok (.iconst 1, 1) := zd_910.2.2.2.2.1
theorem dL_law_955 : decode cL_law 955 = .ok (.iadd, 1) := zd_910.2.2.2.2.2.1
theorem dL_law_956 : decode cL_law 956 = .ok (.iaload, 1) := zd_910.2.2.2.2.2.2.1
theorem dL_law_957 : decode cL_law 957 = .ok (.aload_n 0, 1) := zd_910.2.2.2.2.2.2.2
theorem zd_911 : (decode cL_law 958 = .ok (.iload_n 3, 1)) ∧ (decode cL_law 959 = .ok (.iconst 2, 1)) ∧ (decode cL_law 960 = .ok (.iadd, 1)) ∧ (decode cL_law 961 = .ok (.iaload, 1)) ∧ (decode cL_law 962 = .ok (.invokevirtual 113, 3)) ∧ (decode cL_law 965 = .ok (.pop, 1)) ∧ (decode cL_law 966 = .ok (.aload_n 2, 1)) ∧ (decode cL_law 967 = .ok (.aload_n 0, 1)) := by decide +kernel
theorem dL_law_958 : decode cL_law 958 = .ok (.iload_n 3, 1) := zd_911.1
theorem dL_law_959 : decode cL_law 959 = .ok (.iconst 2, 1) := zd_911.2.1
theorem dL_law_960 : decode cL_law 960 = .ok (.iadd, 1) := zd_911.2.2.1
theorem dL_law_961 : decode cL_law 961 = .ok (.iaload, 1) := zd_911.2.2.2.1
theorem dL_law_962 : decode cL_law 962 = .ok (.invokevirtual 113, 3) := zd_911.2.2.2.2.1
theorem dL_law_965 : decode cL_law 965 = .ok (.pop, 1) := zd_911.2.2.2.2.2.1
theorem dL_law_966 : decode cL_law 966 = .ok (.aload_n 2, 1) := zd_911.2.2.2.2.2.2.1
theorem dL_law_967 : decode cL_law 967 = .ok (.aload_n 0, 1) := zd_911.2.2.2.2.2.2.2
theorem zd_912 : (decode cL_law 968 = .ok (.iload_n 3, 1)) ∧ (decode cL_law 969 = .ok (.iconst 1, 1)) ∧ (decode cL_law 970 = .ok (.iadd, 1)) ∧ (decode cL_law 971 = .ok (.iaload, 1)) ∧ (decode cL_law 972 = .ok (.aload_n 0, 1)) ∧ (decode cL_law 973 = .ok (.iload_n 3, 1)) ∧ (decode cL_law 974 = .ok (.iconst 2, 1)) ∧ (decode cL_law 975 = .ok (.iadd, 1)) := by decide +kernel
theorem dL_law_968 : decode cL_law 968 = .ok (.iload_n 3, 1) := zd_912.1
theorem dL_law_969 : decode cL_law 969 = .ok (.iconst 1, 1) := zd_912.2.1
theorem dL_law_970 : decode cL_law 970 = .ok (.iadd, 1) := zd_912.2.2.1
theorem dL_law_971 : decode cL_law 971 = .ok (.iaload, 1) := zd_912.2.2.2.1
theorem dL_law_972 : decode cL_law 972 = .ok (.aload_n 0, 1) := zd_912.2.2.2.2.1
theorem dL_law_973 : decode cL_law 973 = .ok (.iload_n 3, 1) := zd_912.2.2.2.2.2.1
theorem dL_law_974 : decode cL_law 974 = .ok (.iconst 2, 1) := zd_912.2.2.2.2.2.2.1
theorem dL_law_975 : decode cL_law 975 = .ok (.iadd, 1) := zd_912.2.2.2.2.2.2.2
theorem zd_913 : (decode cL_law 976 = .ok (.iaload, 1)) ∧ (decode cL_law 977 = .ok (.invokevirtual 116, 3)) ∧ (decode cL_law 980 = .ok (.pop, 1)) ∧ (decode cL_law 981 = .ok (.goto 201, 3)) ∧ (decode cL_law 984 = .ok (.aload_n 1, 1)) ∧ (decode cL_law 985 = .ok (.aload_n 0, 1)) ∧ (decode cL_law 986 = .ok (.iload_n 3, 1)) ∧ (decode cL_law 987 = .ok (.iconst 1, 1)) := by decide +kernel
theorem dL_law_976 : decode cL_law 976 = .ok (.iaload, 1) := zd_913.1
theorem dL_law_977 : decode cL_law 977 = .ok (.invokevirtual 116, 3) := zd_913.2.1
theorem dL_law_980 : decode cL_law 980 = .ok (.pop, 1) := zd_913.2.2.1
theorem dL_law_981 : decode cL_law 981 = .ok (.goto 201, 3) := zd_913.2.2.2.1
theorem dL_law_984 : decode cL_law 984 = .ok (.aload_n 1, 1) := zd_913.2.2.2.2.1
theorem dL_law_985 : decode cL_law 985 = .ok (.aload_n 0, 1) := zd_913.2.2.2.2.2.1
theorem dL_law_986 : decode cL_law 986 = .ok (.iload_n 3, 1) := zd_913.2.2.2.2.2.2.1
theorem dL_law_987 : decode cL_law 987 = .ok (.iconst 1, 1) := zd_913.2.2.2.2.2.2.2
theorem zd_914 : (decode cL_law 988 = .ok (.iadd, 1)) ∧ (decode cL_law 989 = .ok (.iaload, 1)) ∧ (decode cL_law 990 = .ok (.aload_n 0, 1)) ∧ (decode cL_law 991 = .ok (.iload_n 3, 1)) ∧ (decode cL_law 992 = .ok (.iconst 2, 1)) ∧ (decode cL_law 993 = .ok (.iadd, 1)) ∧ (decode cL_law 994 = .ok (.iaload, 1)) ∧ (decode cL_law 995 = .ok (.invokevirtual 117, 3)) := by decide +kernel
theorem dL_law_988 : decode cL_law 988 = .ok (.iadd, 1) := zd_914.1
theorem dL_law_989 : decode cL_law 989 = .ok (.iaload, 1) := zd_914.2.1
theorem dL_law_990 : decode cL_law 990 = .ok (.aload_n 0, 1) := zd_914.2.2.1
theorem dL_law_991 : decode cL_law 991 = .ok (.iload_n 3, 1) := zd_914.2.2.2.1
theorem dL_law_992 : decode cL_law 992 = .ok (.iconst 2, 1) := zd_914.2.2.2.2.1
theorem dL_law_993 : decode cL_law 993 = .ok (.iadd, 1) := zd_914.2.2.2.2.2.1
theorem dL_law_994 : decode cL_law 994 = .ok (.iaload, 1) := zd_914.2.2.2.2.2.2.1
theorem dL_law_995 : decode cL_law 995 = .ok (.invokevirtual 117, 3) := zd_914.2.2.2.2.2.2.2
theorem zd_915 : (decode cL_law 998 = .ok (.pop, 1)) ∧ (decode cL_law 999 = .ok (.aload_n 2, 1)) ∧ (decode cL_law 1000 = .ok (.aload_n 0, 1)) ∧ (decode cL_law 1001 = .ok (.iload_n 3, 1)) ∧ (decode cL_law 1002 = .ok (.iconst 1, 1)) ∧ (decode cL_law 1003 = .ok (.iadd, 1)) ∧ (decode cL_law 1004 = .ok (.iaload, 1)) ∧ (decode cL_law 1005 = .ok (.aload_n 0, 1)) := by decide +kernel
theorem dL_law_998 : decode cL_law 998 = .ok (.pop, 1) := zd_915.1
theorem dL_law_999 : decode cL_law 999 = .ok (.aload_n 2, 1) := zd_915.2.1
theorem dL_law_1000 : decode cL_law 1000 = .ok (.aload_n 0, 1) := zd_915.2.2.1
theorem dL_law_1001 : decode cL_law 1001 = .ok (.iload_n 3, 1) := zd_915.2.2.2.1
theorem dL_law_1002 : decode cL_law 1002 = .ok (.iconst 1, 1) := zd_915.2.2.2.2.1
theorem dL_law_1003 : decode cL_law 1003 = .ok (.iadd, 1) := zd_915.2.2.2.2.2.1
theorem dL_law_1004 : decode cL_law 1004 = .ok (.iaload, 1) := zd_915.2.2.2.2.2.2.1
theorem dL_law_1005 : decode cL_law 1005 = .ok (.aload_n 0, 1) := zd_915.2.2.2.2.2.2.2
theorem zd_916 : (decode cL_law 1006 = .ok (.iload_n 3, 1)) ∧ (decode cL_law 1007 = .ok (.iconst 2, 1)) ∧ (decode cL_law 1008 = .ok (.iadd, 1)) ∧ (decode cL_law 1009 = .ok (.iaload, 1)) ∧ (decode cL_law 1010 = .ok (.invokevirtual 120, 3)) ∧ (decode cL_law 1013 = .ok (.pop, 1)) ∧ (decode cL_law 1014 = .ok (.goto 168, 3)) ∧ (decode cL_law 1017 = .ok (.aload_n 1, 1)) := by decide +kernel
theorem dL_law_1006 : decode cL_law 1006 = .ok (.iload_n 3, 1) := zd_916.1
theorem dL_law_1007 : decode cL_law 1007 = .ok (.iconst 2, 1) := zd_916.2.1
theorem dL_law_1008 : decode cL_law 1008 = .ok (.iadd, 1) := zd_916.2.2.1
theorem dL_law_1009 : decode cL_law 1009 = .ok (.iaload, 1) := zd_916.2.2.2.1
theorem dL_law_1010 : decode cL_law 1010 = .ok (.invokevirtual 120, 3) := zd_916.2.2.2.2.1
theorem dL_law_1013 : decode cL_law 1013 = .ok (.pop, 1) := zd_916.2.2.2.2.2.1
theorem dL_law_1014 : decode cL_law 1014 = .ok (.goto 168, 3) := zd_916.2.2.2.2.2.2.1
theorem dL_law_1017 : decode cL_law 1017 = .ok (.aload_n 1, 1) := zd_916.2.2.2.2.2.2.2
theorem zd_917 : (decode cL_law 1018 = .ok (.aload_n 0, 1)) ∧ (decode cL_law 1019 = .ok (.iload_n 3, 1)) ∧ (decode cL_law 1020 = .ok (.iconst 1, 1)) ∧ (decode cL_law 1021 = .ok (.iadd, 1)) ∧ (decode cL_law 1022 = .ok (.iaload, 1)) ∧ (decode cL_law 1023 = .ok (.aload_n 0, 1)) ∧ (decode cL_law 1024 = .ok (.iload_n 3, 1)) ∧ (decode cL_law 1025 = .ok (.iconst 2, 1)) := by decide +kernel
theorem dL_law_1018 : decode cL_law 1018 = .ok (.aload_n 0, 1) := zd_917.1
theorem dL_law_1019 : decode cL_law 1019 = .ok (.iload_n 3, 1) := zd_917.2.1
theorem dL_law_1020 : decode cL_law 1020 = .ok (.iconst 1, 1) := zd_917.2.2.1
theorem dL_law_1021 : decode cL_law 1021 = .ok (.iadd, 1) := zd_917.2.2.2.1
theorem dL_law_1022 : decode cL_law 1022 = .ok (.iaload, 1) := zd_917.2.2.2.2.1
theorem dL_law_1023 : decode cL_law 1023 = .ok (.aload_n 0, 1) := zd_917.2.2.2.2.2.1
theorem dL_law_1024 : decode cL_law 1024 = .ok (.iload_n 3, 1) := zd_917.2.2.2.2.2.2.1
theorem dL_law_1025 : decode cL_law 1025 = .ok (.iconst 2, 1) := zd_917.2.2.2.2.2.2.2
theorem zd_918 : (decode cL_law 1026 = .ok (.iadd, 1)) ∧ (decode cL_law 1027 = .ok (.iaload, 1)) ∧ (decode cL_law 1028 = .ok (.invokevirtual 121, 3)) ∧ (decode cL_law 1031 = .ok (.pop, 1)) ∧ (decode cL_law 1032 = .ok (.aload_n 2, 1)) ∧ (decode cL_law 1033 = .ok (.aload_n 0, 1)) ∧ (decode cL_law 1034 = .ok (.iload_n 3, 1)) ∧ (decode cL_law 1035 = .ok (.iconst 1, 1)) := by decide +kernel
theorem dL_law_1026 : decode cL_law 1026 = .ok (.iadd, 1) := zd_918.1
theorem dL_law_1027 : decode cL_law 1027 = .ok (.iaload, 1) := zd_918.2.1
theorem dL_law_1028 : decode cL_law 1028 = .ok (.invokevirtual 121, 3) := zd_918.2.2.1
theorem dL_law_1031 : decode cL_law 1031 = .ok (.pop, 1) := zd_918.2.2.2.1
theorem dL_law_1032 : decode cL_law 1032 = .ok (.aload_n 2, 1) := zd_918.2.2.2.2.1
theorem dL_law_1033 : decode cL_law 1033 = .ok (.aload_n 0, 1) := zd_918.2.2.2.2.2.1
theorem dL_law_1034 : decode cL_law 1034 = .ok (.iload_n 3, 1) := zd_918.2.2.2.2.2.2.1
theorem dL_law_1035 : decode cL_law 1035 = .ok (.iconst 1, 1) := zd_918.2.2.2.2.2.2.2
theorem zd_919 : (decode cL_law 1036 = .ok (.iadd, 1)) ∧ (decode cL_law 1037 = .ok (.iaload, 1)) ∧ (decode cL_law 1038 = .ok (.aload_n 0, 1)) ∧ (decode cL_law 1039 = .ok (.iload_n 3, 1)) ∧ (decode cL_law 1040 = .ok (.iconst 2, 1)) ∧ (decode cL_law 1041 = .ok (.iadd, 1)) ∧ (decode cL_law 1042 = .ok (.iaload, 1)) ∧ (decode cL_law 1043 = .ok (.invokevirtual 124, 3)) := by decide +kernel
theorem dL_law_1036 : decode cL_law 1036 = .ok (.iadd, 1) := zd_919.1
theorem dL_law_1037 : decode cL_law 1037 = .ok (.iaload, 1) := zd_919.2.1
theorem dL_law_1038 : decode cL_law 1038 = .ok (.aload_n 0, 1) := zd_919.2.2.1
theorem dL_law_1039 : decode cL_law 1039 = .ok (.iload_n 3, 1) := zd_919.2.2.2.1
theorem dL_law_1040 : decode cL_law 1040 = .ok (.iconst 2, 1) := zd_919.2.2.2.2.1
theorem dL_law_1041 : decode cL_law 1041 = .ok (.iadd, 1) := zd_919.2.2.2.2.2.1
theorem dL_law_1042 : decode cL_law 1042 = .ok (.iaload, 1) := zd_919.2.2.2.2.2.2.1
theorem dL_law_1043 : decode cL_law 1043 = .ok (.invokevirtual 124, 3) := zd_919.2.2.2.2.2.2.2
theorem zd_920 : (decode cL_law 1046 = .ok (.pop, 1)) ∧ (decode cL_law 1047 = .ok (.goto 135, 3)) ∧ (decode cL_law 1050 = .ok (.aload_n 1, 1)) ∧ (decode cL_law 1051 = .ok (.aload_n 0, 1)) ∧ (decode cL_law 1052 = .ok (.iload_n 3, 1)) ∧ (decode cL_law 1053 = .ok (.iconst 1, 1)) ∧ (decode cL_law 1054 = .ok (.iadd, 1)) ∧ (decode cL_law 1055 = .ok (.iaload, 1)) := by decide +kernel
theorem dL_law_1046 : decode cL_law 1046 = .ok (.pop, 1) := zd_920.1
theorem dL_law_1047 : decode cL_law 1047 = .ok (.goto 135, 3) := zd_920.2.1
theorem dL_law_1050 : decode cL_law 1050 = .ok (.aload_n 1, 1) := zd_920.2.2.1
theorem dL_law_1051 : decode cL_law 1051 = .ok (.aload_n 0, 1) := zd_920.2.2.2.1
theorem dL_law_1052 : decode cL_law 1052 = .ok (.iload_n 3, 1) := zd_920.2.2.2.2.1
theorem dL_law_1053 : decode cL_law 1053 = .ok (.iconst 1, 1) := zd_920.2.2.2.2.2.1
theorem dL_law_1054 : decode cL_law 1054 = .ok (.iadd, 1) := zd_920.2.2.2.2.2.2.1
theorem dL_law_1055 : decode cL_law 1055 = .ok (.iaload, 1) := zd_920.2.2.2.2.2.2.2
theorem zd_921 : (decode cL_law 1056 = .ok (.aload_n 0, 1)) ∧ (decode cL_law 1057 = .ok (.iload_n 3, 1)) ∧ (decode cL_law 1058 = .ok (.iconst 2, 1)) ∧ (decode cL_law 1059 = .ok (.iadd, 1)) ∧ (decode cL_law 1060 = .ok (.iaload, 1)) ∧ (decode cL_law 1061 = .ok (.aload_n 0, 1)) ∧ (decode cL_law 1062 = .ok (.iload_n 3, 1)) ∧ (decode cL_law 1063 = .ok (.iconst 3, 1)) := by decide +kernel
theorem dL_law_1056 : decode cL_law 1056 = .ok (.aload_n 0, 1) := zd_921.1
theorem dL_law_1057 : decode cL_law 1057 = .ok (.iload_n 3, 1) := zd_921.2.1
theorem dL_law_1058 : decode cL_law 1058 = .ok (.iconst 2, 1) := zd_921.2.2.1
theorem dL_law_1059 : decode cL_law 1059 = .ok (.iadd, 1) := zd_921.2.2.2.1
theorem dL_law_1060 : decode cL_law 1060 = .ok (.iaload, 1) := zd_921.2.2.2.2.1
theorem dL_law_1061 : decode cL_law 1061 = .ok (.aload_n 0, 1) := zd_921.2.2.2.2.2.1
theorem dL_law_1062 : decode cL_law 1062 = .ok (.iload_n 3, 1) := zd_921.2.2.2.2.2.2.1
theorem dL_law_1063 : decode cL_law 1063 = .ok (.iconst 3, 1) := zd_921.2.2.2.2.2.2.2
theorem zd_922 : (decode cL_law 1064 = .ok (.iadd, 1)) ∧ (decode cL_law 1065 = .ok (.iaload, 1)) ∧ (decode cL_law 1066 = .ok (.invokevirtual 125, 3)) ∧ (decode cL_law 1069 = .ok (.pop, 1)) ∧ (decode cL_law 1070 = .ok (.aload_n 2, 1)) ∧ (decode cL_law 1071 = .ok (.aload_n 0, 1)) ∧ (decode cL_law 1072 = .ok (.iload_n 3, 1)) ∧ (decode cL_law 1073 = .ok (.iconst 1, 1)) := by decide +kernel
theorem dL_law_1064 : decode cL_law 1064 = .ok (.iadd, 1) := zd_922.1
theorem dL_law_1065 : decode cL_law 1065 = .ok (.iaload, 1) := zd_922.2.1
theorem dL_law_1066 : decode cL_law 1066 = .ok (.invokevirtual 125, 3) := zd_922.2.2.1
theorem dL_law_1069 : decode cL_law 1069 = .ok (.pop, 1) := zd_922.2.2.2.1
theorem dL_law_1070 : decode cL_law 1070 = .ok (.aload_n 2, 1) := zd_922.2.2.2.2.1
theorem dL_law_1071 : decode cL_law 1071 = .ok (.aload_n 0, 1) := zd_922.2.2.2.2.2.1
theorem dL_law_1072 : decode cL_law 1072 = .ok (.iload_n 3, 1) := zd_922.2.2.2.2.2.2.1
theorem dL_law_1073 : decode cL_law 1073 = .ok (.iconst 1, 1) := zd_922.2.2.2.2.2.2.2
theorem zd_923 : (decode cL_law 1074 = .ok (.iadd, 1)) ∧ (decode cL_law 1075 = .ok (.iaload, 1)) ∧ (decode cL_law 1076 = .ok (.aload_n 0, 1)) ∧ (decode cL_law 1077 = .ok (.iload_n 3, 1)) ∧ (decode cL_law 1078 = .ok (.iconst 2, 1)) ∧ (decode cL_law 1079 = .ok (.iadd, 1)) ∧ (decode cL_law 1080 = .ok (.iaload, 1)) ∧ (decode cL_law 1081 = .ok (.aload_n 0, 1)) := by decide +kernel
theorem dL_law_1074 : decode cL_law 1074 = .ok (.iadd, 1) := zd_923.1
theorem dL_law_1075 : decode cL_law 1075 = .ok (.iaload, 1) := zd_923.2.1
theorem dL_law_1076 : decode cL_law 1076 = .ok (.aload_n 0, 1) := zd_923.2.2.1
theorem dL_law_1077 : decode cL_law 1077 = .ok (.iload_n 3, 1) := zd_923.2.2.2.1
theorem dL_law_1078 : decode cL_law 1078 = .ok (.iconst 2, 1) := zd_923.2.2.2.2.1
theorem dL_law_1079 : decode cL_law 1079 = .ok (.iadd, 1) := zd_923.2.2.2.2.2.1
theorem dL_law_1080 : decode cL_law 1080 = .ok (.iaload, 1) := zd_923.2.2.2.2.2.2.1
theorem dL_law_1081 : decode cL_law 1081 = .ok (.aload_n 0, 1) := zd_923.2.2.2.2.2.2.2
theorem zd_924 : (decode cL_law 1082 = .ok (.iload_n 3, 1)) ∧ (decode cL_law 1083 = .ok (.iconst 3, 1)) ∧ (decode cL_law 1084 = .ok (.iadd, 1)) ∧ (decode cL_law 1085 = .ok (.iaload, 1)) ∧ (decode cL_law 1086 = .ok (.invokevirtual 128, 3)) ∧ (decode cL_law 1089 = .ok (.pop, 1)) ∧ (decode cL_law 1090 = .ok (.goto 92, 3)) ∧ (decode cL_law 1093 = .ok (.aload_n 1, 1)) := by decide +kernel
theorem dL_law_1082 : decode cL_law 1082 = .ok (.iload_n 3, 1) := zd_924.1
theorem dL_law_1083 : decode cL_law 1083 = .ok (.iconst 3, 1) := zd_924.2.1
theorem dL_law_1084 : decode cL_law 1084 = .ok (.iadd, 1) := zd_924.2.2.1
theorem dL_law_1085 : decode cL_law 1085 = .ok (.iaload, 1) := zd_924.2.2.2.1
theorem dL_law_1086 : decode cL_law 1086 = .ok (.invokevirtual 128, 3) := zd_924.2.2.2.2.1
theorem dL_law_1089 : decode cL_law 1089 = .ok (.pop, 1) := zd_924.2.2.2.2.2.1
theorem dL_law_1090 : decode cL_law 1090 = .ok (.goto 92, 3) := zd_924.2.2.2.2.2.2.1
theorem dL_law_1093 : decode cL_law 1093 = .ok (.aload_n 1, 1) := zd_924.2.2.2.2.2.2.2
theorem zd_925 : (decode cL_law 1094 = .ok (.aload_n 0, 1)) ∧ (decode cL_law 1095 = .ok (.iload_n 3, 1)) ∧ (decode cL_law 1096 = .ok (.iconst 1, 1)) ∧ (decode cL_law 1097 = .ok (.iadd, 1)) ∧ (decode cL_law 1098 = .ok (.iaload, 1)) ∧ (decode cL_law 1099 = .ok (.aload_n 0, 1)) ∧ (decode cL_law 1100 = .ok (.iload_n 3, 1)) ∧ (decode cL_law 1101 = .ok (.iconst 2, 1)) := by decide +kernel
theorem dL_law_1094 : decode cL_law 1094 = .ok (.aload_n 0, 1) := zd_925.1
theorem dL_law_1095 : decode cL_law 1095 = .ok (.iload_n 3, 1) := zd_925.2.1
theorem dL_law_1096 : decode cL_law 1096 = .ok (.iconst 1, 1) := zd_925.2.2.1
theorem dL_law_1097 : decode cL_law 1097 = .ok (.iadd, 1) := zd_925.2.2.2.1
theorem dL_law_1098 : decode cL_law 1098 = .ok (.iaload, 1) := zd_925.2.2.2.2.1
theorem dL_law_1099 : decode cL_law 1099 = .ok (.aload_n 0, 1) := zd_925.2.2.2.2.2.1
theorem dL_law_1100 : decode cL_law 1100 = .ok (.iload_n 3, 1) := zd_925.2.2.2.2.2.2.1
theorem dL_law_1101 : decode cL_law 1101 = .ok (.iconst 2, 1) := zd_925.2.2.2.2.2.2.2
theorem zd_926 : (decode cL_law 1102 = .ok (.iadd, 1)) ∧ (decode cL_law 1103 = .ok (.iaload, 1)) ∧ (decode cL_law 1104 = .ok (.invokevirtual 129, 3)) ∧ (decode cL_law 1107 = .ok (.pop, 1)) ∧ (decode cL_law 1108 = .ok (.aload_n 2, 1)) ∧ (decode cL_law 1109 = .ok (.aload_n 0, 1)) ∧ (decode cL_law 1110 = .ok (.iload_n 3, 1)) ∧ (decode cL_law 1111 = .ok (.iconst 1, 1)) := by decide +kernel
theorem dL_law_1102 : decode cL_law 1102 = .ok (.iadd, 1) := zd_926.1
theorem dL_law_1103 : decode cL_law 1103 = .ok (.iaload, 1) := zd_926.2.1
theorem dL_law_1104 : decode cL_law 1104 = .ok (.invokevirtual 129, 3) := zd_926.2.2.1
theorem dL_law_1107 : decode cL_law 1107 = .ok (.pop, 1) := zd_926.2.2.2.1
theorem dL_law_1108 : decode cL_law 1108 = .ok (.aload_n 2, 1) := zd_926.2.2.2.2.1
theorem dL_law_1109 : decode cL_law 1109 = .ok (.aload_n 0, 1) := zd_926.2.2.2.2.2.1
theorem dL_law_1110 : decode cL_law 1110 = .ok (.iload_n 3, 1) := zd_926.2.2.2.2.2.2.1
theorem dL_law_1111 : decode cL_law 1111 = .ok (.iconst 1, 1) := zd_926.2.2.2.2.2.2.2
theorem zd_927 : (decode cL_law 1112 = .ok (.iadd, 1)) ∧ (decode cL_law 1113 = .ok (.iaload, 1)) ∧ (decode cL_law 1114 = .ok (.aload_n 0, 1)) ∧ (decode cL_law 1115 = .ok (.iload_n 3, 1)) ∧ (decode cL_law 1116 = .ok (.iconst 2, 1)) ∧ (decode cL_law 1117 = .ok (.iadd, 1)) ∧ (decode cL_law 1118 = .ok (.iaload, 1)) ∧ (decode cL_law 1119 = .ok (.invokevirtual 132, 3)) := by decide +kernel
theorem dL_law_1112 : decode cL_law 1112 = .ok (.iadd, 1) := zd_927.1
theorem dL_law_1113 : decode cL_law 1113 = .ok (.iaload, 1) := zd_927.2.1
theorem dL_law_1114 : decode cL_law 1114 = .ok (.aload_n 0, 1) := zd_927.2.2.1
theorem dL_law_1115 : decode cL_law 1115 = .ok (.iload_n 3, 1) := zd_927.2.2.2.1
theorem dL_law_1116 : decode cL_law 1116 = .ok (.iconst 2, 1) := zd_927.2.2.2.2.1
theorem dL_law_1117 : decode cL_law 1117 = .ok (.iadd, 1) := zd_927.2.2.2.2.2.1
theorem dL_law_1118 : decode cL_law 1118 = .ok (.iaload, 1) := zd_927.2.2.2.2.2.2.1
theorem dL_law_1119 : decode cL_law 1119 = .ok (.invokevirtual 132, 3) := zd_927.2.2.2.2.2.2.2
theorem zd_928 : (decode cL_law 1122 = .ok (.pop, 1)) ∧ (decode cL_law 1123 = .ok (.goto 59, 3)) ∧ (decode cL_law 1126 = .ok (.aload_n 1, 1)) ∧ (decode cL_law 1127 = .ok (.aload_n 0, 1)) ∧ (decode cL_law 1128 = .ok (.iload_n 3, 1)) ∧ (decode cL_law 1129 = .ok (.iconst 1, 1)) ∧ (decode cL_law 1130 = .ok (.iadd, 1)) ∧ (decode cL_law 1131 = .ok (.iaload, 1)) := by decide +kernel
theorem dL_law_1122 : decode cL_law 1122 = .ok (.pop, 1) := zd_928.1
theorem dL_law_1123 : decode cL_law 1123 = .ok (.goto 59, 3) := zd_928.2.1
theorem dL_law_1126 : decode cL_law 1126 = .ok (.aload_n 1, 1) := zd_928.2.2.1
theorem dL_law_1127 : decode cL_law 1127 = .ok (.aload_n 0, 1) := zd_928.2.2.2.1
theorem dL_law_1128 : decode cL_law 1128 = .ok (.iload_n 3, 1) := zd_928.2.2.2.2.1
theorem dL_law_1129 : decode cL_law 1129 = .ok (.iconst 1, 1) := zd_928.2.2.2.2.2.1
theorem dL_law_1130 : decode cL_law 1130 = .ok (.iadd, 1) := zd_928.2.2.2.2.2.2.1
theorem dL_law_1131 : decode cL_law 1131 = .ok (.iaload, 1) := zd_928.2.2.2.2.2.2.2
theorem zd_929 : (decode cL_law 1132 = .ok (.aload_n 0, 1)) ∧ (decode cL_law 1133 = .ok (.iload_n 3, 1)) ∧ (decode cL_law 1134 = .ok (.iconst 2, 1)) ∧ (decode cL_law 1135 = .ok (.iadd, 1)) ∧ (decode cL_law 1136 = .ok (.iaload, 1)) ∧ (decode cL_law 1137 = .ok (.invokevirtual 133, 3)) ∧ (decode cL_law 1140 = .ok (.pop, 1)) ∧ (decode cL_law 1141 = .ok (.aload_n 2, 1)) := by decide +kernel
theorem dL_law_1132 : decode cL_law 1132 = .ok (.aload_n 0, 1) := zd_929.1
theorem dL_law_1133 : decode cL_law 1133 = .ok (.iload_n 3, 1) := zd_929.2.1
theorem dL_law_1134 : decode cL_law 1134 = .ok (.iconst 2, 1) := zd_929.2.2.1
theorem dL_law_1135 : decode cL_law 1135 = .ok (.iadd, 1) := zd_929.2.2.2.1
theorem dL_law_1136 : decode cL_law 1136 = .ok (.iaload, 1) := zd_929.2.2.2.2.1
theorem dL_law_1137 : decode cL_law 1137 = .ok (.invokevirtual 133, 3) := zd_929.2.2.2.2.2.1
theorem dL_law_1140 : decode cL_law 1140 = .ok (.pop, 1) := zd_929.2.2.2.2.2.2.1
theorem dL_law_1141 : decode cL_law 1141 = .ok (.aload_n 2, 1) := zd_929.2.2.2.2.2.2.2
theorem zd_930 : (decode cL_law 1142 = .ok (.aload_n 0, 1)) ∧ (decode cL_law 1143 = .ok (.iload_n 3, 1)) ∧ (decode cL_law 1144 = .ok (.iconst 1, 1)) ∧ (decode cL_law 1145 = .ok (.iadd, 1)) ∧ (decode cL_law 1146 = .ok (.iaload, 1)) ∧ (decode cL_law 1147 = .ok (.aload_n 0, 1)) ∧ (decode cL_law 1148 = .ok (.iload_n 3, 1)) ∧ (decode cL_law 1149 = .ok (.iconst 2, 1)) := by decide +kernel
theorem dL_law_1142 : decode cL_law 1142 = .ok (.aload_n 0, 1) := zd_930.1
theorem dL_law_1143 : decode cL_law 1143 = .ok (.iload_n 3, 1) := zd_930.2.1
theorem dL_law_1144 : decode cL_law 1144 = .ok (.iconst 1, 1) := zd_930.2.2.1
theorem dL_law_1145 : decode cL_law 1145 = .ok (.iadd, 1) := zd_930.2.2.2.1
theorem dL_law_1146 : decode cL_law 1146 = .ok (.iaload, 1) := zd_930.2.2.2.2.1
theorem dL_law_1147 : decode cL_law 1147 = .ok (.aload_n 0, 1) := zd_930.2.2.2.2.2.1
theorem dL_law_1148 : decode cL_law 1148 = .ok (.iload_n 3, 1) := zd_930.2.2.2.2.2.2.1
theorem dL_law_1149 : decode cL_law 1149 = .ok (.iconst 2, 1) := zd_930.2.2.2.2.2.2.2
theorem zd_931 : (decode cL_law 1150 = .ok (.iadd, 1)) ∧ (decode cL_law 1151 = .ok (.iaload, 1)) ∧ (decode cL_law 1152 = .ok (.invokevirtual 136, 3)) ∧ (decode cL_law 1155 = .ok (.pop, 1)) ∧ (decode cL_law 1156 = .ok (.goto 26, 3)) ∧ (decode cL_law 1159 = .ok (.aload_n 1, 1)) ∧ (decode cL_law 1160 = .ok (.aload_n 0, 1)) ∧ (decode cL_law 1161 = .ok (.iload_n 3, 1)) := by decide +kernel
theorem dL_law_1150 : decode cL_law 1150 = .ok (.iadd, 1) := zd_931.1
theorem dL_law_1151 : decode cL_law 1151 = .ok (.iaload, 1) := zd_931.2.1
theorem dL_law_1152 : decode cL_law 1152 = .ok (.invokevirtual 136, 3) := zd_931.2.2.1
theorem dL_law_1155 : decode cL_law 1155 = .ok (.pop, 1) := zd_931.2.2.2.1
theorem dL_law_1156 : decode cL_law 1156 = .ok (.goto 26, 3) := zd_931.2.2.2.2.1
theorem dL_law_1159 : decode cL_law 1159 = .ok (.aload_n 1, 1) := zd_931.2.2.2.2.2.1
theorem dL_law_1160 : decode cL_law 1160 = .ok (.aload_n 0, 1) := zd_931.2.2.2.2.2.2.1
theorem dL_law_1161 : decode cL_law 1161 = .ok (.iload_n 3, 1) := zd_931.2.2.2.2.2.2.2
theorem zd_932 : (decode cL_law 1162 = .ok (.iconst 1, 1)) ∧ (decode cL_law 1163 = .ok (.iadd, 1)) ∧ (decode cL_law 1164 = .ok (.iaload, 1)) ∧ (decode cL_law 1165 = .ok (.invokevirtual 137, 3)) ∧ (decode cL_law 1168 = .ok (.pop, 1)) ∧ (decode cL_law 1169 = .ok (.aload_n 2, 1)) ∧ (decode cL_law 1170 = .ok (.aload_n 0, 1)) ∧ (decode cL_law 1171 = .ok (.iload_n 3, 1)) := by decide +kernel
theorem dL_law_1162 : decode cL_law 1162 = .ok (.iconst 1, 1) := zd_932.1
theorem dL_law_1163 : decode cL_law 1163 = .ok (.iadd, 1) := zd_932.2.1
theorem dL_law_1164 : decode cL_law 1164 = .ok (.iaload, 1) := zd_932.2.2.1
theorem dL_law_1165 : decode cL_law 1165 = .ok (.invokevirtual 137, 3) := zd_932.2.2.2.1
theorem dL_law_1168 : decode cL_law 1168 = .ok (.pop, 1) := zd_932.2.2.2.2.1
theorem dL_law_1169 : decode cL_law 1169 = .ok (.aload_n 2, 1) := zd_932.2.2.2.2.2.1
theorem dL_law_1170 : decode cL_law 1170 = .ok (.aload_n 0, 1) := zd_932.2.2.2.2.2.2.1
theorem dL_law_1171 : decode cL_law 1171 = .ok (.iload_n 3, 1) := zd_932.2.2.2.2.2.2.2
theorem zd_933 : (decode cL_law 1172 = .ok (.iconst 1, 1)) ∧ (decode cL_law 1173 = .ok (.iadd, 1)) ∧ (decode cL_law 1174 = .ok (.iaload, 1)) ∧ (decode cL_law 1175 = .ok (.invokevirtual 140, 3)) ∧ (decode cL_law 1178 = .ok (.pop, 1)) ∧ (decode cL_law 1179 = .ok (.goto 3, 3)) ∧ (decode cL_law 1182 = .ok (.iinc 3 8, 3)) ∧ (decode cL_law 1185 = .ok (.goto (-1167), 3)) := by decide +kernel
theorem dL_law_1172 : decode cL_law 1172 = .ok (.iconst 1, 1) := zd_933.1
theorem dL_law_1173 : decode cL_law 1173 = .ok (.iadd, 1) := zd_933.2.1
theorem dL_law_1174 : decode cL_law 1174 = .ok (.iaload, 1) := zd_933.2.2.1
theorem dL_law_1175 : decode cL_law 1175 = .ok (.invokevirtual 140, 3) := zd_933.2.2.2.1
theorem dL_law_1178 : decode cL_law 1178 = .ok (.pop, 1) := zd_933.2.2.2.2.1
theorem dL_law_1179 : decode cL_law 1179 = .ok (.goto 3, 3) := zd_933.2.2.2.2.2.1
theorem dL_law_1182 : decode cL_law 1182 = .ok (.iinc 3 8, 3) := zd_933.2.2.2.2.2.2.1
theorem dL_law_1185 : decode cL_law 1185 = .ok (.goto (-1167), 3) := zd_933.2.2.2.2.2.2.2
theorem zd_934 : (decode cL_law 1188 = .ok (.iconst 1, 1)) ∧ (decode cL_law 1189 = .ok (.ireturn, 1)) := by decide +kernel
theorem dL_law_1188 : decode cL_law 1188 = .ok (.iconst 1, 1) := zd_934.1
theorem dL_law_1189 : decode cL_law 1189 = .ok (.ireturn, 1) := zd_934.2
