/-! What each instruction of the law is. -/
theorem d_W_254 : decode code 254 = .ok (.aload_n 0, 1) := by decide +kernel
theorem d_W_255 : decode code 255 = .ok (.iload 4, 2) := by decide +kernel
theorem d_W_257 : decode code 257 = .ok (.iconst 2, 1) := by decide +kernel
theorem d_W_258 : decode code 258 = .ok (.iadd, 1) := by decide +kernel
theorem d_W_259 : decode code 259 = .ok (.iaload, 1) := by decide +kernel
theorem d_W_260 : decode code 260 = .ok (.aload_n 0, 1) := by decide +kernel
theorem d_W_261 : decode code 261 = .ok (.iload 4, 2) := by decide +kernel
theorem d_W_263 : decode code 263 = .ok (.iconst 3, 1) := by decide +kernel
theorem d_W_264 : decode code 264 = .ok (.iadd, 1) := by decide +kernel
theorem d_W_265 : decode code 265 = .ok (.iaload, 1) := by decide +kernel
theorem d_W_266 : decode code 266 = .ok (.i2l, 1) := by decide +kernel
theorem d_W_267 : decode code 267 = .ok (.bipush 32, 2) := by decide +kernel
theorem d_W_269 : decode code 269 = .ok (.lshl, 1) := by decide +kernel
theorem d_W_270 : decode code 270 = .ok (.aload_n 0, 1) := by decide +kernel
theorem d_W_271 : decode code 271 = .ok (.iload 4, 2) := by decide +kernel
theorem d_W_273 : decode code 273 = .ok (.iconst 4, 1) := by decide +kernel
theorem d_W_274 : decode code 274 = .ok (.iadd, 1) := by decide +kernel
theorem d_W_275 : decode code 275 = .ok (.iaload, 1) := by decide +kernel
theorem d_W_276 : decode code 276 = .ok (.i2l, 1) := by decide +kernel
theorem d_W_277 : decode code 277 = .ok (.ldc2_w 82, 3) := by decide +kernel
theorem d_W_280 : decode code 280 = .ok (.land, 1) := by decide +kernel
theorem d_W_281 : decode code 281 = .ok (.lor, 1) := by decide +kernel
theorem d_W_282 : decode code 282 = .ok (.invokevirtual 87, 3) := by decide +kernel
theorem d_W_285 : decode code 285 = .ok (.aload_n 2, 1) := by decide +kernel
theorem d_W_286 : decode code 286 = .ok (.invokevirtual 74, 3) := by decide +kernel
theorem d_W_289 : decode code 289 = .ok (.iload 5, 2) := by decide +kernel
theorem d_W_291 : decode code 291 = .ok (.if_icmp .eq 5, 3) := by decide +kernel
theorem d_W_294 : decode code 294 = .ok (.iconst 0, 1) := by decide +kernel
theorem d_W_295 : decode code 295 = .ok (.ireturn, 1) := by decide +kernel
theorem d_W_296 : decode code 296 = .ok (.goto 545, 3) := by decide +kernel
theorem d_W_299 : decode code 299 = .ok (.aload_n 1, 1) := by decide +kernel
theorem d_W_300 : decode code 300 = .ok (.aload_n 0, 1) := by decide +kernel
theorem d_W_301 : decode code 301 = .ok (.iload 4, 2) := by decide +kernel
theorem d_W_303 : decode code 303 = .ok (.iconst 1, 1) := by decide +kernel
theorem d_W_304 : decode code 304 = .ok (.iadd, 1) := by decide +kernel
theorem d_W_305 : decode code 305 = .ok (.iaload, 1) := by decide +kernel
theorem d_W_306 : decode code 306 = .ok (.aload_n 3, 1) := by decide +kernel
theorem d_W_307 : decode code 307 = .ok (.invokestatic 88, 3) := by decide +kernel
theorem d_W_310 : decode code 310 = .ok (.istore 5, 2) := by decide +kernel
theorem d_W_312 : decode code 312 = .ok (.aload_n 2, 1) := by decide +kernel
theorem d_W_313 : decode code 313 = .ok (.aload_n 0, 1) := by decide +kernel
theorem d_W_314 : decode code 314 = .ok (.iload 4, 2) := by decide +kernel
theorem d_W_316 : decode code 316 = .ok (.iconst 1, 1) := by decide +kernel
theorem d_W_317 : decode code 317 = .ok (.iadd, 1) := by decide +kernel
theorem d_W_318 : decode code 318 = .ok (.iaload, 1) := by decide +kernel
theorem d_W_319 : decode code 319 = .ok (.invokevirtual 91, 3) := by decide +kernel
theorem d_W_322 : decode code 322 = .ok (.istore 6, 2) := by decide +kernel
theorem d_W_324 : decode code 324 = .ok (.aload_n 2, 1) := by decide +kernel
theorem d_W_325 : decode code 325 = .ok (.invokevirtual 74, 3) := by decide +kernel
theorem d_W_328 : decode code 328 = .ok (.iload 5, 2) := by decide +kernel
theorem d_W_330 : decode code 330 = .ok (.if_icmp .eq 5, 3) := by decide +kernel
theorem d_W_333 : decode code 333 = .ok (.iconst 0, 1) := by decide +kernel
theorem d_W_334 : decode code 334 = .ok (.ireturn, 1) := by decide +kernel
theorem d_W_335 : decode code 335 = .ok (.iload 5, 2) := by decide +kernel
theorem d_W_337 : decode code 337 = .ok (.ifCond .ne 15, 3) := by decide +kernel
theorem d_W_340 : decode code 340 = .ok (.aload_n 3, 1) := by decide +kernel
theorem d_W_341 : decode code 341 = .ok (.iconst 0, 1) := by decide +kernel
theorem d_W_342 : decode code 342 = .ok (.laload, 1) := by decide +kernel
theorem d_W_343 : decode code 343 = .ok (.iload 6, 2) := by decide +kernel
theorem d_W_345 : decode code 345 = .ok (.i2l, 1) := by decide +kernel
theorem d_W_346 : decode code 346 = .ok (.lcmp, 1) := by decide +kernel
theorem d_W_347 : decode code 347 = .ok (.ifCond .eq 5, 3) := by decide +kernel
theorem d_W_350 : decode code 350 = .ok (.iconst 0, 1) := by decide +kernel
theorem d_W_351 : decode code 351 = .ok (.ireturn, 1) := by decide +kernel
theorem d_W_352 : decode code 352 = .ok (.goto 489, 3) := by decide +kernel
theorem d_W_355 : decode code 355 = .ok (.aload_n 1, 1) := by decide +kernel
theorem d_W_356 : decode code 356 = .ok (.aload_n 0, 1) := by decide +kernel
theorem d_W_357 : decode code 357 = .ok (.iload 4, 2) := by decide +kernel
theorem d_W_359 : decode code 359 = .ok (.iconst 1, 1) := by decide +kernel
theorem d_W_360 : decode code 360 = .ok (.iadd, 1) := by decide +kernel
theorem d_W_361 : decode code 361 = .ok (.iaload, 1) := by decide +kernel
theorem d_W_362 : decode code 362 = .ok (.invokestatic 92, 3) := by decide +kernel
theorem d_W_365 : decode code 365 = .ok (.istore 5, 2) := by decide +kernel
theorem d_W_367 : decode code 367 = .ok (.aload_n 2, 1) := by decide +kernel
theorem d_W_368 : decode code 368 = .ok (.aload_n 0, 1) := by decide +kernel
theorem d_W_369 : decode code 369 = .ok (.iload 4, 2) := by decide +kernel
theorem d_W_371 : decode code 371 = .ok (.iconst 1, 1) := by decide +kernel
theorem d_W_372 : decode code 372 = .ok (.iadd, 1) := by decide +kernel
theorem d_W_373 : decode code 373 = .ok (.iaload, 1) := by decide +kernel
theorem d_W_374 : decode code 374 = .ok (.invokevirtual 94, 3) := by decide +kernel
theorem d_W_377 : decode code 377 = .ok (.aload_n 2, 1) := by decide +kernel
theorem d_W_378 : decode code 378 = .ok (.invokevirtual 74, 3) := by decide +kernel
theorem d_W_381 : decode code 381 = .ok (.iload 5, 2) := by decide +kernel
theorem d_W_383 : decode code 383 = .ok (.if_icmp .eq 5, 3) := by decide +kernel
theorem d_W_386 : decode code 386 = .ok (.iconst 0, 1) := by decide +kernel
theorem d_W_387 : decode code 387 = .ok (.ireturn, 1) := by decide +kernel
theorem d_W_388 : decode code 388 = .ok (.goto 453, 3) := by decide +kernel
theorem d_W_391 : decode code 391 = .ok (.aload_n 1, 1) := by decide +kernel
theorem d_W_392 : decode code 392 = .ok (.aload_n 0, 1) := by decide +kernel
theorem d_W_393 : decode code 393 = .ok (.iload 4, 2) := by decide +kernel
theorem d_W_395 : decode code 395 = .ok (.iconst 1, 1) := by decide +kernel
theorem d_W_396 : decode code 396 = .ok (.iadd, 1) := by decide +kernel
theorem d_W_397 : decode code 397 = .ok (.iaload, 1) := by decide +kernel
theorem d_W_398 : decode code 398 = .ok (.invokestatic 95, 3) := by decide +kernel
theorem d_W_401 : decode code 401 = .ok (.istore 5, 2) := by decide +kernel
theorem d_W_403 : decode code 403 = .ok (.aload_n 2, 1) := by decide +kernel
theorem d_W_404 : decode code 404 = .ok (.aload_n 0, 1) := by decide +kernel
theorem d_W_405 : decode code 405 = .ok (.iload 4, 2) := by decide +kernel
theorem d_W_407 : decode code 407 = .ok (.iconst 1, 1) := by decide +kernel
theorem d_W_408 : decode code 408 = .ok (.iadd, 1) := by decide +kernel
theorem d_W_409 : decode code 409 = .ok (.iaload, 1) := by decide +kernel
theorem d_W_410 : decode code 410 = .ok (.invokevirtual 97, 3) := by decide +kernel
theorem d_W_413 : decode code 413 = .ok (.aload_n 2, 1) := by decide +kernel
theorem d_W_414 : decode code 414 = .ok (.invokevirtual 74, 3) := by decide +kernel
theorem d_W_417 : decode code 417 = .ok (.iload 5, 2) := by decide +kernel
theorem d_W_419 : decode code 419 = .ok (.if_icmp .eq 5, 3) := by decide +kernel
theorem d_W_422 : decode code 422 = .ok (.iconst 0, 1) := by decide +kernel
theorem d_W_423 : decode code 423 = .ok (.ireturn, 1) := by decide +kernel
theorem d_W_424 : decode code 424 = .ok (.goto 417, 3) := by decide +kernel
theorem d_W_427 : decode code 427 = .ok (.aload_n 1, 1) := by decide +kernel
theorem d_W_428 : decode code 428 = .ok (.aload_n 0, 1) := by decide +kernel
theorem d_W_429 : decode code 429 = .ok (.iload 4, 2) := by decide +kernel
theorem d_W_431 : decode code 431 = .ok (.iconst 1, 1) := by decide +kernel
theorem d_W_432 : decode code 432 = .ok (.iadd, 1) := by decide +kernel
theorem d_W_433 : decode code 433 = .ok (.iaload, 1) := by decide +kernel
theorem d_W_434 : decode code 434 = .ok (.aload_n 3, 1) := by decide +kernel
theorem d_W_435 : decode code 435 = .ok (.invokestatic 98, 3) := by decide +kernel
theorem d_W_438 : decode code 438 = .ok (.istore 5, 2) := by decide +kernel
theorem d_W_440 : decode code 440 = .ok (.aload_n 2, 1) := by decide +kernel
theorem d_W_441 : decode code 441 = .ok (.aload_n 0, 1) := by decide +kernel
theorem d_W_442 : decode code 442 = .ok (.iload 4, 2) := by decide +kernel
theorem d_W_444 : decode code 444 = .ok (.iconst 1, 1) := by decide +kernel
theorem d_W_445 : decode code 445 = .ok (.iadd, 1) := by decide +kernel
theorem d_W_446 : decode code 446 = .ok (.iaload, 1) := by decide +kernel
theorem d_W_447 : decode code 447 = .ok (.invokevirtual 100, 3) := by decide +kernel
theorem d_W_450 : decode code 450 = .ok (.istore 6, 2) := by decide +kernel
theorem d_W_452 : decode code 452 = .ok (.aload_n 2, 1) := by decide +kernel
