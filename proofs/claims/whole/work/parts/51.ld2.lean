/-! decode rows of the law's body -/
theorem d_Law_law_288 : decode code 288 = .ok (.iload 4, 2) := by decide +kernel
theorem d_Law_law_290 : decode code 290 = .ok (.iconst 4, 1) := by decide +kernel
theorem d_Law_law_291 : decode code 291 = .ok (.iadd, 1) := by decide +kernel
theorem d_Law_law_292 : decode code 292 = .ok (.iaload, 1) := by decide +kernel
theorem d_Law_law_293 : decode code 293 = .ok (.i2l, 1) := by decide +kernel
theorem d_Law_law_294 : decode code 294 = .ok (.ldc2_w 65, 3) := by decide +kernel
theorem d_Law_law_297 : decode code 297 = .ok (.land, 1) := by decide +kernel
theorem d_Law_law_298 : decode code 298 = .ok (.lor, 1) := by decide +kernel
theorem d_Law_law_299 : decode code 299 = .ok (.aload_n 0, 1) := by decide +kernel
theorem d_Law_law_300 : decode code 300 = .ok (.iload 4, 2) := by decide +kernel
theorem d_Law_law_302 : decode code 302 = .ok (.iconst 5, 1) := by decide +kernel
theorem d_Law_law_303 : decode code 303 = .ok (.iadd, 1) := by decide +kernel
theorem d_Law_law_304 : decode code 304 = .ok (.iaload, 1) := by decide +kernel
theorem d_Law_law_305 : decode code 305 = .ok (.ifCond .eq 7, 3) := by decide +kernel
theorem d_Law_law_308 : decode code 308 = .ok (.iconst 1, 1) := by decide +kernel
theorem d_Law_law_309 : decode code 309 = .ok (.goto 4, 3) := by decide +kernel
theorem d_Law_law_312 : decode code 312 = .ok (.iconst 0, 1) := by decide +kernel
theorem d_Law_law_313 : decode code 313 = .ok (.aload_n 3, 1) := by decide +kernel
theorem d_Law_law_314 : decode code 314 = .ok (.invokestatic 75, 3) := by decide +kernel
theorem d_Law_law_317 : decode code 317 = .ok (.istore 5, 2) := by decide +kernel
theorem d_Law_law_319 : decode code 319 = .ok (.aload_n 2, 1) := by decide +kernel
theorem d_Law_law_320 : decode code 320 = .ok (.aload_n 0, 1) := by decide +kernel
theorem d_Law_law_321 : decode code 321 = .ok (.iload 4, 2) := by decide +kernel
theorem d_Law_law_323 : decode code 323 = .ok (.iconst 1, 1) := by decide +kernel
theorem d_Law_law_324 : decode code 324 = .ok (.iadd, 1) := by decide +kernel
theorem d_Law_law_325 : decode code 325 = .ok (.iaload, 1) := by decide +kernel
theorem d_Law_law_326 : decode code 326 = .ok (.aload_n 0, 1) := by decide +kernel
theorem d_Law_law_327 : decode code 327 = .ok (.iload 4, 2) := by decide +kernel
theorem d_Law_law_329 : decode code 329 = .ok (.iconst 2, 1) := by decide +kernel
theorem d_Law_law_330 : decode code 330 = .ok (.iadd, 1) := by decide +kernel
theorem d_Law_law_331 : decode code 331 = .ok (.iaload, 1) := by decide +kernel
theorem d_Law_law_332 : decode code 332 = .ok (.aload_n 0, 1) := by decide +kernel
theorem d_Law_law_333 : decode code 333 = .ok (.iload 4, 2) := by decide +kernel
theorem d_Law_law_335 : decode code 335 = .ok (.iconst 3, 1) := by decide +kernel
theorem d_Law_law_336 : decode code 336 = .ok (.iadd, 1) := by decide +kernel
theorem d_Law_law_337 : decode code 337 = .ok (.iaload, 1) := by decide +kernel
theorem d_Law_law_338 : decode code 338 = .ok (.i2l, 1) := by decide +kernel
theorem d_Law_law_339 : decode code 339 = .ok (.bipush 32, 2) := by decide +kernel
theorem d_Law_law_341 : decode code 341 = .ok (.lshl, 1) := by decide +kernel
theorem d_Law_law_342 : decode code 342 = .ok (.aload_n 0, 1) := by decide +kernel
theorem d_Law_law_343 : decode code 343 = .ok (.iload 4, 2) := by decide +kernel
theorem d_Law_law_345 : decode code 345 = .ok (.iconst 4, 1) := by decide +kernel
theorem d_Law_law_346 : decode code 346 = .ok (.iadd, 1) := by decide +kernel
theorem d_Law_law_347 : decode code 347 = .ok (.iaload, 1) := by decide +kernel
theorem d_Law_law_348 : decode code 348 = .ok (.i2l, 1) := by decide +kernel
theorem d_Law_law_349 : decode code 349 = .ok (.ldc2_w 65, 3) := by decide +kernel
theorem d_Law_law_352 : decode code 352 = .ok (.land, 1) := by decide +kernel
theorem d_Law_law_353 : decode code 353 = .ok (.lor, 1) := by decide +kernel
theorem d_Law_law_354 : decode code 354 = .ok (.aload_n 0, 1) := by decide +kernel
theorem d_Law_law_355 : decode code 355 = .ok (.iload 4, 2) := by decide +kernel
theorem d_Law_law_357 : decode code 357 = .ok (.iconst 5, 1) := by decide +kernel
theorem d_Law_law_358 : decode code 358 = .ok (.iadd, 1) := by decide +kernel
theorem d_Law_law_359 : decode code 359 = .ok (.iaload, 1) := by decide +kernel
theorem d_Law_law_360 : decode code 360 = .ok (.ifCond .eq 7, 3) := by decide +kernel
theorem d_Law_law_363 : decode code 363 = .ok (.iconst 1, 1) := by decide +kernel
theorem d_Law_law_364 : decode code 364 = .ok (.goto 4, 3) := by decide +kernel
theorem d_Law_law_367 : decode code 367 = .ok (.iconst 0, 1) := by decide +kernel
theorem d_Law_law_368 : decode code 368 = .ok (.invokevirtual 78, 3) := by decide +kernel
theorem d_Law_law_371 : decode code 371 = .ok (.lstore 6, 2) := by decide +kernel
theorem d_Law_law_373 : decode code 373 = .ok (.aload_n 2, 1) := by decide +kernel
theorem d_Law_law_374 : decode code 374 = .ok (.invokevirtual 71, 3) := by decide +kernel
theorem d_Law_law_377 : decode code 377 = .ok (.iload 5, 2) := by decide +kernel
theorem d_Law_law_379 : decode code 379 = .ok (.if_icmp .eq 5, 3) := by decide +kernel
theorem d_Law_law_382 : decode code 382 = .ok (.iconst 0, 1) := by decide +kernel
theorem d_Law_law_383 : decode code 383 = .ok (.ireturn, 1) := by decide +kernel
theorem d_Law_law_384 : decode code 384 = .ok (.iload 5, 2) := by decide +kernel
theorem d_Law_law_386 : decode code 386 = .ok (.ifCond .ne 14, 3) := by decide +kernel
theorem d_Law_law_389 : decode code 389 = .ok (.aload_n 3, 1) := by decide +kernel
theorem d_Law_law_390 : decode code 390 = .ok (.iconst 0, 1) := by decide +kernel
theorem d_Law_law_391 : decode code 391 = .ok (.laload, 1) := by decide +kernel
theorem d_Law_law_392 : decode code 392 = .ok (.lload 6, 2) := by decide +kernel
theorem d_Law_law_394 : decode code 394 = .ok (.lcmp, 1) := by decide +kernel
theorem d_Law_law_395 : decode code 395 = .ok (.ifCond .eq 5, 3) := by decide +kernel
theorem d_Law_law_398 : decode code 398 = .ok (.iconst 0, 1) := by decide +kernel
theorem d_Law_law_399 : decode code 399 = .ok (.ireturn, 1) := by decide +kernel
theorem d_Law_law_400 : decode code 400 = .ok (.goto 782, 3) := by decide +kernel
theorem d_Law_law_403 : decode code 403 = .ok (.aload_n 1, 1) := by decide +kernel
theorem d_Law_law_404 : decode code 404 = .ok (.aload_n 0, 1) := by decide +kernel
theorem d_Law_law_405 : decode code 405 = .ok (.iload 4, 2) := by decide +kernel
theorem d_Law_law_407 : decode code 407 = .ok (.iconst 1, 1) := by decide +kernel
theorem d_Law_law_408 : decode code 408 = .ok (.iadd, 1) := by decide +kernel
theorem d_Law_law_409 : decode code 409 = .ok (.iaload, 1) := by decide +kernel
theorem d_Law_law_410 : decode code 410 = .ok (.aload_n 0, 1) := by decide +kernel
theorem d_Law_law_411 : decode code 411 = .ok (.iload 4, 2) := by decide +kernel
theorem d_Law_law_413 : decode code 413 = .ok (.iconst 2, 1) := by decide +kernel
theorem d_Law_law_414 : decode code 414 = .ok (.iadd, 1) := by decide +kernel
theorem d_Law_law_415 : decode code 415 = .ok (.iaload, 1) := by decide +kernel
theorem d_Law_law_416 : decode code 416 = .ok (.i2l, 1) := by decide +kernel
theorem d_Law_law_417 : decode code 417 = .ok (.bipush 32, 2) := by decide +kernel
theorem d_Law_law_419 : decode code 419 = .ok (.lshl, 1) := by decide +kernel
theorem d_Law_law_420 : decode code 420 = .ok (.aload_n 0, 1) := by decide +kernel
theorem d_Law_law_421 : decode code 421 = .ok (.iload 4, 2) := by decide +kernel
theorem d_Law_law_423 : decode code 423 = .ok (.iconst 3, 1) := by decide +kernel
theorem d_Law_law_424 : decode code 424 = .ok (.iadd, 1) := by decide +kernel
theorem d_Law_law_425 : decode code 425 = .ok (.iaload, 1) := by decide +kernel
theorem d_Law_law_426 : decode code 426 = .ok (.i2l, 1) := by decide +kernel
theorem d_Law_law_427 : decode code 427 = .ok (.ldc2_w 65, 3) := by decide +kernel
theorem d_Law_law_430 : decode code 430 = .ok (.land, 1) := by decide +kernel
theorem d_Law_law_431 : decode code 431 = .ok (.lor, 1) := by decide +kernel
theorem d_Law_law_432 : decode code 432 = .ok (.aload_n 0, 1) := by decide +kernel
theorem d_Law_law_433 : decode code 433 = .ok (.iload 4, 2) := by decide +kernel
theorem d_Law_law_435 : decode code 435 = .ok (.iconst 4, 1) := by decide +kernel
theorem d_Law_law_436 : decode code 436 = .ok (.iadd, 1) := by decide +kernel
theorem d_Law_law_437 : decode code 437 = .ok (.iaload, 1) := by decide +kernel
theorem d_Law_law_438 : decode code 438 = .ok (.ifCond .eq 7, 3) := by decide +kernel
theorem d_Law_law_441 : decode code 441 = .ok (.iconst 1, 1) := by decide +kernel
theorem d_Law_law_442 : decode code 442 = .ok (.goto 4, 3) := by decide +kernel
theorem d_Law_law_445 : decode code 445 = .ok (.iconst 0, 1) := by decide +kernel
theorem d_Law_law_446 : decode code 446 = .ok (.aload_n 3, 1) := by decide +kernel
theorem d_Law_law_447 : decode code 447 = .ok (.invokestatic 79, 3) := by decide +kernel
theorem d_Law_law_450 : decode code 450 = .ok (.istore 5, 2) := by decide +kernel
theorem d_Law_law_452 : decode code 452 = .ok (.aload_n 2, 1) := by decide +kernel
theorem d_Law_law_453 : decode code 453 = .ok (.aload_n 0, 1) := by decide +kernel
theorem d_Law_law_454 : decode code 454 = .ok (.iload 4, 2) := by decide +kernel
theorem d_Law_law_456 : decode code 456 = .ok (.iconst 1, 1) := by decide +kernel
theorem d_Law_law_457 : decode code 457 = .ok (.iadd, 1) := by decide +kernel
theorem d_Law_law_458 : decode code 458 = .ok (.iaload, 1) := by decide +kernel
theorem d_Law_law_459 : decode code 459 = .ok (.aload_n 0, 1) := by decide +kernel
theorem d_Law_law_460 : decode code 460 = .ok (.iload 4, 2) := by decide +kernel
theorem d_Law_law_462 : decode code 462 = .ok (.iconst 2, 1) := by decide +kernel
theorem d_Law_law_463 : decode code 463 = .ok (.iadd, 1) := by decide +kernel
theorem d_Law_law_464 : decode code 464 = .ok (.iaload, 1) := by decide +kernel
theorem d_Law_law_465 : decode code 465 = .ok (.i2l, 1) := by decide +kernel
theorem d_Law_law_466 : decode code 466 = .ok (.bipush 32, 2) := by decide +kernel
theorem d_Law_law_468 : decode code 468 = .ok (.lshl, 1) := by decide +kernel
theorem d_Law_law_469 : decode code 469 = .ok (.aload_n 0, 1) := by decide +kernel
theorem d_Law_law_470 : decode code 470 = .ok (.iload 4, 2) := by decide +kernel
theorem d_Law_law_472 : decode code 472 = .ok (.iconst 3, 1) := by decide +kernel
theorem d_Law_law_473 : decode code 473 = .ok (.iadd, 1) := by decide +kernel
theorem d_Law_law_474 : decode code 474 = .ok (.iaload, 1) := by decide +kernel
theorem d_Law_law_475 : decode code 475 = .ok (.i2l, 1) := by decide +kernel
theorem d_Law_law_476 : decode code 476 = .ok (.ldc2_w 65, 3) := by decide +kernel
theorem d_Law_law_479 : decode code 479 = .ok (.land, 1) := by decide +kernel
theorem d_Law_law_480 : decode code 480 = .ok (.lor, 1) := by decide +kernel
theorem d_Law_law_481 : decode code 481 = .ok (.aload_n 0, 1) := by decide +kernel
theorem d_Law_law_482 : decode code 482 = .ok (.iload 4, 2) := by decide +kernel
theorem d_Law_law_484 : decode code 484 = .ok (.iconst 4, 1) := by decide +kernel
theorem d_Law_law_485 : decode code 485 = .ok (.iadd, 1) := by decide +kernel
theorem d_Law_law_486 : decode code 486 = .ok (.iaload, 1) := by decide +kernel
theorem d_Law_law_487 : decode code 487 = .ok (.ifCond .eq 7, 3) := by decide +kernel
theorem d_Law_law_490 : decode code 490 = .ok (.iconst 1, 1) := by decide +kernel
theorem d_Law_law_491 : decode code 491 = .ok (.goto 4, 3) := by decide +kernel
theorem d_Law_law_494 : decode code 494 = .ok (.iconst 0, 1) := by decide +kernel
theorem d_Law_law_495 : decode code 495 = .ok (.invokevirtual 82, 3) := by decide +kernel
theorem d_Law_law_498 : decode code 498 = .ok (.lstore 6, 2) := by decide +kernel
theorem d_Law_law_500 : decode code 500 = .ok (.aload_n 2, 1) := by decide +kernel
theorem d_Law_law_501 : decode code 501 = .ok (.invokevirtual 71, 3) := by decide +kernel
theorem d_Law_law_504 : decode code 504 = .ok (.iload 5, 2) := by decide +kernel
theorem d_Law_law_506 : decode code 506 = .ok (.if_icmp .eq 5, 3) := by decide +kernel
theorem d_Law_law_509 : decode code 509 = .ok (.iconst 0, 1) := by decide +kernel
