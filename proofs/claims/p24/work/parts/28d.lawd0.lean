theorem d_lw_0 : decode code 0 = .ok (.new 8, 3) := by decide +kernel
theorem d_lw_3 : decode code 3 = .ok (.dup, 1) := by decide +kernel
theorem d_lw_4 : decode code 4 = .ok (.invokespecial 19, 3) := by decide +kernel
theorem d_lw_7 : decode code 7 = .ok (.astore_n 1, 1) := by decide +kernel
theorem d_lw_8 : decode code 8 = .ok (.new 20, 3) := by decide +kernel
theorem d_lw_11 : decode code 11 = .ok (.dup, 1) := by decide +kernel
theorem d_lw_12 : decode code 12 = .ok (.invokespecial 22, 3) := by decide +kernel
theorem d_lw_15 : decode code 15 = .ok (.astore_n 2, 1) := by decide +kernel
theorem d_lw_16 : decode code 16 = .ok (.iconst 1, 1) := by decide +kernel
theorem d_lw_17 : decode code 17 = .ok (.newarray .long, 2) := by decide +kernel
theorem d_lw_19 : decode code 19 = .ok (.astore_n 3, 1) := by decide +kernel
theorem d_lw_20 : decode code 20 = .ok (.iconst 0, 1) := by decide +kernel
theorem d_lw_21 : decode code 21 = .ok (.istore 4, 2) := by decide +kernel
theorem d_lw_23 : decode code 23 = .ok (.iload 4, 2) := by decide +kernel
theorem d_lw_25 : decode code 25 = .ok (.aload_n 0, 1) := by decide +kernel
theorem d_lw_26 : decode code 26 = .ok (.arraylength, 1) := by decide +kernel
theorem d_lw_27 : decode code 27 = .ok (.bipush 10, 2) := by decide +kernel
theorem d_lw_29 : decode code 29 = .ok (.isub, 1) := by decide +kernel
theorem d_lw_30 : decode code 30 = .ok (.if_icmp .gt 2168, 3) := by decide +kernel
theorem d_lw_33 : decode code 33 = .ok (.aload_n 0, 1) := by decide +kernel
theorem d_lw_34 : decode code 34 = .ok (.iload 4, 2) := by decide +kernel
theorem d_lw_36 : decode code 36 = .ok (.iaload, 1) := by decide +kernel
theorem d_lw_37 : decode code 37 = .ok (.bipush 63, 2) := by decide +kernel
theorem d_lw_39 : decode code 39 = .ok (.iand, 1) := by decide +kernel
theorem d_lw_40 : decode code 40 = .ok (.tableswitch 2152 0 47 #[208, 233, 258, 271, 311, 348, 385, 446, 495, 544, 593, 630, 667, 704, 765, 814, 827, 840, 853, 890, 903, 940, 989, 1038, 1075, 1136, 1161, 1198, 1235, 1272, 1341, 1378, 1415, 1440, 1513, 1538, 1587, 1600, 1727, 1916, 1941, 2010, 2023, 2036, 2049, 2074, 2099, 2124], 208) := by decide +kernel
theorem d_lw_248 : decode code 248 = .ok (.aload_n 1, 1) := by decide +kernel
theorem d_lw_249 : decode code 249 = .ok (.aload_n 0, 1) := by decide +kernel
theorem d_lw_250 : decode code 250 = .ok (.iload 4, 2) := by decide +kernel
theorem d_lw_252 : decode code 252 = .ok (.iconst 1, 1) := by decide +kernel
theorem d_lw_253 : decode code 253 = .ok (.iadd, 1) := by decide +kernel
theorem d_lw_254 : decode code 254 = .ok (.iaload, 1) := by decide +kernel
theorem d_lw_255 : decode code 255 = .ok (.invokevirtual 23, 3) := by decide +kernel
theorem d_lw_258 : decode code 258 = .ok (.pop, 1) := by decide +kernel
theorem d_lw_259 : decode code 259 = .ok (.aload_n 2, 1) := by decide +kernel
theorem d_lw_260 : decode code 260 = .ok (.aload_n 0, 1) := by decide +kernel
theorem d_lw_261 : decode code 261 = .ok (.iload 4, 2) := by decide +kernel
theorem d_lw_263 : decode code 263 = .ok (.iconst 1, 1) := by decide +kernel
theorem d_lw_264 : decode code 264 = .ok (.iadd, 1) := by decide +kernel
theorem d_lw_265 : decode code 265 = .ok (.iaload, 1) := by decide +kernel
theorem d_lw_266 : decode code 266 = .ok (.invokevirtual 27, 3) := by decide +kernel
theorem d_lw_269 : decode code 269 = .ok (.pop, 1) := by decide +kernel
theorem d_lw_270 : decode code 270 = .ok (.goto 1922, 3) := by decide +kernel
theorem d_lw_273 : decode code 273 = .ok (.aload_n 1, 1) := by decide +kernel
theorem d_lw_274 : decode code 274 = .ok (.aload_n 0, 1) := by decide +kernel
theorem d_lw_275 : decode code 275 = .ok (.iload 4, 2) := by decide +kernel
theorem d_lw_277 : decode code 277 = .ok (.iconst 1, 1) := by decide +kernel
theorem d_lw_278 : decode code 278 = .ok (.iadd, 1) := by decide +kernel
theorem d_lw_279 : decode code 279 = .ok (.iaload, 1) := by decide +kernel
theorem d_lw_280 : decode code 280 = .ok (.invokevirtual 28, 3) := by decide +kernel
theorem d_lw_283 : decode code 283 = .ok (.pop, 1) := by decide +kernel
theorem d_lw_284 : decode code 284 = .ok (.aload_n 2, 1) := by decide +kernel
theorem d_lw_285 : decode code 285 = .ok (.aload_n 0, 1) := by decide +kernel
theorem d_lw_286 : decode code 286 = .ok (.iload 4, 2) := by decide +kernel
theorem d_lw_288 : decode code 288 = .ok (.iconst 1, 1) := by decide +kernel
theorem d_lw_289 : decode code 289 = .ok (.iadd, 1) := by decide +kernel
theorem d_lw_290 : decode code 290 = .ok (.iaload, 1) := by decide +kernel
theorem d_lw_291 : decode code 291 = .ok (.invokevirtual 32, 3) := by decide +kernel
theorem d_lw_294 : decode code 294 = .ok (.pop, 1) := by decide +kernel
theorem d_lw_295 : decode code 295 = .ok (.goto 1897, 3) := by decide +kernel
theorem d_lw_298 : decode code 298 = .ok (.aload_n 1, 1) := by decide +kernel
theorem d_lw_299 : decode code 299 = .ok (.invokevirtual 33, 3) := by decide +kernel
theorem d_lw_302 : decode code 302 = .ok (.pop, 1) := by decide +kernel
theorem d_lw_303 : decode code 303 = .ok (.aload_n 2, 1) := by decide +kernel
theorem d_lw_304 : decode code 304 = .ok (.invokevirtual 37, 3) := by decide +kernel
theorem d_lw_307 : decode code 307 = .ok (.pop, 1) := by decide +kernel
theorem d_lw_308 : decode code 308 = .ok (.goto 1884, 3) := by decide +kernel
theorem d_lw_311 : decode code 311 = .ok (.aload_n 1, 1) := by decide +kernel
theorem d_lw_312 : decode code 312 = .ok (.aload_n 0, 1) := by decide +kernel
theorem d_lw_313 : decode code 313 = .ok (.iload 4, 2) := by decide +kernel
theorem d_lw_315 : decode code 315 = .ok (.iconst 1, 1) := by decide +kernel
theorem d_lw_316 : decode code 316 = .ok (.iadd, 1) := by decide +kernel
theorem d_lw_317 : decode code 317 = .ok (.iaload, 1) := by decide +kernel
theorem d_lw_318 : decode code 318 = .ok (.aload_n 0, 1) := by decide +kernel
theorem d_lw_319 : decode code 319 = .ok (.iload 4, 2) := by decide +kernel
theorem d_lw_321 : decode code 321 = .ok (.iconst 2, 1) := by decide +kernel
theorem d_lw_322 : decode code 322 = .ok (.iadd, 1) := by decide +kernel
theorem d_lw_323 : decode code 323 = .ok (.iaload, 1) := by decide +kernel
theorem d_lw_324 : decode code 324 = .ok (.aload_n 3, 1) := by decide +kernel
theorem d_lw_325 : decode code 325 = .ok (.invokestatic 38, 3) := by decide +kernel
theorem d_lw_328 : decode code 328 = .ok (.istore 5, 2) := by decide +kernel
theorem d_lw_330 : decode code 330 = .ok (.aload_n 2, 1) := by decide +kernel
theorem d_lw_331 : decode code 331 = .ok (.aload_n 0, 1) := by decide +kernel
theorem d_lw_332 : decode code 332 = .ok (.iload 4, 2) := by decide +kernel
theorem d_lw_334 : decode code 334 = .ok (.iconst 1, 1) := by decide +kernel
theorem d_lw_335 : decode code 335 = .ok (.iadd, 1) := by decide +kernel
theorem d_lw_336 : decode code 336 = .ok (.iaload, 1) := by decide +kernel
theorem d_lw_337 : decode code 337 = .ok (.aload_n 0, 1) := by decide +kernel
theorem d_lw_338 : decode code 338 = .ok (.iload 4, 2) := by decide +kernel
theorem d_lw_340 : decode code 340 = .ok (.iconst 2, 1) := by decide +kernel
theorem d_lw_341 : decode code 341 = .ok (.iadd, 1) := by decide +kernel
theorem d_lw_342 : decode code 342 = .ok (.iaload, 1) := by decide +kernel
theorem d_lw_343 : decode code 343 = .ok (.invokevirtual 43, 3) := by decide +kernel
theorem d_lw_346 : decode code 346 = .ok (.istore 6, 2) := by decide +kernel
theorem d_lw_348 : decode code 348 = .ok (.goto 1844, 3) := by decide +kernel
theorem d_lw_351 : decode code 351 = .ok (.aload_n 1, 1) := by decide +kernel
theorem d_lw_352 : decode code 352 = .ok (.aload_n 0, 1) := by decide +kernel
theorem d_lw_353 : decode code 353 = .ok (.iload 4, 2) := by decide +kernel
theorem d_lw_355 : decode code 355 = .ok (.iconst 1, 1) := by decide +kernel
theorem d_lw_356 : decode code 356 = .ok (.iadd, 1) := by decide +kernel
theorem d_lw_357 : decode code 357 = .ok (.iaload, 1) := by decide +kernel
theorem d_lw_358 : decode code 358 = .ok (.aload_n 0, 1) := by decide +kernel
theorem d_lw_359 : decode code 359 = .ok (.iload 4, 2) := by decide +kernel
theorem d_lw_361 : decode code 361 = .ok (.iconst 2, 1) := by decide +kernel
theorem d_lw_362 : decode code 362 = .ok (.iadd, 1) := by decide +kernel
theorem d_lw_363 : decode code 363 = .ok (.iaload, 1) := by decide +kernel
theorem d_lw_364 : decode code 364 = .ok (.invokevirtual 44, 3) := by decide +kernel
theorem d_lw_367 : decode code 367 = .ok (.pop, 1) := by decide +kernel
theorem d_lw_368 : decode code 368 = .ok (.aload_n 2, 1) := by decide +kernel
theorem d_lw_369 : decode code 369 = .ok (.aload_n 0, 1) := by decide +kernel
theorem d_lw_370 : decode code 370 = .ok (.iload 4, 2) := by decide +kernel
theorem d_lw_372 : decode code 372 = .ok (.iconst 1, 1) := by decide +kernel
theorem d_lw_373 : decode code 373 = .ok (.iadd, 1) := by decide +kernel
theorem d_lw_374 : decode code 374 = .ok (.iaload, 1) := by decide +kernel
theorem d_lw_375 : decode code 375 = .ok (.aload_n 0, 1) := by decide +kernel
theorem d_lw_376 : decode code 376 = .ok (.iload 4, 2) := by decide +kernel
theorem d_lw_378 : decode code 378 = .ok (.iconst 2, 1) := by decide +kernel
theorem d_lw_379 : decode code 379 = .ok (.iadd, 1) := by decide +kernel
theorem d_lw_380 : decode code 380 = .ok (.iaload, 1) := by decide +kernel
theorem d_lw_381 : decode code 381 = .ok (.invokevirtual 47, 3) := by decide +kernel
theorem d_lw_384 : decode code 384 = .ok (.pop, 1) := by decide +kernel
theorem d_lw_385 : decode code 385 = .ok (.goto 1807, 3) := by decide +kernel
theorem d_lw_388 : decode code 388 = .ok (.aload_n 1, 1) := by decide +kernel
theorem d_lw_389 : decode code 389 = .ok (.aload_n 0, 1) := by decide +kernel
theorem d_lw_390 : decode code 390 = .ok (.iload 4, 2) := by decide +kernel
theorem d_lw_392 : decode code 392 = .ok (.iconst 1, 1) := by decide +kernel
theorem d_lw_393 : decode code 393 = .ok (.iadd, 1) := by decide +kernel
theorem d_lw_394 : decode code 394 = .ok (.iaload, 1) := by decide +kernel
theorem d_lw_395 : decode code 395 = .ok (.aload_n 0, 1) := by decide +kernel
theorem d_lw_396 : decode code 396 = .ok (.iload 4, 2) := by decide +kernel
theorem d_lw_398 : decode code 398 = .ok (.iconst 2, 1) := by decide +kernel
theorem d_lw_399 : decode code 399 = .ok (.iadd, 1) := by decide +kernel
theorem d_lw_400 : decode code 400 = .ok (.iaload, 1) := by decide +kernel
theorem d_lw_401 : decode code 401 = .ok (.invokevirtual 48, 3) := by decide +kernel
theorem d_lw_404 : decode code 404 = .ok (.pop, 1) := by decide +kernel
theorem d_lw_405 : decode code 405 = .ok (.aload_n 2, 1) := by decide +kernel
theorem d_lw_406 : decode code 406 = .ok (.aload_n 0, 1) := by decide +kernel
theorem d_lw_407 : decode code 407 = .ok (.iload 4, 2) := by decide +kernel
theorem d_lw_409 : decode code 409 = .ok (.iconst 1, 1) := by decide +kernel
theorem d_lw_410 : decode code 410 = .ok (.iadd, 1) := by decide +kernel
theorem d_lw_411 : decode code 411 = .ok (.iaload, 1) := by decide +kernel
theorem d_lw_412 : decode code 412 = .ok (.aload_n 0, 1) := by decide +kernel
theorem d_lw_413 : decode code 413 = .ok (.iload 4, 2) := by decide +kernel
theorem d_lw_415 : decode code 415 = .ok (.iconst 2, 1) := by decide +kernel
theorem d_lw_416 : decode code 416 = .ok (.iadd, 1) := by decide +kernel
theorem d_lw_417 : decode code 417 = .ok (.iaload, 1) := by decide +kernel
theorem d_lw_418 : decode code 418 = .ok (.invokevirtual 51, 3) := by decide +kernel
theorem d_lw_421 : decode code 421 = .ok (.pop, 1) := by decide +kernel
theorem d_lw_422 : decode code 422 = .ok (.goto 1770, 3) := by decide +kernel
theorem d_lw_425 : decode code 425 = .ok (.aload_n 1, 1) := by decide +kernel
theorem d_lw_426 : decode code 426 = .ok (.aload_n 0, 1) := by decide +kernel
theorem d_lw_427 : decode code 427 = .ok (.iload 4, 2) := by decide +kernel
theorem d_lw_429 : decode code 429 = .ok (.iconst 1, 1) := by decide +kernel
theorem d_lw_430 : decode code 430 = .ok (.iadd, 1) := by decide +kernel
theorem d_lw_431 : decode code 431 = .ok (.iaload, 1) := by decide +kernel
theorem d_lw_432 : decode code 432 = .ok (.aload_n 0, 1) := by decide +kernel
theorem d_lw_433 : decode code 433 = .ok (.iload 4, 2) := by decide +kernel
theorem d_lw_435 : decode code 435 = .ok (.iconst 2, 1) := by decide +kernel
theorem d_lw_436 : decode code 436 = .ok (.iadd, 1) := by decide +kernel
theorem d_lw_437 : decode code 437 = .ok (.iaload, 1) := by decide +kernel
theorem d_lw_438 : decode code 438 = .ok (.aload_n 0, 1) := by decide +kernel
theorem d_lw_439 : decode code 439 = .ok (.iload 4, 2) := by decide +kernel
theorem d_lw_441 : decode code 441 = .ok (.iconst 3, 1) := by decide +kernel
theorem d_lw_442 : decode code 442 = .ok (.iadd, 1) := by decide +kernel
theorem d_lw_443 : decode code 443 = .ok (.iaload, 1) := by decide +kernel
theorem d_lw_444 : decode code 444 = .ok (.aload_n 0, 1) := by decide +kernel
theorem d_lw_445 : decode code 445 = .ok (.iload 4, 2) := by decide +kernel
theorem d_lw_447 : decode code 447 = .ok (.iconst 4, 1) := by decide +kernel
theorem d_lw_448 : decode code 448 = .ok (.iadd, 1) := by decide +kernel
theorem d_lw_449 : decode code 449 = .ok (.iaload, 1) := by decide +kernel
theorem d_lw_450 : decode code 450 = .ok (.invokevirtual 52, 3) := by decide +kernel
theorem d_lw_453 : decode code 453 = .ok (.pop, 1) := by decide +kernel
theorem d_lw_454 : decode code 454 = .ok (.aload_n 2, 1) := by decide +kernel
theorem d_lw_455 : decode code 455 = .ok (.aload_n 0, 1) := by decide +kernel
theorem d_lw_456 : decode code 456 = .ok (.iload 4, 2) := by decide +kernel
theorem d_lw_458 : decode code 458 = .ok (.iconst 1, 1) := by decide +kernel
theorem d_lw_459 : decode code 459 = .ok (.iadd, 1) := by decide +kernel
theorem d_lw_460 : decode code 460 = .ok (.iaload, 1) := by decide +kernel
theorem d_lw_461 : decode code 461 = .ok (.aload_n 0, 1) := by decide +kernel
theorem d_lw_462 : decode code 462 = .ok (.iload 4, 2) := by decide +kernel
theorem d_lw_464 : decode code 464 = .ok (.iconst 2, 1) := by decide +kernel
theorem d_lw_465 : decode code 465 = .ok (.iadd, 1) := by decide +kernel
theorem d_lw_466 : decode code 466 = .ok (.iaload, 1) := by decide +kernel
theorem d_lw_467 : decode code 467 = .ok (.aload_n 0, 1) := by decide +kernel
theorem d_lw_468 : decode code 468 = .ok (.iload 4, 2) := by decide +kernel
theorem d_lw_470 : decode code 470 = .ok (.iconst 3, 1) := by decide +kernel
theorem d_lw_471 : decode code 471 = .ok (.iadd, 1) := by decide +kernel
theorem d_lw_472 : decode code 472 = .ok (.iaload, 1) := by decide +kernel
theorem d_lw_473 : decode code 473 = .ok (.aload_n 0, 1) := by decide +kernel
theorem d_lw_474 : decode code 474 = .ok (.iload 4, 2) := by decide +kernel
theorem d_lw_476 : decode code 476 = .ok (.iconst 4, 1) := by decide +kernel
theorem d_lw_477 : decode code 477 = .ok (.iadd, 1) := by decide +kernel
theorem d_lw_478 : decode code 478 = .ok (.iaload, 1) := by decide +kernel
theorem d_lw_479 : decode code 479 = .ok (.invokevirtual 56, 3) := by decide +kernel
theorem d_lw_482 : decode code 482 = .ok (.pop, 1) := by decide +kernel
theorem d_lw_483 : decode code 483 = .ok (.goto 1709, 3) := by decide +kernel
theorem d_lw_486 : decode code 486 = .ok (.aload_n 1, 1) := by decide +kernel
theorem d_lw_487 : decode code 487 = .ok (.aload_n 0, 1) := by decide +kernel
theorem d_lw_488 : decode code 488 = .ok (.iload 4, 2) := by decide +kernel
theorem d_lw_490 : decode code 490 = .ok (.iconst 1, 1) := by decide +kernel
theorem d_lw_491 : decode code 491 = .ok (.iadd, 1) := by decide +kernel
theorem d_lw_492 : decode code 492 = .ok (.iaload, 1) := by decide +kernel
theorem d_lw_493 : decode code 493 = .ok (.aload_n 0, 1) := by decide +kernel
theorem d_lw_494 : decode code 494 = .ok (.iload 4, 2) := by decide +kernel
theorem d_lw_496 : decode code 496 = .ok (.iconst 2, 1) := by decide +kernel
theorem d_lw_497 : decode code 497 = .ok (.iadd, 1) := by decide +kernel
theorem d_lw_498 : decode code 498 = .ok (.iaload, 1) := by decide +kernel
theorem d_lw_499 : decode code 499 = .ok (.aload_n 0, 1) := by decide +kernel
theorem d_lw_500 : decode code 500 = .ok (.iload 4, 2) := by decide +kernel
theorem d_lw_502 : decode code 502 = .ok (.iconst 3, 1) := by decide +kernel
theorem d_lw_503 : decode code 503 = .ok (.iadd, 1) := by decide +kernel
theorem d_lw_504 : decode code 504 = .ok (.iaload, 1) := by decide +kernel
theorem d_lw_505 : decode code 505 = .ok (.invokevirtual 57, 3) := by decide +kernel
theorem d_lw_508 : decode code 508 = .ok (.pop, 1) := by decide +kernel
theorem d_lw_509 : decode code 509 = .ok (.aload_n 2, 1) := by decide +kernel
theorem d_lw_510 : decode code 510 = .ok (.aload_n 0, 1) := by decide +kernel
theorem d_lw_511 : decode code 511 = .ok (.iload 4, 2) := by decide +kernel
theorem d_lw_513 : decode code 513 = .ok (.iconst 1, 1) := by decide +kernel
theorem d_lw_514 : decode code 514 = .ok (.iadd, 1) := by decide +kernel
theorem d_lw_515 : decode code 515 = .ok (.iaload, 1) := by decide +kernel
theorem d_lw_516 : decode code 516 = .ok (.aload_n 0, 1) := by decide +kernel
theorem d_lw_517 : decode code 517 = .ok (.iload 4, 2) := by decide +kernel
theorem d_lw_519 : decode code 519 = .ok (.iconst 2, 1) := by decide +kernel
theorem d_lw_520 : decode code 520 = .ok (.iadd, 1) := by decide +kernel
theorem d_lw_521 : decode code 521 = .ok (.iaload, 1) := by decide +kernel
theorem d_lw_522 : decode code 522 = .ok (.aload_n 0, 1) := by decide +kernel
theorem d_lw_523 : decode code 523 = .ok (.iload 4, 2) := by decide +kernel
theorem d_lw_525 : decode code 525 = .ok (.iconst 3, 1) := by decide +kernel
theorem d_lw_526 : decode code 526 = .ok (.iadd, 1) := by decide +kernel
theorem d_lw_527 : decode code 527 = .ok (.iaload, 1) := by decide +kernel
theorem d_lw_528 : decode code 528 = .ok (.invokevirtual 61, 3) := by decide +kernel
theorem d_lw_531 : decode code 531 = .ok (.pop, 1) := by decide +kernel
theorem d_lw_532 : decode code 532 = .ok (.goto 1660, 3) := by decide +kernel
theorem d_lw_535 : decode code 535 = .ok (.aload_n 1, 1) := by decide +kernel
theorem d_lw_536 : decode code 536 = .ok (.aload_n 0, 1) := by decide +kernel
theorem d_lw_537 : decode code 537 = .ok (.iload 4, 2) := by decide +kernel
theorem d_lw_539 : decode code 539 = .ok (.iconst 1, 1) := by decide +kernel
theorem d_lw_540 : decode code 540 = .ok (.iadd, 1) := by decide +kernel
theorem d_lw_541 : decode code 541 = .ok (.iaload, 1) := by decide +kernel
theorem d_lw_542 : decode code 542 = .ok (.aload_n 0, 1) := by decide +kernel
theorem d_lw_543 : decode code 543 = .ok (.iload 4, 2) := by decide +kernel
theorem d_lw_545 : decode code 545 = .ok (.iconst 2, 1) := by decide +kernel
theorem d_lw_546 : decode code 546 = .ok (.iadd, 1) := by decide +kernel
theorem d_lw_547 : decode code 547 = .ok (.iaload, 1) := by decide +kernel
theorem d_lw_548 : decode code 548 = .ok (.aload_n 0, 1) := by decide +kernel
theorem d_lw_549 : decode code 549 = .ok (.iload 4, 2) := by decide +kernel
theorem d_lw_551 : decode code 551 = .ok (.iconst 3, 1) := by decide +kernel
theorem d_lw_552 : decode code 552 = .ok (.iadd, 1) := by decide +kernel
theorem d_lw_553 : decode code 553 = .ok (.iaload, 1) := by decide +kernel
theorem d_lw_554 : decode code 554 = .ok (.invokevirtual 62, 3) := by decide +kernel
theorem d_lw_557 : decode code 557 = .ok (.pop, 1) := by decide +kernel
theorem d_lw_558 : decode code 558 = .ok (.aload_n 2, 1) := by decide +kernel
theorem d_lw_559 : decode code 559 = .ok (.aload_n 0, 1) := by decide +kernel
theorem d_lw_560 : decode code 560 = .ok (.iload 4, 2) := by decide +kernel
theorem d_lw_562 : decode code 562 = .ok (.iconst 1, 1) := by decide +kernel
theorem d_lw_563 : decode code 563 = .ok (.iadd, 1) := by decide +kernel
theorem d_lw_564 : decode code 564 = .ok (.iaload, 1) := by decide +kernel
theorem d_lw_565 : decode code 565 = .ok (.aload_n 0, 1) := by decide +kernel
theorem d_lw_566 : decode code 566 = .ok (.iload 4, 2) := by decide +kernel
theorem d_lw_568 : decode code 568 = .ok (.iconst 2, 1) := by decide +kernel
theorem d_lw_569 : decode code 569 = .ok (.iadd, 1) := by decide +kernel
theorem d_lw_570 : decode code 570 = .ok (.iaload, 1) := by decide +kernel
theorem d_lw_571 : decode code 571 = .ok (.aload_n 0, 1) := by decide +kernel
theorem d_lw_572 : decode code 572 = .ok (.iload 4, 2) := by decide +kernel
theorem d_lw_574 : decode code 574 = .ok (.iconst 3, 1) := by decide +kernel
theorem d_lw_575 : decode code 575 = .ok (.iadd, 1) := by decide +kernel
theorem d_lw_576 : decode code 576 = .ok (.iaload, 1) := by decide +kernel
theorem d_lw_577 : decode code 577 = .ok (.invokevirtual 66, 3) := by decide +kernel
theorem d_lw_580 : decode code 580 = .ok (.pop, 1) := by decide +kernel
theorem d_lw_581 : decode code 581 = .ok (.goto 1611, 3) := by decide +kernel
theorem d_lw_584 : decode code 584 = .ok (.aload_n 1, 1) := by decide +kernel
theorem d_lw_585 : decode code 585 = .ok (.aload_n 0, 1) := by decide +kernel
theorem d_lw_586 : decode code 586 = .ok (.iload 4, 2) := by decide +kernel
theorem d_lw_588 : decode code 588 = .ok (.iconst 1, 1) := by decide +kernel
theorem d_lw_589 : decode code 589 = .ok (.iadd, 1) := by decide +kernel
theorem d_lw_590 : decode code 590 = .ok (.iaload, 1) := by decide +kernel
theorem d_lw_591 : decode code 591 = .ok (.aload_n 0, 1) := by decide +kernel
theorem d_lw_592 : decode code 592 = .ok (.iload 4, 2) := by decide +kernel
theorem d_lw_594 : decode code 594 = .ok (.iconst 2, 1) := by decide +kernel
theorem d_lw_595 : decode code 595 = .ok (.iadd, 1) := by decide +kernel
theorem d_lw_596 : decode code 596 = .ok (.iaload, 1) := by decide +kernel
theorem d_lw_597 : decode code 597 = .ok (.aload_n 0, 1) := by decide +kernel
theorem d_lw_598 : decode code 598 = .ok (.iload 4, 2) := by decide +kernel
theorem d_lw_600 : decode code 600 = .ok (.iconst 3, 1) := by decide +kernel
theorem d_lw_601 : decode code 601 = .ok (.iadd, 1) := by decide +kernel
theorem d_lw_602 : decode code 602 = .ok (.iaload, 1) := by decide +kernel
theorem d_lw_603 : decode code 603 = .ok (.invokevirtual 67, 3) := by decide +kernel
theorem d_lw_606 : decode code 606 = .ok (.pop, 1) := by decide +kernel
theorem d_lw_607 : decode code 607 = .ok (.aload_n 2, 1) := by decide +kernel
theorem d_lw_608 : decode code 608 = .ok (.aload_n 0, 1) := by decide +kernel
theorem d_lw_609 : decode code 609 = .ok (.iload 4, 2) := by decide +kernel
theorem d_lw_611 : decode code 611 = .ok (.iconst 1, 1) := by decide +kernel
theorem d_lw_612 : decode code 612 = .ok (.iadd, 1) := by decide +kernel
theorem d_lw_613 : decode code 613 = .ok (.iaload, 1) := by decide +kernel
theorem d_lw_614 : decode code 614 = .ok (.aload_n 0, 1) := by decide +kernel
theorem d_lw_615 : decode code 615 = .ok (.iload 4, 2) := by decide +kernel
theorem d_lw_617 : decode code 617 = .ok (.iconst 2, 1) := by decide +kernel
theorem d_lw_618 : decode code 618 = .ok (.iadd, 1) := by decide +kernel
theorem d_lw_619 : decode code 619 = .ok (.iaload, 1) := by decide +kernel
theorem d_lw_620 : decode code 620 = .ok (.aload_n 0, 1) := by decide +kernel
theorem d_lw_621 : decode code 621 = .ok (.iload 4, 2) := by decide +kernel
theorem d_lw_623 : decode code 623 = .ok (.iconst 3, 1) := by decide +kernel
theorem d_lw_624 : decode code 624 = .ok (.iadd, 1) := by decide +kernel
theorem d_lw_625 : decode code 625 = .ok (.iaload, 1) := by decide +kernel
theorem d_lw_626 : decode code 626 = .ok (.invokevirtual 70, 3) := by decide +kernel
theorem d_lw_629 : decode code 629 = .ok (.pop, 1) := by decide +kernel
theorem d_lw_630 : decode code 630 = .ok (.goto 1562, 3) := by decide +kernel
theorem d_lw_633 : decode code 633 = .ok (.aload_n 1, 1) := by decide +kernel
theorem d_lw_634 : decode code 634 = .ok (.aload_n 0, 1) := by decide +kernel
theorem d_lw_635 : decode code 635 = .ok (.iload 4, 2) := by decide +kernel
theorem d_lw_637 : decode code 637 = .ok (.iconst 1, 1) := by decide +kernel
theorem d_lw_638 : decode code 638 = .ok (.iadd, 1) := by decide +kernel
theorem d_lw_639 : decode code 639 = .ok (.iaload, 1) := by decide +kernel
theorem d_lw_640 : decode code 640 = .ok (.aload_n 0, 1) := by decide +kernel
theorem d_lw_641 : decode code 641 = .ok (.iload 4, 2) := by decide +kernel
theorem d_lw_643 : decode code 643 = .ok (.iconst 2, 1) := by decide +kernel
theorem d_lw_644 : decode code 644 = .ok (.iadd, 1) := by decide +kernel
theorem d_lw_645 : decode code 645 = .ok (.iaload, 1) := by decide +kernel
theorem d_lw_646 : decode code 646 = .ok (.invokevirtual 71, 3) := by decide +kernel
theorem d_lw_649 : decode code 649 = .ok (.pop, 1) := by decide +kernel
theorem d_lw_650 : decode code 650 = .ok (.aload_n 2, 1) := by decide +kernel
theorem d_lw_651 : decode code 651 = .ok (.aload_n 0, 1) := by decide +kernel
theorem d_lw_652 : decode code 652 = .ok (.iload 4, 2) := by decide +kernel
theorem d_lw_654 : decode code 654 = .ok (.iconst 1, 1) := by decide +kernel
theorem d_lw_655 : decode code 655 = .ok (.iadd, 1) := by decide +kernel
theorem d_lw_656 : decode code 656 = .ok (.iaload, 1) := by decide +kernel
theorem d_lw_657 : decode code 657 = .ok (.aload_n 0, 1) := by decide +kernel
theorem d_lw_658 : decode code 658 = .ok (.iload 4, 2) := by decide +kernel
theorem d_lw_660 : decode code 660 = .ok (.iconst 2, 1) := by decide +kernel
theorem d_lw_661 : decode code 661 = .ok (.iadd, 1) := by decide +kernel
theorem d_lw_662 : decode code 662 = .ok (.iaload, 1) := by decide +kernel
theorem d_lw_663 : decode code 663 = .ok (.invokevirtual 75, 3) := by decide +kernel
theorem d_lw_666 : decode code 666 = .ok (.pop, 1) := by decide +kernel
theorem d_lw_667 : decode code 667 = .ok (.goto 1525, 3) := by decide +kernel
theorem d_lw_670 : decode code 670 = .ok (.aload_n 1, 1) := by decide +kernel
theorem d_lw_671 : decode code 671 = .ok (.aload_n 0, 1) := by decide +kernel
theorem d_lw_672 : decode code 672 = .ok (.iload 4, 2) := by decide +kernel
theorem d_lw_674 : decode code 674 = .ok (.iconst 1, 1) := by decide +kernel
theorem d_lw_675 : decode code 675 = .ok (.iadd, 1) := by decide +kernel
theorem d_lw_676 : decode code 676 = .ok (.iaload, 1) := by decide +kernel
theorem d_lw_677 : decode code 677 = .ok (.aload_n 0, 1) := by decide +kernel
theorem d_lw_678 : decode code 678 = .ok (.iload 4, 2) := by decide +kernel
theorem d_lw_680 : decode code 680 = .ok (.iconst 2, 1) := by decide +kernel
theorem d_lw_681 : decode code 681 = .ok (.iadd, 1) := by decide +kernel
theorem d_lw_682 : decode code 682 = .ok (.iaload, 1) := by decide +kernel
theorem d_lw_683 : decode code 683 = .ok (.invokevirtual 76, 3) := by decide +kernel
theorem d_lw_686 : decode code 686 = .ok (.pop, 1) := by decide +kernel
theorem d_lw_687 : decode code 687 = .ok (.aload_n 2, 1) := by decide +kernel
theorem d_lw_688 : decode code 688 = .ok (.aload_n 0, 1) := by decide +kernel
theorem d_lw_689 : decode code 689 = .ok (.iload 4, 2) := by decide +kernel
theorem d_lw_691 : decode code 691 = .ok (.iconst 1, 1) := by decide +kernel
theorem d_lw_692 : decode code 692 = .ok (.iadd, 1) := by decide +kernel
theorem d_lw_693 : decode code 693 = .ok (.iaload, 1) := by decide +kernel
theorem d_lw_694 : decode code 694 = .ok (.aload_n 0, 1) := by decide +kernel
theorem d_lw_695 : decode code 695 = .ok (.iload 4, 2) := by decide +kernel
theorem d_lw_697 : decode code 697 = .ok (.iconst 2, 1) := by decide +kernel
theorem d_lw_698 : decode code 698 = .ok (.iadd, 1) := by decide +kernel
theorem d_lw_699 : decode code 699 = .ok (.iaload, 1) := by decide +kernel
theorem d_lw_700 : decode code 700 = .ok (.invokevirtual 79, 3) := by decide +kernel
theorem d_lw_703 : decode code 703 = .ok (.pop, 1) := by decide +kernel
theorem d_lw_704 : decode code 704 = .ok (.goto 1488, 3) := by decide +kernel
