theorem dX12_tickOnce_225 : decode cX12_tickOnce 225 = .ok (.aload_n 0, 1) := by decide +kernel
theorem dX12_tickOnce_226 : decode cX12_tickOnce 226 = .ok (.invokevirtual 249, 3) := by decide +kernel
theorem dX12_tickOnce_229 : decode cX12_tickOnce 229 = .ok (.istore_n 3, 1) := by decide +kernel
theorem dX12_tickOnce_230 : decode cX12_tickOnce 230 = .ok (.aload_n 0, 1) := by decide +kernel
theorem dX12_tickOnce_231 : decode cX12_tickOnce 231 = .ok (.iload_n 3, 1) := by decide +kernel
theorem dX12_tickOnce_232 : decode cX12_tickOnce 232 = .ok (.aload_n 0, 1) := by decide +kernel
theorem dX12_tickOnce_233 : decode cX12_tickOnce 233 = .ok (.getfield 129, 3) := by decide +kernel
theorem dX12_tickOnce_236 : decode cX12_tickOnce 236 = .ok (.if_icmp .gt 30, 3) := by decide +kernel
theorem dX12_tickOnce_239 : decode cX12_tickOnce 239 = .ok (.aload_n 0, 1) := by decide +kernel
theorem dX12_tickOnce_240 : decode cX12_tickOnce 240 = .ok (.getfield 206, 3) := by decide +kernel
theorem dX12_tickOnce_243 : decode cX12_tickOnce 243 = .ok (.aload_n 0, 1) := by decide +kernel
theorem dX12_tickOnce_244 : decode cX12_tickOnce 244 = .ok (.getfield 203, 3) := by decide +kernel
theorem dX12_tickOnce_247 : decode cX12_tickOnce 247 = .ok (.if_icmp .le 19, 3) := by decide +kernel
theorem dX12_tickOnce_250 : decode cX12_tickOnce 250 = .ok (.iload_n 1, 1) := by decide +kernel
theorem dX12_tickOnce_251 : decode cX12_tickOnce 251 = .ok (.aload_n 0, 1) := by decide +kernel
theorem dX12_tickOnce_252 : decode cX12_tickOnce 252 = .ok (.getfield 206, 3) := by decide +kernel
theorem dX12_tickOnce_255 : decode cX12_tickOnce 255 = .ok (.aload_n 0, 1) := by decide +kernel
theorem dX12_tickOnce_256 : decode cX12_tickOnce 256 = .ok (.getfield 203, 3) := by decide +kernel
theorem dX12_tickOnce_259 : decode cX12_tickOnce 259 = .ok (.isub, 1) := by decide +kernel
theorem dX12_tickOnce_260 : decode cX12_tickOnce 260 = .ok (.invokestatic 212, 3) := by decide +kernel
theorem dX12_tickOnce_263 : decode cX12_tickOnce 263 = .ok (.goto 4, 3) := by decide +kernel
theorem dX12_tickOnce_266 : decode cX12_tickOnce 266 = .ok (.iconst 0, 1) := by decide +kernel
theorem dX12_tickOnce_267 : decode cX12_tickOnce 267 = .ok (.putfield 253, 3) := by decide +kernel
theorem dX12_tickOnce_270 : decode cX12_tickOnce 270 = .ok (.aload_n 0, 1) := by decide +kernel
theorem dX12_tickOnce_271 : decode cX12_tickOnce 271 = .ok (.dup, 1) := by decide +kernel
theorem dX12_tickOnce_272 : decode cX12_tickOnce 272 = .ok (.getfield 203, 3) := by decide +kernel
theorem dX12_tickOnce_275 : decode cX12_tickOnce 275 = .ok (.aload_n 0, 1) := by decide +kernel
theorem dX12_tickOnce_276 : decode cX12_tickOnce 276 = .ok (.getfield 253, 3) := by decide +kernel
theorem dX12_tickOnce_279 : decode cX12_tickOnce 279 = .ok (.iadd, 1) := by decide +kernel
theorem dX12_tickOnce_280 : decode cX12_tickOnce 280 = .ok (.putfield 203, 3) := by decide +kernel
theorem dX12_tickOnce_283 : decode cX12_tickOnce 283 = .ok (.iload_n 1, 1) := by decide +kernel
theorem dX12_tickOnce_284 : decode cX12_tickOnce 284 = .ok (.aload_n 0, 1) := by decide +kernel
theorem dX12_tickOnce_285 : decode cX12_tickOnce 285 = .ok (.getfield 253, 3) := by decide +kernel
theorem dX12_tickOnce_288 : decode cX12_tickOnce 288 = .ok (.isub, 1) := by decide +kernel
theorem dX12_tickOnce_289 : decode cX12_tickOnce 289 = .ok (.istore_n 1, 1) := by decide +kernel
theorem dX12_tickOnce_290 : decode cX12_tickOnce 290 = .ok (.aload_n 0, 1) := by decide +kernel
theorem dX12_tickOnce_291 : decode cX12_tickOnce 291 = .ok (.aload_n 0, 1) := by decide +kernel
theorem dX12_tickOnce_292 : decode cX12_tickOnce 292 = .ok (.getfield 253, 3) := by decide +kernel
theorem dX12_tickOnce_295 : decode cX12_tickOnce 295 = .ok (.ifCond .le 15, 3) := by decide +kernel
theorem dX12_tickOnce_298 : decode cX12_tickOnce 298 = .ok (.iload_n 3, 1) := by decide +kernel
theorem dX12_tickOnce_299 : decode cX12_tickOnce 299 = .ok (.aload_n 0, 1) := by decide +kernel
theorem dX12_tickOnce_300 : decode cX12_tickOnce 300 = .ok (.getfield 243, 3) := by decide +kernel
theorem dX12_tickOnce_303 : decode cX12_tickOnce 303 = .ok (.if_icmp .le 7, 3) := by decide +kernel
theorem dX12_tickOnce_306 : decode cX12_tickOnce 306 = .ok (.iload_n 3, 1) := by decide +kernel
theorem dX12_tickOnce_307 : decode cX12_tickOnce 307 = .ok (.goto 7, 3) := by decide +kernel
theorem dX12_tickOnce_310 : decode cX12_tickOnce 310 = .ok (.aload_n 0, 1) := by decide +kernel
theorem dX12_tickOnce_311 : decode cX12_tickOnce 311 = .ok (.getfield 243, 3) := by decide +kernel
theorem dX12_tickOnce_314 : decode cX12_tickOnce 314 = .ok (.putfield 243, 3) := by decide +kernel
theorem dX12_tickOnce_317 : decode cX12_tickOnce 317 = .ok (.aload_n 0, 1) := by decide +kernel
theorem dX12_tickOnce_318 : decode cX12_tickOnce 318 = .ok (.iload_n 1, 1) := by decide +kernel
theorem dX12_tickOnce_319 : decode cX12_tickOnce 319 = .ok (.putfield 256, 3) := by decide +kernel
theorem dX12_tickOnce_322 : decode cX12_tickOnce 322 = .ok (.aload_n 0, 1) := by decide +kernel
theorem dX12_tickOnce_323 : decode cX12_tickOnce 323 = .ok (.aload_n 0, 1) := by decide +kernel
theorem dX12_tickOnce_324 : decode cX12_tickOnce 324 = .ok (.getfield 256, 3) := by decide +kernel
theorem dX12_tickOnce_327 : decode cX12_tickOnce 327 = .ok (.ifCond .le 10, 3) := by decide +kernel
theorem dX12_tickOnce_330 : decode cX12_tickOnce 330 = .ok (.aload_n 0, 1) := by decide +kernel
theorem dX12_tickOnce_331 : decode cX12_tickOnce 331 = .ok (.getfield 129, 3) := by decide +kernel
theorem dX12_tickOnce_334 : decode cX12_tickOnce 334 = .ok (.goto 7, 3) := by decide +kernel
theorem dX12_tickOnce_337 : decode cX12_tickOnce 337 = .ok (.aload_n 0, 1) := by decide +kernel
theorem dX12_tickOnce_338 : decode cX12_tickOnce 338 = .ok (.getfield 243, 3) := by decide +kernel
theorem dX12_tickOnce_341 : decode cX12_tickOnce 341 = .ok (.putfield 243, 3) := by decide +kernel
theorem dX12_tickOnce_344 : decode cX12_tickOnce 344 = .ok (.iconst 0, 1) := by decide +kernel
theorem dX12_tickOnce_345 : decode cX12_tickOnce 345 = .ok (.istore 4, 2) := by decide +kernel
theorem dX12_tickOnce_347 : decode cX12_tickOnce 347 = .ok (.iload 4, 2) := by decide +kernel
theorem dX12_tickOnce_349 : decode cX12_tickOnce 349 = .ok (.aload_n 0, 1) := by decide +kernel
theorem dX12_tickOnce_350 : decode cX12_tickOnce 350 = .ok (.getfield 231, 3) := by decide +kernel
theorem dX12_tickOnce_353 : decode cX12_tickOnce 353 = .ok (.if_icmp .ge 75, 3) := by decide +kernel
theorem dX12_tickOnce_356 : decode cX12_tickOnce 356 = .ok (.aload_n 0, 1) := by decide +kernel
theorem dX12_tickOnce_357 : decode cX12_tickOnce 357 = .ok (.getfield 74, 3) := by decide +kernel
theorem dX12_tickOnce_360 : decode cX12_tickOnce 360 = .ok (.iload 4, 2) := by decide +kernel
theorem dX12_tickOnce_362 : decode cX12_tickOnce 362 = .ok (.iaload, 1) := by decide +kernel
theorem dX12_tickOnce_363 : decode cX12_tickOnce 363 = .ok (.istore 5, 2) := by decide +kernel
theorem dX12_tickOnce_365 : decode cX12_tickOnce 365 = .ok (.aload_n 0, 1) := by decide +kernel
theorem dX12_tickOnce_366 : decode cX12_tickOnce 366 = .ok (.dup, 1) := by decide +kernel
theorem dX12_tickOnce_367 : decode cX12_tickOnce 367 = .ok (.getfield 259, 3) := by decide +kernel
theorem dX12_tickOnce_370 : decode cX12_tickOnce 370 = .ok (.aload_n 0, 1) := by decide +kernel
theorem dX12_tickOnce_371 : decode cX12_tickOnce 371 = .ok (.getfield 83, 3) := by decide +kernel
theorem dX12_tickOnce_374 : decode cX12_tickOnce 374 = .ok (.iload 5, 2) := by decide +kernel
theorem dX12_tickOnce_376 : decode cX12_tickOnce 376 = .ok (.iaload, 1) := by decide +kernel
theorem dX12_tickOnce_377 : decode cX12_tickOnce 377 = .ok (.i2l, 1) := by decide +kernel
theorem dX12_tickOnce_378 : decode cX12_tickOnce 378 = .ok (.aload_n 0, 1) := by decide +kernel
theorem dX12_tickOnce_379 : decode cX12_tickOnce 379 = .ok (.getfield 243, 3) := by decide +kernel
theorem dX12_tickOnce_382 : decode cX12_tickOnce 382 = .ok (.aload_n 0, 1) := by decide +kernel
theorem dX12_tickOnce_383 : decode cX12_tickOnce 383 = .ok (.getfield 77, 3) := by decide +kernel
theorem dX12_tickOnce_386 : decode cX12_tickOnce 386 = .ok (.iload 5, 2) := by decide +kernel
theorem dX12_tickOnce_388 : decode cX12_tickOnce 388 = .ok (.iaload, 1) := by decide +kernel
theorem dX12_tickOnce_389 : decode cX12_tickOnce 389 = .ok (.isub, 1) := by decide +kernel
theorem dX12_tickOnce_390 : decode cX12_tickOnce 390 = .ok (.i2l, 1) := by decide +kernel
theorem dX12_tickOnce_391 : decode cX12_tickOnce 391 = .ok (.lmul, 1) := by decide +kernel
theorem dX12_tickOnce_392 : decode cX12_tickOnce 392 = .ok (.ladd, 1) := by decide +kernel
theorem dX12_tickOnce_393 : decode cX12_tickOnce 393 = .ok (.putfield 259, 3) := by decide +kernel
theorem dX12_tickOnce_396 : decode cX12_tickOnce 396 = .ok (.aload_n 0, 1) := by decide +kernel
theorem dX12_tickOnce_397 : decode cX12_tickOnce 397 = .ok (.dup, 1) := by decide +kernel
theorem dX12_tickOnce_398 : decode cX12_tickOnce 398 = .ok (.getfield 263, 3) := by decide +kernel
theorem dX12_tickOnce_401 : decode cX12_tickOnce 401 = .ok (.aload_n 0, 1) := by decide +kernel
theorem dX12_tickOnce_402 : decode cX12_tickOnce 402 = .ok (.getfield 83, 3) := by decide +kernel
theorem dX12_tickOnce_405 : decode cX12_tickOnce 405 = .ok (.iload 5, 2) := by decide +kernel
theorem dX12_tickOnce_407 : decode cX12_tickOnce 407 = .ok (.iaload, 1) := by decide +kernel
theorem dX12_tickOnce_408 : decode cX12_tickOnce 408 = .ok (.i2l, 1) := by decide +kernel
theorem dX12_tickOnce_409 : decode cX12_tickOnce 409 = .ok (.aload_n 0, 1) := by decide +kernel
theorem dX12_tickOnce_410 : decode cX12_tickOnce 410 = .ok (.getfield 77, 3) := by decide +kernel
theorem dX12_tickOnce_413 : decode cX12_tickOnce 413 = .ok (.iload 5, 2) := by decide +kernel
theorem dX12_tickOnce_415 : decode cX12_tickOnce 415 = .ok (.iaload, 1) := by decide +kernel
theorem dX12_tickOnce_416 : decode cX12_tickOnce 416 = .ok (.i2l, 1) := by decide +kernel
theorem dX12_tickOnce_417 : decode cX12_tickOnce 417 = .ok (.lmul, 1) := by decide +kernel
theorem dX12_tickOnce_418 : decode cX12_tickOnce 418 = .ok (.ladd, 1) := by decide +kernel
theorem dX12_tickOnce_419 : decode cX12_tickOnce 419 = .ok (.putfield 263, 3) := by decide +kernel
theorem dX12_tickOnce_422 : decode cX12_tickOnce 422 = .ok (.iinc 4 1, 3) := by decide +kernel
theorem dX12_tickOnce_425 : decode cX12_tickOnce 425 = .ok (.goto (-78), 3) := by decide +kernel
theorem dX12_tickOnce_428 : decode cX12_tickOnce 428 = .ok (.aload_n 0, 1) := by decide +kernel
theorem dX12_tickOnce_429 : decode cX12_tickOnce 429 = .ok (.dup, 1) := by decide +kernel
theorem dX12_tickOnce_430 : decode cX12_tickOnce 430 = .ok (.getfield 259, 3) := by decide +kernel
theorem dX12_tickOnce_433 : decode cX12_tickOnce 433 = .ok (.aload_n 0, 1) := by decide +kernel
theorem dX12_tickOnce_434 : decode cX12_tickOnce 434 = .ok (.getfield 253, 3) := by decide +kernel
theorem dX12_tickOnce_437 : decode cX12_tickOnce 437 = .ok (.i2l, 1) := by decide +kernel
theorem dX12_tickOnce_438 : decode cX12_tickOnce 438 = .ok (.aload_n 0, 1) := by decide +kernel
theorem dX12_tickOnce_439 : decode cX12_tickOnce 439 = .ok (.getfield 243, 3) := by decide +kernel
theorem dX12_tickOnce_442 : decode cX12_tickOnce 442 = .ok (.iload_n 3, 1) := by decide +kernel
theorem dX12_tickOnce_443 : decode cX12_tickOnce 443 = .ok (.isub, 1) := by decide +kernel
theorem dX12_tickOnce_444 : decode cX12_tickOnce 444 = .ok (.i2l, 1) := by decide +kernel
theorem dX12_tickOnce_445 : decode cX12_tickOnce 445 = .ok (.lmul, 1) := by decide +kernel
theorem dX12_tickOnce_446 : decode cX12_tickOnce 446 = .ok (.aload_n 0, 1) := by decide +kernel
theorem dX12_tickOnce_447 : decode cX12_tickOnce 447 = .ok (.getfield 256, 3) := by decide +kernel
theorem dX12_tickOnce_450 : decode cX12_tickOnce 450 = .ok (.i2l, 1) := by decide +kernel
theorem dX12_tickOnce_451 : decode cX12_tickOnce 451 = .ok (.aload_n 0, 1) := by decide +kernel
theorem dX12_tickOnce_452 : decode cX12_tickOnce 452 = .ok (.getfield 129, 3) := by decide +kernel
theorem dX12_tickOnce_455 : decode cX12_tickOnce 455 = .ok (.i2l, 1) := by decide +kernel
theorem dX12_tickOnce_456 : decode cX12_tickOnce 456 = .ok (.lmul, 1) := by decide +kernel
theorem dX12_tickOnce_457 : decode cX12_tickOnce 457 = .ok (.ladd, 1) := by decide +kernel
theorem dX12_tickOnce_458 : decode cX12_tickOnce 458 = .ok (.ladd, 1) := by decide +kernel
theorem dX12_tickOnce_459 : decode cX12_tickOnce 459 = .ok (.putfield 259, 3) := by decide +kernel
theorem dX12_tickOnce_462 : decode cX12_tickOnce 462 = .ok (.aload_n 0, 1) := by decide +kernel
theorem dX12_tickOnce_463 : decode cX12_tickOnce 463 = .ok (.dup, 1) := by decide +kernel
theorem dX12_tickOnce_464 : decode cX12_tickOnce 464 = .ok (.getfield 266, 3) := by decide +kernel
theorem dX12_tickOnce_467 : decode cX12_tickOnce 467 = .ok (.aload_n 0, 1) := by decide +kernel
theorem dX12_tickOnce_468 : decode cX12_tickOnce 468 = .ok (.getfield 184, 3) := by decide +kernel
theorem dX12_tickOnce_471 : decode cX12_tickOnce 471 = .ok (.i2l, 1) := by decide +kernel
theorem dX12_tickOnce_472 : decode cX12_tickOnce 472 = .ok (.aload_n 0, 1) := by decide +kernel
theorem dX12_tickOnce_473 : decode cX12_tickOnce 473 = .ok (.getfield 243, 3) := by decide +kernel
theorem dX12_tickOnce_476 : decode cX12_tickOnce 476 = .ok (.i2l, 1) := by decide +kernel
theorem dX12_tickOnce_477 : decode cX12_tickOnce 477 = .ok (.lmul, 1) := by decide +kernel
theorem dX12_tickOnce_478 : decode cX12_tickOnce 478 = .ok (.ladd, 1) := by decide +kernel
theorem dX12_tickOnce_479 : decode cX12_tickOnce 479 = .ok (.putfield 266, 3) := by decide +kernel
theorem dX12_tickOnce_482 : decode cX12_tickOnce 482 = .ok (.iconst 0, 1) := by decide +kernel
theorem dX12_tickOnce_483 : decode cX12_tickOnce 483 = .ok (.istore 4, 2) := by decide +kernel
theorem dX12_tickOnce_485 : decode cX12_tickOnce 485 = .ok (.iload 4, 2) := by decide +kernel
theorem dX12_tickOnce_487 : decode cX12_tickOnce 487 = .ok (.aload_n 0, 1) := by decide +kernel
theorem dX12_tickOnce_488 : decode cX12_tickOnce 488 = .ok (.getfield 231, 3) := by decide +kernel
theorem dX12_tickOnce_491 : decode cX12_tickOnce 491 = .ok (.if_icmp .ge 123, 3) := by decide +kernel
theorem dX12_tickOnce_494 : decode cX12_tickOnce 494 = .ok (.iload_n 2, 1) := by decide +kernel
theorem dX12_tickOnce_495 : decode cX12_tickOnce 495 = .ok (.ifCond .eq 119, 3) := by decide +kernel
theorem dX12_tickOnce_498 : decode cX12_tickOnce 498 = .ok (.aload_n 0, 1) := by decide +kernel
theorem dX12_tickOnce_499 : decode cX12_tickOnce 499 = .ok (.getfield 74, 3) := by decide +kernel
theorem dX12_tickOnce_502 : decode cX12_tickOnce 502 = .ok (.iload 4, 2) := by decide +kernel
theorem dX12_tickOnce_504 : decode cX12_tickOnce 504 = .ok (.iaload, 1) := by decide +kernel
theorem dX12_tickOnce_505 : decode cX12_tickOnce 505 = .ok (.istore 5, 2) := by decide +kernel
theorem dX12_tickOnce_507 : decode cX12_tickOnce 507 = .ok (.aload_n 0, 1) := by decide +kernel
theorem dX12_tickOnce_508 : decode cX12_tickOnce 508 = .ok (.getfield 83, 3) := by decide +kernel
theorem dX12_tickOnce_511 : decode cX12_tickOnce 511 = .ok (.iload 5, 2) := by decide +kernel
theorem dX12_tickOnce_513 : decode cX12_tickOnce 513 = .ok (.iaload, 1) := by decide +kernel
theorem dX12_tickOnce_514 : decode cX12_tickOnce 514 = .ok (.aload_n 0, 1) := by decide +kernel
theorem dX12_tickOnce_515 : decode cX12_tickOnce 515 = .ok (.getfield 80, 3) := by decide +kernel
theorem dX12_tickOnce_518 : decode cX12_tickOnce 518 = .ok (.iload 5, 2) := by decide +kernel
theorem dX12_tickOnce_520 : decode cX12_tickOnce 520 = .ok (.iaload, 1) := by decide +kernel
theorem dX12_tickOnce_521 : decode cX12_tickOnce 521 = .ok (.if_icmp .ge 87, 3) := by decide +kernel
theorem dX12_tickOnce_524 : decode cX12_tickOnce 524 = .ok (.aload_n 0, 1) := by decide +kernel
theorem dX12_tickOnce_525 : decode cX12_tickOnce 525 = .ok (.invokevirtual 249, 3) := by decide +kernel
theorem dX12_tickOnce_528 : decode cX12_tickOnce 528 = .ok (.aload_n 0, 1) := by decide +kernel
theorem dX12_tickOnce_529 : decode cX12_tickOnce 529 = .ok (.getfield 77, 3) := by decide +kernel
theorem dX12_tickOnce_532 : decode cX12_tickOnce 532 = .ok (.iload 5, 2) := by decide +kernel
theorem dX12_tickOnce_534 : decode cX12_tickOnce 534 = .ok (.iaload, 1) := by decide +kernel
theorem dX12_tickOnce_535 : decode cX12_tickOnce 535 = .ok (.if_icmp .lt 73, 3) := by decide +kernel
theorem dX12_tickOnce_538 : decode cX12_tickOnce 538 = .ok (.aload_n 0, 1) := by decide +kernel
theorem dX12_tickOnce_539 : decode cX12_tickOnce 539 = .ok (.getfield 80, 3) := by decide +kernel
theorem dX12_tickOnce_542 : decode cX12_tickOnce 542 = .ok (.iload 5, 2) := by decide +kernel
theorem dX12_tickOnce_544 : decode cX12_tickOnce 544 = .ok (.iaload, 1) := by decide +kernel
theorem dX12_tickOnce_545 : decode cX12_tickOnce 545 = .ok (.aload_n 0, 1) := by decide +kernel
theorem dX12_tickOnce_546 : decode cX12_tickOnce 546 = .ok (.getfield 83, 3) := by decide +kernel
theorem dX12_tickOnce_549 : decode cX12_tickOnce 549 = .ok (.iload 5, 2) := by decide +kernel
theorem dX12_tickOnce_551 : decode cX12_tickOnce 551 = .ok (.iaload, 1) := by decide +kernel
theorem dX12_tickOnce_552 : decode cX12_tickOnce 552 = .ok (.isub, 1) := by decide +kernel
theorem dX12_tickOnce_553 : decode cX12_tickOnce 553 = .ok (.aload_n 0, 1) := by decide +kernel
theorem dX12_tickOnce_554 : decode cX12_tickOnce 554 = .ok (.getfield 203, 3) := by decide +kernel
theorem dX12_tickOnce_557 : decode cX12_tickOnce 557 = .ok (.invokestatic 212, 3) := by decide +kernel
theorem dX12_tickOnce_560 : decode cX12_tickOnce 560 = .ok (.istore 6, 2) := by decide +kernel
theorem dX12_tickOnce_562 : decode cX12_tickOnce 562 = .ok (.aload_n 0, 1) := by decide +kernel
theorem dX12_tickOnce_563 : decode cX12_tickOnce 563 = .ok (.dup, 1) := by decide +kernel
theorem dX12_tickOnce_564 : decode cX12_tickOnce 564 = .ok (.getfield 203, 3) := by decide +kernel
theorem dX12_tickOnce_567 : decode cX12_tickOnce 567 = .ok (.iload 6, 2) := by decide +kernel
theorem dX12_tickOnce_569 : decode cX12_tickOnce 569 = .ok (.isub, 1) := by decide +kernel
theorem dX12_tickOnce_570 : decode cX12_tickOnce 570 = .ok (.putfield 203, 3) := by decide +kernel
theorem dX12_tickOnce_573 : decode cX12_tickOnce 573 = .ok (.aload_n 0, 1) := by decide +kernel
theorem dX12_tickOnce_574 : decode cX12_tickOnce 574 = .ok (.dup, 1) := by decide +kernel
theorem dX12_tickOnce_575 : decode cX12_tickOnce 575 = .ok (.getfield 253, 3) := by decide +kernel
theorem dX12_tickOnce_578 : decode cX12_tickOnce 578 = .ok (.iload 6, 2) := by decide +kernel
theorem dX12_tickOnce_580 : decode cX12_tickOnce 580 = .ok (.isub, 1) := by decide +kernel
theorem dX12_tickOnce_581 : decode cX12_tickOnce 581 = .ok (.putfield 253, 3) := by decide +kernel
theorem dX12_tickOnce_584 : decode cX12_tickOnce 584 = .ok (.aload_n 0, 1) := by decide +kernel
theorem dX12_tickOnce_585 : decode cX12_tickOnce 585 = .ok (.getfield 31, 3) := by decide +kernel
theorem dX12_tickOnce_588 : decode cX12_tickOnce 588 = .ok (.iload 5, 2) := by decide +kernel
theorem dX12_tickOnce_590 : decode cX12_tickOnce 590 = .ok (.dup2, 1) := by decide +kernel
theorem dX12_tickOnce_591 : decode cX12_tickOnce 591 = .ok (.iaload, 1) := by decide +kernel
theorem dX12_tickOnce_592 : decode cX12_tickOnce 592 = .ok (.iload 6, 2) := by decide +kernel
theorem dX12_tickOnce_594 : decode cX12_tickOnce 594 = .ok (.iadd, 1) := by decide +kernel
theorem dX12_tickOnce_595 : decode cX12_tickOnce 595 = .ok (.iastore, 1) := by decide +kernel
theorem dX12_tickOnce_596 : decode cX12_tickOnce 596 = .ok (.aload_n 0, 1) := by decide +kernel
theorem dX12_tickOnce_597 : decode cX12_tickOnce 597 = .ok (.getfield 56, 3) := by decide +kernel
theorem dX12_tickOnce_600 : decode cX12_tickOnce 600 = .ok (.iload 5, 2) := by decide +kernel
theorem dX12_tickOnce_602 : decode cX12_tickOnce 602 = .ok (.dup2, 1) := by decide +kernel
theorem dX12_tickOnce_603 : decode cX12_tickOnce 603 = .ok (.iaload, 1) := by decide +kernel
theorem dX12_tickOnce_604 : decode cX12_tickOnce 604 = .ok (.iload 6, 2) := by decide +kernel
theorem dX12_tickOnce_606 : decode cX12_tickOnce 606 = .ok (.iadd, 1) := by decide +kernel
theorem dX12_tickOnce_607 : decode cX12_tickOnce 607 = .ok (.iastore, 1) := by decide +kernel
theorem dX12_tickOnce_608 : decode cX12_tickOnce 608 = .ok (.iinc 4 1, 3) := by decide +kernel
theorem dX12_tickOnce_611 : decode cX12_tickOnce 611 = .ok (.goto (-126), 3) := by decide +kernel
theorem dX12_tickOnce_614 : decode cX12_tickOnce 614 = .ok (.aload_n 0, 1) := by decide +kernel
theorem dX12_tickOnce_615 : decode cX12_tickOnce 615 = .ok (.iconst 1, 1) := by decide +kernel
theorem dX12_tickOnce_616 : decode cX12_tickOnce 616 = .ok (.putfield 269, 3) := by decide +kernel
theorem dX12_tickOnce_619 : decode cX12_tickOnce 619 = .ok (.return_, 1) := by decide +kernel
set_option maxRecDepth 100000 in
theorem ggX12_tick_X12_in : GoodIn wsX12_tick wsX12_in := goodIn_s _ [] [7] (by decide +kernel) rfl (by decide +kernel)
set_option maxRecDepth 20000 in
theorem gX12_tick_X12_in : GoodIn wsX12_tick (va_wsS RX12 150 yX12_in wsX12_in) := goodIn_app (goodIn_of _ (by decide +kernel)) ggX12_tick_X12_in
set_option maxRecDepth 100000 in
theorem ggX12_tick_X12_tickOnce : GoodIn wsX12_tick wsX12_tickOnce := goodIn_s _ [12, 13, 14, 15, 16, 17, 18, 19, 20, 21, 22, 23, 24, 25, 26, 27, 28, 29, 30, 31, 32, 33, 34, 35, 36, 37, 38, 39, 6, 41, 42, 43, 44, 45, 47, 48, 49, 50, 51, 53, 54, 55, 56, 57, 58, 59, 60, 62, 63, 65, 66, 67, 69, 70, 71, 72, 73, 75, 76, 77, 79, 80, 81, 82, 84, 85, 86, 87, 88, 89, 90, 91, 92, 93, 94, 95, 96, 97, 98, 99, 100, 101, 102, 103, 104, 105, 106, 107, 108, 109, 110, 111, 112, 113, 114, 115, 116, 117, 118, 119, 120, 121, 122, 123, 124, 125, 126, 127, 128, 129, 130, 131, 132, 133, 134, 135, 136, 137, 138, 139, 140, 141, 142, 143, 144, 145, 146, 147, 148, 149, 150, 151] [11, 40, 46, 52, 61, 64, 68, 74, 78, 83] (by decide +kernel) rfl (by decide +kernel)
set_option maxRecDepth 20000 in
theorem gX12_tick_X12_tickOnce : GoodIn wsX12_tick (wsV RX12 276 RX12 yX12_tickOnce wsX12_tickOnce) := goodIn_app (goodIn_of _ (by decide +kernel)) ggX12_tick_X12_tickOnce
theorem dX12_tick_0 : decode cX12_tick 0 = .ok (.iload_n 1, 1) := by decide +kernel
theorem dX12_tick_1 : decode cX12_tick 1 = .ok (.i2l, 1) := by decide +kernel
theorem dX12_tick_2 : decode cX12_tick 2 = .ok (.lconst 0, 1) := by decide +kernel
theorem dX12_tick_3 : decode cX12_tick 3 = .ok (.ldc2_w 273, 3) := by decide +kernel
theorem dX12_tick_6 : decode cX12_tick 6 = .ok (.invokestatic 150, 3) := by decide +kernel
theorem dX12_tick_9 : decode cX12_tick 9 = .ok (.ifCond .ne 6, 3) := by decide +kernel
theorem dX12_tick_12 : decode cX12_tick 12 = .ok (.bipush (-2), 2) := by decide +kernel
theorem dX12_tick_14 : decode cX12_tick 14 = .ok (.ireturn, 1) := by decide +kernel
theorem dX12_tick_15 : decode cX12_tick 15 = .ok (.aload_n 0, 1) := by decide +kernel
theorem dX12_tick_16 : decode cX12_tick 16 = .ok (.getfield 136, 3) := by decide +kernel
theorem dX12_tick_19 : decode cX12_tick 19 = .ok (.iload_n 1, 1) := by decide +kernel
theorem dX12_tick_20 : decode cX12_tick 20 = .ok (.iadd, 1) := by decide +kernel
theorem dX12_tick_21 : decode cX12_tick 21 = .ok (.ldc_w 275, 3) := by decide +kernel
theorem dX12_tick_24 : decode cX12_tick 24 = .ok (.if_icmp .le 6, 3) := by decide +kernel
theorem dX12_tick_27 : decode cX12_tick 27 = .ok (.bipush (-3), 2) := by decide +kernel
theorem dX12_tick_29 : decode cX12_tick 29 = .ok (.ireturn, 1) := by decide +kernel
theorem dX12_tick_30 : decode cX12_tick 30 = .ok (.iconst 0, 1) := by decide +kernel
theorem dX12_tick_31 : decode cX12_tick 31 = .ok (.istore_n 2, 1) := by decide +kernel
theorem dX12_tick_32 : decode cX12_tick 32 = .ok (.iload_n 2, 1) := by decide +kernel
theorem dX12_tick_33 : decode cX12_tick 33 = .ok (.iload_n 1, 1) := by decide +kernel
theorem dX12_tick_34 : decode cX12_tick 34 = .ok (.if_icmp .ge 13, 3) := by decide +kernel
theorem dX12_tick_37 : decode cX12_tick 37 = .ok (.aload_n 0, 1) := by decide +kernel
theorem dX12_tick_38 : decode cX12_tick 38 = .ok (.invokevirtual 276, 3) := by decide +kernel
theorem dX12_tick_41 : decode cX12_tick 41 = .ok (.iinc 2 1, 3) := by decide +kernel
theorem dX12_tick_44 : decode cX12_tick 44 = .ok (.goto (-12), 3) := by decide +kernel
theorem dX12_tick_47 : decode cX12_tick 47 = .ok (.aload_n 0, 1) := by decide +kernel
theorem dX12_tick_48 : decode cX12_tick 48 = .ok (.dup, 1) := by decide +kernel
theorem dX12_tick_49 : decode cX12_tick 49 = .ok (.getfield 136, 3) := by decide +kernel
theorem dX12_tick_52 : decode cX12_tick 52 = .ok (.iload_n 1, 1) := by decide +kernel
theorem dX12_tick_53 : decode cX12_tick 53 = .ok (.iadd, 1) := by decide +kernel
theorem dX12_tick_54 : decode cX12_tick 54 = .ok (.putfield 136, 3) := by decide +kernel
theorem dX12_tick_57 : decode cX12_tick 57 = .ok (.aload_n 0, 1) := by decide +kernel
theorem dX12_tick_58 : decode cX12_tick 58 = .ok (.getfield 136, 3) := by decide +kernel
theorem dX12_tick_61 : decode cX12_tick 61 = .ok (.ireturn, 1) := by decide +kernel
set_option maxRecDepth 100000 in
theorem ggX12_gauge_X12_in : GoodIn wsX12_gauge wsX12_in := goodIn_s _ [] [10] (by decide +kernel) rfl (by decide +kernel)
set_option maxRecDepth 20000 in
theorem gX12_gauge_X12_in : GoodIn wsX12_gauge (va_wsS RX12 150 yX12_in wsX12_in) := goodIn_app (goodIn_of _ (by decide +kernel)) ggX12_gauge_X12_in
theorem dX12_gauge_0 : decode cX12_gauge 0 = .ok (.iload_n 1, 1) := by decide +kernel
theorem dX12_gauge_1 : decode cX12_gauge 1 = .ok (.i2l, 1) := by decide +kernel
theorem dX12_gauge_2 : decode cX12_gauge 2 = .ok (.lconst 0, 1) := by decide +kernel
theorem dX12_gauge_3 : decode cX12_gauge 3 = .ok (.ldc2_w 148, 3) := by decide +kernel
theorem dX12_gauge_6 : decode cX12_gauge 6 = .ok (.invokestatic 150, 3) := by decide +kernel
theorem dX12_gauge_9 : decode cX12_gauge 9 = .ok (.ifCond .ne 6, 3) := by decide +kernel
theorem dX12_gauge_12 : decode cX12_gauge 12 = .ok (.bipush (-2), 2) := by decide +kernel
theorem dX12_gauge_14 : decode cX12_gauge 14 = .ok (.ireturn, 1) := by decide +kernel
theorem dX12_gauge_15 : decode cX12_gauge 15 = .ok (.aload_n 0, 1) := by decide +kernel
theorem dX12_gauge_16 : decode cX12_gauge 16 = .ok (.getfield 269, 3) := by decide +kernel
theorem dX12_gauge_19 : decode cX12_gauge 19 = .ok (.ifCond .ne 6, 3) := by decide +kernel
theorem dX12_gauge_22 : decode cX12_gauge 22 = .ok (.bipush (-3), 2) := by decide +kernel
theorem dX12_gauge_24 : decode cX12_gauge 24 = .ok (.ireturn, 1) := by decide +kernel
theorem dX12_gauge_25 : decode cX12_gauge 25 = .ok (.iload_n 1, 1) := by decide +kernel
theorem dX12_gauge_26 : decode cX12_gauge 26 = .ok (.ifCond .ne 10, 3) := by decide +kernel
theorem dX12_gauge_29 : decode cX12_gauge 29 = .ok (.aload_n 0, 1) := by decide +kernel
theorem dX12_gauge_30 : decode cX12_gauge 30 = .ok (.getfield 243, 3) := by decide +kernel
theorem dX12_gauge_33 : decode cX12_gauge 33 = .ok (.goto 31, 3) := by decide +kernel
theorem dX12_gauge_36 : decode cX12_gauge 36 = .ok (.iload_n 1, 1) := by decide +kernel
theorem dX12_gauge_37 : decode cX12_gauge 37 = .ok (.iconst 1, 1) := by decide +kernel
theorem dX12_gauge_38 : decode cX12_gauge 38 = .ok (.if_icmp .ne 10, 3) := by decide +kernel
theorem dX12_gauge_41 : decode cX12_gauge 41 = .ok (.aload_n 0, 1) := by decide +kernel
theorem dX12_gauge_42 : decode cX12_gauge 42 = .ok (.getfield 256, 3) := by decide +kernel
theorem dX12_gauge_45 : decode cX12_gauge 45 = .ok (.goto 19, 3) := by decide +kernel
theorem dX12_gauge_48 : decode cX12_gauge 48 = .ok (.iload_n 1, 1) := by decide +kernel
theorem dX12_gauge_49 : decode cX12_gauge 49 = .ok (.iconst 2, 1) := by decide +kernel
theorem dX12_gauge_50 : decode cX12_gauge 50 = .ok (.if_icmp .ne 10, 3) := by decide +kernel
theorem dX12_gauge_53 : decode cX12_gauge 53 = .ok (.aload_n 0, 1) := by decide +kernel
theorem dX12_gauge_54 : decode cX12_gauge 54 = .ok (.getfield 253, 3) := by decide +kernel
theorem dX12_gauge_57 : decode cX12_gauge 57 = .ok (.goto 7, 3) := by decide +kernel
theorem dX12_gauge_60 : decode cX12_gauge 60 = .ok (.aload_n 0, 1) := by decide +kernel
theorem dX12_gauge_61 : decode cX12_gauge 61 = .ok (.getfield 246, 3) := by decide +kernel
theorem dX12_gauge_64 : decode cX12_gauge 64 = .ok (.ireturn, 1) := by decide +kernel
set_option maxRecDepth 100000 in
theorem ggX12_mover_X12_in : GoodIn wsX12_mover wsX12_in := goodIn_s _ [] [6] (by decide +kernel) rfl (by decide +kernel)
set_option maxRecDepth 20000 in
theorem gX12_mover_X12_in : GoodIn wsX12_mover (va_wsS RX12 150 yX12_in wsX12_in) := goodIn_app (goodIn_of _ (by decide +kernel)) ggX12_mover_X12_in
theorem dX12_mover_0 : decode cX12_mover 0 = .ok (.iload_n 1, 1) := by decide +kernel
theorem dX12_mover_1 : decode cX12_mover 1 = .ok (.i2l, 1) := by decide +kernel
theorem dX12_mover_2 : decode cX12_mover 2 = .ok (.lconst 0, 1) := by decide +kernel
theorem dX12_mover_3 : decode cX12_mover 3 = .ok (.aload_n 0, 1) := by decide +kernel
theorem dX12_mover_4 : decode cX12_mover 4 = .ok (.getfield 246, 3) := by decide +kernel
theorem dX12_mover_7 : decode cX12_mover 7 = .ok (.i2l, 1) := by decide +kernel
theorem dX12_mover_8 : decode cX12_mover 8 = .ok (.lconst 1, 1) := by decide +kernel
theorem dX12_mover_9 : decode cX12_mover 9 = .ok (.lsub, 1) := by decide +kernel
theorem dX12_mover_10 : decode cX12_mover 10 = .ok (.invokestatic 150, 3) := by decide +kernel
theorem dX12_mover_13 : decode cX12_mover 13 = .ok (.ifCond .eq 12, 3) := by decide +kernel
theorem dX12_mover_16 : decode cX12_mover 16 = .ok (.aload_n 0, 1) := by decide +kernel
theorem dX12_mover_17 : decode cX12_mover 17 = .ok (.getfield 71, 3) := by decide +kernel
theorem dX12_mover_20 : decode cX12_mover 20 = .ok (.iload_n 1, 1) := by decide +kernel
theorem dX12_mover_21 : decode cX12_mover 21 = .ok (.iaload, 1) := by decide +kernel
theorem dX12_mover_22 : decode cX12_mover 22 = .ok (.goto 4, 3) := by decide +kernel
theorem dX12_mover_25 : decode cX12_mover 25 = .ok (.iconst (-1), 1) := by decide +kernel
theorem dX12_mover_26 : decode cX12_mover 26 = .ok (.ireturn, 1) := by decide +kernel
set_option maxRecDepth 100000 in
theorem ggX12_sum_X12_storePressure : GoodIn wsX12_sum wsX12_storePressure := goodIn_s _ [10, 4, 11, 16, 17, 18, 19, 20, 21, 22, 23, 24, 25, 26, 27, 28, 29, 30, 31, 32, 33, 34, 35, 36, 37, 38, 39, 40, 41, 42, 43, 44, 45, 46, 47, 48, 49, 50, 51, 52, 53, 54, 55, 56, 57, 58, 59, 60, 61, 62, 63, 64, 65, 66, 67, 68, 69, 70, 71, 72, 73, 74, 75, 76, 77, 78, 79, 80, 81] [9] (by decide +kernel) rfl (by decide +kernel)
set_option maxRecDepth 20000 in
theorem gX12_sum_X12_storePressure : GoodIn wsX12_sum (wsV RX12 249 RX12 yX12_storePressure wsX12_storePressure) := goodIn_app (goodIn_of _ (by decide +kernel)) ggX12_sum_X12_storePressure
set_option maxRecDepth 100000 in
theorem ggX12_sum_X12_lost : GoodIn wsX12_sum wsX12_lost := goodIn_s _ [15] [14] (by decide +kernel) rfl (by decide +kernel)
set_option maxRecDepth 20000 in
theorem gX12_sum_X12_lost : GoodIn wsX12_sum (va_wsS RX12 144 yX12_lost wsX12_lost) := goodIn_app (goodIn_of _ (by decide +kernel)) ggX12_sum_X12_lost
theorem dX12_sum_0 : decode cX12_sum 0 = .ok (.iload_n 1, 1) := by decide +kernel
theorem dX12_sum_1 : decode cX12_sum 1 = .ok (.tableswitch 62 0 4 #[35, 40, 45, 50, 56], 35) := by decide +kernel
theorem dX12_sum_36 : decode cX12_sum 36 = .ok (.aload_n 0, 1) := by decide +kernel
theorem dX12_sum_37 : decode cX12_sum 37 = .ok (.getfield 259, 3) := by decide +kernel
theorem dX12_sum_40 : decode cX12_sum 40 = .ok (.lreturn, 1) := by decide +kernel
theorem dX12_sum_41 : decode cX12_sum 41 = .ok (.aload_n 0, 1) := by decide +kernel
theorem dX12_sum_42 : decode cX12_sum 42 = .ok (.getfield 263, 3) := by decide +kernel
theorem dX12_sum_45 : decode cX12_sum 45 = .ok (.lreturn, 1) := by decide +kernel
theorem dX12_sum_46 : decode cX12_sum 46 = .ok (.aload_n 0, 1) := by decide +kernel
theorem dX12_sum_47 : decode cX12_sum 47 = .ok (.getfield 266, 3) := by decide +kernel
theorem dX12_sum_50 : decode cX12_sum 50 = .ok (.lreturn, 1) := by decide +kernel
theorem dX12_sum_51 : decode cX12_sum 51 = .ok (.aload_n 0, 1) := by decide +kernel
theorem dX12_sum_52 : decode cX12_sum 52 = .ok (.getfield 203, 3) := by decide +kernel
theorem dX12_sum_55 : decode cX12_sum 55 = .ok (.i2l, 1) := by decide +kernel
theorem dX12_sum_56 : decode cX12_sum 56 = .ok (.lreturn, 1) := by decide +kernel
theorem dX12_sum_57 : decode cX12_sum 57 = .ok (.aload_n 0, 1) := by decide +kernel
theorem dX12_sum_58 : decode cX12_sum 58 = .ok (.invokevirtual 249, 3) := by decide +kernel
theorem dX12_sum_61 : decode cX12_sum 61 = .ok (.i2l, 1) := by decide +kernel
theorem dX12_sum_62 : decode cX12_sum 62 = .ok (.lreturn, 1) := by decide +kernel
theorem dX12_sum_63 : decode cX12_sum 63 = .ok (.invokestatic 144, 3) := by decide +kernel
theorem dX12_sum_66 : decode cX12_sum 66 = .ok (.lreturn, 1) := by decide +kernel
theorem dX12_start_0 : decode cX12_start 0 = .ok (.aload_n 0, 1) := by decide +kernel
theorem dX12_start_1 : decode cX12_start 1 = .ok (.iconst 1, 1) := by decide +kernel
theorem dX12_start_2 : decode cX12_start 2 = .ok (.putfield 279, 3) := by decide +kernel
theorem dX12_start_5 : decode cX12_start 5 = .ok (.aload_n 0, 1) := by decide +kernel
theorem dX12_start_6 : decode cX12_start 6 = .ok (.aload_n 0, 1) := by decide +kernel
theorem dX12_start_7 : decode cX12_start 7 = .ok (.getfield 179, 3) := by decide +kernel
theorem dX12_start_10 : decode cX12_start 10 = .ok (.putfield 282, 3) := by decide +kernel
theorem dX12_start_13 : decode cX12_start 13 = .ok (.iconst 0, 1) := by decide +kernel
theorem dX12_start_14 : decode cX12_start 14 = .ok (.istore_n 1, 1) := by decide +kernel
theorem dX12_start_15 : decode cX12_start 15 = .ok (.iload_n 1, 1) := by decide +kernel
theorem dX12_start_16 : decode cX12_start 16 = .ok (.aload_n 0, 1) := by decide +kernel
theorem dX12_start_17 : decode cX12_start 17 = .ok (.getfield 179, 3) := by decide +kernel
theorem dX12_start_20 : decode cX12_start 20 = .ok (.if_icmp .ge 45, 3) := by decide +kernel
theorem dX12_start_23 : decode cX12_start 23 = .ok (.aload_n 0, 1) := by decide +kernel
theorem dX12_start_24 : decode cX12_start 24 = .ok (.getfield 86, 3) := by decide +kernel
theorem dX12_start_27 : decode cX12_start 27 = .ok (.iload_n 1, 1) := by decide +kernel
theorem dX12_start_28 : decode cX12_start 28 = .ok (.aload_n 0, 1) := by decide +kernel
theorem dX12_start_29 : decode cX12_start 29 = .ok (.getfield 31, 3) := by decide +kernel
theorem dX12_start_32 : decode cX12_start 32 = .ok (.iload_n 1, 1) := by decide +kernel
theorem dX12_start_33 : decode cX12_start 33 = .ok (.iaload, 1) := by decide +kernel
theorem dX12_start_34 : decode cX12_start 34 = .ok (.iastore, 1) := by decide +kernel
theorem dX12_start_35 : decode cX12_start 35 = .ok (.aload_n 0, 1) := by decide +kernel
theorem dX12_start_36 : decode cX12_start 36 = .ok (.getfield 89, 3) := by decide +kernel
theorem dX12_start_39 : decode cX12_start 39 = .ok (.iload_n 1, 1) := by decide +kernel
theorem dX12_start_40 : decode cX12_start 40 = .ok (.aload_n 0, 1) := by decide +kernel
theorem dX12_start_41 : decode cX12_start 41 = .ok (.getfield 49, 3) := by decide +kernel
theorem dX12_start_44 : decode cX12_start 44 = .ok (.iload_n 1, 1) := by decide +kernel
theorem dX12_start_45 : decode cX12_start 45 = .ok (.iaload, 1) := by decide +kernel
theorem dX12_start_46 : decode cX12_start 46 = .ok (.iastore, 1) := by decide +kernel
theorem dX12_start_47 : decode cX12_start 47 = .ok (.aload_n 0, 1) := by decide +kernel
theorem dX12_start_48 : decode cX12_start 48 = .ok (.getfield 92, 3) := by decide +kernel
theorem dX12_start_51 : decode cX12_start 51 = .ok (.iload_n 1, 1) := by decide +kernel
theorem dX12_start_52 : decode cX12_start 52 = .ok (.aload_n 0, 1) := by decide +kernel
theorem dX12_start_53 : decode cX12_start 53 = .ok (.getfield 52, 3) := by decide +kernel
theorem dX12_start_56 : decode cX12_start 56 = .ok (.iload_n 1, 1) := by decide +kernel
theorem dX12_start_57 : decode cX12_start 57 = .ok (.baload, 1) := by decide +kernel
theorem dX12_start_58 : decode cX12_start 58 = .ok (.bastore, 1) := by decide +kernel
theorem dX12_start_59 : decode cX12_start 59 = .ok (.iinc 1 1, 3) := by decide +kernel
theorem dX12_start_62 : decode cX12_start 62 = .ok (.goto (-47), 3) := by decide +kernel
theorem dX12_start_65 : decode cX12_start 65 = .ok (.aload_n 0, 1) := by decide +kernel
theorem dX12_start_66 : decode cX12_start 66 = .ok (.aload_n 0, 1) := by decide +kernel
theorem dX12_start_67 : decode cX12_start 67 = .ok (.getfield 203, 3) := by decide +kernel
theorem dX12_start_70 : decode cX12_start 70 = .ok (.putfield 285, 3) := by decide +kernel
theorem dX12_start_73 : decode cX12_start 73 = .ok (.aload_n 0, 1) := by decide +kernel
theorem dX12_start_74 : decode cX12_start 74 = .ok (.aload_n 0, 1) := by decide +kernel
theorem dX12_start_75 : decode cX12_start 75 = .ok (.getfield 224, 3) := by decide +kernel
theorem dX12_start_78 : decode cX12_start 78 = .ok (.putfield 288, 3) := by decide +kernel
theorem dX12_start_81 : decode cX12_start 81 = .ok (.aload_n 0, 1) := by decide +kernel
theorem dX12_start_82 : decode cX12_start 82 = .ok (.iconst 0, 1) := by decide +kernel
theorem dX12_start_83 : decode cX12_start 83 = .ok (.putfield 136, 3) := by decide +kernel
theorem dX12_start_86 : decode cX12_start 86 = .ok (.iconst 1, 1) := by decide +kernel
theorem dX12_start_87 : decode cX12_start 87 = .ok (.ireturn, 1) := by decide +kernel
set_option maxRecDepth 100000 in
theorem ggX12_reading_X12_noCylinder : GoodIn wsX12_reading wsX12_noCylinder := goodIn_s _ [11, 12, 13, 9, 21, 22, 23, 24, 25, 26, 27, 28, 29, 30, 31, 32, 33, 34, 35, 36, 37, 38, 39, 40, 41, 42, 43, 44, 45, 46, 47, 48, 49, 50, 51, 52, 53, 54, 55, 56, 57, 58, 59, 60, 61, 62, 63, 64, 65, 66, 67, 68, 69, 70, 71, 72, 73, 74, 75, 76, 77, 78, 79, 80, 81, 82, 83, 84, 85, 86] [10, 14] (by decide +kernel) rfl (by decide +kernel)
set_option maxRecDepth 20000 in
theorem gX12_reading_X12_noCylinder : GoodIn wsX12_reading (wsV RX12 189 RX12 yX12_noCylinder wsX12_noCylinder) := goodIn_app (goodIn_of _ (by decide +kernel)) ggX12_reading_X12_noCylinder
set_option maxRecDepth 100000 in
theorem ggX12_reading_X12_in : GoodIn wsX12_reading wsX12_in := goodIn_s _ [] [14] (by decide +kernel) rfl (by decide +kernel)
set_option maxRecDepth 20000 in
theorem gX12_reading_X12_in : GoodIn wsX12_reading (va_wsS RX12 150 yX12_in wsX12_in) := goodIn_app (goodIn_of _ (by decide +kernel)) ggX12_reading_X12_in
set_option maxRecDepth 100000 in
theorem ggX12_reading_X12_room : GoodIn wsX12_reading wsX12_room := goodIn_s _ [19, 20, 21, 22, 23, 24, 25, 26, 27, 28, 29, 30, 31, 32, 33, 34, 35, 36, 37, 38, 39, 40, 41, 42, 43, 44, 45, 46, 47, 48, 49, 50, 51, 52, 53, 54, 55, 56, 57, 58, 59, 60, 61, 62, 63, 64, 65, 66, 67, 68, 69, 70, 71, 72, 73, 74, 75, 76, 77, 78, 79, 80, 81, 82, 83, 84, 85, 86] [18] (by decide +kernel) rfl (by decide +kernel)
set_option maxRecDepth 20000 in
theorem gX12_reading_X12_room : GoodIn wsX12_reading (wsV RX12 198 RX12 yX12_room wsX12_room) := goodIn_app (goodIn_of _ (by decide +kernel)) ggX12_reading_X12_room
theorem dX12_reading_0 : decode cX12_reading 0 = .ok (.aload_n 0, 1) := by decide +kernel
theorem dX12_reading_1 : decode cX12_reading 1 = .ok (.iload_n 2, 1) := by decide +kernel
theorem dX12_reading_2 : decode cX12_reading 2 = .ok (.invokevirtual 189, 3) := by decide +kernel
theorem dX12_reading_5 : decode cX12_reading 5 = .ok (.ifCond .eq 5, 3) := by decide +kernel
theorem dX12_reading_8 : decode cX12_reading 8 = .ok (.iconst (-1), 1) := by decide +kernel
theorem dX12_reading_9 : decode cX12_reading 9 = .ok (.ireturn, 1) := by decide +kernel
theorem dX12_reading_10 : decode cX12_reading 10 = .ok (.iload_n 1, 1) := by decide +kernel
theorem dX12_reading_11 : decode cX12_reading 11 = .ok (.i2l, 1) := by decide +kernel
theorem dX12_reading_12 : decode cX12_reading 12 = .ok (.lconst 0, 1) := by decide +kernel
theorem dX12_reading_13 : decode cX12_reading 13 = .ok (.ldc2_w 273, 3) := by decide +kernel
theorem dX12_reading_16 : decode cX12_reading 16 = .ok (.invokestatic 150, 3) := by decide +kernel
theorem dX12_reading_19 : decode cX12_reading 19 = .ok (.ifCond .eq 18, 3) := by decide +kernel
theorem dX12_reading_22 : decode cX12_reading 22 = .ok (.iload_n 3, 1) := by decide +kernel
theorem dX12_reading_23 : decode cX12_reading 23 = .ok (.i2l, 1) := by decide +kernel
theorem dX12_reading_24 : decode cX12_reading 24 = .ok (.lconst 0, 1) := by decide +kernel
theorem dX12_reading_25 : decode cX12_reading 25 = .ok (.aload_n 0, 1) := by decide +kernel
theorem dX12_reading_26 : decode cX12_reading 26 = .ok (.iload_n 2, 1) := by decide +kernel
theorem dX12_reading_27 : decode cX12_reading 27 = .ok (.invokevirtual 198, 3) := by decide +kernel
theorem dX12_reading_30 : decode cX12_reading 30 = .ok (.i2l, 1) := by decide +kernel
theorem dX12_reading_31 : decode cX12_reading 31 = .ok (.invokestatic 150, 3) := by decide +kernel
theorem dX12_reading_34 : decode cX12_reading 34 = .ok (.ifCond .ne 6, 3) := by decide +kernel
theorem dX12_reading_37 : decode cX12_reading 37 = .ok (.bipush (-2), 2) := by decide +kernel
theorem dX12_reading_39 : decode cX12_reading 39 = .ok (.ireturn, 1) := by decide +kernel
theorem dX12_reading_40 : decode cX12_reading 40 = .ok (.aload_n 0, 1) := by decide +kernel
theorem dX12_reading_41 : decode cX12_reading 41 = .ok (.getfield 291, 3) := by decide +kernel
theorem dX12_reading_44 : decode cX12_reading 44 = .ok (.bipush 20, 2) := by decide +kernel
theorem dX12_reading_46 : decode cX12_reading 46 = .ok (.if_icmp .ne 6, 3) := by decide +kernel
theorem dX12_reading_49 : decode cX12_reading 49 = .ok (.bipush (-4), 2) := by decide +kernel
theorem dX12_reading_51 : decode cX12_reading 51 = .ok (.ireturn, 1) := by decide +kernel
theorem dX12_reading_52 : decode cX12_reading 52 = .ok (.aload_n 0, 1) := by decide +kernel
theorem dX12_reading_53 : decode cX12_reading 53 = .ok (.getfield 95, 3) := by decide +kernel
theorem dX12_reading_56 : decode cX12_reading 56 = .ok (.aload_n 0, 1) := by decide +kernel
theorem dX12_reading_57 : decode cX12_reading 57 = .ok (.getfield 291, 3) := by decide +kernel
theorem dX12_reading_60 : decode cX12_reading 60 = .ok (.iload_n 1, 1) := by decide +kernel
theorem dX12_reading_61 : decode cX12_reading 61 = .ok (.iastore, 1) := by decide +kernel
theorem dX12_reading_62 : decode cX12_reading 62 = .ok (.aload_n 0, 1) := by decide +kernel
theorem dX12_reading_63 : decode cX12_reading 63 = .ok (.getfield 98, 3) := by decide +kernel
theorem dX12_reading_66 : decode cX12_reading 66 = .ok (.aload_n 0, 1) := by decide +kernel
theorem dX12_reading_67 : decode cX12_reading 67 = .ok (.getfield 291, 3) := by decide +kernel
theorem dX12_reading_70 : decode cX12_reading 70 = .ok (.iload_n 2, 1) := by decide +kernel
theorem dX12_reading_71 : decode cX12_reading 71 = .ok (.iastore, 1) := by decide +kernel
theorem dX12_reading_72 : decode cX12_reading 72 = .ok (.aload_n 0, 1) := by decide +kernel
theorem dX12_reading_73 : decode cX12_reading 73 = .ok (.getfield 101, 3) := by decide +kernel
theorem dX12_reading_76 : decode cX12_reading 76 = .ok (.aload_n 0, 1) := by decide +kernel
theorem dX12_reading_77 : decode cX12_reading 77 = .ok (.getfield 291, 3) := by decide +kernel
theorem dX12_reading_80 : decode cX12_reading 80 = .ok (.iload_n 3, 1) := by decide +kernel
theorem dX12_reading_81 : decode cX12_reading 81 = .ok (.iastore, 1) := by decide +kernel
theorem dX12_reading_82 : decode cX12_reading 82 = .ok (.aload_n 0, 1) := by decide +kernel
theorem dX12_reading_83 : decode cX12_reading 83 = .ok (.dup, 1) := by decide +kernel
theorem dX12_reading_84 : decode cX12_reading 84 = .ok (.getfield 291, 3) := by decide +kernel
theorem dX12_reading_87 : decode cX12_reading 87 = .ok (.iconst 1, 1) := by decide +kernel
theorem dX12_reading_88 : decode cX12_reading 88 = .ok (.iadd, 1) := by decide +kernel
theorem dX12_reading_89 : decode cX12_reading 89 = .ok (.putfield 291, 3) := by decide +kernel
theorem dX12_reading_92 : decode cX12_reading 92 = .ok (.aload_n 0, 1) := by decide +kernel
theorem dX12_reading_93 : decode cX12_reading 93 = .ok (.getfield 291, 3) := by decide +kernel
theorem dX12_reading_96 : decode cX12_reading 96 = .ok (.ireturn, 1) := by decide +kernel
theorem dX12_forget_0 : decode cX12_forget 0 = .ok (.aload_n 0, 1) := by decide +kernel
theorem dX12_forget_1 : decode cX12_forget 1 = .ok (.getfield 291, 3) := by decide +kernel
theorem dX12_forget_4 : decode cX12_forget 4 = .ok (.istore_n 1, 1) := by decide +kernel
theorem dX12_forget_5 : decode cX12_forget 5 = .ok (.aload_n 0, 1) := by decide +kernel
theorem dX12_forget_6 : decode cX12_forget 6 = .ok (.iconst 0, 1) := by decide +kernel
theorem dX12_forget_7 : decode cX12_forget 7 = .ok (.putfield 291, 3) := by decide +kernel
theorem dX12_forget_10 : decode cX12_forget 10 = .ok (.iload_n 1, 1) := by decide +kernel
theorem dX12_forget_11 : decode cX12_forget 11 = .ok (.ireturn, 1) := by decide +kernel
theorem dX12_putAside_0 : decode cX12_putAside 0 = .ok (.iconst 0, 1) := by decide +kernel
theorem dX12_putAside_1 : decode cX12_putAside 1 = .ok (.istore_n 1, 1) := by decide +kernel
theorem dX12_putAside_2 : decode cX12_putAside 2 = .ok (.iload_n 1, 1) := by decide +kernel
theorem dX12_putAside_3 : decode cX12_putAside 3 = .ok (.bipush 6, 2) := by decide +kernel
theorem dX12_putAside_5 : decode cX12_putAside 5 = .ok (.if_icmp .ge 81, 3) := by decide +kernel
theorem dX12_putAside_8 : decode cX12_putAside 8 = .ok (.aload_n 0, 1) := by decide +kernel
theorem dX12_putAside_9 : decode cX12_putAside 9 = .ok (.getfield 104, 3) := by decide +kernel
theorem dX12_putAside_12 : decode cX12_putAside 12 = .ok (.iload_n 1, 1) := by decide +kernel
theorem dX12_putAside_13 : decode cX12_putAside 13 = .ok (.aload_n 0, 1) := by decide +kernel
theorem dX12_putAside_14 : decode cX12_putAside 14 = .ok (.getfield 31, 3) := by decide +kernel
theorem dX12_putAside_17 : decode cX12_putAside 17 = .ok (.iload_n 1, 1) := by decide +kernel
theorem dX12_putAside_18 : decode cX12_putAside 18 = .ok (.iaload, 1) := by decide +kernel
theorem dX12_putAside_19 : decode cX12_putAside 19 = .ok (.iastore, 1) := by decide +kernel
theorem dX12_putAside_20 : decode cX12_putAside 20 = .ok (.aload_n 0, 1) := by decide +kernel
theorem dX12_putAside_21 : decode cX12_putAside 21 = .ok (.getfield 107, 3) := by decide +kernel
theorem dX12_putAside_24 : decode cX12_putAside 24 = .ok (.iload_n 1, 1) := by decide +kernel
theorem dX12_putAside_25 : decode cX12_putAside 25 = .ok (.aload_n 0, 1) := by decide +kernel
theorem dX12_putAside_26 : decode cX12_putAside 26 = .ok (.getfield 49, 3) := by decide +kernel
theorem dX12_putAside_29 : decode cX12_putAside 29 = .ok (.iload_n 1, 1) := by decide +kernel
theorem dX12_putAside_30 : decode cX12_putAside 30 = .ok (.iaload, 1) := by decide +kernel
theorem dX12_putAside_31 : decode cX12_putAside 31 = .ok (.iastore, 1) := by decide +kernel
theorem dX12_putAside_32 : decode cX12_putAside 32 = .ok (.aload_n 0, 1) := by decide +kernel
theorem dX12_putAside_33 : decode cX12_putAside 33 = .ok (.getfield 110, 3) := by decide +kernel
theorem dX12_putAside_36 : decode cX12_putAside 36 = .ok (.iload_n 1, 1) := by decide +kernel
theorem dX12_putAside_37 : decode cX12_putAside 37 = .ok (.aload_n 0, 1) := by decide +kernel
theorem dX12_putAside_38 : decode cX12_putAside 38 = .ok (.getfield 46, 3) := by decide +kernel
theorem dX12_putAside_41 : decode cX12_putAside 41 = .ok (.iload_n 1, 1) := by decide +kernel
theorem dX12_putAside_42 : decode cX12_putAside 42 = .ok (.iaload, 1) := by decide +kernel
theorem dX12_putAside_43 : decode cX12_putAside 43 = .ok (.iastore, 1) := by decide +kernel
theorem dX12_putAside_44 : decode cX12_putAside 44 = .ok (.aload_n 0, 1) := by decide +kernel
theorem dX12_putAside_45 : decode cX12_putAside 45 = .ok (.getfield 113, 3) := by decide +kernel
theorem dX12_putAside_48 : decode cX12_putAside 48 = .ok (.iload_n 1, 1) := by decide +kernel
theorem dX12_putAside_49 : decode cX12_putAside 49 = .ok (.aload_n 0, 1) := by decide +kernel
theorem dX12_putAside_50 : decode cX12_putAside 50 = .ok (.getfield 56, 3) := by decide +kernel
theorem dX12_putAside_53 : decode cX12_putAside 53 = .ok (.iload_n 1, 1) := by decide +kernel
theorem dX12_putAside_54 : decode cX12_putAside 54 = .ok (.iaload, 1) := by decide +kernel
theorem dX12_putAside_55 : decode cX12_putAside 55 = .ok (.iastore, 1) := by decide +kernel
theorem dX12_putAside_56 : decode cX12_putAside 56 = .ok (.aload_n 0, 1) := by decide +kernel
theorem dX12_putAside_57 : decode cX12_putAside 57 = .ok (.getfield 116, 3) := by decide +kernel
theorem dX12_putAside_60 : decode cX12_putAside 60 = .ok (.iload_n 1, 1) := by decide +kernel
theorem dX12_putAside_61 : decode cX12_putAside 61 = .ok (.aload_n 0, 1) := by decide +kernel
theorem dX12_putAside_62 : decode cX12_putAside 62 = .ok (.getfield 71, 3) := by decide +kernel
theorem dX12_putAside_65 : decode cX12_putAside 65 = .ok (.iload_n 1, 1) := by decide +kernel
theorem dX12_putAside_66 : decode cX12_putAside 66 = .ok (.iaload, 1) := by decide +kernel
theorem dX12_putAside_67 : decode cX12_putAside 67 = .ok (.iastore, 1) := by decide +kernel
theorem dX12_putAside_68 : decode cX12_putAside 68 = .ok (.aload_n 0, 1) := by decide +kernel
theorem dX12_putAside_69 : decode cX12_putAside 69 = .ok (.getfield 119, 3) := by decide +kernel
theorem dX12_putAside_72 : decode cX12_putAside 72 = .ok (.iload_n 1, 1) := by decide +kernel
theorem dX12_putAside_73 : decode cX12_putAside 73 = .ok (.aload_n 0, 1) := by decide +kernel
theorem dX12_putAside_74 : decode cX12_putAside 74 = .ok (.getfield 52, 3) := by decide +kernel
theorem dX12_putAside_77 : decode cX12_putAside 77 = .ok (.iload_n 1, 1) := by decide +kernel
theorem dX12_putAside_78 : decode cX12_putAside 78 = .ok (.baload, 1) := by decide +kernel
theorem dX12_putAside_79 : decode cX12_putAside 79 = .ok (.bastore, 1) := by decide +kernel
theorem dX12_putAside_80 : decode cX12_putAside 80 = .ok (.iinc 1 1, 3) := by decide +kernel
theorem dX12_putAside_83 : decode cX12_putAside 83 = .ok (.goto (-81), 3) := by decide +kernel
theorem dX12_putAside_86 : decode cX12_putAside 86 = .ok (.aload_n 0, 1) := by decide +kernel
theorem dX12_putAside_87 : decode cX12_putAside 87 = .ok (.getfield 122, 3) := by decide +kernel
theorem dX12_putAside_90 : decode cX12_putAside 90 = .ok (.iconst 0, 1) := by decide +kernel
theorem dX12_putAside_91 : decode cX12_putAside 91 = .ok (.aload_n 0, 1) := by decide +kernel
theorem dX12_putAside_92 : decode cX12_putAside 92 = .ok (.getfield 203, 3) := by decide +kernel
theorem dX12_putAside_95 : decode cX12_putAside 95 = .ok (.iastore, 1) := by decide +kernel
theorem dX12_putAside_96 : decode cX12_putAside 96 = .ok (.aload_n 0, 1) := by decide +kernel
theorem dX12_putAside_97 : decode cX12_putAside 97 = .ok (.getfield 122, 3) := by decide +kernel
theorem dX12_putAside_100 : decode cX12_putAside 100 = .ok (.iconst 1, 1) := by decide +kernel
theorem dX12_putAside_101 : decode cX12_putAside 101 = .ok (.aload_n 0, 1) := by decide +kernel
theorem dX12_putAside_102 : decode cX12_putAside 102 = .ok (.getfield 224, 3) := by decide +kernel
theorem dX12_putAside_105 : decode cX12_putAside 105 = .ok (.iastore, 1) := by decide +kernel
theorem dX12_putAside_106 : decode cX12_putAside 106 = .ok (.aload_n 0, 1) := by decide +kernel
theorem dX12_putAside_107 : decode cX12_putAside 107 = .ok (.getfield 122, 3) := by decide +kernel
theorem dX12_putAside_110 : decode cX12_putAside 110 = .ok (.iconst 2, 1) := by decide +kernel
theorem dX12_putAside_111 : decode cX12_putAside 111 = .ok (.aload_n 0, 1) := by decide +kernel
theorem dX12_putAside_112 : decode cX12_putAside 112 = .ok (.getfield 243, 3) := by decide +kernel
theorem dX12_putAside_115 : decode cX12_putAside 115 = .ok (.iastore, 1) := by decide +kernel
theorem dX12_putAside_116 : decode cX12_putAside 116 = .ok (.aload_n 0, 1) := by decide +kernel
theorem dX12_putAside_117 : decode cX12_putAside 117 = .ok (.getfield 122, 3) := by decide +kernel
theorem dX12_putAside_120 : decode cX12_putAside 120 = .ok (.iconst 3, 1) := by decide +kernel
theorem dX12_putAside_121 : decode cX12_putAside 121 = .ok (.aload_n 0, 1) := by decide +kernel
theorem dX12_putAside_122 : decode cX12_putAside 122 = .ok (.getfield 256, 3) := by decide +kernel
theorem dX12_putAside_125 : decode cX12_putAside 125 = .ok (.iastore, 1) := by decide +kernel
theorem dX12_putAside_126 : decode cX12_putAside 126 = .ok (.aload_n 0, 1) := by decide +kernel
theorem dX12_putAside_127 : decode cX12_putAside 127 = .ok (.getfield 122, 3) := by decide +kernel
theorem dX12_putAside_130 : decode cX12_putAside 130 = .ok (.iconst 4, 1) := by decide +kernel
theorem dX12_putAside_131 : decode cX12_putAside 131 = .ok (.aload_n 0, 1) := by decide +kernel
theorem dX12_putAside_132 : decode cX12_putAside 132 = .ok (.getfield 253, 3) := by decide +kernel
theorem dX12_putAside_135 : decode cX12_putAside 135 = .ok (.iastore, 1) := by decide +kernel
theorem dX12_putAside_136 : decode cX12_putAside 136 = .ok (.aload_n 0, 1) := by decide +kernel
theorem dX12_putAside_137 : decode cX12_putAside 137 = .ok (.getfield 122, 3) := by decide +kernel
theorem dX12_putAside_140 : decode cX12_putAside 140 = .ok (.iconst 5, 1) := by decide +kernel
theorem dX12_putAside_141 : decode cX12_putAside 141 = .ok (.aload_n 0, 1) := by decide +kernel
theorem dX12_putAside_142 : decode cX12_putAside 142 = .ok (.getfield 246, 3) := by decide +kernel
theorem dX12_putAside_145 : decode cX12_putAside 145 = .ok (.iastore, 1) := by decide +kernel
theorem dX12_putAside_146 : decode cX12_putAside 146 = .ok (.aload_n 0, 1) := by decide +kernel
theorem dX12_putAside_147 : decode cX12_putAside 147 = .ok (.getfield 125, 3) := by decide +kernel
theorem dX12_putAside_150 : decode cX12_putAside 150 = .ok (.iconst 0, 1) := by decide +kernel
theorem dX12_putAside_151 : decode cX12_putAside 151 = .ok (.aload_n 0, 1) := by decide +kernel
theorem dX12_putAside_152 : decode cX12_putAside 152 = .ok (.getfield 259, 3) := by decide +kernel
theorem dX12_putAside_155 : decode cX12_putAside 155 = .ok (.lastore, 1) := by decide +kernel
theorem dX12_putAside_156 : decode cX12_putAside 156 = .ok (.aload_n 0, 1) := by decide +kernel
theorem dX12_putAside_157 : decode cX12_putAside 157 = .ok (.getfield 125, 3) := by decide +kernel
theorem dX12_putAside_160 : decode cX12_putAside 160 = .ok (.iconst 1, 1) := by decide +kernel
theorem dX12_putAside_161 : decode cX12_putAside 161 = .ok (.aload_n 0, 1) := by decide +kernel
theorem dX12_putAside_162 : decode cX12_putAside 162 = .ok (.getfield 263, 3) := by decide +kernel
theorem dX12_putAside_165 : decode cX12_putAside 165 = .ok (.lastore, 1) := by decide +kernel
theorem dX12_putAside_166 : decode cX12_putAside 166 = .ok (.aload_n 0, 1) := by decide +kernel
theorem dX12_putAside_167 : decode cX12_putAside 167 = .ok (.getfield 125, 3) := by decide +kernel
theorem dX12_putAside_170 : decode cX12_putAside 170 = .ok (.iconst 2, 1) := by decide +kernel
theorem dX12_putAside_171 : decode cX12_putAside 171 = .ok (.aload_n 0, 1) := by decide +kernel
theorem dX12_putAside_172 : decode cX12_putAside 172 = .ok (.getfield 266, 3) := by decide +kernel
theorem dX12_putAside_175 : decode cX12_putAside 175 = .ok (.lastore, 1) := by decide +kernel
theorem dX12_putAside_176 : decode cX12_putAside 176 = .ok (.aload_n 0, 1) := by decide +kernel
theorem dX12_putAside_177 : decode cX12_putAside 177 = .ok (.aload_n 0, 1) := by decide +kernel
theorem dX12_putAside_178 : decode cX12_putAside 178 = .ok (.getfield 269, 3) := by decide +kernel
theorem dX12_putAside_181 : decode cX12_putAside 181 = .ok (.putfield 294, 3) := by decide +kernel
theorem dX12_putAside_184 : decode cX12_putAside 184 = .ok (.return_, 1) := by decide +kernel
theorem dX12_putBack_0 : decode cX12_putBack 0 = .ok (.iconst 0, 1) := by decide +kernel
theorem dX12_putBack_1 : decode cX12_putBack 1 = .ok (.istore_n 1, 1) := by decide +kernel
theorem dX12_putBack_2 : decode cX12_putBack 2 = .ok (.iload_n 1, 1) := by decide +kernel
theorem dX12_putBack_3 : decode cX12_putBack 3 = .ok (.bipush 6, 2) := by decide +kernel
theorem dX12_putBack_5 : decode cX12_putBack 5 = .ok (.if_icmp .ge 81, 3) := by decide +kernel
theorem dX12_putBack_8 : decode cX12_putBack 8 = .ok (.aload_n 0, 1) := by decide +kernel
theorem dX12_putBack_9 : decode cX12_putBack 9 = .ok (.getfield 31, 3) := by decide +kernel
theorem dX12_putBack_12 : decode cX12_putBack 12 = .ok (.iload_n 1, 1) := by decide +kernel
theorem dX12_putBack_13 : decode cX12_putBack 13 = .ok (.aload_n 0, 1) := by decide +kernel
theorem dX12_putBack_14 : decode cX12_putBack 14 = .ok (.getfield 104, 3) := by decide +kernel
theorem dX12_putBack_17 : decode cX12_putBack 17 = .ok (.iload_n 1, 1) := by decide +kernel
theorem dX12_putBack_18 : decode cX12_putBack 18 = .ok (.iaload, 1) := by decide +kernel
theorem dX12_putBack_19 : decode cX12_putBack 19 = .ok (.iastore, 1) := by decide +kernel
theorem dX12_putBack_20 : decode cX12_putBack 20 = .ok (.aload_n 0, 1) := by decide +kernel
theorem dX12_putBack_21 : decode cX12_putBack 21 = .ok (.getfield 49, 3) := by decide +kernel
theorem dX12_putBack_24 : decode cX12_putBack 24 = .ok (.iload_n 1, 1) := by decide +kernel
theorem dX12_putBack_25 : decode cX12_putBack 25 = .ok (.aload_n 0, 1) := by decide +kernel
theorem dX12_putBack_26 : decode cX12_putBack 26 = .ok (.getfield 107, 3) := by decide +kernel
theorem dX12_putBack_29 : decode cX12_putBack 29 = .ok (.iload_n 1, 1) := by decide +kernel
theorem dX12_putBack_30 : decode cX12_putBack 30 = .ok (.iaload, 1) := by decide +kernel
theorem dX12_putBack_31 : decode cX12_putBack 31 = .ok (.iastore, 1) := by decide +kernel
theorem dX12_putBack_32 : decode cX12_putBack 32 = .ok (.aload_n 0, 1) := by decide +kernel
theorem dX12_putBack_33 : decode cX12_putBack 33 = .ok (.getfield 46, 3) := by decide +kernel
theorem dX12_putBack_36 : decode cX12_putBack 36 = .ok (.iload_n 1, 1) := by decide +kernel
theorem dX12_putBack_37 : decode cX12_putBack 37 = .ok (.aload_n 0, 1) := by decide +kernel
theorem dX12_putBack_38 : decode cX12_putBack 38 = .ok (.getfield 110, 3) := by decide +kernel
theorem dX12_putBack_41 : decode cX12_putBack 41 = .ok (.iload_n 1, 1) := by decide +kernel
theorem dX12_putBack_42 : decode cX12_putBack 42 = .ok (.iaload, 1) := by decide +kernel
theorem dX12_putBack_43 : decode cX12_putBack 43 = .ok (.iastore, 1) := by decide +kernel
theorem dX12_putBack_44 : decode cX12_putBack 44 = .ok (.aload_n 0, 1) := by decide +kernel
theorem dX12_putBack_45 : decode cX12_putBack 45 = .ok (.getfield 56, 3) := by decide +kernel
theorem dX12_putBack_48 : decode cX12_putBack 48 = .ok (.iload_n 1, 1) := by decide +kernel
theorem dX12_putBack_49 : decode cX12_putBack 49 = .ok (.aload_n 0, 1) := by decide +kernel
theorem dX12_putBack_50 : decode cX12_putBack 50 = .ok (.getfield 113, 3) := by decide +kernel
theorem dX12_putBack_53 : decode cX12_putBack 53 = .ok (.iload_n 1, 1) := by decide +kernel
theorem dX12_putBack_54 : decode cX12_putBack 54 = .ok (.iaload, 1) := by decide +kernel
theorem dX12_putBack_55 : decode cX12_putBack 55 = .ok (.iastore, 1) := by decide +kernel
theorem dX12_putBack_56 : decode cX12_putBack 56 = .ok (.aload_n 0, 1) := by decide +kernel
theorem dX12_putBack_57 : decode cX12_putBack 57 = .ok (.getfield 71, 3) := by decide +kernel
theorem dX12_putBack_60 : decode cX12_putBack 60 = .ok (.iload_n 1, 1) := by decide +kernel
theorem dX12_putBack_61 : decode cX12_putBack 61 = .ok (.aload_n 0, 1) := by decide +kernel
theorem dX12_putBack_62 : decode cX12_putBack 62 = .ok (.getfield 116, 3) := by decide +kernel
theorem dX12_putBack_65 : decode cX12_putBack 65 = .ok (.iload_n 1, 1) := by decide +kernel
theorem dX12_putBack_66 : decode cX12_putBack 66 = .ok (.iaload, 1) := by decide +kernel
theorem dX12_putBack_67 : decode cX12_putBack 67 = .ok (.iastore, 1) := by decide +kernel
theorem dX12_putBack_68 : decode cX12_putBack 68 = .ok (.aload_n 0, 1) := by decide +kernel
theorem dX12_putBack_69 : decode cX12_putBack 69 = .ok (.getfield 52, 3) := by decide +kernel
theorem dX12_putBack_72 : decode cX12_putBack 72 = .ok (.iload_n 1, 1) := by decide +kernel
theorem dX12_putBack_73 : decode cX12_putBack 73 = .ok (.aload_n 0, 1) := by decide +kernel
theorem dX12_putBack_74 : decode cX12_putBack 74 = .ok (.getfield 119, 3) := by decide +kernel
theorem dX12_putBack_77 : decode cX12_putBack 77 = .ok (.iload_n 1, 1) := by decide +kernel
theorem dX12_putBack_78 : decode cX12_putBack 78 = .ok (.baload, 1) := by decide +kernel
theorem dX12_putBack_79 : decode cX12_putBack 79 = .ok (.bastore, 1) := by decide +kernel
theorem dX12_putBack_80 : decode cX12_putBack 80 = .ok (.iinc 1 1, 3) := by decide +kernel
theorem dX12_putBack_83 : decode cX12_putBack 83 = .ok (.goto (-81), 3) := by decide +kernel
theorem dX12_putBack_86 : decode cX12_putBack 86 = .ok (.aload_n 0, 1) := by decide +kernel
theorem dX12_putBack_87 : decode cX12_putBack 87 = .ok (.aload_n 0, 1) := by decide +kernel
theorem dX12_putBack_88 : decode cX12_putBack 88 = .ok (.getfield 122, 3) := by decide +kernel
theorem dX12_putBack_91 : decode cX12_putBack 91 = .ok (.iconst 0, 1) := by decide +kernel
theorem dX12_putBack_92 : decode cX12_putBack 92 = .ok (.iaload, 1) := by decide +kernel
theorem dX12_putBack_93 : decode cX12_putBack 93 = .ok (.putfield 203, 3) := by decide +kernel
theorem dX12_putBack_96 : decode cX12_putBack 96 = .ok (.aload_n 0, 1) := by decide +kernel
theorem dX12_putBack_97 : decode cX12_putBack 97 = .ok (.aload_n 0, 1) := by decide +kernel
theorem dX12_putBack_98 : decode cX12_putBack 98 = .ok (.getfield 122, 3) := by decide +kernel
theorem dX12_putBack_101 : decode cX12_putBack 101 = .ok (.iconst 1, 1) := by decide +kernel
theorem dX12_putBack_102 : decode cX12_putBack 102 = .ok (.iaload, 1) := by decide +kernel
theorem dX12_putBack_103 : decode cX12_putBack 103 = .ok (.putfield 224, 3) := by decide +kernel
theorem dX12_putBack_106 : decode cX12_putBack 106 = .ok (.aload_n 0, 1) := by decide +kernel
theorem dX12_putBack_107 : decode cX12_putBack 107 = .ok (.aload_n 0, 1) := by decide +kernel
theorem dX12_putBack_108 : decode cX12_putBack 108 = .ok (.getfield 122, 3) := by decide +kernel
theorem dX12_putBack_111 : decode cX12_putBack 111 = .ok (.iconst 2, 1) := by decide +kernel
theorem dX12_putBack_112 : decode cX12_putBack 112 = .ok (.iaload, 1) := by decide +kernel
theorem dX12_putBack_113 : decode cX12_putBack 113 = .ok (.putfield 243, 3) := by decide +kernel
theorem dX12_putBack_116 : decode cX12_putBack 116 = .ok (.aload_n 0, 1) := by decide +kernel
theorem dX12_putBack_117 : decode cX12_putBack 117 = .ok (.aload_n 0, 1) := by decide +kernel
theorem dX12_putBack_118 : decode cX12_putBack 118 = .ok (.getfield 122, 3) := by decide +kernel
theorem dX12_putBack_121 : decode cX12_putBack 121 = .ok (.iconst 3, 1) := by decide +kernel
theorem dX12_putBack_122 : decode cX12_putBack 122 = .ok (.iaload, 1) := by decide +kernel
theorem dX12_putBack_123 : decode cX12_putBack 123 = .ok (.putfield 256, 3) := by decide +kernel
theorem dX12_putBack_126 : decode cX12_putBack 126 = .ok (.aload_n 0, 1) := by decide +kernel
theorem dX12_putBack_127 : decode cX12_putBack 127 = .ok (.aload_n 0, 1) := by decide +kernel
theorem dX12_putBack_128 : decode cX12_putBack 128 = .ok (.getfield 122, 3) := by decide +kernel
theorem dX12_putBack_131 : decode cX12_putBack 131 = .ok (.iconst 4, 1) := by decide +kernel
theorem dX12_putBack_132 : decode cX12_putBack 132 = .ok (.iaload, 1) := by decide +kernel
theorem dX12_putBack_133 : decode cX12_putBack 133 = .ok (.putfield 253, 3) := by decide +kernel
theorem dX12_putBack_136 : decode cX12_putBack 136 = .ok (.aload_n 0, 1) := by decide +kernel
theorem dX12_putBack_137 : decode cX12_putBack 137 = .ok (.aload_n 0, 1) := by decide +kernel
theorem dX12_putBack_138 : decode cX12_putBack 138 = .ok (.getfield 122, 3) := by decide +kernel
theorem dX12_putBack_141 : decode cX12_putBack 141 = .ok (.iconst 5, 1) := by decide +kernel
theorem dX12_putBack_142 : decode cX12_putBack 142 = .ok (.iaload, 1) := by decide +kernel
theorem dX12_putBack_143 : decode cX12_putBack 143 = .ok (.putfield 246, 3) := by decide +kernel
theorem dX12_putBack_146 : decode cX12_putBack 146 = .ok (.aload_n 0, 1) := by decide +kernel
theorem dX12_putBack_147 : decode cX12_putBack 147 = .ok (.aload_n 0, 1) := by decide +kernel
theorem dX12_putBack_148 : decode cX12_putBack 148 = .ok (.getfield 125, 3) := by decide +kernel
theorem dX12_putBack_151 : decode cX12_putBack 151 = .ok (.iconst 0, 1) := by decide +kernel
theorem dX12_putBack_152 : decode cX12_putBack 152 = .ok (.laload, 1) := by decide +kernel
theorem dX12_putBack_153 : decode cX12_putBack 153 = .ok (.putfield 259, 3) := by decide +kernel
theorem dX12_putBack_156 : decode cX12_putBack 156 = .ok (.aload_n 0, 1) := by decide +kernel
theorem dX12_putBack_157 : decode cX12_putBack 157 = .ok (.aload_n 0, 1) := by decide +kernel
theorem dX12_putBack_158 : decode cX12_putBack 158 = .ok (.getfield 125, 3) := by decide +kernel
theorem dX12_putBack_161 : decode cX12_putBack 161 = .ok (.iconst 1, 1) := by decide +kernel
theorem dX12_putBack_162 : decode cX12_putBack 162 = .ok (.laload, 1) := by decide +kernel
theorem dX12_putBack_163 : decode cX12_putBack 163 = .ok (.putfield 263, 3) := by decide +kernel
theorem dX12_putBack_166 : decode cX12_putBack 166 = .ok (.aload_n 0, 1) := by decide +kernel
theorem dX12_putBack_167 : decode cX12_putBack 167 = .ok (.aload_n 0, 1) := by decide +kernel
theorem dX12_putBack_168 : decode cX12_putBack 168 = .ok (.getfield 125, 3) := by decide +kernel
theorem dX12_putBack_171 : decode cX12_putBack 171 = .ok (.iconst 2, 1) := by decide +kernel
theorem dX12_putBack_172 : decode cX12_putBack 172 = .ok (.laload, 1) := by decide +kernel
theorem dX12_putBack_173 : decode cX12_putBack 173 = .ok (.putfield 266, 3) := by decide +kernel
theorem dX12_putBack_176 : decode cX12_putBack 176 = .ok (.aload_n 0, 1) := by decide +kernel
theorem dX12_putBack_177 : decode cX12_putBack 177 = .ok (.aload_n 0, 1) := by decide +kernel
theorem dX12_putBack_178 : decode cX12_putBack 178 = .ok (.getfield 294, 3) := by decide +kernel
theorem dX12_putBack_181 : decode cX12_putBack 181 = .ok (.putfield 269, 3) := by decide +kernel
theorem dX12_putBack_184 : decode cX12_putBack 184 = .ok (.return_, 1) := by decide +kernel
theorem dX12_tells_0 : decode cX12_tells 0 = .ok (.iconst 1, 1) := by decide +kernel
theorem dX12_tells_1 : decode cX12_tells 1 = .ok (.istore_n 2, 1) := by decide +kernel
theorem dX12_tells_2 : decode cX12_tells 2 = .ok (.iconst 0, 1) := by decide +kernel
theorem dX12_tells_3 : decode cX12_tells 3 = .ok (.istore_n 3, 1) := by decide +kernel
theorem dX12_tells_4 : decode cX12_tells 4 = .ok (.iload_n 3, 1) := by decide +kernel
theorem dX12_tells_5 : decode cX12_tells 5 = .ok (.aload_n 0, 1) := by decide +kernel
theorem dX12_tells_6 : decode cX12_tells 6 = .ok (.getfield 291, 3) := by decide +kernel
theorem dX12_tells_9 : decode cX12_tells 9 = .ok (.if_icmp .ge 49, 3) := by decide +kernel
theorem dX12_tells_12 : decode cX12_tells 12 = .ok (.iload_n 2, 1) := by decide +kernel
theorem dX12_tells_13 : decode cX12_tells 13 = .ok (.ifCond .eq 37, 3) := by decide +kernel
theorem dX12_tells_16 : decode cX12_tells 16 = .ok (.aload_n 0, 1) := by decide +kernel
theorem dX12_tells_17 : decode cX12_tells 17 = .ok (.getfield 95, 3) := by decide +kernel
theorem dX12_tells_20 : decode cX12_tells 20 = .ok (.iload_n 3, 1) := by decide +kernel
theorem dX12_tells_21 : decode cX12_tells 21 = .ok (.iaload, 1) := by decide +kernel
theorem dX12_tells_22 : decode cX12_tells 22 = .ok (.iload_n 1, 1) := by decide +kernel
theorem dX12_tells_23 : decode cX12_tells 23 = .ok (.if_icmp .ne 23, 3) := by decide +kernel
theorem dX12_tells_26 : decode cX12_tells 26 = .ok (.aload_n 0, 1) := by decide +kernel
theorem dX12_tells_27 : decode cX12_tells 27 = .ok (.getfield 31, 3) := by decide +kernel
theorem dX12_tells_30 : decode cX12_tells 30 = .ok (.aload_n 0, 1) := by decide +kernel
theorem dX12_tells_31 : decode cX12_tells 31 = .ok (.getfield 98, 3) := by decide +kernel
theorem dX12_tells_34 : decode cX12_tells 34 = .ok (.iload_n 3, 1) := by decide +kernel
theorem dX12_tells_35 : decode cX12_tells 35 = .ok (.iaload, 1) := by decide +kernel
theorem dX12_tells_36 : decode cX12_tells 36 = .ok (.iaload, 1) := by decide +kernel
theorem dX12_tells_37 : decode cX12_tells 37 = .ok (.aload_n 0, 1) := by decide +kernel
theorem dX12_tells_38 : decode cX12_tells 38 = .ok (.getfield 101, 3) := by decide +kernel
theorem dX12_tells_41 : decode cX12_tells 41 = .ok (.iload_n 3, 1) := by decide +kernel
theorem dX12_tells_42 : decode cX12_tells 42 = .ok (.iaload, 1) := by decide +kernel
theorem dX12_tells_43 : decode cX12_tells 43 = .ok (.if_icmp .ne 7, 3) := by decide +kernel
theorem dX12_tells_46 : decode cX12_tells 46 = .ok (.iconst 1, 1) := by decide +kernel
theorem dX12_tells_47 : decode cX12_tells 47 = .ok (.goto 4, 3) := by decide +kernel
theorem dX12_tells_50 : decode cX12_tells 50 = .ok (.iconst 0, 1) := by decide +kernel
theorem dX12_tells_51 : decode cX12_tells 51 = .ok (.istore_n 2, 1) := by decide +kernel
theorem dX12_tells_52 : decode cX12_tells 52 = .ok (.iinc 3 1, 3) := by decide +kernel
theorem dX12_tells_55 : decode cX12_tells 55 = .ok (.goto (-51), 3) := by decide +kernel
theorem dX12_tells_58 : decode cX12_tells 58 = .ok (.iload_n 2, 1) := by decide +kernel
theorem dX12_tells_59 : decode cX12_tells 59 = .ok (.ireturn, 1) := by decide +kernel
set_option maxRecDepth 100000 in
theorem ggX12_tellsAll_X12_tells : GoodIn wsX12_tellsAll wsX12_tells := goodIn_s _ [20, 21, 2, 22, 23, 95, 96, 97, 98, 99, 100, 101, 102, 103, 104, 105, 106, 107, 108, 109, 110, 111, 112, 113, 114, 115, 116, 117, 118, 119, 120, 121, 122, 123, 124, 125, 126, 127, 128, 129, 130, 131, 132, 133, 134, 135, 136, 137, 138, 139, 140, 141, 142, 143, 144, 145, 146, 147, 148, 149, 150, 151, 152, 153, 154, 155, 156, 157, 158, 159, 160] [19] (by decide +kernel) rfl (by decide +kernel)
set_option maxRecDepth 20000 in
theorem gX12_tellsAll_X12_tells : GoodIn wsX12_tellsAll (wsV RX12 297 RX12 yX12_tells wsX12_tells) := goodIn_app (goodIn_of _ (by decide +kernel)) ggX12_tellsAll_X12_tells
set_option maxRecDepth 100000 in
theorem ggX12_tellsAll_X12_tickOnce : GoodIn wsX12_tellsAll wsX12_tickOnce := goodIn_s _ [13, 28, 5, 29, 30, 31, 32, 33, 34, 35, 36, 37, 2, 38, 39, 40, 41, 42, 11, 43, 44, 45, 46, 47, 48, 49, 50, 51, 18, 53, 54, 55, 56, 57, 59, 60, 61, 62, 63, 1, 7, 65, 66, 9, 67, 68, 69, 71, 72, 74, 75, 76, 78, 79, 80, 81, 82, 84, 85, 86, 88, 89, 90, 91, 93, 94, 95, 96, 97, 98, 99, 100, 101, 102, 103, 104, 105, 106, 107, 108, 109, 110, 111, 112, 113, 114, 115, 116, 117, 118, 119, 120, 121, 122, 123, 124, 125, 126, 127, 128, 129, 130, 131, 132, 133, 134, 135, 136, 137, 138, 139, 140, 141, 142, 143, 144, 145, 146, 147, 148, 149, 150, 151, 152, 153, 154, 155, 156, 157, 158, 159, 160] [27, 52, 58, 64, 70, 73, 77, 83, 87, 92] (by decide +kernel) rfl (by decide +kernel)
set_option maxRecDepth 20000 in
theorem gX12_tellsAll_X12_tickOnce : GoodIn wsX12_tellsAll (wsV RX12 276 RX12 yX12_tickOnce wsX12_tickOnce) := goodIn_app (goodIn_of _ (by decide +kernel)) ggX12_tellsAll_X12_tickOnce
theorem dX12_tellsAll_0 : decode cX12_tellsAll 0 = .ok (.iconst 0, 1) := by decide +kernel
theorem dX12_tellsAll_1 : decode cX12_tellsAll 1 = .ok (.istore_n 3, 1) := by decide +kernel
theorem dX12_tellsAll_2 : decode cX12_tellsAll 2 = .ok (.iload_n 3, 1) := by decide +kernel
theorem dX12_tellsAll_3 : decode cX12_tellsAll 3 = .ok (.aload_n 0, 1) := by decide +kernel
theorem dX12_tellsAll_4 : decode cX12_tellsAll 4 = .ok (.getfield 179, 3) := by decide +kernel
theorem dX12_tellsAll_7 : decode cX12_tellsAll 7 = .ok (.if_icmp .ge 101, 3) := by decide +kernel
theorem dX12_tellsAll_10 : decode cX12_tellsAll 10 = .ok (.aload_n 0, 1) := by decide +kernel
theorem dX12_tellsAll_11 : decode cX12_tellsAll 11 = .ok (.getfield 31, 3) := by decide +kernel
theorem dX12_tellsAll_14 : decode cX12_tellsAll 14 = .ok (.iload_n 3, 1) := by decide +kernel
theorem dX12_tellsAll_15 : decode cX12_tellsAll 15 = .ok (.iload_n 3, 1) := by decide +kernel
theorem dX12_tellsAll_16 : decode cX12_tellsAll 16 = .ok (.aload_n 0, 1) := by decide +kernel
theorem dX12_tellsAll_17 : decode cX12_tellsAll 17 = .ok (.getfield 282, 3) := by decide +kernel
theorem dX12_tellsAll_20 : decode cX12_tellsAll 20 = .ok (.if_icmp .ge 12, 3) := by decide +kernel
theorem dX12_tellsAll_23 : decode cX12_tellsAll 23 = .ok (.aload_n 0, 1) := by decide +kernel
theorem dX12_tellsAll_24 : decode cX12_tellsAll 24 = .ok (.getfield 86, 3) := by decide +kernel
theorem dX12_tellsAll_27 : decode cX12_tellsAll 27 = .ok (.iload_n 3, 1) := by decide +kernel
theorem dX12_tellsAll_28 : decode cX12_tellsAll 28 = .ok (.iaload, 1) := by decide +kernel
theorem dX12_tellsAll_29 : decode cX12_tellsAll 29 = .ok (.goto 4, 3) := by decide +kernel
theorem dX12_tellsAll_32 : decode cX12_tellsAll 32 = .ok (.iconst 0, 1) := by decide +kernel
theorem dX12_tellsAll_33 : decode cX12_tellsAll 33 = .ok (.iastore, 1) := by decide +kernel
theorem dX12_tellsAll_34 : decode cX12_tellsAll 34 = .ok (.aload_n 0, 1) := by decide +kernel
theorem dX12_tellsAll_35 : decode cX12_tellsAll 35 = .ok (.getfield 49, 3) := by decide +kernel
theorem dX12_tellsAll_38 : decode cX12_tellsAll 38 = .ok (.iload_n 3, 1) := by decide +kernel
theorem dX12_tellsAll_39 : decode cX12_tellsAll 39 = .ok (.iload_n 3, 1) := by decide +kernel
theorem dX12_tellsAll_40 : decode cX12_tellsAll 40 = .ok (.aload_n 0, 1) := by decide +kernel
theorem dX12_tellsAll_41 : decode cX12_tellsAll 41 = .ok (.getfield 282, 3) := by decide +kernel
theorem dX12_tellsAll_44 : decode cX12_tellsAll 44 = .ok (.if_icmp .ge 12, 3) := by decide +kernel
theorem dX12_tellsAll_47 : decode cX12_tellsAll 47 = .ok (.aload_n 0, 1) := by decide +kernel
theorem dX12_tellsAll_48 : decode cX12_tellsAll 48 = .ok (.getfield 89, 3) := by decide +kernel
theorem dX12_tellsAll_51 : decode cX12_tellsAll 51 = .ok (.iload_n 3, 1) := by decide +kernel
theorem dX12_tellsAll_52 : decode cX12_tellsAll 52 = .ok (.iaload, 1) := by decide +kernel
theorem dX12_tellsAll_53 : decode cX12_tellsAll 53 = .ok (.goto 4, 3) := by decide +kernel
theorem dX12_tellsAll_56 : decode cX12_tellsAll 56 = .ok (.iconst 0, 1) := by decide +kernel
theorem dX12_tellsAll_57 : decode cX12_tellsAll 57 = .ok (.iastore, 1) := by decide +kernel
theorem dX12_tellsAll_58 : decode cX12_tellsAll 58 = .ok (.aload_n 0, 1) := by decide +kernel
theorem dX12_tellsAll_59 : decode cX12_tellsAll 59 = .ok (.getfield 52, 3) := by decide +kernel
theorem dX12_tellsAll_62 : decode cX12_tellsAll 62 = .ok (.iload_n 3, 1) := by decide +kernel
theorem dX12_tellsAll_63 : decode cX12_tellsAll 63 = .ok (.iload_n 3, 1) := by decide +kernel
theorem dX12_tellsAll_64 : decode cX12_tellsAll 64 = .ok (.aload_n 0, 1) := by decide +kernel
theorem dX12_tellsAll_65 : decode cX12_tellsAll 65 = .ok (.getfield 282, 3) := by decide +kernel
theorem dX12_tellsAll_68 : decode cX12_tellsAll 68 = .ok (.if_icmp .ge 16, 3) := by decide +kernel
theorem dX12_tellsAll_71 : decode cX12_tellsAll 71 = .ok (.aload_n 0, 1) := by decide +kernel
theorem dX12_tellsAll_72 : decode cX12_tellsAll 72 = .ok (.getfield 92, 3) := by decide +kernel
theorem dX12_tellsAll_75 : decode cX12_tellsAll 75 = .ok (.iload_n 3, 1) := by decide +kernel
theorem dX12_tellsAll_76 : decode cX12_tellsAll 76 = .ok (.baload, 1) := by decide +kernel
theorem dX12_tellsAll_77 : decode cX12_tellsAll 77 = .ok (.ifCond .eq 7, 3) := by decide +kernel
theorem dX12_tellsAll_80 : decode cX12_tellsAll 80 = .ok (.iconst 1, 1) := by decide +kernel
theorem dX12_tellsAll_81 : decode cX12_tellsAll 81 = .ok (.goto 4, 3) := by decide +kernel
theorem dX12_tellsAll_84 : decode cX12_tellsAll 84 = .ok (.iconst 0, 1) := by decide +kernel
theorem dX12_tellsAll_85 : decode cX12_tellsAll 85 = .ok (.bastore, 1) := by decide +kernel
theorem dX12_tellsAll_86 : decode cX12_tellsAll 86 = .ok (.aload_n 0, 1) := by decide +kernel
theorem dX12_tellsAll_87 : decode cX12_tellsAll 87 = .ok (.getfield 46, 3) := by decide +kernel
theorem dX12_tellsAll_90 : decode cX12_tellsAll 90 = .ok (.iload_n 3, 1) := by decide +kernel
theorem dX12_tellsAll_91 : decode cX12_tellsAll 91 = .ok (.iload_n 3, 1) := by decide +kernel
theorem dX12_tellsAll_92 : decode cX12_tellsAll 92 = .ok (.iload_n 1, 1) := by decide +kernel
theorem dX12_tellsAll_93 : decode cX12_tellsAll 93 = .ok (.if_icmp .ne 7, 3) := by decide +kernel
theorem dX12_tellsAll_96 : decode cX12_tellsAll 96 = .ok (.iload_n 2, 1) := by decide +kernel
theorem dX12_tellsAll_97 : decode cX12_tellsAll 97 = .ok (.goto 4, 3) := by decide +kernel
theorem dX12_tellsAll_100 : decode cX12_tellsAll 100 = .ok (.iconst 0, 1) := by decide +kernel
theorem dX12_tellsAll_101 : decode cX12_tellsAll 101 = .ok (.iastore, 1) := by decide +kernel
theorem dX12_tellsAll_102 : decode cX12_tellsAll 102 = .ok (.iinc 3 1, 3) := by decide +kernel
theorem dX12_tellsAll_105 : decode cX12_tellsAll 105 = .ok (.goto (-103), 3) := by decide +kernel
theorem dX12_tellsAll_108 : decode cX12_tellsAll 108 = .ok (.aload_n 0, 1) := by decide +kernel
theorem dX12_tellsAll_109 : decode cX12_tellsAll 109 = .ok (.aload_n 0, 1) := by decide +kernel
theorem dX12_tellsAll_110 : decode cX12_tellsAll 110 = .ok (.getfield 285, 3) := by decide +kernel
theorem dX12_tellsAll_113 : decode cX12_tellsAll 113 = .ok (.putfield 203, 3) := by decide +kernel
theorem dX12_tellsAll_116 : decode cX12_tellsAll 116 = .ok (.aload_n 0, 1) := by decide +kernel
theorem dX12_tellsAll_117 : decode cX12_tellsAll 117 = .ok (.aload_n 0, 1) := by decide +kernel
theorem dX12_tellsAll_118 : decode cX12_tellsAll 118 = .ok (.getfield 288, 3) := by decide +kernel
theorem dX12_tellsAll_121 : decode cX12_tellsAll 121 = .ok (.putfield 224, 3) := by decide +kernel
theorem dX12_tellsAll_124 : decode cX12_tellsAll 124 = .ok (.aload_n 0, 1) := by decide +kernel
theorem dX12_tellsAll_125 : decode cX12_tellsAll 125 = .ok (.iconst 0, 1) := by decide +kernel
theorem dX12_tellsAll_126 : decode cX12_tellsAll 126 = .ok (.invokevirtual 297, 3) := by decide +kernel
theorem dX12_tellsAll_129 : decode cX12_tellsAll 129 = .ok (.istore_n 3, 1) := by decide +kernel
theorem dX12_tellsAll_130 : decode cX12_tellsAll 130 = .ok (.iconst 1, 1) := by decide +kernel
theorem dX12_tellsAll_131 : decode cX12_tellsAll 131 = .ok (.istore 4, 2) := by decide +kernel
theorem dX12_tellsAll_133 : decode cX12_tellsAll 133 = .ok (.iload 4, 2) := by decide +kernel
theorem dX12_tellsAll_135 : decode cX12_tellsAll 135 = .ok (.aload_n 0, 1) := by decide +kernel
theorem dX12_tellsAll_136 : decode cX12_tellsAll 136 = .ok (.getfield 136, 3) := by decide +kernel
theorem dX12_tellsAll_139 : decode cX12_tellsAll 139 = .ok (.if_icmp .gt 24, 3) := by decide +kernel
theorem dX12_tellsAll_142 : decode cX12_tellsAll 142 = .ok (.iload_n 3, 1) := by decide +kernel
theorem dX12_tellsAll_143 : decode cX12_tellsAll 143 = .ok (.ifCond .eq 20, 3) := by decide +kernel
theorem dX12_tellsAll_146 : decode cX12_tellsAll 146 = .ok (.aload_n 0, 1) := by decide +kernel
theorem dX12_tellsAll_147 : decode cX12_tellsAll 147 = .ok (.invokevirtual 276, 3) := by decide +kernel
theorem dX12_tellsAll_150 : decode cX12_tellsAll 150 = .ok (.aload_n 0, 1) := by decide +kernel
theorem dX12_tellsAll_151 : decode cX12_tellsAll 151 = .ok (.iload 4, 2) := by decide +kernel
theorem dX12_tellsAll_153 : decode cX12_tellsAll 153 = .ok (.invokevirtual 297, 3) := by decide +kernel
theorem dX12_tellsAll_156 : decode cX12_tellsAll 156 = .ok (.istore_n 3, 1) := by decide +kernel
theorem dX12_tellsAll_157 : decode cX12_tellsAll 157 = .ok (.iinc 4 1, 3) := by decide +kernel
theorem dX12_tellsAll_160 : decode cX12_tellsAll 160 = .ok (.goto (-27), 3) := by decide +kernel
theorem dX12_tellsAll_163 : decode cX12_tellsAll 163 = .ok (.iload_n 3, 1) := by decide +kernel
theorem dX12_tellsAll_164 : decode cX12_tellsAll 164 = .ok (.ireturn, 1) := by decide +kernel
theorem dX12_lastReading_0 : decode cX12_lastReading 0 = .ok (.iconst 0, 1) := by decide +kernel
theorem dX12_lastReading_1 : decode cX12_lastReading 1 = .ok (.istore_n 1, 1) := by decide +kernel
theorem dX12_lastReading_2 : decode cX12_lastReading 2 = .ok (.iconst 0, 1) := by decide +kernel
theorem dX12_lastReading_3 : decode cX12_lastReading 3 = .ok (.istore_n 2, 1) := by decide +kernel
theorem dX12_lastReading_4 : decode cX12_lastReading 4 = .ok (.iload_n 2, 1) := by decide +kernel
theorem dX12_lastReading_5 : decode cX12_lastReading 5 = .ok (.aload_n 0, 1) := by decide +kernel
theorem dX12_lastReading_6 : decode cX12_lastReading 6 = .ok (.getfield 291, 3) := by decide +kernel
theorem dX12_lastReading_9 : decode cX12_lastReading 9 = .ok (.if_icmp .ge 30, 3) := by decide +kernel
theorem dX12_lastReading_12 : decode cX12_lastReading 12 = .ok (.aload_n 0, 1) := by decide +kernel
theorem dX12_lastReading_13 : decode cX12_lastReading 13 = .ok (.getfield 95, 3) := by decide +kernel
theorem dX12_lastReading_16 : decode cX12_lastReading 16 = .ok (.iload_n 2, 1) := by decide +kernel
theorem dX12_lastReading_17 : decode cX12_lastReading 17 = .ok (.iaload, 1) := by decide +kernel
theorem dX12_lastReading_18 : decode cX12_lastReading 18 = .ok (.iload_n 1, 1) := by decide +kernel
theorem dX12_lastReading_19 : decode cX12_lastReading 19 = .ok (.if_icmp .le 12, 3) := by decide +kernel
theorem dX12_lastReading_22 : decode cX12_lastReading 22 = .ok (.aload_n 0, 1) := by decide +kernel
theorem dX12_lastReading_23 : decode cX12_lastReading 23 = .ok (.getfield 95, 3) := by decide +kernel
theorem dX12_lastReading_26 : decode cX12_lastReading 26 = .ok (.iload_n 2, 1) := by decide +kernel
theorem dX12_lastReading_27 : decode cX12_lastReading 27 = .ok (.iaload, 1) := by decide +kernel
theorem dX12_lastReading_28 : decode cX12_lastReading 28 = .ok (.goto 4, 3) := by decide +kernel
theorem dX12_lastReading_31 : decode cX12_lastReading 31 = .ok (.iload_n 1, 1) := by decide +kernel
theorem dX12_lastReading_32 : decode cX12_lastReading 32 = .ok (.istore_n 1, 1) := by decide +kernel
theorem dX12_lastReading_33 : decode cX12_lastReading 33 = .ok (.iinc 2 1, 3) := by decide +kernel
theorem dX12_lastReading_36 : decode cX12_lastReading 36 = .ok (.goto (-32), 3) := by decide +kernel
theorem dX12_lastReading_39 : decode cX12_lastReading 39 = .ok (.iload_n 1, 1) := by decide +kernel
theorem dX12_lastReading_40 : decode cX12_lastReading 40 = .ok (.ireturn, 1) := by decide +kernel
set_option maxRecDepth 100000 in
theorem ggX12_leak_X12_in : GoodIn wsX12_leak wsX12_in := goodIn_s _ [] [8] (by decide +kernel) rfl (by decide +kernel)
set_option maxRecDepth 20000 in
theorem gX12_leak_X12_in : GoodIn wsX12_leak (va_wsS RX12 150 yX12_in wsX12_in) := goodIn_app (goodIn_of _ (by decide +kernel)) ggX12_leak_X12_in
set_option maxRecDepth 100000 in
theorem ggX12_leak_X12_lastReading : GoodIn wsX12_leak wsX12_lastReading := goodIn_s _ [13, 14, 124, 125, 126, 127, 128, 129, 130, 131, 132, 133, 134, 135, 136, 137, 138, 139, 140, 141, 142, 143, 144, 145, 146, 147, 148, 149, 150, 151, 152, 153, 154, 155, 156, 157, 158, 159, 160, 161, 162, 163, 164, 165, 166, 167, 168, 169, 170, 171, 172, 173, 174, 175, 176, 177, 178, 179, 180, 181, 182, 183, 184, 185, 186, 187, 188, 189] [12] (by decide +kernel) rfl (by decide +kernel)
set_option maxRecDepth 20000 in
theorem gX12_leak_X12_lastReading : GoodIn wsX12_leak (wsV RX12 300 RX12 yX12_lastReading wsX12_lastReading) := goodIn_app (goodIn_of _ (by decide +kernel)) ggX12_leak_X12_lastReading
set_option maxRecDepth 100000 in
theorem ggX12_leak_X12_putAside : GoodIn wsX12_leak wsX12_putAside := goodIn_s _ [19, 20, 21, 22, 23, 24, 25, 26, 27, 28, 29, 30, 31, 32, 33, 34, 35, 36, 37, 38, 39, 40, 41, 42, 43, 124, 125, 126, 127, 128, 129, 130, 131, 132, 133, 134, 135, 136, 137, 138, 139, 140, 141, 142, 143, 144, 145, 146, 147, 148, 149, 150, 151, 152, 153, 154, 155, 156, 157, 158, 159, 160, 161, 162, 163, 164, 165, 166, 167, 168, 169, 170, 171, 172, 173, 174, 175, 176, 177, 178, 179, 180, 181, 182, 183, 184, 185, 186, 187, 188, 189] [18] (by decide +kernel) rfl (by decide +kernel)
set_option maxRecDepth 20000 in
theorem gX12_leak_X12_putAside : GoodIn wsX12_leak (wsV RX12 303 RX12 yX12_putAside wsX12_putAside) := goodIn_app (goodIn_of _ (by decide +kernel)) ggX12_leak_X12_putAside
set_option maxRecDepth 100000 in
theorem ggX12_leak_X12_tellsAll : GoodIn wsX12_leak wsX12_tellsAll := goodIn_s _ [3, 20, 48, 49, 22, 50, 30, 51, 24, 52, 32, 53, 33, 2, 54, 55, 56, 7, 13, 14, 58, 59, 60, 61, 62, 64, 65, 66, 67, 34, 37, 68, 69, 70, 71, 26, 72, 28, 73, 74, 36, 35, 39, 40, 41, 42, 75, 76, 77, 79, 80, 81, 82, 83, 85, 86, 87, 88, 89, 4, 91, 92, 93, 94, 96, 97, 99, 100, 101, 103, 104, 105, 106, 107, 109, 110, 111, 113, 114, 115, 116, 118, 119, 124, 125, 126, 127, 128, 129, 130, 131, 132, 133, 134, 135, 136, 137, 138, 139, 140, 141, 142, 143, 144, 145, 146, 147, 148, 149, 150, 151, 152, 153, 154, 155, 156, 157, 158, 159, 160, 161, 162, 163, 164, 165, 166, 167, 168, 169, 170, 171, 172, 173, 174, 175, 176, 177, 178, 179, 180, 181, 182, 183, 184, 185, 186, 187, 188, 189] [47, 57, 63, 78, 84, 90, 95, 98, 102, 108, 112, 117] (by decide +kernel) rfl (by decide +kernel)
set_option maxRecDepth 20000 in
theorem gX12_leak_X12_tellsAll : GoodIn wsX12_leak (wsV RX12 306 RX12 yX12_tellsAll wsX12_tellsAll) := goodIn_app (goodIn_of _ (by decide +kernel)) ggX12_leak_X12_tellsAll
set_option maxRecDepth 100000 in
theorem ggX12_leak_X12_putBack : GoodIn wsX12_leak wsX12_putBack := goodIn_s _ [20, 19, 22, 21, 24, 23, 26, 25, 28, 27, 30, 29, 31, 32, 33, 34, 35, 36, 37, 38, 39, 40, 41, 43, 42, 124, 125, 126, 127, 128, 129, 130, 131, 132, 133, 134, 135, 136, 137, 138, 139, 140, 141, 142, 143, 144, 145, 146, 147, 148, 149, 150, 151, 152, 153, 154, 155, 156, 157, 158, 159, 160, 161, 162, 163, 164, 165, 166, 167, 168, 169, 170, 171, 172, 173, 174, 175, 176, 177, 178, 179, 180, 181, 182, 183, 184, 185, 186, 187, 188, 189] [123] (by decide +kernel) rfl (by decide +kernel)
set_option maxRecDepth 20000 in
theorem gX12_leak_X12_putBack : GoodIn wsX12_leak (wsV RX12 310 RX12 yX12_putBack wsX12_putBack) := goodIn_app (goodIn_of _ (by decide +kernel)) ggX12_leak_X12_putBack
theorem dX12_leak_0 : decode cX12_leak 0 = .ok (.iload_n 1, 1) := by decide +kernel
theorem dX12_leak_1 : decode cX12_leak 1 = .ok (.i2l, 1) := by decide +kernel
theorem dX12_leak_2 : decode cX12_leak 2 = .ok (.lconst 0, 1) := by decide +kernel
theorem dX12_leak_3 : decode cX12_leak 3 = .ok (.lconst 1, 1) := by decide +kernel
theorem dX12_leak_4 : decode cX12_leak 4 = .ok (.invokestatic 150, 3) := by decide +kernel
theorem dX12_leak_7 : decode cX12_leak 7 = .ok (.ifCond .ne 6, 3) := by decide +kernel
theorem dX12_leak_10 : decode cX12_leak 10 = .ok (.bipush (-2), 2) := by decide +kernel
theorem dX12_leak_12 : decode cX12_leak 12 = .ok (.ireturn, 1) := by decide +kernel
theorem dX12_leak_13 : decode cX12_leak 13 = .ok (.aload_n 0, 1) := by decide +kernel
theorem dX12_leak_14 : decode cX12_leak 14 = .ok (.getfield 279, 3) := by decide +kernel
theorem dX12_leak_17 : decode cX12_leak 17 = .ok (.ifCond .eq 24, 3) := by decide +kernel
theorem dX12_leak_20 : decode cX12_leak 20 = .ok (.aload_n 0, 1) := by decide +kernel
theorem dX12_leak_21 : decode cX12_leak 21 = .ok (.getfield 136, 3) := by decide +kernel
theorem dX12_leak_24 : decode cX12_leak 24 = .ok (.sipush 200, 3) := by decide +kernel
theorem dX12_leak_27 : decode cX12_leak 27 = .ok (.if_icmp .gt 14, 3) := by decide +kernel
theorem dX12_leak_30 : decode cX12_leak 30 = .ok (.aload_n 0, 1) := by decide +kernel
theorem dX12_leak_31 : decode cX12_leak 31 = .ok (.invokevirtual 300, 3) := by decide +kernel
theorem dX12_leak_34 : decode cX12_leak 34 = .ok (.aload_n 0, 1) := by decide +kernel
theorem dX12_leak_35 : decode cX12_leak 35 = .ok (.getfield 136, 3) := by decide +kernel
theorem dX12_leak_38 : decode cX12_leak 38 = .ok (.if_icmp .le 6, 3) := by decide +kernel
theorem dX12_leak_41 : decode cX12_leak 41 = .ok (.bipush (-3), 2) := by decide +kernel
theorem dX12_leak_43 : decode cX12_leak 43 = .ok (.ireturn, 1) := by decide +kernel
theorem dX12_leak_44 : decode cX12_leak 44 = .ok (.aload_n 0, 1) := by decide +kernel
theorem dX12_leak_45 : decode cX12_leak 45 = .ok (.invokevirtual 303, 3) := by decide +kernel
theorem dX12_leak_48 : decode cX12_leak 48 = .ok (.bipush (-9), 2) := by decide +kernel
theorem dX12_leak_50 : decode cX12_leak 50 = .ok (.istore_n 2, 1) := by decide +kernel
theorem dX12_leak_51 : decode cX12_leak 51 = .ok (.iconst 0, 1) := by decide +kernel
theorem dX12_leak_52 : decode cX12_leak 52 = .ok (.istore_n 3, 1) := by decide +kernel
theorem dX12_leak_53 : decode cX12_leak 53 = .ok (.iload_n 3, 1) := by decide +kernel
theorem dX12_leak_54 : decode cX12_leak 54 = .ok (.aload_n 0, 1) := by decide +kernel
theorem dX12_leak_55 : decode cX12_leak 55 = .ok (.getfield 179, 3) := by decide +kernel
theorem dX12_leak_58 : decode cX12_leak 58 = .ok (.if_icmp .ge 63, 3) := by decide +kernel
theorem dX12_leak_61 : decode cX12_leak 61 = .ok (.iload_n 2, 1) := by decide +kernel
theorem dX12_leak_62 : decode cX12_leak 62 = .ok (.ifCond .ge 59, 3) := by decide +kernel
theorem dX12_leak_65 : decode cX12_leak 65 = .ok (.iconst 1, 1) := by decide +kernel
theorem dX12_leak_66 : decode cX12_leak 66 = .ok (.istore 4, 2) := by decide +kernel
theorem dX12_leak_68 : decode cX12_leak 68 = .ok (.iload 4, 2) := by decide +kernel
theorem dX12_leak_70 : decode cX12_leak 70 = .ok (.bipush 20, 2) := by decide +kernel
theorem dX12_leak_72 : decode cX12_leak 72 = .ok (.if_icmp .gt 43, 3) := by decide +kernel
theorem dX12_leak_75 : decode cX12_leak 75 = .ok (.iload_n 2, 1) := by decide +kernel
theorem dX12_leak_76 : decode cX12_leak 76 = .ok (.ifCond .ge 39, 3) := by decide +kernel
theorem dX12_leak_79 : decode cX12_leak 79 = .ok (.aload_n 0, 1) := by decide +kernel
theorem dX12_leak_80 : decode cX12_leak 80 = .ok (.getfield 22, 3) := by decide +kernel
theorem dX12_leak_83 : decode cX12_leak 83 = .ok (.iload_n 3, 1) := by decide +kernel
theorem dX12_leak_84 : decode cX12_leak 84 = .ok (.iaload, 1) := by decide +kernel
theorem dX12_leak_85 : decode cX12_leak 85 = .ok (.ifCond .ne 30, 3) := by decide +kernel
theorem dX12_leak_88 : decode cX12_leak 88 = .ok (.aload_n 0, 1) := by decide +kernel
