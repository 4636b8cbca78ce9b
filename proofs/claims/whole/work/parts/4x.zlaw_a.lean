theorem dW_0 : decode code 0 = .ok (.new 8, 3) := by decide +kernel
theorem dW_3 : decode code 3 = .ok (.dup, 1) := by decide +kernel
theorem dW_4 : decode code 4 = .ok (.invokespecial 150, 3) := by decide +kernel
theorem dW_7 : decode code 7 = .ok (.astore_n 1, 1) := by decide +kernel
theorem dW_8 : decode code 8 = .ok (.new 151, 3) := by decide +kernel
theorem dW_11 : decode code 11 = .ok (.dup, 1) := by decide +kernel
theorem dW_12 : decode code 12 = .ok (.invokespecial 153, 3) := by decide +kernel
theorem dW_15 : decode code 15 = .ok (.astore_n 2, 1) := by decide +kernel
theorem dW_16 : decode code 16 = .ok (.iconst 1, 1) := by decide +kernel
theorem dW_17 : decode code 17 = .ok (.newarray .long, 2) := by decide +kernel
theorem dW_19 : decode code 19 = .ok (.astore_n 3, 1) := by decide +kernel
theorem dW_20 : decode code 20 = .ok (.iconst 1, 1) := by decide +kernel
theorem dW_21 : decode code 21 = .ok (.newarray .double, 2) := by decide +kernel
theorem dW_23 : decode code 23 = .ok (.astore 4, 2) := by decide +kernel
theorem dW_25 : decode code 25 = .ok (.iconst 0, 1) := by decide +kernel
theorem dW_26 : decode code 26 = .ok (.istore 5, 2) := by decide +kernel
theorem dW_28 : decode code 28 = .ok (.iload 5, 2) := by decide +kernel
theorem dW_30 : decode code 30 = .ok (.aload_n 0, 1) := by decide +kernel
theorem dW_31 : decode code 31 = .ok (.arraylength, 1) := by decide +kernel
theorem dW_32 : decode code 32 = .ok (.iconst 4, 1) := by decide +kernel
theorem dW_33 : decode code 33 = .ok (.isub, 1) := by decide +kernel
theorem dW_34 : decode code 34 = .ok (.if_icmp .gt 2694, 3) := by decide +kernel
theorem dW_37 : decode code 37 = .ok (.aload_n 0, 1) := by decide +kernel
theorem dW_38 : decode code 38 = .ok (.iload 5, 2) := by decide +kernel
theorem dW_40 : decode code 40 = .ok (.iaload, 1) := by decide +kernel
theorem dW_41 : decode code 41 = .ok (.bipush 63, 2) := by decide +kernel
theorem dW_43 : decode code 43 = .ok (.iand, 1) := by decide +kernel
theorem dW_44 : decode code 44 = .ok (.tableswitch 2678 0 49 #[216, 260, 340, 408, 471, 527, 595, 651, 707, 720, 733, 789, 857, 920, 976, 1032, 1100, 1168, 1236, 1304, 1317, 1373, 1429, 1485, 1548, 1604, 1660, 1716, 1784, 1840, 1853, 1866, 1922, 1978, 2034, 2048, 2062, 2118, 2183, 2249, 2262, 2318, 2331, 2387, 2445, 2489, 2533, 2577, 2621, 2634], 216) := by decide +kernel
theorem dW_260 : decode code 260 = .ok (.aload_n 1, 1) := by decide +kernel
theorem dW_261 : decode code 261 = .ok (.aload_n 3, 1) := by decide +kernel
theorem dW_262 : decode code 262 = .ok (.invokestatic 154, 3) := by decide +kernel
theorem dW_265 : decode code 265 = .ok (.istore 6, 2) := by decide +kernel
theorem dW_267 : decode code 267 = .ok (.aload_n 2, 1) := by decide +kernel
theorem dW_268 : decode code 268 = .ok (.invokevirtual 159, 3) := by decide +kernel
theorem dW_271 : decode code 271 = .ok (.istore 7, 2) := by decide +kernel
theorem dW_273 : decode code 273 = .ok (.aload_n 2, 1) := by decide +kernel
theorem dW_274 : decode code 274 = .ok (.invokevirtual 160, 3) := by decide +kernel
theorem dW_277 : decode code 277 = .ok (.iload 6, 2) := by decide +kernel
theorem dW_279 : decode code 279 = .ok (.if_icmp .eq 5, 3) := by decide +kernel
theorem dW_284 : decode code 284 = .ok (.iload 6, 2) := by decide +kernel
theorem dW_286 : decode code 286 = .ok (.ifCond .ne 15, 3) := by decide +kernel
theorem dW_289 : decode code 289 = .ok (.aload_n 3, 1) := by decide +kernel
theorem dW_290 : decode code 290 = .ok (.iconst 0, 1) := by decide +kernel
theorem dW_291 : decode code 291 = .ok (.laload, 1) := by decide +kernel
theorem dW_292 : decode code 292 = .ok (.iload 7, 2) := by decide +kernel
theorem dW_294 : decode code 294 = .ok (.i2l, 1) := by decide +kernel
theorem dW_295 : decode code 295 = .ok (.lcmp, 1) := by decide +kernel
theorem dW_296 : decode code 296 = .ok (.ifCond .eq 5, 3) := by decide +kernel
theorem dW_301 : decode code 301 = .ok (.goto 2421, 3) := by decide +kernel
theorem dW_304 : decode code 304 = .ok (.aload_n 1, 1) := by decide +kernel
theorem dW_305 : decode code 305 = .ok (.aload_n 0, 1) := by decide +kernel
theorem dW_306 : decode code 306 = .ok (.iload 5, 2) := by decide +kernel
theorem dW_308 : decode code 308 = .ok (.iconst 1, 1) := by decide +kernel
theorem dW_309 : decode code 309 = .ok (.iadd, 1) := by decide +kernel
theorem dW_310 : decode code 310 = .ok (.iaload, 1) := by decide +kernel
theorem dW_311 : decode code 311 = .ok (.aload_n 0, 1) := by decide +kernel
theorem dW_312 : decode code 312 = .ok (.iload 5, 2) := by decide +kernel
theorem dW_314 : decode code 314 = .ok (.iconst 2, 1) := by decide +kernel
theorem dW_315 : decode code 315 = .ok (.iadd, 1) := by decide +kernel
theorem dW_316 : decode code 316 = .ok (.iaload, 1) := by decide +kernel
theorem dW_317 : decode code 317 = .ok (.aload_n 0, 1) := by decide +kernel
theorem dW_318 : decode code 318 = .ok (.iload 5, 2) := by decide +kernel
theorem dW_320 : decode code 320 = .ok (.iconst 3, 1) := by decide +kernel
theorem dW_321 : decode code 321 = .ok (.iadd, 1) := by decide +kernel
theorem dW_322 : decode code 322 = .ok (.iaload, 1) := by decide +kernel
theorem dW_323 : decode code 323 = .ok (.aload_n 3, 1) := by decide +kernel
theorem dW_324 : decode code 324 = .ok (.invokestatic 163, 3) := by decide +kernel
theorem dW_327 : decode code 327 = .ok (.istore 6, 2) := by decide +kernel
theorem dW_329 : decode code 329 = .ok (.aload_n 2, 1) := by decide +kernel
theorem dW_330 : decode code 330 = .ok (.aload_n 0, 1) := by decide +kernel
theorem dW_331 : decode code 331 = .ok (.iload 5, 2) := by decide +kernel
theorem dW_333 : decode code 333 = .ok (.iconst 1, 1) := by decide +kernel
theorem dW_334 : decode code 334 = .ok (.iadd, 1) := by decide +kernel
theorem dW_335 : decode code 335 = .ok (.iaload, 1) := by decide +kernel
theorem dW_336 : decode code 336 = .ok (.aload_n 0, 1) := by decide +kernel
theorem dW_337 : decode code 337 = .ok (.iload 5, 2) := by decide +kernel
theorem dW_339 : decode code 339 = .ok (.iconst 2, 1) := by decide +kernel
theorem dW_340 : decode code 340 = .ok (.iadd, 1) := by decide +kernel
theorem dW_341 : decode code 341 = .ok (.iaload, 1) := by decide +kernel
theorem dW_342 : decode code 342 = .ok (.aload_n 0, 1) := by decide +kernel
theorem dW_343 : decode code 343 = .ok (.iload 5, 2) := by decide +kernel
theorem dW_345 : decode code 345 = .ok (.iconst 3, 1) := by decide +kernel
theorem dW_346 : decode code 346 = .ok (.iadd, 1) := by decide +kernel
theorem dW_347 : decode code 347 = .ok (.iaload, 1) := by decide +kernel
theorem dW_348 : decode code 348 = .ok (.invokevirtual 166, 3) := by decide +kernel
theorem dW_351 : decode code 351 = .ok (.istore 7, 2) := by decide +kernel
theorem dW_353 : decode code 353 = .ok (.aload_n 2, 1) := by decide +kernel
theorem dW_354 : decode code 354 = .ok (.invokevirtual 160, 3) := by decide +kernel
theorem dW_357 : decode code 357 = .ok (.iload 6, 2) := by decide +kernel
theorem dW_359 : decode code 359 = .ok (.if_icmp .eq 5, 3) := by decide +kernel
theorem dW_364 : decode code 364 = .ok (.iload 6, 2) := by decide +kernel
theorem dW_366 : decode code 366 = .ok (.ifCond .ne 15, 3) := by decide +kernel
theorem dW_369 : decode code 369 = .ok (.aload_n 3, 1) := by decide +kernel
theorem dW_370 : decode code 370 = .ok (.iconst 0, 1) := by decide +kernel
theorem dW_371 : decode code 371 = .ok (.laload, 1) := by decide +kernel
theorem dW_372 : decode code 372 = .ok (.iload 7, 2) := by decide +kernel
theorem dW_374 : decode code 374 = .ok (.i2l, 1) := by decide +kernel
theorem dW_375 : decode code 375 = .ok (.lcmp, 1) := by decide +kernel
theorem dW_376 : decode code 376 = .ok (.ifCond .eq 5, 3) := by decide +kernel
theorem dW_381 : decode code 381 = .ok (.goto 2341, 3) := by decide +kernel
theorem dW_384 : decode code 384 = .ok (.aload_n 1, 1) := by decide +kernel
theorem dW_385 : decode code 385 = .ok (.aload_n 0, 1) := by decide +kernel
theorem dW_386 : decode code 386 = .ok (.iload 5, 2) := by decide +kernel
theorem dW_388 : decode code 388 = .ok (.iconst 1, 1) := by decide +kernel
theorem dW_389 : decode code 389 = .ok (.iadd, 1) := by decide +kernel
theorem dW_390 : decode code 390 = .ok (.iaload, 1) := by decide +kernel
theorem dW_391 : decode code 391 = .ok (.aload_n 0, 1) := by decide +kernel
theorem dW_392 : decode code 392 = .ok (.iload 5, 2) := by decide +kernel
theorem dW_394 : decode code 394 = .ok (.iconst 2, 1) := by decide +kernel
theorem dW_395 : decode code 395 = .ok (.iadd, 1) := by decide +kernel
theorem dW_396 : decode code 396 = .ok (.iaload, 1) := by decide +kernel
theorem dW_397 : decode code 397 = .ok (.aload_n 3, 1) := by decide +kernel
theorem dW_398 : decode code 398 = .ok (.invokestatic 167, 3) := by decide +kernel
theorem dW_401 : decode code 401 = .ok (.istore 6, 2) := by decide +kernel
theorem dW_403 : decode code 403 = .ok (.aload_n 2, 1) := by decide +kernel
theorem dW_404 : decode code 404 = .ok (.aload_n 0, 1) := by decide +kernel
theorem dW_405 : decode code 405 = .ok (.iload 5, 2) := by decide +kernel
theorem dW_407 : decode code 407 = .ok (.iconst 1, 1) := by decide +kernel
theorem dW_408 : decode code 408 = .ok (.iadd, 1) := by decide +kernel
theorem dW_409 : decode code 409 = .ok (.iaload, 1) := by decide +kernel
theorem dW_410 : decode code 410 = .ok (.aload_n 0, 1) := by decide +kernel
theorem dW_411 : decode code 411 = .ok (.iload 5, 2) := by decide +kernel
theorem dW_413 : decode code 413 = .ok (.iconst 2, 1) := by decide +kernel
theorem dW_414 : decode code 414 = .ok (.iadd, 1) := by decide +kernel
theorem dW_415 : decode code 415 = .ok (.iaload, 1) := by decide +kernel
theorem dW_416 : decode code 416 = .ok (.invokevirtual 170, 3) := by decide +kernel
theorem dW_419 : decode code 419 = .ok (.istore 7, 2) := by decide +kernel
theorem dW_421 : decode code 421 = .ok (.aload_n 2, 1) := by decide +kernel
theorem dW_422 : decode code 422 = .ok (.invokevirtual 160, 3) := by decide +kernel
theorem dW_425 : decode code 425 = .ok (.iload 6, 2) := by decide +kernel
theorem dW_427 : decode code 427 = .ok (.if_icmp .eq 5, 3) := by decide +kernel
theorem dW_432 : decode code 432 = .ok (.iload 6, 2) := by decide +kernel
theorem dW_434 : decode code 434 = .ok (.ifCond .ne 15, 3) := by decide +kernel
theorem dW_437 : decode code 437 = .ok (.aload_n 3, 1) := by decide +kernel
theorem dW_438 : decode code 438 = .ok (.iconst 0, 1) := by decide +kernel
theorem dW_439 : decode code 439 = .ok (.laload, 1) := by decide +kernel
theorem dW_440 : decode code 440 = .ok (.iload 7, 2) := by decide +kernel
theorem dW_442 : decode code 442 = .ok (.i2l, 1) := by decide +kernel
theorem dW_443 : decode code 443 = .ok (.lcmp, 1) := by decide +kernel
theorem dW_444 : decode code 444 = .ok (.ifCond .eq 5, 3) := by decide +kernel
theorem dW_449 : decode code 449 = .ok (.goto 2273, 3) := by decide +kernel
theorem dW_452 : decode code 452 = .ok (.aload_n 1, 1) := by decide +kernel
theorem dW_453 : decode code 453 = .ok (.aload_n 0, 1) := by decide +kernel
theorem dW_454 : decode code 454 = .ok (.iload 5, 2) := by decide +kernel
theorem dW_456 : decode code 456 = .ok (.iconst 1, 1) := by decide +kernel
theorem dW_457 : decode code 457 = .ok (.iadd, 1) := by decide +kernel
theorem dW_458 : decode code 458 = .ok (.iaload, 1) := by decide +kernel
theorem dW_459 : decode code 459 = .ok (.aload_n 3, 1) := by decide +kernel
theorem dW_460 : decode code 460 = .ok (.invokestatic 171, 3) := by decide +kernel
theorem dW_463 : decode code 463 = .ok (.istore 6, 2) := by decide +kernel
theorem dW_465 : decode code 465 = .ok (.aload_n 2, 1) := by decide +kernel
theorem dW_466 : decode code 466 = .ok (.aload_n 0, 1) := by decide +kernel
theorem dW_467 : decode code 467 = .ok (.iload 5, 2) := by decide +kernel
theorem dW_469 : decode code 469 = .ok (.iconst 1, 1) := by decide +kernel
theorem dW_470 : decode code 470 = .ok (.iadd, 1) := by decide +kernel
theorem dW_471 : decode code 471 = .ok (.iaload, 1) := by decide +kernel
theorem dW_472 : decode code 472 = .ok (.invokevirtual 174, 3) := by decide +kernel
theorem dW_475 : decode code 475 = .ok (.istore 7, 2) := by decide +kernel
theorem dW_477 : decode code 477 = .ok (.aload_n 2, 1) := by decide +kernel
theorem dW_478 : decode code 478 = .ok (.invokevirtual 160, 3) := by decide +kernel
theorem dW_481 : decode code 481 = .ok (.iload 6, 2) := by decide +kernel
theorem dW_483 : decode code 483 = .ok (.if_icmp .eq 5, 3) := by decide +kernel
theorem dW_488 : decode code 488 = .ok (.iload 6, 2) := by decide +kernel
theorem dW_490 : decode code 490 = .ok (.ifCond .ne 22, 3) := by decide +kernel
theorem dW_493 : decode code 493 = .ok (.aload_n 3, 1) := by decide +kernel
theorem dW_494 : decode code 494 = .ok (.iconst 0, 1) := by decide +kernel
theorem dW_495 : decode code 495 = .ok (.laload, 1) := by decide +kernel
theorem dW_496 : decode code 496 = .ok (.iload 7, 2) := by decide +kernel
theorem dW_498 : decode code 498 = .ok (.ifCond .eq 7, 3) := by decide +kernel
theorem dW_501 : decode code 501 = .ok (.lconst 1, 1) := by decide +kernel
theorem dW_502 : decode code 502 = .ok (.goto 4, 3) := by decide +kernel
theorem dW_505 : decode code 505 = .ok (.lconst 0, 1) := by decide +kernel
theorem dW_506 : decode code 506 = .ok (.lcmp, 1) := by decide +kernel
theorem dW_507 : decode code 507 = .ok (.ifCond .eq 5, 3) := by decide +kernel
theorem dW_512 : decode code 512 = .ok (.goto 2210, 3) := by decide +kernel
theorem dW_515 : decode code 515 = .ok (.aload_n 1, 1) := by decide +kernel
theorem dW_516 : decode code 516 = .ok (.aload_n 0, 1) := by decide +kernel
theorem dW_517 : decode code 517 = .ok (.iload 5, 2) := by decide +kernel
theorem dW_519 : decode code 519 = .ok (.iconst 1, 1) := by decide +kernel
theorem dW_520 : decode code 520 = .ok (.iadd, 1) := by decide +kernel
theorem dW_521 : decode code 521 = .ok (.iaload, 1) := by decide +kernel
theorem dW_522 : decode code 522 = .ok (.aload_n 3, 1) := by decide +kernel
theorem dW_523 : decode code 523 = .ok (.invokestatic 175, 3) := by decide +kernel
theorem dW_526 : decode code 526 = .ok (.istore 6, 2) := by decide +kernel
theorem dW_528 : decode code 528 = .ok (.aload_n 2, 1) := by decide +kernel
theorem dW_529 : decode code 529 = .ok (.aload_n 0, 1) := by decide +kernel
theorem dW_530 : decode code 530 = .ok (.iload 5, 2) := by decide +kernel
theorem dW_532 : decode code 532 = .ok (.iconst 1, 1) := by decide +kernel
theorem dW_533 : decode code 533 = .ok (.iadd, 1) := by decide +kernel
theorem dW_534 : decode code 534 = .ok (.iaload, 1) := by decide +kernel
theorem dW_535 : decode code 535 = .ok (.invokevirtual 177, 3) := by decide +kernel
theorem dW_538 : decode code 538 = .ok (.istore 7, 2) := by decide +kernel
theorem dW_540 : decode code 540 = .ok (.aload_n 2, 1) := by decide +kernel
theorem dW_541 : decode code 541 = .ok (.invokevirtual 160, 3) := by decide +kernel
theorem dW_544 : decode code 544 = .ok (.iload 6, 2) := by decide +kernel
theorem dW_546 : decode code 546 = .ok (.if_icmp .eq 5, 3) := by decide +kernel
theorem dW_551 : decode code 551 = .ok (.iload 6, 2) := by decide +kernel
theorem dW_553 : decode code 553 = .ok (.ifCond .ne 15, 3) := by decide +kernel
theorem dW_556 : decode code 556 = .ok (.aload_n 3, 1) := by decide +kernel
theorem dW_557 : decode code 557 = .ok (.iconst 0, 1) := by decide +kernel
theorem dW_558 : decode code 558 = .ok (.laload, 1) := by decide +kernel
theorem dW_559 : decode code 559 = .ok (.iload 7, 2) := by decide +kernel
theorem dW_561 : decode code 561 = .ok (.i2l, 1) := by decide +kernel
theorem dW_562 : decode code 562 = .ok (.lcmp, 1) := by decide +kernel
theorem dW_563 : decode code 563 = .ok (.ifCond .eq 5, 3) := by decide +kernel
theorem dW_568 : decode code 568 = .ok (.goto 2154, 3) := by decide +kernel
theorem dW_571 : decode code 571 = .ok (.aload_n 1, 1) := by decide +kernel
theorem dW_572 : decode code 572 = .ok (.aload_n 0, 1) := by decide +kernel
theorem dW_573 : decode code 573 = .ok (.iload 5, 2) := by decide +kernel
theorem dW_575 : decode code 575 = .ok (.iconst 1, 1) := by decide +kernel
theorem dW_576 : decode code 576 = .ok (.iadd, 1) := by decide +kernel
theorem dW_577 : decode code 577 = .ok (.iaload, 1) := by decide +kernel
theorem dW_578 : decode code 578 = .ok (.aload_n 0, 1) := by decide +kernel
theorem dW_579 : decode code 579 = .ok (.iload 5, 2) := by decide +kernel
theorem dW_581 : decode code 581 = .ok (.iconst 2, 1) := by decide +kernel
theorem dW_582 : decode code 582 = .ok (.iadd, 1) := by decide +kernel
theorem dW_583 : decode code 583 = .ok (.iaload, 1) := by decide +kernel
theorem dW_584 : decode code 584 = .ok (.aload_n 3, 1) := by decide +kernel
theorem dW_585 : decode code 585 = .ok (.invokestatic 178, 3) := by decide +kernel
theorem dW_588 : decode code 588 = .ok (.istore 6, 2) := by decide +kernel
theorem dW_590 : decode code 590 = .ok (.aload_n 2, 1) := by decide +kernel
theorem dW_591 : decode code 591 = .ok (.aload_n 0, 1) := by decide +kernel
theorem dW_592 : decode code 592 = .ok (.iload 5, 2) := by decide +kernel
theorem dW_594 : decode code 594 = .ok (.iconst 1, 1) := by decide +kernel
theorem dW_595 : decode code 595 = .ok (.iadd, 1) := by decide +kernel
theorem dW_596 : decode code 596 = .ok (.iaload, 1) := by decide +kernel
theorem dW_597 : decode code 597 = .ok (.aload_n 0, 1) := by decide +kernel
theorem dW_598 : decode code 598 = .ok (.iload 5, 2) := by decide +kernel
theorem dW_600 : decode code 600 = .ok (.iconst 2, 1) := by decide +kernel
theorem dW_601 : decode code 601 = .ok (.iadd, 1) := by decide +kernel
theorem dW_602 : decode code 602 = .ok (.iaload, 1) := by decide +kernel
theorem dW_603 : decode code 603 = .ok (.invokevirtual 180, 3) := by decide +kernel
theorem dW_606 : decode code 606 = .ok (.istore 7, 2) := by decide +kernel
theorem dW_608 : decode code 608 = .ok (.aload_n 2, 1) := by decide +kernel
theorem dW_609 : decode code 609 = .ok (.invokevirtual 160, 3) := by decide +kernel
theorem dW_612 : decode code 612 = .ok (.iload 6, 2) := by decide +kernel
theorem dW_614 : decode code 614 = .ok (.if_icmp .eq 5, 3) := by decide +kernel
theorem dW_619 : decode code 619 = .ok (.iload 6, 2) := by decide +kernel
theorem dW_621 : decode code 621 = .ok (.ifCond .ne 15, 3) := by decide +kernel
theorem dW_624 : decode code 624 = .ok (.aload_n 3, 1) := by decide +kernel
theorem dW_625 : decode code 625 = .ok (.iconst 0, 1) := by decide +kernel
theorem dW_626 : decode code 626 = .ok (.laload, 1) := by decide +kernel
theorem dW_627 : decode code 627 = .ok (.iload 7, 2) := by decide +kernel
theorem dW_629 : decode code 629 = .ok (.i2l, 1) := by decide +kernel
theorem dW_630 : decode code 630 = .ok (.lcmp, 1) := by decide +kernel
theorem dW_631 : decode code 631 = .ok (.ifCond .eq 5, 3) := by decide +kernel
theorem dW_636 : decode code 636 = .ok (.goto 2086, 3) := by decide +kernel
theorem dW_639 : decode code 639 = .ok (.aload_n 1, 1) := by decide +kernel
theorem dW_640 : decode code 640 = .ok (.aload_n 0, 1) := by decide +kernel
theorem dW_641 : decode code 641 = .ok (.iload 5, 2) := by decide +kernel
theorem dW_643 : decode code 643 = .ok (.iconst 1, 1) := by decide +kernel
theorem dW_644 : decode code 644 = .ok (.iadd, 1) := by decide +kernel
theorem dW_645 : decode code 645 = .ok (.iaload, 1) := by decide +kernel
theorem dW_646 : decode code 646 = .ok (.aload_n 3, 1) := by decide +kernel
theorem dW_647 : decode code 647 = .ok (.invokestatic 181, 3) := by decide +kernel
theorem dW_650 : decode code 650 = .ok (.istore 6, 2) := by decide +kernel
theorem dW_652 : decode code 652 = .ok (.aload_n 2, 1) := by decide +kernel
theorem dW_653 : decode code 653 = .ok (.aload_n 0, 1) := by decide +kernel
theorem dW_654 : decode code 654 = .ok (.iload 5, 2) := by decide +kernel
theorem dW_656 : decode code 656 = .ok (.iconst 1, 1) := by decide +kernel
theorem dW_657 : decode code 657 = .ok (.iadd, 1) := by decide +kernel
theorem dW_658 : decode code 658 = .ok (.iaload, 1) := by decide +kernel
theorem dW_659 : decode code 659 = .ok (.invokevirtual 183, 3) := by decide +kernel
theorem dW_662 : decode code 662 = .ok (.istore 7, 2) := by decide +kernel
theorem dW_664 : decode code 664 = .ok (.aload_n 2, 1) := by decide +kernel
theorem dW_665 : decode code 665 = .ok (.invokevirtual 160, 3) := by decide +kernel
theorem dW_668 : decode code 668 = .ok (.iload 6, 2) := by decide +kernel
theorem dW_670 : decode code 670 = .ok (.if_icmp .eq 5, 3) := by decide +kernel
theorem dW_675 : decode code 675 = .ok (.iload 6, 2) := by decide +kernel
theorem dW_677 : decode code 677 = .ok (.ifCond .ne 15, 3) := by decide +kernel
theorem dW_680 : decode code 680 = .ok (.aload_n 3, 1) := by decide +kernel
theorem dW_681 : decode code 681 = .ok (.iconst 0, 1) := by decide +kernel
theorem dW_682 : decode code 682 = .ok (.laload, 1) := by decide +kernel
theorem dW_683 : decode code 683 = .ok (.iload 7, 2) := by decide +kernel
theorem dW_685 : decode code 685 = .ok (.i2l, 1) := by decide +kernel
theorem dW_686 : decode code 686 = .ok (.lcmp, 1) := by decide +kernel
theorem dW_687 : decode code 687 = .ok (.ifCond .eq 5, 3) := by decide +kernel
theorem dW_692 : decode code 692 = .ok (.goto 2030, 3) := by decide +kernel
theorem dW_695 : decode code 695 = .ok (.aload_n 1, 1) := by decide +kernel
theorem dW_696 : decode code 696 = .ok (.aload_n 0, 1) := by decide +kernel
theorem dW_697 : decode code 697 = .ok (.iload 5, 2) := by decide +kernel
theorem dW_699 : decode code 699 = .ok (.iconst 1, 1) := by decide +kernel
theorem dW_700 : decode code 700 = .ok (.iadd, 1) := by decide +kernel
theorem dW_701 : decode code 701 = .ok (.iaload, 1) := by decide +kernel
theorem dW_702 : decode code 702 = .ok (.aload_n 3, 1) := by decide +kernel
theorem dW_703 : decode code 703 = .ok (.invokestatic 184, 3) := by decide +kernel
theorem dW_706 : decode code 706 = .ok (.istore 6, 2) := by decide +kernel
theorem dW_708 : decode code 708 = .ok (.aload_n 2, 1) := by decide +kernel
theorem dW_709 : decode code 709 = .ok (.aload_n 0, 1) := by decide +kernel
theorem dW_710 : decode code 710 = .ok (.iload 5, 2) := by decide +kernel
theorem dW_712 : decode code 712 = .ok (.iconst 1, 1) := by decide +kernel
theorem dW_713 : decode code 713 = .ok (.iadd, 1) := by decide +kernel
theorem dW_714 : decode code 714 = .ok (.iaload, 1) := by decide +kernel
theorem dW_715 : decode code 715 = .ok (.invokevirtual 186, 3) := by decide +kernel
theorem dW_718 : decode code 718 = .ok (.istore 7, 2) := by decide +kernel
theorem dW_720 : decode code 720 = .ok (.aload_n 2, 1) := by decide +kernel
theorem dW_721 : decode code 721 = .ok (.invokevirtual 160, 3) := by decide +kernel
theorem dW_724 : decode code 724 = .ok (.iload 6, 2) := by decide +kernel
theorem dW_726 : decode code 726 = .ok (.if_icmp .eq 5, 3) := by decide +kernel
theorem dW_731 : decode code 731 = .ok (.iload 6, 2) := by decide +kernel
theorem dW_733 : decode code 733 = .ok (.ifCond .ne 15, 3) := by decide +kernel
theorem dW_736 : decode code 736 = .ok (.aload_n 3, 1) := by decide +kernel
theorem dW_737 : decode code 737 = .ok (.iconst 0, 1) := by decide +kernel
theorem dW_738 : decode code 738 = .ok (.laload, 1) := by decide +kernel
theorem dW_739 : decode code 739 = .ok (.iload 7, 2) := by decide +kernel
theorem dW_741 : decode code 741 = .ok (.i2l, 1) := by decide +kernel
theorem dW_742 : decode code 742 = .ok (.lcmp, 1) := by decide +kernel
theorem dW_743 : decode code 743 = .ok (.ifCond .eq 5, 3) := by decide +kernel
theorem dW_748 : decode code 748 = .ok (.goto 1974, 3) := by decide +kernel
theorem dW_751 : decode code 751 = .ok (.aload_n 1, 1) := by decide +kernel
theorem dW_752 : decode code 752 = .ok (.invokevirtual 187, 3) := by decide +kernel
theorem dW_755 : decode code 755 = .ok (.aload_n 2, 1) := by decide +kernel
theorem dW_756 : decode code 756 = .ok (.invokevirtual 190, 3) := by decide +kernel
theorem dW_759 : decode code 759 = .ok (.if_icmp .eq 1963, 3) := by decide +kernel
theorem dW_764 : decode code 764 = .ok (.aload_n 1, 1) := by decide +kernel
theorem dW_765 : decode code 765 = .ok (.invokevirtual 191, 3) := by decide +kernel
theorem dW_768 : decode code 768 = .ok (.aload_n 2, 1) := by decide +kernel
theorem dW_769 : decode code 769 = .ok (.invokevirtual 194, 3) := by decide +kernel
theorem dW_772 : decode code 772 = .ok (.if_icmp .eq 1950, 3) := by decide +kernel
theorem dW_777 : decode code 777 = .ok (.aload_n 1, 1) := by decide +kernel
theorem dW_778 : decode code 778 = .ok (.aload_n 0, 1) := by decide +kernel
theorem dW_779 : decode code 779 = .ok (.iload 5, 2) := by decide +kernel
theorem dW_781 : decode code 781 = .ok (.iconst 1, 1) := by decide +kernel
theorem dW_782 : decode code 782 = .ok (.iadd, 1) := by decide +kernel
theorem dW_783 : decode code 783 = .ok (.iaload, 1) := by decide +kernel
theorem dW_784 : decode code 784 = .ok (.aload_n 3, 1) := by decide +kernel
theorem dW_785 : decode code 785 = .ok (.invokestatic 195, 3) := by decide +kernel
theorem dW_788 : decode code 788 = .ok (.istore 6, 2) := by decide +kernel
theorem dW_790 : decode code 790 = .ok (.aload_n 2, 1) := by decide +kernel
theorem dW_791 : decode code 791 = .ok (.aload_n 0, 1) := by decide +kernel
theorem dW_792 : decode code 792 = .ok (.iload 5, 2) := by decide +kernel
theorem dW_794 : decode code 794 = .ok (.iconst 1, 1) := by decide +kernel
theorem dW_795 : decode code 795 = .ok (.iadd, 1) := by decide +kernel
theorem dW_796 : decode code 796 = .ok (.iaload, 1) := by decide +kernel
theorem dW_797 : decode code 797 = .ok (.invokevirtual 197, 3) := by decide +kernel
theorem dW_800 : decode code 800 = .ok (.istore 7, 2) := by decide +kernel
theorem dW_802 : decode code 802 = .ok (.aload_n 2, 1) := by decide +kernel
theorem dW_803 : decode code 803 = .ok (.invokevirtual 160, 3) := by decide +kernel
theorem dW_806 : decode code 806 = .ok (.iload 6, 2) := by decide +kernel
theorem dW_808 : decode code 808 = .ok (.if_icmp .eq 5, 3) := by decide +kernel
theorem dW_813 : decode code 813 = .ok (.iload 6, 2) := by decide +kernel
theorem dW_815 : decode code 815 = .ok (.ifCond .ne 15, 3) := by decide +kernel
theorem dW_818 : decode code 818 = .ok (.aload_n 3, 1) := by decide +kernel
theorem dW_819 : decode code 819 = .ok (.iconst 0, 1) := by decide +kernel
theorem dW_820 : decode code 820 = .ok (.laload, 1) := by decide +kernel
theorem dW_821 : decode code 821 = .ok (.iload 7, 2) := by decide +kernel
theorem dW_823 : decode code 823 = .ok (.i2l, 1) := by decide +kernel
theorem dW_824 : decode code 824 = .ok (.lcmp, 1) := by decide +kernel
theorem dW_825 : decode code 825 = .ok (.ifCond .eq 5, 3) := by decide +kernel
theorem dW_830 : decode code 830 = .ok (.goto 1892, 3) := by decide +kernel
