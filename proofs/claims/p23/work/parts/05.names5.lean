theorem dL_tells_246 : decode cL_tells 246 = .ok (.iconst 1, 1) := by decide +kernel
theorem dL_tells_247 : decode cL_tells 247 = .ok (.goto 4, 3) := by decide +kernel
theorem dL_tells_250 : decode cL_tells 250 = .ok (.iconst 0, 1) := by decide +kernel
theorem dL_tells_251 : decode cL_tells 251 = .ok (.if_icmp .ne 7, 3) := by decide +kernel
theorem dL_tells_254 : decode cL_tells 254 = .ok (.iconst 1, 1) := by decide +kernel
theorem dL_tells_255 : decode cL_tells 255 = .ok (.goto 4, 3) := by decide +kernel
theorem dL_tells_258 : decode cL_tells 258 = .ok (.iconst 0, 1) := by decide +kernel
theorem dL_tells_259 : decode cL_tells 259 = .ok (.istore 17, 2) := by decide +kernel
theorem dL_tells_261 : decode cL_tells 261 = .ok (.iload 17, 2) := by decide +kernel
theorem dL_tells_263 : decode cL_tells 263 = .ok (.ifCond .ne 5, 3) := by decide +kernel
theorem dL_tells_266 : decode cL_tells 266 = .ok (.iconst 0, 1) := by decide +kernel
theorem dL_tells_267 : decode cL_tells 267 = .ok (.ireturn, 1) := by decide +kernel
theorem dL_tells_268 : decode cL_tells 268 = .ok (.iload 8, 2) := by decide +kernel
theorem dL_tells_270 : decode cL_tells 270 = .ok (.iload 15, 2) := by decide +kernel
theorem dL_tells_272 : decode cL_tells 272 = .ok (.iadd, 1) := by decide +kernel
theorem dL_tells_273 : decode cL_tells 273 = .ok (.istore 8, 2) := by decide +kernel
theorem dL_tells_275 : decode cL_tells 275 = .ok (.iload 9, 2) := by decide +kernel
theorem dL_tells_277 : decode cL_tells 277 = .ok (.aload 5, 2) := by decide +kernel
theorem dL_tells_279 : decode cL_tells 279 = .ok (.iload 14, 2) := by decide +kernel
theorem dL_tells_281 : decode cL_tells 281 = .ok (.iaload, 1) := by decide +kernel
theorem dL_tells_282 : decode cL_tells 282 = .ok (.ifCond .ge 7, 3) := by decide +kernel
theorem dL_tells_285 : decode cL_tells 285 = .ok (.iconst 0, 1) := by decide +kernel
theorem dL_tells_286 : decode cL_tells 286 = .ok (.goto 4, 3) := by decide +kernel
theorem dL_tells_289 : decode cL_tells 289 = .ok (.iconst 1, 1) := by decide +kernel
theorem dL_tells_290 : decode cL_tells 290 = .ok (.iadd, 1) := by decide +kernel
theorem dL_tells_291 : decode cL_tells 291 = .ok (.istore 9, 2) := by decide +kernel
theorem dL_tells_293 : decode cL_tells 293 = .ok (.iload 16, 2) := by decide +kernel
theorem dL_tells_295 : decode cL_tells 295 = .ok (.ifCond .eq 13, 3) := by decide +kernel
theorem dL_tells_298 : decode cL_tells 298 = .ok (.iload 10, 2) := by decide +kernel
theorem dL_tells_300 : decode cL_tells 300 = .ok (.ifCond .ge 8, 3) := by decide +kernel
theorem dL_tells_303 : decode cL_tells 303 = .ok (.iload 14, 2) := by decide +kernel
theorem dL_tells_305 : decode cL_tells 305 = .ok (.goto 5, 3) := by decide +kernel
theorem dL_tells_308 : decode cL_tells 308 = .ok (.iload 10, 2) := by decide +kernel
theorem dL_tells_310 : decode cL_tells 310 = .ok (.istore 10, 2) := by decide +kernel
theorem dL_tells_312 : decode cL_tells 312 = .ok (.iload 11, 2) := by decide +kernel
theorem dL_tells_314 : decode cL_tells 314 = .ok (.aload_n 1, 1) := by decide +kernel
theorem dL_tells_315 : decode cL_tells 315 = .ok (.iload 14, 2) := by decide +kernel
theorem dL_tells_317 : decode cL_tells 317 = .ok (.iaload, 1) := by decide +kernel
theorem dL_tells_318 : decode cL_tells 318 = .ok (.iconst 3, 1) := by decide +kernel
theorem dL_tells_319 : decode cL_tells 319 = .ok (.if_icmp .ge 8, 3) := by decide +kernel
theorem dL_tells_322 : decode cL_tells 322 = .ok (.iload 15, 2) := by decide +kernel
theorem dL_tells_324 : decode cL_tells 324 = .ok (.goto 4, 3) := by decide +kernel
theorem dL_tells_327 : decode cL_tells 327 = .ok (.iconst 0, 1) := by decide +kernel
theorem dL_tells_328 : decode cL_tells 328 = .ok (.iadd, 1) := by decide +kernel
theorem dL_tells_329 : decode cL_tells 329 = .ok (.istore 11, 2) := by decide +kernel
theorem dL_tells_331 : decode cL_tells 331 = .ok (.aload_n 1, 1) := by decide +kernel
theorem dL_tells_332 : decode cL_tells 332 = .ok (.aload_n 3, 1) := by decide +kernel
theorem dL_tells_333 : decode cL_tells 333 = .ok (.iload 6, 2) := by decide +kernel
theorem dL_tells_335 : decode cL_tells 335 = .ok (.iload 14, 2) := by decide +kernel
theorem dL_tells_337 : decode cL_tells 337 = .ok (.invokestatic 31, 3) := by decide +kernel
theorem dL_tells_340 : decode cL_tells 340 = .ok (.istore 18, 2) := by decide +kernel
theorem dL_tells_342 : decode cL_tells 342 = .ok (.iload 18, 2) := by decide +kernel
theorem dL_tells_344 : decode cL_tells 344 = .ok (.iload 13, 2) := by decide +kernel
theorem dL_tells_346 : decode cL_tells 346 = .ok (.if_icmp .le 8, 3) := by decide +kernel
theorem dL_tells_349 : decode cL_tells 349 = .ok (.iload 14, 2) := by decide +kernel
theorem dL_tells_351 : decode cL_tells 351 = .ok (.goto 5, 3) := by decide +kernel
theorem dL_tells_354 : decode cL_tells 354 = .ok (.iload 12, 2) := by decide +kernel
theorem dL_tells_356 : decode cL_tells 356 = .ok (.istore 12, 2) := by decide +kernel
theorem dL_tells_358 : decode cL_tells 358 = .ok (.iload 18, 2) := by decide +kernel
theorem dL_tells_360 : decode cL_tells 360 = .ok (.iload 13, 2) := by decide +kernel
theorem dL_tells_362 : decode cL_tells 362 = .ok (.if_icmp .le 8, 3) := by decide +kernel
theorem dL_tells_365 : decode cL_tells 365 = .ok (.iload 18, 2) := by decide +kernel
theorem dL_tells_367 : decode cL_tells 367 = .ok (.goto 5, 3) := by decide +kernel
theorem dL_tells_370 : decode cL_tells 370 = .ok (.iload 13, 2) := by decide +kernel
theorem dL_tells_372 : decode cL_tells 372 = .ok (.istore 13, 2) := by decide +kernel
theorem dL_tells_374 : decode cL_tells 374 = .ok (.iinc 14 1, 3) := by decide +kernel
theorem dL_tells_377 : decode cL_tells 377 = .ok (.goto (-342), 3) := by decide +kernel
theorem dL_tells_380 : decode cL_tells 380 = .ok (.iconst 0, 1) := by decide +kernel
theorem dL_tells_381 : decode cL_tells 381 = .ok (.istore 14, 2) := by decide +kernel
theorem dL_tells_383 : decode cL_tells 383 = .ok (.iconst 0, 1) := by decide +kernel
theorem dL_tells_384 : decode cL_tells 384 = .ok (.istore 15, 2) := by decide +kernel
theorem dL_tells_386 : decode cL_tells 386 = .ok (.iload 15, 2) := by decide +kernel
theorem dL_tells_388 : decode cL_tells 388 = .ok (.iconst 5, 1) := by decide +kernel
theorem dL_tells_389 : decode cL_tells 389 = .ok (.if_icmp .ge 316, 3) := by decide +kernel
theorem dL_tells_392 : decode cL_tells 392 = .ok (.iconst 0, 1) := by decide +kernel
theorem dL_tells_393 : decode cL_tells 393 = .ok (.istore 16, 2) := by decide +kernel
theorem dL_tells_395 : decode cL_tells 395 = .ok (.iconst 0, 1) := by decide +kernel
theorem dL_tells_396 : decode cL_tells 396 = .ok (.istore 17, 2) := by decide +kernel
theorem dL_tells_398 : decode cL_tells 398 = .ok (.iconst 0, 1) := by decide +kernel
theorem dL_tells_399 : decode cL_tells 399 = .ok (.istore 18, 2) := by decide +kernel
theorem dL_tells_401 : decode cL_tells 401 = .ok (.iconst 0, 1) := by decide +kernel
theorem dL_tells_402 : decode cL_tells 402 = .ok (.istore 19, 2) := by decide +kernel
theorem dL_tells_404 : decode cL_tells 404 = .ok (.iconst 0, 1) := by decide +kernel
theorem dL_tells_405 : decode cL_tells 405 = .ok (.istore 20, 2) := by decide +kernel
theorem dL_tells_407 : decode cL_tells 407 = .ok (.iconst 0, 1) := by decide +kernel
theorem dL_tells_408 : decode cL_tells 408 = .ok (.istore 21, 2) := by decide +kernel
theorem dL_tells_410 : decode cL_tells 410 = .ok (.iload 21, 2) := by decide +kernel
theorem dL_tells_412 : decode cL_tells 412 = .ok (.iload 6, 2) := by decide +kernel
theorem dL_tells_414 : decode cL_tells 414 = .ok (.if_icmp .ge 186, 3) := by decide +kernel
theorem dL_tells_417 : decode cL_tells 417 = .ok (.iload 16, 2) := by decide +kernel
theorem dL_tells_419 : decode cL_tells 419 = .ok (.aload_n 2, 1) := by decide +kernel
theorem dL_tells_420 : decode cL_tells 420 = .ok (.iload 21, 2) := by decide +kernel
theorem dL_tells_422 : decode cL_tells 422 = .ok (.iaload, 1) := by decide +kernel
theorem dL_tells_423 : decode cL_tells 423 = .ok (.iload 15, 2) := by decide +kernel
theorem dL_tells_425 : decode cL_tells 425 = .ok (.if_icmp .ne 7, 3) := by decide +kernel
theorem dL_tells_428 : decode cL_tells 428 = .ok (.iconst 1, 1) := by decide +kernel
theorem dL_tells_429 : decode cL_tells 429 = .ok (.goto 4, 3) := by decide +kernel
theorem dL_tells_432 : decode cL_tells 432 = .ok (.iconst 0, 1) := by decide +kernel
theorem dL_tells_433 : decode cL_tells 433 = .ok (.iadd, 1) := by decide +kernel
theorem dL_tells_434 : decode cL_tells 434 = .ok (.istore 16, 2) := by decide +kernel
theorem dL_tells_436 : decode cL_tells 436 = .ok (.iload 17, 2) := by decide +kernel
theorem dL_tells_438 : decode cL_tells 438 = .ok (.aload_n 2, 1) := by decide +kernel
theorem dL_tells_439 : decode cL_tells 439 = .ok (.iload 21, 2) := by decide +kernel
theorem dL_tells_441 : decode cL_tells 441 = .ok (.iaload, 1) := by decide +kernel
theorem dL_tells_442 : decode cL_tells 442 = .ok (.iload 15, 2) := by decide +kernel
theorem dL_tells_444 : decode cL_tells 444 = .ok (.if_icmp .ne 29, 3) := by decide +kernel
theorem dL_tells_447 : decode cL_tells 447 = .ok (.aload_n 1, 1) := by decide +kernel
theorem dL_tells_448 : decode cL_tells 448 = .ok (.iload 21, 2) := by decide +kernel
theorem dL_tells_450 : decode cL_tells 450 = .ok (.iaload, 1) := by decide +kernel
theorem dL_tells_451 : decode cL_tells 451 = .ok (.iconst 3, 1) := by decide +kernel
theorem dL_tells_452 : decode cL_tells 452 = .ok (.if_icmp .ge 21, 3) := by decide +kernel
theorem dL_tells_455 : decode cL_tells 455 = .ok (.aload 5, 2) := by decide +kernel
theorem dL_tells_457 : decode cL_tells 457 = .ok (.iload 21, 2) := by decide +kernel
theorem dL_tells_459 : decode cL_tells 459 = .ok (.iaload, 1) := by decide +kernel
theorem dL_tells_460 : decode cL_tells 460 = .ok (.ifCond .ge 13, 3) := by decide +kernel
theorem dL_tells_463 : decode cL_tells 463 = .ok (.iload 7, 2) := by decide +kernel
theorem dL_tells_465 : decode cL_tells 465 = .ok (.iload 15, 2) := by decide +kernel
theorem dL_tells_467 : decode cL_tells 467 = .ok (.ishr, 1) := by decide +kernel
theorem dL_tells_468 : decode cL_tells 468 = .ok (.iconst 1, 1) := by decide +kernel
theorem dL_tells_469 : decode cL_tells 469 = .ok (.iand, 1) := by decide +kernel
theorem dL_tells_470 : decode cL_tells 470 = .ok (.goto 4, 3) := by decide +kernel
theorem dL_tells_473 : decode cL_tells 473 = .ok (.iconst 0, 1) := by decide +kernel
theorem dL_tells_474 : decode cL_tells 474 = .ok (.iadd, 1) := by decide +kernel
theorem dL_tells_475 : decode cL_tells 475 = .ok (.istore 17, 2) := by decide +kernel
theorem dL_tells_477 : decode cL_tells 477 = .ok (.iload 18, 2) := by decide +kernel
theorem dL_tells_479 : decode cL_tells 479 = .ok (.aload_n 1, 1) := by decide +kernel
theorem dL_tells_480 : decode cL_tells 480 = .ok (.iload 21, 2) := by decide +kernel
theorem dL_tells_482 : decode cL_tells 482 = .ok (.iaload, 1) := by decide +kernel
theorem dL_tells_483 : decode cL_tells 483 = .ok (.iconst 1, 1) := by decide +kernel
theorem dL_tells_484 : decode cL_tells 484 = .ok (.if_icmp .ne 16, 3) := by decide +kernel
theorem dL_tells_487 : decode cL_tells 487 = .ok (.aload_n 3, 1) := by decide +kernel
theorem dL_tells_488 : decode cL_tells 488 = .ok (.iload 21, 2) := by decide +kernel
theorem dL_tells_490 : decode cL_tells 490 = .ok (.iaload, 1) := by decide +kernel
theorem dL_tells_491 : decode cL_tells 491 = .ok (.iload 15, 2) := by decide +kernel
theorem dL_tells_493 : decode cL_tells 493 = .ok (.if_icmp .ne 7, 3) := by decide +kernel
theorem dL_tells_496 : decode cL_tells 496 = .ok (.iconst 1, 1) := by decide +kernel
theorem dL_tells_497 : decode cL_tells 497 = .ok (.goto 4, 3) := by decide +kernel
theorem dL_tells_500 : decode cL_tells 500 = .ok (.iconst 0, 1) := by decide +kernel
theorem dL_tells_501 : decode cL_tells 501 = .ok (.iadd, 1) := by decide +kernel
theorem dL_tells_502 : decode cL_tells 502 = .ok (.istore 18, 2) := by decide +kernel
theorem dL_tells_504 : decode cL_tells 504 = .ok (.iload 19, 2) := by decide +kernel
theorem dL_tells_506 : decode cL_tells 506 = .ok (.aload_n 1, 1) := by decide +kernel
theorem dL_tells_507 : decode cL_tells 507 = .ok (.iload 21, 2) := by decide +kernel
theorem dL_tells_509 : decode cL_tells 509 = .ok (.iaload, 1) := by decide +kernel
theorem dL_tells_510 : decode cL_tells 510 = .ok (.iconst 2, 1) := by decide +kernel
theorem dL_tells_511 : decode cL_tells 511 = .ok (.if_icmp .ne 16, 3) := by decide +kernel
theorem dL_tells_514 : decode cL_tells 514 = .ok (.aload_n 3, 1) := by decide +kernel
theorem dL_tells_515 : decode cL_tells 515 = .ok (.iload 21, 2) := by decide +kernel
theorem dL_tells_517 : decode cL_tells 517 = .ok (.iaload, 1) := by decide +kernel
theorem dL_tells_518 : decode cL_tells 518 = .ok (.iload 15, 2) := by decide +kernel
theorem dL_tells_520 : decode cL_tells 520 = .ok (.if_icmp .ne 7, 3) := by decide +kernel
theorem dL_tells_523 : decode cL_tells 523 = .ok (.iconst 1, 1) := by decide +kernel
theorem dL_tells_524 : decode cL_tells 524 = .ok (.goto 4, 3) := by decide +kernel
theorem dL_tells_527 : decode cL_tells 527 = .ok (.iconst 0, 1) := by decide +kernel
theorem dL_tells_528 : decode cL_tells 528 = .ok (.iadd, 1) := by decide +kernel
theorem dL_tells_529 : decode cL_tells 529 = .ok (.istore 19, 2) := by decide +kernel
theorem dL_tells_531 : decode cL_tells 531 = .ok (.iload 20, 2) := by decide +kernel
theorem dL_tells_533 : decode cL_tells 533 = .ok (.ifCond .ne 54, 3) := by decide +kernel
theorem dL_tells_536 : decode cL_tells 536 = .ok (.aload_n 1, 1) := by decide +kernel
theorem dL_tells_537 : decode cL_tells 537 = .ok (.iload 21, 2) := by decide +kernel
theorem dL_tells_539 : decode cL_tells 539 = .ok (.iaload, 1) := by decide +kernel
theorem dL_tells_540 : decode cL_tells 540 = .ok (.iconst 2, 1) := by decide +kernel
theorem dL_tells_541 : decode cL_tells 541 = .ok (.if_icmp .ne 50, 3) := by decide +kernel
theorem dL_tells_544 : decode cL_tells 544 = .ok (.aload_n 3, 1) := by decide +kernel
theorem dL_tells_545 : decode cL_tells 545 = .ok (.iload 21, 2) := by decide +kernel
theorem dL_tells_547 : decode cL_tells 547 = .ok (.iaload, 1) := by decide +kernel
theorem dL_tells_548 : decode cL_tells 548 = .ok (.iload 15, 2) := by decide +kernel
theorem dL_tells_550 : decode cL_tells 550 = .ok (.if_icmp .ne 41, 3) := by decide +kernel
theorem dL_tells_553 : decode cL_tells 553 = .ok (.aload 5, 2) := by decide +kernel
theorem dL_tells_555 : decode cL_tells 555 = .ok (.iload 21, 2) := by decide +kernel
theorem dL_tells_557 : decode cL_tells 557 = .ok (.iaload, 1) := by decide +kernel
theorem dL_tells_558 : decode cL_tells 558 = .ok (.ifCond .lt 33, 3) := by decide +kernel
theorem dL_tells_561 : decode cL_tells 561 = .ok (.aload 5, 2) := by decide +kernel
theorem dL_tells_563 : decode cL_tells 563 = .ok (.iload 21, 2) := by decide +kernel
theorem dL_tells_565 : decode cL_tells 565 = .ok (.iaload, 1) := by decide +kernel
theorem dL_tells_566 : decode cL_tells 566 = .ok (.aload 4, 2) := by decide +kernel
theorem dL_tells_568 : decode cL_tells 568 = .ok (.iload 21, 2) := by decide +kernel
theorem dL_tells_570 : decode cL_tells 570 = .ok (.iaload, 1) := by decide +kernel
theorem dL_tells_571 : decode cL_tells 571 = .ok (.if_icmp .lt 20, 3) := by decide +kernel
theorem dL_tells_574 : decode cL_tells 574 = .ok (.iload 7, 2) := by decide +kernel
theorem dL_tells_576 : decode cL_tells 576 = .ok (.aload_n 2, 1) := by decide +kernel
theorem dL_tells_577 : decode cL_tells 577 = .ok (.iload 21, 2) := by decide +kernel
theorem dL_tells_579 : decode cL_tells 579 = .ok (.iaload, 1) := by decide +kernel
theorem dL_tells_580 : decode cL_tells 580 = .ok (.ishr, 1) := by decide +kernel
theorem dL_tells_581 : decode cL_tells 581 = .ok (.iconst 1, 1) := by decide +kernel
theorem dL_tells_582 : decode cL_tells 582 = .ok (.iand, 1) := by decide +kernel
theorem dL_tells_583 : decode cL_tells 583 = .ok (.iconst 1, 1) := by decide +kernel
theorem dL_tells_584 : decode cL_tells 584 = .ok (.if_icmp .ne 7, 3) := by decide +kernel
theorem dL_tells_587 : decode cL_tells 587 = .ok (.iconst 1, 1) := by decide +kernel
theorem dL_tells_588 : decode cL_tells 588 = .ok (.goto 4, 3) := by decide +kernel
theorem dL_tells_591 : decode cL_tells 591 = .ok (.iconst 0, 1) := by decide +kernel
theorem dL_tells_592 : decode cL_tells 592 = .ok (.istore 20, 2) := by decide +kernel
theorem dL_tells_594 : decode cL_tells 594 = .ok (.iinc 21 1, 3) := by decide +kernel
theorem dL_tells_597 : decode cL_tells 597 = .ok (.goto (-187), 3) := by decide +kernel
theorem dL_tells_600 : decode cL_tells 600 = .ok (.aload_n 0, 1) := by decide +kernel
theorem dL_tells_601 : decode cL_tells 601 = .ok (.iload 15, 2) := by decide +kernel
theorem dL_tells_603 : decode cL_tells 603 = .ok (.iconst 0, 1) := by decide +kernel
theorem dL_tells_604 : decode cL_tells 604 = .ok (.invokevirtual 35, 3) := by decide +kernel
theorem dL_tells_607 : decode cL_tells 607 = .ok (.iload 7, 2) := by decide +kernel
theorem dL_tells_609 : decode cL_tells 609 = .ok (.iload 15, 2) := by decide +kernel
theorem dL_tells_611 : decode cL_tells 611 = .ok (.ishr, 1) := by decide +kernel
theorem dL_tells_612 : decode cL_tells 612 = .ok (.iconst 1, 1) := by decide +kernel
theorem dL_tells_613 : decode cL_tells 613 = .ok (.iand, 1) := by decide +kernel
theorem dL_tells_614 : decode cL_tells 614 = .ok (.if_icmp .ne 71, 3) := by decide +kernel
theorem dL_tells_617 : decode cL_tells 617 = .ok (.aload_n 0, 1) := by decide +kernel
theorem dL_tells_618 : decode cL_tells 618 = .ok (.iload 15, 2) := by decide +kernel
theorem dL_tells_620 : decode cL_tells 620 = .ok (.iconst 1, 1) := by decide +kernel
theorem dL_tells_621 : decode cL_tells 621 = .ok (.invokevirtual 35, 3) := by decide +kernel
theorem dL_tells_624 : decode cL_tells 624 = .ok (.iload 16, 2) := by decide +kernel
theorem dL_tells_626 : decode cL_tells 626 = .ok (.if_icmp .ne 59, 3) := by decide +kernel
theorem dL_tells_629 : decode cL_tells 629 = .ok (.aload_n 0, 1) := by decide +kernel
theorem dL_tells_630 : decode cL_tells 630 = .ok (.iload 15, 2) := by decide +kernel
theorem dL_tells_632 : decode cL_tells 632 = .ok (.iconst 2, 1) := by decide +kernel
theorem dL_tells_633 : decode cL_tells 633 = .ok (.invokevirtual 35, 3) := by decide +kernel
theorem dL_tells_636 : decode cL_tells 636 = .ok (.iload 17, 2) := by decide +kernel
theorem dL_tells_638 : decode cL_tells 638 = .ok (.if_icmp .ne 47, 3) := by decide +kernel
theorem dL_tells_641 : decode cL_tells 641 = .ok (.aload_n 0, 1) := by decide +kernel
theorem dL_tells_642 : decode cL_tells 642 = .ok (.iload 15, 2) := by decide +kernel
theorem dL_tells_644 : decode cL_tells 644 = .ok (.iconst 3, 1) := by decide +kernel
theorem dL_tells_645 : decode cL_tells 645 = .ok (.invokevirtual 35, 3) := by decide +kernel
theorem dL_tells_648 : decode cL_tells 648 = .ok (.iload 18, 2) := by decide +kernel
theorem dL_tells_650 : decode cL_tells 650 = .ok (.if_icmp .ne 35, 3) := by decide +kernel
theorem dL_tells_653 : decode cL_tells 653 = .ok (.aload_n 0, 1) := by decide +kernel
theorem dL_tells_654 : decode cL_tells 654 = .ok (.iload 15, 2) := by decide +kernel
theorem dL_tells_656 : decode cL_tells 656 = .ok (.iconst 4, 1) := by decide +kernel
theorem dL_tells_657 : decode cL_tells 657 = .ok (.invokevirtual 35, 3) := by decide +kernel
theorem dL_tells_660 : decode cL_tells 660 = .ok (.iload 19, 2) := by decide +kernel
theorem dL_tells_662 : decode cL_tells 662 = .ok (.if_icmp .ne 23, 3) := by decide +kernel
theorem dL_tells_665 : decode cL_tells 665 = .ok (.aload_n 0, 1) := by decide +kernel
theorem dL_tells_666 : decode cL_tells 666 = .ok (.iload 15, 2) := by decide +kernel
theorem dL_tells_668 : decode cL_tells 668 = .ok (.iconst 5, 1) := by decide +kernel
theorem dL_tells_669 : decode cL_tells 669 = .ok (.invokevirtual 35, 3) := by decide +kernel
theorem dL_tells_672 : decode cL_tells 672 = .ok (.iload 20, 2) := by decide +kernel
theorem dL_tells_674 : decode cL_tells 674 = .ok (.ifCond .eq 7, 3) := by decide +kernel
theorem dL_tells_677 : decode cL_tells 677 = .ok (.iconst 1, 1) := by decide +kernel
theorem dL_tells_678 : decode cL_tells 678 = .ok (.goto 4, 3) := by decide +kernel
theorem dL_tells_681 : decode cL_tells 681 = .ok (.iconst 0, 1) := by decide +kernel
theorem dL_tells_682 : decode cL_tells 682 = .ok (.if_icmp .eq 5, 3) := by decide +kernel
theorem dL_tells_685 : decode cL_tells 685 = .ok (.iconst 0, 1) := by decide +kernel
theorem dL_tells_686 : decode cL_tells 686 = .ok (.ireturn, 1) := by decide +kernel
theorem dL_tells_687 : decode cL_tells 687 = .ok (.iload 14, 2) := by decide +kernel
theorem dL_tells_689 : decode cL_tells 689 = .ok (.iload 7, 2) := by decide +kernel
theorem dL_tells_691 : decode cL_tells 691 = .ok (.iload 15, 2) := by decide +kernel
theorem dL_tells_693 : decode cL_tells 693 = .ok (.ishr, 1) := by decide +kernel
theorem dL_tells_694 : decode cL_tells 694 = .ok (.iconst 1, 1) := by decide +kernel
theorem dL_tells_695 : decode cL_tells 695 = .ok (.iand, 1) := by decide +kernel
theorem dL_tells_696 : decode cL_tells 696 = .ok (.iadd, 1) := by decide +kernel
theorem dL_tells_697 : decode cL_tells 697 = .ok (.istore 14, 2) := by decide +kernel
theorem dL_tells_699 : decode cL_tells 699 = .ok (.iinc 15 1, 3) := by decide +kernel
theorem dL_tells_702 : decode cL_tells 702 = .ok (.goto (-316), 3) := by decide +kernel
theorem dL_tells_705 : decode cL_tells 705 = .ok (.aload_n 1, 1) := by decide +kernel
theorem dL_tells_706 : decode cL_tells 706 = .ok (.aload_n 2, 1) := by decide +kernel
theorem dL_tells_707 : decode cL_tells 707 = .ok (.aload 5, 2) := by decide +kernel
theorem dL_tells_709 : decode cL_tells 709 = .ok (.iload 6, 2) := by decide +kernel
theorem dL_tells_711 : decode cL_tells 711 = .ok (.iload 7, 2) := by decide +kernel
theorem dL_tells_713 : decode cL_tells 713 = .ok (.invokestatic 17, 3) := by decide +kernel
theorem dL_tells_716 : decode cL_tells 716 = .ok (.istore 15, 2) := by decide +kernel
theorem dL_tells_718 : decode cL_tells 718 = .ok (.aload_n 0, 1) := by decide +kernel
theorem dL_tells_719 : decode cL_tells 719 = .ok (.iconst 0, 1) := by decide +kernel
theorem dL_tells_720 : decode cL_tells 720 = .ok (.invokevirtual 38, 3) := by decide +kernel
theorem dL_tells_723 : decode cL_tells 723 = .ok (.iload 6, 2) := by decide +kernel
theorem dL_tells_725 : decode cL_tells 725 = .ok (.if_icmp .ne 87, 3) := by decide +kernel
theorem dL_tells_728 : decode cL_tells 728 = .ok (.aload_n 0, 1) := by decide +kernel
theorem dL_tells_729 : decode cL_tells 729 = .ok (.iconst 1, 1) := by decide +kernel
theorem dL_tells_730 : decode cL_tells 730 = .ok (.invokevirtual 38, 3) := by decide +kernel
theorem dL_tells_733 : decode cL_tells 733 = .ok (.iload 8, 2) := by decide +kernel
theorem dL_tells_735 : decode cL_tells 735 = .ok (.if_icmp .ne 77, 3) := by decide +kernel
theorem dL_tells_738 : decode cL_tells 738 = .ok (.aload_n 0, 1) := by decide +kernel
theorem dL_tells_739 : decode cL_tells 739 = .ok (.iconst 2, 1) := by decide +kernel
theorem dL_tells_740 : decode cL_tells 740 = .ok (.invokevirtual 38, 3) := by decide +kernel
theorem dL_tells_743 : decode cL_tells 743 = .ok (.iload 15, 2) := by decide +kernel
theorem dL_tells_745 : decode cL_tells 745 = .ok (.if_icmp .ne 67, 3) := by decide +kernel
theorem dL_tells_748 : decode cL_tells 748 = .ok (.aload_n 0, 1) := by decide +kernel
theorem dL_tells_749 : decode cL_tells 749 = .ok (.iconst 3, 1) := by decide +kernel
theorem dL_tells_750 : decode cL_tells 750 = .ok (.invokevirtual 38, 3) := by decide +kernel
theorem dL_tells_753 : decode cL_tells 753 = .ok (.iload 10, 2) := by decide +kernel
theorem dL_tells_755 : decode cL_tells 755 = .ok (.if_icmp .ne 57, 3) := by decide +kernel
theorem dL_tells_758 : decode cL_tells 758 = .ok (.aload_n 0, 1) := by decide +kernel
theorem dL_tells_759 : decode cL_tells 759 = .ok (.iconst 4, 1) := by decide +kernel
theorem dL_tells_760 : decode cL_tells 760 = .ok (.invokevirtual 38, 3) := by decide +kernel
theorem dL_tells_763 : decode cL_tells 763 = .ok (.iload 15, 2) := by decide +kernel
theorem dL_tells_765 : decode cL_tells 765 = .ok (.ifCond .ne 7, 3) := by decide +kernel
theorem dL_tells_768 : decode cL_tells 768 = .ok (.iconst 1, 1) := by decide +kernel
theorem dL_tells_769 : decode cL_tells 769 = .ok (.goto 4, 3) := by decide +kernel
theorem dL_tells_772 : decode cL_tells 772 = .ok (.iconst 0, 1) := by decide +kernel
theorem dL_tells_773 : decode cL_tells 773 = .ok (.if_icmp .ne 39, 3) := by decide +kernel
theorem dL_tells_776 : decode cL_tells 776 = .ok (.aload_n 0, 1) := by decide +kernel
theorem dL_tells_777 : decode cL_tells 777 = .ok (.iconst 5, 1) := by decide +kernel
theorem dL_tells_778 : decode cL_tells 778 = .ok (.invokevirtual 38, 3) := by decide +kernel
theorem dL_tells_781 : decode cL_tells 781 = .ok (.iload 14, 2) := by decide +kernel
theorem dL_tells_783 : decode cL_tells 783 = .ok (.if_icmp .ne 29, 3) := by decide +kernel
theorem dL_tells_786 : decode cL_tells 786 = .ok (.aload_n 0, 1) := by decide +kernel
theorem dL_tells_787 : decode cL_tells 787 = .ok (.bipush 6, 2) := by decide +kernel
theorem dL_tells_789 : decode cL_tells 789 = .ok (.invokevirtual 38, 3) := by decide +kernel
theorem dL_tells_792 : decode cL_tells 792 = .ok (.iload 7, 2) := by decide +kernel
theorem dL_tells_794 : decode cL_tells 794 = .ok (.if_icmp .ne 18, 3) := by decide +kernel
theorem dL_tells_797 : decode cL_tells 797 = .ok (.aload_n 0, 1) := by decide +kernel
theorem dL_tells_798 : decode cL_tells 798 = .ok (.bipush 7, 2) := by decide +kernel
theorem dL_tells_800 : decode cL_tells 800 = .ok (.invokevirtual 38, 3) := by decide +kernel
theorem dL_tells_803 : decode cL_tells 803 = .ok (.iload 9, 2) := by decide +kernel
theorem dL_tells_805 : decode cL_tells 805 = .ok (.if_icmp .ne 7, 3) := by decide +kernel
theorem dL_tells_808 : decode cL_tells 808 = .ok (.iconst 1, 1) := by decide +kernel
theorem dL_tells_809 : decode cL_tells 809 = .ok (.goto 4, 3) := by decide +kernel
theorem dL_tells_812 : decode cL_tells 812 = .ok (.iconst 0, 1) := by decide +kernel
theorem dL_tells_813 : decode cL_tells 813 = .ok (.istore 16, 2) := by decide +kernel
theorem dL_tells_815 : decode cL_tells 815 = .ok (.iload 16, 2) := by decide +kernel
theorem dL_tells_817 : decode cL_tells 817 = .ok (.ifCond .eq 43, 3) := by decide +kernel
theorem dL_tells_820 : decode cL_tells 820 = .ok (.aload_n 0, 1) := by decide +kernel
theorem dL_tells_821 : decode cL_tells 821 = .ok (.invokevirtual 42, 3) := by decide +kernel
theorem dL_tells_824 : decode cL_tells 824 = .ok (.iload 12, 2) := by decide +kernel
theorem dL_tells_826 : decode cL_tells 826 = .ok (.if_icmp .ne 34, 3) := by decide +kernel
theorem dL_tells_829 : decode cL_tells 829 = .ok (.aload_n 0, 1) := by decide +kernel
theorem dL_tells_830 : decode cL_tells 830 = .ok (.invokevirtual 46, 3) := by decide +kernel
theorem dL_tells_833 : decode cL_tells 833 = .ok (.iload 11, 2) := by decide +kernel
theorem dL_tells_835 : decode cL_tells 835 = .ok (.ifCond .ne 7, 3) := by decide +kernel
theorem dL_tells_838 : decode cL_tells 838 = .ok (.dconst 1, 1) := by decide +kernel
theorem dL_tells_839 : decode cL_tells 839 = .ok (.goto 13, 3) := by decide +kernel
theorem dL_tells_842 : decode cL_tells 842 = .ok (.iload 11, 2) := by decide +kernel
theorem dL_tells_844 : decode cL_tells 844 = .ok (.iload 15, 2) := by decide +kernel
theorem dL_tells_846 : decode cL_tells 846 = .ok (.isub, 1) := by decide +kernel
theorem dL_tells_847 : decode cL_tells 847 = .ok (.i2d, 1) := by decide +kernel
theorem dL_tells_848 : decode cL_tells 848 = .ok (.iload 11, 2) := by decide +kernel
theorem dL_tells_850 : decode cL_tells 850 = .ok (.i2d, 1) := by decide +kernel
theorem dL_tells_851 : decode cL_tells 851 = .ok (.ddiv, 1) := by decide +kernel
theorem dL_tells_852 : decode cL_tells 852 = .ok (.dcmp .l, 1) := by decide +kernel
theorem dL_tells_853 : decode cL_tells 853 = .ok (.ifCond .ne 7, 3) := by decide +kernel
theorem dL_tells_856 : decode cL_tells 856 = .ok (.iconst 1, 1) := by decide +kernel
theorem dL_tells_857 : decode cL_tells 857 = .ok (.goto 4, 3) := by decide +kernel
theorem dL_tells_860 : decode cL_tells 860 = .ok (.iconst 0, 1) := by decide +kernel
theorem dL_tells_861 : decode cL_tells 861 = .ok (.ireturn, 1) := by decide +kernel
set_option maxRecDepth 20000 in
theorem ggL_wouldBe_L_open : GoodIn wsL_wouldBe wsL_open := goodIn_r _ [4] (by decide +kernel) (by decide +kernel)
set_option maxRecDepth 20000 in
theorem gL_wouldBe_L_open : GoodIn wsL_wouldBe (va_wsS RL 11 yL_open wsL_open) := goodIn_app (goodIn_of _ (by decide +kernel)) ggL_wouldBe_L_open
set_option maxRecDepth 20000 in
theorem ggL_wouldBe_L_wanting : GoodIn wsL_wouldBe wsL_wanting := goodIn_r _ [7] (by decide +kernel) (by decide +kernel)
set_option maxRecDepth 20000 in
theorem gL_wouldBe_L_wanting : GoodIn wsL_wouldBe (va_wsS RL 17 yL_wanting wsL_wanting) := goodIn_app (goodIn_of _ (by decide +kernel)) ggL_wouldBe_L_wanting
set_option maxRecDepth 20000 in
theorem ggL_wouldBe_L_value : GoodIn wsL_wouldBe wsL_value := goodIn_r _ [10, 11, 12] (by decide +kernel) (by decide +kernel)
set_option maxRecDepth 20000 in
theorem gL_wouldBe_L_value : GoodIn wsL_wouldBe (va_wsS RL 27 yL_value wsL_value) := goodIn_app (goodIn_of _ (by decide +kernel)) ggL_wouldBe_L_value
set_option maxRecDepth 20000 in
theorem ggL_wouldBe_X3_ifAnswered : GoodIn wsL_wouldBe wsX3_ifAnswered := goodIn_ca (goodIn_ca (goodIn_r _ [17, 18, 19, 20, 21, 16, 22, 23, 24, 25, 26, 27, 28, 29, 30, 31, 32, 33, 34, 35, 36, 37, 38, 39, 40, 41, 42, 43, 44, 45, 46, 47, 48, 49, 50, 51, 52, 53, 54, 55, 56, 57, 58, 59, 60, 61, 62, 63, 64, 65, 66, 67, 68, 69, 70, 71, 72, 73, 74, 75, 76, 77, 78, 79, 80, 81, 82, 83, 84, 85, 86, 87, 88, 89, 90, 91, 92, 93, 94, 95, 96, 97, 98, 99, 100, 101, 102, 103, 104, 105, 106, 107, 108, 109, 110, 111, 112, 113, 114, 115, 116, 117, 118, 119, 120, 121, 122, 123, 124, 125, 126, 127, 128, 129, 130] (by decide +kernel) (by decide +kernel)) (goodIn_sub (fun _ h => List.mem_cons_of_mem _ (List.mem_append_left _ (List.mem_append_right _ h))) (by decide +kernel))) (goodIn_sub (fun _ h => List.mem_cons_of_mem _ (List.mem_append_right _ h)) (by decide +kernel))
set_option maxRecDepth 20000 in
theorem gL_wouldBe_X3_ifAnswered : GoodIn wsL_wouldBe (wsV RL 50 RX3 yX3_ifAnswered wsX3_ifAnswered) := goodIn_app (goodIn_of _ (by decide +kernel)) ggL_wouldBe_X3_ifAnswered
theorem dL_wouldBe_0 : decode cL_wouldBe 0 = .ok (.aload 5, 2) := by decide +kernel
theorem dL_wouldBe_2 : decode cL_wouldBe 2 = .ok (.iload 7, 2) := by decide +kernel
theorem dL_wouldBe_4 : decode cL_wouldBe 4 = .ok (.iaload, 1) := by decide +kernel
theorem dL_wouldBe_5 : decode cL_wouldBe 5 = .ok (.istore 9, 2) := by decide +kernel
theorem dL_wouldBe_7 : decode cL_wouldBe 7 = .ok (.aload 5, 2) := by decide +kernel
theorem dL_wouldBe_9 : decode cL_wouldBe 9 = .ok (.iload 7, 2) := by decide +kernel
theorem dL_wouldBe_11 : decode cL_wouldBe 11 = .ok (.iload 8, 2) := by decide +kernel
theorem dL_wouldBe_13 : decode cL_wouldBe 13 = .ok (.iastore, 1) := by decide +kernel
theorem dL_wouldBe_14 : decode cL_wouldBe 14 = .ok (.aload_n 1, 1) := by decide +kernel
theorem dL_wouldBe_15 : decode cL_wouldBe 15 = .ok (.aload_n 2, 1) := by decide +kernel
theorem dL_wouldBe_16 : decode cL_wouldBe 16 = .ok (.aload_n 3, 1) := by decide +kernel
theorem dL_wouldBe_17 : decode cL_wouldBe 17 = .ok (.aload 4, 2) := by decide +kernel
theorem dL_wouldBe_19 : decode cL_wouldBe 19 = .ok (.aload 5, 2) := by decide +kernel
theorem dL_wouldBe_21 : decode cL_wouldBe 21 = .ok (.iload 6, 2) := by decide +kernel
theorem dL_wouldBe_23 : decode cL_wouldBe 23 = .ok (.invokestatic 11, 3) := by decide +kernel
theorem dL_wouldBe_26 : decode cL_wouldBe 26 = .ok (.istore 10, 2) := by decide +kernel
theorem dL_wouldBe_28 : decode cL_wouldBe 28 = .ok (.aload_n 1, 1) := by decide +kernel
theorem dL_wouldBe_29 : decode cL_wouldBe 29 = .ok (.aload_n 2, 1) := by decide +kernel
theorem dL_wouldBe_30 : decode cL_wouldBe 30 = .ok (.aload 5, 2) := by decide +kernel
theorem dL_wouldBe_32 : decode cL_wouldBe 32 = .ok (.iload 6, 2) := by decide +kernel
theorem dL_wouldBe_34 : decode cL_wouldBe 34 = .ok (.iload 10, 2) := by decide +kernel
theorem dL_wouldBe_36 : decode cL_wouldBe 36 = .ok (.invokestatic 17, 3) := by decide +kernel
theorem dL_wouldBe_39 : decode cL_wouldBe 39 = .ok (.istore 11, 2) := by decide +kernel
theorem dL_wouldBe_41 : decode cL_wouldBe 41 = .ok (.iconst (-1), 1) := by decide +kernel
theorem dL_wouldBe_42 : decode cL_wouldBe 42 = .ok (.istore 12, 2) := by decide +kernel
theorem dL_wouldBe_44 : decode cL_wouldBe 44 = .ok (.iconst 0, 1) := by decide +kernel
theorem dL_wouldBe_45 : decode cL_wouldBe 45 = .ok (.istore 13, 2) := by decide +kernel
theorem dL_wouldBe_47 : decode cL_wouldBe 47 = .ok (.iload 13, 2) := by decide +kernel
theorem dL_wouldBe_49 : decode cL_wouldBe 49 = .ok (.iload 6, 2) := by decide +kernel
theorem dL_wouldBe_51 : decode cL_wouldBe 51 = .ok (.if_icmp .ge 36, 3) := by decide +kernel
theorem dL_wouldBe_54 : decode cL_wouldBe 54 = .ok (.aload_n 1, 1) := by decide +kernel
theorem dL_wouldBe_55 : decode cL_wouldBe 55 = .ok (.iload 13, 2) := by decide +kernel
theorem dL_wouldBe_57 : decode cL_wouldBe 57 = .ok (.iaload, 1) := by decide +kernel
theorem dL_wouldBe_58 : decode cL_wouldBe 58 = .ok (.iconst 3, 1) := by decide +kernel
theorem dL_wouldBe_59 : decode cL_wouldBe 59 = .ok (.if_icmp .ne 18, 3) := by decide +kernel
theorem dL_wouldBe_62 : decode cL_wouldBe 62 = .ok (.aload_n 1, 1) := by decide +kernel
theorem dL_wouldBe_63 : decode cL_wouldBe 63 = .ok (.aload_n 2, 1) := by decide +kernel
theorem dL_wouldBe_64 : decode cL_wouldBe 64 = .ok (.aload_n 3, 1) := by decide +kernel
theorem dL_wouldBe_65 : decode cL_wouldBe 65 = .ok (.aload 5, 2) := by decide +kernel
theorem dL_wouldBe_67 : decode cL_wouldBe 67 = .ok (.iload 13, 2) := by decide +kernel
theorem dL_wouldBe_69 : decode cL_wouldBe 69 = .ok (.iload 10, 2) := by decide +kernel
theorem dL_wouldBe_71 : decode cL_wouldBe 71 = .ok (.invokestatic 27, 3) := by decide +kernel
theorem dL_wouldBe_74 : decode cL_wouldBe 74 = .ok (.goto 5, 3) := by decide +kernel
theorem dL_wouldBe_77 : decode cL_wouldBe 77 = .ok (.iload 12, 2) := by decide +kernel
theorem dL_wouldBe_79 : decode cL_wouldBe 79 = .ok (.istore 12, 2) := by decide +kernel
theorem dL_wouldBe_81 : decode cL_wouldBe 81 = .ok (.iinc 13 1, 3) := by decide +kernel
theorem dL_wouldBe_84 : decode cL_wouldBe 84 = .ok (.goto (-37), 3) := by decide +kernel
theorem dL_wouldBe_87 : decode cL_wouldBe 87 = .ok (.aload 5, 2) := by decide +kernel
theorem dL_wouldBe_89 : decode cL_wouldBe 89 = .ok (.iload 7, 2) := by decide +kernel
theorem dL_wouldBe_91 : decode cL_wouldBe 91 = .ok (.iload 9, 2) := by decide +kernel
theorem dL_wouldBe_93 : decode cL_wouldBe 93 = .ok (.iastore, 1) := by decide +kernel
theorem dL_wouldBe_94 : decode cL_wouldBe 94 = .ok (.iload 8, 2) := by decide +kernel
theorem dL_wouldBe_96 : decode cL_wouldBe 96 = .ok (.ifCond .ge 7, 3) := by decide +kernel
theorem dL_wouldBe_99 : decode cL_wouldBe 99 = .ok (.iconst (-1), 1) := by decide +kernel
theorem dL_wouldBe_100 : decode cL_wouldBe 100 = .ok (.goto 5, 3) := by decide +kernel
theorem dL_wouldBe_103 : decode cL_wouldBe 103 = .ok (.iload 8, 2) := by decide +kernel
theorem dL_wouldBe_105 : decode cL_wouldBe 105 = .ok (.istore 13, 2) := by decide +kernel
theorem dL_wouldBe_107 : decode cL_wouldBe 107 = .ok (.aload_n 0, 1) := by decide +kernel
theorem dL_wouldBe_108 : decode cL_wouldBe 108 = .ok (.iload 7, 2) := by decide +kernel
theorem dL_wouldBe_110 : decode cL_wouldBe 110 = .ok (.iload 13, 2) := by decide +kernel
theorem dL_wouldBe_112 : decode cL_wouldBe 112 = .ok (.iconst 0, 1) := by decide +kernel
theorem dL_wouldBe_113 : decode cL_wouldBe 113 = .ok (.invokevirtual 50, 3) := by decide +kernel
theorem dL_wouldBe_116 : decode cL_wouldBe 116 = .ok (.iload 11, 2) := by decide +kernel
theorem dL_wouldBe_118 : decode cL_wouldBe 118 = .ok (.if_icmp .ne 35, 3) := by decide +kernel
theorem dL_wouldBe_121 : decode cL_wouldBe 121 = .ok (.aload_n 0, 1) := by decide +kernel
theorem dL_wouldBe_122 : decode cL_wouldBe 122 = .ok (.iload 7, 2) := by decide +kernel
theorem dL_wouldBe_124 : decode cL_wouldBe 124 = .ok (.iload 13, 2) := by decide +kernel
theorem dL_wouldBe_126 : decode cL_wouldBe 126 = .ok (.iconst 1, 1) := by decide +kernel
theorem dL_wouldBe_127 : decode cL_wouldBe 127 = .ok (.invokevirtual 50, 3) := by decide +kernel
theorem dL_wouldBe_130 : decode cL_wouldBe 130 = .ok (.iload 10, 2) := by decide +kernel
theorem dL_wouldBe_132 : decode cL_wouldBe 132 = .ok (.if_icmp .ne 21, 3) := by decide +kernel
theorem dL_wouldBe_135 : decode cL_wouldBe 135 = .ok (.aload_n 0, 1) := by decide +kernel
theorem dL_wouldBe_136 : decode cL_wouldBe 136 = .ok (.iload 7, 2) := by decide +kernel
theorem dL_wouldBe_138 : decode cL_wouldBe 138 = .ok (.iload 13, 2) := by decide +kernel
theorem dL_wouldBe_140 : decode cL_wouldBe 140 = .ok (.iconst 2, 1) := by decide +kernel
theorem dL_wouldBe_141 : decode cL_wouldBe 141 = .ok (.invokevirtual 50, 3) := by decide +kernel
theorem dL_wouldBe_144 : decode cL_wouldBe 144 = .ok (.iload 12, 2) := by decide +kernel
theorem dL_wouldBe_146 : decode cL_wouldBe 146 = .ok (.if_icmp .ne 7, 3) := by decide +kernel
theorem dL_wouldBe_149 : decode cL_wouldBe 149 = .ok (.iconst 1, 1) := by decide +kernel
theorem dL_wouldBe_150 : decode cL_wouldBe 150 = .ok (.goto 4, 3) := by decide +kernel
theorem dL_wouldBe_153 : decode cL_wouldBe 153 = .ok (.iconst 0, 1) := by decide +kernel
theorem dL_wouldBe_154 : decode cL_wouldBe 154 = .ok (.ireturn, 1) := by decide +kernel
theorem dL_power_0 : decode cL_power 0 = .ok (.iconst 1, 1) := by decide +kernel
theorem dL_power_1 : decode cL_power 1 = .ok (.istore_n 1, 1) := by decide +kernel
theorem dL_power_2 : decode cL_power 2 = .ok (.iconst 0, 1) := by decide +kernel
theorem dL_power_3 : decode cL_power 3 = .ok (.istore_n 2, 1) := by decide +kernel
theorem dL_power_4 : decode cL_power 4 = .ok (.iload_n 2, 1) := by decide +kernel
theorem dL_power_5 : decode cL_power 5 = .ok (.iload_n 0, 1) := by decide +kernel
theorem dL_power_6 : decode cL_power 6 = .ok (.if_icmp .ge 14, 3) := by decide +kernel
theorem dL_power_9 : decode cL_power 9 = .ok (.iload_n 1, 1) := by decide +kernel
theorem dL_power_10 : decode cL_power 10 = .ok (.bipush 10, 2) := by decide +kernel
theorem dL_power_12 : decode cL_power 12 = .ok (.imul, 1) := by decide +kernel
theorem dL_power_13 : decode cL_power 13 = .ok (.istore_n 1, 1) := by decide +kernel
theorem dL_power_14 : decode cL_power 14 = .ok (.iinc 2 1, 3) := by decide +kernel
theorem dL_power_17 : decode cL_power 17 = .ok (.goto (-13), 3) := by decide +kernel
theorem dL_power_20 : decode cL_power 20 = .ok (.iload_n 1, 1) := by decide +kernel
theorem dL_power_21 : decode cL_power 21 = .ok (.ireturn, 1) := by decide +kernel
set_option maxRecDepth 20000 in
theorem ggL_some_L_low : GoodIn wsL_some wsL_low := goodIn_r _ [4, 5] (by decide +kernel) (by decide +kernel)
set_option maxRecDepth 20000 in
theorem gL_some_L_low : GoodIn wsL_some (va_wsS RL 54 yL_low wsL_low) := goodIn_app (goodIn_of _ (by decide +kernel)) ggL_some_L_low
set_option maxRecDepth 20000 in
theorem ggL_some_L_power : GoodIn wsL_some wsL_power := goodIn_r _ [8] (by decide +kernel) (by decide +kernel)
set_option maxRecDepth 20000 in
theorem gL_some_L_power : GoodIn wsL_some (va_wsS RL 57 yL_power wsL_power) := goodIn_app (goodIn_of _ (by decide +kernel)) ggL_some_L_power
theorem dL_some_0 : decode cL_some 0 = .ok (.aload_n 0, 1) := by decide +kernel
theorem dL_some_1 : decode cL_some 1 = .ok (.iload_n 2, 1) := by decide +kernel
theorem dL_some_2 : decode cL_some 2 = .ok (.iaload, 1) := by decide +kernel
theorem dL_some_3 : decode cL_some 3 = .ok (.iconst 3, 1) := by decide +kernel
theorem dL_some_4 : decode cL_some 4 = .ok (.if_icmp .eq 11, 3) := by decide +kernel
theorem dL_some_7 : decode cL_some 7 = .ok (.iload_n 3, 1) := by decide +kernel
theorem dL_some_8 : decode cL_some 8 = .ok (.iconst 5, 1) := by decide +kernel
theorem dL_some_9 : decode cL_some 9 = .ok (.invokestatic 54, 3) := by decide +kernel
theorem dL_some_12 : decode cL_some 12 = .ok (.ifCond .ne 5, 3) := by decide +kernel
theorem dL_some_15 : decode cL_some 15 = .ok (.iconst (-1), 1) := by decide +kernel
theorem dL_some_16 : decode cL_some 16 = .ok (.ireturn, 1) := by decide +kernel
theorem dL_some_17 : decode cL_some 17 = .ok (.aload_n 0, 1) := by decide +kernel
theorem dL_some_18 : decode cL_some 18 = .ok (.iload_n 2, 1) := by decide +kernel
theorem dL_some_19 : decode cL_some 19 = .ok (.iaload, 1) := by decide +kernel
theorem dL_some_20 : decode cL_some 20 = .ok (.ifCond .ne 18, 3) := by decide +kernel
theorem dL_some_23 : decode cL_some 23 = .ok (.iload_n 3, 1) := by decide +kernel
theorem dL_some_24 : decode cL_some 24 = .ok (.iconst 3, 1) := by decide +kernel
theorem dL_some_25 : decode cL_some 25 = .ok (.ishr, 1) := by decide +kernel
theorem dL_some_26 : decode cL_some 26 = .ok (.aload_n 1, 1) := by decide +kernel
theorem dL_some_27 : decode cL_some 27 = .ok (.iload_n 2, 1) := by decide +kernel
theorem dL_some_28 : decode cL_some 28 = .ok (.iaload, 1) := by decide +kernel
theorem dL_some_29 : decode cL_some 29 = .ok (.invokestatic 57, 3) := by decide +kernel
theorem dL_some_32 : decode cL_some 32 = .ok (.invokestatic 54, 3) := by decide +kernel
theorem dL_some_35 : decode cL_some 35 = .ok (.goto 28, 3) := by decide +kernel
theorem dL_some_38 : decode cL_some 38 = .ok (.aload_n 0, 1) := by decide +kernel
theorem dL_some_39 : decode cL_some 39 = .ok (.iload_n 2, 1) := by decide +kernel
theorem dL_some_40 : decode cL_some 40 = .ok (.iaload, 1) := by decide +kernel
theorem dL_some_41 : decode cL_some 41 = .ok (.iconst 1, 1) := by decide +kernel
theorem dL_some_42 : decode cL_some 42 = .ok (.if_icmp .ne 13, 3) := by decide +kernel
theorem dL_some_45 : decode cL_some 45 = .ok (.iload_n 3, 1) := by decide +kernel
theorem dL_some_46 : decode cL_some 46 = .ok (.iconst 3, 1) := by decide +kernel
theorem dL_some_47 : decode cL_some 47 = .ok (.ishr, 1) := by decide +kernel
theorem dL_some_48 : decode cL_some 48 = .ok (.iconst 2, 1) := by decide +kernel
theorem dL_some_49 : decode cL_some 49 = .ok (.invokestatic 54, 3) := by decide +kernel
theorem dL_some_52 : decode cL_some 52 = .ok (.goto 11, 3) := by decide +kernel
theorem dL_some_55 : decode cL_some 55 = .ok (.iload_n 3, 1) := by decide +kernel
theorem dL_some_56 : decode cL_some 56 = .ok (.iconst 3, 1) := by decide +kernel
theorem dL_some_57 : decode cL_some 57 = .ok (.ishr, 1) := by decide +kernel
theorem dL_some_58 : decode cL_some 58 = .ok (.bipush 100, 2) := by decide +kernel
theorem dL_some_60 : decode cL_some 60 = .ok (.invokestatic 54, 3) := by decide +kernel
theorem dL_some_63 : decode cL_some 63 = .ok (.ireturn, 1) := by decide +kernel
set_option maxRecDepth 20000 in
theorem ggL_law_X3_init : GoodIn wsL_law wsX3_init := goodIn_r _ [6, 7, 8, 9, 10, 11, 12, 13, 14, 15, 16, 17, 18, 19, 20, 21, 22, 23, 24, 25, 3, 26, 27, 28, 29, 30, 31, 32, 33, 34, 35, 36, 37, 38, 39, 40, 347, 348, 349, 350, 351, 352, 353, 343, 344, 345, 346, 354, 355, 356, 357, 358] (by decide +kernel) (by decide +kernel)
set_option maxRecDepth 20000 in
theorem gL_law_X3_init : GoodIn wsL_law (wsX3_init) := ggL_law_X3_init
set_option maxRecDepth 20000 in
theorem ggL_law_L_cell : GoodIn wsL_law wsL_cell := goodIn_r _ [44, 45, 46] (by decide +kernel) (by decide +kernel)
set_option maxRecDepth 20000 in
theorem gL_law_L_cell : GoodIn wsL_law (va_wsS RL 61 yL_cell wsL_cell) := goodIn_app (goodIn_of _ (by decide +kernel)) ggL_law_L_cell
set_option maxRecDepth 20000 in
theorem ggL_law_L_low : GoodIn wsL_law wsL_low := goodIn_r _ [49, 50] (by decide +kernel) (by decide +kernel)
set_option maxRecDepth 20000 in
theorem gL_law_L_low : GoodIn wsL_law (va_wsS RL 54 yL_low wsL_low) := goodIn_app (goodIn_of _ (by decide +kernel)) ggL_law_L_low
set_option maxRecDepth 20000 in
theorem ggL_law_X3_comb : GoodIn wsL_law wsX3_comb := goodIn_ca (goodIn_ca (goodIn_ca (goodIn_r _ [54, 55, 56, 2, 57, 58, 59, 60, 61, 62, 63, 64, 65, 66, 67, 68, 69, 70, 71, 13, 18, 72, 12, 73, 74, 75, 76, 77, 78, 79, 80, 81, 17, 82, 83, 84, 85, 86, 87, 88, 89, 90, 91, 92, 93, 36, 94, 95, 96, 26, 27, 28, 29, 30, 97, 98, 99, 100, 101, 102, 103, 343, 344, 345, 346, 347, 348, 349, 350, 351, 352, 353, 354, 355, 356] (by decide +kernel) (by decide +kernel)) (goodIn_sub (fun _ h => List.mem_append_left _ (List.mem_append_left _ (List.mem_append_right _ h))) (by decide +kernel))) (goodIn_sub (fun _ h => List.mem_append_left _ (List.mem_append_right _ h)) (by decide +kernel))) (goodIn_sub (fun _ h => List.mem_append_right _ h) (by decide +kernel))
set_option maxRecDepth 20000 in
theorem gL_law_X3_comb : GoodIn wsL_law (wsV RL 65 RX3 yX3_comb wsX3_comb) := goodIn_app (goodIn_of _ (by decide +kernel)) ggL_law_X3_comb
set_option maxRecDepth 20000 in
theorem ggL_law_X3_tick : GoodIn wsL_law wsX3_tick := goodIn_ca (goodIn_ca (goodIn_ca (goodIn_r _ [107, 55, 56, 2, 57, 58, 59, 60, 61, 62, 63, 64, 65, 66, 67, 68, 69, 70, 71, 13, 18, 72, 12, 73, 74, 75, 76, 77, 78, 79, 80, 81, 17, 82, 83, 84, 85, 86, 87, 88, 89, 90, 91, 92, 93, 36, 94, 95, 96, 26, 27, 28, 29, 30, 97, 98, 99, 100, 101, 102, 103, 343, 344, 345, 346, 347, 348, 349, 350, 351, 352, 353, 354, 355, 356] (by decide +kernel) (by decide +kernel)) (goodIn_sub (fun _ h => List.mem_append_left _ (List.mem_append_left _ (List.mem_append_right _ h))) (by decide +kernel))) (goodIn_sub (fun _ h => List.mem_append_left _ (List.mem_append_right _ h)) (by decide +kernel))) (goodIn_sub (fun _ h => List.mem_append_right _ h) (by decide +kernel))
set_option maxRecDepth 20000 in
theorem gL_law_X3_tick : GoodIn wsL_law (wsV RL 68 RX3 yX3_tick wsX3_tick) := goodIn_app (goodIn_of _ (by decide +kernel)) ggL_law_X3_tick
set_option maxRecDepth 20000 in
theorem ggL_law_X3_skip : GoodIn wsL_law wsX3_skip := goodIn_ca (goodIn_ca (goodIn_ca (goodIn_r _ [111, 55, 56, 2, 57, 58, 59, 60, 61, 62, 63, 64, 65, 66, 67, 68, 69, 70, 71, 13, 18, 72, 12, 73, 74, 75, 76, 77, 78, 79, 80, 81, 17, 82, 83, 84, 85, 86, 87, 88, 89, 90, 91, 92, 93, 36, 94, 95, 96, 26, 27, 28, 29, 30, 97, 98, 99, 100, 101, 102, 103, 343, 344, 345, 346, 347, 348, 349, 350, 351, 352, 353, 354, 355, 356] (by decide +kernel) (by decide +kernel)) (goodIn_sub (fun _ h => List.mem_append_left _ (List.mem_append_left _ (List.mem_append_right _ h))) (by decide +kernel))) (goodIn_sub (fun _ h => List.mem_append_left _ (List.mem_append_right _ h)) (by decide +kernel))) (goodIn_sub (fun _ h => List.mem_append_right _ h) (by decide +kernel))
set_option maxRecDepth 20000 in
theorem gL_law_X3_skip : GoodIn wsL_law (wsV RL 71 RX3 yX3_skip wsX3_skip) := goodIn_app (goodIn_of _ (by decide +kernel)) ggL_law_X3_skip
set_option maxRecDepth 20000 in
theorem ggL_law_X3_total : GoodIn wsL_law wsX3_total := goodIn_ca (goodIn_ca (goodIn_ca (goodIn_r _ [115, 116, 13, 55, 56, 2, 57, 58, 59, 60, 61, 62, 117, 12, 118, 119, 26, 97, 98, 120, 121, 122, 123, 124, 125, 75, 63, 64, 65, 66, 67, 68, 69, 70, 71, 18, 72, 73, 74, 76, 77, 78, 79, 80, 81, 17, 82, 83, 84, 85, 86, 87, 88, 89, 90, 91, 92, 93, 36, 94, 95, 96, 27, 28, 29, 30, 99, 100, 101, 102, 103, 343, 344, 345, 346, 347, 348, 349, 350, 351, 352, 353, 354, 355, 356] (by decide +kernel) (by decide +kernel)) (goodIn_sub (fun _ h => List.mem_append_left _ (List.mem_append_left _ (List.mem_append_right _ h))) (by decide +kernel))) (goodIn_sub (fun _ h => List.mem_append_left _ (List.mem_append_right _ h)) (by decide +kernel))) (goodIn_sub (fun _ h => List.mem_append_right _ h) (by decide +kernel))
set_option maxRecDepth 20000 in
theorem gL_law_X3_total : GoodIn wsL_law (wsV RL 74 RX3 yX3_total wsX3_total) := goodIn_app (goodIn_of _ (by decide +kernel)) ggL_law_X3_total
set_option maxRecDepth 20000 in
theorem ggL_law_X3_drop : GoodIn wsL_law wsX3_drop := goodIn_ca (goodIn_r _ [129, 13, 18, 72, 12, 73, 74, 75, 76, 77, 2, 78, 79, 80, 81, 17, 82, 83, 84, 85, 86, 87, 88, 89, 90, 91, 92, 93, 36, 94, 95, 96, 26, 27, 28, 29, 30, 97, 98, 99, 100, 130, 131, 132, 133, 134, 135, 343, 344, 345, 346, 347, 348, 349, 350, 351, 352, 353, 354, 355, 356] (by decide +kernel) (by decide +kernel)) (goodIn_sub (fun _ h => List.mem_append_right _ h) (by decide +kernel))
set_option maxRecDepth 20000 in
theorem gL_law_X3_drop : GoodIn wsL_law (wsV RL 77 RX3 yX3_drop wsX3_drop) := goodIn_app (goodIn_of _ (by decide +kernel)) ggL_law_X3_drop
set_option maxRecDepth 20000 in
theorem ggL_law_X3_clear : GoodIn wsL_law wsX3_clear := goodIn_r _ [139, 18, 13, 81, 17, 82, 83, 84, 85, 86, 87, 88, 89, 90, 91, 92, 93, 36, 94, 12, 95, 96, 75, 26, 27, 28, 29, 30, 97, 2, 98, 99, 100, 140, 141, 142, 72, 73, 74, 143, 144, 145, 343, 344, 345, 346, 354, 355, 356, 347, 348, 349, 350, 351, 352, 353] (by decide +kernel) (by decide +kernel)
set_option maxRecDepth 20000 in
theorem gL_law_X3_clear : GoodIn wsL_law (wsV RL 80 RX3 yX3_clear wsX3_clear) := goodIn_app (goodIn_of _ (by decide +kernel)) ggL_law_X3_clear
set_option maxRecDepth 20000 in
theorem ggL_law_L_some : GoodIn wsL_law wsL_some := goodIn_r _ [148, 47, 48, 43, 49, 50, 149, 150, 151] (by decide +kernel) (by decide +kernel)
set_option maxRecDepth 20000 in
theorem gL_law_L_some : GoodIn wsL_law (va_wsS RL 83 yL_some wsL_some) := goodIn_app (goodIn_of _ (by decide +kernel)) ggL_law_L_some
set_option maxRecDepth 20000 in
theorem ggL_law_L_open : GoodIn wsL_law wsL_open := goodIn_r _ [154] (by decide +kernel) (by decide +kernel)
set_option maxRecDepth 20000 in
theorem gL_law_L_open : GoodIn wsL_law (va_wsS RL 11 yL_open wsL_open) := goodIn_app (goodIn_of _ (by decide +kernel)) ggL_law_L_open
set_option maxRecDepth 20000 in
theorem ggL_law_X3_answer : GoodIn wsL_law wsX3_answer := goodIn_ca (goodIn_ca (goodIn_r _ [158, 13, 18, 159, 160, 161, 2, 162, 58, 59, 123, 12, 124, 125, 75, 163, 164, 165, 166, 167, 168, 169, 26, 28, 97, 98, 170, 171, 172, 61, 62, 63, 64, 65, 66, 67, 81, 17, 82, 83, 84, 85, 86, 87, 88, 89, 90, 91, 92, 93, 36, 94, 95, 96, 27, 29, 30, 99, 100, 143, 144, 145, 173, 174, 175, 176, 177, 178, 179, 180, 181, 182, 183, 184, 185, 186, 187, 120, 121, 188, 189, 190, 191, 192, 193, 194, 195, 196, 197, 198, 199, 200, 201, 202, 343, 344, 345, 346, 347, 348, 349, 350, 351, 352, 353, 354, 355, 356] (by decide +kernel) (by decide +kernel)) (goodIn_sub (fun _ h => List.mem_append_left _ (List.mem_append_left _ (List.mem_append_right _ h))) (by decide +kernel))) (goodIn_sub (fun _ h => List.mem_append_left _ (List.mem_append_right _ h)) (by decide +kernel))
set_option maxRecDepth 20000 in
theorem gL_law_X3_answer : GoodIn wsL_law (wsV RL 86 RX3 yX3_answer wsX3_answer) := goodIn_app (goodIn_of _ (by decide +kernel)) ggL_law_X3_answer
set_option maxRecDepth 20000 in
theorem ggL_law_L_wanting : GoodIn wsL_law wsL_wanting := goodIn_r _ [205] (by decide +kernel) (by decide +kernel)
set_option maxRecDepth 20000 in
theorem gL_law_L_wanting : GoodIn wsL_law (va_wsS RL 17 yL_wanting wsL_wanting) := goodIn_app (goodIn_of _ (by decide +kernel)) ggL_law_L_wanting
set_option maxRecDepth 20000 in
theorem ggL_law_L_tells : GoodIn wsL_law wsL_tells := goodIn_ca (goodIn_ca (fun w h => (List.mem_cons.mp h).elim (fun e => by rw [e]; exact ⟨List.mem_of_getElem? (i := 208) (by rfl), good_of_word (by decide +kernel)⟩) (goodIn_r _ [152, 153, 43, 154, 209, 210, 211, 2, 212, 13, 159, 160, 161, 162, 58, 59, 123, 12, 124, 125, 75, 60, 61, 62, 63, 64, 65, 66, 67, 173, 174, 175, 176, 177, 178, 179, 30, 180, 181, 182, 183, 26, 28, 97, 98, 184, 185, 186, 187, 27, 120, 121, 188, 189, 190, 191, 29, 192, 193, 194, 195, 213, 214, 215, 216, 130, 131, 132, 217, 218, 219, 220, 221, 222, 223, 224, 225, 226, 227, 228, 229, 230, 231, 31, 232, 233, 234, 235, 236, 237, 87, 88, 89, 238, 239, 240, 241, 99, 100, 200, 201, 202, 242, 243, 244, 3, 245, 246, 247, 248, 249, 250, 251, 252, 55, 56, 57, 253, 254, 255, 256, 257, 258, 259, 260, 261, 262, 263, 199, 264, 265, 266, 203, 204, 205, 267, 268, 269, 270, 271, 272, 273, 274, 18, 72, 73, 74, 275, 276, 277, 196, 197, 198, 278, 279, 280, 281, 282, 283, 284, 285, 286, 287, 140, 141, 142, 288, 17, 289, 290, 85, 291, 292, 293, 294, 295, 296, 297, 298, 299, 300, 301, 302, 303, 304, 305, 343, 344, 345, 346, 347, 348, 349, 350, 351, 352, 353, 354, 355, 356] (by decide +kernel) (by decide +kernel) w)) (goodIn_sub (fun _ h => List.mem_append_left _ (List.mem_append_left _ (List.mem_append_right _ h))) (by decide +kernel))) (goodIn_sub (fun _ h => List.mem_append_left _ (List.mem_append_right _ h)) (by decide +kernel))
set_option maxRecDepth 20000 in
theorem gL_law_L_tells : GoodIn wsL_law (va_wsS RL 89 yL_tells wsL_tells) := goodIn_app (goodIn_of _ (by decide +kernel)) ggL_law_L_tells
set_option maxRecDepth 20000 in
theorem ggL_law_L_wouldBe : GoodIn wsL_law wsL_wouldBe := goodIn_ca (goodIn_ca (goodIn_r _ [308, 152, 153, 43, 154, 203, 204, 205, 242, 243, 244, 3, 245, 309, 310, 311, 2, 312, 13, 159, 160, 161, 162, 58, 59, 123, 12, 124, 125, 75, 163, 164, 165, 166, 167, 168, 169, 26, 28, 97, 98, 170, 171, 172, 61, 62, 60, 63, 64, 65, 66, 67, 313, 314, 315, 316, 14, 94, 95, 96, 27, 29, 30, 99, 100, 143, 144, 145, 173, 174, 175, 176, 177, 178, 179, 180, 181, 182, 183, 184, 185, 186, 187, 120, 121, 188, 189, 190, 191, 192, 193, 194, 195, 196, 197, 198, 199, 200, 201, 202, 317, 318, 319, 229, 230, 231, 31, 232, 233, 234, 235, 236, 237, 87, 88, 89, 238, 239, 240, 241, 343, 344, 345, 346, 347, 348, 349, 350, 351, 352, 353] (by decide +kernel) (by decide +kernel)) (goodIn_sub (fun _ h => List.mem_append_left _ (List.mem_append_left _ (List.mem_append_right _ h))) (by decide +kernel))) (goodIn_sub (fun _ h => List.mem_append_left _ (List.mem_append_right _ h)) (by decide +kernel))
set_option maxRecDepth 20000 in
theorem gL_law_L_wouldBe : GoodIn wsL_law (va_wsS RL 93 yL_wouldBe wsL_wouldBe) := goodIn_app (goodIn_of _ (by decide +kernel)) ggL_law_L_wouldBe
set_option maxRecDepth 20000 in
theorem ggL_law_X3_shortest : GoodIn wsL_law wsX3_shortest := goodIn_r _ [323, 13, 324, 87, 88, 89, 325, 12, 326, 327, 120, 2, 121, 328, 329, 330, 331, 176, 177, 178, 179, 75, 30, 180, 181, 182, 183, 26, 28, 97, 98, 184, 185, 186, 187, 27, 332, 333, 334, 335, 29, 192, 193, 194, 195, 188, 189, 190, 191, 336, 337, 338, 339, 196, 197, 198, 199, 200, 201, 202, 343, 344, 345, 346, 347, 348, 349, 350, 351, 352, 353] (by decide +kernel) (by decide +kernel)
set_option maxRecDepth 20000 in
theorem gL_law_X3_shortest : GoodIn wsL_law (wsV RL 97 RX3 yX3_shortest wsX3_shortest) := goodIn_app (goodIn_of _ (by decide +kernel)) ggL_law_X3_shortest
set_option maxRecDepth 20000 in
theorem ggL_law_L_fewest : GoodIn wsL_law wsL_fewest := goodIn_r _ [342, 3, 152, 153, 43, 154, 203, 204, 205] (by decide +kernel) (by decide +kernel)
set_option maxRecDepth 20000 in
theorem gL_law_L_fewest : GoodIn wsL_law (va_wsS RL 100 yL_fewest wsL_fewest) := goodIn_app (goodIn_of _ (by decide +kernel)) ggL_law_L_fewest
theorem dL_law_0 : decode cL_law 0 = .ok (.new 21, 3) := by decide +kernel
theorem dL_law_3 : decode cL_law 3 = .ok (.dup, 1) := by decide +kernel
theorem dL_law_4 : decode cL_law 4 = .ok (.invokespecial 60, 3) := by decide +kernel
theorem dL_law_7 : decode cL_law 7 = .ok (.astore_n 1, 1) := by decide +kernel
theorem dL_law_8 : decode cL_law 8 = .ok (.bipush 16, 2) := by decide +kernel
theorem dL_law_10 : decode cL_law 10 = .ok (.newarray .int, 2) := by decide +kernel
theorem dL_law_12 : decode cL_law 12 = .ok (.astore_n 2, 1) := by decide +kernel
theorem dL_law_13 : decode cL_law 13 = .ok (.bipush 16, 2) := by decide +kernel
theorem dL_law_15 : decode cL_law 15 = .ok (.newarray .int, 2) := by decide +kernel
theorem dL_law_17 : decode cL_law 17 = .ok (.astore_n 3, 1) := by decide +kernel
theorem dL_law_18 : decode cL_law 18 = .ok (.bipush 16, 2) := by decide +kernel
theorem dL_law_20 : decode cL_law 20 = .ok (.newarray .int, 2) := by decide +kernel
theorem dL_law_22 : decode cL_law 22 = .ok (.astore 4, 2) := by decide +kernel
theorem dL_law_24 : decode cL_law 24 = .ok (.bipush 16, 2) := by decide +kernel
theorem dL_law_26 : decode cL_law 26 = .ok (.newarray .int, 2) := by decide +kernel
theorem dL_law_28 : decode cL_law 28 = .ok (.astore 5, 2) := by decide +kernel
theorem dL_law_30 : decode cL_law 30 = .ok (.bipush 16, 2) := by decide +kernel
theorem dL_law_32 : decode cL_law 32 = .ok (.newarray .int, 2) := by decide +kernel
theorem dL_law_34 : decode cL_law 34 = .ok (.astore 6, 2) := by decide +kernel
theorem dL_law_36 : decode cL_law 36 = .ok (.iconst 0, 1) := by decide +kernel
theorem dL_law_37 : decode cL_law 37 = .ok (.istore 7, 2) := by decide +kernel
theorem dL_law_39 : decode cL_law 39 = .ok (.iconst 0, 1) := by decide +kernel
theorem dL_law_40 : decode cL_law 40 = .ok (.istore 8, 2) := by decide +kernel
theorem dL_law_42 : decode cL_law 42 = .ok (.iload 8, 2) := by decide +kernel
theorem dL_law_44 : decode cL_law 44 = .ok (.bipush 60, 2) := by decide +kernel
theorem dL_law_46 : decode cL_law 46 = .ok (.if_icmp .ge 708, 3) := by decide +kernel
theorem dL_law_49 : decode cL_law 49 = .ok (.aload_n 0, 1) := by decide +kernel
theorem dL_law_50 : decode cL_law 50 = .ok (.iload 8, 2) := by decide +kernel
theorem dL_law_52 : decode cL_law 52 = .ok (.invokestatic 61, 3) := by decide +kernel
theorem dL_law_55 : decode cL_law 55 = .ok (.istore 9, 2) := by decide +kernel
theorem dL_law_57 : decode cL_law 57 = .ok (.iload 9, 2) := by decide +kernel
theorem dL_law_59 : decode cL_law 59 = .ok (.bipush 14, 2) := by decide +kernel
theorem dL_law_61 : decode cL_law 61 = .ok (.invokestatic 54, 3) := by decide +kernel
theorem dL_law_64 : decode cL_law 64 = .ok (.istore 10, 2) := by decide +kernel
theorem dL_law_66 : decode cL_law 66 = .ok (.iconst 1, 1) := by decide +kernel
theorem dL_law_67 : decode cL_law 67 = .ok (.istore 11, 2) := by decide +kernel
theorem dL_law_69 : decode cL_law 69 = .ok (.iload 10, 2) := by decide +kernel
theorem dL_law_71 : decode cL_law 71 = .ok (.bipush 6, 2) := by decide +kernel
theorem dL_law_73 : decode cL_law 73 = .ok (.if_icmp .lt 8, 3) := by decide +kernel
theorem dL_law_76 : decode cL_law 76 = .ok (.iload 7, 2) := by decide +kernel
theorem dL_law_78 : decode cL_law 78 = .ok (.ifCond .ne 338, 3) := by decide +kernel
theorem dL_law_81 : decode cL_law 81 = .ok (.iload 7, 2) := by decide +kernel
theorem dL_law_83 : decode cL_law 83 = .ok (.bipush 16, 2) := by decide +kernel
theorem dL_law_85 : decode cL_law 85 = .ok (.if_icmp .ge 331, 3) := by decide +kernel
theorem dL_law_88 : decode cL_law 88 = .ok (.iload 9, 2) := by decide +kernel
theorem dL_law_90 : decode cL_law 90 = .ok (.iconst 4, 1) := by decide +kernel
theorem dL_law_91 : decode cL_law 91 = .ok (.ishr, 1) := by decide +kernel
theorem dL_law_92 : decode cL_law 92 = .ok (.iconst 4, 1) := by decide +kernel
theorem dL_law_93 : decode cL_law 93 = .ok (.invokestatic 54, 3) := by decide +kernel
theorem dL_law_96 : decode cL_law 96 = .ok (.istore 12, 2) := by decide +kernel
theorem dL_law_98 : decode cL_law 98 = .ok (.iload 9, 2) := by decide +kernel
theorem dL_law_100 : decode cL_law 100 = .ok (.bipush 6, 2) := by decide +kernel
theorem dL_law_102 : decode cL_law 102 = .ok (.ishr, 1) := by decide +kernel
theorem dL_law_103 : decode cL_law 103 = .ok (.iload 12, 2) := by decide +kernel
theorem dL_law_105 : decode cL_law 105 = .ok (.iconst 2, 1) := by decide +kernel
theorem dL_law_106 : decode cL_law 106 = .ok (.if_icmp .ne 7, 3) := by decide +kernel
theorem dL_law_109 : decode cL_law 109 = .ok (.iconst 4, 1) := by decide +kernel
theorem dL_law_110 : decode cL_law 110 = .ok (.goto 4, 3) := by decide +kernel
theorem dL_law_113 : decode cL_law 113 = .ok (.iconst 5, 1) := by decide +kernel
theorem dL_law_114 : decode cL_law 114 = .ok (.invokestatic 54, 3) := by decide +kernel
theorem dL_law_117 : decode cL_law 117 = .ok (.istore 13, 2) := by decide +kernel
theorem dL_law_119 : decode cL_law 119 = .ok (.iload 12, 2) := by decide +kernel
theorem dL_law_121 : decode cL_law 121 = .ok (.ifCond .ne 17, 3) := by decide +kernel
theorem dL_law_124 : decode cL_law 124 = .ok (.iconst 1, 1) := by decide +kernel
theorem dL_law_125 : decode cL_law 125 = .ok (.iload 9, 2) := by decide +kernel
theorem dL_law_127 : decode cL_law 127 = .ok (.bipush 9, 2) := by decide +kernel
theorem dL_law_129 : decode cL_law 129 = .ok (.ishr, 1) := by decide +kernel
theorem dL_law_130 : decode cL_law 130 = .ok (.iconst 5, 1) := by decide +kernel
theorem dL_law_131 : decode cL_law 131 = .ok (.invokestatic 54, 3) := by decide +kernel
theorem dL_law_134 : decode cL_law 134 = .ok (.iadd, 1) := by decide +kernel
theorem dL_law_135 : decode cL_law 135 = .ok (.goto 78, 3) := by decide +kernel
theorem dL_law_138 : decode cL_law 138 = .ok (.iload 12, 2) := by decide +kernel
theorem dL_law_140 : decode cL_law 140 = .ok (.iconst 1, 1) := by decide +kernel
theorem dL_law_141 : decode cL_law 141 = .ok (.if_icmp .ne 45, 3) := by decide +kernel
theorem dL_law_144 : decode cL_law 144 = .ok (.iload 13, 2) := by decide +kernel
theorem dL_law_146 : decode cL_law 146 = .ok (.iconst 4, 1) := by decide +kernel
theorem dL_law_147 : decode cL_law 147 = .ok (.if_icmp .eq 15, 3) := by decide +kernel
theorem dL_law_150 : decode cL_law 150 = .ok (.iload 9, 2) := by decide +kernel
theorem dL_law_152 : decode cL_law 152 = .ok (.bipush 9, 2) := by decide +kernel
theorem dL_law_154 : decode cL_law 154 = .ok (.ishr, 1) := by decide +kernel
theorem dL_law_155 : decode cL_law 155 = .ok (.iconst 4, 1) := by decide +kernel
theorem dL_law_156 : decode cL_law 156 = .ok (.invokestatic 54, 3) := by decide +kernel
theorem dL_law_159 : decode cL_law 159 = .ok (.ifCond .ne 7, 3) := by decide +kernel
theorem dL_law_162 : decode cL_law 162 = .ok (.iconst (-1), 1) := by decide +kernel
theorem dL_law_163 : decode cL_law 163 = .ok (.goto 50, 3) := by decide +kernel
theorem dL_law_166 : decode cL_law 166 = .ok (.iload 13, 2) := by decide +kernel
theorem dL_law_168 : decode cL_law 168 = .ok (.iconst 1, 1) := by decide +kernel
theorem dL_law_169 : decode cL_law 169 = .ok (.iadd, 1) := by decide +kernel
theorem dL_law_170 : decode cL_law 170 = .ok (.iload 9, 2) := by decide +kernel
theorem dL_law_172 : decode cL_law 172 = .ok (.bipush 11, 2) := by decide +kernel
theorem dL_law_174 : decode cL_law 174 = .ok (.ishr, 1) := by decide +kernel
theorem dL_law_175 : decode cL_law 175 = .ok (.iconst 4, 1) := by decide +kernel
theorem dL_law_176 : decode cL_law 176 = .ok (.iload 13, 2) := by decide +kernel
theorem dL_law_178 : decode cL_law 178 = .ok (.isub, 1) := by decide +kernel
theorem dL_law_179 : decode cL_law 179 = .ok (.invokestatic 54, 3) := by decide +kernel
theorem dL_law_182 : decode cL_law 182 = .ok (.iadd, 1) := by decide +kernel
theorem dL_law_183 : decode cL_law 183 = .ok (.goto 30, 3) := by decide +kernel
theorem dL_law_186 : decode cL_law 186 = .ok (.iload 12, 2) := by decide +kernel
theorem dL_law_188 : decode cL_law 188 = .ok (.iconst 2, 1) := by decide +kernel
theorem dL_law_189 : decode cL_law 189 = .ok (.if_icmp .ne 23, 3) := by decide +kernel
theorem dL_law_192 : decode cL_law 192 = .ok (.iload 13, 2) := by decide +kernel
theorem dL_law_194 : decode cL_law 194 = .ok (.iconst 1, 1) := by decide +kernel
theorem dL_law_195 : decode cL_law 195 = .ok (.iadd, 1) := by decide +kernel
theorem dL_law_196 : decode cL_law 196 = .ok (.iload 9, 2) := by decide +kernel
theorem dL_law_198 : decode cL_law 198 = .ok (.bipush 9, 2) := by decide +kernel
theorem dL_law_200 : decode cL_law 200 = .ok (.ishr, 1) := by decide +kernel
theorem dL_law_201 : decode cL_law 201 = .ok (.iconst 4, 1) := by decide +kernel
theorem dL_law_202 : decode cL_law 202 = .ok (.iload 13, 2) := by decide +kernel
theorem dL_law_204 : decode cL_law 204 = .ok (.isub, 1) := by decide +kernel
theorem dL_law_205 : decode cL_law 205 = .ok (.invokestatic 54, 3) := by decide +kernel
theorem dL_law_208 : decode cL_law 208 = .ok (.iadd, 1) := by decide +kernel
theorem dL_law_209 : decode cL_law 209 = .ok (.goto 4, 3) := by decide +kernel
theorem dL_law_212 : decode cL_law 212 = .ok (.iconst 0, 1) := by decide +kernel
theorem dL_law_213 : decode cL_law 213 = .ok (.istore 14, 2) := by decide +kernel
theorem dL_law_215 : decode cL_law 215 = .ok (.iconst 0, 1) := by decide +kernel
theorem dL_law_216 : decode cL_law 216 = .ok (.istore 15, 2) := by decide +kernel
theorem dL_law_218 : decode cL_law 218 = .ok (.iload 15, 2) := by decide +kernel
theorem dL_law_220 : decode cL_law 220 = .ok (.iload 7, 2) := by decide +kernel
theorem dL_law_222 : decode cL_law 222 = .ok (.if_icmp .ge 55, 3) := by decide +kernel
theorem dL_law_225 : decode cL_law 225 = .ok (.iload 12, 2) := by decide +kernel
theorem dL_law_227 : decode cL_law 227 = .ok (.iconst 3, 1) := by decide +kernel
theorem dL_law_228 : decode cL_law 228 = .ok (.if_icmp .ne 49, 3) := by decide +kernel
theorem dL_law_231 : decode cL_law 231 = .ok (.iload 14, 2) := by decide +kernel
theorem dL_law_233 : decode cL_law 233 = .ok (.aload_n 2, 1) := by decide +kernel
theorem dL_law_234 : decode cL_law 234 = .ok (.iload 15, 2) := by decide +kernel
theorem dL_law_236 : decode cL_law 236 = .ok (.iaload, 1) := by decide +kernel
theorem dL_law_237 : decode cL_law 237 = .ok (.ifCond .eq 11, 3) := by decide +kernel
theorem dL_law_240 : decode cL_law 240 = .ok (.aload_n 2, 1) := by decide +kernel
theorem dL_law_241 : decode cL_law 241 = .ok (.iload 15, 2) := by decide +kernel
theorem dL_law_243 : decode cL_law 243 = .ok (.iaload, 1) := by decide +kernel
theorem dL_law_244 : decode cL_law 244 = .ok (.iconst 3, 1) := by decide +kernel
theorem dL_law_245 : decode cL_law 245 = .ok (.if_icmp .ne 22, 3) := by decide +kernel
theorem dL_law_248 : decode cL_law 248 = .ok (.iload 9, 2) := by decide +kernel
theorem dL_law_250 : decode cL_law 250 = .ok (.bipush 9, 2) := by decide +kernel
theorem dL_law_252 : decode cL_law 252 = .ok (.iload 15, 2) := by decide +kernel
theorem dL_law_254 : decode cL_law 254 = .ok (.bipush 12, 2) := by decide +kernel
theorem dL_law_256 : decode cL_law 256 = .ok (.irem, 1) := by decide +kernel
theorem dL_law_257 : decode cL_law 257 = .ok (.iadd, 1) := by decide +kernel
theorem dL_law_258 : decode cL_law 258 = .ok (.ishr, 1) := by decide +kernel
theorem dL_law_259 : decode cL_law 259 = .ok (.iconst 1, 1) := by decide +kernel
theorem dL_law_260 : decode cL_law 260 = .ok (.iand, 1) := by decide +kernel
theorem dL_law_261 : decode cL_law 261 = .ok (.iload 15, 2) := by decide +kernel
theorem dL_law_263 : decode cL_law 263 = .ok (.ishl, 1) := by decide +kernel
theorem dL_law_264 : decode cL_law 264 = .ok (.goto 4, 3) := by decide +kernel
theorem dL_law_267 : decode cL_law 267 = .ok (.iconst 0, 1) := by decide +kernel
theorem dL_law_268 : decode cL_law 268 = .ok (.ior, 1) := by decide +kernel
theorem dL_law_269 : decode cL_law 269 = .ok (.istore 14, 2) := by decide +kernel
theorem dL_law_271 : decode cL_law 271 = .ok (.iinc 15 1, 3) := by decide +kernel
theorem dL_law_274 : decode cL_law 274 = .ok (.goto (-56), 3) := by decide +kernel
theorem dL_law_277 : decode cL_law 277 = .ok (.aload_n 2, 1) := by decide +kernel
theorem dL_law_278 : decode cL_law 278 = .ok (.iload 7, 2) := by decide +kernel
theorem dL_law_280 : decode cL_law 280 = .ok (.iload 12, 2) := by decide +kernel
theorem dL_law_282 : decode cL_law 282 = .ok (.iastore, 1) := by decide +kernel
theorem dL_law_283 : decode cL_law 283 = .ok (.aload_n 3, 1) := by decide +kernel
theorem dL_law_284 : decode cL_law 284 = .ok (.iload 7, 2) := by decide +kernel
theorem dL_law_286 : decode cL_law 286 = .ok (.iload 13, 2) := by decide +kernel
theorem dL_law_288 : decode cL_law 288 = .ok (.iastore, 1) := by decide +kernel
theorem dL_law_289 : decode cL_law 289 = .ok (.aload 4, 2) := by decide +kernel
theorem dL_law_291 : decode cL_law 291 = .ok (.iload 7, 2) := by decide +kernel
theorem dL_law_293 : decode cL_law 293 = .ok (.iload 14, 2) := by decide +kernel
theorem dL_law_295 : decode cL_law 295 = .ok (.iastore, 1) := by decide +kernel
theorem dL_law_296 : decode cL_law 296 = .ok (.aload 5, 2) := by decide +kernel
theorem dL_law_298 : decode cL_law 298 = .ok (.iload 7, 2) := by decide +kernel
theorem dL_law_300 : decode cL_law 300 = .ok (.iload 12, 2) := by decide +kernel
theorem dL_law_302 : decode cL_law 302 = .ok (.iconst 2, 1) := by decide +kernel
theorem dL_law_303 : decode cL_law 303 = .ok (.if_icmp .ne 16, 3) := by decide +kernel
theorem dL_law_306 : decode cL_law 306 = .ok (.iload 9, 2) := by decide +kernel
theorem dL_law_308 : decode cL_law 308 = .ok (.bipush 14, 2) := by decide +kernel
theorem dL_law_310 : decode cL_law 310 = .ok (.ishr, 1) := by decide +kernel
theorem dL_law_311 : decode cL_law 311 = .ok (.bipush 100, 2) := by decide +kernel
theorem dL_law_313 : decode cL_law 313 = .ok (.invokestatic 54, 3) := by decide +kernel
theorem dL_law_316 : decode cL_law 316 = .ok (.goto 4, 3) := by decide +kernel
theorem dL_law_319 : decode cL_law 319 = .ok (.iconst 0, 1) := by decide +kernel
theorem dL_law_320 : decode cL_law 320 = .ok (.iastore, 1) := by decide +kernel
theorem dL_law_321 : decode cL_law 321 = .ok (.aload 6, 2) := by decide +kernel
theorem dL_law_323 : decode cL_law 323 = .ok (.iload 7, 2) := by decide +kernel
theorem dL_law_325 : decode cL_law 325 = .ok (.iconst (-1), 1) := by decide +kernel
theorem dL_law_326 : decode cL_law 326 = .ok (.iastore, 1) := by decide +kernel
theorem dL_law_327 : decode cL_law 327 = .ok (.iinc 7 1, 3) := by decide +kernel
theorem dL_law_330 : decode cL_law 330 = .ok (.iload 12, 2) := by decide +kernel
theorem dL_law_332 : decode cL_law 332 = .ok (.ifCond .ne 14, 3) := by decide +kernel
theorem dL_law_335 : decode cL_law 335 = .ok (.aload_n 1, 1) := by decide +kernel
theorem dL_law_336 : decode cL_law 336 = .ok (.iload 13, 2) := by decide +kernel
theorem dL_law_338 : decode cL_law 338 = .ok (.iload 14, 2) := by decide +kernel
theorem dL_law_340 : decode cL_law 340 = .ok (.invokevirtual 65, 3) := by decide +kernel
theorem dL_law_343 : decode cL_law 343 = .ok (.goto 52, 3) := by decide +kernel
theorem dL_law_346 : decode cL_law 346 = .ok (.iload 12, 2) := by decide +kernel
theorem dL_law_348 : decode cL_law 348 = .ok (.iconst 1, 1) := by decide +kernel
theorem dL_law_349 : decode cL_law 349 = .ok (.if_icmp .ne 14, 3) := by decide +kernel
theorem dL_law_352 : decode cL_law 352 = .ok (.aload_n 1, 1) := by decide +kernel
theorem dL_law_353 : decode cL_law 353 = .ok (.iload 13, 2) := by decide +kernel
theorem dL_law_355 : decode cL_law 355 = .ok (.iload 14, 2) := by decide +kernel
theorem dL_law_357 : decode cL_law 357 = .ok (.invokevirtual 68, 3) := by decide +kernel
theorem dL_law_360 : decode cL_law 360 = .ok (.goto 35, 3) := by decide +kernel
theorem dL_law_363 : decode cL_law 363 = .ok (.iload 12, 2) := by decide +kernel
theorem dL_law_365 : decode cL_law 365 = .ok (.iconst 2, 1) := by decide +kernel
theorem dL_law_366 : decode cL_law 366 = .ok (.if_icmp .ne 21, 3) := by decide +kernel
theorem dL_law_369 : decode cL_law 369 = .ok (.aload_n 1, 1) := by decide +kernel
theorem dL_law_370 : decode cL_law 370 = .ok (.iload 13, 2) := by decide +kernel
theorem dL_law_372 : decode cL_law 372 = .ok (.iload 14, 2) := by decide +kernel
theorem dL_law_374 : decode cL_law 374 = .ok (.aload 5, 2) := by decide +kernel
theorem dL_law_376 : decode cL_law 376 = .ok (.iload 7, 2) := by decide +kernel
theorem dL_law_378 : decode cL_law 378 = .ok (.iconst 1, 1) := by decide +kernel
theorem dL_law_379 : decode cL_law 379 = .ok (.isub, 1) := by decide +kernel
theorem dL_law_380 : decode cL_law 380 = .ok (.iaload, 1) := by decide +kernel
theorem dL_law_381 : decode cL_law 381 = .ok (.invokevirtual 71, 3) := by decide +kernel
theorem dL_law_384 : decode cL_law 384 = .ok (.goto 11, 3) := by decide +kernel
theorem dL_law_387 : decode cL_law 387 = .ok (.aload_n 1, 1) := by decide +kernel
theorem dL_law_388 : decode cL_law 388 = .ok (.iload 13, 2) := by decide +kernel
theorem dL_law_390 : decode cL_law 390 = .ok (.iload 14, 2) := by decide +kernel
theorem dL_law_392 : decode cL_law 392 = .ok (.invokevirtual 74, 3) := by decide +kernel
theorem dL_law_395 : decode cL_law 395 = .ok (.istore 15, 2) := by decide +kernel
theorem dL_law_397 : decode cL_law 397 = .ok (.iload 15, 2) := by decide +kernel
theorem dL_law_399 : decode cL_law 399 = .ok (.iload 7, 2) := by decide +kernel
theorem dL_law_401 : decode cL_law 401 = .ok (.iconst 1, 1) := by decide +kernel
theorem dL_law_402 : decode cL_law 402 = .ok (.isub, 1) := by decide +kernel
theorem dL_law_403 : decode cL_law 403 = .ok (.if_icmp .ne 7, 3) := by decide +kernel
theorem dL_law_406 : decode cL_law 406 = .ok (.iconst 1, 1) := by decide +kernel
theorem dL_law_407 : decode cL_law 407 = .ok (.goto 4, 3) := by decide +kernel
theorem dL_law_410 : decode cL_law 410 = .ok (.iconst 0, 1) := by decide +kernel
theorem dL_law_411 : decode cL_law 411 = .ok (.istore 11, 2) := by decide +kernel
theorem dL_law_413 : decode cL_law 413 = .ok (.goto 214, 3) := by decide +kernel
theorem dL_law_416 : decode cL_law 416 = .ok (.iload 10, 2) := by decide +kernel
theorem dL_law_418 : decode cL_law 418 = .ok (.bipush 6, 2) := by decide +kernel
theorem dL_law_420 : decode cL_law 420 = .ok (.if_icmp .ne 38, 3) := by decide +kernel
theorem dL_law_423 : decode cL_law 423 = .ok (.iload 9, 2) := by decide +kernel
theorem dL_law_425 : decode cL_law 425 = .ok (.iconst 4, 1) := by decide +kernel
theorem dL_law_426 : decode cL_law 426 = .ok (.ishr, 1) := by decide +kernel
theorem dL_law_427 : decode cL_law 427 = .ok (.iconst 3, 1) := by decide +kernel
theorem dL_law_428 : decode cL_law 428 = .ok (.invokestatic 54, 3) := by decide +kernel
theorem dL_law_431 : decode cL_law 431 = .ok (.ifCond .ne 27, 3) := by decide +kernel
theorem dL_law_434 : decode cL_law 434 = .ok (.iinc 7 (-1), 3) := by decide +kernel
theorem dL_law_437 : decode cL_law 437 = .ok (.aload_n 1, 1) := by decide +kernel
theorem dL_law_438 : decode cL_law 438 = .ok (.invokevirtual 77, 3) := by decide +kernel
theorem dL_law_441 : decode cL_law 441 = .ok (.aload_n 2, 1) := by decide +kernel
theorem dL_law_442 : decode cL_law 442 = .ok (.iload 7, 2) := by decide +kernel
theorem dL_law_444 : decode cL_law 444 = .ok (.iaload, 1) := by decide +kernel
theorem dL_law_445 : decode cL_law 445 = .ok (.if_icmp .ne 7, 3) := by decide +kernel
theorem dL_law_448 : decode cL_law 448 = .ok (.iconst 1, 1) := by decide +kernel
theorem dL_law_449 : decode cL_law 449 = .ok (.goto 4, 3) := by decide +kernel
theorem dL_law_452 : decode cL_law 452 = .ok (.iconst 0, 1) := by decide +kernel
theorem dL_law_453 : decode cL_law 453 = .ok (.istore 11, 2) := by decide +kernel
theorem dL_law_455 : decode cL_law 455 = .ok (.goto 172, 3) := by decide +kernel
theorem dL_law_458 : decode cL_law 458 = .ok (.iload 10, 2) := by decide +kernel
theorem dL_law_460 : decode cL_law 460 = .ok (.bipush 7, 2) := by decide +kernel
theorem dL_law_462 : decode cL_law 462 = .ok (.if_icmp .ne 77, 3) := by decide +kernel
theorem dL_law_465 : decode cL_law 465 = .ok (.iload 9, 2) := by decide +kernel
theorem dL_law_467 : decode cL_law 467 = .ok (.iconst 4, 1) := by decide +kernel
theorem dL_law_468 : decode cL_law 468 = .ok (.ishr, 1) := by decide +kernel
theorem dL_law_469 : decode cL_law 469 = .ok (.bipush 6, 2) := by decide +kernel
theorem dL_law_471 : decode cL_law 471 = .ok (.invokestatic 54, 3) := by decide +kernel
theorem dL_law_474 : decode cL_law 474 = .ok (.ifCond .ne 65, 3) := by decide +kernel
theorem dL_law_477 : decode cL_law 477 = .ok (.iconst 0, 1) := by decide +kernel
theorem dL_law_478 : decode cL_law 478 = .ok (.istore 12, 2) := by decide +kernel
theorem dL_law_480 : decode cL_law 480 = .ok (.iconst 0, 1) := by decide +kernel
theorem dL_law_481 : decode cL_law 481 = .ok (.istore 13, 2) := by decide +kernel
theorem dL_law_483 : decode cL_law 483 = .ok (.iload 13, 2) := by decide +kernel
theorem dL_law_485 : decode cL_law 485 = .ok (.iload 7, 2) := by decide +kernel
theorem dL_law_487 : decode cL_law 487 = .ok (.if_icmp .ge 33, 3) := by decide +kernel
theorem dL_law_490 : decode cL_law 490 = .ok (.iload 12, 2) := by decide +kernel
theorem dL_law_492 : decode cL_law 492 = .ok (.aload 6, 2) := by decide +kernel
theorem dL_law_494 : decode cL_law 494 = .ok (.iload 13, 2) := by decide +kernel
theorem dL_law_496 : decode cL_law 496 = .ok (.iaload, 1) := by decide +kernel
theorem dL_law_497 : decode cL_law 497 = .ok (.ifCond .ge 7, 3) := by decide +kernel
theorem dL_law_500 : decode cL_law 500 = .ok (.iconst 0, 1) := by decide +kernel
theorem dL_law_501 : decode cL_law 501 = .ok (.goto 4, 3) := by decide +kernel
theorem dL_law_504 : decode cL_law 504 = .ok (.iconst 1, 1) := by decide +kernel
theorem dL_law_505 : decode cL_law 505 = .ok (.iadd, 1) := by decide +kernel
theorem dL_law_506 : decode cL_law 506 = .ok (.istore 12, 2) := by decide +kernel
theorem dL_law_508 : decode cL_law 508 = .ok (.aload 6, 2) := by decide +kernel
theorem dL_law_510 : decode cL_law 510 = .ok (.iload 13, 2) := by decide +kernel
theorem dL_law_512 : decode cL_law 512 = .ok (.iconst (-1), 1) := by decide +kernel
theorem dL_law_513 : decode cL_law 513 = .ok (.iastore, 1) := by decide +kernel
theorem dL_law_514 : decode cL_law 514 = .ok (.iinc 13 1, 3) := by decide +kernel
theorem dL_law_517 : decode cL_law 517 = .ok (.goto (-34), 3) := by decide +kernel
theorem dL_law_520 : decode cL_law 520 = .ok (.aload_n 1, 1) := by decide +kernel
theorem dL_law_521 : decode cL_law 521 = .ok (.invokevirtual 80, 3) := by decide +kernel
theorem dL_law_524 : decode cL_law 524 = .ok (.iload 12, 2) := by decide +kernel
theorem dL_law_526 : decode cL_law 526 = .ok (.if_icmp .ne 7, 3) := by decide +kernel
theorem dL_law_529 : decode cL_law 529 = .ok (.iconst 1, 1) := by decide +kernel
theorem dL_law_530 : decode cL_law 530 = .ok (.goto 4, 3) := by decide +kernel
theorem dL_law_533 : decode cL_law 533 = .ok (.iconst 0, 1) := by decide +kernel
theorem dL_law_534 : decode cL_law 534 = .ok (.istore 11, 2) := by decide +kernel
theorem dL_law_536 : decode cL_law 536 = .ok (.goto 91, 3) := by decide +kernel
theorem dL_law_539 : decode cL_law 539 = .ok (.iload 9, 2) := by decide +kernel
theorem dL_law_541 : decode cL_law 541 = .ok (.iconst 4, 1) := by decide +kernel
theorem dL_law_542 : decode cL_law 542 = .ok (.ishr, 1) := by decide +kernel
theorem dL_law_543 : decode cL_law 543 = .ok (.iload 7, 2) := by decide +kernel
theorem dL_law_545 : decode cL_law 545 = .ok (.invokestatic 54, 3) := by decide +kernel
theorem dL_law_548 : decode cL_law 548 = .ok (.istore 12, 2) := by decide +kernel
theorem dL_law_550 : decode cL_law 550 = .ok (.aload 6, 2) := by decide +kernel
theorem dL_law_552 : decode cL_law 552 = .ok (.iload 12, 2) := by decide +kernel
theorem dL_law_554 : decode cL_law 554 = .ok (.aload_n 2, 1) := by decide +kernel
theorem dL_law_555 : decode cL_law 555 = .ok (.aload 4, 2) := by decide +kernel
theorem dL_law_557 : decode cL_law 557 = .ok (.iload 12, 2) := by decide +kernel
theorem dL_law_559 : decode cL_law 559 = .ok (.iload 9, 2) := by decide +kernel
theorem dL_law_561 : decode cL_law 561 = .ok (.bipush 8, 2) := by decide +kernel
theorem dL_law_563 : decode cL_law 563 = .ok (.ishr, 1) := by decide +kernel
theorem dL_law_564 : decode cL_law 564 = .ok (.invokestatic 83, 3) := by decide +kernel
theorem dL_law_567 : decode cL_law 567 = .ok (.iastore, 1) := by decide +kernel
theorem dL_law_568 : decode cL_law 568 = .ok (.aload_n 2, 1) := by decide +kernel
theorem dL_law_569 : decode cL_law 569 = .ok (.aload_n 3, 1) := by decide +kernel
theorem dL_law_570 : decode cL_law 570 = .ok (.aload 4, 2) := by decide +kernel
theorem dL_law_572 : decode cL_law 572 = .ok (.aload 5, 2) := by decide +kernel
theorem dL_law_574 : decode cL_law 574 = .ok (.aload 6, 2) := by decide +kernel
theorem dL_law_576 : decode cL_law 576 = .ok (.iload 7, 2) := by decide +kernel
theorem dL_law_578 : decode cL_law 578 = .ok (.invokestatic 11, 3) := by decide +kernel
theorem dL_law_581 : decode cL_law 581 = .ok (.istore 13, 2) := by decide +kernel
theorem dL_law_583 : decode cL_law 583 = .ok (.aload_n 1, 1) := by decide +kernel
theorem dL_law_584 : decode cL_law 584 = .ok (.iload 12, 2) := by decide +kernel
theorem dL_law_586 : decode cL_law 586 = .ok (.aload 6, 2) := by decide +kernel
theorem dL_law_588 : decode cL_law 588 = .ok (.iload 12, 2) := by decide +kernel
theorem dL_law_590 : decode cL_law 590 = .ok (.iaload, 1) := by decide +kernel
theorem dL_law_591 : decode cL_law 591 = .ok (.ifCond .ge 7, 3) := by decide +kernel
theorem dL_law_594 : decode cL_law 594 = .ok (.iconst (-1), 1) := by decide +kernel
theorem dL_law_595 : decode cL_law 595 = .ok (.goto 8, 3) := by decide +kernel
theorem dL_law_598 : decode cL_law 598 = .ok (.aload 6, 2) := by decide +kernel
theorem dL_law_600 : decode cL_law 600 = .ok (.iload 12, 2) := by decide +kernel
theorem dL_law_602 : decode cL_law 602 = .ok (.iaload, 1) := by decide +kernel
theorem dL_law_603 : decode cL_law 603 = .ok (.invokevirtual 86, 3) := by decide +kernel
theorem dL_law_606 : decode cL_law 606 = .ok (.aload_n 2, 1) := by decide +kernel
theorem dL_law_607 : decode cL_law 607 = .ok (.aload_n 3, 1) := by decide +kernel
theorem dL_law_608 : decode cL_law 608 = .ok (.aload 6, 2) := by decide +kernel
theorem dL_law_610 : decode cL_law 610 = .ok (.iload 7, 2) := by decide +kernel
theorem dL_law_612 : decode cL_law 612 = .ok (.iload 13, 2) := by decide +kernel
theorem dL_law_614 : decode cL_law 614 = .ok (.invokestatic 17, 3) := by decide +kernel
theorem dL_law_617 : decode cL_law 617 = .ok (.if_icmp .ne 7, 3) := by decide +kernel
theorem dL_law_620 : decode cL_law 620 = .ok (.iconst 1, 1) := by decide +kernel
theorem dL_law_621 : decode cL_law 621 = .ok (.goto 4, 3) := by decide +kernel
theorem dL_law_624 : decode cL_law 624 = .ok (.iconst 0, 1) := by decide +kernel
theorem dL_law_625 : decode cL_law 625 = .ok (.istore 11, 2) := by decide +kernel
theorem dL_law_627 : decode cL_law 627 = .ok (.iload 11, 2) := by decide +kernel
theorem dL_law_629 : decode cL_law 629 = .ok (.ifCond .eq 20, 3) := by decide +kernel
theorem dL_law_632 : decode cL_law 632 = .ok (.aload_n 1, 1) := by decide +kernel
theorem dL_law_633 : decode cL_law 633 = .ok (.aload_n 2, 1) := by decide +kernel
theorem dL_law_634 : decode cL_law 634 = .ok (.aload_n 3, 1) := by decide +kernel
theorem dL_law_635 : decode cL_law 635 = .ok (.aload 4, 2) := by decide +kernel
theorem dL_law_637 : decode cL_law 637 = .ok (.aload 5, 2) := by decide +kernel
theorem dL_law_639 : decode cL_law 639 = .ok (.aload 6, 2) := by decide +kernel
theorem dL_law_641 : decode cL_law 641 = .ok (.iload 7, 2) := by decide +kernel
theorem dL_law_643 : decode cL_law 643 = .ok (.invokestatic 89, 3) := by decide +kernel
theorem dL_law_646 : decode cL_law 646 = .ok (.ifCond .ne 5, 3) := by decide +kernel
theorem dL_law_649 : decode cL_law 649 = .ok (.iconst 0, 1) := by decide +kernel
theorem dL_law_650 : decode cL_law 650 = .ok (.ireturn, 1) := by decide +kernel
theorem dL_law_651 : decode cL_law 651 = .ok (.aload_n 0, 1) := by decide +kernel
theorem dL_law_652 : decode cL_law 652 = .ok (.bipush 60, 2) := by decide +kernel
theorem dL_law_654 : decode cL_law 654 = .ok (.iload 8, 2) := by decide +kernel
theorem dL_law_656 : decode cL_law 656 = .ok (.iadd, 1) := by decide +kernel
theorem dL_law_657 : decode cL_law 657 = .ok (.invokestatic 61, 3) := by decide +kernel
theorem dL_law_660 : decode cL_law 660 = .ok (.istore 12, 2) := by decide +kernel
theorem dL_law_662 : decode cL_law 662 = .ok (.iload 7, 2) := by decide +kernel
theorem dL_law_664 : decode cL_law 664 = .ok (.ifCond .ne 7, 3) := by decide +kernel
theorem dL_law_667 : decode cL_law 667 = .ok (.iconst 0, 1) := by decide +kernel
theorem dL_law_668 : decode cL_law 668 = .ok (.goto 10, 3) := by decide +kernel
theorem dL_law_671 : decode cL_law 671 = .ok (.iload 12, 2) := by decide +kernel
theorem dL_law_673 : decode cL_law 673 = .ok (.iload 7, 2) := by decide +kernel
theorem dL_law_675 : decode cL_law 675 = .ok (.invokestatic 54, 3) := by decide +kernel
theorem dL_law_678 : decode cL_law 678 = .ok (.istore 13, 2) := by decide +kernel
theorem dL_law_680 : decode cL_law 680 = .ok (.iload 7, 2) := by decide +kernel
theorem dL_law_682 : decode cL_law 682 = .ok (.ifCond .le 34, 3) := by decide +kernel
theorem dL_law_685 : decode cL_law 685 = .ok (.aload_n 1, 1) := by decide +kernel
theorem dL_law_686 : decode cL_law 686 = .ok (.aload_n 2, 1) := by decide +kernel
theorem dL_law_687 : decode cL_law 687 = .ok (.aload_n 3, 1) := by decide +kernel
theorem dL_law_688 : decode cL_law 688 = .ok (.aload 4, 2) := by decide +kernel
theorem dL_law_690 : decode cL_law 690 = .ok (.aload 5, 2) := by decide +kernel
theorem dL_law_692 : decode cL_law 692 = .ok (.aload 6, 2) := by decide +kernel
theorem dL_law_694 : decode cL_law 694 = .ok (.iload 7, 2) := by decide +kernel
theorem dL_law_696 : decode cL_law 696 = .ok (.iload 13, 2) := by decide +kernel
theorem dL_law_698 : decode cL_law 698 = .ok (.aload_n 2, 1) := by decide +kernel
theorem dL_law_699 : decode cL_law 699 = .ok (.aload 4, 2) := by decide +kernel
theorem dL_law_701 : decode cL_law 701 = .ok (.iload 13, 2) := by decide +kernel
theorem dL_law_703 : decode cL_law 703 = .ok (.iload 12, 2) := by decide +kernel
theorem dL_law_705 : decode cL_law 705 = .ok (.iconst 5, 1) := by decide +kernel
theorem dL_law_706 : decode cL_law 706 = .ok (.ishr, 1) := by decide +kernel
theorem dL_law_707 : decode cL_law 707 = .ok (.invokestatic 83, 3) := by decide +kernel
theorem dL_law_710 : decode cL_law 710 = .ok (.invokestatic 93, 3) := by decide +kernel
theorem dL_law_713 : decode cL_law 713 = .ok (.ifCond .eq 33, 3) := by decide +kernel
theorem dL_law_716 : decode cL_law 716 = .ok (.iload 8, 2) := by decide +kernel
theorem dL_law_718 : decode cL_law 718 = .ok (.bipush 12, 2) := by decide +kernel
theorem dL_law_720 : decode cL_law 720 = .ok (.irem, 1) := by decide +kernel
theorem dL_law_721 : decode cL_law 721 = .ok (.bipush 11, 2) := by decide +kernel
theorem dL_law_723 : decode cL_law 723 = .ok (.if_icmp .ne 25, 3) := by decide +kernel
theorem dL_law_726 : decode cL_law 726 = .ok (.aload_n 1, 1) := by decide +kernel
theorem dL_law_727 : decode cL_law 727 = .ok (.invokevirtual 97, 3) := by decide +kernel
theorem dL_law_730 : decode cL_law 730 = .ok (.aload_n 2, 1) := by decide +kernel
theorem dL_law_731 : decode cL_law 731 = .ok (.aload_n 3, 1) := by decide +kernel
theorem dL_law_732 : decode cL_law 732 = .ok (.aload 4, 2) := by decide +kernel
theorem dL_law_734 : decode cL_law 734 = .ok (.aload 5, 2) := by decide +kernel
theorem dL_law_736 : decode cL_law 736 = .ok (.aload 6, 2) := by decide +kernel
theorem dL_law_738 : decode cL_law 738 = .ok (.iload 7, 2) := by decide +kernel
theorem dL_law_740 : decode cL_law 740 = .ok (.invokestatic 100, 3) := by decide +kernel
theorem dL_law_743 : decode cL_law 743 = .ok (.if_icmp .eq 5, 3) := by decide +kernel
theorem dL_law_746 : decode cL_law 746 = .ok (.iconst 0, 1) := by decide +kernel
theorem dL_law_747 : decode cL_law 747 = .ok (.ireturn, 1) := by decide +kernel
theorem dL_law_748 : decode cL_law 748 = .ok (.iinc 8 1, 3) := by decide +kernel
theorem dL_law_751 : decode cL_law 751 = .ok (.goto (-709), 3) := by decide +kernel
theorem dL_law_754 : decode cL_law 754 = .ok (.iconst 1, 1) := by decide +kernel
theorem dL_law_755 : decode cL_law 755 = .ok (.ireturn, 1) := by decide +kernel
abbrev vwCl : List vw_C := [(RX0, TX0, 7), (RX1, TX1, 3), (RX2, TX2, 2), (RX3, TX3, 4)]
