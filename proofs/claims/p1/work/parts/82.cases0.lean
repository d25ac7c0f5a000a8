theorem dL_law_285 : decode cL_law 285 = .ok (.aload_n 1, 1) := by decide +kernel
theorem dL_law_286 : decode cL_law 286 = .ok (.aload_n 0, 1) := by decide +kernel
theorem dL_law_287 : decode cL_law 287 = .ok (.iload 4, 2) := by decide +kernel
theorem dL_law_289 : decode cL_law 289 = .ok (.iconst 1, 1) := by decide +kernel
theorem dL_law_290 : decode cL_law 290 = .ok (.iadd, 1) := by decide +kernel
theorem dL_law_291 : decode cL_law 291 = .ok (.iaload, 1) := by decide +kernel
theorem dL_law_292 : decode cL_law 292 = .ok (.invokevirtual 24, 3) := by decide +kernel
theorem dL_law_295 : decode cL_law 295 = .ok (.aload_n 2, 1) := by decide +kernel
theorem dL_law_296 : decode cL_law 296 = .ok (.aload_n 0, 1) := by decide +kernel
theorem dL_law_297 : decode cL_law 297 = .ok (.iload 4, 2) := by decide +kernel
theorem dL_law_299 : decode cL_law 299 = .ok (.iconst 1, 1) := by decide +kernel
theorem dL_law_300 : decode cL_law 300 = .ok (.iadd, 1) := by decide +kernel
theorem dL_law_301 : decode cL_law 301 = .ok (.iaload, 1) := by decide +kernel
theorem dL_law_302 : decode cL_law 302 = .ok (.invokevirtual 28, 3) := by decide +kernel
theorem dL_law_305 : decode cL_law 305 = .ok (.if_icmp .eq 1360, 3) := by decide +kernel
theorem dL_law_310 : decode cL_law 310 = .ok (.aload_n 1, 1) := by decide +kernel
theorem dL_law_311 : decode cL_law 311 = .ok (.aload_n 0, 1) := by decide +kernel
theorem dL_law_312 : decode cL_law 312 = .ok (.iload 4, 2) := by decide +kernel
theorem dL_law_314 : decode cL_law 314 = .ok (.iconst 1, 1) := by decide +kernel
theorem dL_law_315 : decode cL_law 315 = .ok (.iadd, 1) := by decide +kernel
theorem dL_law_316 : decode cL_law 316 = .ok (.iaload, 1) := by decide +kernel
theorem dL_law_317 : decode cL_law 317 = .ok (.invokevirtual 29, 3) := by decide +kernel
theorem dL_law_320 : decode cL_law 320 = .ok (.aload_n 2, 1) := by decide +kernel
theorem dL_law_321 : decode cL_law 321 = .ok (.aload_n 0, 1) := by decide +kernel
theorem dL_law_322 : decode cL_law 322 = .ok (.iload 4, 2) := by decide +kernel
theorem dL_law_324 : decode cL_law 324 = .ok (.iconst 1, 1) := by decide +kernel
theorem dL_law_325 : decode cL_law 325 = .ok (.iadd, 1) := by decide +kernel
theorem dL_law_326 : decode cL_law 326 = .ok (.iaload, 1) := by decide +kernel
theorem dL_law_327 : decode cL_law 327 = .ok (.invokevirtual 33, 3) := by decide +kernel
theorem dL_law_330 : decode cL_law 330 = .ok (.if_icmp .eq 1335, 3) := by decide +kernel
theorem dL_law_335 : decode cL_law 335 = .ok (.aload_n 1, 1) := by decide +kernel
theorem dL_law_336 : decode cL_law 336 = .ok (.aload_n 0, 1) := by decide +kernel
theorem dL_law_337 : decode cL_law 337 = .ok (.iload 4, 2) := by decide +kernel
theorem dL_law_339 : decode cL_law 339 = .ok (.iconst 1, 1) := by decide +kernel
theorem dL_law_340 : decode cL_law 340 = .ok (.iadd, 1) := by decide +kernel
theorem dL_law_341 : decode cL_law 341 = .ok (.iaload, 1) := by decide +kernel
theorem dL_law_342 : decode cL_law 342 = .ok (.invokevirtual 34, 3) := by decide +kernel
theorem dL_law_345 : decode cL_law 345 = .ok (.aload_n 2, 1) := by decide +kernel
theorem dL_law_346 : decode cL_law 346 = .ok (.aload_n 0, 1) := by decide +kernel
theorem dL_law_347 : decode cL_law 347 = .ok (.iload 4, 2) := by decide +kernel
theorem dL_law_349 : decode cL_law 349 = .ok (.iconst 1, 1) := by decide +kernel
theorem dL_law_350 : decode cL_law 350 = .ok (.iadd, 1) := by decide +kernel
theorem dL_law_351 : decode cL_law 351 = .ok (.iaload, 1) := by decide +kernel
theorem dL_law_352 : decode cL_law 352 = .ok (.invokevirtual 37, 3) := by decide +kernel
theorem dL_law_355 : decode cL_law 355 = .ok (.if_icmp .eq 1310, 3) := by decide +kernel
theorem dL_law_360 : decode cL_law 360 = .ok (.aload_n 1, 1) := by decide +kernel
theorem dL_law_361 : decode cL_law 361 = .ok (.aload_n 0, 1) := by decide +kernel
theorem dL_law_362 : decode cL_law 362 = .ok (.iload 4, 2) := by decide +kernel
theorem dL_law_364 : decode cL_law 364 = .ok (.iconst 1, 1) := by decide +kernel
theorem dL_law_365 : decode cL_law 365 = .ok (.iadd, 1) := by decide +kernel
theorem dL_law_366 : decode cL_law 366 = .ok (.iaload, 1) := by decide +kernel
theorem dL_law_367 : decode cL_law 367 = .ok (.invokevirtual 38, 3) := by decide +kernel
theorem dL_law_370 : decode cL_law 370 = .ok (.aload_n 2, 1) := by decide +kernel
theorem dL_law_371 : decode cL_law 371 = .ok (.aload_n 0, 1) := by decide +kernel
theorem dL_law_372 : decode cL_law 372 = .ok (.iload 4, 2) := by decide +kernel
theorem dL_law_374 : decode cL_law 374 = .ok (.iconst 1, 1) := by decide +kernel
theorem dL_law_375 : decode cL_law 375 = .ok (.iadd, 1) := by decide +kernel
theorem dL_law_376 : decode cL_law 376 = .ok (.iaload, 1) := by decide +kernel
theorem dL_law_377 : decode cL_law 377 = .ok (.invokevirtual 41, 3) := by decide +kernel
theorem dL_law_380 : decode cL_law 380 = .ok (.if_icmp .eq 1285, 3) := by decide +kernel
theorem dL_law_453 : decode cL_law 453 = .ok (.aload_n 1, 1) := by decide +kernel
theorem dL_law_454 : decode cL_law 454 = .ok (.aload_n 0, 1) := by decide +kernel
theorem dL_law_455 : decode cL_law 455 = .ok (.iload 4, 2) := by decide +kernel
theorem dL_law_457 : decode cL_law 457 = .ok (.iconst 1, 1) := by decide +kernel
theorem dL_law_458 : decode cL_law 458 = .ok (.iadd, 1) := by decide +kernel
theorem dL_law_459 : decode cL_law 459 = .ok (.iaload, 1) := by decide +kernel
theorem dL_law_460 : decode cL_law 460 = .ok (.aload_n 0, 1) := by decide +kernel
theorem dL_law_461 : decode cL_law 461 = .ok (.iload 4, 2) := by decide +kernel
theorem dL_law_463 : decode cL_law 463 = .ok (.iconst 2, 1) := by decide +kernel
theorem dL_law_464 : decode cL_law 464 = .ok (.iadd, 1) := by decide +kernel
theorem dL_law_465 : decode cL_law 465 = .ok (.iaload, 1) := by decide +kernel
theorem dL_law_466 : decode cL_law 466 = .ok (.invokevirtual 52, 3) := by decide +kernel
theorem dL_law_469 : decode cL_law 469 = .ok (.aload_n 2, 1) := by decide +kernel
theorem dL_law_470 : decode cL_law 470 = .ok (.aload_n 0, 1) := by decide +kernel
theorem dL_law_471 : decode cL_law 471 = .ok (.iload 4, 2) := by decide +kernel
theorem dL_law_473 : decode cL_law 473 = .ok (.iconst 1, 1) := by decide +kernel
theorem dL_law_474 : decode cL_law 474 = .ok (.iadd, 1) := by decide +kernel
theorem dL_law_475 : decode cL_law 475 = .ok (.iaload, 1) := by decide +kernel
theorem dL_law_476 : decode cL_law 476 = .ok (.aload_n 0, 1) := by decide +kernel
theorem dL_law_477 : decode cL_law 477 = .ok (.iload 4, 2) := by decide +kernel
theorem dL_law_479 : decode cL_law 479 = .ok (.iconst 2, 1) := by decide +kernel
theorem dL_law_480 : decode cL_law 480 = .ok (.iadd, 1) := by decide +kernel
theorem dL_law_481 : decode cL_law 481 = .ok (.iaload, 1) := by decide +kernel
theorem dL_law_482 : decode cL_law 482 = .ok (.invokevirtual 56, 3) := by decide +kernel
theorem dL_law_485 : decode cL_law 485 = .ok (.lcmp, 1) := by decide +kernel
theorem dL_law_486 : decode cL_law 486 = .ok (.ifCond .eq 1179, 3) := by decide +kernel
theorem dL_law_491 : decode cL_law 491 = .ok (.aload_n 1, 1) := by decide +kernel
theorem dL_law_492 : decode cL_law 492 = .ok (.aload_n 0, 1) := by decide +kernel
theorem dL_law_493 : decode cL_law 493 = .ok (.iload 4, 2) := by decide +kernel
theorem dL_law_495 : decode cL_law 495 = .ok (.iconst 1, 1) := by decide +kernel
theorem dL_law_496 : decode cL_law 496 = .ok (.iadd, 1) := by decide +kernel
theorem dL_law_497 : decode cL_law 497 = .ok (.iaload, 1) := by decide +kernel
theorem dL_law_498 : decode cL_law 498 = .ok (.aload_n 0, 1) := by decide +kernel
theorem dL_law_499 : decode cL_law 499 = .ok (.iload 4, 2) := by decide +kernel
theorem dL_law_501 : decode cL_law 501 = .ok (.iconst 2, 1) := by decide +kernel
theorem dL_law_502 : decode cL_law 502 = .ok (.iadd, 1) := by decide +kernel
theorem dL_law_503 : decode cL_law 503 = .ok (.iaload, 1) := by decide +kernel
theorem dL_law_504 : decode cL_law 504 = .ok (.invokevirtual 57, 3) := by decide +kernel
theorem dL_law_507 : decode cL_law 507 = .ok (.aload_n 2, 1) := by decide +kernel
theorem dL_law_508 : decode cL_law 508 = .ok (.aload_n 0, 1) := by decide +kernel
theorem dL_law_509 : decode cL_law 509 = .ok (.iload 4, 2) := by decide +kernel
theorem dL_law_511 : decode cL_law 511 = .ok (.iconst 1, 1) := by decide +kernel
theorem dL_law_512 : decode cL_law 512 = .ok (.iadd, 1) := by decide +kernel
theorem dL_law_513 : decode cL_law 513 = .ok (.iaload, 1) := by decide +kernel
theorem dL_law_514 : decode cL_law 514 = .ok (.aload_n 0, 1) := by decide +kernel
theorem dL_law_515 : decode cL_law 515 = .ok (.iload 4, 2) := by decide +kernel
theorem dL_law_517 : decode cL_law 517 = .ok (.iconst 2, 1) := by decide +kernel
theorem dL_law_518 : decode cL_law 518 = .ok (.iadd, 1) := by decide +kernel
theorem dL_law_519 : decode cL_law 519 = .ok (.iaload, 1) := by decide +kernel
theorem dL_law_520 : decode cL_law 520 = .ok (.invokevirtual 61, 3) := by decide +kernel
theorem dL_law_523 : decode cL_law 523 = .ok (.if_icmp .eq 1142, 3) := by decide +kernel
theorem dL_law_528 : decode cL_law 528 = .ok (.aload_n 1, 1) := by decide +kernel
theorem dL_law_529 : decode cL_law 529 = .ok (.aload_n 0, 1) := by decide +kernel
theorem dL_law_530 : decode cL_law 530 = .ok (.iload 4, 2) := by decide +kernel
theorem dL_law_532 : decode cL_law 532 = .ok (.iconst 1, 1) := by decide +kernel
theorem dL_law_533 : decode cL_law 533 = .ok (.iadd, 1) := by decide +kernel
theorem dL_law_534 : decode cL_law 534 = .ok (.iaload, 1) := by decide +kernel
theorem dL_law_535 : decode cL_law 535 = .ok (.invokevirtual 62, 3) := by decide +kernel
theorem dL_law_538 : decode cL_law 538 = .ok (.aload_n 2, 1) := by decide +kernel
theorem dL_law_539 : decode cL_law 539 = .ok (.aload_n 0, 1) := by decide +kernel
theorem dL_law_540 : decode cL_law 540 = .ok (.iload 4, 2) := by decide +kernel
theorem dL_law_542 : decode cL_law 542 = .ok (.iconst 1, 1) := by decide +kernel
theorem dL_law_543 : decode cL_law 543 = .ok (.iadd, 1) := by decide +kernel
theorem dL_law_544 : decode cL_law 544 = .ok (.iaload, 1) := by decide +kernel
theorem dL_law_545 : decode cL_law 545 = .ok (.invokevirtual 66, 3) := by decide +kernel
theorem dL_law_548 : decode cL_law 548 = .ok (.lcmp, 1) := by decide +kernel
theorem dL_law_549 : decode cL_law 549 = .ok (.ifCond .eq 1116, 3) := by decide +kernel
theorem dL_law_554 : decode cL_law 554 = .ok (.aload_n 1, 1) := by decide +kernel
theorem dL_law_555 : decode cL_law 555 = .ok (.aload_n 0, 1) := by decide +kernel
theorem dL_law_556 : decode cL_law 556 = .ok (.iload 4, 2) := by decide +kernel
theorem dL_law_558 : decode cL_law 558 = .ok (.iconst 1, 1) := by decide +kernel
theorem dL_law_559 : decode cL_law 559 = .ok (.iadd, 1) := by decide +kernel
theorem dL_law_560 : decode cL_law 560 = .ok (.iaload, 1) := by decide +kernel
theorem dL_law_561 : decode cL_law 561 = .ok (.aload_n 0, 1) := by decide +kernel
theorem dL_law_562 : decode cL_law 562 = .ok (.iload 4, 2) := by decide +kernel
theorem dL_law_564 : decode cL_law 564 = .ok (.iconst 2, 1) := by decide +kernel
theorem dL_law_565 : decode cL_law 565 = .ok (.iadd, 1) := by decide +kernel
theorem dL_law_566 : decode cL_law 566 = .ok (.iaload, 1) := by decide +kernel
theorem dL_law_567 : decode cL_law 567 = .ok (.aload_n 0, 1) := by decide +kernel
theorem dL_law_568 : decode cL_law 568 = .ok (.iload 4, 2) := by decide +kernel
theorem dL_law_570 : decode cL_law 570 = .ok (.iconst 3, 1) := by decide +kernel
theorem dL_law_571 : decode cL_law 571 = .ok (.iadd, 1) := by decide +kernel
theorem dL_law_572 : decode cL_law 572 = .ok (.iaload, 1) := by decide +kernel
theorem dL_law_573 : decode cL_law 573 = .ok (.invokevirtual 67, 3) := by decide +kernel
theorem dL_law_576 : decode cL_law 576 = .ok (.aload_n 2, 1) := by decide +kernel
theorem dL_law_577 : decode cL_law 577 = .ok (.aload_n 0, 1) := by decide +kernel
theorem dL_law_578 : decode cL_law 578 = .ok (.iload 4, 2) := by decide +kernel
theorem dL_law_580 : decode cL_law 580 = .ok (.iconst 1, 1) := by decide +kernel
theorem dL_law_581 : decode cL_law 581 = .ok (.iadd, 1) := by decide +kernel
theorem dL_law_582 : decode cL_law 582 = .ok (.iaload, 1) := by decide +kernel
theorem dL_law_583 : decode cL_law 583 = .ok (.aload_n 0, 1) := by decide +kernel
theorem dL_law_584 : decode cL_law 584 = .ok (.iload 4, 2) := by decide +kernel
theorem dL_law_586 : decode cL_law 586 = .ok (.iconst 2, 1) := by decide +kernel
theorem dL_law_587 : decode cL_law 587 = .ok (.iadd, 1) := by decide +kernel
theorem dL_law_588 : decode cL_law 588 = .ok (.iaload, 1) := by decide +kernel
theorem dL_law_589 : decode cL_law 589 = .ok (.aload_n 0, 1) := by decide +kernel
theorem dL_law_590 : decode cL_law 590 = .ok (.iload 4, 2) := by decide +kernel
theorem dL_law_592 : decode cL_law 592 = .ok (.iconst 3, 1) := by decide +kernel
theorem dL_law_593 : decode cL_law 593 = .ok (.iadd, 1) := by decide +kernel
theorem dL_law_594 : decode cL_law 594 = .ok (.iaload, 1) := by decide +kernel
theorem dL_law_595 : decode cL_law 595 = .ok (.invokevirtual 71, 3) := by decide +kernel
theorem dL_law_598 : decode cL_law 598 = .ok (.if_icmp .eq 1067, 3) := by decide +kernel
theorem dL_law_603 : decode cL_law 603 = .ok (.aload_n 1, 1) := by decide +kernel
theorem dL_law_604 : decode cL_law 604 = .ok (.aload_n 0, 1) := by decide +kernel
theorem dL_law_605 : decode cL_law 605 = .ok (.iload 4, 2) := by decide +kernel
theorem dL_law_607 : decode cL_law 607 = .ok (.iconst 1, 1) := by decide +kernel
theorem dL_law_608 : decode cL_law 608 = .ok (.iadd, 1) := by decide +kernel
theorem dL_law_609 : decode cL_law 609 = .ok (.iaload, 1) := by decide +kernel
theorem dL_law_610 : decode cL_law 610 = .ok (.invokevirtual 72, 3) := by decide +kernel
theorem dL_law_613 : decode cL_law 613 = .ok (.aload_n 2, 1) := by decide +kernel
theorem dL_law_614 : decode cL_law 614 = .ok (.aload_n 0, 1) := by decide +kernel
theorem dL_law_615 : decode cL_law 615 = .ok (.iload 4, 2) := by decide +kernel
theorem dL_law_617 : decode cL_law 617 = .ok (.iconst 1, 1) := by decide +kernel
theorem dL_law_618 : decode cL_law 618 = .ok (.iadd, 1) := by decide +kernel
theorem dL_law_619 : decode cL_law 619 = .ok (.iaload, 1) := by decide +kernel
theorem dL_law_620 : decode cL_law 620 = .ok (.invokevirtual 75, 3) := by decide +kernel
theorem dL_law_623 : decode cL_law 623 = .ok (.if_icmp .eq 1042, 3) := by decide +kernel
theorem dL_law_628 : decode cL_law 628 = .ok (.aload_n 1, 1) := by decide +kernel
theorem dL_law_629 : decode cL_law 629 = .ok (.invokevirtual 76, 3) := by decide +kernel
theorem dL_law_632 : decode cL_law 632 = .ok (.aload_n 2, 1) := by decide +kernel
theorem dL_law_633 : decode cL_law 633 = .ok (.invokevirtual 79, 3) := by decide +kernel
theorem dL_law_636 : decode cL_law 636 = .ok (.if_icmp .eq 1029, 3) := by decide +kernel
theorem dL_law_641 : decode cL_law 641 = .ok (.aload_n 1, 1) := by decide +kernel
theorem dL_law_642 : decode cL_law 642 = .ok (.aload_n 0, 1) := by decide +kernel
theorem dL_law_643 : decode cL_law 643 = .ok (.iload 4, 2) := by decide +kernel
theorem dL_law_645 : decode cL_law 645 = .ok (.iconst 1, 1) := by decide +kernel
theorem dL_law_646 : decode cL_law 646 = .ok (.iadd, 1) := by decide +kernel
theorem dL_law_647 : decode cL_law 647 = .ok (.iaload, 1) := by decide +kernel
theorem dL_law_648 : decode cL_law 648 = .ok (.invokevirtual 80, 3) := by decide +kernel
theorem dL_law_651 : decode cL_law 651 = .ok (.aload_n 2, 1) := by decide +kernel
theorem dL_law_652 : decode cL_law 652 = .ok (.aload_n 0, 1) := by decide +kernel
theorem dL_law_653 : decode cL_law 653 = .ok (.iload 4, 2) := by decide +kernel
theorem dL_law_655 : decode cL_law 655 = .ok (.iconst 1, 1) := by decide +kernel
theorem dL_law_656 : decode cL_law 656 = .ok (.iadd, 1) := by decide +kernel
theorem dL_law_657 : decode cL_law 657 = .ok (.iaload, 1) := by decide +kernel
theorem dL_law_658 : decode cL_law 658 = .ok (.invokevirtual 83, 3) := by decide +kernel
theorem dL_law_661 : decode cL_law 661 = .ok (.if_icmp .eq 1004, 3) := by decide +kernel
theorem dL_law_666 : decode cL_law 666 = .ok (.aload_n 1, 1) := by decide +kernel
theorem dL_law_667 : decode cL_law 667 = .ok (.aload_n 0, 1) := by decide +kernel
theorem dL_law_668 : decode cL_law 668 = .ok (.iload 4, 2) := by decide +kernel
theorem dL_law_670 : decode cL_law 670 = .ok (.iconst 1, 1) := by decide +kernel
theorem dL_law_671 : decode cL_law 671 = .ok (.iadd, 1) := by decide +kernel
theorem dL_law_672 : decode cL_law 672 = .ok (.iaload, 1) := by decide +kernel
theorem dL_law_673 : decode cL_law 673 = .ok (.invokevirtual 84, 3) := by decide +kernel
theorem dL_law_676 : decode cL_law 676 = .ok (.aload_n 2, 1) := by decide +kernel
theorem dL_law_677 : decode cL_law 677 = .ok (.aload_n 0, 1) := by decide +kernel
theorem dL_law_678 : decode cL_law 678 = .ok (.iload 4, 2) := by decide +kernel
theorem dL_law_680 : decode cL_law 680 = .ok (.iconst 1, 1) := by decide +kernel
theorem dL_law_681 : decode cL_law 681 = .ok (.iadd, 1) := by decide +kernel
theorem dL_law_682 : decode cL_law 682 = .ok (.iaload, 1) := by decide +kernel
theorem dL_law_683 : decode cL_law 683 = .ok (.invokevirtual 87, 3) := by decide +kernel
theorem dL_law_686 : decode cL_law 686 = .ok (.if_icmp .eq 979, 3) := by decide +kernel
theorem dL_law_691 : decode cL_law 691 = .ok (.aload_n 1, 1) := by decide +kernel
theorem dL_law_692 : decode cL_law 692 = .ok (.aload_n 0, 1) := by decide +kernel
theorem dL_law_693 : decode cL_law 693 = .ok (.iload 4, 2) := by decide +kernel
theorem dL_law_695 : decode cL_law 695 = .ok (.iconst 1, 1) := by decide +kernel
theorem dL_law_696 : decode cL_law 696 = .ok (.iadd, 1) := by decide +kernel
theorem dL_law_697 : decode cL_law 697 = .ok (.iaload, 1) := by decide +kernel
theorem dL_law_698 : decode cL_law 698 = .ok (.aload_n 0, 1) := by decide +kernel
theorem dL_law_699 : decode cL_law 699 = .ok (.iload 4, 2) := by decide +kernel
theorem dL_law_701 : decode cL_law 701 = .ok (.iconst 2, 1) := by decide +kernel
theorem dL_law_702 : decode cL_law 702 = .ok (.iadd, 1) := by decide +kernel
theorem dL_law_703 : decode cL_law 703 = .ok (.iaload, 1) := by decide +kernel
theorem dL_law_704 : decode cL_law 704 = .ok (.invokevirtual 88, 3) := by decide +kernel
theorem dL_law_707 : decode cL_law 707 = .ok (.aload_n 2, 1) := by decide +kernel
theorem dL_law_708 : decode cL_law 708 = .ok (.aload_n 0, 1) := by decide +kernel
theorem dL_law_709 : decode cL_law 709 = .ok (.iload 4, 2) := by decide +kernel
theorem dL_law_711 : decode cL_law 711 = .ok (.iconst 1, 1) := by decide +kernel
theorem dL_law_712 : decode cL_law 712 = .ok (.iadd, 1) := by decide +kernel
theorem dL_law_713 : decode cL_law 713 = .ok (.iaload, 1) := by decide +kernel
theorem dL_law_714 : decode cL_law 714 = .ok (.aload_n 0, 1) := by decide +kernel
theorem dL_law_715 : decode cL_law 715 = .ok (.iload 4, 2) := by decide +kernel
theorem dL_law_717 : decode cL_law 717 = .ok (.iconst 2, 1) := by decide +kernel
theorem dL_law_718 : decode cL_law 718 = .ok (.iadd, 1) := by decide +kernel
theorem dL_law_719 : decode cL_law 719 = .ok (.iaload, 1) := by decide +kernel
theorem dL_law_720 : decode cL_law 720 = .ok (.invokevirtual 91, 3) := by decide +kernel
theorem dL_law_723 : decode cL_law 723 = .ok (.if_icmp .eq 942, 3) := by decide +kernel
set_option maxHeartbeats 4000000 in
set_option maxRecDepth 100000 in
theorem lc_1 {p : Program} {l : Launch} {e : Env} {s : State} {m : MethodId} {below : List Frame} {meth : Method} {c : Code} (hflags : l.flags = flags0) {b : Nat} {xs : Nat → Int32} (C0 : lw_At p s m meth c b 6 xs) {E : EE} (hK : va_K E.1 vwCl (TY E) s) (hN : NX s) {A : Nat → Prop} (hAe : (fun q : Nat => s.heap.size ≤ q) = A) (hZ : ZM A s s.heap) {x t rd sc n tr kp bk kb hi dr rf b1 r1 r2 r3 s1 s2 n1 n2 n3 n4 v1 mo m_tape m_readPlace m_script m_scriptLong m_now m_refused m_shareX m_shareY m_askedRow m_kept m_aside m_spelled m_image o : Nat} {H : Heap} {locs : List Loc} (hP : va_P E.1 vwCl [(x, .inr (8, [.ref t, .ref rd, .ref sc, .ref n, .ref tr, .ref kp, .ref bk, .ref kb, .ref hi, .ref dr, .ref rf, .int 0])), (t, .inr (7, [.ref b1, .int 0])), (b1, .inl (E.2.2.1, 320, .inl (fun _ => 0))), (rd, .inr (4, [.ref t, .ref r1, .ref r2, .ref r3, .int 0, .int 0, .int 0, .int 0, .int 0, .int 0, .int (-1)])), (r1, .inl (E.2.1, 3, .inl (fun _ => 0))), (sc, .inr (5, [.ref s1, .ref s2, .int 0])), (n, .inr (6, [.ref n1, .ref n2, .int 0, .int 0, .ref n3, .ref n4])), (n1, .inl (E.2.1, 81, .inl (fun _ => 0))), (hi, .inr (3, [.ref v1, .int 0, .int 0])), (rf, .inl (E.2.1, 3, .inl (fun _ => 0))), (mo, .inr (9, [.int 0, .ref m_tape, .int 0, .int 0, .int 0, .int 0, .int 0, .int 0, .long 0, .int 0, .int 0, .int 0, .int 0, .ref m_readPlace, .ref m_script, .ref m_scriptLong, .int 0, .ref m_now, .ref m_refused, .int 0, .ref m_shareX, .ref m_shareY, .int 0, .int 0, .ref m_askedRow, .int 0, .ref m_kept, .int 0, .long 0, .ref m_aside, .int 0, .int 0, .ref m_spelled, .int 0, .ref m_image, .int 0])), (m_tape, .inl (E.2.1, 320, .inl (fun _ => 0))), (m_scriptLong, .inl (E.2.1, 5, .inl (fun _ => 0))), (m_now, .inl (E.2.1, 265, .inl (fun _ => 0))), (m_refused, .inl (E.2.1, 3, .inl (fun _ => 0))), (o, .inl (E.2.2.2, 1, .inr (.inl (fun _ => 0))))] H) (hD : va_D A [(x, .inr (8, [.ref t, .ref rd, .ref sc, .ref n, .ref tr, .ref kp, .ref bk, .ref kb, .ref hi, .ref dr, .ref rf, .int 0])), (t, .inr (7, [.ref b1, .int 0])), (b1, .inl (E.2.2.1, 320, .inl (fun _ => 0))), (rd, .inr (4, [.ref t, .ref r1, .ref r2, .ref r3, .int 0, .int 0, .int 0, .int 0, .int 0, .int 0, .int (-1)])), (r1, .inl (E.2.1, 3, .inl (fun _ => 0))), (sc, .inr (5, [.ref s1, .ref s2, .int 0])), (n, .inr (6, [.ref n1, .ref n2, .int 0, .int 0, .ref n3, .ref n4])), (n1, .inl (E.2.1, 81, .inl (fun _ => 0))), (hi, .inr (3, [.ref v1, .int 0, .int 0])), (rf, .inl (E.2.1, 3, .inl (fun _ => 0))), (mo, .inr (9, [.int 0, .ref m_tape, .int 0, .int 0, .int 0, .int 0, .int 0, .int 0, .long 0, .int 0, .int 0, .int 0, .int 0, .ref m_readPlace, .ref m_script, .ref m_scriptLong, .int 0, .ref m_now, .ref m_refused, .int 0, .ref m_shareX, .ref m_shareY, .int 0, .int 0, .ref m_askedRow, .int 0, .ref m_kept, .int 0, .long 0, .ref m_aside, .int 0, .int 0, .ref m_spelled, .int 0, .ref m_image, .int 0])), (m_tape, .inl (E.2.1, 320, .inl (fun _ => 0))), (m_scriptLong, .inl (E.2.1, 5, .inl (fun _ => 0))), (m_now, .inl (E.2.1, 265, .inl (fun _ => 0))), (m_refused, .inl (E.2.1, 3, .inl (fun _ => 0))), (o, .inl (E.2.2.2, 1, .inr (.inl (fun _ => 0))))]) (hS : va_S A s.heap H locs) {ls : Array Slot} (hl : lv_has ls 7 [(0, .ref b), (1, .ref x), (2, .ref mo), (3, .ref o), (4, .int 0)]) : W p l e room_1 s m #[Value.ref b] below meth c H locs 1000 100000 (lw_Z below #[Value.ref b] s) (F0 m 285 ls []) := by
  obtain ⟨hx, hb, hr, hml, hown, hts, hX, hbl, hlocks, hgv⟩ := id C0
  have hown : s.vm.findClass RL = some m.cls := hown
  have hA : ∀ q : Nat, s.heap.size ≤ q → A q := fun q h => by rw [← hAe]; exact h
  have hbA : ¬ A b := by rw [← hAe]; exact Nat.not_le.mpr hbl
  refine lv_aload_n hx hb dL_law_285 rfl (lv_at hl 1 rfl) ?_
  refine lv_aload_n hx hb dL_law_286 rfl (lv_at hl 0 rfl) ?_
  refine lv_iload hx hb dL_law_287 (lv_at hl 4 rfl) ?_
  refine lv_iconst (v := 1) hx hb dL_law_289 (by decide) ?_
  refine lv_iadd hx hb dL_law_290 ?_
  refine lv_topi (fun z_1 ez_1 => ?_)
  obtain rfl : z_1 = 1 := ez_1.trans (by decide)
  refine va_sld hx hb hX hbl hbA hS (vin rfl) dL_law_291 ?_
  refine W.eq (g2 := F0 m 292 ls [.int (xs 1), .ref x]) rfl ?_
  have hPc := hP.sub (ws' := [(x, .inr (8, [.ref t, .ref rd, .ref sc, .ref n, .ref tr, .ref kp, .ref bk, .ref kb, .ref hi, .ref dr, .ref rf, .int 0])), (t, .inr (7, [.ref b1, .int 0]))]) [0, 1] rfl
  have hDc := hD.sub (ws' := [(x, .inr (8, [.ref t, .ref rd, .ref sc, .ref n, .ref tr, .ref kp, .ref bk, .ref kb, .ref hi, .ref dr, .ref rf, .int 0])), (t, .inr (7, [.ref b1, .int 0]))]) [0, 1] (by decide) rfl
  have hFc := va_free (wc := [(x, .inr (8, [.ref t, .ref rd, .ref sc, .ref n, .ref tr, .ref kp, .ref bk, .ref kb, .ref hi, .ref dr, .ref rf, .int 0])), (t, .inr (7, [.ref b1, .int 0]))]) hD hS hA [0, 1] rfl
  refine va_calli (va_runV (As := [.int (xs 1)]) (rest := []) ⟨hx, hb, hml, hown, hts⟩ (c_end l E H.size x t rd sc n tr kp bk kb hi dr rf b1 (xs 1)) (cwV 1 hts gl_c_end_24 rfl rfl rfl (by decide +kernel) ⟨Nat.le_of_ble_eq_true rfl, Nat.le_of_ble_eq_true rfl⟩) ⟨pW.blind, va_recv hK hPc (ci := 8) (q0 := 0) rfl rfl, (pW.pre ⟨hK, hN⟩ hPc hDc)⟩ rfl rfl hl.1 rfl (lv_room (Nat.le_of_ble_eq_true rfl)) dL_law_292 ⟨Nat.le_of_ble_eq_true rfl, Nat.le_of_ble_eq_true rfl⟩) hS (fun q _ h => hFc q h) hFc (fun r_2 u tt H1 locs ht hvm hw hB hz1 hk1 hS => ?_)
  obtain ⟨hP1, hD1⟩ := hB
  rw [ht] at hP1
  obtain ⟨hP, hD⟩ := va_join (wr := [(b1, .inl (E.2.2.1, 320, .inl (fun _ => 0))), (rd, .inr (4, [.ref t, .ref r1, .ref r2, .ref r3, .int 0, .int 0, .int 0, .int 0, .int 0, .int 0, .int (-1)])), (r1, .inl (E.2.1, 3, .inl (fun _ => 0))), (sc, .inr (5, [.ref s1, .ref s2, .int 0])), (n, .inr (6, [.ref n1, .ref n2, .int 0, .int 0, .ref n3, .ref n4])), (n1, .inl (E.2.1, 81, .inl (fun _ => 0))), (hi, .inr (3, [.ref v1, .int 0, .int 0])), (rf, .inl (E.2.1, 3, .inl (fun _ => 0))), (mo, .inr (9, [.int 0, .ref m_tape, .int 0, .int 0, .int 0, .int 0, .int 0, .int 0, .long 0, .int 0, .int 0, .int 0, .int 0, .ref m_readPlace, .ref m_script, .ref m_scriptLong, .int 0, .ref m_now, .ref m_refused, .int 0, .ref m_shareX, .ref m_shareY, .int 0, .int 0, .ref m_askedRow, .int 0, .ref m_kept, .int 0, .long 0, .ref m_aside, .int 0, .int 0, .ref m_spelled, .int 0, .ref m_image, .int 0])), (m_tape, .inl (E.2.1, 320, .inl (fun _ => 0))), (m_scriptLong, .inl (E.2.1, 5, .inl (fun _ => 0))), (m_now, .inl (E.2.1, 265, .inl (fun _ => 0))), (m_refused, .inl (E.2.1, 3, .inl (fun _ => 0))), (o, .inl (E.2.2.2, 1, .inr (.inl (fun _ => 0))))]) (w1 := []) hP hD [0, 1] [2, 3, 4, 5, 6, 7, 8, 9, 10, 11, 12, 13, 14, 15] rfl rfl (by decide) (by decide) hk1 hFc hP1 hD1
  generalize H1 = H at hP hS ⊢
  have hP : va_P E.1 vwCl [(b1, .inl (E.2.2.1, 320, .inl (fun _ => 0))), (rd, .inr (4, [.ref t, .ref r1, .ref r2, .ref r3, .int 0, .int 0, .int 0, .int 0, .int 0, .int 0, .int (-1)])), (r1, .inl (E.2.1, 3, .inl (fun _ => 0))), (sc, .inr (5, [.ref s1, .ref s2, .int 0])), (n, .inr (6, [.ref n1, .ref n2, .int 0, .int 0, .ref n3, .ref n4])), (n1, .inl (E.2.1, 81, .inl (fun _ => 0))), (hi, .inr (3, [.ref v1, .int 0, .int 0])), (rf, .inl (E.2.1, 3, .inl (fun _ => 0))), (mo, .inr (9, [.int 0, .ref m_tape, .int 0, .int 0, .int 0, .int 0, .int 0, .int 0, .long 0, .int 0, .int 0, .int 0, .int 0, .ref m_readPlace, .ref m_script, .ref m_scriptLong, .int 0, .ref m_now, .ref m_refused, .int 0, .ref m_shareX, .ref m_shareY, .int 0, .int 0, .ref m_askedRow, .int 0, .ref m_kept, .int 0, .long 0, .ref m_aside, .int 0, .int 0, .ref m_spelled, .int 0, .ref m_image, .int 0])), (m_tape, .inl (E.2.1, 320, .inl (fun _ => 0))), (m_scriptLong, .inl (E.2.1, 5, .inl (fun _ => 0))), (m_now, .inl (E.2.1, 265, .inl (fun _ => 0))), (m_refused, .inl (E.2.1, 3, .inl (fun _ => 0))), (o, .inl (E.2.2.2, 1, .inr (.inl (fun _ => 0))))] H := hP
  have hD : va_D A [(b1, .inl (E.2.2.1, 320, .inl (fun _ => 0))), (rd, .inr (4, [.ref t, .ref r1, .ref r2, .ref r3, .int 0, .int 0, .int 0, .int 0, .int 0, .int 0, .int (-1)])), (r1, .inl (E.2.1, 3, .inl (fun _ => 0))), (sc, .inr (5, [.ref s1, .ref s2, .int 0])), (n, .inr (6, [.ref n1, .ref n2, .int 0, .int 0, .ref n3, .ref n4])), (n1, .inl (E.2.1, 81, .inl (fun _ => 0))), (hi, .inr (3, [.ref v1, .int 0, .int 0])), (rf, .inl (E.2.1, 3, .inl (fun _ => 0))), (mo, .inr (9, [.int 0, .ref m_tape, .int 0, .int 0, .int 0, .int 0, .int 0, .int 0, .long 0, .int 0, .int 0, .int 0, .int 0, .ref m_readPlace, .ref m_script, .ref m_scriptLong, .int 0, .ref m_now, .ref m_refused, .int 0, .ref m_shareX, .ref m_shareY, .int 0, .int 0, .ref m_askedRow, .int 0, .ref m_kept, .int 0, .long 0, .ref m_aside, .int 0, .int 0, .ref m_spelled, .int 0, .ref m_image, .int 0])), (m_tape, .inl (E.2.1, 320, .inl (fun _ => 0))), (m_scriptLong, .inl (E.2.1, 5, .inl (fun _ => 0))), (m_now, .inl (E.2.1, 265, .inl (fun _ => 0))), (m_refused, .inl (E.2.1, 3, .inl (fun _ => 0))), (o, .inl (E.2.2.2, 1, .inr (.inl (fun _ => 0))))] := hD
  have hr_2 := hw
  refine lv_aload_n hx hb dL_law_295 rfl (lv_at hl 2 rfl) ?_
  refine lv_aload_n hx hb dL_law_296 rfl (lv_at hl 0 rfl) ?_
  refine lv_iload hx hb dL_law_297 (lv_at hl 4 rfl) ?_
  refine lv_iconst (v := 1) hx hb dL_law_299 (by decide) ?_
  refine lv_iadd hx hb dL_law_300 ?_
  refine lv_topi (fun z_3 ez_3 => ?_)
  obtain rfl : z_3 = 1 := ez_3.trans (by decide)
  refine va_sld hx hb hX hbl hbA hS (vin rfl) dL_law_301 ?_
  refine W.eq (g2 := F0 m 302 ls [.int (xs 1), .ref mo, .int r_2]) rfl ?_
  have hPc := hP.sub (ws' := [(mo, .inr (9, [.int 0, .ref m_tape, .int 0, .int 0, .int 0, .int 0, .int 0, .int 0, .long 0, .int 0, .int 0, .int 0, .int 0, .ref m_readPlace, .ref m_script, .ref m_scriptLong, .int 0, .ref m_now, .ref m_refused, .int 0, .ref m_shareX, .ref m_shareY, .int 0, .int 0, .ref m_askedRow, .int 0, .ref m_kept, .int 0, .long 0, .ref m_aside, .int 0, .int 0, .ref m_spelled, .int 0, .ref m_image, .int 0]))]) [8] rfl
  have hDc := hD.sub (ws' := [(mo, .inr (9, [.int 0, .ref m_tape, .int 0, .int 0, .int 0, .int 0, .int 0, .int 0, .long 0, .int 0, .int 0, .int 0, .int 0, .ref m_readPlace, .ref m_script, .ref m_scriptLong, .int 0, .ref m_now, .ref m_refused, .int 0, .ref m_shareX, .ref m_shareY, .int 0, .int 0, .ref m_askedRow, .int 0, .ref m_kept, .int 0, .long 0, .ref m_aside, .int 0, .int 0, .ref m_spelled, .int 0, .ref m_image, .int 0]))]) [8] (by decide) rfl
  have hFc := va_free (wc := [(mo, .inr (9, [.int 0, .ref m_tape, .int 0, .int 0, .int 0, .int 0, .int 0, .int 0, .long 0, .int 0, .int 0, .int 0, .int 0, .ref m_readPlace, .ref m_script, .ref m_scriptLong, .int 0, .ref m_now, .ref m_refused, .int 0, .ref m_shareX, .ref m_shareY, .int 0, .int 0, .ref m_askedRow, .int 0, .ref m_kept, .int 0, .long 0, .ref m_aside, .int 0, .int 0, .ref m_spelled, .int 0, .ref m_image, .int 0]))]) hD hS hA [8] rfl
  refine va_calli (va_runV (As := [.int (xs 1)]) (rest := [.int r_2]) ⟨hx, hb, hml, hown, hts⟩ (d_end l E H.size mo m_tape m_readPlace m_script m_scriptLong m_now m_refused m_shareX m_shareY m_askedRow m_kept m_aside m_spelled m_image (xs 1)) (cwV 1 hts gl_d_end_28 rfl rfl rfl (by decide +kernel) ⟨Nat.le_of_ble_eq_true rfl, Nat.le_of_ble_eq_true rfl⟩) ⟨pW.blind, va_recv hK hPc (ci := 9) (q0 := 0) rfl rfl, (pW.pre ⟨hK, hN⟩ hPc hDc)⟩ rfl rfl hl.1 rfl (lv_room (Nat.le_of_ble_eq_true rfl)) dL_law_302 ⟨Nat.le_of_ble_eq_true rfl, Nat.le_of_ble_eq_true rfl⟩) hS (fun q _ h => hFc q h) hFc (fun r_4 u tt H1 locs ht hvm hw hB hz1 hk1 hS => ?_)
  obtain ⟨hP1, hD1⟩ := hB
  rw [ht] at hP1
  obtain ⟨hP, hD⟩ := va_join (wr := [(b1, .inl (E.2.2.1, 320, .inl (fun _ => 0))), (rd, .inr (4, [.ref t, .ref r1, .ref r2, .ref r3, .int 0, .int 0, .int 0, .int 0, .int 0, .int 0, .int (-1)])), (r1, .inl (E.2.1, 3, .inl (fun _ => 0))), (sc, .inr (5, [.ref s1, .ref s2, .int 0])), (n, .inr (6, [.ref n1, .ref n2, .int 0, .int 0, .ref n3, .ref n4])), (n1, .inl (E.2.1, 81, .inl (fun _ => 0))), (hi, .inr (3, [.ref v1, .int 0, .int 0])), (rf, .inl (E.2.1, 3, .inl (fun _ => 0))), (m_tape, .inl (E.2.1, 320, .inl (fun _ => 0))), (m_scriptLong, .inl (E.2.1, 5, .inl (fun _ => 0))), (m_now, .inl (E.2.1, 265, .inl (fun _ => 0))), (m_refused, .inl (E.2.1, 3, .inl (fun _ => 0))), (o, .inl (E.2.2.2, 1, .inr (.inl (fun _ => 0))))]) (w1 := []) hP hD [8] [0, 1, 2, 3, 4, 5, 6, 7, 9, 10, 11, 12, 13] rfl rfl (by decide) (by decide) hk1 hFc hP1 hD1
  generalize H1 = H at hP hS ⊢
  have hP : va_P E.1 vwCl [(b1, .inl (E.2.2.1, 320, .inl (fun _ => 0))), (rd, .inr (4, [.ref t, .ref r1, .ref r2, .ref r3, .int 0, .int 0, .int 0, .int 0, .int 0, .int 0, .int (-1)])), (r1, .inl (E.2.1, 3, .inl (fun _ => 0))), (sc, .inr (5, [.ref s1, .ref s2, .int 0])), (n, .inr (6, [.ref n1, .ref n2, .int 0, .int 0, .ref n3, .ref n4])), (n1, .inl (E.2.1, 81, .inl (fun _ => 0))), (hi, .inr (3, [.ref v1, .int 0, .int 0])), (rf, .inl (E.2.1, 3, .inl (fun _ => 0))), (m_tape, .inl (E.2.1, 320, .inl (fun _ => 0))), (m_scriptLong, .inl (E.2.1, 5, .inl (fun _ => 0))), (m_now, .inl (E.2.1, 265, .inl (fun _ => 0))), (m_refused, .inl (E.2.1, 3, .inl (fun _ => 0))), (o, .inl (E.2.2.2, 1, .inr (.inl (fun _ => 0))))] H := hP
  have hD : va_D A [(b1, .inl (E.2.2.1, 320, .inl (fun _ => 0))), (rd, .inr (4, [.ref t, .ref r1, .ref r2, .ref r3, .int 0, .int 0, .int 0, .int 0, .int 0, .int 0, .int (-1)])), (r1, .inl (E.2.1, 3, .inl (fun _ => 0))), (sc, .inr (5, [.ref s1, .ref s2, .int 0])), (n, .inr (6, [.ref n1, .ref n2, .int 0, .int 0, .ref n3, .ref n4])), (n1, .inl (E.2.1, 81, .inl (fun _ => 0))), (hi, .inr (3, [.ref v1, .int 0, .int 0])), (rf, .inl (E.2.1, 3, .inl (fun _ => 0))), (m_tape, .inl (E.2.1, 320, .inl (fun _ => 0))), (m_scriptLong, .inl (E.2.1, 5, .inl (fun _ => 0))), (m_now, .inl (E.2.1, 265, .inl (fun _ => 0))), (m_refused, .inl (E.2.1, 3, .inl (fun _ => 0))), (o, .inl (E.2.2.2, 1, .inr (.inl (fun _ => 0))))] := hD
  have hr_4 := hw
  refine lv_icmp_eq (tgt := 1665) hx hb dL_law_305 (by decide) (fun _ => ?_) (fun q => absurd (hr_2.trans hr_4.symm) q)
  exact law_end hflags C0 hAe hS (lv_sub hl [0, 4] rfl)

set_option maxHeartbeats 4000000 in
set_option maxRecDepth 100000 in
theorem lc_2 {p : Program} {l : Launch} {e : Env} {s : State} {m : MethodId} {below : List Frame} {meth : Method} {c : Code} (hflags : l.flags = flags0) {b : Nat} {xs : Nat → Int32} (C0 : lw_At p s m meth c b 6 xs) {E : EE} (hK : va_K E.1 vwCl (TY E) s) (hN : NX s) {A : Nat → Prop} (hAe : (fun q : Nat => s.heap.size ≤ q) = A) (hZ : ZM A s s.heap) {x t rd sc n tr kp bk kb hi dr rf b1 r1 r2 r3 s1 s2 n1 n2 n3 n4 v1 mo m_tape m_readPlace m_script m_scriptLong m_now m_refused m_shareX m_shareY m_askedRow m_kept m_aside m_spelled m_image o : Nat} {H : Heap} {locs : List Loc} (hP : va_P E.1 vwCl [(x, .inr (8, [.ref t, .ref rd, .ref sc, .ref n, .ref tr, .ref kp, .ref bk, .ref kb, .ref hi, .ref dr, .ref rf, .int 0])), (t, .inr (7, [.ref b1, .int 0])), (b1, .inl (E.2.2.1, 320, .inl (fun _ => 0))), (rd, .inr (4, [.ref t, .ref r1, .ref r2, .ref r3, .int 0, .int 0, .int 0, .int 0, .int 0, .int 0, .int (-1)])), (r1, .inl (E.2.1, 3, .inl (fun _ => 0))), (sc, .inr (5, [.ref s1, .ref s2, .int 0])), (n, .inr (6, [.ref n1, .ref n2, .int 0, .int 0, .ref n3, .ref n4])), (n1, .inl (E.2.1, 81, .inl (fun _ => 0))), (hi, .inr (3, [.ref v1, .int 0, .int 0])), (rf, .inl (E.2.1, 3, .inl (fun _ => 0))), (mo, .inr (9, [.int 0, .ref m_tape, .int 0, .int 0, .int 0, .int 0, .int 0, .int 0, .long 0, .int 0, .int 0, .int 0, .int 0, .ref m_readPlace, .ref m_script, .ref m_scriptLong, .int 0, .ref m_now, .ref m_refused, .int 0, .ref m_shareX, .ref m_shareY, .int 0, .int 0, .ref m_askedRow, .int 0, .ref m_kept, .int 0, .long 0, .ref m_aside, .int 0, .int 0, .ref m_spelled, .int 0, .ref m_image, .int 0])), (m_tape, .inl (E.2.1, 320, .inl (fun _ => 0))), (m_scriptLong, .inl (E.2.1, 5, .inl (fun _ => 0))), (m_now, .inl (E.2.1, 265, .inl (fun _ => 0))), (m_refused, .inl (E.2.1, 3, .inl (fun _ => 0))), (o, .inl (E.2.2.2, 1, .inr (.inl (fun _ => 0))))] H) (hD : va_D A [(x, .inr (8, [.ref t, .ref rd, .ref sc, .ref n, .ref tr, .ref kp, .ref bk, .ref kb, .ref hi, .ref dr, .ref rf, .int 0])), (t, .inr (7, [.ref b1, .int 0])), (b1, .inl (E.2.2.1, 320, .inl (fun _ => 0))), (rd, .inr (4, [.ref t, .ref r1, .ref r2, .ref r3, .int 0, .int 0, .int 0, .int 0, .int 0, .int 0, .int (-1)])), (r1, .inl (E.2.1, 3, .inl (fun _ => 0))), (sc, .inr (5, [.ref s1, .ref s2, .int 0])), (n, .inr (6, [.ref n1, .ref n2, .int 0, .int 0, .ref n3, .ref n4])), (n1, .inl (E.2.1, 81, .inl (fun _ => 0))), (hi, .inr (3, [.ref v1, .int 0, .int 0])), (rf, .inl (E.2.1, 3, .inl (fun _ => 0))), (mo, .inr (9, [.int 0, .ref m_tape, .int 0, .int 0, .int 0, .int 0, .int 0, .int 0, .long 0, .int 0, .int 0, .int 0, .int 0, .ref m_readPlace, .ref m_script, .ref m_scriptLong, .int 0, .ref m_now, .ref m_refused, .int 0, .ref m_shareX, .ref m_shareY, .int 0, .int 0, .ref m_askedRow, .int 0, .ref m_kept, .int 0, .long 0, .ref m_aside, .int 0, .int 0, .ref m_spelled, .int 0, .ref m_image, .int 0])), (m_tape, .inl (E.2.1, 320, .inl (fun _ => 0))), (m_scriptLong, .inl (E.2.1, 5, .inl (fun _ => 0))), (m_now, .inl (E.2.1, 265, .inl (fun _ => 0))), (m_refused, .inl (E.2.1, 3, .inl (fun _ => 0))), (o, .inl (E.2.2.2, 1, .inr (.inl (fun _ => 0))))]) (hS : va_S A s.heap H locs) {ls : Array Slot} (hl : lv_has ls 7 [(0, .ref b), (1, .ref x), (2, .ref mo), (3, .ref o), (4, .int 0)]) : W p l e room_1 s m #[Value.ref b] below meth c H locs 1000 100000 (lw_Z below #[Value.ref b] s) (F0 m 310 ls []) := by
  obtain ⟨hx, hb, hr, hml, hown, hts, hX, hbl, hlocks, hgv⟩ := id C0
  have hown : s.vm.findClass RL = some m.cls := hown
  have hA : ∀ q : Nat, s.heap.size ≤ q → A q := fun q h => by rw [← hAe]; exact h
  have hbA : ¬ A b := by rw [← hAe]; exact Nat.not_le.mpr hbl
  refine lv_aload_n hx hb dL_law_310 rfl (lv_at hl 1 rfl) ?_
  refine lv_aload_n hx hb dL_law_311 rfl (lv_at hl 0 rfl) ?_
  refine lv_iload hx hb dL_law_312 (lv_at hl 4 rfl) ?_
  refine lv_iconst (v := 1) hx hb dL_law_314 (by decide) ?_
  refine lv_iadd hx hb dL_law_315 ?_
  refine lv_topi (fun z_1 ez_1 => ?_)
  obtain rfl : z_1 = 1 := ez_1.trans (by decide)
  refine va_sld hx hb hX hbl hbA hS (vin rfl) dL_law_316 ?_
  refine W.eq (g2 := F0 m 317 ls [.int (xs 1), .ref x]) rfl ?_
  have hPc := hP.sub (ws' := [(x, .inr (8, [.ref t, .ref rd, .ref sc, .ref n, .ref tr, .ref kp, .ref bk, .ref kb, .ref hi, .ref dr, .ref rf, .int 0])), (rd, .inr (4, [.ref t, .ref r1, .ref r2, .ref r3, .int 0, .int 0, .int 0, .int 0, .int 0, .int 0, .int (-1)])), (r1, .inl (E.2.1, 3, .inl (fun _ => 0))), (t, .inr (7, [.ref b1, .int 0]))]) [0, 3, 4, 1] rfl
  have hDc := hD.sub (ws' := [(x, .inr (8, [.ref t, .ref rd, .ref sc, .ref n, .ref tr, .ref kp, .ref bk, .ref kb, .ref hi, .ref dr, .ref rf, .int 0])), (rd, .inr (4, [.ref t, .ref r1, .ref r2, .ref r3, .int 0, .int 0, .int 0, .int 0, .int 0, .int 0, .int (-1)])), (r1, .inl (E.2.1, 3, .inl (fun _ => 0))), (t, .inr (7, [.ref b1, .int 0]))]) [0, 3, 4, 1] (by decide) rfl
  have hFc := va_free (wc := [(x, .inr (8, [.ref t, .ref rd, .ref sc, .ref n, .ref tr, .ref kp, .ref bk, .ref kb, .ref hi, .ref dr, .ref rf, .int 0])), (rd, .inr (4, [.ref t, .ref r1, .ref r2, .ref r3, .int 0, .int 0, .int 0, .int 0, .int 0, .int 0, .int (-1)])), (r1, .inl (E.2.1, 3, .inl (fun _ => 0))), (t, .inr (7, [.ref b1, .int 0]))]) hD hS hA [0, 3, 4, 1] rfl
  refine va_calli (va_runV (As := [.int (xs 1)]) (rest := []) ⟨hx, hb, hml, hown, hts⟩ (c_fault l E H.size x t rd sc n tr kp bk kb hi dr rf b1 r1 r2 r3 (xs 1)) (cwV 1 hts gl_c_fault_29 rfl rfl rfl (by decide +kernel) ⟨Nat.le_of_ble_eq_true rfl, Nat.le_of_ble_eq_true rfl⟩) ⟨pW.blind, va_recv hK hPc (ci := 8) (q0 := 0) rfl rfl, (pW.pre ⟨hK, hN⟩ hPc hDc)⟩ rfl rfl hl.1 rfl (lv_room (Nat.le_of_ble_eq_true rfl)) dL_law_317 ⟨Nat.le_of_ble_eq_true rfl, Nat.le_of_ble_eq_true rfl⟩) hS (fun q _ h => hFc q h) hFc (fun r_2 u tt H1 locs ht hvm hw hB hz1 hk1 hS => ?_)
  obtain ⟨hP1, hD1⟩ := hB
  rw [ht] at hP1
  obtain ⟨hP, hD⟩ := va_join (wr := [(b1, .inl (E.2.2.1, 320, .inl (fun _ => 0))), (sc, .inr (5, [.ref s1, .ref s2, .int 0])), (n, .inr (6, [.ref n1, .ref n2, .int 0, .int 0, .ref n3, .ref n4])), (n1, .inl (E.2.1, 81, .inl (fun _ => 0))), (hi, .inr (3, [.ref v1, .int 0, .int 0])), (rf, .inl (E.2.1, 3, .inl (fun _ => 0))), (mo, .inr (9, [.int 0, .ref m_tape, .int 0, .int 0, .int 0, .int 0, .int 0, .int 0, .long 0, .int 0, .int 0, .int 0, .int 0, .ref m_readPlace, .ref m_script, .ref m_scriptLong, .int 0, .ref m_now, .ref m_refused, .int 0, .ref m_shareX, .ref m_shareY, .int 0, .int 0, .ref m_askedRow, .int 0, .ref m_kept, .int 0, .long 0, .ref m_aside, .int 0, .int 0, .ref m_spelled, .int 0, .ref m_image, .int 0])), (m_tape, .inl (E.2.1, 320, .inl (fun _ => 0))), (m_scriptLong, .inl (E.2.1, 5, .inl (fun _ => 0))), (m_now, .inl (E.2.1, 265, .inl (fun _ => 0))), (m_refused, .inl (E.2.1, 3, .inl (fun _ => 0))), (o, .inl (E.2.2.2, 1, .inr (.inl (fun _ => 0))))]) (w1 := []) hP hD [0, 3, 4, 1] [2, 5, 6, 7, 8, 9, 10, 11, 12, 13, 14, 15] rfl rfl (by decide) (by decide) hk1 hFc hP1 hD1
  generalize H1 = H at hP hS ⊢
  have hP : va_P E.1 vwCl [(b1, .inl (E.2.2.1, 320, .inl (fun _ => 0))), (sc, .inr (5, [.ref s1, .ref s2, .int 0])), (n, .inr (6, [.ref n1, .ref n2, .int 0, .int 0, .ref n3, .ref n4])), (n1, .inl (E.2.1, 81, .inl (fun _ => 0))), (hi, .inr (3, [.ref v1, .int 0, .int 0])), (rf, .inl (E.2.1, 3, .inl (fun _ => 0))), (mo, .inr (9, [.int 0, .ref m_tape, .int 0, .int 0, .int 0, .int 0, .int 0, .int 0, .long 0, .int 0, .int 0, .int 0, .int 0, .ref m_readPlace, .ref m_script, .ref m_scriptLong, .int 0, .ref m_now, .ref m_refused, .int 0, .ref m_shareX, .ref m_shareY, .int 0, .int 0, .ref m_askedRow, .int 0, .ref m_kept, .int 0, .long 0, .ref m_aside, .int 0, .int 0, .ref m_spelled, .int 0, .ref m_image, .int 0])), (m_tape, .inl (E.2.1, 320, .inl (fun _ => 0))), (m_scriptLong, .inl (E.2.1, 5, .inl (fun _ => 0))), (m_now, .inl (E.2.1, 265, .inl (fun _ => 0))), (m_refused, .inl (E.2.1, 3, .inl (fun _ => 0))), (o, .inl (E.2.2.2, 1, .inr (.inl (fun _ => 0))))] H := hP
  have hD : va_D A [(b1, .inl (E.2.2.1, 320, .inl (fun _ => 0))), (sc, .inr (5, [.ref s1, .ref s2, .int 0])), (n, .inr (6, [.ref n1, .ref n2, .int 0, .int 0, .ref n3, .ref n4])), (n1, .inl (E.2.1, 81, .inl (fun _ => 0))), (hi, .inr (3, [.ref v1, .int 0, .int 0])), (rf, .inl (E.2.1, 3, .inl (fun _ => 0))), (mo, .inr (9, [.int 0, .ref m_tape, .int 0, .int 0, .int 0, .int 0, .int 0, .int 0, .long 0, .int 0, .int 0, .int 0, .int 0, .ref m_readPlace, .ref m_script, .ref m_scriptLong, .int 0, .ref m_now, .ref m_refused, .int 0, .ref m_shareX, .ref m_shareY, .int 0, .int 0, .ref m_askedRow, .int 0, .ref m_kept, .int 0, .long 0, .ref m_aside, .int 0, .int 0, .ref m_spelled, .int 0, .ref m_image, .int 0])), (m_tape, .inl (E.2.1, 320, .inl (fun _ => 0))), (m_scriptLong, .inl (E.2.1, 5, .inl (fun _ => 0))), (m_now, .inl (E.2.1, 265, .inl (fun _ => 0))), (m_refused, .inl (E.2.1, 3, .inl (fun _ => 0))), (o, .inl (E.2.2.2, 1, .inr (.inl (fun _ => 0))))] := hD
  have hr_2 := hw
  refine lv_aload_n hx hb dL_law_320 rfl (lv_at hl 2 rfl) ?_
  refine lv_aload_n hx hb dL_law_321 rfl (lv_at hl 0 rfl) ?_
  refine lv_iload hx hb dL_law_322 (lv_at hl 4 rfl) ?_
  refine lv_iconst (v := 1) hx hb dL_law_324 (by decide) ?_
  refine lv_iadd hx hb dL_law_325 ?_
  refine lv_topi (fun z_3 ez_3 => ?_)
  obtain rfl : z_3 = 1 := ez_3.trans (by decide)
  refine va_sld hx hb hX hbl hbA hS (vin rfl) dL_law_326 ?_
  refine W.eq (g2 := F0 m 327 ls [.int (xs 1), .ref mo, .int r_2]) rfl ?_
  have hPc := hP.sub (ws' := [(mo, .inr (9, [.int 0, .ref m_tape, .int 0, .int 0, .int 0, .int 0, .int 0, .int 0, .long 0, .int 0, .int 0, .int 0, .int 0, .ref m_readPlace, .ref m_script, .ref m_scriptLong, .int 0, .ref m_now, .ref m_refused, .int 0, .ref m_shareX, .ref m_shareY, .int 0, .int 0, .ref m_askedRow, .int 0, .ref m_kept, .int 0, .long 0, .ref m_aside, .int 0, .int 0, .ref m_spelled, .int 0, .ref m_image, .int 0])), (m_scriptLong, .inl (E.2.1, 5, .inl (fun _ => 0)))]) [6, 8] rfl
  have hDc := hD.sub (ws' := [(mo, .inr (9, [.int 0, .ref m_tape, .int 0, .int 0, .int 0, .int 0, .int 0, .int 0, .long 0, .int 0, .int 0, .int 0, .int 0, .ref m_readPlace, .ref m_script, .ref m_scriptLong, .int 0, .ref m_now, .ref m_refused, .int 0, .ref m_shareX, .ref m_shareY, .int 0, .int 0, .ref m_askedRow, .int 0, .ref m_kept, .int 0, .long 0, .ref m_aside, .int 0, .int 0, .ref m_spelled, .int 0, .ref m_image, .int 0])), (m_scriptLong, .inl (E.2.1, 5, .inl (fun _ => 0)))]) [6, 8] (by decide) rfl
  have hFc := va_free (wc := [(mo, .inr (9, [.int 0, .ref m_tape, .int 0, .int 0, .int 0, .int 0, .int 0, .int 0, .long 0, .int 0, .int 0, .int 0, .int 0, .ref m_readPlace, .ref m_script, .ref m_scriptLong, .int 0, .ref m_now, .ref m_refused, .int 0, .ref m_shareX, .ref m_shareY, .int 0, .int 0, .ref m_askedRow, .int 0, .ref m_kept, .int 0, .long 0, .ref m_aside, .int 0, .int 0, .ref m_spelled, .int 0, .ref m_image, .int 0])), (m_scriptLong, .inl (E.2.1, 5, .inl (fun _ => 0)))]) hD hS hA [6, 8] rfl
  refine va_calli (va_runV (As := [.int (xs 1)]) (rest := [.int r_2]) ⟨hx, hb, hml, hown, hts⟩ (d_fault l E H.size mo m_tape m_readPlace m_script m_scriptLong m_now m_refused m_shareX m_shareY m_askedRow m_kept m_aside m_spelled m_image (xs 1)) (cwV 1 hts gl_d_fault_33 rfl rfl rfl (by decide +kernel) ⟨Nat.le_of_ble_eq_true rfl, Nat.le_of_ble_eq_true rfl⟩) ⟨pWZ.blind, va_recv hK hPc (ci := 9) (q0 := 0) rfl rfl, (pWZ.pre ⟨hK, hN⟩ hPc hDc hZ hS hFc)⟩ rfl rfl hl.1 rfl (lv_room (Nat.le_of_ble_eq_true rfl)) dL_law_327 ⟨Nat.le_of_ble_eq_true rfl, Nat.le_of_ble_eq_true rfl⟩) hS (fun q _ h => hFc q h) hFc (fun r_4 u tt H1 locs ht hvm hw hB hz1 hk1 hS => ?_)
  obtain ⟨hP1, hD1⟩ := hB
  rw [ht] at hP1
  obtain ⟨hP, hD⟩ := va_join (wr := [(b1, .inl (E.2.2.1, 320, .inl (fun _ => 0))), (sc, .inr (5, [.ref s1, .ref s2, .int 0])), (n, .inr (6, [.ref n1, .ref n2, .int 0, .int 0, .ref n3, .ref n4])), (n1, .inl (E.2.1, 81, .inl (fun _ => 0))), (hi, .inr (3, [.ref v1, .int 0, .int 0])), (rf, .inl (E.2.1, 3, .inl (fun _ => 0))), (m_tape, .inl (E.2.1, 320, .inl (fun _ => 0))), (m_now, .inl (E.2.1, 265, .inl (fun _ => 0))), (m_refused, .inl (E.2.1, 3, .inl (fun _ => 0))), (o, .inl (E.2.2.2, 1, .inr (.inl (fun _ => 0))))]) (w1 := []) hP hD [6, 8] [0, 1, 2, 3, 4, 5, 7, 9, 10, 11] rfl rfl (by decide) (by decide) hk1 hFc hP1 hD1
  generalize H1 = H at hP hS ⊢
  have hP : va_P E.1 vwCl [(b1, .inl (E.2.2.1, 320, .inl (fun _ => 0))), (sc, .inr (5, [.ref s1, .ref s2, .int 0])), (n, .inr (6, [.ref n1, .ref n2, .int 0, .int 0, .ref n3, .ref n4])), (n1, .inl (E.2.1, 81, .inl (fun _ => 0))), (hi, .inr (3, [.ref v1, .int 0, .int 0])), (rf, .inl (E.2.1, 3, .inl (fun _ => 0))), (m_tape, .inl (E.2.1, 320, .inl (fun _ => 0))), (m_now, .inl (E.2.1, 265, .inl (fun _ => 0))), (m_refused, .inl (E.2.1, 3, .inl (fun _ => 0))), (o, .inl (E.2.2.2, 1, .inr (.inl (fun _ => 0))))] H := hP
  have hD : va_D A [(b1, .inl (E.2.2.1, 320, .inl (fun _ => 0))), (sc, .inr (5, [.ref s1, .ref s2, .int 0])), (n, .inr (6, [.ref n1, .ref n2, .int 0, .int 0, .ref n3, .ref n4])), (n1, .inl (E.2.1, 81, .inl (fun _ => 0))), (hi, .inr (3, [.ref v1, .int 0, .int 0])), (rf, .inl (E.2.1, 3, .inl (fun _ => 0))), (m_tape, .inl (E.2.1, 320, .inl (fun _ => 0))), (m_now, .inl (E.2.1, 265, .inl (fun _ => 0))), (m_refused, .inl (E.2.1, 3, .inl (fun _ => 0))), (o, .inl (E.2.2.2, 1, .inr (.inl (fun _ => 0))))] := hD
  have hr_4 := hw
  refine lv_icmp_eq (tgt := 1665) hx hb dL_law_330 (by decide) (fun _ => ?_) (fun q => absurd (hr_2.trans hr_4.symm) q)
  exact law_end hflags C0 hAe hS (lv_sub hl [0, 4] rfl)

set_option maxHeartbeats 4000000 in
set_option maxRecDepth 100000 in
theorem lc_3 {p : Program} {l : Launch} {e : Env} {s : State} {m : MethodId} {below : List Frame} {meth : Method} {c : Code} (hflags : l.flags = flags0) {b : Nat} {xs : Nat → Int32} (C0 : lw_At p s m meth c b 6 xs) {E : EE} (hK : va_K E.1 vwCl (TY E) s) (hN : NX s) {A : Nat → Prop} (hAe : (fun q : Nat => s.heap.size ≤ q) = A) (hZ : ZM A s s.heap) {x t rd sc n tr kp bk kb hi dr rf b1 r1 r2 r3 s1 s2 n1 n2 n3 n4 v1 mo m_tape m_readPlace m_script m_scriptLong m_now m_refused m_shareX m_shareY m_askedRow m_kept m_aside m_spelled m_image o : Nat} {H : Heap} {locs : List Loc} (hP : va_P E.1 vwCl [(x, .inr (8, [.ref t, .ref rd, .ref sc, .ref n, .ref tr, .ref kp, .ref bk, .ref kb, .ref hi, .ref dr, .ref rf, .int 0])), (t, .inr (7, [.ref b1, .int 0])), (b1, .inl (E.2.2.1, 320, .inl (fun _ => 0))), (rd, .inr (4, [.ref t, .ref r1, .ref r2, .ref r3, .int 0, .int 0, .int 0, .int 0, .int 0, .int 0, .int (-1)])), (r1, .inl (E.2.1, 3, .inl (fun _ => 0))), (sc, .inr (5, [.ref s1, .ref s2, .int 0])), (n, .inr (6, [.ref n1, .ref n2, .int 0, .int 0, .ref n3, .ref n4])), (n1, .inl (E.2.1, 81, .inl (fun _ => 0))), (hi, .inr (3, [.ref v1, .int 0, .int 0])), (rf, .inl (E.2.1, 3, .inl (fun _ => 0))), (mo, .inr (9, [.int 0, .ref m_tape, .int 0, .int 0, .int 0, .int 0, .int 0, .int 0, .long 0, .int 0, .int 0, .int 0, .int 0, .ref m_readPlace, .ref m_script, .ref m_scriptLong, .int 0, .ref m_now, .ref m_refused, .int 0, .ref m_shareX, .ref m_shareY, .int 0, .int 0, .ref m_askedRow, .int 0, .ref m_kept, .int 0, .long 0, .ref m_aside, .int 0, .int 0, .ref m_spelled, .int 0, .ref m_image, .int 0])), (m_tape, .inl (E.2.1, 320, .inl (fun _ => 0))), (m_scriptLong, .inl (E.2.1, 5, .inl (fun _ => 0))), (m_now, .inl (E.2.1, 265, .inl (fun _ => 0))), (m_refused, .inl (E.2.1, 3, .inl (fun _ => 0))), (o, .inl (E.2.2.2, 1, .inr (.inl (fun _ => 0))))] H) (hD : va_D A [(x, .inr (8, [.ref t, .ref rd, .ref sc, .ref n, .ref tr, .ref kp, .ref bk, .ref kb, .ref hi, .ref dr, .ref rf, .int 0])), (t, .inr (7, [.ref b1, .int 0])), (b1, .inl (E.2.2.1, 320, .inl (fun _ => 0))), (rd, .inr (4, [.ref t, .ref r1, .ref r2, .ref r3, .int 0, .int 0, .int 0, .int 0, .int 0, .int 0, .int (-1)])), (r1, .inl (E.2.1, 3, .inl (fun _ => 0))), (sc, .inr (5, [.ref s1, .ref s2, .int 0])), (n, .inr (6, [.ref n1, .ref n2, .int 0, .int 0, .ref n3, .ref n4])), (n1, .inl (E.2.1, 81, .inl (fun _ => 0))), (hi, .inr (3, [.ref v1, .int 0, .int 0])), (rf, .inl (E.2.1, 3, .inl (fun _ => 0))), (mo, .inr (9, [.int 0, .ref m_tape, .int 0, .int 0, .int 0, .int 0, .int 0, .int 0, .long 0, .int 0, .int 0, .int 0, .int 0, .ref m_readPlace, .ref m_script, .ref m_scriptLong, .int 0, .ref m_now, .ref m_refused, .int 0, .ref m_shareX, .ref m_shareY, .int 0, .int 0, .ref m_askedRow, .int 0, .ref m_kept, .int 0, .long 0, .ref m_aside, .int 0, .int 0, .ref m_spelled, .int 0, .ref m_image, .int 0])), (m_tape, .inl (E.2.1, 320, .inl (fun _ => 0))), (m_scriptLong, .inl (E.2.1, 5, .inl (fun _ => 0))), (m_now, .inl (E.2.1, 265, .inl (fun _ => 0))), (m_refused, .inl (E.2.1, 3, .inl (fun _ => 0))), (o, .inl (E.2.2.2, 1, .inr (.inl (fun _ => 0))))]) (hS : va_S A s.heap H locs) {ls : Array Slot} (hl : lv_has ls 7 [(0, .ref b), (1, .ref x), (2, .ref mo), (3, .ref o), (4, .int 0)]) : W p l e room_1 s m #[Value.ref b] below meth c H locs 1000 100000 (lw_Z below #[Value.ref b] s) (F0 m 335 ls []) := by
  obtain ⟨hx, hb, hr, hml, hown, hts, hX, hbl, hlocks, hgv⟩ := id C0
  have hown : s.vm.findClass RL = some m.cls := hown
  have hA : ∀ q : Nat, s.heap.size ≤ q → A q := fun q h => by rw [← hAe]; exact h
  have hbA : ¬ A b := by rw [← hAe]; exact Nat.not_le.mpr hbl
  refine lv_aload_n hx hb dL_law_335 rfl (lv_at hl 1 rfl) ?_
  refine lv_aload_n hx hb dL_law_336 rfl (lv_at hl 0 rfl) ?_
  refine lv_iload hx hb dL_law_337 (lv_at hl 4 rfl) ?_
  refine lv_iconst (v := 1) hx hb dL_law_339 (by decide) ?_
  refine lv_iadd hx hb dL_law_340 ?_
  refine lv_topi (fun z_1 ez_1 => ?_)
  obtain rfl : z_1 = 1 := ez_1.trans (by decide)
  refine va_sld hx hb hX hbl hbA hS (vin rfl) dL_law_341 ?_
  refine W.eq (g2 := F0 m 342 ls [.int (xs 1), .ref x]) rfl ?_
  have hPc := hP.sub (ws' := [(x, .inr (8, [.ref t, .ref rd, .ref sc, .ref n, .ref tr, .ref kp, .ref bk, .ref kb, .ref hi, .ref dr, .ref rf, .int 0])), (rd, .inr (4, [.ref t, .ref r1, .ref r2, .ref r3, .int 0, .int 0, .int 0, .int 0, .int 0, .int 0, .int (-1)])), (r1, .inl (E.2.1, 3, .inl (fun _ => 0))), (t, .inr (7, [.ref b1, .int 0])), (sc, .inr (5, [.ref s1, .ref s2, .int 0]))]) [0, 3, 4, 1, 5] rfl
  have hDc := hD.sub (ws' := [(x, .inr (8, [.ref t, .ref rd, .ref sc, .ref n, .ref tr, .ref kp, .ref bk, .ref kb, .ref hi, .ref dr, .ref rf, .int 0])), (rd, .inr (4, [.ref t, .ref r1, .ref r2, .ref r3, .int 0, .int 0, .int 0, .int 0, .int 0, .int 0, .int (-1)])), (r1, .inl (E.2.1, 3, .inl (fun _ => 0))), (t, .inr (7, [.ref b1, .int 0])), (sc, .inr (5, [.ref s1, .ref s2, .int 0]))]) [0, 3, 4, 1, 5] (by decide) rfl
  have hFc := va_free (wc := [(x, .inr (8, [.ref t, .ref rd, .ref sc, .ref n, .ref tr, .ref kp, .ref bk, .ref kb, .ref hi, .ref dr, .ref rf, .int 0])), (rd, .inr (4, [.ref t, .ref r1, .ref r2, .ref r3, .int 0, .int 0, .int 0, .int 0, .int 0, .int 0, .int (-1)])), (r1, .inl (E.2.1, 3, .inl (fun _ => 0))), (t, .inr (7, [.ref b1, .int 0])), (sc, .inr (5, [.ref s1, .ref s2, .int 0]))]) hD hS hA [0, 3, 4, 1, 5] rfl
  refine va_calli (va_runV (As := [.int (xs 1)]) (rest := []) ⟨hx, hb, hml, hown, hts⟩ (c_text l E H.size x t rd sc n tr kp bk kb hi dr rf b1 r1 r2 r3 s1 s2 (xs 1)) (cwV 1 hts gl_c_text_34 rfl rfl rfl (by decide +kernel) ⟨Nat.le_of_ble_eq_true rfl, Nat.le_of_ble_eq_true rfl⟩) ⟨pW.blind, va_recv hK hPc (ci := 8) (q0 := 0) rfl rfl, (pW.pre ⟨hK, hN⟩ hPc hDc)⟩ rfl rfl hl.1 rfl (lv_room (Nat.le_of_ble_eq_true rfl)) dL_law_342 ⟨Nat.le_of_ble_eq_true rfl, Nat.le_of_ble_eq_true rfl⟩) hS (fun q _ h => hFc q h) hFc (fun r_2 u tt H1 locs ht hvm hw hB hz1 hk1 hS => ?_)
  obtain ⟨hP1, hD1⟩ := hB
  rw [ht] at hP1
  obtain ⟨hP, hD⟩ := va_join (wr := [(b1, .inl (E.2.2.1, 320, .inl (fun _ => 0))), (n, .inr (6, [.ref n1, .ref n2, .int 0, .int 0, .ref n3, .ref n4])), (n1, .inl (E.2.1, 81, .inl (fun _ => 0))), (hi, .inr (3, [.ref v1, .int 0, .int 0])), (rf, .inl (E.2.1, 3, .inl (fun _ => 0))), (mo, .inr (9, [.int 0, .ref m_tape, .int 0, .int 0, .int 0, .int 0, .int 0, .int 0, .long 0, .int 0, .int 0, .int 0, .int 0, .ref m_readPlace, .ref m_script, .ref m_scriptLong, .int 0, .ref m_now, .ref m_refused, .int 0, .ref m_shareX, .ref m_shareY, .int 0, .int 0, .ref m_askedRow, .int 0, .ref m_kept, .int 0, .long 0, .ref m_aside, .int 0, .int 0, .ref m_spelled, .int 0, .ref m_image, .int 0])), (m_tape, .inl (E.2.1, 320, .inl (fun _ => 0))), (m_scriptLong, .inl (E.2.1, 5, .inl (fun _ => 0))), (m_now, .inl (E.2.1, 265, .inl (fun _ => 0))), (m_refused, .inl (E.2.1, 3, .inl (fun _ => 0))), (o, .inl (E.2.2.2, 1, .inr (.inl (fun _ => 0))))]) (w1 := []) hP hD [0, 3, 4, 1, 5] [2, 6, 7, 8, 9, 10, 11, 12, 13, 14, 15] rfl rfl (by decide) (by decide) hk1 hFc hP1 hD1
  generalize H1 = H at hP hS ⊢
  have hP : va_P E.1 vwCl [(b1, .inl (E.2.2.1, 320, .inl (fun _ => 0))), (n, .inr (6, [.ref n1, .ref n2, .int 0, .int 0, .ref n3, .ref n4])), (n1, .inl (E.2.1, 81, .inl (fun _ => 0))), (hi, .inr (3, [.ref v1, .int 0, .int 0])), (rf, .inl (E.2.1, 3, .inl (fun _ => 0))), (mo, .inr (9, [.int 0, .ref m_tape, .int 0, .int 0, .int 0, .int 0, .int 0, .int 0, .long 0, .int 0, .int 0, .int 0, .int 0, .ref m_readPlace, .ref m_script, .ref m_scriptLong, .int 0, .ref m_now, .ref m_refused, .int 0, .ref m_shareX, .ref m_shareY, .int 0, .int 0, .ref m_askedRow, .int 0, .ref m_kept, .int 0, .long 0, .ref m_aside, .int 0, .int 0, .ref m_spelled, .int 0, .ref m_image, .int 0])), (m_tape, .inl (E.2.1, 320, .inl (fun _ => 0))), (m_scriptLong, .inl (E.2.1, 5, .inl (fun _ => 0))), (m_now, .inl (E.2.1, 265, .inl (fun _ => 0))), (m_refused, .inl (E.2.1, 3, .inl (fun _ => 0))), (o, .inl (E.2.2.2, 1, .inr (.inl (fun _ => 0))))] H := hP
  have hD : va_D A [(b1, .inl (E.2.2.1, 320, .inl (fun _ => 0))), (n, .inr (6, [.ref n1, .ref n2, .int 0, .int 0, .ref n3, .ref n4])), (n1, .inl (E.2.1, 81, .inl (fun _ => 0))), (hi, .inr (3, [.ref v1, .int 0, .int 0])), (rf, .inl (E.2.1, 3, .inl (fun _ => 0))), (mo, .inr (9, [.int 0, .ref m_tape, .int 0, .int 0, .int 0, .int 0, .int 0, .int 0, .long 0, .int 0, .int 0, .int 0, .int 0, .ref m_readPlace, .ref m_script, .ref m_scriptLong, .int 0, .ref m_now, .ref m_refused, .int 0, .ref m_shareX, .ref m_shareY, .int 0, .int 0, .ref m_askedRow, .int 0, .ref m_kept, .int 0, .long 0, .ref m_aside, .int 0, .int 0, .ref m_spelled, .int 0, .ref m_image, .int 0])), (m_tape, .inl (E.2.1, 320, .inl (fun _ => 0))), (m_scriptLong, .inl (E.2.1, 5, .inl (fun _ => 0))), (m_now, .inl (E.2.1, 265, .inl (fun _ => 0))), (m_refused, .inl (E.2.1, 3, .inl (fun _ => 0))), (o, .inl (E.2.2.2, 1, .inr (.inl (fun _ => 0))))] := hD
  have hr_2 := hw
  obtain rfl : r_2 = -1 := hr_2
  refine lv_aload_n hx hb dL_law_345 rfl (lv_at hl 2 rfl) ?_
  refine lv_aload_n hx hb dL_law_346 rfl (lv_at hl 0 rfl) ?_
  refine lv_iload hx hb dL_law_347 (lv_at hl 4 rfl) ?_
  refine lv_iconst (v := 1) hx hb dL_law_349 (by decide) ?_
  refine lv_iadd hx hb dL_law_350 ?_
  refine lv_topi (fun z_3 ez_3 => ?_)
  obtain rfl : z_3 = 1 := ez_3.trans (by decide)
  refine va_sld hx hb hX hbl hbA hS (vin rfl) dL_law_351 ?_
  refine W.eq (g2 := F0 m 352 ls [.int (xs 1), .ref mo, .int (-1)]) rfl ?_
  have hPc := hP.sub (ws' := [(mo, .inr (9, [.int 0, .ref m_tape, .int 0, .int 0, .int 0, .int 0, .int 0, .int 0, .long 0, .int 0, .int 0, .int 0, .int 0, .ref m_readPlace, .ref m_script, .ref m_scriptLong, .int 0, .ref m_now, .ref m_refused, .int 0, .ref m_shareX, .ref m_shareY, .int 0, .int 0, .ref m_askedRow, .int 0, .ref m_kept, .int 0, .long 0, .ref m_aside, .int 0, .int 0, .ref m_spelled, .int 0, .ref m_image, .int 0])), (m_scriptLong, .inl (E.2.1, 5, .inl (fun _ => 0)))]) [5, 7] rfl
  have hDc := hD.sub (ws' := [(mo, .inr (9, [.int 0, .ref m_tape, .int 0, .int 0, .int 0, .int 0, .int 0, .int 0, .long 0, .int 0, .int 0, .int 0, .int 0, .ref m_readPlace, .ref m_script, .ref m_scriptLong, .int 0, .ref m_now, .ref m_refused, .int 0, .ref m_shareX, .ref m_shareY, .int 0, .int 0, .ref m_askedRow, .int 0, .ref m_kept, .int 0, .long 0, .ref m_aside, .int 0, .int 0, .ref m_spelled, .int 0, .ref m_image, .int 0])), (m_scriptLong, .inl (E.2.1, 5, .inl (fun _ => 0)))]) [5, 7] (by decide) rfl
  have hFc := va_free (wc := [(mo, .inr (9, [.int 0, .ref m_tape, .int 0, .int 0, .int 0, .int 0, .int 0, .int 0, .long 0, .int 0, .int 0, .int 0, .int 0, .ref m_readPlace, .ref m_script, .ref m_scriptLong, .int 0, .ref m_now, .ref m_refused, .int 0, .ref m_shareX, .ref m_shareY, .int 0, .int 0, .ref m_askedRow, .int 0, .ref m_kept, .int 0, .long 0, .ref m_aside, .int 0, .int 0, .ref m_spelled, .int 0, .ref m_image, .int 0])), (m_scriptLong, .inl (E.2.1, 5, .inl (fun _ => 0)))]) hD hS hA [5, 7] rfl
  refine va_calli (va_runV (As := [.int (xs 1)]) (rest := [.int (-1)]) ⟨hx, hb, hml, hown, hts⟩ (d_text l E H.size mo m_tape m_readPlace m_script m_scriptLong m_now m_refused m_shareX m_shareY m_askedRow m_kept m_aside m_spelled m_image (xs 1)) (cwV 1 hts gl_d_text_37 rfl rfl rfl (by decide +kernel) ⟨Nat.le_of_ble_eq_true rfl, Nat.le_of_ble_eq_true rfl⟩) ⟨pWZ.blind, va_recv hK hPc (ci := 9) (q0 := 0) rfl rfl, (pWZ.pre ⟨hK, hN⟩ hPc hDc hZ hS hFc)⟩ rfl rfl hl.1 rfl (lv_room (Nat.le_of_ble_eq_true rfl)) dL_law_352 ⟨Nat.le_of_ble_eq_true rfl, Nat.le_of_ble_eq_true rfl⟩) hS (fun q _ h => hFc q h) hFc (fun r_4 u tt H1 locs ht hvm hw hB hz1 hk1 hS => ?_)
  obtain ⟨hP1, hD1⟩ := hB
  rw [ht] at hP1
  obtain ⟨hP, hD⟩ := va_join (wr := [(b1, .inl (E.2.2.1, 320, .inl (fun _ => 0))), (n, .inr (6, [.ref n1, .ref n2, .int 0, .int 0, .ref n3, .ref n4])), (n1, .inl (E.2.1, 81, .inl (fun _ => 0))), (hi, .inr (3, [.ref v1, .int 0, .int 0])), (rf, .inl (E.2.1, 3, .inl (fun _ => 0))), (m_tape, .inl (E.2.1, 320, .inl (fun _ => 0))), (m_now, .inl (E.2.1, 265, .inl (fun _ => 0))), (m_refused, .inl (E.2.1, 3, .inl (fun _ => 0))), (o, .inl (E.2.2.2, 1, .inr (.inl (fun _ => 0))))]) (w1 := []) hP hD [5, 7] [0, 1, 2, 3, 4, 6, 8, 9, 10] rfl rfl (by decide) (by decide) hk1 hFc hP1 hD1
  generalize H1 = H at hP hS ⊢
  have hP : va_P E.1 vwCl [(b1, .inl (E.2.2.1, 320, .inl (fun _ => 0))), (n, .inr (6, [.ref n1, .ref n2, .int 0, .int 0, .ref n3, .ref n4])), (n1, .inl (E.2.1, 81, .inl (fun _ => 0))), (hi, .inr (3, [.ref v1, .int 0, .int 0])), (rf, .inl (E.2.1, 3, .inl (fun _ => 0))), (m_tape, .inl (E.2.1, 320, .inl (fun _ => 0))), (m_now, .inl (E.2.1, 265, .inl (fun _ => 0))), (m_refused, .inl (E.2.1, 3, .inl (fun _ => 0))), (o, .inl (E.2.2.2, 1, .inr (.inl (fun _ => 0))))] H := hP
  have hD : va_D A [(b1, .inl (E.2.2.1, 320, .inl (fun _ => 0))), (n, .inr (6, [.ref n1, .ref n2, .int 0, .int 0, .ref n3, .ref n4])), (n1, .inl (E.2.1, 81, .inl (fun _ => 0))), (hi, .inr (3, [.ref v1, .int 0, .int 0])), (rf, .inl (E.2.1, 3, .inl (fun _ => 0))), (m_tape, .inl (E.2.1, 320, .inl (fun _ => 0))), (m_now, .inl (E.2.1, 265, .inl (fun _ => 0))), (m_refused, .inl (E.2.1, 3, .inl (fun _ => 0))), (o, .inl (E.2.2.2, 1, .inr (.inl (fun _ => 0))))] := hD
  have hr_4 := hw
  obtain rfl : r_4 = -1 := hr_4
  refine lv_icmp_eq (tgt := 1665) hx hb dL_law_355 (by decide) (fun _ => ?_) (fun q => absurd (by decide) q)
  exact law_end hflags C0 hAe hS (lv_sub hl [0, 4] rfl)

set_option maxHeartbeats 4000000 in
set_option maxRecDepth 100000 in
theorem lc_4 {p : Program} {l : Launch} {e : Env} {s : State} {m : MethodId} {below : List Frame} {meth : Method} {c : Code} (hflags : l.flags = flags0) {b : Nat} {xs : Nat → Int32} (C0 : lw_At p s m meth c b 6 xs) {E : EE} (hK : va_K E.1 vwCl (TY E) s) (hN : NX s) {A : Nat → Prop} (hAe : (fun q : Nat => s.heap.size ≤ q) = A) (hZ : ZM A s s.heap) {x t rd sc n tr kp bk kb hi dr rf b1 r1 r2 r3 s1 s2 n1 n2 n3 n4 v1 mo m_tape m_readPlace m_script m_scriptLong m_now m_refused m_shareX m_shareY m_askedRow m_kept m_aside m_spelled m_image o : Nat} {H : Heap} {locs : List Loc} (hP : va_P E.1 vwCl [(x, .inr (8, [.ref t, .ref rd, .ref sc, .ref n, .ref tr, .ref kp, .ref bk, .ref kb, .ref hi, .ref dr, .ref rf, .int 0])), (t, .inr (7, [.ref b1, .int 0])), (b1, .inl (E.2.2.1, 320, .inl (fun _ => 0))), (rd, .inr (4, [.ref t, .ref r1, .ref r2, .ref r3, .int 0, .int 0, .int 0, .int 0, .int 0, .int 0, .int (-1)])), (r1, .inl (E.2.1, 3, .inl (fun _ => 0))), (sc, .inr (5, [.ref s1, .ref s2, .int 0])), (n, .inr (6, [.ref n1, .ref n2, .int 0, .int 0, .ref n3, .ref n4])), (n1, .inl (E.2.1, 81, .inl (fun _ => 0))), (hi, .inr (3, [.ref v1, .int 0, .int 0])), (rf, .inl (E.2.1, 3, .inl (fun _ => 0))), (mo, .inr (9, [.int 0, .ref m_tape, .int 0, .int 0, .int 0, .int 0, .int 0, .int 0, .long 0, .int 0, .int 0, .int 0, .int 0, .ref m_readPlace, .ref m_script, .ref m_scriptLong, .int 0, .ref m_now, .ref m_refused, .int 0, .ref m_shareX, .ref m_shareY, .int 0, .int 0, .ref m_askedRow, .int 0, .ref m_kept, .int 0, .long 0, .ref m_aside, .int 0, .int 0, .ref m_spelled, .int 0, .ref m_image, .int 0])), (m_tape, .inl (E.2.1, 320, .inl (fun _ => 0))), (m_scriptLong, .inl (E.2.1, 5, .inl (fun _ => 0))), (m_now, .inl (E.2.1, 265, .inl (fun _ => 0))), (m_refused, .inl (E.2.1, 3, .inl (fun _ => 0))), (o, .inl (E.2.2.2, 1, .inr (.inl (fun _ => 0))))] H) (hD : va_D A [(x, .inr (8, [.ref t, .ref rd, .ref sc, .ref n, .ref tr, .ref kp, .ref bk, .ref kb, .ref hi, .ref dr, .ref rf, .int 0])), (t, .inr (7, [.ref b1, .int 0])), (b1, .inl (E.2.2.1, 320, .inl (fun _ => 0))), (rd, .inr (4, [.ref t, .ref r1, .ref r2, .ref r3, .int 0, .int 0, .int 0, .int 0, .int 0, .int 0, .int (-1)])), (r1, .inl (E.2.1, 3, .inl (fun _ => 0))), (sc, .inr (5, [.ref s1, .ref s2, .int 0])), (n, .inr (6, [.ref n1, .ref n2, .int 0, .int 0, .ref n3, .ref n4])), (n1, .inl (E.2.1, 81, .inl (fun _ => 0))), (hi, .inr (3, [.ref v1, .int 0, .int 0])), (rf, .inl (E.2.1, 3, .inl (fun _ => 0))), (mo, .inr (9, [.int 0, .ref m_tape, .int 0, .int 0, .int 0, .int 0, .int 0, .int 0, .long 0, .int 0, .int 0, .int 0, .int 0, .ref m_readPlace, .ref m_script, .ref m_scriptLong, .int 0, .ref m_now, .ref m_refused, .int 0, .ref m_shareX, .ref m_shareY, .int 0, .int 0, .ref m_askedRow, .int 0, .ref m_kept, .int 0, .long 0, .ref m_aside, .int 0, .int 0, .ref m_spelled, .int 0, .ref m_image, .int 0])), (m_tape, .inl (E.2.1, 320, .inl (fun _ => 0))), (m_scriptLong, .inl (E.2.1, 5, .inl (fun _ => 0))), (m_now, .inl (E.2.1, 265, .inl (fun _ => 0))), (m_refused, .inl (E.2.1, 3, .inl (fun _ => 0))), (o, .inl (E.2.2.2, 1, .inr (.inl (fun _ => 0))))]) (hS : va_S A s.heap H locs) {ls : Array Slot} (hl : lv_has ls 7 [(0, .ref b), (1, .ref x), (2, .ref mo), (3, .ref o), (4, .int 0)]) : W p l e room_1 s m #[Value.ref b] below meth c H locs 1000 100000 (lw_Z below #[Value.ref b] s) (F0 m 360 ls []) := by
  obtain ⟨hx, hb, hr, hml, hown, hts, hX, hbl, hlocks, hgv⟩ := id C0
  have hown : s.vm.findClass RL = some m.cls := hown
  have hA : ∀ q : Nat, s.heap.size ≤ q → A q := fun q h => by rw [← hAe]; exact h
  have hbA : ¬ A b := by rw [← hAe]; exact Nat.not_le.mpr hbl
  refine lv_aload_n hx hb dL_law_360 rfl (lv_at hl 1 rfl) ?_
  refine lv_aload_n hx hb dL_law_361 rfl (lv_at hl 0 rfl) ?_
  refine lv_iload hx hb dL_law_362 (lv_at hl 4 rfl) ?_
  refine lv_iconst (v := 1) hx hb dL_law_364 (by decide) ?_
  refine lv_iadd hx hb dL_law_365 ?_
  refine lv_topi (fun z_1 ez_1 => ?_)
  obtain rfl : z_1 = 1 := ez_1.trans (by decide)
  refine va_sld hx hb hX hbl hbA hS (vin rfl) dL_law_366 ?_
  refine W.eq (g2 := F0 m 367 ls [.int (xs 1), .ref x]) rfl ?_
  have hPc := hP.sub (ws' := [(x, .inr (8, [.ref t, .ref rd, .ref sc, .ref n, .ref tr, .ref kp, .ref bk, .ref kb, .ref hi, .ref dr, .ref rf, .int 0])), (n, .inr (6, [.ref n1, .ref n2, .int 0, .int 0, .ref n3, .ref n4])), (n1, .inl (E.2.1, 81, .inl (fun _ => 0)))]) [0, 6, 7] rfl
  refine pc_i (va_runV (As := [.int (xs 1)]) (rest := []) ⟨hx, hb, hml, hown, hts⟩ (c_rule l E x t rd sc n tr kp bk kb hi dr rf n1 n2 n3 n4 (xs 1)) (cwV 1 hts gl_c_rule_38 rfl rfl rfl (by decide +kernel) ⟨Nat.le_of_ble_eq_true rfl, Nat.le_of_ble_eq_true rfl⟩) ⟨pP.blind, va_recv hK hPc (ci := 8) (q0 := 0) rfl rfl, (pP.pre ⟨hK, hN⟩ hPc)⟩ rfl rfl hl.1 rfl (lv_room (Nat.le_of_ble_eq_true rfl)) dL_law_367 ⟨Nat.le_of_ble_eq_true rfl, Nat.le_of_ble_eq_true rfl⟩) (fun r_2 hr_2 => ?_)
  obtain rfl : r_2 = -100000000 := hr_2
  refine lv_aload_n hx hb dL_law_370 rfl (lv_at hl 2 rfl) ?_
  refine lv_aload_n hx hb dL_law_371 rfl (lv_at hl 0 rfl) ?_
  refine lv_iload hx hb dL_law_372 (lv_at hl 4 rfl) ?_
  refine lv_iconst (v := 1) hx hb dL_law_374 (by decide) ?_
  refine lv_iadd hx hb dL_law_375 ?_
  refine lv_topi (fun z_3 ez_3 => ?_)
  obtain rfl : z_3 = 1 := ez_3.trans (by decide)
  refine va_sld hx hb hX hbl hbA hS (vin rfl) dL_law_376 ?_
  refine W.eq (g2 := F0 m 377 ls [.int (xs 1), .ref mo, .int (-100000000)]) rfl ?_
  have hPc := hP.sub (ws' := [(mo, .inr (9, [.int 0, .ref m_tape, .int 0, .int 0, .int 0, .int 0, .int 0, .int 0, .long 0, .int 0, .int 0, .int 0, .int 0, .ref m_readPlace, .ref m_script, .ref m_scriptLong, .int 0, .ref m_now, .ref m_refused, .int 0, .ref m_shareX, .ref m_shareY, .int 0, .int 0, .ref m_askedRow, .int 0, .ref m_kept, .int 0, .long 0, .ref m_aside, .int 0, .int 0, .ref m_spelled, .int 0, .ref m_image, .int 0]))]) [10] rfl
  refine pc_i (va_runV (As := [.int (xs 1)]) (rest := [.int (-100000000)]) ⟨hx, hb, hml, hown, hts⟩ (d_rule l E mo m_tape m_readPlace m_script m_scriptLong m_now m_refused m_shareX m_shareY m_askedRow m_kept m_aside m_spelled m_image (xs 1)) (cwV 1 hts gl_d_rule_41 rfl rfl rfl (by decide +kernel) ⟨Nat.le_of_ble_eq_true rfl, Nat.le_of_ble_eq_true rfl⟩) ⟨pP.blind, va_recv hK hPc (ci := 9) (q0 := 0) rfl rfl, (pP.pre ⟨hK, hN⟩ hPc)⟩ rfl rfl hl.1 rfl (lv_room (Nat.le_of_ble_eq_true rfl)) dL_law_377 ⟨Nat.le_of_ble_eq_true rfl, Nat.le_of_ble_eq_true rfl⟩) (fun r_4 hr_4 => ?_)
  obtain rfl : r_4 = -100000000 := hr_4
  refine lv_icmp_eq (tgt := 1665) hx hb dL_law_380 (by decide) (fun _ => ?_) (fun q => absurd (by decide) q)
  exact law_end hflags C0 hAe hS (lv_sub hl [0, 4] rfl)

set_option maxHeartbeats 4000000 in
set_option maxRecDepth 100000 in
theorem lc_6 {p : Program} {l : Launch} {e : Env} {s : State} {m : MethodId} {below : List Frame} {meth : Method} {c : Code} (hflags : l.flags = flags0) {b : Nat} {xs : Nat → Int32} (C0 : lw_At p s m meth c b 6 xs) {E : EE} (hK : va_K E.1 vwCl (TY E) s) (hN : NX s) {A : Nat → Prop} (hAe : (fun q : Nat => s.heap.size ≤ q) = A) (hZ : ZM A s s.heap) {x t rd sc n tr kp bk kb hi dr rf b1 r1 r2 r3 s1 s2 n1 n2 n3 n4 v1 mo m_tape m_readPlace m_script m_scriptLong m_now m_refused m_shareX m_shareY m_askedRow m_kept m_aside m_spelled m_image o : Nat} {H : Heap} {locs : List Loc} (hP : va_P E.1 vwCl [(x, .inr (8, [.ref t, .ref rd, .ref sc, .ref n, .ref tr, .ref kp, .ref bk, .ref kb, .ref hi, .ref dr, .ref rf, .int 0])), (t, .inr (7, [.ref b1, .int 0])), (b1, .inl (E.2.2.1, 320, .inl (fun _ => 0))), (rd, .inr (4, [.ref t, .ref r1, .ref r2, .ref r3, .int 0, .int 0, .int 0, .int 0, .int 0, .int 0, .int (-1)])), (r1, .inl (E.2.1, 3, .inl (fun _ => 0))), (sc, .inr (5, [.ref s1, .ref s2, .int 0])), (n, .inr (6, [.ref n1, .ref n2, .int 0, .int 0, .ref n3, .ref n4])), (n1, .inl (E.2.1, 81, .inl (fun _ => 0))), (hi, .inr (3, [.ref v1, .int 0, .int 0])), (rf, .inl (E.2.1, 3, .inl (fun _ => 0))), (mo, .inr (9, [.int 0, .ref m_tape, .int 0, .int 0, .int 0, .int 0, .int 0, .int 0, .long 0, .int 0, .int 0, .int 0, .int 0, .ref m_readPlace, .ref m_script, .ref m_scriptLong, .int 0, .ref m_now, .ref m_refused, .int 0, .ref m_shareX, .ref m_shareY, .int 0, .int 0, .ref m_askedRow, .int 0, .ref m_kept, .int 0, .long 0, .ref m_aside, .int 0, .int 0, .ref m_spelled, .int 0, .ref m_image, .int 0])), (m_tape, .inl (E.2.1, 320, .inl (fun _ => 0))), (m_scriptLong, .inl (E.2.1, 5, .inl (fun _ => 0))), (m_now, .inl (E.2.1, 265, .inl (fun _ => 0))), (m_refused, .inl (E.2.1, 3, .inl (fun _ => 0))), (o, .inl (E.2.2.2, 1, .inr (.inl (fun _ => 0))))] H) (hD : va_D A [(x, .inr (8, [.ref t, .ref rd, .ref sc, .ref n, .ref tr, .ref kp, .ref bk, .ref kb, .ref hi, .ref dr, .ref rf, .int 0])), (t, .inr (7, [.ref b1, .int 0])), (b1, .inl (E.2.2.1, 320, .inl (fun _ => 0))), (rd, .inr (4, [.ref t, .ref r1, .ref r2, .ref r3, .int 0, .int 0, .int 0, .int 0, .int 0, .int 0, .int (-1)])), (r1, .inl (E.2.1, 3, .inl (fun _ => 0))), (sc, .inr (5, [.ref s1, .ref s2, .int 0])), (n, .inr (6, [.ref n1, .ref n2, .int 0, .int 0, .ref n3, .ref n4])), (n1, .inl (E.2.1, 81, .inl (fun _ => 0))), (hi, .inr (3, [.ref v1, .int 0, .int 0])), (rf, .inl (E.2.1, 3, .inl (fun _ => 0))), (mo, .inr (9, [.int 0, .ref m_tape, .int 0, .int 0, .int 0, .int 0, .int 0, .int 0, .long 0, .int 0, .int 0, .int 0, .int 0, .ref m_readPlace, .ref m_script, .ref m_scriptLong, .int 0, .ref m_now, .ref m_refused, .int 0, .ref m_shareX, .ref m_shareY, .int 0, .int 0, .ref m_askedRow, .int 0, .ref m_kept, .int 0, .long 0, .ref m_aside, .int 0, .int 0, .ref m_spelled, .int 0, .ref m_image, .int 0])), (m_tape, .inl (E.2.1, 320, .inl (fun _ => 0))), (m_scriptLong, .inl (E.2.1, 5, .inl (fun _ => 0))), (m_now, .inl (E.2.1, 265, .inl (fun _ => 0))), (m_refused, .inl (E.2.1, 3, .inl (fun _ => 0))), (o, .inl (E.2.2.2, 1, .inr (.inl (fun _ => 0))))]) (hS : va_S A s.heap H locs) {ls : Array Slot} (hl : lv_has ls 7 [(0, .ref b), (1, .ref x), (2, .ref mo), (3, .ref o), (4, .int 0)]) : W p l e room_1 s m #[Value.ref b] below meth c H locs 1000 100000 (lw_Z below #[Value.ref b] s) (F0 m 453 ls []) := by
  obtain ⟨hx, hb, hr, hml, hown, hts, hX, hbl, hlocks, hgv⟩ := id C0
  have hown : s.vm.findClass RL = some m.cls := hown
  have hA : ∀ q : Nat, s.heap.size ≤ q → A q := fun q h => by rw [← hAe]; exact h
  have hbA : ¬ A b := by rw [← hAe]; exact Nat.not_le.mpr hbl
  refine lv_aload_n hx hb dL_law_453 rfl (lv_at hl 1 rfl) ?_
  refine lv_aload_n hx hb dL_law_454 rfl (lv_at hl 0 rfl) ?_
  refine lv_iload hx hb dL_law_455 (lv_at hl 4 rfl) ?_
  refine lv_iconst (v := 1) hx hb dL_law_457 (by decide) ?_
  refine lv_iadd hx hb dL_law_458 ?_
  refine lv_topi (fun z_1 ez_1 => ?_)
  obtain rfl : z_1 = 1 := ez_1.trans (by decide)
  refine va_sld hx hb hX hbl hbA hS (vin rfl) dL_law_459 ?_
  refine W.eq (g2 := F0 m 460 ls [.int (xs 1), .ref x]) rfl ?_
  refine lv_aload_n hx hb dL_law_460 rfl (lv_at hl 0 rfl) ?_
  refine lv_iload hx hb dL_law_461 (lv_at hl 4 rfl) ?_
  refine lv_iconst (v := 2) hx hb dL_law_463 (by decide) ?_
  refine lv_iadd hx hb dL_law_464 ?_
  refine lv_topi (fun z_2 ez_2 => ?_)
  obtain rfl : z_2 = 2 := ez_2.trans (by decide)
  refine va_sld hx hb hX hbl hbA hS (vin rfl) dL_law_465 ?_
  refine W.eq (g2 := F0 m 466 ls [.int (xs 2), .int (xs 1), .ref x]) rfl ?_
  have hPc := hP.sub (ws' := [(x, .inr (8, [.ref t, .ref rd, .ref sc, .ref n, .ref tr, .ref kp, .ref bk, .ref kb, .ref hi, .ref dr, .ref rf, .int 0])), (n, .inr (6, [.ref n1, .ref n2, .int 0, .int 0, .ref n3, .ref n4])), (n1, .inl (E.2.1, 81, .inl (fun _ => 0)))]) [0, 6, 7] rfl
  refine pc_l (va_runV (As := [.int (xs 1), .int (xs 2)]) (rest := []) ⟨hx, hb, hml, hown, hts⟩ (c_value l E x t rd sc n tr kp bk kb hi dr rf n1 n2 n3 n4 (xs 1) (xs 2)) (cwV 2 hts gl_c_value_52 rfl rfl rfl (by decide +kernel) ⟨Nat.le_of_ble_eq_true rfl, Nat.le_of_ble_eq_true rfl⟩) ⟨pP.blind, va_recv hK hPc (ci := 8) (q0 := 0) rfl rfl, (pP.pre ⟨hK, hN⟩ hPc)⟩ rfl rfl hl.1 rfl (lv_room (Nat.le_of_ble_eq_true rfl)) dL_law_466 ⟨Nat.le_of_ble_eq_true rfl, Nat.le_of_ble_eq_true rfl⟩) (fun r_3 hr_3 => ?_)
  obtain rfl : r_3 = -100000000 := hr_3
  refine lv_aload_n hx hb dL_law_469 rfl (lv_at hl 2 rfl) ?_
  refine lv_aload_n hx hb dL_law_470 rfl (lv_at hl 0 rfl) ?_
  refine lv_iload hx hb dL_law_471 (lv_at hl 4 rfl) ?_
  refine lv_iconst (v := 1) hx hb dL_law_473 (by decide) ?_
  refine lv_iadd hx hb dL_law_474 ?_
  refine lv_topi (fun z_4 ez_4 => ?_)
  obtain rfl : z_4 = 1 := ez_4.trans (by decide)
  refine va_sld hx hb hX hbl hbA hS (vin rfl) dL_law_475 ?_
  refine W.eq (g2 := F0 m 476 ls [.int (xs 1), .ref mo, .long (-100000000)]) rfl ?_
  refine lv_aload_n hx hb dL_law_476 rfl (lv_at hl 0 rfl) ?_
  refine lv_iload hx hb dL_law_477 (lv_at hl 4 rfl) ?_
  refine lv_iconst (v := 2) hx hb dL_law_479 (by decide) ?_
  refine lv_iadd hx hb dL_law_480 ?_
  refine lv_topi (fun z_5 ez_5 => ?_)
  obtain rfl : z_5 = 2 := ez_5.trans (by decide)
  refine va_sld hx hb hX hbl hbA hS (vin rfl) dL_law_481 ?_
  refine W.eq (g2 := F0 m 482 ls [.int (xs 2), .int (xs 1), .ref mo, .long (-100000000)]) rfl ?_
  have hPc := hP.sub (ws' := [(mo, .inr (9, [.int 0, .ref m_tape, .int 0, .int 0, .int 0, .int 0, .int 0, .int 0, .long 0, .int 0, .int 0, .int 0, .int 0, .ref m_readPlace, .ref m_script, .ref m_scriptLong, .int 0, .ref m_now, .ref m_refused, .int 0, .ref m_shareX, .ref m_shareY, .int 0, .int 0, .ref m_askedRow, .int 0, .ref m_kept, .int 0, .long 0, .ref m_aside, .int 0, .int 0, .ref m_spelled, .int 0, .ref m_image, .int 0]))]) [10] rfl
  refine pc_l (va_runV (As := [.int (xs 1), .int (xs 2)]) (rest := [.long (-100000000)]) ⟨hx, hb, hml, hown, hts⟩ (d_value l E mo m_tape m_readPlace m_script m_scriptLong m_now m_refused m_shareX m_shareY m_askedRow m_kept m_aside m_spelled m_image (xs 1) (xs 2)) (cwV 2 hts gl_d_value_56 rfl rfl rfl (by decide +kernel) ⟨Nat.le_of_ble_eq_true rfl, Nat.le_of_ble_eq_true rfl⟩) ⟨pP.blind, va_recv hK hPc (ci := 9) (q0 := 0) rfl rfl, (pP.pre ⟨hK, hN⟩ hPc)⟩ rfl rfl hl.1 rfl (lv_room (Nat.le_of_ble_eq_true rfl)) dL_law_482 ⟨Nat.le_of_ble_eq_true rfl, Nat.le_of_ble_eq_true rfl⟩) (fun r_6 hr_6 => ?_)
  obtain rfl : r_6 = -100000000 := hr_6
  refine W.lcmp hx hb dL_law_485 ?_
  refine lv_topi (fun z_7 ez_7 => ?_)
  obtain rfl : z_7 = 0 := ez_7.trans (by decide)
  refine lv_if_eq (tgt := 1665) hx hb dL_law_486 (by decide) (fun _ => ?_) (fun q => absurd (by decide) q)
  exact law_end hflags C0 hAe hS (lv_sub hl [0, 4] rfl)

set_option maxHeartbeats 4000000 in
set_option maxRecDepth 100000 in
theorem lc_7 {p : Program} {l : Launch} {e : Env} {s : State} {m : MethodId} {below : List Frame} {meth : Method} {c : Code} (hflags : l.flags = flags0) {b : Nat} {xs : Nat → Int32} (C0 : lw_At p s m meth c b 6 xs) {E : EE} (hK : va_K E.1 vwCl (TY E) s) (hN : NX s) {A : Nat → Prop} (hAe : (fun q : Nat => s.heap.size ≤ q) = A) (hZ : ZM A s s.heap) {x t rd sc n tr kp bk kb hi dr rf b1 r1 r2 r3 s1 s2 n1 n2 n3 n4 v1 mo m_tape m_readPlace m_script m_scriptLong m_now m_refused m_shareX m_shareY m_askedRow m_kept m_aside m_spelled m_image o : Nat} {H : Heap} {locs : List Loc} (hP : va_P E.1 vwCl [(x, .inr (8, [.ref t, .ref rd, .ref sc, .ref n, .ref tr, .ref kp, .ref bk, .ref kb, .ref hi, .ref dr, .ref rf, .int 0])), (t, .inr (7, [.ref b1, .int 0])), (b1, .inl (E.2.2.1, 320, .inl (fun _ => 0))), (rd, .inr (4, [.ref t, .ref r1, .ref r2, .ref r3, .int 0, .int 0, .int 0, .int 0, .int 0, .int 0, .int (-1)])), (r1, .inl (E.2.1, 3, .inl (fun _ => 0))), (sc, .inr (5, [.ref s1, .ref s2, .int 0])), (n, .inr (6, [.ref n1, .ref n2, .int 0, .int 0, .ref n3, .ref n4])), (n1, .inl (E.2.1, 81, .inl (fun _ => 0))), (hi, .inr (3, [.ref v1, .int 0, .int 0])), (rf, .inl (E.2.1, 3, .inl (fun _ => 0))), (mo, .inr (9, [.int 0, .ref m_tape, .int 0, .int 0, .int 0, .int 0, .int 0, .int 0, .long 0, .int 0, .int 0, .int 0, .int 0, .ref m_readPlace, .ref m_script, .ref m_scriptLong, .int 0, .ref m_now, .ref m_refused, .int 0, .ref m_shareX, .ref m_shareY, .int 0, .int 0, .ref m_askedRow, .int 0, .ref m_kept, .int 0, .long 0, .ref m_aside, .int 0, .int 0, .ref m_spelled, .int 0, .ref m_image, .int 0])), (m_tape, .inl (E.2.1, 320, .inl (fun _ => 0))), (m_scriptLong, .inl (E.2.1, 5, .inl (fun _ => 0))), (m_now, .inl (E.2.1, 265, .inl (fun _ => 0))), (m_refused, .inl (E.2.1, 3, .inl (fun _ => 0))), (o, .inl (E.2.2.2, 1, .inr (.inl (fun _ => 0))))] H) (hD : va_D A [(x, .inr (8, [.ref t, .ref rd, .ref sc, .ref n, .ref tr, .ref kp, .ref bk, .ref kb, .ref hi, .ref dr, .ref rf, .int 0])), (t, .inr (7, [.ref b1, .int 0])), (b1, .inl (E.2.2.1, 320, .inl (fun _ => 0))), (rd, .inr (4, [.ref t, .ref r1, .ref r2, .ref r3, .int 0, .int 0, .int 0, .int 0, .int 0, .int 0, .int (-1)])), (r1, .inl (E.2.1, 3, .inl (fun _ => 0))), (sc, .inr (5, [.ref s1, .ref s2, .int 0])), (n, .inr (6, [.ref n1, .ref n2, .int 0, .int 0, .ref n3, .ref n4])), (n1, .inl (E.2.1, 81, .inl (fun _ => 0))), (hi, .inr (3, [.ref v1, .int 0, .int 0])), (rf, .inl (E.2.1, 3, .inl (fun _ => 0))), (mo, .inr (9, [.int 0, .ref m_tape, .int 0, .int 0, .int 0, .int 0, .int 0, .int 0, .long 0, .int 0, .int 0, .int 0, .int 0, .ref m_readPlace, .ref m_script, .ref m_scriptLong, .int 0, .ref m_now, .ref m_refused, .int 0, .ref m_shareX, .ref m_shareY, .int 0, .int 0, .ref m_askedRow, .int 0, .ref m_kept, .int 0, .long 0, .ref m_aside, .int 0, .int 0, .ref m_spelled, .int 0, .ref m_image, .int 0])), (m_tape, .inl (E.2.1, 320, .inl (fun _ => 0))), (m_scriptLong, .inl (E.2.1, 5, .inl (fun _ => 0))), (m_now, .inl (E.2.1, 265, .inl (fun _ => 0))), (m_refused, .inl (E.2.1, 3, .inl (fun _ => 0))), (o, .inl (E.2.2.2, 1, .inr (.inl (fun _ => 0))))]) (hS : va_S A s.heap H locs) {ls : Array Slot} (hl : lv_has ls 7 [(0, .ref b), (1, .ref x), (2, .ref mo), (3, .ref o), (4, .int 0)]) : W p l e room_1 s m #[Value.ref b] below meth c H locs 1000 100000 (lw_Z below #[Value.ref b] s) (F0 m 491 ls []) := by
  obtain ⟨hx, hb, hr, hml, hown, hts, hX, hbl, hlocks, hgv⟩ := id C0
  have hown : s.vm.findClass RL = some m.cls := hown
  have hA : ∀ q : Nat, s.heap.size ≤ q → A q := fun q h => by rw [← hAe]; exact h
  have hbA : ¬ A b := by rw [← hAe]; exact Nat.not_le.mpr hbl
  refine lv_aload_n hx hb dL_law_491 rfl (lv_at hl 1 rfl) ?_
  refine lv_aload_n hx hb dL_law_492 rfl (lv_at hl 0 rfl) ?_
  refine lv_iload hx hb dL_law_493 (lv_at hl 4 rfl) ?_
  refine lv_iconst (v := 1) hx hb dL_law_495 (by decide) ?_
  refine lv_iadd hx hb dL_law_496 ?_
  refine lv_topi (fun z_1 ez_1 => ?_)
  obtain rfl : z_1 = 1 := ez_1.trans (by decide)
  refine va_sld hx hb hX hbl hbA hS (vin rfl) dL_law_497 ?_
  refine W.eq (g2 := F0 m 498 ls [.int (xs 1), .ref x]) rfl ?_
  refine lv_aload_n hx hb dL_law_498 rfl (lv_at hl 0 rfl) ?_
  refine lv_iload hx hb dL_law_499 (lv_at hl 4 rfl) ?_
  refine lv_iconst (v := 2) hx hb dL_law_501 (by decide) ?_
  refine lv_iadd hx hb dL_law_502 ?_
  refine lv_topi (fun z_2 ez_2 => ?_)
  obtain rfl : z_2 = 2 := ez_2.trans (by decide)
  refine va_sld hx hb hX hbl hbA hS (vin rfl) dL_law_503 ?_
  refine W.eq (g2 := F0 m 504 ls [.int (xs 2), .int (xs 1), .ref x]) rfl ?_
  have hPc := hP.sub (ws' := [(x, .inr (8, [.ref t, .ref rd, .ref sc, .ref n, .ref tr, .ref kp, .ref bk, .ref kb, .ref hi, .ref dr, .ref rf, .int 0])), (n, .inr (6, [.ref n1, .ref n2, .int 0, .int 0, .ref n3, .ref n4])), (n1, .inl (E.2.1, 81, .inl (fun _ => 0)))]) [0, 6, 7] rfl
  refine pc_i (va_runV (As := [.int (xs 1), .int (xs 2)]) (rest := []) ⟨hx, hb, hml, hown, hts⟩ (c_tells l E x t rd sc n tr kp bk kb hi dr rf n1 n2 n3 n4 (xs 1) (xs 2)) (cwV 2 hts gl_c_tells_57 rfl rfl rfl (by decide +kernel) ⟨Nat.le_of_ble_eq_true rfl, Nat.le_of_ble_eq_true rfl⟩) ⟨pP.blind, va_recv hK hPc (ci := 8) (q0 := 0) rfl rfl, (pP.pre ⟨hK, hN⟩ hPc)⟩ rfl rfl hl.1 rfl (lv_room (Nat.le_of_ble_eq_true rfl)) dL_law_504 ⟨Nat.le_of_ble_eq_true rfl, Nat.le_of_ble_eq_true rfl⟩) (fun r_3 hr_3 => ?_)
  obtain rfl : r_3 = 0 := hr_3
  refine lv_aload_n hx hb dL_law_507 rfl (lv_at hl 2 rfl) ?_
  refine lv_aload_n hx hb dL_law_508 rfl (lv_at hl 0 rfl) ?_
  refine lv_iload hx hb dL_law_509 (lv_at hl 4 rfl) ?_
  refine lv_iconst (v := 1) hx hb dL_law_511 (by decide) ?_
  refine lv_iadd hx hb dL_law_512 ?_
  refine lv_topi (fun z_4 ez_4 => ?_)
  obtain rfl : z_4 = 1 := ez_4.trans (by decide)
  refine va_sld hx hb hX hbl hbA hS (vin rfl) dL_law_513 ?_
  refine W.eq (g2 := F0 m 514 ls [.int (xs 1), .ref mo, .int 0]) rfl ?_
  refine lv_aload_n hx hb dL_law_514 rfl (lv_at hl 0 rfl) ?_
  refine lv_iload hx hb dL_law_515 (lv_at hl 4 rfl) ?_
  refine lv_iconst (v := 2) hx hb dL_law_517 (by decide) ?_
  refine lv_iadd hx hb dL_law_518 ?_
  refine lv_topi (fun z_5 ez_5 => ?_)
  obtain rfl : z_5 = 2 := ez_5.trans (by decide)
  refine va_sld hx hb hX hbl hbA hS (vin rfl) dL_law_519 ?_
  refine W.eq (g2 := F0 m 520 ls [.int (xs 2), .int (xs 1), .ref mo, .int 0]) rfl ?_
  have hPc := hP.sub (ws' := [(mo, .inr (9, [.int 0, .ref m_tape, .int 0, .int 0, .int 0, .int 0, .int 0, .int 0, .long 0, .int 0, .int 0, .int 0, .int 0, .ref m_readPlace, .ref m_script, .ref m_scriptLong, .int 0, .ref m_now, .ref m_refused, .int 0, .ref m_shareX, .ref m_shareY, .int 0, .int 0, .ref m_askedRow, .int 0, .ref m_kept, .int 0, .long 0, .ref m_aside, .int 0, .int 0, .ref m_spelled, .int 0, .ref m_image, .int 0]))]) [10] rfl
  refine pc_i (va_runV (As := [.int (xs 1), .int (xs 2)]) (rest := [.int 0]) ⟨hx, hb, hml, hown, hts⟩ (d_tells l E mo m_tape m_readPlace m_script m_scriptLong m_now m_refused m_shareX m_shareY m_askedRow m_kept m_aside m_spelled m_image (xs 1) (xs 2)) (cwV 2 hts gl_d_tells_61 rfl rfl rfl (by decide +kernel) ⟨Nat.le_of_ble_eq_true rfl, Nat.le_of_ble_eq_true rfl⟩) ⟨pP.blind, va_recv hK hPc (ci := 9) (q0 := 0) rfl rfl, (pP.pre ⟨hK, hN⟩ hPc)⟩ rfl rfl hl.1 rfl (lv_room (Nat.le_of_ble_eq_true rfl)) dL_law_520 ⟨Nat.le_of_ble_eq_true rfl, Nat.le_of_ble_eq_true rfl⟩) (fun r_6 hr_6 => ?_)
  obtain rfl : r_6 = 0 := hr_6
  refine lv_icmp_eq (tgt := 1665) hx hb dL_law_523 (by decide) (fun _ => ?_) (fun q => absurd (by decide) q)
  exact law_end hflags C0 hAe hS (lv_sub hl [0, 4] rfl)

set_option maxHeartbeats 4000000 in
set_option maxRecDepth 100000 in
theorem lc_8 {p : Program} {l : Launch} {e : Env} {s : State} {m : MethodId} {below : List Frame} {meth : Method} {c : Code} (hflags : l.flags = flags0) {b : Nat} {xs : Nat → Int32} (C0 : lw_At p s m meth c b 6 xs) {E : EE} (hK : va_K E.1 vwCl (TY E) s) (hN : NX s) {A : Nat → Prop} (hAe : (fun q : Nat => s.heap.size ≤ q) = A) (hZ : ZM A s s.heap) {x t rd sc n tr kp bk kb hi dr rf b1 r1 r2 r3 s1 s2 n1 n2 n3 n4 v1 mo m_tape m_readPlace m_script m_scriptLong m_now m_refused m_shareX m_shareY m_askedRow m_kept m_aside m_spelled m_image o : Nat} {H : Heap} {locs : List Loc} (hP : va_P E.1 vwCl [(x, .inr (8, [.ref t, .ref rd, .ref sc, .ref n, .ref tr, .ref kp, .ref bk, .ref kb, .ref hi, .ref dr, .ref rf, .int 0])), (t, .inr (7, [.ref b1, .int 0])), (b1, .inl (E.2.2.1, 320, .inl (fun _ => 0))), (rd, .inr (4, [.ref t, .ref r1, .ref r2, .ref r3, .int 0, .int 0, .int 0, .int 0, .int 0, .int 0, .int (-1)])), (r1, .inl (E.2.1, 3, .inl (fun _ => 0))), (sc, .inr (5, [.ref s1, .ref s2, .int 0])), (n, .inr (6, [.ref n1, .ref n2, .int 0, .int 0, .ref n3, .ref n4])), (n1, .inl (E.2.1, 81, .inl (fun _ => 0))), (hi, .inr (3, [.ref v1, .int 0, .int 0])), (rf, .inl (E.2.1, 3, .inl (fun _ => 0))), (mo, .inr (9, [.int 0, .ref m_tape, .int 0, .int 0, .int 0, .int 0, .int 0, .int 0, .long 0, .int 0, .int 0, .int 0, .int 0, .ref m_readPlace, .ref m_script, .ref m_scriptLong, .int 0, .ref m_now, .ref m_refused, .int 0, .ref m_shareX, .ref m_shareY, .int 0, .int 0, .ref m_askedRow, .int 0, .ref m_kept, .int 0, .long 0, .ref m_aside, .int 0, .int 0, .ref m_spelled, .int 0, .ref m_image, .int 0])), (m_tape, .inl (E.2.1, 320, .inl (fun _ => 0))), (m_scriptLong, .inl (E.2.1, 5, .inl (fun _ => 0))), (m_now, .inl (E.2.1, 265, .inl (fun _ => 0))), (m_refused, .inl (E.2.1, 3, .inl (fun _ => 0))), (o, .inl (E.2.2.2, 1, .inr (.inl (fun _ => 0))))] H) (hD : va_D A [(x, .inr (8, [.ref t, .ref rd, .ref sc, .ref n, .ref tr, .ref kp, .ref bk, .ref kb, .ref hi, .ref dr, .ref rf, .int 0])), (t, .inr (7, [.ref b1, .int 0])), (b1, .inl (E.2.2.1, 320, .inl (fun _ => 0))), (rd, .inr (4, [.ref t, .ref r1, .ref r2, .ref r3, .int 0, .int 0, .int 0, .int 0, .int 0, .int 0, .int (-1)])), (r1, .inl (E.2.1, 3, .inl (fun _ => 0))), (sc, .inr (5, [.ref s1, .ref s2, .int 0])), (n, .inr (6, [.ref n1, .ref n2, .int 0, .int 0, .ref n3, .ref n4])), (n1, .inl (E.2.1, 81, .inl (fun _ => 0))), (hi, .inr (3, [.ref v1, .int 0, .int 0])), (rf, .inl (E.2.1, 3, .inl (fun _ => 0))), (mo, .inr (9, [.int 0, .ref m_tape, .int 0, .int 0, .int 0, .int 0, .int 0, .int 0, .long 0, .int 0, .int 0, .int 0, .int 0, .ref m_readPlace, .ref m_script, .ref m_scriptLong, .int 0, .ref m_now, .ref m_refused, .int 0, .ref m_shareX, .ref m_shareY, .int 0, .int 0, .ref m_askedRow, .int 0, .ref m_kept, .int 0, .long 0, .ref m_aside, .int 0, .int 0, .ref m_spelled, .int 0, .ref m_image, .int 0])), (m_tape, .inl (E.2.1, 320, .inl (fun _ => 0))), (m_scriptLong, .inl (E.2.1, 5, .inl (fun _ => 0))), (m_now, .inl (E.2.1, 265, .inl (fun _ => 0))), (m_refused, .inl (E.2.1, 3, .inl (fun _ => 0))), (o, .inl (E.2.2.2, 1, .inr (.inl (fun _ => 0))))]) (hS : va_S A s.heap H locs) {ls : Array Slot} (hl : lv_has ls 7 [(0, .ref b), (1, .ref x), (2, .ref mo), (3, .ref o), (4, .int 0)]) : W p l e room_1 s m #[Value.ref b] below meth c H locs 1000 100000 (lw_Z below #[Value.ref b] s) (F0 m 528 ls []) := by
  obtain ⟨hx, hb, hr, hml, hown, hts, hX, hbl, hlocks, hgv⟩ := id C0
  have hown : s.vm.findClass RL = some m.cls := hown
  have hA : ∀ q : Nat, s.heap.size ≤ q → A q := fun q h => by rw [← hAe]; exact h
  have hbA : ¬ A b := by rw [← hAe]; exact Nat.not_le.mpr hbl
  refine lv_aload_n hx hb dL_law_528 rfl (lv_at hl 1 rfl) ?_
  refine lv_aload_n hx hb dL_law_529 rfl (lv_at hl 0 rfl) ?_
  refine lv_iload hx hb dL_law_530 (lv_at hl 4 rfl) ?_
  refine lv_iconst (v := 1) hx hb dL_law_532 (by decide) ?_
  refine lv_iadd hx hb dL_law_533 ?_
  refine lv_topi (fun z_1 ez_1 => ?_)
  obtain rfl : z_1 = 1 := ez_1.trans (by decide)
  refine va_sld hx hb hX hbl hbA hS (vin rfl) dL_law_534 ?_
  refine W.eq (g2 := F0 m 535 ls [.int (xs 1), .ref x]) rfl ?_
  have hPc := hP.sub (ws' := [(x, .inr (8, [.ref t, .ref rd, .ref sc, .ref n, .ref tr, .ref kp, .ref bk, .ref kb, .ref hi, .ref dr, .ref rf, .int 0])), (n, .inr (6, [.ref n1, .ref n2, .int 0, .int 0, .ref n3, .ref n4])), (n1, .inl (E.2.1, 81, .inl (fun _ => 0)))]) [0, 6, 7] rfl
  refine pc_l (va_runV (As := [.int (xs 1)]) (rest := []) ⟨hx, hb, hml, hown, hts⟩ (c_all l E x t rd sc n tr kp bk kb hi dr rf n1 n2 n3 n4 (xs 1)) (cwV 1 hts gl_c_all_62 rfl rfl rfl (by decide +kernel) ⟨Nat.le_of_ble_eq_true rfl, Nat.le_of_ble_eq_true rfl⟩) ⟨pP.blind, va_recv hK hPc (ci := 8) (q0 := 0) rfl rfl, (pP.pre ⟨hK, hN⟩ hPc)⟩ rfl rfl hl.1 rfl (lv_room (Nat.le_of_ble_eq_true rfl)) dL_law_535 ⟨Nat.le_of_ble_eq_true rfl, Nat.le_of_ble_eq_true rfl⟩) (fun r_2 hr_2 => ?_)
  obtain rfl : r_2 = -100000000 := hr_2
  refine lv_aload_n hx hb dL_law_538 rfl (lv_at hl 2 rfl) ?_
  refine lv_aload_n hx hb dL_law_539 rfl (lv_at hl 0 rfl) ?_
  refine lv_iload hx hb dL_law_540 (lv_at hl 4 rfl) ?_
  refine lv_iconst (v := 1) hx hb dL_law_542 (by decide) ?_
  refine lv_iadd hx hb dL_law_543 ?_
  refine lv_topi (fun z_3 ez_3 => ?_)
  obtain rfl : z_3 = 1 := ez_3.trans (by decide)
  refine va_sld hx hb hX hbl hbA hS (vin rfl) dL_law_544 ?_
  refine W.eq (g2 := F0 m 545 ls [.int (xs 1), .ref mo, .long (-100000000)]) rfl ?_
  have hPc := hP.sub (ws' := [(mo, .inr (9, [.int 0, .ref m_tape, .int 0, .int 0, .int 0, .int 0, .int 0, .int 0, .long 0, .int 0, .int 0, .int 0, .int 0, .ref m_readPlace, .ref m_script, .ref m_scriptLong, .int 0, .ref m_now, .ref m_refused, .int 0, .ref m_shareX, .ref m_shareY, .int 0, .int 0, .ref m_askedRow, .int 0, .ref m_kept, .int 0, .long 0, .ref m_aside, .int 0, .int 0, .ref m_spelled, .int 0, .ref m_image, .int 0]))]) [10] rfl
  refine pc_l (va_runV (As := [.int (xs 1)]) (rest := [.long (-100000000)]) ⟨hx, hb, hml, hown, hts⟩ (d_all l E mo m_tape m_readPlace m_script m_scriptLong m_now m_refused m_shareX m_shareY m_askedRow m_kept m_aside m_spelled m_image (xs 1)) (cwV 1 hts gl_d_all_66 rfl rfl rfl (by decide +kernel) ⟨Nat.le_of_ble_eq_true rfl, Nat.le_of_ble_eq_true rfl⟩) ⟨pP.blind, va_recv hK hPc (ci := 9) (q0 := 0) rfl rfl, (pP.pre ⟨hK, hN⟩ hPc)⟩ rfl rfl hl.1 rfl (lv_room (Nat.le_of_ble_eq_true rfl)) dL_law_545 ⟨Nat.le_of_ble_eq_true rfl, Nat.le_of_ble_eq_true rfl⟩) (fun r_4 hr_4 => ?_)
  obtain rfl : r_4 = -100000000 := hr_4
  refine W.lcmp hx hb dL_law_548 ?_
  refine lv_topi (fun z_5 ez_5 => ?_)
  obtain rfl : z_5 = 0 := ez_5.trans (by decide)
  refine lv_if_eq (tgt := 1665) hx hb dL_law_549 (by decide) (fun _ => ?_) (fun q => absurd (by decide) q)
  exact law_end hflags C0 hAe hS (lv_sub hl [0, 4] rfl)

set_option maxHeartbeats 4000000 in
set_option maxRecDepth 100000 in
theorem lc_9 {p : Program} {l : Launch} {e : Env} {s : State} {m : MethodId} {below : List Frame} {meth : Method} {c : Code} (hflags : l.flags = flags0) {b : Nat} {xs : Nat → Int32} (C0 : lw_At p s m meth c b 6 xs) {E : EE} (hK : va_K E.1 vwCl (TY E) s) (hN : NX s) {A : Nat → Prop} (hAe : (fun q : Nat => s.heap.size ≤ q) = A) (hZ : ZM A s s.heap) {x t rd sc n tr kp bk kb hi dr rf b1 r1 r2 r3 s1 s2 n1 n2 n3 n4 v1 mo m_tape m_readPlace m_script m_scriptLong m_now m_refused m_shareX m_shareY m_askedRow m_kept m_aside m_spelled m_image o : Nat} {H : Heap} {locs : List Loc} (hP : va_P E.1 vwCl [(x, .inr (8, [.ref t, .ref rd, .ref sc, .ref n, .ref tr, .ref kp, .ref bk, .ref kb, .ref hi, .ref dr, .ref rf, .int 0])), (t, .inr (7, [.ref b1, .int 0])), (b1, .inl (E.2.2.1, 320, .inl (fun _ => 0))), (rd, .inr (4, [.ref t, .ref r1, .ref r2, .ref r3, .int 0, .int 0, .int 0, .int 0, .int 0, .int 0, .int (-1)])), (r1, .inl (E.2.1, 3, .inl (fun _ => 0))), (sc, .inr (5, [.ref s1, .ref s2, .int 0])), (n, .inr (6, [.ref n1, .ref n2, .int 0, .int 0, .ref n3, .ref n4])), (n1, .inl (E.2.1, 81, .inl (fun _ => 0))), (hi, .inr (3, [.ref v1, .int 0, .int 0])), (rf, .inl (E.2.1, 3, .inl (fun _ => 0))), (mo, .inr (9, [.int 0, .ref m_tape, .int 0, .int 0, .int 0, .int 0, .int 0, .int 0, .long 0, .int 0, .int 0, .int 0, .int 0, .ref m_readPlace, .ref m_script, .ref m_scriptLong, .int 0, .ref m_now, .ref m_refused, .int 0, .ref m_shareX, .ref m_shareY, .int 0, .int 0, .ref m_askedRow, .int 0, .ref m_kept, .int 0, .long 0, .ref m_aside, .int 0, .int 0, .ref m_spelled, .int 0, .ref m_image, .int 0])), (m_tape, .inl (E.2.1, 320, .inl (fun _ => 0))), (m_scriptLong, .inl (E.2.1, 5, .inl (fun _ => 0))), (m_now, .inl (E.2.1, 265, .inl (fun _ => 0))), (m_refused, .inl (E.2.1, 3, .inl (fun _ => 0))), (o, .inl (E.2.2.2, 1, .inr (.inl (fun _ => 0))))] H) (hD : va_D A [(x, .inr (8, [.ref t, .ref rd, .ref sc, .ref n, .ref tr, .ref kp, .ref bk, .ref kb, .ref hi, .ref dr, .ref rf, .int 0])), (t, .inr (7, [.ref b1, .int 0])), (b1, .inl (E.2.2.1, 320, .inl (fun _ => 0))), (rd, .inr (4, [.ref t, .ref r1, .ref r2, .ref r3, .int 0, .int 0, .int 0, .int 0, .int 0, .int 0, .int (-1)])), (r1, .inl (E.2.1, 3, .inl (fun _ => 0))), (sc, .inr (5, [.ref s1, .ref s2, .int 0])), (n, .inr (6, [.ref n1, .ref n2, .int 0, .int 0, .ref n3, .ref n4])), (n1, .inl (E.2.1, 81, .inl (fun _ => 0))), (hi, .inr (3, [.ref v1, .int 0, .int 0])), (rf, .inl (E.2.1, 3, .inl (fun _ => 0))), (mo, .inr (9, [.int 0, .ref m_tape, .int 0, .int 0, .int 0, .int 0, .int 0, .int 0, .long 0, .int 0, .int 0, .int 0, .int 0, .ref m_readPlace, .ref m_script, .ref m_scriptLong, .int 0, .ref m_now, .ref m_refused, .int 0, .ref m_shareX, .ref m_shareY, .int 0, .int 0, .ref m_askedRow, .int 0, .ref m_kept, .int 0, .long 0, .ref m_aside, .int 0, .int 0, .ref m_spelled, .int 0, .ref m_image, .int 0])), (m_tape, .inl (E.2.1, 320, .inl (fun _ => 0))), (m_scriptLong, .inl (E.2.1, 5, .inl (fun _ => 0))), (m_now, .inl (E.2.1, 265, .inl (fun _ => 0))), (m_refused, .inl (E.2.1, 3, .inl (fun _ => 0))), (o, .inl (E.2.2.2, 1, .inr (.inl (fun _ => 0))))]) (hS : va_S A s.heap H locs) {ls : Array Slot} (hl : lv_has ls 7 [(0, .ref b), (1, .ref x), (2, .ref mo), (3, .ref o), (4, .int 0)]) : W p l e room_1 s m #[Value.ref b] below meth c H locs 1000 100000 (lw_Z below #[Value.ref b] s) (F0 m 554 ls []) := by
  obtain ⟨hx, hb, hr, hml, hown, hts, hX, hbl, hlocks, hgv⟩ := id C0
  have hown : s.vm.findClass RL = some m.cls := hown
  have hA : ∀ q : Nat, s.heap.size ≤ q → A q := fun q h => by rw [← hAe]; exact h
  have hbA : ¬ A b := by rw [← hAe]; exact Nat.not_le.mpr hbl
  refine lv_aload_n hx hb dL_law_554 rfl (lv_at hl 1 rfl) ?_
  refine lv_aload_n hx hb dL_law_555 rfl (lv_at hl 0 rfl) ?_
  refine lv_iload hx hb dL_law_556 (lv_at hl 4 rfl) ?_
  refine lv_iconst (v := 1) hx hb dL_law_558 (by decide) ?_
  refine lv_iadd hx hb dL_law_559 ?_
  refine lv_topi (fun z_1 ez_1 => ?_)
  obtain rfl : z_1 = 1 := ez_1.trans (by decide)
  refine va_sld hx hb hX hbl hbA hS (vin rfl) dL_law_560 ?_
  refine W.eq (g2 := F0 m 561 ls [.int (xs 1), .ref x]) rfl ?_
  refine lv_aload_n hx hb dL_law_561 rfl (lv_at hl 0 rfl) ?_
  refine lv_iload hx hb dL_law_562 (lv_at hl 4 rfl) ?_
  refine lv_iconst (v := 2) hx hb dL_law_564 (by decide) ?_
  refine lv_iadd hx hb dL_law_565 ?_
  refine lv_topi (fun z_2 ez_2 => ?_)
  obtain rfl : z_2 = 2 := ez_2.trans (by decide)
  refine va_sld hx hb hX hbl hbA hS (vin rfl) dL_law_566 ?_
  refine W.eq (g2 := F0 m 567 ls [.int (xs 2), .int (xs 1), .ref x]) rfl ?_
  refine lv_aload_n hx hb dL_law_567 rfl (lv_at hl 0 rfl) ?_
  refine lv_iload hx hb dL_law_568 (lv_at hl 4 rfl) ?_
  refine lv_iconst (v := 3) hx hb dL_law_570 (by decide) ?_
  refine lv_iadd hx hb dL_law_571 ?_
  refine lv_topi (fun z_3 ez_3 => ?_)
  obtain rfl : z_3 = 3 := ez_3.trans (by decide)
  refine va_sld hx hb hX hbl hbA hS (vin rfl) dL_law_572 ?_
  refine W.eq (g2 := F0 m 573 ls [.int (xs 3), .int (xs 2), .int (xs 1), .ref x]) rfl ?_
  have hPc := hP.sub (ws' := [(x, .inr (8, [.ref t, .ref rd, .ref sc, .ref n, .ref tr, .ref kp, .ref bk, .ref kb, .ref hi, .ref dr, .ref rf, .int 0])), (n, .inr (6, [.ref n1, .ref n2, .int 0, .int 0, .ref n3, .ref n4])), (n1, .inl (E.2.1, 81, .inl (fun _ => 0))), (rf, .inl (E.2.1, 3, .inl (fun _ => 0)))]) [0, 6, 7, 9] rfl
  have hDc := hD.sub (ws' := [(x, .inr (8, [.ref t, .ref rd, .ref sc, .ref n, .ref tr, .ref kp, .ref bk, .ref kb, .ref hi, .ref dr, .ref rf, .int 0])), (n, .inr (6, [.ref n1, .ref n2, .int 0, .int 0, .ref n3, .ref n4])), (n1, .inl (E.2.1, 81, .inl (fun _ => 0))), (rf, .inl (E.2.1, 3, .inl (fun _ => 0)))]) [0, 6, 7, 9] (by decide) rfl
  have hFc := va_free (wc := [(x, .inr (8, [.ref t, .ref rd, .ref sc, .ref n, .ref tr, .ref kp, .ref bk, .ref kb, .ref hi, .ref dr, .ref rf, .int 0])), (n, .inr (6, [.ref n1, .ref n2, .int 0, .int 0, .ref n3, .ref n4])), (n1, .inl (E.2.1, 81, .inl (fun _ => 0))), (rf, .inl (E.2.1, 3, .inl (fun _ => 0)))]) hD hS hA [0, 6, 7, 9] rfl
  refine va_calli (va_runV (As := [.int (xs 1), .int (xs 2), .int (xs 3)]) (rest := []) ⟨hx, hb, hml, hown, hts⟩ (c_move l E H.size x t rd sc n tr kp bk kb hi dr rf n1 n2 n3 n4 (xs 1) (xs 2) (xs 3)) (cwV 3 hts gl_c_move_67 rfl rfl rfl (by decide +kernel) ⟨Nat.le_of_ble_eq_true rfl, Nat.le_of_ble_eq_true rfl⟩) ⟨pW.blind, va_recv hK hPc (ci := 8) (q0 := 0) rfl rfl, (pW.pre ⟨hK, hN⟩ hPc hDc)⟩ rfl rfl hl.1 rfl (lv_room (Nat.le_of_ble_eq_true rfl)) dL_law_573 ⟨Nat.le_of_ble_eq_true rfl, Nat.le_of_ble_eq_true rfl⟩) hS (fun q _ h => hFc q h) hFc (fun r_4 u tt H1 locs ht hvm hw hB hz1 hk1 hS => ?_)
  obtain ⟨hP1, hD1⟩ := hB
  rw [ht] at hP1
  obtain ⟨hP, hD⟩ := va_join (wr := [(t, .inr (7, [.ref b1, .int 0])), (b1, .inl (E.2.2.1, 320, .inl (fun _ => 0))), (rd, .inr (4, [.ref t, .ref r1, .ref r2, .ref r3, .int 0, .int 0, .int 0, .int 0, .int 0, .int 0, .int (-1)])), (r1, .inl (E.2.1, 3, .inl (fun _ => 0))), (sc, .inr (5, [.ref s1, .ref s2, .int 0])), (hi, .inr (3, [.ref v1, .int 0, .int 0])), (mo, .inr (9, [.int 0, .ref m_tape, .int 0, .int 0, .int 0, .int 0, .int 0, .int 0, .long 0, .int 0, .int 0, .int 0, .int 0, .ref m_readPlace, .ref m_script, .ref m_scriptLong, .int 0, .ref m_now, .ref m_refused, .int 0, .ref m_shareX, .ref m_shareY, .int 0, .int 0, .ref m_askedRow, .int 0, .ref m_kept, .int 0, .long 0, .ref m_aside, .int 0, .int 0, .ref m_spelled, .int 0, .ref m_image, .int 0])), (m_tape, .inl (E.2.1, 320, .inl (fun _ => 0))), (m_scriptLong, .inl (E.2.1, 5, .inl (fun _ => 0))), (m_now, .inl (E.2.1, 265, .inl (fun _ => 0))), (m_refused, .inl (E.2.1, 3, .inl (fun _ => 0))), (o, .inl (E.2.2.2, 1, .inr (.inl (fun _ => 0))))]) (w1 := []) hP hD [0, 6, 7, 9] [1, 2, 3, 4, 5, 8, 10, 11, 12, 13, 14, 15] rfl rfl (by decide) (by decide) hk1 hFc hP1 hD1
  generalize H1 = H at hP hS ⊢
  have hP : va_P E.1 vwCl [(t, .inr (7, [.ref b1, .int 0])), (b1, .inl (E.2.2.1, 320, .inl (fun _ => 0))), (rd, .inr (4, [.ref t, .ref r1, .ref r2, .ref r3, .int 0, .int 0, .int 0, .int 0, .int 0, .int 0, .int (-1)])), (r1, .inl (E.2.1, 3, .inl (fun _ => 0))), (sc, .inr (5, [.ref s1, .ref s2, .int 0])), (hi, .inr (3, [.ref v1, .int 0, .int 0])), (mo, .inr (9, [.int 0, .ref m_tape, .int 0, .int 0, .int 0, .int 0, .int 0, .int 0, .long 0, .int 0, .int 0, .int 0, .int 0, .ref m_readPlace, .ref m_script, .ref m_scriptLong, .int 0, .ref m_now, .ref m_refused, .int 0, .ref m_shareX, .ref m_shareY, .int 0, .int 0, .ref m_askedRow, .int 0, .ref m_kept, .int 0, .long 0, .ref m_aside, .int 0, .int 0, .ref m_spelled, .int 0, .ref m_image, .int 0])), (m_tape, .inl (E.2.1, 320, .inl (fun _ => 0))), (m_scriptLong, .inl (E.2.1, 5, .inl (fun _ => 0))), (m_now, .inl (E.2.1, 265, .inl (fun _ => 0))), (m_refused, .inl (E.2.1, 3, .inl (fun _ => 0))), (o, .inl (E.2.2.2, 1, .inr (.inl (fun _ => 0))))] H := hP
  have hD : va_D A [(t, .inr (7, [.ref b1, .int 0])), (b1, .inl (E.2.2.1, 320, .inl (fun _ => 0))), (rd, .inr (4, [.ref t, .ref r1, .ref r2, .ref r3, .int 0, .int 0, .int 0, .int 0, .int 0, .int 0, .int (-1)])), (r1, .inl (E.2.1, 3, .inl (fun _ => 0))), (sc, .inr (5, [.ref s1, .ref s2, .int 0])), (hi, .inr (3, [.ref v1, .int 0, .int 0])), (mo, .inr (9, [.int 0, .ref m_tape, .int 0, .int 0, .int 0, .int 0, .int 0, .int 0, .long 0, .int 0, .int 0, .int 0, .int 0, .ref m_readPlace, .ref m_script, .ref m_scriptLong, .int 0, .ref m_now, .ref m_refused, .int 0, .ref m_shareX, .ref m_shareY, .int 0, .int 0, .ref m_askedRow, .int 0, .ref m_kept, .int 0, .long 0, .ref m_aside, .int 0, .int 0, .ref m_spelled, .int 0, .ref m_image, .int 0])), (m_tape, .inl (E.2.1, 320, .inl (fun _ => 0))), (m_scriptLong, .inl (E.2.1, 5, .inl (fun _ => 0))), (m_now, .inl (E.2.1, 265, .inl (fun _ => 0))), (m_refused, .inl (E.2.1, 3, .inl (fun _ => 0))), (o, .inl (E.2.2.2, 1, .inr (.inl (fun _ => 0))))] := hD
  have hr_4 := hw
  obtain rfl : r_4 = -1 := hr_4
  refine lv_aload_n hx hb dL_law_576 rfl (lv_at hl 2 rfl) ?_
  refine lv_aload_n hx hb dL_law_577 rfl (lv_at hl 0 rfl) ?_
  refine lv_iload hx hb dL_law_578 (lv_at hl 4 rfl) ?_
  refine lv_iconst (v := 1) hx hb dL_law_580 (by decide) ?_
  refine lv_iadd hx hb dL_law_581 ?_
  refine lv_topi (fun z_5 ez_5 => ?_)
  obtain rfl : z_5 = 1 := ez_5.trans (by decide)
  refine va_sld hx hb hX hbl hbA hS (vin rfl) dL_law_582 ?_
  refine W.eq (g2 := F0 m 583 ls [.int (xs 1), .ref mo, .int (-1)]) rfl ?_
  refine lv_aload_n hx hb dL_law_583 rfl (lv_at hl 0 rfl) ?_
  refine lv_iload hx hb dL_law_584 (lv_at hl 4 rfl) ?_
  refine lv_iconst (v := 2) hx hb dL_law_586 (by decide) ?_
  refine lv_iadd hx hb dL_law_587 ?_
  refine lv_topi (fun z_6 ez_6 => ?_)
  obtain rfl : z_6 = 2 := ez_6.trans (by decide)
  refine va_sld hx hb hX hbl hbA hS (vin rfl) dL_law_588 ?_
  refine W.eq (g2 := F0 m 589 ls [.int (xs 2), .int (xs 1), .ref mo, .int (-1)]) rfl ?_
  refine lv_aload_n hx hb dL_law_589 rfl (lv_at hl 0 rfl) ?_
  refine lv_iload hx hb dL_law_590 (lv_at hl 4 rfl) ?_
  refine lv_iconst (v := 3) hx hb dL_law_592 (by decide) ?_
  refine lv_iadd hx hb dL_law_593 ?_
  refine lv_topi (fun z_7 ez_7 => ?_)
  obtain rfl : z_7 = 3 := ez_7.trans (by decide)
  refine va_sld hx hb hX hbl hbA hS (vin rfl) dL_law_594 ?_
  refine W.eq (g2 := F0 m 595 ls [.int (xs 3), .int (xs 2), .int (xs 1), .ref mo, .int (-1)]) rfl ?_
  have hPc := hP.sub (ws' := [(mo, .inr (9, [.int 0, .ref m_tape, .int 0, .int 0, .int 0, .int 0, .int 0, .int 0, .long 0, .int 0, .int 0, .int 0, .int 0, .ref m_readPlace, .ref m_script, .ref m_scriptLong, .int 0, .ref m_now, .ref m_refused, .int 0, .ref m_shareX, .ref m_shareY, .int 0, .int 0, .ref m_askedRow, .int 0, .ref m_kept, .int 0, .long 0, .ref m_aside, .int 0, .int 0, .ref m_spelled, .int 0, .ref m_image, .int 0])), (m_now, .inl (E.2.1, 265, .inl (fun _ => 0))), (m_refused, .inl (E.2.1, 3, .inl (fun _ => 0)))]) [6, 9, 10] rfl
  have hDc := hD.sub (ws' := [(mo, .inr (9, [.int 0, .ref m_tape, .int 0, .int 0, .int 0, .int 0, .int 0, .int 0, .long 0, .int 0, .int 0, .int 0, .int 0, .ref m_readPlace, .ref m_script, .ref m_scriptLong, .int 0, .ref m_now, .ref m_refused, .int 0, .ref m_shareX, .ref m_shareY, .int 0, .int 0, .ref m_askedRow, .int 0, .ref m_kept, .int 0, .long 0, .ref m_aside, .int 0, .int 0, .ref m_spelled, .int 0, .ref m_image, .int 0])), (m_now, .inl (E.2.1, 265, .inl (fun _ => 0))), (m_refused, .inl (E.2.1, 3, .inl (fun _ => 0)))]) [6, 9, 10] (by decide) rfl
  have hFc := va_free (wc := [(mo, .inr (9, [.int 0, .ref m_tape, .int 0, .int 0, .int 0, .int 0, .int 0, .int 0, .long 0, .int 0, .int 0, .int 0, .int 0, .ref m_readPlace, .ref m_script, .ref m_scriptLong, .int 0, .ref m_now, .ref m_refused, .int 0, .ref m_shareX, .ref m_shareY, .int 0, .int 0, .ref m_askedRow, .int 0, .ref m_kept, .int 0, .long 0, .ref m_aside, .int 0, .int 0, .ref m_spelled, .int 0, .ref m_image, .int 0])), (m_now, .inl (E.2.1, 265, .inl (fun _ => 0))), (m_refused, .inl (E.2.1, 3, .inl (fun _ => 0)))]) hD hS hA [6, 9, 10] rfl
  refine va_calli (va_runV (As := [.int (xs 1), .int (xs 2), .int (xs 3)]) (rest := [.int (-1)]) ⟨hx, hb, hml, hown, hts⟩ (d_move l E H.size mo m_tape m_readPlace m_script m_scriptLong m_now m_refused m_shareX m_shareY m_askedRow m_kept m_aside m_spelled m_image (xs 1) (xs 2) (xs 3)) (cwV 3 hts gl_d_move_71 rfl rfl rfl (by decide +kernel) ⟨Nat.le_of_ble_eq_true rfl, Nat.le_of_ble_eq_true rfl⟩) ⟨pW.blind, va_recv hK hPc (ci := 9) (q0 := 0) rfl rfl, (pW.pre ⟨hK, hN⟩ hPc hDc)⟩ rfl rfl hl.1 rfl (lv_room (Nat.le_of_ble_eq_true rfl)) dL_law_595 ⟨Nat.le_of_ble_eq_true rfl, Nat.le_of_ble_eq_true rfl⟩) hS (fun q _ h => hFc q h) hFc (fun r_8 u tt H1 locs ht hvm hw hB hz1 hk1 hS => ?_)
  obtain ⟨hP1, hD1⟩ := hB
  rw [ht] at hP1
  obtain ⟨hP, hD⟩ := va_join (wr := [(t, .inr (7, [.ref b1, .int 0])), (b1, .inl (E.2.2.1, 320, .inl (fun _ => 0))), (rd, .inr (4, [.ref t, .ref r1, .ref r2, .ref r3, .int 0, .int 0, .int 0, .int 0, .int 0, .int 0, .int (-1)])), (r1, .inl (E.2.1, 3, .inl (fun _ => 0))), (sc, .inr (5, [.ref s1, .ref s2, .int 0])), (hi, .inr (3, [.ref v1, .int 0, .int 0])), (m_tape, .inl (E.2.1, 320, .inl (fun _ => 0))), (m_scriptLong, .inl (E.2.1, 5, .inl (fun _ => 0))), (o, .inl (E.2.2.2, 1, .inr (.inl (fun _ => 0))))]) (w1 := []) hP hD [6, 9, 10] [0, 1, 2, 3, 4, 5, 7, 8, 11] rfl rfl (by decide) (by decide) hk1 hFc hP1 hD1
  generalize H1 = H at hP hS ⊢
  have hP : va_P E.1 vwCl [(t, .inr (7, [.ref b1, .int 0])), (b1, .inl (E.2.2.1, 320, .inl (fun _ => 0))), (rd, .inr (4, [.ref t, .ref r1, .ref r2, .ref r3, .int 0, .int 0, .int 0, .int 0, .int 0, .int 0, .int (-1)])), (r1, .inl (E.2.1, 3, .inl (fun _ => 0))), (sc, .inr (5, [.ref s1, .ref s2, .int 0])), (hi, .inr (3, [.ref v1, .int 0, .int 0])), (m_tape, .inl (E.2.1, 320, .inl (fun _ => 0))), (m_scriptLong, .inl (E.2.1, 5, .inl (fun _ => 0))), (o, .inl (E.2.2.2, 1, .inr (.inl (fun _ => 0))))] H := hP
  have hD : va_D A [(t, .inr (7, [.ref b1, .int 0])), (b1, .inl (E.2.2.1, 320, .inl (fun _ => 0))), (rd, .inr (4, [.ref t, .ref r1, .ref r2, .ref r3, .int 0, .int 0, .int 0, .int 0, .int 0, .int 0, .int (-1)])), (r1, .inl (E.2.1, 3, .inl (fun _ => 0))), (sc, .inr (5, [.ref s1, .ref s2, .int 0])), (hi, .inr (3, [.ref v1, .int 0, .int 0])), (m_tape, .inl (E.2.1, 320, .inl (fun _ => 0))), (m_scriptLong, .inl (E.2.1, 5, .inl (fun _ => 0))), (o, .inl (E.2.2.2, 1, .inr (.inl (fun _ => 0))))] := hD
  have hr_8 := hw
  obtain rfl : r_8 = -1 := hr_8
  refine lv_icmp_eq (tgt := 1665) hx hb dL_law_598 (by decide) (fun _ => ?_) (fun q => absurd (by decide) q)
  exact law_end hflags C0 hAe hS (lv_sub hl [0, 4] rfl)

set_option maxHeartbeats 4000000 in
set_option maxRecDepth 100000 in
theorem lc_10 {p : Program} {l : Launch} {e : Env} {s : State} {m : MethodId} {below : List Frame} {meth : Method} {c : Code} (hflags : l.flags = flags0) {b : Nat} {xs : Nat → Int32} (C0 : lw_At p s m meth c b 6 xs) {E : EE} (hK : va_K E.1 vwCl (TY E) s) (hN : NX s) {A : Nat → Prop} (hAe : (fun q : Nat => s.heap.size ≤ q) = A) (hZ : ZM A s s.heap) {x t rd sc n tr kp bk kb hi dr rf b1 r1 r2 r3 s1 s2 n1 n2 n3 n4 v1 mo m_tape m_readPlace m_script m_scriptLong m_now m_refused m_shareX m_shareY m_askedRow m_kept m_aside m_spelled m_image o : Nat} {H : Heap} {locs : List Loc} (hP : va_P E.1 vwCl [(x, .inr (8, [.ref t, .ref rd, .ref sc, .ref n, .ref tr, .ref kp, .ref bk, .ref kb, .ref hi, .ref dr, .ref rf, .int 0])), (t, .inr (7, [.ref b1, .int 0])), (b1, .inl (E.2.2.1, 320, .inl (fun _ => 0))), (rd, .inr (4, [.ref t, .ref r1, .ref r2, .ref r3, .int 0, .int 0, .int 0, .int 0, .int 0, .int 0, .int (-1)])), (r1, .inl (E.2.1, 3, .inl (fun _ => 0))), (sc, .inr (5, [.ref s1, .ref s2, .int 0])), (n, .inr (6, [.ref n1, .ref n2, .int 0, .int 0, .ref n3, .ref n4])), (n1, .inl (E.2.1, 81, .inl (fun _ => 0))), (hi, .inr (3, [.ref v1, .int 0, .int 0])), (rf, .inl (E.2.1, 3, .inl (fun _ => 0))), (mo, .inr (9, [.int 0, .ref m_tape, .int 0, .int 0, .int 0, .int 0, .int 0, .int 0, .long 0, .int 0, .int 0, .int 0, .int 0, .ref m_readPlace, .ref m_script, .ref m_scriptLong, .int 0, .ref m_now, .ref m_refused, .int 0, .ref m_shareX, .ref m_shareY, .int 0, .int 0, .ref m_askedRow, .int 0, .ref m_kept, .int 0, .long 0, .ref m_aside, .int 0, .int 0, .ref m_spelled, .int 0, .ref m_image, .int 0])), (m_tape, .inl (E.2.1, 320, .inl (fun _ => 0))), (m_scriptLong, .inl (E.2.1, 5, .inl (fun _ => 0))), (m_now, .inl (E.2.1, 265, .inl (fun _ => 0))), (m_refused, .inl (E.2.1, 3, .inl (fun _ => 0))), (o, .inl (E.2.2.2, 1, .inr (.inl (fun _ => 0))))] H) (hD : va_D A [(x, .inr (8, [.ref t, .ref rd, .ref sc, .ref n, .ref tr, .ref kp, .ref bk, .ref kb, .ref hi, .ref dr, .ref rf, .int 0])), (t, .inr (7, [.ref b1, .int 0])), (b1, .inl (E.2.2.1, 320, .inl (fun _ => 0))), (rd, .inr (4, [.ref t, .ref r1, .ref r2, .ref r3, .int 0, .int 0, .int 0, .int 0, .int 0, .int 0, .int (-1)])), (r1, .inl (E.2.1, 3, .inl (fun _ => 0))), (sc, .inr (5, [.ref s1, .ref s2, .int 0])), (n, .inr (6, [.ref n1, .ref n2, .int 0, .int 0, .ref n3, .ref n4])), (n1, .inl (E.2.1, 81, .inl (fun _ => 0))), (hi, .inr (3, [.ref v1, .int 0, .int 0])), (rf, .inl (E.2.1, 3, .inl (fun _ => 0))), (mo, .inr (9, [.int 0, .ref m_tape, .int 0, .int 0, .int 0, .int 0, .int 0, .int 0, .long 0, .int 0, .int 0, .int 0, .int 0, .ref m_readPlace, .ref m_script, .ref m_scriptLong, .int 0, .ref m_now, .ref m_refused, .int 0, .ref m_shareX, .ref m_shareY, .int 0, .int 0, .ref m_askedRow, .int 0, .ref m_kept, .int 0, .long 0, .ref m_aside, .int 0, .int 0, .ref m_spelled, .int 0, .ref m_image, .int 0])), (m_tape, .inl (E.2.1, 320, .inl (fun _ => 0))), (m_scriptLong, .inl (E.2.1, 5, .inl (fun _ => 0))), (m_now, .inl (E.2.1, 265, .inl (fun _ => 0))), (m_refused, .inl (E.2.1, 3, .inl (fun _ => 0))), (o, .inl (E.2.2.2, 1, .inr (.inl (fun _ => 0))))]) (hS : va_S A s.heap H locs) {ls : Array Slot} (hl : lv_has ls 7 [(0, .ref b), (1, .ref x), (2, .ref mo), (3, .ref o), (4, .int 0)]) : W p l e room_1 s m #[Value.ref b] below meth c H locs 1000 100000 (lw_Z below #[Value.ref b] s) (F0 m 603 ls []) := by
  obtain ⟨hx, hb, hr, hml, hown, hts, hX, hbl, hlocks, hgv⟩ := id C0
  have hown : s.vm.findClass RL = some m.cls := hown
  have hA : ∀ q : Nat, s.heap.size ≤ q → A q := fun q h => by rw [← hAe]; exact h
  have hbA : ¬ A b := by rw [← hAe]; exact Nat.not_le.mpr hbl
  refine lv_aload_n hx hb dL_law_603 rfl (lv_at hl 1 rfl) ?_
  refine lv_aload_n hx hb dL_law_604 rfl (lv_at hl 0 rfl) ?_
  refine lv_iload hx hb dL_law_605 (lv_at hl 4 rfl) ?_
  refine lv_iconst (v := 1) hx hb dL_law_607 (by decide) ?_
  refine lv_iadd hx hb dL_law_608 ?_
  refine lv_topi (fun z_1 ez_1 => ?_)
  obtain rfl : z_1 = 1 := ez_1.trans (by decide)
  refine va_sld hx hb hX hbl hbA hS (vin rfl) dL_law_609 ?_
  refine W.eq (g2 := F0 m 610 ls [.int (xs 1), .ref x]) rfl ?_
  have hPc := hP.sub (ws' := [(x, .inr (8, [.ref t, .ref rd, .ref sc, .ref n, .ref tr, .ref kp, .ref bk, .ref kb, .ref hi, .ref dr, .ref rf, .int 0])), (n, .inr (6, [.ref n1, .ref n2, .int 0, .int 0, .ref n3, .ref n4])), (n1, .inl (E.2.1, 81, .inl (fun _ => 0))), (rf, .inl (E.2.1, 3, .inl (fun _ => 0)))]) [0, 6, 7, 9] rfl
  have hDc := hD.sub (ws' := [(x, .inr (8, [.ref t, .ref rd, .ref sc, .ref n, .ref tr, .ref kp, .ref bk, .ref kb, .ref hi, .ref dr, .ref rf, .int 0])), (n, .inr (6, [.ref n1, .ref n2, .int 0, .int 0, .ref n3, .ref n4])), (n1, .inl (E.2.1, 81, .inl (fun _ => 0))), (rf, .inl (E.2.1, 3, .inl (fun _ => 0)))]) [0, 6, 7, 9] (by decide) rfl
  have hFc := va_free (wc := [(x, .inr (8, [.ref t, .ref rd, .ref sc, .ref n, .ref tr, .ref kp, .ref bk, .ref kb, .ref hi, .ref dr, .ref rf, .int 0])), (n, .inr (6, [.ref n1, .ref n2, .int 0, .int 0, .ref n3, .ref n4])), (n1, .inl (E.2.1, 81, .inl (fun _ => 0))), (rf, .inl (E.2.1, 3, .inl (fun _ => 0)))]) hD hS hA [0, 6, 7, 9] rfl
  refine va_calli (va_runV (As := [.int (xs 1)]) (rest := []) ⟨hx, hb, hml, hown, hts⟩ (c_freeze l E H.size x t rd sc n tr kp bk kb hi dr rf n1 n2 n3 n4 (xs 1)) (cwV 1 hts gl_c_freeze_72 rfl rfl rfl (by decide +kernel) ⟨Nat.le_of_ble_eq_true rfl, Nat.le_of_ble_eq_true rfl⟩) ⟨pW.blind, va_recv hK hPc (ci := 8) (q0 := 0) rfl rfl, (pW.pre ⟨hK, hN⟩ hPc hDc)⟩ rfl rfl hl.1 rfl (lv_room (Nat.le_of_ble_eq_true rfl)) dL_law_610 ⟨Nat.le_of_ble_eq_true rfl, Nat.le_of_ble_eq_true rfl⟩) hS (fun q _ h => hFc q h) hFc (fun r_2 u tt H1 locs ht hvm hw hB hz1 hk1 hS => ?_)
  obtain ⟨hP1, hD1⟩ := hB
  rw [ht] at hP1
  obtain ⟨hP, hD⟩ := va_join (wr := [(t, .inr (7, [.ref b1, .int 0])), (b1, .inl (E.2.2.1, 320, .inl (fun _ => 0))), (rd, .inr (4, [.ref t, .ref r1, .ref r2, .ref r3, .int 0, .int 0, .int 0, .int 0, .int 0, .int 0, .int (-1)])), (r1, .inl (E.2.1, 3, .inl (fun _ => 0))), (sc, .inr (5, [.ref s1, .ref s2, .int 0])), (hi, .inr (3, [.ref v1, .int 0, .int 0])), (mo, .inr (9, [.int 0, .ref m_tape, .int 0, .int 0, .int 0, .int 0, .int 0, .int 0, .long 0, .int 0, .int 0, .int 0, .int 0, .ref m_readPlace, .ref m_script, .ref m_scriptLong, .int 0, .ref m_now, .ref m_refused, .int 0, .ref m_shareX, .ref m_shareY, .int 0, .int 0, .ref m_askedRow, .int 0, .ref m_kept, .int 0, .long 0, .ref m_aside, .int 0, .int 0, .ref m_spelled, .int 0, .ref m_image, .int 0])), (m_tape, .inl (E.2.1, 320, .inl (fun _ => 0))), (m_scriptLong, .inl (E.2.1, 5, .inl (fun _ => 0))), (m_now, .inl (E.2.1, 265, .inl (fun _ => 0))), (m_refused, .inl (E.2.1, 3, .inl (fun _ => 0))), (o, .inl (E.2.2.2, 1, .inr (.inl (fun _ => 0))))]) (w1 := []) hP hD [0, 6, 7, 9] [1, 2, 3, 4, 5, 8, 10, 11, 12, 13, 14, 15] rfl rfl (by decide) (by decide) hk1 hFc hP1 hD1
  generalize H1 = H at hP hS ⊢
  have hP : va_P E.1 vwCl [(t, .inr (7, [.ref b1, .int 0])), (b1, .inl (E.2.2.1, 320, .inl (fun _ => 0))), (rd, .inr (4, [.ref t, .ref r1, .ref r2, .ref r3, .int 0, .int 0, .int 0, .int 0, .int 0, .int 0, .int (-1)])), (r1, .inl (E.2.1, 3, .inl (fun _ => 0))), (sc, .inr (5, [.ref s1, .ref s2, .int 0])), (hi, .inr (3, [.ref v1, .int 0, .int 0])), (mo, .inr (9, [.int 0, .ref m_tape, .int 0, .int 0, .int 0, .int 0, .int 0, .int 0, .long 0, .int 0, .int 0, .int 0, .int 0, .ref m_readPlace, .ref m_script, .ref m_scriptLong, .int 0, .ref m_now, .ref m_refused, .int 0, .ref m_shareX, .ref m_shareY, .int 0, .int 0, .ref m_askedRow, .int 0, .ref m_kept, .int 0, .long 0, .ref m_aside, .int 0, .int 0, .ref m_spelled, .int 0, .ref m_image, .int 0])), (m_tape, .inl (E.2.1, 320, .inl (fun _ => 0))), (m_scriptLong, .inl (E.2.1, 5, .inl (fun _ => 0))), (m_now, .inl (E.2.1, 265, .inl (fun _ => 0))), (m_refused, .inl (E.2.1, 3, .inl (fun _ => 0))), (o, .inl (E.2.2.2, 1, .inr (.inl (fun _ => 0))))] H := hP
  have hD : va_D A [(t, .inr (7, [.ref b1, .int 0])), (b1, .inl (E.2.2.1, 320, .inl (fun _ => 0))), (rd, .inr (4, [.ref t, .ref r1, .ref r2, .ref r3, .int 0, .int 0, .int 0, .int 0, .int 0, .int 0, .int (-1)])), (r1, .inl (E.2.1, 3, .inl (fun _ => 0))), (sc, .inr (5, [.ref s1, .ref s2, .int 0])), (hi, .inr (3, [.ref v1, .int 0, .int 0])), (mo, .inr (9, [.int 0, .ref m_tape, .int 0, .int 0, .int 0, .int 0, .int 0, .int 0, .long 0, .int 0, .int 0, .int 0, .int 0, .ref m_readPlace, .ref m_script, .ref m_scriptLong, .int 0, .ref m_now, .ref m_refused, .int 0, .ref m_shareX, .ref m_shareY, .int 0, .int 0, .ref m_askedRow, .int 0, .ref m_kept, .int 0, .long 0, .ref m_aside, .int 0, .int 0, .ref m_spelled, .int 0, .ref m_image, .int 0])), (m_tape, .inl (E.2.1, 320, .inl (fun _ => 0))), (m_scriptLong, .inl (E.2.1, 5, .inl (fun _ => 0))), (m_now, .inl (E.2.1, 265, .inl (fun _ => 0))), (m_refused, .inl (E.2.1, 3, .inl (fun _ => 0))), (o, .inl (E.2.2.2, 1, .inr (.inl (fun _ => 0))))] := hD
  have hr_2 := hw
  obtain rfl : r_2 = -1 := hr_2
  refine lv_aload_n hx hb dL_law_613 rfl (lv_at hl 2 rfl) ?_
  refine lv_aload_n hx hb dL_law_614 rfl (lv_at hl 0 rfl) ?_
  refine lv_iload hx hb dL_law_615 (lv_at hl 4 rfl) ?_
  refine lv_iconst (v := 1) hx hb dL_law_617 (by decide) ?_
  refine lv_iadd hx hb dL_law_618 ?_
  refine lv_topi (fun z_3 ez_3 => ?_)
  obtain rfl : z_3 = 1 := ez_3.trans (by decide)
  refine va_sld hx hb hX hbl hbA hS (vin rfl) dL_law_619 ?_
  refine W.eq (g2 := F0 m 620 ls [.int (xs 1), .ref mo, .int (-1)]) rfl ?_
  have hPc := hP.sub (ws' := [(mo, .inr (9, [.int 0, .ref m_tape, .int 0, .int 0, .int 0, .int 0, .int 0, .int 0, .long 0, .int 0, .int 0, .int 0, .int 0, .ref m_readPlace, .ref m_script, .ref m_scriptLong, .int 0, .ref m_now, .ref m_refused, .int 0, .ref m_shareX, .ref m_shareY, .int 0, .int 0, .ref m_askedRow, .int 0, .ref m_kept, .int 0, .long 0, .ref m_aside, .int 0, .int 0, .ref m_spelled, .int 0, .ref m_image, .int 0])), (m_now, .inl (E.2.1, 265, .inl (fun _ => 0))), (m_refused, .inl (E.2.1, 3, .inl (fun _ => 0)))]) [6, 9, 10] rfl
  have hDc := hD.sub (ws' := [(mo, .inr (9, [.int 0, .ref m_tape, .int 0, .int 0, .int 0, .int 0, .int 0, .int 0, .long 0, .int 0, .int 0, .int 0, .int 0, .ref m_readPlace, .ref m_script, .ref m_scriptLong, .int 0, .ref m_now, .ref m_refused, .int 0, .ref m_shareX, .ref m_shareY, .int 0, .int 0, .ref m_askedRow, .int 0, .ref m_kept, .int 0, .long 0, .ref m_aside, .int 0, .int 0, .ref m_spelled, .int 0, .ref m_image, .int 0])), (m_now, .inl (E.2.1, 265, .inl (fun _ => 0))), (m_refused, .inl (E.2.1, 3, .inl (fun _ => 0)))]) [6, 9, 10] (by decide) rfl
  have hFc := va_free (wc := [(mo, .inr (9, [.int 0, .ref m_tape, .int 0, .int 0, .int 0, .int 0, .int 0, .int 0, .long 0, .int 0, .int 0, .int 0, .int 0, .ref m_readPlace, .ref m_script, .ref m_scriptLong, .int 0, .ref m_now, .ref m_refused, .int 0, .ref m_shareX, .ref m_shareY, .int 0, .int 0, .ref m_askedRow, .int 0, .ref m_kept, .int 0, .long 0, .ref m_aside, .int 0, .int 0, .ref m_spelled, .int 0, .ref m_image, .int 0])), (m_now, .inl (E.2.1, 265, .inl (fun _ => 0))), (m_refused, .inl (E.2.1, 3, .inl (fun _ => 0)))]) hD hS hA [6, 9, 10] rfl
  refine va_calli (va_runV (As := [.int (xs 1)]) (rest := [.int (-1)]) ⟨hx, hb, hml, hown, hts⟩ (d_freeze l E H.size mo m_tape m_readPlace m_script m_scriptLong m_now m_refused m_shareX m_shareY m_askedRow m_kept m_aside m_spelled m_image (xs 1)) (cwV 1 hts gl_d_freeze_75 rfl rfl rfl (by decide +kernel) ⟨Nat.le_of_ble_eq_true rfl, Nat.le_of_ble_eq_true rfl⟩) ⟨pW.blind, va_recv hK hPc (ci := 9) (q0 := 0) rfl rfl, (pW.pre ⟨hK, hN⟩ hPc hDc)⟩ rfl rfl hl.1 rfl (lv_room (Nat.le_of_ble_eq_true rfl)) dL_law_620 ⟨Nat.le_of_ble_eq_true rfl, Nat.le_of_ble_eq_true rfl⟩) hS (fun q _ h => hFc q h) hFc (fun r_4 u tt H1 locs ht hvm hw hB hz1 hk1 hS => ?_)
  obtain ⟨hP1, hD1⟩ := hB
  rw [ht] at hP1
  obtain ⟨hP, hD⟩ := va_join (wr := [(t, .inr (7, [.ref b1, .int 0])), (b1, .inl (E.2.2.1, 320, .inl (fun _ => 0))), (rd, .inr (4, [.ref t, .ref r1, .ref r2, .ref r3, .int 0, .int 0, .int 0, .int 0, .int 0, .int 0, .int (-1)])), (r1, .inl (E.2.1, 3, .inl (fun _ => 0))), (sc, .inr (5, [.ref s1, .ref s2, .int 0])), (hi, .inr (3, [.ref v1, .int 0, .int 0])), (m_tape, .inl (E.2.1, 320, .inl (fun _ => 0))), (m_scriptLong, .inl (E.2.1, 5, .inl (fun _ => 0))), (o, .inl (E.2.2.2, 1, .inr (.inl (fun _ => 0))))]) (w1 := []) hP hD [6, 9, 10] [0, 1, 2, 3, 4, 5, 7, 8, 11] rfl rfl (by decide) (by decide) hk1 hFc hP1 hD1
  generalize H1 = H at hP hS ⊢
  have hP : va_P E.1 vwCl [(t, .inr (7, [.ref b1, .int 0])), (b1, .inl (E.2.2.1, 320, .inl (fun _ => 0))), (rd, .inr (4, [.ref t, .ref r1, .ref r2, .ref r3, .int 0, .int 0, .int 0, .int 0, .int 0, .int 0, .int (-1)])), (r1, .inl (E.2.1, 3, .inl (fun _ => 0))), (sc, .inr (5, [.ref s1, .ref s2, .int 0])), (hi, .inr (3, [.ref v1, .int 0, .int 0])), (m_tape, .inl (E.2.1, 320, .inl (fun _ => 0))), (m_scriptLong, .inl (E.2.1, 5, .inl (fun _ => 0))), (o, .inl (E.2.2.2, 1, .inr (.inl (fun _ => 0))))] H := hP
  have hD : va_D A [(t, .inr (7, [.ref b1, .int 0])), (b1, .inl (E.2.2.1, 320, .inl (fun _ => 0))), (rd, .inr (4, [.ref t, .ref r1, .ref r2, .ref r3, .int 0, .int 0, .int 0, .int 0, .int 0, .int 0, .int (-1)])), (r1, .inl (E.2.1, 3, .inl (fun _ => 0))), (sc, .inr (5, [.ref s1, .ref s2, .int 0])), (hi, .inr (3, [.ref v1, .int 0, .int 0])), (m_tape, .inl (E.2.1, 320, .inl (fun _ => 0))), (m_scriptLong, .inl (E.2.1, 5, .inl (fun _ => 0))), (o, .inl (E.2.2.2, 1, .inr (.inl (fun _ => 0))))] := hD
  have hr_4 := hw
  obtain rfl : r_4 = -1 := hr_4
  refine lv_icmp_eq (tgt := 1665) hx hb dL_law_623 (by decide) (fun _ => ?_) (fun q => absurd (by decide) q)
  exact law_end hflags C0 hAe hS (lv_sub hl [0, 4] rfl)

set_option maxHeartbeats 4000000 in
set_option maxRecDepth 100000 in
theorem lc_11 {p : Program} {l : Launch} {e : Env} {s : State} {m : MethodId} {below : List Frame} {meth : Method} {c : Code} (hflags : l.flags = flags0) {b : Nat} {xs : Nat → Int32} (C0 : lw_At p s m meth c b 6 xs) {E : EE} (hK : va_K E.1 vwCl (TY E) s) (hN : NX s) {A : Nat → Prop} (hAe : (fun q : Nat => s.heap.size ≤ q) = A) (hZ : ZM A s s.heap) {x t rd sc n tr kp bk kb hi dr rf b1 r1 r2 r3 s1 s2 n1 n2 n3 n4 v1 mo m_tape m_readPlace m_script m_scriptLong m_now m_refused m_shareX m_shareY m_askedRow m_kept m_aside m_spelled m_image o : Nat} {H : Heap} {locs : List Loc} (hP : va_P E.1 vwCl [(x, .inr (8, [.ref t, .ref rd, .ref sc, .ref n, .ref tr, .ref kp, .ref bk, .ref kb, .ref hi, .ref dr, .ref rf, .int 0])), (t, .inr (7, [.ref b1, .int 0])), (b1, .inl (E.2.2.1, 320, .inl (fun _ => 0))), (rd, .inr (4, [.ref t, .ref r1, .ref r2, .ref r3, .int 0, .int 0, .int 0, .int 0, .int 0, .int 0, .int (-1)])), (r1, .inl (E.2.1, 3, .inl (fun _ => 0))), (sc, .inr (5, [.ref s1, .ref s2, .int 0])), (n, .inr (6, [.ref n1, .ref n2, .int 0, .int 0, .ref n3, .ref n4])), (n1, .inl (E.2.1, 81, .inl (fun _ => 0))), (hi, .inr (3, [.ref v1, .int 0, .int 0])), (rf, .inl (E.2.1, 3, .inl (fun _ => 0))), (mo, .inr (9, [.int 0, .ref m_tape, .int 0, .int 0, .int 0, .int 0, .int 0, .int 0, .long 0, .int 0, .int 0, .int 0, .int 0, .ref m_readPlace, .ref m_script, .ref m_scriptLong, .int 0, .ref m_now, .ref m_refused, .int 0, .ref m_shareX, .ref m_shareY, .int 0, .int 0, .ref m_askedRow, .int 0, .ref m_kept, .int 0, .long 0, .ref m_aside, .int 0, .int 0, .ref m_spelled, .int 0, .ref m_image, .int 0])), (m_tape, .inl (E.2.1, 320, .inl (fun _ => 0))), (m_scriptLong, .inl (E.2.1, 5, .inl (fun _ => 0))), (m_now, .inl (E.2.1, 265, .inl (fun _ => 0))), (m_refused, .inl (E.2.1, 3, .inl (fun _ => 0))), (o, .inl (E.2.2.2, 1, .inr (.inl (fun _ => 0))))] H) (hD : va_D A [(x, .inr (8, [.ref t, .ref rd, .ref sc, .ref n, .ref tr, .ref kp, .ref bk, .ref kb, .ref hi, .ref dr, .ref rf, .int 0])), (t, .inr (7, [.ref b1, .int 0])), (b1, .inl (E.2.2.1, 320, .inl (fun _ => 0))), (rd, .inr (4, [.ref t, .ref r1, .ref r2, .ref r3, .int 0, .int 0, .int 0, .int 0, .int 0, .int 0, .int (-1)])), (r1, .inl (E.2.1, 3, .inl (fun _ => 0))), (sc, .inr (5, [.ref s1, .ref s2, .int 0])), (n, .inr (6, [.ref n1, .ref n2, .int 0, .int 0, .ref n3, .ref n4])), (n1, .inl (E.2.1, 81, .inl (fun _ => 0))), (hi, .inr (3, [.ref v1, .int 0, .int 0])), (rf, .inl (E.2.1, 3, .inl (fun _ => 0))), (mo, .inr (9, [.int 0, .ref m_tape, .int 0, .int 0, .int 0, .int 0, .int 0, .int 0, .long 0, .int 0, .int 0, .int 0, .int 0, .ref m_readPlace, .ref m_script, .ref m_scriptLong, .int 0, .ref m_now, .ref m_refused, .int 0, .ref m_shareX, .ref m_shareY, .int 0, .int 0, .ref m_askedRow, .int 0, .ref m_kept, .int 0, .long 0, .ref m_aside, .int 0, .int 0, .ref m_spelled, .int 0, .ref m_image, .int 0])), (m_tape, .inl (E.2.1, 320, .inl (fun _ => 0))), (m_scriptLong, .inl (E.2.1, 5, .inl (fun _ => 0))), (m_now, .inl (E.2.1, 265, .inl (fun _ => 0))), (m_refused, .inl (E.2.1, 3, .inl (fun _ => 0))), (o, .inl (E.2.2.2, 1, .inr (.inl (fun _ => 0))))]) (hS : va_S A s.heap H locs) {ls : Array Slot} (hl : lv_has ls 7 [(0, .ref b), (1, .ref x), (2, .ref mo), (3, .ref o), (4, .int 0)]) : W p l e room_1 s m #[Value.ref b] below meth c H locs 1000 100000 (lw_Z below #[Value.ref b] s) (F0 m 628 ls []) := by
  obtain ⟨hx, hb, hr, hml, hown, hts, hX, hbl, hlocks, hgv⟩ := id C0
  have hown : s.vm.findClass RL = some m.cls := hown
  have hA : ∀ q : Nat, s.heap.size ≤ q → A q := fun q h => by rw [← hAe]; exact h
  have hbA : ¬ A b := by rw [← hAe]; exact Nat.not_le.mpr hbl
  refine lv_aload_n hx hb dL_law_628 rfl (lv_at hl 1 rfl) ?_
  have hPc := hP.sub (ws' := [(x, .inr (8, [.ref t, .ref rd, .ref sc, .ref n, .ref tr, .ref kp, .ref bk, .ref kb, .ref hi, .ref dr, .ref rf, .int 0])), (n, .inr (6, [.ref n1, .ref n2, .int 0, .int 0, .ref n3, .ref n4])), (n1, .inl (E.2.1, 81, .inl (fun _ => 0))), (rf, .inl (E.2.1, 3, .inl (fun _ => 0)))]) [0, 6, 7, 9] rfl
  have hDc := hD.sub (ws' := [(x, .inr (8, [.ref t, .ref rd, .ref sc, .ref n, .ref tr, .ref kp, .ref bk, .ref kb, .ref hi, .ref dr, .ref rf, .int 0])), (n, .inr (6, [.ref n1, .ref n2, .int 0, .int 0, .ref n3, .ref n4])), (n1, .inl (E.2.1, 81, .inl (fun _ => 0))), (rf, .inl (E.2.1, 3, .inl (fun _ => 0)))]) [0, 6, 7, 9] (by decide) rfl
  have hFc := va_free (wc := [(x, .inr (8, [.ref t, .ref rd, .ref sc, .ref n, .ref tr, .ref kp, .ref bk, .ref kb, .ref hi, .ref dr, .ref rf, .int 0])), (n, .inr (6, [.ref n1, .ref n2, .int 0, .int 0, .ref n3, .ref n4])), (n1, .inl (E.2.1, 81, .inl (fun _ => 0))), (rf, .inl (E.2.1, 3, .inl (fun _ => 0)))]) hD hS hA [0, 6, 7, 9] rfl
  refine va_calli (va_runV (As := []) (rest := []) ⟨hx, hb, hml, hown, hts⟩ (c_sync l E H.size x t rd sc n tr kp bk kb hi dr rf n1 n2 n3 n4) (cwV 0 hts gl_c_sync_76 rfl rfl rfl (by decide +kernel) ⟨Nat.le_of_ble_eq_true rfl, Nat.le_of_ble_eq_true rfl⟩) ⟨pW.blind, va_recv hK hPc (ci := 8) (q0 := 0) rfl rfl, (pW.pre ⟨hK, hN⟩ hPc hDc)⟩ rfl rfl hl.1 rfl (lv_room (Nat.le_of_ble_eq_true rfl)) dL_law_629 ⟨Nat.le_of_ble_eq_true rfl, Nat.le_of_ble_eq_true rfl⟩) hS (fun q _ h => hFc q h) hFc (fun r_1 u tt H1 locs ht hvm hw hB hz1 hk1 hS => ?_)
  obtain ⟨hP1, hD1⟩ := hB
  rw [ht] at hP1
  obtain ⟨hP, hD⟩ := va_join (wr := [(t, .inr (7, [.ref b1, .int 0])), (b1, .inl (E.2.2.1, 320, .inl (fun _ => 0))), (rd, .inr (4, [.ref t, .ref r1, .ref r2, .ref r3, .int 0, .int 0, .int 0, .int 0, .int 0, .int 0, .int (-1)])), (r1, .inl (E.2.1, 3, .inl (fun _ => 0))), (sc, .inr (5, [.ref s1, .ref s2, .int 0])), (hi, .inr (3, [.ref v1, .int 0, .int 0])), (mo, .inr (9, [.int 0, .ref m_tape, .int 0, .int 0, .int 0, .int 0, .int 0, .int 0, .long 0, .int 0, .int 0, .int 0, .int 0, .ref m_readPlace, .ref m_script, .ref m_scriptLong, .int 0, .ref m_now, .ref m_refused, .int 0, .ref m_shareX, .ref m_shareY, .int 0, .int 0, .ref m_askedRow, .int 0, .ref m_kept, .int 0, .long 0, .ref m_aside, .int 0, .int 0, .ref m_spelled, .int 0, .ref m_image, .int 0])), (m_tape, .inl (E.2.1, 320, .inl (fun _ => 0))), (m_scriptLong, .inl (E.2.1, 5, .inl (fun _ => 0))), (m_now, .inl (E.2.1, 265, .inl (fun _ => 0))), (m_refused, .inl (E.2.1, 3, .inl (fun _ => 0))), (o, .inl (E.2.2.2, 1, .inr (.inl (fun _ => 0))))]) (w1 := []) hP hD [0, 6, 7, 9] [1, 2, 3, 4, 5, 8, 10, 11, 12, 13, 14, 15] rfl rfl (by decide) (by decide) hk1 hFc hP1 hD1
  generalize H1 = H at hP hS ⊢
  have hP : va_P E.1 vwCl [(t, .inr (7, [.ref b1, .int 0])), (b1, .inl (E.2.2.1, 320, .inl (fun _ => 0))), (rd, .inr (4, [.ref t, .ref r1, .ref r2, .ref r3, .int 0, .int 0, .int 0, .int 0, .int 0, .int 0, .int (-1)])), (r1, .inl (E.2.1, 3, .inl (fun _ => 0))), (sc, .inr (5, [.ref s1, .ref s2, .int 0])), (hi, .inr (3, [.ref v1, .int 0, .int 0])), (mo, .inr (9, [.int 0, .ref m_tape, .int 0, .int 0, .int 0, .int 0, .int 0, .int 0, .long 0, .int 0, .int 0, .int 0, .int 0, .ref m_readPlace, .ref m_script, .ref m_scriptLong, .int 0, .ref m_now, .ref m_refused, .int 0, .ref m_shareX, .ref m_shareY, .int 0, .int 0, .ref m_askedRow, .int 0, .ref m_kept, .int 0, .long 0, .ref m_aside, .int 0, .int 0, .ref m_spelled, .int 0, .ref m_image, .int 0])), (m_tape, .inl (E.2.1, 320, .inl (fun _ => 0))), (m_scriptLong, .inl (E.2.1, 5, .inl (fun _ => 0))), (m_now, .inl (E.2.1, 265, .inl (fun _ => 0))), (m_refused, .inl (E.2.1, 3, .inl (fun _ => 0))), (o, .inl (E.2.2.2, 1, .inr (.inl (fun _ => 0))))] H := hP
  have hD : va_D A [(t, .inr (7, [.ref b1, .int 0])), (b1, .inl (E.2.2.1, 320, .inl (fun _ => 0))), (rd, .inr (4, [.ref t, .ref r1, .ref r2, .ref r3, .int 0, .int 0, .int 0, .int 0, .int 0, .int 0, .int (-1)])), (r1, .inl (E.2.1, 3, .inl (fun _ => 0))), (sc, .inr (5, [.ref s1, .ref s2, .int 0])), (hi, .inr (3, [.ref v1, .int 0, .int 0])), (mo, .inr (9, [.int 0, .ref m_tape, .int 0, .int 0, .int 0, .int 0, .int 0, .int 0, .long 0, .int 0, .int 0, .int 0, .int 0, .ref m_readPlace, .ref m_script, .ref m_scriptLong, .int 0, .ref m_now, .ref m_refused, .int 0, .ref m_shareX, .ref m_shareY, .int 0, .int 0, .ref m_askedRow, .int 0, .ref m_kept, .int 0, .long 0, .ref m_aside, .int 0, .int 0, .ref m_spelled, .int 0, .ref m_image, .int 0])), (m_tape, .inl (E.2.1, 320, .inl (fun _ => 0))), (m_scriptLong, .inl (E.2.1, 5, .inl (fun _ => 0))), (m_now, .inl (E.2.1, 265, .inl (fun _ => 0))), (m_refused, .inl (E.2.1, 3, .inl (fun _ => 0))), (o, .inl (E.2.2.2, 1, .inr (.inl (fun _ => 0))))] := hD
  have hr_1 := hw
  obtain rfl : r_1 = -1 := hr_1
  refine lv_aload_n hx hb dL_law_632 rfl (lv_at hl 2 rfl) ?_
  have hPc := hP.sub (ws' := [(mo, .inr (9, [.int 0, .ref m_tape, .int 0, .int 0, .int 0, .int 0, .int 0, .int 0, .long 0, .int 0, .int 0, .int 0, .int 0, .ref m_readPlace, .ref m_script, .ref m_scriptLong, .int 0, .ref m_now, .ref m_refused, .int 0, .ref m_shareX, .ref m_shareY, .int 0, .int 0, .ref m_askedRow, .int 0, .ref m_kept, .int 0, .long 0, .ref m_aside, .int 0, .int 0, .ref m_spelled, .int 0, .ref m_image, .int 0])), (m_now, .inl (E.2.1, 265, .inl (fun _ => 0))), (m_refused, .inl (E.2.1, 3, .inl (fun _ => 0)))]) [6, 9, 10] rfl
  have hDc := hD.sub (ws' := [(mo, .inr (9, [.int 0, .ref m_tape, .int 0, .int 0, .int 0, .int 0, .int 0, .int 0, .long 0, .int 0, .int 0, .int 0, .int 0, .ref m_readPlace, .ref m_script, .ref m_scriptLong, .int 0, .ref m_now, .ref m_refused, .int 0, .ref m_shareX, .ref m_shareY, .int 0, .int 0, .ref m_askedRow, .int 0, .ref m_kept, .int 0, .long 0, .ref m_aside, .int 0, .int 0, .ref m_spelled, .int 0, .ref m_image, .int 0])), (m_now, .inl (E.2.1, 265, .inl (fun _ => 0))), (m_refused, .inl (E.2.1, 3, .inl (fun _ => 0)))]) [6, 9, 10] (by decide) rfl
  have hFc := va_free (wc := [(mo, .inr (9, [.int 0, .ref m_tape, .int 0, .int 0, .int 0, .int 0, .int 0, .int 0, .long 0, .int 0, .int 0, .int 0, .int 0, .ref m_readPlace, .ref m_script, .ref m_scriptLong, .int 0, .ref m_now, .ref m_refused, .int 0, .ref m_shareX, .ref m_shareY, .int 0, .int 0, .ref m_askedRow, .int 0, .ref m_kept, .int 0, .long 0, .ref m_aside, .int 0, .int 0, .ref m_spelled, .int 0, .ref m_image, .int 0])), (m_now, .inl (E.2.1, 265, .inl (fun _ => 0))), (m_refused, .inl (E.2.1, 3, .inl (fun _ => 0)))]) hD hS hA [6, 9, 10] rfl
  refine va_calli (va_runV (As := []) (rest := [.int (-1)]) ⟨hx, hb, hml, hown, hts⟩ (d_sync l E H.size mo m_tape m_readPlace m_script m_scriptLong m_now m_refused m_shareX m_shareY m_askedRow m_kept m_aside m_spelled m_image) (cwV 0 hts gl_d_sync_79 rfl rfl rfl (by decide +kernel) ⟨Nat.le_of_ble_eq_true rfl, Nat.le_of_ble_eq_true rfl⟩) ⟨pW.blind, va_recv hK hPc (ci := 9) (q0 := 0) rfl rfl, (pW.pre ⟨hK, hN⟩ hPc hDc)⟩ rfl rfl hl.1 rfl (lv_room (Nat.le_of_ble_eq_true rfl)) dL_law_633 ⟨Nat.le_of_ble_eq_true rfl, Nat.le_of_ble_eq_true rfl⟩) hS (fun q _ h => hFc q h) hFc (fun r_2 u tt H1 locs ht hvm hw hB hz1 hk1 hS => ?_)
  obtain ⟨hP1, hD1⟩ := hB
  rw [ht] at hP1
  obtain ⟨hP, hD⟩ := va_join (wr := [(t, .inr (7, [.ref b1, .int 0])), (b1, .inl (E.2.2.1, 320, .inl (fun _ => 0))), (rd, .inr (4, [.ref t, .ref r1, .ref r2, .ref r3, .int 0, .int 0, .int 0, .int 0, .int 0, .int 0, .int (-1)])), (r1, .inl (E.2.1, 3, .inl (fun _ => 0))), (sc, .inr (5, [.ref s1, .ref s2, .int 0])), (hi, .inr (3, [.ref v1, .int 0, .int 0])), (m_tape, .inl (E.2.1, 320, .inl (fun _ => 0))), (m_scriptLong, .inl (E.2.1, 5, .inl (fun _ => 0))), (o, .inl (E.2.2.2, 1, .inr (.inl (fun _ => 0))))]) (w1 := []) hP hD [6, 9, 10] [0, 1, 2, 3, 4, 5, 7, 8, 11] rfl rfl (by decide) (by decide) hk1 hFc hP1 hD1
  generalize H1 = H at hP hS ⊢
  have hP : va_P E.1 vwCl [(t, .inr (7, [.ref b1, .int 0])), (b1, .inl (E.2.2.1, 320, .inl (fun _ => 0))), (rd, .inr (4, [.ref t, .ref r1, .ref r2, .ref r3, .int 0, .int 0, .int 0, .int 0, .int 0, .int 0, .int (-1)])), (r1, .inl (E.2.1, 3, .inl (fun _ => 0))), (sc, .inr (5, [.ref s1, .ref s2, .int 0])), (hi, .inr (3, [.ref v1, .int 0, .int 0])), (m_tape, .inl (E.2.1, 320, .inl (fun _ => 0))), (m_scriptLong, .inl (E.2.1, 5, .inl (fun _ => 0))), (o, .inl (E.2.2.2, 1, .inr (.inl (fun _ => 0))))] H := hP
  have hD : va_D A [(t, .inr (7, [.ref b1, .int 0])), (b1, .inl (E.2.2.1, 320, .inl (fun _ => 0))), (rd, .inr (4, [.ref t, .ref r1, .ref r2, .ref r3, .int 0, .int 0, .int 0, .int 0, .int 0, .int 0, .int (-1)])), (r1, .inl (E.2.1, 3, .inl (fun _ => 0))), (sc, .inr (5, [.ref s1, .ref s2, .int 0])), (hi, .inr (3, [.ref v1, .int 0, .int 0])), (m_tape, .inl (E.2.1, 320, .inl (fun _ => 0))), (m_scriptLong, .inl (E.2.1, 5, .inl (fun _ => 0))), (o, .inl (E.2.2.2, 1, .inr (.inl (fun _ => 0))))] := hD
  have hr_2 := hw
  obtain rfl : r_2 = -1 := hr_2
  refine lv_icmp_eq (tgt := 1665) hx hb dL_law_636 (by decide) (fun _ => ?_) (fun q => absurd (by decide) q)
  exact law_end hflags C0 hAe hS (lv_sub hl [0, 4] rfl)

set_option maxHeartbeats 4000000 in
set_option maxRecDepth 100000 in
theorem lc_12 {p : Program} {l : Launch} {e : Env} {s : State} {m : MethodId} {below : List Frame} {meth : Method} {c : Code} (hflags : l.flags = flags0) {b : Nat} {xs : Nat → Int32} (C0 : lw_At p s m meth c b 6 xs) {E : EE} (hK : va_K E.1 vwCl (TY E) s) (hN : NX s) {A : Nat → Prop} (hAe : (fun q : Nat => s.heap.size ≤ q) = A) (hZ : ZM A s s.heap) {x t rd sc n tr kp bk kb hi dr rf b1 r1 r2 r3 s1 s2 n1 n2 n3 n4 v1 mo m_tape m_readPlace m_script m_scriptLong m_now m_refused m_shareX m_shareY m_askedRow m_kept m_aside m_spelled m_image o : Nat} {H : Heap} {locs : List Loc} (hP : va_P E.1 vwCl [(x, .inr (8, [.ref t, .ref rd, .ref sc, .ref n, .ref tr, .ref kp, .ref bk, .ref kb, .ref hi, .ref dr, .ref rf, .int 0])), (t, .inr (7, [.ref b1, .int 0])), (b1, .inl (E.2.2.1, 320, .inl (fun _ => 0))), (rd, .inr (4, [.ref t, .ref r1, .ref r2, .ref r3, .int 0, .int 0, .int 0, .int 0, .int 0, .int 0, .int (-1)])), (r1, .inl (E.2.1, 3, .inl (fun _ => 0))), (sc, .inr (5, [.ref s1, .ref s2, .int 0])), (n, .inr (6, [.ref n1, .ref n2, .int 0, .int 0, .ref n3, .ref n4])), (n1, .inl (E.2.1, 81, .inl (fun _ => 0))), (hi, .inr (3, [.ref v1, .int 0, .int 0])), (rf, .inl (E.2.1, 3, .inl (fun _ => 0))), (mo, .inr (9, [.int 0, .ref m_tape, .int 0, .int 0, .int 0, .int 0, .int 0, .int 0, .long 0, .int 0, .int 0, .int 0, .int 0, .ref m_readPlace, .ref m_script, .ref m_scriptLong, .int 0, .ref m_now, .ref m_refused, .int 0, .ref m_shareX, .ref m_shareY, .int 0, .int 0, .ref m_askedRow, .int 0, .ref m_kept, .int 0, .long 0, .ref m_aside, .int 0, .int 0, .ref m_spelled, .int 0, .ref m_image, .int 0])), (m_tape, .inl (E.2.1, 320, .inl (fun _ => 0))), (m_scriptLong, .inl (E.2.1, 5, .inl (fun _ => 0))), (m_now, .inl (E.2.1, 265, .inl (fun _ => 0))), (m_refused, .inl (E.2.1, 3, .inl (fun _ => 0))), (o, .inl (E.2.2.2, 1, .inr (.inl (fun _ => 0))))] H) (hD : va_D A [(x, .inr (8, [.ref t, .ref rd, .ref sc, .ref n, .ref tr, .ref kp, .ref bk, .ref kb, .ref hi, .ref dr, .ref rf, .int 0])), (t, .inr (7, [.ref b1, .int 0])), (b1, .inl (E.2.2.1, 320, .inl (fun _ => 0))), (rd, .inr (4, [.ref t, .ref r1, .ref r2, .ref r3, .int 0, .int 0, .int 0, .int 0, .int 0, .int 0, .int (-1)])), (r1, .inl (E.2.1, 3, .inl (fun _ => 0))), (sc, .inr (5, [.ref s1, .ref s2, .int 0])), (n, .inr (6, [.ref n1, .ref n2, .int 0, .int 0, .ref n3, .ref n4])), (n1, .inl (E.2.1, 81, .inl (fun _ => 0))), (hi, .inr (3, [.ref v1, .int 0, .int 0])), (rf, .inl (E.2.1, 3, .inl (fun _ => 0))), (mo, .inr (9, [.int 0, .ref m_tape, .int 0, .int 0, .int 0, .int 0, .int 0, .int 0, .long 0, .int 0, .int 0, .int 0, .int 0, .ref m_readPlace, .ref m_script, .ref m_scriptLong, .int 0, .ref m_now, .ref m_refused, .int 0, .ref m_shareX, .ref m_shareY, .int 0, .int 0, .ref m_askedRow, .int 0, .ref m_kept, .int 0, .long 0, .ref m_aside, .int 0, .int 0, .ref m_spelled, .int 0, .ref m_image, .int 0])), (m_tape, .inl (E.2.1, 320, .inl (fun _ => 0))), (m_scriptLong, .inl (E.2.1, 5, .inl (fun _ => 0))), (m_now, .inl (E.2.1, 265, .inl (fun _ => 0))), (m_refused, .inl (E.2.1, 3, .inl (fun _ => 0))), (o, .inl (E.2.2.2, 1, .inr (.inl (fun _ => 0))))]) (hS : va_S A s.heap H locs) {ls : Array Slot} (hl : lv_has ls 7 [(0, .ref b), (1, .ref x), (2, .ref mo), (3, .ref o), (4, .int 0)]) : W p l e room_1 s m #[Value.ref b] below meth c H locs 1000 100000 (lw_Z below #[Value.ref b] s) (F0 m 641 ls []) := by
  obtain ⟨hx, hb, hr, hml, hown, hts, hX, hbl, hlocks, hgv⟩ := id C0
  have hown : s.vm.findClass RL = some m.cls := hown
  have hA : ∀ q : Nat, s.heap.size ≤ q → A q := fun q h => by rw [← hAe]; exact h
  have hbA : ¬ A b := by rw [← hAe]; exact Nat.not_le.mpr hbl
  refine lv_aload_n hx hb dL_law_641 rfl (lv_at hl 1 rfl) ?_
  refine lv_aload_n hx hb dL_law_642 rfl (lv_at hl 0 rfl) ?_
  refine lv_iload hx hb dL_law_643 (lv_at hl 4 rfl) ?_
  refine lv_iconst (v := 1) hx hb dL_law_645 (by decide) ?_
  refine lv_iadd hx hb dL_law_646 ?_
  refine lv_topi (fun z_1 ez_1 => ?_)
  obtain rfl : z_1 = 1 := ez_1.trans (by decide)
  refine va_sld hx hb hX hbl hbA hS (vin rfl) dL_law_647 ?_
  refine W.eq (g2 := F0 m 648 ls [.int (xs 1), .ref x]) rfl ?_
  have hPc := hP.sub (ws' := [(x, .inr (8, [.ref t, .ref rd, .ref sc, .ref n, .ref tr, .ref kp, .ref bk, .ref kb, .ref hi, .ref dr, .ref rf, .int 0])), (n, .inr (6, [.ref n1, .ref n2, .int 0, .int 0, .ref n3, .ref n4])), (n1, .inl (E.2.1, 81, .inl (fun _ => 0))), (rf, .inl (E.2.1, 3, .inl (fun _ => 0)))]) [0, 6, 7, 9] rfl
  have hDc := hD.sub (ws' := [(x, .inr (8, [.ref t, .ref rd, .ref sc, .ref n, .ref tr, .ref kp, .ref bk, .ref kb, .ref hi, .ref dr, .ref rf, .int 0])), (n, .inr (6, [.ref n1, .ref n2, .int 0, .int 0, .ref n3, .ref n4])), (n1, .inl (E.2.1, 81, .inl (fun _ => 0))), (rf, .inl (E.2.1, 3, .inl (fun _ => 0)))]) [0, 6, 7, 9] (by decide) rfl
  have hFc := va_free (wc := [(x, .inr (8, [.ref t, .ref rd, .ref sc, .ref n, .ref tr, .ref kp, .ref bk, .ref kb, .ref hi, .ref dr, .ref rf, .int 0])), (n, .inr (6, [.ref n1, .ref n2, .int 0, .int 0, .ref n3, .ref n4])), (n1, .inl (E.2.1, 81, .inl (fun _ => 0))), (rf, .inl (E.2.1, 3, .inl (fun _ => 0)))]) hD hS hA [0, 6, 7, 9] rfl
  refine va_calli (va_runV (As := [.int (xs 1)]) (rest := []) ⟨hx, hb, hml, hown, hts⟩ (c_bound l E H.size x t rd sc n tr kp bk kb hi dr rf n1 n2 n3 n4 (xs 1)) (cwV 1 hts gl_c_bound_80 rfl rfl rfl (by decide +kernel) ⟨Nat.le_of_ble_eq_true rfl, Nat.le_of_ble_eq_true rfl⟩) ⟨pW.blind, va_recv hK hPc (ci := 8) (q0 := 0) rfl rfl, (pW.pre ⟨hK, hN⟩ hPc hDc)⟩ rfl rfl hl.1 rfl (lv_room (Nat.le_of_ble_eq_true rfl)) dL_law_648 ⟨Nat.le_of_ble_eq_true rfl, Nat.le_of_ble_eq_true rfl⟩) hS (fun q _ h => hFc q h) hFc (fun r_2 u tt H1 locs ht hvm hw hB hz1 hk1 hS => ?_)
  obtain ⟨hP1, hD1⟩ := hB
  rw [ht] at hP1
  obtain ⟨hP, hD⟩ := va_join (wr := [(t, .inr (7, [.ref b1, .int 0])), (b1, .inl (E.2.2.1, 320, .inl (fun _ => 0))), (rd, .inr (4, [.ref t, .ref r1, .ref r2, .ref r3, .int 0, .int 0, .int 0, .int 0, .int 0, .int 0, .int (-1)])), (r1, .inl (E.2.1, 3, .inl (fun _ => 0))), (sc, .inr (5, [.ref s1, .ref s2, .int 0])), (hi, .inr (3, [.ref v1, .int 0, .int 0])), (mo, .inr (9, [.int 0, .ref m_tape, .int 0, .int 0, .int 0, .int 0, .int 0, .int 0, .long 0, .int 0, .int 0, .int 0, .int 0, .ref m_readPlace, .ref m_script, .ref m_scriptLong, .int 0, .ref m_now, .ref m_refused, .int 0, .ref m_shareX, .ref m_shareY, .int 0, .int 0, .ref m_askedRow, .int 0, .ref m_kept, .int 0, .long 0, .ref m_aside, .int 0, .int 0, .ref m_spelled, .int 0, .ref m_image, .int 0])), (m_tape, .inl (E.2.1, 320, .inl (fun _ => 0))), (m_scriptLong, .inl (E.2.1, 5, .inl (fun _ => 0))), (m_now, .inl (E.2.1, 265, .inl (fun _ => 0))), (m_refused, .inl (E.2.1, 3, .inl (fun _ => 0))), (o, .inl (E.2.2.2, 1, .inr (.inl (fun _ => 0))))]) (w1 := []) hP hD [0, 6, 7, 9] [1, 2, 3, 4, 5, 8, 10, 11, 12, 13, 14, 15] rfl rfl (by decide) (by decide) hk1 hFc hP1 hD1
  generalize H1 = H at hP hS ⊢
  have hP : va_P E.1 vwCl [(t, .inr (7, [.ref b1, .int 0])), (b1, .inl (E.2.2.1, 320, .inl (fun _ => 0))), (rd, .inr (4, [.ref t, .ref r1, .ref r2, .ref r3, .int 0, .int 0, .int 0, .int 0, .int 0, .int 0, .int (-1)])), (r1, .inl (E.2.1, 3, .inl (fun _ => 0))), (sc, .inr (5, [.ref s1, .ref s2, .int 0])), (hi, .inr (3, [.ref v1, .int 0, .int 0])), (mo, .inr (9, [.int 0, .ref m_tape, .int 0, .int 0, .int 0, .int 0, .int 0, .int 0, .long 0, .int 0, .int 0, .int 0, .int 0, .ref m_readPlace, .ref m_script, .ref m_scriptLong, .int 0, .ref m_now, .ref m_refused, .int 0, .ref m_shareX, .ref m_shareY, .int 0, .int 0, .ref m_askedRow, .int 0, .ref m_kept, .int 0, .long 0, .ref m_aside, .int 0, .int 0, .ref m_spelled, .int 0, .ref m_image, .int 0])), (m_tape, .inl (E.2.1, 320, .inl (fun _ => 0))), (m_scriptLong, .inl (E.2.1, 5, .inl (fun _ => 0))), (m_now, .inl (E.2.1, 265, .inl (fun _ => 0))), (m_refused, .inl (E.2.1, 3, .inl (fun _ => 0))), (o, .inl (E.2.2.2, 1, .inr (.inl (fun _ => 0))))] H := hP
  have hD : va_D A [(t, .inr (7, [.ref b1, .int 0])), (b1, .inl (E.2.2.1, 320, .inl (fun _ => 0))), (rd, .inr (4, [.ref t, .ref r1, .ref r2, .ref r3, .int 0, .int 0, .int 0, .int 0, .int 0, .int 0, .int (-1)])), (r1, .inl (E.2.1, 3, .inl (fun _ => 0))), (sc, .inr (5, [.ref s1, .ref s2, .int 0])), (hi, .inr (3, [.ref v1, .int 0, .int 0])), (mo, .inr (9, [.int 0, .ref m_tape, .int 0, .int 0, .int 0, .int 0, .int 0, .int 0, .long 0, .int 0, .int 0, .int 0, .int 0, .ref m_readPlace, .ref m_script, .ref m_scriptLong, .int 0, .ref m_now, .ref m_refused, .int 0, .ref m_shareX, .ref m_shareY, .int 0, .int 0, .ref m_askedRow, .int 0, .ref m_kept, .int 0, .long 0, .ref m_aside, .int 0, .int 0, .ref m_spelled, .int 0, .ref m_image, .int 0])), (m_tape, .inl (E.2.1, 320, .inl (fun _ => 0))), (m_scriptLong, .inl (E.2.1, 5, .inl (fun _ => 0))), (m_now, .inl (E.2.1, 265, .inl (fun _ => 0))), (m_refused, .inl (E.2.1, 3, .inl (fun _ => 0))), (o, .inl (E.2.2.2, 1, .inr (.inl (fun _ => 0))))] := hD
  have hr_2 := hw
  obtain rfl : r_2 = -100000000 := hr_2
  refine lv_aload_n hx hb dL_law_651 rfl (lv_at hl 2 rfl) ?_
  refine lv_aload_n hx hb dL_law_652 rfl (lv_at hl 0 rfl) ?_
  refine lv_iload hx hb dL_law_653 (lv_at hl 4 rfl) ?_
  refine lv_iconst (v := 1) hx hb dL_law_655 (by decide) ?_
  refine lv_iadd hx hb dL_law_656 ?_
  refine lv_topi (fun z_3 ez_3 => ?_)
  obtain rfl : z_3 = 1 := ez_3.trans (by decide)
  refine va_sld hx hb hX hbl hbA hS (vin rfl) dL_law_657 ?_
  refine W.eq (g2 := F0 m 658 ls [.int (xs 1), .ref mo, .int (-100000000)]) rfl ?_
  have hPc := hP.sub (ws' := [(mo, .inr (9, [.int 0, .ref m_tape, .int 0, .int 0, .int 0, .int 0, .int 0, .int 0, .long 0, .int 0, .int 0, .int 0, .int 0, .ref m_readPlace, .ref m_script, .ref m_scriptLong, .int 0, .ref m_now, .ref m_refused, .int 0, .ref m_shareX, .ref m_shareY, .int 0, .int 0, .ref m_askedRow, .int 0, .ref m_kept, .int 0, .long 0, .ref m_aside, .int 0, .int 0, .ref m_spelled, .int 0, .ref m_image, .int 0])), (m_now, .inl (E.2.1, 265, .inl (fun _ => 0))), (m_refused, .inl (E.2.1, 3, .inl (fun _ => 0)))]) [6, 9, 10] rfl
  have hDc := hD.sub (ws' := [(mo, .inr (9, [.int 0, .ref m_tape, .int 0, .int 0, .int 0, .int 0, .int 0, .int 0, .long 0, .int 0, .int 0, .int 0, .int 0, .ref m_readPlace, .ref m_script, .ref m_scriptLong, .int 0, .ref m_now, .ref m_refused, .int 0, .ref m_shareX, .ref m_shareY, .int 0, .int 0, .ref m_askedRow, .int 0, .ref m_kept, .int 0, .long 0, .ref m_aside, .int 0, .int 0, .ref m_spelled, .int 0, .ref m_image, .int 0])), (m_now, .inl (E.2.1, 265, .inl (fun _ => 0))), (m_refused, .inl (E.2.1, 3, .inl (fun _ => 0)))]) [6, 9, 10] (by decide) rfl
  have hFc := va_free (wc := [(mo, .inr (9, [.int 0, .ref m_tape, .int 0, .int 0, .int 0, .int 0, .int 0, .int 0, .long 0, .int 0, .int 0, .int 0, .int 0, .ref m_readPlace, .ref m_script, .ref m_scriptLong, .int 0, .ref m_now, .ref m_refused, .int 0, .ref m_shareX, .ref m_shareY, .int 0, .int 0, .ref m_askedRow, .int 0, .ref m_kept, .int 0, .long 0, .ref m_aside, .int 0, .int 0, .ref m_spelled, .int 0, .ref m_image, .int 0])), (m_now, .inl (E.2.1, 265, .inl (fun _ => 0))), (m_refused, .inl (E.2.1, 3, .inl (fun _ => 0)))]) hD hS hA [6, 9, 10] rfl
  refine va_calli (va_runV (As := [.int (xs 1)]) (rest := [.int (-100000000)]) ⟨hx, hb, hml, hown, hts⟩ (d_bound l E H.size mo m_tape m_readPlace m_script m_scriptLong m_now m_refused m_shareX m_shareY m_askedRow m_kept m_aside m_spelled m_image (xs 1)) (cwV 1 hts gl_d_bound_83 rfl rfl rfl (by decide +kernel) ⟨Nat.le_of_ble_eq_true rfl, Nat.le_of_ble_eq_true rfl⟩) ⟨pW.blind, va_recv hK hPc (ci := 9) (q0 := 0) rfl rfl, (pW.pre ⟨hK, hN⟩ hPc hDc)⟩ rfl rfl hl.1 rfl (lv_room (Nat.le_of_ble_eq_true rfl)) dL_law_658 ⟨Nat.le_of_ble_eq_true rfl, Nat.le_of_ble_eq_true rfl⟩) hS (fun q _ h => hFc q h) hFc (fun r_4 u tt H1 locs ht hvm hw hB hz1 hk1 hS => ?_)
  obtain ⟨hP1, hD1⟩ := hB
  rw [ht] at hP1
  obtain ⟨hP, hD⟩ := va_join (wr := [(t, .inr (7, [.ref b1, .int 0])), (b1, .inl (E.2.2.1, 320, .inl (fun _ => 0))), (rd, .inr (4, [.ref t, .ref r1, .ref r2, .ref r3, .int 0, .int 0, .int 0, .int 0, .int 0, .int 0, .int (-1)])), (r1, .inl (E.2.1, 3, .inl (fun _ => 0))), (sc, .inr (5, [.ref s1, .ref s2, .int 0])), (hi, .inr (3, [.ref v1, .int 0, .int 0])), (m_tape, .inl (E.2.1, 320, .inl (fun _ => 0))), (m_scriptLong, .inl (E.2.1, 5, .inl (fun _ => 0))), (o, .inl (E.2.2.2, 1, .inr (.inl (fun _ => 0))))]) (w1 := []) hP hD [6, 9, 10] [0, 1, 2, 3, 4, 5, 7, 8, 11] rfl rfl (by decide) (by decide) hk1 hFc hP1 hD1
  generalize H1 = H at hP hS ⊢
  have hP : va_P E.1 vwCl [(t, .inr (7, [.ref b1, .int 0])), (b1, .inl (E.2.2.1, 320, .inl (fun _ => 0))), (rd, .inr (4, [.ref t, .ref r1, .ref r2, .ref r3, .int 0, .int 0, .int 0, .int 0, .int 0, .int 0, .int (-1)])), (r1, .inl (E.2.1, 3, .inl (fun _ => 0))), (sc, .inr (5, [.ref s1, .ref s2, .int 0])), (hi, .inr (3, [.ref v1, .int 0, .int 0])), (m_tape, .inl (E.2.1, 320, .inl (fun _ => 0))), (m_scriptLong, .inl (E.2.1, 5, .inl (fun _ => 0))), (o, .inl (E.2.2.2, 1, .inr (.inl (fun _ => 0))))] H := hP
  have hD : va_D A [(t, .inr (7, [.ref b1, .int 0])), (b1, .inl (E.2.2.1, 320, .inl (fun _ => 0))), (rd, .inr (4, [.ref t, .ref r1, .ref r2, .ref r3, .int 0, .int 0, .int 0, .int 0, .int 0, .int 0, .int (-1)])), (r1, .inl (E.2.1, 3, .inl (fun _ => 0))), (sc, .inr (5, [.ref s1, .ref s2, .int 0])), (hi, .inr (3, [.ref v1, .int 0, .int 0])), (m_tape, .inl (E.2.1, 320, .inl (fun _ => 0))), (m_scriptLong, .inl (E.2.1, 5, .inl (fun _ => 0))), (o, .inl (E.2.2.2, 1, .inr (.inl (fun _ => 0))))] := hD
  have hr_4 := hw
  obtain rfl : r_4 = -100000000 := hr_4
  refine lv_icmp_eq (tgt := 1665) hx hb dL_law_661 (by decide) (fun _ => ?_) (fun q => absurd (by decide) q)
  exact law_end hflags C0 hAe hS (lv_sub hl [0, 4] rfl)

set_option maxHeartbeats 4000000 in
set_option maxRecDepth 100000 in
theorem lc_13 {p : Program} {l : Launch} {e : Env} {s : State} {m : MethodId} {below : List Frame} {meth : Method} {c : Code} (hflags : l.flags = flags0) {b : Nat} {xs : Nat → Int32} (C0 : lw_At p s m meth c b 6 xs) {E : EE} (hK : va_K E.1 vwCl (TY E) s) (hN : NX s) {A : Nat → Prop} (hAe : (fun q : Nat => s.heap.size ≤ q) = A) (hZ : ZM A s s.heap) {x t rd sc n tr kp bk kb hi dr rf b1 r1 r2 r3 s1 s2 n1 n2 n3 n4 v1 mo m_tape m_readPlace m_script m_scriptLong m_now m_refused m_shareX m_shareY m_askedRow m_kept m_aside m_spelled m_image o : Nat} {H : Heap} {locs : List Loc} (hP : va_P E.1 vwCl [(x, .inr (8, [.ref t, .ref rd, .ref sc, .ref n, .ref tr, .ref kp, .ref bk, .ref kb, .ref hi, .ref dr, .ref rf, .int 0])), (t, .inr (7, [.ref b1, .int 0])), (b1, .inl (E.2.2.1, 320, .inl (fun _ => 0))), (rd, .inr (4, [.ref t, .ref r1, .ref r2, .ref r3, .int 0, .int 0, .int 0, .int 0, .int 0, .int 0, .int (-1)])), (r1, .inl (E.2.1, 3, .inl (fun _ => 0))), (sc, .inr (5, [.ref s1, .ref s2, .int 0])), (n, .inr (6, [.ref n1, .ref n2, .int 0, .int 0, .ref n3, .ref n4])), (n1, .inl (E.2.1, 81, .inl (fun _ => 0))), (hi, .inr (3, [.ref v1, .int 0, .int 0])), (rf, .inl (E.2.1, 3, .inl (fun _ => 0))), (mo, .inr (9, [.int 0, .ref m_tape, .int 0, .int 0, .int 0, .int 0, .int 0, .int 0, .long 0, .int 0, .int 0, .int 0, .int 0, .ref m_readPlace, .ref m_script, .ref m_scriptLong, .int 0, .ref m_now, .ref m_refused, .int 0, .ref m_shareX, .ref m_shareY, .int 0, .int 0, .ref m_askedRow, .int 0, .ref m_kept, .int 0, .long 0, .ref m_aside, .int 0, .int 0, .ref m_spelled, .int 0, .ref m_image, .int 0])), (m_tape, .inl (E.2.1, 320, .inl (fun _ => 0))), (m_scriptLong, .inl (E.2.1, 5, .inl (fun _ => 0))), (m_now, .inl (E.2.1, 265, .inl (fun _ => 0))), (m_refused, .inl (E.2.1, 3, .inl (fun _ => 0))), (o, .inl (E.2.2.2, 1, .inr (.inl (fun _ => 0))))] H) (hD : va_D A [(x, .inr (8, [.ref t, .ref rd, .ref sc, .ref n, .ref tr, .ref kp, .ref bk, .ref kb, .ref hi, .ref dr, .ref rf, .int 0])), (t, .inr (7, [.ref b1, .int 0])), (b1, .inl (E.2.2.1, 320, .inl (fun _ => 0))), (rd, .inr (4, [.ref t, .ref r1, .ref r2, .ref r3, .int 0, .int 0, .int 0, .int 0, .int 0, .int 0, .int (-1)])), (r1, .inl (E.2.1, 3, .inl (fun _ => 0))), (sc, .inr (5, [.ref s1, .ref s2, .int 0])), (n, .inr (6, [.ref n1, .ref n2, .int 0, .int 0, .ref n3, .ref n4])), (n1, .inl (E.2.1, 81, .inl (fun _ => 0))), (hi, .inr (3, [.ref v1, .int 0, .int 0])), (rf, .inl (E.2.1, 3, .inl (fun _ => 0))), (mo, .inr (9, [.int 0, .ref m_tape, .int 0, .int 0, .int 0, .int 0, .int 0, .int 0, .long 0, .int 0, .int 0, .int 0, .int 0, .ref m_readPlace, .ref m_script, .ref m_scriptLong, .int 0, .ref m_now, .ref m_refused, .int 0, .ref m_shareX, .ref m_shareY, .int 0, .int 0, .ref m_askedRow, .int 0, .ref m_kept, .int 0, .long 0, .ref m_aside, .int 0, .int 0, .ref m_spelled, .int 0, .ref m_image, .int 0])), (m_tape, .inl (E.2.1, 320, .inl (fun _ => 0))), (m_scriptLong, .inl (E.2.1, 5, .inl (fun _ => 0))), (m_now, .inl (E.2.1, 265, .inl (fun _ => 0))), (m_refused, .inl (E.2.1, 3, .inl (fun _ => 0))), (o, .inl (E.2.2.2, 1, .inr (.inl (fun _ => 0))))]) (hS : va_S A s.heap H locs) {ls : Array Slot} (hl : lv_has ls 7 [(0, .ref b), (1, .ref x), (2, .ref mo), (3, .ref o), (4, .int 0)]) : W p l e room_1 s m #[Value.ref b] below meth c H locs 1000 100000 (lw_Z below #[Value.ref b] s) (F0 m 666 ls []) := by
  obtain ⟨hx, hb, hr, hml, hown, hts, hX, hbl, hlocks, hgv⟩ := id C0
  have hown : s.vm.findClass RL = some m.cls := hown
  have hA : ∀ q : Nat, s.heap.size ≤ q → A q := fun q h => by rw [← hAe]; exact h
  have hbA : ¬ A b := by rw [← hAe]; exact Nat.not_le.mpr hbl
  refine lv_aload_n hx hb dL_law_666 rfl (lv_at hl 1 rfl) ?_
  refine lv_aload_n hx hb dL_law_667 rfl (lv_at hl 0 rfl) ?_
  refine lv_iload hx hb dL_law_668 (lv_at hl 4 rfl) ?_
  refine lv_iconst (v := 1) hx hb dL_law_670 (by decide) ?_
  refine lv_iadd hx hb dL_law_671 ?_
  refine lv_topi (fun z_1 ez_1 => ?_)
  obtain rfl : z_1 = 1 := ez_1.trans (by decide)
  refine va_sld hx hb hX hbl hbA hS (vin rfl) dL_law_672 ?_
  refine W.eq (g2 := F0 m 673 ls [.int (xs 1), .ref x]) rfl ?_
  have hPc := hP.sub (ws' := [(x, .inr (8, [.ref t, .ref rd, .ref sc, .ref n, .ref tr, .ref kp, .ref bk, .ref kb, .ref hi, .ref dr, .ref rf, .int 0])), (n, .inr (6, [.ref n1, .ref n2, .int 0, .int 0, .ref n3, .ref n4])), (n1, .inl (E.2.1, 81, .inl (fun _ => 0))), (rf, .inl (E.2.1, 3, .inl (fun _ => 0)))]) [0, 6, 7, 9] rfl
  have hDc := hD.sub (ws' := [(x, .inr (8, [.ref t, .ref rd, .ref sc, .ref n, .ref tr, .ref kp, .ref bk, .ref kb, .ref hi, .ref dr, .ref rf, .int 0])), (n, .inr (6, [.ref n1, .ref n2, .int 0, .int 0, .ref n3, .ref n4])), (n1, .inl (E.2.1, 81, .inl (fun _ => 0))), (rf, .inl (E.2.1, 3, .inl (fun _ => 0)))]) [0, 6, 7, 9] (by decide) rfl
  have hFc := va_free (wc := [(x, .inr (8, [.ref t, .ref rd, .ref sc, .ref n, .ref tr, .ref kp, .ref bk, .ref kb, .ref hi, .ref dr, .ref rf, .int 0])), (n, .inr (6, [.ref n1, .ref n2, .int 0, .int 0, .ref n3, .ref n4])), (n1, .inl (E.2.1, 81, .inl (fun _ => 0))), (rf, .inl (E.2.1, 3, .inl (fun _ => 0)))]) hD hS hA [0, 6, 7, 9] rfl
  refine va_calli (va_runV (As := [.int (xs 1)]) (rest := []) ⟨hx, hb, hml, hown, hts⟩ (c_law l E H.size x t rd sc n tr kp bk kb hi dr rf n1 n2 n3 n4 (xs 1)) (cwV 1 hts gl_c_law_84 rfl rfl rfl (by decide +kernel) ⟨Nat.le_of_ble_eq_true rfl, Nat.le_of_ble_eq_true rfl⟩) ⟨pW.blind, va_recv hK hPc (ci := 8) (q0 := 0) rfl rfl, (pW.pre ⟨hK, hN⟩ hPc hDc)⟩ rfl rfl hl.1 rfl (lv_room (Nat.le_of_ble_eq_true rfl)) dL_law_673 ⟨Nat.le_of_ble_eq_true rfl, Nat.le_of_ble_eq_true rfl⟩) hS (fun q _ h => hFc q h) hFc (fun r_2 u tt H1 locs ht hvm hw hB hz1 hk1 hS => ?_)
  obtain ⟨hP1, hD1⟩ := hB
  rw [ht] at hP1
  obtain ⟨hP, hD⟩ := va_join (wr := [(t, .inr (7, [.ref b1, .int 0])), (b1, .inl (E.2.2.1, 320, .inl (fun _ => 0))), (rd, .inr (4, [.ref t, .ref r1, .ref r2, .ref r3, .int 0, .int 0, .int 0, .int 0, .int 0, .int 0, .int (-1)])), (r1, .inl (E.2.1, 3, .inl (fun _ => 0))), (sc, .inr (5, [.ref s1, .ref s2, .int 0])), (hi, .inr (3, [.ref v1, .int 0, .int 0])), (mo, .inr (9, [.int 0, .ref m_tape, .int 0, .int 0, .int 0, .int 0, .int 0, .int 0, .long 0, .int 0, .int 0, .int 0, .int 0, .ref m_readPlace, .ref m_script, .ref m_scriptLong, .int 0, .ref m_now, .ref m_refused, .int 0, .ref m_shareX, .ref m_shareY, .int 0, .int 0, .ref m_askedRow, .int 0, .ref m_kept, .int 0, .long 0, .ref m_aside, .int 0, .int 0, .ref m_spelled, .int 0, .ref m_image, .int 0])), (m_tape, .inl (E.2.1, 320, .inl (fun _ => 0))), (m_scriptLong, .inl (E.2.1, 5, .inl (fun _ => 0))), (m_now, .inl (E.2.1, 265, .inl (fun _ => 0))), (m_refused, .inl (E.2.1, 3, .inl (fun _ => 0))), (o, .inl (E.2.2.2, 1, .inr (.inl (fun _ => 0))))]) (w1 := []) hP hD [0, 6, 7, 9] [1, 2, 3, 4, 5, 8, 10, 11, 12, 13, 14, 15] rfl rfl (by decide) (by decide) hk1 hFc hP1 hD1
  generalize H1 = H at hP hS ⊢
  have hP : va_P E.1 vwCl [(t, .inr (7, [.ref b1, .int 0])), (b1, .inl (E.2.2.1, 320, .inl (fun _ => 0))), (rd, .inr (4, [.ref t, .ref r1, .ref r2, .ref r3, .int 0, .int 0, .int 0, .int 0, .int 0, .int 0, .int (-1)])), (r1, .inl (E.2.1, 3, .inl (fun _ => 0))), (sc, .inr (5, [.ref s1, .ref s2, .int 0])), (hi, .inr (3, [.ref v1, .int 0, .int 0])), (mo, .inr (9, [.int 0, .ref m_tape, .int 0, .int 0, .int 0, .int 0, .int 0, .int 0, .long 0, .int 0, .int 0, .int 0, .int 0, .ref m_readPlace, .ref m_script, .ref m_scriptLong, .int 0, .ref m_now, .ref m_refused, .int 0, .ref m_shareX, .ref m_shareY, .int 0, .int 0, .ref m_askedRow, .int 0, .ref m_kept, .int 0, .long 0, .ref m_aside, .int 0, .int 0, .ref m_spelled, .int 0, .ref m_image, .int 0])), (m_tape, .inl (E.2.1, 320, .inl (fun _ => 0))), (m_scriptLong, .inl (E.2.1, 5, .inl (fun _ => 0))), (m_now, .inl (E.2.1, 265, .inl (fun _ => 0))), (m_refused, .inl (E.2.1, 3, .inl (fun _ => 0))), (o, .inl (E.2.2.2, 1, .inr (.inl (fun _ => 0))))] H := hP
  have hD : va_D A [(t, .inr (7, [.ref b1, .int 0])), (b1, .inl (E.2.2.1, 320, .inl (fun _ => 0))), (rd, .inr (4, [.ref t, .ref r1, .ref r2, .ref r3, .int 0, .int 0, .int 0, .int 0, .int 0, .int 0, .int (-1)])), (r1, .inl (E.2.1, 3, .inl (fun _ => 0))), (sc, .inr (5, [.ref s1, .ref s2, .int 0])), (hi, .inr (3, [.ref v1, .int 0, .int 0])), (mo, .inr (9, [.int 0, .ref m_tape, .int 0, .int 0, .int 0, .int 0, .int 0, .int 0, .long 0, .int 0, .int 0, .int 0, .int 0, .ref m_readPlace, .ref m_script, .ref m_scriptLong, .int 0, .ref m_now, .ref m_refused, .int 0, .ref m_shareX, .ref m_shareY, .int 0, .int 0, .ref m_askedRow, .int 0, .ref m_kept, .int 0, .long 0, .ref m_aside, .int 0, .int 0, .ref m_spelled, .int 0, .ref m_image, .int 0])), (m_tape, .inl (E.2.1, 320, .inl (fun _ => 0))), (m_scriptLong, .inl (E.2.1, 5, .inl (fun _ => 0))), (m_now, .inl (E.2.1, 265, .inl (fun _ => 0))), (m_refused, .inl (E.2.1, 3, .inl (fun _ => 0))), (o, .inl (E.2.2.2, 1, .inr (.inl (fun _ => 0))))] := hD
  have hr_2 := hw
  obtain rfl : r_2 = -1 := hr_2
  refine lv_aload_n hx hb dL_law_676 rfl (lv_at hl 2 rfl) ?_
  refine lv_aload_n hx hb dL_law_677 rfl (lv_at hl 0 rfl) ?_
  refine lv_iload hx hb dL_law_678 (lv_at hl 4 rfl) ?_
  refine lv_iconst (v := 1) hx hb dL_law_680 (by decide) ?_
  refine lv_iadd hx hb dL_law_681 ?_
  refine lv_topi (fun z_3 ez_3 => ?_)
  obtain rfl : z_3 = 1 := ez_3.trans (by decide)
  refine va_sld hx hb hX hbl hbA hS (vin rfl) dL_law_682 ?_
  refine W.eq (g2 := F0 m 683 ls [.int (xs 1), .ref mo, .int (-1)]) rfl ?_
  have hPc := hP.sub (ws' := [(mo, .inr (9, [.int 0, .ref m_tape, .int 0, .int 0, .int 0, .int 0, .int 0, .int 0, .long 0, .int 0, .int 0, .int 0, .int 0, .ref m_readPlace, .ref m_script, .ref m_scriptLong, .int 0, .ref m_now, .ref m_refused, .int 0, .ref m_shareX, .ref m_shareY, .int 0, .int 0, .ref m_askedRow, .int 0, .ref m_kept, .int 0, .long 0, .ref m_aside, .int 0, .int 0, .ref m_spelled, .int 0, .ref m_image, .int 0])), (m_now, .inl (E.2.1, 265, .inl (fun _ => 0))), (m_refused, .inl (E.2.1, 3, .inl (fun _ => 0)))]) [6, 9, 10] rfl
  have hDc := hD.sub (ws' := [(mo, .inr (9, [.int 0, .ref m_tape, .int 0, .int 0, .int 0, .int 0, .int 0, .int 0, .long 0, .int 0, .int 0, .int 0, .int 0, .ref m_readPlace, .ref m_script, .ref m_scriptLong, .int 0, .ref m_now, .ref m_refused, .int 0, .ref m_shareX, .ref m_shareY, .int 0, .int 0, .ref m_askedRow, .int 0, .ref m_kept, .int 0, .long 0, .ref m_aside, .int 0, .int 0, .ref m_spelled, .int 0, .ref m_image, .int 0])), (m_now, .inl (E.2.1, 265, .inl (fun _ => 0))), (m_refused, .inl (E.2.1, 3, .inl (fun _ => 0)))]) [6, 9, 10] (by decide) rfl
  have hFc := va_free (wc := [(mo, .inr (9, [.int 0, .ref m_tape, .int 0, .int 0, .int 0, .int 0, .int 0, .int 0, .long 0, .int 0, .int 0, .int 0, .int 0, .ref m_readPlace, .ref m_script, .ref m_scriptLong, .int 0, .ref m_now, .ref m_refused, .int 0, .ref m_shareX, .ref m_shareY, .int 0, .int 0, .ref m_askedRow, .int 0, .ref m_kept, .int 0, .long 0, .ref m_aside, .int 0, .int 0, .ref m_spelled, .int 0, .ref m_image, .int 0])), (m_now, .inl (E.2.1, 265, .inl (fun _ => 0))), (m_refused, .inl (E.2.1, 3, .inl (fun _ => 0)))]) hD hS hA [6, 9, 10] rfl
  refine va_calli (va_runV (As := [.int (xs 1)]) (rest := [.int (-1)]) ⟨hx, hb, hml, hown, hts⟩ (d_law l E H.size mo m_tape m_readPlace m_script m_scriptLong m_now m_refused m_shareX m_shareY m_askedRow m_kept m_aside m_spelled m_image (xs 1)) (cwV 1 hts gl_d_law_87 rfl rfl rfl (by decide +kernel) ⟨Nat.le_of_ble_eq_true rfl, Nat.le_of_ble_eq_true rfl⟩) ⟨pW.blind, va_recv hK hPc (ci := 9) (q0 := 0) rfl rfl, (pW.pre ⟨hK, hN⟩ hPc hDc)⟩ rfl rfl hl.1 rfl (lv_room (Nat.le_of_ble_eq_true rfl)) dL_law_683 ⟨Nat.le_of_ble_eq_true rfl, Nat.le_of_ble_eq_true rfl⟩) hS (fun q _ h => hFc q h) hFc (fun r_4 u tt H1 locs ht hvm hw hB hz1 hk1 hS => ?_)
  obtain ⟨hP1, hD1⟩ := hB
  rw [ht] at hP1
  obtain ⟨hP, hD⟩ := va_join (wr := [(t, .inr (7, [.ref b1, .int 0])), (b1, .inl (E.2.2.1, 320, .inl (fun _ => 0))), (rd, .inr (4, [.ref t, .ref r1, .ref r2, .ref r3, .int 0, .int 0, .int 0, .int 0, .int 0, .int 0, .int (-1)])), (r1, .inl (E.2.1, 3, .inl (fun _ => 0))), (sc, .inr (5, [.ref s1, .ref s2, .int 0])), (hi, .inr (3, [.ref v1, .int 0, .int 0])), (m_tape, .inl (E.2.1, 320, .inl (fun _ => 0))), (m_scriptLong, .inl (E.2.1, 5, .inl (fun _ => 0))), (o, .inl (E.2.2.2, 1, .inr (.inl (fun _ => 0))))]) (w1 := []) hP hD [6, 9, 10] [0, 1, 2, 3, 4, 5, 7, 8, 11] rfl rfl (by decide) (by decide) hk1 hFc hP1 hD1
  generalize H1 = H at hP hS ⊢
  have hP : va_P E.1 vwCl [(t, .inr (7, [.ref b1, .int 0])), (b1, .inl (E.2.2.1, 320, .inl (fun _ => 0))), (rd, .inr (4, [.ref t, .ref r1, .ref r2, .ref r3, .int 0, .int 0, .int 0, .int 0, .int 0, .int 0, .int (-1)])), (r1, .inl (E.2.1, 3, .inl (fun _ => 0))), (sc, .inr (5, [.ref s1, .ref s2, .int 0])), (hi, .inr (3, [.ref v1, .int 0, .int 0])), (m_tape, .inl (E.2.1, 320, .inl (fun _ => 0))), (m_scriptLong, .inl (E.2.1, 5, .inl (fun _ => 0))), (o, .inl (E.2.2.2, 1, .inr (.inl (fun _ => 0))))] H := hP
  have hD : va_D A [(t, .inr (7, [.ref b1, .int 0])), (b1, .inl (E.2.2.1, 320, .inl (fun _ => 0))), (rd, .inr (4, [.ref t, .ref r1, .ref r2, .ref r3, .int 0, .int 0, .int 0, .int 0, .int 0, .int 0, .int (-1)])), (r1, .inl (E.2.1, 3, .inl (fun _ => 0))), (sc, .inr (5, [.ref s1, .ref s2, .int 0])), (hi, .inr (3, [.ref v1, .int 0, .int 0])), (m_tape, .inl (E.2.1, 320, .inl (fun _ => 0))), (m_scriptLong, .inl (E.2.1, 5, .inl (fun _ => 0))), (o, .inl (E.2.2.2, 1, .inr (.inl (fun _ => 0))))] := hD
  have hr_4 := hw
  obtain rfl : r_4 = -1 := hr_4
  refine lv_icmp_eq (tgt := 1665) hx hb dL_law_686 (by decide) (fun _ => ?_) (fun q => absurd (by decide) q)
  exact law_end hflags C0 hAe hS (lv_sub hl [0, 4] rfl)

set_option maxHeartbeats 4000000 in
set_option maxRecDepth 100000 in
theorem lc_14 {p : Program} {l : Launch} {e : Env} {s : State} {m : MethodId} {below : List Frame} {meth : Method} {c : Code} (hflags : l.flags = flags0) {b : Nat} {xs : Nat → Int32} (C0 : lw_At p s m meth c b 6 xs) {E : EE} (hK : va_K E.1 vwCl (TY E) s) (hN : NX s) {A : Nat → Prop} (hAe : (fun q : Nat => s.heap.size ≤ q) = A) (hZ : ZM A s s.heap) {x t rd sc n tr kp bk kb hi dr rf b1 r1 r2 r3 s1 s2 n1 n2 n3 n4 v1 mo m_tape m_readPlace m_script m_scriptLong m_now m_refused m_shareX m_shareY m_askedRow m_kept m_aside m_spelled m_image o : Nat} {H : Heap} {locs : List Loc} (hP : va_P E.1 vwCl [(x, .inr (8, [.ref t, .ref rd, .ref sc, .ref n, .ref tr, .ref kp, .ref bk, .ref kb, .ref hi, .ref dr, .ref rf, .int 0])), (t, .inr (7, [.ref b1, .int 0])), (b1, .inl (E.2.2.1, 320, .inl (fun _ => 0))), (rd, .inr (4, [.ref t, .ref r1, .ref r2, .ref r3, .int 0, .int 0, .int 0, .int 0, .int 0, .int 0, .int (-1)])), (r1, .inl (E.2.1, 3, .inl (fun _ => 0))), (sc, .inr (5, [.ref s1, .ref s2, .int 0])), (n, .inr (6, [.ref n1, .ref n2, .int 0, .int 0, .ref n3, .ref n4])), (n1, .inl (E.2.1, 81, .inl (fun _ => 0))), (hi, .inr (3, [.ref v1, .int 0, .int 0])), (rf, .inl (E.2.1, 3, .inl (fun _ => 0))), (mo, .inr (9, [.int 0, .ref m_tape, .int 0, .int 0, .int 0, .int 0, .int 0, .int 0, .long 0, .int 0, .int 0, .int 0, .int 0, .ref m_readPlace, .ref m_script, .ref m_scriptLong, .int 0, .ref m_now, .ref m_refused, .int 0, .ref m_shareX, .ref m_shareY, .int 0, .int 0, .ref m_askedRow, .int 0, .ref m_kept, .int 0, .long 0, .ref m_aside, .int 0, .int 0, .ref m_spelled, .int 0, .ref m_image, .int 0])), (m_tape, .inl (E.2.1, 320, .inl (fun _ => 0))), (m_scriptLong, .inl (E.2.1, 5, .inl (fun _ => 0))), (m_now, .inl (E.2.1, 265, .inl (fun _ => 0))), (m_refused, .inl (E.2.1, 3, .inl (fun _ => 0))), (o, .inl (E.2.2.2, 1, .inr (.inl (fun _ => 0))))] H) (hD : va_D A [(x, .inr (8, [.ref t, .ref rd, .ref sc, .ref n, .ref tr, .ref kp, .ref bk, .ref kb, .ref hi, .ref dr, .ref rf, .int 0])), (t, .inr (7, [.ref b1, .int 0])), (b1, .inl (E.2.2.1, 320, .inl (fun _ => 0))), (rd, .inr (4, [.ref t, .ref r1, .ref r2, .ref r3, .int 0, .int 0, .int 0, .int 0, .int 0, .int 0, .int (-1)])), (r1, .inl (E.2.1, 3, .inl (fun _ => 0))), (sc, .inr (5, [.ref s1, .ref s2, .int 0])), (n, .inr (6, [.ref n1, .ref n2, .int 0, .int 0, .ref n3, .ref n4])), (n1, .inl (E.2.1, 81, .inl (fun _ => 0))), (hi, .inr (3, [.ref v1, .int 0, .int 0])), (rf, .inl (E.2.1, 3, .inl (fun _ => 0))), (mo, .inr (9, [.int 0, .ref m_tape, .int 0, .int 0, .int 0, .int 0, .int 0, .int 0, .long 0, .int 0, .int 0, .int 0, .int 0, .ref m_readPlace, .ref m_script, .ref m_scriptLong, .int 0, .ref m_now, .ref m_refused, .int 0, .ref m_shareX, .ref m_shareY, .int 0, .int 0, .ref m_askedRow, .int 0, .ref m_kept, .int 0, .long 0, .ref m_aside, .int 0, .int 0, .ref m_spelled, .int 0, .ref m_image, .int 0])), (m_tape, .inl (E.2.1, 320, .inl (fun _ => 0))), (m_scriptLong, .inl (E.2.1, 5, .inl (fun _ => 0))), (m_now, .inl (E.2.1, 265, .inl (fun _ => 0))), (m_refused, .inl (E.2.1, 3, .inl (fun _ => 0))), (o, .inl (E.2.2.2, 1, .inr (.inl (fun _ => 0))))]) (hS : va_S A s.heap H locs) {ls : Array Slot} (hl : lv_has ls 7 [(0, .ref b), (1, .ref x), (2, .ref mo), (3, .ref o), (4, .int 0)]) : W p l e room_1 s m #[Value.ref b] below meth c H locs 1000 100000 (lw_Z below #[Value.ref b] s) (F0 m 691 ls []) := by
  obtain ⟨hx, hb, hr, hml, hown, hts, hX, hbl, hlocks, hgv⟩ := id C0
  have hown : s.vm.findClass RL = some m.cls := hown
  have hA : ∀ q : Nat, s.heap.size ≤ q → A q := fun q h => by rw [← hAe]; exact h
  have hbA : ¬ A b := by rw [← hAe]; exact Nat.not_le.mpr hbl
  refine lv_aload_n hx hb dL_law_691 rfl (lv_at hl 1 rfl) ?_
  refine lv_aload_n hx hb dL_law_692 rfl (lv_at hl 0 rfl) ?_
  refine lv_iload hx hb dL_law_693 (lv_at hl 4 rfl) ?_
  refine lv_iconst (v := 1) hx hb dL_law_695 (by decide) ?_
  refine lv_iadd hx hb dL_law_696 ?_
  refine lv_topi (fun z_1 ez_1 => ?_)
  obtain rfl : z_1 = 1 := ez_1.trans (by decide)
  refine va_sld hx hb hX hbl hbA hS (vin rfl) dL_law_697 ?_
  refine W.eq (g2 := F0 m 698 ls [.int (xs 1), .ref x]) rfl ?_
  refine lv_aload_n hx hb dL_law_698 rfl (lv_at hl 0 rfl) ?_
  refine lv_iload hx hb dL_law_699 (lv_at hl 4 rfl) ?_
  refine lv_iconst (v := 2) hx hb dL_law_701 (by decide) ?_
  refine lv_iadd hx hb dL_law_702 ?_
  refine lv_topi (fun z_2 ez_2 => ?_)
  obtain rfl : z_2 = 2 := ez_2.trans (by decide)
  refine va_sld hx hb hX hbl hbA hS (vin rfl) dL_law_703 ?_
  refine W.eq (g2 := F0 m 704 ls [.int (xs 2), .int (xs 1), .ref x]) rfl ?_
  have hPc := hP.sub (ws' := [(x, .inr (8, [.ref t, .ref rd, .ref sc, .ref n, .ref tr, .ref kp, .ref bk, .ref kb, .ref hi, .ref dr, .ref rf, .int 0])), (n, .inr (6, [.ref n1, .ref n2, .int 0, .int 0, .ref n3, .ref n4])), (n1, .inl (E.2.1, 81, .inl (fun _ => 0))), (rf, .inl (E.2.1, 3, .inl (fun _ => 0)))]) [0, 6, 7, 9] rfl
  have hDc := hD.sub (ws' := [(x, .inr (8, [.ref t, .ref rd, .ref sc, .ref n, .ref tr, .ref kp, .ref bk, .ref kb, .ref hi, .ref dr, .ref rf, .int 0])), (n, .inr (6, [.ref n1, .ref n2, .int 0, .int 0, .ref n3, .ref n4])), (n1, .inl (E.2.1, 81, .inl (fun _ => 0))), (rf, .inl (E.2.1, 3, .inl (fun _ => 0)))]) [0, 6, 7, 9] (by decide) rfl
  have hFc := va_free (wc := [(x, .inr (8, [.ref t, .ref rd, .ref sc, .ref n, .ref tr, .ref kp, .ref bk, .ref kb, .ref hi, .ref dr, .ref rf, .int 0])), (n, .inr (6, [.ref n1, .ref n2, .int 0, .int 0, .ref n3, .ref n4])), (n1, .inl (E.2.1, 81, .inl (fun _ => 0))), (rf, .inl (E.2.1, 3, .inl (fun _ => 0)))]) hD hS hA [0, 6, 7, 9] rfl
  refine va_calli (va_runV (As := [.int (xs 1), .int (xs 2)]) (rest := []) ⟨hx, hb, hml, hown, hts⟩ (c_add l E H.size x t rd sc n tr kp bk kb hi dr rf n1 n2 n3 n4 (xs 1) (xs 2)) (cwV 2 hts gl_c_add_88 rfl rfl rfl (by decide +kernel) ⟨Nat.le_of_ble_eq_true rfl, Nat.le_of_ble_eq_true rfl⟩) ⟨pW.blind, va_recv hK hPc (ci := 8) (q0 := 0) rfl rfl, (pW.pre ⟨hK, hN⟩ hPc hDc)⟩ rfl rfl hl.1 rfl (lv_room (Nat.le_of_ble_eq_true rfl)) dL_law_704 ⟨Nat.le_of_ble_eq_true rfl, Nat.le_of_ble_eq_true rfl⟩) hS (fun q _ h => hFc q h) hFc (fun r_3 u tt H1 locs ht hvm hw hB hz1 hk1 hS => ?_)
  obtain ⟨hP1, hD1⟩ := hB
  rw [ht] at hP1
  obtain ⟨hP, hD⟩ := va_join (wr := [(t, .inr (7, [.ref b1, .int 0])), (b1, .inl (E.2.2.1, 320, .inl (fun _ => 0))), (rd, .inr (4, [.ref t, .ref r1, .ref r2, .ref r3, .int 0, .int 0, .int 0, .int 0, .int 0, .int 0, .int (-1)])), (r1, .inl (E.2.1, 3, .inl (fun _ => 0))), (sc, .inr (5, [.ref s1, .ref s2, .int 0])), (hi, .inr (3, [.ref v1, .int 0, .int 0])), (mo, .inr (9, [.int 0, .ref m_tape, .int 0, .int 0, .int 0, .int 0, .int 0, .int 0, .long 0, .int 0, .int 0, .int 0, .int 0, .ref m_readPlace, .ref m_script, .ref m_scriptLong, .int 0, .ref m_now, .ref m_refused, .int 0, .ref m_shareX, .ref m_shareY, .int 0, .int 0, .ref m_askedRow, .int 0, .ref m_kept, .int 0, .long 0, .ref m_aside, .int 0, .int 0, .ref m_spelled, .int 0, .ref m_image, .int 0])), (m_tape, .inl (E.2.1, 320, .inl (fun _ => 0))), (m_scriptLong, .inl (E.2.1, 5, .inl (fun _ => 0))), (m_now, .inl (E.2.1, 265, .inl (fun _ => 0))), (m_refused, .inl (E.2.1, 3, .inl (fun _ => 0))), (o, .inl (E.2.2.2, 1, .inr (.inl (fun _ => 0))))]) (w1 := []) hP hD [0, 6, 7, 9] [1, 2, 3, 4, 5, 8, 10, 11, 12, 13, 14, 15] rfl rfl (by decide) (by decide) hk1 hFc hP1 hD1
  generalize H1 = H at hP hS ⊢
  have hP : va_P E.1 vwCl [(t, .inr (7, [.ref b1, .int 0])), (b1, .inl (E.2.2.1, 320, .inl (fun _ => 0))), (rd, .inr (4, [.ref t, .ref r1, .ref r2, .ref r3, .int 0, .int 0, .int 0, .int 0, .int 0, .int 0, .int (-1)])), (r1, .inl (E.2.1, 3, .inl (fun _ => 0))), (sc, .inr (5, [.ref s1, .ref s2, .int 0])), (hi, .inr (3, [.ref v1, .int 0, .int 0])), (mo, .inr (9, [.int 0, .ref m_tape, .int 0, .int 0, .int 0, .int 0, .int 0, .int 0, .long 0, .int 0, .int 0, .int 0, .int 0, .ref m_readPlace, .ref m_script, .ref m_scriptLong, .int 0, .ref m_now, .ref m_refused, .int 0, .ref m_shareX, .ref m_shareY, .int 0, .int 0, .ref m_askedRow, .int 0, .ref m_kept, .int 0, .long 0, .ref m_aside, .int 0, .int 0, .ref m_spelled, .int 0, .ref m_image, .int 0])), (m_tape, .inl (E.2.1, 320, .inl (fun _ => 0))), (m_scriptLong, .inl (E.2.1, 5, .inl (fun _ => 0))), (m_now, .inl (E.2.1, 265, .inl (fun _ => 0))), (m_refused, .inl (E.2.1, 3, .inl (fun _ => 0))), (o, .inl (E.2.2.2, 1, .inr (.inl (fun _ => 0))))] H := hP
  have hD : va_D A [(t, .inr (7, [.ref b1, .int 0])), (b1, .inl (E.2.2.1, 320, .inl (fun _ => 0))), (rd, .inr (4, [.ref t, .ref r1, .ref r2, .ref r3, .int 0, .int 0, .int 0, .int 0, .int 0, .int 0, .int (-1)])), (r1, .inl (E.2.1, 3, .inl (fun _ => 0))), (sc, .inr (5, [.ref s1, .ref s2, .int 0])), (hi, .inr (3, [.ref v1, .int 0, .int 0])), (mo, .inr (9, [.int 0, .ref m_tape, .int 0, .int 0, .int 0, .int 0, .int 0, .int 0, .long 0, .int 0, .int 0, .int 0, .int 0, .ref m_readPlace, .ref m_script, .ref m_scriptLong, .int 0, .ref m_now, .ref m_refused, .int 0, .ref m_shareX, .ref m_shareY, .int 0, .int 0, .ref m_askedRow, .int 0, .ref m_kept, .int 0, .long 0, .ref m_aside, .int 0, .int 0, .ref m_spelled, .int 0, .ref m_image, .int 0])), (m_tape, .inl (E.2.1, 320, .inl (fun _ => 0))), (m_scriptLong, .inl (E.2.1, 5, .inl (fun _ => 0))), (m_now, .inl (E.2.1, 265, .inl (fun _ => 0))), (m_refused, .inl (E.2.1, 3, .inl (fun _ => 0))), (o, .inl (E.2.2.2, 1, .inr (.inl (fun _ => 0))))] := hD
  have hr_3 := hw
  obtain rfl : r_3 = -1 := hr_3
  refine lv_aload_n hx hb dL_law_707 rfl (lv_at hl 2 rfl) ?_
  refine lv_aload_n hx hb dL_law_708 rfl (lv_at hl 0 rfl) ?_
  refine lv_iload hx hb dL_law_709 (lv_at hl 4 rfl) ?_
  refine lv_iconst (v := 1) hx hb dL_law_711 (by decide) ?_
  refine lv_iadd hx hb dL_law_712 ?_
  refine lv_topi (fun z_4 ez_4 => ?_)
  obtain rfl : z_4 = 1 := ez_4.trans (by decide)
  refine va_sld hx hb hX hbl hbA hS (vin rfl) dL_law_713 ?_
  refine W.eq (g2 := F0 m 714 ls [.int (xs 1), .ref mo, .int (-1)]) rfl ?_
  refine lv_aload_n hx hb dL_law_714 rfl (lv_at hl 0 rfl) ?_
  refine lv_iload hx hb dL_law_715 (lv_at hl 4 rfl) ?_
  refine lv_iconst (v := 2) hx hb dL_law_717 (by decide) ?_
  refine lv_iadd hx hb dL_law_718 ?_
  refine lv_topi (fun z_5 ez_5 => ?_)
  obtain rfl : z_5 = 2 := ez_5.trans (by decide)
  refine va_sld hx hb hX hbl hbA hS (vin rfl) dL_law_719 ?_
  refine W.eq (g2 := F0 m 720 ls [.int (xs 2), .int (xs 1), .ref mo, .int (-1)]) rfl ?_
  have hPc := hP.sub (ws' := [(mo, .inr (9, [.int 0, .ref m_tape, .int 0, .int 0, .int 0, .int 0, .int 0, .int 0, .long 0, .int 0, .int 0, .int 0, .int 0, .ref m_readPlace, .ref m_script, .ref m_scriptLong, .int 0, .ref m_now, .ref m_refused, .int 0, .ref m_shareX, .ref m_shareY, .int 0, .int 0, .ref m_askedRow, .int 0, .ref m_kept, .int 0, .long 0, .ref m_aside, .int 0, .int 0, .ref m_spelled, .int 0, .ref m_image, .int 0])), (m_now, .inl (E.2.1, 265, .inl (fun _ => 0))), (m_refused, .inl (E.2.1, 3, .inl (fun _ => 0)))]) [6, 9, 10] rfl
  have hDc := hD.sub (ws' := [(mo, .inr (9, [.int 0, .ref m_tape, .int 0, .int 0, .int 0, .int 0, .int 0, .int 0, .long 0, .int 0, .int 0, .int 0, .int 0, .ref m_readPlace, .ref m_script, .ref m_scriptLong, .int 0, .ref m_now, .ref m_refused, .int 0, .ref m_shareX, .ref m_shareY, .int 0, .int 0, .ref m_askedRow, .int 0, .ref m_kept, .int 0, .long 0, .ref m_aside, .int 0, .int 0, .ref m_spelled, .int 0, .ref m_image, .int 0])), (m_now, .inl (E.2.1, 265, .inl (fun _ => 0))), (m_refused, .inl (E.2.1, 3, .inl (fun _ => 0)))]) [6, 9, 10] (by decide) rfl
  have hFc := va_free (wc := [(mo, .inr (9, [.int 0, .ref m_tape, .int 0, .int 0, .int 0, .int 0, .int 0, .int 0, .long 0, .int 0, .int 0, .int 0, .int 0, .ref m_readPlace, .ref m_script, .ref m_scriptLong, .int 0, .ref m_now, .ref m_refused, .int 0, .ref m_shareX, .ref m_shareY, .int 0, .int 0, .ref m_askedRow, .int 0, .ref m_kept, .int 0, .long 0, .ref m_aside, .int 0, .int 0, .ref m_spelled, .int 0, .ref m_image, .int 0])), (m_now, .inl (E.2.1, 265, .inl (fun _ => 0))), (m_refused, .inl (E.2.1, 3, .inl (fun _ => 0)))]) hD hS hA [6, 9, 10] rfl
  refine va_calli (va_runV (As := [.int (xs 1), .int (xs 2)]) (rest := [.int (-1)]) ⟨hx, hb, hml, hown, hts⟩ (d_add l E H.size mo m_tape m_readPlace m_script m_scriptLong m_now m_refused m_shareX m_shareY m_askedRow m_kept m_aside m_spelled m_image (xs 1) (xs 2)) (cwV 2 hts gl_d_add_91 rfl rfl rfl (by decide +kernel) ⟨Nat.le_of_ble_eq_true rfl, Nat.le_of_ble_eq_true rfl⟩) ⟨pW.blind, va_recv hK hPc (ci := 9) (q0 := 0) rfl rfl, (pW.pre ⟨hK, hN⟩ hPc hDc)⟩ rfl rfl hl.1 rfl (lv_room (Nat.le_of_ble_eq_true rfl)) dL_law_720 ⟨Nat.le_of_ble_eq_true rfl, Nat.le_of_ble_eq_true rfl⟩) hS (fun q _ h => hFc q h) hFc (fun r_6 u tt H1 locs ht hvm hw hB hz1 hk1 hS => ?_)
  obtain ⟨hP1, hD1⟩ := hB
  rw [ht] at hP1
  obtain ⟨hP, hD⟩ := va_join (wr := [(t, .inr (7, [.ref b1, .int 0])), (b1, .inl (E.2.2.1, 320, .inl (fun _ => 0))), (rd, .inr (4, [.ref t, .ref r1, .ref r2, .ref r3, .int 0, .int 0, .int 0, .int 0, .int 0, .int 0, .int (-1)])), (r1, .inl (E.2.1, 3, .inl (fun _ => 0))), (sc, .inr (5, [.ref s1, .ref s2, .int 0])), (hi, .inr (3, [.ref v1, .int 0, .int 0])), (m_tape, .inl (E.2.1, 320, .inl (fun _ => 0))), (m_scriptLong, .inl (E.2.1, 5, .inl (fun _ => 0))), (o, .inl (E.2.2.2, 1, .inr (.inl (fun _ => 0))))]) (w1 := []) hP hD [6, 9, 10] [0, 1, 2, 3, 4, 5, 7, 8, 11] rfl rfl (by decide) (by decide) hk1 hFc hP1 hD1
  generalize H1 = H at hP hS ⊢
  have hP : va_P E.1 vwCl [(t, .inr (7, [.ref b1, .int 0])), (b1, .inl (E.2.2.1, 320, .inl (fun _ => 0))), (rd, .inr (4, [.ref t, .ref r1, .ref r2, .ref r3, .int 0, .int 0, .int 0, .int 0, .int 0, .int 0, .int (-1)])), (r1, .inl (E.2.1, 3, .inl (fun _ => 0))), (sc, .inr (5, [.ref s1, .ref s2, .int 0])), (hi, .inr (3, [.ref v1, .int 0, .int 0])), (m_tape, .inl (E.2.1, 320, .inl (fun _ => 0))), (m_scriptLong, .inl (E.2.1, 5, .inl (fun _ => 0))), (o, .inl (E.2.2.2, 1, .inr (.inl (fun _ => 0))))] H := hP
  have hD : va_D A [(t, .inr (7, [.ref b1, .int 0])), (b1, .inl (E.2.2.1, 320, .inl (fun _ => 0))), (rd, .inr (4, [.ref t, .ref r1, .ref r2, .ref r3, .int 0, .int 0, .int 0, .int 0, .int 0, .int 0, .int (-1)])), (r1, .inl (E.2.1, 3, .inl (fun _ => 0))), (sc, .inr (5, [.ref s1, .ref s2, .int 0])), (hi, .inr (3, [.ref v1, .int 0, .int 0])), (m_tape, .inl (E.2.1, 320, .inl (fun _ => 0))), (m_scriptLong, .inl (E.2.1, 5, .inl (fun _ => 0))), (o, .inl (E.2.2.2, 1, .inr (.inl (fun _ => 0))))] := hD
  have hr_6 := hw
  obtain rfl : r_6 = -1 := hr_6
  refine lv_icmp_eq (tgt := 1665) hx hb dL_law_723 (by decide) (fun _ => ?_) (fun q => absurd (by decide) q)
  exact law_end hflags C0 hAe hS (lv_sub hl [0, 4] rfl)
