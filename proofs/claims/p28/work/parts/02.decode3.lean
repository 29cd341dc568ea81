theorem dL_isSound_363 : decode cL_isSound 363 = .ok (.iload 7, 2) := by decide +kernel
theorem dL_isSound_365 : decode cL_isSound 365 = .ok (.iload 5, 2) := by decide +kernel
theorem dL_isSound_367 : decode cL_isSound 367 = .ok (.iconst 0, 1) := by decide +kernel
theorem dL_isSound_368 : decode cL_isSound 368 = .ok (.invokevirtual 25, 3) := by decide +kernel
theorem dL_isSound_371 : decode cL_isSound 371 = .ok (.iadd, 1) := by decide +kernel
theorem dL_isSound_372 : decode cL_isSound 372 = .ok (.istore 6, 2) := by decide +kernel
theorem dL_isSound_374 : decode cL_isSound 374 = .ok (.aload_n 0, 1) := by decide +kernel
theorem dL_isSound_375 : decode cL_isSound 375 = .ok (.iload 7, 2) := by decide +kernel
theorem dL_isSound_377 : decode cL_isSound 377 = .ok (.iload 5, 2) := by decide +kernel
theorem dL_isSound_379 : decode cL_isSound 379 = .ok (.iconst 1, 1) := by decide +kernel
theorem dL_isSound_380 : decode cL_isSound 380 = .ok (.invokevirtual 25, 3) := by decide +kernel
theorem dL_isSound_383 : decode cL_isSound 383 = .ok (.ifCond .lt 27, 3) := by decide +kernel
theorem dL_isSound_386 : decode cL_isSound 386 = .ok (.aload_n 0, 1) := by decide +kernel
theorem dL_isSound_387 : decode cL_isSound 387 = .ok (.iload 7, 2) := by decide +kernel
theorem dL_isSound_389 : decode cL_isSound 389 = .ok (.iload 5, 2) := by decide +kernel
theorem dL_isSound_391 : decode cL_isSound 391 = .ok (.iconst 0, 1) := by decide +kernel
theorem dL_isSound_392 : decode cL_isSound 392 = .ok (.invokevirtual 25, 3) := by decide +kernel
theorem dL_isSound_395 : decode cL_isSound 395 = .ok (.ifCond .lt 15, 3) := by decide +kernel
theorem dL_isSound_398 : decode cL_isSound 398 = .ok (.aload_n 0, 1) := by decide +kernel
theorem dL_isSound_399 : decode cL_isSound 399 = .ok (.iload 7, 2) := by decide +kernel
theorem dL_isSound_401 : decode cL_isSound 401 = .ok (.iload 5, 2) := by decide +kernel
theorem dL_isSound_403 : decode cL_isSound 403 = .ok (.iconst 2, 1) := by decide +kernel
theorem dL_isSound_404 : decode cL_isSound 404 = .ok (.invokevirtual 25, 3) := by decide +kernel
theorem dL_isSound_407 : decode cL_isSound 407 = .ok (.ifCond .ge 5, 3) := by decide +kernel
theorem dL_isSound_410 : decode cL_isSound 410 = .ok (.iconst 0, 1) := by decide +kernel
theorem dL_isSound_411 : decode cL_isSound 411 = .ok (.ireturn, 1) := by decide +kernel
theorem dL_isSound_412 : decode cL_isSound 412 = .ok (.iinc 7 1, 3) := by decide +kernel
theorem dL_isSound_415 : decode cL_isSound 415 = .ok (.goto (-61), 3) := by decide +kernel
theorem dL_isSound_418 : decode cL_isSound 418 = .ok (.aload_n 0, 1) := by decide +kernel
theorem dL_isSound_419 : decode cL_isSound 419 = .ok (.iload 5, 2) := by decide +kernel
theorem dL_isSound_421 : decode cL_isSound 421 = .ok (.iconst 0, 1) := by decide +kernel
theorem dL_isSound_422 : decode cL_isSound 422 = .ok (.invokevirtual 32, 3) := by decide +kernel
theorem dL_isSound_425 : decode cL_isSound 425 = .ok (.aload_n 0, 1) := by decide +kernel
theorem dL_isSound_426 : decode cL_isSound 426 = .ok (.iload 5, 2) := by decide +kernel
theorem dL_isSound_428 : decode cL_isSound 428 = .ok (.iconst 1, 1) := by decide +kernel
theorem dL_isSound_429 : decode cL_isSound 429 = .ok (.invokevirtual 32, 3) := by decide +kernel
theorem dL_isSound_432 : decode cL_isSound 432 = .ok (.aload_n 0, 1) := by decide +kernel
theorem dL_isSound_433 : decode cL_isSound 433 = .ok (.iload 5, 2) := by decide +kernel
theorem dL_isSound_435 : decode cL_isSound 435 = .ok (.iconst 2, 1) := by decide +kernel
theorem dL_isSound_436 : decode cL_isSound 436 = .ok (.invokevirtual 32, 3) := by decide +kernel
theorem dL_isSound_439 : decode cL_isSound 439 = .ok (.iadd, 1) := by decide +kernel
theorem dL_isSound_440 : decode cL_isSound 440 = .ok (.if_icmp .ne 15, 3) := by decide +kernel
theorem dL_isSound_443 : decode cL_isSound 443 = .ok (.aload_n 0, 1) := by decide +kernel
theorem dL_isSound_444 : decode cL_isSound 444 = .ok (.iload 5, 2) := by decide +kernel
theorem dL_isSound_446 : decode cL_isSound 446 = .ok (.iconst 1, 1) := by decide +kernel
theorem dL_isSound_447 : decode cL_isSound 447 = .ok (.invokevirtual 32, 3) := by decide +kernel
theorem dL_isSound_450 : decode cL_isSound 450 = .ok (.iload 6, 2) := by decide +kernel
theorem dL_isSound_452 : decode cL_isSound 452 = .ok (.if_icmp .eq 5, 3) := by decide +kernel
theorem dL_isSound_455 : decode cL_isSound 455 = .ok (.iconst 0, 1) := by decide +kernel
theorem dL_isSound_456 : decode cL_isSound 456 = .ok (.ireturn, 1) := by decide +kernel
theorem dL_isSound_457 : decode cL_isSound 457 = .ok (.iload_n 2, 1) := by decide +kernel
theorem dL_isSound_458 : decode cL_isSound 458 = .ok (.aload_n 0, 1) := by decide +kernel
theorem dL_isSound_459 : decode cL_isSound 459 = .ok (.iload 5, 2) := by decide +kernel
theorem dL_isSound_461 : decode cL_isSound 461 = .ok (.iconst 2, 1) := by decide +kernel
theorem dL_isSound_462 : decode cL_isSound 462 = .ok (.invokevirtual 32, 3) := by decide +kernel
theorem dL_isSound_465 : decode cL_isSound 465 = .ok (.iadd, 1) := by decide +kernel
theorem dL_isSound_466 : decode cL_isSound 466 = .ok (.istore_n 2, 1) := by decide +kernel
theorem dL_isSound_467 : decode cL_isSound 467 = .ok (.iinc 5 1, 3) := by decide +kernel
theorem dL_isSound_470 : decode cL_isSound 470 = .ok (.goto (-128), 3) := by decide +kernel
theorem dL_isSound_473 : decode cL_isSound 473 = .ok (.iconst 0, 1) := by decide +kernel
theorem dL_isSound_474 : decode cL_isSound 474 = .ok (.istore 5, 2) := by decide +kernel
theorem dL_isSound_476 : decode cL_isSound 476 = .ok (.iconst 0, 1) := by decide +kernel
theorem dL_isSound_477 : decode cL_isSound 477 = .ok (.istore 6, 2) := by decide +kernel
theorem dL_isSound_479 : decode cL_isSound 479 = .ok (.iconst 0, 1) := by decide +kernel
theorem dL_isSound_480 : decode cL_isSound 480 = .ok (.istore 7, 2) := by decide +kernel
theorem dL_isSound_482 : decode cL_isSound 482 = .ok (.iconst 0, 1) := by decide +kernel
theorem dL_isSound_483 : decode cL_isSound 483 = .ok (.istore 8, 2) := by decide +kernel
theorem dL_isSound_485 : decode cL_isSound 485 = .ok (.iload 8, 2) := by decide +kernel
theorem dL_isSound_487 : decode cL_isSound 487 = .ok (.iload_n 1, 1) := by decide +kernel
theorem dL_isSound_488 : decode cL_isSound 488 = .ok (.if_icmp .ge 137, 3) := by decide +kernel
theorem dL_isSound_491 : decode cL_isSound 491 = .ok (.iload 5, 2) := by decide +kernel
theorem dL_isSound_493 : decode cL_isSound 493 = .ok (.aload_n 0, 1) := by decide +kernel
theorem dL_isSound_494 : decode cL_isSound 494 = .ok (.iload 8, 2) := by decide +kernel
theorem dL_isSound_496 : decode cL_isSound 496 = .ok (.bipush 8, 2) := by decide +kernel
theorem dL_isSound_498 : decode cL_isSound 498 = .ok (.invokevirtual 18, 3) := by decide +kernel
theorem dL_isSound_501 : decode cL_isSound 501 = .ok (.iadd, 1) := by decide +kernel
theorem dL_isSound_502 : decode cL_isSound 502 = .ok (.istore 5, 2) := by decide +kernel
theorem dL_isSound_504 : decode cL_isSound 504 = .ok (.iload 6, 2) := by decide +kernel
theorem dL_isSound_506 : decode cL_isSound 506 = .ok (.aload_n 0, 1) := by decide +kernel
theorem dL_isSound_507 : decode cL_isSound 507 = .ok (.iload 8, 2) := by decide +kernel
theorem dL_isSound_509 : decode cL_isSound 509 = .ok (.bipush 7, 2) := by decide +kernel
theorem dL_isSound_511 : decode cL_isSound 511 = .ok (.invokevirtual 18, 3) := by decide +kernel
theorem dL_isSound_514 : decode cL_isSound 514 = .ok (.iadd, 1) := by decide +kernel
theorem dL_isSound_515 : decode cL_isSound 515 = .ok (.istore 6, 2) := by decide +kernel
theorem dL_isSound_517 : decode cL_isSound 517 = .ok (.iload 7, 2) := by decide +kernel
theorem dL_isSound_519 : decode cL_isSound 519 = .ok (.aload_n 0, 1) := by decide +kernel
theorem dL_isSound_520 : decode cL_isSound 520 = .ok (.iload 8, 2) := by decide +kernel
theorem dL_isSound_522 : decode cL_isSound 522 = .ok (.bipush 9, 2) := by decide +kernel
theorem dL_isSound_524 : decode cL_isSound 524 = .ok (.invokevirtual 18, 3) := by decide +kernel
theorem dL_isSound_527 : decode cL_isSound 527 = .ok (.iadd, 1) := by decide +kernel
theorem dL_isSound_528 : decode cL_isSound 528 = .ok (.istore 7, 2) := by decide +kernel
theorem dL_isSound_530 : decode cL_isSound 530 = .ok (.aload_n 0, 1) := by decide +kernel
theorem dL_isSound_531 : decode cL_isSound 531 = .ok (.iload 8, 2) := by decide +kernel
theorem dL_isSound_533 : decode cL_isSound 533 = .ok (.iconst 4, 1) := by decide +kernel
theorem dL_isSound_534 : decode cL_isSound 534 = .ok (.invokevirtual 18, 3) := by decide +kernel
theorem dL_isSound_537 : decode cL_isSound 537 = .ok (.aload_n 0, 1) := by decide +kernel
theorem dL_isSound_538 : decode cL_isSound 538 = .ok (.iload 8, 2) := by decide +kernel
theorem dL_isSound_540 : decode cL_isSound 540 = .ok (.iconst 5, 1) := by decide +kernel
theorem dL_isSound_541 : decode cL_isSound 541 = .ok (.invokevirtual 18, 3) := by decide +kernel
theorem dL_isSound_544 : decode cL_isSound 544 = .ok (.iadd, 1) := by decide +kernel
theorem dL_isSound_545 : decode cL_isSound 545 = .ok (.sipush 9999, 3) := by decide +kernel
theorem dL_isSound_548 : decode cL_isSound 548 = .ok (.if_icmp .gt 69, 3) := by decide +kernel
theorem dL_isSound_551 : decode cL_isSound 551 = .ok (.aload_n 0, 1) := by decide +kernel
theorem dL_isSound_552 : decode cL_isSound 552 = .ok (.iload 8, 2) := by decide +kernel
theorem dL_isSound_554 : decode cL_isSound 554 = .ok (.bipush 6, 2) := by decide +kernel
theorem dL_isSound_556 : decode cL_isSound 556 = .ok (.invokevirtual 18, 3) := by decide +kernel
theorem dL_isSound_559 : decode cL_isSound 559 = .ok (.sipush 10999, 3) := by decide +kernel
theorem dL_isSound_562 : decode cL_isSound 562 = .ok (.if_icmp .gt 55, 3) := by decide +kernel
theorem dL_isSound_565 : decode cL_isSound 565 = .ok (.aload_n 0, 1) := by decide +kernel
theorem dL_isSound_566 : decode cL_isSound 566 = .ok (.iload 8, 2) := by decide +kernel
theorem dL_isSound_568 : decode cL_isSound 568 = .ok (.bipush 10, 2) := by decide +kernel
theorem dL_isSound_570 : decode cL_isSound 570 = .ok (.invokevirtual 18, 3) := by decide +kernel
theorem dL_isSound_573 : decode cL_isSound 573 = .ok (.aload_n 0, 1) := by decide +kernel
theorem dL_isSound_574 : decode cL_isSound 574 = .ok (.iload 8, 2) := by decide +kernel
theorem dL_isSound_576 : decode cL_isSound 576 = .ok (.bipush 7, 2) := by decide +kernel
theorem dL_isSound_578 : decode cL_isSound 578 = .ok (.invokevirtual 18, 3) := by decide +kernel
theorem dL_isSound_581 : decode cL_isSound 581 = .ok (.if_icmp .gt 36, 3) := by decide +kernel
theorem dL_isSound_584 : decode cL_isSound 584 = .ok (.aload_n 0, 1) := by decide +kernel
theorem dL_isSound_585 : decode cL_isSound 585 = .ok (.iload 8, 2) := by decide +kernel
theorem dL_isSound_587 : decode cL_isSound 587 = .ok (.iconst 1, 1) := by decide +kernel
theorem dL_isSound_588 : decode cL_isSound 588 = .ok (.invokevirtual 18, 3) := by decide +kernel
theorem dL_isSound_591 : decode cL_isSound 591 = .ok (.ifCond .ne 7, 3) := by decide +kernel
theorem dL_isSound_594 : decode cL_isSound 594 = .ok (.iconst 1, 1) := by decide +kernel
theorem dL_isSound_595 : decode cL_isSound 595 = .ok (.goto 4, 3) := by decide +kernel
theorem dL_isSound_598 : decode cL_isSound 598 = .ok (.iconst 0, 1) := by decide +kernel
theorem dL_isSound_599 : decode cL_isSound 599 = .ok (.aload_n 0, 1) := by decide +kernel
theorem dL_isSound_600 : decode cL_isSound 600 = .ok (.iload 8, 2) := by decide +kernel
theorem dL_isSound_602 : decode cL_isSound 602 = .ok (.iconst 0, 1) := by decide +kernel
theorem dL_isSound_603 : decode cL_isSound 603 = .ok (.invokevirtual 18, 3) := by decide +kernel
theorem dL_isSound_606 : decode cL_isSound 606 = .ok (.ifCond .ne 7, 3) := by decide +kernel
theorem dL_isSound_609 : decode cL_isSound 609 = .ok (.iconst 1, 1) := by decide +kernel
theorem dL_isSound_610 : decode cL_isSound 610 = .ok (.goto 4, 3) := by decide +kernel
theorem dL_isSound_613 : decode cL_isSound 613 = .ok (.iconst 0, 1) := by decide +kernel
theorem dL_isSound_614 : decode cL_isSound 614 = .ok (.if_icmp .eq 5, 3) := by decide +kernel
theorem dL_isSound_617 : decode cL_isSound 617 = .ok (.iconst 0, 1) := by decide +kernel
theorem dL_isSound_618 : decode cL_isSound 618 = .ok (.ireturn, 1) := by decide +kernel
theorem dL_isSound_619 : decode cL_isSound 619 = .ok (.iinc 8 1, 3) := by decide +kernel
theorem dL_isSound_622 : decode cL_isSound 622 = .ok (.goto (-137), 3) := by decide +kernel
theorem dL_isSound_625 : decode cL_isSound 625 = .ok (.iload 5, 2) := by decide +kernel
theorem dL_isSound_627 : decode cL_isSound 627 = .ok (.iload_n 2, 1) := by decide +kernel
theorem dL_isSound_628 : decode cL_isSound 628 = .ok (.if_icmp .ne 69, 3) := by decide +kernel
theorem dL_isSound_631 : decode cL_isSound 631 = .ok (.iload 6, 2) := by decide +kernel
theorem dL_isSound_633 : decode cL_isSound 633 = .ok (.aload_n 0, 1) := by decide +kernel
theorem dL_isSound_634 : decode cL_isSound 634 = .ok (.bipush 8, 2) := by decide +kernel
theorem dL_isSound_636 : decode cL_isSound 636 = .ok (.invokevirtual 12, 3) := by decide +kernel
theorem dL_isSound_639 : decode cL_isSound 639 = .ok (.if_icmp .ne 58, 3) := by decide +kernel
theorem dL_isSound_642 : decode cL_isSound 642 = .ok (.iload 7, 2) := by decide +kernel
theorem dL_isSound_644 : decode cL_isSound 644 = .ok (.aload_n 0, 1) := by decide +kernel
theorem dL_isSound_645 : decode cL_isSound 645 = .ok (.bipush 9, 2) := by decide +kernel
theorem dL_isSound_647 : decode cL_isSound 647 = .ok (.invokevirtual 12, 3) := by decide +kernel
theorem dL_isSound_650 : decode cL_isSound 650 = .ok (.if_icmp .ne 47, 3) := by decide +kernel
theorem dL_isSound_653 : decode cL_isSound 653 = .ok (.iload_n 3, 1) := by decide +kernel
theorem dL_isSound_654 : decode cL_isSound 654 = .ok (.aload_n 0, 1) := by decide +kernel
theorem dL_isSound_655 : decode cL_isSound 655 = .ok (.bipush 10, 2) := by decide +kernel
theorem dL_isSound_657 : decode cL_isSound 657 = .ok (.invokevirtual 12, 3) := by decide +kernel
theorem dL_isSound_660 : decode cL_isSound 660 = .ok (.if_icmp .ne 37, 3) := by decide +kernel
theorem dL_isSound_663 : decode cL_isSound 663 = .ok (.iload 4, 2) := by decide +kernel
theorem dL_isSound_665 : decode cL_isSound 665 = .ok (.aload_n 0, 1) := by decide +kernel
theorem dL_isSound_666 : decode cL_isSound 666 = .ok (.bipush 11, 2) := by decide +kernel
theorem dL_isSound_668 : decode cL_isSound 668 = .ok (.invokevirtual 12, 3) := by decide +kernel
theorem dL_isSound_671 : decode cL_isSound 671 = .ok (.if_icmp .ne 26, 3) := by decide +kernel
theorem dL_isSound_674 : decode cL_isSound 674 = .ok (.aload_n 0, 1) := by decide +kernel
theorem dL_isSound_675 : decode cL_isSound 675 = .ok (.iconst 0, 1) := by decide +kernel
theorem dL_isSound_676 : decode cL_isSound 676 = .ok (.invokevirtual 12, 3) := by decide +kernel
theorem dL_isSound_679 : decode cL_isSound 679 = .ok (.aload_n 0, 1) := by decide +kernel
theorem dL_isSound_680 : decode cL_isSound 680 = .ok (.bipush 12, 2) := by decide +kernel
theorem dL_isSound_682 : decode cL_isSound 682 = .ok (.invokevirtual 12, 3) := by decide +kernel
theorem dL_isSound_685 : decode cL_isSound 685 = .ok (.iadd, 1) := by decide +kernel
theorem dL_isSound_686 : decode cL_isSound 686 = .ok (.bipush 12, 2) := by decide +kernel
theorem dL_isSound_688 : decode cL_isSound 688 = .ok (.irem, 1) := by decide +kernel
theorem dL_isSound_689 : decode cL_isSound 689 = .ok (.iconst 4, 1) := by decide +kernel
theorem dL_isSound_690 : decode cL_isSound 690 = .ok (.if_icmp .ne 7, 3) := by decide +kernel
theorem dL_isSound_693 : decode cL_isSound 693 = .ok (.iconst 1, 1) := by decide +kernel
theorem dL_isSound_694 : decode cL_isSound 694 = .ok (.goto 4, 3) := by decide +kernel
theorem dL_isSound_697 : decode cL_isSound 697 = .ok (.iconst 0, 1) := by decide +kernel
theorem dL_isSound_698 : decode cL_isSound 698 = .ok (.ireturn, 1) := by decide +kernel
theorem dL_isPlanned_0 : decode cL_isPlanned 0 = .ok (.iload_n 1, 1) := by decide +kernel
theorem dL_isPlanned_1 : decode cL_isPlanned 1 = .ok (.aload_n 0, 1) := by decide +kernel
theorem dL_isPlanned_2 : decode cL_isPlanned 2 = .ok (.iconst 2, 1) := by decide +kernel
theorem dL_isPlanned_3 : decode cL_isPlanned 3 = .ok (.invokevirtual 12, 3) := by decide +kernel
theorem dL_isPlanned_6 : decode cL_isPlanned 6 = .ok (.invokestatic 41, 3) := by decide +kernel
theorem dL_isPlanned_9 : decode cL_isPlanned 9 = .ok (.istore_n 2, 1) := by decide +kernel
theorem dL_isPlanned_10 : decode cL_isPlanned 10 = .ok (.iload_n 1, 1) := by decide +kernel
theorem dL_isPlanned_11 : decode cL_isPlanned 11 = .ok (.iconst 3, 1) := by decide +kernel
theorem dL_isPlanned_12 : decode cL_isPlanned 12 = .ok (.ishr, 1) := by decide +kernel
theorem dL_isPlanned_13 : decode cL_isPlanned 13 = .ok (.iconst 3, 1) := by decide +kernel
theorem dL_isPlanned_14 : decode cL_isPlanned 14 = .ok (.invokestatic 41, 3) := by decide +kernel
theorem dL_isPlanned_17 : decode cL_isPlanned 17 = .ok (.istore_n 3, 1) := by decide +kernel
theorem dL_isPlanned_18 : decode cL_isPlanned 18 = .ok (.aload_n 0, 1) := by decide +kernel
theorem dL_isPlanned_19 : decode cL_isPlanned 19 = .ok (.iload_n 2, 1) := by decide +kernel
theorem dL_isPlanned_20 : decode cL_isPlanned 20 = .ok (.bipush 7, 2) := by decide +kernel
theorem dL_isPlanned_22 : decode cL_isPlanned 22 = .ok (.invokevirtual 18, 3) := by decide +kernel
theorem dL_isPlanned_25 : decode cL_isPlanned 25 = .ok (.istore 4, 2) := by decide +kernel
theorem dL_isPlanned_27 : decode cL_isPlanned 27 = .ok (.iload 4, 2) := by decide +kernel
theorem dL_isPlanned_29 : decode cL_isPlanned 29 = .ok (.ifCond .le 30, 3) := by decide +kernel
theorem dL_isPlanned_32 : decode cL_isPlanned 32 = .ok (.iconst 1, 1) := by decide +kernel
theorem dL_isPlanned_33 : decode cL_isPlanned 33 = .ok (.iload_n 1, 1) := by decide +kernel
theorem dL_isPlanned_34 : decode cL_isPlanned 34 = .ok (.iconst 5, 1) := by decide +kernel
theorem dL_isPlanned_35 : decode cL_isPlanned 35 = .ok (.ishr, 1) := by decide +kernel
theorem dL_isPlanned_36 : decode cL_isPlanned 36 = .ok (.iload 4, 2) := by decide +kernel
theorem dL_isPlanned_38 : decode cL_isPlanned 38 = .ok (.sipush 9999, 3) := by decide +kernel
theorem dL_isPlanned_41 : decode cL_isPlanned 41 = .ok (.if_icmp .ge 8, 3) := by decide +kernel
theorem dL_isPlanned_44 : decode cL_isPlanned 44 = .ok (.iload 4, 2) := by decide +kernel
theorem dL_isPlanned_46 : decode cL_isPlanned 46 = .ok (.goto 6, 3) := by decide +kernel
theorem dL_isPlanned_49 : decode cL_isPlanned 49 = .ok (.sipush 9999, 3) := by decide +kernel
theorem dL_isPlanned_52 : decode cL_isPlanned 52 = .ok (.invokestatic 41, 3) := by decide +kernel
theorem dL_isPlanned_55 : decode cL_isPlanned 55 = .ok (.iadd, 1) := by decide +kernel
theorem dL_isPlanned_56 : decode cL_isPlanned 56 = .ok (.goto 14, 3) := by decide +kernel
theorem dL_isPlanned_59 : decode cL_isPlanned 59 = .ok (.iconst 1, 1) := by decide +kernel
theorem dL_isPlanned_60 : decode cL_isPlanned 60 = .ok (.iload_n 1, 1) := by decide +kernel
theorem dL_isPlanned_61 : decode cL_isPlanned 61 = .ok (.iconst 5, 1) := by decide +kernel
theorem dL_isPlanned_62 : decode cL_isPlanned 62 = .ok (.ishr, 1) := by decide +kernel
theorem dL_isPlanned_63 : decode cL_isPlanned 63 = .ok (.sipush 500, 3) := by decide +kernel
theorem dL_isPlanned_66 : decode cL_isPlanned 66 = .ok (.invokestatic 41, 3) := by decide +kernel
theorem dL_isPlanned_69 : decode cL_isPlanned 69 = .ok (.iadd, 1) := by decide +kernel
theorem dL_isPlanned_70 : decode cL_isPlanned 70 = .ok (.istore 5, 2) := by decide +kernel
theorem dL_isPlanned_72 : decode cL_isPlanned 72 = .ok (.aload_n 0, 1) := by decide +kernel
theorem dL_isPlanned_73 : decode cL_isPlanned 73 = .ok (.invokestatic 44, 3) := by decide +kernel
theorem dL_isPlanned_76 : decode cL_isPlanned 76 = .ok (.lstore 6, 2) := by decide +kernel
theorem dL_isPlanned_78 : decode cL_isPlanned 78 = .ok (.aload_n 0, 1) := by decide +kernel
theorem dL_isPlanned_79 : decode cL_isPlanned 79 = .ok (.iload_n 2, 1) := by decide +kernel
theorem dL_isPlanned_80 : decode cL_isPlanned 80 = .ok (.iload 5, 2) := by decide +kernel
theorem dL_isPlanned_82 : decode cL_isPlanned 82 = .ok (.iload_n 3, 1) := by decide +kernel
theorem dL_isPlanned_83 : decode cL_isPlanned 83 = .ok (.iconst 0, 1) := by decide +kernel
theorem dL_isPlanned_84 : decode cL_isPlanned 84 = .ok (.invokevirtual 48, 3) := by decide +kernel
theorem dL_isPlanned_87 : decode cL_isPlanned 87 = .ok (.istore 8, 2) := by decide +kernel
theorem dL_isPlanned_89 : decode cL_isPlanned 89 = .ok (.iload 8, 2) := by decide +kernel
theorem dL_isPlanned_91 : decode cL_isPlanned 91 = .ok (.ifCond .ge 55, 3) := by decide +kernel
theorem dL_isPlanned_94 : decode cL_isPlanned 94 = .ok (.iload 8, 2) := by decide +kernel
theorem dL_isPlanned_96 : decode cL_isPlanned 96 = .ok (.bipush (-4), 2) := by decide +kernel
theorem dL_isPlanned_98 : decode cL_isPlanned 98 = .ok (.if_icmp .ne 46, 3) := by decide +kernel
theorem dL_isPlanned_101 : decode cL_isPlanned 101 = .ok (.aload_n 0, 1) := by decide +kernel
theorem dL_isPlanned_102 : decode cL_isPlanned 102 = .ok (.iload_n 2, 1) := by decide +kernel
theorem dL_isPlanned_103 : decode cL_isPlanned 103 = .ok (.iload 5, 2) := by decide +kernel
theorem dL_isPlanned_105 : decode cL_isPlanned 105 = .ok (.iload_n 3, 1) := by decide +kernel
theorem dL_isPlanned_106 : decode cL_isPlanned 106 = .ok (.invokevirtual 52, 3) := by decide +kernel
theorem dL_isPlanned_109 : decode cL_isPlanned 109 = .ok (.bipush (-4), 2) := by decide +kernel
theorem dL_isPlanned_111 : decode cL_isPlanned 111 = .ok (.if_icmp .ne 33, 3) := by decide +kernel
theorem dL_isPlanned_114 : decode cL_isPlanned 114 = .ok (.aload_n 0, 1) := by decide +kernel
theorem dL_isPlanned_115 : decode cL_isPlanned 115 = .ok (.invokestatic 44, 3) := by decide +kernel
theorem dL_isPlanned_118 : decode cL_isPlanned 118 = .ok (.lload 6, 2) := by decide +kernel
theorem dL_isPlanned_120 : decode cL_isPlanned 120 = .ok (.lcmp, 1) := by decide +kernel
theorem dL_isPlanned_121 : decode cL_isPlanned 121 = .ok (.ifCond .ne 23, 3) := by decide +kernel
theorem dL_isPlanned_124 : decode cL_isPlanned 124 = .ok (.iload_n 3, 1) := by decide +kernel
theorem dL_isPlanned_125 : decode cL_isPlanned 125 = .ok (.iconst 2, 1) := by decide +kernel
theorem dL_isPlanned_126 : decode cL_isPlanned 126 = .ok (.if_icmp .eq 14, 3) := by decide +kernel
theorem dL_isPlanned_129 : decode cL_isPlanned 129 = .ok (.aload_n 0, 1) := by decide +kernel
theorem dL_isPlanned_130 : decode cL_isPlanned 130 = .ok (.iload_n 2, 1) := by decide +kernel
theorem dL_isPlanned_131 : decode cL_isPlanned 131 = .ok (.iconst 0, 1) := by decide +kernel
theorem dL_isPlanned_132 : decode cL_isPlanned 132 = .ok (.invokevirtual 18, 3) := by decide +kernel
theorem dL_isPlanned_135 : decode cL_isPlanned 135 = .ok (.iload 5, 2) := by decide +kernel
theorem dL_isPlanned_137 : decode cL_isPlanned 137 = .ok (.if_icmp .ge 7, 3) := by decide +kernel
theorem dL_isPlanned_140 : decode cL_isPlanned 140 = .ok (.iconst 1, 1) := by decide +kernel
theorem dL_isPlanned_141 : decode cL_isPlanned 141 = .ok (.goto 4, 3) := by decide +kernel
theorem dL_isPlanned_144 : decode cL_isPlanned 144 = .ok (.iconst 0, 1) := by decide +kernel
theorem dL_isPlanned_145 : decode cL_isPlanned 145 = .ok (.ireturn, 1) := by decide +kernel
theorem dL_isPlanned_146 : decode cL_isPlanned 146 = .ok (.iconst 0, 1) := by decide +kernel
theorem dL_isPlanned_147 : decode cL_isPlanned 147 = .ok (.istore 9, 2) := by decide +kernel
theorem dL_isPlanned_149 : decode cL_isPlanned 149 = .ok (.iconst 0, 1) := by decide +kernel
theorem dL_isPlanned_150 : decode cL_isPlanned 150 = .ok (.istore 10, 2) := by decide +kernel
theorem dL_isPlanned_152 : decode cL_isPlanned 152 = .ok (.iload 10, 2) := by decide +kernel
theorem dL_isPlanned_154 : decode cL_isPlanned 154 = .ok (.iconst 3, 1) := by decide +kernel
theorem dL_isPlanned_155 : decode cL_isPlanned 155 = .ok (.if_icmp .ge 73, 3) := by decide +kernel
theorem dL_isPlanned_158 : decode cL_isPlanned 158 = .ok (.aload_n 0, 1) := by decide +kernel
theorem dL_isPlanned_159 : decode cL_isPlanned 159 = .ok (.iload_n 2, 1) := by decide +kernel
theorem dL_isPlanned_160 : decode cL_isPlanned 160 = .ok (.iload 5, 2) := by decide +kernel
theorem dL_isPlanned_162 : decode cL_isPlanned 162 = .ok (.iload_n 3, 1) := by decide +kernel
theorem dL_isPlanned_163 : decode cL_isPlanned 163 = .ok (.iconst 1, 1) := by decide +kernel
theorem dL_isPlanned_164 : decode cL_isPlanned 164 = .ok (.iload 10, 2) := by decide +kernel
theorem dL_isPlanned_166 : decode cL_isPlanned 166 = .ok (.iadd, 1) := by decide +kernel
theorem dL_isPlanned_167 : decode cL_isPlanned 167 = .ok (.invokevirtual 48, 3) := by decide +kernel
theorem dL_isPlanned_170 : decode cL_isPlanned 170 = .ok (.istore 11, 2) := by decide +kernel
theorem dL_isPlanned_172 : decode cL_isPlanned 172 = .ok (.iload 9, 2) := by decide +kernel
theorem dL_isPlanned_174 : decode cL_isPlanned 174 = .ok (.iload 11, 2) := by decide +kernel
theorem dL_isPlanned_176 : decode cL_isPlanned 176 = .ok (.iadd, 1) := by decide +kernel
theorem dL_isPlanned_177 : decode cL_isPlanned 177 = .ok (.istore 9, 2) := by decide +kernel
theorem dL_isPlanned_179 : decode cL_isPlanned 179 = .ok (.iload 11, 2) := by decide +kernel
theorem dL_isPlanned_181 : decode cL_isPlanned 181 = .ok (.ifCond .lt 39, 3) := by decide +kernel
theorem dL_isPlanned_184 : decode cL_isPlanned 184 = .ok (.iload 11, 2) := by decide +kernel
theorem dL_isPlanned_186 : decode cL_isPlanned 186 = .ok (.aload_n 0, 1) := by decide +kernel
theorem dL_isPlanned_187 : decode cL_isPlanned 187 = .ok (.iload_n 2, 1) := by decide +kernel
theorem dL_isPlanned_188 : decode cL_isPlanned 188 = .ok (.iload 10, 2) := by decide +kernel
theorem dL_isPlanned_190 : decode cL_isPlanned 190 = .ok (.iconst 0, 1) := by decide +kernel
theorem dL_isPlanned_191 : decode cL_isPlanned 191 = .ok (.invokevirtual 25, 3) := by decide +kernel
theorem dL_isPlanned_194 : decode cL_isPlanned 194 = .ok (.if_icmp .gt 26, 3) := by decide +kernel
theorem dL_isPlanned_197 : decode cL_isPlanned 197 = .ok (.iload 11, 2) := by decide +kernel
theorem dL_isPlanned_199 : decode cL_isPlanned 199 = .ok (.aload_n 0, 1) := by decide +kernel
theorem dL_isPlanned_200 : decode cL_isPlanned 200 = .ok (.iload_n 2, 1) := by decide +kernel
theorem dL_isPlanned_201 : decode cL_isPlanned 201 = .ok (.iload 10, 2) := by decide +kernel
theorem dL_isPlanned_203 : decode cL_isPlanned 203 = .ok (.iconst 1, 1) := by decide +kernel
theorem dL_isPlanned_204 : decode cL_isPlanned 204 = .ok (.invokevirtual 25, 3) := by decide +kernel
theorem dL_isPlanned_207 : decode cL_isPlanned 207 = .ok (.if_icmp .gt 13, 3) := by decide +kernel
theorem dL_isPlanned_210 : decode cL_isPlanned 210 = .ok (.iload_n 3, 1) := by decide +kernel
theorem dL_isPlanned_211 : decode cL_isPlanned 211 = .ok (.iconst 2, 1) := by decide +kernel
theorem dL_isPlanned_212 : decode cL_isPlanned 212 = .ok (.if_icmp .ge 10, 3) := by decide +kernel
theorem dL_isPlanned_215 : decode cL_isPlanned 215 = .ok (.iload 11, 2) := by decide +kernel
theorem dL_isPlanned_217 : decode cL_isPlanned 217 = .ok (.ifCond .le 5, 3) := by decide +kernel
theorem dL_isPlanned_220 : decode cL_isPlanned 220 = .ok (.iconst 0, 1) := by decide +kernel
theorem dL_isPlanned_221 : decode cL_isPlanned 221 = .ok (.ireturn, 1) := by decide +kernel
theorem dL_isPlanned_222 : decode cL_isPlanned 222 = .ok (.iinc 10 1, 3) := by decide +kernel
theorem dL_isPlanned_225 : decode cL_isPlanned 225 = .ok (.goto (-73), 3) := by decide +kernel
theorem dL_isPlanned_228 : decode cL_isPlanned 228 = .ok (.aload_n 0, 1) := by decide +kernel
theorem dL_isPlanned_229 : decode cL_isPlanned 229 = .ok (.iload_n 2, 1) := by decide +kernel
theorem dL_isPlanned_230 : decode cL_isPlanned 230 = .ok (.iload 5, 2) := by decide +kernel
theorem dL_isPlanned_232 : decode cL_isPlanned 232 = .ok (.iload_n 3, 1) := by decide +kernel
theorem dL_isPlanned_233 : decode cL_isPlanned 233 = .ok (.iconst 4, 1) := by decide +kernel
theorem dL_isPlanned_234 : decode cL_isPlanned 234 = .ok (.invokevirtual 48, 3) := by decide +kernel
theorem dL_isPlanned_237 : decode cL_isPlanned 237 = .ok (.istore 10, 2) := by decide +kernel
theorem dL_isPlanned_239 : decode cL_isPlanned 239 = .ok (.aload_n 0, 1) := by decide +kernel
theorem dL_isPlanned_240 : decode cL_isPlanned 240 = .ok (.iload_n 2, 1) := by decide +kernel
theorem dL_isPlanned_241 : decode cL_isPlanned 241 = .ok (.iload 5, 2) := by decide +kernel
theorem dL_isPlanned_243 : decode cL_isPlanned 243 = .ok (.iload_n 3, 1) := by decide +kernel
theorem dL_isPlanned_244 : decode cL_isPlanned 244 = .ok (.iconst 5, 1) := by decide +kernel
theorem dL_isPlanned_245 : decode cL_isPlanned 245 = .ok (.invokevirtual 48, 3) := by decide +kernel
theorem dL_isPlanned_248 : decode cL_isPlanned 248 = .ok (.istore 11, 2) := by decide +kernel
theorem dL_isPlanned_250 : decode cL_isPlanned 250 = .ok (.iload 8, 2) := by decide +kernel
theorem dL_isPlanned_252 : decode cL_isPlanned 252 = .ok (.iload 9, 2) := by decide +kernel
theorem dL_isPlanned_254 : decode cL_isPlanned 254 = .ok (.iadd, 1) := by decide +kernel
theorem dL_isPlanned_255 : decode cL_isPlanned 255 = .ok (.iload 5, 2) := by decide +kernel
theorem dL_isPlanned_257 : decode cL_isPlanned 257 = .ok (.if_icmp .ne 96, 3) := by decide +kernel
theorem dL_isPlanned_260 : decode cL_isPlanned 260 = .ok (.iload 8, 2) := by decide +kernel
theorem dL_isPlanned_262 : decode cL_isPlanned 262 = .ok (.ifCond .ne 7, 3) := by decide +kernel
theorem dL_isPlanned_265 : decode cL_isPlanned 265 = .ok (.iconst 1, 1) := by decide +kernel
theorem dL_isPlanned_266 : decode cL_isPlanned 266 = .ok (.goto 4, 3) := by decide +kernel
theorem dL_isPlanned_269 : decode cL_isPlanned 269 = .ok (.iconst 0, 1) := by decide +kernel
theorem dL_isPlanned_270 : decode cL_isPlanned 270 = .ok (.iload 10, 2) := by decide +kernel
theorem dL_isPlanned_272 : decode cL_isPlanned 272 = .ok (.ifCond .ne 7, 3) := by decide +kernel
theorem dL_isPlanned_275 : decode cL_isPlanned 275 = .ok (.iconst 1, 1) := by decide +kernel
theorem dL_isPlanned_276 : decode cL_isPlanned 276 = .ok (.goto 4, 3) := by decide +kernel
theorem dL_isPlanned_279 : decode cL_isPlanned 279 = .ok (.iconst 0, 1) := by decide +kernel
theorem dL_isPlanned_280 : decode cL_isPlanned 280 = .ok (.if_icmp .ne 73, 3) := by decide +kernel
theorem dL_isPlanned_283 : decode cL_isPlanned 283 = .ok (.iload 10, 2) := by decide +kernel
theorem dL_isPlanned_285 : decode cL_isPlanned 285 = .ok (.ifCond .ne 7, 3) := by decide +kernel
theorem dL_isPlanned_288 : decode cL_isPlanned 288 = .ok (.iconst 1, 1) := by decide +kernel
theorem dL_isPlanned_289 : decode cL_isPlanned 289 = .ok (.goto 4, 3) := by decide +kernel
theorem dL_isPlanned_292 : decode cL_isPlanned 292 = .ok (.iconst 0, 1) := by decide +kernel
theorem dL_isPlanned_293 : decode cL_isPlanned 293 = .ok (.iload 11, 2) := by decide +kernel
theorem dL_isPlanned_295 : decode cL_isPlanned 295 = .ok (.bipush (-5), 2) := by decide +kernel
theorem dL_isPlanned_297 : decode cL_isPlanned 297 = .ok (.if_icmp .ne 7, 3) := by decide +kernel
theorem dL_isPlanned_300 : decode cL_isPlanned 300 = .ok (.iconst 1, 1) := by decide +kernel
theorem dL_isPlanned_301 : decode cL_isPlanned 301 = .ok (.goto 4, 3) := by decide +kernel
theorem dL_isPlanned_304 : decode cL_isPlanned 304 = .ok (.iconst 0, 1) := by decide +kernel
theorem dL_isPlanned_305 : decode cL_isPlanned 305 = .ok (.if_icmp .ne 48, 3) := by decide +kernel
theorem dL_isPlanned_308 : decode cL_isPlanned 308 = .ok (.iload 11, 2) := by decide +kernel
theorem dL_isPlanned_310 : decode cL_isPlanned 310 = .ok (.ifCond .lt 33, 3) := by decide +kernel
theorem dL_isPlanned_313 : decode cL_isPlanned 313 = .ok (.iload_n 3, 1) := by decide +kernel
theorem dL_isPlanned_314 : decode cL_isPlanned 314 = .ok (.iconst 1, 1) := by decide +kernel
theorem dL_isPlanned_315 : decode cL_isPlanned 315 = .ok (.if_icmp .ne 17, 3) := by decide +kernel
theorem dL_isPlanned_318 : decode cL_isPlanned 318 = .ok (.iload 11, 2) := by decide +kernel
theorem dL_isPlanned_320 : decode cL_isPlanned 320 = .ok (.aload_n 0, 1) := by decide +kernel
theorem dL_isPlanned_321 : decode cL_isPlanned 321 = .ok (.iload_n 2, 1) := by decide +kernel
theorem dL_isPlanned_322 : decode cL_isPlanned 322 = .ok (.iconst 3, 1) := by decide +kernel
theorem dL_isPlanned_323 : decode cL_isPlanned 323 = .ok (.invokevirtual 18, 3) := by decide +kernel
theorem dL_isPlanned_326 : decode cL_isPlanned 326 = .ok (.if_icmp .eq 17, 3) := by decide +kernel
theorem dL_isPlanned_329 : decode cL_isPlanned 329 = .ok (.goto 24, 3) := by decide +kernel
theorem dL_isPlanned_332 : decode cL_isPlanned 332 = .ok (.iload 11, 2) := by decide +kernel
theorem dL_isPlanned_334 : decode cL_isPlanned 334 = .ok (.aload_n 0, 1) := by decide +kernel
theorem dL_isPlanned_335 : decode cL_isPlanned 335 = .ok (.iload_n 2, 1) := by decide +kernel
theorem dL_isPlanned_336 : decode cL_isPlanned 336 = .ok (.iconst 2, 1) := by decide +kernel
theorem dL_isPlanned_337 : decode cL_isPlanned 337 = .ok (.invokevirtual 18, 3) := by decide +kernel
theorem dL_isPlanned_340 : decode cL_isPlanned 340 = .ok (.if_icmp .ne 13, 3) := by decide +kernel
theorem dL_isPlanned_343 : decode cL_isPlanned 343 = .ok (.aload_n 0, 1) := by decide +kernel
theorem dL_isPlanned_344 : decode cL_isPlanned 344 = .ok (.invokestatic 44, 3) := by decide +kernel
theorem dL_isPlanned_347 : decode cL_isPlanned 347 = .ok (.lload 6, 2) := by decide +kernel
theorem dL_isPlanned_349 : decode cL_isPlanned 349 = .ok (.lcmp, 1) := by decide +kernel
theorem dL_isPlanned_350 : decode cL_isPlanned 350 = .ok (.ifCond .eq 5, 3) := by decide +kernel
theorem dL_isPlanned_353 : decode cL_isPlanned 353 = .ok (.iconst 0, 1) := by decide +kernel
theorem dL_isPlanned_354 : decode cL_isPlanned 354 = .ok (.ireturn, 1) := by decide +kernel
theorem dL_isPlanned_355 : decode cL_isPlanned 355 = .ok (.iload 4, 2) := by decide +kernel
theorem dL_isPlanned_357 : decode cL_isPlanned 357 = .ok (.iload 5, 2) := by decide +kernel
theorem dL_isPlanned_359 : decode cL_isPlanned 359 = .ok (.if_icmp .ge 22, 3) := by decide +kernel
theorem dL_isPlanned_362 : decode cL_isPlanned 362 = .ok (.aload_n 0, 1) := by decide +kernel
theorem dL_isPlanned_363 : decode cL_isPlanned 363 = .ok (.iload_n 2, 1) := by decide +kernel
theorem dL_isPlanned_364 : decode cL_isPlanned 364 = .ok (.iload 5, 2) := by decide +kernel
theorem dL_isPlanned_366 : decode cL_isPlanned 366 = .ok (.iload_n 3, 1) := by decide +kernel
theorem dL_isPlanned_367 : decode cL_isPlanned 367 = .ok (.invokevirtual 52, 3) := by decide +kernel
theorem dL_isPlanned_370 : decode cL_isPlanned 370 = .ok (.bipush (-4), 2) := by decide +kernel
theorem dL_isPlanned_372 : decode cL_isPlanned 372 = .ok (.if_icmp .ne 7, 3) := by decide +kernel
theorem dL_isPlanned_375 : decode cL_isPlanned 375 = .ok (.iconst 1, 1) := by decide +kernel
theorem dL_isPlanned_376 : decode cL_isPlanned 376 = .ok (.goto 4, 3) := by decide +kernel
theorem dL_isPlanned_379 : decode cL_isPlanned 379 = .ok (.iconst 0, 1) := by decide +kernel
theorem dL_isPlanned_380 : decode cL_isPlanned 380 = .ok (.ireturn, 1) := by decide +kernel
theorem dL_isPlanned_381 : decode cL_isPlanned 381 = .ok (.aload_n 0, 1) := by decide +kernel
theorem dL_isPlanned_382 : decode cL_isPlanned 382 = .ok (.iload_n 2, 1) := by decide +kernel
theorem dL_isPlanned_383 : decode cL_isPlanned 383 = .ok (.iconst 0, 1) := by decide +kernel
theorem dL_isPlanned_384 : decode cL_isPlanned 384 = .ok (.invokevirtual 18, 3) := by decide +kernel
theorem dL_isPlanned_387 : decode cL_isPlanned 387 = .ok (.istore 12, 2) := by decide +kernel
theorem dL_isPlanned_389 : decode cL_isPlanned 389 = .ok (.aload_n 0, 1) := by decide +kernel
theorem dL_isPlanned_390 : decode cL_isPlanned 390 = .ok (.iload_n 2, 1) := by decide +kernel
theorem dL_isPlanned_391 : decode cL_isPlanned 391 = .ok (.bipush 10, 2) := by decide +kernel
theorem dL_isPlanned_393 : decode cL_isPlanned 393 = .ok (.invokevirtual 18, 3) := by decide +kernel
theorem dL_isPlanned_396 : decode cL_isPlanned 396 = .ok (.istore 13, 2) := by decide +kernel
theorem dL_isPlanned_398 : decode cL_isPlanned 398 = .ok (.aload_n 0, 1) := by decide +kernel
theorem dL_isPlanned_399 : decode cL_isPlanned 399 = .ok (.iload_n 2, 1) := by decide +kernel
theorem dL_isPlanned_400 : decode cL_isPlanned 400 = .ok (.iload 5, 2) := by decide +kernel
theorem dL_isPlanned_402 : decode cL_isPlanned 402 = .ok (.iload_n 3, 1) := by decide +kernel
theorem dL_isPlanned_403 : decode cL_isPlanned 403 = .ok (.invokevirtual 52, 3) := by decide +kernel
theorem dL_isPlanned_406 : decode cL_isPlanned 406 = .ok (.iload 4, 2) := by decide +kernel
theorem dL_isPlanned_408 : decode cL_isPlanned 408 = .ok (.iload 5, 2) := by decide +kernel
theorem dL_isPlanned_410 : decode cL_isPlanned 410 = .ok (.isub, 1) := by decide +kernel
theorem dL_isPlanned_411 : decode cL_isPlanned 411 = .ok (.if_icmp .ne 51, 3) := by decide +kernel
theorem dL_isPlanned_414 : decode cL_isPlanned 414 = .ok (.aload_n 0, 1) := by decide +kernel
theorem dL_isPlanned_415 : decode cL_isPlanned 415 = .ok (.iload_n 2, 1) := by decide +kernel
theorem dL_isPlanned_416 : decode cL_isPlanned 416 = .ok (.iconst 0, 1) := by decide +kernel
theorem dL_isPlanned_417 : decode cL_isPlanned 417 = .ok (.invokevirtual 18, 3) := by decide +kernel
theorem dL_isPlanned_420 : decode cL_isPlanned 420 = .ok (.iload 12, 2) := by decide +kernel
theorem dL_isPlanned_422 : decode cL_isPlanned 422 = .ok (.iload 8, 2) := by decide +kernel
theorem dL_isPlanned_424 : decode cL_isPlanned 424 = .ok (.isub, 1) := by decide +kernel
theorem dL_isPlanned_425 : decode cL_isPlanned 425 = .ok (.if_icmp .ne 37, 3) := by decide +kernel
theorem dL_isPlanned_428 : decode cL_isPlanned 428 = .ok (.aload_n 0, 1) := by decide +kernel
theorem dL_isPlanned_429 : decode cL_isPlanned 429 = .ok (.iload_n 2, 1) := by decide +kernel
theorem dL_isPlanned_430 : decode cL_isPlanned 430 = .ok (.bipush 7, 2) := by decide +kernel
theorem dL_isPlanned_432 : decode cL_isPlanned 432 = .ok (.invokevirtual 18, 3) := by decide +kernel
theorem dL_isPlanned_435 : decode cL_isPlanned 435 = .ok (.iload 4, 2) := by decide +kernel
theorem dL_isPlanned_437 : decode cL_isPlanned 437 = .ok (.iload 5, 2) := by decide +kernel
theorem dL_isPlanned_439 : decode cL_isPlanned 439 = .ok (.isub, 1) := by decide +kernel
theorem dL_isPlanned_440 : decode cL_isPlanned 440 = .ok (.if_icmp .ne 22, 3) := by decide +kernel
theorem dL_isPlanned_443 : decode cL_isPlanned 443 = .ok (.aload_n 0, 1) := by decide +kernel
theorem dL_isPlanned_444 : decode cL_isPlanned 444 = .ok (.iload_n 2, 1) := by decide +kernel
theorem dL_isPlanned_445 : decode cL_isPlanned 445 = .ok (.bipush 10, 2) := by decide +kernel
theorem dL_isPlanned_447 : decode cL_isPlanned 447 = .ok (.invokevirtual 18, 3) := by decide +kernel
theorem dL_isPlanned_450 : decode cL_isPlanned 450 = .ok (.iload 13, 2) := by decide +kernel
theorem dL_isPlanned_452 : decode cL_isPlanned 452 = .ok (.iload 5, 2) := by decide +kernel
theorem dL_isPlanned_454 : decode cL_isPlanned 454 = .ok (.isub, 1) := by decide +kernel
theorem dL_isPlanned_455 : decode cL_isPlanned 455 = .ok (.if_icmp .lt 7, 3) := by decide +kernel
theorem dL_isPlanned_458 : decode cL_isPlanned 458 = .ok (.iconst 1, 1) := by decide +kernel
theorem dL_isPlanned_459 : decode cL_isPlanned 459 = .ok (.goto 4, 3) := by decide +kernel
theorem dL_isPlanned_462 : decode cL_isPlanned 462 = .ok (.iconst 0, 1) := by decide +kernel
theorem dL_isPlanned_463 : decode cL_isPlanned 463 = .ok (.istore 14, 2) := by decide +kernel
theorem dL_isPlanned_465 : decode cL_isPlanned 465 = .ok (.iload 14, 2) := by decide +kernel
theorem dL_isPlanned_467 : decode cL_isPlanned 467 = .ok (.ifCond .eq 24, 3) := by decide +kernel
theorem dL_isPlanned_470 : decode cL_isPlanned 470 = .ok (.aload_n 0, 1) := by decide +kernel
theorem dL_isPlanned_471 : decode cL_isPlanned 471 = .ok (.invokevirtual 55, 3) := by decide +kernel
theorem dL_isPlanned_474 : decode cL_isPlanned 474 = .ok (.ifCond .lt 17, 3) := by decide +kernel
theorem dL_isPlanned_477 : decode cL_isPlanned 477 = .ok (.aload_n 0, 1) := by decide +kernel
theorem dL_isPlanned_478 : decode cL_isPlanned 478 = .ok (.invokestatic 44, 3) := by decide +kernel
theorem dL_isPlanned_481 : decode cL_isPlanned 481 = .ok (.lload 6, 2) := by decide +kernel
theorem dL_isPlanned_483 : decode cL_isPlanned 483 = .ok (.lcmp, 1) := by decide +kernel
theorem dL_isPlanned_484 : decode cL_isPlanned 484 = .ok (.ifCond .ne 7, 3) := by decide +kernel
theorem dL_isPlanned_487 : decode cL_isPlanned 487 = .ok (.iconst 1, 1) := by decide +kernel
theorem dL_isPlanned_488 : decode cL_isPlanned 488 = .ok (.goto 4, 3) := by decide +kernel
theorem dL_isPlanned_491 : decode cL_isPlanned 491 = .ok (.iconst 0, 1) := by decide +kernel
theorem dL_isPlanned_492 : decode cL_isPlanned 492 = .ok (.ireturn, 1) := by decide +kernel
theorem dL_acts_0 : decode cL_acts 0 = .ok (.aload_n 0, 1) := by decide +kernel
theorem dL_acts_1 : decode cL_acts 1 = .ok (.iconst 2, 1) := by decide +kernel
theorem dL_acts_2 : decode cL_acts 2 = .ok (.invokevirtual 12, 3) := by decide +kernel
theorem dL_acts_5 : decode cL_acts 5 = .ok (.istore_n 2, 1) := by decide +kernel
theorem dL_acts_6 : decode cL_acts 6 = .ok (.iload_n 1, 1) := by decide +kernel
theorem dL_acts_7 : decode cL_acts 7 = .ok (.iconst 4, 1) := by decide +kernel
theorem dL_acts_8 : decode cL_acts 8 = .ok (.ishr, 1) := by decide +kernel
theorem dL_acts_9 : decode cL_acts 9 = .ok (.iload_n 1, 1) := by decide +kernel
theorem dL_acts_10 : decode cL_acts 10 = .ok (.bipush 26, 2) := by decide +kernel
theorem dL_acts_12 : decode cL_acts 12 = .ok (.ishr, 1) := by decide +kernel
theorem dL_acts_13 : decode cL_acts 13 = .ok (.bipush 7, 2) := by decide +kernel
theorem dL_acts_15 : decode cL_acts 15 = .ok (.iand, 1) := by decide +kernel
theorem dL_acts_16 : decode cL_acts 16 = .ok (.ifCond .ne 9, 3) := by decide +kernel
theorem dL_acts_19 : decode cL_acts 19 = .ok (.iload_n 2, 1) := by decide +kernel
theorem dL_acts_20 : decode cL_acts 20 = .ok (.iconst 1, 1) := by decide +kernel
theorem dL_acts_21 : decode cL_acts 21 = .ok (.iadd, 1) := by decide +kernel
theorem dL_acts_22 : decode cL_acts 22 = .ok (.goto 4, 3) := by decide +kernel
theorem dL_acts_25 : decode cL_acts 25 = .ok (.iload_n 2, 1) := by decide +kernel
theorem dL_acts_26 : decode cL_acts 26 = .ok (.invokestatic 41, 3) := by decide +kernel
theorem dL_acts_29 : decode cL_acts 29 = .ok (.istore_n 3, 1) := by decide +kernel
theorem dL_acts_30 : decode cL_acts 30 = .ok (.iload_n 1, 1) := by decide +kernel
theorem dL_acts_31 : decode cL_acts 31 = .ok (.bipush 7, 2) := by decide +kernel
theorem dL_acts_33 : decode cL_acts 33 = .ok (.ishr, 1) := by decide +kernel
theorem dL_acts_34 : decode cL_acts 34 = .ok (.iload_n 2, 1) := by decide +kernel
theorem dL_acts_35 : decode cL_acts 35 = .ok (.invokestatic 41, 3) := by decide +kernel
theorem dL_acts_38 : decode cL_acts 38 = .ok (.istore 4, 2) := by decide +kernel
theorem dL_acts_40 : decode cL_acts 40 = .ok (.iload_n 1, 1) := by decide +kernel
theorem dL_acts_41 : decode cL_acts 41 = .ok (.bipush 25, 2) := by decide +kernel
theorem dL_acts_43 : decode cL_acts 43 = .ok (.ishr, 1) := by decide +kernel
theorem dL_acts_44 : decode cL_acts 44 = .ok (.iconst 3, 1) := by decide +kernel
theorem dL_acts_45 : decode cL_acts 45 = .ok (.iand, 1) := by decide +kernel
theorem dL_acts_46 : decode cL_acts 46 = .ok (.ifCond .ne 16, 3) := by decide +kernel
theorem dL_acts_49 : decode cL_acts 49 = .ok (.iload_n 1, 1) := by decide +kernel
theorem dL_acts_50 : decode cL_acts 50 = .ok (.bipush 9, 2) := by decide +kernel
theorem dL_acts_52 : decode cL_acts 52 = .ok (.ishr, 1) := by decide +kernel
theorem dL_acts_53 : decode cL_acts 53 = .ok (.sipush 10001, 3) := by decide +kernel
theorem dL_acts_56 : decode cL_acts 56 = .ok (.invokestatic 41, 3) := by decide +kernel
theorem dL_acts_59 : decode cL_acts 59 = .ok (.goto 15, 3) := by decide +kernel
theorem dL_acts_62 : decode cL_acts 62 = .ok (.iconst 1, 1) := by decide +kernel
theorem dL_acts_63 : decode cL_acts 63 = .ok (.iload_n 1, 1) := by decide +kernel
theorem dL_acts_64 : decode cL_acts 64 = .ok (.bipush 9, 2) := by decide +kernel
theorem dL_acts_66 : decode cL_acts 66 = .ok (.ishr, 1) := by decide +kernel
theorem dL_acts_67 : decode cL_acts 67 = .ok (.sipush 700, 3) := by decide +kernel
theorem dL_acts_70 : decode cL_acts 70 = .ok (.invokestatic 41, 3) := by decide +kernel
theorem dL_acts_73 : decode cL_acts 73 = .ok (.iadd, 1) := by decide +kernel
theorem dL_acts_74 : decode cL_acts 74 = .ok (.istore 5, 2) := by decide +kernel
theorem dL_acts_76 : decode cL_acts 76 = .ok (.iload_n 1, 1) := by decide +kernel
theorem dL_acts_77 : decode cL_acts 77 = .ok (.bipush 18, 2) := by decide +kernel
theorem dL_acts_79 : decode cL_acts 79 = .ok (.ishr, 1) := by decide +kernel
theorem dL_acts_80 : decode cL_acts 80 = .ok (.iconst 1, 1) := by decide +kernel
theorem dL_acts_81 : decode cL_acts 81 = .ok (.aload_n 0, 1) := by decide +kernel
theorem dL_acts_82 : decode cL_acts 82 = .ok (.iconst 1, 1) := by decide +kernel
theorem dL_acts_83 : decode cL_acts 83 = .ok (.invokevirtual 12, 3) := by decide +kernel
theorem dL_acts_86 : decode cL_acts 86 = .ok (.iadd, 1) := by decide +kernel
theorem dL_acts_87 : decode cL_acts 87 = .ok (.invokestatic 41, 3) := by decide +kernel
theorem dL_acts_90 : decode cL_acts 90 = .ok (.istore 6, 2) := by decide +kernel
theorem dL_acts_92 : decode cL_acts 92 = .ok (.iload_n 1, 1) := by decide +kernel
theorem dL_acts_93 : decode cL_acts 93 = .ok (.bipush 20, 2) := by decide +kernel
theorem dL_acts_95 : decode cL_acts 95 = .ok (.invokestatic 41, 3) := by decide +kernel
theorem dL_acts_98 : decode cL_acts 98 = .ok (.tableswitch 203 0 16 #[82, 82, 82, 90, 90, 106, 106, 118, 136, 146, 146, 146, 154, 160, 160, 176, 198], 82) := by decide +kernel
theorem dL_acts_180 : decode cL_acts 180 = .ok (.aload_n 0, 1) := by decide +kernel
theorem dL_acts_181 : decode cL_acts 181 = .ok (.iload_n 3, 1) := by decide +kernel
theorem dL_acts_182 : decode cL_acts 182 = .ok (.iload 5, 2) := by decide +kernel
theorem dL_acts_184 : decode cL_acts 184 = .ok (.invokevirtual 59, 3) := by decide +kernel
theorem dL_acts_187 : decode cL_acts 187 = .ok (.ireturn, 1) := by decide +kernel
theorem dL_acts_188 : decode cL_acts 188 = .ok (.aload_n 0, 1) := by decide +kernel
theorem dL_acts_189 : decode cL_acts 189 = .ok (.iload_n 3, 1) := by decide +kernel
theorem dL_acts_190 : decode cL_acts 190 = .ok (.iload_n 1, 1) := by decide +kernel
theorem dL_acts_191 : decode cL_acts 191 = .ok (.bipush 18, 2) := by decide +kernel
theorem dL_acts_193 : decode cL_acts 193 = .ok (.ishr, 1) := by decide +kernel
theorem dL_acts_194 : decode cL_acts 194 = .ok (.iconst 4, 1) := by decide +kernel
theorem dL_acts_195 : decode cL_acts 195 = .ok (.invokestatic 41, 3) := by decide +kernel
theorem dL_acts_198 : decode cL_acts 198 = .ok (.iload 5, 2) := by decide +kernel
theorem dL_acts_200 : decode cL_acts 200 = .ok (.invokevirtual 62, 3) := by decide +kernel
theorem dL_acts_203 : decode cL_acts 203 = .ok (.ireturn, 1) := by decide +kernel
theorem dL_acts_204 : decode cL_acts 204 = .ok (.aload_n 0, 1) := by decide +kernel
theorem dL_acts_205 : decode cL_acts 205 = .ok (.iload_n 3, 1) := by decide +kernel
theorem dL_acts_206 : decode cL_acts 206 = .ok (.iload 4, 2) := by decide +kernel
theorem dL_acts_208 : decode cL_acts 208 = .ok (.iload 6, 2) := by decide +kernel
theorem dL_acts_210 : decode cL_acts 210 = .ok (.iload 5, 2) := by decide +kernel
theorem dL_acts_212 : decode cL_acts 212 = .ok (.invokevirtual 65, 3) := by decide +kernel
theorem dL_acts_215 : decode cL_acts 215 = .ok (.ireturn, 1) := by decide +kernel
theorem dL_acts_216 : decode cL_acts 216 = .ok (.aload_n 0, 1) := by decide +kernel
theorem dL_acts_217 : decode cL_acts 217 = .ok (.iload_n 3, 1) := by decide +kernel
theorem dL_acts_218 : decode cL_acts 218 = .ok (.iload 4, 2) := by decide +kernel
theorem dL_acts_220 : decode cL_acts 220 = .ok (.iload_n 1, 1) := by decide +kernel
theorem dL_acts_221 : decode cL_acts 221 = .ok (.bipush 18, 2) := by decide +kernel
theorem dL_acts_223 : decode cL_acts 223 = .ok (.ishr, 1) := by decide +kernel
theorem dL_acts_224 : decode cL_acts 224 = .ok (.iconst 3, 1) := by decide +kernel
theorem dL_acts_225 : decode cL_acts 225 = .ok (.invokestatic 41, 3) := by decide +kernel
theorem dL_acts_228 : decode cL_acts 228 = .ok (.iload 5, 2) := by decide +kernel
theorem dL_acts_230 : decode cL_acts 230 = .ok (.invokevirtual 68, 3) := by decide +kernel
theorem dL_acts_233 : decode cL_acts 233 = .ok (.ireturn, 1) := by decide +kernel
theorem dL_acts_234 : decode cL_acts 234 = .ok (.aload_n 0, 1) := by decide +kernel
theorem dL_acts_235 : decode cL_acts 235 = .ok (.iload_n 3, 1) := by decide +kernel
theorem dL_acts_236 : decode cL_acts 236 = .ok (.iload 6, 2) := by decide +kernel
theorem dL_acts_238 : decode cL_acts 238 = .ok (.iload 5, 2) := by decide +kernel
theorem dL_acts_240 : decode cL_acts 240 = .ok (.invokevirtual 71, 3) := by decide +kernel
theorem dL_acts_243 : decode cL_acts 243 = .ok (.ireturn, 1) := by decide +kernel
theorem dL_acts_244 : decode cL_acts 244 = .ok (.aload_n 0, 1) := by decide +kernel
theorem dL_acts_245 : decode cL_acts 245 = .ok (.iload_n 3, 1) := by decide +kernel
theorem dL_acts_246 : decode cL_acts 246 = .ok (.iload 5, 2) := by decide +kernel
theorem dL_acts_248 : decode cL_acts 248 = .ok (.invokevirtual 74, 3) := by decide +kernel
theorem dL_acts_251 : decode cL_acts 251 = .ok (.ireturn, 1) := by decide +kernel
theorem dL_acts_252 : decode cL_acts 252 = .ok (.aload_n 0, 1) := by decide +kernel
theorem dL_acts_253 : decode cL_acts 253 = .ok (.iload_n 3, 1) := by decide +kernel
theorem dL_acts_254 : decode cL_acts 254 = .ok (.invokevirtual 77, 3) := by decide +kernel
theorem dL_acts_257 : decode cL_acts 257 = .ok (.ireturn, 1) := by decide +kernel
theorem dL_acts_258 : decode cL_acts 258 = .ok (.aload_n 0, 1) := by decide +kernel
theorem dL_acts_259 : decode cL_acts 259 = .ok (.iload_n 3, 1) := by decide +kernel
theorem dL_acts_260 : decode cL_acts 260 = .ok (.iload 5, 2) := by decide +kernel
theorem dL_acts_262 : decode cL_acts 262 = .ok (.iload_n 1, 1) := by decide +kernel
theorem dL_acts_263 : decode cL_acts 263 = .ok (.bipush 18, 2) := by decide +kernel
theorem dL_acts_265 : decode cL_acts 265 = .ok (.ishr, 1) := by decide +kernel
theorem dL_acts_266 : decode cL_acts 266 = .ok (.iconst 3, 1) := by decide +kernel
theorem dL_acts_267 : decode cL_acts 267 = .ok (.invokestatic 41, 3) := by decide +kernel
theorem dL_acts_270 : decode cL_acts 270 = .ok (.invokevirtual 52, 3) := by decide +kernel
theorem dL_acts_273 : decode cL_acts 273 = .ok (.ireturn, 1) := by decide +kernel
theorem dL_acts_274 : decode cL_acts 274 = .ok (.aload_n 0, 1) := by decide +kernel
theorem dL_acts_275 : decode cL_acts 275 = .ok (.iload_n 1, 1) := by decide +kernel
theorem dL_acts_276 : decode cL_acts 276 = .ok (.iconst 4, 1) := by decide +kernel
theorem dL_acts_277 : decode cL_acts 277 = .ok (.ishr, 1) := by decide +kernel
theorem dL_acts_278 : decode cL_acts 278 = .ok (.bipush 6, 2) := by decide +kernel
theorem dL_acts_280 : decode cL_acts 280 = .ok (.invokestatic 41, 3) := by decide +kernel
theorem dL_acts_283 : decode cL_acts 283 = .ok (.iload_n 1, 1) := by decide +kernel
theorem dL_acts_284 : decode cL_acts 284 = .ok (.bipush 9, 2) := by decide +kernel
theorem dL_acts_286 : decode cL_acts 286 = .ok (.ishr, 1) := by decide +kernel
theorem dL_acts_287 : decode cL_acts 287 = .ok (.bipush 103, 2) := by decide +kernel
theorem dL_acts_289 : decode cL_acts 289 = .ok (.invokestatic 41, 3) := by decide +kernel
theorem dL_acts_292 : decode cL_acts 292 = .ok (.invokevirtual 80, 3) := by decide +kernel
theorem dL_acts_295 : decode cL_acts 295 = .ok (.ireturn, 1) := by decide +kernel
theorem dL_acts_296 : decode cL_acts 296 = .ok (.aload_n 0, 1) := by decide +kernel
theorem dL_acts_297 : decode cL_acts 297 = .ok (.invokevirtual 83, 3) := by decide +kernel
theorem dL_acts_300 : decode cL_acts 300 = .ok (.ireturn, 1) := by decide +kernel
theorem dL_acts_301 : decode cL_acts 301 = .ok (.aload_n 0, 1) := by decide +kernel
theorem dL_acts_302 : decode cL_acts 302 = .ok (.iconst 1, 1) := by decide +kernel
theorem dL_acts_303 : decode cL_acts 303 = .ok (.iload_n 1, 1) := by decide +kernel
theorem dL_acts_304 : decode cL_acts 304 = .ok (.bipush 9, 2) := by decide +kernel
theorem dL_acts_306 : decode cL_acts 306 = .ok (.ishr, 1) := by decide +kernel
theorem dL_acts_307 : decode cL_acts 307 = .ok (.bipush 25, 2) := by decide +kernel
theorem dL_acts_309 : decode cL_acts 309 = .ok (.invokestatic 41, 3) := by decide +kernel
theorem dL_acts_312 : decode cL_acts 312 = .ok (.iadd, 1) := by decide +kernel
theorem dL_acts_313 : decode cL_acts 313 = .ok (.invokevirtual 86, 3) := by decide +kernel
theorem dL_acts_316 : decode cL_acts 316 = .ok (.ireturn, 1) := by decide +kernel
theorem dL_law_0 : decode cL_law 0 = .ok (.new 13, 3) := by decide +kernel
theorem dL_law_3 : decode cL_law 3 = .ok (.dup, 1) := by decide +kernel
theorem dL_law_4 : decode cL_law 4 = .ok (.invokespecial 89, 3) := by decide +kernel
theorem dL_law_7 : decode cL_law 7 = .ok (.astore_n 1, 1) := by decide +kernel
theorem dL_law_8 : decode cL_law 8 = .ok (.aload_n 0, 1) := by decide +kernel
theorem dL_law_9 : decode cL_law 9 = .ok (.iconst 0, 1) := by decide +kernel
theorem dL_law_10 : decode cL_law 10 = .ok (.invokestatic 90, 3) := by decide +kernel
theorem dL_law_13 : decode cL_law 13 = .ok (.istore_n 2, 1) := by decide +kernel
theorem dL_law_14 : decode cL_law 14 = .ok (.iconst 0, 1) := by decide +kernel
theorem dL_law_15 : decode cL_law 15 = .ok (.istore_n 3, 1) := by decide +kernel
theorem dL_law_16 : decode cL_law 16 = .ok (.iload_n 3, 1) := by decide +kernel
theorem dL_law_17 : decode cL_law 17 = .ok (.iconst 2, 1) := by decide +kernel
theorem dL_law_18 : decode cL_law 18 = .ok (.iload_n 2, 1) := by decide +kernel
theorem dL_law_19 : decode cL_law 19 = .ok (.iconst 3, 1) := by decide +kernel
theorem dL_law_20 : decode cL_law 20 = .ok (.invokestatic 41, 3) := by decide +kernel
theorem dL_law_23 : decode cL_law 23 = .ok (.iadd, 1) := by decide +kernel
theorem dL_law_24 : decode cL_law 24 = .ok (.if_icmp .ge 54, 3) := by decide +kernel
theorem dL_law_27 : decode cL_law 27 = .ok (.aload_n 1, 1) := by decide +kernel
theorem dL_law_28 : decode cL_law 28 = .ok (.invokevirtual 83, 3) := by decide +kernel
theorem dL_law_31 : decode cL_law 31 = .ok (.pop, 1) := by decide +kernel
theorem dL_law_32 : decode cL_law 32 = .ok (.aload_n 1, 1) := by decide +kernel
theorem dL_law_33 : decode cL_law 33 = .ok (.iload_n 3, 1) := by decide +kernel
theorem dL_law_34 : decode cL_law 34 = .ok (.iconst 1, 1) := by decide +kernel
theorem dL_law_35 : decode cL_law 35 = .ok (.iload_n 2, 1) := by decide +kernel
theorem dL_law_36 : decode cL_law 36 = .ok (.iconst 3, 1) := by decide +kernel
theorem dL_law_37 : decode cL_law 37 = .ok (.iload_n 3, 1) := by decide +kernel
theorem dL_law_38 : decode cL_law 38 = .ok (.imul, 1) := by decide +kernel
theorem dL_law_39 : decode cL_law 39 = .ok (.ishr, 1) := by decide +kernel
theorem dL_law_40 : decode cL_law 40 = .ok (.sipush 900, 3) := by decide +kernel
theorem dL_law_43 : decode cL_law 43 = .ok (.invokestatic 41, 3) := by decide +kernel
theorem dL_law_46 : decode cL_law 46 = .ok (.iadd, 1) := by decide +kernel
theorem dL_law_47 : decode cL_law 47 = .ok (.invokevirtual 59, 3) := by decide +kernel
theorem dL_law_50 : decode cL_law 50 = .ok (.pop, 1) := by decide +kernel
theorem dL_law_51 : decode cL_law 51 = .ok (.aload_n 1, 1) := by decide +kernel
theorem dL_law_52 : decode cL_law 52 = .ok (.iload_n 3, 1) := by decide +kernel
theorem dL_law_53 : decode cL_law 53 = .ok (.iconst 1, 1) := by decide +kernel
theorem dL_law_54 : decode cL_law 54 = .ok (.iload_n 2, 1) := by decide +kernel
theorem dL_law_55 : decode cL_law 55 = .ok (.iconst 4, 1) := by decide +kernel
theorem dL_law_56 : decode cL_law 56 = .ok (.iconst 3, 1) := by decide +kernel
theorem dL_law_57 : decode cL_law 57 = .ok (.iload_n 3, 1) := by decide +kernel
theorem dL_law_58 : decode cL_law 58 = .ok (.imul, 1) := by decide +kernel
theorem dL_law_59 : decode cL_law 59 = .ok (.iadd, 1) := by decide +kernel
theorem dL_law_60 : decode cL_law 60 = .ok (.ishr, 1) := by decide +kernel
theorem dL_law_61 : decode cL_law 61 = .ok (.sipush 900, 3) := by decide +kernel
theorem dL_law_64 : decode cL_law 64 = .ok (.invokestatic 41, 3) := by decide +kernel
theorem dL_law_67 : decode cL_law 67 = .ok (.iadd, 1) := by decide +kernel
theorem dL_law_68 : decode cL_law 68 = .ok (.invokevirtual 74, 3) := by decide +kernel
theorem dL_law_71 : decode cL_law 71 = .ok (.pop, 1) := by decide +kernel
theorem dL_law_72 : decode cL_law 72 = .ok (.iinc 3 1, 3) := by decide +kernel
theorem dL_law_75 : decode cL_law 75 = .ok (.goto (-59), 3) := by decide +kernel
theorem dL_law_78 : decode cL_law 78 = .ok (.iconst 0, 1) := by decide +kernel
theorem dL_law_79 : decode cL_law 79 = .ok (.istore_n 3, 1) := by decide +kernel
theorem dL_law_80 : decode cL_law 80 = .ok (.iload_n 3, 1) := by decide +kernel
theorem dL_law_81 : decode cL_law 81 = .ok (.bipush 24, 2) := by decide +kernel
theorem dL_law_83 : decode cL_law 83 = .ok (.if_icmp .ge 118, 3) := by decide +kernel
theorem dL_law_86 : decode cL_law 86 = .ok (.aload_n 0, 1) := by decide +kernel
theorem dL_law_87 : decode cL_law 87 = .ok (.iconst 1, 1) := by decide +kernel
theorem dL_law_88 : decode cL_law 88 = .ok (.iload_n 3, 1) := by decide +kernel
theorem dL_law_89 : decode cL_law 89 = .ok (.iadd, 1) := by decide +kernel
theorem dL_law_90 : decode cL_law 90 = .ok (.invokestatic 90, 3) := by decide +kernel
theorem dL_law_93 : decode cL_law 93 = .ok (.istore 4, 2) := by decide +kernel
theorem dL_law_95 : decode cL_law 95 = .ok (.aload_n 1, 1) := by decide +kernel
theorem dL_law_96 : decode cL_law 96 = .ok (.invokestatic 44, 3) := by decide +kernel
theorem dL_law_99 : decode cL_law 99 = .ok (.lstore 5, 2) := by decide +kernel
theorem dL_law_101 : decode cL_law 101 = .ok (.aload_n 1, 1) := by decide +kernel
theorem dL_law_102 : decode cL_law 102 = .ok (.iload 4, 2) := by decide +kernel
theorem dL_law_104 : decode cL_law 104 = .ok (.invokestatic 94, 3) := by decide +kernel
theorem dL_law_107 : decode cL_law 107 = .ok (.istore 7, 2) := by decide +kernel
theorem dL_law_109 : decode cL_law 109 = .ok (.iload 7, 2) := by decide +kernel
theorem dL_law_111 : decode cL_law 111 = .ok (.ifCond .ge 15, 3) := by decide +kernel
theorem dL_law_114 : decode cL_law 114 = .ok (.aload_n 1, 1) := by decide +kernel
theorem dL_law_115 : decode cL_law 115 = .ok (.invokestatic 44, 3) := by decide +kernel
theorem dL_law_118 : decode cL_law 118 = .ok (.lload 5, 2) := by decide +kernel
theorem dL_law_120 : decode cL_law 120 = .ok (.lcmp, 1) := by decide +kernel
theorem dL_law_121 : decode cL_law 121 = .ok (.ifCond .eq 5, 3) := by decide +kernel
theorem dL_law_124 : decode cL_law 124 = .ok (.iconst 0, 1) := by decide +kernel
theorem dL_law_125 : decode cL_law 125 = .ok (.ireturn, 1) := by decide +kernel
theorem dL_law_126 : decode cL_law 126 = .ok (.iload 7, 2) := by decide +kernel
theorem dL_law_128 : decode cL_law 128 = .ok (.ifCond .lt 32, 3) := by decide +kernel
theorem dL_law_131 : decode cL_law 131 = .ok (.iload 4, 2) := by decide +kernel
theorem dL_law_133 : decode cL_law 133 = .ok (.bipush 28, 2) := by decide +kernel
theorem dL_law_135 : decode cL_law 135 = .ok (.ishr, 1) := by decide +kernel
theorem dL_law_136 : decode cL_law 136 = .ok (.iconst 3, 1) := by decide +kernel
theorem dL_law_137 : decode cL_law 137 = .ok (.iand, 1) := by decide +kernel
theorem dL_law_138 : decode cL_law 138 = .ok (.ifCond .ne 22, 3) := by decide +kernel
theorem dL_law_141 : decode cL_law 141 = .ok (.aload_n 1, 1) := by decide +kernel
theorem dL_law_142 : decode cL_law 142 = .ok (.invokevirtual 55, 3) := by decide +kernel
theorem dL_law_145 : decode cL_law 145 = .ok (.ifCond .lt 13, 3) := by decide +kernel
theorem dL_law_148 : decode cL_law 148 = .ok (.aload_n 1, 1) := by decide +kernel
theorem dL_law_149 : decode cL_law 149 = .ok (.invokestatic 44, 3) := by decide +kernel
theorem dL_law_152 : decode cL_law 152 = .ok (.lload 5, 2) := by decide +kernel
theorem dL_law_154 : decode cL_law 154 = .ok (.lcmp, 1) := by decide +kernel
theorem dL_law_155 : decode cL_law 155 = .ok (.ifCond .eq 5, 3) := by decide +kernel
theorem dL_law_158 : decode cL_law 158 = .ok (.iconst 0, 1) := by decide +kernel
theorem dL_law_159 : decode cL_law 159 = .ok (.ireturn, 1) := by decide +kernel
theorem dL_law_160 : decode cL_law 160 = .ok (.iload_n 3, 1) := by decide +kernel
theorem dL_law_161 : decode cL_law 161 = .ok (.iconst 3, 1) := by decide +kernel
theorem dL_law_162 : decode cL_law 162 = .ok (.irem, 1) := by decide +kernel
theorem dL_law_163 : decode cL_law 163 = .ok (.iconst 1, 1) := by decide +kernel
theorem dL_law_164 : decode cL_law 164 = .ok (.if_icmp .ne 10, 3) := by decide +kernel
theorem dL_law_167 : decode cL_law 167 = .ok (.aload_n 1, 1) := by decide +kernel
theorem dL_law_168 : decode cL_law 168 = .ok (.invokestatic 98, 3) := by decide +kernel
theorem dL_law_171 : decode cL_law 171 = .ok (.ifCond .eq 22, 3) := by decide +kernel
theorem dL_law_174 : decode cL_law 174 = .ok (.iload_n 3, 1) := by decide +kernel
theorem dL_law_175 : decode cL_law 175 = .ok (.iconst 3, 1) := by decide +kernel
theorem dL_law_176 : decode cL_law 176 = .ok (.irem, 1) := by decide +kernel
theorem dL_law_177 : decode cL_law 177 = .ok (.iconst 2, 1) := by decide +kernel
theorem dL_law_178 : decode cL_law 178 = .ok (.if_icmp .ne 17, 3) := by decide +kernel
theorem dL_law_181 : decode cL_law 181 = .ok (.aload_n 1, 1) := by decide +kernel
theorem dL_law_182 : decode cL_law 182 = .ok (.iload 4, 2) := by decide +kernel
theorem dL_law_184 : decode cL_law 184 = .ok (.bipush 7, 2) := by decide +kernel
theorem dL_law_186 : decode cL_law 186 = .ok (.ishr, 1) := by decide +kernel
theorem dL_law_187 : decode cL_law 187 = .ok (.invokestatic 102, 3) := by decide +kernel
theorem dL_law_190 : decode cL_law 190 = .ok (.ifCond .ne 5, 3) := by decide +kernel
theorem dL_law_193 : decode cL_law 193 = .ok (.iconst 0, 1) := by decide +kernel
theorem dL_law_194 : decode cL_law 194 = .ok (.ireturn, 1) := by decide +kernel
theorem dL_law_195 : decode cL_law 195 = .ok (.iinc 3 1, 3) := by decide +kernel
theorem dL_law_198 : decode cL_law 198 = .ok (.goto (-118), 3) := by decide +kernel
theorem dL_law_201 : decode cL_law 201 = .ok (.aload_n 1, 1) := by decide +kernel
theorem dL_law_202 : decode cL_law 202 = .ok (.invokestatic 44, 3) := by decide +kernel
theorem dL_law_205 : decode cL_law 205 = .ok (.lstore_n 3, 1) := by decide +kernel
theorem dL_law_206 : decode cL_law 206 = .ok (.aload_n 1, 1) := by decide +kernel
theorem dL_law_207 : decode cL_law 207 = .ok (.invokevirtual 106, 3) := by decide +kernel
theorem dL_law_210 : decode cL_law 210 = .ok (.aload_n 1, 1) := by decide +kernel
theorem dL_law_211 : decode cL_law 211 = .ok (.iconst 0, 1) := by decide +kernel
theorem dL_law_212 : decode cL_law 212 = .ok (.invokevirtual 12, 3) := by decide +kernel
theorem dL_law_215 : decode cL_law 215 = .ok (.if_icmp .eq 5, 3) := by decide +kernel
theorem dL_law_218 : decode cL_law 218 = .ok (.iconst 0, 1) := by decide +kernel
theorem dL_law_219 : decode cL_law 219 = .ok (.ireturn, 1) := by decide +kernel
theorem dL_law_220 : decode cL_law 220 = .ok (.aload_n 1, 1) := by decide +kernel
theorem dL_law_221 : decode cL_law 221 = .ok (.bipush 13, 2) := by decide +kernel
theorem dL_law_223 : decode cL_law 223 = .ok (.invokevirtual 86, 3) := by decide +kernel
theorem dL_law_226 : decode cL_law 226 = .ok (.pop, 1) := by decide +kernel
theorem dL_law_227 : decode cL_law 227 = .ok (.aload_n 1, 1) := by decide +kernel
theorem dL_law_228 : decode cL_law 228 = .ok (.iconst 0, 1) := by decide +kernel
theorem dL_law_229 : decode cL_law 229 = .ok (.bipush 77, 2) := by decide +kernel
theorem dL_law_231 : decode cL_law 231 = .ok (.invokevirtual 80, 3) := by decide +kernel
theorem dL_law_234 : decode cL_law 234 = .ok (.pop, 1) := by decide +kernel
theorem dL_law_235 : decode cL_law 235 = .ok (.aload_n 1, 1) := by decide +kernel
theorem dL_law_236 : decode cL_law 236 = .ok (.invokevirtual 83, 3) := by decide +kernel
theorem dL_law_239 : decode cL_law 239 = .ok (.pop, 1) := by decide +kernel
theorem dL_law_240 : decode cL_law 240 = .ok (.aload_n 1, 1) := by decide +kernel
theorem dL_law_241 : decode cL_law 241 = .ok (.invokevirtual 109, 3) := by decide +kernel
theorem dL_law_244 : decode cL_law 244 = .ok (.aload_n 1, 1) := by decide +kernel
theorem dL_law_245 : decode cL_law 245 = .ok (.iconst 0, 1) := by decide +kernel
theorem dL_law_246 : decode cL_law 246 = .ok (.invokevirtual 12, 3) := by decide +kernel
theorem dL_law_249 : decode cL_law 249 = .ok (.if_icmp .ne 138, 3) := by decide +kernel
theorem dL_law_252 : decode cL_law 252 = .ok (.aload_n 1, 1) := by decide +kernel
theorem dL_law_253 : decode cL_law 253 = .ok (.invokestatic 44, 3) := by decide +kernel
theorem dL_law_256 : decode cL_law 256 = .ok (.lload_n 3, 1) := by decide +kernel
theorem dL_law_257 : decode cL_law 257 = .ok (.lcmp, 1) := by decide +kernel
theorem dL_law_258 : decode cL_law 258 = .ok (.ifCond .ne 129, 3) := by decide +kernel
theorem dL_law_261 : decode cL_law 261 = .ok (.aload_n 1, 1) := by decide +kernel
theorem dL_law_262 : decode cL_law 262 = .ok (.invokevirtual 55, 3) := by decide +kernel
theorem dL_law_265 : decode cL_law 265 = .ok (.ifCond .lt 122, 3) := by decide +kernel
theorem dL_law_268 : decode cL_law 268 = .ok (.aload_n 1, 1) := by decide +kernel
theorem dL_law_269 : decode cL_law 269 = .ok (.invokevirtual 109, 3) := by decide +kernel
theorem dL_law_272 : decode cL_law 272 = .ok (.ifCond .lt 115, 3) := by decide +kernel
theorem dL_law_275 : decode cL_law 275 = .ok (.aload_n 1, 1) := by decide +kernel
theorem dL_law_276 : decode cL_law 276 = .ok (.invokestatic 44, 3) := by decide +kernel
theorem dL_law_279 : decode cL_law 279 = .ok (.lload_n 3, 1) := by decide +kernel
theorem dL_law_280 : decode cL_law 280 = .ok (.lcmp, 1) := by decide +kernel
theorem dL_law_281 : decode cL_law 281 = .ok (.ifCond .ne 106, 3) := by decide +kernel
theorem dL_law_284 : decode cL_law 284 = .ok (.aload_n 1, 1) := by decide +kernel
theorem dL_law_285 : decode cL_law 285 = .ok (.bipush 20, 2) := by decide +kernel
theorem dL_law_287 : decode cL_law 287 = .ok (.iconst 0, 1) := by decide +kernel
theorem dL_law_288 : decode cL_law 288 = .ok (.invokevirtual 29, 3) := by decide +kernel
theorem dL_law_291 : decode cL_law 291 = .ok (.iconst (-1), 1) := by decide +kernel
theorem dL_law_292 : decode cL_law 292 = .ok (.if_icmp .ne 95, 3) := by decide +kernel
theorem dL_law_295 : decode cL_law 295 = .ok (.aload_n 1, 1) := by decide +kernel
theorem dL_law_296 : decode cL_law 296 = .ok (.iconst 0, 1) := by decide +kernel
theorem dL_law_297 : decode cL_law 297 = .ok (.bipush 7, 2) := by decide +kernel
theorem dL_law_299 : decode cL_law 299 = .ok (.invokevirtual 29, 3) := by decide +kernel
theorem dL_law_302 : decode cL_law 302 = .ok (.bipush (-2), 2) := by decide +kernel
theorem dL_law_304 : decode cL_law 304 = .ok (.if_icmp .ne 83, 3) := by decide +kernel
theorem dL_law_307 : decode cL_law 307 = .ok (.aload_n 1, 1) := by decide +kernel
theorem dL_law_308 : decode cL_law 308 = .ok (.iconst 3, 1) := by decide +kernel
theorem dL_law_309 : decode cL_law 309 = .ok (.iconst 0, 1) := by decide +kernel
theorem dL_law_310 : decode cL_law 310 = .ok (.invokevirtual 32, 3) := by decide +kernel
theorem dL_law_313 : decode cL_law 313 = .ok (.iconst (-1), 1) := by decide +kernel
theorem dL_law_314 : decode cL_law 314 = .ok (.if_icmp .ne 73, 3) := by decide +kernel
theorem dL_law_317 : decode cL_law 317 = .ok (.aload_n 1, 1) := by decide +kernel
theorem dL_law_318 : decode cL_law 318 = .ok (.iconst 0, 1) := by decide +kernel
theorem dL_law_319 : decode cL_law 319 = .ok (.iconst 3, 1) := by decide +kernel
theorem dL_law_320 : decode cL_law 320 = .ok (.invokevirtual 32, 3) := by decide +kernel
theorem dL_law_323 : decode cL_law 323 = .ok (.bipush (-2), 2) := by decide +kernel
theorem dL_law_325 : decode cL_law 325 = .ok (.if_icmp .ne 62, 3) := by decide +kernel
theorem dL_law_328 : decode cL_law 328 = .ok (.aload_n 1, 1) := by decide +kernel
theorem dL_law_329 : decode cL_law 329 = .ok (.iconst 0, 1) := by decide +kernel
theorem dL_law_330 : decode cL_law 330 = .ok (.iconst (-1), 1) := by decide +kernel
theorem dL_law_331 : decode cL_law 331 = .ok (.invokevirtual 36, 3) := by decide +kernel
theorem dL_law_334 : decode cL_law 334 = .ok (.bipush (-2), 2) := by decide +kernel
theorem dL_law_336 : decode cL_law 336 = .ok (.if_icmp .ne 51, 3) := by decide +kernel
theorem dL_law_339 : decode cL_law 339 = .ok (.aload_n 1, 1) := by decide +kernel
theorem dL_law_340 : decode cL_law 340 = .ok (.iconst (-1), 1) := by decide +kernel
theorem dL_law_341 : decode cL_law 341 = .ok (.iconst 0, 1) := by decide +kernel
theorem dL_law_342 : decode cL_law 342 = .ok (.invokevirtual 36, 3) := by decide +kernel
theorem dL_law_345 : decode cL_law 345 = .ok (.iconst (-1), 1) := by decide +kernel
theorem dL_law_346 : decode cL_law 346 = .ok (.if_icmp .ne 41, 3) := by decide +kernel
theorem dL_law_349 : decode cL_law 349 = .ok (.aload_n 1, 1) := by decide +kernel
theorem dL_law_350 : decode cL_law 350 = .ok (.iconst 0, 1) := by decide +kernel
theorem dL_law_351 : decode cL_law 351 = .ok (.iconst 0, 1) := by decide +kernel
theorem dL_law_352 : decode cL_law 352 = .ok (.iconst 3, 1) := by decide +kernel
theorem dL_law_353 : decode cL_law 353 = .ok (.invokevirtual 25, 3) := by decide +kernel
theorem dL_law_356 : decode cL_law 356 = .ok (.bipush (-2), 2) := by decide +kernel
theorem dL_law_358 : decode cL_law 358 = .ok (.if_icmp .ne 29, 3) := by decide +kernel
theorem dL_law_361 : decode cL_law 361 = .ok (.aload_n 1, 1) := by decide +kernel
theorem dL_law_362 : decode cL_law 362 = .ok (.bipush 8, 2) := by decide +kernel
theorem dL_law_364 : decode cL_law 364 = .ok (.iconst 0, 1) := by decide +kernel
theorem dL_law_365 : decode cL_law 365 = .ok (.invokevirtual 18, 3) := by decide +kernel
theorem dL_law_368 : decode cL_law 368 = .ok (.iconst (-1), 1) := by decide +kernel
theorem dL_law_369 : decode cL_law 369 = .ok (.if_icmp .ne 18, 3) := by decide +kernel
theorem dL_law_372 : decode cL_law 372 = .ok (.aload_n 1, 1) := by decide +kernel
theorem dL_law_373 : decode cL_law 373 = .ok (.bipush 15, 2) := by decide +kernel
theorem dL_law_375 : decode cL_law 375 = .ok (.invokevirtual 12, 3) := by decide +kernel
theorem dL_law_378 : decode cL_law 378 = .ok (.bipush (-2), 2) := by decide +kernel
theorem dL_law_380 : decode cL_law 380 = .ok (.if_icmp .ne 7, 3) := by decide +kernel
theorem dL_law_383 : decode cL_law 383 = .ok (.iconst 1, 1) := by decide +kernel
theorem dL_law_384 : decode cL_law 384 = .ok (.goto 4, 3) := by decide +kernel
theorem dL_law_387 : decode cL_law 387 = .ok (.iconst 0, 1) := by decide +kernel
theorem dL_law_388 : decode cL_law 388 = .ok (.ireturn, 1) := by decide +kernel
