theorem k_464 : (Cond.code yX5_offsets cX5_offsets 5 (some .int) : Cond) ∈ zT := zT_mem (i := 359) (by decide +kernel) (by decide +kernel)
theorem k_288 : (Cond.methodLink RX5 85 yX5_isGrade : Cond) ∈ zT := zT_mem (i := 360) (by decide +kernel) (by decide +kernel)
theorem k_289 : (Cond.static yX5_isGrade : Cond) ∈ zT := zT_mem (i := 361) (by decide +kernel) (by decide +kernel)
theorem k_290 : (Cond.code yX5_isGrade cX5_isGrade 1 (some .boolean) : Cond) ∈ zT := zT_mem (i := 362) (by decide +kernel) (by decide +kernel)
theorem k_465 : (Cond.methodLink RX5 200 yX0_mayUse : Cond) ∈ zT := zT_mem (i := 363) (by decide +kernel) (by decide +kernel)
theorem k_p364 : (Cond.methodLink RL 29 yX5_vintage : Cond) ∈ zT := zT_mem (i := 364) (by decide +kernel) (by decide +kernel)
theorem k_467 : (Cond.instanceMethod yX5_vintage : Cond) ∈ zT := zT_mem (i := 365) (by decide +kernel) (by decide +kernel)
theorem k_468 : (Cond.selects RX5 yX5_vintage yX5_vintage : Cond) ∈ zT := zT_mem (i := 366) (by decide +kernel) (by decide +kernel)
theorem k_469 : (Cond.code yX5_vintage cX5_vintage 3 (some .int) : Cond) ∈ zT := zT_mem (i := 367) (by decide +kernel) (by decide +kernel)
theorem k_316 : (Cond.methodLink RX5 101 yX5_isVintage : Cond) ∈ zT := zT_mem (i := 368) (by decide +kernel) (by decide +kernel)
theorem k_301 : (Cond.static yX5_isVintage : Cond) ∈ zT := zT_mem (i := 369) (by decide +kernel) (by decide +kernel)
theorem k_302 : (Cond.code yX5_isVintage cX5_isVintage 1 (some .boolean) : Cond) ∈ zT := zT_mem (i := 370) (by decide +kernel) (by decide +kernel)
theorem k_470 : (Cond.methodLink RX5 207 yX2_heldOf : Cond) ∈ zT := zT_mem (i := 371) (by decide +kernel) (by decide +kernel)
theorem k_471 : (Cond.instanceMethod yX2_heldOf : Cond) ∈ zT := zT_mem (i := 372) (by decide +kernel) (by decide +kernel)
theorem k_472 : (Cond.selects RX2 yX2_heldOf yX2_heldOf : Cond) ∈ zT := zT_mem (i := 373) (by decide +kernel) (by decide +kernel)
theorem k_473 : (Cond.code yX2_heldOf cX2_heldOf 7 (some .int) : Cond) ∈ zT := zT_mem (i := 374) (by decide +kernel) (by decide +kernel)
theorem k_474 : (Cond.methodLink RX5 216 yX2_holdersOf : Cond) ∈ zT := zT_mem (i := 375) (by decide +kernel) (by decide +kernel)
theorem k_475 : (Cond.instanceMethod yX2_holdersOf : Cond) ∈ zT := zT_mem (i := 376) (by decide +kernel) (by decide +kernel)
theorem k_476 : (Cond.selects RX2 yX2_holdersOf yX2_holdersOf : Cond) ∈ zT := zT_mem (i := 377) (by decide +kernel) (by decide +kernel)
theorem k_477 : (Cond.code yX2_holdersOf cX2_holdersOf 7 (some .int) : Cond) ∈ zT := zT_mem (i := 378) (by decide +kernel) (by decide +kernel)
theorem k_478 : (Cond.methodLink RX5 219 yX2_monthsUntilLost : Cond) ∈ zT := zT_mem (i := 379) (by decide +kernel) (by decide +kernel)
theorem k_479 : (Cond.instanceMethod yX2_monthsUntilLost : Cond) ∈ zT := zT_mem (i := 380) (by decide +kernel) (by decide +kernel)
theorem k_480 : (Cond.selects RX2 yX2_monthsUntilLost yX2_monthsUntilLost : Cond) ∈ zT := zT_mem (i := 381) (by decide +kernel) (by decide +kernel)
theorem k_481 : (Cond.code yX2_monthsUntilLost cX2_monthsUntilLost 3 (some .int) : Cond) ∈ zT := zT_mem (i := 382) (by decide +kernel) (by decide +kernel)
theorem k_482 : (Cond.methodLink RX2 106 yX2_holdersOf : Cond) ∈ zT := zT_mem (i := 383) (by decide +kernel) (by decide +kernel)
theorem k_483 : (Cond.methodLink RX2 110 Lib.Math.max.name : Cond) ∈ zT := zT_mem (i := 384) (by decide +kernel) (by decide +kernel)
theorem k_291 : (Cond.methodLink RL 32 yX5_grade : Cond) ∈ zT := zT_mem (i := 385) (by decide +kernel) (by decide +kernel)
theorem k_485 : (Cond.instanceMethod yX5_grade : Cond) ∈ zT := zT_mem (i := 386) (by decide +kernel) (by decide +kernel)
theorem k_486 : (Cond.selects RX5 yX5_grade yX5_grade : Cond) ∈ zT := zT_mem (i := 387) (by decide +kernel) (by decide +kernel)
theorem k_487 : (Cond.code yX5_grade cX5_grade 3 (some .int) : Cond) ∈ zT := zT_mem (i := 388) (by decide +kernel) (by decide +kernel)
theorem k_488 : (Cond.methodLink RX5 222 yX2_offsetsHeldOf : Cond) ∈ zT := zT_mem (i := 389) (by decide +kernel) (by decide +kernel)
theorem k_489 : (Cond.instanceMethod yX2_offsetsHeldOf : Cond) ∈ zT := zT_mem (i := 390) (by decide +kernel) (by decide +kernel)
theorem k_490 : (Cond.selects RX2 yX2_offsetsHeldOf yX2_offsetsHeldOf : Cond) ∈ zT := zT_mem (i := 391) (by decide +kernel) (by decide +kernel)
theorem k_491 : (Cond.code yX2_offsetsHeldOf cX2_offsetsHeldOf 7 (some .int) : Cond) ∈ zT := zT_mem (i := 392) (by decide +kernel) (by decide +kernel)
theorem k_629 : (Cond.methodLink RL 36 yX5_holder : Cond) ∈ zT := zT_mem (i := 393) (by decide +kernel) (by decide +kernel)
theorem k_493 : (Cond.instanceMethod yX5_holder : Cond) ∈ zT := zT_mem (i := 394) (by decide +kernel) (by decide +kernel)
theorem k_494 : (Cond.selects RX5 yX5_holder yX5_holder : Cond) ∈ zT := zT_mem (i := 395) (by decide +kernel) (by decide +kernel)
theorem k_495 : (Cond.code yX5_holder cX5_holder 3 (some .int) : Cond) ∈ zT := zT_mem (i := 396) (by decide +kernel) (by decide +kernel)
theorem k_496 : (Cond.methodLink RX5 228 yX2_holderAt : Cond) ∈ zT := zT_mem (i := 397) (by decide +kernel) (by decide +kernel)
theorem k_497 : (Cond.instanceMethod yX2_holderAt : Cond) ∈ zT := zT_mem (i := 398) (by decide +kernel) (by decide +kernel)
theorem k_498 : (Cond.selects RX2 yX2_holderAt yX2_holderAt : Cond) ∈ zT := zT_mem (i := 399) (by decide +kernel) (by decide +kernel)
theorem k_499 : (Cond.code yX2_holderAt cX2_holderAt 4 (some .int) : Cond) ∈ zT := zT_mem (i := 400) (by decide +kernel) (by decide +kernel)
theorem k_500 : (Cond.methodLink RX2 116 yX2_holdersAhead : Cond) ∈ zT := zT_mem (i := 401) (by decide +kernel) (by decide +kernel)
theorem k_501 : (Cond.instanceMethod yX2_holdersAhead : Cond) ∈ zT := zT_mem (i := 402) (by decide +kernel) (by decide +kernel)
theorem k_502 : (Cond.selects RX2 yX2_holdersAhead yX2_holdersAhead : Cond) ∈ zT := zT_mem (i := 403) (by decide +kernel) (by decide +kernel)
theorem k_503 : (Cond.code yX2_holdersAhead cX2_holdersAhead 7 (some .int) : Cond) ∈ zT := zT_mem (i := 404) (by decide +kernel) (by decide +kernel)
theorem k_535 : (Cond.methodLink RL 12 yX5_count : Cond) ∈ zT := zT_mem (i := 405) (by decide +kernel) (by decide +kernel)
theorem k_509 : (Cond.instanceMethod yX5_count : Cond) ∈ zT := zT_mem (i := 406) (by decide +kernel) (by decide +kernel)
theorem k_510 : (Cond.selects RX5 yX5_count yX5_count : Cond) ∈ zT := zT_mem (i := 407) (by decide +kernel) (by decide +kernel)
theorem k_511 : (Cond.code yX5_count cX5_count 2 (some .int) : Cond) ∈ zT := zT_mem (i := 408) (by decide +kernel) (by decide +kernel)
theorem k_512 : (Cond.methodLink RX5 243 yX2_allDue : Cond) ∈ zT := zT_mem (i := 409) (by decide +kernel) (by decide +kernel)
theorem k_513 : (Cond.instanceMethod yX2_allDue : Cond) ∈ zT := zT_mem (i := 410) (by decide +kernel) (by decide +kernel)
theorem k_514 : (Cond.selects RX2 yX2_allDue yX2_allDue : Cond) ∈ zT := zT_mem (i := 411) (by decide +kernel) (by decide +kernel)
theorem k_515 : (Cond.code yX2_allDue cX2_allDue 6 (some .int) : Cond) ∈ zT := zT_mem (i := 412) (by decide +kernel) (by decide +kernel)
theorem k_516 : (Cond.methodLink RX5 246 yX2_allFines : Cond) ∈ zT := zT_mem (i := 413) (by decide +kernel) (by decide +kernel)
theorem k_517 : (Cond.instanceMethod yX2_allFines : Cond) ∈ zT := zT_mem (i := 414) (by decide +kernel) (by decide +kernel)
theorem k_518 : (Cond.selects RX2 yX2_allFines yX2_allFines : Cond) ∈ zT := zT_mem (i := 415) (by decide +kernel) (by decide +kernel)
theorem k_519 : (Cond.code yX2_allFines cX2_allFines 6 (some .int) : Cond) ∈ zT := zT_mem (i := 416) (by decide +kernel) (by decide +kernel)
theorem k_520 : (Cond.methodLink RX5 249 yX2_allHeld : Cond) ∈ zT := zT_mem (i := 417) (by decide +kernel) (by decide +kernel)
theorem k_521 : (Cond.instanceMethod yX2_allHeld : Cond) ∈ zT := zT_mem (i := 418) (by decide +kernel) (by decide +kernel)
theorem k_522 : (Cond.selects RX2 yX2_allHeld yX2_allHeld : Cond) ∈ zT := zT_mem (i := 419) (by decide +kernel) (by decide +kernel)
theorem k_523 : (Cond.code yX2_allHeld cX2_allHeld 6 (some .int) : Cond) ∈ zT := zT_mem (i := 420) (by decide +kernel) (by decide +kernel)
theorem k_524 : (Cond.methodLink RX2 119 yX0_allowances : Cond) ∈ zT := zT_mem (i := 421) (by decide +kernel) (by decide +kernel)
theorem k_525 : (Cond.methodLink RX5 252 yX2_allLost : Cond) ∈ zT := zT_mem (i := 422) (by decide +kernel) (by decide +kernel)
theorem k_526 : (Cond.instanceMethod yX2_allLost : Cond) ∈ zT := zT_mem (i := 423) (by decide +kernel) (by decide +kernel)
theorem k_527 : (Cond.selects RX2 yX2_allLost yX2_allLost : Cond) ∈ zT := zT_mem (i := 424) (by decide +kernel) (by decide +kernel)
theorem k_528 : (Cond.code yX2_allLost cX2_allLost 6 (some .int) : Cond) ∈ zT := zT_mem (i := 425) (by decide +kernel) (by decide +kernel)
theorem k_529 : (Cond.methodLink RX5 255 yX2_monthsUntilDeadline : Cond) ∈ zT := zT_mem (i := 426) (by decide +kernel) (by decide +kernel)
theorem k_530 : (Cond.instanceMethod yX2_monthsUntilDeadline : Cond) ∈ zT := zT_mem (i := 427) (by decide +kernel) (by decide +kernel)
theorem k_531 : (Cond.selects RX2 yX2_monthsUntilDeadline yX2_monthsUntilDeadline : Cond) ∈ zT := zT_mem (i := 428) (by decide +kernel) (by decide +kernel)
theorem k_532 : (Cond.code yX2_monthsUntilDeadline cX2_monthsUntilDeadline 3 (some .int) : Cond) ∈ zT := zT_mem (i := 429) (by decide +kernel) (by decide +kernel)
theorem k_727 : (Cond.methodLink RL 90 yL_cell : Cond) ∈ zT := zT_mem (i := 430) (by decide +kernel) (by decide +kernel)
theorem k_p431 : (Cond.static yL_cell : Cond) ∈ zT := zT_mem (i := 431) (by decide +kernel) (by decide +kernel)
theorem k_p432 : (Cond.code yL_cell cL_cell 2 (some .int) : Cond) ∈ zT := zT_mem (i := 432) (by decide +kernel) (by decide +kernel)
theorem k_312 : (Cond.methodLink RL 41 yL_low : Cond) ∈ zT := zT_mem (i := 433) (by decide +kernel) (by decide +kernel)
theorem k_p434 : (Cond.static yL_low : Cond) ∈ zT := zT_mem (i := 434) (by decide +kernel) (by decide +kernel)
theorem k_p435 : (Cond.code yL_low cL_low 2 (some .int) : Cond) ∈ zT := zT_mem (i := 435) (by decide +kernel) (by decide +kernel)
theorem k_p436 : (Cond.constant RL 7 2147483647 : Cond) ∈ zT := zT_mem (i := 436) (by decide +kernel) (by decide +kernel)
theorem k_648 : (Cond.methodLink RL 44 yL_all : Cond) ∈ zT := zT_mem (i := 437) (by decide +kernel) (by decide +kernel)
theorem k_p438 : (Cond.static yL_all : Cond) ∈ zT := zT_mem (i := 438) (by decide +kernel) (by decide +kernel)
theorem k_p439 : (Cond.code yL_all cL_all 5 (some .long) : Cond) ∈ zT := zT_mem (i := 439) (by decide +kernel) (by decide +kernel)
theorem k_p440 : (Cond.constantLong RL 8 47 : Cond) ∈ zT := zT_mem (i := 440) (by decide +kernel) (by decide +kernel)
theorem k_p441 : (Cond.constantLong RL 10 31 : Cond) ∈ zT := zT_mem (i := 441) (by decide +kernel) (by decide +kernel)
theorem k_600 : (Cond.methodLink RL 22 yX5_holds : Cond) ∈ zT := zT_mem (i := 442) (by decide +kernel) (by decide +kernel)
theorem k_458 : (Cond.instanceMethod yX5_holds : Cond) ∈ zT := zT_mem (i := 443) (by decide +kernel) (by decide +kernel)
theorem k_459 : (Cond.selects RX5 yX5_holds yX5_holds : Cond) ∈ zT := zT_mem (i := 444) (by decide +kernel) (by decide +kernel)
theorem k_460 : (Cond.code yX5_holds cX5_holds 4 (some .int) : Cond) ∈ zT := zT_mem (i := 445) (by decide +kernel) (by decide +kernel)
theorem k_751 : (Cond.methodLink RL 98 yL_isSound : Cond) ∈ zT := zT_mem (i := 446) (by decide +kernel) (by decide +kernel)
theorem k_p447 : (Cond.static yL_isSound : Cond) ∈ zT := zT_mem (i := 447) (by decide +kernel) (by decide +kernel)
theorem k_p448 : (Cond.code yL_isSound cL_isSound 11 (some .boolean) : Cond) ∈ zT := zT_mem (i := 448) rfl (by decide +kernel)
theorem k_p449 : (Cond.constant RL 35 1000000000 : Cond) ∈ zT := zT_mem (i := 449) (by decide +kernel) (by decide +kernel)
theorem k_755 : (Cond.methodLink RL 102 yL_isPlanned : Cond) ∈ zT := zT_mem (i := 450) (by decide +kernel) (by decide +kernel)
theorem k_p451 : (Cond.static yL_isPlanned : Cond) ∈ zT := zT_mem (i := 451) (by decide +kernel) (by decide +kernel)
theorem k_p452 : (Cond.code yL_isPlanned cL_isPlanned 15 (some .boolean) : Cond) ∈ zT := zT_mem (i := 452) rfl (by decide +kernel)
theorem k_652 : (Cond.methodLink RL 48 yX5_plan : Cond) ∈ zT := zT_mem (i := 453) (by decide +kernel) (by decide +kernel)
theorem k_505 : (Cond.instanceMethod yX5_plan : Cond) ∈ zT := zT_mem (i := 454) (by decide +kernel) (by decide +kernel)
theorem k_506 : (Cond.selects RX5 yX5_plan yX5_plan : Cond) ∈ zT := zT_mem (i := 455) (by decide +kernel) (by decide +kernel)
theorem k_507 : (Cond.code yX5_plan cX5_plan 6 (some .int) : Cond) ∈ zT := zT_mem (i := 456) (by decide +kernel) (by decide +kernel)
theorem k_329 : (Cond.methodLink RX5 113 yX5_isWay : Cond) ∈ zT := zT_mem (i := 457) (by decide +kernel) (by decide +kernel)
theorem k_330 : (Cond.static yX5_isWay : Cond) ∈ zT := zT_mem (i := 458) (by decide +kernel) (by decide +kernel)
theorem k_331 : (Cond.code yX5_isWay cX5_isWay 1 (some .boolean) : Cond) ∈ zT := zT_mem (i := 459) (by decide +kernel) (by decide +kernel)
theorem k_332 : (Cond.methodLink RX5 119 yX3_workOut : Cond) ∈ zT := zT_mem (i := 460) (by decide +kernel) (by decide +kernel)
theorem k_333 : (Cond.instanceMethod yX3_workOut : Cond) ∈ zT := zT_mem (i := 461) (by decide +kernel) (by decide +kernel)
theorem k_334 : (Cond.selects RX3 yX3_workOut yX3_workOut : Cond) ∈ zT := zT_mem (i := 462) (by decide +kernel) (by decide +kernel)
theorem k_335 : (Cond.code yX3_workOut cX3_workOut 7 (none : Option ClassFile.FieldType) : Cond) ∈ zT := zT_mem (i := 463) (by decide +kernel) (by decide +kernel)
theorem k_336 : (Cond.methodLink RX3 31 yX0_canUse : Cond) ∈ zT := zT_mem (i := 464) (by decide +kernel) (by decide +kernel)
theorem k_348 : (Cond.methodLink RX3 37 Lib.Math.min.name : Cond) ∈ zT := zT_mem (i := 465) (by decide +kernel) (by decide +kernel)
theorem k_349 : (Cond.methodLink RX3 42 yX3_takeVintage : Cond) ∈ zT := zT_mem (i := 466) (by decide +kernel) (by decide +kernel)
theorem k_350 : (Cond.instanceMethod yX3_takeVintage : Cond) ∈ zT := zT_mem (i := 467) (by decide +kernel) (by decide +kernel)
theorem k_351 : (Cond.selects RX3 yX3_takeVintage yX3_takeVintage : Cond) ∈ zT := zT_mem (i := 468) (by decide +kernel) (by decide +kernel)
theorem k_352 : (Cond.code yX3_takeVintage cX3_takeVintage 4 (none : Option ClassFile.FieldType) : Cond) ∈ zT := zT_mem (i := 469) (by decide +kernel) (by decide +kernel)
theorem k_p470 : (Cond.methodLink RL 52 yX5_surrender : Cond) ∈ zT := zT_mem (i := 470) (by decide +kernel) (by decide +kernel)
theorem k_326 : (Cond.instanceMethod yX5_surrender : Cond) ∈ zT := zT_mem (i := 471) (by decide +kernel) (by decide +kernel)
theorem k_327 : (Cond.selects RX5 yX5_surrender yX5_surrender : Cond) ∈ zT := zT_mem (i := 472) (by decide +kernel) (by decide +kernel)
theorem k_328 : (Cond.code yX5_surrender cX5_surrender 5 (some .int) : Cond) ∈ zT := zT_mem (i := 473) (by decide +kernel) (by decide +kernel)
theorem k_353 : (Cond.methodLink RX5 126 yX2_takeFrom : Cond) ∈ zT := zT_mem (i := 474) (by decide +kernel) (by decide +kernel)
theorem k_354 : (Cond.instanceMethod yX2_takeFrom : Cond) ∈ zT := zT_mem (i := 475) (by decide +kernel) (by decide +kernel)
theorem k_355 : (Cond.selects RX2 yX2_takeFrom yX2_takeFrom : Cond) ∈ zT := zT_mem (i := 476) (by decide +kernel) (by decide +kernel)
theorem k_356 : (Cond.code yX2_takeFrom cX2_takeFrom 5 (none : Option ClassFile.FieldType) : Cond) ∈ zT := zT_mem (i := 477) (by decide +kernel) (by decide +kernel)
theorem k_747 : (Cond.methodLink RL 94 yL_acts : Cond) ∈ zT := zT_mem (i := 478) (by decide +kernel) (by decide +kernel)
theorem k_p479 : (Cond.static yL_acts : Cond) ∈ zT := zT_mem (i := 479) (by decide +kernel) (by decide +kernel)
theorem k_p480 : (Cond.code yL_acts cL_acts 7 (some .int) : Cond) ∈ zT := zT_mem (i := 480) (by decide +kernel) (by decide +kernel)
theorem k_382 : (Cond.methodLink RL 62 yX5_issueOffsets : Cond) ∈ zT := zT_mem (i := 481) (by decide +kernel) (by decide +kernel)
theorem k_285 : (Cond.instanceMethod yX5_issueOffsets : Cond) ∈ zT := zT_mem (i := 482) (by decide +kernel) (by decide +kernel)
theorem k_286 : (Cond.selects RX5 yX5_issueOffsets yX5_issueOffsets : Cond) ∈ zT := zT_mem (i := 483) (by decide +kernel) (by decide +kernel)
theorem k_287 : (Cond.code yX5_issueOffsets cX5_issueOffsets 5 (some .int) : Cond) ∈ zT := zT_mem (i := 484) (by decide +kernel) (by decide +kernel)
theorem k_p485 : (Cond.methodLink RL 65 yX5_transfer : Cond) ∈ zT := zT_mem (i := 485) (by decide +kernel) (by decide +kernel)
theorem k_292 : (Cond.instanceMethod yX5_transfer : Cond) ∈ zT := zT_mem (i := 486) (by decide +kernel) (by decide +kernel)
theorem k_293 : (Cond.selects RX5 yX5_transfer yX5_transfer : Cond) ∈ zT := zT_mem (i := 487) (by decide +kernel) (by decide +kernel)
theorem k_294 : (Cond.code yX5_transfer cX5_transfer 6 (some .int) : Cond) ∈ zT := zT_mem (i := 488) (by decide +kernel) (by decide +kernel)
theorem k_295 : (Cond.methodLink RX5 94 yX2_moveError : Cond) ∈ zT := zT_mem (i := 489) (by decide +kernel) (by decide +kernel)
theorem k_296 : (Cond.instanceMethod yX2_moveError : Cond) ∈ zT := zT_mem (i := 490) (by decide +kernel) (by decide +kernel)
theorem k_297 : (Cond.selects RX2 yX2_moveError yX2_moveError : Cond) ∈ zT := zT_mem (i := 491) (by decide +kernel) (by decide +kernel)
theorem k_298 : (Cond.code yX2_moveError cX2_moveError 6 (some .int) : Cond) ∈ zT := zT_mem (i := 492) (by decide +kernel) (by decide +kernel)
theorem k_299 : (Cond.methodLink RX2 55 yX2_firmAt : Cond) ∈ zT := zT_mem (i := 493) (by decide +kernel) (by decide +kernel)
theorem k_304 : (Cond.methodLink RX5 98 yX2_move : Cond) ∈ zT := zT_mem (i := 496) (by decide +kernel) (by decide +kernel)
theorem k_305 : (Cond.instanceMethod yX2_move : Cond) ∈ zT := zT_mem (i := 497) (by decide +kernel) (by decide +kernel)
theorem k_306 : (Cond.selects RX2 yX2_move yX2_move : Cond) ∈ zT := zT_mem (i := 498) (by decide +kernel) (by decide +kernel)
theorem k_307 : (Cond.code yX2_move cX2_move 7 (some .int) : Cond) ∈ zT := zT_mem (i := 499) (by decide +kernel) (by decide +kernel)
theorem k_p500 : (Cond.methodLink RL 68 yX5_transferOffsets : Cond) ∈ zT := zT_mem (i := 500) (by decide +kernel) (by decide +kernel)
theorem k_309 : (Cond.instanceMethod yX5_transferOffsets : Cond) ∈ zT := zT_mem (i := 501) (by decide +kernel) (by decide +kernel)
theorem k_310 : (Cond.selects RX5 yX5_transferOffsets yX5_transferOffsets : Cond) ∈ zT := zT_mem (i := 502) (by decide +kernel) (by decide +kernel)
theorem k_311 : (Cond.code yX5_transferOffsets cX5_transferOffsets 7 (some .int) : Cond) ∈ zT := zT_mem (i := 503) (by decide +kernel) (by decide +kernel)
theorem k_390 : (Cond.methodLink RL 71 yX5_cancel : Cond) ∈ zT := zT_mem (i := 504) (by decide +kernel) (by decide +kernel)
theorem k_313 : (Cond.instanceMethod yX5_cancel : Cond) ∈ zT := zT_mem (i := 505) (by decide +kernel) (by decide +kernel)
theorem k_314 : (Cond.selects RX5 yX5_cancel yX5_cancel : Cond) ∈ zT := zT_mem (i := 506) (by decide +kernel) (by decide +kernel)
theorem k_315 : (Cond.code yX5_cancel cX5_cancel 5 (some .int) : Cond) ∈ zT := zT_mem (i := 507) (by decide +kernel) (by decide +kernel)
theorem k_p508 : (Cond.methodLink RL 77 yX5_verify : Cond) ∈ zT := zT_mem (i := 508) (by decide +kernel) (by decide +kernel)
theorem k_322 : (Cond.instanceMethod yX5_verify : Cond) ∈ zT := zT_mem (i := 509) (by decide +kernel) (by decide +kernel)
theorem k_323 : (Cond.selects RX5 yX5_verify yX5_verify : Cond) ∈ zT := zT_mem (i := 510) (by decide +kernel) (by decide +kernel)
theorem k_324 : (Cond.code yX5_verify cX5_verify 3 (some .int) : Cond) ∈ zT := zT_mem (i := 511) (by decide +kernel) (by decide +kernel)
theorem inX0 : ∀ w ∈ u_ws RX0 TX0 9, w ∈ zT := by
  intro w hw
  obtain ⟨k, hk, rfl⟩ := List.mem_map.mp hw
  have hk := List.mem_range.mp hk
  match k, hk with
  | 0, _ => exact k_62
  | 1, _ => exact k_64
  | 2, _ => exact k_66
  | 3, _ => exact k_68
  | 4, _ => exact k_70
  | 5, _ => exact k_72
  | 6, _ => exact k_74
  | 7, _ => exact k_76
  | 8, _ => exact k_78
  | k + 9, hk => omega
theorem inX1 : ∀ w ∈ u_ws RX1 TX1 3, w ∈ zT := by
  intro w hw
  obtain ⟨k, hk, rfl⟩ := List.mem_map.mp hw
  have hk := List.mem_range.mp hk
  match k, hk with
  | 0, _ => exact k_136
  | 1, _ => exact k_138
  | 2, _ => exact k_140
  | k + 3, hk => omega
theorem inX2 : ∀ w ∈ u_ws RX2 TX2 10, w ∈ zT := by
  intro w hw
  obtain ⟨k, hk, rfl⟩ := List.mem_map.mp hw
  have hk := List.mem_range.mp hk
  match k, hk with
  | 0, _ => exact k_102
  | 1, _ => exact k_104
  | 2, _ => exact k_106
  | 3, _ => exact k_108
  | 4, _ => exact k_110
  | 5, _ => exact k_112
  | 6, _ => exact k_114
  | 7, _ => exact k_116
  | 8, _ => exact k_118
  | 9, _ => exact k_120
  | k + 10, hk => omega
theorem inX3 : ∀ w ∈ u_ws RX3 TX3 6, w ∈ zT := by
  intro w hw
  obtain ⟨k, hk, rfl⟩ := List.mem_map.mp hw
  have hk := List.mem_range.mp hk
  match k, hk with
  | 0, _ => exact k_162
  | 1, _ => exact k_164
  | 2, _ => exact k_166
  | 3, _ => exact k_168
  | 4, _ => exact k_170
  | 5, _ => exact k_172
  | k + 6, hk => omega
theorem inX4 : ∀ w ∈ u_ws RX4 TX4 8, w ∈ zT := by
  intro w hw
  obtain ⟨k, hk, rfl⟩ := List.mem_map.mp hw
  have hk := List.mem_range.mp hk
  match k, hk with
  | 0, _ => exact k_197
  | 1, _ => exact k_199
  | 2, _ => exact k_201
  | 3, _ => exact k_203
  | 4, _ => exact k_205
  | 5, _ => exact k_207
  | 6, _ => exact k_209
  | 7, _ => exact k_211
  | k + 8, hk => omega
theorem inX5 : ∀ w ∈ u_ws RX5 TX5 7, w ∈ zT := by
  intro w hw
  obtain ⟨k, hk, rfl⟩ := List.mem_map.mp hw
  have hk := List.mem_range.mp hk
  match k, hk with
  | 0, _ => exact k_222
  | 1, _ => exact k_224
  | 2, _ => exact k_226
  | 3, _ => exact k_228
  | 4, _ => exact k_230
  | 5, _ => exact k_232
  | 6, _ => exact k_234
  | k + 7, hk => omega
