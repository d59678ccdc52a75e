theorem dX9_tries_435 : decode cX9_tries 435 = .ok (.istore 11, 2) := by decide +kernel
theorem dX9_tries_437 : decode cX9_tries 437 = .ok (.aload_n 0, 1) := by decide +kernel
theorem dX9_tries_438 : decode cX9_tries 438 = .ok (.getfield 44, 3) := by decide +kernel
theorem dX9_tries_441 : decode cX9_tries 441 = .ok (.iconst 4, 1) := by decide +kernel
theorem dX9_tries_442 : decode cX9_tries 442 = .ok (.iload 6, 2) := by decide +kernel
theorem dX9_tries_444 : decode cX9_tries 444 = .ok (.imul, 1) := by decide +kernel
theorem dX9_tries_445 : decode cX9_tries 445 = .ok (.iconst 3, 1) := by decide +kernel
theorem dX9_tries_446 : decode cX9_tries 446 = .ok (.iadd, 1) := by decide +kernel
theorem dX9_tries_447 : decode cX9_tries 447 = .ok (.iaload, 1) := by decide +kernel
theorem dX9_tries_448 : decode cX9_tries 448 = .ok (.ifCond .ne 29, 3) := by decide +kernel
theorem dX9_tries_451 : decode cX9_tries 451 = .ok (.iload 10, 2) := by decide +kernel
theorem dX9_tries_453 : decode cX9_tries 453 = .ok (.aload_n 0, 1) := by decide +kernel
theorem dX9_tries_454 : decode cX9_tries 454 = .ok (.getfield 35, 3) := by decide +kernel
theorem dX9_tries_457 : decode cX9_tries 457 = .ok (.iload 6, 2) := by decide +kernel
theorem dX9_tries_459 : decode cX9_tries 459 = .ok (.iaload, 1) := by decide +kernel
theorem dX9_tries_460 : decode cX9_tries 460 = .ok (.if_icmp .ge 17, 3) := by decide +kernel
theorem dX9_tries_463 : decode cX9_tries 463 = .ok (.iload 11, 2) := by decide +kernel
theorem dX9_tries_465 : decode cX9_tries 465 = .ok (.ifCond .ne 12, 3) := by decide +kernel
theorem dX9_tries_468 : decode cX9_tries 468 = .ok (.aload_n 0, 1) := by decide +kernel
theorem dX9_tries_469 : decode cX9_tries 469 = .ok (.iload 7, 2) := by decide +kernel
theorem dX9_tries_471 : decode cX9_tries 471 = .ok (.invokevirtual 296, 3) := by decide +kernel
theorem dX9_tries_474 : decode cX9_tries 474 = .ok (.goto 65, 3) := by decide +kernel
theorem dX9_tries_477 : decode cX9_tries 477 = .ok (.aload_n 0, 1) := by decide +kernel
theorem dX9_tries_478 : decode cX9_tries 478 = .ok (.getfield 44, 3) := by decide +kernel
theorem dX9_tries_481 : decode cX9_tries 481 = .ok (.iconst 4, 1) := by decide +kernel
theorem dX9_tries_482 : decode cX9_tries 482 = .ok (.iload 6, 2) := by decide +kernel
theorem dX9_tries_484 : decode cX9_tries 484 = .ok (.imul, 1) := by decide +kernel
theorem dX9_tries_485 : decode cX9_tries 485 = .ok (.iconst 3, 1) := by decide +kernel
theorem dX9_tries_486 : decode cX9_tries 486 = .ok (.iadd, 1) := by decide +kernel
theorem dX9_tries_487 : decode cX9_tries 487 = .ok (.iaload, 1) := by decide +kernel
theorem dX9_tries_488 : decode cX9_tries 488 = .ok (.ifCond .ne 26, 3) := by decide +kernel
theorem dX9_tries_491 : decode cX9_tries 491 = .ok (.iload 11, 2) := by decide +kernel
theorem dX9_tries_493 : decode cX9_tries 493 = .ok (.aload_n 0, 1) := by decide +kernel
theorem dX9_tries_494 : decode cX9_tries 494 = .ok (.getfield 38, 3) := by decide +kernel
theorem dX9_tries_497 : decode cX9_tries 497 = .ok (.iload 6, 2) := by decide +kernel
theorem dX9_tries_499 : decode cX9_tries 499 = .ok (.iaload, 1) := by decide +kernel
theorem dX9_tries_500 : decode cX9_tries 500 = .ok (.if_icmp .ge 14, 3) := by decide +kernel
theorem dX9_tries_503 : decode cX9_tries 503 = .ok (.aload_n 0, 1) := by decide +kernel
theorem dX9_tries_504 : decode cX9_tries 504 = .ok (.getfield 114, 3) := by decide +kernel
theorem dX9_tries_507 : decode cX9_tries 507 = .ok (.iload 7, 2) := by decide +kernel
theorem dX9_tries_509 : decode cX9_tries 509 = .ok (.iconst 0, 1) := by decide +kernel
theorem dX9_tries_510 : decode cX9_tries 510 = .ok (.iastore, 1) := by decide +kernel
theorem dX9_tries_511 : decode cX9_tries 511 = .ok (.goto 28, 3) := by decide +kernel
theorem dX9_tries_514 : decode cX9_tries 514 = .ok (.aload_n 0, 1) := by decide +kernel
theorem dX9_tries_515 : decode cX9_tries 515 = .ok (.iload 7, 2) := by decide +kernel
theorem dX9_tries_517 : decode cX9_tries 517 = .ok (.bipush 6, 2) := by decide +kernel
theorem dX9_tries_519 : decode cX9_tries 519 = .ok (.invokevirtual 233, 3) := by decide +kernel
theorem dX9_tries_522 : decode cX9_tries 522 = .ok (.aload_n 0, 1) := by decide +kernel
theorem dX9_tries_523 : decode cX9_tries 523 = .ok (.iload 7, 2) := by decide +kernel
theorem dX9_tries_525 : decode cX9_tries 525 = .ok (.invokevirtual 247, 3) := by decide +kernel
theorem dX9_tries_528 : decode cX9_tries 528 = .ok (.ifCond .eq 11, 3) := by decide +kernel
theorem dX9_tries_531 : decode cX9_tries 531 = .ok (.aload_n 0, 1) := by decide +kernel
theorem dX9_tries_532 : decode cX9_tries 532 = .ok (.iload 7, 2) := by decide +kernel
theorem dX9_tries_534 : decode cX9_tries 534 = .ok (.invokevirtual 299, 3) := by decide +kernel
theorem dX9_tries_537 : decode cX9_tries 537 = .ok (.istore 12, 2) := by decide +kernel
theorem dX9_tries_539 : decode cX9_tries 539 = .ok (.return_, 1) := by decide +kernel
theorem dX9_begins_0 : decode cX9_begins 0 = .ok (.aload_n 0, 1) := by decide +kernel
theorem dX9_begins_1 : decode cX9_begins 1 = .ok (.getfield 141, 3) := by decide +kernel
theorem dX9_begins_4 : decode cX9_begins 4 = .ok (.iload_n 1, 1) := by decide +kernel
theorem dX9_begins_5 : decode cX9_begins 5 = .ok (.dup2, 1) := by decide +kernel
theorem dX9_begins_6 : decode cX9_begins 6 = .ok (.iaload, 1) := by decide +kernel
theorem dX9_begins_7 : decode cX9_begins 7 = .ok (.iconst 1, 1) := by decide +kernel
theorem dX9_begins_8 : decode cX9_begins 8 = .ok (.iadd, 1) := by decide +kernel
theorem dX9_begins_9 : decode cX9_begins 9 = .ok (.iastore, 1) := by decide +kernel
theorem dX9_begins_10 : decode cX9_begins 10 = .ok (.aload_n 0, 1) := by decide +kernel
theorem dX9_begins_11 : decode cX9_begins 11 = .ok (.getfield 147, 3) := by decide +kernel
theorem dX9_begins_14 : decode cX9_begins 14 = .ok (.iload_n 1, 1) := by decide +kernel
theorem dX9_begins_15 : decode cX9_begins 15 = .ok (.iconst 0, 1) := by decide +kernel
theorem dX9_begins_16 : decode cX9_begins 16 = .ok (.iastore, 1) := by decide +kernel
theorem dX9_begins_17 : decode cX9_begins 17 = .ok (.aload_n 0, 1) := by decide +kernel
theorem dX9_begins_18 : decode cX9_begins 18 = .ok (.getfield 150, 3) := by decide +kernel
theorem dX9_begins_21 : decode cX9_begins 21 = .ok (.iload_n 1, 1) := by decide +kernel
theorem dX9_begins_22 : decode cX9_begins 22 = .ok (.iconst 0, 1) := by decide +kernel
theorem dX9_begins_23 : decode cX9_begins 23 = .ok (.iastore, 1) := by decide +kernel
theorem dX9_begins_24 : decode cX9_begins 24 = .ok (.aload_n 0, 1) := by decide +kernel
theorem dX9_begins_25 : decode cX9_begins 25 = .ok (.iload_n 1, 1) := by decide +kernel
theorem dX9_begins_26 : decode cX9_begins 26 = .ok (.iconst 0, 1) := by decide +kernel
theorem dX9_begins_27 : decode cX9_begins 27 = .ok (.invokevirtual 302, 3) := by decide +kernel
theorem dX9_begins_30 : decode cX9_begins 30 = .ok (.return_, 1) := by decide +kernel
theorem dX9_looks_0 : decode cX9_looks 0 = .ok (.iconst 0, 1) := by decide +kernel
theorem dX9_looks_1 : decode cX9_looks 1 = .ok (.istore_n 2, 1) := by decide +kernel
theorem dX9_looks_2 : decode cX9_looks 2 = .ok (.iload_n 2, 1) := by decide +kernel
theorem dX9_looks_3 : decode cX9_looks 3 = .ok (.aload_n 0, 1) := by decide +kernel
theorem dX9_looks_4 : decode cX9_looks 4 = .ok (.getfield 217, 3) := by decide +kernel
theorem dX9_looks_7 : decode cX9_looks 7 = .ok (.if_icmp .ge 61, 3) := by decide +kernel
theorem dX9_looks_10 : decode cX9_looks 10 = .ok (.aload_n 0, 1) := by decide +kernel
theorem dX9_looks_11 : decode cX9_looks 11 = .ok (.getfield 99, 3) := by decide +kernel
theorem dX9_looks_14 : decode cX9_looks 14 = .ok (.iload_n 2, 1) := by decide +kernel
theorem dX9_looks_15 : decode cX9_looks 15 = .ok (.iaload, 1) := by decide +kernel
theorem dX9_looks_16 : decode cX9_looks 16 = .ok (.iload_n 1, 1) := by decide +kernel
theorem dX9_looks_17 : decode cX9_looks 17 = .ok (.if_icmp .ne 45, 3) := by decide +kernel
theorem dX9_looks_20 : decode cX9_looks 20 = .ok (.aload_n 0, 1) := by decide +kernel
theorem dX9_looks_21 : decode cX9_looks 21 = .ok (.getfield 102, 3) := by decide +kernel
theorem dX9_looks_24 : decode cX9_looks 24 = .ok (.iload_n 2, 1) := by decide +kernel
theorem dX9_looks_25 : decode cX9_looks 25 = .ok (.iaload, 1) := by decide +kernel
theorem dX9_looks_26 : decode cX9_looks 26 = .ok (.aload_n 0, 1) := by decide +kernel
theorem dX9_looks_27 : decode cX9_looks 27 = .ok (.getfield 141, 3) := by decide +kernel
theorem dX9_looks_30 : decode cX9_looks 30 = .ok (.iload_n 1, 1) := by decide +kernel
theorem dX9_looks_31 : decode cX9_looks 31 = .ok (.iaload, 1) := by decide +kernel
theorem dX9_looks_32 : decode cX9_looks 32 = .ok (.if_icmp .ne 30, 3) := by decide +kernel
theorem dX9_looks_35 : decode cX9_looks 35 = .ok (.aload_n 0, 1) := by decide +kernel
theorem dX9_looks_36 : decode cX9_looks 36 = .ok (.getfield 132, 3) := by decide +kernel
theorem dX9_looks_39 : decode cX9_looks 39 = .ok (.iload_n 2, 1) := by decide +kernel
theorem dX9_looks_40 : decode cX9_looks 40 = .ok (.baload, 1) := by decide +kernel
theorem dX9_looks_41 : decode cX9_looks 41 = .ok (.ifCond .ne 21, 3) := by decide +kernel
theorem dX9_looks_44 : decode cX9_looks 44 = .ok (.aload_n 0, 1) := by decide +kernel
theorem dX9_looks_45 : decode cX9_looks 45 = .ok (.iload_n 2, 1) := by decide +kernel
theorem dX9_looks_46 : decode cX9_looks 46 = .ok (.invokevirtual 247, 3) := by decide +kernel
theorem dX9_looks_49 : decode cX9_looks 49 = .ok (.ifCond .eq 13, 3) := by decide +kernel
theorem dX9_looks_52 : decode cX9_looks 52 = .ok (.aload_n 0, 1) := by decide +kernel
theorem dX9_looks_53 : decode cX9_looks 53 = .ok (.iload_n 2, 1) := by decide +kernel
theorem dX9_looks_54 : decode cX9_looks 54 = .ok (.invokevirtual 299, 3) := by decide +kernel
theorem dX9_looks_57 : decode cX9_looks 57 = .ok (.ifCond .eq 5, 3) := by decide +kernel
theorem dX9_looks_60 : decode cX9_looks 60 = .ok (.iconst 1, 1) := by decide +kernel
theorem dX9_looks_61 : decode cX9_looks 61 = .ok (.ireturn, 1) := by decide +kernel
theorem dX9_looks_62 : decode cX9_looks 62 = .ok (.iinc 2 1, 3) := by decide +kernel
theorem dX9_looks_65 : decode cX9_looks 65 = .ok (.goto (-63), 3) := by decide +kernel
theorem dX9_looks_68 : decode cX9_looks 68 = .ok (.iconst 0, 1) := by decide +kernel
theorem dX9_looks_69 : decode cX9_looks 69 = .ok (.ireturn, 1) := by decide +kernel
theorem dX9_hasOutOf_0 : decode cX9_hasOutOf 0 = .ok (.iconst 0, 1) := by decide +kernel
theorem dX9_hasOutOf_1 : decode cX9_hasOutOf 1 = .ok (.istore_n 2, 1) := by decide +kernel
theorem dX9_hasOutOf_2 : decode cX9_hasOutOf 2 = .ok (.iconst 0, 1) := by decide +kernel
theorem dX9_hasOutOf_3 : decode cX9_hasOutOf 3 = .ok (.istore_n 3, 1) := by decide +kernel
theorem dX9_hasOutOf_4 : decode cX9_hasOutOf 4 = .ok (.iload_n 3, 1) := by decide +kernel
theorem dX9_hasOutOf_5 : decode cX9_hasOutOf 5 = .ok (.aload_n 0, 1) := by decide +kernel
theorem dX9_hasOutOf_6 : decode cX9_hasOutOf 6 = .ok (.getfield 217, 3) := by decide +kernel
theorem dX9_hasOutOf_9 : decode cX9_hasOutOf 9 = .ok (.if_icmp .ge 37, 3) := by decide +kernel
theorem dX9_hasOutOf_12 : decode cX9_hasOutOf 12 = .ok (.iload_n 2, 1) := by decide +kernel
theorem dX9_hasOutOf_13 : decode cX9_hasOutOf 13 = .ok (.ifCond .ne 21, 3) := by decide +kernel
theorem dX9_hasOutOf_16 : decode cX9_hasOutOf 16 = .ok (.aload_n 0, 1) := by decide +kernel
theorem dX9_hasOutOf_17 : decode cX9_hasOutOf 17 = .ok (.getfield 99, 3) := by decide +kernel
theorem dX9_hasOutOf_20 : decode cX9_hasOutOf 20 = .ok (.iload_n 3, 1) := by decide +kernel
theorem dX9_hasOutOf_21 : decode cX9_hasOutOf 21 = .ok (.iaload, 1) := by decide +kernel
theorem dX9_hasOutOf_22 : decode cX9_hasOutOf 22 = .ok (.iload_n 1, 1) := by decide +kernel
theorem dX9_hasOutOf_23 : decode cX9_hasOutOf 23 = .ok (.if_icmp .ne 15, 3) := by decide +kernel
theorem dX9_hasOutOf_26 : decode cX9_hasOutOf 26 = .ok (.aload_n 0, 1) := by decide +kernel
theorem dX9_hasOutOf_27 : decode cX9_hasOutOf 27 = .ok (.iload_n 3, 1) := by decide +kernel
theorem dX9_hasOutOf_28 : decode cX9_hasOutOf 28 = .ok (.invokevirtual 257, 3) := by decide +kernel
theorem dX9_hasOutOf_31 : decode cX9_hasOutOf 31 = .ok (.ifCond .eq 7, 3) := by decide +kernel
theorem dX9_hasOutOf_34 : decode cX9_hasOutOf 34 = .ok (.iconst 1, 1) := by decide +kernel
theorem dX9_hasOutOf_35 : decode cX9_hasOutOf 35 = .ok (.goto 4, 3) := by decide +kernel
theorem dX9_hasOutOf_38 : decode cX9_hasOutOf 38 = .ok (.iconst 0, 1) := by decide +kernel
theorem dX9_hasOutOf_39 : decode cX9_hasOutOf 39 = .ok (.istore_n 2, 1) := by decide +kernel
theorem dX9_hasOutOf_40 : decode cX9_hasOutOf 40 = .ok (.iinc 3 1, 3) := by decide +kernel
theorem dX9_hasOutOf_43 : decode cX9_hasOutOf 43 = .ok (.goto (-39), 3) := by decide +kernel
theorem dX9_hasOutOf_46 : decode cX9_hasOutOf 46 = .ok (.iload_n 2, 1) := by decide +kernel
theorem dX9_hasOutOf_47 : decode cX9_hasOutOf 47 = .ok (.ireturn, 1) := by decide +kernel
theorem dX9_goesStep_0 : decode cX9_goesStep 0 = .ok (.aload_n 0, 1) := by decide +kernel
theorem dX9_goesStep_1 : decode cX9_goesStep 1 = .ok (.iload_n 1, 1) := by decide +kernel
theorem dX9_goesStep_2 : decode cX9_goesStep 2 = .ok (.invokevirtual 276, 3) := by decide +kernel
theorem dX9_goesStep_5 : decode cX9_goesStep 5 = .ok (.istore_n 2, 1) := by decide +kernel
theorem dX9_goesStep_6 : decode cX9_goesStep 6 = .ok (.aload_n 0, 1) := by decide +kernel
theorem dX9_goesStep_7 : decode cX9_goesStep 7 = .ok (.iload_n 1, 1) := by decide +kernel
theorem dX9_goesStep_8 : decode cX9_goesStep 8 = .ok (.invokevirtual 280, 3) := by decide +kernel
theorem dX9_goesStep_11 : decode cX9_goesStep 11 = .ok (.istore_n 3, 1) := by decide +kernel
theorem dX9_goesStep_12 : decode cX9_goesStep 12 = .ok (.aload_n 0, 1) := by decide +kernel
theorem dX9_goesStep_13 : decode cX9_goesStep 13 = .ok (.iload_n 1, 1) := by decide +kernel
theorem dX9_goesStep_14 : decode cX9_goesStep 14 = .ok (.invokevirtual 304, 3) := by decide +kernel
theorem dX9_goesStep_17 : decode cX9_goesStep 17 = .ok (.ifCond .eq 10, 3) := by decide +kernel
theorem dX9_goesStep_20 : decode cX9_goesStep 20 = .ok (.aload_n 0, 1) := by decide +kernel
theorem dX9_goesStep_21 : decode cX9_goesStep 21 = .ok (.iload_n 1, 1) := by decide +kernel
theorem dX9_goesStep_22 : decode cX9_goesStep 22 = .ok (.invokevirtual 307, 3) := by decide +kernel
theorem dX9_goesStep_25 : decode cX9_goesStep 25 = .ok (.iconst 1, 1) := by decide +kernel
theorem dX9_goesStep_26 : decode cX9_goesStep 26 = .ok (.ireturn, 1) := by decide +kernel
theorem dX9_goesStep_27 : decode cX9_goesStep 27 = .ok (.aload_n 0, 1) := by decide +kernel
theorem dX9_goesStep_28 : decode cX9_goesStep 28 = .ok (.iload_n 1, 1) := by decide +kernel
theorem dX9_goesStep_29 : decode cX9_goesStep 29 = .ok (.invokevirtual 310, 3) := by decide +kernel
theorem dX9_goesStep_32 : decode cX9_goesStep 32 = .ok (.ifCond .eq 70, 3) := by decide +kernel
theorem dX9_goesStep_35 : decode cX9_goesStep 35 = .ok (.aload_n 0, 1) := by decide +kernel
theorem dX9_goesStep_36 : decode cX9_goesStep 36 = .ok (.iload_n 2, 1) := by decide +kernel
theorem dX9_goesStep_37 : decode cX9_goesStep 37 = .ok (.iload_n 3, 1) := by decide +kernel
theorem dX9_goesStep_38 : decode cX9_goesStep 38 = .ok (.iconst 2, 1) := by decide +kernel
theorem dX9_goesStep_39 : decode cX9_goesStep 39 = .ok (.invokevirtual 290, 3) := by decide +kernel
theorem dX9_goesStep_42 : decode cX9_goesStep 42 = .ok (.istore 4, 2) := by decide +kernel
theorem dX9_goesStep_44 : decode cX9_goesStep 44 = .ok (.aload_n 0, 1) := by decide +kernel
theorem dX9_goesStep_45 : decode cX9_goesStep 45 = .ok (.iload_n 1, 1) := by decide +kernel
theorem dX9_goesStep_46 : decode cX9_goesStep 46 = .ok (.invokevirtual 313, 3) := by decide +kernel
theorem dX9_goesStep_49 : decode cX9_goesStep 49 = .ok (.ifCond .eq 51, 3) := by decide +kernel
theorem dX9_goesStep_52 : decode cX9_goesStep 52 = .ok (.iload 4, 2) := by decide +kernel
theorem dX9_goesStep_54 : decode cX9_goesStep 54 = .ok (.ifCond .le 46, 3) := by decide +kernel
theorem dX9_goesStep_57 : decode cX9_goesStep 57 = .ok (.aload_n 0, 1) := by decide +kernel
theorem dX9_goesStep_58 : decode cX9_goesStep 58 = .ok (.getfield 220, 3) := by decide +kernel
theorem dX9_goesStep_61 : decode cX9_goesStep 61 = .ok (.aload_n 0, 1) := by decide +kernel
theorem dX9_goesStep_62 : decode cX9_goesStep 62 = .ok (.getfield 144, 3) := by decide +kernel
theorem dX9_goesStep_65 : decode cX9_goesStep 65 = .ok (.iload_n 1, 1) := by decide +kernel
theorem dX9_goesStep_66 : decode cX9_goesStep 66 = .ok (.iaload, 1) := by decide +kernel
theorem dX9_goesStep_67 : decode cX9_goesStep 67 = .ok (.isub, 1) := by decide +kernel
theorem dX9_goesStep_68 : decode cX9_goesStep 68 = .ok (.iload 4, 2) := by decide +kernel
theorem dX9_goesStep_70 : decode cX9_goesStep 70 = .ok (.if_icmp .lt 30, 3) := by decide +kernel
theorem dX9_goesStep_73 : decode cX9_goesStep 73 = .ok (.aload_n 0, 1) := by decide +kernel
theorem dX9_goesStep_74 : decode cX9_goesStep 74 = .ok (.getfield 147, 3) := by decide +kernel
theorem dX9_goesStep_77 : decode cX9_goesStep 77 = .ok (.iload_n 1, 1) := by decide +kernel
theorem dX9_goesStep_78 : decode cX9_goesStep 78 = .ok (.iaload, 1) := by decide +kernel
theorem dX9_goesStep_79 : decode cX9_goesStep 79 = .ok (.iconst 1, 1) := by decide +kernel
theorem dX9_goesStep_80 : decode cX9_goesStep 80 = .ok (.if_icmp .ne 20, 3) := by decide +kernel
theorem dX9_goesStep_83 : decode cX9_goesStep 83 = .ok (.aload_n 0, 1) := by decide +kernel
theorem dX9_goesStep_84 : decode cX9_goesStep 84 = .ok (.getfield 56, 3) := by decide +kernel
theorem dX9_goesStep_87 : decode cX9_goesStep 87 = .ok (.iload_n 2, 1) := by decide +kernel
theorem dX9_goesStep_88 : decode cX9_goesStep 88 = .ok (.iaload, 1) := by decide +kernel
theorem dX9_goesStep_89 : decode cX9_goesStep 89 = .ok (.bipush 100, 2) := by decide +kernel
theorem dX9_goesStep_91 : decode cX9_goesStep 91 = .ok (.if_icmp .lt 9, 3) := by decide +kernel
theorem dX9_goesStep_94 : decode cX9_goesStep 94 = .ok (.aload_n 0, 1) := by decide +kernel
theorem dX9_goesStep_95 : decode cX9_goesStep 95 = .ok (.iload_n 1, 1) := by decide +kernel
theorem dX9_goesStep_96 : decode cX9_goesStep 96 = .ok (.iconst 2, 1) := by decide +kernel
theorem dX9_goesStep_97 : decode cX9_goesStep 97 = .ok (.invokevirtual 302, 3) := by decide +kernel
theorem dX9_goesStep_100 : decode cX9_goesStep 100 = .ok (.iconst 0, 1) := by decide +kernel
theorem dX9_goesStep_101 : decode cX9_goesStep 101 = .ok (.ireturn, 1) := by decide +kernel
theorem dX9_goesStep_102 : decode cX9_goesStep 102 = .ok (.aload_n 0, 1) := by decide +kernel
theorem dX9_goesStep_103 : decode cX9_goesStep 103 = .ok (.getfield 150, 3) := by decide +kernel
theorem dX9_goesStep_106 : decode cX9_goesStep 106 = .ok (.iload_n 1, 1) := by decide +kernel
theorem dX9_goesStep_107 : decode cX9_goesStep 107 = .ok (.iaload, 1) := by decide +kernel
theorem dX9_goesStep_108 : decode cX9_goesStep 108 = .ok (.aload_n 0, 1) := by decide +kernel
theorem dX9_goesStep_109 : decode cX9_goesStep 109 = .ok (.iload_n 2, 1) := by decide +kernel
theorem dX9_goesStep_110 : decode cX9_goesStep 110 = .ok (.iload_n 3, 1) := by decide +kernel
theorem dX9_goesStep_111 : decode cX9_goesStep 111 = .ok (.iconst 1, 1) := by decide +kernel
theorem dX9_goesStep_112 : decode cX9_goesStep 112 = .ok (.invokevirtual 290, 3) := by decide +kernel
theorem dX9_goesStep_115 : decode cX9_goesStep 115 = .ok (.if_icmp .ge 42, 3) := by decide +kernel
theorem dX9_goesStep_118 : decode cX9_goesStep 118 = .ok (.aload_n 0, 1) := by decide +kernel
theorem dX9_goesStep_119 : decode cX9_goesStep 119 = .ok (.getfield 153, 3) := by decide +kernel
theorem dX9_goesStep_122 : decode cX9_goesStep 122 = .ok (.iload_n 1, 1) := by decide +kernel
theorem dX9_goesStep_123 : decode cX9_goesStep 123 = .ok (.iaload, 1) := by decide +kernel
theorem dX9_goesStep_124 : decode cX9_goesStep 124 = .ok (.bipush 6, 2) := by decide +kernel
theorem dX9_goesStep_126 : decode cX9_goesStep 126 = .ok (.if_icmp .eq 11, 3) := by decide +kernel
theorem dX9_goesStep_129 : decode cX9_goesStep 129 = .ok (.aload_n 0, 1) := by decide +kernel
theorem dX9_goesStep_130 : decode cX9_goesStep 130 = .ok (.iload_n 1, 1) := by decide +kernel
theorem dX9_goesStep_131 : decode cX9_goesStep 131 = .ok (.invokevirtual 313, 3) := by decide +kernel
theorem dX9_goesStep_134 : decode cX9_goesStep 134 = .ok (.ifCond .eq 23, 3) := by decide +kernel
theorem dX9_goesStep_137 : decode cX9_goesStep 137 = .ok (.aload_n 0, 1) := by decide +kernel
theorem dX9_goesStep_138 : decode cX9_goesStep 138 = .ok (.getfield 56, 3) := by decide +kernel
theorem dX9_goesStep_141 : decode cX9_goesStep 141 = .ok (.iload_n 2, 1) := by decide +kernel
theorem dX9_goesStep_142 : decode cX9_goesStep 142 = .ok (.iaload, 1) := by decide +kernel
theorem dX9_goesStep_143 : decode cX9_goesStep 143 = .ok (.bipush 100, 2) := by decide +kernel
theorem dX9_goesStep_145 : decode cX9_goesStep 145 = .ok (.if_icmp .lt 12, 3) := by decide +kernel
theorem dX9_goesStep_148 : decode cX9_goesStep 148 = .ok (.aload_n 0, 1) := by decide +kernel
theorem dX9_goesStep_149 : decode cX9_goesStep 149 = .ok (.iload_n 1, 1) := by decide +kernel
theorem dX9_goesStep_150 : decode cX9_goesStep 150 = .ok (.iconst 1, 1) := by decide +kernel
theorem dX9_goesStep_151 : decode cX9_goesStep 151 = .ok (.invokevirtual 302, 3) := by decide +kernel
theorem dX9_goesStep_154 : decode cX9_goesStep 154 = .ok (.goto (-142), 3) := by decide +kernel
theorem dX9_goesStep_157 : decode cX9_goesStep 157 = .ok (.iconst 2, 1) := by decide +kernel
theorem dX9_goesStep_158 : decode cX9_goesStep 158 = .ok (.ireturn, 1) := by decide +kernel
theorem dX9_goesCall_0 : decode cX9_goesCall 0 = .ok (.aload_n 0, 1) := by decide +kernel
theorem dX9_goesCall_1 : decode cX9_goesCall 1 = .ok (.getfield 141, 3) := by decide +kernel
theorem dX9_goesCall_4 : decode cX9_goesCall 4 = .ok (.iload_n 1, 1) := by decide +kernel
theorem dX9_goesCall_5 : decode cX9_goesCall 5 = .ok (.iaload, 1) := by decide +kernel
theorem dX9_goesCall_6 : decode cX9_goesCall 6 = .ok (.iconst (-1), 1) := by decide +kernel
theorem dX9_goesCall_7 : decode cX9_goesCall 7 = .ok (.if_icmp .ne 8, 3) := by decide +kernel
theorem dX9_goesCall_10 : decode cX9_goesCall 10 = .ok (.aload_n 0, 1) := by decide +kernel
theorem dX9_goesCall_11 : decode cX9_goesCall 11 = .ok (.iload_n 1, 1) := by decide +kernel
theorem dX9_goesCall_12 : decode cX9_goesCall 12 = .ok (.invokevirtual 316, 3) := by decide +kernel
theorem dX9_goesCall_15 : decode cX9_goesCall 15 = .ok (.aload_n 0, 1) := by decide +kernel
theorem dX9_goesCall_16 : decode cX9_goesCall 16 = .ok (.iload_n 1, 1) := by decide +kernel
theorem dX9_goesCall_17 : decode cX9_goesCall 17 = .ok (.invokevirtual 319, 3) := by decide +kernel
theorem dX9_goesCall_20 : decode cX9_goesCall 20 = .ok (.istore_n 2, 1) := by decide +kernel
theorem dX9_goesCall_21 : decode cX9_goesCall 21 = .ok (.iload_n 2, 1) := by decide +kernel
theorem dX9_goesCall_22 : decode cX9_goesCall 22 = .ok (.iconst 1, 1) := by decide +kernel
theorem dX9_goesCall_23 : decode cX9_goesCall 23 = .ok (.if_icmp .ne 39, 3) := by decide +kernel
theorem dX9_goesCall_26 : decode cX9_goesCall 26 = .ok (.aload_n 0, 1) := by decide +kernel
theorem dX9_goesCall_27 : decode cX9_goesCall 27 = .ok (.getfield 141, 3) := by decide +kernel
theorem dX9_goesCall_30 : decode cX9_goesCall 30 = .ok (.iload_n 1, 1) := by decide +kernel
theorem dX9_goesCall_31 : decode cX9_goesCall 31 = .ok (.iaload, 1) := by decide +kernel
theorem dX9_goesCall_32 : decode cX9_goesCall 32 = .ok (.aload_n 0, 1) := by decide +kernel
theorem dX9_goesCall_33 : decode cX9_goesCall 33 = .ok (.getfield 13, 3) := by decide +kernel
theorem dX9_goesCall_36 : decode cX9_goesCall 36 = .ok (.aload_n 0, 1) := by decide +kernel
theorem dX9_goesCall_37 : decode cX9_goesCall 37 = .ok (.getfield 105, 3) := by decide +kernel
theorem dX9_goesCall_40 : decode cX9_goesCall 40 = .ok (.iload_n 1, 1) := by decide +kernel
theorem dX9_goesCall_41 : decode cX9_goesCall 41 = .ok (.iaload, 1) := by decide +kernel
theorem dX9_goesCall_42 : decode cX9_goesCall 42 = .ok (.iaload, 1) := by decide +kernel
theorem dX9_goesCall_43 : decode cX9_goesCall 43 = .ok (.iconst 1, 1) := by decide +kernel
theorem dX9_goesCall_44 : decode cX9_goesCall 44 = .ok (.isub, 1) := by decide +kernel
theorem dX9_goesCall_45 : decode cX9_goesCall 45 = .ok (.if_icmp .ge 17, 3) := by decide +kernel
theorem dX9_goesCall_48 : decode cX9_goesCall 48 = .ok (.aload_n 0, 1) := by decide +kernel
theorem dX9_goesCall_49 : decode cX9_goesCall 49 = .ok (.iload_n 1, 1) := by decide +kernel
theorem dX9_goesCall_50 : decode cX9_goesCall 50 = .ok (.invokevirtual 316, 3) := by decide +kernel
theorem dX9_goesCall_53 : decode cX9_goesCall 53 = .ok (.aload_n 0, 1) := by decide +kernel
theorem dX9_goesCall_54 : decode cX9_goesCall 54 = .ok (.iload_n 1, 1) := by decide +kernel
theorem dX9_goesCall_55 : decode cX9_goesCall 55 = .ok (.invokevirtual 319, 3) := by decide +kernel
theorem dX9_goesCall_58 : decode cX9_goesCall 58 = .ok (.istore_n 2, 1) := by decide +kernel
theorem dX9_goesCall_59 : decode cX9_goesCall 59 = .ok (.goto (-38), 3) := by decide +kernel
theorem dX9_goesCall_62 : decode cX9_goesCall 62 = .ok (.iload_n 2, 1) := by decide +kernel
theorem dX9_goesCall_63 : decode cX9_goesCall 63 = .ok (.ifCond .le 18, 3) := by decide +kernel
theorem dX9_goesCall_66 : decode cX9_goesCall 66 = .ok (.aload_n 0, 1) := by decide +kernel
theorem dX9_goesCall_67 : decode cX9_goesCall 67 = .ok (.iload_n 1, 1) := by decide +kernel
theorem dX9_goesCall_68 : decode cX9_goesCall 68 = .ok (.iload_n 2, 1) := by decide +kernel
theorem dX9_goesCall_69 : decode cX9_goesCall 69 = .ok (.iconst 1, 1) := by decide +kernel
theorem dX9_goesCall_70 : decode cX9_goesCall 70 = .ok (.if_icmp .ne 7, 3) := by decide +kernel
theorem dX9_goesCall_73 : decode cX9_goesCall 73 = .ok (.iconst 3, 1) := by decide +kernel
theorem dX9_goesCall_74 : decode cX9_goesCall 74 = .ok (.goto 4, 3) := by decide +kernel
theorem dX9_goesCall_77 : decode cX9_goesCall 77 = .ok (.iconst 4, 1) := by decide +kernel
theorem dX9_goesCall_78 : decode cX9_goesCall 78 = .ok (.invokevirtual 244, 3) := by decide +kernel
theorem dX9_goesCall_81 : decode cX9_goesCall 81 = .ok (.return_, 1) := by decide +kernel
theorem dX9_endsRequest_0 : decode cX9_endsRequest 0 = .ok (.aload_n 0, 1) := by decide +kernel
theorem dX9_endsRequest_1 : decode cX9_endsRequest 1 = .ok (.getfield 168, 3) := by decide +kernel
theorem dX9_endsRequest_4 : decode cX9_endsRequest 4 = .ok (.iload_n 1, 1) := by decide +kernel
theorem dX9_endsRequest_5 : decode cX9_endsRequest 5 = .ok (.iload_n 2, 1) := by decide +kernel
theorem dX9_endsRequest_6 : decode cX9_endsRequest 6 = .ok (.iastore, 1) := by decide +kernel
theorem dX9_endsRequest_7 : decode cX9_endsRequest 7 = .ok (.aload_n 0, 1) := by decide +kernel
theorem dX9_endsRequest_8 : decode cX9_endsRequest 8 = .ok (.getfield 171, 3) := by decide +kernel
theorem dX9_endsRequest_11 : decode cX9_endsRequest 11 = .ok (.iload_n 1, 1) := by decide +kernel
theorem dX9_endsRequest_12 : decode cX9_endsRequest 12 = .ok (.aload_n 0, 1) := by decide +kernel
theorem dX9_endsRequest_13 : decode cX9_endsRequest 13 = .ok (.getfield 220, 3) := by decide +kernel
theorem dX9_endsRequest_16 : decode cX9_endsRequest 16 = .ok (.iastore, 1) := by decide +kernel
theorem dX9_endsRequest_17 : decode cX9_endsRequest 17 = .ok (.aload_n 0, 1) := by decide +kernel
theorem dX9_endsRequest_18 : decode cX9_endsRequest 18 = .ok (.getfield 174, 3) := by decide +kernel
theorem dX9_endsRequest_21 : decode cX9_endsRequest 21 = .ok (.iload_n 1, 1) := by decide +kernel
theorem dX9_endsRequest_22 : decode cX9_endsRequest 22 = .ok (.iload_n 1, 1) := by decide +kernel
theorem dX9_endsRequest_23 : decode cX9_endsRequest 23 = .ok (.aload_n 0, 1) := by decide +kernel
theorem dX9_endsRequest_24 : decode cX9_endsRequest 24 = .ok (.getfield 93, 3) := by decide +kernel
theorem dX9_endsRequest_27 : decode cX9_endsRequest 27 = .ok (.irem, 1) := by decide +kernel
theorem dX9_endsRequest_28 : decode cX9_endsRequest 28 = .ok (.ifCond .eq 26, 3) := by decide +kernel
theorem dX9_endsRequest_31 : decode cX9_endsRequest 31 = .ok (.iload_n 2, 1) := by decide +kernel
theorem dX9_endsRequest_32 : decode cX9_endsRequest 32 = .ok (.iconst 3, 1) := by decide +kernel
theorem dX9_endsRequest_33 : decode cX9_endsRequest 33 = .ok (.if_icmp .ne 21, 3) := by decide +kernel
theorem dX9_endsRequest_36 : decode cX9_endsRequest 36 = .ok (.aload_n 0, 1) := by decide +kernel
theorem dX9_endsRequest_37 : decode cX9_endsRequest 37 = .ok (.getfield 220, 3) := by decide +kernel
theorem dX9_endsRequest_40 : decode cX9_endsRequest 40 = .ok (.aload_n 0, 1) := by decide +kernel
theorem dX9_endsRequest_41 : decode cX9_endsRequest 41 = .ok (.getfield 165, 3) := by decide +kernel
theorem dX9_endsRequest_44 : decode cX9_endsRequest 44 = .ok (.iload_n 1, 1) := by decide +kernel
theorem dX9_endsRequest_45 : decode cX9_endsRequest 45 = .ok (.iaload, 1) := by decide +kernel
theorem dX9_endsRequest_46 : decode cX9_endsRequest 46 = .ok (.isub, 1) := by decide +kernel
theorem dX9_endsRequest_47 : decode cX9_endsRequest 47 = .ok (.aload_n 0, 1) := by decide +kernel
theorem dX9_endsRequest_48 : decode cX9_endsRequest 48 = .ok (.getfield 96, 3) := by decide +kernel
theorem dX9_endsRequest_51 : decode cX9_endsRequest 51 = .ok (.if_icmp .le 7, 3) := by decide +kernel
theorem dX9_endsRequest_54 : decode cX9_endsRequest 54 = .ok (.iconst 1, 1) := by decide +kernel
theorem dX9_endsRequest_55 : decode cX9_endsRequest 55 = .ok (.goto 4, 3) := by decide +kernel
theorem dX9_endsRequest_58 : decode cX9_endsRequest 58 = .ok (.iconst 0, 1) := by decide +kernel
theorem dX9_endsRequest_59 : decode cX9_endsRequest 59 = .ok (.bastore, 1) := by decide +kernel
theorem dX9_endsRequest_60 : decode cX9_endsRequest 60 = .ok (.aload_n 0, 1) := by decide +kernel
theorem dX9_endsRequest_61 : decode cX9_endsRequest 61 = .ok (.sipush 400, 3) := by decide +kernel
theorem dX9_endsRequest_64 : decode cX9_endsRequest 64 = .ok (.iload_n 1, 1) := by decide +kernel
theorem dX9_endsRequest_65 : decode cX9_endsRequest 65 = .ok (.iadd, 1) := by decide +kernel
theorem dX9_endsRequest_66 : decode cX9_endsRequest 66 = .ok (.invokevirtual 307, 3) := by decide +kernel
theorem dX9_endsRequest_69 : decode cX9_endsRequest 69 = .ok (.return_, 1) := by decide +kernel
theorem dX9_goesRequest_0 : decode cX9_goesRequest 0 = .ok (.aload_n 0, 1) := by decide +kernel
theorem dX9_goesRequest_1 : decode cX9_goesRequest 1 = .ok (.sipush 400, 3) := by decide +kernel
theorem dX9_goesRequest_4 : decode cX9_goesRequest 4 = .ok (.iload_n 1, 1) := by decide +kernel
theorem dX9_goesRequest_5 : decode cX9_goesRequest 5 = .ok (.iadd, 1) := by decide +kernel
theorem dX9_goesRequest_6 : decode cX9_goesRequest 6 = .ok (.invokevirtual 319, 3) := by decide +kernel
theorem dX9_goesRequest_9 : decode cX9_goesRequest 9 = .ok (.istore_n 2, 1) := by decide +kernel
theorem dX9_goesRequest_10 : decode cX9_goesRequest 10 = .ok (.iload_n 2, 1) := by decide +kernel
theorem dX9_goesRequest_11 : decode cX9_goesRequest 11 = .ok (.ifCond .le 18, 3) := by decide +kernel
theorem dX9_goesRequest_14 : decode cX9_goesRequest 14 = .ok (.aload_n 0, 1) := by decide +kernel
theorem dX9_goesRequest_15 : decode cX9_goesRequest 15 = .ok (.iload_n 1, 1) := by decide +kernel
theorem dX9_goesRequest_16 : decode cX9_goesRequest 16 = .ok (.iload_n 2, 1) := by decide +kernel
theorem dX9_goesRequest_17 : decode cX9_goesRequest 17 = .ok (.iconst 1, 1) := by decide +kernel
theorem dX9_goesRequest_18 : decode cX9_goesRequest 18 = .ok (.if_icmp .ne 7, 3) := by decide +kernel
theorem dX9_goesRequest_21 : decode cX9_goesRequest 21 = .ok (.iconst 3, 1) := by decide +kernel
theorem dX9_goesRequest_22 : decode cX9_goesRequest 22 = .ok (.goto 4, 3) := by decide +kernel
theorem dX9_goesRequest_25 : decode cX9_goesRequest 25 = .ok (.iconst 4, 1) := by decide +kernel
theorem dX9_goesRequest_26 : decode cX9_goesRequest 26 = .ok (.invokevirtual 322, 3) := by decide +kernel
theorem dX9_goesRequest_29 : decode cX9_goesRequest 29 = .ok (.return_, 1) := by decide +kernel
theorem dX9_request_0 : decode cX9_request 0 = .ok (.aload_n 0, 1) := by decide +kernel
theorem dX9_request_1 : decode cX9_request 1 = .ok (.iload_n 1, 1) := by decide +kernel
theorem dX9_request_2 : decode cX9_request 2 = .ok (.invokestatic 199, 3) := by decide +kernel
theorem dX9_request_5 : decode cX9_request 5 = .ok (.iload_n 3, 1) := by decide +kernel
theorem dX9_request_6 : decode cX9_request 6 = .ok (.iconst 1, 1) := by decide +kernel
theorem dX9_request_7 : decode cX9_request 7 = .ok (.sipush 200, 3) := by decide +kernel
theorem dX9_request_10 : decode cX9_request 10 = .ok (.invokestatic 189, 3) := by decide +kernel
theorem dX9_request_13 : decode cX9_request 13 = .ok (.aload_n 0, 1) := by decide +kernel
theorem dX9_request_14 : decode cX9_request 14 = .ok (.getfield 196, 3) := by decide +kernel
theorem dX9_request_17 : decode cX9_request 17 = .ok (.bipush 40, 2) := by decide +kernel
theorem dX9_request_19 : decode cX9_request 19 = .ok (.if_icmp .ge 7, 3) := by decide +kernel
theorem dX9_request_22 : decode cX9_request 22 = .ok (.iconst 1, 1) := by decide +kernel
theorem dX9_request_23 : decode cX9_request 23 = .ok (.goto 4, 3) := by decide +kernel
theorem dX9_request_26 : decode cX9_request 26 = .ok (.iconst 0, 1) := by decide +kernel
theorem dX9_request_27 : decode cX9_request 27 = .ok (.invokevirtual 203, 3) := by decide +kernel
theorem dX9_request_30 : decode cX9_request 30 = .ok (.ifCond .ne 5, 3) := by decide +kernel
theorem dX9_request_33 : decode cX9_request 33 = .ok (.iconst 0, 1) := by decide +kernel
theorem dX9_request_34 : decode cX9_request 34 = .ok (.ireturn, 1) := by decide +kernel
theorem dX9_request_35 : decode cX9_request 35 = .ok (.aload_n 0, 1) := by decide +kernel
theorem dX9_request_36 : decode cX9_request 36 = .ok (.getfield 196, 3) := by decide +kernel
theorem dX9_request_39 : decode cX9_request 39 = .ok (.istore 4, 2) := by decide +kernel
theorem dX9_request_41 : decode cX9_request 41 = .ok (.aload_n 0, 1) := by decide +kernel
theorem dX9_request_42 : decode cX9_request 42 = .ok (.dup, 1) := by decide +kernel
theorem dX9_request_43 : decode cX9_request 43 = .ok (.getfield 196, 3) := by decide +kernel
theorem dX9_request_46 : decode cX9_request 46 = .ok (.iconst 1, 1) := by decide +kernel
theorem dX9_request_47 : decode cX9_request 47 = .ok (.iadd, 1) := by decide +kernel
theorem dX9_request_48 : decode cX9_request 48 = .ok (.putfield 196, 3) := by decide +kernel
theorem dX9_request_51 : decode cX9_request 51 = .ok (.aload_n 0, 1) := by decide +kernel
theorem dX9_request_52 : decode cX9_request 52 = .ok (.getfield 156, 3) := by decide +kernel
theorem dX9_request_55 : decode cX9_request 55 = .ok (.iload 4, 2) := by decide +kernel
theorem dX9_request_57 : decode cX9_request 57 = .ok (.iload_n 1, 1) := by decide +kernel
theorem dX9_request_58 : decode cX9_request 58 = .ok (.iastore, 1) := by decide +kernel
theorem dX9_request_59 : decode cX9_request 59 = .ok (.aload_n 0, 1) := by decide +kernel
theorem dX9_request_60 : decode cX9_request 60 = .ok (.getfield 159, 3) := by decide +kernel
theorem dX9_request_63 : decode cX9_request 63 = .ok (.iload 4, 2) := by decide +kernel
theorem dX9_request_65 : decode cX9_request 65 = .ok (.iload_n 2, 1) := by decide +kernel
theorem dX9_request_66 : decode cX9_request 66 = .ok (.bastore, 1) := by decide +kernel
theorem dX9_request_67 : decode cX9_request 67 = .ok (.aload_n 0, 1) := by decide +kernel
theorem dX9_request_68 : decode cX9_request 68 = .ok (.getfield 162, 3) := by decide +kernel
theorem dX9_request_71 : decode cX9_request 71 = .ok (.iload 4, 2) := by decide +kernel
theorem dX9_request_73 : decode cX9_request 73 = .ok (.aload_n 0, 1) := by decide +kernel
theorem dX9_request_74 : decode cX9_request 74 = .ok (.getfield 220, 3) := by decide +kernel
theorem dX9_request_77 : decode cX9_request 77 = .ok (.iload_n 3, 1) := by decide +kernel
theorem dX9_request_78 : decode cX9_request 78 = .ok (.iadd, 1) := by decide +kernel
theorem dX9_request_79 : decode cX9_request 79 = .ok (.iastore, 1) := by decide +kernel
theorem dX9_request_80 : decode cX9_request 80 = .ok (.aload_n 0, 1) := by decide +kernel
theorem dX9_request_81 : decode cX9_request 81 = .ok (.getfield 165, 3) := by decide +kernel
theorem dX9_request_84 : decode cX9_request 84 = .ok (.iload 4, 2) := by decide +kernel
theorem dX9_request_86 : decode cX9_request 86 = .ok (.aload_n 0, 1) := by decide +kernel
theorem dX9_request_87 : decode cX9_request 87 = .ok (.getfield 220, 3) := by decide +kernel
theorem dX9_request_90 : decode cX9_request 90 = .ok (.iastore, 1) := by decide +kernel
theorem dX9_request_91 : decode cX9_request 91 = .ok (.aload_n 0, 1) := by decide +kernel
theorem dX9_request_92 : decode cX9_request 92 = .ok (.getfield 168, 3) := by decide +kernel
theorem dX9_request_95 : decode cX9_request 95 = .ok (.iload 4, 2) := by decide +kernel
theorem dX9_request_97 : decode cX9_request 97 = .ok (.bipush 8, 2) := by decide +kernel
theorem dX9_request_99 : decode cX9_request 99 = .ok (.iastore, 1) := by decide +kernel
theorem dX9_request_100 : decode cX9_request 100 = .ok (.aload_n 0, 1) := by decide +kernel
theorem dX9_request_101 : decode cX9_request 101 = .ok (.getfield 141, 3) := by decide +kernel
theorem dX9_request_104 : decode cX9_request 104 = .ok (.sipush 400, 3) := by decide +kernel
theorem dX9_request_107 : decode cX9_request 107 = .ok (.iload 4, 2) := by decide +kernel
theorem dX9_request_109 : decode cX9_request 109 = .ok (.iadd, 1) := by decide +kernel
theorem dX9_request_110 : decode cX9_request 110 = .ok (.iconst (-1), 1) := by decide +kernel
theorem dX9_request_111 : decode cX9_request 111 = .ok (.iastore, 1) := by decide +kernel
theorem dX9_request_112 : decode cX9_request 112 = .ok (.aload_n 0, 1) := by decide +kernel
theorem dX9_request_113 : decode cX9_request 113 = .ok (.sipush 400, 3) := by decide +kernel
theorem dX9_request_116 : decode cX9_request 116 = .ok (.iload 4, 2) := by decide +kernel
theorem dX9_request_118 : decode cX9_request 118 = .ok (.iadd, 1) := by decide +kernel
theorem dX9_request_119 : decode cX9_request 119 = .ok (.invokevirtual 316, 3) := by decide +kernel
theorem dX9_request_122 : decode cX9_request 122 = .ok (.aload_n 0, 1) := by decide +kernel
theorem dX9_request_123 : decode cX9_request 123 = .ok (.iload 4, 2) := by decide +kernel
theorem dX9_request_125 : decode cX9_request 125 = .ok (.invokevirtual 325, 3) := by decide +kernel
theorem dX9_request_128 : decode cX9_request 128 = .ok (.iload 4, 2) := by decide +kernel
theorem dX9_request_130 : decode cX9_request 130 = .ok (.ireturn, 1) := by decide +kernel
theorem dX9_goesRepair_0 : decode cX9_goesRepair 0 = .ok (.sipush 440, 3) := by decide +kernel
theorem dX9_goesRepair_3 : decode cX9_goesRepair 3 = .ok (.iload_n 1, 1) := by decide +kernel
theorem dX9_goesRepair_4 : decode cX9_goesRepair 4 = .ok (.iadd, 1) := by decide +kernel
theorem dX9_goesRepair_5 : decode cX9_goesRepair 5 = .ok (.istore_n 2, 1) := by decide +kernel
theorem dX9_goesRepair_6 : decode cX9_goesRepair 6 = .ok (.aload_n 0, 1) := by decide +kernel
theorem dX9_goesRepair_7 : decode cX9_goesRepair 7 = .ok (.iload_n 2, 1) := by decide +kernel
theorem dX9_goesRepair_8 : decode cX9_goesRepair 8 = .ok (.invokevirtual 304, 3) := by decide +kernel
theorem dX9_goesRepair_11 : decode cX9_goesRepair 11 = .ok (.ifCond .eq 28, 3) := by decide +kernel
theorem dX9_goesRepair_14 : decode cX9_goesRepair 14 = .ok (.aload_n 0, 1) := by decide +kernel
theorem dX9_goesRepair_15 : decode cX9_goesRepair 15 = .ok (.getfield 183, 3) := by decide +kernel
theorem dX9_goesRepair_18 : decode cX9_goesRepair 18 = .ok (.iload_n 1, 1) := by decide +kernel
theorem dX9_goesRepair_19 : decode cX9_goesRepair 19 = .ok (.iconst 1, 1) := by decide +kernel
theorem dX9_goesRepair_20 : decode cX9_goesRepair 20 = .ok (.bastore, 1) := by decide +kernel
theorem dX9_goesRepair_21 : decode cX9_goesRepair 21 = .ok (.aload_n 0, 1) := by decide +kernel
theorem dX9_goesRepair_22 : decode cX9_goesRepair 22 = .ok (.dup, 1) := by decide +kernel
theorem dX9_goesRepair_23 : decode cX9_goesRepair 23 = .ok (.getfield 328, 3) := by decide +kernel
theorem dX9_goesRepair_26 : decode cX9_goesRepair 26 = .ok (.iconst 1, 1) := by decide +kernel
theorem dX9_goesRepair_27 : decode cX9_goesRepair 27 = .ok (.iadd, 1) := by decide +kernel
theorem dX9_goesRepair_28 : decode cX9_goesRepair 28 = .ok (.putfield 328, 3) := by decide +kernel
theorem dX9_goesRepair_31 : decode cX9_goesRepair 31 = .ok (.aload_n 0, 1) := by decide +kernel
theorem dX9_goesRepair_32 : decode cX9_goesRepair 32 = .ok (.iload_n 2, 1) := by decide +kernel
theorem dX9_goesRepair_33 : decode cX9_goesRepair 33 = .ok (.invokevirtual 307, 3) := by decide +kernel
theorem dX9_goesRepair_36 : decode cX9_goesRepair 36 = .ok (.goto 17, 3) := by decide +kernel
theorem dX9_goesRepair_39 : decode cX9_goesRepair 39 = .ok (.aload_n 0, 1) := by decide +kernel
theorem dX9_goesRepair_40 : decode cX9_goesRepair 40 = .ok (.iload_n 2, 1) := by decide +kernel
theorem dX9_goesRepair_41 : decode cX9_goesRepair 41 = .ok (.invokevirtual 310, 3) := by decide +kernel
theorem dX9_goesRepair_44 : decode cX9_goesRepair 44 = .ok (.ifCond .ne 9, 3) := by decide +kernel
theorem dX9_goesRepair_47 : decode cX9_goesRepair 47 = .ok (.aload_n 0, 1) := by decide +kernel
theorem dX9_goesRepair_48 : decode cX9_goesRepair 48 = .ok (.iload_n 2, 1) := by decide +kernel
theorem dX9_goesRepair_49 : decode cX9_goesRepair 49 = .ok (.iconst 3, 1) := by decide +kernel
theorem dX9_goesRepair_50 : decode cX9_goesRepair 50 = .ok (.invokevirtual 302, 3) := by decide +kernel
theorem dX9_goesRepair_53 : decode cX9_goesRepair 53 = .ok (.return_, 1) := by decide +kernel
theorem dX9_finishesWork_0 : decode cX9_finishesWork 0 = .ok (.aload_n 0, 1) := by decide +kernel
theorem dX9_finishesWork_1 : decode cX9_finishesWork 1 = .ok (.getfield 44, 3) := by decide +kernel
theorem dX9_finishesWork_4 : decode cX9_finishesWork 4 = .ok (.iconst 4, 1) := by decide +kernel
theorem dX9_finishesWork_5 : decode cX9_finishesWork 5 = .ok (.aload_n 0, 1) := by decide +kernel
theorem dX9_finishesWork_6 : decode cX9_finishesWork 6 = .ok (.getfield 111, 3) := by decide +kernel
theorem dX9_finishesWork_9 : decode cX9_finishesWork 9 = .ok (.iload_n 1, 1) := by decide +kernel
theorem dX9_finishesWork_10 : decode cX9_finishesWork 10 = .ok (.iaload, 1) := by decide +kernel
theorem dX9_finishesWork_11 : decode cX9_finishesWork 11 = .ok (.imul, 1) := by decide +kernel
theorem dX9_finishesWork_12 : decode cX9_finishesWork 12 = .ok (.iconst 1, 1) := by decide +kernel
theorem dX9_finishesWork_13 : decode cX9_finishesWork 13 = .ok (.iadd, 1) := by decide +kernel
theorem dX9_finishesWork_14 : decode cX9_finishesWork 14 = .ok (.iaload, 1) := by decide +kernel
theorem dX9_finishesWork_15 : decode cX9_finishesWork 15 = .ok (.iconst 1, 1) := by decide +kernel
theorem dX9_finishesWork_16 : decode cX9_finishesWork 16 = .ok (.if_icmp .ne 12, 3) := by decide +kernel
theorem dX9_finishesWork_19 : decode cX9_finishesWork 19 = .ok (.aload_n 0, 1) := by decide +kernel
theorem dX9_finishesWork_20 : decode cX9_finishesWork 20 = .ok (.iload_n 1, 1) := by decide +kernel
theorem dX9_finishesWork_21 : decode cX9_finishesWork 21 = .ok (.iconst 4, 1) := by decide +kernel
theorem dX9_finishesWork_22 : decode cX9_finishesWork 22 = .ok (.invokevirtual 244, 3) := by decide +kernel
theorem dX9_finishesWork_25 : decode cX9_finishesWork 25 = .ok (.goto 33, 3) := by decide +kernel
theorem dX9_finishesWork_28 : decode cX9_finishesWork 28 = .ok (.aload_n 0, 1) := by decide +kernel
theorem dX9_finishesWork_29 : decode cX9_finishesWork 29 = .ok (.getfield 13, 3) := by decide +kernel
theorem dX9_finishesWork_32 : decode cX9_finishesWork 32 = .ok (.aload_n 0, 1) := by decide +kernel
theorem dX9_finishesWork_33 : decode cX9_finishesWork 33 = .ok (.getfield 105, 3) := by decide +kernel
theorem dX9_finishesWork_36 : decode cX9_finishesWork 36 = .ok (.iload_n 1, 1) := by decide +kernel
theorem dX9_finishesWork_37 : decode cX9_finishesWork 37 = .ok (.iaload, 1) := by decide +kernel
theorem dX9_finishesWork_38 : decode cX9_finishesWork 38 = .ok (.iaload, 1) := by decide +kernel
theorem dX9_finishesWork_39 : decode cX9_finishesWork 39 = .ok (.ifCond .ne 12, 3) := by decide +kernel
theorem dX9_finishesWork_42 : decode cX9_finishesWork 42 = .ok (.aload_n 0, 1) := by decide +kernel
theorem dX9_finishesWork_43 : decode cX9_finishesWork 43 = .ok (.iload_n 1, 1) := by decide +kernel
theorem dX9_finishesWork_44 : decode cX9_finishesWork 44 = .ok (.iconst 3, 1) := by decide +kernel
theorem dX9_finishesWork_45 : decode cX9_finishesWork 45 = .ok (.invokevirtual 244, 3) := by decide +kernel
theorem dX9_finishesWork_48 : decode cX9_finishesWork 48 = .ok (.goto 10, 3) := by decide +kernel
theorem dX9_finishesWork_51 : decode cX9_finishesWork 51 = .ok (.aload_n 0, 1) := by decide +kernel
theorem dX9_finishesWork_52 : decode cX9_finishesWork 52 = .ok (.getfield 114, 3) := by decide +kernel
theorem dX9_finishesWork_55 : decode cX9_finishesWork 55 = .ok (.iload_n 1, 1) := by decide +kernel
theorem dX9_finishesWork_56 : decode cX9_finishesWork 56 = .ok (.iconst 2, 1) := by decide +kernel
theorem dX9_finishesWork_57 : decode cX9_finishesWork 57 = .ok (.iastore, 1) := by decide +kernel
theorem dX9_finishesWork_58 : decode cX9_finishesWork 58 = .ok (.return_, 1) := by decide +kernel
theorem dX9_dequeues_0 : decode cX9_dequeues 0 = .ok (.aload_n 0, 1) := by decide +kernel
theorem dX9_dequeues_1 : decode cX9_dequeues 1 = .ok (.iload_n 1, 1) := by decide +kernel
theorem dX9_dequeues_2 : decode cX9_dequeues 2 = .ok (.iconst 1, 1) := by decide +kernel
theorem dX9_dequeues_3 : decode cX9_dequeues 3 = .ok (.iconst 2, 1) := by decide +kernel
theorem dX9_dequeues_4 : decode cX9_dequeues 4 = .ok (.invokevirtual 293, 3) := by decide +kernel
theorem dX9_dequeues_7 : decode cX9_dequeues 7 = .ok (.istore_n 2, 1) := by decide +kernel
theorem dX9_dequeues_8 : decode cX9_dequeues 8 = .ok (.iconst 0, 1) := by decide +kernel
theorem dX9_dequeues_9 : decode cX9_dequeues 9 = .ok (.istore_n 3, 1) := by decide +kernel
theorem dX9_dequeues_10 : decode cX9_dequeues 10 = .ok (.iload_n 3, 1) := by decide +kernel
theorem dX9_dequeues_11 : decode cX9_dequeues 11 = .ok (.aload_n 0, 1) := by decide +kernel
theorem dX9_dequeues_12 : decode cX9_dequeues 12 = .ok (.getfield 217, 3) := by decide +kernel
theorem dX9_dequeues_15 : decode cX9_dequeues 15 = .ok (.if_icmp .ge 46, 3) := by decide +kernel
theorem dX9_dequeues_18 : decode cX9_dequeues 18 = .ok (.iload_n 2, 1) := by decide +kernel
theorem dX9_dequeues_19 : decode cX9_dequeues 19 = .ok (.aload_n 0, 1) := by decide +kernel
theorem dX9_dequeues_20 : decode cX9_dequeues 20 = .ok (.getfield 35, 3) := by decide +kernel
theorem dX9_dequeues_23 : decode cX9_dequeues 23 = .ok (.iload_n 1, 1) := by decide +kernel
theorem dX9_dequeues_24 : decode cX9_dequeues 24 = .ok (.iaload, 1) := by decide +kernel
theorem dX9_dequeues_25 : decode cX9_dequeues 25 = .ok (.if_icmp .ge 36, 3) := by decide +kernel
theorem dX9_dequeues_28 : decode cX9_dequeues 28 = .ok (.aload_n 0, 1) := by decide +kernel
theorem dX9_dequeues_29 : decode cX9_dequeues 29 = .ok (.getfield 111, 3) := by decide +kernel
theorem dX9_dequeues_32 : decode cX9_dequeues 32 = .ok (.iload_n 3, 1) := by decide +kernel
theorem dX9_dequeues_33 : decode cX9_dequeues 33 = .ok (.iaload, 1) := by decide +kernel
theorem dX9_dequeues_34 : decode cX9_dequeues 34 = .ok (.iload_n 1, 1) := by decide +kernel
theorem dX9_dequeues_35 : decode cX9_dequeues 35 = .ok (.if_icmp .ne 20, 3) := by decide +kernel
theorem dX9_dequeues_38 : decode cX9_dequeues 38 = .ok (.aload_n 0, 1) := by decide +kernel
theorem dX9_dequeues_39 : decode cX9_dequeues 39 = .ok (.getfield 114, 3) := by decide +kernel
theorem dX9_dequeues_42 : decode cX9_dequeues 42 = .ok (.iload_n 3, 1) := by decide +kernel
theorem dX9_dequeues_43 : decode cX9_dequeues 43 = .ok (.iaload, 1) := by decide +kernel
theorem dX9_dequeues_44 : decode cX9_dequeues 44 = .ok (.ifCond .ne 11, 3) := by decide +kernel
theorem dX9_dequeues_47 : decode cX9_dequeues 47 = .ok (.aload_n 0, 1) := by decide +kernel
theorem dX9_dequeues_48 : decode cX9_dequeues 48 = .ok (.iload_n 3, 1) := by decide +kernel
theorem dX9_dequeues_49 : decode cX9_dequeues 49 = .ok (.invokevirtual 296, 3) := by decide +kernel
theorem dX9_dequeues_52 : decode cX9_dequeues 52 = .ok (.iinc 2 1, 3) := by decide +kernel
theorem dX9_dequeues_55 : decode cX9_dequeues 55 = .ok (.iinc 3 1, 3) := by decide +kernel
theorem dX9_dequeues_58 : decode cX9_dequeues 58 = .ok (.goto (-48), 3) := by decide +kernel
theorem dX9_dequeues_61 : decode cX9_dequeues 61 = .ok (.return_, 1) := by decide +kernel
theorem dX9_passes_0 : decode cX9_passes 0 = .ok (.aload_n 0, 1) := by decide +kernel
theorem dX9_passes_1 : decode cX9_passes 1 = .ok (.dup, 1) := by decide +kernel
theorem dX9_passes_2 : decode cX9_passes 2 = .ok (.getfield 220, 3) := by decide +kernel
theorem dX9_passes_5 : decode cX9_passes 5 = .ok (.iconst 1, 1) := by decide +kernel
theorem dX9_passes_6 : decode cX9_passes 6 = .ok (.iadd, 1) := by decide +kernel
theorem dX9_passes_7 : decode cX9_passes 7 = .ok (.putfield 220, 3) := by decide +kernel
theorem dX9_passes_10 : decode cX9_passes 10 = .ok (.iconst 0, 1) := by decide +kernel
theorem dX9_passes_11 : decode cX9_passes 11 = .ok (.istore_n 1, 1) := by decide +kernel
theorem dX9_passes_12 : decode cX9_passes 12 = .ok (.iload_n 1, 1) := by decide +kernel
theorem dX9_passes_13 : decode cX9_passes 13 = .ok (.bipush 84, 2) := by decide +kernel
theorem dX9_passes_15 : decode cX9_passes 15 = .ok (.if_icmp .ge 51, 3) := by decide +kernel
theorem dX9_passes_18 : decode cX9_passes 18 = .ok (.aload_n 0, 1) := by decide +kernel
theorem dX9_passes_19 : decode cX9_passes 19 = .ok (.getfield 69, 3) := by decide +kernel
theorem dX9_passes_22 : decode cX9_passes 22 = .ok (.iload_n 1, 1) := by decide +kernel
theorem dX9_passes_23 : decode cX9_passes 23 = .ok (.aload_n 0, 1) := by decide +kernel
theorem dX9_passes_24 : decode cX9_passes 24 = .ok (.getfield 69, 3) := by decide +kernel
theorem dX9_passes_27 : decode cX9_passes 27 = .ok (.iload_n 1, 1) := by decide +kernel
theorem dX9_passes_28 : decode cX9_passes 28 = .ok (.iaload, 1) := by decide +kernel
theorem dX9_passes_29 : decode cX9_passes 29 = .ok (.iconst 1, 1) := by decide +kernel
theorem dX9_passes_30 : decode cX9_passes 30 = .ok (.if_icmp .ne 23, 3) := by decide +kernel
theorem dX9_passes_33 : decode cX9_passes 33 = .ok (.aload_n 0, 1) := by decide +kernel
theorem dX9_passes_34 : decode cX9_passes 34 = .ok (.getfield 220, 3) := by decide +kernel
theorem dX9_passes_37 : decode cX9_passes 37 = .ok (.aload_n 0, 1) := by decide +kernel
theorem dX9_passes_38 : decode cX9_passes 38 = .ok (.getfield 75, 3) := by decide +kernel
theorem dX9_passes_41 : decode cX9_passes 41 = .ok (.iload_n 1, 1) := by decide +kernel
theorem dX9_passes_42 : decode cX9_passes 42 = .ok (.iaload, 1) := by decide +kernel
theorem dX9_passes_43 : decode cX9_passes 43 = .ok (.isub, 1) := by decide +kernel
theorem dX9_passes_44 : decode cX9_passes 44 = .ok (.bipush 10, 2) := by decide +kernel
theorem dX9_passes_46 : decode cX9_passes 46 = .ok (.if_icmp .lt 7, 3) := by decide +kernel
theorem dX9_passes_49 : decode cX9_passes 49 = .ok (.iconst 2, 1) := by decide +kernel
theorem dX9_passes_50 : decode cX9_passes 50 = .ok (.goto 9, 3) := by decide +kernel
theorem dX9_passes_53 : decode cX9_passes 53 = .ok (.aload_n 0, 1) := by decide +kernel
theorem dX9_passes_54 : decode cX9_passes 54 = .ok (.getfield 69, 3) := by decide +kernel
theorem dX9_passes_57 : decode cX9_passes 57 = .ok (.iload_n 1, 1) := by decide +kernel
theorem dX9_passes_58 : decode cX9_passes 58 = .ok (.iaload, 1) := by decide +kernel
theorem dX9_passes_59 : decode cX9_passes 59 = .ok (.iastore, 1) := by decide +kernel
theorem dX9_passes_60 : decode cX9_passes 60 = .ok (.iinc 1 1, 3) := by decide +kernel
theorem dX9_passes_63 : decode cX9_passes 63 = .ok (.goto (-51), 3) := by decide +kernel
theorem dX9_passes_66 : decode cX9_passes 66 = .ok (.iconst 0, 1) := by decide +kernel
theorem dX9_passes_67 : decode cX9_passes 67 = .ok (.istore_n 1, 1) := by decide +kernel
theorem dX9_passes_68 : decode cX9_passes 68 = .ok (.iload_n 1, 1) := by decide +kernel
theorem dX9_passes_69 : decode cX9_passes 69 = .ok (.aload_n 0, 1) := by decide +kernel
theorem dX9_passes_70 : decode cX9_passes 70 = .ok (.getfield 217, 3) := by decide +kernel
theorem dX9_passes_73 : decode cX9_passes 73 = .ok (.if_icmp .ge 36, 3) := by decide +kernel
theorem dX9_passes_76 : decode cX9_passes 76 = .ok (.aload_n 0, 1) := by decide +kernel
theorem dX9_passes_77 : decode cX9_passes 77 = .ok (.iload_n 1, 1) := by decide +kernel
theorem dX9_passes_78 : decode cX9_passes 78 = .ok (.invokevirtual 223, 3) := by decide +kernel
theorem dX9_passes_81 : decode cX9_passes 81 = .ok (.ifCond .ne 22, 3) := by decide +kernel
theorem dX9_passes_84 : decode cX9_passes 84 = .ok (.aload_n 0, 1) := by decide +kernel
theorem dX9_passes_85 : decode cX9_passes 85 = .ok (.getfield 220, 3) := by decide +kernel
theorem dX9_passes_88 : decode cX9_passes 88 = .ok (.aload_n 0, 1) := by decide +kernel
theorem dX9_passes_89 : decode cX9_passes 89 = .ok (.getfield 117, 3) := by decide +kernel
theorem dX9_passes_92 : decode cX9_passes 92 = .ok (.iload_n 1, 1) := by decide +kernel
theorem dX9_passes_93 : decode cX9_passes 93 = .ok (.iaload, 1) := by decide +kernel
theorem dX9_passes_94 : decode cX9_passes 94 = .ok (.if_icmp .lt 9, 3) := by decide +kernel
theorem dX9_passes_97 : decode cX9_passes 97 = .ok (.aload_n 0, 1) := by decide +kernel
theorem dX9_passes_98 : decode cX9_passes 98 = .ok (.iload_n 1, 1) := by decide +kernel
theorem dX9_passes_99 : decode cX9_passes 99 = .ok (.iconst 5, 1) := by decide +kernel
theorem dX9_passes_100 : decode cX9_passes 100 = .ok (.invokevirtual 244, 3) := by decide +kernel
theorem dX9_passes_103 : decode cX9_passes 103 = .ok (.iinc 1 1, 3) := by decide +kernel
theorem dX9_passes_106 : decode cX9_passes 106 = .ok (.goto (-38), 3) := by decide +kernel
theorem dX9_passes_109 : decode cX9_passes 109 = .ok (.iconst 0, 1) := by decide +kernel
theorem dX9_passes_110 : decode cX9_passes 110 = .ok (.istore_n 1, 1) := by decide +kernel
theorem dX9_passes_111 : decode cX9_passes 111 = .ok (.iload_n 1, 1) := by decide +kernel
theorem dX9_passes_112 : decode cX9_passes 112 = .ok (.aload_n 0, 1) := by decide +kernel
theorem dX9_passes_113 : decode cX9_passes 113 = .ok (.getfield 217, 3) := by decide +kernel
theorem dX9_passes_116 : decode cX9_passes 116 = .ok (.if_icmp .ge 37, 3) := by decide +kernel
theorem dX9_passes_119 : decode cX9_passes 119 = .ok (.aload_n 0, 1) := by decide +kernel
theorem dX9_passes_120 : decode cX9_passes 120 = .ok (.getfield 114, 3) := by decide +kernel
theorem dX9_passes_123 : decode cX9_passes 123 = .ok (.iload_n 1, 1) := by decide +kernel
theorem dX9_passes_124 : decode cX9_passes 124 = .ok (.iaload, 1) := by decide +kernel
theorem dX9_passes_125 : decode cX9_passes 125 = .ok (.iconst 1, 1) := by decide +kernel
theorem dX9_passes_126 : decode cX9_passes 126 = .ok (.if_icmp .ne 21, 3) := by decide +kernel
theorem dX9_passes_129 : decode cX9_passes 129 = .ok (.aload_n 0, 1) := by decide +kernel
theorem dX9_passes_130 : decode cX9_passes 130 = .ok (.getfield 220, 3) := by decide +kernel
theorem dX9_passes_133 : decode cX9_passes 133 = .ok (.aload_n 0, 1) := by decide +kernel
theorem dX9_passes_134 : decode cX9_passes 134 = .ok (.getfield 120, 3) := by decide +kernel
theorem dX9_passes_137 : decode cX9_passes 137 = .ok (.iload_n 1, 1) := by decide +kernel
theorem dX9_passes_138 : decode cX9_passes 138 = .ok (.iaload, 1) := by decide +kernel
theorem dX9_passes_139 : decode cX9_passes 139 = .ok (.if_icmp .lt 8, 3) := by decide +kernel
theorem dX9_passes_142 : decode cX9_passes 142 = .ok (.aload_n 0, 1) := by decide +kernel
theorem dX9_passes_143 : decode cX9_passes 143 = .ok (.iload_n 1, 1) := by decide +kernel
theorem dX9_passes_144 : decode cX9_passes 144 = .ok (.invokevirtual 331, 3) := by decide +kernel
theorem dX9_passes_147 : decode cX9_passes 147 = .ok (.iinc 1 1, 3) := by decide +kernel
theorem dX9_passes_150 : decode cX9_passes 150 = .ok (.goto (-39), 3) := by decide +kernel
theorem dX9_passes_153 : decode cX9_passes 153 = .ok (.aload_n 0, 1) := by decide +kernel
theorem dX9_passes_154 : decode cX9_passes 154 = .ok (.getfield 217, 3) := by decide +kernel
theorem dX9_passes_157 : decode cX9_passes 157 = .ok (.istore_n 1, 1) := by decide +kernel
theorem dX9_passes_158 : decode cX9_passes 158 = .ok (.iconst 0, 1) := by decide +kernel
theorem dX9_passes_159 : decode cX9_passes 159 = .ok (.istore_n 2, 1) := by decide +kernel
theorem dX9_passes_160 : decode cX9_passes 160 = .ok (.iload_n 2, 1) := by decide +kernel
theorem dX9_passes_161 : decode cX9_passes 161 = .ok (.iload_n 1, 1) := by decide +kernel
theorem dX9_passes_162 : decode cX9_passes 162 = .ok (.if_icmp .ge 30, 3) := by decide +kernel
theorem dX9_passes_165 : decode cX9_passes 165 = .ok (.aload_n 0, 1) := by decide +kernel
theorem dX9_passes_166 : decode cX9_passes 166 = .ok (.getfield 135, 3) := by decide +kernel
theorem dX9_passes_169 : decode cX9_passes 169 = .ok (.iload_n 2, 1) := by decide +kernel
theorem dX9_passes_170 : decode cX9_passes 170 = .ok (.aload_n 0, 1) := by decide +kernel
theorem dX9_passes_171 : decode cX9_passes 171 = .ok (.getfield 114, 3) := by decide +kernel
theorem dX9_passes_174 : decode cX9_passes 174 = .ok (.iload_n 2, 1) := by decide +kernel
theorem dX9_passes_175 : decode cX9_passes 175 = .ok (.iaload, 1) := by decide +kernel
theorem dX9_passes_176 : decode cX9_passes 176 = .ok (.iconst 2, 1) := by decide +kernel
theorem dX9_passes_177 : decode cX9_passes 177 = .ok (.if_icmp .ne 7, 3) := by decide +kernel
theorem dX9_passes_180 : decode cX9_passes 180 = .ok (.iconst 1, 1) := by decide +kernel
theorem dX9_passes_181 : decode cX9_passes 181 = .ok (.goto 4, 3) := by decide +kernel
theorem dX9_passes_184 : decode cX9_passes 184 = .ok (.iconst 0, 1) := by decide +kernel
theorem dX9_passes_185 : decode cX9_passes 185 = .ok (.bastore, 1) := by decide +kernel
theorem dX9_passes_186 : decode cX9_passes 186 = .ok (.iinc 2 1, 3) := by decide +kernel
theorem dX9_passes_189 : decode cX9_passes 189 = .ok (.goto (-29), 3) := by decide +kernel
theorem dX9_passes_192 : decode cX9_passes 192 = .ok (.iload_n 1, 1) := by decide +kernel
theorem dX9_passes_193 : decode cX9_passes 193 = .ok (.iconst 1, 1) := by decide +kernel
theorem dX9_passes_194 : decode cX9_passes 194 = .ok (.isub, 1) := by decide +kernel
theorem dX9_passes_195 : decode cX9_passes 195 = .ok (.istore_n 2, 1) := by decide +kernel
theorem dX9_passes_196 : decode cX9_passes 196 = .ok (.iload_n 2, 1) := by decide +kernel
theorem dX9_passes_197 : decode cX9_passes 197 = .ok (.ifCond .lt 33, 3) := by decide +kernel
theorem dX9_passes_200 : decode cX9_passes 200 = .ok (.aload_n 0, 1) := by decide +kernel
theorem dX9_passes_201 : decode cX9_passes 201 = .ok (.getfield 135, 3) := by decide +kernel
theorem dX9_passes_204 : decode cX9_passes 204 = .ok (.iload_n 2, 1) := by decide +kernel
theorem dX9_passes_205 : decode cX9_passes 205 = .ok (.baload, 1) := by decide +kernel
theorem dX9_passes_206 : decode cX9_passes 206 = .ok (.ifCond .eq 18, 3) := by decide +kernel
theorem dX9_passes_209 : decode cX9_passes 209 = .ok (.aload_n 0, 1) := by decide +kernel
theorem dX9_passes_210 : decode cX9_passes 210 = .ok (.getfield 114, 3) := by decide +kernel
theorem dX9_passes_213 : decode cX9_passes 213 = .ok (.iload_n 2, 1) := by decide +kernel
theorem dX9_passes_214 : decode cX9_passes 214 = .ok (.iaload, 1) := by decide +kernel
theorem dX9_passes_215 : decode cX9_passes 215 = .ok (.iconst 2, 1) := by decide +kernel
theorem dX9_passes_216 : decode cX9_passes 216 = .ok (.if_icmp .ne 8, 3) := by decide +kernel
theorem dX9_passes_219 : decode cX9_passes 219 = .ok (.aload_n 0, 1) := by decide +kernel
theorem dX9_passes_220 : decode cX9_passes 220 = .ok (.iload_n 2, 1) := by decide +kernel
theorem dX9_passes_221 : decode cX9_passes 221 = .ok (.invokevirtual 334, 3) := by decide +kernel
theorem dX9_passes_224 : decode cX9_passes 224 = .ok (.iinc 2 (-1), 3) := by decide +kernel
theorem dX9_passes_227 : decode cX9_passes 227 = .ok (.goto (-31), 3) := by decide +kernel
theorem dX9_passes_230 : decode cX9_passes 230 = .ok (.iconst 0, 1) := by decide +kernel
theorem dX9_passes_231 : decode cX9_passes 231 = .ok (.istore_n 2, 1) := by decide +kernel
theorem dX9_passes_232 : decode cX9_passes 232 = .ok (.iload_n 2, 1) := by decide +kernel
theorem dX9_passes_233 : decode cX9_passes 233 = .ok (.aload_n 0, 1) := by decide +kernel
theorem dX9_passes_234 : decode cX9_passes 234 = .ok (.getfield 196, 3) := by decide +kernel
theorem dX9_passes_237 : decode cX9_passes 237 = .ok (.if_icmp .ge 58, 3) := by decide +kernel
theorem dX9_passes_240 : decode cX9_passes 240 = .ok (.aload_n 0, 1) := by decide +kernel
theorem dX9_passes_241 : decode cX9_passes 241 = .ok (.getfield 168, 3) := by decide +kernel
theorem dX9_passes_244 : decode cX9_passes 244 = .ok (.iload_n 2, 1) := by decide +kernel
theorem dX9_passes_245 : decode cX9_passes 245 = .ok (.iaload, 1) := by decide +kernel
theorem dX9_passes_246 : decode cX9_passes 246 = .ok (.bipush 8, 2) := by decide +kernel
theorem dX9_passes_248 : decode cX9_passes 248 = .ok (.if_icmp .ne 25, 3) := by decide +kernel
theorem dX9_passes_251 : decode cX9_passes 251 = .ok (.aload_n 0, 1) := by decide +kernel
theorem dX9_passes_252 : decode cX9_passes 252 = .ok (.getfield 220, 3) := by decide +kernel
theorem dX9_passes_255 : decode cX9_passes 255 = .ok (.aload_n 0, 1) := by decide +kernel
theorem dX9_passes_256 : decode cX9_passes 256 = .ok (.getfield 162, 3) := by decide +kernel
theorem dX9_passes_259 : decode cX9_passes 259 = .ok (.iload_n 2, 1) := by decide +kernel
theorem dX9_passes_260 : decode cX9_passes 260 = .ok (.iaload, 1) := by decide +kernel
theorem dX9_passes_261 : decode cX9_passes 261 = .ok (.if_icmp .lt 12, 3) := by decide +kernel
theorem dX9_passes_264 : decode cX9_passes 264 = .ok (.aload_n 0, 1) := by decide +kernel
theorem dX9_passes_265 : decode cX9_passes 265 = .ok (.iload_n 2, 1) := by decide +kernel
theorem dX9_passes_266 : decode cX9_passes 266 = .ok (.iconst 5, 1) := by decide +kernel
theorem dX9_passes_267 : decode cX9_passes 267 = .ok (.invokevirtual 322, 3) := by decide +kernel
theorem dX9_passes_270 : decode cX9_passes 270 = .ok (.goto 19, 3) := by decide +kernel
theorem dX9_passes_273 : decode cX9_passes 273 = .ok (.aload_n 0, 1) := by decide +kernel
theorem dX9_passes_274 : decode cX9_passes 274 = .ok (.getfield 168, 3) := by decide +kernel
theorem dX9_passes_277 : decode cX9_passes 277 = .ok (.iload_n 2, 1) := by decide +kernel
theorem dX9_passes_278 : decode cX9_passes 278 = .ok (.iaload, 1) := by decide +kernel
theorem dX9_passes_279 : decode cX9_passes 279 = .ok (.bipush 8, 2) := by decide +kernel
theorem dX9_passes_281 : decode cX9_passes 281 = .ok (.if_icmp .ne 8, 3) := by decide +kernel
theorem dX9_passes_284 : decode cX9_passes 284 = .ok (.aload_n 0, 1) := by decide +kernel
theorem dX9_passes_285 : decode cX9_passes 285 = .ok (.iload_n 2, 1) := by decide +kernel
theorem dX9_passes_286 : decode cX9_passes 286 = .ok (.invokevirtual 325, 3) := by decide +kernel
theorem dX9_passes_289 : decode cX9_passes 289 = .ok (.iinc 2 1, 3) := by decide +kernel
theorem dX9_passes_292 : decode cX9_passes 292 = .ok (.goto (-60), 3) := by decide +kernel
theorem dX9_passes_295 : decode cX9_passes 295 = .ok (.iconst 0, 1) := by decide +kernel
theorem dX9_passes_296 : decode cX9_passes 296 = .ok (.istore_n 2, 1) := by decide +kernel
theorem dX9_passes_297 : decode cX9_passes 297 = .ok (.iload_n 2, 1) := by decide +kernel
theorem dX9_passes_298 : decode cX9_passes 298 = .ok (.aload_n 0, 1) := by decide +kernel
theorem dX9_passes_299 : decode cX9_passes 299 = .ok (.getfield 230, 3) := by decide +kernel
theorem dX9_passes_302 : decode cX9_passes 302 = .ok (.if_icmp .ge 23, 3) := by decide +kernel
theorem dX9_passes_305 : decode cX9_passes 305 = .ok (.aload_n 0, 1) := by decide +kernel
theorem dX9_passes_306 : decode cX9_passes 306 = .ok (.getfield 183, 3) := by decide +kernel
theorem dX9_passes_309 : decode cX9_passes 309 = .ok (.iload_n 2, 1) := by decide +kernel
theorem dX9_passes_310 : decode cX9_passes 310 = .ok (.baload, 1) := by decide +kernel
theorem dX9_passes_311 : decode cX9_passes 311 = .ok (.ifCond .ne 8, 3) := by decide +kernel
theorem dX9_passes_314 : decode cX9_passes 314 = .ok (.aload_n 0, 1) := by decide +kernel
theorem dX9_passes_315 : decode cX9_passes 315 = .ok (.iload_n 2, 1) := by decide +kernel
theorem dX9_passes_316 : decode cX9_passes 316 = .ok (.invokevirtual 337, 3) := by decide +kernel
theorem dX9_passes_319 : decode cX9_passes 319 = .ok (.iinc 2 1, 3) := by decide +kernel
theorem dX9_passes_322 : decode cX9_passes 322 = .ok (.goto (-25), 3) := by decide +kernel
theorem dX9_passes_325 : decode cX9_passes 325 = .ok (.iconst 0, 1) := by decide +kernel
theorem dX9_passes_326 : decode cX9_passes 326 = .ok (.istore_n 2, 1) := by decide +kernel
theorem dX9_passes_327 : decode cX9_passes 327 = .ok (.iload_n 2, 1) := by decide +kernel
theorem dX9_passes_328 : decode cX9_passes 328 = .ok (.aload_n 0, 1) := by decide +kernel
theorem dX9_passes_329 : decode cX9_passes 329 = .ok (.getfield 193, 3) := by decide +kernel
theorem dX9_passes_332 : decode cX9_passes 332 = .ok (.if_icmp .ge 14, 3) := by decide +kernel
theorem dX9_passes_335 : decode cX9_passes 335 = .ok (.aload_n 0, 1) := by decide +kernel
theorem dX9_passes_336 : decode cX9_passes 336 = .ok (.iload_n 2, 1) := by decide +kernel
theorem dX9_passes_337 : decode cX9_passes 337 = .ok (.invokevirtual 340, 3) := by decide +kernel
theorem dX9_passes_340 : decode cX9_passes 340 = .ok (.iinc 2 1, 3) := by decide +kernel
theorem dX9_passes_343 : decode cX9_passes 343 = .ok (.goto (-16), 3) := by decide +kernel
theorem dX9_passes_346 : decode cX9_passes 346 = .ok (.iconst 0, 1) := by decide +kernel
theorem dX9_passes_347 : decode cX9_passes 347 = .ok (.istore_n 2, 1) := by decide +kernel
theorem dX9_passes_348 : decode cX9_passes 348 = .ok (.iload_n 2, 1) := by decide +kernel
theorem dX9_passes_349 : decode cX9_passes 349 = .ok (.aload_n 0, 1) := by decide +kernel
theorem dX9_passes_350 : decode cX9_passes 350 = .ok (.getfield 193, 3) := by decide +kernel
theorem dX9_passes_353 : decode cX9_passes 353 = .ok (.if_icmp .ge 57, 3) := by decide +kernel
theorem dX9_passes_356 : decode cX9_passes 356 = .ok (.aload_n 0, 1) := by decide +kernel
theorem dX9_passes_357 : decode cX9_passes 357 = .ok (.getfield 220, 3) := by decide +kernel
theorem dX9_passes_360 : decode cX9_passes 360 = .ok (.iconst 5, 1) := by decide +kernel
theorem dX9_passes_361 : decode cX9_passes 361 = .ok (.irem, 1) := by decide +kernel
theorem dX9_passes_362 : decode cX9_passes 362 = .ok (.ifCond .ne 48, 3) := by decide +kernel
theorem dX9_passes_365 : decode cX9_passes 365 = .ok (.aload_n 0, 1) := by decide +kernel
theorem dX9_passes_366 : decode cX9_passes 366 = .ok (.getfield 47, 3) := by decide +kernel
theorem dX9_passes_369 : decode cX9_passes 369 = .ok (.iload_n 2, 1) := by decide +kernel
theorem dX9_passes_370 : decode cX9_passes 370 = .ok (.aload_n 0, 1) := by decide +kernel
theorem dX9_passes_371 : decode cX9_passes 371 = .ok (.iload_n 2, 1) := by decide +kernel
theorem dX9_passes_372 : decode cX9_passes 372 = .ok (.iconst 0, 1) := by decide +kernel
theorem dX9_passes_373 : decode cX9_passes 373 = .ok (.iconst 2, 1) := by decide +kernel
theorem dX9_passes_374 : decode cX9_passes 374 = .ok (.invokevirtual 293, 3) := by decide +kernel
theorem dX9_passes_377 : decode cX9_passes 377 = .ok (.iastore, 1) := by decide +kernel
theorem dX9_passes_378 : decode cX9_passes 378 = .ok (.iconst 0, 1) := by decide +kernel
theorem dX9_passes_379 : decode cX9_passes 379 = .ok (.istore_n 3, 1) := by decide +kernel
theorem dX9_passes_380 : decode cX9_passes 380 = .ok (.iload_n 3, 1) := by decide +kernel
theorem dX9_passes_381 : decode cX9_passes 381 = .ok (.bipush 7, 2) := by decide +kernel
theorem dX9_passes_383 : decode cX9_passes 383 = .ok (.if_icmp .ge 21, 3) := by decide +kernel
theorem dX9_passes_386 : decode cX9_passes 386 = .ok (.aload_n 0, 1) := by decide +kernel
theorem dX9_passes_387 : decode cX9_passes 387 = .ok (.getfield 78, 3) := by decide +kernel
theorem dX9_passes_390 : decode cX9_passes 390 = .ok (.bipush 12, 2) := by decide +kernel
theorem dX9_passes_392 : decode cX9_passes 392 = .ok (.iload_n 3, 1) := by decide +kernel
theorem dX9_passes_393 : decode cX9_passes 393 = .ok (.imul, 1) := by decide +kernel
theorem dX9_passes_394 : decode cX9_passes 394 = .ok (.iload_n 2, 1) := by decide +kernel
theorem dX9_passes_395 : decode cX9_passes 395 = .ok (.iadd, 1) := by decide +kernel
theorem dX9_passes_396 : decode cX9_passes 396 = .ok (.iconst 0, 1) := by decide +kernel
theorem dX9_passes_397 : decode cX9_passes 397 = .ok (.iastore, 1) := by decide +kernel
theorem dX9_passes_398 : decode cX9_passes 398 = .ok (.iinc 3 1, 3) := by decide +kernel
theorem dX9_passes_401 : decode cX9_passes 401 = .ok (.goto (-21), 3) := by decide +kernel
theorem dX9_passes_404 : decode cX9_passes 404 = .ok (.iinc 2 1, 3) := by decide +kernel
theorem dX9_passes_407 : decode cX9_passes 407 = .ok (.goto (-59), 3) := by decide +kernel
theorem dX9_passes_410 : decode cX9_passes 410 = .ok (.return_, 1) := by decide +kernel
theorem dX9_pass_0 : decode cX9_pass 0 = .ok (.aload_n 0, 1) := by decide +kernel
theorem dX9_pass_1 : decode cX9_pass 1 = .ok (.iload_n 1, 1) := by decide +kernel
theorem dX9_pass_2 : decode cX9_pass 2 = .ok (.iconst 1, 1) := by decide +kernel
theorem dX9_pass_3 : decode cX9_pass 3 = .ok (.bipush 50, 2) := by decide +kernel
theorem dX9_pass_5 : decode cX9_pass 5 = .ok (.invokestatic 189, 3) := by decide +kernel
theorem dX9_pass_8 : decode cX9_pass 8 = .ok (.aload_n 0, 1) := by decide +kernel
theorem dX9_pass_9 : decode cX9_pass 9 = .ok (.getfield 220, 3) := by decide +kernel
theorem dX9_pass_12 : decode cX9_pass 12 = .ok (.iload_n 1, 1) := by decide +kernel
theorem dX9_pass_13 : decode cX9_pass 13 = .ok (.iadd, 1) := by decide +kernel
theorem dX9_pass_14 : decode cX9_pass 14 = .ok (.sipush 600, 3) := by decide +kernel
theorem dX9_pass_17 : decode cX9_pass 17 = .ok (.if_icmp .gt 7, 3) := by decide +kernel
theorem dX9_pass_20 : decode cX9_pass 20 = .ok (.iconst 1, 1) := by decide +kernel
theorem dX9_pass_21 : decode cX9_pass 21 = .ok (.goto 4, 3) := by decide +kernel
theorem dX9_pass_24 : decode cX9_pass 24 = .ok (.iconst 0, 1) := by decide +kernel
theorem dX9_pass_25 : decode cX9_pass 25 = .ok (.iconst 1, 1) := by decide +kernel
theorem dX9_pass_26 : decode cX9_pass 26 = .ok (.invokevirtual 203, 3) := by decide +kernel
theorem dX9_pass_29 : decode cX9_pass 29 = .ok (.ifCond .ne 5, 3) := by decide +kernel
theorem dX9_pass_32 : decode cX9_pass 32 = .ok (.iconst 0, 1) := by decide +kernel
theorem dX9_pass_33 : decode cX9_pass 33 = .ok (.ireturn, 1) := by decide +kernel
theorem dX9_pass_34 : decode cX9_pass 34 = .ok (.iconst 0, 1) := by decide +kernel
theorem dX9_pass_35 : decode cX9_pass 35 = .ok (.istore_n 2, 1) := by decide +kernel
theorem dX9_pass_36 : decode cX9_pass 36 = .ok (.iload_n 2, 1) := by decide +kernel
theorem dX9_pass_37 : decode cX9_pass 37 = .ok (.iload_n 1, 1) := by decide +kernel
theorem dX9_pass_38 : decode cX9_pass 38 = .ok (.if_icmp .ge 13, 3) := by decide +kernel
theorem dX9_pass_41 : decode cX9_pass 41 = .ok (.aload_n 0, 1) := by decide +kernel
theorem dX9_pass_42 : decode cX9_pass 42 = .ok (.invokevirtual 343, 3) := by decide +kernel
theorem dX9_pass_45 : decode cX9_pass 45 = .ok (.iinc 2 1, 3) := by decide +kernel
theorem dX9_pass_48 : decode cX9_pass 48 = .ok (.goto (-12), 3) := by decide +kernel
theorem dX9_pass_51 : decode cX9_pass 51 = .ok (.aload_n 0, 1) := by decide +kernel
theorem dX9_pass_52 : decode cX9_pass 52 = .ok (.getfield 220, 3) := by decide +kernel
theorem dX9_pass_55 : decode cX9_pass 55 = .ok (.ireturn, 1) := by decide +kernel
theorem dX9_tick_0 : decode cX9_tick 0 = .ok (.aload_n 0, 1) := by decide +kernel
theorem dX9_tick_1 : decode cX9_tick 1 = .ok (.iconst 0, 1) := by decide +kernel
theorem dX9_tick_2 : decode cX9_tick 2 = .ok (.putfield 186, 3) := by decide +kernel
theorem dX9_tick_5 : decode cX9_tick 5 = .ok (.aload_n 0, 1) := by decide +kernel
theorem dX9_tick_6 : decode cX9_tick 6 = .ok (.getfield 220, 3) := by decide +kernel
theorem dX9_tick_9 : decode cX9_tick 9 = .ok (.ireturn, 1) := by decide +kernel
theorem dX9_requestState_0 : decode cX9_requestState 0 = .ok (.aload_n 0, 1) := by decide +kernel
theorem dX9_requestState_1 : decode cX9_requestState 1 = .ok (.aload_n 0, 1) := by decide +kernel
theorem dX9_requestState_2 : decode cX9_requestState 2 = .ok (.iload_n 1, 1) := by decide +kernel
theorem dX9_requestState_3 : decode cX9_requestState 3 = .ok (.invokevirtual 346, 3) := by decide +kernel
theorem dX9_requestState_6 : decode cX9_requestState 6 = .ok (.iconst 1, 1) := by decide +kernel
theorem dX9_requestState_7 : decode cX9_requestState 7 = .ok (.iconst 1, 1) := by decide +kernel
theorem dX9_requestState_8 : decode cX9_requestState 8 = .ok (.invokevirtual 203, 3) := by decide +kernel
theorem dX9_requestState_11 : decode cX9_requestState 11 = .ok (.ifCond .eq 12, 3) := by decide +kernel
theorem dX9_requestState_14 : decode cX9_requestState 14 = .ok (.aload_n 0, 1) := by decide +kernel
theorem dX9_requestState_15 : decode cX9_requestState 15 = .ok (.getfield 168, 3) := by decide +kernel
theorem dX9_requestState_18 : decode cX9_requestState 18 = .ok (.iload_n 1, 1) := by decide +kernel
theorem dX9_requestState_19 : decode cX9_requestState 19 = .ok (.iaload, 1) := by decide +kernel
theorem dX9_requestState_20 : decode cX9_requestState 20 = .ok (.goto 4, 3) := by decide +kernel
theorem dX9_requestState_23 : decode cX9_requestState 23 = .ok (.iconst 0, 1) := by decide +kernel
theorem dX9_requestState_24 : decode cX9_requestState 24 = .ok (.ireturn, 1) := by decide +kernel
theorem dX9_requestTicks_0 : decode cX9_requestTicks 0 = .ok (.aload_n 0, 1) := by decide +kernel
theorem dX9_requestTicks_1 : decode cX9_requestTicks 1 = .ok (.aload_n 0, 1) := by decide +kernel
theorem dX9_requestTicks_2 : decode cX9_requestTicks 2 = .ok (.iload_n 1, 1) := by decide +kernel
theorem dX9_requestTicks_3 : decode cX9_requestTicks 3 = .ok (.invokevirtual 346, 3) := by decide +kernel
theorem dX9_requestTicks_6 : decode cX9_requestTicks 6 = .ok (.iconst 1, 1) := by decide +kernel
theorem dX9_requestTicks_7 : decode cX9_requestTicks 7 = .ok (.iconst 1, 1) := by decide +kernel
theorem dX9_requestTicks_8 : decode cX9_requestTicks 8 = .ok (.invokevirtual 203, 3) := by decide +kernel
theorem dX9_requestTicks_11 : decode cX9_requestTicks 11 = .ok (.ifCond .eq 37, 3) := by decide +kernel
theorem dX9_requestTicks_14 : decode cX9_requestTicks 14 = .ok (.aload_n 0, 1) := by decide +kernel
theorem dX9_requestTicks_15 : decode cX9_requestTicks 15 = .ok (.getfield 168, 3) := by decide +kernel
theorem dX9_requestTicks_18 : decode cX9_requestTicks 18 = .ok (.iload_n 1, 1) := by decide +kernel
theorem dX9_requestTicks_19 : decode cX9_requestTicks 19 = .ok (.iaload, 1) := by decide +kernel
theorem dX9_requestTicks_20 : decode cX9_requestTicks 20 = .ok (.bipush 8, 2) := by decide +kernel
theorem dX9_requestTicks_22 : decode cX9_requestTicks 22 = .ok (.if_icmp .ne 10, 3) := by decide +kernel
theorem dX9_requestTicks_25 : decode cX9_requestTicks 25 = .ok (.aload_n 0, 1) := by decide +kernel
theorem dX9_requestTicks_26 : decode cX9_requestTicks 26 = .ok (.getfield 220, 3) := by decide +kernel
theorem dX9_requestTicks_29 : decode cX9_requestTicks 29 = .ok (.goto 9, 3) := by decide +kernel
theorem dX9_requestTicks_32 : decode cX9_requestTicks 32 = .ok (.aload_n 0, 1) := by decide +kernel
theorem dX9_requestTicks_33 : decode cX9_requestTicks 33 = .ok (.getfield 171, 3) := by decide +kernel
theorem dX9_requestTicks_36 : decode cX9_requestTicks 36 = .ok (.iload_n 1, 1) := by decide +kernel
theorem dX9_requestTicks_37 : decode cX9_requestTicks 37 = .ok (.iaload, 1) := by decide +kernel
theorem dX9_requestTicks_38 : decode cX9_requestTicks 38 = .ok (.aload_n 0, 1) := by decide +kernel
theorem dX9_requestTicks_39 : decode cX9_requestTicks 39 = .ok (.getfield 165, 3) := by decide +kernel
theorem dX9_requestTicks_42 : decode cX9_requestTicks 42 = .ok (.iload_n 1, 1) := by decide +kernel
theorem dX9_requestTicks_43 : decode cX9_requestTicks 43 = .ok (.iaload, 1) := by decide +kernel
theorem dX9_requestTicks_44 : decode cX9_requestTicks 44 = .ok (.isub, 1) := by decide +kernel
theorem dX9_requestTicks_45 : decode cX9_requestTicks 45 = .ok (.goto 4, 3) := by decide +kernel
theorem dX9_requestTicks_48 : decode cX9_requestTicks 48 = .ok (.iconst 0, 1) := by decide +kernel
theorem dX9_requestTicks_49 : decode cX9_requestTicks 49 = .ok (.ireturn, 1) := by decide +kernel
theorem dX9_isKept_0 : decode cX9_isKept 0 = .ok (.aload_n 0, 1) := by decide +kernel
theorem dX9_isKept_1 : decode cX9_isKept 1 = .ok (.aload_n 0, 1) := by decide +kernel
theorem dX9_isKept_2 : decode cX9_isKept 2 = .ok (.iload_n 1, 1) := by decide +kernel
theorem dX9_isKept_3 : decode cX9_isKept 3 = .ok (.invokevirtual 346, 3) := by decide +kernel
theorem dX9_isKept_6 : decode cX9_isKept 6 = .ok (.iconst 1, 1) := by decide +kernel
theorem dX9_isKept_7 : decode cX9_isKept 7 = .ok (.iconst 1, 1) := by decide +kernel
theorem dX9_isKept_8 : decode cX9_isKept 8 = .ok (.invokevirtual 203, 3) := by decide +kernel
theorem dX9_isKept_11 : decode cX9_isKept 11 = .ok (.ifCond .eq 39, 3) := by decide +kernel
theorem dX9_isKept_14 : decode cX9_isKept 14 = .ok (.aload_n 0, 1) := by decide +kernel
theorem dX9_isKept_15 : decode cX9_isKept 15 = .ok (.getfield 168, 3) := by decide +kernel
theorem dX9_isKept_18 : decode cX9_isKept 18 = .ok (.iload_n 1, 1) := by decide +kernel
theorem dX9_isKept_19 : decode cX9_isKept 19 = .ok (.iaload, 1) := by decide +kernel
theorem dX9_isKept_20 : decode cX9_isKept 20 = .ok (.bipush 8, 2) := by decide +kernel
theorem dX9_isKept_22 : decode cX9_isKept 22 = .ok (.if_icmp .ne 15, 3) := by decide +kernel
theorem dX9_isKept_25 : decode cX9_isKept 25 = .ok (.iload_n 1, 1) := by decide +kernel
theorem dX9_isKept_26 : decode cX9_isKept 26 = .ok (.aload_n 0, 1) := by decide +kernel
theorem dX9_isKept_27 : decode cX9_isKept 27 = .ok (.getfield 93, 3) := by decide +kernel
theorem dX9_isKept_30 : decode cX9_isKept 30 = .ok (.irem, 1) := by decide +kernel
theorem dX9_isKept_31 : decode cX9_isKept 31 = .ok (.ifCond .ne 19, 3) := by decide +kernel
theorem dX9_isKept_34 : decode cX9_isKept 34 = .ok (.goto 12, 3) := by decide +kernel
theorem dX9_isKept_37 : decode cX9_isKept 37 = .ok (.aload_n 0, 1) := by decide +kernel
theorem dX9_isKept_38 : decode cX9_isKept 38 = .ok (.getfield 174, 3) := by decide +kernel
theorem dX9_isKept_41 : decode cX9_isKept 41 = .ok (.iload_n 1, 1) := by decide +kernel
theorem dX9_isKept_42 : decode cX9_isKept 42 = .ok (.baload, 1) := by decide +kernel
theorem dX9_isKept_43 : decode cX9_isKept 43 = .ok (.ifCond .eq 7, 3) := by decide +kernel
theorem dX9_isKept_46 : decode cX9_isKept 46 = .ok (.iconst 1, 1) := by decide +kernel
theorem dX9_isKept_47 : decode cX9_isKept 47 = .ok (.goto 4, 3) := by decide +kernel
theorem dX9_isKept_50 : decode cX9_isKept 50 = .ok (.iconst 0, 1) := by decide +kernel
theorem dX9_isKept_51 : decode cX9_isKept 51 = .ok (.ireturn, 1) := by decide +kernel
theorem dX9_callsOf_0 : decode cX9_callsOf 0 = .ok (.aload_n 0, 1) := by decide +kernel
theorem dX9_callsOf_1 : decode cX9_callsOf 1 = .ok (.aload_n 0, 1) := by decide +kernel
theorem dX9_callsOf_2 : decode cX9_callsOf 2 = .ok (.iload_n 1, 1) := by decide +kernel
theorem dX9_callsOf_3 : decode cX9_callsOf 3 = .ok (.invokevirtual 346, 3) := by decide +kernel
theorem dX9_callsOf_6 : decode cX9_callsOf 6 = .ok (.iconst 1, 1) := by decide +kernel
theorem dX9_callsOf_7 : decode cX9_callsOf 7 = .ok (.iconst 1, 1) := by decide +kernel
theorem dX9_callsOf_8 : decode cX9_callsOf 8 = .ok (.invokevirtual 203, 3) := by decide +kernel
theorem dX9_callsOf_11 : decode cX9_callsOf 11 = .ok (.ifCond .ne 5, 3) := by decide +kernel
theorem dX9_callsOf_14 : decode cX9_callsOf 14 = .ok (.iconst 0, 1) := by decide +kernel
theorem dX9_callsOf_15 : decode cX9_callsOf 15 = .ok (.ireturn, 1) := by decide +kernel
theorem dX9_callsOf_16 : decode cX9_callsOf 16 = .ok (.iconst 0, 1) := by decide +kernel
theorem dX9_callsOf_17 : decode cX9_callsOf 17 = .ok (.istore_n 2, 1) := by decide +kernel
theorem dX9_callsOf_18 : decode cX9_callsOf 18 = .ok (.iconst 0, 1) := by decide +kernel
theorem dX9_callsOf_19 : decode cX9_callsOf 19 = .ok (.istore_n 3, 1) := by decide +kernel
theorem dX9_callsOf_20 : decode cX9_callsOf 20 = .ok (.iload_n 3, 1) := by decide +kernel
theorem dX9_callsOf_21 : decode cX9_callsOf 21 = .ok (.aload_n 0, 1) := by decide +kernel
theorem dX9_callsOf_22 : decode cX9_callsOf 22 = .ok (.getfield 217, 3) := by decide +kernel
theorem dX9_callsOf_25 : decode cX9_callsOf 25 = .ok (.if_icmp .ge 27, 3) := by decide +kernel
theorem dX9_callsOf_28 : decode cX9_callsOf 28 = .ok (.iload_n 2, 1) := by decide +kernel
theorem dX9_callsOf_29 : decode cX9_callsOf 29 = .ok (.aload_n 0, 1) := by decide +kernel
theorem dX9_callsOf_30 : decode cX9_callsOf 30 = .ok (.getfield 123, 3) := by decide +kernel
theorem dX9_callsOf_33 : decode cX9_callsOf 33 = .ok (.iload_n 3, 1) := by decide +kernel
theorem dX9_callsOf_34 : decode cX9_callsOf 34 = .ok (.iaload, 1) := by decide +kernel
theorem dX9_callsOf_35 : decode cX9_callsOf 35 = .ok (.iload_n 1, 1) := by decide +kernel
theorem dX9_callsOf_36 : decode cX9_callsOf 36 = .ok (.if_icmp .ne 7, 3) := by decide +kernel
theorem dX9_callsOf_39 : decode cX9_callsOf 39 = .ok (.iconst 1, 1) := by decide +kernel
theorem dX9_callsOf_40 : decode cX9_callsOf 40 = .ok (.goto 4, 3) := by decide +kernel
theorem dX9_callsOf_43 : decode cX9_callsOf 43 = .ok (.iconst 0, 1) := by decide +kernel
theorem dX9_callsOf_44 : decode cX9_callsOf 44 = .ok (.iadd, 1) := by decide +kernel
theorem dX9_callsOf_45 : decode cX9_callsOf 45 = .ok (.istore_n 2, 1) := by decide +kernel
theorem dX9_callsOf_46 : decode cX9_callsOf 46 = .ok (.iinc 3 1, 3) := by decide +kernel
theorem dX9_callsOf_49 : decode cX9_callsOf 49 = .ok (.goto (-29), 3) := by decide +kernel
theorem dX9_callsOf_52 : decode cX9_callsOf 52 = .ok (.iload_n 2, 1) := by decide +kernel
theorem dX9_callsOf_53 : decode cX9_callsOf 53 = .ok (.ireturn, 1) := by decide +kernel
theorem dX9_calls_0 : decode cX9_calls 0 = .ok (.aload_n 0, 1) := by decide +kernel
theorem dX9_calls_1 : decode cX9_calls 1 = .ok (.iconst 0, 1) := by decide +kernel
theorem dX9_calls_2 : decode cX9_calls 2 = .ok (.putfield 186, 3) := by decide +kernel
theorem dX9_calls_5 : decode cX9_calls 5 = .ok (.aload_n 0, 1) := by decide +kernel
theorem dX9_calls_6 : decode cX9_calls 6 = .ok (.getfield 217, 3) := by decide +kernel
theorem dX9_calls_9 : decode cX9_calls 9 = .ok (.ireturn, 1) := by decide +kernel
theorem dX9_toldOf_0 : decode cX9_toldOf 0 = .ok (.iload_n 2, 1) := by decide +kernel
theorem dX9_toldOf_1 : decode cX9_toldOf 1 = .ok (.tableswitch 110 0 6 #[43, 50, 57, 64, 71, 94, 101], 43) := by decide +kernel
theorem dX9_toldOf_44 : decode cX9_toldOf 44 = .ok (.aload_n 0, 1) := by decide +kernel
theorem dX9_toldOf_45 : decode cX9_toldOf 45 = .ok (.getfield 105, 3) := by decide +kernel
theorem dX9_toldOf_48 : decode cX9_toldOf 48 = .ok (.iload_n 1, 1) := by decide +kernel
theorem dX9_toldOf_49 : decode cX9_toldOf 49 = .ok (.iaload, 1) := by decide +kernel
theorem dX9_toldOf_50 : decode cX9_toldOf 50 = .ok (.ireturn, 1) := by decide +kernel
theorem dX9_toldOf_51 : decode cX9_toldOf 51 = .ok (.aload_n 0, 1) := by decide +kernel
theorem dX9_toldOf_52 : decode cX9_toldOf 52 = .ok (.getfield 111, 3) := by decide +kernel
theorem dX9_toldOf_55 : decode cX9_toldOf 55 = .ok (.iload_n 1, 1) := by decide +kernel
theorem dX9_toldOf_56 : decode cX9_toldOf 56 = .ok (.iaload, 1) := by decide +kernel
theorem dX9_toldOf_57 : decode cX9_toldOf 57 = .ok (.ireturn, 1) := by decide +kernel
theorem dX9_toldOf_58 : decode cX9_toldOf 58 = .ok (.aload_n 0, 1) := by decide +kernel
theorem dX9_toldOf_59 : decode cX9_toldOf 59 = .ok (.getfield 114, 3) := by decide +kernel
theorem dX9_toldOf_62 : decode cX9_toldOf 62 = .ok (.iload_n 1, 1) := by decide +kernel
theorem dX9_toldOf_63 : decode cX9_toldOf 63 = .ok (.iaload, 1) := by decide +kernel
theorem dX9_toldOf_64 : decode cX9_toldOf 64 = .ok (.ireturn, 1) := by decide +kernel
theorem dX9_toldOf_65 : decode cX9_toldOf 65 = .ok (.aload_n 0, 1) := by decide +kernel
theorem dX9_toldOf_66 : decode cX9_toldOf 66 = .ok (.getfield 117, 3) := by decide +kernel
theorem dX9_toldOf_69 : decode cX9_toldOf 69 = .ok (.iload_n 1, 1) := by decide +kernel
theorem dX9_toldOf_70 : decode cX9_toldOf 70 = .ok (.iaload, 1) := by decide +kernel
theorem dX9_toldOf_71 : decode cX9_toldOf 71 = .ok (.ireturn, 1) := by decide +kernel
theorem dX9_toldOf_72 : decode cX9_toldOf 72 = .ok (.aload_n 0, 1) := by decide +kernel
theorem dX9_toldOf_73 : decode cX9_toldOf 73 = .ok (.getfield 99, 3) := by decide +kernel
theorem dX9_toldOf_76 : decode cX9_toldOf 76 = .ok (.iload_n 1, 1) := by decide +kernel
theorem dX9_toldOf_77 : decode cX9_toldOf 77 = .ok (.iaload, 1) := by decide +kernel
theorem dX9_toldOf_78 : decode cX9_toldOf 78 = .ok (.sipush 400, 3) := by decide +kernel
theorem dX9_toldOf_81 : decode cX9_toldOf 81 = .ok (.if_icmp .ge 12, 3) := by decide +kernel
theorem dX9_toldOf_84 : decode cX9_toldOf 84 = .ok (.aload_n 0, 1) := by decide +kernel
theorem dX9_toldOf_85 : decode cX9_toldOf 85 = .ok (.getfield 99, 3) := by decide +kernel
theorem dX9_toldOf_88 : decode cX9_toldOf 88 = .ok (.iload_n 1, 1) := by decide +kernel
theorem dX9_toldOf_89 : decode cX9_toldOf 89 = .ok (.iaload, 1) := by decide +kernel
theorem dX9_toldOf_90 : decode cX9_toldOf 90 = .ok (.goto 4, 3) := by decide +kernel
theorem dX9_toldOf_93 : decode cX9_toldOf 93 = .ok (.iconst (-1), 1) := by decide +kernel
theorem dX9_toldOf_94 : decode cX9_toldOf 94 = .ok (.ireturn, 1) := by decide +kernel
theorem dX9_toldOf_95 : decode cX9_toldOf 95 = .ok (.aload_n 0, 1) := by decide +kernel
theorem dX9_toldOf_96 : decode cX9_toldOf 96 = .ok (.getfield 123, 3) := by decide +kernel
theorem dX9_toldOf_99 : decode cX9_toldOf 99 = .ok (.iload_n 1, 1) := by decide +kernel
theorem dX9_toldOf_100 : decode cX9_toldOf 100 = .ok (.iaload, 1) := by decide +kernel
theorem dX9_toldOf_101 : decode cX9_toldOf 101 = .ok (.ireturn, 1) := by decide +kernel
theorem dX9_toldOf_102 : decode cX9_toldOf 102 = .ok (.aload_n 0, 1) := by decide +kernel
theorem dX9_toldOf_103 : decode cX9_toldOf 103 = .ok (.getfield 141, 3) := by decide +kernel
theorem dX9_toldOf_106 : decode cX9_toldOf 106 = .ok (.iload_n 1, 1) := by decide +kernel
theorem dX9_toldOf_107 : decode cX9_toldOf 107 = .ok (.iaload, 1) := by decide +kernel
theorem dX9_toldOf_108 : decode cX9_toldOf 108 = .ok (.iconst 1, 1) := by decide +kernel
theorem dX9_toldOf_109 : decode cX9_toldOf 109 = .ok (.iadd, 1) := by decide +kernel
theorem dX9_toldOf_110 : decode cX9_toldOf 110 = .ok (.ireturn, 1) := by decide +kernel
theorem dX9_toldOf_111 : decode cX9_toldOf 111 = .ok (.aload_n 0, 1) := by decide +kernel
theorem dX9_toldOf_112 : decode cX9_toldOf 112 = .ok (.getfield 99, 3) := by decide +kernel
theorem dX9_toldOf_115 : decode cX9_toldOf 115 = .ok (.iload_n 1, 1) := by decide +kernel
