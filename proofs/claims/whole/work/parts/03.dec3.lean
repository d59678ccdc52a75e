theorem dX9_init_449 : decode cX9_init 449 = .ok (.bipush 40, 2) := by decide +kernel
theorem dX9_init_451 : decode cX9_init 451 = .ok (.newarray .boolean, 2) := by decide +kernel
theorem dX9_init_453 : decode cX9_init 453 = .ok (.putfield 174, 3) := by decide +kernel
theorem dX9_init_456 : decode cX9_init 456 = .ok (.aload_n 0, 1) := by decide +kernel
theorem dX9_init_457 : decode cX9_init 457 = .ok (.bipush 100, 2) := by decide +kernel
theorem dX9_init_459 : decode cX9_init 459 = .ok (.newarray .int, 2) := by decide +kernel
theorem dX9_init_461 : decode cX9_init 461 = .ok (.putfield 177, 3) := by decide +kernel
theorem dX9_init_464 : decode cX9_init 464 = .ok (.aload_n 0, 1) := by decide +kernel
theorem dX9_init_465 : decode cX9_init 465 = .ok (.bipush 100, 2) := by decide +kernel
theorem dX9_init_467 : decode cX9_init 467 = .ok (.newarray .int, 2) := by decide +kernel
theorem dX9_init_469 : decode cX9_init 469 = .ok (.putfield 180, 3) := by decide +kernel
theorem dX9_init_472 : decode cX9_init 472 = .ok (.aload_n 0, 1) := by decide +kernel
theorem dX9_init_473 : decode cX9_init 473 = .ok (.bipush 100, 2) := by decide +kernel
theorem dX9_init_475 : decode cX9_init 475 = .ok (.newarray .boolean, 2) := by decide +kernel
theorem dX9_init_477 : decode cX9_init 477 = .ok (.putfield 183, 3) := by decide +kernel
theorem dX9_init_480 : decode cX9_init 480 = .ok (.iconst 0, 1) := by decide +kernel
theorem dX9_init_481 : decode cX9_init 481 = .ok (.istore_n 1, 1) := by decide +kernel
theorem dX9_init_482 : decode cX9_init 482 = .ok (.iload_n 1, 1) := by decide +kernel
theorem dX9_init_483 : decode cX9_init 483 = .ok (.sipush 147, 3) := by decide +kernel
theorem dX9_init_486 : decode cX9_init 486 = .ok (.if_icmp .ge 16, 3) := by decide +kernel
theorem dX9_init_489 : decode cX9_init 489 = .ok (.aload_n 0, 1) := by decide +kernel
theorem dX9_init_490 : decode cX9_init 490 = .ok (.getfield 50, 3) := by decide +kernel
theorem dX9_init_493 : decode cX9_init 493 = .ok (.iload_n 1, 1) := by decide +kernel
theorem dX9_init_494 : decode cX9_init 494 = .ok (.iconst (-1), 1) := by decide +kernel
theorem dX9_init_495 : decode cX9_init 495 = .ok (.iastore, 1) := by decide +kernel
theorem dX9_init_496 : decode cX9_init 496 = .ok (.iinc 1 1, 3) := by decide +kernel
theorem dX9_init_499 : decode cX9_init 499 = .ok (.goto (-17), 3) := by decide +kernel
theorem dX9_init_502 : decode cX9_init 502 = .ok (.iconst 0, 1) := by decide +kernel
theorem dX9_init_503 : decode cX9_init 503 = .ok (.istore_n 1, 1) := by decide +kernel
theorem dX9_init_504 : decode cX9_init 504 = .ok (.iload_n 1, 1) := by decide +kernel
theorem dX9_init_505 : decode cX9_init 505 = .ok (.bipush 6, 2) := by decide +kernel
theorem dX9_init_507 : decode cX9_init 507 = .ok (.if_icmp .ge 16, 3) := by decide +kernel
theorem dX9_init_510 : decode cX9_init 510 = .ok (.aload_n 0, 1) := by decide +kernel
theorem dX9_init_511 : decode cX9_init 511 = .ok (.getfield 7, 3) := by decide +kernel
theorem dX9_init_514 : decode cX9_init 514 = .ok (.iload_n 1, 1) := by decide +kernel
theorem dX9_init_515 : decode cX9_init 515 = .ok (.iconst 1, 1) := by decide +kernel
theorem dX9_init_516 : decode cX9_init 516 = .ok (.iastore, 1) := by decide +kernel
theorem dX9_init_517 : decode cX9_init 517 = .ok (.iinc 1 1, 3) := by decide +kernel
theorem dX9_init_520 : decode cX9_init 520 = .ok (.goto (-16), 3) := by decide +kernel
theorem dX9_init_523 : decode cX9_init 523 = .ok (.iconst 0, 1) := by decide +kernel
theorem dX9_init_524 : decode cX9_init 524 = .ok (.istore_n 1, 1) := by decide +kernel
theorem dX9_init_525 : decode cX9_init 525 = .ok (.iload_n 1, 1) := by decide +kernel
theorem dX9_init_526 : decode cX9_init 526 = .ok (.bipush 7, 2) := by decide +kernel
theorem dX9_init_528 : decode cX9_init 528 = .ok (.if_icmp .ge 26, 3) := by decide +kernel
theorem dX9_init_531 : decode cX9_init 531 = .ok (.aload_n 0, 1) := by decide +kernel
theorem dX9_init_532 : decode cX9_init 532 = .ok (.getfield 53, 3) := by decide +kernel
theorem dX9_init_535 : decode cX9_init 535 = .ok (.iload_n 1, 1) := by decide +kernel
theorem dX9_init_536 : decode cX9_init 536 = .ok (.bipush 10, 2) := by decide +kernel
theorem dX9_init_538 : decode cX9_init 538 = .ok (.iastore, 1) := by decide +kernel
theorem dX9_init_539 : decode cX9_init 539 = .ok (.aload_n 0, 1) := by decide +kernel
theorem dX9_init_540 : decode cX9_init 540 = .ok (.getfield 56, 3) := by decide +kernel
theorem dX9_init_543 : decode cX9_init 543 = .ok (.iload_n 1, 1) := by decide +kernel
theorem dX9_init_544 : decode cX9_init 544 = .ok (.sipush 1000, 3) := by decide +kernel
theorem dX9_init_547 : decode cX9_init 547 = .ok (.iastore, 1) := by decide +kernel
theorem dX9_init_548 : decode cX9_init 548 = .ok (.iinc 1 1, 3) := by decide +kernel
theorem dX9_init_551 : decode cX9_init 551 = .ok (.goto (-26), 3) := by decide +kernel
theorem dX9_init_554 : decode cX9_init 554 = .ok (.return_, 1) := by decide +kernel
theorem dX9_thrown_0 : decode cX9_thrown 0 = .ok (.aload_n 0, 1) := by decide +kernel
theorem dX9_thrown_1 : decode cX9_thrown 1 = .ok (.getfield 186, 3) := by decide +kernel
theorem dX9_thrown_4 : decode cX9_thrown 4 = .ok (.ireturn, 1) := by decide +kernel
theorem dX9_in_0 : decode cX9_in 0 = .ok (.iload_n 0, 1) := by decide +kernel
theorem dX9_in_1 : decode cX9_in 1 = .ok (.iload_n 1, 1) := by decide +kernel
theorem dX9_in_2 : decode cX9_in 2 = .ok (.if_icmp .lt 12, 3) := by decide +kernel
theorem dX9_in_5 : decode cX9_in 5 = .ok (.iload_n 0, 1) := by decide +kernel
theorem dX9_in_6 : decode cX9_in 6 = .ok (.iload_n 2, 1) := by decide +kernel
theorem dX9_in_7 : decode cX9_in 7 = .ok (.if_icmp .gt 7, 3) := by decide +kernel
theorem dX9_in_10 : decode cX9_in 10 = .ok (.iconst 1, 1) := by decide +kernel
theorem dX9_in_11 : decode cX9_in 11 = .ok (.goto 4, 3) := by decide +kernel
theorem dX9_in_14 : decode cX9_in 14 = .ok (.iconst 0, 1) := by decide +kernel
theorem dX9_in_15 : decode cX9_in 15 = .ok (.ireturn, 1) := by decide +kernel
theorem dX9_goes_0 : decode cX9_goes 0 = .ok (.aload_n 0, 1) := by decide +kernel
theorem dX9_goes_1 : decode cX9_goes 1 = .ok (.iload_n 1, 1) := by decide +kernel
theorem dX9_goes_2 : decode cX9_goes 2 = .ok (.ifCond .ne 7, 3) := by decide +kernel
theorem dX9_goes_5 : decode cX9_goes 5 = .ok (.iconst 1, 1) := by decide +kernel
theorem dX9_goes_6 : decode cX9_goes 6 = .ok (.goto 20, 3) := by decide +kernel
theorem dX9_goes_9 : decode cX9_goes 9 = .ok (.iload_n 2, 1) := by decide +kernel
theorem dX9_goes_10 : decode cX9_goes 10 = .ok (.ifCond .ne 7, 3) := by decide +kernel
theorem dX9_goes_13 : decode cX9_goes 13 = .ok (.iconst 2, 1) := by decide +kernel
theorem dX9_goes_14 : decode cX9_goes 14 = .ok (.goto 12, 3) := by decide +kernel
theorem dX9_goes_17 : decode cX9_goes 17 = .ok (.iload_n 3, 1) := by decide +kernel
theorem dX9_goes_18 : decode cX9_goes 18 = .ok (.ifCond .ne 7, 3) := by decide +kernel
theorem dX9_goes_21 : decode cX9_goes 21 = .ok (.iconst 3, 1) := by decide +kernel
theorem dX9_goes_22 : decode cX9_goes 22 = .ok (.goto 4, 3) := by decide +kernel
theorem dX9_goes_25 : decode cX9_goes 25 = .ok (.iconst 0, 1) := by decide +kernel
theorem dX9_goes_26 : decode cX9_goes 26 = .ok (.putfield 186, 3) := by decide +kernel
theorem dX9_goes_29 : decode cX9_goes 29 = .ok (.aload_n 0, 1) := by decide +kernel
theorem dX9_goes_30 : decode cX9_goes 30 = .ok (.getfield 186, 3) := by decide +kernel
theorem dX9_goes_33 : decode cX9_goes 33 = .ok (.ifCond .ne 7, 3) := by decide +kernel
theorem dX9_goes_36 : decode cX9_goes 36 = .ok (.iconst 1, 1) := by decide +kernel
theorem dX9_goes_37 : decode cX9_goes 37 = .ok (.goto 4, 3) := by decide +kernel
theorem dX9_goes_40 : decode cX9_goes 40 = .ok (.iconst 0, 1) := by decide +kernel
theorem dX9_goes_41 : decode cX9_goes 41 = .ok (.ireturn, 1) := by decide +kernel
theorem dX9_isService_0 : decode cX9_isService 0 = .ok (.iload_n 0, 1) := by decide +kernel
theorem dX9_isService_1 : decode cX9_isService 1 = .ok (.iconst 0, 1) := by decide +kernel
theorem dX9_isService_2 : decode cX9_isService 2 = .ok (.iconst 5, 1) := by decide +kernel
theorem dX9_isService_3 : decode cX9_isService 3 = .ok (.invokestatic 189, 3) := by decide +kernel
theorem dX9_isService_6 : decode cX9_isService 6 = .ok (.ireturn, 1) := by decide +kernel
theorem dX9_isCaller_0 : decode cX9_isCaller 0 = .ok (.iload_n 0, 1) := by decide +kernel
theorem dX9_isCaller_1 : decode cX9_isCaller 1 = .ok (.iconst 0, 1) := by decide +kernel
theorem dX9_isCaller_2 : decode cX9_isCaller 2 = .ok (.bipush 6, 2) := by decide +kernel
theorem dX9_isCaller_4 : decode cX9_isCaller 4 = .ok (.invokestatic 189, 3) := by decide +kernel
theorem dX9_isCaller_7 : decode cX9_isCaller 7 = .ok (.ireturn, 1) := by decide +kernel
theorem dX9_isInstance_0 : decode cX9_isInstance 0 = .ok (.iload_n 1, 1) := by decide +kernel
theorem dX9_isInstance_1 : decode cX9_isInstance 1 = .ok (.iconst 0, 1) := by decide +kernel
theorem dX9_isInstance_2 : decode cX9_isInstance 2 = .ok (.aload_n 0, 1) := by decide +kernel
theorem dX9_isInstance_3 : decode cX9_isInstance 3 = .ok (.getfield 193, 3) := by decide +kernel
theorem dX9_isInstance_6 : decode cX9_isInstance 6 = .ok (.iconst 1, 1) := by decide +kernel
theorem dX9_isInstance_7 : decode cX9_isInstance 7 = .ok (.isub, 1) := by decide +kernel
theorem dX9_isInstance_8 : decode cX9_isInstance 8 = .ok (.invokestatic 189, 3) := by decide +kernel
theorem dX9_isInstance_11 : decode cX9_isInstance 11 = .ok (.ireturn, 1) := by decide +kernel
theorem dX9_isRequest_0 : decode cX9_isRequest 0 = .ok (.iload_n 1, 1) := by decide +kernel
theorem dX9_isRequest_1 : decode cX9_isRequest 1 = .ok (.iconst 0, 1) := by decide +kernel
theorem dX9_isRequest_2 : decode cX9_isRequest 2 = .ok (.aload_n 0, 1) := by decide +kernel
theorem dX9_isRequest_3 : decode cX9_isRequest 3 = .ok (.getfield 196, 3) := by decide +kernel
theorem dX9_isRequest_6 : decode cX9_isRequest 6 = .ok (.iconst 1, 1) := by decide +kernel
theorem dX9_isRequest_7 : decode cX9_isRequest 7 = .ok (.isub, 1) := by decide +kernel
theorem dX9_isRequest_8 : decode cX9_isRequest 8 = .ok (.invokestatic 189, 3) := by decide +kernel
theorem dX9_isRequest_11 : decode cX9_isRequest 11 = .ok (.ireturn, 1) := by decide +kernel
theorem dX9_work_0 : decode cX9_work 0 = .ok (.aload_n 0, 1) := by decide +kernel
theorem dX9_work_1 : decode cX9_work 1 = .ok (.iload_n 1, 1) := by decide +kernel
theorem dX9_work_2 : decode cX9_work 2 = .ok (.invokestatic 199, 3) := by decide +kernel
theorem dX9_work_5 : decode cX9_work 5 = .ok (.iload_n 2, 1) := by decide +kernel
theorem dX9_work_6 : decode cX9_work 6 = .ok (.iconst 0, 1) := by decide +kernel
theorem dX9_work_7 : decode cX9_work 7 = .ok (.bipush 50, 2) := by decide +kernel
theorem dX9_work_9 : decode cX9_work 9 = .ok (.invokestatic 189, 3) := by decide +kernel
theorem dX9_work_12 : decode cX9_work 12 = .ok (.iconst 1, 1) := by decide +kernel
theorem dX9_work_13 : decode cX9_work 13 = .ok (.invokevirtual 203, 3) := by decide +kernel
theorem dX9_work_16 : decode cX9_work 16 = .ok (.ifCond .ne 5, 3) := by decide +kernel
theorem dX9_work_19 : decode cX9_work 19 = .ok (.iconst 0, 1) := by decide +kernel
theorem dX9_work_20 : decode cX9_work 20 = .ok (.ireturn, 1) := by decide +kernel
theorem dX9_work_21 : decode cX9_work 21 = .ok (.aload_n 0, 1) := by decide +kernel
theorem dX9_work_22 : decode cX9_work 22 = .ok (.getfield 7, 3) := by decide +kernel
theorem dX9_work_25 : decode cX9_work 25 = .ok (.iload_n 1, 1) := by decide +kernel
theorem dX9_work_26 : decode cX9_work 26 = .ok (.iaload, 1) := by decide +kernel
theorem dX9_work_27 : decode cX9_work 27 = .ok (.istore_n 3, 1) := by decide +kernel
theorem dX9_work_28 : decode cX9_work 28 = .ok (.aload_n 0, 1) := by decide +kernel
theorem dX9_work_29 : decode cX9_work 29 = .ok (.getfield 7, 3) := by decide +kernel
theorem dX9_work_32 : decode cX9_work 32 = .ok (.iload_n 1, 1) := by decide +kernel
theorem dX9_work_33 : decode cX9_work 33 = .ok (.iload_n 2, 1) := by decide +kernel
theorem dX9_work_34 : decode cX9_work 34 = .ok (.iastore, 1) := by decide +kernel
theorem dX9_work_35 : decode cX9_work 35 = .ok (.iload_n 3, 1) := by decide +kernel
theorem dX9_work_36 : decode cX9_work 36 = .ok (.ireturn, 1) := by decide +kernel
theorem dX9_step_0 : decode cX9_step 0 = .ok (.iload_n 1, 1) := by decide +kernel
theorem dX9_step_1 : decode cX9_step 1 = .ok (.invokestatic 199, 3) := by decide +kernel
theorem dX9_step_4 : decode cX9_step 4 = .ok (.ifCond .eq 28, 3) := by decide +kernel
theorem dX9_step_7 : decode cX9_step 7 = .ok (.iload_n 2, 1) := by decide +kernel
theorem dX9_step_8 : decode cX9_step 8 = .ok (.invokestatic 199, 3) := by decide +kernel
theorem dX9_step_11 : decode cX9_step 11 = .ok (.ifCond .eq 21, 3) := by decide +kernel
theorem dX9_step_14 : decode cX9_step 14 = .ok (.iload 4, 2) := by decide +kernel
theorem dX9_step_16 : decode cX9_step 16 = .ok (.iconst (-1), 1) := by decide +kernel
theorem dX9_step_17 : decode cX9_step 17 = .ok (.if_icmp .eq 11, 3) := by decide +kernel
theorem dX9_step_20 : decode cX9_step 20 = .ok (.iload 4, 2) := by decide +kernel
theorem dX9_step_22 : decode cX9_step 22 = .ok (.invokestatic 199, 3) := by decide +kernel
theorem dX9_step_25 : decode cX9_step 25 = .ok (.ifCond .eq 7, 3) := by decide +kernel
theorem dX9_step_28 : decode cX9_step 28 = .ok (.iconst 1, 1) := by decide +kernel
theorem dX9_step_29 : decode cX9_step 29 = .ok (.goto 4, 3) := by decide +kernel
theorem dX9_step_32 : decode cX9_step 32 = .ok (.iconst 0, 1) := by decide +kernel
theorem dX9_step_33 : decode cX9_step 33 = .ok (.istore 5, 2) := by decide +kernel
theorem dX9_step_35 : decode cX9_step 35 = .ok (.aload_n 0, 1) := by decide +kernel
theorem dX9_step_36 : decode cX9_step 36 = .ok (.iload 5, 2) := by decide +kernel
theorem dX9_step_38 : decode cX9_step 38 = .ok (.iload_n 2, 1) := by decide +kernel
theorem dX9_step_39 : decode cX9_step 39 = .ok (.iload_n 1, 1) := by decide +kernel
theorem dX9_step_40 : decode cX9_step 40 = .ok (.if_icmp .le 19, 3) := by decide +kernel
theorem dX9_step_43 : decode cX9_step 43 = .ok (.iload 4, 2) := by decide +kernel
theorem dX9_step_45 : decode cX9_step 45 = .ok (.iconst (-1), 1) := by decide +kernel
theorem dX9_step_46 : decode cX9_step 46 = .ok (.if_icmp .eq 9, 3) := by decide +kernel
theorem dX9_step_49 : decode cX9_step 49 = .ok (.iload 4, 2) := by decide +kernel
theorem dX9_step_51 : decode cX9_step 51 = .ok (.iload_n 1, 1) := by decide +kernel
theorem dX9_step_52 : decode cX9_step 52 = .ok (.if_icmp .le 7, 3) := by decide +kernel
theorem dX9_step_55 : decode cX9_step 55 = .ok (.iconst 1, 1) := by decide +kernel
theorem dX9_step_56 : decode cX9_step 56 = .ok (.goto 4, 3) := by decide +kernel
theorem dX9_step_59 : decode cX9_step 59 = .ok (.iconst 0, 1) := by decide +kernel
theorem dX9_step_60 : decode cX9_step 60 = .ok (.iload 5, 2) := by decide +kernel
theorem dX9_step_62 : decode cX9_step 62 = .ok (.ifCond .eq 24, 3) := by decide +kernel
theorem dX9_step_65 : decode cX9_step 65 = .ok (.aload_n 0, 1) := by decide +kernel
theorem dX9_step_66 : decode cX9_step 66 = .ok (.getfield 13, 3) := by decide +kernel
theorem dX9_step_69 : decode cX9_step 69 = .ok (.iload_n 1, 1) := by decide +kernel
theorem dX9_step_70 : decode cX9_step 70 = .ok (.iaload, 1) := by decide +kernel
theorem dX9_step_71 : decode cX9_step 71 = .ok (.iconst 4, 1) := by decide +kernel
theorem dX9_step_72 : decode cX9_step 72 = .ok (.if_icmp .ge 14, 3) := by decide +kernel
theorem dX9_step_75 : decode cX9_step 75 = .ok (.aload_n 0, 1) := by decide +kernel
theorem dX9_step_76 : decode cX9_step 76 = .ok (.getfield 196, 3) := by decide +kernel
theorem dX9_step_79 : decode cX9_step 79 = .ok (.ifCond .ne 7, 3) := by decide +kernel
theorem dX9_step_82 : decode cX9_step 82 = .ok (.iconst 1, 1) := by decide +kernel
theorem dX9_step_83 : decode cX9_step 83 = .ok (.goto 4, 3) := by decide +kernel
theorem dX9_step_86 : decode cX9_step 86 = .ok (.iconst 0, 1) := by decide +kernel
theorem dX9_step_87 : decode cX9_step 87 = .ok (.invokevirtual 203, 3) := by decide +kernel
theorem dX9_step_90 : decode cX9_step 90 = .ok (.ifCond .ne 5, 3) := by decide +kernel
theorem dX9_step_93 : decode cX9_step 93 = .ok (.iconst 0, 1) := by decide +kernel
theorem dX9_step_94 : decode cX9_step 94 = .ok (.ireturn, 1) := by decide +kernel
theorem dX9_step_95 : decode cX9_step 95 = .ok (.iconst 4, 1) := by decide +kernel
theorem dX9_step_96 : decode cX9_step 96 = .ok (.iload_n 1, 1) := by decide +kernel
theorem dX9_step_97 : decode cX9_step 97 = .ok (.imul, 1) := by decide +kernel
theorem dX9_step_98 : decode cX9_step 98 = .ok (.aload_n 0, 1) := by decide +kernel
theorem dX9_step_99 : decode cX9_step 99 = .ok (.getfield 13, 3) := by decide +kernel
theorem dX9_step_102 : decode cX9_step 102 = .ok (.iload_n 1, 1) := by decide +kernel
theorem dX9_step_103 : decode cX9_step 103 = .ok (.iaload, 1) := by decide +kernel
theorem dX9_step_104 : decode cX9_step 104 = .ok (.iadd, 1) := by decide +kernel
theorem dX9_step_105 : decode cX9_step 105 = .ok (.istore 6, 2) := by decide +kernel
theorem dX9_step_107 : decode cX9_step 107 = .ok (.aload_n 0, 1) := by decide +kernel
theorem dX9_step_108 : decode cX9_step 108 = .ok (.getfield 16, 3) := by decide +kernel
theorem dX9_step_111 : decode cX9_step 111 = .ok (.iload 6, 2) := by decide +kernel
theorem dX9_step_113 : decode cX9_step 113 = .ok (.iload_n 2, 1) := by decide +kernel
theorem dX9_step_114 : decode cX9_step 114 = .ok (.iastore, 1) := by decide +kernel
theorem dX9_step_115 : decode cX9_step 115 = .ok (.aload_n 0, 1) := by decide +kernel
theorem dX9_step_116 : decode cX9_step 116 = .ok (.getfield 19, 3) := by decide +kernel
theorem dX9_step_119 : decode cX9_step 119 = .ok (.iload 6, 2) := by decide +kernel
theorem dX9_step_121 : decode cX9_step 121 = .ok (.iload_n 3, 1) := by decide +kernel
theorem dX9_step_122 : decode cX9_step 122 = .ok (.bastore, 1) := by decide +kernel
theorem dX9_step_123 : decode cX9_step 123 = .ok (.aload_n 0, 1) := by decide +kernel
theorem dX9_step_124 : decode cX9_step 124 = .ok (.getfield 23, 3) := by decide +kernel
theorem dX9_step_127 : decode cX9_step 127 = .ok (.iload 6, 2) := by decide +kernel
theorem dX9_step_129 : decode cX9_step 129 = .ok (.iload 4, 2) := by decide +kernel
theorem dX9_step_131 : decode cX9_step 131 = .ok (.iastore, 1) := by decide +kernel
theorem dX9_step_132 : decode cX9_step 132 = .ok (.aload_n 0, 1) := by decide +kernel
theorem dX9_step_133 : decode cX9_step 133 = .ok (.getfield 13, 3) := by decide +kernel
theorem dX9_step_136 : decode cX9_step 136 = .ok (.iload_n 1, 1) := by decide +kernel
theorem dX9_step_137 : decode cX9_step 137 = .ok (.dup2, 1) := by decide +kernel
theorem dX9_step_138 : decode cX9_step 138 = .ok (.iaload, 1) := by decide +kernel
theorem dX9_step_139 : decode cX9_step 139 = .ok (.iconst 1, 1) := by decide +kernel
theorem dX9_step_140 : decode cX9_step 140 = .ok (.iadd, 1) := by decide +kernel
theorem dX9_step_141 : decode cX9_step 141 = .ok (.iastore, 1) := by decide +kernel
theorem dX9_step_142 : decode cX9_step 142 = .ok (.aload_n 0, 1) := by decide +kernel
theorem dX9_step_143 : decode cX9_step 143 = .ok (.getfield 13, 3) := by decide +kernel
theorem dX9_step_146 : decode cX9_step 146 = .ok (.iload_n 1, 1) := by decide +kernel
theorem dX9_step_147 : decode cX9_step 147 = .ok (.iaload, 1) := by decide +kernel
theorem dX9_step_148 : decode cX9_step 148 = .ok (.ireturn, 1) := by decide +kernel
theorem dX9_instance_0 : decode cX9_instance 0 = .ok (.iload_n 2, 1) := by decide +kernel
theorem dX9_instance_1 : decode cX9_instance 1 = .ok (.iconst 0, 1) := by decide +kernel
theorem dX9_instance_2 : decode cX9_instance 2 = .ok (.iconst 2, 1) := by decide +kernel
theorem dX9_instance_3 : decode cX9_instance 3 = .ok (.invokestatic 189, 3) := by decide +kernel
theorem dX9_instance_6 : decode cX9_instance 6 = .ok (.ifCond .eq 49, 3) := by decide +kernel
theorem dX9_instance_9 : decode cX9_instance 9 = .ok (.iload_n 3, 1) := by decide +kernel
theorem dX9_instance_10 : decode cX9_instance 10 = .ok (.iconst 1, 1) := by decide +kernel
theorem dX9_instance_11 : decode cX9_instance 11 = .ok (.bipush 9, 2) := by decide +kernel
theorem dX9_instance_13 : decode cX9_instance 13 = .ok (.invokestatic 189, 3) := by decide +kernel
theorem dX9_instance_16 : decode cX9_instance 16 = .ok (.ifCond .eq 39, 3) := by decide +kernel
theorem dX9_instance_19 : decode cX9_instance 19 = .ok (.iload 4, 2) := by decide +kernel
theorem dX9_instance_21 : decode cX9_instance 21 = .ok (.iconst 1, 1) := by decide +kernel
theorem dX9_instance_22 : decode cX9_instance 22 = .ok (.bipush 9, 2) := by decide +kernel
theorem dX9_instance_24 : decode cX9_instance 24 = .ok (.invokestatic 189, 3) := by decide +kernel
theorem dX9_instance_27 : decode cX9_instance 27 = .ok (.ifCond .eq 28, 3) := by decide +kernel
theorem dX9_instance_30 : decode cX9_instance 30 = .ok (.iload 5, 2) := by decide +kernel
theorem dX9_instance_32 : decode cX9_instance 32 = .ok (.iconst 0, 1) := by decide +kernel
theorem dX9_instance_33 : decode cX9_instance 33 = .ok (.bipush 9, 2) := by decide +kernel
theorem dX9_instance_35 : decode cX9_instance 35 = .ok (.invokestatic 189, 3) := by decide +kernel
theorem dX9_instance_38 : decode cX9_instance 38 = .ok (.ifCond .eq 17, 3) := by decide +kernel
theorem dX9_instance_41 : decode cX9_instance 41 = .ok (.iload 6, 2) := by decide +kernel
theorem dX9_instance_43 : decode cX9_instance 43 = .ok (.iconst 0, 1) := by decide +kernel
theorem dX9_instance_44 : decode cX9_instance 44 = .ok (.iconst 1, 1) := by decide +kernel
theorem dX9_instance_45 : decode cX9_instance 45 = .ok (.invokestatic 189, 3) := by decide +kernel
theorem dX9_instance_48 : decode cX9_instance 48 = .ok (.ifCond .eq 7, 3) := by decide +kernel
theorem dX9_instance_51 : decode cX9_instance 51 = .ok (.iconst 1, 1) := by decide +kernel
theorem dX9_instance_52 : decode cX9_instance 52 = .ok (.goto 4, 3) := by decide +kernel
theorem dX9_instance_55 : decode cX9_instance 55 = .ok (.iconst 0, 1) := by decide +kernel
theorem dX9_instance_56 : decode cX9_instance 56 = .ok (.istore 7, 2) := by decide +kernel
theorem dX9_instance_58 : decode cX9_instance 58 = .ok (.aload_n 0, 1) := by decide +kernel
theorem dX9_instance_59 : decode cX9_instance 59 = .ok (.iload_n 1, 1) := by decide +kernel
theorem dX9_instance_60 : decode cX9_instance 60 = .ok (.invokestatic 199, 3) := by decide +kernel
theorem dX9_instance_63 : decode cX9_instance 63 = .ok (.iload 7, 2) := by decide +kernel
theorem dX9_instance_65 : decode cX9_instance 65 = .ok (.aload_n 0, 1) := by decide +kernel
theorem dX9_instance_66 : decode cX9_instance 66 = .ok (.getfield 193, 3) := by decide +kernel
theorem dX9_instance_69 : decode cX9_instance 69 = .ok (.bipush 12, 2) := by decide +kernel
theorem dX9_instance_71 : decode cX9_instance 71 = .ok (.if_icmp .ge 7, 3) := by decide +kernel
theorem dX9_instance_74 : decode cX9_instance 74 = .ok (.iconst 1, 1) := by decide +kernel
theorem dX9_instance_75 : decode cX9_instance 75 = .ok (.goto 4, 3) := by decide +kernel
theorem dX9_instance_78 : decode cX9_instance 78 = .ok (.iconst 0, 1) := by decide +kernel
theorem dX9_instance_79 : decode cX9_instance 79 = .ok (.invokevirtual 203, 3) := by decide +kernel
theorem dX9_instance_82 : decode cX9_instance 82 = .ok (.ifCond .ne 5, 3) := by decide +kernel
theorem dX9_instance_85 : decode cX9_instance 85 = .ok (.iconst 0, 1) := by decide +kernel
theorem dX9_instance_86 : decode cX9_instance 86 = .ok (.ireturn, 1) := by decide +kernel
theorem dX9_instance_87 : decode cX9_instance 87 = .ok (.aload_n 0, 1) := by decide +kernel
theorem dX9_instance_88 : decode cX9_instance 88 = .ok (.getfield 26, 3) := by decide +kernel
theorem dX9_instance_91 : decode cX9_instance 91 = .ok (.aload_n 0, 1) := by decide +kernel
theorem dX9_instance_92 : decode cX9_instance 92 = .ok (.getfield 193, 3) := by decide +kernel
theorem dX9_instance_95 : decode cX9_instance 95 = .ok (.iload_n 1, 1) := by decide +kernel
theorem dX9_instance_96 : decode cX9_instance 96 = .ok (.iastore, 1) := by decide +kernel
theorem dX9_instance_97 : decode cX9_instance 97 = .ok (.aload_n 0, 1) := by decide +kernel
theorem dX9_instance_98 : decode cX9_instance 98 = .ok (.getfield 29, 3) := by decide +kernel
theorem dX9_instance_101 : decode cX9_instance 101 = .ok (.aload_n 0, 1) := by decide +kernel
theorem dX9_instance_102 : decode cX9_instance 102 = .ok (.getfield 193, 3) := by decide +kernel
theorem dX9_instance_105 : decode cX9_instance 105 = .ok (.iload_n 2, 1) := by decide +kernel
theorem dX9_instance_106 : decode cX9_instance 106 = .ok (.iastore, 1) := by decide +kernel
theorem dX9_instance_107 : decode cX9_instance 107 = .ok (.aload_n 0, 1) := by decide +kernel
theorem dX9_instance_108 : decode cX9_instance 108 = .ok (.getfield 32, 3) := by decide +kernel
theorem dX9_instance_111 : decode cX9_instance 111 = .ok (.aload_n 0, 1) := by decide +kernel
theorem dX9_instance_112 : decode cX9_instance 112 = .ok (.getfield 193, 3) := by decide +kernel
theorem dX9_instance_115 : decode cX9_instance 115 = .ok (.iload_n 3, 1) := by decide +kernel
theorem dX9_instance_116 : decode cX9_instance 116 = .ok (.iastore, 1) := by decide +kernel
theorem dX9_instance_117 : decode cX9_instance 117 = .ok (.aload_n 0, 1) := by decide +kernel
theorem dX9_instance_118 : decode cX9_instance 118 = .ok (.getfield 35, 3) := by decide +kernel
theorem dX9_instance_121 : decode cX9_instance 121 = .ok (.aload_n 0, 1) := by decide +kernel
theorem dX9_instance_122 : decode cX9_instance 122 = .ok (.getfield 193, 3) := by decide +kernel
theorem dX9_instance_125 : decode cX9_instance 125 = .ok (.iload 4, 2) := by decide +kernel
theorem dX9_instance_127 : decode cX9_instance 127 = .ok (.iastore, 1) := by decide +kernel
theorem dX9_instance_128 : decode cX9_instance 128 = .ok (.aload_n 0, 1) := by decide +kernel
theorem dX9_instance_129 : decode cX9_instance 129 = .ok (.getfield 38, 3) := by decide +kernel
theorem dX9_instance_132 : decode cX9_instance 132 = .ok (.aload_n 0, 1) := by decide +kernel
theorem dX9_instance_133 : decode cX9_instance 133 = .ok (.getfield 193, 3) := by decide +kernel
theorem dX9_instance_136 : decode cX9_instance 136 = .ok (.iload 5, 2) := by decide +kernel
theorem dX9_instance_138 : decode cX9_instance 138 = .ok (.iastore, 1) := by decide +kernel
theorem dX9_instance_139 : decode cX9_instance 139 = .ok (.aload_n 0, 1) := by decide +kernel
theorem dX9_instance_140 : decode cX9_instance 140 = .ok (.getfield 41, 3) := by decide +kernel
theorem dX9_instance_143 : decode cX9_instance 143 = .ok (.aload_n 0, 1) := by decide +kernel
theorem dX9_instance_144 : decode cX9_instance 144 = .ok (.getfield 193, 3) := by decide +kernel
theorem dX9_instance_147 : decode cX9_instance 147 = .ok (.iload 6, 2) := by decide +kernel
theorem dX9_instance_149 : decode cX9_instance 149 = .ok (.iastore, 1) := by decide +kernel
theorem dX9_instance_150 : decode cX9_instance 150 = .ok (.aload_n 0, 1) := by decide +kernel
theorem dX9_instance_151 : decode cX9_instance 151 = .ok (.dup, 1) := by decide +kernel
theorem dX9_instance_152 : decode cX9_instance 152 = .ok (.getfield 193, 3) := by decide +kernel
theorem dX9_instance_155 : decode cX9_instance 155 = .ok (.iconst 1, 1) := by decide +kernel
theorem dX9_instance_156 : decode cX9_instance 156 = .ok (.iadd, 1) := by decide +kernel
theorem dX9_instance_157 : decode cX9_instance 157 = .ok (.putfield 193, 3) := by decide +kernel
theorem dX9_instance_160 : decode cX9_instance 160 = .ok (.aload_n 0, 1) := by decide +kernel
theorem dX9_instance_161 : decode cX9_instance 161 = .ok (.getfield 193, 3) := by decide +kernel
theorem dX9_instance_164 : decode cX9_instance 164 = .ok (.iconst 1, 1) := by decide +kernel
theorem dX9_instance_165 : decode cX9_instance 165 = .ok (.isub, 1) := by decide +kernel
theorem dX9_instance_166 : decode cX9_instance 166 = .ok (.ireturn, 1) := by decide +kernel
theorem dX9_fault_0 : decode cX9_fault 0 = .ok (.aload_n 0, 1) := by decide +kernel
theorem dX9_fault_1 : decode cX9_fault 1 = .ok (.aload_n 0, 1) := by decide +kernel
theorem dX9_fault_2 : decode cX9_fault 2 = .ok (.iload_n 1, 1) := by decide +kernel
theorem dX9_fault_3 : decode cX9_fault 3 = .ok (.invokevirtual 207, 3) := by decide +kernel
theorem dX9_fault_6 : decode cX9_fault 6 = .ok (.iload_n 2, 1) := by decide +kernel
theorem dX9_fault_7 : decode cX9_fault 7 = .ok (.iconst 0, 1) := by decide +kernel
theorem dX9_fault_8 : decode cX9_fault 8 = .ok (.iconst 3, 1) := by decide +kernel
theorem dX9_fault_9 : decode cX9_fault 9 = .ok (.invokestatic 189, 3) := by decide +kernel
theorem dX9_fault_12 : decode cX9_fault 12 = .ok (.ifCond .eq 25, 3) := by decide +kernel
theorem dX9_fault_15 : decode cX9_fault 15 = .ok (.iload_n 3, 1) := by decide +kernel
theorem dX9_fault_16 : decode cX9_fault 16 = .ok (.iconst 0, 1) := by decide +kernel
theorem dX9_fault_17 : decode cX9_fault 17 = .ok (.iload_n 2, 1) := by decide +kernel
theorem dX9_fault_18 : decode cX9_fault 18 = .ok (.ifCond .ne 8, 3) := by decide +kernel
theorem dX9_fault_21 : decode cX9_fault 21 = .ok (.bipush 50, 2) := by decide +kernel
theorem dX9_fault_23 : decode cX9_fault 23 = .ok (.goto 4, 3) := by decide +kernel
theorem dX9_fault_26 : decode cX9_fault 26 = .ok (.iconst 1, 1) := by decide +kernel
theorem dX9_fault_27 : decode cX9_fault 27 = .ok (.invokestatic 189, 3) := by decide +kernel
theorem dX9_fault_30 : decode cX9_fault 30 = .ok (.ifCond .eq 7, 3) := by decide +kernel
theorem dX9_fault_33 : decode cX9_fault 33 = .ok (.iconst 1, 1) := by decide +kernel
theorem dX9_fault_34 : decode cX9_fault 34 = .ok (.goto 4, 3) := by decide +kernel
theorem dX9_fault_37 : decode cX9_fault 37 = .ok (.iconst 0, 1) := by decide +kernel
theorem dX9_fault_38 : decode cX9_fault 38 = .ok (.iconst 1, 1) := by decide +kernel
theorem dX9_fault_39 : decode cX9_fault 39 = .ok (.invokevirtual 203, 3) := by decide +kernel
theorem dX9_fault_42 : decode cX9_fault 42 = .ok (.ifCond .ne 5, 3) := by decide +kernel
theorem dX9_fault_45 : decode cX9_fault 45 = .ok (.iconst 0, 1) := by decide +kernel
theorem dX9_fault_46 : decode cX9_fault 46 = .ok (.ireturn, 1) := by decide +kernel
theorem dX9_fault_47 : decode cX9_fault 47 = .ok (.aload_n 0, 1) := by decide +kernel
theorem dX9_fault_48 : decode cX9_fault 48 = .ok (.getfield 44, 3) := by decide +kernel
theorem dX9_fault_51 : decode cX9_fault 51 = .ok (.iconst 4, 1) := by decide +kernel
theorem dX9_fault_52 : decode cX9_fault 52 = .ok (.iload_n 1, 1) := by decide +kernel
theorem dX9_fault_53 : decode cX9_fault 53 = .ok (.imul, 1) := by decide +kernel
theorem dX9_fault_54 : decode cX9_fault 54 = .ok (.iload_n 2, 1) := by decide +kernel
theorem dX9_fault_55 : decode cX9_fault 55 = .ok (.iadd, 1) := by decide +kernel
theorem dX9_fault_56 : decode cX9_fault 56 = .ok (.iaload, 1) := by decide +kernel
theorem dX9_fault_57 : decode cX9_fault 57 = .ok (.istore 4, 2) := by decide +kernel
theorem dX9_fault_59 : decode cX9_fault 59 = .ok (.aload_n 0, 1) := by decide +kernel
theorem dX9_fault_60 : decode cX9_fault 60 = .ok (.getfield 44, 3) := by decide +kernel
theorem dX9_fault_63 : decode cX9_fault 63 = .ok (.iconst 4, 1) := by decide +kernel
theorem dX9_fault_64 : decode cX9_fault 64 = .ok (.iload_n 1, 1) := by decide +kernel
theorem dX9_fault_65 : decode cX9_fault 65 = .ok (.imul, 1) := by decide +kernel
theorem dX9_fault_66 : decode cX9_fault 66 = .ok (.iload_n 2, 1) := by decide +kernel
theorem dX9_fault_67 : decode cX9_fault 67 = .ok (.iadd, 1) := by decide +kernel
theorem dX9_fault_68 : decode cX9_fault 68 = .ok (.iload_n 3, 1) := by decide +kernel
theorem dX9_fault_69 : decode cX9_fault 69 = .ok (.iastore, 1) := by decide +kernel
theorem dX9_fault_70 : decode cX9_fault 70 = .ok (.iload 4, 2) := by decide +kernel
theorem dX9_fault_72 : decode cX9_fault 72 = .ok (.ireturn, 1) := by decide +kernel
theorem dX9_policyPlace_0 : decode cX9_policyPlace 0 = .ok (.iload_n 0, 1) := by decide +kernel
theorem dX9_policyPlace_1 : decode cX9_policyPlace 1 = .ok (.iconst (-1), 1) := by decide +kernel
theorem dX9_policyPlace_2 : decode cX9_policyPlace 2 = .ok (.if_icmp .eq 12, 3) := by decide +kernel
theorem dX9_policyPlace_5 : decode cX9_policyPlace 5 = .ok (.bipush 6, 2) := by decide +kernel
theorem dX9_policyPlace_7 : decode cX9_policyPlace 7 = .ok (.iload_n 0, 1) := by decide +kernel
theorem dX9_policyPlace_8 : decode cX9_policyPlace 8 = .ok (.imul, 1) := by decide +kernel
theorem dX9_policyPlace_9 : decode cX9_policyPlace 9 = .ok (.iload_n 1, 1) := by decide +kernel
theorem dX9_policyPlace_10 : decode cX9_policyPlace 10 = .ok (.iadd, 1) := by decide +kernel
theorem dX9_policyPlace_11 : decode cX9_policyPlace 11 = .ok (.goto 17, 3) := by decide +kernel
theorem dX9_policyPlace_14 : decode cX9_policyPlace 14 = .ok (.iload_n 1, 1) := by decide +kernel
theorem dX9_policyPlace_15 : decode cX9_policyPlace 15 = .ok (.iconst (-1), 1) := by decide +kernel
theorem dX9_policyPlace_16 : decode cX9_policyPlace 16 = .ok (.if_icmp .eq 10, 3) := by decide +kernel
theorem dX9_policyPlace_19 : decode cX9_policyPlace 19 = .ok (.bipush 42, 2) := by decide +kernel
theorem dX9_policyPlace_21 : decode cX9_policyPlace 21 = .ok (.iload_n 1, 1) := by decide +kernel
theorem dX9_policyPlace_22 : decode cX9_policyPlace 22 = .ok (.iadd, 1) := by decide +kernel
theorem dX9_policyPlace_23 : decode cX9_policyPlace 23 = .ok (.goto 5, 3) := by decide +kernel
theorem dX9_policyPlace_26 : decode cX9_policyPlace 26 = .ok (.bipush 48, 2) := by decide +kernel
theorem dX9_policyPlace_28 : decode cX9_policyPlace 28 = .ok (.ireturn, 1) := by decide +kernel
theorem dX9_policy_0 : decode cX9_policy 0 = .ok (.iload_n 1, 1) := by decide +kernel
theorem dX9_policy_1 : decode cX9_policy 1 = .ok (.iconst (-1), 1) := by decide +kernel
theorem dX9_policy_2 : decode cX9_policy 2 = .ok (.if_icmp .eq 10, 3) := by decide +kernel
theorem dX9_policy_5 : decode cX9_policy 5 = .ok (.iload_n 1, 1) := by decide +kernel
theorem dX9_policy_6 : decode cX9_policy 6 = .ok (.invokestatic 210, 3) := by decide +kernel
theorem dX9_policy_9 : decode cX9_policy 9 = .ok (.ifCond .eq 19, 3) := by decide +kernel
theorem dX9_policy_12 : decode cX9_policy 12 = .ok (.iload_n 2, 1) := by decide +kernel
theorem dX9_policy_13 : decode cX9_policy 13 = .ok (.iconst (-1), 1) := by decide +kernel
theorem dX9_policy_14 : decode cX9_policy 14 = .ok (.if_icmp .eq 10, 3) := by decide +kernel
theorem dX9_policy_17 : decode cX9_policy 17 = .ok (.iload_n 2, 1) := by decide +kernel
theorem dX9_policy_18 : decode cX9_policy 18 = .ok (.invokestatic 199, 3) := by decide +kernel
theorem dX9_policy_21 : decode cX9_policy 21 = .ok (.ifCond .eq 7, 3) := by decide +kernel
theorem dX9_policy_24 : decode cX9_policy 24 = .ok (.iconst 1, 1) := by decide +kernel
theorem dX9_policy_25 : decode cX9_policy 25 = .ok (.goto 4, 3) := by decide +kernel
theorem dX9_policy_28 : decode cX9_policy 28 = .ok (.iconst 0, 1) := by decide +kernel
theorem dX9_policy_29 : decode cX9_policy 29 = .ok (.istore 5, 2) := by decide +kernel
theorem dX9_policy_31 : decode cX9_policy 31 = .ok (.iload_n 1, 1) := by decide +kernel
theorem dX9_policy_32 : decode cX9_policy 32 = .ok (.iconst (-1), 1) := by decide +kernel
theorem dX9_policy_33 : decode cX9_policy 33 = .ok (.if_icmp .eq 8, 3) := by decide +kernel
theorem dX9_policy_36 : decode cX9_policy 36 = .ok (.iload_n 2, 1) := by decide +kernel
theorem dX9_policy_37 : decode cX9_policy 37 = .ok (.iconst (-1), 1) := by decide +kernel
theorem dX9_policy_38 : decode cX9_policy 38 = .ok (.if_icmp .eq 53, 3) := by decide +kernel
theorem dX9_policy_41 : decode cX9_policy 41 = .ok (.iload_n 3, 1) := by decide +kernel
theorem dX9_policy_42 : decode cX9_policy 42 = .ok (.iconst 0, 1) := by decide +kernel
theorem dX9_policy_43 : decode cX9_policy 43 = .ok (.iconst 2, 1) := by decide +kernel
theorem dX9_policy_44 : decode cX9_policy 44 = .ok (.invokestatic 189, 3) := by decide +kernel
theorem dX9_policy_47 : decode cX9_policy 47 = .ok (.ifCond .eq 44, 3) := by decide +kernel
theorem dX9_policy_50 : decode cX9_policy 50 = .ok (.iload 4, 2) := by decide +kernel
theorem dX9_policy_52 : decode cX9_policy 52 = .ok (.iload_n 3, 1) := by decide +kernel
theorem dX9_policy_53 : decode cX9_policy 53 = .ok (.ifCond .ne 7, 3) := by decide +kernel
theorem dX9_policy_56 : decode cX9_policy 56 = .ok (.iconst 1, 1) := by decide +kernel
theorem dX9_policy_57 : decode cX9_policy 57 = .ok (.goto 4, 3) := by decide +kernel
theorem dX9_policy_60 : decode cX9_policy 60 = .ok (.iconst 0, 1) := by decide +kernel
theorem dX9_policy_61 : decode cX9_policy 61 = .ok (.iload_n 3, 1) := by decide +kernel
theorem dX9_policy_62 : decode cX9_policy 62 = .ok (.ifCond .ne 8, 3) := by decide +kernel
theorem dX9_policy_65 : decode cX9_policy 65 = .ok (.bipush 100, 2) := by decide +kernel
theorem dX9_policy_67 : decode cX9_policy 67 = .ok (.goto 14, 3) := by decide +kernel
theorem dX9_policy_70 : decode cX9_policy 70 = .ok (.iload_n 3, 1) := by decide +kernel
theorem dX9_policy_71 : decode cX9_policy 71 = .ok (.iconst 1, 1) := by decide +kernel
theorem dX9_policy_72 : decode cX9_policy 72 = .ok (.if_icmp .ne 7, 3) := by decide +kernel
theorem dX9_policy_75 : decode cX9_policy 75 = .ok (.iconst 3, 1) := by decide +kernel
theorem dX9_policy_76 : decode cX9_policy 76 = .ok (.goto 5, 3) := by decide +kernel
theorem dX9_policy_79 : decode cX9_policy 79 = .ok (.bipush 50, 2) := by decide +kernel
theorem dX9_policy_81 : decode cX9_policy 81 = .ok (.invokestatic 189, 3) := by decide +kernel
theorem dX9_policy_84 : decode cX9_policy 84 = .ok (.ifCond .eq 7, 3) := by decide +kernel
theorem dX9_policy_87 : decode cX9_policy 87 = .ok (.iconst 1, 1) := by decide +kernel
theorem dX9_policy_88 : decode cX9_policy 88 = .ok (.goto 4, 3) := by decide +kernel
theorem dX9_policy_91 : decode cX9_policy 91 = .ok (.iconst 0, 1) := by decide +kernel
theorem dX9_policy_92 : decode cX9_policy 92 = .ok (.istore 6, 2) := by decide +kernel
theorem dX9_policy_94 : decode cX9_policy 94 = .ok (.aload_n 0, 1) := by decide +kernel
theorem dX9_policy_95 : decode cX9_policy 95 = .ok (.iload 5, 2) := by decide +kernel
theorem dX9_policy_97 : decode cX9_policy 97 = .ok (.iload 6, 2) := by decide +kernel
theorem dX9_policy_99 : decode cX9_policy 99 = .ok (.iconst 1, 1) := by decide +kernel
theorem dX9_policy_100 : decode cX9_policy 100 = .ok (.invokevirtual 203, 3) := by decide +kernel
theorem dX9_policy_103 : decode cX9_policy 103 = .ok (.ifCond .ne 5, 3) := by decide +kernel
theorem dX9_policy_106 : decode cX9_policy 106 = .ok (.iconst 0, 1) := by decide +kernel
theorem dX9_policy_107 : decode cX9_policy 107 = .ok (.ireturn, 1) := by decide +kernel
theorem dX9_policy_108 : decode cX9_policy 108 = .ok (.iconst 3, 1) := by decide +kernel
theorem dX9_policy_109 : decode cX9_policy 109 = .ok (.iload_n 1, 1) := by decide +kernel
theorem dX9_policy_110 : decode cX9_policy 110 = .ok (.iload_n 2, 1) := by decide +kernel
theorem dX9_policy_111 : decode cX9_policy 111 = .ok (.invokestatic 213, 3) := by decide +kernel
theorem dX9_policy_114 : decode cX9_policy 114 = .ok (.imul, 1) := by decide +kernel
theorem dX9_policy_115 : decode cX9_policy 115 = .ok (.iload_n 3, 1) := by decide +kernel
theorem dX9_policy_116 : decode cX9_policy 116 = .ok (.iadd, 1) := by decide +kernel
theorem dX9_policy_117 : decode cX9_policy 117 = .ok (.istore 7, 2) := by decide +kernel
theorem dX9_policy_119 : decode cX9_policy 119 = .ok (.aload_n 0, 1) := by decide +kernel
theorem dX9_policy_120 : decode cX9_policy 120 = .ok (.getfield 50, 3) := by decide +kernel
theorem dX9_policy_123 : decode cX9_policy 123 = .ok (.iload 7, 2) := by decide +kernel
theorem dX9_policy_125 : decode cX9_policy 125 = .ok (.iaload, 1) := by decide +kernel
theorem dX9_policy_126 : decode cX9_policy 126 = .ok (.istore 8, 2) := by decide +kernel
theorem dX9_policy_128 : decode cX9_policy 128 = .ok (.aload_n 0, 1) := by decide +kernel
theorem dX9_policy_129 : decode cX9_policy 129 = .ok (.getfield 50, 3) := by decide +kernel
theorem dX9_policy_132 : decode cX9_policy 132 = .ok (.iload 7, 2) := by decide +kernel
theorem dX9_policy_134 : decode cX9_policy 134 = .ok (.iload 4, 2) := by decide +kernel
theorem dX9_policy_136 : decode cX9_policy 136 = .ok (.iastore, 1) := by decide +kernel
theorem dX9_policy_137 : decode cX9_policy 137 = .ok (.iload 8, 2) := by decide +kernel
theorem dX9_policy_139 : decode cX9_policy 139 = .ok (.ireturn, 1) := by decide +kernel
theorem dX9_policyOf_0 : decode cX9_policyOf 0 = .ok (.aload_n 0, 1) := by decide +kernel
theorem dX9_policyOf_1 : decode cX9_policyOf 1 = .ok (.getfield 50, 3) := by decide +kernel
theorem dX9_policyOf_4 : decode cX9_policyOf 4 = .ok (.iconst 3, 1) := by decide +kernel
theorem dX9_policyOf_5 : decode cX9_policyOf 5 = .ok (.iload_n 1, 1) := by decide +kernel
theorem dX9_policyOf_6 : decode cX9_policyOf 6 = .ok (.iload_n 2, 1) := by decide +kernel
theorem dX9_policyOf_7 : decode cX9_policyOf 7 = .ok (.invokestatic 213, 3) := by decide +kernel
theorem dX9_policyOf_10 : decode cX9_policyOf 10 = .ok (.imul, 1) := by decide +kernel
theorem dX9_policyOf_11 : decode cX9_policyOf 11 = .ok (.iload_n 3, 1) := by decide +kernel
theorem dX9_policyOf_12 : decode cX9_policyOf 12 = .ok (.iadd, 1) := by decide +kernel
theorem dX9_policyOf_13 : decode cX9_policyOf 13 = .ok (.iaload, 1) := by decide +kernel
theorem dX9_policyOf_14 : decode cX9_policyOf 14 = .ok (.istore 4, 2) := by decide +kernel
theorem dX9_policyOf_16 : decode cX9_policyOf 16 = .ok (.aload_n 0, 1) := by decide +kernel
theorem dX9_policyOf_17 : decode cX9_policyOf 17 = .ok (.getfield 50, 3) := by decide +kernel
theorem dX9_policyOf_20 : decode cX9_policyOf 20 = .ok (.iconst 3, 1) := by decide +kernel
theorem dX9_policyOf_21 : decode cX9_policyOf 21 = .ok (.iconst (-1), 1) := by decide +kernel
theorem dX9_policyOf_22 : decode cX9_policyOf 22 = .ok (.iload_n 2, 1) := by decide +kernel
theorem dX9_policyOf_23 : decode cX9_policyOf 23 = .ok (.invokestatic 213, 3) := by decide +kernel
theorem dX9_policyOf_26 : decode cX9_policyOf 26 = .ok (.imul, 1) := by decide +kernel
theorem dX9_policyOf_27 : decode cX9_policyOf 27 = .ok (.iload_n 3, 1) := by decide +kernel
theorem dX9_policyOf_28 : decode cX9_policyOf 28 = .ok (.iadd, 1) := by decide +kernel
theorem dX9_policyOf_29 : decode cX9_policyOf 29 = .ok (.iaload, 1) := by decide +kernel
theorem dX9_policyOf_30 : decode cX9_policyOf 30 = .ok (.istore 5, 2) := by decide +kernel
theorem dX9_policyOf_32 : decode cX9_policyOf 32 = .ok (.aload_n 0, 1) := by decide +kernel
theorem dX9_policyOf_33 : decode cX9_policyOf 33 = .ok (.getfield 50, 3) := by decide +kernel
theorem dX9_policyOf_36 : decode cX9_policyOf 36 = .ok (.iconst 3, 1) := by decide +kernel
theorem dX9_policyOf_37 : decode cX9_policyOf 37 = .ok (.iconst (-1), 1) := by decide +kernel
theorem dX9_policyOf_38 : decode cX9_policyOf 38 = .ok (.iconst (-1), 1) := by decide +kernel
theorem dX9_policyOf_39 : decode cX9_policyOf 39 = .ok (.invokestatic 213, 3) := by decide +kernel
theorem dX9_policyOf_42 : decode cX9_policyOf 42 = .ok (.imul, 1) := by decide +kernel
theorem dX9_policyOf_43 : decode cX9_policyOf 43 = .ok (.iload_n 3, 1) := by decide +kernel
theorem dX9_policyOf_44 : decode cX9_policyOf 44 = .ok (.iadd, 1) := by decide +kernel
theorem dX9_policyOf_45 : decode cX9_policyOf 45 = .ok (.iaload, 1) := by decide +kernel
theorem dX9_policyOf_46 : decode cX9_policyOf 46 = .ok (.istore 6, 2) := by decide +kernel
theorem dX9_policyOf_48 : decode cX9_policyOf 48 = .ok (.iload 4, 2) := by decide +kernel
theorem dX9_policyOf_50 : decode cX9_policyOf 50 = .ok (.iconst (-1), 1) := by decide +kernel
theorem dX9_policyOf_51 : decode cX9_policyOf 51 = .ok (.if_icmp .eq 8, 3) := by decide +kernel
theorem dX9_policyOf_54 : decode cX9_policyOf 54 = .ok (.iload 4, 2) := by decide +kernel
theorem dX9_policyOf_56 : decode cX9_policyOf 56 = .ok (.goto 44, 3) := by decide +kernel
theorem dX9_policyOf_59 : decode cX9_policyOf 59 = .ok (.iload 5, 2) := by decide +kernel
theorem dX9_policyOf_61 : decode cX9_policyOf 61 = .ok (.iconst (-1), 1) := by decide +kernel
theorem dX9_policyOf_62 : decode cX9_policyOf 62 = .ok (.if_icmp .eq 8, 3) := by decide +kernel
theorem dX9_policyOf_65 : decode cX9_policyOf 65 = .ok (.iload 5, 2) := by decide +kernel
theorem dX9_policyOf_67 : decode cX9_policyOf 67 = .ok (.goto 33, 3) := by decide +kernel
theorem dX9_policyOf_70 : decode cX9_policyOf 70 = .ok (.iload 6, 2) := by decide +kernel
theorem dX9_policyOf_72 : decode cX9_policyOf 72 = .ok (.iconst (-1), 1) := by decide +kernel
theorem dX9_policyOf_73 : decode cX9_policyOf 73 = .ok (.if_icmp .eq 8, 3) := by decide +kernel
theorem dX9_policyOf_76 : decode cX9_policyOf 76 = .ok (.iload 6, 2) := by decide +kernel
theorem dX9_policyOf_78 : decode cX9_policyOf 78 = .ok (.goto 22, 3) := by decide +kernel
theorem dX9_policyOf_81 : decode cX9_policyOf 81 = .ok (.iload_n 3, 1) := by decide +kernel
theorem dX9_policyOf_82 : decode cX9_policyOf 82 = .ok (.ifCond .ne 8, 3) := by decide +kernel
theorem dX9_policyOf_85 : decode cX9_policyOf 85 = .ok (.bipush 20, 2) := by decide +kernel
theorem dX9_policyOf_87 : decode cX9_policyOf 87 = .ok (.goto 13, 3) := by decide +kernel
theorem dX9_policyOf_90 : decode cX9_policyOf 90 = .ok (.iload_n 3, 1) := by decide +kernel
theorem dX9_policyOf_91 : decode cX9_policyOf 91 = .ok (.iconst 1, 1) := by decide +kernel
theorem dX9_policyOf_92 : decode cX9_policyOf 92 = .ok (.if_icmp .ne 7, 3) := by decide +kernel
theorem dX9_policyOf_95 : decode cX9_policyOf 95 = .ok (.iconst 1, 1) := by decide +kernel
theorem dX9_policyOf_96 : decode cX9_policyOf 96 = .ok (.goto 4, 3) := by decide +kernel
theorem dX9_policyOf_99 : decode cX9_policyOf 99 = .ok (.iconst 0, 1) := by decide +kernel
theorem dX9_policyOf_100 : decode cX9_policyOf 100 = .ok (.ireturn, 1) := by decide +kernel
theorem dX9_share_0 : decode cX9_share 0 = .ok (.aload_n 0, 1) := by decide +kernel
theorem dX9_share_1 : decode cX9_share 1 = .ok (.iload_n 1, 1) := by decide +kernel
theorem dX9_share_2 : decode cX9_share 2 = .ok (.invokestatic 210, 3) := by decide +kernel
theorem dX9_share_5 : decode cX9_share 5 = .ok (.iload_n 2, 1) := by decide +kernel
theorem dX9_share_6 : decode cX9_share 6 = .ok (.iconst 0, 1) := by decide +kernel
theorem dX9_share_7 : decode cX9_share 7 = .ok (.bipush 100, 2) := by decide +kernel
theorem dX9_share_9 : decode cX9_share 9 = .ok (.invokestatic 189, 3) := by decide +kernel
theorem dX9_share_12 : decode cX9_share 12 = .ok (.iconst 1, 1) := by decide +kernel
theorem dX9_share_13 : decode cX9_share 13 = .ok (.invokevirtual 203, 3) := by decide +kernel
theorem dX9_share_16 : decode cX9_share 16 = .ok (.ifCond .ne 5, 3) := by decide +kernel
theorem dX9_share_19 : decode cX9_share 19 = .ok (.iconst 0, 1) := by decide +kernel
theorem dX9_share_20 : decode cX9_share 20 = .ok (.ireturn, 1) := by decide +kernel
theorem dX9_share_21 : decode cX9_share 21 = .ok (.aload_n 0, 1) := by decide +kernel
theorem dX9_share_22 : decode cX9_share 22 = .ok (.getfield 53, 3) := by decide +kernel
theorem dX9_share_25 : decode cX9_share 25 = .ok (.iload_n 1, 1) := by decide +kernel
theorem dX9_share_26 : decode cX9_share 26 = .ok (.iaload, 1) := by decide +kernel
theorem dX9_share_27 : decode cX9_share 27 = .ok (.istore_n 3, 1) := by decide +kernel
theorem dX9_share_28 : decode cX9_share 28 = .ok (.aload_n 0, 1) := by decide +kernel
theorem dX9_share_29 : decode cX9_share 29 = .ok (.getfield 53, 3) := by decide +kernel
theorem dX9_share_32 : decode cX9_share 32 = .ok (.iload_n 1, 1) := by decide +kernel
theorem dX9_share_33 : decode cX9_share 33 = .ok (.iload_n 2, 1) := by decide +kernel
theorem dX9_share_34 : decode cX9_share 34 = .ok (.iastore, 1) := by decide +kernel
theorem dX9_share_35 : decode cX9_share 35 = .ok (.iload_n 3, 1) := by decide +kernel
theorem dX9_share_36 : decode cX9_share 36 = .ok (.ireturn, 1) := by decide +kernel
theorem dX9_eyes_0 : decode cX9_eyes 0 = .ok (.aload_n 0, 1) := by decide +kernel
theorem dX9_eyes_1 : decode cX9_eyes 1 = .ok (.iload_n 1, 1) := by decide +kernel
theorem dX9_eyes_2 : decode cX9_eyes 2 = .ok (.iconst 1, 1) := by decide +kernel
theorem dX9_eyes_3 : decode cX9_eyes 3 = .ok (.bipush 7, 2) := by decide +kernel
theorem dX9_eyes_5 : decode cX9_eyes 5 = .ok (.invokestatic 189, 3) := by decide +kernel
theorem dX9_eyes_8 : decode cX9_eyes 8 = .ok (.iconst 1, 1) := by decide +kernel
theorem dX9_eyes_9 : decode cX9_eyes 9 = .ok (.iconst 1, 1) := by decide +kernel
theorem dX9_eyes_10 : decode cX9_eyes 10 = .ok (.invokevirtual 203, 3) := by decide +kernel
theorem dX9_eyes_13 : decode cX9_eyes 13 = .ok (.ifCond .ne 5, 3) := by decide +kernel
theorem dX9_eyes_16 : decode cX9_eyes 16 = .ok (.iconst 0, 1) := by decide +kernel
theorem dX9_eyes_17 : decode cX9_eyes 17 = .ok (.ireturn, 1) := by decide +kernel
theorem dX9_eyes_18 : decode cX9_eyes 18 = .ok (.aload_n 0, 1) := by decide +kernel
theorem dX9_eyes_19 : decode cX9_eyes 19 = .ok (.getfield 65, 3) := by decide +kernel
theorem dX9_eyes_22 : decode cX9_eyes 22 = .ok (.istore_n 2, 1) := by decide +kernel
theorem dX9_eyes_23 : decode cX9_eyes 23 = .ok (.aload_n 0, 1) := by decide +kernel
theorem dX9_eyes_24 : decode cX9_eyes 24 = .ok (.iload_n 1, 1) := by decide +kernel
theorem dX9_eyes_25 : decode cX9_eyes 25 = .ok (.putfield 65, 3) := by decide +kernel
theorem dX9_eyes_28 : decode cX9_eyes 28 = .ok (.iload_n 2, 1) := by decide +kernel
theorem dX9_eyes_29 : decode cX9_eyes 29 = .ok (.ireturn, 1) := by decide +kernel
theorem dX9_canary_0 : decode cX9_canary 0 = .ok (.aload_n 0, 1) := by decide +kernel
theorem dX9_canary_1 : decode cX9_canary 1 = .ok (.iload_n 1, 1) := by decide +kernel
theorem dX9_canary_2 : decode cX9_canary 2 = .ok (.invokestatic 199, 3) := by decide +kernel
theorem dX9_canary_5 : decode cX9_canary 5 = .ok (.iload_n 2, 1) := by decide +kernel
theorem dX9_canary_6 : decode cX9_canary 6 = .ok (.iconst 0, 1) := by decide +kernel
theorem dX9_canary_7 : decode cX9_canary 7 = .ok (.bipush 100, 2) := by decide +kernel
theorem dX9_canary_9 : decode cX9_canary 9 = .ok (.invokestatic 189, 3) := by decide +kernel
theorem dX9_canary_12 : decode cX9_canary 12 = .ok (.iconst 1, 1) := by decide +kernel
theorem dX9_canary_13 : decode cX9_canary 13 = .ok (.invokevirtual 203, 3) := by decide +kernel
theorem dX9_canary_16 : decode cX9_canary 16 = .ok (.ifCond .ne 5, 3) := by decide +kernel
theorem dX9_canary_19 : decode cX9_canary 19 = .ok (.iconst 0, 1) := by decide +kernel
theorem dX9_canary_20 : decode cX9_canary 20 = .ok (.ireturn, 1) := by decide +kernel
theorem dX9_canary_21 : decode cX9_canary 21 = .ok (.aload_n 0, 1) := by decide +kernel
theorem dX9_canary_22 : decode cX9_canary 22 = .ok (.getfield 81, 3) := by decide +kernel
theorem dX9_canary_25 : decode cX9_canary 25 = .ok (.iload_n 1, 1) := by decide +kernel
theorem dX9_canary_26 : decode cX9_canary 26 = .ok (.iaload, 1) := by decide +kernel
theorem dX9_canary_27 : decode cX9_canary 27 = .ok (.istore_n 3, 1) := by decide +kernel
theorem dX9_canary_28 : decode cX9_canary 28 = .ok (.aload_n 0, 1) := by decide +kernel
theorem dX9_canary_29 : decode cX9_canary 29 = .ok (.getfield 81, 3) := by decide +kernel
theorem dX9_canary_32 : decode cX9_canary 32 = .ok (.iload_n 1, 1) := by decide +kernel
theorem dX9_canary_33 : decode cX9_canary 33 = .ok (.iload_n 2, 1) := by decide +kernel
theorem dX9_canary_34 : decode cX9_canary 34 = .ok (.iastore, 1) := by decide +kernel
theorem dX9_canary_35 : decode cX9_canary 35 = .ok (.aload_n 0, 1) := by decide +kernel
theorem dX9_canary_36 : decode cX9_canary 36 = .ok (.getfield 84, 3) := by decide +kernel
theorem dX9_canary_39 : decode cX9_canary 39 = .ok (.iload_n 1, 1) := by decide +kernel
theorem dX9_canary_40 : decode cX9_canary 40 = .ok (.iconst 0, 1) := by decide +kernel
theorem dX9_canary_41 : decode cX9_canary 41 = .ok (.iastore, 1) := by decide +kernel
theorem dX9_canary_42 : decode cX9_canary 42 = .ok (.iconst 2, 1) := by decide +kernel
theorem dX9_canary_43 : decode cX9_canary 43 = .ok (.iload_n 1, 1) := by decide +kernel
theorem dX9_canary_44 : decode cX9_canary 44 = .ok (.imul, 1) := by decide +kernel
theorem dX9_canary_45 : decode cX9_canary 45 = .ok (.istore 4, 2) := by decide +kernel
theorem dX9_canary_47 : decode cX9_canary 47 = .ok (.iload 4, 2) := by decide +kernel
theorem dX9_canary_49 : decode cX9_canary 49 = .ok (.iconst 2, 1) := by decide +kernel
theorem dX9_canary_50 : decode cX9_canary 50 = .ok (.iload_n 1, 1) := by decide +kernel
theorem dX9_canary_51 : decode cX9_canary 51 = .ok (.imul, 1) := by decide +kernel
theorem dX9_canary_52 : decode cX9_canary 52 = .ok (.iconst 2, 1) := by decide +kernel
theorem dX9_canary_53 : decode cX9_canary 53 = .ok (.iadd, 1) := by decide +kernel
theorem dX9_canary_54 : decode cX9_canary 54 = .ok (.if_icmp .ge 25, 3) := by decide +kernel
theorem dX9_canary_57 : decode cX9_canary 57 = .ok (.aload_n 0, 1) := by decide +kernel
theorem dX9_canary_58 : decode cX9_canary 58 = .ok (.getfield 87, 3) := by decide +kernel
theorem dX9_canary_61 : decode cX9_canary 61 = .ok (.iload 4, 2) := by decide +kernel
theorem dX9_canary_63 : decode cX9_canary 63 = .ok (.iconst 0, 1) := by decide +kernel
theorem dX9_canary_64 : decode cX9_canary 64 = .ok (.iastore, 1) := by decide +kernel
theorem dX9_canary_65 : decode cX9_canary 65 = .ok (.aload_n 0, 1) := by decide +kernel
theorem dX9_canary_66 : decode cX9_canary 66 = .ok (.getfield 90, 3) := by decide +kernel
theorem dX9_canary_69 : decode cX9_canary 69 = .ok (.iload 4, 2) := by decide +kernel
theorem dX9_canary_71 : decode cX9_canary 71 = .ok (.iconst 0, 1) := by decide +kernel
theorem dX9_canary_72 : decode cX9_canary 72 = .ok (.iastore, 1) := by decide +kernel
theorem dX9_canary_73 : decode cX9_canary 73 = .ok (.iinc 4 1, 3) := by decide +kernel
theorem dX9_canary_76 : decode cX9_canary 76 = .ok (.goto (-29), 3) := by decide +kernel
theorem dX9_canary_79 : decode cX9_canary 79 = .ok (.iload_n 3, 1) := by decide +kernel
theorem dX9_canary_80 : decode cX9_canary 80 = .ok (.ireturn, 1) := by decide +kernel
theorem dX9_traces_0 : decode cX9_traces 0 = .ok (.aload_n 0, 1) := by decide +kernel
theorem dX9_traces_1 : decode cX9_traces 1 = .ok (.iload_n 1, 1) := by decide +kernel
theorem dX9_traces_2 : decode cX9_traces 2 = .ok (.iconst 1, 1) := by decide +kernel
theorem dX9_traces_3 : decode cX9_traces 3 = .ok (.bipush 10, 2) := by decide +kernel
theorem dX9_traces_5 : decode cX9_traces 5 = .ok (.invokestatic 189, 3) := by decide +kernel
theorem dX9_traces_8 : decode cX9_traces 8 = .ok (.ifCond .eq 18, 3) := by decide +kernel
theorem dX9_traces_11 : decode cX9_traces 11 = .ok (.iload_n 2, 1) := by decide +kernel
theorem dX9_traces_12 : decode cX9_traces 12 = .ok (.iconst 1, 1) := by decide +kernel
theorem dX9_traces_13 : decode cX9_traces 13 = .ok (.sipush 600, 3) := by decide +kernel
theorem dX9_traces_16 : decode cX9_traces 16 = .ok (.invokestatic 189, 3) := by decide +kernel
theorem dX9_traces_19 : decode cX9_traces 19 = .ok (.ifCond .eq 7, 3) := by decide +kernel
theorem dX9_traces_22 : decode cX9_traces 22 = .ok (.iconst 1, 1) := by decide +kernel
theorem dX9_traces_23 : decode cX9_traces 23 = .ok (.goto 4, 3) := by decide +kernel
theorem dX9_traces_26 : decode cX9_traces 26 = .ok (.iconst 0, 1) := by decide +kernel
theorem dX9_traces_27 : decode cX9_traces 27 = .ok (.iconst 1, 1) := by decide +kernel
theorem dX9_traces_28 : decode cX9_traces 28 = .ok (.iconst 1, 1) := by decide +kernel
theorem dX9_traces_29 : decode cX9_traces 29 = .ok (.invokevirtual 203, 3) := by decide +kernel
theorem dX9_traces_32 : decode cX9_traces 32 = .ok (.ifCond .eq 13, 3) := by decide +kernel
theorem dX9_traces_35 : decode cX9_traces 35 = .ok (.aload_n 0, 1) := by decide +kernel
theorem dX9_traces_36 : decode cX9_traces 36 = .ok (.iload_n 1, 1) := by decide +kernel
theorem dX9_traces_37 : decode cX9_traces 37 = .ok (.putfield 93, 3) := by decide +kernel
theorem dX9_traces_40 : decode cX9_traces 40 = .ok (.aload_n 0, 1) := by decide +kernel
theorem dX9_traces_41 : decode cX9_traces 41 = .ok (.iload_n 2, 1) := by decide +kernel
theorem dX9_traces_42 : decode cX9_traces 42 = .ok (.putfield 96, 3) := by decide +kernel
theorem dX9_traces_45 : decode cX9_traces 45 = .ok (.return_, 1) := by decide +kernel
theorem dX9_countOf_0 : decode cX9_countOf 0 = .ok (.iconst 0, 1) := by decide +kernel
theorem dX9_countOf_1 : decode cX9_countOf 1 = .ok (.istore 4, 2) := by decide +kernel
theorem dX9_countOf_3 : decode cX9_countOf 3 = .ok (.iconst 0, 1) := by decide +kernel
theorem dX9_countOf_4 : decode cX9_countOf 4 = .ok (.istore 5, 2) := by decide +kernel
theorem dX9_countOf_6 : decode cX9_countOf 6 = .ok (.iload 5, 2) := by decide +kernel
theorem dX9_countOf_8 : decode cX9_countOf 8 = .ok (.aload_n 0, 1) := by decide +kernel
theorem dX9_countOf_9 : decode cX9_countOf 9 = .ok (.getfield 217, 3) := by decide +kernel
theorem dX9_countOf_12 : decode cX9_countOf 12 = .ok (.if_icmp .ge 45, 3) := by decide +kernel
theorem dX9_countOf_15 : decode cX9_countOf 15 = .ok (.iload 4, 2) := by decide +kernel
theorem dX9_countOf_17 : decode cX9_countOf 17 = .ok (.aload_n 0, 1) := by decide +kernel
theorem dX9_countOf_18 : decode cX9_countOf 18 = .ok (.getfield 111, 3) := by decide +kernel
theorem dX9_countOf_21 : decode cX9_countOf 21 = .ok (.iload 5, 2) := by decide +kernel
theorem dX9_countOf_23 : decode cX9_countOf 23 = .ok (.iaload, 1) := by decide +kernel
theorem dX9_countOf_24 : decode cX9_countOf 24 = .ok (.iload_n 1, 1) := by decide +kernel
theorem dX9_countOf_25 : decode cX9_countOf 25 = .ok (.if_icmp .ne 22, 3) := by decide +kernel
theorem dX9_countOf_28 : decode cX9_countOf 28 = .ok (.aload_n 0, 1) := by decide +kernel
theorem dX9_countOf_29 : decode cX9_countOf 29 = .ok (.getfield 114, 3) := by decide +kernel
theorem dX9_countOf_32 : decode cX9_countOf 32 = .ok (.iload 5, 2) := by decide +kernel
theorem dX9_countOf_34 : decode cX9_countOf 34 = .ok (.iaload, 1) := by decide +kernel
theorem dX9_countOf_35 : decode cX9_countOf 35 = .ok (.iload_n 2, 1) := by decide +kernel
theorem dX9_countOf_36 : decode cX9_countOf 36 = .ok (.iload_n 3, 1) := by decide +kernel
theorem dX9_countOf_37 : decode cX9_countOf 37 = .ok (.invokestatic 189, 3) := by decide +kernel
theorem dX9_countOf_40 : decode cX9_countOf 40 = .ok (.ifCond .eq 7, 3) := by decide +kernel
theorem dX9_countOf_43 : decode cX9_countOf 43 = .ok (.iconst 1, 1) := by decide +kernel
theorem dX9_countOf_44 : decode cX9_countOf 44 = .ok (.goto 4, 3) := by decide +kernel
theorem dX9_countOf_47 : decode cX9_countOf 47 = .ok (.iconst 0, 1) := by decide +kernel
theorem dX9_countOf_48 : decode cX9_countOf 48 = .ok (.iadd, 1) := by decide +kernel
theorem dX9_countOf_49 : decode cX9_countOf 49 = .ok (.istore 4, 2) := by decide +kernel
theorem dX9_countOf_51 : decode cX9_countOf 51 = .ok (.iinc 5 1, 3) := by decide +kernel
theorem dX9_countOf_54 : decode cX9_countOf 54 = .ok (.goto (-48), 3) := by decide +kernel
theorem dX9_countOf_57 : decode cX9_countOf 57 = .ok (.iload 4, 2) := by decide +kernel
theorem dX9_countOf_59 : decode cX9_countOf 59 = .ok (.ireturn, 1) := by decide +kernel
theorem dX9_hasEnded_0 : decode cX9_hasEnded 0 = .ok (.aload_n 0, 1) := by decide +kernel
theorem dX9_hasEnded_1 : decode cX9_hasEnded 1 = .ok (.getfield 114, 3) := by decide +kernel
theorem dX9_hasEnded_4 : decode cX9_hasEnded 4 = .ok (.iload_n 1, 1) := by decide +kernel
theorem dX9_hasEnded_5 : decode cX9_hasEnded 5 = .ok (.iaload, 1) := by decide +kernel
theorem dX9_hasEnded_6 : decode cX9_hasEnded 6 = .ok (.iconst 2, 1) := by decide +kernel
theorem dX9_hasEnded_7 : decode cX9_hasEnded 7 = .ok (.if_icmp .le 7, 3) := by decide +kernel
theorem dX9_hasEnded_10 : decode cX9_hasEnded 10 = .ok (.iconst 1, 1) := by decide +kernel
theorem dX9_hasEnded_11 : decode cX9_hasEnded 11 = .ok (.goto 4, 3) := by decide +kernel
theorem dX9_hasEnded_14 : decode cX9_hasEnded 14 = .ok (.iconst 0, 1) := by decide +kernel
theorem dX9_hasEnded_15 : decode cX9_hasEnded 15 = .ok (.ireturn, 1) := by decide +kernel
theorem dX9_runs_0 : decode cX9_runs 0 = .ok (.aload_n 0, 1) := by decide +kernel
theorem dX9_runs_1 : decode cX9_runs 1 = .ok (.getfield 114, 3) := by decide +kernel
theorem dX9_runs_4 : decode cX9_runs 4 = .ok (.iload_n 1, 1) := by decide +kernel
theorem dX9_runs_5 : decode cX9_runs 5 = .ok (.iconst 1, 1) := by decide +kernel
theorem dX9_runs_6 : decode cX9_runs 6 = .ok (.iastore, 1) := by decide +kernel
theorem dX9_runs_7 : decode cX9_runs 7 = .ok (.aload_n 0, 1) := by decide +kernel
theorem dX9_runs_8 : decode cX9_runs 8 = .ok (.getfield 126, 3) := by decide +kernel
theorem dX9_runs_11 : decode cX9_runs 11 = .ok (.iload_n 1, 1) := by decide +kernel
theorem dX9_runs_12 : decode cX9_runs 12 = .ok (.iconst 1, 1) := by decide +kernel
theorem dX9_runs_13 : decode cX9_runs 13 = .ok (.bastore, 1) := by decide +kernel
theorem dX9_runs_14 : decode cX9_runs 14 = .ok (.aload_n 0, 1) := by decide +kernel
theorem dX9_runs_15 : decode cX9_runs 15 = .ok (.getfield 7, 3) := by decide +kernel
theorem dX9_runs_18 : decode cX9_runs 18 = .ok (.aload_n 0, 1) := by decide +kernel
theorem dX9_runs_19 : decode cX9_runs 19 = .ok (.getfield 105, 3) := by decide +kernel
theorem dX9_runs_22 : decode cX9_runs 22 = .ok (.iload_n 1, 1) := by decide +kernel
theorem dX9_runs_23 : decode cX9_runs 23 = .ok (.iaload, 1) := by decide +kernel
theorem dX9_runs_24 : decode cX9_runs 24 = .ok (.iaload, 1) := by decide +kernel
theorem dX9_runs_25 : decode cX9_runs 25 = .ok (.aload_n 0, 1) := by decide +kernel
theorem dX9_runs_26 : decode cX9_runs 26 = .ok (.getfield 44, 3) := by decide +kernel
theorem dX9_runs_29 : decode cX9_runs 29 = .ok (.iconst 4, 1) := by decide +kernel
theorem dX9_runs_30 : decode cX9_runs 30 = .ok (.aload_n 0, 1) := by decide +kernel
theorem dX9_runs_31 : decode cX9_runs 31 = .ok (.getfield 111, 3) := by decide +kernel
theorem dX9_runs_34 : decode cX9_runs 34 = .ok (.iload_n 1, 1) := by decide +kernel
theorem dX9_runs_35 : decode cX9_runs 35 = .ok (.iaload, 1) := by decide +kernel
theorem dX9_runs_36 : decode cX9_runs 36 = .ok (.imul, 1) := by decide +kernel
theorem dX9_runs_37 : decode cX9_runs 37 = .ok (.iconst 0, 1) := by decide +kernel
theorem dX9_runs_38 : decode cX9_runs 38 = .ok (.iadd, 1) := by decide +kernel
theorem dX9_runs_39 : decode cX9_runs 39 = .ok (.iaload, 1) := by decide +kernel
theorem dX9_runs_40 : decode cX9_runs 40 = .ok (.iadd, 1) := by decide +kernel
theorem dX9_runs_41 : decode cX9_runs 41 = .ok (.istore_n 2, 1) := by decide +kernel
theorem dX9_runs_42 : decode cX9_runs 42 = .ok (.aload_n 0, 1) := by decide +kernel
theorem dX9_runs_43 : decode cX9_runs 43 = .ok (.getfield 120, 3) := by decide +kernel
theorem dX9_runs_46 : decode cX9_runs 46 = .ok (.iload_n 1, 1) := by decide +kernel
theorem dX9_runs_47 : decode cX9_runs 47 = .ok (.aload_n 0, 1) := by decide +kernel
theorem dX9_runs_48 : decode cX9_runs 48 = .ok (.getfield 220, 3) := by decide +kernel
theorem dX9_runs_51 : decode cX9_runs 51 = .ok (.iload_n 2, 1) := by decide +kernel
theorem dX9_runs_52 : decode cX9_runs 52 = .ok (.iconst 1, 1) := by decide +kernel
theorem dX9_runs_53 : decode cX9_runs 53 = .ok (.if_icmp .ge 7, 3) := by decide +kernel
theorem dX9_runs_56 : decode cX9_runs 56 = .ok (.iconst 1, 1) := by decide +kernel
theorem dX9_runs_57 : decode cX9_runs 57 = .ok (.goto 4, 3) := by decide +kernel
theorem dX9_runs_60 : decode cX9_runs 60 = .ok (.iload_n 2, 1) := by decide +kernel
theorem dX9_runs_61 : decode cX9_runs 61 = .ok (.iadd, 1) := by decide +kernel
theorem dX9_runs_62 : decode cX9_runs 62 = .ok (.iastore, 1) := by decide +kernel
theorem dX9_runs_63 : decode cX9_runs 63 = .ok (.return_, 1) := by decide +kernel
theorem dX9_setsEnd_0 : decode cX9_setsEnd 0 = .ok (.aload_n 0, 1) := by decide +kernel
theorem dX9_setsEnd_1 : decode cX9_setsEnd 1 = .ok (.getfield 114, 3) := by decide +kernel
theorem dX9_setsEnd_4 : decode cX9_setsEnd 4 = .ok (.iload_n 1, 1) := by decide +kernel
theorem dX9_setsEnd_5 : decode cX9_setsEnd 5 = .ok (.iload_n 2, 1) := by decide +kernel
theorem dX9_setsEnd_6 : decode cX9_setsEnd 6 = .ok (.iastore, 1) := by decide +kernel
theorem dX9_setsEnd_7 : decode cX9_setsEnd 7 = .ok (.aload_n 0, 1) := by decide +kernel
theorem dX9_setsEnd_8 : decode cX9_setsEnd 8 = .ok (.getfield 129, 3) := by decide +kernel
theorem dX9_setsEnd_11 : decode cX9_setsEnd 11 = .ok (.iload_n 1, 1) := by decide +kernel
theorem dX9_setsEnd_12 : decode cX9_setsEnd 12 = .ok (.aload_n 0, 1) := by decide +kernel
theorem dX9_setsEnd_13 : decode cX9_setsEnd 13 = .ok (.getfield 44, 3) := by decide +kernel
theorem dX9_setsEnd_16 : decode cX9_setsEnd 16 = .ok (.iconst 4, 1) := by decide +kernel
theorem dX9_setsEnd_17 : decode cX9_setsEnd 17 = .ok (.aload_n 0, 1) := by decide +kernel
theorem dX9_setsEnd_18 : decode cX9_setsEnd 18 = .ok (.getfield 111, 3) := by decide +kernel
theorem dX9_setsEnd_21 : decode cX9_setsEnd 21 = .ok (.iload_n 1, 1) := by decide +kernel
theorem dX9_setsEnd_22 : decode cX9_setsEnd 22 = .ok (.iaload, 1) := by decide +kernel
theorem dX9_setsEnd_23 : decode cX9_setsEnd 23 = .ok (.imul, 1) := by decide +kernel
theorem dX9_setsEnd_24 : decode cX9_setsEnd 24 = .ok (.iconst 2, 1) := by decide +kernel
theorem dX9_setsEnd_25 : decode cX9_setsEnd 25 = .ok (.iadd, 1) := by decide +kernel
theorem dX9_setsEnd_26 : decode cX9_setsEnd 26 = .ok (.iaload, 1) := by decide +kernel
theorem dX9_setsEnd_27 : decode cX9_setsEnd 27 = .ok (.iconst 1, 1) := by decide +kernel
theorem dX9_setsEnd_28 : decode cX9_setsEnd 28 = .ok (.if_icmp .ne 23, 3) := by decide +kernel
theorem dX9_setsEnd_31 : decode cX9_setsEnd 31 = .ok (.iload_n 2, 1) := by decide +kernel
theorem dX9_setsEnd_32 : decode cX9_setsEnd 32 = .ok (.iconst 3, 1) := by decide +kernel
theorem dX9_setsEnd_33 : decode cX9_setsEnd 33 = .ok (.if_icmp .eq 14, 3) := by decide +kernel
theorem dX9_setsEnd_36 : decode cX9_setsEnd 36 = .ok (.iload_n 2, 1) := by decide +kernel
theorem dX9_setsEnd_37 : decode cX9_setsEnd 37 = .ok (.iconst 4, 1) := by decide +kernel
theorem dX9_setsEnd_38 : decode cX9_setsEnd 38 = .ok (.if_icmp .eq 9, 3) := by decide +kernel
theorem dX9_setsEnd_41 : decode cX9_setsEnd 41 = .ok (.iload_n 2, 1) := by decide +kernel
theorem dX9_setsEnd_42 : decode cX9_setsEnd 42 = .ok (.bipush 6, 2) := by decide +kernel
theorem dX9_setsEnd_44 : decode cX9_setsEnd 44 = .ok (.if_icmp .ne 7, 3) := by decide +kernel
theorem dX9_setsEnd_47 : decode cX9_setsEnd 47 = .ok (.iconst 1, 1) := by decide +kernel
theorem dX9_setsEnd_48 : decode cX9_setsEnd 48 = .ok (.goto 4, 3) := by decide +kernel
theorem dX9_setsEnd_51 : decode cX9_setsEnd 51 = .ok (.iconst 0, 1) := by decide +kernel
theorem dX9_setsEnd_52 : decode cX9_setsEnd 52 = .ok (.bastore, 1) := by decide +kernel
theorem dX9_setsEnd_53 : decode cX9_setsEnd 53 = .ok (.return_, 1) := by decide +kernel
theorem dX9_liveOf_0 : decode cX9_liveOf 0 = .ok (.iconst 0, 1) := by decide +kernel
theorem dX9_liveOf_1 : decode cX9_liveOf 1 = .ok (.istore_n 3, 1) := by decide +kernel
theorem dX9_liveOf_2 : decode cX9_liveOf 2 = .ok (.iload_n 3, 1) := by decide +kernel
theorem dX9_liveOf_3 : decode cX9_liveOf 3 = .ok (.aload_n 0, 1) := by decide +kernel
theorem dX9_liveOf_4 : decode cX9_liveOf 4 = .ok (.getfield 217, 3) := by decide +kernel
theorem dX9_liveOf_7 : decode cX9_liveOf 7 = .ok (.if_icmp .ge 34, 3) := by decide +kernel
theorem dX9_liveOf_10 : decode cX9_liveOf 10 = .ok (.aload_n 0, 1) := by decide +kernel
theorem dX9_liveOf_11 : decode cX9_liveOf 11 = .ok (.getfield 99, 3) := by decide +kernel
theorem dX9_liveOf_14 : decode cX9_liveOf 14 = .ok (.iload_n 3, 1) := by decide +kernel
theorem dX9_liveOf_15 : decode cX9_liveOf 15 = .ok (.iaload, 1) := by decide +kernel
theorem dX9_liveOf_16 : decode cX9_liveOf 16 = .ok (.iload_n 1, 1) := by decide +kernel
theorem dX9_liveOf_17 : decode cX9_liveOf 17 = .ok (.if_icmp .ne 18, 3) := by decide +kernel
theorem dX9_liveOf_20 : decode cX9_liveOf 20 = .ok (.aload_n 0, 1) := by decide +kernel
theorem dX9_liveOf_21 : decode cX9_liveOf 21 = .ok (.iload_n 3, 1) := by decide +kernel
theorem dX9_liveOf_22 : decode cX9_liveOf 22 = .ok (.invokevirtual 223, 3) := by decide +kernel
theorem dX9_liveOf_25 : decode cX9_liveOf 25 = .ok (.ifCond .ne 10, 3) := by decide +kernel
theorem dX9_liveOf_28 : decode cX9_liveOf 28 = .ok (.iload_n 3, 1) := by decide +kernel
theorem dX9_liveOf_29 : decode cX9_liveOf 29 = .ok (.iload_n 2, 1) := by decide +kernel
theorem dX9_liveOf_30 : decode cX9_liveOf 30 = .ok (.if_icmp .eq 5, 3) := by decide +kernel
theorem dX9_liveOf_33 : decode cX9_liveOf 33 = .ok (.iload_n 3, 1) := by decide +kernel
theorem dX9_liveOf_34 : decode cX9_liveOf 34 = .ok (.ireturn, 1) := by decide +kernel
theorem dX9_liveOf_35 : decode cX9_liveOf 35 = .ok (.iinc 3 1, 3) := by decide +kernel
theorem dX9_liveOf_38 : decode cX9_liveOf 38 = .ok (.goto (-36), 3) := by decide +kernel
theorem dX9_liveOf_41 : decode cX9_liveOf 41 = .ok (.iconst (-1), 1) := by decide +kernel
theorem dX9_liveOf_42 : decode cX9_liveOf 42 = .ok (.ireturn, 1) := by decide +kernel
theorem dX9_hasRunIn_0 : decode cX9_hasRunIn 0 = .ok (.iconst 0, 1) := by decide +kernel
theorem dX9_hasRunIn_1 : decode cX9_hasRunIn 1 = .ok (.istore_n 3, 1) := by decide +kernel
theorem dX9_hasRunIn_2 : decode cX9_hasRunIn 2 = .ok (.iconst 0, 1) := by decide +kernel
theorem dX9_hasRunIn_3 : decode cX9_hasRunIn 3 = .ok (.istore 4, 2) := by decide +kernel
theorem dX9_hasRunIn_5 : decode cX9_hasRunIn 5 = .ok (.iload 4, 2) := by decide +kernel
theorem dX9_hasRunIn_7 : decode cX9_hasRunIn 7 = .ok (.aload_n 0, 1) := by decide +kernel
theorem dX9_hasRunIn_8 : decode cX9_hasRunIn 8 = .ok (.getfield 217, 3) := by decide +kernel
theorem dX9_hasRunIn_11 : decode cX9_hasRunIn 11 = .ok (.if_icmp .ge 51, 3) := by decide +kernel
theorem dX9_hasRunIn_14 : decode cX9_hasRunIn 14 = .ok (.iload_n 3, 1) := by decide +kernel
theorem dX9_hasRunIn_15 : decode cX9_hasRunIn 15 = .ok (.ifCond .ne 35, 3) := by decide +kernel
theorem dX9_hasRunIn_18 : decode cX9_hasRunIn 18 = .ok (.aload_n 0, 1) := by decide +kernel
theorem dX9_hasRunIn_19 : decode cX9_hasRunIn 19 = .ok (.getfield 99, 3) := by decide +kernel
theorem dX9_hasRunIn_22 : decode cX9_hasRunIn 22 = .ok (.iload 4, 2) := by decide +kernel
theorem dX9_hasRunIn_24 : decode cX9_hasRunIn 24 = .ok (.iaload, 1) := by decide +kernel
theorem dX9_hasRunIn_25 : decode cX9_hasRunIn 25 = .ok (.iload_n 1, 1) := by decide +kernel
theorem dX9_hasRunIn_26 : decode cX9_hasRunIn 26 = .ok (.if_icmp .ne 28, 3) := by decide +kernel
theorem dX9_hasRunIn_29 : decode cX9_hasRunIn 29 = .ok (.aload_n 0, 1) := by decide +kernel
theorem dX9_hasRunIn_30 : decode cX9_hasRunIn 30 = .ok (.getfield 102, 3) := by decide +kernel
theorem dX9_hasRunIn_33 : decode cX9_hasRunIn 33 = .ok (.iload 4, 2) := by decide +kernel
theorem dX9_hasRunIn_35 : decode cX9_hasRunIn 35 = .ok (.iaload, 1) := by decide +kernel
theorem dX9_hasRunIn_36 : decode cX9_hasRunIn 36 = .ok (.iload_n 2, 1) := by decide +kernel
theorem dX9_hasRunIn_37 : decode cX9_hasRunIn 37 = .ok (.if_icmp .ne 17, 3) := by decide +kernel
theorem dX9_hasRunIn_40 : decode cX9_hasRunIn 40 = .ok (.aload_n 0, 1) := by decide +kernel
theorem dX9_hasRunIn_41 : decode cX9_hasRunIn 41 = .ok (.getfield 126, 3) := by decide +kernel
theorem dX9_hasRunIn_44 : decode cX9_hasRunIn 44 = .ok (.iload 4, 2) := by decide +kernel
theorem dX9_hasRunIn_46 : decode cX9_hasRunIn 46 = .ok (.baload, 1) := by decide +kernel
theorem dX9_hasRunIn_47 : decode cX9_hasRunIn 47 = .ok (.ifCond .eq 7, 3) := by decide +kernel
theorem dX9_hasRunIn_50 : decode cX9_hasRunIn 50 = .ok (.iconst 1, 1) := by decide +kernel
theorem dX9_hasRunIn_51 : decode cX9_hasRunIn 51 = .ok (.goto 4, 3) := by decide +kernel
theorem dX9_hasRunIn_54 : decode cX9_hasRunIn 54 = .ok (.iconst 0, 1) := by decide +kernel
theorem dX9_hasRunIn_55 : decode cX9_hasRunIn 55 = .ok (.istore_n 3, 1) := by decide +kernel
theorem dX9_hasRunIn_56 : decode cX9_hasRunIn 56 = .ok (.iinc 4 1, 3) := by decide +kernel
theorem dX9_hasRunIn_59 : decode cX9_hasRunIn 59 = .ok (.goto (-54), 3) := by decide +kernel
theorem dX9_hasRunIn_62 : decode cX9_hasRunIn 62 = .ok (.iload_n 3, 1) := by decide +kernel
theorem dX9_hasRunIn_63 : decode cX9_hasRunIn 63 = .ok (.ireturn, 1) := by decide +kernel
theorem dX9_repairsFor_0 : decode cX9_repairsFor 0 = .ok (.aload_n 0, 1) := by decide +kernel
theorem dX9_repairsFor_1 : decode cX9_repairsFor 1 = .ok (.getfield 141, 3) := by decide +kernel
theorem dX9_repairsFor_4 : decode cX9_repairsFor 4 = .ok (.iload_n 1, 1) := by decide +kernel
theorem dX9_repairsFor_5 : decode cX9_repairsFor 5 = .ok (.iaload, 1) := by decide +kernel
theorem dX9_repairsFor_6 : decode cX9_repairsFor 6 = .ok (.istore_n 2, 1) := by decide +kernel
theorem dX9_repairsFor_7 : decode cX9_repairsFor 7 = .ok (.iload_n 2, 1) := by decide +kernel
theorem dX9_repairsFor_8 : decode cX9_repairsFor 8 = .ok (.ifCond .lt 97, 3) := by decide +kernel
theorem dX9_repairsFor_11 : decode cX9_repairsFor 11 = .ok (.aload_n 0, 1) := by decide +kernel
theorem dX9_repairsFor_12 : decode cX9_repairsFor 12 = .ok (.getfield 23, 3) := by decide +kernel
theorem dX9_repairsFor_15 : decode cX9_repairsFor 15 = .ok (.iconst 4, 1) := by decide +kernel
theorem dX9_repairsFor_16 : decode cX9_repairsFor 16 = .ok (.aload_n 0, 1) := by decide +kernel
theorem dX9_repairsFor_17 : decode cX9_repairsFor 17 = .ok (.getfield 105, 3) := by decide +kernel
theorem dX9_repairsFor_20 : decode cX9_repairsFor 20 = .ok (.iload_n 1, 1) := by decide +kernel
theorem dX9_repairsFor_21 : decode cX9_repairsFor 21 = .ok (.iaload, 1) := by decide +kernel
theorem dX9_repairsFor_22 : decode cX9_repairsFor 22 = .ok (.imul, 1) := by decide +kernel
theorem dX9_repairsFor_23 : decode cX9_repairsFor 23 = .ok (.iload_n 2, 1) := by decide +kernel
theorem dX9_repairsFor_24 : decode cX9_repairsFor 24 = .ok (.iadd, 1) := by decide +kernel
theorem dX9_repairsFor_25 : decode cX9_repairsFor 25 = .ok (.iaload, 1) := by decide +kernel
theorem dX9_repairsFor_26 : decode cX9_repairsFor 26 = .ok (.istore_n 3, 1) := by decide +kernel
theorem dX9_repairsFor_27 : decode cX9_repairsFor 27 = .ok (.iload_n 3, 1) := by decide +kernel
theorem dX9_repairsFor_28 : decode cX9_repairsFor 28 = .ok (.iconst (-1), 1) := by decide +kernel
theorem dX9_repairsFor_29 : decode cX9_repairsFor 29 = .ok (.if_icmp .eq 70, 3) := by decide +kernel
theorem dX9_repairsFor_32 : decode cX9_repairsFor 32 = .ok (.aload_n 0, 1) := by decide +kernel
theorem dX9_repairsFor_33 : decode cX9_repairsFor 33 = .ok (.iload_n 1, 1) := by decide +kernel
theorem dX9_repairsFor_34 : decode cX9_repairsFor 34 = .ok (.iload_n 2, 1) := by decide +kernel
theorem dX9_repairsFor_35 : decode cX9_repairsFor 35 = .ok (.invokevirtual 226, 3) := by decide +kernel
theorem dX9_repairsFor_38 : decode cX9_repairsFor 38 = .ok (.ifCond .eq 61, 3) := by decide +kernel
theorem dX9_repairsFor_41 : decode cX9_repairsFor 41 = .ok (.aload_n 0, 1) := by decide +kernel
theorem dX9_repairsFor_42 : decode cX9_repairsFor 42 = .ok (.getfield 230, 3) := by decide +kernel
theorem dX9_repairsFor_45 : decode cX9_repairsFor 45 = .ok (.bipush 100, 2) := by decide +kernel
theorem dX9_repairsFor_47 : decode cX9_repairsFor 47 = .ok (.if_icmp .ge 52, 3) := by decide +kernel
theorem dX9_repairsFor_50 : decode cX9_repairsFor 50 = .ok (.aload_n 0, 1) := by decide +kernel
theorem dX9_repairsFor_51 : decode cX9_repairsFor 51 = .ok (.getfield 177, 3) := by decide +kernel
theorem dX9_repairsFor_54 : decode cX9_repairsFor 54 = .ok (.aload_n 0, 1) := by decide +kernel
theorem dX9_repairsFor_55 : decode cX9_repairsFor 55 = .ok (.getfield 230, 3) := by decide +kernel
theorem dX9_repairsFor_58 : decode cX9_repairsFor 58 = .ok (.aload_n 0, 1) := by decide +kernel
theorem dX9_repairsFor_59 : decode cX9_repairsFor 59 = .ok (.getfield 105, 3) := by decide +kernel
theorem dX9_repairsFor_62 : decode cX9_repairsFor 62 = .ok (.iload_n 1, 1) := by decide +kernel
theorem dX9_repairsFor_63 : decode cX9_repairsFor 63 = .ok (.iaload, 1) := by decide +kernel
theorem dX9_repairsFor_64 : decode cX9_repairsFor 64 = .ok (.iastore, 1) := by decide +kernel
theorem dX9_repairsFor_65 : decode cX9_repairsFor 65 = .ok (.aload_n 0, 1) := by decide +kernel
theorem dX9_repairsFor_66 : decode cX9_repairsFor 66 = .ok (.getfield 180, 3) := by decide +kernel
theorem dX9_repairsFor_69 : decode cX9_repairsFor 69 = .ok (.aload_n 0, 1) := by decide +kernel
theorem dX9_repairsFor_70 : decode cX9_repairsFor 70 = .ok (.getfield 230, 3) := by decide +kernel
theorem dX9_repairsFor_73 : decode cX9_repairsFor 73 = .ok (.iload_n 3, 1) := by decide +kernel
theorem dX9_repairsFor_74 : decode cX9_repairsFor 74 = .ok (.iastore, 1) := by decide +kernel
theorem dX9_repairsFor_75 : decode cX9_repairsFor 75 = .ok (.aload_n 0, 1) := by decide +kernel
theorem dX9_repairsFor_76 : decode cX9_repairsFor 76 = .ok (.getfield 141, 3) := by decide +kernel
theorem dX9_repairsFor_79 : decode cX9_repairsFor 79 = .ok (.sipush 440, 3) := by decide +kernel
theorem dX9_repairsFor_82 : decode cX9_repairsFor 82 = .ok (.aload_n 0, 1) := by decide +kernel
theorem dX9_repairsFor_83 : decode cX9_repairsFor 83 = .ok (.getfield 230, 3) := by decide +kernel
theorem dX9_repairsFor_86 : decode cX9_repairsFor 86 = .ok (.iadd, 1) := by decide +kernel
theorem dX9_repairsFor_87 : decode cX9_repairsFor 87 = .ok (.iconst 0, 1) := by decide +kernel
theorem dX9_repairsFor_88 : decode cX9_repairsFor 88 = .ok (.iastore, 1) := by decide +kernel
theorem dX9_repairsFor_89 : decode cX9_repairsFor 89 = .ok (.aload_n 0, 1) := by decide +kernel
theorem dX9_repairsFor_90 : decode cX9_repairsFor 90 = .ok (.dup, 1) := by decide +kernel
theorem dX9_repairsFor_91 : decode cX9_repairsFor 91 = .ok (.getfield 230, 3) := by decide +kernel
theorem dX9_repairsFor_94 : decode cX9_repairsFor 94 = .ok (.iconst 1, 1) := by decide +kernel
theorem dX9_repairsFor_95 : decode cX9_repairsFor 95 = .ok (.iadd, 1) := by decide +kernel
theorem dX9_repairsFor_96 : decode cX9_repairsFor 96 = .ok (.putfield 230, 3) := by decide +kernel
theorem dX9_repairsFor_99 : decode cX9_repairsFor 99 = .ok (.iinc 2 (-1), 3) := by decide +kernel
theorem dX9_repairsFor_102 : decode cX9_repairsFor 102 = .ok (.goto (-95), 3) := by decide +kernel
theorem dX9_repairsFor_105 : decode cX9_repairsFor 105 = .ok (.return_, 1) := by decide +kernel
theorem dX9_endsCall_0 : decode cX9_endsCall 0 = .ok (.iconst 1, 1) := by decide +kernel
theorem dX9_endsCall_1 : decode cX9_endsCall 1 = .ok (.istore_n 3, 1) := by decide +kernel
theorem dX9_endsCall_2 : decode cX9_endsCall 2 = .ok (.aload_n 0, 1) := by decide +kernel
theorem dX9_endsCall_3 : decode cX9_endsCall 3 = .ok (.getfield 138, 3) := by decide +kernel
theorem dX9_endsCall_6 : decode cX9_endsCall 6 = .ok (.iconst 0, 1) := by decide +kernel
theorem dX9_endsCall_7 : decode cX9_endsCall 7 = .ok (.iload_n 1, 1) := by decide +kernel
theorem dX9_endsCall_8 : decode cX9_endsCall 8 = .ok (.iastore, 1) := by decide +kernel
theorem dX9_endsCall_9 : decode cX9_endsCall 9 = .ok (.aload_n 0, 1) := by decide +kernel
theorem dX9_endsCall_10 : decode cX9_endsCall 10 = .ok (.iload_n 1, 1) := by decide +kernel
theorem dX9_endsCall_11 : decode cX9_endsCall 11 = .ok (.iload_n 2, 1) := by decide +kernel
theorem dX9_endsCall_12 : decode cX9_endsCall 12 = .ok (.invokevirtual 233, 3) := by decide +kernel
theorem dX9_endsCall_15 : decode cX9_endsCall 15 = .ok (.iload_n 3, 1) := by decide +kernel
theorem dX9_endsCall_16 : decode cX9_endsCall 16 = .ok (.ifCond .le 77, 3) := by decide +kernel
theorem dX9_endsCall_19 : decode cX9_endsCall 19 = .ok (.aload_n 0, 1) := by decide +kernel
theorem dX9_endsCall_20 : decode cX9_endsCall 20 = .ok (.aload_n 0, 1) := by decide +kernel
theorem dX9_endsCall_21 : decode cX9_endsCall 21 = .ok (.getfield 138, 3) := by decide +kernel
theorem dX9_endsCall_24 : decode cX9_endsCall 24 = .ok (.iload_n 3, 1) := by decide +kernel
theorem dX9_endsCall_25 : decode cX9_endsCall 25 = .ok (.iconst 1, 1) := by decide +kernel
theorem dX9_endsCall_26 : decode cX9_endsCall 26 = .ok (.isub, 1) := by decide +kernel
theorem dX9_endsCall_27 : decode cX9_endsCall 27 = .ok (.iaload, 1) := by decide +kernel
theorem dX9_endsCall_28 : decode cX9_endsCall 28 = .ok (.iconst (-1), 1) := by decide +kernel
theorem dX9_endsCall_29 : decode cX9_endsCall 29 = .ok (.invokevirtual 237, 3) := by decide +kernel
theorem dX9_endsCall_32 : decode cX9_endsCall 32 = .ok (.istore 4, 2) := by decide +kernel
theorem dX9_endsCall_34 : decode cX9_endsCall 34 = .ok (.iload 4, 2) := by decide +kernel
theorem dX9_endsCall_36 : decode cX9_endsCall 36 = .ok (.iconst (-1), 1) := by decide +kernel
theorem dX9_endsCall_37 : decode cX9_endsCall 37 = .ok (.if_icmp .eq 25, 3) := by decide +kernel
theorem dX9_endsCall_40 : decode cX9_endsCall 40 = .ok (.aload_n 0, 1) := by decide +kernel
theorem dX9_endsCall_41 : decode cX9_endsCall 41 = .ok (.iload 4, 2) := by decide +kernel
theorem dX9_endsCall_43 : decode cX9_endsCall 43 = .ok (.bipush 7, 2) := by decide +kernel
theorem dX9_endsCall_45 : decode cX9_endsCall 45 = .ok (.invokevirtual 233, 3) := by decide +kernel
theorem dX9_endsCall_48 : decode cX9_endsCall 48 = .ok (.aload_n 0, 1) := by decide +kernel
theorem dX9_endsCall_49 : decode cX9_endsCall 49 = .ok (.getfield 138, 3) := by decide +kernel
theorem dX9_endsCall_52 : decode cX9_endsCall 52 = .ok (.iload_n 3, 1) := by decide +kernel
theorem dX9_endsCall_53 : decode cX9_endsCall 53 = .ok (.iload 4, 2) := by decide +kernel
theorem dX9_endsCall_55 : decode cX9_endsCall 55 = .ok (.iastore, 1) := by decide +kernel
theorem dX9_endsCall_56 : decode cX9_endsCall 56 = .ok (.iinc 3 1, 3) := by decide +kernel
theorem dX9_endsCall_59 : decode cX9_endsCall 59 = .ok (.goto 31, 3) := by decide +kernel
theorem dX9_endsCall_62 : decode cX9_endsCall 62 = .ok (.iinc 3 (-1), 3) := by decide +kernel
theorem dX9_endsCall_65 : decode cX9_endsCall 65 = .ok (.aload_n 0, 1) := by decide +kernel
theorem dX9_endsCall_66 : decode cX9_endsCall 66 = .ok (.getfield 114, 3) := by decide +kernel
theorem dX9_endsCall_69 : decode cX9_endsCall 69 = .ok (.aload_n 0, 1) := by decide +kernel
theorem dX9_endsCall_70 : decode cX9_endsCall 70 = .ok (.getfield 138, 3) := by decide +kernel
theorem dX9_endsCall_73 : decode cX9_endsCall 73 = .ok (.iload_n 3, 1) := by decide +kernel
theorem dX9_endsCall_74 : decode cX9_endsCall 74 = .ok (.iaload, 1) := by decide +kernel
theorem dX9_endsCall_75 : decode cX9_endsCall 75 = .ok (.iaload, 1) := by decide +kernel
theorem dX9_endsCall_76 : decode cX9_endsCall 76 = .ok (.iconst 3, 1) := by decide +kernel
theorem dX9_endsCall_77 : decode cX9_endsCall 77 = .ok (.if_icmp .eq 13, 3) := by decide +kernel
theorem dX9_endsCall_80 : decode cX9_endsCall 80 = .ok (.aload_n 0, 1) := by decide +kernel
theorem dX9_endsCall_81 : decode cX9_endsCall 81 = .ok (.aload_n 0, 1) := by decide +kernel
theorem dX9_endsCall_82 : decode cX9_endsCall 82 = .ok (.getfield 138, 3) := by decide +kernel
theorem dX9_endsCall_85 : decode cX9_endsCall 85 = .ok (.iload_n 3, 1) := by decide +kernel
theorem dX9_endsCall_86 : decode cX9_endsCall 86 = .ok (.iaload, 1) := by decide +kernel
theorem dX9_endsCall_87 : decode cX9_endsCall 87 = .ok (.invokevirtual 240, 3) := by decide +kernel
theorem dX9_endsCall_90 : decode cX9_endsCall 90 = .ok (.goto (-75), 3) := by decide +kernel
theorem dX9_endsCall_93 : decode cX9_endsCall 93 = .ok (.return_, 1) := by decide +kernel
theorem dX9_turnsOff_0 : decode cX9_turnsOff 0 = .ok (.aload_n 0, 1) := by decide +kernel
theorem dX9_turnsOff_1 : decode cX9_turnsOff 1 = .ok (.iload_n 1, 1) := by decide +kernel
theorem dX9_turnsOff_2 : decode cX9_turnsOff 2 = .ok (.iconst (-1), 1) := by decide +kernel
theorem dX9_turnsOff_3 : decode cX9_turnsOff 3 = .ok (.invokevirtual 237, 3) := by decide +kernel
theorem dX9_turnsOff_6 : decode cX9_turnsOff 6 = .ok (.istore_n 2, 1) := by decide +kernel
theorem dX9_turnsOff_7 : decode cX9_turnsOff 7 = .ok (.iload_n 2, 1) := by decide +kernel
theorem dX9_turnsOff_8 : decode cX9_turnsOff 8 = .ok (.iconst (-1), 1) := by decide +kernel
theorem dX9_turnsOff_9 : decode cX9_turnsOff 9 = .ok (.if_icmp .eq 20, 3) := by decide +kernel
theorem dX9_turnsOff_12 : decode cX9_turnsOff 12 = .ok (.aload_n 0, 1) := by decide +kernel
theorem dX9_turnsOff_13 : decode cX9_turnsOff 13 = .ok (.iload_n 2, 1) := by decide +kernel
theorem dX9_turnsOff_14 : decode cX9_turnsOff 14 = .ok (.bipush 7, 2) := by decide +kernel
theorem dX9_turnsOff_16 : decode cX9_turnsOff 16 = .ok (.invokevirtual 244, 3) := by decide +kernel
theorem dX9_turnsOff_19 : decode cX9_turnsOff 19 = .ok (.aload_n 0, 1) := by decide +kernel
theorem dX9_turnsOff_20 : decode cX9_turnsOff 20 = .ok (.iload_n 1, 1) := by decide +kernel
theorem dX9_turnsOff_21 : decode cX9_turnsOff 21 = .ok (.iconst (-1), 1) := by decide +kernel
theorem dX9_turnsOff_22 : decode cX9_turnsOff 22 = .ok (.invokevirtual 237, 3) := by decide +kernel
theorem dX9_turnsOff_25 : decode cX9_turnsOff 25 = .ok (.istore_n 2, 1) := by decide +kernel
theorem dX9_turnsOff_26 : decode cX9_turnsOff 26 = .ok (.goto (-19), 3) := by decide +kernel
theorem dX9_turnsOff_29 : decode cX9_turnsOff 29 = .ok (.return_, 1) := by decide +kernel
theorem dX9_isKnown_0 : decode cX9_isKnown 0 = .ok (.aload_n 0, 1) := by decide +kernel
theorem dX9_isKnown_1 : decode cX9_isKnown 1 = .ok (.iload_n 1, 1) := by decide +kernel
theorem dX9_isKnown_2 : decode cX9_isKnown 2 = .ok (.invokevirtual 223, 3) := by decide +kernel
