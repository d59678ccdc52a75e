theorem dX8_runQueued_1 : decode cX8_runQueued 1 = .ok (.istore_n 1, 1) := by decide +kernel
theorem dX8_runQueued_2 : decode cX8_runQueued 2 = .ok (.iload_n 1, 1) := by decide +kernel
theorem dX8_runQueued_3 : decode cX8_runQueued 3 = .ok (.aload_n 0, 1) := by decide +kernel
theorem dX8_runQueued_4 : decode cX8_runQueued 4 = .ok (.getfield 39, 3) := by decide +kernel
theorem dX8_runQueued_7 : decode cX8_runQueued 7 = .ok (.invokevirtual 82, 3) := by decide +kernel
theorem dX8_runQueued_10 : decode cX8_runQueued 10 = .ok (.if_icmp .ge 79, 3) := by decide +kernel
theorem dX8_runQueued_13 : decode cX8_runQueued 13 = .ok (.aload_n 0, 1) := by decide +kernel
theorem dX8_runQueued_14 : decode cX8_runQueued 14 = .ok (.getfield 39, 3) := by decide +kernel
theorem dX8_runQueued_17 : decode cX8_runQueued 17 = .ok (.iload_n 1, 1) := by decide +kernel
theorem dX8_runQueued_18 : decode cX8_runQueued 18 = .ok (.invokevirtual 98, 3) := by decide +kernel
theorem dX8_runQueued_21 : decode cX8_runQueued 21 = .ok (.checkcast 86, 3) := by decide +kernel
theorem dX8_runQueued_24 : decode cX8_runQueued 24 = .ok (.astore_n 2, 1) := by decide +kernel
theorem dX8_runQueued_25 : decode cX8_runQueued 25 = .ok (.aload_n 2, 1) := by decide +kernel
theorem dX8_runQueued_26 : decode cX8_runQueued 26 = .ok (.getfield 337, 3) := by decide +kernel
theorem dX8_runQueued_29 : decode cX8_runQueued 29 = .ok (.aload_n 2, 1) := by decide +kernel
theorem dX8_runQueued_30 : decode cX8_runQueued 30 = .ok (.getfield 340, 3) := by decide +kernel
theorem dX8_runQueued_33 : decode cX8_runQueued 33 = .ok (.isub, 1) := by decide +kernel
theorem dX8_runQueued_34 : decode cX8_runQueued 34 = .ok (.istore_n 3, 1) := by decide +kernel
theorem dX8_runQueued_35 : decode cX8_runQueued 35 = .ok (.iload_n 3, 1) := by decide +kernel
theorem dX8_runQueued_36 : decode cX8_runQueued 36 = .ok (.ifCond .le 47, 3) := by decide +kernel
theorem dX8_runQueued_39 : decode cX8_runQueued 39 = .ok (.aload_n 2, 1) := by decide +kernel
theorem dX8_runQueued_40 : decode cX8_runQueued 40 = .ok (.getfield 343, 3) := by decide +kernel
theorem dX8_runQueued_43 : decode cX8_runQueued 43 = .ok (.invokevirtual 71, 3) := by decide +kernel
theorem dX8_runQueued_46 : decode cX8_runQueued 46 = .ok (.ifCond .ne 37, 3) := by decide +kernel
theorem dX8_runQueued_49 : decode cX8_runQueued 49 = .ok (.aload_n 2, 1) := by decide +kernel
theorem dX8_runQueued_50 : decode cX8_runQueued 50 = .ok (.getfield 343, 3) := by decide +kernel
theorem dX8_runQueued_53 : decode cX8_runQueued 53 = .ok (.iconst 0, 1) := by decide +kernel
theorem dX8_runQueued_54 : decode cX8_runQueued 54 = .ok (.invokevirtual 98, 3) := by decide +kernel
theorem dX8_runQueued_57 : decode cX8_runQueued 57 = .ok (.checkcast 204, 3) := by decide +kernel
theorem dX8_runQueued_60 : decode cX8_runQueued 60 = .ok (.astore 4, 2) := by decide +kernel
theorem dX8_runQueued_62 : decode cX8_runQueued 62 = .ok (.aload_n 2, 1) := by decide +kernel
theorem dX8_runQueued_63 : decode cX8_runQueued 63 = .ok (.getfield 343, 3) := by decide +kernel
theorem dX8_runQueued_66 : decode cX8_runQueued 66 = .ok (.iconst 0, 1) := by decide +kernel
theorem dX8_runQueued_67 : decode cX8_runQueued 67 = .ok (.invokevirtual 346, 3) := by decide +kernel
theorem dX8_runQueued_70 : decode cX8_runQueued 70 = .ok (.pop, 1) := by decide +kernel
theorem dX8_runQueued_71 : decode cX8_runQueued 71 = .ok (.aload_n 0, 1) := by decide +kernel
theorem dX8_runQueued_72 : decode cX8_runQueued 72 = .ok (.aload 4, 2) := by decide +kernel
theorem dX8_runQueued_74 : decode cX8_runQueued 74 = .ok (.invokevirtual 349, 3) := by decide +kernel
theorem dX8_runQueued_77 : decode cX8_runQueued 77 = .ok (.iinc 3 (-1), 3) := by decide +kernel
theorem dX8_runQueued_80 : decode cX8_runQueued 80 = .ok (.goto (-45), 3) := by decide +kernel
theorem dX8_runQueued_83 : decode cX8_runQueued 83 = .ok (.iinc 1 1, 3) := by decide +kernel
theorem dX8_runQueued_86 : decode cX8_runQueued 86 = .ok (.goto (-84), 3) := by decide +kernel
theorem dX8_runQueued_89 : decode cX8_runQueued 89 = .ok (.return_, 1) := by decide +kernel
theorem dX8_tellLoads_0 : decode cX8_tellLoads 0 = .ok (.iconst 0, 1) := by decide +kernel
theorem dX8_tellLoads_1 : decode cX8_tellLoads 1 = .ok (.istore_n 1, 1) := by decide +kernel
theorem dX8_tellLoads_2 : decode cX8_tellLoads 2 = .ok (.iload_n 1, 1) := by decide +kernel
theorem dX8_tellLoads_3 : decode cX8_tellLoads 3 = .ok (.aload_n 0, 1) := by decide +kernel
theorem dX8_tellLoads_4 : decode cX8_tellLoads 4 = .ok (.getfield 39, 3) := by decide +kernel
theorem dX8_tellLoads_7 : decode cX8_tellLoads 7 = .ok (.invokevirtual 82, 3) := by decide +kernel
theorem dX8_tellLoads_10 : decode cX8_tellLoads 10 = .ok (.if_icmp .ge 23, 3) := by decide +kernel
theorem dX8_tellLoads_13 : decode cX8_tellLoads 13 = .ok (.aload_n 0, 1) := by decide +kernel
theorem dX8_tellLoads_14 : decode cX8_tellLoads 14 = .ok (.getfield 39, 3) := by decide +kernel
theorem dX8_tellLoads_17 : decode cX8_tellLoads 17 = .ok (.iload_n 1, 1) := by decide +kernel
theorem dX8_tellLoads_18 : decode cX8_tellLoads 18 = .ok (.invokevirtual 98, 3) := by decide +kernel
theorem dX8_tellLoads_21 : decode cX8_tellLoads 21 = .ok (.checkcast 86, 3) := by decide +kernel
theorem dX8_tellLoads_24 : decode cX8_tellLoads 24 = .ok (.invokevirtual 353, 3) := by decide +kernel
theorem dX8_tellLoads_27 : decode cX8_tellLoads 27 = .ok (.iinc 1 1, 3) := by decide +kernel
theorem dX8_tellLoads_30 : decode cX8_tellLoads 30 = .ok (.goto (-28), 3) := by decide +kernel
theorem dX8_tellLoads_33 : decode cX8_tellLoads 33 = .ok (.return_, 1) := by decide +kernel
theorem dX8_endIfOver_0 : decode cX8_endIfOver 0 = .ok (.aload_n 1, 1) := by decide +kernel
theorem dX8_endIfOver_1 : decode cX8_endIfOver 1 = .ok (.getfield 323, 3) := by decide +kernel
theorem dX8_endIfOver_4 : decode cX8_endIfOver 4 = .ok (.getfield 249, 3) := by decide +kernel
theorem dX8_endIfOver_7 : decode cX8_endIfOver 7 = .ok (.bipush 8, 2) := by decide +kernel
theorem dX8_endIfOver_9 : decode cX8_endIfOver 9 = .ok (.if_icmp .eq 15, 3) := by decide +kernel
theorem dX8_endIfOver_12 : decode cX8_endIfOver 12 = .ok (.aload_n 0, 1) := by decide +kernel
theorem dX8_endIfOver_13 : decode cX8_endIfOver 13 = .ok (.aload_n 1, 1) := by decide +kernel
theorem dX8_endIfOver_14 : decode cX8_endIfOver 14 = .ok (.aload_n 1, 1) := by decide +kernel
theorem dX8_endIfOver_15 : decode cX8_endIfOver 15 = .ok (.getfield 323, 3) := by decide +kernel
theorem dX8_endIfOver_18 : decode cX8_endIfOver 18 = .ok (.getfield 249, 3) := by decide +kernel
theorem dX8_endIfOver_21 : decode cX8_endIfOver 21 = .ok (.invokevirtual 326, 3) := by decide +kernel
theorem dX8_endIfOver_24 : decode cX8_endIfOver 24 = .ok (.return_, 1) := by decide +kernel
theorem dX8_endRequest_0 : decode cX8_endRequest 0 = .ok (.aload_n 1, 1) := by decide +kernel
theorem dX8_endRequest_1 : decode cX8_endRequest 1 = .ok (.iload_n 2, 1) := by decide +kernel
theorem dX8_endRequest_2 : decode cX8_endRequest 2 = .ok (.putfield 187, 3) := by decide +kernel
theorem dX8_endRequest_5 : decode cX8_endRequest 5 = .ok (.aload_n 1, 1) := by decide +kernel
theorem dX8_endRequest_6 : decode cX8_endRequest 6 = .ok (.aload_n 0, 1) := by decide +kernel
theorem dX8_endRequest_7 : decode cX8_endRequest 7 = .ok (.getfield 140, 3) := by decide +kernel
theorem dX8_endRequest_10 : decode cX8_endRequest 10 = .ok (.putfield 190, 3) := by decide +kernel
theorem dX8_endRequest_13 : decode cX8_endRequest 13 = .ok (.aload_n 0, 1) := by decide +kernel
theorem dX8_endRequest_14 : decode cX8_endRequest 14 = .ok (.getfield 140, 3) := by decide +kernel
theorem dX8_endRequest_17 : decode cX8_endRequest 17 = .ok (.aload_n 1, 1) := by decide +kernel
theorem dX8_endRequest_18 : decode cX8_endRequest 18 = .ok (.getfield 193, 3) := by decide +kernel
theorem dX8_endRequest_21 : decode cX8_endRequest 21 = .ok (.isub, 1) := by decide +kernel
theorem dX8_endRequest_22 : decode cX8_endRequest 22 = .ok (.aload_n 0, 1) := by decide +kernel
theorem dX8_endRequest_23 : decode cX8_endRequest 23 = .ok (.getfield 16, 3) := by decide +kernel
theorem dX8_endRequest_26 : decode cX8_endRequest 26 = .ok (.if_icmp .le 7, 3) := by decide +kernel
theorem dX8_endRequest_29 : decode cX8_endRequest 29 = .ok (.iconst 1, 1) := by decide +kernel
theorem dX8_endRequest_30 : decode cX8_endRequest 30 = .ok (.goto 4, 3) := by decide +kernel
theorem dX8_endRequest_33 : decode cX8_endRequest 33 = .ok (.iconst 0, 1) := by decide +kernel
theorem dX8_endRequest_34 : decode cX8_endRequest 34 = .ok (.istore_n 3, 1) := by decide +kernel
theorem dX8_endRequest_35 : decode cX8_endRequest 35 = .ok (.aload_n 1, 1) := by decide +kernel
theorem dX8_endRequest_36 : decode cX8_endRequest 36 = .ok (.aload_n 0, 1) := by decide +kernel
theorem dX8_endRequest_37 : decode cX8_endRequest 37 = .ok (.aload_n 1, 1) := by decide +kernel
theorem dX8_endRequest_38 : decode cX8_endRequest 38 = .ok (.invokevirtual 196, 3) := by decide +kernel
theorem dX8_endRequest_41 : decode cX8_endRequest 41 = .ok (.ifCond .ne 12, 3) := by decide +kernel
theorem dX8_endRequest_44 : decode cX8_endRequest 44 = .ok (.iload_n 2, 1) := by decide +kernel
theorem dX8_endRequest_45 : decode cX8_endRequest 45 = .ok (.iconst 3, 1) := by decide +kernel
theorem dX8_endRequest_46 : decode cX8_endRequest 46 = .ok (.if_icmp .ne 7, 3) := by decide +kernel
theorem dX8_endRequest_49 : decode cX8_endRequest 49 = .ok (.iload_n 3, 1) := by decide +kernel
theorem dX8_endRequest_50 : decode cX8_endRequest 50 = .ok (.ifCond .eq 7, 3) := by decide +kernel
theorem dX8_endRequest_53 : decode cX8_endRequest 53 = .ok (.iconst 1, 1) := by decide +kernel
theorem dX8_endRequest_54 : decode cX8_endRequest 54 = .ok (.goto 4, 3) := by decide +kernel
theorem dX8_endRequest_57 : decode cX8_endRequest 57 = .ok (.iconst 0, 1) := by decide +kernel
theorem dX8_endRequest_58 : decode cX8_endRequest 58 = .ok (.putfield 200, 3) := by decide +kernel
theorem dX8_endRequest_61 : decode cX8_endRequest 61 = .ok (.aload_n 0, 1) := by decide +kernel
theorem dX8_endRequest_62 : decode cX8_endRequest 62 = .ok (.aload_n 1, 1) := by decide +kernel
theorem dX8_endRequest_63 : decode cX8_endRequest 63 = .ok (.getfield 323, 3) := by decide +kernel
theorem dX8_endRequest_66 : decode cX8_endRequest 66 = .ok (.iconst 0, 1) := by decide +kernel
theorem dX8_endRequest_67 : decode cX8_endRequest 67 = .ok (.invokevirtual 356, 3) := by decide +kernel
theorem dX8_endRequest_70 : decode cX8_endRequest 70 = .ok (.return_, 1) := by decide +kernel
theorem dX8_isKeptByHead_0 : decode cX8_isKeptByHead 0 = .ok (.aload_n 0, 1) := by decide +kernel
theorem dX8_isKeptByHead_1 : decode cX8_isKeptByHead 1 = .ok (.getfield 13, 3) := by decide +kernel
theorem dX8_isKeptByHead_4 : decode cX8_isKeptByHead 4 = .ok (.ifCond .le 22, 3) := by decide +kernel
theorem dX8_isKeptByHead_7 : decode cX8_isKeptByHead 7 = .ok (.aload_n 1, 1) := by decide +kernel
theorem dX8_isKeptByHead_8 : decode cX8_isKeptByHead 8 = .ok (.getfield 323, 3) := by decide +kernel
theorem dX8_isKeptByHead_11 : decode cX8_isKeptByHead 11 = .ok (.getfield 137, 3) := by decide +kernel
theorem dX8_isKeptByHead_14 : decode cX8_isKeptByHead 14 = .ok (.aload_n 0, 1) := by decide +kernel
theorem dX8_isKeptByHead_15 : decode cX8_isKeptByHead 15 = .ok (.getfield 13, 3) := by decide +kernel
theorem dX8_isKeptByHead_18 : decode cX8_isKeptByHead 18 = .ok (.irem, 1) := by decide +kernel
theorem dX8_isKeptByHead_19 : decode cX8_isKeptByHead 19 = .ok (.ifCond .ne 7, 3) := by decide +kernel
theorem dX8_isKeptByHead_22 : decode cX8_isKeptByHead 22 = .ok (.iconst 1, 1) := by decide +kernel
theorem dX8_isKeptByHead_23 : decode cX8_isKeptByHead 23 = .ok (.goto 4, 3) := by decide +kernel
theorem dX8_isKeptByHead_26 : decode cX8_isKeptByHead 26 = .ok (.iconst 0, 1) := by decide +kernel
theorem dX8_isKeptByHead_27 : decode cX8_isKeptByHead 27 = .ok (.ireturn, 1) := by decide +kernel
theorem dX8_goOn_0 : decode cX8_goOn 0 = .ok (.aload_n 0, 1) := by decide +kernel
theorem dX8_goOn_1 : decode cX8_goOn 1 = .ok (.aload_n 1, 1) := by decide +kernel
theorem dX8_goOn_2 : decode cX8_goOn 2 = .ok (.invokevirtual 330, 3) := by decide +kernel
theorem dX8_goOn_5 : decode cX8_goOn 5 = .ok (.aload_n 0, 1) := by decide +kernel
theorem dX8_goOn_6 : decode cX8_goOn 6 = .ok (.aload_n 1, 1) := by decide +kernel
theorem dX8_goOn_7 : decode cX8_goOn 7 = .ok (.iconst 1, 1) := by decide +kernel
theorem dX8_goOn_8 : decode cX8_goOn 8 = .ok (.invokevirtual 359, 3) := by decide +kernel
theorem dX8_goOn_11 : decode cX8_goOn 11 = .ok (.istore_n 2, 1) := by decide +kernel
theorem dX8_goOn_12 : decode cX8_goOn 12 = .ok (.iconst 0, 1) := by decide +kernel
theorem dX8_goOn_13 : decode cX8_goOn 13 = .ok (.istore_n 3, 1) := by decide +kernel
theorem dX8_goOn_14 : decode cX8_goOn 14 = .ok (.iload_n 3, 1) := by decide +kernel
theorem dX8_goOn_15 : decode cX8_goOn 15 = .ok (.iload_n 2, 1) := by decide +kernel
theorem dX8_goOn_16 : decode cX8_goOn 16 = .ok (.if_icmp .gt 102, 3) := by decide +kernel
theorem dX8_goOn_19 : decode cX8_goOn 19 = .ok (.aload_n 1, 1) := by decide +kernel
theorem dX8_goOn_20 : decode cX8_goOn 20 = .ok (.getfield 249, 3) := by decide +kernel
theorem dX8_goOn_23 : decode cX8_goOn 23 = .ok (.bipush 8, 2) := by decide +kernel
theorem dX8_goOn_25 : decode cX8_goOn 25 = .ok (.if_icmp .ne 93, 3) := by decide +kernel
theorem dX8_goOn_28 : decode cX8_goOn 28 = .ok (.aload_n 1, 1) := by decide +kernel
theorem dX8_goOn_29 : decode cX8_goOn 29 = .ok (.aload_n 0, 1) := by decide +kernel
theorem dX8_goOn_30 : decode cX8_goOn 30 = .ok (.getfield 140, 3) := by decide +kernel
theorem dX8_goOn_33 : decode cX8_goOn 33 = .ok (.invokevirtual 333, 3) := by decide +kernel
theorem dX8_goOn_36 : decode cX8_goOn 36 = .ok (.ifCond .ne 82, 3) := by decide +kernel
theorem dX8_goOn_39 : decode cX8_goOn 39 = .ok (.aload_n 1, 1) := by decide +kernel
theorem dX8_goOn_40 : decode cX8_goOn 40 = .ok (.getfield 363, 3) := by decide +kernel
theorem dX8_goOn_43 : decode cX8_goOn 43 = .ok (.bipush 6, 2) := by decide +kernel
theorem dX8_goOn_45 : decode cX8_goOn 45 = .ok (.if_icmp .eq 10, 3) := by decide +kernel
theorem dX8_goOn_48 : decode cX8_goOn 48 = .ok (.aload_n 1, 1) := by decide +kernel
theorem dX8_goOn_49 : decode cX8_goOn 49 = .ok (.getfield 366, 3) := by decide +kernel
theorem dX8_goOn_52 : decode cX8_goOn 52 = .ok (.ifCond .eq 7, 3) := by decide +kernel
theorem dX8_goOn_55 : decode cX8_goOn 55 = .ok (.iconst 1, 1) := by decide +kernel
theorem dX8_goOn_56 : decode cX8_goOn 56 = .ok (.goto 4, 3) := by decide +kernel
theorem dX8_goOn_59 : decode cX8_goOn 59 = .ok (.iconst 0, 1) := by decide +kernel
theorem dX8_goOn_60 : decode cX8_goOn 60 = .ok (.istore 4, 2) := by decide +kernel
theorem dX8_goOn_62 : decode cX8_goOn 62 = .ok (.aload_n 1, 1) := by decide +kernel
theorem dX8_goOn_63 : decode cX8_goOn 63 = .ok (.getfield 368, 3) := by decide +kernel
theorem dX8_goOn_66 : decode cX8_goOn 66 = .ok (.iload_n 2, 1) := by decide +kernel
theorem dX8_goOn_67 : decode cX8_goOn 67 = .ok (.if_icmp .ge 40, 3) := by decide +kernel
theorem dX8_goOn_70 : decode cX8_goOn 70 = .ok (.iload 4, 2) := by decide +kernel
theorem dX8_goOn_72 : decode cX8_goOn 72 = .ok (.ifCond .eq 35, 3) := by decide +kernel
theorem dX8_goOn_75 : decode cX8_goOn 75 = .ok (.aload_n 0, 1) := by decide +kernel
theorem dX8_goOn_76 : decode cX8_goOn 76 = .ok (.aload_n 1, 1) := by decide +kernel
theorem dX8_goOn_77 : decode cX8_goOn 77 = .ok (.invokevirtual 371, 3) := by decide +kernel
theorem dX8_goOn_80 : decode cX8_goOn 80 = .ok (.ifCond .eq 27, 3) := by decide +kernel
theorem dX8_goOn_83 : decode cX8_goOn 83 = .ok (.aload_n 1, 1) := by decide +kernel
theorem dX8_goOn_84 : decode cX8_goOn 84 = .ok (.dup, 1) := by decide +kernel
theorem dX8_goOn_85 : decode cX8_goOn 85 = .ok (.getfield 368, 3) := by decide +kernel
theorem dX8_goOn_88 : decode cX8_goOn 88 = .ok (.iconst 1, 1) := by decide +kernel
theorem dX8_goOn_89 : decode cX8_goOn 89 = .ok (.iadd, 1) := by decide +kernel
theorem dX8_goOn_90 : decode cX8_goOn 90 = .ok (.putfield 368, 3) := by decide +kernel
theorem dX8_goOn_93 : decode cX8_goOn 93 = .ok (.aload_n 0, 1) := by decide +kernel
theorem dX8_goOn_94 : decode cX8_goOn 94 = .ok (.aload_n 1, 1) := by decide +kernel
theorem dX8_goOn_95 : decode cX8_goOn 95 = .ok (.iconst 1, 1) := by decide +kernel
theorem dX8_goOn_96 : decode cX8_goOn 96 = .ok (.invokevirtual 151, 3) := by decide +kernel
theorem dX8_goOn_99 : decode cX8_goOn 99 = .ok (.aload_n 0, 1) := by decide +kernel
theorem dX8_goOn_100 : decode cX8_goOn 100 = .ok (.aload_n 1, 1) := by decide +kernel
theorem dX8_goOn_101 : decode cX8_goOn 101 = .ok (.invokevirtual 330, 3) := by decide +kernel
theorem dX8_goOn_104 : decode cX8_goOn 104 = .ok (.goto 8, 3) := by decide +kernel
theorem dX8_goOn_107 : decode cX8_goOn 107 = .ok (.aload_n 1, 1) := by decide +kernel
theorem dX8_goOn_108 : decode cX8_goOn 108 = .ok (.iconst 4, 1) := by decide +kernel
theorem dX8_goOn_109 : decode cX8_goOn 109 = .ok (.putfield 249, 3) := by decide +kernel
theorem dX8_goOn_112 : decode cX8_goOn 112 = .ok (.iinc 3 1, 3) := by decide +kernel
theorem dX8_goOn_115 : decode cX8_goOn 115 = .ok (.goto (-101), 3) := by decide +kernel
theorem dX8_goOn_118 : decode cX8_goOn 118 = .ok (.aload_n 0, 1) := by decide +kernel
theorem dX8_goOn_119 : decode cX8_goOn 119 = .ok (.aload_n 1, 1) := by decide +kernel
theorem dX8_goOn_120 : decode cX8_goOn 120 = .ok (.invokevirtual 374, 3) := by decide +kernel
theorem dX8_goOn_123 : decode cX8_goOn 123 = .ok (.ifCond .eq 14, 3) := by decide +kernel
theorem dX8_goOn_126 : decode cX8_goOn 126 = .ok (.aload_n 0, 1) := by decide +kernel
theorem dX8_goOn_127 : decode cX8_goOn 127 = .ok (.aload_n 1, 1) := by decide +kernel
theorem dX8_goOn_128 : decode cX8_goOn 128 = .ok (.iconst 1, 1) := by decide +kernel
theorem dX8_goOn_129 : decode cX8_goOn 129 = .ok (.invokevirtual 151, 3) := by decide +kernel
theorem dX8_goOn_132 : decode cX8_goOn 132 = .ok (.aload_n 0, 1) := by decide +kernel
theorem dX8_goOn_133 : decode cX8_goOn 133 = .ok (.aload_n 1, 1) := by decide +kernel
theorem dX8_goOn_134 : decode cX8_goOn 134 = .ok (.invokevirtual 330, 3) := by decide +kernel
theorem dX8_goOn_137 : decode cX8_goOn 137 = .ok (.return_, 1) := by decide +kernel
theorem dX8_lookAtEnds_0 : decode cX8_lookAtEnds 0 = .ok (.iconst 0, 1) := by decide +kernel
theorem dX8_lookAtEnds_1 : decode cX8_lookAtEnds 1 = .ok (.istore_n 2, 1) := by decide +kernel
theorem dX8_lookAtEnds_2 : decode cX8_lookAtEnds 2 = .ok (.iload_n 2, 1) := by decide +kernel
theorem dX8_lookAtEnds_3 : decode cX8_lookAtEnds 3 = .ok (.aload_n 1, 1) := by decide +kernel
theorem dX8_lookAtEnds_4 : decode cX8_lookAtEnds 4 = .ok (.getfield 377, 3) := by decide +kernel
theorem dX8_lookAtEnds_7 : decode cX8_lookAtEnds 7 = .ok (.invokevirtual 82, 3) := by decide +kernel
theorem dX8_lookAtEnds_10 : decode cX8_lookAtEnds 10 = .ok (.if_icmp .ge 140, 3) := by decide +kernel
theorem dX8_lookAtEnds_13 : decode cX8_lookAtEnds 13 = .ok (.aload_n 1, 1) := by decide +kernel
theorem dX8_lookAtEnds_14 : decode cX8_lookAtEnds 14 = .ok (.getfield 249, 3) := by decide +kernel
theorem dX8_lookAtEnds_17 : decode cX8_lookAtEnds 17 = .ok (.bipush 8, 2) := by decide +kernel
theorem dX8_lookAtEnds_19 : decode cX8_lookAtEnds 19 = .ok (.if_icmp .ne 131, 3) := by decide +kernel
theorem dX8_lookAtEnds_22 : decode cX8_lookAtEnds 22 = .ok (.aload_n 1, 1) := by decide +kernel
theorem dX8_lookAtEnds_23 : decode cX8_lookAtEnds 23 = .ok (.getfield 377, 3) := by decide +kernel
theorem dX8_lookAtEnds_26 : decode cX8_lookAtEnds 26 = .ok (.iload_n 2, 1) := by decide +kernel
theorem dX8_lookAtEnds_27 : decode cX8_lookAtEnds 27 = .ok (.invokevirtual 98, 3) := by decide +kernel
theorem dX8_lookAtEnds_30 : decode cX8_lookAtEnds 30 = .ok (.checkcast 204, 3) := by decide +kernel
theorem dX8_lookAtEnds_33 : decode cX8_lookAtEnds 33 = .ok (.astore_n 3, 1) := by decide +kernel
theorem dX8_lookAtEnds_34 : decode cX8_lookAtEnds 34 = .ok (.aload_n 3, 1) := by decide +kernel
theorem dX8_lookAtEnds_35 : decode cX8_lookAtEnds 35 = .ok (.getfield 380, 3) := by decide +kernel
theorem dX8_lookAtEnds_38 : decode cX8_lookAtEnds 38 = .ok (.ifCond .ne 106, 3) := by decide +kernel
theorem dX8_lookAtEnds_41 : decode cX8_lookAtEnds 41 = .ok (.aload_n 3, 1) := by decide +kernel
theorem dX8_lookAtEnds_42 : decode cX8_lookAtEnds 42 = .ok (.aload_n 0, 1) := by decide +kernel
theorem dX8_lookAtEnds_43 : decode cX8_lookAtEnds 43 = .ok (.getfield 140, 3) := by decide +kernel
theorem dX8_lookAtEnds_46 : decode cX8_lookAtEnds 46 = .ok (.invokevirtual 383, 3) := by decide +kernel
theorem dX8_lookAtEnds_49 : decode cX8_lookAtEnds 49 = .ok (.ifCond .ne 6, 3) := by decide +kernel
theorem dX8_lookAtEnds_52 : decode cX8_lookAtEnds 52 = .ok (.goto 92, 3) := by decide +kernel
theorem dX8_lookAtEnds_55 : decode cX8_lookAtEnds 55 = .ok (.aload_n 3, 1) := by decide +kernel
theorem dX8_lookAtEnds_56 : decode cX8_lookAtEnds 56 = .ok (.iconst 1, 1) := by decide +kernel
theorem dX8_lookAtEnds_57 : decode cX8_lookAtEnds 57 = .ok (.putfield 380, 3) := by decide +kernel
theorem dX8_lookAtEnds_60 : decode cX8_lookAtEnds 60 = .ok (.aload_n 1, 1) := by decide +kernel
theorem dX8_lookAtEnds_61 : decode cX8_lookAtEnds 61 = .ok (.aload_n 3, 1) := by decide +kernel
theorem dX8_lookAtEnds_62 : decode cX8_lookAtEnds 62 = .ok (.getfield 386, 3) := by decide +kernel
theorem dX8_lookAtEnds_65 : decode cX8_lookAtEnds 65 = .ok (.putfield 363, 3) := by decide +kernel
theorem dX8_lookAtEnds_68 : decode cX8_lookAtEnds 68 = .ok (.aload_n 3, 1) := by decide +kernel
theorem dX8_lookAtEnds_69 : decode cX8_lookAtEnds 69 = .ok (.getfield 386, 3) := by decide +kernel
theorem dX8_lookAtEnds_72 : decode cX8_lookAtEnds 72 = .ok (.iconst 3, 1) := by decide +kernel
theorem dX8_lookAtEnds_73 : decode cX8_lookAtEnds 73 = .ok (.if_icmp .ne 7, 3) := by decide +kernel
theorem dX8_lookAtEnds_76 : decode cX8_lookAtEnds 76 = .ok (.iconst 1, 1) := by decide +kernel
theorem dX8_lookAtEnds_77 : decode cX8_lookAtEnds 77 = .ok (.goto 4, 3) := by decide +kernel
theorem dX8_lookAtEnds_80 : decode cX8_lookAtEnds 80 = .ok (.iconst 0, 1) := by decide +kernel
theorem dX8_lookAtEnds_81 : decode cX8_lookAtEnds 81 = .ok (.istore 4, 2) := by decide +kernel
theorem dX8_lookAtEnds_83 : decode cX8_lookAtEnds 83 = .ok (.aload_n 3, 1) := by decide +kernel
theorem dX8_lookAtEnds_84 : decode cX8_lookAtEnds 84 = .ok (.getfield 213, 3) := by decide +kernel
theorem dX8_lookAtEnds_87 : decode cX8_lookAtEnds 87 = .ok (.getfield 233, 3) := by decide +kernel
theorem dX8_lookAtEnds_90 : decode cX8_lookAtEnds 90 = .ok (.aload_n 1, 1) := by decide +kernel
theorem dX8_lookAtEnds_91 : decode cX8_lookAtEnds 91 = .ok (.getfield 273, 3) := by decide +kernel
theorem dX8_lookAtEnds_94 : decode cX8_lookAtEnds 94 = .ok (.aaload, 1) := by decide +kernel
theorem dX8_lookAtEnds_95 : decode cX8_lookAtEnds 95 = .ok (.iload 4, 2) := by decide +kernel
theorem dX8_lookAtEnds_97 : decode cX8_lookAtEnds 97 = .ok (.aload_n 0, 1) := by decide +kernel
theorem dX8_lookAtEnds_98 : decode cX8_lookAtEnds 98 = .ok (.getfield 140, 3) := by decide +kernel
theorem dX8_lookAtEnds_101 : decode cX8_lookAtEnds 101 = .ok (.invokevirtual 389, 3) := by decide +kernel
theorem dX8_lookAtEnds_104 : decode cX8_lookAtEnds 104 = .ok (.aload_n 0, 1) := by decide +kernel
theorem dX8_lookAtEnds_105 : decode cX8_lookAtEnds 105 = .ok (.getfield 26, 3) := by decide +kernel
theorem dX8_lookAtEnds_108 : decode cX8_lookAtEnds 108 = .ok (.aload_n 1, 1) := by decide +kernel
theorem dX8_lookAtEnds_109 : decode cX8_lookAtEnds 109 = .ok (.getfield 210, 3) := by decide +kernel
theorem dX8_lookAtEnds_112 : decode cX8_lookAtEnds 112 = .ok (.aaload, 1) := by decide +kernel
theorem dX8_lookAtEnds_113 : decode cX8_lookAtEnds 113 = .ok (.getfield 119, 3) := by decide +kernel
theorem dX8_lookAtEnds_116 : decode cX8_lookAtEnds 116 = .ok (.aload_n 3, 1) := by decide +kernel
theorem dX8_lookAtEnds_117 : decode cX8_lookAtEnds 117 = .ok (.getfield 213, 3) := by decide +kernel
theorem dX8_lookAtEnds_120 : decode cX8_lookAtEnds 120 = .ok (.getfield 393, 3) := by decide +kernel
theorem dX8_lookAtEnds_123 : decode cX8_lookAtEnds 123 = .ok (.iload 4, 2) := by decide +kernel
theorem dX8_lookAtEnds_125 : decode cX8_lookAtEnds 125 = .ok (.invokevirtual 396, 3) := by decide +kernel
theorem dX8_lookAtEnds_128 : decode cX8_lookAtEnds 128 = .ok (.iload 4, 2) := by decide +kernel
theorem dX8_lookAtEnds_130 : decode cX8_lookAtEnds 130 = .ok (.ifCond .eq 14, 3) := by decide +kernel
theorem dX8_lookAtEnds_133 : decode cX8_lookAtEnds 133 = .ok (.aload_n 1, 1) := by decide +kernel
theorem dX8_lookAtEnds_134 : decode cX8_lookAtEnds 134 = .ok (.iconst 3, 1) := by decide +kernel
theorem dX8_lookAtEnds_135 : decode cX8_lookAtEnds 135 = .ok (.putfield 249, 3) := by decide +kernel
theorem dX8_lookAtEnds_138 : decode cX8_lookAtEnds 138 = .ok (.aload_n 0, 1) := by decide +kernel
theorem dX8_lookAtEnds_139 : decode cX8_lookAtEnds 139 = .ok (.aload_n 1, 1) := by decide +kernel
theorem dX8_lookAtEnds_140 : decode cX8_lookAtEnds 140 = .ok (.iconst 0, 1) := by decide +kernel
theorem dX8_lookAtEnds_141 : decode cX8_lookAtEnds 141 = .ok (.invokevirtual 356, 3) := by decide +kernel
theorem dX8_lookAtEnds_144 : decode cX8_lookAtEnds 144 = .ok (.iinc 2 1, 3) := by decide +kernel
theorem dX8_lookAtEnds_147 : decode cX8_lookAtEnds 147 = .ok (.goto (-145), 3) := by decide +kernel
theorem dX8_lookAtEnds_150 : decode cX8_lookAtEnds 150 = .ok (.return_, 1) := by decide +kernel
theorem dX8_canPay_0 : decode cX8_canPay 0 = .ok (.aload_n 0, 1) := by decide +kernel
theorem dX8_canPay_1 : decode cX8_canPay 1 = .ok (.getfield 32, 3) := by decide +kernel
theorem dX8_canPay_4 : decode cX8_canPay 4 = .ok (.aload_n 1, 1) := by decide +kernel
theorem dX8_canPay_5 : decode cX8_canPay 5 = .ok (.getfield 273, 3) := by decide +kernel
theorem dX8_canPay_8 : decode cX8_canPay 8 = .ok (.aaload, 1) := by decide +kernel
theorem dX8_canPay_9 : decode cX8_canPay 9 = .ok (.getfield 230, 3) := by decide +kernel
theorem dX8_canPay_12 : decode cX8_canPay 12 = .ok (.bipush 100, 2) := by decide +kernel
theorem dX8_canPay_14 : decode cX8_canPay 14 = .ok (.if_icmp .lt 7, 3) := by decide +kernel
theorem dX8_canPay_17 : decode cX8_canPay 17 = .ok (.iconst 1, 1) := by decide +kernel
theorem dX8_canPay_18 : decode cX8_canPay 18 = .ok (.goto 4, 3) := by decide +kernel
theorem dX8_canPay_21 : decode cX8_canPay 21 = .ok (.iconst 0, 1) := by decide +kernel
theorem dX8_canPay_22 : decode cX8_canPay 22 = .ok (.ireturn, 1) := by decide +kernel
theorem dX8_isHedgeDue_0 : decode cX8_isHedgeDue 0 = .ok (.aload_n 0, 1) := by decide +kernel
theorem dX8_isHedgeDue_1 : decode cX8_isHedgeDue 1 = .ok (.aload_n 1, 1) := by decide +kernel
theorem dX8_isHedgeDue_2 : decode cX8_isHedgeDue 2 = .ok (.iconst 2, 1) := by decide +kernel
theorem dX8_isHedgeDue_3 : decode cX8_isHedgeDue 3 = .ok (.invokevirtual 359, 3) := by decide +kernel
theorem dX8_isHedgeDue_6 : decode cX8_isHedgeDue 6 = .ok (.istore_n 2, 1) := by decide +kernel
theorem dX8_isHedgeDue_7 : decode cX8_isHedgeDue 7 = .ok (.aload_n 1, 1) := by decide +kernel
theorem dX8_isHedgeDue_8 : decode cX8_isHedgeDue 8 = .ok (.getfield 249, 3) := by decide +kernel
theorem dX8_isHedgeDue_11 : decode cX8_isHedgeDue 11 = .ok (.bipush 8, 2) := by decide +kernel
theorem dX8_isHedgeDue_13 : decode cX8_isHedgeDue 13 = .ok (.if_icmp .ne 47, 3) := by decide +kernel
theorem dX8_isHedgeDue_16 : decode cX8_isHedgeDue 16 = .ok (.aload_n 1, 1) := by decide +kernel
theorem dX8_isHedgeDue_17 : decode cX8_isHedgeDue 17 = .ok (.getfield 366, 3) := by decide +kernel
theorem dX8_isHedgeDue_20 : decode cX8_isHedgeDue 20 = .ok (.ifCond .eq 40, 3) := by decide +kernel
theorem dX8_isHedgeDue_23 : decode cX8_isHedgeDue 23 = .ok (.iload_n 2, 1) := by decide +kernel
theorem dX8_isHedgeDue_24 : decode cX8_isHedgeDue 24 = .ok (.ifCond .le 36, 3) := by decide +kernel
theorem dX8_isHedgeDue_27 : decode cX8_isHedgeDue 27 = .ok (.aload_n 1, 1) := by decide +kernel
theorem dX8_isHedgeDue_28 : decode cX8_isHedgeDue 28 = .ok (.getfield 400, 3) := by decide +kernel
theorem dX8_isHedgeDue_31 : decode cX8_isHedgeDue 31 = .ok (.iconst 1, 1) := by decide +kernel
theorem dX8_isHedgeDue_32 : decode cX8_isHedgeDue 32 = .ok (.if_icmp .ne 28, 3) := by decide +kernel
theorem dX8_isHedgeDue_35 : decode cX8_isHedgeDue 35 = .ok (.aload_n 0, 1) := by decide +kernel
theorem dX8_isHedgeDue_36 : decode cX8_isHedgeDue 36 = .ok (.getfield 140, 3) := by decide +kernel
theorem dX8_isHedgeDue_39 : decode cX8_isHedgeDue 39 = .ok (.aload_n 1, 1) := by decide +kernel
theorem dX8_isHedgeDue_40 : decode cX8_isHedgeDue 40 = .ok (.getfield 403, 3) := by decide +kernel
theorem dX8_isHedgeDue_43 : decode cX8_isHedgeDue 43 = .ok (.isub, 1) := by decide +kernel
theorem dX8_isHedgeDue_44 : decode cX8_isHedgeDue 44 = .ok (.iload_n 2, 1) := by decide +kernel
theorem dX8_isHedgeDue_45 : decode cX8_isHedgeDue 45 = .ok (.if_icmp .lt 15, 3) := by decide +kernel
theorem dX8_isHedgeDue_48 : decode cX8_isHedgeDue 48 = .ok (.aload_n 0, 1) := by decide +kernel
theorem dX8_isHedgeDue_49 : decode cX8_isHedgeDue 49 = .ok (.aload_n 1, 1) := by decide +kernel
theorem dX8_isHedgeDue_50 : decode cX8_isHedgeDue 50 = .ok (.invokevirtual 371, 3) := by decide +kernel
theorem dX8_isHedgeDue_53 : decode cX8_isHedgeDue 53 = .ok (.ifCond .eq 7, 3) := by decide +kernel
theorem dX8_isHedgeDue_56 : decode cX8_isHedgeDue 56 = .ok (.iconst 1, 1) := by decide +kernel
theorem dX8_isHedgeDue_57 : decode cX8_isHedgeDue 57 = .ok (.goto 4, 3) := by decide +kernel
theorem dX8_isHedgeDue_60 : decode cX8_isHedgeDue 60 = .ok (.iconst 0, 1) := by decide +kernel
theorem dX8_isHedgeDue_61 : decode cX8_isHedgeDue 61 = .ok (.ireturn, 1) := by decide +kernel
theorem dX8_tryOnce_0 : decode cX8_tryOnce 0 = .ok (.aload_n 1, 1) := by decide +kernel
theorem dX8_tryOnce_1 : decode cX8_tryOnce 1 = .ok (.getfield 227, 3) := by decide +kernel
theorem dX8_tryOnce_4 : decode cX8_tryOnce 4 = .ok (.iconst (-1), 1) := by decide +kernel
theorem dX8_tryOnce_5 : decode cX8_tryOnce 5 = .ok (.if_icmp .ne 16, 3) := by decide +kernel
theorem dX8_tryOnce_8 : decode cX8_tryOnce 8 = .ok (.aload_n 0, 1) := by decide +kernel
theorem dX8_tryOnce_9 : decode cX8_tryOnce 9 = .ok (.getfield 32, 3) := by decide +kernel
theorem dX8_tryOnce_12 : decode cX8_tryOnce 12 = .ok (.aload_n 1, 1) := by decide +kernel
theorem dX8_tryOnce_13 : decode cX8_tryOnce 13 = .ok (.getfield 273, 3) := by decide +kernel
theorem dX8_tryOnce_16 : decode cX8_tryOnce 16 = .ok (.aaload, 1) := by decide +kernel
theorem dX8_tryOnce_17 : decode cX8_tryOnce 17 = .ok (.iload_n 2, 1) := by decide +kernel
theorem dX8_tryOnce_18 : decode cX8_tryOnce 18 = .ok (.invokevirtual 406, 3) := by decide +kernel
theorem dX8_tryOnce_21 : decode cX8_tryOnce 21 = .ok (.aload_n 1, 1) := by decide +kernel
theorem dX8_tryOnce_22 : decode cX8_tryOnce 22 = .ok (.getfield 400, 3) := by decide +kernel
theorem dX8_tryOnce_25 : decode cX8_tryOnce 25 = .ok (.ifCond .ne 11, 3) := by decide +kernel
theorem dX8_tryOnce_28 : decode cX8_tryOnce 28 = .ok (.aload_n 1, 1) := by decide +kernel
theorem dX8_tryOnce_29 : decode cX8_tryOnce 29 = .ok (.aload_n 0, 1) := by decide +kernel
theorem dX8_tryOnce_30 : decode cX8_tryOnce 30 = .ok (.getfield 140, 3) := by decide +kernel
theorem dX8_tryOnce_33 : decode cX8_tryOnce 33 = .ok (.putfield 403, 3) := by decide +kernel
theorem dX8_tryOnce_36 : decode cX8_tryOnce 36 = .ok (.aload_n 1, 1) := by decide +kernel
theorem dX8_tryOnce_37 : decode cX8_tryOnce 37 = .ok (.dup, 1) := by decide +kernel
theorem dX8_tryOnce_38 : decode cX8_tryOnce 38 = .ok (.getfield 400, 3) := by decide +kernel
theorem dX8_tryOnce_41 : decode cX8_tryOnce 41 = .ok (.iconst 1, 1) := by decide +kernel
theorem dX8_tryOnce_42 : decode cX8_tryOnce 42 = .ok (.iadd, 1) := by decide +kernel
theorem dX8_tryOnce_43 : decode cX8_tryOnce 43 = .ok (.putfield 400, 3) := by decide +kernel
theorem dX8_tryOnce_46 : decode cX8_tryOnce 46 = .ok (.aload_n 0, 1) := by decide +kernel
theorem dX8_tryOnce_47 : decode cX8_tryOnce 47 = .ok (.aload_n 1, 1) := by decide +kernel
theorem dX8_tryOnce_48 : decode cX8_tryOnce 48 = .ok (.invokevirtual 409, 3) := by decide +kernel
theorem dX8_tryOnce_51 : decode cX8_tryOnce 51 = .ok (.astore_n 3, 1) := by decide +kernel
theorem dX8_tryOnce_52 : decode cX8_tryOnce 52 = .ok (.aload_n 3, 1) := by decide +kernel
theorem dX8_tryOnce_53 : decode cX8_tryOnce 53 = .ok (.ifnull 16, 3) := by decide +kernel
theorem dX8_tryOnce_56 : decode cX8_tryOnce 56 = .ok (.aload_n 0, 1) := by decide +kernel
theorem dX8_tryOnce_57 : decode cX8_tryOnce 57 = .ok (.getfield 46, 3) := by decide +kernel
theorem dX8_tryOnce_60 : decode cX8_tryOnce 60 = .ok (.invokevirtual 82, 3) := by decide +kernel
theorem dX8_tryOnce_63 : decode cX8_tryOnce 63 = .ok (.sipush 400, 3) := by decide +kernel
theorem dX8_tryOnce_66 : decode cX8_tryOnce 66 = .ok (.if_icmp .lt 10, 3) := by decide +kernel
theorem dX8_tryOnce_69 : decode cX8_tryOnce 69 = .ok (.aload_n 1, 1) := by decide +kernel
theorem dX8_tryOnce_70 : decode cX8_tryOnce 70 = .ok (.bipush 6, 2) := by decide +kernel
theorem dX8_tryOnce_72 : decode cX8_tryOnce 72 = .ok (.putfield 363, 3) := by decide +kernel
theorem dX8_tryOnce_75 : decode cX8_tryOnce 75 = .ok (.return_, 1) := by decide +kernel
theorem dX8_tryOnce_76 : decode cX8_tryOnce 76 = .ok (.aload_n 1, 1) := by decide +kernel
theorem dX8_tryOnce_77 : decode cX8_tryOnce 77 = .ok (.getfield 143, 3) := by decide +kernel
theorem dX8_tryOnce_80 : decode cX8_tryOnce 80 = .ok (.aload_n 0, 1) := by decide +kernel
theorem dX8_tryOnce_81 : decode cX8_tryOnce 81 = .ok (.getfield 140, 3) := by decide +kernel
theorem dX8_tryOnce_84 : decode cX8_tryOnce 84 = .ok (.aload_n 0, 1) := by decide +kernel
theorem dX8_tryOnce_85 : decode cX8_tryOnce 85 = .ok (.aload_n 1, 1) := by decide +kernel
theorem dX8_tryOnce_86 : decode cX8_tryOnce 86 = .ok (.iconst 0, 1) := by decide +kernel
theorem dX8_tryOnce_87 : decode cX8_tryOnce 87 = .ok (.invokevirtual 359, 3) := by decide +kernel
theorem dX8_tryOnce_90 : decode cX8_tryOnce 90 = .ok (.iadd, 1) := by decide +kernel
theorem dX8_tryOnce_91 : decode cX8_tryOnce 91 = .ok (.invokestatic 413, 3) := by decide +kernel
theorem dX8_tryOnce_94 : decode cX8_tryOnce 94 = .ok (.istore 4, 2) := by decide +kernel
theorem dX8_tryOnce_96 : decode cX8_tryOnce 96 = .ok (.new 204, 3) := by decide +kernel
theorem dX8_tryOnce_99 : decode cX8_tryOnce 99 = .ok (.dup, 1) := by decide +kernel
theorem dX8_tryOnce_100 : decode cX8_tryOnce 100 = .ok (.aload_n 0, 1) := by decide +kernel
theorem dX8_tryOnce_101 : decode cX8_tryOnce 101 = .ok (.getfield 46, 3) := by decide +kernel
theorem dX8_tryOnce_104 : decode cX8_tryOnce 104 = .ok (.invokevirtual 82, 3) := by decide +kernel
theorem dX8_tryOnce_107 : decode cX8_tryOnce 107 = .ok (.aload_n 1, 1) := by decide +kernel
theorem dX8_tryOnce_108 : decode cX8_tryOnce 108 = .ok (.aload_n 3, 1) := by decide +kernel
theorem dX8_tryOnce_109 : decode cX8_tryOnce 109 = .ok (.iload 4, 2) := by decide +kernel
theorem dX8_tryOnce_111 : decode cX8_tryOnce 111 = .ok (.invokespecial 418, 3) := by decide +kernel
theorem dX8_tryOnce_114 : decode cX8_tryOnce 114 = .ok (.astore 5, 2) := by decide +kernel
theorem dX8_tryOnce_116 : decode cX8_tryOnce 116 = .ok (.aload_n 0, 1) := by decide +kernel
theorem dX8_tryOnce_117 : decode cX8_tryOnce 117 = .ok (.getfield 46, 3) := by decide +kernel
theorem dX8_tryOnce_120 : decode cX8_tryOnce 120 = .ok (.aload 5, 2) := by decide +kernel
theorem dX8_tryOnce_122 : decode cX8_tryOnce 122 = .ok (.invokevirtual 91, 3) := by decide +kernel
theorem dX8_tryOnce_125 : decode cX8_tryOnce 125 = .ok (.pop, 1) := by decide +kernel
theorem dX8_tryOnce_126 : decode cX8_tryOnce 126 = .ok (.aload_n 1, 1) := by decide +kernel
theorem dX8_tryOnce_127 : decode cX8_tryOnce 127 = .ok (.getfield 377, 3) := by decide +kernel
theorem dX8_tryOnce_130 : decode cX8_tryOnce 130 = .ok (.aload 5, 2) := by decide +kernel
theorem dX8_tryOnce_132 : decode cX8_tryOnce 132 = .ok (.invokevirtual 91, 3) := by decide +kernel
theorem dX8_tryOnce_135 : decode cX8_tryOnce 135 = .ok (.pop, 1) := by decide +kernel
theorem dX8_tryOnce_136 : decode cX8_tryOnce 136 = .ok (.aload_n 3, 1) := by decide +kernel
theorem dX8_tryOnce_137 : decode cX8_tryOnce 137 = .ok (.getfield 421, 3) := by decide +kernel
theorem dX8_tryOnce_140 : decode cX8_tryOnce 140 = .ok (.aload_n 1, 1) := by decide +kernel
theorem dX8_tryOnce_141 : decode cX8_tryOnce 141 = .ok (.getfield 273, 3) := by decide +kernel
theorem dX8_tryOnce_144 : decode cX8_tryOnce 144 = .ok (.dup2, 1) := by decide +kernel
theorem dX8_tryOnce_145 : decode cX8_tryOnce 145 = .ok (.iaload, 1) := by decide +kernel
theorem dX8_tryOnce_146 : decode cX8_tryOnce 146 = .ok (.iconst 1, 1) := by decide +kernel
theorem dX8_tryOnce_147 : decode cX8_tryOnce 147 = .ok (.iadd, 1) := by decide +kernel
theorem dX8_tryOnce_148 : decode cX8_tryOnce 148 = .ok (.iastore, 1) := by decide +kernel
theorem dX8_tryOnce_149 : decode cX8_tryOnce 149 = .ok (.aload_n 0, 1) := by decide +kernel
theorem dX8_tryOnce_150 : decode cX8_tryOnce 150 = .ok (.aload 5, 2) := by decide +kernel
theorem dX8_tryOnce_152 : decode cX8_tryOnce 152 = .ok (.invokevirtual 424, 3) := by decide +kernel
theorem dX8_tryOnce_155 : decode cX8_tryOnce 155 = .ok (.return_, 1) := by decide +kernel
theorem dX8_choose_0 : decode cX8_choose 0 = .ok (.aload_n 0, 1) := by decide +kernel
theorem dX8_choose_1 : decode cX8_choose 1 = .ok (.getfield 26, 3) := by decide +kernel
theorem dX8_choose_4 : decode cX8_choose 4 = .ok (.aload_n 1, 1) := by decide +kernel
theorem dX8_choose_5 : decode cX8_choose 5 = .ok (.getfield 210, 3) := by decide +kernel
theorem dX8_choose_8 : decode cX8_choose 8 = .ok (.aaload, 1) := by decide +kernel
theorem dX8_choose_9 : decode cX8_choose 9 = .ok (.getfield 119, 3) := by decide +kernel
theorem dX8_choose_12 : decode cX8_choose 12 = .ok (.invokevirtual 427, 3) := by decide +kernel
theorem dX8_choose_15 : decode cX8_choose 15 = .ok (.istore_n 2, 1) := by decide +kernel
theorem dX8_choose_16 : decode cX8_choose 16 = .ok (.aconst_null, 1) := by decide +kernel
theorem dX8_choose_17 : decode cX8_choose 17 = .ok (.astore_n 3, 1) := by decide +kernel
theorem dX8_choose_18 : decode cX8_choose 18 = .ok (.iconst 0, 1) := by decide +kernel
theorem dX8_choose_19 : decode cX8_choose 19 = .ok (.istore 4, 2) := by decide +kernel
theorem dX8_choose_21 : decode cX8_choose 21 = .ok (.iconst 0, 1) := by decide +kernel
theorem dX8_choose_22 : decode cX8_choose 22 = .ok (.istore 5, 2) := by decide +kernel
theorem dX8_choose_24 : decode cX8_choose 24 = .ok (.iload 5, 2) := by decide +kernel
theorem dX8_choose_26 : decode cX8_choose 26 = .ok (.aload_n 0, 1) := by decide +kernel
theorem dX8_choose_27 : decode cX8_choose 27 = .ok (.getfield 39, 3) := by decide +kernel
theorem dX8_choose_30 : decode cX8_choose 30 = .ok (.invokevirtual 82, 3) := by decide +kernel
theorem dX8_choose_33 : decode cX8_choose 33 = .ok (.if_icmp .ge 123, 3) := by decide +kernel
theorem dX8_choose_36 : decode cX8_choose 36 = .ok (.aload_n 0, 1) := by decide +kernel
theorem dX8_choose_37 : decode cX8_choose 37 = .ok (.getfield 39, 3) := by decide +kernel
theorem dX8_choose_40 : decode cX8_choose 40 = .ok (.iload 5, 2) := by decide +kernel
theorem dX8_choose_42 : decode cX8_choose 42 = .ok (.invokevirtual 98, 3) := by decide +kernel
theorem dX8_choose_45 : decode cX8_choose 45 = .ok (.checkcast 86, 3) := by decide +kernel
theorem dX8_choose_48 : decode cX8_choose 48 = .ok (.astore 6, 2) := by decide +kernel
theorem dX8_choose_50 : decode cX8_choose 50 = .ok (.aload 6, 2) := by decide +kernel
theorem dX8_choose_52 : decode cX8_choose 52 = .ok (.getfield 430, 3) := by decide +kernel
theorem dX8_choose_55 : decode cX8_choose 55 = .ok (.aload_n 1, 1) := by decide +kernel
theorem dX8_choose_56 : decode cX8_choose 56 = .ok (.getfield 210, 3) := by decide +kernel
theorem dX8_choose_59 : decode cX8_choose 59 = .ok (.if_icmp .ne 91, 3) := by decide +kernel
theorem dX8_choose_62 : decode cX8_choose 62 = .ok (.aload_n 0, 1) := by decide +kernel
theorem dX8_choose_63 : decode cX8_choose 63 = .ok (.aload_n 1, 1) := by decide +kernel
theorem dX8_choose_64 : decode cX8_choose 64 = .ok (.getfield 273, 3) := by decide +kernel
theorem dX8_choose_67 : decode cX8_choose 67 = .ok (.aload 6, 2) := by decide +kernel
theorem dX8_choose_69 : decode cX8_choose 69 = .ok (.invokevirtual 433, 3) := by decide +kernel
theorem dX8_choose_72 : decode cX8_choose 72 = .ok (.ifCond .ne 6, 3) := by decide +kernel
theorem dX8_choose_75 : decode cX8_choose 75 = .ok (.goto 75, 3) := by decide +kernel
theorem dX8_choose_78 : decode cX8_choose 78 = .ok (.aload 6, 2) := by decide +kernel
theorem dX8_choose_80 : decode cX8_choose 80 = .ok (.aload_n 1, 1) := by decide +kernel
theorem dX8_choose_81 : decode cX8_choose 81 = .ok (.getfield 273, 3) := by decide +kernel
theorem dX8_choose_84 : decode cX8_choose 84 = .ok (.aload_n 1, 1) := by decide +kernel
theorem dX8_choose_85 : decode cX8_choose 85 = .ok (.getfield 322, 3) := by decide +kernel
theorem dX8_choose_88 : decode cX8_choose 88 = .ok (.invokevirtual 437, 3) := by decide +kernel
theorem dX8_choose_91 : decode cX8_choose 91 = .ok (.istore 7, 2) := by decide +kernel
theorem dX8_choose_93 : decode cX8_choose 93 = .ok (.iload_n 2, 1) := by decide +kernel
theorem dX8_choose_94 : decode cX8_choose 94 = .ok (.iconst (-1), 1) := by decide +kernel
theorem dX8_choose_95 : decode cX8_choose 95 = .ok (.if_icmp .eq 20, 3) := by decide +kernel
theorem dX8_choose_98 : decode cX8_choose 98 = .ok (.aload 6, 2) := by decide +kernel
theorem dX8_choose_100 : decode cX8_choose 100 = .ok (.getfield 393, 3) := by decide +kernel
theorem dX8_choose_103 : decode cX8_choose 103 = .ok (.iload_n 2, 1) := by decide +kernel
theorem dX8_choose_104 : decode cX8_choose 104 = .ok (.if_icmp .eq 11, 3) := by decide +kernel
theorem dX8_choose_107 : decode cX8_choose 107 = .ok (.iload 7, 2) := by decide +kernel
theorem dX8_choose_109 : decode cX8_choose 109 = .ok (.ldc_w 440, 3) := by decide +kernel
theorem dX8_choose_112 : decode cX8_choose 112 = .ok (.iadd, 1) := by decide +kernel
theorem dX8_choose_113 : decode cX8_choose 113 = .ok (.istore 7, 2) := by decide +kernel
theorem dX8_choose_115 : decode cX8_choose 115 = .ok (.aload_n 1, 1) := by decide +kernel
theorem dX8_choose_116 : decode cX8_choose 116 = .ok (.aload 6, 2) := by decide +kernel
theorem dX8_choose_118 : decode cX8_choose 118 = .ok (.invokevirtual 441, 3) := by decide +kernel
theorem dX8_choose_121 : decode cX8_choose 121 = .ok (.ifCond .eq 11, 3) := by decide +kernel
theorem dX8_choose_124 : decode cX8_choose 124 = .ok (.iload 7, 2) := by decide +kernel
theorem dX8_choose_126 : decode cX8_choose 126 = .ok (.ldc_w 445, 3) := by decide +kernel
theorem dX8_choose_129 : decode cX8_choose 129 = .ok (.iadd, 1) := by decide +kernel
theorem dX8_choose_130 : decode cX8_choose 130 = .ok (.istore 7, 2) := by decide +kernel
theorem dX8_choose_132 : decode cX8_choose 132 = .ok (.aload_n 3, 1) := by decide +kernel
theorem dX8_choose_133 : decode cX8_choose 133 = .ok (.ifnull 10, 3) := by decide +kernel
theorem dX8_choose_136 : decode cX8_choose 136 = .ok (.iload 7, 2) := by decide +kernel
theorem dX8_choose_138 : decode cX8_choose 138 = .ok (.iload 4, 2) := by decide +kernel
theorem dX8_choose_140 : decode cX8_choose 140 = .ok (.if_icmp .ge 10, 3) := by decide +kernel
theorem dX8_choose_143 : decode cX8_choose 143 = .ok (.aload 6, 2) := by decide +kernel
theorem dX8_choose_145 : decode cX8_choose 145 = .ok (.astore_n 3, 1) := by decide +kernel
theorem dX8_choose_146 : decode cX8_choose 146 = .ok (.iload 7, 2) := by decide +kernel
theorem dX8_choose_148 : decode cX8_choose 148 = .ok (.istore 4, 2) := by decide +kernel
theorem dX8_choose_150 : decode cX8_choose 150 = .ok (.iinc 5 1, 3) := by decide +kernel
theorem dX8_choose_153 : decode cX8_choose 153 = .ok (.goto (-129), 3) := by decide +kernel
theorem dX8_choose_156 : decode cX8_choose 156 = .ok (.aload_n 3, 1) := by decide +kernel
theorem dX8_choose_157 : decode cX8_choose 157 = .ok (.areturn, 1) := by decide +kernel
theorem dX8_canChoose_0 : decode cX8_canChoose 0 = .ok (.aload_n 2, 1) := by decide +kernel
theorem dX8_canChoose_1 : decode cX8_canChoose 1 = .ok (.getfield 233, 3) := by decide +kernel
theorem dX8_canChoose_4 : decode cX8_canChoose 4 = .ok (.iload_n 1, 1) := by decide +kernel
theorem dX8_canChoose_5 : decode cX8_canChoose 5 = .ok (.aaload, 1) := by decide +kernel
theorem dX8_canChoose_6 : decode cX8_canChoose 6 = .ok (.getfield 237, 3) := by decide +kernel
theorem dX8_canChoose_9 : decode cX8_canChoose 9 = .ok (.istore_n 3, 1) := by decide +kernel
theorem dX8_canChoose_10 : decode cX8_canChoose 10 = .ok (.iload_n 3, 1) := by decide +kernel
theorem dX8_canChoose_11 : decode cX8_canChoose 11 = .ok (.iconst 1, 1) := by decide +kernel
theorem dX8_canChoose_12 : decode cX8_canChoose 12 = .ok (.if_icmp .eq 14, 3) := by decide +kernel
theorem dX8_canChoose_15 : decode cX8_canChoose 15 = .ok (.aload_n 2, 1) := by decide +kernel
theorem dX8_canChoose_16 : decode cX8_canChoose 16 = .ok (.invokevirtual 240, 3) := by decide +kernel
theorem dX8_canChoose_19 : decode cX8_canChoose 19 = .ok (.aload_n 0, 1) := by decide +kernel
theorem dX8_canChoose_20 : decode cX8_canChoose 20 = .ok (.getfield 9, 3) := by decide +kernel
theorem dX8_canChoose_23 : decode cX8_canChoose 23 = .ok (.if_icmp .lt 5, 3) := by decide +kernel
theorem dX8_canChoose_26 : decode cX8_canChoose 26 = .ok (.iconst 0, 1) := by decide +kernel
theorem dX8_canChoose_27 : decode cX8_canChoose 27 = .ok (.ireturn, 1) := by decide +kernel
theorem dX8_canChoose_28 : decode cX8_canChoose 28 = .ok (.iload_n 3, 1) := by decide +kernel
theorem dX8_canChoose_29 : decode cX8_canChoose 29 = .ok (.ifCond .eq 12, 3) := by decide +kernel
theorem dX8_canChoose_32 : decode cX8_canChoose 32 = .ok (.aload_n 0, 1) := by decide +kernel
theorem dX8_canChoose_33 : decode cX8_canChoose 33 = .ok (.iload_n 1, 1) := by decide +kernel
theorem dX8_canChoose_34 : decode cX8_canChoose 34 = .ok (.aload_n 2, 1) := by decide +kernel
theorem dX8_canChoose_35 : decode cX8_canChoose 35 = .ok (.invokevirtual 446, 3) := by decide +kernel
theorem dX8_canChoose_38 : decode cX8_canChoose 38 = .ok (.ifCond .ne 7, 3) := by decide +kernel
theorem dX8_canChoose_41 : decode cX8_canChoose 41 = .ok (.iconst 1, 1) := by decide +kernel
theorem dX8_canChoose_42 : decode cX8_canChoose 42 = .ok (.goto 4, 3) := by decide +kernel
theorem dX8_canChoose_45 : decode cX8_canChoose 45 = .ok (.iconst 0, 1) := by decide +kernel
theorem dX8_canChoose_46 : decode cX8_canChoose 46 = .ok (.ireturn, 1) := by decide +kernel
theorem dX8_hasTryOutAt_0 : decode cX8_hasTryOutAt 0 = .ok (.iconst 0, 1) := by decide +kernel
theorem dX8_hasTryOutAt_1 : decode cX8_hasTryOutAt 1 = .ok (.istore_n 3, 1) := by decide +kernel
theorem dX8_hasTryOutAt_2 : decode cX8_hasTryOutAt 2 = .ok (.iload_n 3, 1) := by decide +kernel
theorem dX8_hasTryOutAt_3 : decode cX8_hasTryOutAt 3 = .ok (.aload_n 0, 1) := by decide +kernel
theorem dX8_hasTryOutAt_4 : decode cX8_hasTryOutAt 4 = .ok (.getfield 46, 3) := by decide +kernel
theorem dX8_hasTryOutAt_7 : decode cX8_hasTryOutAt 7 = .ok (.invokevirtual 82, 3) := by decide +kernel
theorem dX8_hasTryOutAt_10 : decode cX8_hasTryOutAt 10 = .ok (.if_icmp .ge 70, 3) := by decide +kernel
theorem dX8_hasTryOutAt_13 : decode cX8_hasTryOutAt 13 = .ok (.aload_n 0, 1) := by decide +kernel
theorem dX8_hasTryOutAt_14 : decode cX8_hasTryOutAt 14 = .ok (.getfield 46, 3) := by decide +kernel
theorem dX8_hasTryOutAt_17 : decode cX8_hasTryOutAt 17 = .ok (.iload_n 3, 1) := by decide +kernel
theorem dX8_hasTryOutAt_18 : decode cX8_hasTryOutAt 18 = .ok (.invokevirtual 98, 3) := by decide +kernel
theorem dX8_hasTryOutAt_21 : decode cX8_hasTryOutAt 21 = .ok (.checkcast 204, 3) := by decide +kernel
theorem dX8_hasTryOutAt_24 : decode cX8_hasTryOutAt 24 = .ok (.astore 4, 2) := by decide +kernel
theorem dX8_hasTryOutAt_26 : decode cX8_hasTryOutAt 26 = .ok (.aload 4, 2) := by decide +kernel
theorem dX8_hasTryOutAt_28 : decode cX8_hasTryOutAt 28 = .ok (.getfield 213, 3) := by decide +kernel
theorem dX8_hasTryOutAt_31 : decode cX8_hasTryOutAt 31 = .ok (.aload_n 2, 1) := by decide +kernel
theorem dX8_hasTryOutAt_32 : decode cX8_hasTryOutAt 32 = .ok (.if_acmp .ne 42, 3) := by decide +kernel
theorem dX8_hasTryOutAt_35 : decode cX8_hasTryOutAt 35 = .ok (.aload 4, 2) := by decide +kernel
theorem dX8_hasTryOutAt_37 : decode cX8_hasTryOutAt 37 = .ok (.getfield 206, 3) := by decide +kernel
theorem dX8_hasTryOutAt_40 : decode cX8_hasTryOutAt 40 = .ok (.getfield 273, 3) := by decide +kernel
theorem dX8_hasTryOutAt_43 : decode cX8_hasTryOutAt 43 = .ok (.iload_n 1, 1) := by decide +kernel
theorem dX8_hasTryOutAt_44 : decode cX8_hasTryOutAt 44 = .ok (.if_icmp .ne 30, 3) := by decide +kernel
theorem dX8_hasTryOutAt_47 : decode cX8_hasTryOutAt 47 = .ok (.aload 4, 2) := by decide +kernel
theorem dX8_hasTryOutAt_49 : decode cX8_hasTryOutAt 49 = .ok (.getfield 206, 3) := by decide +kernel
theorem dX8_hasTryOutAt_52 : decode cX8_hasTryOutAt 52 = .ok (.getfield 249, 3) := by decide +kernel
theorem dX8_hasTryOutAt_55 : decode cX8_hasTryOutAt 55 = .ok (.bipush 8, 2) := by decide +kernel
theorem dX8_hasTryOutAt_57 : decode cX8_hasTryOutAt 57 = .ok (.if_icmp .ne 17, 3) := by decide +kernel
theorem dX8_hasTryOutAt_60 : decode cX8_hasTryOutAt 60 = .ok (.aload 4, 2) := by decide +kernel
theorem dX8_hasTryOutAt_62 : decode cX8_hasTryOutAt 62 = .ok (.getfield 449, 3) := by decide +kernel
theorem dX8_hasTryOutAt_65 : decode cX8_hasTryOutAt 65 = .ok (.aload_n 0, 1) := by decide +kernel
theorem dX8_hasTryOutAt_66 : decode cX8_hasTryOutAt 66 = .ok (.getfield 140, 3) := by decide +kernel
theorem dX8_hasTryOutAt_69 : decode cX8_hasTryOutAt 69 = .ok (.if_icmp .le 5, 3) := by decide +kernel
theorem dX8_hasTryOutAt_72 : decode cX8_hasTryOutAt 72 = .ok (.iconst 1, 1) := by decide +kernel
theorem dX8_hasTryOutAt_73 : decode cX8_hasTryOutAt 73 = .ok (.ireturn, 1) := by decide +kernel
theorem dX8_hasTryOutAt_74 : decode cX8_hasTryOutAt 74 = .ok (.iinc 3 1, 3) := by decide +kernel
theorem dX8_hasTryOutAt_77 : decode cX8_hasTryOutAt 77 = .ok (.goto (-75), 3) := by decide +kernel
theorem dX8_hasTryOutAt_80 : decode cX8_hasTryOutAt 80 = .ok (.iconst 0, 1) := by decide +kernel
theorem dX8_hasTryOutAt_81 : decode cX8_hasTryOutAt 81 = .ok (.ireturn, 1) := by decide +kernel
theorem dX8_place_0 : decode cX8_place 0 = .ok (.aload_n 1, 1) := by decide +kernel
theorem dX8_place_1 : decode cX8_place 1 = .ok (.getfield 213, 3) := by decide +kernel
theorem dX8_place_4 : decode cX8_place 4 = .ok (.astore_n 2, 1) := by decide +kernel
theorem dX8_place_5 : decode cX8_place 5 = .ok (.aload_n 2, 1) := by decide +kernel
theorem dX8_place_6 : decode cX8_place 6 = .ok (.getfield 102, 3) := by decide +kernel
theorem dX8_place_9 : decode cX8_place 9 = .ok (.iconst 3, 1) := by decide +kernel
theorem dX8_place_10 : decode cX8_place 10 = .ok (.iaload, 1) := by decide +kernel
theorem dX8_place_11 : decode cX8_place 11 = .ok (.ifCond .eq 7, 3) := by decide +kernel
theorem dX8_place_14 : decode cX8_place 14 = .ok (.iconst 1, 1) := by decide +kernel
theorem dX8_place_15 : decode cX8_place 15 = .ok (.goto 4, 3) := by decide +kernel
theorem dX8_place_18 : decode cX8_place 18 = .ok (.iconst 0, 1) := by decide +kernel
theorem dX8_place_19 : decode cX8_place 19 = .ok (.istore_n 3, 1) := by decide +kernel
theorem dX8_place_20 : decode cX8_place 20 = .ok (.iload_n 3, 1) := by decide +kernel
theorem dX8_place_21 : decode cX8_place 21 = .ok (.ifCond .ne 32, 3) := by decide +kernel
theorem dX8_place_24 : decode cX8_place 24 = .ok (.aload_n 2, 1) := by decide +kernel
theorem dX8_place_25 : decode cX8_place 25 = .ok (.getfield 340, 3) := by decide +kernel
theorem dX8_place_28 : decode cX8_place 28 = .ok (.aload_n 2, 1) := by decide +kernel
theorem dX8_place_29 : decode cX8_place 29 = .ok (.getfield 337, 3) := by decide +kernel
theorem dX8_place_32 : decode cX8_place 32 = .ok (.if_icmp .ge 21, 3) := by decide +kernel
theorem dX8_place_35 : decode cX8_place 35 = .ok (.aload_n 2, 1) := by decide +kernel
theorem dX8_place_36 : decode cX8_place 36 = .ok (.getfield 343, 3) := by decide +kernel
theorem dX8_place_39 : decode cX8_place 39 = .ok (.invokevirtual 71, 3) := by decide +kernel
theorem dX8_place_42 : decode cX8_place 42 = .ok (.ifCond .eq 11, 3) := by decide +kernel
theorem dX8_place_45 : decode cX8_place 45 = .ok (.aload_n 0, 1) := by decide +kernel
theorem dX8_place_46 : decode cX8_place 46 = .ok (.aload_n 1, 1) := by decide +kernel
theorem dX8_place_47 : decode cX8_place 47 = .ok (.invokevirtual 349, 3) := by decide +kernel
theorem dX8_place_50 : decode cX8_place 50 = .ok (.goto 52, 3) := by decide +kernel
theorem dX8_place_53 : decode cX8_place 53 = .ok (.iload_n 3, 1) := by decide +kernel
theorem dX8_place_54 : decode cX8_place 54 = .ok (.ifCond .ne 34, 3) := by decide +kernel
theorem dX8_place_57 : decode cX8_place 57 = .ok (.aload_n 2, 1) := by decide +kernel
theorem dX8_place_58 : decode cX8_place 58 = .ok (.getfield 343, 3) := by decide +kernel
theorem dX8_place_61 : decode cX8_place 61 = .ok (.invokevirtual 82, 3) := by decide +kernel
theorem dX8_place_64 : decode cX8_place 64 = .ok (.aload_n 2, 1) := by decide +kernel
theorem dX8_place_65 : decode cX8_place 65 = .ok (.getfield 452, 3) := by decide +kernel
theorem dX8_place_68 : decode cX8_place 68 = .ok (.if_icmp .ge 20, 3) := by decide +kernel
theorem dX8_place_71 : decode cX8_place 71 = .ok (.aload_n 1, 1) := by decide +kernel
theorem dX8_place_72 : decode cX8_place 72 = .ok (.iconst 0, 1) := by decide +kernel
theorem dX8_place_73 : decode cX8_place 73 = .ok (.putfield 217, 3) := by decide +kernel
theorem dX8_place_76 : decode cX8_place 76 = .ok (.aload_n 2, 1) := by decide +kernel
theorem dX8_place_77 : decode cX8_place 77 = .ok (.getfield 343, 3) := by decide +kernel
theorem dX8_place_80 : decode cX8_place 80 = .ok (.aload_n 1, 1) := by decide +kernel
theorem dX8_place_81 : decode cX8_place 81 = .ok (.invokevirtual 91, 3) := by decide +kernel
theorem dX8_place_84 : decode cX8_place 84 = .ok (.pop, 1) := by decide +kernel
theorem dX8_place_85 : decode cX8_place 85 = .ok (.goto 17, 3) := by decide +kernel
theorem dX8_place_88 : decode cX8_place 88 = .ok (.aload_n 1, 1) := by decide +kernel
theorem dX8_place_89 : decode cX8_place 89 = .ok (.bipush 6, 2) := by decide +kernel
theorem dX8_place_91 : decode cX8_place 91 = .ok (.putfield 217, 3) := by decide +kernel
theorem dX8_place_94 : decode cX8_place 94 = .ok (.aload_n 1, 1) := by decide +kernel
theorem dX8_place_95 : decode cX8_place 95 = .ok (.aload_n 0, 1) := by decide +kernel
theorem dX8_place_96 : decode cX8_place 96 = .ok (.getfield 140, 3) := by decide +kernel
theorem dX8_place_99 : decode cX8_place 99 = .ok (.invokevirtual 455, 3) := by decide +kernel
theorem dX8_place_102 : decode cX8_place 102 = .ok (.return_, 1) := by decide +kernel
theorem dX8_run_0 : decode cX8_run 0 = .ok (.aload_n 1, 1) := by decide +kernel
theorem dX8_run_1 : decode cX8_run 1 = .ok (.iconst 1, 1) := by decide +kernel
theorem dX8_run_2 : decode cX8_run 2 = .ok (.putfield 217, 3) := by decide +kernel
theorem dX8_run_5 : decode cX8_run 5 = .ok (.aload_n 1, 1) := by decide +kernel
theorem dX8_run_6 : decode cX8_run 6 = .ok (.getfield 213, 3) := by decide +kernel
theorem dX8_run_9 : decode cX8_run 9 = .ok (.dup, 1) := by decide +kernel
theorem dX8_run_10 : decode cX8_run 10 = .ok (.getfield 340, 3) := by decide +kernel
theorem dX8_run_13 : decode cX8_run 13 = .ok (.iconst 1, 1) := by decide +kernel
theorem dX8_run_14 : decode cX8_run 14 = .ok (.iadd, 1) := by decide +kernel
theorem dX8_run_15 : decode cX8_run 15 = .ok (.putfield 340, 3) := by decide +kernel
theorem dX8_run_18 : decode cX8_run 18 = .ok (.aload_n 1, 1) := by decide +kernel
theorem dX8_run_19 : decode cX8_run 19 = .ok (.getfield 206, 3) := by decide +kernel
theorem dX8_run_22 : decode cX8_run 22 = .ok (.iconst 1, 1) := by decide +kernel
theorem dX8_run_23 : decode cX8_run 23 = .ok (.putfield 458, 3) := by decide +kernel
theorem dX8_run_26 : decode cX8_run 26 = .ok (.aload_n 0, 1) := by decide +kernel
theorem dX8_run_27 : decode cX8_run 27 = .ok (.getfield 26, 3) := by decide +kernel
theorem dX8_run_30 : decode cX8_run 30 = .ok (.aload_n 1, 1) := by decide +kernel
theorem dX8_run_31 : decode cX8_run 31 = .ok (.getfield 206, 3) := by decide +kernel
theorem dX8_run_34 : decode cX8_run 34 = .ok (.getfield 210, 3) := by decide +kernel
theorem dX8_run_37 : decode cX8_run 37 = .ok (.aaload, 1) := by decide +kernel
theorem dX8_run_38 : decode cX8_run 38 = .ok (.getfield 65, 3) := by decide +kernel
theorem dX8_run_41 : decode cX8_run 41 = .ok (.aload_n 1, 1) := by decide +kernel
theorem dX8_run_42 : decode cX8_run 42 = .ok (.getfield 213, 3) := by decide +kernel
theorem dX8_run_45 : decode cX8_run 45 = .ok (.getfield 102, 3) := by decide +kernel
theorem dX8_run_48 : decode cX8_run 48 = .ok (.iconst 0, 1) := by decide +kernel
theorem dX8_run_49 : decode cX8_run 49 = .ok (.iaload, 1) := by decide +kernel
theorem dX8_run_50 : decode cX8_run 50 = .ok (.iadd, 1) := by decide +kernel
theorem dX8_run_51 : decode cX8_run 51 = .ok (.istore_n 2, 1) := by decide +kernel
theorem dX8_run_52 : decode cX8_run 52 = .ok (.aload_n 1, 1) := by decide +kernel
theorem dX8_run_53 : decode cX8_run 53 = .ok (.aload_n 0, 1) := by decide +kernel
theorem dX8_run_54 : decode cX8_run 54 = .ok (.getfield 140, 3) := by decide +kernel
theorem dX8_run_57 : decode cX8_run 57 = .ok (.iconst 1, 1) := by decide +kernel
theorem dX8_run_58 : decode cX8_run 58 = .ok (.iload_n 2, 1) := by decide +kernel
theorem dX8_run_59 : decode cX8_run 59 = .ok (.invokestatic 461, 3) := by decide +kernel
theorem dX8_run_62 : decode cX8_run 62 = .ok (.iadd, 1) := by decide +kernel
theorem dX8_run_63 : decode cX8_run 63 = .ok (.putfield 289, 3) := by decide +kernel
theorem dX8_run_66 : decode cX8_run 66 = .ok (.return_, 1) := by decide +kernel
theorem dX8_end_0 : decode cX8_end 0 = .ok (.iload_n 3, 1) := by decide +kernel
theorem dX8_end_1 : decode cX8_end 1 = .ok (.bipush 6, 2) := by decide +kernel
theorem dX8_end_3 : decode cX8_end 3 = .ok (.if_icmp .le 4, 3) := by decide +kernel
theorem dX8_end_6 : decode cX8_end 6 = .ok (.return_, 1) := by decide +kernel
theorem dX8_end_7 : decode cX8_end 7 = .ok (.aload_n 1, 1) := by decide +kernel
theorem dX8_end_8 : decode cX8_end 8 = .ok (.getfield 213, 3) := by decide +kernel
theorem dX8_end_11 : decode cX8_end 11 = .ok (.aload_n 1, 1) := by decide +kernel
theorem dX8_end_12 : decode cX8_end 12 = .ok (.invokevirtual 464, 3) := by decide +kernel
theorem dX8_end_15 : decode cX8_end 15 = .ok (.aload_n 1, 1) := by decide +kernel
theorem dX8_end_16 : decode cX8_end 16 = .ok (.iload_n 2, 1) := by decide +kernel
theorem dX8_end_17 : decode cX8_end 17 = .ok (.putfield 217, 3) := by decide +kernel
theorem dX8_end_20 : decode cX8_end 20 = .ok (.aload_n 1, 1) := by decide +kernel
theorem dX8_end_21 : decode cX8_end 21 = .ok (.aload_n 0, 1) := by decide +kernel
theorem dX8_end_22 : decode cX8_end 22 = .ok (.getfield 140, 3) := by decide +kernel
theorem dX8_end_25 : decode cX8_end 25 = .ok (.invokevirtual 455, 3) := by decide +kernel
theorem dX8_end_28 : decode cX8_end 28 = .ok (.aload_n 1, 1) := by decide +kernel
theorem dX8_end_29 : decode cX8_end 29 = .ok (.invokevirtual 292, 3) := by decide +kernel
theorem dX8_end_32 : decode cX8_end 32 = .ok (.astore 4, 2) := by decide +kernel
theorem dX8_end_34 : decode cX8_end 34 = .ok (.aload 4, 2) := by decide +kernel
theorem dX8_end_36 : decode cX8_end 36 = .ok (.ifnull 12, 3) := by decide +kernel
theorem dX8_end_39 : decode cX8_end 39 = .ok (.aload_n 0, 1) := by decide +kernel
theorem dX8_end_40 : decode cX8_end 40 = .ok (.aload 4, 2) := by decide +kernel
theorem dX8_end_42 : decode cX8_end 42 = .ok (.iload_n 3, 1) := by decide +kernel
theorem dX8_end_43 : decode cX8_end 43 = .ok (.iconst 1, 1) := by decide +kernel
theorem dX8_end_44 : decode cX8_end 44 = .ok (.iadd, 1) := by decide +kernel
theorem dX8_end_45 : decode cX8_end 45 = .ok (.invokevirtual 356, 3) := by decide +kernel
theorem dX8_end_48 : decode cX8_end 48 = .ok (.iload_n 2, 1) := by decide +kernel
theorem dX8_end_49 : decode cX8_end 49 = .ok (.iconst 3, 1) := by decide +kernel
theorem dX8_end_50 : decode cX8_end 50 = .ok (.if_icmp .eq 8, 3) := by decide +kernel
theorem dX8_end_53 : decode cX8_end 53 = .ok (.aload_n 0, 1) := by decide +kernel
theorem dX8_end_54 : decode cX8_end 54 = .ok (.aload_n 1, 1) := by decide +kernel
theorem dX8_end_55 : decode cX8_end 55 = .ok (.invokevirtual 467, 3) := by decide +kernel
theorem dX8_end_58 : decode cX8_end 58 = .ok (.return_, 1) := by decide +kernel
theorem dX8_close_0 : decode cX8_close 0 = .ok (.aload_n 1, 1) := by decide +kernel
theorem dX8_close_1 : decode cX8_close 1 = .ok (.getfield 249, 3) := by decide +kernel
theorem dX8_close_4 : decode cX8_close 4 = .ok (.bipush 8, 2) := by decide +kernel
theorem dX8_close_6 : decode cX8_close 6 = .ok (.if_icmp .ne 9, 3) := by decide +kernel
theorem dX8_close_9 : decode cX8_close 9 = .ok (.aload_n 1, 1) := by decide +kernel
theorem dX8_close_10 : decode cX8_close 10 = .ok (.bipush 7, 2) := by decide +kernel
theorem dX8_close_12 : decode cX8_close 12 = .ok (.putfield 249, 3) := by decide +kernel
theorem dX8_close_15 : decode cX8_close 15 = .ok (.iconst 0, 1) := by decide +kernel
theorem dX8_close_16 : decode cX8_close 16 = .ok (.istore_n 3, 1) := by decide +kernel
theorem dX8_close_17 : decode cX8_close 17 = .ok (.iload_n 3, 1) := by decide +kernel
theorem dX8_close_18 : decode cX8_close 18 = .ok (.aload_n 1, 1) := by decide +kernel
theorem dX8_close_19 : decode cX8_close 19 = .ok (.getfield 377, 3) := by decide +kernel
theorem dX8_close_22 : decode cX8_close 22 = .ok (.invokevirtual 82, 3) := by decide +kernel
theorem dX8_close_25 : decode cX8_close 25 = .ok (.if_icmp .ge 39, 3) := by decide +kernel
theorem dX8_close_28 : decode cX8_close 28 = .ok (.aload_n 1, 1) := by decide +kernel
theorem dX8_close_29 : decode cX8_close 29 = .ok (.getfield 377, 3) := by decide +kernel
theorem dX8_close_32 : decode cX8_close 32 = .ok (.iload_n 3, 1) := by decide +kernel
theorem dX8_close_33 : decode cX8_close 33 = .ok (.invokevirtual 98, 3) := by decide +kernel
theorem dX8_close_36 : decode cX8_close 36 = .ok (.checkcast 204, 3) := by decide +kernel
theorem dX8_close_39 : decode cX8_close 39 = .ok (.astore 4, 2) := by decide +kernel
theorem dX8_close_41 : decode cX8_close 41 = .ok (.aload 4, 2) := by decide +kernel
theorem dX8_close_43 : decode cX8_close 43 = .ok (.invokevirtual 282, 3) := by decide +kernel
theorem dX8_close_46 : decode cX8_close 46 = .ok (.ifCond .ne 12, 3) := by decide +kernel
theorem dX8_close_49 : decode cX8_close 49 = .ok (.aload_n 0, 1) := by decide +kernel
theorem dX8_close_50 : decode cX8_close 50 = .ok (.aload 4, 2) := by decide +kernel
theorem dX8_close_52 : decode cX8_close 52 = .ok (.bipush 7, 2) := by decide +kernel
theorem dX8_close_54 : decode cX8_close 54 = .ok (.iload_n 2, 1) := by decide +kernel
theorem dX8_close_55 : decode cX8_close 55 = .ok (.invokevirtual 285, 3) := by decide +kernel
theorem dX8_close_58 : decode cX8_close 58 = .ok (.iinc 3 1, 3) := by decide +kernel
theorem dX8_close_61 : decode cX8_close 61 = .ok (.goto (-44), 3) := by decide +kernel
theorem dX8_close_64 : decode cX8_close 64 = .ok (.return_, 1) := by decide +kernel
theorem dX8_beginRepairs_0 : decode cX8_beginRepairs 0 = .ok (.aload_n 1, 1) := by decide +kernel
theorem dX8_beginRepairs_1 : decode cX8_beginRepairs 1 = .ok (.getfield 224, 3) := by decide +kernel
theorem dX8_beginRepairs_4 : decode cX8_beginRepairs 4 = .ok (.invokevirtual 82, 3) := by decide +kernel
theorem dX8_beginRepairs_7 : decode cX8_beginRepairs 7 = .ok (.iconst 1, 1) := by decide +kernel
theorem dX8_beginRepairs_8 : decode cX8_beginRepairs 8 = .ok (.isub, 1) := by decide +kernel
theorem dX8_beginRepairs_9 : decode cX8_beginRepairs 9 = .ok (.istore_n 2, 1) := by decide +kernel
theorem dX8_beginRepairs_10 : decode cX8_beginRepairs 10 = .ok (.iload_n 2, 1) := by decide +kernel
theorem dX8_beginRepairs_11 : decode cX8_beginRepairs 11 = .ok (.ifCond .lt 91, 3) := by decide +kernel
theorem dX8_beginRepairs_14 : decode cX8_beginRepairs 14 = .ok (.aload_n 1, 1) := by decide +kernel
theorem dX8_beginRepairs_15 : decode cX8_beginRepairs 15 = .ok (.getfield 224, 3) := by decide +kernel
theorem dX8_beginRepairs_18 : decode cX8_beginRepairs 18 = .ok (.iload_n 2, 1) := by decide +kernel
theorem dX8_beginRepairs_19 : decode cX8_beginRepairs 19 = .ok (.invokevirtual 98, 3) := by decide +kernel
theorem dX8_beginRepairs_22 : decode cX8_beginRepairs 22 = .ok (.checkcast 132, 3) := by decide +kernel
theorem dX8_beginRepairs_25 : decode cX8_beginRepairs 25 = .ok (.astore_n 3, 1) := by decide +kernel
theorem dX8_beginRepairs_26 : decode cX8_beginRepairs 26 = .ok (.aload_n 3, 1) := by decide +kernel
theorem dX8_beginRepairs_27 : decode cX8_beginRepairs 27 = .ok (.getfield 317, 3) := by decide +kernel
theorem dX8_beginRepairs_30 : decode cX8_beginRepairs 30 = .ok (.iconst (-1), 1) := by decide +kernel
theorem dX8_beginRepairs_31 : decode cX8_beginRepairs 31 = .ok (.if_icmp .eq 65, 3) := by decide +kernel
theorem dX8_beginRepairs_34 : decode cX8_beginRepairs 34 = .ok (.aload_n 3, 1) := by decide +kernel
theorem dX8_beginRepairs_35 : decode cX8_beginRepairs 35 = .ok (.getfield 458, 3) := by decide +kernel
theorem dX8_beginRepairs_38 : decode cX8_beginRepairs 38 = .ok (.ifCond .eq 58, 3) := by decide +kernel
theorem dX8_beginRepairs_41 : decode cX8_beginRepairs 41 = .ok (.aload_n 0, 1) := by decide +kernel
theorem dX8_beginRepairs_42 : decode cX8_beginRepairs 42 = .ok (.getfield 49, 3) := by decide +kernel
theorem dX8_beginRepairs_45 : decode cX8_beginRepairs 45 = .ok (.invokevirtual 82, 3) := by decide +kernel
theorem dX8_beginRepairs_48 : decode cX8_beginRepairs 48 = .ok (.bipush 100, 2) := by decide +kernel
theorem dX8_beginRepairs_50 : decode cX8_beginRepairs 50 = .ok (.if_icmp .ge 46, 3) := by decide +kernel
theorem dX8_beginRepairs_53 : decode cX8_beginRepairs 53 = .ok (.new 132, 3) := by decide +kernel
theorem dX8_beginRepairs_56 : decode cX8_beginRepairs 56 = .ok (.dup, 1) := by decide +kernel
theorem dX8_beginRepairs_57 : decode cX8_beginRepairs 57 = .ok (.aload_n 1, 1) := by decide +kernel
theorem dX8_beginRepairs_58 : decode cX8_beginRepairs 58 = .ok (.getfield 206, 3) := by decide +kernel
theorem dX8_beginRepairs_61 : decode cX8_beginRepairs 61 = .ok (.getfield 210, 3) := by decide +kernel
theorem dX8_beginRepairs_64 : decode cX8_beginRepairs 64 = .ok (.aload_n 3, 1) := by decide +kernel
theorem dX8_beginRepairs_65 : decode cX8_beginRepairs 65 = .ok (.getfield 317, 3) := by decide +kernel
theorem dX8_beginRepairs_68 : decode cX8_beginRepairs 68 = .ok (.iconst 0, 1) := by decide +kernel
theorem dX8_beginRepairs_69 : decode cX8_beginRepairs 69 = .ok (.invokespecial 134, 3) := by decide +kernel
theorem dX8_beginRepairs_72 : decode cX8_beginRepairs 72 = .ok (.astore 4, 2) := by decide +kernel
theorem dX8_beginRepairs_74 : decode cX8_beginRepairs 74 = .ok (.aload 4, 2) := by decide +kernel
theorem dX8_beginRepairs_76 : decode cX8_beginRepairs 76 = .ok (.aload_n 0, 1) := by decide +kernel
theorem dX8_beginRepairs_77 : decode cX8_beginRepairs 77 = .ok (.getfield 49, 3) := by decide +kernel
theorem dX8_beginRepairs_80 : decode cX8_beginRepairs 80 = .ok (.invokevirtual 82, 3) := by decide +kernel
theorem dX8_beginRepairs_83 : decode cX8_beginRepairs 83 = .ok (.putfield 227, 3) := by decide +kernel
theorem dX8_beginRepairs_86 : decode cX8_beginRepairs 86 = .ok (.aload_n 0, 1) := by decide +kernel
theorem dX8_beginRepairs_87 : decode cX8_beginRepairs 87 = .ok (.getfield 49, 3) := by decide +kernel
theorem dX8_beginRepairs_90 : decode cX8_beginRepairs 90 = .ok (.aload 4, 2) := by decide +kernel
theorem dX8_beginRepairs_92 : decode cX8_beginRepairs 92 = .ok (.invokevirtual 91, 3) := by decide +kernel
theorem dX8_beginRepairs_95 : decode cX8_beginRepairs 95 = .ok (.pop, 1) := by decide +kernel
theorem dX8_beginRepairs_96 : decode cX8_beginRepairs 96 = .ok (.iinc 2 (-1), 3) := by decide +kernel
theorem dX8_beginRepairs_99 : decode cX8_beginRepairs 99 = .ok (.goto (-89), 3) := by decide +kernel
theorem dX8_beginRepairs_102 : decode cX8_beginRepairs 102 = .ok (.return_, 1) := by decide +kernel
theorem dX9_init_0 : decode cX9_init 0 = .ok (.aload_n 0, 1) := by decide +kernel
theorem dX9_init_1 : decode cX9_init 1 = .ok (.invokespecial 1, 3) := by decide +kernel
theorem dX9_init_4 : decode cX9_init 4 = .ok (.aload_n 0, 1) := by decide +kernel
theorem dX9_init_5 : decode cX9_init 5 = .ok (.bipush 6, 2) := by decide +kernel
theorem dX9_init_7 : decode cX9_init 7 = .ok (.newarray .int, 2) := by decide +kernel
theorem dX9_init_9 : decode cX9_init 9 = .ok (.putfield 7, 3) := by decide +kernel
theorem dX9_init_12 : decode cX9_init 12 = .ok (.aload_n 0, 1) := by decide +kernel
theorem dX9_init_13 : decode cX9_init 13 = .ok (.bipush 6, 2) := by decide +kernel
theorem dX9_init_15 : decode cX9_init 15 = .ok (.newarray .int, 2) := by decide +kernel
theorem dX9_init_17 : decode cX9_init 17 = .ok (.putfield 13, 3) := by decide +kernel
theorem dX9_init_20 : decode cX9_init 20 = .ok (.aload_n 0, 1) := by decide +kernel
theorem dX9_init_21 : decode cX9_init 21 = .ok (.bipush 24, 2) := by decide +kernel
theorem dX9_init_23 : decode cX9_init 23 = .ok (.newarray .int, 2) := by decide +kernel
theorem dX9_init_25 : decode cX9_init 25 = .ok (.putfield 16, 3) := by decide +kernel
theorem dX9_init_28 : decode cX9_init 28 = .ok (.aload_n 0, 1) := by decide +kernel
theorem dX9_init_29 : decode cX9_init 29 = .ok (.bipush 24, 2) := by decide +kernel
theorem dX9_init_31 : decode cX9_init 31 = .ok (.newarray .boolean, 2) := by decide +kernel
theorem dX9_init_33 : decode cX9_init 33 = .ok (.putfield 19, 3) := by decide +kernel
theorem dX9_init_36 : decode cX9_init 36 = .ok (.aload_n 0, 1) := by decide +kernel
theorem dX9_init_37 : decode cX9_init 37 = .ok (.bipush 24, 2) := by decide +kernel
theorem dX9_init_39 : decode cX9_init 39 = .ok (.newarray .int, 2) := by decide +kernel
theorem dX9_init_41 : decode cX9_init 41 = .ok (.putfield 23, 3) := by decide +kernel
theorem dX9_init_44 : decode cX9_init 44 = .ok (.aload_n 0, 1) := by decide +kernel
theorem dX9_init_45 : decode cX9_init 45 = .ok (.bipush 12, 2) := by decide +kernel
theorem dX9_init_47 : decode cX9_init 47 = .ok (.newarray .int, 2) := by decide +kernel
theorem dX9_init_49 : decode cX9_init 49 = .ok (.putfield 26, 3) := by decide +kernel
theorem dX9_init_52 : decode cX9_init 52 = .ok (.aload_n 0, 1) := by decide +kernel
theorem dX9_init_53 : decode cX9_init 53 = .ok (.bipush 12, 2) := by decide +kernel
theorem dX9_init_55 : decode cX9_init 55 = .ok (.newarray .int, 2) := by decide +kernel
theorem dX9_init_57 : decode cX9_init 57 = .ok (.putfield 29, 3) := by decide +kernel
theorem dX9_init_60 : decode cX9_init 60 = .ok (.aload_n 0, 1) := by decide +kernel
theorem dX9_init_61 : decode cX9_init 61 = .ok (.bipush 12, 2) := by decide +kernel
theorem dX9_init_63 : decode cX9_init 63 = .ok (.newarray .int, 2) := by decide +kernel
theorem dX9_init_65 : decode cX9_init 65 = .ok (.putfield 32, 3) := by decide +kernel
theorem dX9_init_68 : decode cX9_init 68 = .ok (.aload_n 0, 1) := by decide +kernel
theorem dX9_init_69 : decode cX9_init 69 = .ok (.bipush 12, 2) := by decide +kernel
theorem dX9_init_71 : decode cX9_init 71 = .ok (.newarray .int, 2) := by decide +kernel
theorem dX9_init_73 : decode cX9_init 73 = .ok (.putfield 35, 3) := by decide +kernel
theorem dX9_init_76 : decode cX9_init 76 = .ok (.aload_n 0, 1) := by decide +kernel
theorem dX9_init_77 : decode cX9_init 77 = .ok (.bipush 12, 2) := by decide +kernel
theorem dX9_init_79 : decode cX9_init 79 = .ok (.newarray .int, 2) := by decide +kernel
theorem dX9_init_81 : decode cX9_init 81 = .ok (.putfield 38, 3) := by decide +kernel
theorem dX9_init_84 : decode cX9_init 84 = .ok (.aload_n 0, 1) := by decide +kernel
theorem dX9_init_85 : decode cX9_init 85 = .ok (.bipush 12, 2) := by decide +kernel
theorem dX9_init_87 : decode cX9_init 87 = .ok (.newarray .int, 2) := by decide +kernel
theorem dX9_init_89 : decode cX9_init 89 = .ok (.putfield 41, 3) := by decide +kernel
theorem dX9_init_92 : decode cX9_init 92 = .ok (.aload_n 0, 1) := by decide +kernel
theorem dX9_init_93 : decode cX9_init 93 = .ok (.bipush 48, 2) := by decide +kernel
theorem dX9_init_95 : decode cX9_init 95 = .ok (.newarray .int, 2) := by decide +kernel
theorem dX9_init_97 : decode cX9_init 97 = .ok (.putfield 44, 3) := by decide +kernel
theorem dX9_init_100 : decode cX9_init 100 = .ok (.aload_n 0, 1) := by decide +kernel
theorem dX9_init_101 : decode cX9_init 101 = .ok (.bipush 12, 2) := by decide +kernel
theorem dX9_init_103 : decode cX9_init 103 = .ok (.newarray .int, 2) := by decide +kernel
theorem dX9_init_105 : decode cX9_init 105 = .ok (.putfield 47, 3) := by decide +kernel
theorem dX9_init_108 : decode cX9_init 108 = .ok (.aload_n 0, 1) := by decide +kernel
theorem dX9_init_109 : decode cX9_init 109 = .ok (.sipush 147, 3) := by decide +kernel
theorem dX9_init_112 : decode cX9_init 112 = .ok (.newarray .int, 2) := by decide +kernel
theorem dX9_init_114 : decode cX9_init 114 = .ok (.putfield 50, 3) := by decide +kernel
theorem dX9_init_117 : decode cX9_init 117 = .ok (.aload_n 0, 1) := by decide +kernel
theorem dX9_init_118 : decode cX9_init 118 = .ok (.bipush 7, 2) := by decide +kernel
theorem dX9_init_120 : decode cX9_init 120 = .ok (.newarray .int, 2) := by decide +kernel
theorem dX9_init_122 : decode cX9_init 122 = .ok (.putfield 53, 3) := by decide +kernel
theorem dX9_init_125 : decode cX9_init 125 = .ok (.aload_n 0, 1) := by decide +kernel
theorem dX9_init_126 : decode cX9_init 126 = .ok (.bipush 7, 2) := by decide +kernel
theorem dX9_init_128 : decode cX9_init 128 = .ok (.newarray .int, 2) := by decide +kernel
theorem dX9_init_130 : decode cX9_init 130 = .ok (.putfield 56, 3) := by decide +kernel
theorem dX9_init_133 : decode cX9_init 133 = .ok (.aload_n 0, 1) := by decide +kernel
theorem dX9_init_134 : decode cX9_init 134 = .ok (.bipush 7, 2) := by decide +kernel
theorem dX9_init_136 : decode cX9_init 136 = .ok (.newarray .int, 2) := by decide +kernel
theorem dX9_init_138 : decode cX9_init 138 = .ok (.putfield 59, 3) := by decide +kernel
theorem dX9_init_141 : decode cX9_init 141 = .ok (.aload_n 0, 1) := by decide +kernel
theorem dX9_init_142 : decode cX9_init 142 = .ok (.bipush 7, 2) := by decide +kernel
theorem dX9_init_144 : decode cX9_init 144 = .ok (.newarray .int, 2) := by decide +kernel
theorem dX9_init_146 : decode cX9_init 146 = .ok (.putfield 62, 3) := by decide +kernel
theorem dX9_init_149 : decode cX9_init 149 = .ok (.aload_n 0, 1) := by decide +kernel
theorem dX9_init_150 : decode cX9_init 150 = .ok (.iconst 3, 1) := by decide +kernel
theorem dX9_init_151 : decode cX9_init 151 = .ok (.putfield 65, 3) := by decide +kernel
theorem dX9_init_154 : decode cX9_init 154 = .ok (.aload_n 0, 1) := by decide +kernel
theorem dX9_init_155 : decode cX9_init 155 = .ok (.bipush 84, 2) := by decide +kernel
theorem dX9_init_157 : decode cX9_init 157 = .ok (.newarray .int, 2) := by decide +kernel
theorem dX9_init_159 : decode cX9_init 159 = .ok (.putfield 69, 3) := by decide +kernel
theorem dX9_init_162 : decode cX9_init 162 = .ok (.aload_n 0, 1) := by decide +kernel
theorem dX9_init_163 : decode cX9_init 163 = .ok (.bipush 84, 2) := by decide +kernel
theorem dX9_init_165 : decode cX9_init 165 = .ok (.newarray .int, 2) := by decide +kernel
theorem dX9_init_167 : decode cX9_init 167 = .ok (.putfield 72, 3) := by decide +kernel
theorem dX9_init_170 : decode cX9_init 170 = .ok (.aload_n 0, 1) := by decide +kernel
theorem dX9_init_171 : decode cX9_init 171 = .ok (.bipush 84, 2) := by decide +kernel
theorem dX9_init_173 : decode cX9_init 173 = .ok (.newarray .int, 2) := by decide +kernel
theorem dX9_init_175 : decode cX9_init 175 = .ok (.putfield 75, 3) := by decide +kernel
theorem dX9_init_178 : decode cX9_init 178 = .ok (.aload_n 0, 1) := by decide +kernel
theorem dX9_init_179 : decode cX9_init 179 = .ok (.bipush 84, 2) := by decide +kernel
theorem dX9_init_181 : decode cX9_init 181 = .ok (.newarray .int, 2) := by decide +kernel
theorem dX9_init_183 : decode cX9_init 183 = .ok (.putfield 78, 3) := by decide +kernel
theorem dX9_init_186 : decode cX9_init 186 = .ok (.aload_n 0, 1) := by decide +kernel
theorem dX9_init_187 : decode cX9_init 187 = .ok (.bipush 6, 2) := by decide +kernel
theorem dX9_init_189 : decode cX9_init 189 = .ok (.newarray .int, 2) := by decide +kernel
theorem dX9_init_191 : decode cX9_init 191 = .ok (.putfield 81, 3) := by decide +kernel
theorem dX9_init_194 : decode cX9_init 194 = .ok (.aload_n 0, 1) := by decide +kernel
theorem dX9_init_195 : decode cX9_init 195 = .ok (.bipush 6, 2) := by decide +kernel
theorem dX9_init_197 : decode cX9_init 197 = .ok (.newarray .int, 2) := by decide +kernel
theorem dX9_init_199 : decode cX9_init 199 = .ok (.putfield 84, 3) := by decide +kernel
theorem dX9_init_202 : decode cX9_init 202 = .ok (.aload_n 0, 1) := by decide +kernel
theorem dX9_init_203 : decode cX9_init 203 = .ok (.bipush 12, 2) := by decide +kernel
theorem dX9_init_205 : decode cX9_init 205 = .ok (.newarray .int, 2) := by decide +kernel
theorem dX9_init_207 : decode cX9_init 207 = .ok (.putfield 87, 3) := by decide +kernel
theorem dX9_init_210 : decode cX9_init 210 = .ok (.aload_n 0, 1) := by decide +kernel
theorem dX9_init_211 : decode cX9_init 211 = .ok (.bipush 12, 2) := by decide +kernel
theorem dX9_init_213 : decode cX9_init 213 = .ok (.newarray .int, 2) := by decide +kernel
theorem dX9_init_215 : decode cX9_init 215 = .ok (.putfield 90, 3) := by decide +kernel
theorem dX9_init_218 : decode cX9_init 218 = .ok (.aload_n 0, 1) := by decide +kernel
theorem dX9_init_219 : decode cX9_init 219 = .ok (.iconst 4, 1) := by decide +kernel
theorem dX9_init_220 : decode cX9_init 220 = .ok (.putfield 93, 3) := by decide +kernel
theorem dX9_init_223 : decode cX9_init 223 = .ok (.aload_n 0, 1) := by decide +kernel
theorem dX9_init_224 : decode cX9_init 224 = .ok (.bipush 30, 2) := by decide +kernel
theorem dX9_init_226 : decode cX9_init 226 = .ok (.putfield 96, 3) := by decide +kernel
theorem dX9_init_229 : decode cX9_init 229 = .ok (.aload_n 0, 1) := by decide +kernel
theorem dX9_init_230 : decode cX9_init 230 = .ok (.sipush 400, 3) := by decide +kernel
theorem dX9_init_233 : decode cX9_init 233 = .ok (.newarray .int, 2) := by decide +kernel
theorem dX9_init_235 : decode cX9_init 235 = .ok (.putfield 99, 3) := by decide +kernel
theorem dX9_init_238 : decode cX9_init 238 = .ok (.aload_n 0, 1) := by decide +kernel
theorem dX9_init_239 : decode cX9_init 239 = .ok (.sipush 400, 3) := by decide +kernel
theorem dX9_init_242 : decode cX9_init 242 = .ok (.newarray .int, 2) := by decide +kernel
theorem dX9_init_244 : decode cX9_init 244 = .ok (.putfield 102, 3) := by decide +kernel
theorem dX9_init_247 : decode cX9_init 247 = .ok (.aload_n 0, 1) := by decide +kernel
theorem dX9_init_248 : decode cX9_init 248 = .ok (.sipush 400, 3) := by decide +kernel
theorem dX9_init_251 : decode cX9_init 251 = .ok (.newarray .int, 2) := by decide +kernel
theorem dX9_init_253 : decode cX9_init 253 = .ok (.putfield 105, 3) := by decide +kernel
theorem dX9_init_256 : decode cX9_init 256 = .ok (.aload_n 0, 1) := by decide +kernel
theorem dX9_init_257 : decode cX9_init 257 = .ok (.sipush 400, 3) := by decide +kernel
theorem dX9_init_260 : decode cX9_init 260 = .ok (.newarray .int, 2) := by decide +kernel
theorem dX9_init_262 : decode cX9_init 262 = .ok (.putfield 108, 3) := by decide +kernel
theorem dX9_init_265 : decode cX9_init 265 = .ok (.aload_n 0, 1) := by decide +kernel
theorem dX9_init_266 : decode cX9_init 266 = .ok (.sipush 400, 3) := by decide +kernel
theorem dX9_init_269 : decode cX9_init 269 = .ok (.newarray .int, 2) := by decide +kernel
theorem dX9_init_271 : decode cX9_init 271 = .ok (.putfield 111, 3) := by decide +kernel
theorem dX9_init_274 : decode cX9_init 274 = .ok (.aload_n 0, 1) := by decide +kernel
theorem dX9_init_275 : decode cX9_init 275 = .ok (.sipush 400, 3) := by decide +kernel
theorem dX9_init_278 : decode cX9_init 278 = .ok (.newarray .int, 2) := by decide +kernel
theorem dX9_init_280 : decode cX9_init 280 = .ok (.putfield 114, 3) := by decide +kernel
theorem dX9_init_283 : decode cX9_init 283 = .ok (.aload_n 0, 1) := by decide +kernel
theorem dX9_init_284 : decode cX9_init 284 = .ok (.sipush 400, 3) := by decide +kernel
theorem dX9_init_287 : decode cX9_init 287 = .ok (.newarray .int, 2) := by decide +kernel
theorem dX9_init_289 : decode cX9_init 289 = .ok (.putfield 117, 3) := by decide +kernel
theorem dX9_init_292 : decode cX9_init 292 = .ok (.aload_n 0, 1) := by decide +kernel
theorem dX9_init_293 : decode cX9_init 293 = .ok (.sipush 400, 3) := by decide +kernel
theorem dX9_init_296 : decode cX9_init 296 = .ok (.newarray .int, 2) := by decide +kernel
theorem dX9_init_298 : decode cX9_init 298 = .ok (.putfield 120, 3) := by decide +kernel
theorem dX9_init_301 : decode cX9_init 301 = .ok (.aload_n 0, 1) := by decide +kernel
theorem dX9_init_302 : decode cX9_init 302 = .ok (.sipush 400, 3) := by decide +kernel
theorem dX9_init_305 : decode cX9_init 305 = .ok (.newarray .int, 2) := by decide +kernel
theorem dX9_init_307 : decode cX9_init 307 = .ok (.putfield 123, 3) := by decide +kernel
theorem dX9_init_310 : decode cX9_init 310 = .ok (.aload_n 0, 1) := by decide +kernel
theorem dX9_init_311 : decode cX9_init 311 = .ok (.sipush 400, 3) := by decide +kernel
theorem dX9_init_314 : decode cX9_init 314 = .ok (.newarray .boolean, 2) := by decide +kernel
theorem dX9_init_316 : decode cX9_init 316 = .ok (.putfield 126, 3) := by decide +kernel
theorem dX9_init_319 : decode cX9_init 319 = .ok (.aload_n 0, 1) := by decide +kernel
theorem dX9_init_320 : decode cX9_init 320 = .ok (.sipush 400, 3) := by decide +kernel
theorem dX9_init_323 : decode cX9_init 323 = .ok (.newarray .boolean, 2) := by decide +kernel
theorem dX9_init_325 : decode cX9_init 325 = .ok (.putfield 129, 3) := by decide +kernel
theorem dX9_init_328 : decode cX9_init 328 = .ok (.aload_n 0, 1) := by decide +kernel
theorem dX9_init_329 : decode cX9_init 329 = .ok (.sipush 400, 3) := by decide +kernel
theorem dX9_init_332 : decode cX9_init 332 = .ok (.newarray .boolean, 2) := by decide +kernel
theorem dX9_init_334 : decode cX9_init 334 = .ok (.putfield 132, 3) := by decide +kernel
theorem dX9_init_337 : decode cX9_init 337 = .ok (.aload_n 0, 1) := by decide +kernel
theorem dX9_init_338 : decode cX9_init 338 = .ok (.sipush 400, 3) := by decide +kernel
theorem dX9_init_341 : decode cX9_init 341 = .ok (.newarray .boolean, 2) := by decide +kernel
theorem dX9_init_343 : decode cX9_init 343 = .ok (.putfield 135, 3) := by decide +kernel
theorem dX9_init_346 : decode cX9_init 346 = .ok (.aload_n 0, 1) := by decide +kernel
theorem dX9_init_347 : decode cX9_init 347 = .ok (.sipush 400, 3) := by decide +kernel
theorem dX9_init_350 : decode cX9_init 350 = .ok (.newarray .int, 2) := by decide +kernel
theorem dX9_init_352 : decode cX9_init 352 = .ok (.putfield 138, 3) := by decide +kernel
theorem dX9_init_355 : decode cX9_init 355 = .ok (.aload_n 0, 1) := by decide +kernel
theorem dX9_init_356 : decode cX9_init 356 = .ok (.sipush 540, 3) := by decide +kernel
theorem dX9_init_359 : decode cX9_init 359 = .ok (.newarray .int, 2) := by decide +kernel
theorem dX9_init_361 : decode cX9_init 361 = .ok (.putfield 141, 3) := by decide +kernel
theorem dX9_init_364 : decode cX9_init 364 = .ok (.aload_n 0, 1) := by decide +kernel
theorem dX9_init_365 : decode cX9_init 365 = .ok (.sipush 540, 3) := by decide +kernel
theorem dX9_init_368 : decode cX9_init 368 = .ok (.newarray .int, 2) := by decide +kernel
theorem dX9_init_370 : decode cX9_init 370 = .ok (.putfield 144, 3) := by decide +kernel
theorem dX9_init_373 : decode cX9_init 373 = .ok (.aload_n 0, 1) := by decide +kernel
theorem dX9_init_374 : decode cX9_init 374 = .ok (.sipush 540, 3) := by decide +kernel
theorem dX9_init_377 : decode cX9_init 377 = .ok (.newarray .int, 2) := by decide +kernel
theorem dX9_init_379 : decode cX9_init 379 = .ok (.putfield 147, 3) := by decide +kernel
theorem dX9_init_382 : decode cX9_init 382 = .ok (.aload_n 0, 1) := by decide +kernel
theorem dX9_init_383 : decode cX9_init 383 = .ok (.sipush 540, 3) := by decide +kernel
theorem dX9_init_386 : decode cX9_init 386 = .ok (.newarray .int, 2) := by decide +kernel
theorem dX9_init_388 : decode cX9_init 388 = .ok (.putfield 150, 3) := by decide +kernel
theorem dX9_init_391 : decode cX9_init 391 = .ok (.aload_n 0, 1) := by decide +kernel
theorem dX9_init_392 : decode cX9_init 392 = .ok (.sipush 540, 3) := by decide +kernel
theorem dX9_init_395 : decode cX9_init 395 = .ok (.newarray .int, 2) := by decide +kernel
theorem dX9_init_397 : decode cX9_init 397 = .ok (.putfield 153, 3) := by decide +kernel
theorem dX9_init_400 : decode cX9_init 400 = .ok (.aload_n 0, 1) := by decide +kernel
theorem dX9_init_401 : decode cX9_init 401 = .ok (.bipush 40, 2) := by decide +kernel
theorem dX9_init_403 : decode cX9_init 403 = .ok (.newarray .int, 2) := by decide +kernel
theorem dX9_init_405 : decode cX9_init 405 = .ok (.putfield 156, 3) := by decide +kernel
theorem dX9_init_408 : decode cX9_init 408 = .ok (.aload_n 0, 1) := by decide +kernel
theorem dX9_init_409 : decode cX9_init 409 = .ok (.bipush 40, 2) := by decide +kernel
theorem dX9_init_411 : decode cX9_init 411 = .ok (.newarray .boolean, 2) := by decide +kernel
theorem dX9_init_413 : decode cX9_init 413 = .ok (.putfield 159, 3) := by decide +kernel
theorem dX9_init_416 : decode cX9_init 416 = .ok (.aload_n 0, 1) := by decide +kernel
theorem dX9_init_417 : decode cX9_init 417 = .ok (.bipush 40, 2) := by decide +kernel
theorem dX9_init_419 : decode cX9_init 419 = .ok (.newarray .int, 2) := by decide +kernel
theorem dX9_init_421 : decode cX9_init 421 = .ok (.putfield 162, 3) := by decide +kernel
theorem dX9_init_424 : decode cX9_init 424 = .ok (.aload_n 0, 1) := by decide +kernel
theorem dX9_init_425 : decode cX9_init 425 = .ok (.bipush 40, 2) := by decide +kernel
theorem dX9_init_427 : decode cX9_init 427 = .ok (.newarray .int, 2) := by decide +kernel
theorem dX9_init_429 : decode cX9_init 429 = .ok (.putfield 165, 3) := by decide +kernel
theorem dX9_init_432 : decode cX9_init 432 = .ok (.aload_n 0, 1) := by decide +kernel
theorem dX9_init_433 : decode cX9_init 433 = .ok (.bipush 40, 2) := by decide +kernel
theorem dX9_init_435 : decode cX9_init 435 = .ok (.newarray .int, 2) := by decide +kernel
theorem dX9_init_437 : decode cX9_init 437 = .ok (.putfield 168, 3) := by decide +kernel
theorem dX9_init_440 : decode cX9_init 440 = .ok (.aload_n 0, 1) := by decide +kernel
theorem dX9_init_441 : decode cX9_init 441 = .ok (.bipush 40, 2) := by decide +kernel
theorem dX9_init_443 : decode cX9_init 443 = .ok (.newarray .int, 2) := by decide +kernel
theorem dX9_init_445 : decode cX9_init 445 = .ok (.putfield 171, 3) := by decide +kernel
theorem dX9_init_448 : decode cX9_init 448 = .ok (.aload_n 0, 1) := by decide +kernel
