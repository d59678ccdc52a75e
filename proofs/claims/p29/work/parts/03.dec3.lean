theorem dX8_endWork_33 : decode cX8_endWork 33 = .ok (.aload_n 2, 1) := by decide +kernel
theorem dX8_endWork_34 : decode cX8_endWork 34 = .ok (.getfield 289, 3) := by decide +kernel
theorem dX8_endWork_37 : decode cX8_endWork 37 = .ok (.aload_n 0, 1) := by decide +kernel
theorem dX8_endWork_38 : decode cX8_endWork 38 = .ok (.getfield 140, 3) := by decide +kernel
theorem dX8_endWork_41 : decode cX8_endWork 41 = .ok (.if_icmp .le 6, 3) := by decide +kernel
theorem dX8_endWork_44 : decode cX8_endWork 44 = .ok (.goto 58, 3) := by decide +kernel
theorem dX8_endWork_47 : decode cX8_endWork 47 = .ok (.aload_n 2, 1) := by decide +kernel
theorem dX8_endWork_48 : decode cX8_endWork 48 = .ok (.getfield 213, 3) := by decide +kernel
theorem dX8_endWork_51 : decode cX8_endWork 51 = .ok (.getfield 102, 3) := by decide +kernel
theorem dX8_endWork_54 : decode cX8_endWork 54 = .ok (.iconst 1, 1) := by decide +kernel
theorem dX8_endWork_55 : decode cX8_endWork 55 = .ok (.iaload, 1) := by decide +kernel
theorem dX8_endWork_56 : decode cX8_endWork 56 = .ok (.ifCond .eq 13, 3) := by decide +kernel
theorem dX8_endWork_59 : decode cX8_endWork 59 = .ok (.aload_n 0, 1) := by decide +kernel
theorem dX8_endWork_60 : decode cX8_endWork 60 = .ok (.aload_n 2, 1) := by decide +kernel
theorem dX8_endWork_61 : decode cX8_endWork 61 = .ok (.iconst 4, 1) := by decide +kernel
theorem dX8_endWork_62 : decode cX8_endWork 62 = .ok (.iconst 0, 1) := by decide +kernel
theorem dX8_endWork_63 : decode cX8_endWork 63 = .ok (.invokevirtual 285, 3) := by decide +kernel
theorem dX8_endWork_66 : decode cX8_endWork 66 = .ok (.goto 36, 3) := by decide +kernel
theorem dX8_endWork_69 : decode cX8_endWork 69 = .ok (.aload_n 0, 1) := by decide +kernel
theorem dX8_endWork_70 : decode cX8_endWork 70 = .ok (.getfield 26, 3) := by decide +kernel
theorem dX8_endWork_73 : decode cX8_endWork 73 = .ok (.aload_n 2, 1) := by decide +kernel
theorem dX8_endWork_74 : decode cX8_endWork 74 = .ok (.getfield 206, 3) := by decide +kernel
theorem dX8_endWork_77 : decode cX8_endWork 77 = .ok (.getfield 210, 3) := by decide +kernel
theorem dX8_endWork_80 : decode cX8_endWork 80 = .ok (.aaload, 1) := by decide +kernel
theorem dX8_endWork_81 : decode cX8_endWork 81 = .ok (.getfield 68, 3) := by decide +kernel
theorem dX8_endWork_84 : decode cX8_endWork 84 = .ok (.ifCond .ne 13, 3) := by decide +kernel
theorem dX8_endWork_87 : decode cX8_endWork 87 = .ok (.aload_n 0, 1) := by decide +kernel
theorem dX8_endWork_88 : decode cX8_endWork 88 = .ok (.aload_n 2, 1) := by decide +kernel
theorem dX8_endWork_89 : decode cX8_endWork 89 = .ok (.iconst 3, 1) := by decide +kernel
theorem dX8_endWork_90 : decode cX8_endWork 90 = .ok (.iconst 0, 1) := by decide +kernel
theorem dX8_endWork_91 : decode cX8_endWork 91 = .ok (.invokevirtual 285, 3) := by decide +kernel
theorem dX8_endWork_94 : decode cX8_endWork 94 = .ok (.goto 8, 3) := by decide +kernel
theorem dX8_endWork_97 : decode cX8_endWork 97 = .ok (.aload_n 2, 1) := by decide +kernel
theorem dX8_endWork_98 : decode cX8_endWork 98 = .ok (.iconst 2, 1) := by decide +kernel
theorem dX8_endWork_99 : decode cX8_endWork 99 = .ok (.putfield 217, 3) := by decide +kernel
theorem dX8_endWork_102 : decode cX8_endWork 102 = .ok (.iinc 1 1, 3) := by decide +kernel
theorem dX8_endWork_105 : decode cX8_endWork 105 = .ok (.goto (-103), 3) := by decide +kernel
theorem dX8_endWork_108 : decode cX8_endWork 108 = .ok (.return_, 1) := by decide +kernel
theorem dX8_goOnWithCalls_0 : decode cX8_goOnWithCalls 0 = .ok (.aload_n 0, 1) := by decide +kernel
theorem dX8_goOnWithCalls_1 : decode cX8_goOnWithCalls 1 = .ok (.getfield 46, 3) := by decide +kernel
theorem dX8_goOnWithCalls_4 : decode cX8_goOnWithCalls 4 = .ok (.invokevirtual 82, 3) := by decide +kernel
theorem dX8_goOnWithCalls_7 : decode cX8_goOnWithCalls 7 = .ok (.iconst 1, 1) := by decide +kernel
theorem dX8_goOnWithCalls_8 : decode cX8_goOnWithCalls 8 = .ok (.isub, 1) := by decide +kernel
theorem dX8_goOnWithCalls_9 : decode cX8_goOnWithCalls 9 = .ok (.istore_n 1, 1) := by decide +kernel
theorem dX8_goOnWithCalls_10 : decode cX8_goOnWithCalls 10 = .ok (.iload_n 1, 1) := by decide +kernel
theorem dX8_goOnWithCalls_11 : decode cX8_goOnWithCalls 11 = .ok (.ifCond .lt 141, 3) := by decide +kernel
theorem dX8_goOnWithCalls_14 : decode cX8_goOnWithCalls 14 = .ok (.aload_n 0, 1) := by decide +kernel
theorem dX8_goOnWithCalls_15 : decode cX8_goOnWithCalls 15 = .ok (.getfield 46, 3) := by decide +kernel
theorem dX8_goOnWithCalls_18 : decode cX8_goOnWithCalls 18 = .ok (.iload_n 1, 1) := by decide +kernel
theorem dX8_goOnWithCalls_19 : decode cX8_goOnWithCalls 19 = .ok (.invokevirtual 98, 3) := by decide +kernel
theorem dX8_goOnWithCalls_22 : decode cX8_goOnWithCalls 22 = .ok (.checkcast 204, 3) := by decide +kernel
theorem dX8_goOnWithCalls_25 : decode cX8_goOnWithCalls 25 = .ok (.astore_n 2, 1) := by decide +kernel
theorem dX8_goOnWithCalls_26 : decode cX8_goOnWithCalls 26 = .ok (.aload_n 2, 1) := by decide +kernel
theorem dX8_goOnWithCalls_27 : decode cX8_goOnWithCalls 27 = .ok (.getfield 217, 3) := by decide +kernel
theorem dX8_goOnWithCalls_30 : decode cX8_goOnWithCalls 30 = .ok (.iconst 2, 1) := by decide +kernel
theorem dX8_goOnWithCalls_31 : decode cX8_goOnWithCalls 31 = .ok (.if_icmp .eq 6, 3) := by decide +kernel
theorem dX8_goOnWithCalls_34 : decode cX8_goOnWithCalls 34 = .ok (.goto 112, 3) := by decide +kernel
theorem dX8_goOnWithCalls_37 : decode cX8_goOnWithCalls 37 = .ok (.aload_n 2, 1) := by decide +kernel
theorem dX8_goOnWithCalls_38 : decode cX8_goOnWithCalls 38 = .ok (.invokevirtual 292, 3) := by decide +kernel
theorem dX8_goOnWithCalls_41 : decode cX8_goOnWithCalls 41 = .ok (.astore_n 3, 1) := by decide +kernel
theorem dX8_goOnWithCalls_42 : decode cX8_goOnWithCalls 42 = .ok (.aload_n 3, 1) := by decide +kernel
theorem dX8_goOnWithCalls_43 : decode cX8_goOnWithCalls 43 = .ok (.ifnull 8, 3) := by decide +kernel
theorem dX8_goOnWithCalls_46 : decode cX8_goOnWithCalls 46 = .ok (.aload_n 0, 1) := by decide +kernel
theorem dX8_goOnWithCalls_47 : decode cX8_goOnWithCalls 47 = .ok (.aload_n 3, 1) := by decide +kernel
theorem dX8_goOnWithCalls_48 : decode cX8_goOnWithCalls 48 = .ok (.invokevirtual 155, 3) := by decide +kernel
theorem dX8_goOnWithCalls_51 : decode cX8_goOnWithCalls 51 = .ok (.aload_n 0, 1) := by decide +kernel
theorem dX8_goOnWithCalls_52 : decode cX8_goOnWithCalls 52 = .ok (.getfield 26, 3) := by decide +kernel
theorem dX8_goOnWithCalls_55 : decode cX8_goOnWithCalls 55 = .ok (.aload_n 2, 1) := by decide +kernel
theorem dX8_goOnWithCalls_56 : decode cX8_goOnWithCalls 56 = .ok (.getfield 206, 3) := by decide +kernel
theorem dX8_goOnWithCalls_59 : decode cX8_goOnWithCalls 59 = .ok (.getfield 210, 3) := by decide +kernel
theorem dX8_goOnWithCalls_62 : decode cX8_goOnWithCalls 62 = .ok (.aaload, 1) := by decide +kernel
theorem dX8_goOnWithCalls_63 : decode cX8_goOnWithCalls 63 = .ok (.getfield 68, 3) := by decide +kernel
theorem dX8_goOnWithCalls_66 : decode cX8_goOnWithCalls 66 = .ok (.istore 4, 2) := by decide +kernel
theorem dX8_goOnWithCalls_68 : decode cX8_goOnWithCalls 68 = .ok (.aload_n 2, 1) := by decide +kernel
theorem dX8_goOnWithCalls_69 : decode cX8_goOnWithCalls 69 = .ok (.getfield 224, 3) := by decide +kernel
theorem dX8_goOnWithCalls_72 : decode cX8_goOnWithCalls 72 = .ok (.invokevirtual 82, 3) := by decide +kernel
theorem dX8_goOnWithCalls_75 : decode cX8_goOnWithCalls 75 = .ok (.istore 5, 2) := by decide +kernel
theorem dX8_goOnWithCalls_77 : decode cX8_goOnWithCalls 77 = .ok (.iload 5, 2) := by decide +kernel
theorem dX8_goOnWithCalls_79 : decode cX8_goOnWithCalls 79 = .ok (.iload 4, 2) := by decide +kernel
theorem dX8_goOnWithCalls_81 : decode cX8_goOnWithCalls 81 = .ok (.if_icmp .ge 29, 3) := by decide +kernel
theorem dX8_goOnWithCalls_84 : decode cX8_goOnWithCalls 84 = .ok (.aload_n 3, 1) := by decide +kernel
theorem dX8_goOnWithCalls_85 : decode cX8_goOnWithCalls 85 = .ok (.invokestatic 296, 3) := by decide +kernel
theorem dX8_goOnWithCalls_88 : decode cX8_goOnWithCalls 88 = .ok (.ifCond .eq 22, 3) := by decide +kernel
theorem dX8_goOnWithCalls_91 : decode cX8_goOnWithCalls 91 = .ok (.aload_n 0, 1) := by decide +kernel
theorem dX8_goOnWithCalls_92 : decode cX8_goOnWithCalls 92 = .ok (.aload_n 2, 1) := by decide +kernel
theorem dX8_goOnWithCalls_93 : decode cX8_goOnWithCalls 93 = .ok (.iload 5, 2) := by decide +kernel
theorem dX8_goOnWithCalls_95 : decode cX8_goOnWithCalls 95 = .ok (.invokevirtual 300, 3) := by decide +kernel
theorem dX8_goOnWithCalls_98 : decode cX8_goOnWithCalls 98 = .ok (.astore_n 3, 1) := by decide +kernel
theorem dX8_goOnWithCalls_99 : decode cX8_goOnWithCalls 99 = .ok (.aload_n 0, 1) := by decide +kernel
theorem dX8_goOnWithCalls_100 : decode cX8_goOnWithCalls 100 = .ok (.aload_n 3, 1) := by decide +kernel
theorem dX8_goOnWithCalls_101 : decode cX8_goOnWithCalls 101 = .ok (.invokevirtual 155, 3) := by decide +kernel
theorem dX8_goOnWithCalls_104 : decode cX8_goOnWithCalls 104 = .ok (.iinc 5 1, 3) := by decide +kernel
theorem dX8_goOnWithCalls_107 : decode cX8_goOnWithCalls 107 = .ok (.goto (-30), 3) := by decide +kernel
theorem dX8_goOnWithCalls_110 : decode cX8_goOnWithCalls 110 = .ok (.aload_n 3, 1) := by decide +kernel
theorem dX8_goOnWithCalls_111 : decode cX8_goOnWithCalls 111 = .ok (.invokestatic 296, 3) := by decide +kernel
theorem dX8_goOnWithCalls_114 : decode cX8_goOnWithCalls 114 = .ok (.ifCond .eq 13, 3) := by decide +kernel
theorem dX8_goOnWithCalls_117 : decode cX8_goOnWithCalls 117 = .ok (.aload_n 0, 1) := by decide +kernel
theorem dX8_goOnWithCalls_118 : decode cX8_goOnWithCalls 118 = .ok (.aload_n 2, 1) := by decide +kernel
theorem dX8_goOnWithCalls_119 : decode cX8_goOnWithCalls 119 = .ok (.iconst 3, 1) := by decide +kernel
theorem dX8_goOnWithCalls_120 : decode cX8_goOnWithCalls 120 = .ok (.iconst 0, 1) := by decide +kernel
theorem dX8_goOnWithCalls_121 : decode cX8_goOnWithCalls 121 = .ok (.invokevirtual 285, 3) := by decide +kernel
theorem dX8_goOnWithCalls_124 : decode cX8_goOnWithCalls 124 = .ok (.goto 22, 3) := by decide +kernel
theorem dX8_goOnWithCalls_127 : decode cX8_goOnWithCalls 127 = .ok (.aload_n 3, 1) := by decide +kernel
theorem dX8_goOnWithCalls_128 : decode cX8_goOnWithCalls 128 = .ok (.ifnull 18, 3) := by decide +kernel
theorem dX8_goOnWithCalls_131 : decode cX8_goOnWithCalls 131 = .ok (.aload_n 3, 1) := by decide +kernel
theorem dX8_goOnWithCalls_132 : decode cX8_goOnWithCalls 132 = .ok (.getfield 249, 3) := by decide +kernel
theorem dX8_goOnWithCalls_135 : decode cX8_goOnWithCalls 135 = .ok (.iconst 4, 1) := by decide +kernel
theorem dX8_goOnWithCalls_136 : decode cX8_goOnWithCalls 136 = .ok (.if_icmp .ne 10, 3) := by decide +kernel
theorem dX8_goOnWithCalls_139 : decode cX8_goOnWithCalls 139 = .ok (.aload_n 0, 1) := by decide +kernel
theorem dX8_goOnWithCalls_140 : decode cX8_goOnWithCalls 140 = .ok (.aload_n 2, 1) := by decide +kernel
theorem dX8_goOnWithCalls_141 : decode cX8_goOnWithCalls 141 = .ok (.iconst 4, 1) := by decide +kernel
theorem dX8_goOnWithCalls_142 : decode cX8_goOnWithCalls 142 = .ok (.iconst 0, 1) := by decide +kernel
theorem dX8_goOnWithCalls_143 : decode cX8_goOnWithCalls 143 = .ok (.invokevirtual 285, 3) := by decide +kernel
theorem dX8_goOnWithCalls_146 : decode cX8_goOnWithCalls 146 = .ok (.iinc 1 (-1), 3) := by decide +kernel
theorem dX8_goOnWithCalls_149 : decode cX8_goOnWithCalls 149 = .ok (.goto (-139), 3) := by decide +kernel
theorem dX8_goOnWithCalls_152 : decode cX8_goOnWithCalls 152 = .ok (.return_, 1) := by decide +kernel
theorem dX8_isDone_0 : decode cX8_isDone 0 = .ok (.aload_n 0, 1) := by decide +kernel
theorem dX8_isDone_1 : decode cX8_isDone 1 = .ok (.ifnull 11, 3) := by decide +kernel
theorem dX8_isDone_4 : decode cX8_isDone 4 = .ok (.aload_n 0, 1) := by decide +kernel
theorem dX8_isDone_5 : decode cX8_isDone 5 = .ok (.getfield 249, 3) := by decide +kernel
theorem dX8_isDone_8 : decode cX8_isDone 8 = .ok (.iconst 3, 1) := by decide +kernel
theorem dX8_isDone_9 : decode cX8_isDone 9 = .ok (.if_icmp .ne 7, 3) := by decide +kernel
theorem dX8_isDone_12 : decode cX8_isDone 12 = .ok (.iconst 1, 1) := by decide +kernel
theorem dX8_isDone_13 : decode cX8_isDone 13 = .ok (.goto 4, 3) := by decide +kernel
theorem dX8_isDone_16 : decode cX8_isDone 16 = .ok (.iconst 0, 1) := by decide +kernel
theorem dX8_isDone_17 : decode cX8_isDone 17 = .ok (.ireturn, 1) := by decide +kernel
theorem dX8_beginStep_0 : decode cX8_beginStep 0 = .ok (.aload_n 1, 1) := by decide +kernel
theorem dX8_beginStep_1 : decode cX8_beginStep 1 = .ok (.aload_n 0, 1) := by decide +kernel
theorem dX8_beginStep_2 : decode cX8_beginStep 2 = .ok (.getfield 26, 3) := by decide +kernel
theorem dX8_beginStep_5 : decode cX8_beginStep 5 = .ok (.aload_n 1, 1) := by decide +kernel
theorem dX8_beginStep_6 : decode cX8_beginStep 6 = .ok (.getfield 206, 3) := by decide +kernel
theorem dX8_beginStep_9 : decode cX8_beginStep 9 = .ok (.getfield 210, 3) := by decide +kernel
theorem dX8_beginStep_12 : decode cX8_beginStep 12 = .ok (.aaload, 1) := by decide +kernel
theorem dX8_beginStep_13 : decode cX8_beginStep 13 = .ok (.iload_n 2, 1) := by decide +kernel
theorem dX8_beginStep_14 : decode cX8_beginStep 14 = .ok (.invokestatic 304, 3) := by decide +kernel
theorem dX8_beginStep_17 : decode cX8_beginStep 17 = .ok (.astore_n 3, 1) := by decide +kernel
theorem dX8_beginStep_18 : decode cX8_beginStep 18 = .ok (.aload_n 1, 1) := by decide +kernel
theorem dX8_beginStep_19 : decode cX8_beginStep 19 = .ok (.getfield 224, 3) := by decide +kernel
theorem dX8_beginStep_22 : decode cX8_beginStep 22 = .ok (.aload_n 3, 1) := by decide +kernel
theorem dX8_beginStep_23 : decode cX8_beginStep 23 = .ok (.invokevirtual 91, 3) := by decide +kernel
theorem dX8_beginStep_26 : decode cX8_beginStep 26 = .ok (.pop, 1) := by decide +kernel
theorem dX8_beginStep_27 : decode cX8_beginStep 27 = .ok (.aload_n 0, 1) := by decide +kernel
theorem dX8_beginStep_28 : decode cX8_beginStep 28 = .ok (.aload_n 3, 1) := by decide +kernel
theorem dX8_beginStep_29 : decode cX8_beginStep 29 = .ok (.iconst 0, 1) := by decide +kernel
theorem dX8_beginStep_30 : decode cX8_beginStep 30 = .ok (.invokevirtual 151, 3) := by decide +kernel
theorem dX8_beginStep_33 : decode cX8_beginStep 33 = .ok (.aload_n 3, 1) := by decide +kernel
theorem dX8_beginStep_34 : decode cX8_beginStep 34 = .ok (.areturn, 1) := by decide +kernel
theorem dX8_stepOf_0 : decode cX8_stepOf 0 = .ok (.new 132, 3) := by decide +kernel
theorem dX8_stepOf_3 : decode cX8_stepOf 3 = .ok (.dup, 1) := by decide +kernel
theorem dX8_stepOf_4 : decode cX8_stepOf 4 = .ok (.aload_n 0, 1) := by decide +kernel
theorem dX8_stepOf_5 : decode cX8_stepOf 5 = .ok (.getfield 206, 3) := by decide +kernel
theorem dX8_stepOf_8 : decode cX8_stepOf 8 = .ok (.getfield 210, 3) := by decide +kernel
theorem dX8_stepOf_11 : decode cX8_stepOf 11 = .ok (.aload_n 1, 1) := by decide +kernel
theorem dX8_stepOf_12 : decode cX8_stepOf 12 = .ok (.getfield 308, 3) := by decide +kernel
theorem dX8_stepOf_15 : decode cX8_stepOf 15 = .ok (.iload_n 2, 1) := by decide +kernel
theorem dX8_stepOf_16 : decode cX8_stepOf 16 = .ok (.iaload, 1) := by decide +kernel
theorem dX8_stepOf_17 : decode cX8_stepOf 17 = .ok (.aload_n 1, 1) := by decide +kernel
theorem dX8_stepOf_18 : decode cX8_stepOf 18 = .ok (.getfield 310, 3) := by decide +kernel
theorem dX8_stepOf_21 : decode cX8_stepOf 21 = .ok (.iload_n 2, 1) := by decide +kernel
theorem dX8_stepOf_22 : decode cX8_stepOf 22 = .ok (.baload, 1) := by decide +kernel
theorem dX8_stepOf_23 : decode cX8_stepOf 23 = .ok (.invokespecial 134, 3) := by decide +kernel
theorem dX8_stepOf_26 : decode cX8_stepOf 26 = .ok (.astore_n 3, 1) := by decide +kernel
theorem dX8_stepOf_27 : decode cX8_stepOf 27 = .ok (.aload_n 3, 1) := by decide +kernel
theorem dX8_stepOf_28 : decode cX8_stepOf 28 = .ok (.aload_n 1, 1) := by decide +kernel
theorem dX8_stepOf_29 : decode cX8_stepOf 29 = .ok (.getfield 314, 3) := by decide +kernel
theorem dX8_stepOf_32 : decode cX8_stepOf 32 = .ok (.iload_n 2, 1) := by decide +kernel
theorem dX8_stepOf_33 : decode cX8_stepOf 33 = .ok (.iaload, 1) := by decide +kernel
theorem dX8_stepOf_34 : decode cX8_stepOf 34 = .ok (.putfield 317, 3) := by decide +kernel
theorem dX8_stepOf_37 : decode cX8_stepOf 37 = .ok (.aload_n 3, 1) := by decide +kernel
theorem dX8_stepOf_38 : decode cX8_stepOf 38 = .ok (.aload_n 0, 1) := by decide +kernel
theorem dX8_stepOf_39 : decode cX8_stepOf 39 = .ok (.putfield 219, 3) := by decide +kernel
theorem dX8_stepOf_42 : decode cX8_stepOf 42 = .ok (.aload_n 3, 1) := by decide +kernel
theorem dX8_stepOf_43 : decode cX8_stepOf 43 = .ok (.aload_n 0, 1) := by decide +kernel
theorem dX8_stepOf_44 : decode cX8_stepOf 44 = .ok (.getfield 213, 3) := by decide +kernel
theorem dX8_stepOf_47 : decode cX8_stepOf 47 = .ok (.getfield 319, 3) := by decide +kernel
theorem dX8_stepOf_50 : decode cX8_stepOf 50 = .ok (.putfield 322, 3) := by decide +kernel
theorem dX8_stepOf_53 : decode cX8_stepOf 53 = .ok (.aload_n 3, 1) := by decide +kernel
theorem dX8_stepOf_54 : decode cX8_stepOf 54 = .ok (.aload_n 0, 1) := by decide +kernel
theorem dX8_stepOf_55 : decode cX8_stepOf 55 = .ok (.getfield 206, 3) := by decide +kernel
theorem dX8_stepOf_58 : decode cX8_stepOf 58 = .ok (.getfield 137, 3) := by decide +kernel
theorem dX8_stepOf_61 : decode cX8_stepOf 61 = .ok (.putfield 137, 3) := by decide +kernel
theorem dX8_stepOf_64 : decode cX8_stepOf 64 = .ok (.aload_n 3, 1) := by decide +kernel
theorem dX8_stepOf_65 : decode cX8_stepOf 65 = .ok (.aload_n 0, 1) := by decide +kernel
theorem dX8_stepOf_66 : decode cX8_stepOf 66 = .ok (.getfield 218, 3) := by decide +kernel
theorem dX8_stepOf_69 : decode cX8_stepOf 69 = .ok (.putfield 143, 3) := by decide +kernel
theorem dX8_stepOf_72 : decode cX8_stepOf 72 = .ok (.aload_n 3, 1) := by decide +kernel
theorem dX8_stepOf_73 : decode cX8_stepOf 73 = .ok (.areturn, 1) := by decide +kernel
theorem dX8_goOnWithRequests_0 : decode cX8_goOnWithRequests 0 = .ok (.iconst 0, 1) := by decide +kernel
theorem dX8_goOnWithRequests_1 : decode cX8_goOnWithRequests 1 = .ok (.istore_n 1, 1) := by decide +kernel
theorem dX8_goOnWithRequests_2 : decode cX8_goOnWithRequests 2 = .ok (.iload_n 1, 1) := by decide +kernel
theorem dX8_goOnWithRequests_3 : decode cX8_goOnWithRequests 3 = .ok (.aload_n 0, 1) := by decide +kernel
theorem dX8_goOnWithRequests_4 : decode cX8_goOnWithRequests 4 = .ok (.getfield 43, 3) := by decide +kernel
theorem dX8_goOnWithRequests_7 : decode cX8_goOnWithRequests 7 = .ok (.invokevirtual 82, 3) := by decide +kernel
theorem dX8_goOnWithRequests_10 : decode cX8_goOnWithRequests 10 = .ok (.if_icmp .ge 69, 3) := by decide +kernel
theorem dX8_goOnWithRequests_13 : decode cX8_goOnWithRequests 13 = .ok (.aload_n 0, 1) := by decide +kernel
theorem dX8_goOnWithRequests_14 : decode cX8_goOnWithRequests 14 = .ok (.getfield 43, 3) := by decide +kernel
theorem dX8_goOnWithRequests_17 : decode cX8_goOnWithRequests 17 = .ok (.iload_n 1, 1) := by decide +kernel
theorem dX8_goOnWithRequests_18 : decode cX8_goOnWithRequests 18 = .ok (.invokevirtual 98, 3) := by decide +kernel
theorem dX8_goOnWithRequests_21 : decode cX8_goOnWithRequests 21 = .ok (.checkcast 146, 3) := by decide +kernel
theorem dX8_goOnWithRequests_24 : decode cX8_goOnWithRequests 24 = .ok (.astore_n 2, 1) := by decide +kernel
theorem dX8_goOnWithRequests_25 : decode cX8_goOnWithRequests 25 = .ok (.aload_n 2, 1) := by decide +kernel
theorem dX8_goOnWithRequests_26 : decode cX8_goOnWithRequests 26 = .ok (.getfield 187, 3) := by decide +kernel
theorem dX8_goOnWithRequests_29 : decode cX8_goOnWithRequests 29 = .ok (.bipush 8, 2) := by decide +kernel
theorem dX8_goOnWithRequests_31 : decode cX8_goOnWithRequests 31 = .ok (.if_icmp .eq 6, 3) := by decide +kernel
theorem dX8_goOnWithRequests_34 : decode cX8_goOnWithRequests 34 = .ok (.goto 39, 3) := by decide +kernel
theorem dX8_goOnWithRequests_37 : decode cX8_goOnWithRequests 37 = .ok (.aload_n 2, 1) := by decide +kernel
theorem dX8_goOnWithRequests_38 : decode cX8_goOnWithRequests 38 = .ok (.getfield 323, 3) := by decide +kernel
theorem dX8_goOnWithRequests_41 : decode cX8_goOnWithRequests 41 = .ok (.getfield 143, 3) := by decide +kernel
theorem dX8_goOnWithRequests_44 : decode cX8_goOnWithRequests 44 = .ok (.aload_n 0, 1) := by decide +kernel
theorem dX8_goOnWithRequests_45 : decode cX8_goOnWithRequests 45 = .ok (.getfield 140, 3) := by decide +kernel
theorem dX8_goOnWithRequests_48 : decode cX8_goOnWithRequests 48 = .ok (.if_icmp .gt 12, 3) := by decide +kernel
theorem dX8_goOnWithRequests_51 : decode cX8_goOnWithRequests 51 = .ok (.aload_n 0, 1) := by decide +kernel
theorem dX8_goOnWithRequests_52 : decode cX8_goOnWithRequests 52 = .ok (.aload_n 2, 1) := by decide +kernel
theorem dX8_goOnWithRequests_53 : decode cX8_goOnWithRequests 53 = .ok (.iconst 5, 1) := by decide +kernel
theorem dX8_goOnWithRequests_54 : decode cX8_goOnWithRequests 54 = .ok (.invokevirtual 326, 3) := by decide +kernel
theorem dX8_goOnWithRequests_57 : decode cX8_goOnWithRequests 57 = .ok (.goto 16, 3) := by decide +kernel
theorem dX8_goOnWithRequests_60 : decode cX8_goOnWithRequests 60 = .ok (.aload_n 0, 1) := by decide +kernel
theorem dX8_goOnWithRequests_61 : decode cX8_goOnWithRequests 61 = .ok (.aload_n 2, 1) := by decide +kernel
theorem dX8_goOnWithRequests_62 : decode cX8_goOnWithRequests 62 = .ok (.getfield 323, 3) := by decide +kernel
theorem dX8_goOnWithRequests_65 : decode cX8_goOnWithRequests 65 = .ok (.invokevirtual 155, 3) := by decide +kernel
theorem dX8_goOnWithRequests_68 : decode cX8_goOnWithRequests 68 = .ok (.aload_n 0, 1) := by decide +kernel
theorem dX8_goOnWithRequests_69 : decode cX8_goOnWithRequests 69 = .ok (.aload_n 2, 1) := by decide +kernel
theorem dX8_goOnWithRequests_70 : decode cX8_goOnWithRequests 70 = .ok (.invokevirtual 159, 3) := by decide +kernel
theorem dX8_goOnWithRequests_73 : decode cX8_goOnWithRequests 73 = .ok (.iinc 1 1, 3) := by decide +kernel
theorem dX8_goOnWithRequests_76 : decode cX8_goOnWithRequests 76 = .ok (.goto (-74), 3) := by decide +kernel
theorem dX8_goOnWithRequests_79 : decode cX8_goOnWithRequests 79 = .ok (.return_, 1) := by decide +kernel
theorem dX8_goOnWithRepairs_0 : decode cX8_goOnWithRepairs 0 = .ok (.iconst 0, 1) := by decide +kernel
theorem dX8_goOnWithRepairs_1 : decode cX8_goOnWithRepairs 1 = .ok (.istore_n 1, 1) := by decide +kernel
theorem dX8_goOnWithRepairs_2 : decode cX8_goOnWithRepairs 2 = .ok (.iload_n 1, 1) := by decide +kernel
theorem dX8_goOnWithRepairs_3 : decode cX8_goOnWithRepairs 3 = .ok (.aload_n 0, 1) := by decide +kernel
theorem dX8_goOnWithRepairs_4 : decode cX8_goOnWithRepairs 4 = .ok (.getfield 49, 3) := by decide +kernel
theorem dX8_goOnWithRepairs_7 : decode cX8_goOnWithRepairs 7 = .ok (.invokevirtual 82, 3) := by decide +kernel
theorem dX8_goOnWithRepairs_10 : decode cX8_goOnWithRepairs 10 = .ok (.if_icmp .ge 57, 3) := by decide +kernel
theorem dX8_goOnWithRepairs_13 : decode cX8_goOnWithRepairs 13 = .ok (.aload_n 0, 1) := by decide +kernel
theorem dX8_goOnWithRepairs_14 : decode cX8_goOnWithRepairs 14 = .ok (.getfield 49, 3) := by decide +kernel
theorem dX8_goOnWithRepairs_17 : decode cX8_goOnWithRepairs 17 = .ok (.iload_n 1, 1) := by decide +kernel
theorem dX8_goOnWithRepairs_18 : decode cX8_goOnWithRepairs 18 = .ok (.invokevirtual 98, 3) := by decide +kernel
theorem dX8_goOnWithRepairs_21 : decode cX8_goOnWithRepairs 21 = .ok (.checkcast 132, 3) := by decide +kernel
theorem dX8_goOnWithRepairs_24 : decode cX8_goOnWithRepairs 24 = .ok (.astore_n 2, 1) := by decide +kernel
theorem dX8_goOnWithRepairs_25 : decode cX8_goOnWithRepairs 25 = .ok (.aload_n 0, 1) := by decide +kernel
theorem dX8_goOnWithRepairs_26 : decode cX8_goOnWithRepairs 26 = .ok (.aload_n 2, 1) := by decide +kernel
theorem dX8_goOnWithRepairs_27 : decode cX8_goOnWithRepairs 27 = .ok (.invokevirtual 330, 3) := by decide +kernel
theorem dX8_goOnWithRepairs_30 : decode cX8_goOnWithRepairs 30 = .ok (.aload_n 2, 1) := by decide +kernel
theorem dX8_goOnWithRepairs_31 : decode cX8_goOnWithRepairs 31 = .ok (.getfield 249, 3) := by decide +kernel
theorem dX8_goOnWithRepairs_34 : decode cX8_goOnWithRepairs 34 = .ok (.bipush 8, 2) := by decide +kernel
theorem dX8_goOnWithRepairs_36 : decode cX8_goOnWithRepairs 36 = .ok (.if_icmp .ne 25, 3) := by decide +kernel
theorem dX8_goOnWithRepairs_39 : decode cX8_goOnWithRepairs 39 = .ok (.aload_n 2, 1) := by decide +kernel
theorem dX8_goOnWithRepairs_40 : decode cX8_goOnWithRepairs 40 = .ok (.aload_n 0, 1) := by decide +kernel
theorem dX8_goOnWithRepairs_41 : decode cX8_goOnWithRepairs 41 = .ok (.getfield 140, 3) := by decide +kernel
theorem dX8_goOnWithRepairs_44 : decode cX8_goOnWithRepairs 44 = .ok (.invokevirtual 333, 3) := by decide +kernel
theorem dX8_goOnWithRepairs_47 : decode cX8_goOnWithRepairs 47 = .ok (.ifCond .ne 14, 3) := by decide +kernel
theorem dX8_goOnWithRepairs_50 : decode cX8_goOnWithRepairs 50 = .ok (.aload_n 0, 1) := by decide +kernel
theorem dX8_goOnWithRepairs_51 : decode cX8_goOnWithRepairs 51 = .ok (.aload_n 2, 1) := by decide +kernel
theorem dX8_goOnWithRepairs_52 : decode cX8_goOnWithRepairs 52 = .ok (.iconst 0, 1) := by decide +kernel
theorem dX8_goOnWithRepairs_53 : decode cX8_goOnWithRepairs 53 = .ok (.invokevirtual 151, 3) := by decide +kernel
theorem dX8_goOnWithRepairs_56 : decode cX8_goOnWithRepairs 56 = .ok (.aload_n 0, 1) := by decide +kernel
theorem dX8_goOnWithRepairs_57 : decode cX8_goOnWithRepairs 57 = .ok (.aload_n 2, 1) := by decide +kernel
theorem dX8_goOnWithRepairs_58 : decode cX8_goOnWithRepairs 58 = .ok (.invokevirtual 330, 3) := by decide +kernel
theorem dX8_goOnWithRepairs_61 : decode cX8_goOnWithRepairs 61 = .ok (.iinc 1 1, 3) := by decide +kernel
theorem dX8_goOnWithRepairs_64 : decode cX8_goOnWithRepairs 64 = .ok (.goto (-62), 3) := by decide +kernel
theorem dX8_goOnWithRepairs_67 : decode cX8_goOnWithRepairs 67 = .ok (.return_, 1) := by decide +kernel
theorem dX8_runQueued_0 : decode cX8_runQueued 0 = .ok (.iconst 0, 1) := by decide +kernel
theorem dX8_runQueued_1 : decode cX8_runQueued 1 = .ok (.istore_n 1, 1) := by decide +kernel
theorem dX8_runQueued_2 : decode cX8_runQueued 2 = .ok (.iload_n 1, 1) := by decide +kernel
theorem dX8_runQueued_3 : decode cX8_runQueued 3 = .ok (.aload_n 0, 1) := by decide +kernel
theorem dX8_runQueued_4 : decode cX8_runQueued 4 = .ok (.getfield 39, 3) := by decide +kernel
theorem dX8_runQueued_7 : decode cX8_runQueued 7 = .ok (.invokevirtual 82, 3) := by decide +kernel
theorem dX8_runQueued_10 : decode cX8_runQueued 10 = .ok (.if_icmp .ge 79, 3) := by decide +kernel
theorem dX8_runQueued_13 : decode cX8_runQueued 13 = .ok (.aload_n 0, 1) := by decide +kernel
theorem dX8_runQueued_14 : decode cX8_runQueued 14 = .ok (.getfield 39, 3) := by decide +kernel
theorem dX8_runQueued_17 : decode cX8_runQueued 17 = .ok (.iload_n 1, 1) := by decide +kernel
theorem dX8_runQueued_18 : decode cX8_runQueued 18 = .ok (.invokevirtual 98, 3) := by decide +kernel
theorem dX8_runQueued_21 : decode cX8_runQueued 21 = .ok (.checkcast 86, 3) := by decide +kernel
theorem dX8_runQueued_24 : decode cX8_runQueued 24 = .ok (.astore_n 2, 1) := by decide +kernel
theorem dX8_runQueued_25 : decode cX8_runQueued 25 = .ok (.aload_n 2, 1) := by decide +kernel
theorem dX8_runQueued_26 : decode cX8_runQueued 26 = .ok (.getfield 337, 3) := by decide +kernel
theorem dX8_runQueued_29 : decode cX8_runQueued 29 = .ok (.aload_n 2, 1) := by decide +kernel
theorem dX8_runQueued_30 : decode cX8_runQueued 30 = .ok (.getfield 340, 3) := by decide +kernel
theorem dX8_runQueued_33 : decode cX8_runQueued 33 = .ok (.isub, 1) := by decide +kernel
theorem dX8_runQueued_34 : decode cX8_runQueued 34 = .ok (.istore_n 3, 1) := by decide +kernel
theorem dX8_runQueued_35 : decode cX8_runQueued 35 = .ok (.iload_n 3, 1) := by decide +kernel
theorem dX8_runQueued_36 : decode cX8_runQueued 36 = .ok (.ifCond .le 47, 3) := by decide +kernel
theorem dX8_runQueued_39 : decode cX8_runQueued 39 = .ok (.aload_n 2, 1) := by decide +kernel
theorem dX8_runQueued_40 : decode cX8_runQueued 40 = .ok (.getfield 343, 3) := by decide +kernel
theorem dX8_runQueued_43 : decode cX8_runQueued 43 = .ok (.invokevirtual 71, 3) := by decide +kernel
theorem dX8_runQueued_46 : decode cX8_runQueued 46 = .ok (.ifCond .ne 37, 3) := by decide +kernel
theorem dX8_runQueued_49 : decode cX8_runQueued 49 = .ok (.aload_n 2, 1) := by decide +kernel
theorem dX8_runQueued_50 : decode cX8_runQueued 50 = .ok (.getfield 343, 3) := by decide +kernel
theorem dX8_runQueued_53 : decode cX8_runQueued 53 = .ok (.iconst 0, 1) := by decide +kernel
theorem dX8_runQueued_54 : decode cX8_runQueued 54 = .ok (.invokevirtual 98, 3) := by decide +kernel
theorem dX8_runQueued_57 : decode cX8_runQueued 57 = .ok (.checkcast 204, 3) := by decide +kernel
theorem dX8_runQueued_60 : decode cX8_runQueued 60 = .ok (.astore 4, 2) := by decide +kernel
theorem dX8_runQueued_62 : decode cX8_runQueued 62 = .ok (.aload_n 2, 1) := by decide +kernel
theorem dX8_runQueued_63 : decode cX8_runQueued 63 = .ok (.getfield 343, 3) := by decide +kernel
theorem dX8_runQueued_66 : decode cX8_runQueued 66 = .ok (.iconst 0, 1) := by decide +kernel
theorem dX8_runQueued_67 : decode cX8_runQueued 67 = .ok (.invokevirtual 346, 3) := by decide +kernel
theorem dX8_runQueued_70 : decode cX8_runQueued 70 = .ok (.pop, 1) := by decide +kernel
theorem dX8_runQueued_71 : decode cX8_runQueued 71 = .ok (.aload_n 0, 1) := by decide +kernel
theorem dX8_runQueued_72 : decode cX8_runQueued 72 = .ok (.aload 4, 2) := by decide +kernel
theorem dX8_runQueued_74 : decode cX8_runQueued 74 = .ok (.invokevirtual 349, 3) := by decide +kernel
theorem dX8_runQueued_77 : decode cX8_runQueued 77 = .ok (.iinc 3 (-1), 3) := by decide +kernel
theorem dX8_runQueued_80 : decode cX8_runQueued 80 = .ok (.goto (-45), 3) := by decide +kernel
theorem dX8_runQueued_83 : decode cX8_runQueued 83 = .ok (.iinc 1 1, 3) := by decide +kernel
theorem dX8_runQueued_86 : decode cX8_runQueued 86 = .ok (.goto (-84), 3) := by decide +kernel
theorem dX8_runQueued_89 : decode cX8_runQueued 89 = .ok (.return_, 1) := by decide +kernel
theorem dX8_tellLoads_0 : decode cX8_tellLoads 0 = .ok (.iconst 0, 1) := by decide +kernel
theorem dX8_tellLoads_1 : decode cX8_tellLoads 1 = .ok (.istore_n 1, 1) := by decide +kernel
theorem dX8_tellLoads_2 : decode cX8_tellLoads 2 = .ok (.iload_n 1, 1) := by decide +kernel
theorem dX8_tellLoads_3 : decode cX8_tellLoads 3 = .ok (.aload_n 0, 1) := by decide +kernel
theorem dX8_tellLoads_4 : decode cX8_tellLoads 4 = .ok (.getfield 39, 3) := by decide +kernel
theorem dX8_tellLoads_7 : decode cX8_tellLoads 7 = .ok (.invokevirtual 82, 3) := by decide +kernel
theorem dX8_tellLoads_10 : decode cX8_tellLoads 10 = .ok (.if_icmp .ge 23, 3) := by decide +kernel
theorem dX8_tellLoads_13 : decode cX8_tellLoads 13 = .ok (.aload_n 0, 1) := by decide +kernel
theorem dX8_tellLoads_14 : decode cX8_tellLoads 14 = .ok (.getfield 39, 3) := by decide +kernel
theorem dX8_tellLoads_17 : decode cX8_tellLoads 17 = .ok (.iload_n 1, 1) := by decide +kernel
theorem dX8_tellLoads_18 : decode cX8_tellLoads 18 = .ok (.invokevirtual 98, 3) := by decide +kernel
theorem dX8_tellLoads_21 : decode cX8_tellLoads 21 = .ok (.checkcast 86, 3) := by decide +kernel
theorem dX8_tellLoads_24 : decode cX8_tellLoads 24 = .ok (.invokevirtual 353, 3) := by decide +kernel
theorem dX8_tellLoads_27 : decode cX8_tellLoads 27 = .ok (.iinc 1 1, 3) := by decide +kernel
theorem dX8_tellLoads_30 : decode cX8_tellLoads 30 = .ok (.goto (-28), 3) := by decide +kernel
theorem dX8_tellLoads_33 : decode cX8_tellLoads 33 = .ok (.return_, 1) := by decide +kernel
theorem dX8_endIfOver_0 : decode cX8_endIfOver 0 = .ok (.aload_n 1, 1) := by decide +kernel
theorem dX8_endIfOver_1 : decode cX8_endIfOver 1 = .ok (.getfield 323, 3) := by decide +kernel
theorem dX8_endIfOver_4 : decode cX8_endIfOver 4 = .ok (.getfield 249, 3) := by decide +kernel
theorem dX8_endIfOver_7 : decode cX8_endIfOver 7 = .ok (.bipush 8, 2) := by decide +kernel
theorem dX8_endIfOver_9 : decode cX8_endIfOver 9 = .ok (.if_icmp .eq 15, 3) := by decide +kernel
theorem dX8_endIfOver_12 : decode cX8_endIfOver 12 = .ok (.aload_n 0, 1) := by decide +kernel
theorem dX8_endIfOver_13 : decode cX8_endIfOver 13 = .ok (.aload_n 1, 1) := by decide +kernel
theorem dX8_endIfOver_14 : decode cX8_endIfOver 14 = .ok (.aload_n 1, 1) := by decide +kernel
theorem dX8_endIfOver_15 : decode cX8_endIfOver 15 = .ok (.getfield 323, 3) := by decide +kernel
theorem dX8_endIfOver_18 : decode cX8_endIfOver 18 = .ok (.getfield 249, 3) := by decide +kernel
theorem dX8_endIfOver_21 : decode cX8_endIfOver 21 = .ok (.invokevirtual 326, 3) := by decide +kernel
theorem dX8_endIfOver_24 : decode cX8_endIfOver 24 = .ok (.return_, 1) := by decide +kernel
theorem dX8_endRequest_0 : decode cX8_endRequest 0 = .ok (.aload_n 1, 1) := by decide +kernel
theorem dX8_endRequest_1 : decode cX8_endRequest 1 = .ok (.iload_n 2, 1) := by decide +kernel
theorem dX8_endRequest_2 : decode cX8_endRequest 2 = .ok (.putfield 187, 3) := by decide +kernel
theorem dX8_endRequest_5 : decode cX8_endRequest 5 = .ok (.aload_n 1, 1) := by decide +kernel
theorem dX8_endRequest_6 : decode cX8_endRequest 6 = .ok (.aload_n 0, 1) := by decide +kernel
theorem dX8_endRequest_7 : decode cX8_endRequest 7 = .ok (.getfield 140, 3) := by decide +kernel
theorem dX8_endRequest_10 : decode cX8_endRequest 10 = .ok (.putfield 190, 3) := by decide +kernel
theorem dX8_endRequest_13 : decode cX8_endRequest 13 = .ok (.aload_n 0, 1) := by decide +kernel
theorem dX8_endRequest_14 : decode cX8_endRequest 14 = .ok (.getfield 140, 3) := by decide +kernel
theorem dX8_endRequest_17 : decode cX8_endRequest 17 = .ok (.aload_n 1, 1) := by decide +kernel
theorem dX8_endRequest_18 : decode cX8_endRequest 18 = .ok (.getfield 193, 3) := by decide +kernel
theorem dX8_endRequest_21 : decode cX8_endRequest 21 = .ok (.isub, 1) := by decide +kernel
theorem dX8_endRequest_22 : decode cX8_endRequest 22 = .ok (.aload_n 0, 1) := by decide +kernel
theorem dX8_endRequest_23 : decode cX8_endRequest 23 = .ok (.getfield 16, 3) := by decide +kernel
theorem dX8_endRequest_26 : decode cX8_endRequest 26 = .ok (.if_icmp .le 7, 3) := by decide +kernel
theorem dX8_endRequest_29 : decode cX8_endRequest 29 = .ok (.iconst 1, 1) := by decide +kernel
theorem dX8_endRequest_30 : decode cX8_endRequest 30 = .ok (.goto 4, 3) := by decide +kernel
theorem dX8_endRequest_33 : decode cX8_endRequest 33 = .ok (.iconst 0, 1) := by decide +kernel
theorem dX8_endRequest_34 : decode cX8_endRequest 34 = .ok (.istore_n 3, 1) := by decide +kernel
theorem dX8_endRequest_35 : decode cX8_endRequest 35 = .ok (.aload_n 1, 1) := by decide +kernel
theorem dX8_endRequest_36 : decode cX8_endRequest 36 = .ok (.aload_n 0, 1) := by decide +kernel
theorem dX8_endRequest_37 : decode cX8_endRequest 37 = .ok (.aload_n 1, 1) := by decide +kernel
theorem dX8_endRequest_38 : decode cX8_endRequest 38 = .ok (.invokevirtual 196, 3) := by decide +kernel
theorem dX8_endRequest_41 : decode cX8_endRequest 41 = .ok (.ifCond .ne 12, 3) := by decide +kernel
theorem dX8_endRequest_44 : decode cX8_endRequest 44 = .ok (.iload_n 2, 1) := by decide +kernel
theorem dX8_endRequest_45 : decode cX8_endRequest 45 = .ok (.iconst 3, 1) := by decide +kernel
theorem dX8_endRequest_46 : decode cX8_endRequest 46 = .ok (.if_icmp .ne 7, 3) := by decide +kernel
theorem dX8_endRequest_49 : decode cX8_endRequest 49 = .ok (.iload_n 3, 1) := by decide +kernel
theorem dX8_endRequest_50 : decode cX8_endRequest 50 = .ok (.ifCond .eq 7, 3) := by decide +kernel
theorem dX8_endRequest_53 : decode cX8_endRequest 53 = .ok (.iconst 1, 1) := by decide +kernel
theorem dX8_endRequest_54 : decode cX8_endRequest 54 = .ok (.goto 4, 3) := by decide +kernel
theorem dX8_endRequest_57 : decode cX8_endRequest 57 = .ok (.iconst 0, 1) := by decide +kernel
theorem dX8_endRequest_58 : decode cX8_endRequest 58 = .ok (.putfield 200, 3) := by decide +kernel
theorem dX8_endRequest_61 : decode cX8_endRequest 61 = .ok (.aload_n 0, 1) := by decide +kernel
theorem dX8_endRequest_62 : decode cX8_endRequest 62 = .ok (.aload_n 1, 1) := by decide +kernel
theorem dX8_endRequest_63 : decode cX8_endRequest 63 = .ok (.getfield 323, 3) := by decide +kernel
theorem dX8_endRequest_66 : decode cX8_endRequest 66 = .ok (.iconst 0, 1) := by decide +kernel
theorem dX8_endRequest_67 : decode cX8_endRequest 67 = .ok (.invokevirtual 356, 3) := by decide +kernel
theorem dX8_endRequest_70 : decode cX8_endRequest 70 = .ok (.return_, 1) := by decide +kernel
theorem dX8_isKeptByHead_0 : decode cX8_isKeptByHead 0 = .ok (.aload_n 0, 1) := by decide +kernel
theorem dX8_isKeptByHead_1 : decode cX8_isKeptByHead 1 = .ok (.getfield 13, 3) := by decide +kernel
theorem dX8_isKeptByHead_4 : decode cX8_isKeptByHead 4 = .ok (.ifCond .le 22, 3) := by decide +kernel
theorem dX8_isKeptByHead_7 : decode cX8_isKeptByHead 7 = .ok (.aload_n 1, 1) := by decide +kernel
theorem dX8_isKeptByHead_8 : decode cX8_isKeptByHead 8 = .ok (.getfield 323, 3) := by decide +kernel
theorem dX8_isKeptByHead_11 : decode cX8_isKeptByHead 11 = .ok (.getfield 137, 3) := by decide +kernel
theorem dX8_isKeptByHead_14 : decode cX8_isKeptByHead 14 = .ok (.aload_n 0, 1) := by decide +kernel
theorem dX8_isKeptByHead_15 : decode cX8_isKeptByHead 15 = .ok (.getfield 13, 3) := by decide +kernel
theorem dX8_isKeptByHead_18 : decode cX8_isKeptByHead 18 = .ok (.irem, 1) := by decide +kernel
theorem dX8_isKeptByHead_19 : decode cX8_isKeptByHead 19 = .ok (.ifCond .ne 7, 3) := by decide +kernel
theorem dX8_isKeptByHead_22 : decode cX8_isKeptByHead 22 = .ok (.iconst 1, 1) := by decide +kernel
theorem dX8_isKeptByHead_23 : decode cX8_isKeptByHead 23 = .ok (.goto 4, 3) := by decide +kernel
theorem dX8_isKeptByHead_26 : decode cX8_isKeptByHead 26 = .ok (.iconst 0, 1) := by decide +kernel
theorem dX8_isKeptByHead_27 : decode cX8_isKeptByHead 27 = .ok (.ireturn, 1) := by decide +kernel
theorem dX8_goOn_0 : decode cX8_goOn 0 = .ok (.aload_n 0, 1) := by decide +kernel
theorem dX8_goOn_1 : decode cX8_goOn 1 = .ok (.aload_n 1, 1) := by decide +kernel
theorem dX8_goOn_2 : decode cX8_goOn 2 = .ok (.invokevirtual 330, 3) := by decide +kernel
theorem dX8_goOn_5 : decode cX8_goOn 5 = .ok (.aload_n 0, 1) := by decide +kernel
theorem dX8_goOn_6 : decode cX8_goOn 6 = .ok (.aload_n 1, 1) := by decide +kernel
theorem dX8_goOn_7 : decode cX8_goOn 7 = .ok (.iconst 1, 1) := by decide +kernel
theorem dX8_goOn_8 : decode cX8_goOn 8 = .ok (.invokevirtual 359, 3) := by decide +kernel
theorem dX8_goOn_11 : decode cX8_goOn 11 = .ok (.istore_n 2, 1) := by decide +kernel
theorem dX8_goOn_12 : decode cX8_goOn 12 = .ok (.iconst 0, 1) := by decide +kernel
theorem dX8_goOn_13 : decode cX8_goOn 13 = .ok (.istore_n 3, 1) := by decide +kernel
theorem dX8_goOn_14 : decode cX8_goOn 14 = .ok (.iload_n 3, 1) := by decide +kernel
theorem dX8_goOn_15 : decode cX8_goOn 15 = .ok (.iload_n 2, 1) := by decide +kernel
theorem dX8_goOn_16 : decode cX8_goOn 16 = .ok (.if_icmp .gt 102, 3) := by decide +kernel
theorem dX8_goOn_19 : decode cX8_goOn 19 = .ok (.aload_n 1, 1) := by decide +kernel
theorem dX8_goOn_20 : decode cX8_goOn 20 = .ok (.getfield 249, 3) := by decide +kernel
theorem dX8_goOn_23 : decode cX8_goOn 23 = .ok (.bipush 8, 2) := by decide +kernel
theorem dX8_goOn_25 : decode cX8_goOn 25 = .ok (.if_icmp .ne 93, 3) := by decide +kernel
theorem dX8_goOn_28 : decode cX8_goOn 28 = .ok (.aload_n 1, 1) := by decide +kernel
theorem dX8_goOn_29 : decode cX8_goOn 29 = .ok (.aload_n 0, 1) := by decide +kernel
theorem dX8_goOn_30 : decode cX8_goOn 30 = .ok (.getfield 140, 3) := by decide +kernel
theorem dX8_goOn_33 : decode cX8_goOn 33 = .ok (.invokevirtual 333, 3) := by decide +kernel
theorem dX8_goOn_36 : decode cX8_goOn 36 = .ok (.ifCond .ne 82, 3) := by decide +kernel
theorem dX8_goOn_39 : decode cX8_goOn 39 = .ok (.aload_n 1, 1) := by decide +kernel
theorem dX8_goOn_40 : decode cX8_goOn 40 = .ok (.getfield 363, 3) := by decide +kernel
theorem dX8_goOn_43 : decode cX8_goOn 43 = .ok (.bipush 6, 2) := by decide +kernel
theorem dX8_goOn_45 : decode cX8_goOn 45 = .ok (.if_icmp .eq 10, 3) := by decide +kernel
theorem dX8_goOn_48 : decode cX8_goOn 48 = .ok (.aload_n 1, 1) := by decide +kernel
theorem dX8_goOn_49 : decode cX8_goOn 49 = .ok (.getfield 366, 3) := by decide +kernel
theorem dX8_goOn_52 : decode cX8_goOn 52 = .ok (.ifCond .eq 7, 3) := by decide +kernel
theorem dX8_goOn_55 : decode cX8_goOn 55 = .ok (.iconst 1, 1) := by decide +kernel
theorem dX8_goOn_56 : decode cX8_goOn 56 = .ok (.goto 4, 3) := by decide +kernel
theorem dX8_goOn_59 : decode cX8_goOn 59 = .ok (.iconst 0, 1) := by decide +kernel
theorem dX8_goOn_60 : decode cX8_goOn 60 = .ok (.istore 4, 2) := by decide +kernel
theorem dX8_goOn_62 : decode cX8_goOn 62 = .ok (.aload_n 1, 1) := by decide +kernel
theorem dX8_goOn_63 : decode cX8_goOn 63 = .ok (.getfield 368, 3) := by decide +kernel
theorem dX8_goOn_66 : decode cX8_goOn 66 = .ok (.iload_n 2, 1) := by decide +kernel
theorem dX8_goOn_67 : decode cX8_goOn 67 = .ok (.if_icmp .ge 40, 3) := by decide +kernel
theorem dX8_goOn_70 : decode cX8_goOn 70 = .ok (.iload 4, 2) := by decide +kernel
theorem dX8_goOn_72 : decode cX8_goOn 72 = .ok (.ifCond .eq 35, 3) := by decide +kernel
theorem dX8_goOn_75 : decode cX8_goOn 75 = .ok (.aload_n 0, 1) := by decide +kernel
theorem dX8_goOn_76 : decode cX8_goOn 76 = .ok (.aload_n 1, 1) := by decide +kernel
theorem dX8_goOn_77 : decode cX8_goOn 77 = .ok (.invokevirtual 371, 3) := by decide +kernel
theorem dX8_goOn_80 : decode cX8_goOn 80 = .ok (.ifCond .eq 27, 3) := by decide +kernel
theorem dX8_goOn_83 : decode cX8_goOn 83 = .ok (.aload_n 1, 1) := by decide +kernel
theorem dX8_goOn_84 : decode cX8_goOn 84 = .ok (.dup, 1) := by decide +kernel
theorem dX8_goOn_85 : decode cX8_goOn 85 = .ok (.getfield 368, 3) := by decide +kernel
theorem dX8_goOn_88 : decode cX8_goOn 88 = .ok (.iconst 1, 1) := by decide +kernel
theorem dX8_goOn_89 : decode cX8_goOn 89 = .ok (.iadd, 1) := by decide +kernel
theorem dX8_goOn_90 : decode cX8_goOn 90 = .ok (.putfield 368, 3) := by decide +kernel
theorem dX8_goOn_93 : decode cX8_goOn 93 = .ok (.aload_n 0, 1) := by decide +kernel
theorem dX8_goOn_94 : decode cX8_goOn 94 = .ok (.aload_n 1, 1) := by decide +kernel
theorem dX8_goOn_95 : decode cX8_goOn 95 = .ok (.iconst 1, 1) := by decide +kernel
theorem dX8_goOn_96 : decode cX8_goOn 96 = .ok (.invokevirtual 151, 3) := by decide +kernel
theorem dX8_goOn_99 : decode cX8_goOn 99 = .ok (.aload_n 0, 1) := by decide +kernel
theorem dX8_goOn_100 : decode cX8_goOn 100 = .ok (.aload_n 1, 1) := by decide +kernel
theorem dX8_goOn_101 : decode cX8_goOn 101 = .ok (.invokevirtual 330, 3) := by decide +kernel
theorem dX8_goOn_104 : decode cX8_goOn 104 = .ok (.goto 8, 3) := by decide +kernel
theorem dX8_goOn_107 : decode cX8_goOn 107 = .ok (.aload_n 1, 1) := by decide +kernel
theorem dX8_goOn_108 : decode cX8_goOn 108 = .ok (.iconst 4, 1) := by decide +kernel
theorem dX8_goOn_109 : decode cX8_goOn 109 = .ok (.putfield 249, 3) := by decide +kernel
theorem dX8_goOn_112 : decode cX8_goOn 112 = .ok (.iinc 3 1, 3) := by decide +kernel
theorem dX8_goOn_115 : decode cX8_goOn 115 = .ok (.goto (-101), 3) := by decide +kernel
theorem dX8_goOn_118 : decode cX8_goOn 118 = .ok (.aload_n 0, 1) := by decide +kernel
theorem dX8_goOn_119 : decode cX8_goOn 119 = .ok (.aload_n 1, 1) := by decide +kernel
theorem dX8_goOn_120 : decode cX8_goOn 120 = .ok (.invokevirtual 374, 3) := by decide +kernel
theorem dX8_goOn_123 : decode cX8_goOn 123 = .ok (.ifCond .eq 14, 3) := by decide +kernel
theorem dX8_goOn_126 : decode cX8_goOn 126 = .ok (.aload_n 0, 1) := by decide +kernel
theorem dX8_goOn_127 : decode cX8_goOn 127 = .ok (.aload_n 1, 1) := by decide +kernel
theorem dX8_goOn_128 : decode cX8_goOn 128 = .ok (.iconst 1, 1) := by decide +kernel
theorem dX8_goOn_129 : decode cX8_goOn 129 = .ok (.invokevirtual 151, 3) := by decide +kernel
theorem dX8_goOn_132 : decode cX8_goOn 132 = .ok (.aload_n 0, 1) := by decide +kernel
theorem dX8_goOn_133 : decode cX8_goOn 133 = .ok (.aload_n 1, 1) := by decide +kernel
theorem dX8_goOn_134 : decode cX8_goOn 134 = .ok (.invokevirtual 330, 3) := by decide +kernel
theorem dX8_goOn_137 : decode cX8_goOn 137 = .ok (.return_, 1) := by decide +kernel
theorem dX8_lookAtEnds_0 : decode cX8_lookAtEnds 0 = .ok (.iconst 0, 1) := by decide +kernel
theorem dX8_lookAtEnds_1 : decode cX8_lookAtEnds 1 = .ok (.istore_n 2, 1) := by decide +kernel
theorem dX8_lookAtEnds_2 : decode cX8_lookAtEnds 2 = .ok (.iload_n 2, 1) := by decide +kernel
theorem dX8_lookAtEnds_3 : decode cX8_lookAtEnds 3 = .ok (.aload_n 1, 1) := by decide +kernel
theorem dX8_lookAtEnds_4 : decode cX8_lookAtEnds 4 = .ok (.getfield 377, 3) := by decide +kernel
theorem dX8_lookAtEnds_7 : decode cX8_lookAtEnds 7 = .ok (.invokevirtual 82, 3) := by decide +kernel
theorem dX8_lookAtEnds_10 : decode cX8_lookAtEnds 10 = .ok (.if_icmp .ge 140, 3) := by decide +kernel
theorem dX8_lookAtEnds_13 : decode cX8_lookAtEnds 13 = .ok (.aload_n 1, 1) := by decide +kernel
theorem dX8_lookAtEnds_14 : decode cX8_lookAtEnds 14 = .ok (.getfield 249, 3) := by decide +kernel
theorem dX8_lookAtEnds_17 : decode cX8_lookAtEnds 17 = .ok (.bipush 8, 2) := by decide +kernel
theorem dX8_lookAtEnds_19 : decode cX8_lookAtEnds 19 = .ok (.if_icmp .ne 131, 3) := by decide +kernel
theorem dX8_lookAtEnds_22 : decode cX8_lookAtEnds 22 = .ok (.aload_n 1, 1) := by decide +kernel
theorem dX8_lookAtEnds_23 : decode cX8_lookAtEnds 23 = .ok (.getfield 377, 3) := by decide +kernel
theorem dX8_lookAtEnds_26 : decode cX8_lookAtEnds 26 = .ok (.iload_n 2, 1) := by decide +kernel
theorem dX8_lookAtEnds_27 : decode cX8_lookAtEnds 27 = .ok (.invokevirtual 98, 3) := by decide +kernel
theorem dX8_lookAtEnds_30 : decode cX8_lookAtEnds 30 = .ok (.checkcast 204, 3) := by decide +kernel
theorem dX8_lookAtEnds_33 : decode cX8_lookAtEnds 33 = .ok (.astore_n 3, 1) := by decide +kernel
theorem dX8_lookAtEnds_34 : decode cX8_lookAtEnds 34 = .ok (.aload_n 3, 1) := by decide +kernel
theorem dX8_lookAtEnds_35 : decode cX8_lookAtEnds 35 = .ok (.getfield 380, 3) := by decide +kernel
theorem dX8_lookAtEnds_38 : decode cX8_lookAtEnds 38 = .ok (.ifCond .ne 106, 3) := by decide +kernel
theorem dX8_lookAtEnds_41 : decode cX8_lookAtEnds 41 = .ok (.aload_n 3, 1) := by decide +kernel
theorem dX8_lookAtEnds_42 : decode cX8_lookAtEnds 42 = .ok (.aload_n 0, 1) := by decide +kernel
theorem dX8_lookAtEnds_43 : decode cX8_lookAtEnds 43 = .ok (.getfield 140, 3) := by decide +kernel
theorem dX8_lookAtEnds_46 : decode cX8_lookAtEnds 46 = .ok (.invokevirtual 383, 3) := by decide +kernel
theorem dX8_lookAtEnds_49 : decode cX8_lookAtEnds 49 = .ok (.ifCond .ne 6, 3) := by decide +kernel
theorem dX8_lookAtEnds_52 : decode cX8_lookAtEnds 52 = .ok (.goto 92, 3) := by decide +kernel
theorem dX8_lookAtEnds_55 : decode cX8_lookAtEnds 55 = .ok (.aload_n 3, 1) := by decide +kernel
theorem dX8_lookAtEnds_56 : decode cX8_lookAtEnds 56 = .ok (.iconst 1, 1) := by decide +kernel
theorem dX8_lookAtEnds_57 : decode cX8_lookAtEnds 57 = .ok (.putfield 380, 3) := by decide +kernel
theorem dX8_lookAtEnds_60 : decode cX8_lookAtEnds 60 = .ok (.aload_n 1, 1) := by decide +kernel
theorem dX8_lookAtEnds_61 : decode cX8_lookAtEnds 61 = .ok (.aload_n 3, 1) := by decide +kernel
theorem dX8_lookAtEnds_62 : decode cX8_lookAtEnds 62 = .ok (.getfield 386, 3) := by decide +kernel
theorem dX8_lookAtEnds_65 : decode cX8_lookAtEnds 65 = .ok (.putfield 363, 3) := by decide +kernel
theorem dX8_lookAtEnds_68 : decode cX8_lookAtEnds 68 = .ok (.aload_n 3, 1) := by decide +kernel
theorem dX8_lookAtEnds_69 : decode cX8_lookAtEnds 69 = .ok (.getfield 386, 3) := by decide +kernel
theorem dX8_lookAtEnds_72 : decode cX8_lookAtEnds 72 = .ok (.iconst 3, 1) := by decide +kernel
theorem dX8_lookAtEnds_73 : decode cX8_lookAtEnds 73 = .ok (.if_icmp .ne 7, 3) := by decide +kernel
theorem dX8_lookAtEnds_76 : decode cX8_lookAtEnds 76 = .ok (.iconst 1, 1) := by decide +kernel
theorem dX8_lookAtEnds_77 : decode cX8_lookAtEnds 77 = .ok (.goto 4, 3) := by decide +kernel
theorem dX8_lookAtEnds_80 : decode cX8_lookAtEnds 80 = .ok (.iconst 0, 1) := by decide +kernel
theorem dX8_lookAtEnds_81 : decode cX8_lookAtEnds 81 = .ok (.istore 4, 2) := by decide +kernel
theorem dX8_lookAtEnds_83 : decode cX8_lookAtEnds 83 = .ok (.aload_n 3, 1) := by decide +kernel
theorem dX8_lookAtEnds_84 : decode cX8_lookAtEnds 84 = .ok (.getfield 213, 3) := by decide +kernel
theorem dX8_lookAtEnds_87 : decode cX8_lookAtEnds 87 = .ok (.getfield 233, 3) := by decide +kernel
theorem dX8_lookAtEnds_90 : decode cX8_lookAtEnds 90 = .ok (.aload_n 1, 1) := by decide +kernel
theorem dX8_lookAtEnds_91 : decode cX8_lookAtEnds 91 = .ok (.getfield 273, 3) := by decide +kernel
theorem dX8_lookAtEnds_94 : decode cX8_lookAtEnds 94 = .ok (.aaload, 1) := by decide +kernel
theorem dX8_lookAtEnds_95 : decode cX8_lookAtEnds 95 = .ok (.iload 4, 2) := by decide +kernel
theorem dX8_lookAtEnds_97 : decode cX8_lookAtEnds 97 = .ok (.aload_n 0, 1) := by decide +kernel
theorem dX8_lookAtEnds_98 : decode cX8_lookAtEnds 98 = .ok (.getfield 140, 3) := by decide +kernel
theorem dX8_lookAtEnds_101 : decode cX8_lookAtEnds 101 = .ok (.invokevirtual 389, 3) := by decide +kernel
theorem dX8_lookAtEnds_104 : decode cX8_lookAtEnds 104 = .ok (.aload_n 0, 1) := by decide +kernel
theorem dX8_lookAtEnds_105 : decode cX8_lookAtEnds 105 = .ok (.getfield 26, 3) := by decide +kernel
theorem dX8_lookAtEnds_108 : decode cX8_lookAtEnds 108 = .ok (.aload_n 1, 1) := by decide +kernel
theorem dX8_lookAtEnds_109 : decode cX8_lookAtEnds 109 = .ok (.getfield 210, 3) := by decide +kernel
theorem dX8_lookAtEnds_112 : decode cX8_lookAtEnds 112 = .ok (.aaload, 1) := by decide +kernel
theorem dX8_lookAtEnds_113 : decode cX8_lookAtEnds 113 = .ok (.getfield 119, 3) := by decide +kernel
theorem dX8_lookAtEnds_116 : decode cX8_lookAtEnds 116 = .ok (.aload_n 3, 1) := by decide +kernel
theorem dX8_lookAtEnds_117 : decode cX8_lookAtEnds 117 = .ok (.getfield 213, 3) := by decide +kernel
theorem dX8_lookAtEnds_120 : decode cX8_lookAtEnds 120 = .ok (.getfield 393, 3) := by decide +kernel
theorem dX8_lookAtEnds_123 : decode cX8_lookAtEnds 123 = .ok (.iload 4, 2) := by decide +kernel
theorem dX8_lookAtEnds_125 : decode cX8_lookAtEnds 125 = .ok (.invokevirtual 396, 3) := by decide +kernel
theorem dX8_lookAtEnds_128 : decode cX8_lookAtEnds 128 = .ok (.iload 4, 2) := by decide +kernel
theorem dX8_lookAtEnds_130 : decode cX8_lookAtEnds 130 = .ok (.ifCond .eq 14, 3) := by decide +kernel
theorem dX8_lookAtEnds_133 : decode cX8_lookAtEnds 133 = .ok (.aload_n 1, 1) := by decide +kernel
theorem dX8_lookAtEnds_134 : decode cX8_lookAtEnds 134 = .ok (.iconst 3, 1) := by decide +kernel
theorem dX8_lookAtEnds_135 : decode cX8_lookAtEnds 135 = .ok (.putfield 249, 3) := by decide +kernel
theorem dX8_lookAtEnds_138 : decode cX8_lookAtEnds 138 = .ok (.aload_n 0, 1) := by decide +kernel
theorem dX8_lookAtEnds_139 : decode cX8_lookAtEnds 139 = .ok (.aload_n 1, 1) := by decide +kernel
theorem dX8_lookAtEnds_140 : decode cX8_lookAtEnds 140 = .ok (.iconst 0, 1) := by decide +kernel
theorem dX8_lookAtEnds_141 : decode cX8_lookAtEnds 141 = .ok (.invokevirtual 356, 3) := by decide +kernel
theorem dX8_lookAtEnds_144 : decode cX8_lookAtEnds 144 = .ok (.iinc 2 1, 3) := by decide +kernel
theorem dX8_lookAtEnds_147 : decode cX8_lookAtEnds 147 = .ok (.goto (-145), 3) := by decide +kernel
theorem dX8_lookAtEnds_150 : decode cX8_lookAtEnds 150 = .ok (.return_, 1) := by decide +kernel
theorem dX8_canPay_0 : decode cX8_canPay 0 = .ok (.aload_n 0, 1) := by decide +kernel
theorem dX8_canPay_1 : decode cX8_canPay 1 = .ok (.getfield 32, 3) := by decide +kernel
theorem dX8_canPay_4 : decode cX8_canPay 4 = .ok (.aload_n 1, 1) := by decide +kernel
theorem dX8_canPay_5 : decode cX8_canPay 5 = .ok (.getfield 273, 3) := by decide +kernel
theorem dX8_canPay_8 : decode cX8_canPay 8 = .ok (.aaload, 1) := by decide +kernel
theorem dX8_canPay_9 : decode cX8_canPay 9 = .ok (.getfield 230, 3) := by decide +kernel
theorem dX8_canPay_12 : decode cX8_canPay 12 = .ok (.bipush 100, 2) := by decide +kernel
theorem dX8_canPay_14 : decode cX8_canPay 14 = .ok (.if_icmp .lt 7, 3) := by decide +kernel
theorem dX8_canPay_17 : decode cX8_canPay 17 = .ok (.iconst 1, 1) := by decide +kernel
theorem dX8_canPay_18 : decode cX8_canPay 18 = .ok (.goto 4, 3) := by decide +kernel
theorem dX8_canPay_21 : decode cX8_canPay 21 = .ok (.iconst 0, 1) := by decide +kernel
