theorem dX9_isKnown_5 : decode cX9_isKnown 5 = .ok (.ifCond .eq 40, 3) := by decide +kernel
theorem dX9_isKnown_8 : decode cX9_isKnown 8 = .ok (.aload_n 0, 1) := by decide +kernel
theorem dX9_isKnown_9 : decode cX9_isKnown 9 = .ok (.getfield 114, 3) := by decide +kernel
theorem dX9_isKnown_12 : decode cX9_isKnown 12 = .ok (.iload_n 1, 1) := by decide +kernel
theorem dX9_isKnown_13 : decode cX9_isKnown 13 = .ok (.iaload, 1) := by decide +kernel
theorem dX9_isKnown_14 : decode cX9_isKnown 14 = .ok (.bipush 7, 2) := by decide +kernel
theorem dX9_isKnown_16 : decode cX9_isKnown 16 = .ok (.if_icmp .eq 29, 3) := by decide +kernel
theorem dX9_isKnown_19 : decode cX9_isKnown 19 = .ok (.aload_n 0, 1) := by decide +kernel
theorem dX9_isKnown_20 : decode cX9_isKnown 20 = .ok (.getfield 129, 3) := by decide +kernel
theorem dX9_isKnown_23 : decode cX9_isKnown 23 = .ok (.iload_n 1, 1) := by decide +kernel
theorem dX9_isKnown_24 : decode cX9_isKnown 24 = .ok (.baload, 1) := by decide +kernel
theorem dX9_isKnown_25 : decode cX9_isKnown 25 = .ok (.ifCond .eq 16, 3) := by decide +kernel
theorem dX9_isKnown_28 : decode cX9_isKnown 28 = .ok (.aload_n 0, 1) := by decide +kernel
theorem dX9_isKnown_29 : decode cX9_isKnown 29 = .ok (.getfield 220, 3) := by decide +kernel
theorem dX9_isKnown_32 : decode cX9_isKnown 32 = .ok (.aload_n 0, 1) := by decide +kernel
theorem dX9_isKnown_33 : decode cX9_isKnown 33 = .ok (.getfield 117, 3) := by decide +kernel
theorem dX9_isKnown_36 : decode cX9_isKnown 36 = .ok (.iload_n 1, 1) := by decide +kernel
theorem dX9_isKnown_37 : decode cX9_isKnown 37 = .ok (.iaload, 1) := by decide +kernel
theorem dX9_isKnown_38 : decode cX9_isKnown 38 = .ok (.if_icmp .lt 7, 3) := by decide +kernel
theorem dX9_isKnown_41 : decode cX9_isKnown 41 = .ok (.iconst 1, 1) := by decide +kernel
theorem dX9_isKnown_42 : decode cX9_isKnown 42 = .ok (.goto 4, 3) := by decide +kernel
theorem dX9_isKnown_45 : decode cX9_isKnown 45 = .ok (.iconst 0, 1) := by decide +kernel
theorem dX9_isKnown_46 : decode cX9_isKnown 46 = .ok (.ireturn, 1) := by decide +kernel
theorem dX9_goesOn_0 : decode cX9_goesOn 0 = .ok (.iload_n 1, 1) := by decide +kernel
theorem dX9_goesOn_1 : decode cX9_goesOn 1 = .ok (.sipush 400, 3) := by decide +kernel
theorem dX9_goesOn_4 : decode cX9_goesOn 4 = .ok (.if_icmp .ge 19, 3) := by decide +kernel
theorem dX9_goesOn_7 : decode cX9_goesOn 7 = .ok (.aload_n 0, 1) := by decide +kernel
theorem dX9_goesOn_8 : decode cX9_goesOn 8 = .ok (.getfield 114, 3) := by decide +kernel
theorem dX9_goesOn_11 : decode cX9_goesOn 11 = .ok (.iload_n 1, 1) := by decide +kernel
theorem dX9_goesOn_12 : decode cX9_goesOn 12 = .ok (.iaload, 1) := by decide +kernel
theorem dX9_goesOn_13 : decode cX9_goesOn 13 = .ok (.iconst 2, 1) := by decide +kernel
theorem dX9_goesOn_14 : decode cX9_goesOn 14 = .ok (.if_icmp .ne 7, 3) := by decide +kernel
theorem dX9_goesOn_17 : decode cX9_goesOn 17 = .ok (.iconst 1, 1) := by decide +kernel
theorem dX9_goesOn_18 : decode cX9_goesOn 18 = .ok (.goto 4, 3) := by decide +kernel
theorem dX9_goesOn_21 : decode cX9_goesOn 21 = .ok (.iconst 0, 1) := by decide +kernel
theorem dX9_goesOn_22 : decode cX9_goesOn 22 = .ok (.ireturn, 1) := by decide +kernel
theorem dX9_goesOn_23 : decode cX9_goesOn 23 = .ok (.iload_n 1, 1) := by decide +kernel
theorem dX9_goesOn_24 : decode cX9_goesOn 24 = .ok (.sipush 440, 3) := by decide +kernel
theorem dX9_goesOn_27 : decode cX9_goesOn 27 = .ok (.if_icmp .ge 26, 3) := by decide +kernel
theorem dX9_goesOn_30 : decode cX9_goesOn 30 = .ok (.aload_n 0, 1) := by decide +kernel
theorem dX9_goesOn_31 : decode cX9_goesOn 31 = .ok (.getfield 168, 3) := by decide +kernel
theorem dX9_goesOn_34 : decode cX9_goesOn 34 = .ok (.iload_n 1, 1) := by decide +kernel
theorem dX9_goesOn_35 : decode cX9_goesOn 35 = .ok (.sipush 400, 3) := by decide +kernel
theorem dX9_goesOn_38 : decode cX9_goesOn 38 = .ok (.isub, 1) := by decide +kernel
theorem dX9_goesOn_39 : decode cX9_goesOn 39 = .ok (.iaload, 1) := by decide +kernel
theorem dX9_goesOn_40 : decode cX9_goesOn 40 = .ok (.bipush 8, 2) := by decide +kernel
theorem dX9_goesOn_42 : decode cX9_goesOn 42 = .ok (.if_icmp .ne 7, 3) := by decide +kernel
theorem dX9_goesOn_45 : decode cX9_goesOn 45 = .ok (.iconst 1, 1) := by decide +kernel
theorem dX9_goesOn_46 : decode cX9_goesOn 46 = .ok (.goto 28, 3) := by decide +kernel
theorem dX9_goesOn_49 : decode cX9_goesOn 49 = .ok (.iconst 0, 1) := by decide +kernel
theorem dX9_goesOn_50 : decode cX9_goesOn 50 = .ok (.goto 24, 3) := by decide +kernel
theorem dX9_goesOn_53 : decode cX9_goesOn 53 = .ok (.aload_n 0, 1) := by decide +kernel
theorem dX9_goesOn_54 : decode cX9_goesOn 54 = .ok (.getfield 183, 3) := by decide +kernel
theorem dX9_goesOn_57 : decode cX9_goesOn 57 = .ok (.iload_n 1, 1) := by decide +kernel
theorem dX9_goesOn_58 : decode cX9_goesOn 58 = .ok (.sipush 400, 3) := by decide +kernel
theorem dX9_goesOn_61 : decode cX9_goesOn 61 = .ok (.isub, 1) := by decide +kernel
theorem dX9_goesOn_62 : decode cX9_goesOn 62 = .ok (.bipush 40, 2) := by decide +kernel
theorem dX9_goesOn_64 : decode cX9_goesOn 64 = .ok (.isub, 1) := by decide +kernel
theorem dX9_goesOn_65 : decode cX9_goesOn 65 = .ok (.baload, 1) := by decide +kernel
theorem dX9_goesOn_66 : decode cX9_goesOn 66 = .ok (.ifCond .ne 7, 3) := by decide +kernel
theorem dX9_goesOn_69 : decode cX9_goesOn 69 = .ok (.iconst 1, 1) := by decide +kernel
theorem dX9_goesOn_70 : decode cX9_goesOn 70 = .ok (.goto 4, 3) := by decide +kernel
theorem dX9_goesOn_73 : decode cX9_goesOn 73 = .ok (.iconst 0, 1) := by decide +kernel
theorem dX9_goesOn_74 : decode cX9_goesOn 74 = .ok (.ireturn, 1) := by decide +kernel
theorem dX9_isOut_0 : decode cX9_isOut 0 = .ok (.aload_n 0, 1) := by decide +kernel
theorem dX9_isOut_1 : decode cX9_isOut 1 = .ok (.getfield 114, 3) := by decide +kernel
theorem dX9_isOut_4 : decode cX9_isOut 4 = .ok (.iload_n 1, 1) := by decide +kernel
theorem dX9_isOut_5 : decode cX9_isOut 5 = .ok (.iaload, 1) := by decide +kernel
theorem dX9_isOut_6 : decode cX9_isOut 6 = .ok (.bipush 7, 2) := by decide +kernel
theorem dX9_isOut_8 : decode cX9_isOut 8 = .ok (.if_icmp .eq 48, 3) := by decide +kernel
theorem dX9_isOut_11 : decode cX9_isOut 11 = .ok (.aload_n 0, 1) := by decide +kernel
theorem dX9_isOut_12 : decode cX9_isOut 12 = .ok (.iload_n 1, 1) := by decide +kernel
theorem dX9_isOut_13 : decode cX9_isOut 13 = .ok (.invokevirtual 247, 3) := by decide +kernel
theorem dX9_isOut_16 : decode cX9_isOut 16 = .ok (.ifCond .ne 40, 3) := by decide +kernel
theorem dX9_isOut_19 : decode cX9_isOut 19 = .ok (.aload_n 0, 1) := by decide +kernel
theorem dX9_isOut_20 : decode cX9_isOut 20 = .ok (.aload_n 0, 1) := by decide +kernel
theorem dX9_isOut_21 : decode cX9_isOut 21 = .ok (.getfield 99, 3) := by decide +kernel
theorem dX9_isOut_24 : decode cX9_isOut 24 = .ok (.iload_n 1, 1) := by decide +kernel
theorem dX9_isOut_25 : decode cX9_isOut 25 = .ok (.iaload, 1) := by decide +kernel
theorem dX9_isOut_26 : decode cX9_isOut 26 = .ok (.invokevirtual 250, 3) := by decide +kernel
theorem dX9_isOut_29 : decode cX9_isOut 29 = .ok (.ifCond .eq 27, 3) := by decide +kernel
theorem dX9_isOut_32 : decode cX9_isOut 32 = .ok (.aload_n 0, 1) := by decide +kernel
theorem dX9_isOut_33 : decode cX9_isOut 33 = .ok (.getfield 141, 3) := by decide +kernel
theorem dX9_isOut_36 : decode cX9_isOut 36 = .ok (.aload_n 0, 1) := by decide +kernel
theorem dX9_isOut_37 : decode cX9_isOut 37 = .ok (.getfield 99, 3) := by decide +kernel
theorem dX9_isOut_40 : decode cX9_isOut 40 = .ok (.iload_n 1, 1) := by decide +kernel
theorem dX9_isOut_41 : decode cX9_isOut 41 = .ok (.iaload, 1) := by decide +kernel
theorem dX9_isOut_42 : decode cX9_isOut 42 = .ok (.iaload, 1) := by decide +kernel
theorem dX9_isOut_43 : decode cX9_isOut 43 = .ok (.aload_n 0, 1) := by decide +kernel
theorem dX9_isOut_44 : decode cX9_isOut 44 = .ok (.getfield 102, 3) := by decide +kernel
theorem dX9_isOut_47 : decode cX9_isOut 47 = .ok (.iload_n 1, 1) := by decide +kernel
theorem dX9_isOut_48 : decode cX9_isOut 48 = .ok (.iaload, 1) := by decide +kernel
theorem dX9_isOut_49 : decode cX9_isOut 49 = .ok (.if_icmp .ne 7, 3) := by decide +kernel
theorem dX9_isOut_52 : decode cX9_isOut 52 = .ok (.iconst 1, 1) := by decide +kernel
theorem dX9_isOut_53 : decode cX9_isOut 53 = .ok (.goto 4, 3) := by decide +kernel
theorem dX9_isOut_56 : decode cX9_isOut 56 = .ok (.iconst 0, 1) := by decide +kernel
theorem dX9_isOut_57 : decode cX9_isOut 57 = .ok (.ireturn, 1) := by decide +kernel
theorem dX9_looksAt_0 : decode cX9_looksAt 0 = .ok (.aload_n 0, 1) := by decide +kernel
theorem dX9_looksAt_1 : decode cX9_looksAt 1 = .ok (.getfield 132, 3) := by decide +kernel
theorem dX9_looksAt_4 : decode cX9_looksAt 4 = .ok (.iload_n 1, 1) := by decide +kernel
theorem dX9_looksAt_5 : decode cX9_looksAt 5 = .ok (.iconst 1, 1) := by decide +kernel
theorem dX9_looksAt_6 : decode cX9_looksAt 6 = .ok (.bastore, 1) := by decide +kernel
theorem dX9_looksAt_7 : decode cX9_looksAt 7 = .ok (.aload_n 0, 1) := by decide +kernel
theorem dX9_looksAt_8 : decode cX9_looksAt 8 = .ok (.getfield 129, 3) := by decide +kernel
theorem dX9_looksAt_11 : decode cX9_looksAt 11 = .ok (.iload_n 1, 1) := by decide +kernel
theorem dX9_looksAt_12 : decode cX9_looksAt 12 = .ok (.baload, 1) := by decide +kernel
theorem dX9_looksAt_13 : decode cX9_looksAt 13 = .ok (.ifCond .eq 7, 3) := by decide +kernel
theorem dX9_looksAt_16 : decode cX9_looksAt 16 = .ok (.iconst 5, 1) := by decide +kernel
theorem dX9_looksAt_17 : decode cX9_looksAt 17 = .ok (.goto 9, 3) := by decide +kernel
theorem dX9_looksAt_20 : decode cX9_looksAt 20 = .ok (.aload_n 0, 1) := by decide +kernel
theorem dX9_looksAt_21 : decode cX9_looksAt 21 = .ok (.getfield 114, 3) := by decide +kernel
theorem dX9_looksAt_24 : decode cX9_looksAt 24 = .ok (.iload_n 1, 1) := by decide +kernel
theorem dX9_looksAt_25 : decode cX9_looksAt 25 = .ok (.iaload, 1) := by decide +kernel
theorem dX9_looksAt_26 : decode cX9_looksAt 26 = .ok (.istore_n 2, 1) := by decide +kernel
theorem dX9_looksAt_27 : decode cX9_looksAt 27 = .ok (.aload_n 0, 1) := by decide +kernel
theorem dX9_looksAt_28 : decode cX9_looksAt 28 = .ok (.getfield 153, 3) := by decide +kernel
theorem dX9_looksAt_31 : decode cX9_looksAt 31 = .ok (.aload_n 0, 1) := by decide +kernel
theorem dX9_looksAt_32 : decode cX9_looksAt 32 = .ok (.getfield 99, 3) := by decide +kernel
theorem dX9_looksAt_35 : decode cX9_looksAt 35 = .ok (.iload_n 1, 1) := by decide +kernel
theorem dX9_looksAt_36 : decode cX9_looksAt 36 = .ok (.iaload, 1) := by decide +kernel
theorem dX9_looksAt_37 : decode cX9_looksAt 37 = .ok (.iload_n 2, 1) := by decide +kernel
theorem dX9_looksAt_38 : decode cX9_looksAt 38 = .ok (.iastore, 1) := by decide +kernel
theorem dX9_looksAt_39 : decode cX9_looksAt 39 = .ok (.bipush 12, 2) := by decide +kernel
theorem dX9_looksAt_41 : decode cX9_looksAt 41 = .ok (.aload_n 0, 1) := by decide +kernel
theorem dX9_looksAt_42 : decode cX9_looksAt 42 = .ok (.getfield 108, 3) := by decide +kernel
theorem dX9_looksAt_45 : decode cX9_looksAt 45 = .ok (.iload_n 1, 1) := by decide +kernel
theorem dX9_looksAt_46 : decode cX9_looksAt 46 = .ok (.iaload, 1) := by decide +kernel
theorem dX9_looksAt_47 : decode cX9_looksAt 47 = .ok (.imul, 1) := by decide +kernel
theorem dX9_looksAt_48 : decode cX9_looksAt 48 = .ok (.aload_n 0, 1) := by decide +kernel
theorem dX9_looksAt_49 : decode cX9_looksAt 49 = .ok (.getfield 111, 3) := by decide +kernel
theorem dX9_looksAt_52 : decode cX9_looksAt 52 = .ok (.iload_n 1, 1) := by decide +kernel
theorem dX9_looksAt_53 : decode cX9_looksAt 53 = .ok (.iaload, 1) := by decide +kernel
theorem dX9_looksAt_54 : decode cX9_looksAt 54 = .ok (.iadd, 1) := by decide +kernel
theorem dX9_looksAt_55 : decode cX9_looksAt 55 = .ok (.istore_n 3, 1) := by decide +kernel
theorem dX9_looksAt_56 : decode cX9_looksAt 56 = .ok (.aload_n 0, 1) := by decide +kernel
theorem dX9_looksAt_57 : decode cX9_looksAt 57 = .ok (.getfield 69, 3) := by decide +kernel
theorem dX9_looksAt_60 : decode cX9_looksAt 60 = .ok (.iload_n 3, 1) := by decide +kernel
theorem dX9_looksAt_61 : decode cX9_looksAt 61 = .ok (.iaload, 1) := by decide +kernel
theorem dX9_looksAt_62 : decode cX9_looksAt 62 = .ok (.iconst 1, 1) := by decide +kernel
theorem dX9_looksAt_63 : decode cX9_looksAt 63 = .ok (.if_icmp .eq 112, 3) := by decide +kernel
theorem dX9_looksAt_66 : decode cX9_looksAt 66 = .ok (.aload_n 0, 1) := by decide +kernel
theorem dX9_looksAt_67 : decode cX9_looksAt 67 = .ok (.getfield 72, 3) := by decide +kernel
theorem dX9_looksAt_70 : decode cX9_looksAt 70 = .ok (.iload_n 3, 1) := by decide +kernel
theorem dX9_looksAt_71 : decode cX9_looksAt 71 = .ok (.iload_n 2, 1) := by decide +kernel
theorem dX9_looksAt_72 : decode cX9_looksAt 72 = .ok (.iconst 3, 1) := by decide +kernel
theorem dX9_looksAt_73 : decode cX9_looksAt 73 = .ok (.if_icmp .ne 7, 3) := by decide +kernel
theorem dX9_looksAt_76 : decode cX9_looksAt 76 = .ok (.iconst 0, 1) := by decide +kernel
theorem dX9_looksAt_77 : decode cX9_looksAt 77 = .ok (.goto 11, 3) := by decide +kernel
theorem dX9_looksAt_80 : decode cX9_looksAt 80 = .ok (.aload_n 0, 1) := by decide +kernel
theorem dX9_looksAt_81 : decode cX9_looksAt 81 = .ok (.getfield 72, 3) := by decide +kernel
theorem dX9_looksAt_84 : decode cX9_looksAt 84 = .ok (.iload_n 3, 1) := by decide +kernel
theorem dX9_looksAt_85 : decode cX9_looksAt 85 = .ok (.iaload, 1) := by decide +kernel
theorem dX9_looksAt_86 : decode cX9_looksAt 86 = .ok (.iconst 1, 1) := by decide +kernel
theorem dX9_looksAt_87 : decode cX9_looksAt 87 = .ok (.iadd, 1) := by decide +kernel
theorem dX9_looksAt_88 : decode cX9_looksAt 88 = .ok (.iastore, 1) := by decide +kernel
theorem dX9_looksAt_89 : decode cX9_looksAt 89 = .ok (.iload_n 2, 1) := by decide +kernel
theorem dX9_looksAt_90 : decode cX9_looksAt 90 = .ok (.iconst 3, 1) := by decide +kernel
theorem dX9_looksAt_91 : decode cX9_looksAt 91 = .ok (.if_icmp .eq 27, 3) := by decide +kernel
theorem dX9_looksAt_94 : decode cX9_looksAt 94 = .ok (.aload_n 0, 1) := by decide +kernel
theorem dX9_looksAt_95 : decode cX9_looksAt 95 = .ok (.getfield 69, 3) := by decide +kernel
theorem dX9_looksAt_98 : decode cX9_looksAt 98 = .ok (.iload_n 3, 1) := by decide +kernel
theorem dX9_looksAt_99 : decode cX9_looksAt 99 = .ok (.iaload, 1) := by decide +kernel
theorem dX9_looksAt_100 : decode cX9_looksAt 100 = .ok (.iconst 2, 1) := by decide +kernel
theorem dX9_looksAt_101 : decode cX9_looksAt 101 = .ok (.if_icmp .eq 13, 3) := by decide +kernel
theorem dX9_looksAt_104 : decode cX9_looksAt 104 = .ok (.aload_n 0, 1) := by decide +kernel
theorem dX9_looksAt_105 : decode cX9_looksAt 105 = .ok (.getfield 72, 3) := by decide +kernel
theorem dX9_looksAt_108 : decode cX9_looksAt 108 = .ok (.iload_n 3, 1) := by decide +kernel
theorem dX9_looksAt_109 : decode cX9_looksAt 109 = .ok (.iaload, 1) := by decide +kernel
theorem dX9_looksAt_110 : decode cX9_looksAt 110 = .ok (.iconst 3, 1) := by decide +kernel
theorem dX9_looksAt_111 : decode cX9_looksAt 111 = .ok (.if_icmp .lt 7, 3) := by decide +kernel
theorem dX9_looksAt_114 : decode cX9_looksAt 114 = .ok (.iconst 1, 1) := by decide +kernel
theorem dX9_looksAt_115 : decode cX9_looksAt 115 = .ok (.goto 4, 3) := by decide +kernel
theorem dX9_looksAt_118 : decode cX9_looksAt 118 = .ok (.iconst 0, 1) := by decide +kernel
theorem dX9_looksAt_119 : decode cX9_looksAt 119 = .ok (.istore 4, 2) := by decide +kernel
theorem dX9_looksAt_121 : decode cX9_looksAt 121 = .ok (.aload_n 0, 1) := by decide +kernel
theorem dX9_looksAt_122 : decode cX9_looksAt 122 = .ok (.getfield 69, 3) := by decide +kernel
theorem dX9_looksAt_125 : decode cX9_looksAt 125 = .ok (.iload_n 3, 1) := by decide +kernel
theorem dX9_looksAt_126 : decode cX9_looksAt 126 = .ok (.iload 4, 2) := by decide +kernel
theorem dX9_looksAt_128 : decode cX9_looksAt 128 = .ok (.ifCond .eq 7, 3) := by decide +kernel
theorem dX9_looksAt_131 : decode cX9_looksAt 131 = .ok (.iconst 1, 1) := by decide +kernel
theorem dX9_looksAt_132 : decode cX9_looksAt 132 = .ok (.goto 18, 3) := by decide +kernel
theorem dX9_looksAt_135 : decode cX9_looksAt 135 = .ok (.iload_n 2, 1) := by decide +kernel
theorem dX9_looksAt_136 : decode cX9_looksAt 136 = .ok (.iconst 3, 1) := by decide +kernel
theorem dX9_looksAt_137 : decode cX9_looksAt 137 = .ok (.if_icmp .ne 7, 3) := by decide +kernel
theorem dX9_looksAt_140 : decode cX9_looksAt 140 = .ok (.iconst 0, 1) := by decide +kernel
theorem dX9_looksAt_141 : decode cX9_looksAt 141 = .ok (.goto 9, 3) := by decide +kernel
theorem dX9_looksAt_144 : decode cX9_looksAt 144 = .ok (.aload_n 0, 1) := by decide +kernel
theorem dX9_looksAt_145 : decode cX9_looksAt 145 = .ok (.getfield 69, 3) := by decide +kernel
theorem dX9_looksAt_148 : decode cX9_looksAt 148 = .ok (.iload_n 3, 1) := by decide +kernel
theorem dX9_looksAt_149 : decode cX9_looksAt 149 = .ok (.iaload, 1) := by decide +kernel
theorem dX9_looksAt_150 : decode cX9_looksAt 150 = .ok (.iastore, 1) := by decide +kernel
theorem dX9_looksAt_151 : decode cX9_looksAt 151 = .ok (.aload_n 0, 1) := by decide +kernel
theorem dX9_looksAt_152 : decode cX9_looksAt 152 = .ok (.getfield 75, 3) := by decide +kernel
theorem dX9_looksAt_155 : decode cX9_looksAt 155 = .ok (.iload_n 3, 1) := by decide +kernel
theorem dX9_looksAt_156 : decode cX9_looksAt 156 = .ok (.iload 4, 2) := by decide +kernel
theorem dX9_looksAt_158 : decode cX9_looksAt 158 = .ok (.ifCond .eq 10, 3) := by decide +kernel
theorem dX9_looksAt_161 : decode cX9_looksAt 161 = .ok (.aload_n 0, 1) := by decide +kernel
theorem dX9_looksAt_162 : decode cX9_looksAt 162 = .ok (.getfield 220, 3) := by decide +kernel
theorem dX9_looksAt_165 : decode cX9_looksAt 165 = .ok (.goto 9, 3) := by decide +kernel
theorem dX9_looksAt_168 : decode cX9_looksAt 168 = .ok (.aload_n 0, 1) := by decide +kernel
theorem dX9_looksAt_169 : decode cX9_looksAt 169 = .ok (.getfield 75, 3) := by decide +kernel
theorem dX9_looksAt_172 : decode cX9_looksAt 172 = .ok (.iload_n 3, 1) := by decide +kernel
theorem dX9_looksAt_173 : decode cX9_looksAt 173 = .ok (.iaload, 1) := by decide +kernel
theorem dX9_looksAt_174 : decode cX9_looksAt 174 = .ok (.iastore, 1) := by decide +kernel
theorem dX9_looksAt_175 : decode cX9_looksAt 175 = .ok (.aload_n 0, 1) := by decide +kernel
theorem dX9_looksAt_176 : decode cX9_looksAt 176 = .ok (.aload_n 0, 1) := by decide +kernel
theorem dX9_looksAt_177 : decode cX9_looksAt 177 = .ok (.getfield 105, 3) := by decide +kernel
theorem dX9_looksAt_180 : decode cX9_looksAt 180 = .ok (.iload_n 1, 1) := by decide +kernel
theorem dX9_looksAt_181 : decode cX9_looksAt 181 = .ok (.iaload, 1) := by decide +kernel
theorem dX9_looksAt_182 : decode cX9_looksAt 182 = .ok (.aload_n 0, 1) := by decide +kernel
theorem dX9_looksAt_183 : decode cX9_looksAt 183 = .ok (.getfield 41, 3) := by decide +kernel
theorem dX9_looksAt_186 : decode cX9_looksAt 186 = .ok (.aload_n 0, 1) := by decide +kernel
theorem dX9_looksAt_187 : decode cX9_looksAt 187 = .ok (.getfield 111, 3) := by decide +kernel
theorem dX9_looksAt_190 : decode cX9_looksAt 190 = .ok (.iload_n 1, 1) := by decide +kernel
theorem dX9_looksAt_191 : decode cX9_looksAt 191 = .ok (.iaload, 1) := by decide +kernel
theorem dX9_looksAt_192 : decode cX9_looksAt 192 = .ok (.iaload, 1) := by decide +kernel
theorem dX9_looksAt_193 : decode cX9_looksAt 193 = .ok (.iload_n 2, 1) := by decide +kernel
theorem dX9_looksAt_194 : decode cX9_looksAt 194 = .ok (.invokevirtual 253, 3) := by decide +kernel
theorem dX9_looksAt_197 : decode cX9_looksAt 197 = .ok (.iload_n 2, 1) := by decide +kernel
theorem dX9_looksAt_198 : decode cX9_looksAt 198 = .ok (.iconst 3, 1) := by decide +kernel
theorem dX9_looksAt_199 : decode cX9_looksAt 199 = .ok (.if_icmp .ne 7, 3) := by decide +kernel
theorem dX9_looksAt_202 : decode cX9_looksAt 202 = .ok (.iconst 1, 1) := by decide +kernel
theorem dX9_looksAt_203 : decode cX9_looksAt 203 = .ok (.goto 4, 3) := by decide +kernel
theorem dX9_looksAt_206 : decode cX9_looksAt 206 = .ok (.iconst 0, 1) := by decide +kernel
theorem dX9_looksAt_207 : decode cX9_looksAt 207 = .ok (.ireturn, 1) := by decide +kernel
theorem dX9_judges_0 : decode cX9_judges 0 = .ok (.aload_n 0, 1) := by decide +kernel
theorem dX9_judges_1 : decode cX9_judges 1 = .ok (.getfield 81, 3) := by decide +kernel
theorem dX9_judges_4 : decode cX9_judges 4 = .ok (.iload_n 1, 1) := by decide +kernel
theorem dX9_judges_5 : decode cX9_judges 5 = .ok (.iaload, 1) := by decide +kernel
theorem dX9_judges_6 : decode cX9_judges 6 = .ok (.ifCond .le 115, 3) := by decide +kernel
theorem dX9_judges_9 : decode cX9_judges 9 = .ok (.iconst 2, 1) := by decide +kernel
theorem dX9_judges_10 : decode cX9_judges 10 = .ok (.iload_n 1, 1) := by decide +kernel
theorem dX9_judges_11 : decode cX9_judges 11 = .ok (.imul, 1) := by decide +kernel
theorem dX9_judges_12 : decode cX9_judges 12 = .ok (.iconst 1, 1) := by decide +kernel
theorem dX9_judges_13 : decode cX9_judges 13 = .ok (.iadd, 1) := by decide +kernel
theorem dX9_judges_14 : decode cX9_judges 14 = .ok (.istore 4, 2) := by decide +kernel
theorem dX9_judges_16 : decode cX9_judges 16 = .ok (.aload_n 0, 1) := by decide +kernel
theorem dX9_judges_17 : decode cX9_judges 17 = .ok (.getfield 87, 3) := by decide +kernel
theorem dX9_judges_20 : decode cX9_judges 20 = .ok (.iconst 2, 1) := by decide +kernel
theorem dX9_judges_21 : decode cX9_judges 21 = .ok (.iload_n 1, 1) := by decide +kernel
theorem dX9_judges_22 : decode cX9_judges 22 = .ok (.imul, 1) := by decide +kernel
theorem dX9_judges_23 : decode cX9_judges 23 = .ok (.iload_n 2, 1) := by decide +kernel
theorem dX9_judges_24 : decode cX9_judges 24 = .ok (.iadd, 1) := by decide +kernel
theorem dX9_judges_25 : decode cX9_judges 25 = .ok (.dup2, 1) := by decide +kernel
theorem dX9_judges_26 : decode cX9_judges 26 = .ok (.iaload, 1) := by decide +kernel
theorem dX9_judges_27 : decode cX9_judges 27 = .ok (.iconst 1, 1) := by decide +kernel
theorem dX9_judges_28 : decode cX9_judges 28 = .ok (.iadd, 1) := by decide +kernel
theorem dX9_judges_29 : decode cX9_judges 29 = .ok (.iastore, 1) := by decide +kernel
theorem dX9_judges_30 : decode cX9_judges 30 = .ok (.aload_n 0, 1) := by decide +kernel
theorem dX9_judges_31 : decode cX9_judges 31 = .ok (.getfield 90, 3) := by decide +kernel
theorem dX9_judges_34 : decode cX9_judges 34 = .ok (.iconst 2, 1) := by decide +kernel
theorem dX9_judges_35 : decode cX9_judges 35 = .ok (.iload_n 1, 1) := by decide +kernel
theorem dX9_judges_36 : decode cX9_judges 36 = .ok (.imul, 1) := by decide +kernel
theorem dX9_judges_37 : decode cX9_judges 37 = .ok (.iload_n 2, 1) := by decide +kernel
theorem dX9_judges_38 : decode cX9_judges 38 = .ok (.iadd, 1) := by decide +kernel
theorem dX9_judges_39 : decode cX9_judges 39 = .ok (.dup2, 1) := by decide +kernel
theorem dX9_judges_40 : decode cX9_judges 40 = .ok (.iaload, 1) := by decide +kernel
theorem dX9_judges_41 : decode cX9_judges 41 = .ok (.iload_n 3, 1) := by decide +kernel
theorem dX9_judges_42 : decode cX9_judges 42 = .ok (.iconst 3, 1) := by decide +kernel
theorem dX9_judges_43 : decode cX9_judges 43 = .ok (.if_icmp .ne 7, 3) := by decide +kernel
theorem dX9_judges_46 : decode cX9_judges 46 = .ok (.iconst 0, 1) := by decide +kernel
theorem dX9_judges_47 : decode cX9_judges 47 = .ok (.goto 4, 3) := by decide +kernel
theorem dX9_judges_50 : decode cX9_judges 50 = .ok (.iconst 1, 1) := by decide +kernel
theorem dX9_judges_51 : decode cX9_judges 51 = .ok (.iadd, 1) := by decide +kernel
theorem dX9_judges_52 : decode cX9_judges 52 = .ok (.iastore, 1) := by decide +kernel
theorem dX9_judges_53 : decode cX9_judges 53 = .ok (.aload_n 0, 1) := by decide +kernel
theorem dX9_judges_54 : decode cX9_judges 54 = .ok (.getfield 87, 3) := by decide +kernel
theorem dX9_judges_57 : decode cX9_judges 57 = .ok (.iload 4, 2) := by decide +kernel
theorem dX9_judges_59 : decode cX9_judges 59 = .ok (.iaload, 1) := by decide +kernel
theorem dX9_judges_60 : decode cX9_judges 60 = .ok (.iconst 5, 1) := by decide +kernel
theorem dX9_judges_61 : decode cX9_judges 61 = .ok (.if_icmp .lt 60, 3) := by decide +kernel
theorem dX9_judges_64 : decode cX9_judges 64 = .ok (.aload_n 0, 1) := by decide +kernel
theorem dX9_judges_65 : decode cX9_judges 65 = .ok (.getfield 90, 3) := by decide +kernel
theorem dX9_judges_68 : decode cX9_judges 68 = .ok (.iload 4, 2) := by decide +kernel
theorem dX9_judges_70 : decode cX9_judges 70 = .ok (.iaload, 1) := by decide +kernel
theorem dX9_judges_71 : decode cX9_judges 71 = .ok (.iconst 2, 1) := by decide +kernel
theorem dX9_judges_72 : decode cX9_judges 72 = .ok (.if_icmp .lt 49, 3) := by decide +kernel
theorem dX9_judges_75 : decode cX9_judges 75 = .ok (.aload_n 0, 1) := by decide +kernel
theorem dX9_judges_76 : decode cX9_judges 76 = .ok (.getfield 90, 3) := by decide +kernel
theorem dX9_judges_79 : decode cX9_judges 79 = .ok (.iload 4, 2) := by decide +kernel
theorem dX9_judges_81 : decode cX9_judges 81 = .ok (.iaload, 1) := by decide +kernel
theorem dX9_judges_82 : decode cX9_judges 82 = .ok (.aload_n 0, 1) := by decide +kernel
theorem dX9_judges_83 : decode cX9_judges 83 = .ok (.getfield 87, 3) := by decide +kernel
theorem dX9_judges_86 : decode cX9_judges 86 = .ok (.iload 4, 2) := by decide +kernel
theorem dX9_judges_88 : decode cX9_judges 88 = .ok (.iconst 1, 1) := by decide +kernel
theorem dX9_judges_89 : decode cX9_judges 89 = .ok (.isub, 1) := by decide +kernel
theorem dX9_judges_90 : decode cX9_judges 90 = .ok (.iaload, 1) := by decide +kernel
theorem dX9_judges_91 : decode cX9_judges 91 = .ok (.imul, 1) := by decide +kernel
theorem dX9_judges_92 : decode cX9_judges 92 = .ok (.iconst 2, 1) := by decide +kernel
theorem dX9_judges_93 : decode cX9_judges 93 = .ok (.aload_n 0, 1) := by decide +kernel
theorem dX9_judges_94 : decode cX9_judges 94 = .ok (.getfield 90, 3) := by decide +kernel
theorem dX9_judges_97 : decode cX9_judges 97 = .ok (.iload 4, 2) := by decide +kernel
theorem dX9_judges_99 : decode cX9_judges 99 = .ok (.iconst 1, 1) := by decide +kernel
theorem dX9_judges_100 : decode cX9_judges 100 = .ok (.isub, 1) := by decide +kernel
theorem dX9_judges_101 : decode cX9_judges 101 = .ok (.iaload, 1) := by decide +kernel
theorem dX9_judges_102 : decode cX9_judges 102 = .ok (.imul, 1) := by decide +kernel
theorem dX9_judges_103 : decode cX9_judges 103 = .ok (.aload_n 0, 1) := by decide +kernel
theorem dX9_judges_104 : decode cX9_judges 104 = .ok (.getfield 87, 3) := by decide +kernel
theorem dX9_judges_107 : decode cX9_judges 107 = .ok (.iload 4, 2) := by decide +kernel
theorem dX9_judges_109 : decode cX9_judges 109 = .ok (.iaload, 1) := by decide +kernel
theorem dX9_judges_110 : decode cX9_judges 110 = .ok (.imul, 1) := by decide +kernel
theorem dX9_judges_111 : decode cX9_judges 111 = .ok (.if_icmp .le 10, 3) := by decide +kernel
theorem dX9_judges_114 : decode cX9_judges 114 = .ok (.aload_n 0, 1) := by decide +kernel
theorem dX9_judges_115 : decode cX9_judges 115 = .ok (.getfield 81, 3) := by decide +kernel
theorem dX9_judges_118 : decode cX9_judges 118 = .ok (.iload_n 1, 1) := by decide +kernel
theorem dX9_judges_119 : decode cX9_judges 119 = .ok (.iconst 0, 1) := by decide +kernel
theorem dX9_judges_120 : decode cX9_judges 120 = .ok (.iastore, 1) := by decide +kernel
theorem dX9_judges_121 : decode cX9_judges 121 = .ok (.return_, 1) := by decide +kernel
theorem dX9_isAvoided_0 : decode cX9_isAvoided 0 = .ok (.iconst 0, 1) := by decide +kernel
theorem dX9_isAvoided_1 : decode cX9_isAvoided 1 = .ok (.istore_n 2, 1) := by decide +kernel
theorem dX9_isAvoided_2 : decode cX9_isAvoided 2 = .ok (.iconst 0, 1) := by decide +kernel
theorem dX9_isAvoided_3 : decode cX9_isAvoided 3 = .ok (.istore_n 3, 1) := by decide +kernel
theorem dX9_isAvoided_4 : decode cX9_isAvoided 4 = .ok (.iload_n 3, 1) := by decide +kernel
theorem dX9_isAvoided_5 : decode cX9_isAvoided 5 = .ok (.bipush 7, 2) := by decide +kernel
theorem dX9_isAvoided_7 : decode cX9_isAvoided 7 = .ok (.if_icmp .ge 32, 3) := by decide +kernel
theorem dX9_isAvoided_10 : decode cX9_isAvoided 10 = .ok (.iload_n 2, 1) := by decide +kernel
theorem dX9_isAvoided_11 : decode cX9_isAvoided 11 = .ok (.aload_n 0, 1) := by decide +kernel
theorem dX9_isAvoided_12 : decode cX9_isAvoided 12 = .ok (.getfield 69, 3) := by decide +kernel
theorem dX9_isAvoided_15 : decode cX9_isAvoided 15 = .ok (.bipush 12, 2) := by decide +kernel
theorem dX9_isAvoided_17 : decode cX9_isAvoided 17 = .ok (.iload_n 3, 1) := by decide +kernel
theorem dX9_isAvoided_18 : decode cX9_isAvoided 18 = .ok (.imul, 1) := by decide +kernel
theorem dX9_isAvoided_19 : decode cX9_isAvoided 19 = .ok (.iload_n 1, 1) := by decide +kernel
theorem dX9_isAvoided_20 : decode cX9_isAvoided 20 = .ok (.iadd, 1) := by decide +kernel
theorem dX9_isAvoided_21 : decode cX9_isAvoided 21 = .ok (.iaload, 1) := by decide +kernel
theorem dX9_isAvoided_22 : decode cX9_isAvoided 22 = .ok (.iconst 1, 1) := by decide +kernel
theorem dX9_isAvoided_23 : decode cX9_isAvoided 23 = .ok (.if_icmp .ne 7, 3) := by decide +kernel
theorem dX9_isAvoided_26 : decode cX9_isAvoided 26 = .ok (.iconst 1, 1) := by decide +kernel
theorem dX9_isAvoided_27 : decode cX9_isAvoided 27 = .ok (.goto 4, 3) := by decide +kernel
theorem dX9_isAvoided_30 : decode cX9_isAvoided 30 = .ok (.iconst 0, 1) := by decide +kernel
theorem dX9_isAvoided_31 : decode cX9_isAvoided 31 = .ok (.iadd, 1) := by decide +kernel
theorem dX9_isAvoided_32 : decode cX9_isAvoided 32 = .ok (.istore_n 2, 1) := by decide +kernel
theorem dX9_isAvoided_33 : decode cX9_isAvoided 33 = .ok (.iinc 3 1, 3) := by decide +kernel
theorem dX9_isAvoided_36 : decode cX9_isAvoided 36 = .ok (.goto (-32), 3) := by decide +kernel
theorem dX9_isAvoided_39 : decode cX9_isAvoided 39 = .ok (.iload_n 2, 1) := by decide +kernel
theorem dX9_isAvoided_40 : decode cX9_isAvoided 40 = .ok (.aload_n 0, 1) := by decide +kernel
theorem dX9_isAvoided_41 : decode cX9_isAvoided 41 = .ok (.getfield 65, 3) := by decide +kernel
theorem dX9_isAvoided_44 : decode cX9_isAvoided 44 = .ok (.if_icmp .lt 7, 3) := by decide +kernel
theorem dX9_isAvoided_47 : decode cX9_isAvoided 47 = .ok (.iconst 1, 1) := by decide +kernel
theorem dX9_isAvoided_48 : decode cX9_isAvoided 48 = .ok (.goto 4, 3) := by decide +kernel
theorem dX9_isAvoided_51 : decode cX9_isAvoided 51 = .ok (.iconst 0, 1) := by decide +kernel
theorem dX9_isAvoided_52 : decode cX9_isAvoided 52 = .ok (.ireturn, 1) := by decide +kernel
theorem dX9_hasOut_0 : decode cX9_hasOut 0 = .ok (.iconst 0, 1) := by decide +kernel
theorem dX9_hasOut_1 : decode cX9_hasOut 1 = .ok (.istore_n 3, 1) := by decide +kernel
theorem dX9_hasOut_2 : decode cX9_hasOut 2 = .ok (.iconst 0, 1) := by decide +kernel
theorem dX9_hasOut_3 : decode cX9_hasOut 3 = .ok (.istore 4, 2) := by decide +kernel
theorem dX9_hasOut_5 : decode cX9_hasOut 5 = .ok (.iload 4, 2) := by decide +kernel
theorem dX9_hasOut_7 : decode cX9_hasOut 7 = .ok (.aload_n 0, 1) := by decide +kernel
theorem dX9_hasOut_8 : decode cX9_hasOut 8 = .ok (.getfield 217, 3) := by decide +kernel
theorem dX9_hasOut_11 : decode cX9_hasOut 11 = .ok (.if_icmp .ge 50, 3) := by decide +kernel
theorem dX9_hasOut_14 : decode cX9_hasOut 14 = .ok (.iload_n 3, 1) := by decide +kernel
theorem dX9_hasOut_15 : decode cX9_hasOut 15 = .ok (.ifCond .ne 34, 3) := by decide +kernel
theorem dX9_hasOut_18 : decode cX9_hasOut 18 = .ok (.aload_n 0, 1) := by decide +kernel
theorem dX9_hasOut_19 : decode cX9_hasOut 19 = .ok (.getfield 108, 3) := by decide +kernel
theorem dX9_hasOut_22 : decode cX9_hasOut 22 = .ok (.iload 4, 2) := by decide +kernel
theorem dX9_hasOut_24 : decode cX9_hasOut 24 = .ok (.iaload, 1) := by decide +kernel
theorem dX9_hasOut_25 : decode cX9_hasOut 25 = .ok (.iload_n 1, 1) := by decide +kernel
theorem dX9_hasOut_26 : decode cX9_hasOut 26 = .ok (.if_icmp .ne 27, 3) := by decide +kernel
theorem dX9_hasOut_29 : decode cX9_hasOut 29 = .ok (.aload_n 0, 1) := by decide +kernel
theorem dX9_hasOut_30 : decode cX9_hasOut 30 = .ok (.getfield 111, 3) := by decide +kernel
theorem dX9_hasOut_33 : decode cX9_hasOut 33 = .ok (.iload 4, 2) := by decide +kernel
theorem dX9_hasOut_35 : decode cX9_hasOut 35 = .ok (.iaload, 1) := by decide +kernel
theorem dX9_hasOut_36 : decode cX9_hasOut 36 = .ok (.iload_n 2, 1) := by decide +kernel
theorem dX9_hasOut_37 : decode cX9_hasOut 37 = .ok (.if_icmp .ne 16, 3) := by decide +kernel
theorem dX9_hasOut_40 : decode cX9_hasOut 40 = .ok (.aload_n 0, 1) := by decide +kernel
theorem dX9_hasOut_41 : decode cX9_hasOut 41 = .ok (.iload 4, 2) := by decide +kernel
theorem dX9_hasOut_43 : decode cX9_hasOut 43 = .ok (.invokevirtual 257, 3) := by decide +kernel
theorem dX9_hasOut_46 : decode cX9_hasOut 46 = .ok (.ifCond .eq 7, 3) := by decide +kernel
theorem dX9_hasOut_49 : decode cX9_hasOut 49 = .ok (.iconst 1, 1) := by decide +kernel
theorem dX9_hasOut_50 : decode cX9_hasOut 50 = .ok (.goto 4, 3) := by decide +kernel
theorem dX9_hasOut_53 : decode cX9_hasOut 53 = .ok (.iconst 0, 1) := by decide +kernel
theorem dX9_hasOut_54 : decode cX9_hasOut 54 = .ok (.istore_n 3, 1) := by decide +kernel
theorem dX9_hasOut_55 : decode cX9_hasOut 55 = .ok (.iinc 4 1, 3) := by decide +kernel
theorem dX9_hasOut_58 : decode cX9_hasOut 58 = .ok (.goto (-53), 3) := by decide +kernel
theorem dX9_hasOut_61 : decode cX9_hasOut 61 = .ok (.iload_n 3, 1) := by decide +kernel
theorem dX9_hasOut_62 : decode cX9_hasOut 62 = .ok (.ireturn, 1) := by decide +kernel
theorem dX9_hasTried_0 : decode cX9_hasTried 0 = .ok (.iconst 0, 1) := by decide +kernel
theorem dX9_hasTried_1 : decode cX9_hasTried 1 = .ok (.istore_n 3, 1) := by decide +kernel
theorem dX9_hasTried_2 : decode cX9_hasTried 2 = .ok (.iconst 0, 1) := by decide +kernel
theorem dX9_hasTried_3 : decode cX9_hasTried 3 = .ok (.istore 4, 2) := by decide +kernel
theorem dX9_hasTried_5 : decode cX9_hasTried 5 = .ok (.iload 4, 2) := by decide +kernel
theorem dX9_hasTried_7 : decode cX9_hasTried 7 = .ok (.aload_n 0, 1) := by decide +kernel
theorem dX9_hasTried_8 : decode cX9_hasTried 8 = .ok (.getfield 217, 3) := by decide +kernel
theorem dX9_hasTried_11 : decode cX9_hasTried 11 = .ok (.if_icmp .ge 57, 3) := by decide +kernel
theorem dX9_hasTried_14 : decode cX9_hasTried 14 = .ok (.iload_n 3, 1) := by decide +kernel
theorem dX9_hasTried_15 : decode cX9_hasTried 15 = .ok (.ifCond .ne 41, 3) := by decide +kernel
theorem dX9_hasTried_18 : decode cX9_hasTried 18 = .ok (.aload_n 0, 1) := by decide +kernel
theorem dX9_hasTried_19 : decode cX9_hasTried 19 = .ok (.getfield 99, 3) := by decide +kernel
theorem dX9_hasTried_22 : decode cX9_hasTried 22 = .ok (.iload 4, 2) := by decide +kernel
theorem dX9_hasTried_24 : decode cX9_hasTried 24 = .ok (.iaload, 1) := by decide +kernel
theorem dX9_hasTried_25 : decode cX9_hasTried 25 = .ok (.iload_n 1, 1) := by decide +kernel
theorem dX9_hasTried_26 : decode cX9_hasTried 26 = .ok (.if_icmp .ne 34, 3) := by decide +kernel
theorem dX9_hasTried_29 : decode cX9_hasTried 29 = .ok (.aload_n 0, 1) := by decide +kernel
theorem dX9_hasTried_30 : decode cX9_hasTried 30 = .ok (.getfield 102, 3) := by decide +kernel
theorem dX9_hasTried_33 : decode cX9_hasTried 33 = .ok (.iload 4, 2) := by decide +kernel
theorem dX9_hasTried_35 : decode cX9_hasTried 35 = .ok (.iaload, 1) := by decide +kernel
theorem dX9_hasTried_36 : decode cX9_hasTried 36 = .ok (.aload_n 0, 1) := by decide +kernel
theorem dX9_hasTried_37 : decode cX9_hasTried 37 = .ok (.getfield 141, 3) := by decide +kernel
theorem dX9_hasTried_40 : decode cX9_hasTried 40 = .ok (.iload_n 1, 1) := by decide +kernel
theorem dX9_hasTried_41 : decode cX9_hasTried 41 = .ok (.iaload, 1) := by decide +kernel
theorem dX9_hasTried_42 : decode cX9_hasTried 42 = .ok (.if_icmp .ne 18, 3) := by decide +kernel
theorem dX9_hasTried_45 : decode cX9_hasTried 45 = .ok (.aload_n 0, 1) := by decide +kernel
theorem dX9_hasTried_46 : decode cX9_hasTried 46 = .ok (.getfield 111, 3) := by decide +kernel
theorem dX9_hasTried_49 : decode cX9_hasTried 49 = .ok (.iload 4, 2) := by decide +kernel
theorem dX9_hasTried_51 : decode cX9_hasTried 51 = .ok (.iaload, 1) := by decide +kernel
theorem dX9_hasTried_52 : decode cX9_hasTried 52 = .ok (.iload_n 2, 1) := by decide +kernel
theorem dX9_hasTried_53 : decode cX9_hasTried 53 = .ok (.if_icmp .ne 7, 3) := by decide +kernel
theorem dX9_hasTried_56 : decode cX9_hasTried 56 = .ok (.iconst 1, 1) := by decide +kernel
theorem dX9_hasTried_57 : decode cX9_hasTried 57 = .ok (.goto 4, 3) := by decide +kernel
theorem dX9_hasTried_60 : decode cX9_hasTried 60 = .ok (.iconst 0, 1) := by decide +kernel
theorem dX9_hasTried_61 : decode cX9_hasTried 61 = .ok (.istore_n 3, 1) := by decide +kernel
theorem dX9_hasTried_62 : decode cX9_hasTried 62 = .ok (.iinc 4 1, 3) := by decide +kernel
theorem dX9_hasTried_65 : decode cX9_hasTried 65 = .ok (.goto (-60), 3) := by decide +kernel
theorem dX9_hasTried_68 : decode cX9_hasTried 68 = .ok (.iload_n 3, 1) := by decide +kernel
theorem dX9_hasTried_69 : decode cX9_hasTried 69 = .ok (.ireturn, 1) := by decide +kernel
theorem dX9_canChoose_0 : decode cX9_canChoose 0 = .ok (.aload_n 0, 1) := by decide +kernel
theorem dX9_canChoose_1 : decode cX9_canChoose 1 = .ok (.getfield 69, 3) := by decide +kernel
theorem dX9_canChoose_4 : decode cX9_canChoose 4 = .ok (.bipush 12, 2) := by decide +kernel
theorem dX9_canChoose_6 : decode cX9_canChoose 6 = .ok (.iload_n 1, 1) := by decide +kernel
theorem dX9_canChoose_7 : decode cX9_canChoose 7 = .ok (.imul, 1) := by decide +kernel
theorem dX9_canChoose_8 : decode cX9_canChoose 8 = .ok (.iload_n 3, 1) := by decide +kernel
theorem dX9_canChoose_9 : decode cX9_canChoose 9 = .ok (.iadd, 1) := by decide +kernel
theorem dX9_canChoose_10 : decode cX9_canChoose 10 = .ok (.iaload, 1) := by decide +kernel
theorem dX9_canChoose_11 : decode cX9_canChoose 11 = .ok (.istore 4, 2) := by decide +kernel
theorem dX9_canChoose_13 : decode cX9_canChoose 13 = .ok (.aload_n 0, 1) := by decide +kernel
theorem dX9_canChoose_14 : decode cX9_canChoose 14 = .ok (.getfield 26, 3) := by decide +kernel
theorem dX9_canChoose_17 : decode cX9_canChoose 17 = .ok (.iload_n 3, 1) := by decide +kernel
theorem dX9_canChoose_18 : decode cX9_canChoose 18 = .ok (.iaload, 1) := by decide +kernel
theorem dX9_canChoose_19 : decode cX9_canChoose 19 = .ok (.iload_n 2, 1) := by decide +kernel
theorem dX9_canChoose_20 : decode cX9_canChoose 20 = .ok (.if_icmp .ne 35, 3) := by decide +kernel
theorem dX9_canChoose_23 : decode cX9_canChoose 23 = .ok (.aload_n 0, 1) := by decide +kernel
theorem dX9_canChoose_24 : decode cX9_canChoose 24 = .ok (.iload_n 3, 1) := by decide +kernel
theorem dX9_canChoose_25 : decode cX9_canChoose 25 = .ok (.invokevirtual 260, 3) := by decide +kernel
theorem dX9_canChoose_28 : decode cX9_canChoose 28 = .ok (.ifCond .ne 27, 3) := by decide +kernel
theorem dX9_canChoose_31 : decode cX9_canChoose 31 = .ok (.iload 4, 2) := by decide +kernel
theorem dX9_canChoose_33 : decode cX9_canChoose 33 = .ok (.ifCond .eq 18, 3) := by decide +kernel
theorem dX9_canChoose_36 : decode cX9_canChoose 36 = .ok (.iload 4, 2) := by decide +kernel
theorem dX9_canChoose_38 : decode cX9_canChoose 38 = .ok (.iconst 2, 1) := by decide +kernel
theorem dX9_canChoose_39 : decode cX9_canChoose 39 = .ok (.if_icmp .ne 16, 3) := by decide +kernel
theorem dX9_canChoose_42 : decode cX9_canChoose 42 = .ok (.aload_n 0, 1) := by decide +kernel
theorem dX9_canChoose_43 : decode cX9_canChoose 43 = .ok (.iload_n 1, 1) := by decide +kernel
theorem dX9_canChoose_44 : decode cX9_canChoose 44 = .ok (.iload_n 3, 1) := by decide +kernel
theorem dX9_canChoose_45 : decode cX9_canChoose 45 = .ok (.invokevirtual 263, 3) := by decide +kernel
theorem dX9_canChoose_48 : decode cX9_canChoose 48 = .ok (.ifCond .ne 7, 3) := by decide +kernel
theorem dX9_canChoose_51 : decode cX9_canChoose 51 = .ok (.iconst 1, 1) := by decide +kernel
theorem dX9_canChoose_52 : decode cX9_canChoose 52 = .ok (.goto 4, 3) := by decide +kernel
theorem dX9_canChoose_55 : decode cX9_canChoose 55 = .ok (.iconst 0, 1) := by decide +kernel
theorem dX9_canChoose_56 : decode cX9_canChoose 56 = .ok (.ireturn, 1) := by decide +kernel
theorem dX9_burden_0 : decode cX9_burden 0 = .ok (.iload_n 1, 1) := by decide +kernel
theorem dX9_burden_1 : decode cX9_burden 1 = .ok (.sipush 400, 3) := by decide +kernel
theorem dX9_burden_4 : decode cX9_burden 4 = .ok (.if_icmp .ge 17, 3) := by decide +kernel
theorem dX9_burden_7 : decode cX9_burden 7 = .ok (.aload_n 0, 1) := by decide +kernel
theorem dX9_burden_8 : decode cX9_burden 8 = .ok (.getfield 29, 3) := by decide +kernel
theorem dX9_burden_11 : decode cX9_burden 11 = .ok (.aload_n 0, 1) := by decide +kernel
theorem dX9_burden_12 : decode cX9_burden 12 = .ok (.getfield 111, 3) := by decide +kernel
theorem dX9_burden_15 : decode cX9_burden 15 = .ok (.iload_n 1, 1) := by decide +kernel
theorem dX9_burden_16 : decode cX9_burden 16 = .ok (.iaload, 1) := by decide +kernel
theorem dX9_burden_17 : decode cX9_burden 17 = .ok (.iaload, 1) := by decide +kernel
theorem dX9_burden_18 : decode cX9_burden 18 = .ok (.goto 4, 3) := by decide +kernel
theorem dX9_burden_21 : decode cX9_burden 21 = .ok (.iconst 0, 1) := by decide +kernel
theorem dX9_burden_22 : decode cX9_burden 22 = .ok (.istore 4, 2) := by decide +kernel
theorem dX9_burden_24 : decode cX9_burden 24 = .ok (.bipush 100, 2) := by decide +kernel
theorem dX9_burden_26 : decode cX9_burden 26 = .ok (.aload_n 0, 1) := by decide +kernel
theorem dX9_burden_27 : decode cX9_burden 27 = .ok (.getfield 47, 3) := by decide +kernel
theorem dX9_burden_30 : decode cX9_burden 30 = .ok (.iload_n 3, 1) := by decide +kernel
theorem dX9_burden_31 : decode cX9_burden 31 = .ok (.iaload, 1) := by decide +kernel
theorem dX9_burden_32 : decode cX9_burden 32 = .ok (.aload_n 0, 1) := by decide +kernel
theorem dX9_burden_33 : decode cX9_burden 33 = .ok (.getfield 78, 3) := by decide +kernel
theorem dX9_burden_36 : decode cX9_burden 36 = .ok (.bipush 12, 2) := by decide +kernel
theorem dX9_burden_38 : decode cX9_burden 38 = .ok (.iload_n 2, 1) := by decide +kernel
theorem dX9_burden_39 : decode cX9_burden 39 = .ok (.imul, 1) := by decide +kernel
theorem dX9_burden_40 : decode cX9_burden 40 = .ok (.iload_n 3, 1) := by decide +kernel
theorem dX9_burden_41 : decode cX9_burden 41 = .ok (.iadd, 1) := by decide +kernel
theorem dX9_burden_42 : decode cX9_burden 42 = .ok (.iaload, 1) := by decide +kernel
theorem dX9_burden_43 : decode cX9_burden 43 = .ok (.iadd, 1) := by decide +kernel
theorem dX9_burden_44 : decode cX9_burden 44 = .ok (.imul, 1) := by decide +kernel
theorem dX9_burden_45 : decode cX9_burden 45 = .ok (.aload_n 0, 1) := by decide +kernel
theorem dX9_burden_46 : decode cX9_burden 46 = .ok (.getfield 32, 3) := by decide +kernel
theorem dX9_burden_49 : decode cX9_burden 49 = .ok (.iload_n 3, 1) := by decide +kernel
theorem dX9_burden_50 : decode cX9_burden 50 = .ok (.iaload, 1) := by decide +kernel
theorem dX9_burden_51 : decode cX9_burden 51 = .ok (.idiv, 1) := by decide +kernel
theorem dX9_burden_52 : decode cX9_burden 52 = .ok (.iload 4, 2) := by decide +kernel
theorem dX9_burden_54 : decode cX9_burden 54 = .ok (.aload_n 0, 1) := by decide +kernel
theorem dX9_burden_55 : decode cX9_burden 55 = .ok (.getfield 29, 3) := by decide +kernel
theorem dX9_burden_58 : decode cX9_burden 58 = .ok (.iload_n 3, 1) := by decide +kernel
theorem dX9_burden_59 : decode cX9_burden 59 = .ok (.iaload, 1) := by decide +kernel
theorem dX9_burden_60 : decode cX9_burden 60 = .ok (.if_icmp .ne 7, 3) := by decide +kernel
theorem dX9_burden_63 : decode cX9_burden 63 = .ok (.iconst 0, 1) := by decide +kernel
theorem dX9_burden_64 : decode cX9_burden 64 = .ok (.goto 6, 3) := by decide +kernel
theorem dX9_burden_67 : decode cX9_burden 67 = .ok (.sipush 150, 3) := by decide +kernel
theorem dX9_burden_70 : decode cX9_burden 70 = .ok (.iadd, 1) := by decide +kernel
theorem dX9_burden_71 : decode cX9_burden 71 = .ok (.ireturn, 1) := by decide +kernel
theorem dX9_chosen_0 : decode cX9_chosen 0 = .ok (.iconst (-1), 1) := by decide +kernel
theorem dX9_chosen_1 : decode cX9_chosen 1 = .ok (.istore 5, 2) := by decide +kernel
theorem dX9_chosen_3 : decode cX9_chosen 3 = .ok (.iconst 0, 1) := by decide +kernel
theorem dX9_chosen_4 : decode cX9_chosen 4 = .ok (.istore 6, 2) := by decide +kernel
theorem dX9_chosen_6 : decode cX9_chosen 6 = .ok (.iconst 0, 1) := by decide +kernel
theorem dX9_chosen_7 : decode cX9_chosen 7 = .ok (.istore 7, 2) := by decide +kernel
theorem dX9_chosen_9 : decode cX9_chosen 9 = .ok (.iload 7, 2) := by decide +kernel
theorem dX9_chosen_11 : decode cX9_chosen 11 = .ok (.aload_n 0, 1) := by decide +kernel
theorem dX9_chosen_12 : decode cX9_chosen 12 = .ok (.getfield 193, 3) := by decide +kernel
theorem dX9_chosen_15 : decode cX9_chosen 15 = .ok (.if_icmp .ge 135, 3) := by decide +kernel
theorem dX9_chosen_18 : decode cX9_chosen 18 = .ok (.aload_n 0, 1) := by decide +kernel
theorem dX9_chosen_19 : decode cX9_chosen 19 = .ok (.iload_n 2, 1) := by decide +kernel
theorem dX9_chosen_20 : decode cX9_chosen 20 = .ok (.iload_n 3, 1) := by decide +kernel
theorem dX9_chosen_21 : decode cX9_chosen 21 = .ok (.iload 7, 2) := by decide +kernel
theorem dX9_chosen_23 : decode cX9_chosen 23 = .ok (.invokevirtual 266, 3) := by decide +kernel
theorem dX9_chosen_26 : decode cX9_chosen 26 = .ok (.ifCond .eq 118, 3) := by decide +kernel
theorem dX9_chosen_29 : decode cX9_chosen 29 = .ok (.aload_n 0, 1) := by decide +kernel
theorem dX9_chosen_30 : decode cX9_chosen 30 = .ok (.iload_n 1, 1) := by decide +kernel
theorem dX9_chosen_31 : decode cX9_chosen 31 = .ok (.iload 7, 2) := by decide +kernel
theorem dX9_chosen_33 : decode cX9_chosen 33 = .ok (.invokevirtual 269, 3) := by decide +kernel
theorem dX9_chosen_36 : decode cX9_chosen 36 = .ok (.ifCond .eq 7, 3) := by decide +kernel
theorem dX9_chosen_39 : decode cX9_chosen 39 = .ok (.iconst 2, 1) := by decide +kernel
theorem dX9_chosen_40 : decode cX9_chosen 40 = .ok (.goto 4, 3) := by decide +kernel
theorem dX9_chosen_43 : decode cX9_chosen 43 = .ok (.iconst 0, 1) := by decide +kernel
theorem dX9_chosen_44 : decode cX9_chosen 44 = .ok (.iload 4, 2) := by decide +kernel
theorem dX9_chosen_46 : decode cX9_chosen 46 = .ok (.iconst (-1), 1) := by decide +kernel
theorem dX9_chosen_47 : decode cX9_chosen 47 = .ok (.if_icmp .eq 15, 3) := by decide +kernel
theorem dX9_chosen_50 : decode cX9_chosen 50 = .ok (.aload_n 0, 1) := by decide +kernel
theorem dX9_chosen_51 : decode cX9_chosen 51 = .ok (.getfield 41, 3) := by decide +kernel
theorem dX9_chosen_54 : decode cX9_chosen 54 = .ok (.iload 7, 2) := by decide +kernel
theorem dX9_chosen_56 : decode cX9_chosen 56 = .ok (.iaload, 1) := by decide +kernel
theorem dX9_chosen_57 : decode cX9_chosen 57 = .ok (.iload 4, 2) := by decide +kernel
theorem dX9_chosen_59 : decode cX9_chosen 59 = .ok (.if_icmp .ne 7, 3) := by decide +kernel
theorem dX9_chosen_62 : decode cX9_chosen 62 = .ok (.iconst 0, 1) := by decide +kernel
theorem dX9_chosen_63 : decode cX9_chosen 63 = .ok (.goto 4, 3) := by decide +kernel
theorem dX9_chosen_66 : decode cX9_chosen 66 = .ok (.iconst 1, 1) := by decide +kernel
theorem dX9_chosen_67 : decode cX9_chosen 67 = .ok (.iadd, 1) := by decide +kernel
theorem dX9_chosen_68 : decode cX9_chosen 68 = .ok (.istore 8, 2) := by decide +kernel
theorem dX9_chosen_70 : decode cX9_chosen 70 = .ok (.iload 5, 2) := by decide +kernel
theorem dX9_chosen_72 : decode cX9_chosen 72 = .ok (.iconst (-1), 1) := by decide +kernel
theorem dX9_chosen_73 : decode cX9_chosen 73 = .ok (.if_icmp .eq 36, 3) := by decide +kernel
theorem dX9_chosen_76 : decode cX9_chosen 76 = .ok (.iload 8, 2) := by decide +kernel
theorem dX9_chosen_78 : decode cX9_chosen 78 = .ok (.iload 6, 2) := by decide +kernel
theorem dX9_chosen_80 : decode cX9_chosen 80 = .ok (.if_icmp .lt 29, 3) := by decide +kernel
theorem dX9_chosen_83 : decode cX9_chosen 83 = .ok (.iload 8, 2) := by decide +kernel
theorem dX9_chosen_85 : decode cX9_chosen 85 = .ok (.iload 6, 2) := by decide +kernel
theorem dX9_chosen_87 : decode cX9_chosen 87 = .ok (.if_icmp .ne 26, 3) := by decide +kernel
theorem dX9_chosen_90 : decode cX9_chosen 90 = .ok (.aload_n 0, 1) := by decide +kernel
theorem dX9_chosen_91 : decode cX9_chosen 91 = .ok (.iload_n 1, 1) := by decide +kernel
theorem dX9_chosen_92 : decode cX9_chosen 92 = .ok (.iload_n 2, 1) := by decide +kernel
theorem dX9_chosen_93 : decode cX9_chosen 93 = .ok (.iload 7, 2) := by decide +kernel
theorem dX9_chosen_95 : decode cX9_chosen 95 = .ok (.invokevirtual 272, 3) := by decide +kernel
theorem dX9_chosen_98 : decode cX9_chosen 98 = .ok (.aload_n 0, 1) := by decide +kernel
theorem dX9_chosen_99 : decode cX9_chosen 99 = .ok (.iload_n 1, 1) := by decide +kernel
theorem dX9_chosen_100 : decode cX9_chosen 100 = .ok (.iload_n 2, 1) := by decide +kernel
theorem dX9_chosen_101 : decode cX9_chosen 101 = .ok (.iload 5, 2) := by decide +kernel
theorem dX9_chosen_103 : decode cX9_chosen 103 = .ok (.invokevirtual 272, 3) := by decide +kernel
theorem dX9_chosen_106 : decode cX9_chosen 106 = .ok (.if_icmp .ge 7, 3) := by decide +kernel
theorem dX9_chosen_109 : decode cX9_chosen 109 = .ok (.iconst 1, 1) := by decide +kernel
theorem dX9_chosen_110 : decode cX9_chosen 110 = .ok (.goto 4, 3) := by decide +kernel
theorem dX9_chosen_113 : decode cX9_chosen 113 = .ok (.iconst 0, 1) := by decide +kernel
theorem dX9_chosen_114 : decode cX9_chosen 114 = .ok (.istore 9, 2) := by decide +kernel
theorem dX9_chosen_116 : decode cX9_chosen 116 = .ok (.iload 9, 2) := by decide +kernel
theorem dX9_chosen_118 : decode cX9_chosen 118 = .ok (.ifCond .eq 8, 3) := by decide +kernel
theorem dX9_chosen_121 : decode cX9_chosen 121 = .ok (.iload 7, 2) := by decide +kernel
theorem dX9_chosen_123 : decode cX9_chosen 123 = .ok (.goto 5, 3) := by decide +kernel
theorem dX9_chosen_126 : decode cX9_chosen 126 = .ok (.iload 5, 2) := by decide +kernel
theorem dX9_chosen_128 : decode cX9_chosen 128 = .ok (.istore 5, 2) := by decide +kernel
theorem dX9_chosen_130 : decode cX9_chosen 130 = .ok (.iload 9, 2) := by decide +kernel
theorem dX9_chosen_132 : decode cX9_chosen 132 = .ok (.ifCond .eq 8, 3) := by decide +kernel
theorem dX9_chosen_135 : decode cX9_chosen 135 = .ok (.iload 8, 2) := by decide +kernel
theorem dX9_chosen_137 : decode cX9_chosen 137 = .ok (.goto 5, 3) := by decide +kernel
theorem dX9_chosen_140 : decode cX9_chosen 140 = .ok (.iload 6, 2) := by decide +kernel
theorem dX9_chosen_142 : decode cX9_chosen 142 = .ok (.istore 6, 2) := by decide +kernel
theorem dX9_chosen_144 : decode cX9_chosen 144 = .ok (.iinc 7 1, 3) := by decide +kernel
theorem dX9_chosen_147 : decode cX9_chosen 147 = .ok (.goto (-138), 3) := by decide +kernel
theorem dX9_chosen_150 : decode cX9_chosen 150 = .ok (.iload 5, 2) := by decide +kernel
theorem dX9_chosen_152 : decode cX9_chosen 152 = .ok (.ireturn, 1) := by decide +kernel
theorem dX9_callerOf_0 : decode cX9_callerOf 0 = .ok (.iload_n 1, 1) := by decide +kernel
theorem dX9_callerOf_1 : decode cX9_callerOf 1 = .ok (.sipush 400, 3) := by decide +kernel
theorem dX9_callerOf_4 : decode cX9_callerOf 4 = .ok (.if_icmp .ge 12, 3) := by decide +kernel
theorem dX9_callerOf_7 : decode cX9_callerOf 7 = .ok (.aload_n 0, 1) := by decide +kernel
theorem dX9_callerOf_8 : decode cX9_callerOf 8 = .ok (.getfield 105, 3) := by decide +kernel
theorem dX9_callerOf_11 : decode cX9_callerOf 11 = .ok (.iload_n 1, 1) := by decide +kernel
theorem dX9_callerOf_12 : decode cX9_callerOf 12 = .ok (.iaload, 1) := by decide +kernel
theorem dX9_callerOf_13 : decode cX9_callerOf 13 = .ok (.goto 28, 3) := by decide +kernel
theorem dX9_callerOf_16 : decode cX9_callerOf 16 = .ok (.iload_n 1, 1) := by decide +kernel
theorem dX9_callerOf_17 : decode cX9_callerOf 17 = .ok (.sipush 440, 3) := by decide +kernel
theorem dX9_callerOf_20 : decode cX9_callerOf 20 = .ok (.if_icmp .ge 8, 3) := by decide +kernel
theorem dX9_callerOf_23 : decode cX9_callerOf 23 = .ok (.bipush 6, 2) := by decide +kernel
theorem dX9_callerOf_25 : decode cX9_callerOf 25 = .ok (.goto 16, 3) := by decide +kernel
theorem dX9_callerOf_28 : decode cX9_callerOf 28 = .ok (.aload_n 0, 1) := by decide +kernel
theorem dX9_callerOf_29 : decode cX9_callerOf 29 = .ok (.getfield 177, 3) := by decide +kernel
theorem dX9_callerOf_32 : decode cX9_callerOf 32 = .ok (.iload_n 1, 1) := by decide +kernel
theorem dX9_callerOf_33 : decode cX9_callerOf 33 = .ok (.sipush 400, 3) := by decide +kernel
theorem dX9_callerOf_36 : decode cX9_callerOf 36 = .ok (.isub, 1) := by decide +kernel
theorem dX9_callerOf_37 : decode cX9_callerOf 37 = .ok (.bipush 40, 2) := by decide +kernel
theorem dX9_callerOf_39 : decode cX9_callerOf 39 = .ok (.isub, 1) := by decide +kernel
theorem dX9_callerOf_40 : decode cX9_callerOf 40 = .ok (.iaload, 1) := by decide +kernel
theorem dX9_callerOf_41 : decode cX9_callerOf 41 = .ok (.ireturn, 1) := by decide +kernel
theorem dX9_calledBy_0 : decode cX9_calledBy 0 = .ok (.iload_n 1, 1) := by decide +kernel
theorem dX9_calledBy_1 : decode cX9_calledBy 1 = .ok (.sipush 400, 3) := by decide +kernel
theorem dX9_calledBy_4 : decode cX9_calledBy 4 = .ok (.if_icmp .ge 26, 3) := by decide +kernel
theorem dX9_calledBy_7 : decode cX9_calledBy 7 = .ok (.aload_n 0, 1) := by decide +kernel
theorem dX9_calledBy_8 : decode cX9_calledBy 8 = .ok (.getfield 16, 3) := by decide +kernel
theorem dX9_calledBy_11 : decode cX9_calledBy 11 = .ok (.iconst 4, 1) := by decide +kernel
theorem dX9_calledBy_12 : decode cX9_calledBy 12 = .ok (.aload_n 0, 1) := by decide +kernel
theorem dX9_calledBy_13 : decode cX9_calledBy 13 = .ok (.getfield 105, 3) := by decide +kernel
theorem dX9_calledBy_16 : decode cX9_calledBy 16 = .ok (.iload_n 1, 1) := by decide +kernel
theorem dX9_calledBy_17 : decode cX9_calledBy 17 = .ok (.iaload, 1) := by decide +kernel
theorem dX9_calledBy_18 : decode cX9_calledBy 18 = .ok (.imul, 1) := by decide +kernel
theorem dX9_calledBy_19 : decode cX9_calledBy 19 = .ok (.aload_n 0, 1) := by decide +kernel
theorem dX9_calledBy_20 : decode cX9_calledBy 20 = .ok (.getfield 141, 3) := by decide +kernel
theorem dX9_calledBy_23 : decode cX9_calledBy 23 = .ok (.iload_n 1, 1) := by decide +kernel
theorem dX9_calledBy_24 : decode cX9_calledBy 24 = .ok (.iaload, 1) := by decide +kernel
theorem dX9_calledBy_25 : decode cX9_calledBy 25 = .ok (.iadd, 1) := by decide +kernel
theorem dX9_calledBy_26 : decode cX9_calledBy 26 = .ok (.iaload, 1) := by decide +kernel
theorem dX9_calledBy_27 : decode cX9_calledBy 27 = .ok (.goto 36, 3) := by decide +kernel
theorem dX9_calledBy_30 : decode cX9_calledBy 30 = .ok (.iload_n 1, 1) := by decide +kernel
theorem dX9_calledBy_31 : decode cX9_calledBy 31 = .ok (.sipush 440, 3) := by decide +kernel
theorem dX9_calledBy_34 : decode cX9_calledBy 34 = .ok (.if_icmp .ge 16, 3) := by decide +kernel
theorem dX9_calledBy_37 : decode cX9_calledBy 37 = .ok (.aload_n 0, 1) := by decide +kernel
theorem dX9_calledBy_38 : decode cX9_calledBy 38 = .ok (.getfield 156, 3) := by decide +kernel
theorem dX9_calledBy_41 : decode cX9_calledBy 41 = .ok (.iload_n 1, 1) := by decide +kernel
theorem dX9_calledBy_42 : decode cX9_calledBy 42 = .ok (.sipush 400, 3) := by decide +kernel
theorem dX9_calledBy_45 : decode cX9_calledBy 45 = .ok (.isub, 1) := by decide +kernel
theorem dX9_calledBy_46 : decode cX9_calledBy 46 = .ok (.iaload, 1) := by decide +kernel
theorem dX9_calledBy_47 : decode cX9_calledBy 47 = .ok (.goto 16, 3) := by decide +kernel
theorem dX9_calledBy_50 : decode cX9_calledBy 50 = .ok (.aload_n 0, 1) := by decide +kernel
theorem dX9_calledBy_51 : decode cX9_calledBy 51 = .ok (.getfield 180, 3) := by decide +kernel
theorem dX9_calledBy_54 : decode cX9_calledBy 54 = .ok (.iload_n 1, 1) := by decide +kernel
theorem dX9_calledBy_55 : decode cX9_calledBy 55 = .ok (.sipush 400, 3) := by decide +kernel
theorem dX9_calledBy_58 : decode cX9_calledBy 58 = .ok (.isub, 1) := by decide +kernel
theorem dX9_calledBy_59 : decode cX9_calledBy 59 = .ok (.bipush 40, 2) := by decide +kernel
theorem dX9_calledBy_61 : decode cX9_calledBy 61 = .ok (.isub, 1) := by decide +kernel
theorem dX9_calledBy_62 : decode cX9_calledBy 62 = .ok (.iaload, 1) := by decide +kernel
theorem dX9_calledBy_63 : decode cX9_calledBy 63 = .ok (.ireturn, 1) := by decide +kernel
theorem dX9_isSafeOf_0 : decode cX9_isSafeOf 0 = .ok (.iload_n 1, 1) := by decide +kernel
theorem dX9_isSafeOf_1 : decode cX9_isSafeOf 1 = .ok (.sipush 400, 3) := by decide +kernel
theorem dX9_isSafeOf_4 : decode cX9_isSafeOf 4 = .ok (.if_icmp .ge 26, 3) := by decide +kernel
theorem dX9_isSafeOf_7 : decode cX9_isSafeOf 7 = .ok (.aload_n 0, 1) := by decide +kernel
theorem dX9_isSafeOf_8 : decode cX9_isSafeOf 8 = .ok (.getfield 19, 3) := by decide +kernel
theorem dX9_isSafeOf_11 : decode cX9_isSafeOf 11 = .ok (.iconst 4, 1) := by decide +kernel
theorem dX9_isSafeOf_12 : decode cX9_isSafeOf 12 = .ok (.aload_n 0, 1) := by decide +kernel
theorem dX9_isSafeOf_13 : decode cX9_isSafeOf 13 = .ok (.getfield 105, 3) := by decide +kernel
theorem dX9_isSafeOf_16 : decode cX9_isSafeOf 16 = .ok (.iload_n 1, 1) := by decide +kernel
theorem dX9_isSafeOf_17 : decode cX9_isSafeOf 17 = .ok (.iaload, 1) := by decide +kernel
theorem dX9_isSafeOf_18 : decode cX9_isSafeOf 18 = .ok (.imul, 1) := by decide +kernel
theorem dX9_isSafeOf_19 : decode cX9_isSafeOf 19 = .ok (.aload_n 0, 1) := by decide +kernel
theorem dX9_isSafeOf_20 : decode cX9_isSafeOf 20 = .ok (.getfield 141, 3) := by decide +kernel
theorem dX9_isSafeOf_23 : decode cX9_isSafeOf 23 = .ok (.iload_n 1, 1) := by decide +kernel
theorem dX9_isSafeOf_24 : decode cX9_isSafeOf 24 = .ok (.iaload, 1) := by decide +kernel
theorem dX9_isSafeOf_25 : decode cX9_isSafeOf 25 = .ok (.iadd, 1) := by decide +kernel
theorem dX9_isSafeOf_26 : decode cX9_isSafeOf 26 = .ok (.baload, 1) := by decide +kernel
theorem dX9_isSafeOf_27 : decode cX9_isSafeOf 27 = .ok (.goto 28, 3) := by decide +kernel
theorem dX9_isSafeOf_30 : decode cX9_isSafeOf 30 = .ok (.iload_n 1, 1) := by decide +kernel
theorem dX9_isSafeOf_31 : decode cX9_isSafeOf 31 = .ok (.sipush 440, 3) := by decide +kernel
theorem dX9_isSafeOf_34 : decode cX9_isSafeOf 34 = .ok (.if_icmp .ge 20, 3) := by decide +kernel
theorem dX9_isSafeOf_37 : decode cX9_isSafeOf 37 = .ok (.aload_n 0, 1) := by decide +kernel
theorem dX9_isSafeOf_38 : decode cX9_isSafeOf 38 = .ok (.getfield 159, 3) := by decide +kernel
theorem dX9_isSafeOf_41 : decode cX9_isSafeOf 41 = .ok (.iload_n 1, 1) := by decide +kernel
theorem dX9_isSafeOf_42 : decode cX9_isSafeOf 42 = .ok (.sipush 400, 3) := by decide +kernel
theorem dX9_isSafeOf_45 : decode cX9_isSafeOf 45 = .ok (.isub, 1) := by decide +kernel
theorem dX9_isSafeOf_46 : decode cX9_isSafeOf 46 = .ok (.baload, 1) := by decide +kernel
theorem dX9_isSafeOf_47 : decode cX9_isSafeOf 47 = .ok (.ifCond .eq 7, 3) := by decide +kernel
theorem dX9_isSafeOf_50 : decode cX9_isSafeOf 50 = .ok (.iconst 1, 1) := by decide +kernel
theorem dX9_isSafeOf_51 : decode cX9_isSafeOf 51 = .ok (.goto 4, 3) := by decide +kernel
theorem dX9_isSafeOf_54 : decode cX9_isSafeOf 54 = .ok (.iconst 0, 1) := by decide +kernel
theorem dX9_isSafeOf_55 : decode cX9_isSafeOf 55 = .ok (.ireturn, 1) := by decide +kernel
theorem dX9_wantedVersion_0 : decode cX9_wantedVersion 0 = .ok (.aload_n 0, 1) := by decide +kernel
theorem dX9_wantedVersion_1 : decode cX9_wantedVersion 1 = .ok (.getfield 81, 3) := by decide +kernel
theorem dX9_wantedVersion_4 : decode cX9_wantedVersion 4 = .ok (.iload_n 1, 1) := by decide +kernel
theorem dX9_wantedVersion_5 : decode cX9_wantedVersion 5 = .ok (.iaload, 1) := by decide +kernel
theorem dX9_wantedVersion_6 : decode cX9_wantedVersion 6 = .ok (.ifCond .ne 5, 3) := by decide +kernel
theorem dX9_wantedVersion_9 : decode cX9_wantedVersion 9 = .ok (.iconst (-1), 1) := by decide +kernel
theorem dX9_wantedVersion_10 : decode cX9_wantedVersion 10 = .ok (.ireturn, 1) := by decide +kernel
theorem dX9_wantedVersion_11 : decode cX9_wantedVersion 11 = .ok (.aload_n 0, 1) := by decide +kernel
theorem dX9_wantedVersion_12 : decode cX9_wantedVersion 12 = .ok (.getfield 84, 3) := by decide +kernel
theorem dX9_wantedVersion_15 : decode cX9_wantedVersion 15 = .ok (.iload_n 1, 1) := by decide +kernel
theorem dX9_wantedVersion_16 : decode cX9_wantedVersion 16 = .ok (.dup2, 1) := by decide +kernel
theorem dX9_wantedVersion_17 : decode cX9_wantedVersion 17 = .ok (.iaload, 1) := by decide +kernel
theorem dX9_wantedVersion_18 : decode cX9_wantedVersion 18 = .ok (.iconst 1, 1) := by decide +kernel
theorem dX9_wantedVersion_19 : decode cX9_wantedVersion 19 = .ok (.iadd, 1) := by decide +kernel
theorem dX9_wantedVersion_20 : decode cX9_wantedVersion 20 = .ok (.iastore, 1) := by decide +kernel
theorem dX9_wantedVersion_21 : decode cX9_wantedVersion 21 = .ok (.aload_n 0, 1) := by decide +kernel
theorem dX9_wantedVersion_22 : decode cX9_wantedVersion 22 = .ok (.getfield 84, 3) := by decide +kernel
theorem dX9_wantedVersion_25 : decode cX9_wantedVersion 25 = .ok (.iload_n 1, 1) := by decide +kernel
theorem dX9_wantedVersion_26 : decode cX9_wantedVersion 26 = .ok (.iaload, 1) := by decide +kernel
theorem dX9_wantedVersion_27 : decode cX9_wantedVersion 27 = .ok (.istore_n 2, 1) := by decide +kernel
theorem dX9_wantedVersion_28 : decode cX9_wantedVersion 28 = .ok (.iload_n 2, 1) := by decide +kernel
theorem dX9_wantedVersion_29 : decode cX9_wantedVersion 29 = .ok (.aload_n 0, 1) := by decide +kernel
theorem dX9_wantedVersion_30 : decode cX9_wantedVersion 30 = .ok (.getfield 81, 3) := by decide +kernel
theorem dX9_wantedVersion_33 : decode cX9_wantedVersion 33 = .ok (.iload_n 1, 1) := by decide +kernel
theorem dX9_wantedVersion_34 : decode cX9_wantedVersion 34 = .ok (.iaload, 1) := by decide +kernel
theorem dX9_wantedVersion_35 : decode cX9_wantedVersion 35 = .ok (.imul, 1) := by decide +kernel
theorem dX9_wantedVersion_36 : decode cX9_wantedVersion 36 = .ok (.bipush 100, 2) := by decide +kernel
theorem dX9_wantedVersion_38 : decode cX9_wantedVersion 38 = .ok (.idiv, 1) := by decide +kernel
theorem dX9_wantedVersion_39 : decode cX9_wantedVersion 39 = .ok (.iload_n 2, 1) := by decide +kernel
theorem dX9_wantedVersion_40 : decode cX9_wantedVersion 40 = .ok (.iconst 1, 1) := by decide +kernel
theorem dX9_wantedVersion_41 : decode cX9_wantedVersion 41 = .ok (.isub, 1) := by decide +kernel
theorem dX9_wantedVersion_42 : decode cX9_wantedVersion 42 = .ok (.aload_n 0, 1) := by decide +kernel
theorem dX9_wantedVersion_43 : decode cX9_wantedVersion 43 = .ok (.getfield 81, 3) := by decide +kernel
theorem dX9_wantedVersion_46 : decode cX9_wantedVersion 46 = .ok (.iload_n 1, 1) := by decide +kernel
theorem dX9_wantedVersion_47 : decode cX9_wantedVersion 47 = .ok (.iaload, 1) := by decide +kernel
theorem dX9_wantedVersion_48 : decode cX9_wantedVersion 48 = .ok (.imul, 1) := by decide +kernel
theorem dX9_wantedVersion_49 : decode cX9_wantedVersion 49 = .ok (.bipush 100, 2) := by decide +kernel
theorem dX9_wantedVersion_51 : decode cX9_wantedVersion 51 = .ok (.idiv, 1) := by decide +kernel
theorem dX9_wantedVersion_52 : decode cX9_wantedVersion 52 = .ok (.if_icmp .le 7, 3) := by decide +kernel
theorem dX9_wantedVersion_55 : decode cX9_wantedVersion 55 = .ok (.iconst 1, 1) := by decide +kernel
theorem dX9_wantedVersion_56 : decode cX9_wantedVersion 56 = .ok (.goto 4, 3) := by decide +kernel
theorem dX9_wantedVersion_59 : decode cX9_wantedVersion 59 = .ok (.iconst 0, 1) := by decide +kernel
theorem dX9_wantedVersion_60 : decode cX9_wantedVersion 60 = .ok (.ireturn, 1) := by decide +kernel
theorem dX9_tries_0 : decode cX9_tries 0 = .ok (.aload_n 0, 1) := by decide +kernel
theorem dX9_tries_1 : decode cX9_tries 1 = .ok (.iload_n 1, 1) := by decide +kernel
theorem dX9_tries_2 : decode cX9_tries 2 = .ok (.invokevirtual 276, 3) := by decide +kernel
theorem dX9_tries_5 : decode cX9_tries 5 = .ok (.istore_n 3, 1) := by decide +kernel
theorem dX9_tries_6 : decode cX9_tries 6 = .ok (.aload_n 0, 1) := by decide +kernel
theorem dX9_tries_7 : decode cX9_tries 7 = .ok (.iload_n 1, 1) := by decide +kernel
theorem dX9_tries_8 : decode cX9_tries 8 = .ok (.invokevirtual 280, 3) := by decide +kernel
theorem dX9_tries_11 : decode cX9_tries 11 = .ok (.istore 4, 2) := by decide +kernel
theorem dX9_tries_13 : decode cX9_tries 13 = .ok (.iload_n 2, 1) := by decide +kernel
theorem dX9_tries_14 : decode cX9_tries 14 = .ok (.ifCond .ne 60, 3) := by decide +kernel
theorem dX9_tries_17 : decode cX9_tries 17 = .ok (.aload_n 0, 1) := by decide +kernel
theorem dX9_tries_18 : decode cX9_tries 18 = .ok (.getfield 56, 3) := by decide +kernel
theorem dX9_tries_21 : decode cX9_tries 21 = .ok (.iload_n 3, 1) := by decide +kernel
theorem dX9_tries_22 : decode cX9_tries 22 = .ok (.aload_n 0, 1) := by decide +kernel
theorem dX9_tries_23 : decode cX9_tries 23 = .ok (.getfield 56, 3) := by decide +kernel
theorem dX9_tries_26 : decode cX9_tries 26 = .ok (.iload_n 3, 1) := by decide +kernel
theorem dX9_tries_27 : decode cX9_tries 27 = .ok (.iaload, 1) := by decide +kernel
theorem dX9_tries_28 : decode cX9_tries 28 = .ok (.aload_n 0, 1) := by decide +kernel
theorem dX9_tries_29 : decode cX9_tries 29 = .ok (.getfield 53, 3) := by decide +kernel
theorem dX9_tries_32 : decode cX9_tries 32 = .ok (.iload_n 3, 1) := by decide +kernel
theorem dX9_tries_33 : decode cX9_tries 33 = .ok (.iaload, 1) := by decide +kernel
theorem dX9_tries_34 : decode cX9_tries 34 = .ok (.iadd, 1) := by decide +kernel
theorem dX9_tries_35 : decode cX9_tries 35 = .ok (.sipush 1000, 3) := by decide +kernel
theorem dX9_tries_38 : decode cX9_tries 38 = .ok (.if_icmp .le 9, 3) := by decide +kernel
theorem dX9_tries_41 : decode cX9_tries 41 = .ok (.sipush 1000, 3) := by decide +kernel
theorem dX9_tries_44 : decode cX9_tries 44 = .ok (.goto 16, 3) := by decide +kernel
theorem dX9_tries_47 : decode cX9_tries 47 = .ok (.aload_n 0, 1) := by decide +kernel
theorem dX9_tries_48 : decode cX9_tries 48 = .ok (.getfield 56, 3) := by decide +kernel
theorem dX9_tries_51 : decode cX9_tries 51 = .ok (.iload_n 3, 1) := by decide +kernel
theorem dX9_tries_52 : decode cX9_tries 52 = .ok (.iaload, 1) := by decide +kernel
theorem dX9_tries_53 : decode cX9_tries 53 = .ok (.aload_n 0, 1) := by decide +kernel
theorem dX9_tries_54 : decode cX9_tries 54 = .ok (.getfield 53, 3) := by decide +kernel
theorem dX9_tries_57 : decode cX9_tries 57 = .ok (.iload_n 3, 1) := by decide +kernel
theorem dX9_tries_58 : decode cX9_tries 58 = .ok (.iaload, 1) := by decide +kernel
theorem dX9_tries_59 : decode cX9_tries 59 = .ok (.iadd, 1) := by decide +kernel
theorem dX9_tries_60 : decode cX9_tries 60 = .ok (.iastore, 1) := by decide +kernel
theorem dX9_tries_61 : decode cX9_tries 61 = .ok (.aload_n 0, 1) := by decide +kernel
theorem dX9_tries_62 : decode cX9_tries 62 = .ok (.getfield 59, 3) := by decide +kernel
theorem dX9_tries_65 : decode cX9_tries 65 = .ok (.iload_n 3, 1) := by decide +kernel
theorem dX9_tries_66 : decode cX9_tries 66 = .ok (.dup2, 1) := by decide +kernel
theorem dX9_tries_67 : decode cX9_tries 67 = .ok (.iaload, 1) := by decide +kernel
theorem dX9_tries_68 : decode cX9_tries 68 = .ok (.iconst 1, 1) := by decide +kernel
theorem dX9_tries_69 : decode cX9_tries 69 = .ok (.iadd, 1) := by decide +kernel
theorem dX9_tries_70 : decode cX9_tries 70 = .ok (.iastore, 1) := by decide +kernel
theorem dX9_tries_71 : decode cX9_tries 71 = .ok (.goto 29, 3) := by decide +kernel
theorem dX9_tries_74 : decode cX9_tries 74 = .ok (.iload_n 2, 1) := by decide +kernel
theorem dX9_tries_75 : decode cX9_tries 75 = .ok (.iconst 3, 1) := by decide +kernel
theorem dX9_tries_76 : decode cX9_tries 76 = .ok (.if_icmp .eq 24, 3) := by decide +kernel
theorem dX9_tries_79 : decode cX9_tries 79 = .ok (.aload_n 0, 1) := by decide +kernel
theorem dX9_tries_80 : decode cX9_tries 80 = .ok (.getfield 56, 3) := by decide +kernel
theorem dX9_tries_83 : decode cX9_tries 83 = .ok (.iload_n 3, 1) := by decide +kernel
theorem dX9_tries_84 : decode cX9_tries 84 = .ok (.dup2, 1) := by decide +kernel
theorem dX9_tries_85 : decode cX9_tries 85 = .ok (.iaload, 1) := by decide +kernel
theorem dX9_tries_86 : decode cX9_tries 86 = .ok (.bipush 100, 2) := by decide +kernel
theorem dX9_tries_88 : decode cX9_tries 88 = .ok (.isub, 1) := by decide +kernel
theorem dX9_tries_89 : decode cX9_tries 89 = .ok (.iastore, 1) := by decide +kernel
theorem dX9_tries_90 : decode cX9_tries 90 = .ok (.aload_n 0, 1) := by decide +kernel
theorem dX9_tries_91 : decode cX9_tries 91 = .ok (.getfield 62, 3) := by decide +kernel
theorem dX9_tries_94 : decode cX9_tries 94 = .ok (.iload_n 3, 1) := by decide +kernel
theorem dX9_tries_95 : decode cX9_tries 95 = .ok (.dup2, 1) := by decide +kernel
theorem dX9_tries_96 : decode cX9_tries 96 = .ok (.iaload, 1) := by decide +kernel
theorem dX9_tries_97 : decode cX9_tries 97 = .ok (.iconst 1, 1) := by decide +kernel
theorem dX9_tries_98 : decode cX9_tries 98 = .ok (.iadd, 1) := by decide +kernel
theorem dX9_tries_99 : decode cX9_tries 99 = .ok (.iastore, 1) := by decide +kernel
theorem dX9_tries_100 : decode cX9_tries 100 = .ok (.aload_n 0, 1) := by decide +kernel
theorem dX9_tries_101 : decode cX9_tries 101 = .ok (.getfield 144, 3) := by decide +kernel
theorem dX9_tries_104 : decode cX9_tries 104 = .ok (.iload_n 1, 1) := by decide +kernel
theorem dX9_tries_105 : decode cX9_tries 105 = .ok (.aload_n 0, 1) := by decide +kernel
theorem dX9_tries_106 : decode cX9_tries 106 = .ok (.getfield 147, 3) := by decide +kernel
theorem dX9_tries_109 : decode cX9_tries 109 = .ok (.iload_n 1, 1) := by decide +kernel
theorem dX9_tries_110 : decode cX9_tries 110 = .ok (.iaload, 1) := by decide +kernel
theorem dX9_tries_111 : decode cX9_tries 111 = .ok (.ifCond .ne 10, 3) := by decide +kernel
theorem dX9_tries_114 : decode cX9_tries 114 = .ok (.aload_n 0, 1) := by decide +kernel
theorem dX9_tries_115 : decode cX9_tries 115 = .ok (.getfield 220, 3) := by decide +kernel
theorem dX9_tries_118 : decode cX9_tries 118 = .ok (.goto 9, 3) := by decide +kernel
theorem dX9_tries_121 : decode cX9_tries 121 = .ok (.aload_n 0, 1) := by decide +kernel
theorem dX9_tries_122 : decode cX9_tries 122 = .ok (.getfield 144, 3) := by decide +kernel
theorem dX9_tries_125 : decode cX9_tries 125 = .ok (.iload_n 1, 1) := by decide +kernel
theorem dX9_tries_126 : decode cX9_tries 126 = .ok (.iaload, 1) := by decide +kernel
theorem dX9_tries_127 : decode cX9_tries 127 = .ok (.iastore, 1) := by decide +kernel
theorem dX9_tries_128 : decode cX9_tries 128 = .ok (.aload_n 0, 1) := by decide +kernel
theorem dX9_tries_129 : decode cX9_tries 129 = .ok (.getfield 147, 3) := by decide +kernel
theorem dX9_tries_132 : decode cX9_tries 132 = .ok (.iload_n 1, 1) := by decide +kernel
theorem dX9_tries_133 : decode cX9_tries 133 = .ok (.dup2, 1) := by decide +kernel
theorem dX9_tries_134 : decode cX9_tries 134 = .ok (.iaload, 1) := by decide +kernel
theorem dX9_tries_135 : decode cX9_tries 135 = .ok (.iconst 1, 1) := by decide +kernel
theorem dX9_tries_136 : decode cX9_tries 136 = .ok (.iadd, 1) := by decide +kernel
theorem dX9_tries_137 : decode cX9_tries 137 = .ok (.iastore, 1) := by decide +kernel
theorem dX9_tries_138 : decode cX9_tries 138 = .ok (.aload_n 0, 1) := by decide +kernel
theorem dX9_tries_139 : decode cX9_tries 139 = .ok (.getfield 150, 3) := by decide +kernel
theorem dX9_tries_142 : decode cX9_tries 142 = .ok (.iload_n 1, 1) := by decide +kernel
theorem dX9_tries_143 : decode cX9_tries 143 = .ok (.dup2, 1) := by decide +kernel
theorem dX9_tries_144 : decode cX9_tries 144 = .ok (.iaload, 1) := by decide +kernel
theorem dX9_tries_145 : decode cX9_tries 145 = .ok (.iload_n 2, 1) := by decide +kernel
theorem dX9_tries_146 : decode cX9_tries 146 = .ok (.iconst 1, 1) := by decide +kernel
theorem dX9_tries_147 : decode cX9_tries 147 = .ok (.if_icmp .ne 7, 3) := by decide +kernel
theorem dX9_tries_150 : decode cX9_tries 150 = .ok (.iconst 1, 1) := by decide +kernel
theorem dX9_tries_151 : decode cX9_tries 151 = .ok (.goto 4, 3) := by decide +kernel
theorem dX9_tries_154 : decode cX9_tries 154 = .ok (.iconst 0, 1) := by decide +kernel
theorem dX9_tries_155 : decode cX9_tries 155 = .ok (.iadd, 1) := by decide +kernel
theorem dX9_tries_156 : decode cX9_tries 156 = .ok (.iastore, 1) := by decide +kernel
theorem dX9_tries_157 : decode cX9_tries 157 = .ok (.aload_n 0, 1) := by decide +kernel
theorem dX9_tries_158 : decode cX9_tries 158 = .ok (.iload 4, 2) := by decide +kernel
theorem dX9_tries_160 : decode cX9_tries 160 = .ok (.invokevirtual 283, 3) := by decide +kernel
theorem dX9_tries_163 : decode cX9_tries 163 = .ok (.istore 5, 2) := by decide +kernel
theorem dX9_tries_165 : decode cX9_tries 165 = .ok (.aload_n 0, 1) := by decide +kernel
theorem dX9_tries_166 : decode cX9_tries 166 = .ok (.getfield 217, 3) := by decide +kernel
theorem dX9_tries_169 : decode cX9_tries 169 = .ok (.sipush 400, 3) := by decide +kernel
theorem dX9_tries_172 : decode cX9_tries 172 = .ok (.if_icmp .ne 7, 3) := by decide +kernel
theorem dX9_tries_175 : decode cX9_tries 175 = .ok (.iconst (-1), 1) := by decide +kernel
theorem dX9_tries_176 : decode cX9_tries 176 = .ok (.goto 13, 3) := by decide +kernel
theorem dX9_tries_179 : decode cX9_tries 179 = .ok (.aload_n 0, 1) := by decide +kernel
theorem dX9_tries_180 : decode cX9_tries 180 = .ok (.iload_n 1, 1) := by decide +kernel
theorem dX9_tries_181 : decode cX9_tries 181 = .ok (.iload_n 3, 1) := by decide +kernel
theorem dX9_tries_182 : decode cX9_tries 182 = .ok (.iload 4, 2) := by decide +kernel
theorem dX9_tries_184 : decode cX9_tries 184 = .ok (.iload 5, 2) := by decide +kernel
theorem dX9_tries_186 : decode cX9_tries 186 = .ok (.invokevirtual 286, 3) := by decide +kernel
theorem dX9_tries_189 : decode cX9_tries 189 = .ok (.istore 6, 2) := by decide +kernel
theorem dX9_tries_191 : decode cX9_tries 191 = .ok (.iload 6, 2) := by decide +kernel
theorem dX9_tries_193 : decode cX9_tries 193 = .ok (.iconst (-1), 1) := by decide +kernel
theorem dX9_tries_194 : decode cX9_tries 194 = .ok (.if_icmp .ne 12, 3) := by decide +kernel
theorem dX9_tries_197 : decode cX9_tries 197 = .ok (.aload_n 0, 1) := by decide +kernel
theorem dX9_tries_198 : decode cX9_tries 198 = .ok (.getfield 153, 3) := by decide +kernel
theorem dX9_tries_201 : decode cX9_tries 201 = .ok (.iload_n 1, 1) := by decide +kernel
theorem dX9_tries_202 : decode cX9_tries 202 = .ok (.bipush 6, 2) := by decide +kernel
theorem dX9_tries_204 : decode cX9_tries 204 = .ok (.iastore, 1) := by decide +kernel
theorem dX9_tries_205 : decode cX9_tries 205 = .ok (.return_, 1) := by decide +kernel
theorem dX9_tries_206 : decode cX9_tries 206 = .ok (.aload_n 0, 1) := by decide +kernel
theorem dX9_tries_207 : decode cX9_tries 207 = .ok (.getfield 217, 3) := by decide +kernel
theorem dX9_tries_210 : decode cX9_tries 210 = .ok (.istore 7, 2) := by decide +kernel
theorem dX9_tries_212 : decode cX9_tries 212 = .ok (.aload_n 0, 1) := by decide +kernel
theorem dX9_tries_213 : decode cX9_tries 213 = .ok (.dup, 1) := by decide +kernel
theorem dX9_tries_214 : decode cX9_tries 214 = .ok (.getfield 217, 3) := by decide +kernel
theorem dX9_tries_217 : decode cX9_tries 217 = .ok (.iconst 1, 1) := by decide +kernel
theorem dX9_tries_218 : decode cX9_tries 218 = .ok (.iadd, 1) := by decide +kernel
theorem dX9_tries_219 : decode cX9_tries 219 = .ok (.putfield 217, 3) := by decide +kernel
theorem dX9_tries_222 : decode cX9_tries 222 = .ok (.aload_n 0, 1) := by decide +kernel
theorem dX9_tries_223 : decode cX9_tries 223 = .ok (.getfield 99, 3) := by decide +kernel
theorem dX9_tries_226 : decode cX9_tries 226 = .ok (.iload 7, 2) := by decide +kernel
theorem dX9_tries_228 : decode cX9_tries 228 = .ok (.iload_n 1, 1) := by decide +kernel
theorem dX9_tries_229 : decode cX9_tries 229 = .ok (.iastore, 1) := by decide +kernel
theorem dX9_tries_230 : decode cX9_tries 230 = .ok (.aload_n 0, 1) := by decide +kernel
theorem dX9_tries_231 : decode cX9_tries 231 = .ok (.getfield 102, 3) := by decide +kernel
theorem dX9_tries_234 : decode cX9_tries 234 = .ok (.iload 7, 2) := by decide +kernel
theorem dX9_tries_236 : decode cX9_tries 236 = .ok (.aload_n 0, 1) := by decide +kernel
theorem dX9_tries_237 : decode cX9_tries 237 = .ok (.getfield 141, 3) := by decide +kernel
theorem dX9_tries_240 : decode cX9_tries 240 = .ok (.iload_n 1, 1) := by decide +kernel
theorem dX9_tries_241 : decode cX9_tries 241 = .ok (.iaload, 1) := by decide +kernel
theorem dX9_tries_242 : decode cX9_tries 242 = .ok (.iastore, 1) := by decide +kernel
theorem dX9_tries_243 : decode cX9_tries 243 = .ok (.aload_n 0, 1) := by decide +kernel
theorem dX9_tries_244 : decode cX9_tries 244 = .ok (.getfield 105, 3) := by decide +kernel
theorem dX9_tries_247 : decode cX9_tries 247 = .ok (.iload 7, 2) := by decide +kernel
theorem dX9_tries_249 : decode cX9_tries 249 = .ok (.iload 4, 2) := by decide +kernel
theorem dX9_tries_251 : decode cX9_tries 251 = .ok (.iastore, 1) := by decide +kernel
theorem dX9_tries_252 : decode cX9_tries 252 = .ok (.aload_n 0, 1) := by decide +kernel
theorem dX9_tries_253 : decode cX9_tries 253 = .ok (.getfield 108, 3) := by decide +kernel
theorem dX9_tries_256 : decode cX9_tries 256 = .ok (.iload 7, 2) := by decide +kernel
theorem dX9_tries_258 : decode cX9_tries 258 = .ok (.iload_n 3, 1) := by decide +kernel
theorem dX9_tries_259 : decode cX9_tries 259 = .ok (.iastore, 1) := by decide +kernel
theorem dX9_tries_260 : decode cX9_tries 260 = .ok (.aload_n 0, 1) := by decide +kernel
theorem dX9_tries_261 : decode cX9_tries 261 = .ok (.getfield 111, 3) := by decide +kernel
theorem dX9_tries_264 : decode cX9_tries 264 = .ok (.iload 7, 2) := by decide +kernel
theorem dX9_tries_266 : decode cX9_tries 266 = .ok (.iload 6, 2) := by decide +kernel
theorem dX9_tries_268 : decode cX9_tries 268 = .ok (.iastore, 1) := by decide +kernel
theorem dX9_tries_269 : decode cX9_tries 269 = .ok (.aload_n 0, 1) := by decide +kernel
theorem dX9_tries_270 : decode cX9_tries 270 = .ok (.getfield 141, 3) := by decide +kernel
theorem dX9_tries_273 : decode cX9_tries 273 = .ok (.iload 7, 2) := by decide +kernel
theorem dX9_tries_275 : decode cX9_tries 275 = .ok (.iconst (-1), 1) := by decide +kernel
theorem dX9_tries_276 : decode cX9_tries 276 = .ok (.iastore, 1) := by decide +kernel
theorem dX9_tries_277 : decode cX9_tries 277 = .ok (.aload_n 0, 1) := by decide +kernel
theorem dX9_tries_278 : decode cX9_tries 278 = .ok (.getfield 123, 3) := by decide +kernel
theorem dX9_tries_281 : decode cX9_tries 281 = .ok (.iload 7, 2) := by decide +kernel
theorem dX9_tries_283 : decode cX9_tries 283 = .ok (.iload_n 1, 1) := by decide +kernel
theorem dX9_tries_284 : decode cX9_tries 284 = .ok (.sipush 400, 3) := by decide +kernel
theorem dX9_tries_287 : decode cX9_tries 287 = .ok (.if_icmp .ge 12, 3) := by decide +kernel
theorem dX9_tries_290 : decode cX9_tries 290 = .ok (.aload_n 0, 1) := by decide +kernel
theorem dX9_tries_291 : decode cX9_tries 291 = .ok (.getfield 123, 3) := by decide +kernel
theorem dX9_tries_294 : decode cX9_tries 294 = .ok (.iload_n 1, 1) := by decide +kernel
theorem dX9_tries_295 : decode cX9_tries 295 = .ok (.iaload, 1) := by decide +kernel
theorem dX9_tries_296 : decode cX9_tries 296 = .ok (.goto 19, 3) := by decide +kernel
theorem dX9_tries_299 : decode cX9_tries 299 = .ok (.iload_n 1, 1) := by decide +kernel
theorem dX9_tries_300 : decode cX9_tries 300 = .ok (.sipush 440, 3) := by decide +kernel
theorem dX9_tries_303 : decode cX9_tries 303 = .ok (.if_icmp .ge 11, 3) := by decide +kernel
theorem dX9_tries_306 : decode cX9_tries 306 = .ok (.iload_n 1, 1) := by decide +kernel
theorem dX9_tries_307 : decode cX9_tries 307 = .ok (.sipush 400, 3) := by decide +kernel
theorem dX9_tries_310 : decode cX9_tries 310 = .ok (.isub, 1) := by decide +kernel
theorem dX9_tries_311 : decode cX9_tries 311 = .ok (.goto 4, 3) := by decide +kernel
theorem dX9_tries_314 : decode cX9_tries 314 = .ok (.iconst (-1), 1) := by decide +kernel
theorem dX9_tries_315 : decode cX9_tries 315 = .ok (.iastore, 1) := by decide +kernel
theorem dX9_tries_316 : decode cX9_tries 316 = .ok (.aload_n 0, 1) := by decide +kernel
theorem dX9_tries_317 : decode cX9_tries 317 = .ok (.getfield 220, 3) := by decide +kernel
theorem dX9_tries_320 : decode cX9_tries 320 = .ok (.aload_n 0, 1) := by decide +kernel
theorem dX9_tries_321 : decode cX9_tries 321 = .ok (.iload_n 3, 1) := by decide +kernel
theorem dX9_tries_322 : decode cX9_tries 322 = .ok (.iload 4, 2) := by decide +kernel
theorem dX9_tries_324 : decode cX9_tries 324 = .ok (.iconst 0, 1) := by decide +kernel
theorem dX9_tries_325 : decode cX9_tries 325 = .ok (.invokevirtual 290, 3) := by decide +kernel
theorem dX9_tries_328 : decode cX9_tries 328 = .ok (.iadd, 1) := by decide +kernel
theorem dX9_tries_329 : decode cX9_tries 329 = .ok (.istore 8, 2) := by decide +kernel
theorem dX9_tries_331 : decode cX9_tries 331 = .ok (.iload_n 1, 1) := by decide +kernel
theorem dX9_tries_332 : decode cX9_tries 332 = .ok (.sipush 400, 3) := by decide +kernel
theorem dX9_tries_335 : decode cX9_tries 335 = .ok (.if_icmp .ge 12, 3) := by decide +kernel
theorem dX9_tries_338 : decode cX9_tries 338 = .ok (.aload_n 0, 1) := by decide +kernel
theorem dX9_tries_339 : decode cX9_tries 339 = .ok (.getfield 117, 3) := by decide +kernel
theorem dX9_tries_342 : decode cX9_tries 342 = .ok (.iload_n 1, 1) := by decide +kernel
theorem dX9_tries_343 : decode cX9_tries 343 = .ok (.iaload, 1) := by decide +kernel
theorem dX9_tries_344 : decode cX9_tries 344 = .ok (.goto 25, 3) := by decide +kernel
theorem dX9_tries_347 : decode cX9_tries 347 = .ok (.iload_n 1, 1) := by decide +kernel
theorem dX9_tries_348 : decode cX9_tries 348 = .ok (.sipush 440, 3) := by decide +kernel
theorem dX9_tries_351 : decode cX9_tries 351 = .ok (.if_icmp .ge 16, 3) := by decide +kernel
theorem dX9_tries_354 : decode cX9_tries 354 = .ok (.aload_n 0, 1) := by decide +kernel
theorem dX9_tries_355 : decode cX9_tries 355 = .ok (.getfield 162, 3) := by decide +kernel
theorem dX9_tries_358 : decode cX9_tries 358 = .ok (.iload_n 1, 1) := by decide +kernel
theorem dX9_tries_359 : decode cX9_tries 359 = .ok (.sipush 400, 3) := by decide +kernel
theorem dX9_tries_362 : decode cX9_tries 362 = .ok (.isub, 1) := by decide +kernel
theorem dX9_tries_363 : decode cX9_tries 363 = .ok (.iaload, 1) := by decide +kernel
theorem dX9_tries_364 : decode cX9_tries 364 = .ok (.goto 5, 3) := by decide +kernel
theorem dX9_tries_367 : decode cX9_tries 367 = .ok (.iload 8, 2) := by decide +kernel
theorem dX9_tries_369 : decode cX9_tries 369 = .ok (.istore 9, 2) := by decide +kernel
theorem dX9_tries_371 : decode cX9_tries 371 = .ok (.aload_n 0, 1) := by decide +kernel
theorem dX9_tries_372 : decode cX9_tries 372 = .ok (.getfield 117, 3) := by decide +kernel
theorem dX9_tries_375 : decode cX9_tries 375 = .ok (.iload 7, 2) := by decide +kernel
theorem dX9_tries_377 : decode cX9_tries 377 = .ok (.iload 8, 2) := by decide +kernel
theorem dX9_tries_379 : decode cX9_tries 379 = .ok (.iload 9, 2) := by decide +kernel
theorem dX9_tries_381 : decode cX9_tries 381 = .ok (.if_icmp .ge 8, 3) := by decide +kernel
theorem dX9_tries_384 : decode cX9_tries 384 = .ok (.iload 8, 2) := by decide +kernel
theorem dX9_tries_386 : decode cX9_tries 386 = .ok (.goto 5, 3) := by decide +kernel
theorem dX9_tries_389 : decode cX9_tries 389 = .ok (.iload 9, 2) := by decide +kernel
theorem dX9_tries_391 : decode cX9_tries 391 = .ok (.iastore, 1) := by decide +kernel
theorem dX9_tries_392 : decode cX9_tries 392 = .ok (.aload_n 0, 1) := by decide +kernel
theorem dX9_tries_393 : decode cX9_tries 393 = .ok (.getfield 78, 3) := by decide +kernel
theorem dX9_tries_396 : decode cX9_tries 396 = .ok (.bipush 12, 2) := by decide +kernel
theorem dX9_tries_398 : decode cX9_tries 398 = .ok (.iload_n 3, 1) := by decide +kernel
theorem dX9_tries_399 : decode cX9_tries 399 = .ok (.imul, 1) := by decide +kernel
theorem dX9_tries_400 : decode cX9_tries 400 = .ok (.iload 6, 2) := by decide +kernel
theorem dX9_tries_402 : decode cX9_tries 402 = .ok (.iadd, 1) := by decide +kernel
theorem dX9_tries_403 : decode cX9_tries 403 = .ok (.dup2, 1) := by decide +kernel
theorem dX9_tries_404 : decode cX9_tries 404 = .ok (.iaload, 1) := by decide +kernel
theorem dX9_tries_405 : decode cX9_tries 405 = .ok (.iconst 1, 1) := by decide +kernel
theorem dX9_tries_406 : decode cX9_tries 406 = .ok (.iadd, 1) := by decide +kernel
theorem dX9_tries_407 : decode cX9_tries 407 = .ok (.iastore, 1) := by decide +kernel
theorem dX9_tries_408 : decode cX9_tries 408 = .ok (.aload_n 0, 1) := by decide +kernel
theorem dX9_tries_409 : decode cX9_tries 409 = .ok (.getfield 114, 3) := by decide +kernel
theorem dX9_tries_412 : decode cX9_tries 412 = .ok (.iload 7, 2) := by decide +kernel
theorem dX9_tries_414 : decode cX9_tries 414 = .ok (.bipush 7, 2) := by decide +kernel
theorem dX9_tries_416 : decode cX9_tries 416 = .ok (.iastore, 1) := by decide +kernel
theorem dX9_tries_417 : decode cX9_tries 417 = .ok (.aload_n 0, 1) := by decide +kernel
theorem dX9_tries_418 : decode cX9_tries 418 = .ok (.iload 6, 2) := by decide +kernel
theorem dX9_tries_420 : decode cX9_tries 420 = .ok (.iconst 1, 1) := by decide +kernel
theorem dX9_tries_421 : decode cX9_tries 421 = .ok (.iconst 2, 1) := by decide +kernel
theorem dX9_tries_422 : decode cX9_tries 422 = .ok (.invokevirtual 293, 3) := by decide +kernel
theorem dX9_tries_425 : decode cX9_tries 425 = .ok (.istore 10, 2) := by decide +kernel
theorem dX9_tries_427 : decode cX9_tries 427 = .ok (.aload_n 0, 1) := by decide +kernel
theorem dX9_tries_428 : decode cX9_tries 428 = .ok (.iload 6, 2) := by decide +kernel
theorem dX9_tries_430 : decode cX9_tries 430 = .ok (.iconst 0, 1) := by decide +kernel
theorem dX9_tries_431 : decode cX9_tries 431 = .ok (.iconst 0, 1) := by decide +kernel
theorem dX9_tries_432 : decode cX9_tries 432 = .ok (.invokevirtual 293, 3) := by decide +kernel
