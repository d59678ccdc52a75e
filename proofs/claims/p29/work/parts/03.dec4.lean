theorem dX8_canPay_22 : decode cX8_canPay 22 = .ok (.ireturn, 1) := by decide +kernel
theorem dX8_isHedgeDue_0 : decode cX8_isHedgeDue 0 = .ok (.aload_n 0, 1) := by decide +kernel
theorem dX8_isHedgeDue_1 : decode cX8_isHedgeDue 1 = .ok (.aload_n 1, 1) := by decide +kernel
theorem dX8_isHedgeDue_2 : decode cX8_isHedgeDue 2 = .ok (.iconst 2, 1) := by decide +kernel
theorem dX8_isHedgeDue_3 : decode cX8_isHedgeDue 3 = .ok (.invokevirtual 359, 3) := by decide +kernel
theorem dX8_isHedgeDue_6 : decode cX8_isHedgeDue 6 = .ok (.istore_n 2, 1) := by decide +kernel
theorem dX8_isHedgeDue_7 : decode cX8_isHedgeDue 7 = .ok (.aload_n 1, 1) := by decide +kernel
theorem dX8_isHedgeDue_8 : decode cX8_isHedgeDue 8 = .ok (.getfield 249, 3) := by decide +kernel
theorem dX8_isHedgeDue_11 : decode cX8_isHedgeDue 11 = .ok (.bipush 8, 2) := by decide +kernel
theorem dX8_isHedgeDue_13 : decode cX8_isHedgeDue 13 = .ok (.if_icmp .ne 47, 3) := by decide +kernel
theorem dX8_isHedgeDue_16 : decode cX8_isHedgeDue 16 = .ok (.aload_n 1, 1) := by decide +kernel
theorem dX8_isHedgeDue_17 : decode cX8_isHedgeDue 17 = .ok (.getfield 366, 3) := by decide +kernel
theorem dX8_isHedgeDue_20 : decode cX8_isHedgeDue 20 = .ok (.ifCond .eq 40, 3) := by decide +kernel
theorem dX8_isHedgeDue_23 : decode cX8_isHedgeDue 23 = .ok (.iload_n 2, 1) := by decide +kernel
theorem dX8_isHedgeDue_24 : decode cX8_isHedgeDue 24 = .ok (.ifCond .le 36, 3) := by decide +kernel
theorem dX8_isHedgeDue_27 : decode cX8_isHedgeDue 27 = .ok (.aload_n 1, 1) := by decide +kernel
theorem dX8_isHedgeDue_28 : decode cX8_isHedgeDue 28 = .ok (.getfield 400, 3) := by decide +kernel
theorem dX8_isHedgeDue_31 : decode cX8_isHedgeDue 31 = .ok (.iconst 1, 1) := by decide +kernel
theorem dX8_isHedgeDue_32 : decode cX8_isHedgeDue 32 = .ok (.if_icmp .ne 28, 3) := by decide +kernel
theorem dX8_isHedgeDue_35 : decode cX8_isHedgeDue 35 = .ok (.aload_n 0, 1) := by decide +kernel
theorem dX8_isHedgeDue_36 : decode cX8_isHedgeDue 36 = .ok (.getfield 140, 3) := by decide +kernel
theorem dX8_isHedgeDue_39 : decode cX8_isHedgeDue 39 = .ok (.aload_n 1, 1) := by decide +kernel
theorem dX8_isHedgeDue_40 : decode cX8_isHedgeDue 40 = .ok (.getfield 403, 3) := by decide +kernel
theorem dX8_isHedgeDue_43 : decode cX8_isHedgeDue 43 = .ok (.isub, 1) := by decide +kernel
theorem dX8_isHedgeDue_44 : decode cX8_isHedgeDue 44 = .ok (.iload_n 2, 1) := by decide +kernel
theorem dX8_isHedgeDue_45 : decode cX8_isHedgeDue 45 = .ok (.if_icmp .lt 15, 3) := by decide +kernel
theorem dX8_isHedgeDue_48 : decode cX8_isHedgeDue 48 = .ok (.aload_n 0, 1) := by decide +kernel
theorem dX8_isHedgeDue_49 : decode cX8_isHedgeDue 49 = .ok (.aload_n 1, 1) := by decide +kernel
theorem dX8_isHedgeDue_50 : decode cX8_isHedgeDue 50 = .ok (.invokevirtual 371, 3) := by decide +kernel
theorem dX8_isHedgeDue_53 : decode cX8_isHedgeDue 53 = .ok (.ifCond .eq 7, 3) := by decide +kernel
theorem dX8_isHedgeDue_56 : decode cX8_isHedgeDue 56 = .ok (.iconst 1, 1) := by decide +kernel
theorem dX8_isHedgeDue_57 : decode cX8_isHedgeDue 57 = .ok (.goto 4, 3) := by decide +kernel
theorem dX8_isHedgeDue_60 : decode cX8_isHedgeDue 60 = .ok (.iconst 0, 1) := by decide +kernel
theorem dX8_isHedgeDue_61 : decode cX8_isHedgeDue 61 = .ok (.ireturn, 1) := by decide +kernel
theorem dX8_tryOnce_0 : decode cX8_tryOnce 0 = .ok (.aload_n 1, 1) := by decide +kernel
theorem dX8_tryOnce_1 : decode cX8_tryOnce 1 = .ok (.getfield 227, 3) := by decide +kernel
theorem dX8_tryOnce_4 : decode cX8_tryOnce 4 = .ok (.iconst (-1), 1) := by decide +kernel
theorem dX8_tryOnce_5 : decode cX8_tryOnce 5 = .ok (.if_icmp .ne 16, 3) := by decide +kernel
theorem dX8_tryOnce_8 : decode cX8_tryOnce 8 = .ok (.aload_n 0, 1) := by decide +kernel
theorem dX8_tryOnce_9 : decode cX8_tryOnce 9 = .ok (.getfield 32, 3) := by decide +kernel
theorem dX8_tryOnce_12 : decode cX8_tryOnce 12 = .ok (.aload_n 1, 1) := by decide +kernel
theorem dX8_tryOnce_13 : decode cX8_tryOnce 13 = .ok (.getfield 273, 3) := by decide +kernel
theorem dX8_tryOnce_16 : decode cX8_tryOnce 16 = .ok (.aaload, 1) := by decide +kernel
theorem dX8_tryOnce_17 : decode cX8_tryOnce 17 = .ok (.iload_n 2, 1) := by decide +kernel
theorem dX8_tryOnce_18 : decode cX8_tryOnce 18 = .ok (.invokevirtual 406, 3) := by decide +kernel
theorem dX8_tryOnce_21 : decode cX8_tryOnce 21 = .ok (.aload_n 1, 1) := by decide +kernel
theorem dX8_tryOnce_22 : decode cX8_tryOnce 22 = .ok (.getfield 400, 3) := by decide +kernel
theorem dX8_tryOnce_25 : decode cX8_tryOnce 25 = .ok (.ifCond .ne 11, 3) := by decide +kernel
theorem dX8_tryOnce_28 : decode cX8_tryOnce 28 = .ok (.aload_n 1, 1) := by decide +kernel
theorem dX8_tryOnce_29 : decode cX8_tryOnce 29 = .ok (.aload_n 0, 1) := by decide +kernel
theorem dX8_tryOnce_30 : decode cX8_tryOnce 30 = .ok (.getfield 140, 3) := by decide +kernel
theorem dX8_tryOnce_33 : decode cX8_tryOnce 33 = .ok (.putfield 403, 3) := by decide +kernel
theorem dX8_tryOnce_36 : decode cX8_tryOnce 36 = .ok (.aload_n 1, 1) := by decide +kernel
theorem dX8_tryOnce_37 : decode cX8_tryOnce 37 = .ok (.dup, 1) := by decide +kernel
theorem dX8_tryOnce_38 : decode cX8_tryOnce 38 = .ok (.getfield 400, 3) := by decide +kernel
theorem dX8_tryOnce_41 : decode cX8_tryOnce 41 = .ok (.iconst 1, 1) := by decide +kernel
theorem dX8_tryOnce_42 : decode cX8_tryOnce 42 = .ok (.iadd, 1) := by decide +kernel
theorem dX8_tryOnce_43 : decode cX8_tryOnce 43 = .ok (.putfield 400, 3) := by decide +kernel
theorem dX8_tryOnce_46 : decode cX8_tryOnce 46 = .ok (.aload_n 0, 1) := by decide +kernel
theorem dX8_tryOnce_47 : decode cX8_tryOnce 47 = .ok (.aload_n 1, 1) := by decide +kernel
theorem dX8_tryOnce_48 : decode cX8_tryOnce 48 = .ok (.invokevirtual 409, 3) := by decide +kernel
theorem dX8_tryOnce_51 : decode cX8_tryOnce 51 = .ok (.astore_n 3, 1) := by decide +kernel
theorem dX8_tryOnce_52 : decode cX8_tryOnce 52 = .ok (.aload_n 3, 1) := by decide +kernel
theorem dX8_tryOnce_53 : decode cX8_tryOnce 53 = .ok (.ifnull 16, 3) := by decide +kernel
theorem dX8_tryOnce_56 : decode cX8_tryOnce 56 = .ok (.aload_n 0, 1) := by decide +kernel
theorem dX8_tryOnce_57 : decode cX8_tryOnce 57 = .ok (.getfield 46, 3) := by decide +kernel
theorem dX8_tryOnce_60 : decode cX8_tryOnce 60 = .ok (.invokevirtual 82, 3) := by decide +kernel
theorem dX8_tryOnce_63 : decode cX8_tryOnce 63 = .ok (.sipush 400, 3) := by decide +kernel
theorem dX8_tryOnce_66 : decode cX8_tryOnce 66 = .ok (.if_icmp .lt 10, 3) := by decide +kernel
theorem dX8_tryOnce_69 : decode cX8_tryOnce 69 = .ok (.aload_n 1, 1) := by decide +kernel
theorem dX8_tryOnce_70 : decode cX8_tryOnce 70 = .ok (.bipush 6, 2) := by decide +kernel
theorem dX8_tryOnce_72 : decode cX8_tryOnce 72 = .ok (.putfield 363, 3) := by decide +kernel
theorem dX8_tryOnce_75 : decode cX8_tryOnce 75 = .ok (.return_, 1) := by decide +kernel
theorem dX8_tryOnce_76 : decode cX8_tryOnce 76 = .ok (.aload_n 1, 1) := by decide +kernel
theorem dX8_tryOnce_77 : decode cX8_tryOnce 77 = .ok (.getfield 143, 3) := by decide +kernel
theorem dX8_tryOnce_80 : decode cX8_tryOnce 80 = .ok (.aload_n 0, 1) := by decide +kernel
theorem dX8_tryOnce_81 : decode cX8_tryOnce 81 = .ok (.getfield 140, 3) := by decide +kernel
theorem dX8_tryOnce_84 : decode cX8_tryOnce 84 = .ok (.aload_n 0, 1) := by decide +kernel
theorem dX8_tryOnce_85 : decode cX8_tryOnce 85 = .ok (.aload_n 1, 1) := by decide +kernel
theorem dX8_tryOnce_86 : decode cX8_tryOnce 86 = .ok (.iconst 0, 1) := by decide +kernel
theorem dX8_tryOnce_87 : decode cX8_tryOnce 87 = .ok (.invokevirtual 359, 3) := by decide +kernel
theorem dX8_tryOnce_90 : decode cX8_tryOnce 90 = .ok (.iadd, 1) := by decide +kernel
theorem dX8_tryOnce_91 : decode cX8_tryOnce 91 = .ok (.invokestatic 413, 3) := by decide +kernel
theorem dX8_tryOnce_94 : decode cX8_tryOnce 94 = .ok (.istore 4, 2) := by decide +kernel
theorem dX8_tryOnce_96 : decode cX8_tryOnce 96 = .ok (.new 204, 3) := by decide +kernel
theorem dX8_tryOnce_99 : decode cX8_tryOnce 99 = .ok (.dup, 1) := by decide +kernel
theorem dX8_tryOnce_100 : decode cX8_tryOnce 100 = .ok (.aload_n 0, 1) := by decide +kernel
theorem dX8_tryOnce_101 : decode cX8_tryOnce 101 = .ok (.getfield 46, 3) := by decide +kernel
theorem dX8_tryOnce_104 : decode cX8_tryOnce 104 = .ok (.invokevirtual 82, 3) := by decide +kernel
theorem dX8_tryOnce_107 : decode cX8_tryOnce 107 = .ok (.aload_n 1, 1) := by decide +kernel
theorem dX8_tryOnce_108 : decode cX8_tryOnce 108 = .ok (.aload_n 3, 1) := by decide +kernel
theorem dX8_tryOnce_109 : decode cX8_tryOnce 109 = .ok (.iload 4, 2) := by decide +kernel
theorem dX8_tryOnce_111 : decode cX8_tryOnce 111 = .ok (.invokespecial 418, 3) := by decide +kernel
theorem dX8_tryOnce_114 : decode cX8_tryOnce 114 = .ok (.astore 5, 2) := by decide +kernel
theorem dX8_tryOnce_116 : decode cX8_tryOnce 116 = .ok (.aload_n 0, 1) := by decide +kernel
theorem dX8_tryOnce_117 : decode cX8_tryOnce 117 = .ok (.getfield 46, 3) := by decide +kernel
theorem dX8_tryOnce_120 : decode cX8_tryOnce 120 = .ok (.aload 5, 2) := by decide +kernel
theorem dX8_tryOnce_122 : decode cX8_tryOnce 122 = .ok (.invokevirtual 91, 3) := by decide +kernel
theorem dX8_tryOnce_125 : decode cX8_tryOnce 125 = .ok (.pop, 1) := by decide +kernel
theorem dX8_tryOnce_126 : decode cX8_tryOnce 126 = .ok (.aload_n 1, 1) := by decide +kernel
theorem dX8_tryOnce_127 : decode cX8_tryOnce 127 = .ok (.getfield 377, 3) := by decide +kernel
theorem dX8_tryOnce_130 : decode cX8_tryOnce 130 = .ok (.aload 5, 2) := by decide +kernel
theorem dX8_tryOnce_132 : decode cX8_tryOnce 132 = .ok (.invokevirtual 91, 3) := by decide +kernel
theorem dX8_tryOnce_135 : decode cX8_tryOnce 135 = .ok (.pop, 1) := by decide +kernel
theorem dX8_tryOnce_136 : decode cX8_tryOnce 136 = .ok (.aload_n 3, 1) := by decide +kernel
theorem dX8_tryOnce_137 : decode cX8_tryOnce 137 = .ok (.getfield 421, 3) := by decide +kernel
theorem dX8_tryOnce_140 : decode cX8_tryOnce 140 = .ok (.aload_n 1, 1) := by decide +kernel
theorem dX8_tryOnce_141 : decode cX8_tryOnce 141 = .ok (.getfield 273, 3) := by decide +kernel
theorem dX8_tryOnce_144 : decode cX8_tryOnce 144 = .ok (.dup2, 1) := by decide +kernel
theorem dX8_tryOnce_145 : decode cX8_tryOnce 145 = .ok (.iaload, 1) := by decide +kernel
theorem dX8_tryOnce_146 : decode cX8_tryOnce 146 = .ok (.iconst 1, 1) := by decide +kernel
theorem dX8_tryOnce_147 : decode cX8_tryOnce 147 = .ok (.iadd, 1) := by decide +kernel
theorem dX8_tryOnce_148 : decode cX8_tryOnce 148 = .ok (.iastore, 1) := by decide +kernel
theorem dX8_tryOnce_149 : decode cX8_tryOnce 149 = .ok (.aload_n 0, 1) := by decide +kernel
theorem dX8_tryOnce_150 : decode cX8_tryOnce 150 = .ok (.aload 5, 2) := by decide +kernel
theorem dX8_tryOnce_152 : decode cX8_tryOnce 152 = .ok (.invokevirtual 424, 3) := by decide +kernel
theorem dX8_tryOnce_155 : decode cX8_tryOnce 155 = .ok (.return_, 1) := by decide +kernel
theorem dX8_choose_0 : decode cX8_choose 0 = .ok (.aload_n 0, 1) := by decide +kernel
theorem dX8_choose_1 : decode cX8_choose 1 = .ok (.getfield 26, 3) := by decide +kernel
theorem dX8_choose_4 : decode cX8_choose 4 = .ok (.aload_n 1, 1) := by decide +kernel
theorem dX8_choose_5 : decode cX8_choose 5 = .ok (.getfield 210, 3) := by decide +kernel
theorem dX8_choose_8 : decode cX8_choose 8 = .ok (.aaload, 1) := by decide +kernel
theorem dX8_choose_9 : decode cX8_choose 9 = .ok (.getfield 119, 3) := by decide +kernel
theorem dX8_choose_12 : decode cX8_choose 12 = .ok (.invokevirtual 427, 3) := by decide +kernel
theorem dX8_choose_15 : decode cX8_choose 15 = .ok (.istore_n 2, 1) := by decide +kernel
theorem dX8_choose_16 : decode cX8_choose 16 = .ok (.aconst_null, 1) := by decide +kernel
theorem dX8_choose_17 : decode cX8_choose 17 = .ok (.astore_n 3, 1) := by decide +kernel
theorem dX8_choose_18 : decode cX8_choose 18 = .ok (.iconst 0, 1) := by decide +kernel
theorem dX8_choose_19 : decode cX8_choose 19 = .ok (.istore 4, 2) := by decide +kernel
theorem dX8_choose_21 : decode cX8_choose 21 = .ok (.iconst 0, 1) := by decide +kernel
theorem dX8_choose_22 : decode cX8_choose 22 = .ok (.istore 5, 2) := by decide +kernel
theorem dX8_choose_24 : decode cX8_choose 24 = .ok (.iload 5, 2) := by decide +kernel
theorem dX8_choose_26 : decode cX8_choose 26 = .ok (.aload_n 0, 1) := by decide +kernel
theorem dX8_choose_27 : decode cX8_choose 27 = .ok (.getfield 39, 3) := by decide +kernel
theorem dX8_choose_30 : decode cX8_choose 30 = .ok (.invokevirtual 82, 3) := by decide +kernel
theorem dX8_choose_33 : decode cX8_choose 33 = .ok (.if_icmp .ge 123, 3) := by decide +kernel
theorem dX8_choose_36 : decode cX8_choose 36 = .ok (.aload_n 0, 1) := by decide +kernel
theorem dX8_choose_37 : decode cX8_choose 37 = .ok (.getfield 39, 3) := by decide +kernel
theorem dX8_choose_40 : decode cX8_choose 40 = .ok (.iload 5, 2) := by decide +kernel
theorem dX8_choose_42 : decode cX8_choose 42 = .ok (.invokevirtual 98, 3) := by decide +kernel
theorem dX8_choose_45 : decode cX8_choose 45 = .ok (.checkcast 86, 3) := by decide +kernel
theorem dX8_choose_48 : decode cX8_choose 48 = .ok (.astore 6, 2) := by decide +kernel
theorem dX8_choose_50 : decode cX8_choose 50 = .ok (.aload 6, 2) := by decide +kernel
theorem dX8_choose_52 : decode cX8_choose 52 = .ok (.getfield 430, 3) := by decide +kernel
theorem dX8_choose_55 : decode cX8_choose 55 = .ok (.aload_n 1, 1) := by decide +kernel
theorem dX8_choose_56 : decode cX8_choose 56 = .ok (.getfield 210, 3) := by decide +kernel
theorem dX8_choose_59 : decode cX8_choose 59 = .ok (.if_icmp .ne 91, 3) := by decide +kernel
theorem dX8_choose_62 : decode cX8_choose 62 = .ok (.aload_n 0, 1) := by decide +kernel
theorem dX8_choose_63 : decode cX8_choose 63 = .ok (.aload_n 1, 1) := by decide +kernel
theorem dX8_choose_64 : decode cX8_choose 64 = .ok (.getfield 273, 3) := by decide +kernel
theorem dX8_choose_67 : decode cX8_choose 67 = .ok (.aload 6, 2) := by decide +kernel
theorem dX8_choose_69 : decode cX8_choose 69 = .ok (.invokevirtual 433, 3) := by decide +kernel
theorem dX8_choose_72 : decode cX8_choose 72 = .ok (.ifCond .ne 6, 3) := by decide +kernel
theorem dX8_choose_75 : decode cX8_choose 75 = .ok (.goto 75, 3) := by decide +kernel
theorem dX8_choose_78 : decode cX8_choose 78 = .ok (.aload 6, 2) := by decide +kernel
theorem dX8_choose_80 : decode cX8_choose 80 = .ok (.aload_n 1, 1) := by decide +kernel
theorem dX8_choose_81 : decode cX8_choose 81 = .ok (.getfield 273, 3) := by decide +kernel
theorem dX8_choose_84 : decode cX8_choose 84 = .ok (.aload_n 1, 1) := by decide +kernel
theorem dX8_choose_85 : decode cX8_choose 85 = .ok (.getfield 322, 3) := by decide +kernel
theorem dX8_choose_88 : decode cX8_choose 88 = .ok (.invokevirtual 437, 3) := by decide +kernel
theorem dX8_choose_91 : decode cX8_choose 91 = .ok (.istore 7, 2) := by decide +kernel
theorem dX8_choose_93 : decode cX8_choose 93 = .ok (.iload_n 2, 1) := by decide +kernel
theorem dX8_choose_94 : decode cX8_choose 94 = .ok (.iconst (-1), 1) := by decide +kernel
theorem dX8_choose_95 : decode cX8_choose 95 = .ok (.if_icmp .eq 20, 3) := by decide +kernel
theorem dX8_choose_98 : decode cX8_choose 98 = .ok (.aload 6, 2) := by decide +kernel
theorem dX8_choose_100 : decode cX8_choose 100 = .ok (.getfield 393, 3) := by decide +kernel
theorem dX8_choose_103 : decode cX8_choose 103 = .ok (.iload_n 2, 1) := by decide +kernel
theorem dX8_choose_104 : decode cX8_choose 104 = .ok (.if_icmp .eq 11, 3) := by decide +kernel
theorem dX8_choose_107 : decode cX8_choose 107 = .ok (.iload 7, 2) := by decide +kernel
theorem dX8_choose_109 : decode cX8_choose 109 = .ok (.ldc_w 440, 3) := by decide +kernel
theorem dX8_choose_112 : decode cX8_choose 112 = .ok (.iadd, 1) := by decide +kernel
theorem dX8_choose_113 : decode cX8_choose 113 = .ok (.istore 7, 2) := by decide +kernel
theorem dX8_choose_115 : decode cX8_choose 115 = .ok (.aload_n 1, 1) := by decide +kernel
theorem dX8_choose_116 : decode cX8_choose 116 = .ok (.aload 6, 2) := by decide +kernel
theorem dX8_choose_118 : decode cX8_choose 118 = .ok (.invokevirtual 441, 3) := by decide +kernel
theorem dX8_choose_121 : decode cX8_choose 121 = .ok (.ifCond .eq 11, 3) := by decide +kernel
theorem dX8_choose_124 : decode cX8_choose 124 = .ok (.iload 7, 2) := by decide +kernel
theorem dX8_choose_126 : decode cX8_choose 126 = .ok (.ldc_w 445, 3) := by decide +kernel
theorem dX8_choose_129 : decode cX8_choose 129 = .ok (.iadd, 1) := by decide +kernel
theorem dX8_choose_130 : decode cX8_choose 130 = .ok (.istore 7, 2) := by decide +kernel
theorem dX8_choose_132 : decode cX8_choose 132 = .ok (.aload_n 3, 1) := by decide +kernel
theorem dX8_choose_133 : decode cX8_choose 133 = .ok (.ifnull 10, 3) := by decide +kernel
theorem dX8_choose_136 : decode cX8_choose 136 = .ok (.iload 7, 2) := by decide +kernel
theorem dX8_choose_138 : decode cX8_choose 138 = .ok (.iload 4, 2) := by decide +kernel
theorem dX8_choose_140 : decode cX8_choose 140 = .ok (.if_icmp .ge 10, 3) := by decide +kernel
theorem dX8_choose_143 : decode cX8_choose 143 = .ok (.aload 6, 2) := by decide +kernel
theorem dX8_choose_145 : decode cX8_choose 145 = .ok (.astore_n 3, 1) := by decide +kernel
theorem dX8_choose_146 : decode cX8_choose 146 = .ok (.iload 7, 2) := by decide +kernel
theorem dX8_choose_148 : decode cX8_choose 148 = .ok (.istore 4, 2) := by decide +kernel
theorem dX8_choose_150 : decode cX8_choose 150 = .ok (.iinc 5 1, 3) := by decide +kernel
theorem dX8_choose_153 : decode cX8_choose 153 = .ok (.goto (-129), 3) := by decide +kernel
theorem dX8_choose_156 : decode cX8_choose 156 = .ok (.aload_n 3, 1) := by decide +kernel
theorem dX8_choose_157 : decode cX8_choose 157 = .ok (.areturn, 1) := by decide +kernel
theorem dX8_canChoose_0 : decode cX8_canChoose 0 = .ok (.aload_n 2, 1) := by decide +kernel
theorem dX8_canChoose_1 : decode cX8_canChoose 1 = .ok (.getfield 233, 3) := by decide +kernel
theorem dX8_canChoose_4 : decode cX8_canChoose 4 = .ok (.iload_n 1, 1) := by decide +kernel
theorem dX8_canChoose_5 : decode cX8_canChoose 5 = .ok (.aaload, 1) := by decide +kernel
theorem dX8_canChoose_6 : decode cX8_canChoose 6 = .ok (.getfield 237, 3) := by decide +kernel
theorem dX8_canChoose_9 : decode cX8_canChoose 9 = .ok (.istore_n 3, 1) := by decide +kernel
theorem dX8_canChoose_10 : decode cX8_canChoose 10 = .ok (.iload_n 3, 1) := by decide +kernel
theorem dX8_canChoose_11 : decode cX8_canChoose 11 = .ok (.iconst 1, 1) := by decide +kernel
theorem dX8_canChoose_12 : decode cX8_canChoose 12 = .ok (.if_icmp .eq 14, 3) := by decide +kernel
theorem dX8_canChoose_15 : decode cX8_canChoose 15 = .ok (.aload_n 2, 1) := by decide +kernel
theorem dX8_canChoose_16 : decode cX8_canChoose 16 = .ok (.invokevirtual 240, 3) := by decide +kernel
theorem dX8_canChoose_19 : decode cX8_canChoose 19 = .ok (.aload_n 0, 1) := by decide +kernel
theorem dX8_canChoose_20 : decode cX8_canChoose 20 = .ok (.getfield 9, 3) := by decide +kernel
theorem dX8_canChoose_23 : decode cX8_canChoose 23 = .ok (.if_icmp .lt 5, 3) := by decide +kernel
theorem dX8_canChoose_26 : decode cX8_canChoose 26 = .ok (.iconst 0, 1) := by decide +kernel
theorem dX8_canChoose_27 : decode cX8_canChoose 27 = .ok (.ireturn, 1) := by decide +kernel
theorem dX8_canChoose_28 : decode cX8_canChoose 28 = .ok (.iload_n 3, 1) := by decide +kernel
theorem dX8_canChoose_29 : decode cX8_canChoose 29 = .ok (.ifCond .eq 12, 3) := by decide +kernel
theorem dX8_canChoose_32 : decode cX8_canChoose 32 = .ok (.aload_n 0, 1) := by decide +kernel
theorem dX8_canChoose_33 : decode cX8_canChoose 33 = .ok (.iload_n 1, 1) := by decide +kernel
theorem dX8_canChoose_34 : decode cX8_canChoose 34 = .ok (.aload_n 2, 1) := by decide +kernel
theorem dX8_canChoose_35 : decode cX8_canChoose 35 = .ok (.invokevirtual 446, 3) := by decide +kernel
theorem dX8_canChoose_38 : decode cX8_canChoose 38 = .ok (.ifCond .ne 7, 3) := by decide +kernel
theorem dX8_canChoose_41 : decode cX8_canChoose 41 = .ok (.iconst 1, 1) := by decide +kernel
theorem dX8_canChoose_42 : decode cX8_canChoose 42 = .ok (.goto 4, 3) := by decide +kernel
theorem dX8_canChoose_45 : decode cX8_canChoose 45 = .ok (.iconst 0, 1) := by decide +kernel
theorem dX8_canChoose_46 : decode cX8_canChoose 46 = .ok (.ireturn, 1) := by decide +kernel
theorem dX8_hasTryOutAt_0 : decode cX8_hasTryOutAt 0 = .ok (.iconst 0, 1) := by decide +kernel
theorem dX8_hasTryOutAt_1 : decode cX8_hasTryOutAt 1 = .ok (.istore_n 3, 1) := by decide +kernel
theorem dX8_hasTryOutAt_2 : decode cX8_hasTryOutAt 2 = .ok (.iload_n 3, 1) := by decide +kernel
theorem dX8_hasTryOutAt_3 : decode cX8_hasTryOutAt 3 = .ok (.aload_n 0, 1) := by decide +kernel
theorem dX8_hasTryOutAt_4 : decode cX8_hasTryOutAt 4 = .ok (.getfield 46, 3) := by decide +kernel
theorem dX8_hasTryOutAt_7 : decode cX8_hasTryOutAt 7 = .ok (.invokevirtual 82, 3) := by decide +kernel
theorem dX8_hasTryOutAt_10 : decode cX8_hasTryOutAt 10 = .ok (.if_icmp .ge 70, 3) := by decide +kernel
theorem dX8_hasTryOutAt_13 : decode cX8_hasTryOutAt 13 = .ok (.aload_n 0, 1) := by decide +kernel
theorem dX8_hasTryOutAt_14 : decode cX8_hasTryOutAt 14 = .ok (.getfield 46, 3) := by decide +kernel
theorem dX8_hasTryOutAt_17 : decode cX8_hasTryOutAt 17 = .ok (.iload_n 3, 1) := by decide +kernel
theorem dX8_hasTryOutAt_18 : decode cX8_hasTryOutAt 18 = .ok (.invokevirtual 98, 3) := by decide +kernel
theorem dX8_hasTryOutAt_21 : decode cX8_hasTryOutAt 21 = .ok (.checkcast 204, 3) := by decide +kernel
theorem dX8_hasTryOutAt_24 : decode cX8_hasTryOutAt 24 = .ok (.astore 4, 2) := by decide +kernel
theorem dX8_hasTryOutAt_26 : decode cX8_hasTryOutAt 26 = .ok (.aload 4, 2) := by decide +kernel
theorem dX8_hasTryOutAt_28 : decode cX8_hasTryOutAt 28 = .ok (.getfield 213, 3) := by decide +kernel
theorem dX8_hasTryOutAt_31 : decode cX8_hasTryOutAt 31 = .ok (.aload_n 2, 1) := by decide +kernel
theorem dX8_hasTryOutAt_32 : decode cX8_hasTryOutAt 32 = .ok (.if_acmp .ne 42, 3) := by decide +kernel
theorem dX8_hasTryOutAt_35 : decode cX8_hasTryOutAt 35 = .ok (.aload 4, 2) := by decide +kernel
theorem dX8_hasTryOutAt_37 : decode cX8_hasTryOutAt 37 = .ok (.getfield 206, 3) := by decide +kernel
theorem dX8_hasTryOutAt_40 : decode cX8_hasTryOutAt 40 = .ok (.getfield 273, 3) := by decide +kernel
theorem dX8_hasTryOutAt_43 : decode cX8_hasTryOutAt 43 = .ok (.iload_n 1, 1) := by decide +kernel
theorem dX8_hasTryOutAt_44 : decode cX8_hasTryOutAt 44 = .ok (.if_icmp .ne 30, 3) := by decide +kernel
theorem dX8_hasTryOutAt_47 : decode cX8_hasTryOutAt 47 = .ok (.aload 4, 2) := by decide +kernel
theorem dX8_hasTryOutAt_49 : decode cX8_hasTryOutAt 49 = .ok (.getfield 206, 3) := by decide +kernel
theorem dX8_hasTryOutAt_52 : decode cX8_hasTryOutAt 52 = .ok (.getfield 249, 3) := by decide +kernel
theorem dX8_hasTryOutAt_55 : decode cX8_hasTryOutAt 55 = .ok (.bipush 8, 2) := by decide +kernel
theorem dX8_hasTryOutAt_57 : decode cX8_hasTryOutAt 57 = .ok (.if_icmp .ne 17, 3) := by decide +kernel
theorem dX8_hasTryOutAt_60 : decode cX8_hasTryOutAt 60 = .ok (.aload 4, 2) := by decide +kernel
theorem dX8_hasTryOutAt_62 : decode cX8_hasTryOutAt 62 = .ok (.getfield 449, 3) := by decide +kernel
theorem dX8_hasTryOutAt_65 : decode cX8_hasTryOutAt 65 = .ok (.aload_n 0, 1) := by decide +kernel
theorem dX8_hasTryOutAt_66 : decode cX8_hasTryOutAt 66 = .ok (.getfield 140, 3) := by decide +kernel
theorem dX8_hasTryOutAt_69 : decode cX8_hasTryOutAt 69 = .ok (.if_icmp .le 5, 3) := by decide +kernel
theorem dX8_hasTryOutAt_72 : decode cX8_hasTryOutAt 72 = .ok (.iconst 1, 1) := by decide +kernel
theorem dX8_hasTryOutAt_73 : decode cX8_hasTryOutAt 73 = .ok (.ireturn, 1) := by decide +kernel
theorem dX8_hasTryOutAt_74 : decode cX8_hasTryOutAt 74 = .ok (.iinc 3 1, 3) := by decide +kernel
theorem dX8_hasTryOutAt_77 : decode cX8_hasTryOutAt 77 = .ok (.goto (-75), 3) := by decide +kernel
theorem dX8_hasTryOutAt_80 : decode cX8_hasTryOutAt 80 = .ok (.iconst 0, 1) := by decide +kernel
theorem dX8_hasTryOutAt_81 : decode cX8_hasTryOutAt 81 = .ok (.ireturn, 1) := by decide +kernel
theorem dX8_place_0 : decode cX8_place 0 = .ok (.aload_n 1, 1) := by decide +kernel
theorem dX8_place_1 : decode cX8_place 1 = .ok (.getfield 213, 3) := by decide +kernel
theorem dX8_place_4 : decode cX8_place 4 = .ok (.astore_n 2, 1) := by decide +kernel
theorem dX8_place_5 : decode cX8_place 5 = .ok (.aload_n 2, 1) := by decide +kernel
theorem dX8_place_6 : decode cX8_place 6 = .ok (.getfield 102, 3) := by decide +kernel
theorem dX8_place_9 : decode cX8_place 9 = .ok (.iconst 3, 1) := by decide +kernel
theorem dX8_place_10 : decode cX8_place 10 = .ok (.iaload, 1) := by decide +kernel
theorem dX8_place_11 : decode cX8_place 11 = .ok (.ifCond .eq 7, 3) := by decide +kernel
theorem dX8_place_14 : decode cX8_place 14 = .ok (.iconst 1, 1) := by decide +kernel
theorem dX8_place_15 : decode cX8_place 15 = .ok (.goto 4, 3) := by decide +kernel
theorem dX8_place_18 : decode cX8_place 18 = .ok (.iconst 0, 1) := by decide +kernel
theorem dX8_place_19 : decode cX8_place 19 = .ok (.istore_n 3, 1) := by decide +kernel
theorem dX8_place_20 : decode cX8_place 20 = .ok (.iload_n 3, 1) := by decide +kernel
theorem dX8_place_21 : decode cX8_place 21 = .ok (.ifCond .ne 32, 3) := by decide +kernel
theorem dX8_place_24 : decode cX8_place 24 = .ok (.aload_n 2, 1) := by decide +kernel
theorem dX8_place_25 : decode cX8_place 25 = .ok (.getfield 340, 3) := by decide +kernel
theorem dX8_place_28 : decode cX8_place 28 = .ok (.aload_n 2, 1) := by decide +kernel
theorem dX8_place_29 : decode cX8_place 29 = .ok (.getfield 337, 3) := by decide +kernel
theorem dX8_place_32 : decode cX8_place 32 = .ok (.if_icmp .ge 21, 3) := by decide +kernel
theorem dX8_place_35 : decode cX8_place 35 = .ok (.aload_n 2, 1) := by decide +kernel
theorem dX8_place_36 : decode cX8_place 36 = .ok (.getfield 343, 3) := by decide +kernel
theorem dX8_place_39 : decode cX8_place 39 = .ok (.invokevirtual 71, 3) := by decide +kernel
theorem dX8_place_42 : decode cX8_place 42 = .ok (.ifCond .eq 11, 3) := by decide +kernel
theorem dX8_place_45 : decode cX8_place 45 = .ok (.aload_n 0, 1) := by decide +kernel
theorem dX8_place_46 : decode cX8_place 46 = .ok (.aload_n 1, 1) := by decide +kernel
theorem dX8_place_47 : decode cX8_place 47 = .ok (.invokevirtual 349, 3) := by decide +kernel
theorem dX8_place_50 : decode cX8_place 50 = .ok (.goto 52, 3) := by decide +kernel
theorem dX8_place_53 : decode cX8_place 53 = .ok (.iload_n 3, 1) := by decide +kernel
theorem dX8_place_54 : decode cX8_place 54 = .ok (.ifCond .ne 34, 3) := by decide +kernel
theorem dX8_place_57 : decode cX8_place 57 = .ok (.aload_n 2, 1) := by decide +kernel
theorem dX8_place_58 : decode cX8_place 58 = .ok (.getfield 343, 3) := by decide +kernel
theorem dX8_place_61 : decode cX8_place 61 = .ok (.invokevirtual 82, 3) := by decide +kernel
theorem dX8_place_64 : decode cX8_place 64 = .ok (.aload_n 2, 1) := by decide +kernel
theorem dX8_place_65 : decode cX8_place 65 = .ok (.getfield 452, 3) := by decide +kernel
theorem dX8_place_68 : decode cX8_place 68 = .ok (.if_icmp .ge 20, 3) := by decide +kernel
theorem dX8_place_71 : decode cX8_place 71 = .ok (.aload_n 1, 1) := by decide +kernel
theorem dX8_place_72 : decode cX8_place 72 = .ok (.iconst 0, 1) := by decide +kernel
theorem dX8_place_73 : decode cX8_place 73 = .ok (.putfield 217, 3) := by decide +kernel
theorem dX8_place_76 : decode cX8_place 76 = .ok (.aload_n 2, 1) := by decide +kernel
theorem dX8_place_77 : decode cX8_place 77 = .ok (.getfield 343, 3) := by decide +kernel
theorem dX8_place_80 : decode cX8_place 80 = .ok (.aload_n 1, 1) := by decide +kernel
theorem dX8_place_81 : decode cX8_place 81 = .ok (.invokevirtual 91, 3) := by decide +kernel
theorem dX8_place_84 : decode cX8_place 84 = .ok (.pop, 1) := by decide +kernel
theorem dX8_place_85 : decode cX8_place 85 = .ok (.goto 17, 3) := by decide +kernel
theorem dX8_place_88 : decode cX8_place 88 = .ok (.aload_n 1, 1) := by decide +kernel
theorem dX8_place_89 : decode cX8_place 89 = .ok (.bipush 6, 2) := by decide +kernel
theorem dX8_place_91 : decode cX8_place 91 = .ok (.putfield 217, 3) := by decide +kernel
theorem dX8_place_94 : decode cX8_place 94 = .ok (.aload_n 1, 1) := by decide +kernel
theorem dX8_place_95 : decode cX8_place 95 = .ok (.aload_n 0, 1) := by decide +kernel
theorem dX8_place_96 : decode cX8_place 96 = .ok (.getfield 140, 3) := by decide +kernel
theorem dX8_place_99 : decode cX8_place 99 = .ok (.invokevirtual 455, 3) := by decide +kernel
theorem dX8_place_102 : decode cX8_place 102 = .ok (.return_, 1) := by decide +kernel
theorem dX8_run_0 : decode cX8_run 0 = .ok (.aload_n 1, 1) := by decide +kernel
theorem dX8_run_1 : decode cX8_run 1 = .ok (.iconst 1, 1) := by decide +kernel
theorem dX8_run_2 : decode cX8_run 2 = .ok (.putfield 217, 3) := by decide +kernel
theorem dX8_run_5 : decode cX8_run 5 = .ok (.aload_n 1, 1) := by decide +kernel
theorem dX8_run_6 : decode cX8_run 6 = .ok (.getfield 213, 3) := by decide +kernel
theorem dX8_run_9 : decode cX8_run 9 = .ok (.dup, 1) := by decide +kernel
theorem dX8_run_10 : decode cX8_run 10 = .ok (.getfield 340, 3) := by decide +kernel
theorem dX8_run_13 : decode cX8_run 13 = .ok (.iconst 1, 1) := by decide +kernel
theorem dX8_run_14 : decode cX8_run 14 = .ok (.iadd, 1) := by decide +kernel
theorem dX8_run_15 : decode cX8_run 15 = .ok (.putfield 340, 3) := by decide +kernel
theorem dX8_run_18 : decode cX8_run 18 = .ok (.aload_n 1, 1) := by decide +kernel
theorem dX8_run_19 : decode cX8_run 19 = .ok (.getfield 206, 3) := by decide +kernel
theorem dX8_run_22 : decode cX8_run 22 = .ok (.iconst 1, 1) := by decide +kernel
theorem dX8_run_23 : decode cX8_run 23 = .ok (.putfield 458, 3) := by decide +kernel
theorem dX8_run_26 : decode cX8_run 26 = .ok (.aload_n 0, 1) := by decide +kernel
theorem dX8_run_27 : decode cX8_run 27 = .ok (.getfield 26, 3) := by decide +kernel
theorem dX8_run_30 : decode cX8_run 30 = .ok (.aload_n 1, 1) := by decide +kernel
theorem dX8_run_31 : decode cX8_run 31 = .ok (.getfield 206, 3) := by decide +kernel
theorem dX8_run_34 : decode cX8_run 34 = .ok (.getfield 210, 3) := by decide +kernel
theorem dX8_run_37 : decode cX8_run 37 = .ok (.aaload, 1) := by decide +kernel
theorem dX8_run_38 : decode cX8_run 38 = .ok (.getfield 65, 3) := by decide +kernel
theorem dX8_run_41 : decode cX8_run 41 = .ok (.aload_n 1, 1) := by decide +kernel
theorem dX8_run_42 : decode cX8_run 42 = .ok (.getfield 213, 3) := by decide +kernel
theorem dX8_run_45 : decode cX8_run 45 = .ok (.getfield 102, 3) := by decide +kernel
theorem dX8_run_48 : decode cX8_run 48 = .ok (.iconst 0, 1) := by decide +kernel
theorem dX8_run_49 : decode cX8_run 49 = .ok (.iaload, 1) := by decide +kernel
theorem dX8_run_50 : decode cX8_run 50 = .ok (.iadd, 1) := by decide +kernel
theorem dX8_run_51 : decode cX8_run 51 = .ok (.istore_n 2, 1) := by decide +kernel
theorem dX8_run_52 : decode cX8_run 52 = .ok (.aload_n 1, 1) := by decide +kernel
theorem dX8_run_53 : decode cX8_run 53 = .ok (.aload_n 0, 1) := by decide +kernel
theorem dX8_run_54 : decode cX8_run 54 = .ok (.getfield 140, 3) := by decide +kernel
theorem dX8_run_57 : decode cX8_run 57 = .ok (.iconst 1, 1) := by decide +kernel
theorem dX8_run_58 : decode cX8_run 58 = .ok (.iload_n 2, 1) := by decide +kernel
theorem dX8_run_59 : decode cX8_run 59 = .ok (.invokestatic 461, 3) := by decide +kernel
theorem dX8_run_62 : decode cX8_run 62 = .ok (.iadd, 1) := by decide +kernel
theorem dX8_run_63 : decode cX8_run 63 = .ok (.putfield 289, 3) := by decide +kernel
theorem dX8_run_66 : decode cX8_run 66 = .ok (.return_, 1) := by decide +kernel
theorem dX8_end_0 : decode cX8_end 0 = .ok (.iload_n 3, 1) := by decide +kernel
theorem dX8_end_1 : decode cX8_end 1 = .ok (.bipush 6, 2) := by decide +kernel
theorem dX8_end_3 : decode cX8_end 3 = .ok (.if_icmp .le 4, 3) := by decide +kernel
theorem dX8_end_6 : decode cX8_end 6 = .ok (.return_, 1) := by decide +kernel
theorem dX8_end_7 : decode cX8_end 7 = .ok (.aload_n 1, 1) := by decide +kernel
theorem dX8_end_8 : decode cX8_end 8 = .ok (.getfield 213, 3) := by decide +kernel
theorem dX8_end_11 : decode cX8_end 11 = .ok (.aload_n 1, 1) := by decide +kernel
theorem dX8_end_12 : decode cX8_end 12 = .ok (.invokevirtual 464, 3) := by decide +kernel
theorem dX8_end_15 : decode cX8_end 15 = .ok (.aload_n 1, 1) := by decide +kernel
theorem dX8_end_16 : decode cX8_end 16 = .ok (.iload_n 2, 1) := by decide +kernel
theorem dX8_end_17 : decode cX8_end 17 = .ok (.putfield 217, 3) := by decide +kernel
theorem dX8_end_20 : decode cX8_end 20 = .ok (.aload_n 1, 1) := by decide +kernel
theorem dX8_end_21 : decode cX8_end 21 = .ok (.aload_n 0, 1) := by decide +kernel
theorem dX8_end_22 : decode cX8_end 22 = .ok (.getfield 140, 3) := by decide +kernel
theorem dX8_end_25 : decode cX8_end 25 = .ok (.invokevirtual 455, 3) := by decide +kernel
theorem dX8_end_28 : decode cX8_end 28 = .ok (.aload_n 1, 1) := by decide +kernel
theorem dX8_end_29 : decode cX8_end 29 = .ok (.invokevirtual 292, 3) := by decide +kernel
theorem dX8_end_32 : decode cX8_end 32 = .ok (.astore 4, 2) := by decide +kernel
theorem dX8_end_34 : decode cX8_end 34 = .ok (.aload 4, 2) := by decide +kernel
theorem dX8_end_36 : decode cX8_end 36 = .ok (.ifnull 12, 3) := by decide +kernel
theorem dX8_end_39 : decode cX8_end 39 = .ok (.aload_n 0, 1) := by decide +kernel
theorem dX8_end_40 : decode cX8_end 40 = .ok (.aload 4, 2) := by decide +kernel
theorem dX8_end_42 : decode cX8_end 42 = .ok (.iload_n 3, 1) := by decide +kernel
theorem dX8_end_43 : decode cX8_end 43 = .ok (.iconst 1, 1) := by decide +kernel
theorem dX8_end_44 : decode cX8_end 44 = .ok (.iadd, 1) := by decide +kernel
theorem dX8_end_45 : decode cX8_end 45 = .ok (.invokevirtual 356, 3) := by decide +kernel
theorem dX8_end_48 : decode cX8_end 48 = .ok (.iload_n 2, 1) := by decide +kernel
theorem dX8_end_49 : decode cX8_end 49 = .ok (.iconst 3, 1) := by decide +kernel
theorem dX8_end_50 : decode cX8_end 50 = .ok (.if_icmp .eq 8, 3) := by decide +kernel
theorem dX8_end_53 : decode cX8_end 53 = .ok (.aload_n 0, 1) := by decide +kernel
theorem dX8_end_54 : decode cX8_end 54 = .ok (.aload_n 1, 1) := by decide +kernel
theorem dX8_end_55 : decode cX8_end 55 = .ok (.invokevirtual 467, 3) := by decide +kernel
theorem dX8_end_58 : decode cX8_end 58 = .ok (.return_, 1) := by decide +kernel
theorem dX8_close_0 : decode cX8_close 0 = .ok (.aload_n 1, 1) := by decide +kernel
theorem dX8_close_1 : decode cX8_close 1 = .ok (.getfield 249, 3) := by decide +kernel
theorem dX8_close_4 : decode cX8_close 4 = .ok (.bipush 8, 2) := by decide +kernel
theorem dX8_close_6 : decode cX8_close 6 = .ok (.if_icmp .ne 9, 3) := by decide +kernel
theorem dX8_close_9 : decode cX8_close 9 = .ok (.aload_n 1, 1) := by decide +kernel
theorem dX8_close_10 : decode cX8_close 10 = .ok (.bipush 7, 2) := by decide +kernel
theorem dX8_close_12 : decode cX8_close 12 = .ok (.putfield 249, 3) := by decide +kernel
theorem dX8_close_15 : decode cX8_close 15 = .ok (.iconst 0, 1) := by decide +kernel
theorem dX8_close_16 : decode cX8_close 16 = .ok (.istore_n 3, 1) := by decide +kernel
theorem dX8_close_17 : decode cX8_close 17 = .ok (.iload_n 3, 1) := by decide +kernel
theorem dX8_close_18 : decode cX8_close 18 = .ok (.aload_n 1, 1) := by decide +kernel
theorem dX8_close_19 : decode cX8_close 19 = .ok (.getfield 377, 3) := by decide +kernel
theorem dX8_close_22 : decode cX8_close 22 = .ok (.invokevirtual 82, 3) := by decide +kernel
theorem dX8_close_25 : decode cX8_close 25 = .ok (.if_icmp .ge 39, 3) := by decide +kernel
theorem dX8_close_28 : decode cX8_close 28 = .ok (.aload_n 1, 1) := by decide +kernel
theorem dX8_close_29 : decode cX8_close 29 = .ok (.getfield 377, 3) := by decide +kernel
theorem dX8_close_32 : decode cX8_close 32 = .ok (.iload_n 3, 1) := by decide +kernel
theorem dX8_close_33 : decode cX8_close 33 = .ok (.invokevirtual 98, 3) := by decide +kernel
theorem dX8_close_36 : decode cX8_close 36 = .ok (.checkcast 204, 3) := by decide +kernel
theorem dX8_close_39 : decode cX8_close 39 = .ok (.astore 4, 2) := by decide +kernel
theorem dX8_close_41 : decode cX8_close 41 = .ok (.aload 4, 2) := by decide +kernel
theorem dX8_close_43 : decode cX8_close 43 = .ok (.invokevirtual 282, 3) := by decide +kernel
theorem dX8_close_46 : decode cX8_close 46 = .ok (.ifCond .ne 12, 3) := by decide +kernel
theorem dX8_close_49 : decode cX8_close 49 = .ok (.aload_n 0, 1) := by decide +kernel
theorem dX8_close_50 : decode cX8_close 50 = .ok (.aload 4, 2) := by decide +kernel
theorem dX8_close_52 : decode cX8_close 52 = .ok (.bipush 7, 2) := by decide +kernel
theorem dX8_close_54 : decode cX8_close 54 = .ok (.iload_n 2, 1) := by decide +kernel
theorem dX8_close_55 : decode cX8_close 55 = .ok (.invokevirtual 285, 3) := by decide +kernel
theorem dX8_close_58 : decode cX8_close 58 = .ok (.iinc 3 1, 3) := by decide +kernel
theorem dX8_close_61 : decode cX8_close 61 = .ok (.goto (-44), 3) := by decide +kernel
theorem dX8_close_64 : decode cX8_close 64 = .ok (.return_, 1) := by decide +kernel
theorem dX8_beginRepairs_0 : decode cX8_beginRepairs 0 = .ok (.aload_n 1, 1) := by decide +kernel
theorem dX8_beginRepairs_1 : decode cX8_beginRepairs 1 = .ok (.getfield 224, 3) := by decide +kernel
theorem dX8_beginRepairs_4 : decode cX8_beginRepairs 4 = .ok (.invokevirtual 82, 3) := by decide +kernel
theorem dX8_beginRepairs_7 : decode cX8_beginRepairs 7 = .ok (.iconst 1, 1) := by decide +kernel
theorem dX8_beginRepairs_8 : decode cX8_beginRepairs 8 = .ok (.isub, 1) := by decide +kernel
theorem dX8_beginRepairs_9 : decode cX8_beginRepairs 9 = .ok (.istore_n 2, 1) := by decide +kernel
theorem dX8_beginRepairs_10 : decode cX8_beginRepairs 10 = .ok (.iload_n 2, 1) := by decide +kernel
theorem dX8_beginRepairs_11 : decode cX8_beginRepairs 11 = .ok (.ifCond .lt 91, 3) := by decide +kernel
theorem dX8_beginRepairs_14 : decode cX8_beginRepairs 14 = .ok (.aload_n 1, 1) := by decide +kernel
theorem dX8_beginRepairs_15 : decode cX8_beginRepairs 15 = .ok (.getfield 224, 3) := by decide +kernel
theorem dX8_beginRepairs_18 : decode cX8_beginRepairs 18 = .ok (.iload_n 2, 1) := by decide +kernel
theorem dX8_beginRepairs_19 : decode cX8_beginRepairs 19 = .ok (.invokevirtual 98, 3) := by decide +kernel
theorem dX8_beginRepairs_22 : decode cX8_beginRepairs 22 = .ok (.checkcast 132, 3) := by decide +kernel
theorem dX8_beginRepairs_25 : decode cX8_beginRepairs 25 = .ok (.astore_n 3, 1) := by decide +kernel
theorem dX8_beginRepairs_26 : decode cX8_beginRepairs 26 = .ok (.aload_n 3, 1) := by decide +kernel
theorem dX8_beginRepairs_27 : decode cX8_beginRepairs 27 = .ok (.getfield 317, 3) := by decide +kernel
theorem dX8_beginRepairs_30 : decode cX8_beginRepairs 30 = .ok (.iconst (-1), 1) := by decide +kernel
theorem dX8_beginRepairs_31 : decode cX8_beginRepairs 31 = .ok (.if_icmp .eq 65, 3) := by decide +kernel
theorem dX8_beginRepairs_34 : decode cX8_beginRepairs 34 = .ok (.aload_n 3, 1) := by decide +kernel
theorem dX8_beginRepairs_35 : decode cX8_beginRepairs 35 = .ok (.getfield 458, 3) := by decide +kernel
theorem dX8_beginRepairs_38 : decode cX8_beginRepairs 38 = .ok (.ifCond .eq 58, 3) := by decide +kernel
theorem dX8_beginRepairs_41 : decode cX8_beginRepairs 41 = .ok (.aload_n 0, 1) := by decide +kernel
theorem dX8_beginRepairs_42 : decode cX8_beginRepairs 42 = .ok (.getfield 49, 3) := by decide +kernel
theorem dX8_beginRepairs_45 : decode cX8_beginRepairs 45 = .ok (.invokevirtual 82, 3) := by decide +kernel
theorem dX8_beginRepairs_48 : decode cX8_beginRepairs 48 = .ok (.bipush 100, 2) := by decide +kernel
theorem dX8_beginRepairs_50 : decode cX8_beginRepairs 50 = .ok (.if_icmp .ge 46, 3) := by decide +kernel
theorem dX8_beginRepairs_53 : decode cX8_beginRepairs 53 = .ok (.new 132, 3) := by decide +kernel
theorem dX8_beginRepairs_56 : decode cX8_beginRepairs 56 = .ok (.dup, 1) := by decide +kernel
theorem dX8_beginRepairs_57 : decode cX8_beginRepairs 57 = .ok (.aload_n 1, 1) := by decide +kernel
theorem dX8_beginRepairs_58 : decode cX8_beginRepairs 58 = .ok (.getfield 206, 3) := by decide +kernel
theorem dX8_beginRepairs_61 : decode cX8_beginRepairs 61 = .ok (.getfield 210, 3) := by decide +kernel
theorem dX8_beginRepairs_64 : decode cX8_beginRepairs 64 = .ok (.aload_n 3, 1) := by decide +kernel
theorem dX8_beginRepairs_65 : decode cX8_beginRepairs 65 = .ok (.getfield 317, 3) := by decide +kernel
theorem dX8_beginRepairs_68 : decode cX8_beginRepairs 68 = .ok (.iconst 0, 1) := by decide +kernel
theorem dX8_beginRepairs_69 : decode cX8_beginRepairs 69 = .ok (.invokespecial 134, 3) := by decide +kernel
theorem dX8_beginRepairs_72 : decode cX8_beginRepairs 72 = .ok (.astore 4, 2) := by decide +kernel
theorem dX8_beginRepairs_74 : decode cX8_beginRepairs 74 = .ok (.aload 4, 2) := by decide +kernel
theorem dX8_beginRepairs_76 : decode cX8_beginRepairs 76 = .ok (.aload_n 0, 1) := by decide +kernel
theorem dX8_beginRepairs_77 : decode cX8_beginRepairs 77 = .ok (.getfield 49, 3) := by decide +kernel
theorem dX8_beginRepairs_80 : decode cX8_beginRepairs 80 = .ok (.invokevirtual 82, 3) := by decide +kernel
theorem dX8_beginRepairs_83 : decode cX8_beginRepairs 83 = .ok (.putfield 227, 3) := by decide +kernel
theorem dX8_beginRepairs_86 : decode cX8_beginRepairs 86 = .ok (.aload_n 0, 1) := by decide +kernel
theorem dX8_beginRepairs_87 : decode cX8_beginRepairs 87 = .ok (.getfield 49, 3) := by decide +kernel
theorem dX8_beginRepairs_90 : decode cX8_beginRepairs 90 = .ok (.aload 4, 2) := by decide +kernel
theorem dX8_beginRepairs_92 : decode cX8_beginRepairs 92 = .ok (.invokevirtual 91, 3) := by decide +kernel
theorem dX8_beginRepairs_95 : decode cX8_beginRepairs 95 = .ok (.pop, 1) := by decide +kernel
theorem dX8_beginRepairs_96 : decode cX8_beginRepairs 96 = .ok (.iinc 2 (-1), 3) := by decide +kernel
theorem dX8_beginRepairs_99 : decode cX8_beginRepairs 99 = .ok (.goto (-89), 3) := by decide +kernel
theorem dX8_beginRepairs_102 : decode cX8_beginRepairs 102 = .ok (.return_, 1) := by decide +kernel
theorem dJ9_max_7cf53_0 : decode cJ9_max_7cf53 0 = .ok (.iload_n 0, 1) := by decide +kernel
theorem dJ9_max_7cf53_1 : decode cJ9_max_7cf53 1 = .ok (.iload_n 1, 1) := by decide +kernel
theorem dJ9_max_7cf53_2 : decode cJ9_max_7cf53 2 = .ok (.if_icmp .lt 7, 3) := by decide +kernel
theorem dJ9_max_7cf53_5 : decode cJ9_max_7cf53 5 = .ok (.iload_n 0, 1) := by decide +kernel
theorem dJ9_max_7cf53_6 : decode cJ9_max_7cf53 6 = .ok (.goto 4, 3) := by decide +kernel
theorem dJ9_max_7cf53_9 : decode cJ9_max_7cf53 9 = .ok (.iload_n 1, 1) := by decide +kernel
theorem dJ9_max_7cf53_10 : decode cJ9_max_7cf53 10 = .ok (.ireturn, 1) := by decide +kernel
theorem dJ9_min_7cf53_0 : decode cJ9_min_7cf53 0 = .ok (.iload_n 0, 1) := by decide +kernel
theorem dJ9_min_7cf53_1 : decode cJ9_min_7cf53 1 = .ok (.iload_n 1, 1) := by decide +kernel
theorem dJ9_min_7cf53_2 : decode cJ9_min_7cf53 2 = .ok (.if_icmp .gt 7, 3) := by decide +kernel
theorem dJ9_min_7cf53_5 : decode cJ9_min_7cf53 5 = .ok (.iload_n 0, 1) := by decide +kernel
theorem dJ9_min_7cf53_6 : decode cJ9_min_7cf53 6 = .ok (.goto 4, 3) := by decide +kernel
theorem dJ9_min_7cf53_9 : decode cJ9_min_7cf53 9 = .ok (.iload_n 1, 1) := by decide +kernel
theorem dJ9_min_7cf53_10 : decode cJ9_min_7cf53 10 = .ok (.ireturn, 1) := by decide +kernel
theorem dJxa1e45_init_da8c8_0 : decode cJxa1e45_init_da8c8 0 = .ok (.aload_n 0, 1) := by decide +kernel
theorem dJxa1e45_init_da8c8_1 : decode cJxa1e45_init_da8c8 1 = .ok (.invokespecial 1, 3) := by decide +kernel
theorem dJxa1e45_init_da8c8_4 : decode cJxa1e45_init_da8c8 4 = .ok (.return_, 1) := by decide +kernel
theorem dJxc12de_init_da8c8_0 : decode cJxc12de_init_da8c8 0 = .ok (.aload_n 0, 1) := by decide +kernel
theorem dJxc12de_init_da8c8_1 : decode cJxc12de_init_da8c8 1 = .ok (.invokespecial 1, 3) := by decide +kernel
theorem dJxc12de_init_da8c8_4 : decode cJxc12de_init_da8c8 4 = .ok (.aload_n 0, 1) := by decide +kernel
theorem dJxc12de_init_da8c8_5 : decode cJxc12de_init_da8c8 5 = .ok (.iconst 0, 1) := by decide +kernel
theorem dJxc12de_init_da8c8_6 : decode cJxc12de_init_da8c8 6 = .ok (.putfield 7, 3) := by decide +kernel
theorem dJxc12de_init_da8c8_9 : decode cJxc12de_init_da8c8 9 = .ok (.return_, 1) := by decide +kernel
theorem dJx4a65c_init_da8c8_0 : decode cJx4a65c_init_da8c8 0 = .ok (.aload_n 0, 1) := by decide +kernel
theorem dJx4a65c_init_da8c8_1 : decode cJx4a65c_init_da8c8 1 = .ok (.invokespecial 1, 3) := by decide +kernel
theorem dJx4a65c_init_da8c8_4 : decode cJx4a65c_init_da8c8 4 = .ok (.aload_n 0, 1) := by decide +kernel
theorem dJx4a65c_init_da8c8_5 : decode cJx4a65c_init_da8c8 5 = .ok (.getstatic 39, 3) := by decide +kernel
theorem dJx4a65c_init_da8c8_8 : decode cJx4a65c_init_da8c8 8 = .ok (.putfield 9, 3) := by decide +kernel
theorem dJx4a65c_init_da8c8_11 : decode cJx4a65c_init_da8c8 11 = .ok (.return_, 1) := by decide +kernel
theorem dJx4a65c_grow_92f84_0 : decode cJx4a65c_grow_92f84 0 = .ok (.aload_n 0, 1) := by decide +kernel
theorem dJx4a65c_grow_92f84_1 : decode cJx4a65c_grow_92f84 1 = .ok (.getfield 9, 3) := by decide +kernel
theorem dJx4a65c_grow_92f84_4 : decode cJx4a65c_grow_92f84 4 = .ok (.arraylength, 1) := by decide +kernel
theorem dJx4a65c_grow_92f84_5 : decode cJx4a65c_grow_92f84 5 = .ok (.istore_n 2, 1) := by decide +kernel
theorem dJx4a65c_grow_92f84_6 : decode cJx4a65c_grow_92f84 6 = .ok (.iload_n 2, 1) := by decide +kernel
theorem dJx4a65c_grow_92f84_7 : decode cJx4a65c_grow_92f84 7 = .ok (.ifCond .gt 13, 3) := by decide +kernel
theorem dJx4a65c_grow_92f84_10 : decode cJx4a65c_grow_92f84 10 = .ok (.aload_n 0, 1) := by decide +kernel
theorem dJx4a65c_grow_92f84_11 : decode cJx4a65c_grow_92f84 11 = .ok (.getfield 9, 3) := by decide +kernel
theorem dJx4a65c_grow_92f84_14 : decode cJx4a65c_grow_92f84 14 = .ok (.getstatic 39, 3) := by decide +kernel
theorem dJx4a65c_grow_92f84_17 : decode cJx4a65c_grow_92f84 17 = .ok (.if_acmp .eq 28, 3) := by decide +kernel
theorem dJx4a65c_grow_92f84_20 : decode cJx4a65c_grow_92f84 20 = .ok (.iload_n 2, 1) := by decide +kernel
theorem dJx4a65c_grow_92f84_21 : decode cJx4a65c_grow_92f84 21 = .ok (.iload_n 1, 1) := by decide +kernel
theorem dJx4a65c_grow_92f84_22 : decode cJx4a65c_grow_92f84 22 = .ok (.iload_n 2, 1) := by decide +kernel
theorem dJx4a65c_grow_92f84_23 : decode cJx4a65c_grow_92f84 23 = .ok (.isub, 1) := by decide +kernel
theorem dJx4a65c_grow_92f84_24 : decode cJx4a65c_grow_92f84 24 = .ok (.iload_n 2, 1) := by decide +kernel
theorem dJx4a65c_grow_92f84_25 : decode cJx4a65c_grow_92f84 25 = .ok (.iconst 1, 1) := by decide +kernel
theorem dJx4a65c_grow_92f84_26 : decode cJx4a65c_grow_92f84 26 = .ok (.ishr, 1) := by decide +kernel
theorem dJx4a65c_grow_92f84_27 : decode cJx4a65c_grow_92f84 27 = .ok (.invokestatic 73, 3) := by decide +kernel
theorem dJx4a65c_grow_92f84_30 : decode cJx4a65c_grow_92f84 30 = .ok (.istore_n 3, 1) := by decide +kernel
theorem dJx4a65c_grow_92f84_31 : decode cJx4a65c_grow_92f84 31 = .ok (.aload_n 0, 1) := by decide +kernel
theorem dJx4a65c_grow_92f84_32 : decode cJx4a65c_grow_92f84 32 = .ok (.aload_n 0, 1) := by decide +kernel
theorem dJx4a65c_grow_92f84_33 : decode cJx4a65c_grow_92f84 33 = .ok (.getfield 9, 3) := by decide +kernel
theorem dJx4a65c_grow_92f84_36 : decode cJx4a65c_grow_92f84 36 = .ok (.iload_n 3, 1) := by decide +kernel
theorem dJx4a65c_grow_92f84_37 : decode cJx4a65c_grow_92f84 37 = .ok (.invokestatic 66, 3) := by decide +kernel
theorem dJx4a65c_grow_92f84_40 : decode cJx4a65c_grow_92f84 40 = .ok (.dup_x1, 1) := by decide +kernel
theorem dJx4a65c_grow_92f84_41 : decode cJx4a65c_grow_92f84 41 = .ok (.putfield 9, 3) := by decide +kernel
theorem dJx4a65c_grow_92f84_44 : decode cJx4a65c_grow_92f84 44 = .ok (.areturn, 1) := by decide +kernel
theorem dJx4a65c_grow_92f84_45 : decode cJx4a65c_grow_92f84 45 = .ok (.aload_n 0, 1) := by decide +kernel
theorem dJx4a65c_grow_92f84_46 : decode cJx4a65c_grow_92f84 46 = .ok (.bipush 10, 2) := by decide +kernel
theorem dJx4a65c_grow_92f84_48 : decode cJx4a65c_grow_92f84 48 = .ok (.iload_n 1, 1) := by decide +kernel
theorem dJx4a65c_grow_92f84_49 : decode cJx4a65c_grow_92f84 49 = .ok (.invokestatic 79, 3) := by decide +kernel
theorem dJx4a65c_grow_92f84_52 : decode cJx4a65c_grow_92f84 52 = .ok (.anewarray 7, 3) := by decide +kernel
theorem dJx4a65c_grow_92f84_55 : decode cJx4a65c_grow_92f84 55 = .ok (.dup_x1, 1) := by decide +kernel
theorem dJx4a65c_grow_92f84_56 : decode cJx4a65c_grow_92f84 56 = .ok (.putfield 9, 3) := by decide +kernel
theorem dJx4a65c_grow_92f84_59 : decode cJx4a65c_grow_92f84 59 = .ok (.areturn, 1) := by decide +kernel
theorem dJx4a65c_grow_d5877_0 : decode cJx4a65c_grow_d5877 0 = .ok (.aload_n 0, 1) := by decide +kernel
theorem dJx4a65c_grow_d5877_1 : decode cJx4a65c_grow_d5877 1 = .ok (.aload_n 0, 1) := by decide +kernel
theorem dJx4a65c_grow_d5877_2 : decode cJx4a65c_grow_d5877 2 = .ok (.getfield 48, 3) := by decide +kernel
theorem dJx4a65c_grow_d5877_5 : decode cJx4a65c_grow_d5877 5 = .ok (.iconst 1, 1) := by decide +kernel
theorem dJx4a65c_grow_d5877_6 : decode cJx4a65c_grow_d5877 6 = .ok (.iadd, 1) := by decide +kernel
theorem dJx4a65c_grow_d5877_7 : decode cJx4a65c_grow_d5877 7 = .ok (.invokevirtual 69, 3) := by decide +kernel
theorem dJx4a65c_grow_d5877_10 : decode cJx4a65c_grow_d5877 10 = .ok (.areturn, 1) := by decide +kernel
theorem dJx4a65c_size_8abf5_0 : decode cJx4a65c_size_8abf5 0 = .ok (.aload_n 0, 1) := by decide +kernel
theorem dJx4a65c_size_8abf5_1 : decode cJx4a65c_size_8abf5 1 = .ok (.getfield 48, 3) := by decide +kernel
theorem dJx4a65c_size_8abf5_4 : decode cJx4a65c_size_8abf5 4 = .ok (.ireturn, 1) := by decide +kernel
theorem dJx4a65c_isEmpty_aae02_0 : decode cJx4a65c_isEmpty_aae02 0 = .ok (.aload_n 0, 1) := by decide +kernel
theorem dJx4a65c_isEmpty_aae02_1 : decode cJx4a65c_isEmpty_aae02 1 = .ok (.getfield 48, 3) := by decide +kernel
theorem dJx4a65c_isEmpty_aae02_4 : decode cJx4a65c_isEmpty_aae02 4 = .ok (.ifCond .ne 7, 3) := by decide +kernel
theorem dJx4a65c_isEmpty_aae02_7 : decode cJx4a65c_isEmpty_aae02 7 = .ok (.iconst 1, 1) := by decide +kernel
theorem dJx4a65c_isEmpty_aae02_8 : decode cJx4a65c_isEmpty_aae02 8 = .ok (.goto 4, 3) := by decide +kernel
theorem dJx4a65c_isEmpty_aae02_11 : decode cJx4a65c_isEmpty_aae02 11 = .ok (.iconst 0, 1) := by decide +kernel
theorem dJx4a65c_isEmpty_aae02_12 : decode cJx4a65c_isEmpty_aae02 12 = .ok (.ireturn, 1) := by decide +kernel
theorem dJx4a65c_elementData_915e3_0 : decode cJx4a65c_elementData_915e3 0 = .ok (.aload_n 0, 1) := by decide +kernel
theorem dJx4a65c_elementData_915e3_1 : decode cJx4a65c_elementData_915e3 1 = .ok (.getfield 9, 3) := by decide +kernel
theorem dJx4a65c_elementData_915e3_4 : decode cJx4a65c_elementData_915e3 4 = .ok (.iload_n 1, 1) := by decide +kernel
theorem dJx4a65c_elementData_915e3_5 : decode cJx4a65c_elementData_915e3 5 = .ok (.aaload, 1) := by decide +kernel
