theorem dX6_plan_36 : decode cX6_plan 36 = .ok (.iload_n 3, 1) := by decide +kernel
theorem dX6_plan_37 : decode cX6_plan 37 = .ok (.iastore, 1) := by decide +kernel
theorem dX6_plan_38 : decode cX6_plan 38 = .ok (.aload_n 0, 1) := by decide +kernel
theorem dX6_plan_39 : decode cX6_plan 39 = .ok (.dup, 1) := by decide +kernel
theorem dX6_plan_40 : decode cX6_plan 40 = .ok (.getfield 33, 3) := by decide +kernel
theorem dX6_plan_43 : decode cX6_plan 43 = .ok (.iconst 1, 1) := by decide +kernel
theorem dX6_plan_44 : decode cX6_plan 44 = .ok (.iadd, 1) := by decide +kernel
theorem dX6_plan_45 : decode cX6_plan 45 = .ok (.putfield 33, 3) := by decide +kernel
theorem dX6_plan_48 : decode cX6_plan 48 = .ok (.return_, 1) := by decide +kernel
theorem dX7_init_0 : decode cX7_init 0 = .ok (.aload_n 0, 1) := by decide +kernel
theorem dX7_init_1 : decode cX7_init 1 = .ok (.invokespecial 3, 3) := by decide +kernel
theorem dX7_init_4 : decode cX7_init 4 = .ok (.aload_n 0, 1) := by decide +kernel
theorem dX7_init_5 : decode cX7_init 5 = .ok (.iconst (-1), 1) := by decide +kernel
theorem dX7_init_6 : decode cX7_init 6 = .ok (.putfield 9, 3) := by decide +kernel
theorem dX7_init_9 : decode cX7_init 9 = .ok (.aload_n 0, 1) := by decide +kernel
theorem dX7_init_10 : decode cX7_init 10 = .ok (.ldc 15, 2) := by decide +kernel
theorem dX7_init_12 : decode cX7_init 12 = .ok (.putfield 16, 3) := by decide +kernel
theorem dX7_init_15 : decode cX7_init 15 = .ok (.aload_n 0, 1) := by decide +kernel
theorem dX7_init_16 : decode cX7_init 16 = .ok (.iconst (-1), 1) := by decide +kernel
theorem dX7_init_17 : decode cX7_init 17 = .ok (.putfield 19, 3) := by decide +kernel
theorem dX7_init_20 : decode cX7_init 20 = .ok (.aload_n 0, 1) := by decide +kernel
theorem dX7_init_21 : decode cX7_init 21 = .ok (.iconst (-1), 1) := by decide +kernel
theorem dX7_init_22 : decode cX7_init 22 = .ok (.putfield 22, 3) := by decide +kernel
theorem dX7_init_25 : decode cX7_init 25 = .ok (.aload_n 0, 1) := by decide +kernel
theorem dX7_init_26 : decode cX7_init 26 = .ok (.new 25, 3) := by decide +kernel
theorem dX7_init_29 : decode cX7_init 29 = .ok (.dup, 1) := by decide +kernel
theorem dX7_init_30 : decode cX7_init 30 = .ok (.invokespecial 27, 3) := by decide +kernel
theorem dX7_init_33 : decode cX7_init 33 = .ok (.putfield 28, 3) := by decide +kernel
theorem dX7_init_36 : decode cX7_init 36 = .ok (.aload_n 0, 1) := by decide +kernel
theorem dX7_init_37 : decode cX7_init 37 = .ok (.iconst (-1), 1) := by decide +kernel
theorem dX7_init_38 : decode cX7_init 38 = .ok (.putfield 32, 3) := by decide +kernel
theorem dX7_init_41 : decode cX7_init 41 = .ok (.aload_n 0, 1) := by decide +kernel
theorem dX7_init_42 : decode cX7_init 42 = .ok (.bipush 8, 2) := by decide +kernel
theorem dX7_init_44 : decode cX7_init 44 = .ok (.putfield 35, 3) := by decide +kernel
theorem dX7_init_47 : decode cX7_init 47 = .ok (.aload_n 0, 1) := by decide +kernel
theorem dX7_init_48 : decode cX7_init 48 = .ok (.iload_n 1, 1) := by decide +kernel
theorem dX7_init_49 : decode cX7_init 49 = .ok (.putfield 38, 3) := by decide +kernel
theorem dX7_init_52 : decode cX7_init 52 = .ok (.aload_n 0, 1) := by decide +kernel
theorem dX7_init_53 : decode cX7_init 53 = .ok (.iload_n 2, 1) := by decide +kernel
theorem dX7_init_54 : decode cX7_init 54 = .ok (.putfield 41, 3) := by decide +kernel
theorem dX7_init_57 : decode cX7_init 57 = .ok (.aload_n 0, 1) := by decide +kernel
theorem dX7_init_58 : decode cX7_init 58 = .ok (.iload_n 3, 1) := by decide +kernel
theorem dX7_init_59 : decode cX7_init 59 = .ok (.putfield 44, 3) := by decide +kernel
theorem dX7_init_62 : decode cX7_init 62 = .ok (.return_, 1) := by decide +kernel
theorem dX7_hasTryOut_0 : decode cX7_hasTryOut 0 = .ok (.iconst 0, 1) := by decide +kernel
theorem dX7_hasTryOut_1 : decode cX7_hasTryOut 1 = .ok (.istore_n 2, 1) := by decide +kernel
theorem dX7_hasTryOut_2 : decode cX7_hasTryOut 2 = .ok (.iload_n 2, 1) := by decide +kernel
theorem dX7_hasTryOut_3 : decode cX7_hasTryOut 3 = .ok (.aload_n 0, 1) := by decide +kernel
theorem dX7_hasTryOut_4 : decode cX7_hasTryOut 4 = .ok (.getfield 28, 3) := by decide +kernel
theorem dX7_hasTryOut_7 : decode cX7_hasTryOut 7 = .ok (.invokevirtual 48, 3) := by decide +kernel
theorem dX7_hasTryOut_10 : decode cX7_hasTryOut 10 = .ok (.if_icmp .ge 29, 3) := by decide +kernel
theorem dX7_hasTryOut_13 : decode cX7_hasTryOut 13 = .ok (.aload_n 0, 1) := by decide +kernel
theorem dX7_hasTryOut_14 : decode cX7_hasTryOut 14 = .ok (.getfield 28, 3) := by decide +kernel
theorem dX7_hasTryOut_17 : decode cX7_hasTryOut 17 = .ok (.iload_n 2, 1) := by decide +kernel
theorem dX7_hasTryOut_18 : decode cX7_hasTryOut 18 = .ok (.invokevirtual 52, 3) := by decide +kernel
theorem dX7_hasTryOut_21 : decode cX7_hasTryOut 21 = .ok (.checkcast 56, 3) := by decide +kernel
theorem dX7_hasTryOut_24 : decode cX7_hasTryOut 24 = .ok (.iload_n 1, 1) := by decide +kernel
theorem dX7_hasTryOut_25 : decode cX7_hasTryOut 25 = .ok (.invokevirtual 58, 3) := by decide +kernel
theorem dX7_hasTryOut_28 : decode cX7_hasTryOut 28 = .ok (.ifCond .ne 5, 3) := by decide +kernel
theorem dX7_hasTryOut_31 : decode cX7_hasTryOut 31 = .ok (.iconst 1, 1) := by decide +kernel
theorem dX7_hasTryOut_32 : decode cX7_hasTryOut 32 = .ok (.ireturn, 1) := by decide +kernel
theorem dX7_hasTryOut_33 : decode cX7_hasTryOut 33 = .ok (.iinc 2 1, 3) := by decide +kernel
theorem dX7_hasTryOut_36 : decode cX7_hasTryOut 36 = .ok (.goto (-34), 3) := by decide +kernel
theorem dX7_hasTryOut_39 : decode cX7_hasTryOut 39 = .ok (.iconst 0, 1) := by decide +kernel
theorem dX7_hasTryOut_40 : decode cX7_hasTryOut 40 = .ok (.ireturn, 1) := by decide +kernel
theorem dX7_hasTried_0 : decode cX7_hasTried 0 = .ok (.iconst 0, 1) := by decide +kernel
theorem dX7_hasTried_1 : decode cX7_hasTried 1 = .ok (.istore_n 2, 1) := by decide +kernel
theorem dX7_hasTried_2 : decode cX7_hasTried 2 = .ok (.iload_n 2, 1) := by decide +kernel
theorem dX7_hasTried_3 : decode cX7_hasTried 3 = .ok (.aload_n 0, 1) := by decide +kernel
theorem dX7_hasTried_4 : decode cX7_hasTried 4 = .ok (.getfield 28, 3) := by decide +kernel
theorem dX7_hasTried_7 : decode cX7_hasTried 7 = .ok (.invokevirtual 48, 3) := by decide +kernel
theorem dX7_hasTried_10 : decode cX7_hasTried 10 = .ok (.if_icmp .ge 29, 3) := by decide +kernel
theorem dX7_hasTried_13 : decode cX7_hasTried 13 = .ok (.aload_n 0, 1) := by decide +kernel
theorem dX7_hasTried_14 : decode cX7_hasTried 14 = .ok (.getfield 28, 3) := by decide +kernel
theorem dX7_hasTried_17 : decode cX7_hasTried 17 = .ok (.iload_n 2, 1) := by decide +kernel
theorem dX7_hasTried_18 : decode cX7_hasTried 18 = .ok (.invokevirtual 52, 3) := by decide +kernel
theorem dX7_hasTried_21 : decode cX7_hasTried 21 = .ok (.checkcast 56, 3) := by decide +kernel
theorem dX7_hasTried_24 : decode cX7_hasTried 24 = .ok (.getfield 62, 3) := by decide +kernel
theorem dX7_hasTried_27 : decode cX7_hasTried 27 = .ok (.aload_n 1, 1) := by decide +kernel
theorem dX7_hasTried_28 : decode cX7_hasTried 28 = .ok (.if_acmp .ne 5, 3) := by decide +kernel
theorem dX7_hasTried_31 : decode cX7_hasTried 31 = .ok (.iconst 1, 1) := by decide +kernel
theorem dX7_hasTried_32 : decode cX7_hasTried 32 = .ok (.ireturn, 1) := by decide +kernel
theorem dX7_hasTried_33 : decode cX7_hasTried 33 = .ok (.iinc 2 1, 3) := by decide +kernel
theorem dX7_hasTried_36 : decode cX7_hasTried 36 = .ok (.goto (-34), 3) := by decide +kernel
theorem dX7_hasTried_39 : decode cX7_hasTried 39 = .ok (.iconst 0, 1) := by decide +kernel
theorem dX7_hasTried_40 : decode cX7_hasTried 40 = .ok (.ireturn, 1) := by decide +kernel
theorem dX8_init_0 : decode cX8_init 0 = .ok (.aload_n 0, 1) := by decide +kernel
theorem dX8_init_1 : decode cX8_init 1 = .ok (.invokespecial 3, 3) := by decide +kernel
theorem dX8_init_4 : decode cX8_init 4 = .ok (.aload_n 0, 1) := by decide +kernel
theorem dX8_init_5 : decode cX8_init 5 = .ok (.iconst 3, 1) := by decide +kernel
theorem dX8_init_6 : decode cX8_init 6 = .ok (.putfield 9, 3) := by decide +kernel
theorem dX8_init_9 : decode cX8_init 9 = .ok (.aload_n 0, 1) := by decide +kernel
theorem dX8_init_10 : decode cX8_init 10 = .ok (.iconst 4, 1) := by decide +kernel
theorem dX8_init_11 : decode cX8_init 11 = .ok (.putfield 13, 3) := by decide +kernel
theorem dX8_init_14 : decode cX8_init 14 = .ok (.aload_n 0, 1) := by decide +kernel
theorem dX8_init_15 : decode cX8_init 15 = .ok (.bipush 30, 2) := by decide +kernel
theorem dX8_init_17 : decode cX8_init 17 = .ok (.putfield 16, 3) := by decide +kernel
theorem dX8_init_20 : decode cX8_init 20 = .ok (.aload_n 0, 1) := by decide +kernel
theorem dX8_init_21 : decode cX8_init 21 = .ok (.iconst 3, 1) := by decide +kernel
theorem dX8_init_22 : decode cX8_init 22 = .ok (.bipush 49, 2) := by decide +kernel
theorem dX8_init_24 : decode cX8_init 24 = .ok (.multianewarray 19 2, 4) := by decide +kernel
theorem dX8_init_28 : decode cX8_init 28 = .ok (.putfield 21, 3) := by decide +kernel
theorem dX8_init_31 : decode cX8_init 31 = .ok (.aload_n 0, 1) := by decide +kernel
theorem dX8_init_32 : decode cX8_init 32 = .ok (.bipush 6, 2) := by decide +kernel
theorem dX8_init_34 : decode cX8_init 34 = .ok (.anewarray 24, 3) := by decide +kernel
theorem dX8_init_37 : decode cX8_init 37 = .ok (.putfield 26, 3) := by decide +kernel
theorem dX8_init_40 : decode cX8_init 40 = .ok (.aload_n 0, 1) := by decide +kernel
theorem dX8_init_41 : decode cX8_init 41 = .ok (.bipush 7, 2) := by decide +kernel
theorem dX8_init_43 : decode cX8_init 43 = .ok (.anewarray 30, 3) := by decide +kernel
theorem dX8_init_46 : decode cX8_init 46 = .ok (.putfield 32, 3) := by decide +kernel
theorem dX8_init_49 : decode cX8_init 49 = .ok (.aload_n 0, 1) := by decide +kernel
theorem dX8_init_50 : decode cX8_init 50 = .ok (.new 36, 3) := by decide +kernel
theorem dX8_init_53 : decode cX8_init 53 = .ok (.dup, 1) := by decide +kernel
theorem dX8_init_54 : decode cX8_init 54 = .ok (.invokespecial 38, 3) := by decide +kernel
theorem dX8_init_57 : decode cX8_init 57 = .ok (.putfield 39, 3) := by decide +kernel
theorem dX8_init_60 : decode cX8_init 60 = .ok (.aload_n 0, 1) := by decide +kernel
theorem dX8_init_61 : decode cX8_init 61 = .ok (.new 36, 3) := by decide +kernel
theorem dX8_init_64 : decode cX8_init 64 = .ok (.dup, 1) := by decide +kernel
theorem dX8_init_65 : decode cX8_init 65 = .ok (.invokespecial 38, 3) := by decide +kernel
theorem dX8_init_68 : decode cX8_init 68 = .ok (.putfield 43, 3) := by decide +kernel
theorem dX8_init_71 : decode cX8_init 71 = .ok (.aload_n 0, 1) := by decide +kernel
theorem dX8_init_72 : decode cX8_init 72 = .ok (.new 36, 3) := by decide +kernel
theorem dX8_init_75 : decode cX8_init 75 = .ok (.dup, 1) := by decide +kernel
theorem dX8_init_76 : decode cX8_init 76 = .ok (.invokespecial 38, 3) := by decide +kernel
theorem dX8_init_79 : decode cX8_init 79 = .ok (.putfield 46, 3) := by decide +kernel
theorem dX8_init_82 : decode cX8_init 82 = .ok (.aload_n 0, 1) := by decide +kernel
theorem dX8_init_83 : decode cX8_init 83 = .ok (.new 36, 3) := by decide +kernel
theorem dX8_init_86 : decode cX8_init 86 = .ok (.dup, 1) := by decide +kernel
theorem dX8_init_87 : decode cX8_init 87 = .ok (.invokespecial 38, 3) := by decide +kernel
theorem dX8_init_90 : decode cX8_init 90 = .ok (.putfield 49, 3) := by decide +kernel
theorem dX8_init_93 : decode cX8_init 93 = .ok (.iconst 0, 1) := by decide +kernel
theorem dX8_init_94 : decode cX8_init 94 = .ok (.istore_n 1, 1) := by decide +kernel
theorem dX8_init_95 : decode cX8_init 95 = .ok (.iload_n 1, 1) := by decide +kernel
theorem dX8_init_96 : decode cX8_init 96 = .ok (.bipush 6, 2) := by decide +kernel
theorem dX8_init_98 : decode cX8_init 98 = .ok (.if_icmp .ge 22, 3) := by decide +kernel
theorem dX8_init_101 : decode cX8_init 101 = .ok (.aload_n 0, 1) := by decide +kernel
theorem dX8_init_102 : decode cX8_init 102 = .ok (.getfield 26, 3) := by decide +kernel
theorem dX8_init_105 : decode cX8_init 105 = .ok (.iload_n 1, 1) := by decide +kernel
theorem dX8_init_106 : decode cX8_init 106 = .ok (.new 24, 3) := by decide +kernel
theorem dX8_init_109 : decode cX8_init 109 = .ok (.dup, 1) := by decide +kernel
theorem dX8_init_110 : decode cX8_init 110 = .ok (.invokespecial 52, 3) := by decide +kernel
theorem dX8_init_113 : decode cX8_init 113 = .ok (.aastore, 1) := by decide +kernel
theorem dX8_init_114 : decode cX8_init 114 = .ok (.iinc 1 1, 3) := by decide +kernel
theorem dX8_init_117 : decode cX8_init 117 = .ok (.goto (-22), 3) := by decide +kernel
theorem dX8_init_120 : decode cX8_init 120 = .ok (.iconst 0, 1) := by decide +kernel
theorem dX8_init_121 : decode cX8_init 121 = .ok (.istore_n 1, 1) := by decide +kernel
theorem dX8_init_122 : decode cX8_init 122 = .ok (.iload_n 1, 1) := by decide +kernel
theorem dX8_init_123 : decode cX8_init 123 = .ok (.bipush 7, 2) := by decide +kernel
theorem dX8_init_125 : decode cX8_init 125 = .ok (.if_icmp .ge 22, 3) := by decide +kernel
theorem dX8_init_128 : decode cX8_init 128 = .ok (.aload_n 0, 1) := by decide +kernel
theorem dX8_init_129 : decode cX8_init 129 = .ok (.getfield 32, 3) := by decide +kernel
theorem dX8_init_132 : decode cX8_init 132 = .ok (.iload_n 1, 1) := by decide +kernel
theorem dX8_init_133 : decode cX8_init 133 = .ok (.new 30, 3) := by decide +kernel
theorem dX8_init_136 : decode cX8_init 136 = .ok (.dup, 1) := by decide +kernel
theorem dX8_init_137 : decode cX8_init 137 = .ok (.invokespecial 53, 3) := by decide +kernel
theorem dX8_init_140 : decode cX8_init 140 = .ok (.aastore, 1) := by decide +kernel
theorem dX8_init_141 : decode cX8_init 141 = .ok (.iinc 1 1, 3) := by decide +kernel
theorem dX8_init_144 : decode cX8_init 144 = .ok (.goto (-22), 3) := by decide +kernel
theorem dX8_init_147 : decode cX8_init 147 = .ok (.iconst 0, 1) := by decide +kernel
theorem dX8_init_148 : decode cX8_init 148 = .ok (.istore_n 1, 1) := by decide +kernel
theorem dX8_init_149 : decode cX8_init 149 = .ok (.iload_n 1, 1) := by decide +kernel
theorem dX8_init_150 : decode cX8_init 150 = .ok (.iconst 3, 1) := by decide +kernel
theorem dX8_init_151 : decode cX8_init 151 = .ok (.if_icmp .ge 32, 3) := by decide +kernel
theorem dX8_init_154 : decode cX8_init 154 = .ok (.iconst 0, 1) := by decide +kernel
theorem dX8_init_155 : decode cX8_init 155 = .ok (.istore_n 2, 1) := by decide +kernel
theorem dX8_init_156 : decode cX8_init 156 = .ok (.iload_n 2, 1) := by decide +kernel
theorem dX8_init_157 : decode cX8_init 157 = .ok (.bipush 49, 2) := by decide +kernel
theorem dX8_init_159 : decode cX8_init 159 = .ok (.if_icmp .ge 18, 3) := by decide +kernel
theorem dX8_init_162 : decode cX8_init 162 = .ok (.aload_n 0, 1) := by decide +kernel
theorem dX8_init_163 : decode cX8_init 163 = .ok (.getfield 21, 3) := by decide +kernel
theorem dX8_init_166 : decode cX8_init 166 = .ok (.iload_n 1, 1) := by decide +kernel
theorem dX8_init_167 : decode cX8_init 167 = .ok (.aaload, 1) := by decide +kernel
theorem dX8_init_168 : decode cX8_init 168 = .ok (.iload_n 2, 1) := by decide +kernel
theorem dX8_init_169 : decode cX8_init 169 = .ok (.iconst (-1), 1) := by decide +kernel
theorem dX8_init_170 : decode cX8_init 170 = .ok (.iastore, 1) := by decide +kernel
theorem dX8_init_171 : decode cX8_init 171 = .ok (.iinc 2 1, 3) := by decide +kernel
theorem dX8_init_174 : decode cX8_init 174 = .ok (.goto (-18), 3) := by decide +kernel
theorem dX8_init_177 : decode cX8_init 177 = .ok (.iinc 1 1, 3) := by decide +kernel
theorem dX8_init_180 : decode cX8_init 180 = .ok (.goto (-31), 3) := by decide +kernel
theorem dX8_init_183 : decode cX8_init 183 = .ok (.return_, 1) := by decide +kernel
theorem dX8_work_0 : decode cX8_work 0 = .ok (.iload_n 1, 1) := by decide +kernel
theorem dX8_work_1 : decode cX8_work 1 = .ok (.iconst 0, 1) := by decide +kernel
theorem dX8_work_2 : decode cX8_work 2 = .ok (.iconst 5, 1) := by decide +kernel
theorem dX8_work_3 : decode cX8_work 3 = .ok (.invokestatic 54, 3) := by decide +kernel
theorem dX8_work_6 : decode cX8_work 6 = .ok (.invokestatic 58, 3) := by decide +kernel
theorem dX8_work_9 : decode cX8_work 9 = .ok (.iload_n 2, 1) := by decide +kernel
theorem dX8_work_10 : decode cX8_work 10 = .ok (.iconst 0, 1) := by decide +kernel
theorem dX8_work_11 : decode cX8_work 11 = .ok (.bipush 50, 2) := by decide +kernel
theorem dX8_work_13 : decode cX8_work 13 = .ok (.invokestatic 54, 3) := by decide +kernel
theorem dX8_work_16 : decode cX8_work 16 = .ok (.invokestatic 62, 3) := by decide +kernel
theorem dX8_work_19 : decode cX8_work 19 = .ok (.aload_n 0, 1) := by decide +kernel
theorem dX8_work_20 : decode cX8_work 20 = .ok (.getfield 26, 3) := by decide +kernel
theorem dX8_work_23 : decode cX8_work 23 = .ok (.iload_n 1, 1) := by decide +kernel
theorem dX8_work_24 : decode cX8_work 24 = .ok (.aaload, 1) := by decide +kernel
theorem dX8_work_25 : decode cX8_work 25 = .ok (.astore_n 3, 1) := by decide +kernel
theorem dX8_work_26 : decode cX8_work 26 = .ok (.aload_n 3, 1) := by decide +kernel
theorem dX8_work_27 : decode cX8_work 27 = .ok (.getfield 65, 3) := by decide +kernel
theorem dX8_work_30 : decode cX8_work 30 = .ok (.istore 4, 2) := by decide +kernel
theorem dX8_work_32 : decode cX8_work 32 = .ok (.aload_n 3, 1) := by decide +kernel
theorem dX8_work_33 : decode cX8_work 33 = .ok (.iload_n 2, 1) := by decide +kernel
theorem dX8_work_34 : decode cX8_work 34 = .ok (.putfield 65, 3) := by decide +kernel
theorem dX8_work_37 : decode cX8_work 37 = .ok (.iload 4, 2) := by decide +kernel
theorem dX8_work_39 : decode cX8_work 39 = .ok (.ireturn, 1) := by decide +kernel
theorem dX8_step_0 : decode cX8_step 0 = .ok (.iload_n 1, 1) := by decide +kernel
theorem dX8_step_1 : decode cX8_step 1 = .ok (.iconst 0, 1) := by decide +kernel
theorem dX8_step_2 : decode cX8_step 2 = .ok (.iconst 5, 1) := by decide +kernel
theorem dX8_step_3 : decode cX8_step 3 = .ok (.invokestatic 54, 3) := by decide +kernel
theorem dX8_step_6 : decode cX8_step 6 = .ok (.ifCond .eq 26, 3) := by decide +kernel
theorem dX8_step_9 : decode cX8_step 9 = .ok (.iload_n 2, 1) := by decide +kernel
theorem dX8_step_10 : decode cX8_step 10 = .ok (.iconst 0, 1) := by decide +kernel
theorem dX8_step_11 : decode cX8_step 11 = .ok (.iconst 5, 1) := by decide +kernel
theorem dX8_step_12 : decode cX8_step 12 = .ok (.invokestatic 54, 3) := by decide +kernel
theorem dX8_step_15 : decode cX8_step 15 = .ok (.ifCond .eq 17, 3) := by decide +kernel
theorem dX8_step_18 : decode cX8_step 18 = .ok (.iload 4, 2) := by decide +kernel
theorem dX8_step_20 : decode cX8_step 20 = .ok (.iconst (-1), 1) := by decide +kernel
theorem dX8_step_21 : decode cX8_step 21 = .ok (.iconst 5, 1) := by decide +kernel
theorem dX8_step_22 : decode cX8_step 22 = .ok (.invokestatic 54, 3) := by decide +kernel
theorem dX8_step_25 : decode cX8_step 25 = .ok (.ifCond .eq 7, 3) := by decide +kernel
theorem dX8_step_28 : decode cX8_step 28 = .ok (.iconst 1, 1) := by decide +kernel
theorem dX8_step_29 : decode cX8_step 29 = .ok (.goto 4, 3) := by decide +kernel
theorem dX8_step_32 : decode cX8_step 32 = .ok (.iconst 0, 1) := by decide +kernel
theorem dX8_step_33 : decode cX8_step 33 = .ok (.invokestatic 58, 3) := by decide +kernel
theorem dX8_step_36 : decode cX8_step 36 = .ok (.iload_n 2, 1) := by decide +kernel
theorem dX8_step_37 : decode cX8_step 37 = .ok (.iload_n 1, 1) := by decide +kernel
theorem dX8_step_38 : decode cX8_step 38 = .ok (.if_icmp .le 19, 3) := by decide +kernel
theorem dX8_step_41 : decode cX8_step 41 = .ok (.iload 4, 2) := by decide +kernel
theorem dX8_step_43 : decode cX8_step 43 = .ok (.iconst (-1), 1) := by decide +kernel
theorem dX8_step_44 : decode cX8_step 44 = .ok (.if_icmp .eq 9, 3) := by decide +kernel
theorem dX8_step_47 : decode cX8_step 47 = .ok (.iload 4, 2) := by decide +kernel
theorem dX8_step_49 : decode cX8_step 49 = .ok (.iload_n 1, 1) := by decide +kernel
theorem dX8_step_50 : decode cX8_step 50 = .ok (.if_icmp .le 7, 3) := by decide +kernel
theorem dX8_step_53 : decode cX8_step 53 = .ok (.iconst 1, 1) := by decide +kernel
theorem dX8_step_54 : decode cX8_step 54 = .ok (.goto 4, 3) := by decide +kernel
theorem dX8_step_57 : decode cX8_step 57 = .ok (.iconst 0, 1) := by decide +kernel
theorem dX8_step_58 : decode cX8_step 58 = .ok (.invokestatic 62, 3) := by decide +kernel
theorem dX8_step_61 : decode cX8_step 61 = .ok (.aload_n 0, 1) := by decide +kernel
theorem dX8_step_62 : decode cX8_step 62 = .ok (.getfield 26, 3) := by decide +kernel
theorem dX8_step_65 : decode cX8_step 65 = .ok (.iload_n 1, 1) := by decide +kernel
theorem dX8_step_66 : decode cX8_step 66 = .ok (.aaload, 1) := by decide +kernel
theorem dX8_step_67 : decode cX8_step 67 = .ok (.astore 5, 2) := by decide +kernel
theorem dX8_step_69 : decode cX8_step 69 = .ok (.aload 5, 2) := by decide +kernel
theorem dX8_step_71 : decode cX8_step 71 = .ok (.getfield 68, 3) := by decide +kernel
theorem dX8_step_74 : decode cX8_step 74 = .ok (.iconst 4, 1) := by decide +kernel
theorem dX8_step_75 : decode cX8_step 75 = .ok (.if_icmp .ge 17, 3) := by decide +kernel
theorem dX8_step_78 : decode cX8_step 78 = .ok (.aload_n 0, 1) := by decide +kernel
theorem dX8_step_79 : decode cX8_step 79 = .ok (.getfield 43, 3) := by decide +kernel
theorem dX8_step_82 : decode cX8_step 82 = .ok (.invokevirtual 71, 3) := by decide +kernel
theorem dX8_step_85 : decode cX8_step 85 = .ok (.ifCond .eq 7, 3) := by decide +kernel
theorem dX8_step_88 : decode cX8_step 88 = .ok (.iconst 1, 1) := by decide +kernel
theorem dX8_step_89 : decode cX8_step 89 = .ok (.goto 4, 3) := by decide +kernel
theorem dX8_step_92 : decode cX8_step 92 = .ok (.iconst 0, 1) := by decide +kernel
theorem dX8_step_93 : decode cX8_step 93 = .ok (.invokestatic 75, 3) := by decide +kernel
theorem dX8_step_96 : decode cX8_step 96 = .ok (.aload 5, 2) := by decide +kernel
theorem dX8_step_98 : decode cX8_step 98 = .ok (.iload_n 2, 1) := by decide +kernel
theorem dX8_step_99 : decode cX8_step 99 = .ok (.iload_n 3, 1) := by decide +kernel
theorem dX8_step_100 : decode cX8_step 100 = .ok (.iload 4, 2) := by decide +kernel
theorem dX8_step_102 : decode cX8_step 102 = .ok (.invokevirtual 78, 3) := by decide +kernel
theorem dX8_step_105 : decode cX8_step 105 = .ok (.aload 5, 2) := by decide +kernel
theorem dX8_step_107 : decode cX8_step 107 = .ok (.getfield 68, 3) := by decide +kernel
theorem dX8_step_110 : decode cX8_step 110 = .ok (.ireturn, 1) := by decide +kernel
theorem dX8_instance_0 : decode cX8_instance 0 = .ok (.iload_n 1, 1) := by decide +kernel
theorem dX8_instance_1 : decode cX8_instance 1 = .ok (.iconst 0, 1) := by decide +kernel
theorem dX8_instance_2 : decode cX8_instance 2 = .ok (.iconst 5, 1) := by decide +kernel
theorem dX8_instance_3 : decode cX8_instance 3 = .ok (.invokestatic 54, 3) := by decide +kernel
theorem dX8_instance_6 : decode cX8_instance 6 = .ok (.invokestatic 58, 3) := by decide +kernel
theorem dX8_instance_9 : decode cX8_instance 9 = .ok (.iload_n 2, 1) := by decide +kernel
theorem dX8_instance_10 : decode cX8_instance 10 = .ok (.iconst 0, 1) := by decide +kernel
theorem dX8_instance_11 : decode cX8_instance 11 = .ok (.iconst 2, 1) := by decide +kernel
theorem dX8_instance_12 : decode cX8_instance 12 = .ok (.invokestatic 54, 3) := by decide +kernel
theorem dX8_instance_15 : decode cX8_instance 15 = .ok (.ifCond .eq 28, 3) := by decide +kernel
theorem dX8_instance_18 : decode cX8_instance 18 = .ok (.iload_n 3, 1) := by decide +kernel
theorem dX8_instance_19 : decode cX8_instance 19 = .ok (.iconst 1, 1) := by decide +kernel
theorem dX8_instance_20 : decode cX8_instance 20 = .ok (.bipush 9, 2) := by decide +kernel
theorem dX8_instance_22 : decode cX8_instance 22 = .ok (.invokestatic 54, 3) := by decide +kernel
theorem dX8_instance_25 : decode cX8_instance 25 = .ok (.ifCond .eq 18, 3) := by decide +kernel
theorem dX8_instance_28 : decode cX8_instance 28 = .ok (.iload 4, 2) := by decide +kernel
theorem dX8_instance_30 : decode cX8_instance 30 = .ok (.iconst 1, 1) := by decide +kernel
theorem dX8_instance_31 : decode cX8_instance 31 = .ok (.bipush 9, 2) := by decide +kernel
theorem dX8_instance_33 : decode cX8_instance 33 = .ok (.invokestatic 54, 3) := by decide +kernel
theorem dX8_instance_36 : decode cX8_instance 36 = .ok (.ifCond .eq 7, 3) := by decide +kernel
theorem dX8_instance_39 : decode cX8_instance 39 = .ok (.iconst 1, 1) := by decide +kernel
theorem dX8_instance_40 : decode cX8_instance 40 = .ok (.goto 4, 3) := by decide +kernel
theorem dX8_instance_43 : decode cX8_instance 43 = .ok (.iconst 0, 1) := by decide +kernel
theorem dX8_instance_44 : decode cX8_instance 44 = .ok (.invokestatic 62, 3) := by decide +kernel
theorem dX8_instance_47 : decode cX8_instance 47 = .ok (.iload 5, 2) := by decide +kernel
theorem dX8_instance_49 : decode cX8_instance 49 = .ok (.iconst 0, 1) := by decide +kernel
theorem dX8_instance_50 : decode cX8_instance 50 = .ok (.bipush 9, 2) := by decide +kernel
theorem dX8_instance_52 : decode cX8_instance 52 = .ok (.invokestatic 54, 3) := by decide +kernel
theorem dX8_instance_55 : decode cX8_instance 55 = .ok (.ifCond .eq 17, 3) := by decide +kernel
theorem dX8_instance_58 : decode cX8_instance 58 = .ok (.iload 6, 2) := by decide +kernel
theorem dX8_instance_60 : decode cX8_instance 60 = .ok (.iconst 0, 1) := by decide +kernel
theorem dX8_instance_61 : decode cX8_instance 61 = .ok (.iconst 1, 1) := by decide +kernel
theorem dX8_instance_62 : decode cX8_instance 62 = .ok (.invokestatic 54, 3) := by decide +kernel
theorem dX8_instance_65 : decode cX8_instance 65 = .ok (.ifCond .eq 7, 3) := by decide +kernel
theorem dX8_instance_68 : decode cX8_instance 68 = .ok (.iconst 1, 1) := by decide +kernel
theorem dX8_instance_69 : decode cX8_instance 69 = .ok (.goto 4, 3) := by decide +kernel
theorem dX8_instance_72 : decode cX8_instance 72 = .ok (.iconst 0, 1) := by decide +kernel
theorem dX8_instance_73 : decode cX8_instance 73 = .ok (.invokestatic 62, 3) := by decide +kernel
theorem dX8_instance_76 : decode cX8_instance 76 = .ok (.aload_n 0, 1) := by decide +kernel
theorem dX8_instance_77 : decode cX8_instance 77 = .ok (.getfield 39, 3) := by decide +kernel
theorem dX8_instance_80 : decode cX8_instance 80 = .ok (.invokevirtual 82, 3) := by decide +kernel
theorem dX8_instance_83 : decode cX8_instance 83 = .ok (.bipush 12, 2) := by decide +kernel
theorem dX8_instance_85 : decode cX8_instance 85 = .ok (.if_icmp .ge 7, 3) := by decide +kernel
theorem dX8_instance_88 : decode cX8_instance 88 = .ok (.iconst 1, 1) := by decide +kernel
theorem dX8_instance_89 : decode cX8_instance 89 = .ok (.goto 4, 3) := by decide +kernel
theorem dX8_instance_92 : decode cX8_instance 92 = .ok (.iconst 0, 1) := by decide +kernel
theorem dX8_instance_93 : decode cX8_instance 93 = .ok (.invokestatic 75, 3) := by decide +kernel
theorem dX8_instance_96 : decode cX8_instance 96 = .ok (.new 86, 3) := by decide +kernel
theorem dX8_instance_99 : decode cX8_instance 99 = .ok (.dup, 1) := by decide +kernel
theorem dX8_instance_100 : decode cX8_instance 100 = .ok (.aload_n 0, 1) := by decide +kernel
theorem dX8_instance_101 : decode cX8_instance 101 = .ok (.getfield 39, 3) := by decide +kernel
theorem dX8_instance_104 : decode cX8_instance 104 = .ok (.invokevirtual 82, 3) := by decide +kernel
theorem dX8_instance_107 : decode cX8_instance 107 = .ok (.iload_n 1, 1) := by decide +kernel
theorem dX8_instance_108 : decode cX8_instance 108 = .ok (.iload_n 2, 1) := by decide +kernel
theorem dX8_instance_109 : decode cX8_instance 109 = .ok (.iload_n 3, 1) := by decide +kernel
theorem dX8_instance_110 : decode cX8_instance 110 = .ok (.iload 4, 2) := by decide +kernel
theorem dX8_instance_112 : decode cX8_instance 112 = .ok (.iload 5, 2) := by decide +kernel
theorem dX8_instance_114 : decode cX8_instance 114 = .ok (.iload 6, 2) := by decide +kernel
theorem dX8_instance_116 : decode cX8_instance 116 = .ok (.invokespecial 88, 3) := by decide +kernel
theorem dX8_instance_119 : decode cX8_instance 119 = .ok (.astore 7, 2) := by decide +kernel
theorem dX8_instance_121 : decode cX8_instance 121 = .ok (.aload_n 0, 1) := by decide +kernel
theorem dX8_instance_122 : decode cX8_instance 122 = .ok (.getfield 39, 3) := by decide +kernel
theorem dX8_instance_125 : decode cX8_instance 125 = .ok (.aload 7, 2) := by decide +kernel
theorem dX8_instance_127 : decode cX8_instance 127 = .ok (.invokevirtual 91, 3) := by decide +kernel
theorem dX8_instance_130 : decode cX8_instance 130 = .ok (.pop, 1) := by decide +kernel
theorem dX8_instance_131 : decode cX8_instance 131 = .ok (.aload 7, 2) := by decide +kernel
theorem dX8_instance_133 : decode cX8_instance 133 = .ok (.getfield 95, 3) := by decide +kernel
theorem dX8_instance_136 : decode cX8_instance 136 = .ok (.ireturn, 1) := by decide +kernel
theorem dX8_fault_0 : decode cX8_fault 0 = .ok (.iload_n 1, 1) := by decide +kernel
theorem dX8_fault_1 : decode cX8_fault 1 = .ok (.iconst 0, 1) := by decide +kernel
theorem dX8_fault_2 : decode cX8_fault 2 = .ok (.aload_n 0, 1) := by decide +kernel
theorem dX8_fault_3 : decode cX8_fault 3 = .ok (.getfield 39, 3) := by decide +kernel
theorem dX8_fault_6 : decode cX8_fault 6 = .ok (.invokevirtual 82, 3) := by decide +kernel
theorem dX8_fault_9 : decode cX8_fault 9 = .ok (.iconst 1, 1) := by decide +kernel
theorem dX8_fault_10 : decode cX8_fault 10 = .ok (.isub, 1) := by decide +kernel
theorem dX8_fault_11 : decode cX8_fault 11 = .ok (.invokestatic 54, 3) := by decide +kernel
theorem dX8_fault_14 : decode cX8_fault 14 = .ok (.invokestatic 58, 3) := by decide +kernel
theorem dX8_fault_17 : decode cX8_fault 17 = .ok (.iload_n 2, 1) := by decide +kernel
theorem dX8_fault_18 : decode cX8_fault 18 = .ok (.iconst 0, 1) := by decide +kernel
theorem dX8_fault_19 : decode cX8_fault 19 = .ok (.iconst 3, 1) := by decide +kernel
theorem dX8_fault_20 : decode cX8_fault 20 = .ok (.invokestatic 54, 3) := by decide +kernel
theorem dX8_fault_23 : decode cX8_fault 23 = .ok (.invokestatic 62, 3) := by decide +kernel
theorem dX8_fault_26 : decode cX8_fault 26 = .ok (.iload_n 3, 1) := by decide +kernel
theorem dX8_fault_27 : decode cX8_fault 27 = .ok (.iconst 0, 1) := by decide +kernel
theorem dX8_fault_28 : decode cX8_fault 28 = .ok (.iload_n 2, 1) := by decide +kernel
theorem dX8_fault_29 : decode cX8_fault 29 = .ok (.ifCond .ne 8, 3) := by decide +kernel
theorem dX8_fault_32 : decode cX8_fault 32 = .ok (.bipush 50, 2) := by decide +kernel
theorem dX8_fault_34 : decode cX8_fault 34 = .ok (.goto 4, 3) := by decide +kernel
theorem dX8_fault_37 : decode cX8_fault 37 = .ok (.iconst 1, 1) := by decide +kernel
theorem dX8_fault_38 : decode cX8_fault 38 = .ok (.invokestatic 54, 3) := by decide +kernel
theorem dX8_fault_41 : decode cX8_fault 41 = .ok (.invokestatic 62, 3) := by decide +kernel
theorem dX8_fault_44 : decode cX8_fault 44 = .ok (.aload_n 0, 1) := by decide +kernel
theorem dX8_fault_45 : decode cX8_fault 45 = .ok (.getfield 39, 3) := by decide +kernel
theorem dX8_fault_48 : decode cX8_fault 48 = .ok (.iload_n 1, 1) := by decide +kernel
theorem dX8_fault_49 : decode cX8_fault 49 = .ok (.invokevirtual 98, 3) := by decide +kernel
theorem dX8_fault_52 : decode cX8_fault 52 = .ok (.checkcast 86, 3) := by decide +kernel
theorem dX8_fault_55 : decode cX8_fault 55 = .ok (.getfield 102, 3) := by decide +kernel
theorem dX8_fault_58 : decode cX8_fault 58 = .ok (.astore 4, 2) := by decide +kernel
theorem dX8_fault_60 : decode cX8_fault 60 = .ok (.aload 4, 2) := by decide +kernel
theorem dX8_fault_62 : decode cX8_fault 62 = .ok (.iload_n 2, 1) := by decide +kernel
theorem dX8_fault_63 : decode cX8_fault 63 = .ok (.iaload, 1) := by decide +kernel
theorem dX8_fault_64 : decode cX8_fault 64 = .ok (.istore 5, 2) := by decide +kernel
theorem dX8_fault_66 : decode cX8_fault 66 = .ok (.aload 4, 2) := by decide +kernel
theorem dX8_fault_68 : decode cX8_fault 68 = .ok (.iload_n 2, 1) := by decide +kernel
theorem dX8_fault_69 : decode cX8_fault 69 = .ok (.iload_n 3, 1) := by decide +kernel
theorem dX8_fault_70 : decode cX8_fault 70 = .ok (.iastore, 1) := by decide +kernel
theorem dX8_fault_71 : decode cX8_fault 71 = .ok (.iload 5, 2) := by decide +kernel
theorem dX8_fault_73 : decode cX8_fault 73 = .ok (.ireturn, 1) := by decide +kernel
theorem dX8_policy_0 : decode cX8_policy 0 = .ok (.iload_n 1, 1) := by decide +kernel
theorem dX8_policy_1 : decode cX8_policy 1 = .ok (.iconst (-1), 1) := by decide +kernel
theorem dX8_policy_2 : decode cX8_policy 2 = .ok (.bipush 6, 2) := by decide +kernel
theorem dX8_policy_4 : decode cX8_policy 4 = .ok (.invokestatic 54, 3) := by decide +kernel
theorem dX8_policy_7 : decode cX8_policy 7 = .ok (.ifCond .eq 16, 3) := by decide +kernel
theorem dX8_policy_10 : decode cX8_policy 10 = .ok (.iload_n 2, 1) := by decide +kernel
theorem dX8_policy_11 : decode cX8_policy 11 = .ok (.iconst (-1), 1) := by decide +kernel
theorem dX8_policy_12 : decode cX8_policy 12 = .ok (.iconst 5, 1) := by decide +kernel
theorem dX8_policy_13 : decode cX8_policy 13 = .ok (.invokestatic 54, 3) := by decide +kernel
theorem dX8_policy_16 : decode cX8_policy 16 = .ok (.ifCond .eq 7, 3) := by decide +kernel
theorem dX8_policy_19 : decode cX8_policy 19 = .ok (.iconst 1, 1) := by decide +kernel
theorem dX8_policy_20 : decode cX8_policy 20 = .ok (.goto 4, 3) := by decide +kernel
theorem dX8_policy_23 : decode cX8_policy 23 = .ok (.iconst 0, 1) := by decide +kernel
theorem dX8_policy_24 : decode cX8_policy 24 = .ok (.invokestatic 58, 3) := by decide +kernel
theorem dX8_policy_27 : decode cX8_policy 27 = .ok (.iload_n 1, 1) := by decide +kernel
theorem dX8_policy_28 : decode cX8_policy 28 = .ok (.iconst (-1), 1) := by decide +kernel
theorem dX8_policy_29 : decode cX8_policy 29 = .ok (.if_icmp .eq 8, 3) := by decide +kernel
theorem dX8_policy_32 : decode cX8_policy 32 = .ok (.iload_n 2, 1) := by decide +kernel
theorem dX8_policy_33 : decode cX8_policy 33 = .ok (.iconst (-1), 1) := by decide +kernel
theorem dX8_policy_34 : decode cX8_policy 34 = .ok (.if_icmp .eq 7, 3) := by decide +kernel
theorem dX8_policy_37 : decode cX8_policy 37 = .ok (.iconst 1, 1) := by decide +kernel
theorem dX8_policy_38 : decode cX8_policy 38 = .ok (.goto 4, 3) := by decide +kernel
theorem dX8_policy_41 : decode cX8_policy 41 = .ok (.iconst 0, 1) := by decide +kernel
theorem dX8_policy_42 : decode cX8_policy 42 = .ok (.invokestatic 62, 3) := by decide +kernel
theorem dX8_policy_45 : decode cX8_policy 45 = .ok (.iload_n 3, 1) := by decide +kernel
theorem dX8_policy_46 : decode cX8_policy 46 = .ok (.iconst 0, 1) := by decide +kernel
theorem dX8_policy_47 : decode cX8_policy 47 = .ok (.iconst 2, 1) := by decide +kernel
theorem dX8_policy_48 : decode cX8_policy 48 = .ok (.invokestatic 54, 3) := by decide +kernel
theorem dX8_policy_51 : decode cX8_policy 51 = .ok (.invokestatic 62, 3) := by decide +kernel
theorem dX8_policy_54 : decode cX8_policy 54 = .ok (.iload 4, 2) := by decide +kernel
theorem dX8_policy_56 : decode cX8_policy 56 = .ok (.getstatic 106, 3) := by decide +kernel
theorem dX8_policy_59 : decode cX8_policy 59 = .ok (.iload_n 3, 1) := by decide +kernel
theorem dX8_policy_60 : decode cX8_policy 60 = .ok (.iaload, 1) := by decide +kernel
theorem dX8_policy_61 : decode cX8_policy 61 = .ok (.getstatic 109, 3) := by decide +kernel
theorem dX8_policy_64 : decode cX8_policy 64 = .ok (.iload_n 3, 1) := by decide +kernel
theorem dX8_policy_65 : decode cX8_policy 65 = .ok (.iaload, 1) := by decide +kernel
theorem dX8_policy_66 : decode cX8_policy 66 = .ok (.invokestatic 54, 3) := by decide +kernel
theorem dX8_policy_69 : decode cX8_policy 69 = .ok (.invokestatic 62, 3) := by decide +kernel
theorem dX8_policy_72 : decode cX8_policy 72 = .ok (.iload_n 1, 1) := by decide +kernel
theorem dX8_policy_73 : decode cX8_policy 73 = .ok (.iload_n 2, 1) := by decide +kernel
theorem dX8_policy_74 : decode cX8_policy 74 = .ok (.invokestatic 112, 3) := by decide +kernel
theorem dX8_policy_77 : decode cX8_policy 77 = .ok (.istore 5, 2) := by decide +kernel
theorem dX8_policy_79 : decode cX8_policy 79 = .ok (.aload_n 0, 1) := by decide +kernel
theorem dX8_policy_80 : decode cX8_policy 80 = .ok (.getfield 21, 3) := by decide +kernel
theorem dX8_policy_83 : decode cX8_policy 83 = .ok (.iload_n 3, 1) := by decide +kernel
theorem dX8_policy_84 : decode cX8_policy 84 = .ok (.aaload, 1) := by decide +kernel
theorem dX8_policy_85 : decode cX8_policy 85 = .ok (.iload 5, 2) := by decide +kernel
theorem dX8_policy_87 : decode cX8_policy 87 = .ok (.iaload, 1) := by decide +kernel
theorem dX8_policy_88 : decode cX8_policy 88 = .ok (.istore 6, 2) := by decide +kernel
theorem dX8_policy_90 : decode cX8_policy 90 = .ok (.aload_n 0, 1) := by decide +kernel
theorem dX8_policy_91 : decode cX8_policy 91 = .ok (.getfield 21, 3) := by decide +kernel
theorem dX8_policy_94 : decode cX8_policy 94 = .ok (.iload_n 3, 1) := by decide +kernel
theorem dX8_policy_95 : decode cX8_policy 95 = .ok (.aaload, 1) := by decide +kernel
theorem dX8_policy_96 : decode cX8_policy 96 = .ok (.iload 5, 2) := by decide +kernel
theorem dX8_policy_98 : decode cX8_policy 98 = .ok (.iload 4, 2) := by decide +kernel
theorem dX8_policy_100 : decode cX8_policy 100 = .ok (.iastore, 1) := by decide +kernel
theorem dX8_policy_101 : decode cX8_policy 101 = .ok (.iload 6, 2) := by decide +kernel
theorem dX8_policy_103 : decode cX8_policy 103 = .ok (.ireturn, 1) := by decide +kernel
theorem dX8_share_0 : decode cX8_share 0 = .ok (.iload_n 1, 1) := by decide +kernel
theorem dX8_share_1 : decode cX8_share 1 = .ok (.iconst 0, 1) := by decide +kernel
theorem dX8_share_2 : decode cX8_share 2 = .ok (.bipush 6, 2) := by decide +kernel
theorem dX8_share_4 : decode cX8_share 4 = .ok (.invokestatic 54, 3) := by decide +kernel
theorem dX8_share_7 : decode cX8_share 7 = .ok (.invokestatic 58, 3) := by decide +kernel
theorem dX8_share_10 : decode cX8_share 10 = .ok (.iload_n 2, 1) := by decide +kernel
theorem dX8_share_11 : decode cX8_share 11 = .ok (.iconst 0, 1) := by decide +kernel
theorem dX8_share_12 : decode cX8_share 12 = .ok (.bipush 100, 2) := by decide +kernel
theorem dX8_share_14 : decode cX8_share 14 = .ok (.invokestatic 54, 3) := by decide +kernel
theorem dX8_share_17 : decode cX8_share 17 = .ok (.invokestatic 62, 3) := by decide +kernel
theorem dX8_share_20 : decode cX8_share 20 = .ok (.aload_n 0, 1) := by decide +kernel
theorem dX8_share_21 : decode cX8_share 21 = .ok (.getfield 32, 3) := by decide +kernel
theorem dX8_share_24 : decode cX8_share 24 = .ok (.iload_n 1, 1) := by decide +kernel
theorem dX8_share_25 : decode cX8_share 25 = .ok (.aaload, 1) := by decide +kernel
theorem dX8_share_26 : decode cX8_share 26 = .ok (.astore_n 3, 1) := by decide +kernel
theorem dX8_share_27 : decode cX8_share 27 = .ok (.aload_n 3, 1) := by decide +kernel
theorem dX8_share_28 : decode cX8_share 28 = .ok (.getfield 116, 3) := by decide +kernel
theorem dX8_share_31 : decode cX8_share 31 = .ok (.istore 4, 2) := by decide +kernel
theorem dX8_share_33 : decode cX8_share 33 = .ok (.aload_n 3, 1) := by decide +kernel
theorem dX8_share_34 : decode cX8_share 34 = .ok (.iload_n 2, 1) := by decide +kernel
theorem dX8_share_35 : decode cX8_share 35 = .ok (.putfield 116, 3) := by decide +kernel
theorem dX8_share_38 : decode cX8_share 38 = .ok (.iload 4, 2) := by decide +kernel
theorem dX8_share_40 : decode cX8_share 40 = .ok (.ireturn, 1) := by decide +kernel
theorem dX8_eyes_0 : decode cX8_eyes 0 = .ok (.iload_n 1, 1) := by decide +kernel
theorem dX8_eyes_1 : decode cX8_eyes 1 = .ok (.iconst 1, 1) := by decide +kernel
theorem dX8_eyes_2 : decode cX8_eyes 2 = .ok (.bipush 7, 2) := by decide +kernel
theorem dX8_eyes_4 : decode cX8_eyes 4 = .ok (.invokestatic 54, 3) := by decide +kernel
theorem dX8_eyes_7 : decode cX8_eyes 7 = .ok (.invokestatic 62, 3) := by decide +kernel
theorem dX8_eyes_10 : decode cX8_eyes 10 = .ok (.aload_n 0, 1) := by decide +kernel
theorem dX8_eyes_11 : decode cX8_eyes 11 = .ok (.getfield 9, 3) := by decide +kernel
theorem dX8_eyes_14 : decode cX8_eyes 14 = .ok (.istore_n 2, 1) := by decide +kernel
theorem dX8_eyes_15 : decode cX8_eyes 15 = .ok (.aload_n 0, 1) := by decide +kernel
theorem dX8_eyes_16 : decode cX8_eyes 16 = .ok (.iload_n 1, 1) := by decide +kernel
theorem dX8_eyes_17 : decode cX8_eyes 17 = .ok (.putfield 9, 3) := by decide +kernel
theorem dX8_eyes_20 : decode cX8_eyes 20 = .ok (.iload_n 2, 1) := by decide +kernel
theorem dX8_eyes_21 : decode cX8_eyes 21 = .ok (.ireturn, 1) := by decide +kernel
theorem dX8_canary_0 : decode cX8_canary 0 = .ok (.iload_n 1, 1) := by decide +kernel
theorem dX8_canary_1 : decode cX8_canary 1 = .ok (.iconst 0, 1) := by decide +kernel
theorem dX8_canary_2 : decode cX8_canary 2 = .ok (.iconst 5, 1) := by decide +kernel
theorem dX8_canary_3 : decode cX8_canary 3 = .ok (.invokestatic 54, 3) := by decide +kernel
theorem dX8_canary_6 : decode cX8_canary 6 = .ok (.invokestatic 58, 3) := by decide +kernel
theorem dX8_canary_9 : decode cX8_canary 9 = .ok (.iload_n 2, 1) := by decide +kernel
theorem dX8_canary_10 : decode cX8_canary 10 = .ok (.iconst 0, 1) := by decide +kernel
theorem dX8_canary_11 : decode cX8_canary 11 = .ok (.bipush 100, 2) := by decide +kernel
theorem dX8_canary_13 : decode cX8_canary 13 = .ok (.invokestatic 54, 3) := by decide +kernel
theorem dX8_canary_16 : decode cX8_canary 16 = .ok (.invokestatic 62, 3) := by decide +kernel
theorem dX8_canary_19 : decode cX8_canary 19 = .ok (.aload_n 0, 1) := by decide +kernel
theorem dX8_canary_20 : decode cX8_canary 20 = .ok (.getfield 26, 3) := by decide +kernel
theorem dX8_canary_23 : decode cX8_canary 23 = .ok (.iload_n 1, 1) := by decide +kernel
theorem dX8_canary_24 : decode cX8_canary 24 = .ok (.aaload, 1) := by decide +kernel
theorem dX8_canary_25 : decode cX8_canary 25 = .ok (.getfield 119, 3) := by decide +kernel
theorem dX8_canary_28 : decode cX8_canary 28 = .ok (.astore_n 3, 1) := by decide +kernel
theorem dX8_canary_29 : decode cX8_canary 29 = .ok (.aload_n 3, 1) := by decide +kernel
theorem dX8_canary_30 : decode cX8_canary 30 = .ok (.getfield 123, 3) := by decide +kernel
theorem dX8_canary_33 : decode cX8_canary 33 = .ok (.istore 4, 2) := by decide +kernel
theorem dX8_canary_35 : decode cX8_canary 35 = .ok (.aload_n 3, 1) := by decide +kernel
theorem dX8_canary_36 : decode cX8_canary 36 = .ok (.iload_n 2, 1) := by decide +kernel
theorem dX8_canary_37 : decode cX8_canary 37 = .ok (.invokevirtual 128, 3) := by decide +kernel
theorem dX8_canary_40 : decode cX8_canary 40 = .ok (.iload 4, 2) := by decide +kernel
theorem dX8_canary_42 : decode cX8_canary 42 = .ok (.ireturn, 1) := by decide +kernel
theorem dX8_request_0 : decode cX8_request 0 = .ok (.iload_n 1, 1) := by decide +kernel
theorem dX8_request_1 : decode cX8_request 1 = .ok (.iconst 0, 1) := by decide +kernel
theorem dX8_request_2 : decode cX8_request 2 = .ok (.iconst 5, 1) := by decide +kernel
theorem dX8_request_3 : decode cX8_request 3 = .ok (.invokestatic 54, 3) := by decide +kernel
theorem dX8_request_6 : decode cX8_request 6 = .ok (.invokestatic 58, 3) := by decide +kernel
theorem dX8_request_9 : decode cX8_request 9 = .ok (.iload_n 3, 1) := by decide +kernel
theorem dX8_request_10 : decode cX8_request 10 = .ok (.iconst 1, 1) := by decide +kernel
theorem dX8_request_11 : decode cX8_request 11 = .ok (.sipush 200, 3) := by decide +kernel
theorem dX8_request_14 : decode cX8_request 14 = .ok (.invokestatic 54, 3) := by decide +kernel
theorem dX8_request_17 : decode cX8_request 17 = .ok (.invokestatic 62, 3) := by decide +kernel
theorem dX8_request_20 : decode cX8_request 20 = .ok (.aload_n 0, 1) := by decide +kernel
theorem dX8_request_21 : decode cX8_request 21 = .ok (.getfield 43, 3) := by decide +kernel
theorem dX8_request_24 : decode cX8_request 24 = .ok (.invokevirtual 82, 3) := by decide +kernel
theorem dX8_request_27 : decode cX8_request 27 = .ok (.bipush 40, 2) := by decide +kernel
theorem dX8_request_29 : decode cX8_request 29 = .ok (.if_icmp .ge 7, 3) := by decide +kernel
theorem dX8_request_32 : decode cX8_request 32 = .ok (.iconst 1, 1) := by decide +kernel
theorem dX8_request_33 : decode cX8_request 33 = .ok (.goto 4, 3) := by decide +kernel
theorem dX8_request_36 : decode cX8_request 36 = .ok (.iconst 0, 1) := by decide +kernel
theorem dX8_request_37 : decode cX8_request 37 = .ok (.invokestatic 75, 3) := by decide +kernel
theorem dX8_request_40 : decode cX8_request 40 = .ok (.new 132, 3) := by decide +kernel
theorem dX8_request_43 : decode cX8_request 43 = .ok (.dup, 1) := by decide +kernel
theorem dX8_request_44 : decode cX8_request 44 = .ok (.bipush 6, 2) := by decide +kernel
theorem dX8_request_46 : decode cX8_request 46 = .ok (.iload_n 1, 1) := by decide +kernel
theorem dX8_request_47 : decode cX8_request 47 = .ok (.iload_n 2, 1) := by decide +kernel
theorem dX8_request_48 : decode cX8_request 48 = .ok (.invokespecial 134, 3) := by decide +kernel
theorem dX8_request_51 : decode cX8_request 51 = .ok (.astore 4, 2) := by decide +kernel
theorem dX8_request_53 : decode cX8_request 53 = .ok (.aload 4, 2) := by decide +kernel
theorem dX8_request_55 : decode cX8_request 55 = .ok (.aload_n 0, 1) := by decide +kernel
theorem dX8_request_56 : decode cX8_request 56 = .ok (.getfield 43, 3) := by decide +kernel
theorem dX8_request_59 : decode cX8_request 59 = .ok (.invokevirtual 82, 3) := by decide +kernel
theorem dX8_request_62 : decode cX8_request 62 = .ok (.putfield 137, 3) := by decide +kernel
theorem dX8_request_65 : decode cX8_request 65 = .ok (.aload 4, 2) := by decide +kernel
theorem dX8_request_67 : decode cX8_request 67 = .ok (.aload_n 0, 1) := by decide +kernel
theorem dX8_request_68 : decode cX8_request 68 = .ok (.getfield 140, 3) := by decide +kernel
theorem dX8_request_71 : decode cX8_request 71 = .ok (.iload_n 3, 1) := by decide +kernel
theorem dX8_request_72 : decode cX8_request 72 = .ok (.iadd, 1) := by decide +kernel
theorem dX8_request_73 : decode cX8_request 73 = .ok (.putfield 143, 3) := by decide +kernel
theorem dX8_request_76 : decode cX8_request 76 = .ok (.new 146, 3) := by decide +kernel
theorem dX8_request_79 : decode cX8_request 79 = .ok (.dup, 1) := by decide +kernel
theorem dX8_request_80 : decode cX8_request 80 = .ok (.aload 4, 2) := by decide +kernel
theorem dX8_request_82 : decode cX8_request 82 = .ok (.aload_n 0, 1) := by decide +kernel
theorem dX8_request_83 : decode cX8_request 83 = .ok (.getfield 140, 3) := by decide +kernel
theorem dX8_request_86 : decode cX8_request 86 = .ok (.invokespecial 148, 3) := by decide +kernel
theorem dX8_request_89 : decode cX8_request 89 = .ok (.astore 5, 2) := by decide +kernel
theorem dX8_request_91 : decode cX8_request 91 = .ok (.aload_n 0, 1) := by decide +kernel
theorem dX8_request_92 : decode cX8_request 92 = .ok (.getfield 43, 3) := by decide +kernel
theorem dX8_request_95 : decode cX8_request 95 = .ok (.aload 5, 2) := by decide +kernel
theorem dX8_request_97 : decode cX8_request 97 = .ok (.invokevirtual 91, 3) := by decide +kernel
theorem dX8_request_100 : decode cX8_request 100 = .ok (.pop, 1) := by decide +kernel
theorem dX8_request_101 : decode cX8_request 101 = .ok (.aload_n 0, 1) := by decide +kernel
theorem dX8_request_102 : decode cX8_request 102 = .ok (.aload 4, 2) := by decide +kernel
theorem dX8_request_104 : decode cX8_request 104 = .ok (.iconst 0, 1) := by decide +kernel
theorem dX8_request_105 : decode cX8_request 105 = .ok (.invokevirtual 151, 3) := by decide +kernel
theorem dX8_request_108 : decode cX8_request 108 = .ok (.aload_n 0, 1) := by decide +kernel
theorem dX8_request_109 : decode cX8_request 109 = .ok (.aload 4, 2) := by decide +kernel
theorem dX8_request_111 : decode cX8_request 111 = .ok (.invokevirtual 155, 3) := by decide +kernel
theorem dX8_request_114 : decode cX8_request 114 = .ok (.aload_n 0, 1) := by decide +kernel
theorem dX8_request_115 : decode cX8_request 115 = .ok (.aload 5, 2) := by decide +kernel
theorem dX8_request_117 : decode cX8_request 117 = .ok (.invokevirtual 159, 3) := by decide +kernel
