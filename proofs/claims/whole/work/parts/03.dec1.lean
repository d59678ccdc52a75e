theorem dX8_policy_85 : decode cX8_policy 85 = .ok (.iload 5, 2) := by decide +kernel
theorem dX8_policy_87 : decode cX8_policy 87 = .ok (.iaload, 1) := by decide +kernel
theorem dX8_policy_88 : decode cX8_policy 88 = .ok (.istore 6, 2) := by decide +kernel
theorem dX8_policy_90 : decode cX8_policy 90 = .ok (.aload_n 0, 1) := by decide +kernel
theorem dX8_policy_91 : decode cX8_policy 91 = .ok (.getfield 21, 3) := by decide +kernel
theorem dX8_policy_94 : decode cX8_policy 94 = .ok (.iload_n 3, 1) := by decide +kernel
theorem dX8_policy_95 : decode cX8_policy 95 = .ok (.aaload, 1) := by decide +kernel
theorem dX8_policy_96 : decode cX8_policy 96 = .ok (.iload 5, 2) := by decide +kernel
theorem dX8_policy_98 : decode cX8_policy 98 = .ok (.iload 4, 2) := by decide +kernel
theorem dX8_policy_100 : decode cX8_policy 100 = .ok (.iastore, 1) := by decide +kernel
theorem dX8_policy_101 : decode cX8_policy 101 = .ok (.iload 6, 2) := by decide +kernel
theorem dX8_policy_103 : decode cX8_policy 103 = .ok (.ireturn, 1) := by decide +kernel
theorem dX8_share_0 : decode cX8_share 0 = .ok (.iload_n 1, 1) := by decide +kernel
theorem dX8_share_1 : decode cX8_share 1 = .ok (.iconst 0, 1) := by decide +kernel
theorem dX8_share_2 : decode cX8_share 2 = .ok (.bipush 6, 2) := by decide +kernel
theorem dX8_share_4 : decode cX8_share 4 = .ok (.invokestatic 54, 3) := by decide +kernel
theorem dX8_share_7 : decode cX8_share 7 = .ok (.invokestatic 58, 3) := by decide +kernel
theorem dX8_share_10 : decode cX8_share 10 = .ok (.iload_n 2, 1) := by decide +kernel
theorem dX8_share_11 : decode cX8_share 11 = .ok (.iconst 0, 1) := by decide +kernel
theorem dX8_share_12 : decode cX8_share 12 = .ok (.bipush 100, 2) := by decide +kernel
theorem dX8_share_14 : decode cX8_share 14 = .ok (.invokestatic 54, 3) := by decide +kernel
theorem dX8_share_17 : decode cX8_share 17 = .ok (.invokestatic 62, 3) := by decide +kernel
theorem dX8_share_20 : decode cX8_share 20 = .ok (.aload_n 0, 1) := by decide +kernel
theorem dX8_share_21 : decode cX8_share 21 = .ok (.getfield 32, 3) := by decide +kernel
theorem dX8_share_24 : decode cX8_share 24 = .ok (.iload_n 1, 1) := by decide +kernel
theorem dX8_share_25 : decode cX8_share 25 = .ok (.aaload, 1) := by decide +kernel
theorem dX8_share_26 : decode cX8_share 26 = .ok (.astore_n 3, 1) := by decide +kernel
theorem dX8_share_27 : decode cX8_share 27 = .ok (.aload_n 3, 1) := by decide +kernel
theorem dX8_share_28 : decode cX8_share 28 = .ok (.getfield 116, 3) := by decide +kernel
theorem dX8_share_31 : decode cX8_share 31 = .ok (.istore 4, 2) := by decide +kernel
theorem dX8_share_33 : decode cX8_share 33 = .ok (.aload_n 3, 1) := by decide +kernel
theorem dX8_share_34 : decode cX8_share 34 = .ok (.iload_n 2, 1) := by decide +kernel
theorem dX8_share_35 : decode cX8_share 35 = .ok (.putfield 116, 3) := by decide +kernel
theorem dX8_share_38 : decode cX8_share 38 = .ok (.iload 4, 2) := by decide +kernel
theorem dX8_share_40 : decode cX8_share 40 = .ok (.ireturn, 1) := by decide +kernel
theorem dX8_eyes_0 : decode cX8_eyes 0 = .ok (.iload_n 1, 1) := by decide +kernel
theorem dX8_eyes_1 : decode cX8_eyes 1 = .ok (.iconst 1, 1) := by decide +kernel
theorem dX8_eyes_2 : decode cX8_eyes 2 = .ok (.bipush 7, 2) := by decide +kernel
theorem dX8_eyes_4 : decode cX8_eyes 4 = .ok (.invokestatic 54, 3) := by decide +kernel
theorem dX8_eyes_7 : decode cX8_eyes 7 = .ok (.invokestatic 62, 3) := by decide +kernel
theorem dX8_eyes_10 : decode cX8_eyes 10 = .ok (.aload_n 0, 1) := by decide +kernel
theorem dX8_eyes_11 : decode cX8_eyes 11 = .ok (.getfield 9, 3) := by decide +kernel
theorem dX8_eyes_14 : decode cX8_eyes 14 = .ok (.istore_n 2, 1) := by decide +kernel
theorem dX8_eyes_15 : decode cX8_eyes 15 = .ok (.aload_n 0, 1) := by decide +kernel
theorem dX8_eyes_16 : decode cX8_eyes 16 = .ok (.iload_n 1, 1) := by decide +kernel
theorem dX8_eyes_17 : decode cX8_eyes 17 = .ok (.putfield 9, 3) := by decide +kernel
theorem dX8_eyes_20 : decode cX8_eyes 20 = .ok (.iload_n 2, 1) := by decide +kernel
theorem dX8_eyes_21 : decode cX8_eyes 21 = .ok (.ireturn, 1) := by decide +kernel
theorem dX8_canary_0 : decode cX8_canary 0 = .ok (.iload_n 1, 1) := by decide +kernel
theorem dX8_canary_1 : decode cX8_canary 1 = .ok (.iconst 0, 1) := by decide +kernel
theorem dX8_canary_2 : decode cX8_canary 2 = .ok (.iconst 5, 1) := by decide +kernel
theorem dX8_canary_3 : decode cX8_canary 3 = .ok (.invokestatic 54, 3) := by decide +kernel
theorem dX8_canary_6 : decode cX8_canary 6 = .ok (.invokestatic 58, 3) := by decide +kernel
theorem dX8_canary_9 : decode cX8_canary 9 = .ok (.iload_n 2, 1) := by decide +kernel
theorem dX8_canary_10 : decode cX8_canary 10 = .ok (.iconst 0, 1) := by decide +kernel
theorem dX8_canary_11 : decode cX8_canary 11 = .ok (.bipush 100, 2) := by decide +kernel
theorem dX8_canary_13 : decode cX8_canary 13 = .ok (.invokestatic 54, 3) := by decide +kernel
theorem dX8_canary_16 : decode cX8_canary 16 = .ok (.invokestatic 62, 3) := by decide +kernel
theorem dX8_canary_19 : decode cX8_canary 19 = .ok (.aload_n 0, 1) := by decide +kernel
theorem dX8_canary_20 : decode cX8_canary 20 = .ok (.getfield 26, 3) := by decide +kernel
theorem dX8_canary_23 : decode cX8_canary 23 = .ok (.iload_n 1, 1) := by decide +kernel
theorem dX8_canary_24 : decode cX8_canary 24 = .ok (.aaload, 1) := by decide +kernel
theorem dX8_canary_25 : decode cX8_canary 25 = .ok (.getfield 119, 3) := by decide +kernel
theorem dX8_canary_28 : decode cX8_canary 28 = .ok (.astore_n 3, 1) := by decide +kernel
theorem dX8_canary_29 : decode cX8_canary 29 = .ok (.aload_n 3, 1) := by decide +kernel
theorem dX8_canary_30 : decode cX8_canary 30 = .ok (.getfield 123, 3) := by decide +kernel
theorem dX8_canary_33 : decode cX8_canary 33 = .ok (.istore 4, 2) := by decide +kernel
theorem dX8_canary_35 : decode cX8_canary 35 = .ok (.aload_n 3, 1) := by decide +kernel
theorem dX8_canary_36 : decode cX8_canary 36 = .ok (.iload_n 2, 1) := by decide +kernel
theorem dX8_canary_37 : decode cX8_canary 37 = .ok (.invokevirtual 128, 3) := by decide +kernel
theorem dX8_canary_40 : decode cX8_canary 40 = .ok (.iload 4, 2) := by decide +kernel
theorem dX8_canary_42 : decode cX8_canary 42 = .ok (.ireturn, 1) := by decide +kernel
theorem dX8_traces_0 : decode cX8_traces 0 = .ok (.iload_n 1, 1) := by decide +kernel
theorem dX8_traces_1 : decode cX8_traces 1 = .ok (.iconst 1, 1) := by decide +kernel
theorem dX8_traces_2 : decode cX8_traces 2 = .ok (.bipush 10, 2) := by decide +kernel
theorem dX8_traces_4 : decode cX8_traces 4 = .ok (.invokestatic 54, 3) := by decide +kernel
theorem dX8_traces_7 : decode cX8_traces 7 = .ok (.ifCond .eq 18, 3) := by decide +kernel
theorem dX8_traces_10 : decode cX8_traces 10 = .ok (.iload_n 2, 1) := by decide +kernel
theorem dX8_traces_11 : decode cX8_traces 11 = .ok (.iconst 1, 1) := by decide +kernel
theorem dX8_traces_12 : decode cX8_traces 12 = .ok (.sipush 600, 3) := by decide +kernel
theorem dX8_traces_15 : decode cX8_traces 15 = .ok (.invokestatic 54, 3) := by decide +kernel
theorem dX8_traces_18 : decode cX8_traces 18 = .ok (.ifCond .eq 7, 3) := by decide +kernel
theorem dX8_traces_21 : decode cX8_traces 21 = .ok (.iconst 1, 1) := by decide +kernel
theorem dX8_traces_22 : decode cX8_traces 22 = .ok (.goto 4, 3) := by decide +kernel
theorem dX8_traces_25 : decode cX8_traces 25 = .ok (.iconst 0, 1) := by decide +kernel
theorem dX8_traces_26 : decode cX8_traces 26 = .ok (.invokestatic 62, 3) := by decide +kernel
theorem dX8_traces_29 : decode cX8_traces 29 = .ok (.aload_n 0, 1) := by decide +kernel
theorem dX8_traces_30 : decode cX8_traces 30 = .ok (.iload_n 1, 1) := by decide +kernel
theorem dX8_traces_31 : decode cX8_traces 31 = .ok (.putfield 13, 3) := by decide +kernel
theorem dX8_traces_34 : decode cX8_traces 34 = .ok (.aload_n 0, 1) := by decide +kernel
theorem dX8_traces_35 : decode cX8_traces 35 = .ok (.iload_n 2, 1) := by decide +kernel
theorem dX8_traces_36 : decode cX8_traces 36 = .ok (.putfield 16, 3) := by decide +kernel
theorem dX8_traces_39 : decode cX8_traces 39 = .ok (.return_, 1) := by decide +kernel
theorem dX8_request_0 : decode cX8_request 0 = .ok (.iload_n 1, 1) := by decide +kernel
theorem dX8_request_1 : decode cX8_request 1 = .ok (.iconst 0, 1) := by decide +kernel
theorem dX8_request_2 : decode cX8_request 2 = .ok (.iconst 5, 1) := by decide +kernel
theorem dX8_request_3 : decode cX8_request 3 = .ok (.invokestatic 54, 3) := by decide +kernel
theorem dX8_request_6 : decode cX8_request 6 = .ok (.invokestatic 58, 3) := by decide +kernel
theorem dX8_request_9 : decode cX8_request 9 = .ok (.iload_n 3, 1) := by decide +kernel
theorem dX8_request_10 : decode cX8_request 10 = .ok (.iconst 1, 1) := by decide +kernel
theorem dX8_request_11 : decode cX8_request 11 = .ok (.sipush 200, 3) := by decide +kernel
theorem dX8_request_14 : decode cX8_request 14 = .ok (.invokestatic 54, 3) := by decide +kernel
theorem dX8_request_17 : decode cX8_request 17 = .ok (.invokestatic 62, 3) := by decide +kernel
theorem dX8_request_20 : decode cX8_request 20 = .ok (.aload_n 0, 1) := by decide +kernel
theorem dX8_request_21 : decode cX8_request 21 = .ok (.getfield 43, 3) := by decide +kernel
theorem dX8_request_24 : decode cX8_request 24 = .ok (.invokevirtual 82, 3) := by decide +kernel
theorem dX8_request_27 : decode cX8_request 27 = .ok (.bipush 40, 2) := by decide +kernel
theorem dX8_request_29 : decode cX8_request 29 = .ok (.if_icmp .ge 7, 3) := by decide +kernel
theorem dX8_request_32 : decode cX8_request 32 = .ok (.iconst 1, 1) := by decide +kernel
theorem dX8_request_33 : decode cX8_request 33 = .ok (.goto 4, 3) := by decide +kernel
theorem dX8_request_36 : decode cX8_request 36 = .ok (.iconst 0, 1) := by decide +kernel
theorem dX8_request_37 : decode cX8_request 37 = .ok (.invokestatic 75, 3) := by decide +kernel
theorem dX8_request_40 : decode cX8_request 40 = .ok (.new 132, 3) := by decide +kernel
theorem dX8_request_43 : decode cX8_request 43 = .ok (.dup, 1) := by decide +kernel
theorem dX8_request_44 : decode cX8_request 44 = .ok (.bipush 6, 2) := by decide +kernel
theorem dX8_request_46 : decode cX8_request 46 = .ok (.iload_n 1, 1) := by decide +kernel
theorem dX8_request_47 : decode cX8_request 47 = .ok (.iload_n 2, 1) := by decide +kernel
theorem dX8_request_48 : decode cX8_request 48 = .ok (.invokespecial 134, 3) := by decide +kernel
theorem dX8_request_51 : decode cX8_request 51 = .ok (.astore 4, 2) := by decide +kernel
theorem dX8_request_53 : decode cX8_request 53 = .ok (.aload 4, 2) := by decide +kernel
theorem dX8_request_55 : decode cX8_request 55 = .ok (.aload_n 0, 1) := by decide +kernel
theorem dX8_request_56 : decode cX8_request 56 = .ok (.getfield 43, 3) := by decide +kernel
theorem dX8_request_59 : decode cX8_request 59 = .ok (.invokevirtual 82, 3) := by decide +kernel
theorem dX8_request_62 : decode cX8_request 62 = .ok (.putfield 137, 3) := by decide +kernel
theorem dX8_request_65 : decode cX8_request 65 = .ok (.aload 4, 2) := by decide +kernel
theorem dX8_request_67 : decode cX8_request 67 = .ok (.aload_n 0, 1) := by decide +kernel
theorem dX8_request_68 : decode cX8_request 68 = .ok (.getfield 140, 3) := by decide +kernel
theorem dX8_request_71 : decode cX8_request 71 = .ok (.iload_n 3, 1) := by decide +kernel
theorem dX8_request_72 : decode cX8_request 72 = .ok (.iadd, 1) := by decide +kernel
theorem dX8_request_73 : decode cX8_request 73 = .ok (.putfield 143, 3) := by decide +kernel
theorem dX8_request_76 : decode cX8_request 76 = .ok (.new 146, 3) := by decide +kernel
theorem dX8_request_79 : decode cX8_request 79 = .ok (.dup, 1) := by decide +kernel
theorem dX8_request_80 : decode cX8_request 80 = .ok (.aload 4, 2) := by decide +kernel
theorem dX8_request_82 : decode cX8_request 82 = .ok (.aload_n 0, 1) := by decide +kernel
theorem dX8_request_83 : decode cX8_request 83 = .ok (.getfield 140, 3) := by decide +kernel
theorem dX8_request_86 : decode cX8_request 86 = .ok (.invokespecial 148, 3) := by decide +kernel
theorem dX8_request_89 : decode cX8_request 89 = .ok (.astore 5, 2) := by decide +kernel
theorem dX8_request_91 : decode cX8_request 91 = .ok (.aload_n 0, 1) := by decide +kernel
theorem dX8_request_92 : decode cX8_request 92 = .ok (.getfield 43, 3) := by decide +kernel
theorem dX8_request_95 : decode cX8_request 95 = .ok (.aload 5, 2) := by decide +kernel
theorem dX8_request_97 : decode cX8_request 97 = .ok (.invokevirtual 91, 3) := by decide +kernel
theorem dX8_request_100 : decode cX8_request 100 = .ok (.pop, 1) := by decide +kernel
theorem dX8_request_101 : decode cX8_request 101 = .ok (.aload_n 0, 1) := by decide +kernel
theorem dX8_request_102 : decode cX8_request 102 = .ok (.aload 4, 2) := by decide +kernel
theorem dX8_request_104 : decode cX8_request 104 = .ok (.iconst 0, 1) := by decide +kernel
theorem dX8_request_105 : decode cX8_request 105 = .ok (.invokevirtual 151, 3) := by decide +kernel
theorem dX8_request_108 : decode cX8_request 108 = .ok (.aload_n 0, 1) := by decide +kernel
theorem dX8_request_109 : decode cX8_request 109 = .ok (.aload 4, 2) := by decide +kernel
theorem dX8_request_111 : decode cX8_request 111 = .ok (.invokevirtual 155, 3) := by decide +kernel
theorem dX8_request_114 : decode cX8_request 114 = .ok (.aload_n 0, 1) := by decide +kernel
theorem dX8_request_115 : decode cX8_request 115 = .ok (.aload 5, 2) := by decide +kernel
theorem dX8_request_117 : decode cX8_request 117 = .ok (.invokevirtual 159, 3) := by decide +kernel
theorem dX8_request_120 : decode cX8_request 120 = .ok (.aload 4, 2) := by decide +kernel
theorem dX8_request_122 : decode cX8_request 122 = .ok (.getfield 137, 3) := by decide +kernel
theorem dX8_request_125 : decode cX8_request 125 = .ok (.ireturn, 1) := by decide +kernel
theorem dX8_pass_0 : decode cX8_pass 0 = .ok (.iload_n 1, 1) := by decide +kernel
theorem dX8_pass_1 : decode cX8_pass 1 = .ok (.iconst 1, 1) := by decide +kernel
theorem dX8_pass_2 : decode cX8_pass 2 = .ok (.bipush 50, 2) := by decide +kernel
theorem dX8_pass_4 : decode cX8_pass 4 = .ok (.invokestatic 54, 3) := by decide +kernel
theorem dX8_pass_7 : decode cX8_pass 7 = .ok (.invokestatic 62, 3) := by decide +kernel
theorem dX8_pass_10 : decode cX8_pass 10 = .ok (.aload_n 0, 1) := by decide +kernel
theorem dX8_pass_11 : decode cX8_pass 11 = .ok (.getfield 140, 3) := by decide +kernel
theorem dX8_pass_14 : decode cX8_pass 14 = .ok (.iload_n 1, 1) := by decide +kernel
theorem dX8_pass_15 : decode cX8_pass 15 = .ok (.iadd, 1) := by decide +kernel
theorem dX8_pass_16 : decode cX8_pass 16 = .ok (.sipush 600, 3) := by decide +kernel
theorem dX8_pass_19 : decode cX8_pass 19 = .ok (.if_icmp .gt 7, 3) := by decide +kernel
theorem dX8_pass_22 : decode cX8_pass 22 = .ok (.iconst 1, 1) := by decide +kernel
theorem dX8_pass_23 : decode cX8_pass 23 = .ok (.goto 4, 3) := by decide +kernel
theorem dX8_pass_26 : decode cX8_pass 26 = .ok (.iconst 0, 1) := by decide +kernel
theorem dX8_pass_27 : decode cX8_pass 27 = .ok (.invokestatic 75, 3) := by decide +kernel
theorem dX8_pass_30 : decode cX8_pass 30 = .ok (.iconst 0, 1) := by decide +kernel
theorem dX8_pass_31 : decode cX8_pass 31 = .ok (.istore_n 2, 1) := by decide +kernel
theorem dX8_pass_32 : decode cX8_pass 32 = .ok (.iload_n 2, 1) := by decide +kernel
theorem dX8_pass_33 : decode cX8_pass 33 = .ok (.iload_n 1, 1) := by decide +kernel
theorem dX8_pass_34 : decode cX8_pass 34 = .ok (.if_icmp .ge 60, 3) := by decide +kernel
theorem dX8_pass_37 : decode cX8_pass 37 = .ok (.aload_n 0, 1) := by decide +kernel
theorem dX8_pass_38 : decode cX8_pass 38 = .ok (.dup, 1) := by decide +kernel
theorem dX8_pass_39 : decode cX8_pass 39 = .ok (.getfield 140, 3) := by decide +kernel
theorem dX8_pass_42 : decode cX8_pass 42 = .ok (.iconst 1, 1) := by decide +kernel
theorem dX8_pass_43 : decode cX8_pass 43 = .ok (.iadd, 1) := by decide +kernel
theorem dX8_pass_44 : decode cX8_pass 44 = .ok (.putfield 140, 3) := by decide +kernel
theorem dX8_pass_47 : decode cX8_pass 47 = .ok (.aload_n 0, 1) := by decide +kernel
theorem dX8_pass_48 : decode cX8_pass 48 = .ok (.invokevirtual 163, 3) := by decide +kernel
theorem dX8_pass_51 : decode cX8_pass 51 = .ok (.aload_n 0, 1) := by decide +kernel
theorem dX8_pass_52 : decode cX8_pass 52 = .ok (.invokevirtual 166, 3) := by decide +kernel
theorem dX8_pass_55 : decode cX8_pass 55 = .ok (.aload_n 0, 1) := by decide +kernel
theorem dX8_pass_56 : decode cX8_pass 56 = .ok (.invokevirtual 169, 3) := by decide +kernel
theorem dX8_pass_59 : decode cX8_pass 59 = .ok (.aload_n 0, 1) := by decide +kernel
theorem dX8_pass_60 : decode cX8_pass 60 = .ok (.invokevirtual 172, 3) := by decide +kernel
theorem dX8_pass_63 : decode cX8_pass 63 = .ok (.aload_n 0, 1) := by decide +kernel
theorem dX8_pass_64 : decode cX8_pass 64 = .ok (.invokevirtual 175, 3) := by decide +kernel
theorem dX8_pass_67 : decode cX8_pass 67 = .ok (.aload_n 0, 1) := by decide +kernel
theorem dX8_pass_68 : decode cX8_pass 68 = .ok (.invokevirtual 178, 3) := by decide +kernel
theorem dX8_pass_71 : decode cX8_pass 71 = .ok (.aload_n 0, 1) := by decide +kernel
theorem dX8_pass_72 : decode cX8_pass 72 = .ok (.invokevirtual 181, 3) := by decide +kernel
theorem dX8_pass_75 : decode cX8_pass 75 = .ok (.aload_n 0, 1) := by decide +kernel
theorem dX8_pass_76 : decode cX8_pass 76 = .ok (.getfield 140, 3) := by decide +kernel
theorem dX8_pass_79 : decode cX8_pass 79 = .ok (.iconst 5, 1) := by decide +kernel
theorem dX8_pass_80 : decode cX8_pass 80 = .ok (.irem, 1) := by decide +kernel
theorem dX8_pass_81 : decode cX8_pass 81 = .ok (.ifCond .ne 7, 3) := by decide +kernel
theorem dX8_pass_84 : decode cX8_pass 84 = .ok (.aload_n 0, 1) := by decide +kernel
theorem dX8_pass_85 : decode cX8_pass 85 = .ok (.invokevirtual 184, 3) := by decide +kernel
theorem dX8_pass_88 : decode cX8_pass 88 = .ok (.iinc 2 1, 3) := by decide +kernel
theorem dX8_pass_91 : decode cX8_pass 91 = .ok (.goto (-59), 3) := by decide +kernel
theorem dX8_pass_94 : decode cX8_pass 94 = .ok (.aload_n 0, 1) := by decide +kernel
theorem dX8_pass_95 : decode cX8_pass 95 = .ok (.getfield 140, 3) := by decide +kernel
theorem dX8_pass_98 : decode cX8_pass 98 = .ok (.ireturn, 1) := by decide +kernel
theorem dX8_tick_0 : decode cX8_tick 0 = .ok (.aload_n 0, 1) := by decide +kernel
theorem dX8_tick_1 : decode cX8_tick 1 = .ok (.getfield 140, 3) := by decide +kernel
theorem dX8_tick_4 : decode cX8_tick 4 = .ok (.ireturn, 1) := by decide +kernel
theorem dX8_requestState_0 : decode cX8_requestState 0 = .ok (.iload_n 1, 1) := by decide +kernel
theorem dX8_requestState_1 : decode cX8_requestState 1 = .ok (.iconst 0, 1) := by decide +kernel
theorem dX8_requestState_2 : decode cX8_requestState 2 = .ok (.aload_n 0, 1) := by decide +kernel
theorem dX8_requestState_3 : decode cX8_requestState 3 = .ok (.getfield 43, 3) := by decide +kernel
theorem dX8_requestState_6 : decode cX8_requestState 6 = .ok (.invokevirtual 82, 3) := by decide +kernel
theorem dX8_requestState_9 : decode cX8_requestState 9 = .ok (.iconst 1, 1) := by decide +kernel
theorem dX8_requestState_10 : decode cX8_requestState 10 = .ok (.isub, 1) := by decide +kernel
theorem dX8_requestState_11 : decode cX8_requestState 11 = .ok (.invokestatic 54, 3) := by decide +kernel
theorem dX8_requestState_14 : decode cX8_requestState 14 = .ok (.invokestatic 58, 3) := by decide +kernel
theorem dX8_requestState_17 : decode cX8_requestState 17 = .ok (.aload_n 0, 1) := by decide +kernel
theorem dX8_requestState_18 : decode cX8_requestState 18 = .ok (.getfield 43, 3) := by decide +kernel
theorem dX8_requestState_21 : decode cX8_requestState 21 = .ok (.iload_n 1, 1) := by decide +kernel
theorem dX8_requestState_22 : decode cX8_requestState 22 = .ok (.invokevirtual 98, 3) := by decide +kernel
theorem dX8_requestState_25 : decode cX8_requestState 25 = .ok (.checkcast 146, 3) := by decide +kernel
theorem dX8_requestState_28 : decode cX8_requestState 28 = .ok (.getfield 187, 3) := by decide +kernel
theorem dX8_requestState_31 : decode cX8_requestState 31 = .ok (.ireturn, 1) := by decide +kernel
theorem dX8_requestTicks_0 : decode cX8_requestTicks 0 = .ok (.iload_n 1, 1) := by decide +kernel
theorem dX8_requestTicks_1 : decode cX8_requestTicks 1 = .ok (.iconst 0, 1) := by decide +kernel
theorem dX8_requestTicks_2 : decode cX8_requestTicks 2 = .ok (.aload_n 0, 1) := by decide +kernel
theorem dX8_requestTicks_3 : decode cX8_requestTicks 3 = .ok (.getfield 43, 3) := by decide +kernel
theorem dX8_requestTicks_6 : decode cX8_requestTicks 6 = .ok (.invokevirtual 82, 3) := by decide +kernel
theorem dX8_requestTicks_9 : decode cX8_requestTicks 9 = .ok (.iconst 1, 1) := by decide +kernel
theorem dX8_requestTicks_10 : decode cX8_requestTicks 10 = .ok (.isub, 1) := by decide +kernel
theorem dX8_requestTicks_11 : decode cX8_requestTicks 11 = .ok (.invokestatic 54, 3) := by decide +kernel
theorem dX8_requestTicks_14 : decode cX8_requestTicks 14 = .ok (.invokestatic 58, 3) := by decide +kernel
theorem dX8_requestTicks_17 : decode cX8_requestTicks 17 = .ok (.aload_n 0, 1) := by decide +kernel
theorem dX8_requestTicks_18 : decode cX8_requestTicks 18 = .ok (.getfield 43, 3) := by decide +kernel
theorem dX8_requestTicks_21 : decode cX8_requestTicks 21 = .ok (.iload_n 1, 1) := by decide +kernel
theorem dX8_requestTicks_22 : decode cX8_requestTicks 22 = .ok (.invokevirtual 98, 3) := by decide +kernel
theorem dX8_requestTicks_25 : decode cX8_requestTicks 25 = .ok (.checkcast 146, 3) := by decide +kernel
theorem dX8_requestTicks_28 : decode cX8_requestTicks 28 = .ok (.astore_n 2, 1) := by decide +kernel
theorem dX8_requestTicks_29 : decode cX8_requestTicks 29 = .ok (.aload_n 2, 1) := by decide +kernel
theorem dX8_requestTicks_30 : decode cX8_requestTicks 30 = .ok (.getfield 187, 3) := by decide +kernel
theorem dX8_requestTicks_33 : decode cX8_requestTicks 33 = .ok (.bipush 8, 2) := by decide +kernel
theorem dX8_requestTicks_35 : decode cX8_requestTicks 35 = .ok (.if_icmp .ne 10, 3) := by decide +kernel
theorem dX8_requestTicks_38 : decode cX8_requestTicks 38 = .ok (.aload_n 0, 1) := by decide +kernel
theorem dX8_requestTicks_39 : decode cX8_requestTicks 39 = .ok (.getfield 140, 3) := by decide +kernel
theorem dX8_requestTicks_42 : decode cX8_requestTicks 42 = .ok (.goto 7, 3) := by decide +kernel
theorem dX8_requestTicks_45 : decode cX8_requestTicks 45 = .ok (.aload_n 2, 1) := by decide +kernel
theorem dX8_requestTicks_46 : decode cX8_requestTicks 46 = .ok (.getfield 190, 3) := by decide +kernel
theorem dX8_requestTicks_49 : decode cX8_requestTicks 49 = .ok (.aload_n 2, 1) := by decide +kernel
theorem dX8_requestTicks_50 : decode cX8_requestTicks 50 = .ok (.getfield 193, 3) := by decide +kernel
theorem dX8_requestTicks_53 : decode cX8_requestTicks 53 = .ok (.isub, 1) := by decide +kernel
theorem dX8_requestTicks_54 : decode cX8_requestTicks 54 = .ok (.ireturn, 1) := by decide +kernel
theorem dX8_isKept_0 : decode cX8_isKept 0 = .ok (.iload_n 1, 1) := by decide +kernel
theorem dX8_isKept_1 : decode cX8_isKept 1 = .ok (.iconst 0, 1) := by decide +kernel
theorem dX8_isKept_2 : decode cX8_isKept 2 = .ok (.aload_n 0, 1) := by decide +kernel
theorem dX8_isKept_3 : decode cX8_isKept 3 = .ok (.getfield 43, 3) := by decide +kernel
theorem dX8_isKept_6 : decode cX8_isKept 6 = .ok (.invokevirtual 82, 3) := by decide +kernel
theorem dX8_isKept_9 : decode cX8_isKept 9 = .ok (.iconst 1, 1) := by decide +kernel
theorem dX8_isKept_10 : decode cX8_isKept 10 = .ok (.isub, 1) := by decide +kernel
theorem dX8_isKept_11 : decode cX8_isKept 11 = .ok (.invokestatic 54, 3) := by decide +kernel
theorem dX8_isKept_14 : decode cX8_isKept 14 = .ok (.invokestatic 58, 3) := by decide +kernel
theorem dX8_isKept_17 : decode cX8_isKept 17 = .ok (.aload_n 0, 1) := by decide +kernel
theorem dX8_isKept_18 : decode cX8_isKept 18 = .ok (.getfield 43, 3) := by decide +kernel
theorem dX8_isKept_21 : decode cX8_isKept 21 = .ok (.iload_n 1, 1) := by decide +kernel
theorem dX8_isKept_22 : decode cX8_isKept 22 = .ok (.invokevirtual 98, 3) := by decide +kernel
theorem dX8_isKept_25 : decode cX8_isKept 25 = .ok (.checkcast 146, 3) := by decide +kernel
theorem dX8_isKept_28 : decode cX8_isKept 28 = .ok (.astore_n 2, 1) := by decide +kernel
theorem dX8_isKept_29 : decode cX8_isKept 29 = .ok (.aload_n 2, 1) := by decide +kernel
theorem dX8_isKept_30 : decode cX8_isKept 30 = .ok (.getfield 187, 3) := by decide +kernel
theorem dX8_isKept_33 : decode cX8_isKept 33 = .ok (.bipush 8, 2) := by decide +kernel
theorem dX8_isKept_35 : decode cX8_isKept 35 = .ok (.if_icmp .ne 11, 3) := by decide +kernel
theorem dX8_isKept_38 : decode cX8_isKept 38 = .ok (.aload_n 0, 1) := by decide +kernel
theorem dX8_isKept_39 : decode cX8_isKept 39 = .ok (.aload_n 2, 1) := by decide +kernel
theorem dX8_isKept_40 : decode cX8_isKept 40 = .ok (.invokevirtual 196, 3) := by decide +kernel
theorem dX8_isKept_43 : decode cX8_isKept 43 = .ok (.goto 7, 3) := by decide +kernel
theorem dX8_isKept_46 : decode cX8_isKept 46 = .ok (.aload_n 2, 1) := by decide +kernel
theorem dX8_isKept_47 : decode cX8_isKept 47 = .ok (.getfield 200, 3) := by decide +kernel
theorem dX8_isKept_50 : decode cX8_isKept 50 = .ok (.ireturn, 1) := by decide +kernel
theorem dX8_callsOf_0 : decode cX8_callsOf 0 = .ok (.iload_n 1, 1) := by decide +kernel
theorem dX8_callsOf_1 : decode cX8_callsOf 1 = .ok (.iconst 0, 1) := by decide +kernel
theorem dX8_callsOf_2 : decode cX8_callsOf 2 = .ok (.aload_n 0, 1) := by decide +kernel
theorem dX8_callsOf_3 : decode cX8_callsOf 3 = .ok (.getfield 43, 3) := by decide +kernel
theorem dX8_callsOf_6 : decode cX8_callsOf 6 = .ok (.invokevirtual 82, 3) := by decide +kernel
theorem dX8_callsOf_9 : decode cX8_callsOf 9 = .ok (.iconst 1, 1) := by decide +kernel
theorem dX8_callsOf_10 : decode cX8_callsOf 10 = .ok (.isub, 1) := by decide +kernel
theorem dX8_callsOf_11 : decode cX8_callsOf 11 = .ok (.invokestatic 54, 3) := by decide +kernel
theorem dX8_callsOf_14 : decode cX8_callsOf 14 = .ok (.invokestatic 58, 3) := by decide +kernel
theorem dX8_callsOf_17 : decode cX8_callsOf 17 = .ok (.iconst 0, 1) := by decide +kernel
theorem dX8_callsOf_18 : decode cX8_callsOf 18 = .ok (.istore_n 2, 1) := by decide +kernel
theorem dX8_callsOf_19 : decode cX8_callsOf 19 = .ok (.iconst 0, 1) := by decide +kernel
theorem dX8_callsOf_20 : decode cX8_callsOf 20 = .ok (.istore_n 3, 1) := by decide +kernel
theorem dX8_callsOf_21 : decode cX8_callsOf 21 = .ok (.iload_n 3, 1) := by decide +kernel
theorem dX8_callsOf_22 : decode cX8_callsOf 22 = .ok (.aload_n 0, 1) := by decide +kernel
theorem dX8_callsOf_23 : decode cX8_callsOf 23 = .ok (.getfield 46, 3) := by decide +kernel
theorem dX8_callsOf_26 : decode cX8_callsOf 26 = .ok (.invokevirtual 82, 3) := by decide +kernel
theorem dX8_callsOf_29 : decode cX8_callsOf 29 = .ok (.if_icmp .ge 33, 3) := by decide +kernel
theorem dX8_callsOf_32 : decode cX8_callsOf 32 = .ok (.aload_n 0, 1) := by decide +kernel
theorem dX8_callsOf_33 : decode cX8_callsOf 33 = .ok (.getfield 46, 3) := by decide +kernel
theorem dX8_callsOf_36 : decode cX8_callsOf 36 = .ok (.iload_n 3, 1) := by decide +kernel
theorem dX8_callsOf_37 : decode cX8_callsOf 37 = .ok (.invokevirtual 98, 3) := by decide +kernel
theorem dX8_callsOf_40 : decode cX8_callsOf 40 = .ok (.checkcast 204, 3) := by decide +kernel
theorem dX8_callsOf_43 : decode cX8_callsOf 43 = .ok (.getfield 206, 3) := by decide +kernel
theorem dX8_callsOf_46 : decode cX8_callsOf 46 = .ok (.getfield 137, 3) := by decide +kernel
theorem dX8_callsOf_49 : decode cX8_callsOf 49 = .ok (.iload_n 1, 1) := by decide +kernel
theorem dX8_callsOf_50 : decode cX8_callsOf 50 = .ok (.if_icmp .ne 6, 3) := by decide +kernel
theorem dX8_callsOf_53 : decode cX8_callsOf 53 = .ok (.iinc 2 1, 3) := by decide +kernel
theorem dX8_callsOf_56 : decode cX8_callsOf 56 = .ok (.iinc 3 1, 3) := by decide +kernel
theorem dX8_callsOf_59 : decode cX8_callsOf 59 = .ok (.goto (-38), 3) := by decide +kernel
theorem dX8_callsOf_62 : decode cX8_callsOf 62 = .ok (.iload_n 2, 1) := by decide +kernel
theorem dX8_callsOf_63 : decode cX8_callsOf 63 = .ok (.ireturn, 1) := by decide +kernel
theorem dX8_calls_0 : decode cX8_calls 0 = .ok (.aload_n 0, 1) := by decide +kernel
theorem dX8_calls_1 : decode cX8_calls 1 = .ok (.getfield 46, 3) := by decide +kernel
theorem dX8_calls_4 : decode cX8_calls 4 = .ok (.invokevirtual 82, 3) := by decide +kernel
theorem dX8_calls_7 : decode cX8_calls 7 = .ok (.ireturn, 1) := by decide +kernel
theorem dX8_call_0 : decode cX8_call 0 = .ok (.iload_n 1, 1) := by decide +kernel
theorem dX8_call_1 : decode cX8_call 1 = .ok (.iconst 0, 1) := by decide +kernel
theorem dX8_call_2 : decode cX8_call 2 = .ok (.aload_n 0, 1) := by decide +kernel
theorem dX8_call_3 : decode cX8_call 3 = .ok (.getfield 46, 3) := by decide +kernel
theorem dX8_call_6 : decode cX8_call 6 = .ok (.invokevirtual 82, 3) := by decide +kernel
theorem dX8_call_9 : decode cX8_call 9 = .ok (.iconst 1, 1) := by decide +kernel
theorem dX8_call_10 : decode cX8_call 10 = .ok (.isub, 1) := by decide +kernel
theorem dX8_call_11 : decode cX8_call 11 = .ok (.invokestatic 54, 3) := by decide +kernel
theorem dX8_call_14 : decode cX8_call 14 = .ok (.invokestatic 58, 3) := by decide +kernel
theorem dX8_call_17 : decode cX8_call 17 = .ok (.iload_n 2, 1) := by decide +kernel
theorem dX8_call_18 : decode cX8_call 18 = .ok (.iconst 0, 1) := by decide +kernel
theorem dX8_call_19 : decode cX8_call 19 = .ok (.bipush 7, 2) := by decide +kernel
theorem dX8_call_21 : decode cX8_call 21 = .ok (.invokestatic 54, 3) := by decide +kernel
theorem dX8_call_24 : decode cX8_call 24 = .ok (.invokestatic 62, 3) := by decide +kernel
theorem dX8_call_27 : decode cX8_call 27 = .ok (.aload_n 0, 1) := by decide +kernel
theorem dX8_call_28 : decode cX8_call 28 = .ok (.getfield 46, 3) := by decide +kernel
theorem dX8_call_31 : decode cX8_call 31 = .ok (.iload_n 1, 1) := by decide +kernel
theorem dX8_call_32 : decode cX8_call 32 = .ok (.invokevirtual 98, 3) := by decide +kernel
theorem dX8_call_35 : decode cX8_call 35 = .ok (.checkcast 204, 3) := by decide +kernel
theorem dX8_call_38 : decode cX8_call 38 = .ok (.astore_n 3, 1) := by decide +kernel
theorem dX8_call_39 : decode cX8_call 39 = .ok (.iload_n 2, 1) := by decide +kernel
theorem dX8_call_40 : decode cX8_call 40 = .ok (.tableswitch 111 0 6 #[44, 52, 60, 65, 70, 95, 103], 44) := by decide +kernel
theorem dX8_call_84 : decode cX8_call 84 = .ok (.aload_n 3, 1) := by decide +kernel
theorem dX8_call_85 : decode cX8_call 85 = .ok (.getfield 206, 3) := by decide +kernel
theorem dX8_call_88 : decode cX8_call 88 = .ok (.getfield 210, 3) := by decide +kernel
theorem dX8_call_91 : decode cX8_call 91 = .ok (.ireturn, 1) := by decide +kernel
theorem dX8_call_92 : decode cX8_call 92 = .ok (.aload_n 3, 1) := by decide +kernel
theorem dX8_call_93 : decode cX8_call 93 = .ok (.getfield 213, 3) := by decide +kernel
theorem dX8_call_96 : decode cX8_call 96 = .ok (.getfield 95, 3) := by decide +kernel
theorem dX8_call_99 : decode cX8_call 99 = .ok (.ireturn, 1) := by decide +kernel
theorem dX8_call_100 : decode cX8_call 100 = .ok (.aload_n 3, 1) := by decide +kernel
theorem dX8_call_101 : decode cX8_call 101 = .ok (.getfield 217, 3) := by decide +kernel
theorem dX8_call_104 : decode cX8_call 104 = .ok (.ireturn, 1) := by decide +kernel
theorem dX8_call_105 : decode cX8_call 105 = .ok (.aload_n 3, 1) := by decide +kernel
theorem dX8_call_106 : decode cX8_call 106 = .ok (.getfield 218, 3) := by decide +kernel
theorem dX8_call_109 : decode cX8_call 109 = .ok (.ireturn, 1) := by decide +kernel
theorem dX8_call_110 : decode cX8_call 110 = .ok (.aload_n 3, 1) := by decide +kernel
theorem dX8_call_111 : decode cX8_call 111 = .ok (.getfield 206, 3) := by decide +kernel
theorem dX8_call_114 : decode cX8_call 114 = .ok (.getfield 219, 3) := by decide +kernel
theorem dX8_call_117 : decode cX8_call 117 = .ok (.ifnonnull 7, 3) := by decide +kernel
theorem dX8_call_120 : decode cX8_call 120 = .ok (.iconst (-1), 1) := by decide +kernel
theorem dX8_call_121 : decode cX8_call 121 = .ok (.goto 13, 3) := by decide +kernel
theorem dX8_call_124 : decode cX8_call 124 = .ok (.aload_n 3, 1) := by decide +kernel
theorem dX8_call_125 : decode cX8_call 125 = .ok (.getfield 206, 3) := by decide +kernel
theorem dX8_call_128 : decode cX8_call 128 = .ok (.getfield 219, 3) := by decide +kernel
theorem dX8_call_131 : decode cX8_call 131 = .ok (.getfield 223, 3) := by decide +kernel
theorem dX8_call_134 : decode cX8_call 134 = .ok (.ireturn, 1) := by decide +kernel
theorem dX8_call_135 : decode cX8_call 135 = .ok (.aload_n 3, 1) := by decide +kernel
theorem dX8_call_136 : decode cX8_call 136 = .ok (.getfield 206, 3) := by decide +kernel
theorem dX8_call_139 : decode cX8_call 139 = .ok (.getfield 137, 3) := by decide +kernel
theorem dX8_call_142 : decode cX8_call 142 = .ok (.ireturn, 1) := by decide +kernel
theorem dX8_call_143 : decode cX8_call 143 = .ok (.aload_n 3, 1) := by decide +kernel
theorem dX8_call_144 : decode cX8_call 144 = .ok (.getfield 224, 3) := by decide +kernel
theorem dX8_call_147 : decode cX8_call 147 = .ok (.invokevirtual 82, 3) := by decide +kernel
theorem dX8_call_150 : decode cX8_call 150 = .ok (.ireturn, 1) := by decide +kernel
theorem dX8_call_151 : decode cX8_call 151 = .ok (.aload_n 3, 1) := by decide +kernel
theorem dX8_call_152 : decode cX8_call 152 = .ok (.getfield 206, 3) := by decide +kernel
theorem dX8_call_155 : decode cX8_call 155 = .ok (.getfield 227, 3) := by decide +kernel
theorem dX8_call_158 : decode cX8_call 158 = .ok (.ireturn, 1) := by decide +kernel
theorem dX8_budget_0 : decode cX8_budget 0 = .ok (.iload_n 1, 1) := by decide +kernel
theorem dX8_budget_1 : decode cX8_budget 1 = .ok (.iconst 0, 1) := by decide +kernel
theorem dX8_budget_2 : decode cX8_budget 2 = .ok (.bipush 6, 2) := by decide +kernel
theorem dX8_budget_4 : decode cX8_budget 4 = .ok (.invokestatic 54, 3) := by decide +kernel
theorem dX8_budget_7 : decode cX8_budget 7 = .ok (.invokestatic 58, 3) := by decide +kernel
theorem dX8_budget_10 : decode cX8_budget 10 = .ok (.aload_n 0, 1) := by decide +kernel
theorem dX8_budget_11 : decode cX8_budget 11 = .ok (.getfield 32, 3) := by decide +kernel
theorem dX8_budget_14 : decode cX8_budget 14 = .ok (.iload_n 1, 1) := by decide +kernel
theorem dX8_budget_15 : decode cX8_budget 15 = .ok (.aaload, 1) := by decide +kernel
theorem dX8_budget_16 : decode cX8_budget 16 = .ok (.getfield 230, 3) := by decide +kernel
theorem dX8_budget_19 : decode cX8_budget 19 = .ok (.ireturn, 1) := by decide +kernel
theorem dX8_breaker_0 : decode cX8_breaker 0 = .ok (.iload_n 1, 1) := by decide +kernel
theorem dX8_breaker_1 : decode cX8_breaker 1 = .ok (.iconst 0, 1) := by decide +kernel
theorem dX8_breaker_2 : decode cX8_breaker 2 = .ok (.bipush 6, 2) := by decide +kernel
theorem dX8_breaker_4 : decode cX8_breaker 4 = .ok (.invokestatic 54, 3) := by decide +kernel
theorem dX8_breaker_7 : decode cX8_breaker 7 = .ok (.ifCond .eq 24, 3) := by decide +kernel
theorem dX8_breaker_10 : decode cX8_breaker 10 = .ok (.iload_n 2, 1) := by decide +kernel
theorem dX8_breaker_11 : decode cX8_breaker 11 = .ok (.iconst 0, 1) := by decide +kernel
theorem dX8_breaker_12 : decode cX8_breaker 12 = .ok (.aload_n 0, 1) := by decide +kernel
theorem dX8_breaker_13 : decode cX8_breaker 13 = .ok (.getfield 39, 3) := by decide +kernel
theorem dX8_breaker_16 : decode cX8_breaker 16 = .ok (.invokevirtual 82, 3) := by decide +kernel
theorem dX8_breaker_19 : decode cX8_breaker 19 = .ok (.iconst 1, 1) := by decide +kernel
theorem dX8_breaker_20 : decode cX8_breaker 20 = .ok (.isub, 1) := by decide +kernel
theorem dX8_breaker_21 : decode cX8_breaker 21 = .ok (.invokestatic 54, 3) := by decide +kernel
theorem dX8_breaker_24 : decode cX8_breaker 24 = .ok (.ifCond .eq 7, 3) := by decide +kernel
theorem dX8_breaker_27 : decode cX8_breaker 27 = .ok (.iconst 1, 1) := by decide +kernel
theorem dX8_breaker_28 : decode cX8_breaker 28 = .ok (.goto 4, 3) := by decide +kernel
theorem dX8_breaker_31 : decode cX8_breaker 31 = .ok (.iconst 0, 1) := by decide +kernel
theorem dX8_breaker_32 : decode cX8_breaker 32 = .ok (.invokestatic 58, 3) := by decide +kernel
theorem dX8_breaker_35 : decode cX8_breaker 35 = .ok (.aload_n 0, 1) := by decide +kernel
theorem dX8_breaker_36 : decode cX8_breaker 36 = .ok (.getfield 39, 3) := by decide +kernel
theorem dX8_breaker_39 : decode cX8_breaker 39 = .ok (.iload_n 2, 1) := by decide +kernel
theorem dX8_breaker_40 : decode cX8_breaker 40 = .ok (.invokevirtual 98, 3) := by decide +kernel
theorem dX8_breaker_43 : decode cX8_breaker 43 = .ok (.checkcast 86, 3) := by decide +kernel
theorem dX8_breaker_46 : decode cX8_breaker 46 = .ok (.getfield 233, 3) := by decide +kernel
theorem dX8_breaker_49 : decode cX8_breaker 49 = .ok (.iload_n 1, 1) := by decide +kernel
theorem dX8_breaker_50 : decode cX8_breaker 50 = .ok (.aaload, 1) := by decide +kernel
theorem dX8_breaker_51 : decode cX8_breaker 51 = .ok (.getfield 237, 3) := by decide +kernel
theorem dX8_breaker_54 : decode cX8_breaker 54 = .ok (.ireturn, 1) := by decide +kernel
theorem dX8_isShunned_0 : decode cX8_isShunned 0 = .ok (.iload_n 1, 1) := by decide +kernel
theorem dX8_isShunned_1 : decode cX8_isShunned 1 = .ok (.iconst 0, 1) := by decide +kernel
theorem dX8_isShunned_2 : decode cX8_isShunned 2 = .ok (.aload_n 0, 1) := by decide +kernel
theorem dX8_isShunned_3 : decode cX8_isShunned 3 = .ok (.getfield 39, 3) := by decide +kernel
theorem dX8_isShunned_6 : decode cX8_isShunned 6 = .ok (.invokevirtual 82, 3) := by decide +kernel
theorem dX8_isShunned_9 : decode cX8_isShunned 9 = .ok (.iconst 1, 1) := by decide +kernel
theorem dX8_isShunned_10 : decode cX8_isShunned 10 = .ok (.isub, 1) := by decide +kernel
theorem dX8_isShunned_11 : decode cX8_isShunned 11 = .ok (.invokestatic 54, 3) := by decide +kernel
theorem dX8_isShunned_14 : decode cX8_isShunned 14 = .ok (.invokestatic 58, 3) := by decide +kernel
theorem dX8_isShunned_17 : decode cX8_isShunned 17 = .ok (.aload_n 0, 1) := by decide +kernel
theorem dX8_isShunned_18 : decode cX8_isShunned 18 = .ok (.getfield 39, 3) := by decide +kernel
theorem dX8_isShunned_21 : decode cX8_isShunned 21 = .ok (.iload_n 1, 1) := by decide +kernel
theorem dX8_isShunned_22 : decode cX8_isShunned 22 = .ok (.invokevirtual 98, 3) := by decide +kernel
theorem dX8_isShunned_25 : decode cX8_isShunned 25 = .ok (.checkcast 86, 3) := by decide +kernel
theorem dX8_isShunned_28 : decode cX8_isShunned 28 = .ok (.invokevirtual 240, 3) := by decide +kernel
theorem dX8_isShunned_31 : decode cX8_isShunned 31 = .ok (.aload_n 0, 1) := by decide +kernel
theorem dX8_isShunned_32 : decode cX8_isShunned 32 = .ok (.getfield 9, 3) := by decide +kernel
theorem dX8_isShunned_35 : decode cX8_isShunned 35 = .ok (.if_icmp .lt 7, 3) := by decide +kernel
theorem dX8_isShunned_38 : decode cX8_isShunned 38 = .ok (.iconst 1, 1) := by decide +kernel
theorem dX8_isShunned_39 : decode cX8_isShunned 39 = .ok (.goto 4, 3) := by decide +kernel
theorem dX8_isShunned_42 : decode cX8_isShunned 42 = .ok (.iconst 0, 1) := by decide +kernel
theorem dX8_isShunned_43 : decode cX8_isShunned 43 = .ok (.ireturn, 1) := by decide +kernel
theorem dX8_load_0 : decode cX8_load 0 = .ok (.iload_n 1, 1) := by decide +kernel
theorem dX8_load_1 : decode cX8_load 1 = .ok (.iconst 0, 1) := by decide +kernel
theorem dX8_load_2 : decode cX8_load 2 = .ok (.aload_n 0, 1) := by decide +kernel
theorem dX8_load_3 : decode cX8_load 3 = .ok (.getfield 39, 3) := by decide +kernel
theorem dX8_load_6 : decode cX8_load 6 = .ok (.invokevirtual 82, 3) := by decide +kernel
theorem dX8_load_9 : decode cX8_load 9 = .ok (.iconst 1, 1) := by decide +kernel
theorem dX8_load_10 : decode cX8_load 10 = .ok (.isub, 1) := by decide +kernel
theorem dX8_load_11 : decode cX8_load 11 = .ok (.invokestatic 54, 3) := by decide +kernel
theorem dX8_load_14 : decode cX8_load 14 = .ok (.invokestatic 58, 3) := by decide +kernel
theorem dX8_load_17 : decode cX8_load 17 = .ok (.aload_n 0, 1) := by decide +kernel
theorem dX8_load_18 : decode cX8_load 18 = .ok (.getfield 39, 3) := by decide +kernel
theorem dX8_load_21 : decode cX8_load 21 = .ok (.iload_n 1, 1) := by decide +kernel
theorem dX8_load_22 : decode cX8_load 22 = .ok (.invokevirtual 98, 3) := by decide +kernel
theorem dX8_load_25 : decode cX8_load 25 = .ok (.checkcast 86, 3) := by decide +kernel
theorem dX8_load_28 : decode cX8_load 28 = .ok (.astore_n 3, 1) := by decide +kernel
theorem dX8_load_29 : decode cX8_load 29 = .ok (.iload_n 2, 1) := by decide +kernel
theorem dX8_load_30 : decode cX8_load 30 = .ok (.ifCond .eq 10, 3) := by decide +kernel
theorem dX8_load_33 : decode cX8_load 33 = .ok (.aload_n 3, 1) := by decide +kernel
theorem dX8_load_34 : decode cX8_load 34 = .ok (.invokevirtual 243, 3) := by decide +kernel
theorem dX8_load_37 : decode cX8_load 37 = .ok (.goto 7, 3) := by decide +kernel
theorem dX8_load_40 : decode cX8_load 40 = .ok (.aload_n 3, 1) := by decide +kernel
theorem dX8_load_41 : decode cX8_load 41 = .ok (.getfield 246, 3) := by decide +kernel
theorem dX8_load_44 : decode cX8_load 44 = .ok (.ireturn, 1) := by decide +kernel
theorem dX8_canaryShare_0 : decode cX8_canaryShare 0 = .ok (.iload_n 1, 1) := by decide +kernel
theorem dX8_canaryShare_1 : decode cX8_canaryShare 1 = .ok (.iconst 0, 1) := by decide +kernel
theorem dX8_canaryShare_2 : decode cX8_canaryShare 2 = .ok (.iconst 5, 1) := by decide +kernel
theorem dX8_canaryShare_3 : decode cX8_canaryShare 3 = .ok (.invokestatic 54, 3) := by decide +kernel
theorem dX8_canaryShare_6 : decode cX8_canaryShare 6 = .ok (.invokestatic 58, 3) := by decide +kernel
theorem dX8_canaryShare_9 : decode cX8_canaryShare 9 = .ok (.aload_n 0, 1) := by decide +kernel
theorem dX8_canaryShare_10 : decode cX8_canaryShare 10 = .ok (.getfield 26, 3) := by decide +kernel
theorem dX8_canaryShare_13 : decode cX8_canaryShare 13 = .ok (.iload_n 1, 1) := by decide +kernel
theorem dX8_canaryShare_14 : decode cX8_canaryShare 14 = .ok (.aaload, 1) := by decide +kernel
theorem dX8_canaryShare_15 : decode cX8_canaryShare 15 = .ok (.getfield 119, 3) := by decide +kernel
theorem dX8_canaryShare_18 : decode cX8_canaryShare 18 = .ok (.getfield 123, 3) := by decide +kernel
theorem dX8_canaryShare_21 : decode cX8_canaryShare 21 = .ok (.ireturn, 1) := by decide +kernel
theorem dX8_repairs_0 : decode cX8_repairs 0 = .ok (.iload_n 1, 1) := by decide +kernel
theorem dX8_repairs_1 : decode cX8_repairs 1 = .ok (.ifCond .ne 11, 3) := by decide +kernel
theorem dX8_repairs_4 : decode cX8_repairs 4 = .ok (.aload_n 0, 1) := by decide +kernel
theorem dX8_repairs_5 : decode cX8_repairs 5 = .ok (.getfield 49, 3) := by decide +kernel
theorem dX8_repairs_8 : decode cX8_repairs 8 = .ok (.invokevirtual 82, 3) := by decide +kernel
theorem dX8_repairs_11 : decode cX8_repairs 11 = .ok (.ireturn, 1) := by decide +kernel
theorem dX8_repairs_12 : decode cX8_repairs 12 = .ok (.iconst 0, 1) := by decide +kernel
theorem dX8_repairs_13 : decode cX8_repairs 13 = .ok (.istore_n 2, 1) := by decide +kernel
theorem dX8_repairs_14 : decode cX8_repairs 14 = .ok (.iconst 0, 1) := by decide +kernel
theorem dX8_repairs_15 : decode cX8_repairs 15 = .ok (.istore_n 3, 1) := by decide +kernel
theorem dX8_repairs_16 : decode cX8_repairs 16 = .ok (.iload_n 3, 1) := by decide +kernel
theorem dX8_repairs_17 : decode cX8_repairs 17 = .ok (.aload_n 0, 1) := by decide +kernel
theorem dX8_repairs_18 : decode cX8_repairs 18 = .ok (.getfield 49, 3) := by decide +kernel
theorem dX8_repairs_21 : decode cX8_repairs 21 = .ok (.invokevirtual 82, 3) := by decide +kernel
theorem dX8_repairs_24 : decode cX8_repairs 24 = .ok (.if_icmp .ge 30, 3) := by decide +kernel
theorem dX8_repairs_27 : decode cX8_repairs 27 = .ok (.aload_n 0, 1) := by decide +kernel
theorem dX8_repairs_28 : decode cX8_repairs 28 = .ok (.getfield 49, 3) := by decide +kernel
theorem dX8_repairs_31 : decode cX8_repairs 31 = .ok (.iload_n 3, 1) := by decide +kernel
theorem dX8_repairs_32 : decode cX8_repairs 32 = .ok (.invokevirtual 98, 3) := by decide +kernel
theorem dX8_repairs_35 : decode cX8_repairs 35 = .ok (.checkcast 132, 3) := by decide +kernel
theorem dX8_repairs_38 : decode cX8_repairs 38 = .ok (.getfield 249, 3) := by decide +kernel
theorem dX8_repairs_41 : decode cX8_repairs 41 = .ok (.iconst 3, 1) := by decide +kernel
theorem dX8_repairs_42 : decode cX8_repairs 42 = .ok (.if_icmp .ne 6, 3) := by decide +kernel
theorem dX8_repairs_45 : decode cX8_repairs 45 = .ok (.iinc 2 1, 3) := by decide +kernel
theorem dX8_repairs_48 : decode cX8_repairs 48 = .ok (.iinc 3 1, 3) := by decide +kernel
theorem dX8_repairs_51 : decode cX8_repairs 51 = .ok (.goto (-35), 3) := by decide +kernel
theorem dX8_repairs_54 : decode cX8_repairs 54 = .ok (.iload_n 2, 1) := by decide +kernel
theorem dX8_repairs_55 : decode cX8_repairs 55 = .ok (.ireturn, 1) := by decide +kernel
theorem dX8_extra_0 : decode cX8_extra 0 = .ok (.iload_n 1, 1) := by decide +kernel
theorem dX8_extra_1 : decode cX8_extra 1 = .ok (.iconst 0, 1) := by decide +kernel
theorem dX8_extra_2 : decode cX8_extra 2 = .ok (.bipush 6, 2) := by decide +kernel
theorem dX8_extra_4 : decode cX8_extra 4 = .ok (.invokestatic 54, 3) := by decide +kernel
theorem dX8_extra_7 : decode cX8_extra 7 = .ok (.invokestatic 58, 3) := by decide +kernel
theorem dX8_extra_10 : decode cX8_extra 10 = .ok (.aload_n 0, 1) := by decide +kernel
theorem dX8_extra_11 : decode cX8_extra 11 = .ok (.getfield 32, 3) := by decide +kernel
theorem dX8_extra_14 : decode cX8_extra 14 = .ok (.iload_n 1, 1) := by decide +kernel
theorem dX8_extra_15 : decode cX8_extra 15 = .ok (.aaload, 1) := by decide +kernel
theorem dX8_extra_16 : decode cX8_extra 16 = .ok (.getfield 250, 3) := by decide +kernel
theorem dX8_extra_19 : decode cX8_extra 19 = .ok (.ireturn, 1) := by decide +kernel
theorem dX8_first_0 : decode cX8_first 0 = .ok (.iload_n 1, 1) := by decide +kernel
theorem dX8_first_1 : decode cX8_first 1 = .ok (.iconst 0, 1) := by decide +kernel
theorem dX8_first_2 : decode cX8_first 2 = .ok (.bipush 6, 2) := by decide +kernel
theorem dX8_first_4 : decode cX8_first 4 = .ok (.invokestatic 54, 3) := by decide +kernel
theorem dX8_first_7 : decode cX8_first 7 = .ok (.invokestatic 58, 3) := by decide +kernel
theorem dX8_first_10 : decode cX8_first 10 = .ok (.aload_n 0, 1) := by decide +kernel
theorem dX8_first_11 : decode cX8_first 11 = .ok (.getfield 32, 3) := by decide +kernel
theorem dX8_first_14 : decode cX8_first 14 = .ok (.iload_n 1, 1) := by decide +kernel
theorem dX8_first_15 : decode cX8_first 15 = .ok (.aaload, 1) := by decide +kernel
theorem dX8_first_16 : decode cX8_first 16 = .ok (.getfield 253, 3) := by decide +kernel
theorem dX8_first_19 : decode cX8_first 19 = .ok (.ireturn, 1) := by decide +kernel
theorem dX8_isWithin_0 : decode cX8_isWithin 0 = .ok (.iload_n 0, 1) := by decide +kernel
theorem dX8_isWithin_1 : decode cX8_isWithin 1 = .ok (.iload_n 1, 1) := by decide +kernel
theorem dX8_isWithin_2 : decode cX8_isWithin 2 = .ok (.if_icmp .lt 12, 3) := by decide +kernel
theorem dX8_isWithin_5 : decode cX8_isWithin 5 = .ok (.iload_n 0, 1) := by decide +kernel
theorem dX8_isWithin_6 : decode cX8_isWithin 6 = .ok (.iload_n 2, 1) := by decide +kernel
theorem dX8_isWithin_7 : decode cX8_isWithin 7 = .ok (.if_icmp .gt 7, 3) := by decide +kernel
theorem dX8_isWithin_10 : decode cX8_isWithin 10 = .ok (.iconst 1, 1) := by decide +kernel
theorem dX8_isWithin_11 : decode cX8_isWithin 11 = .ok (.goto 4, 3) := by decide +kernel
theorem dX8_isWithin_14 : decode cX8_isWithin 14 = .ok (.iconst 0, 1) := by decide +kernel
theorem dX8_isWithin_15 : decode cX8_isWithin 15 = .ok (.ireturn, 1) := by decide +kernel
theorem dX8_mustExist_0 : decode cX8_mustExist 0 = .ok (.iload_n 0, 1) := by decide +kernel
theorem dX8_mustExist_1 : decode cX8_mustExist 1 = .ok (.ifCond .ne 14, 3) := by decide +kernel
theorem dX8_mustExist_4 : decode cX8_mustExist 4 = .ok (.new 256, 3) := by decide +kernel
theorem dX8_mustExist_7 : decode cX8_mustExist 7 = .ok (.dup, 1) := by decide +kernel
theorem dX8_mustExist_8 : decode cX8_mustExist 8 = .ok (.ldc_w 258, 3) := by decide +kernel
theorem dX8_mustExist_11 : decode cX8_mustExist 11 = .ok (.invokespecial 260, 3) := by decide +kernel
theorem dX8_mustExist_14 : decode cX8_mustExist 14 = .ok (.athrow, 1) := by decide +kernel
theorem dX8_mustExist_15 : decode cX8_mustExist 15 = .ok (.return_, 1) := by decide +kernel
theorem dX8_mustFit_0 : decode cX8_mustFit 0 = .ok (.iload_n 0, 1) := by decide +kernel
theorem dX8_mustFit_1 : decode cX8_mustFit 1 = .ok (.ifCond .ne 14, 3) := by decide +kernel
theorem dX8_mustFit_4 : decode cX8_mustFit 4 = .ok (.new 263, 3) := by decide +kernel
theorem dX8_mustFit_7 : decode cX8_mustFit 7 = .ok (.dup, 1) := by decide +kernel
theorem dX8_mustFit_8 : decode cX8_mustFit 8 = .ok (.ldc_w 265, 3) := by decide +kernel
theorem dX8_mustFit_11 : decode cX8_mustFit 11 = .ok (.invokespecial 267, 3) := by decide +kernel
theorem dX8_mustFit_14 : decode cX8_mustFit 14 = .ok (.athrow, 1) := by decide +kernel
theorem dX8_mustFit_15 : decode cX8_mustFit 15 = .ok (.return_, 1) := by decide +kernel
theorem dX8_mustBeAllowed_0 : decode cX8_mustBeAllowed 0 = .ok (.iload_n 0, 1) := by decide +kernel
theorem dX8_mustBeAllowed_1 : decode cX8_mustBeAllowed 1 = .ok (.ifCond .ne 14, 3) := by decide +kernel
theorem dX8_mustBeAllowed_4 : decode cX8_mustBeAllowed 4 = .ok (.new 268, 3) := by decide +kernel
theorem dX8_mustBeAllowed_7 : decode cX8_mustBeAllowed 7 = .ok (.dup, 1) := by decide +kernel
theorem dX8_mustBeAllowed_8 : decode cX8_mustBeAllowed 8 = .ok (.ldc_w 270, 3) := by decide +kernel
theorem dX8_mustBeAllowed_11 : decode cX8_mustBeAllowed 11 = .ok (.invokespecial 272, 3) := by decide +kernel
theorem dX8_mustBeAllowed_14 : decode cX8_mustBeAllowed 14 = .ok (.athrow, 1) := by decide +kernel
theorem dX8_mustBeAllowed_15 : decode cX8_mustBeAllowed 15 = .ok (.return_, 1) := by decide +kernel
theorem dX8_policyPlace_0 : decode cX8_policyPlace 0 = .ok (.iload_n 1, 1) := by decide +kernel
theorem dX8_policyPlace_1 : decode cX8_policyPlace 1 = .ok (.iconst (-1), 1) := by decide +kernel
theorem dX8_policyPlace_2 : decode cX8_policyPlace 2 = .ok (.if_icmp .ne 5, 3) := by decide +kernel
theorem dX8_policyPlace_5 : decode cX8_policyPlace 5 = .ok (.iconst 0, 1) := by decide +kernel
theorem dX8_policyPlace_6 : decode cX8_policyPlace 6 = .ok (.ireturn, 1) := by decide +kernel
theorem dX8_policyPlace_7 : decode cX8_policyPlace 7 = .ok (.iload_n 0, 1) := by decide +kernel
theorem dX8_policyPlace_8 : decode cX8_policyPlace 8 = .ok (.iconst (-1), 1) := by decide +kernel
theorem dX8_policyPlace_9 : decode cX8_policyPlace 9 = .ok (.if_icmp .ne 9, 3) := by decide +kernel
theorem dX8_policyPlace_12 : decode cX8_policyPlace 12 = .ok (.iconst 1, 1) := by decide +kernel
theorem dX8_policyPlace_13 : decode cX8_policyPlace 13 = .ok (.iload_n 1, 1) := by decide +kernel
theorem dX8_policyPlace_14 : decode cX8_policyPlace 14 = .ok (.iadd, 1) := by decide +kernel
theorem dX8_policyPlace_15 : decode cX8_policyPlace 15 = .ok (.goto 12, 3) := by decide +kernel
theorem dX8_policyPlace_18 : decode cX8_policyPlace 18 = .ok (.bipush 7, 2) := by decide +kernel
theorem dX8_policyPlace_20 : decode cX8_policyPlace 20 = .ok (.iload_n 0, 1) := by decide +kernel
theorem dX8_policyPlace_21 : decode cX8_policyPlace 21 = .ok (.bipush 6, 2) := by decide +kernel
theorem dX8_policyPlace_23 : decode cX8_policyPlace 23 = .ok (.imul, 1) := by decide +kernel
theorem dX8_policyPlace_24 : decode cX8_policyPlace 24 = .ok (.iadd, 1) := by decide +kernel
theorem dX8_policyPlace_25 : decode cX8_policyPlace 25 = .ok (.iload_n 1, 1) := by decide +kernel
theorem dX8_policyPlace_26 : decode cX8_policyPlace 26 = .ok (.iadd, 1) := by decide +kernel
theorem dX8_policyPlace_27 : decode cX8_policyPlace 27 = .ok (.ireturn, 1) := by decide +kernel
theorem dX8_policyOf_0 : decode cX8_policyOf 0 = .ok (.aload_n 0, 1) := by decide +kernel
theorem dX8_policyOf_1 : decode cX8_policyOf 1 = .ok (.getfield 21, 3) := by decide +kernel
theorem dX8_policyOf_4 : decode cX8_policyOf 4 = .ok (.iload_n 2, 1) := by decide +kernel
theorem dX8_policyOf_5 : decode cX8_policyOf 5 = .ok (.aaload, 1) := by decide +kernel
theorem dX8_policyOf_6 : decode cX8_policyOf 6 = .ok (.astore_n 3, 1) := by decide +kernel
theorem dX8_policyOf_7 : decode cX8_policyOf 7 = .ok (.aload_n 3, 1) := by decide +kernel
theorem dX8_policyOf_8 : decode cX8_policyOf 8 = .ok (.aload_n 1, 1) := by decide +kernel
theorem dX8_policyOf_9 : decode cX8_policyOf 9 = .ok (.getfield 273, 3) := by decide +kernel
theorem dX8_policyOf_12 : decode cX8_policyOf 12 = .ok (.aload_n 1, 1) := by decide +kernel
theorem dX8_policyOf_13 : decode cX8_policyOf 13 = .ok (.getfield 210, 3) := by decide +kernel
theorem dX8_policyOf_16 : decode cX8_policyOf 16 = .ok (.invokestatic 112, 3) := by decide +kernel
theorem dX8_policyOf_19 : decode cX8_policyOf 19 = .ok (.iaload, 1) := by decide +kernel
theorem dX8_policyOf_20 : decode cX8_policyOf 20 = .ok (.istore 4, 2) := by decide +kernel
theorem dX8_policyOf_22 : decode cX8_policyOf 22 = .ok (.iload 4, 2) := by decide +kernel
theorem dX8_policyOf_24 : decode cX8_policyOf 24 = .ok (.iconst (-1), 1) := by decide +kernel
theorem dX8_policyOf_25 : decode cX8_policyOf 25 = .ok (.if_icmp .eq 6, 3) := by decide +kernel
theorem dX8_policyOf_28 : decode cX8_policyOf 28 = .ok (.iload 4, 2) := by decide +kernel
theorem dX8_policyOf_30 : decode cX8_policyOf 30 = .ok (.ireturn, 1) := by decide +kernel
theorem dX8_policyOf_31 : decode cX8_policyOf 31 = .ok (.aload_n 3, 1) := by decide +kernel
theorem dX8_policyOf_32 : decode cX8_policyOf 32 = .ok (.iconst (-1), 1) := by decide +kernel
theorem dX8_policyOf_33 : decode cX8_policyOf 33 = .ok (.aload_n 1, 1) := by decide +kernel
theorem dX8_policyOf_34 : decode cX8_policyOf 34 = .ok (.getfield 210, 3) := by decide +kernel
theorem dX8_policyOf_37 : decode cX8_policyOf 37 = .ok (.invokestatic 112, 3) := by decide +kernel
theorem dX8_policyOf_40 : decode cX8_policyOf 40 = .ok (.iaload, 1) := by decide +kernel
theorem dX8_policyOf_41 : decode cX8_policyOf 41 = .ok (.istore 5, 2) := by decide +kernel
theorem dX8_policyOf_43 : decode cX8_policyOf 43 = .ok (.iload 5, 2) := by decide +kernel
theorem dX8_policyOf_45 : decode cX8_policyOf 45 = .ok (.iconst (-1), 1) := by decide +kernel
theorem dX8_policyOf_46 : decode cX8_policyOf 46 = .ok (.if_icmp .eq 6, 3) := by decide +kernel
theorem dX8_policyOf_49 : decode cX8_policyOf 49 = .ok (.iload 5, 2) := by decide +kernel
theorem dX8_policyOf_51 : decode cX8_policyOf 51 = .ok (.ireturn, 1) := by decide +kernel
theorem dX8_policyOf_52 : decode cX8_policyOf 52 = .ok (.aload_n 3, 1) := by decide +kernel
theorem dX8_policyOf_53 : decode cX8_policyOf 53 = .ok (.iconst (-1), 1) := by decide +kernel
theorem dX8_policyOf_54 : decode cX8_policyOf 54 = .ok (.iconst (-1), 1) := by decide +kernel
theorem dX8_policyOf_55 : decode cX8_policyOf 55 = .ok (.invokestatic 112, 3) := by decide +kernel
theorem dX8_policyOf_58 : decode cX8_policyOf 58 = .ok (.iaload, 1) := by decide +kernel
theorem dX8_policyOf_59 : decode cX8_policyOf 59 = .ok (.istore 6, 2) := by decide +kernel
theorem dX8_policyOf_61 : decode cX8_policyOf 61 = .ok (.iload 6, 2) := by decide +kernel
theorem dX8_policyOf_63 : decode cX8_policyOf 63 = .ok (.iconst (-1), 1) := by decide +kernel
theorem dX8_policyOf_64 : decode cX8_policyOf 64 = .ok (.if_icmp .eq 8, 3) := by decide +kernel
theorem dX8_policyOf_67 : decode cX8_policyOf 67 = .ok (.iload 6, 2) := by decide +kernel
theorem dX8_policyOf_69 : decode cX8_policyOf 69 = .ok (.goto 8, 3) := by decide +kernel
theorem dX8_policyOf_72 : decode cX8_policyOf 72 = .ok (.getstatic 276, 3) := by decide +kernel
theorem dX8_policyOf_75 : decode cX8_policyOf 75 = .ok (.iload_n 2, 1) := by decide +kernel
theorem dX8_policyOf_76 : decode cX8_policyOf 76 = .ok (.iaload, 1) := by decide +kernel
theorem dX8_policyOf_77 : decode cX8_policyOf 77 = .ok (.ireturn, 1) := by decide +kernel
theorem dX8_halfOpenBreakers_0 : decode cX8_halfOpenBreakers 0 = .ok (.iconst 0, 1) := by decide +kernel
theorem dX8_halfOpenBreakers_1 : decode cX8_halfOpenBreakers 1 = .ok (.istore_n 1, 1) := by decide +kernel
theorem dX8_halfOpenBreakers_2 : decode cX8_halfOpenBreakers 2 = .ok (.iload_n 1, 1) := by decide +kernel
theorem dX8_halfOpenBreakers_3 : decode cX8_halfOpenBreakers 3 = .ok (.aload_n 0, 1) := by decide +kernel
theorem dX8_halfOpenBreakers_4 : decode cX8_halfOpenBreakers 4 = .ok (.getfield 39, 3) := by decide +kernel
theorem dX8_halfOpenBreakers_7 : decode cX8_halfOpenBreakers 7 = .ok (.invokevirtual 82, 3) := by decide +kernel
theorem dX8_halfOpenBreakers_10 : decode cX8_halfOpenBreakers 10 = .ok (.if_icmp .ge 48, 3) := by decide +kernel
theorem dX8_halfOpenBreakers_13 : decode cX8_halfOpenBreakers 13 = .ok (.aload_n 0, 1) := by decide +kernel
theorem dX8_halfOpenBreakers_14 : decode cX8_halfOpenBreakers 14 = .ok (.getfield 39, 3) := by decide +kernel
theorem dX8_halfOpenBreakers_17 : decode cX8_halfOpenBreakers 17 = .ok (.iload_n 1, 1) := by decide +kernel
theorem dX8_halfOpenBreakers_18 : decode cX8_halfOpenBreakers 18 = .ok (.invokevirtual 98, 3) := by decide +kernel
theorem dX8_halfOpenBreakers_21 : decode cX8_halfOpenBreakers 21 = .ok (.checkcast 86, 3) := by decide +kernel
theorem dX8_halfOpenBreakers_24 : decode cX8_halfOpenBreakers 24 = .ok (.getfield 233, 3) := by decide +kernel
theorem dX8_halfOpenBreakers_27 : decode cX8_halfOpenBreakers 27 = .ok (.astore_n 2, 1) := by decide +kernel
theorem dX8_halfOpenBreakers_28 : decode cX8_halfOpenBreakers 28 = .ok (.iconst 0, 1) := by decide +kernel
theorem dX8_halfOpenBreakers_29 : decode cX8_halfOpenBreakers 29 = .ok (.istore_n 3, 1) := by decide +kernel
theorem dX8_halfOpenBreakers_30 : decode cX8_halfOpenBreakers 30 = .ok (.iload_n 3, 1) := by decide +kernel
theorem dX8_halfOpenBreakers_31 : decode cX8_halfOpenBreakers 31 = .ok (.aload_n 2, 1) := by decide +kernel
theorem dX8_halfOpenBreakers_32 : decode cX8_halfOpenBreakers 32 = .ok (.arraylength, 1) := by decide +kernel
theorem dX8_halfOpenBreakers_33 : decode cX8_halfOpenBreakers 33 = .ok (.if_icmp .ge 19, 3) := by decide +kernel
theorem dX8_halfOpenBreakers_36 : decode cX8_halfOpenBreakers 36 = .ok (.aload_n 2, 1) := by decide +kernel
theorem dX8_halfOpenBreakers_37 : decode cX8_halfOpenBreakers 37 = .ok (.iload_n 3, 1) := by decide +kernel
theorem dX8_halfOpenBreakers_38 : decode cX8_halfOpenBreakers 38 = .ok (.aaload, 1) := by decide +kernel
theorem dX8_halfOpenBreakers_39 : decode cX8_halfOpenBreakers 39 = .ok (.aload_n 0, 1) := by decide +kernel
theorem dX8_halfOpenBreakers_40 : decode cX8_halfOpenBreakers 40 = .ok (.getfield 140, 3) := by decide +kernel
theorem dX8_halfOpenBreakers_43 : decode cX8_halfOpenBreakers 43 = .ok (.invokevirtual 279, 3) := by decide +kernel
theorem dX8_halfOpenBreakers_46 : decode cX8_halfOpenBreakers 46 = .ok (.iinc 3 1, 3) := by decide +kernel
theorem dX8_halfOpenBreakers_49 : decode cX8_halfOpenBreakers 49 = .ok (.goto (-19), 3) := by decide +kernel
theorem dX8_halfOpenBreakers_52 : decode cX8_halfOpenBreakers 52 = .ok (.iinc 1 1, 3) := by decide +kernel
theorem dX8_halfOpenBreakers_55 : decode cX8_halfOpenBreakers 55 = .ok (.goto (-53), 3) := by decide +kernel
theorem dX8_halfOpenBreakers_58 : decode cX8_halfOpenBreakers 58 = .ok (.return_, 1) := by decide +kernel
theorem dX8_endLateCalls_0 : decode cX8_endLateCalls 0 = .ok (.iconst 0, 1) := by decide +kernel
theorem dX8_endLateCalls_1 : decode cX8_endLateCalls 1 = .ok (.istore_n 1, 1) := by decide +kernel
theorem dX8_endLateCalls_2 : decode cX8_endLateCalls 2 = .ok (.iload_n 1, 1) := by decide +kernel
theorem dX8_endLateCalls_3 : decode cX8_endLateCalls 3 = .ok (.aload_n 0, 1) := by decide +kernel
theorem dX8_endLateCalls_4 : decode cX8_endLateCalls 4 = .ok (.getfield 46, 3) := by decide +kernel
theorem dX8_endLateCalls_7 : decode cX8_endLateCalls 7 = .ok (.invokevirtual 82, 3) := by decide +kernel
theorem dX8_endLateCalls_10 : decode cX8_endLateCalls 10 = .ok (.if_icmp .ge 46, 3) := by decide +kernel
theorem dX8_endLateCalls_13 : decode cX8_endLateCalls 13 = .ok (.aload_n 0, 1) := by decide +kernel
theorem dX8_endLateCalls_14 : decode cX8_endLateCalls 14 = .ok (.getfield 46, 3) := by decide +kernel
theorem dX8_endLateCalls_17 : decode cX8_endLateCalls 17 = .ok (.iload_n 1, 1) := by decide +kernel
theorem dX8_endLateCalls_18 : decode cX8_endLateCalls 18 = .ok (.invokevirtual 98, 3) := by decide +kernel
theorem dX8_endLateCalls_21 : decode cX8_endLateCalls 21 = .ok (.checkcast 204, 3) := by decide +kernel
theorem dX8_endLateCalls_24 : decode cX8_endLateCalls 24 = .ok (.astore_n 2, 1) := by decide +kernel
theorem dX8_endLateCalls_25 : decode cX8_endLateCalls 25 = .ok (.aload_n 2, 1) := by decide +kernel
theorem dX8_endLateCalls_26 : decode cX8_endLateCalls 26 = .ok (.invokevirtual 282, 3) := by decide +kernel
theorem dX8_endLateCalls_29 : decode cX8_endLateCalls 29 = .ok (.ifCond .ne 21, 3) := by decide +kernel
theorem dX8_endLateCalls_32 : decode cX8_endLateCalls 32 = .ok (.aload_n 2, 1) := by decide +kernel
theorem dX8_endLateCalls_33 : decode cX8_endLateCalls 33 = .ok (.getfield 218, 3) := by decide +kernel
theorem dX8_endLateCalls_36 : decode cX8_endLateCalls 36 = .ok (.aload_n 0, 1) := by decide +kernel
theorem dX8_endLateCalls_37 : decode cX8_endLateCalls 37 = .ok (.getfield 140, 3) := by decide +kernel
theorem dX8_endLateCalls_40 : decode cX8_endLateCalls 40 = .ok (.if_icmp .gt 10, 3) := by decide +kernel
theorem dX8_endLateCalls_43 : decode cX8_endLateCalls 43 = .ok (.aload_n 0, 1) := by decide +kernel
theorem dX8_endLateCalls_44 : decode cX8_endLateCalls 44 = .ok (.aload_n 2, 1) := by decide +kernel
theorem dX8_endLateCalls_45 : decode cX8_endLateCalls 45 = .ok (.iconst 5, 1) := by decide +kernel
theorem dX8_endLateCalls_46 : decode cX8_endLateCalls 46 = .ok (.iconst 0, 1) := by decide +kernel
theorem dX8_endLateCalls_47 : decode cX8_endLateCalls 47 = .ok (.invokevirtual 285, 3) := by decide +kernel
theorem dX8_endLateCalls_50 : decode cX8_endLateCalls 50 = .ok (.iinc 1 1, 3) := by decide +kernel
theorem dX8_endLateCalls_53 : decode cX8_endLateCalls 53 = .ok (.goto (-51), 3) := by decide +kernel
theorem dX8_endLateCalls_56 : decode cX8_endLateCalls 56 = .ok (.return_, 1) := by decide +kernel
theorem dX8_endWork_0 : decode cX8_endWork 0 = .ok (.iconst 0, 1) := by decide +kernel
theorem dX8_endWork_1 : decode cX8_endWork 1 = .ok (.istore_n 1, 1) := by decide +kernel
theorem dX8_endWork_2 : decode cX8_endWork 2 = .ok (.iload_n 1, 1) := by decide +kernel
theorem dX8_endWork_3 : decode cX8_endWork 3 = .ok (.aload_n 0, 1) := by decide +kernel
theorem dX8_endWork_4 : decode cX8_endWork 4 = .ok (.getfield 46, 3) := by decide +kernel
theorem dX8_endWork_7 : decode cX8_endWork 7 = .ok (.invokevirtual 82, 3) := by decide +kernel
theorem dX8_endWork_10 : decode cX8_endWork 10 = .ok (.if_icmp .ge 98, 3) := by decide +kernel
theorem dX8_endWork_13 : decode cX8_endWork 13 = .ok (.aload_n 0, 1) := by decide +kernel
theorem dX8_endWork_14 : decode cX8_endWork 14 = .ok (.getfield 46, 3) := by decide +kernel
theorem dX8_endWork_17 : decode cX8_endWork 17 = .ok (.iload_n 1, 1) := by decide +kernel
theorem dX8_endWork_18 : decode cX8_endWork 18 = .ok (.invokevirtual 98, 3) := by decide +kernel
theorem dX8_endWork_21 : decode cX8_endWork 21 = .ok (.checkcast 204, 3) := by decide +kernel
theorem dX8_endWork_24 : decode cX8_endWork 24 = .ok (.astore_n 2, 1) := by decide +kernel
theorem dX8_endWork_25 : decode cX8_endWork 25 = .ok (.aload_n 2, 1) := by decide +kernel
theorem dX8_endWork_26 : decode cX8_endWork 26 = .ok (.getfield 217, 3) := by decide +kernel
theorem dX8_endWork_29 : decode cX8_endWork 29 = .ok (.iconst 1, 1) := by decide +kernel
theorem dX8_endWork_30 : decode cX8_endWork 30 = .ok (.if_icmp .ne 72, 3) := by decide +kernel
theorem dX8_endWork_33 : decode cX8_endWork 33 = .ok (.aload_n 2, 1) := by decide +kernel
theorem dX8_endWork_34 : decode cX8_endWork 34 = .ok (.getfield 289, 3) := by decide +kernel
theorem dX8_endWork_37 : decode cX8_endWork 37 = .ok (.aload_n 0, 1) := by decide +kernel
theorem dX8_endWork_38 : decode cX8_endWork 38 = .ok (.getfield 140, 3) := by decide +kernel
theorem dX8_endWork_41 : decode cX8_endWork 41 = .ok (.if_icmp .le 6, 3) := by decide +kernel
theorem dX8_endWork_44 : decode cX8_endWork 44 = .ok (.goto 58, 3) := by decide +kernel
theorem dX8_endWork_47 : decode cX8_endWork 47 = .ok (.aload_n 2, 1) := by decide +kernel
theorem dX8_endWork_48 : decode cX8_endWork 48 = .ok (.getfield 213, 3) := by decide +kernel
theorem dX8_endWork_51 : decode cX8_endWork 51 = .ok (.getfield 102, 3) := by decide +kernel
theorem dX8_endWork_54 : decode cX8_endWork 54 = .ok (.iconst 1, 1) := by decide +kernel
theorem dX8_endWork_55 : decode cX8_endWork 55 = .ok (.iaload, 1) := by decide +kernel
theorem dX8_endWork_56 : decode cX8_endWork 56 = .ok (.ifCond .eq 13, 3) := by decide +kernel
theorem dX8_endWork_59 : decode cX8_endWork 59 = .ok (.aload_n 0, 1) := by decide +kernel
theorem dX8_endWork_60 : decode cX8_endWork 60 = .ok (.aload_n 2, 1) := by decide +kernel
theorem dX8_endWork_61 : decode cX8_endWork 61 = .ok (.iconst 4, 1) := by decide +kernel
theorem dX8_endWork_62 : decode cX8_endWork 62 = .ok (.iconst 0, 1) := by decide +kernel
theorem dX8_endWork_63 : decode cX8_endWork 63 = .ok (.invokevirtual 285, 3) := by decide +kernel
theorem dX8_endWork_66 : decode cX8_endWork 66 = .ok (.goto 36, 3) := by decide +kernel
theorem dX8_endWork_69 : decode cX8_endWork 69 = .ok (.aload_n 0, 1) := by decide +kernel
theorem dX8_endWork_70 : decode cX8_endWork 70 = .ok (.getfield 26, 3) := by decide +kernel
theorem dX8_endWork_73 : decode cX8_endWork 73 = .ok (.aload_n 2, 1) := by decide +kernel
theorem dX8_endWork_74 : decode cX8_endWork 74 = .ok (.getfield 206, 3) := by decide +kernel
theorem dX8_endWork_77 : decode cX8_endWork 77 = .ok (.getfield 210, 3) := by decide +kernel
theorem dX8_endWork_80 : decode cX8_endWork 80 = .ok (.aaload, 1) := by decide +kernel
theorem dX8_endWork_81 : decode cX8_endWork 81 = .ok (.getfield 68, 3) := by decide +kernel
theorem dX8_endWork_84 : decode cX8_endWork 84 = .ok (.ifCond .ne 13, 3) := by decide +kernel
theorem dX8_endWork_87 : decode cX8_endWork 87 = .ok (.aload_n 0, 1) := by decide +kernel
theorem dX8_endWork_88 : decode cX8_endWork 88 = .ok (.aload_n 2, 1) := by decide +kernel
theorem dX8_endWork_89 : decode cX8_endWork 89 = .ok (.iconst 3, 1) := by decide +kernel
theorem dX8_endWork_90 : decode cX8_endWork 90 = .ok (.iconst 0, 1) := by decide +kernel
theorem dX8_endWork_91 : decode cX8_endWork 91 = .ok (.invokevirtual 285, 3) := by decide +kernel
theorem dX8_endWork_94 : decode cX8_endWork 94 = .ok (.goto 8, 3) := by decide +kernel
theorem dX8_endWork_97 : decode cX8_endWork 97 = .ok (.aload_n 2, 1) := by decide +kernel
theorem dX8_endWork_98 : decode cX8_endWork 98 = .ok (.iconst 2, 1) := by decide +kernel
theorem dX8_endWork_99 : decode cX8_endWork 99 = .ok (.putfield 217, 3) := by decide +kernel
theorem dX8_endWork_102 : decode cX8_endWork 102 = .ok (.iinc 1 1, 3) := by decide +kernel
theorem dX8_endWork_105 : decode cX8_endWork 105 = .ok (.goto (-103), 3) := by decide +kernel
theorem dX8_endWork_108 : decode cX8_endWork 108 = .ok (.return_, 1) := by decide +kernel
theorem dX8_goOnWithCalls_0 : decode cX8_goOnWithCalls 0 = .ok (.aload_n 0, 1) := by decide +kernel
theorem dX8_goOnWithCalls_1 : decode cX8_goOnWithCalls 1 = .ok (.getfield 46, 3) := by decide +kernel
theorem dX8_goOnWithCalls_4 : decode cX8_goOnWithCalls 4 = .ok (.invokevirtual 82, 3) := by decide +kernel
theorem dX8_goOnWithCalls_7 : decode cX8_goOnWithCalls 7 = .ok (.iconst 1, 1) := by decide +kernel
theorem dX8_goOnWithCalls_8 : decode cX8_goOnWithCalls 8 = .ok (.isub, 1) := by decide +kernel
theorem dX8_goOnWithCalls_9 : decode cX8_goOnWithCalls 9 = .ok (.istore_n 1, 1) := by decide +kernel
theorem dX8_goOnWithCalls_10 : decode cX8_goOnWithCalls 10 = .ok (.iload_n 1, 1) := by decide +kernel
theorem dX8_goOnWithCalls_11 : decode cX8_goOnWithCalls 11 = .ok (.ifCond .lt 141, 3) := by decide +kernel
theorem dX8_goOnWithCalls_14 : decode cX8_goOnWithCalls 14 = .ok (.aload_n 0, 1) := by decide +kernel
theorem dX8_goOnWithCalls_15 : decode cX8_goOnWithCalls 15 = .ok (.getfield 46, 3) := by decide +kernel
theorem dX8_goOnWithCalls_18 : decode cX8_goOnWithCalls 18 = .ok (.iload_n 1, 1) := by decide +kernel
theorem dX8_goOnWithCalls_19 : decode cX8_goOnWithCalls 19 = .ok (.invokevirtual 98, 3) := by decide +kernel
theorem dX8_goOnWithCalls_22 : decode cX8_goOnWithCalls 22 = .ok (.checkcast 204, 3) := by decide +kernel
theorem dX8_goOnWithCalls_25 : decode cX8_goOnWithCalls 25 = .ok (.astore_n 2, 1) := by decide +kernel
theorem dX8_goOnWithCalls_26 : decode cX8_goOnWithCalls 26 = .ok (.aload_n 2, 1) := by decide +kernel
theorem dX8_goOnWithCalls_27 : decode cX8_goOnWithCalls 27 = .ok (.getfield 217, 3) := by decide +kernel
theorem dX8_goOnWithCalls_30 : decode cX8_goOnWithCalls 30 = .ok (.iconst 2, 1) := by decide +kernel
theorem dX8_goOnWithCalls_31 : decode cX8_goOnWithCalls 31 = .ok (.if_icmp .eq 6, 3) := by decide +kernel
theorem dX8_goOnWithCalls_34 : decode cX8_goOnWithCalls 34 = .ok (.goto 112, 3) := by decide +kernel
theorem dX8_goOnWithCalls_37 : decode cX8_goOnWithCalls 37 = .ok (.aload_n 2, 1) := by decide +kernel
theorem dX8_goOnWithCalls_38 : decode cX8_goOnWithCalls 38 = .ok (.invokevirtual 292, 3) := by decide +kernel
theorem dX8_goOnWithCalls_41 : decode cX8_goOnWithCalls 41 = .ok (.astore_n 3, 1) := by decide +kernel
theorem dX8_goOnWithCalls_42 : decode cX8_goOnWithCalls 42 = .ok (.aload_n 3, 1) := by decide +kernel
theorem dX8_goOnWithCalls_43 : decode cX8_goOnWithCalls 43 = .ok (.ifnull 8, 3) := by decide +kernel
theorem dX8_goOnWithCalls_46 : decode cX8_goOnWithCalls 46 = .ok (.aload_n 0, 1) := by decide +kernel
theorem dX8_goOnWithCalls_47 : decode cX8_goOnWithCalls 47 = .ok (.aload_n 3, 1) := by decide +kernel
theorem dX8_goOnWithCalls_48 : decode cX8_goOnWithCalls 48 = .ok (.invokevirtual 155, 3) := by decide +kernel
theorem dX8_goOnWithCalls_51 : decode cX8_goOnWithCalls 51 = .ok (.aload_n 0, 1) := by decide +kernel
theorem dX8_goOnWithCalls_52 : decode cX8_goOnWithCalls 52 = .ok (.getfield 26, 3) := by decide +kernel
theorem dX8_goOnWithCalls_55 : decode cX8_goOnWithCalls 55 = .ok (.aload_n 2, 1) := by decide +kernel
theorem dX8_goOnWithCalls_56 : decode cX8_goOnWithCalls 56 = .ok (.getfield 206, 3) := by decide +kernel
theorem dX8_goOnWithCalls_59 : decode cX8_goOnWithCalls 59 = .ok (.getfield 210, 3) := by decide +kernel
theorem dX8_goOnWithCalls_62 : decode cX8_goOnWithCalls 62 = .ok (.aaload, 1) := by decide +kernel
theorem dX8_goOnWithCalls_63 : decode cX8_goOnWithCalls 63 = .ok (.getfield 68, 3) := by decide +kernel
theorem dX8_goOnWithCalls_66 : decode cX8_goOnWithCalls 66 = .ok (.istore 4, 2) := by decide +kernel
theorem dX8_goOnWithCalls_68 : decode cX8_goOnWithCalls 68 = .ok (.aload_n 2, 1) := by decide +kernel
theorem dX8_goOnWithCalls_69 : decode cX8_goOnWithCalls 69 = .ok (.getfield 224, 3) := by decide +kernel
theorem dX8_goOnWithCalls_72 : decode cX8_goOnWithCalls 72 = .ok (.invokevirtual 82, 3) := by decide +kernel
theorem dX8_goOnWithCalls_75 : decode cX8_goOnWithCalls 75 = .ok (.istore 5, 2) := by decide +kernel
theorem dX8_goOnWithCalls_77 : decode cX8_goOnWithCalls 77 = .ok (.iload 5, 2) := by decide +kernel
theorem dX8_goOnWithCalls_79 : decode cX8_goOnWithCalls 79 = .ok (.iload 4, 2) := by decide +kernel
theorem dX8_goOnWithCalls_81 : decode cX8_goOnWithCalls 81 = .ok (.if_icmp .ge 29, 3) := by decide +kernel
theorem dX8_goOnWithCalls_84 : decode cX8_goOnWithCalls 84 = .ok (.aload_n 3, 1) := by decide +kernel
theorem dX8_goOnWithCalls_85 : decode cX8_goOnWithCalls 85 = .ok (.invokestatic 296, 3) := by decide +kernel
theorem dX8_goOnWithCalls_88 : decode cX8_goOnWithCalls 88 = .ok (.ifCond .eq 22, 3) := by decide +kernel
theorem dX8_goOnWithCalls_91 : decode cX8_goOnWithCalls 91 = .ok (.aload_n 0, 1) := by decide +kernel
theorem dX8_goOnWithCalls_92 : decode cX8_goOnWithCalls 92 = .ok (.aload_n 2, 1) := by decide +kernel
theorem dX8_goOnWithCalls_93 : decode cX8_goOnWithCalls 93 = .ok (.iload 5, 2) := by decide +kernel
theorem dX8_goOnWithCalls_95 : decode cX8_goOnWithCalls 95 = .ok (.invokevirtual 300, 3) := by decide +kernel
theorem dX8_goOnWithCalls_98 : decode cX8_goOnWithCalls 98 = .ok (.astore_n 3, 1) := by decide +kernel
theorem dX8_goOnWithCalls_99 : decode cX8_goOnWithCalls 99 = .ok (.aload_n 0, 1) := by decide +kernel
theorem dX8_goOnWithCalls_100 : decode cX8_goOnWithCalls 100 = .ok (.aload_n 3, 1) := by decide +kernel
theorem dX8_goOnWithCalls_101 : decode cX8_goOnWithCalls 101 = .ok (.invokevirtual 155, 3) := by decide +kernel
theorem dX8_goOnWithCalls_104 : decode cX8_goOnWithCalls 104 = .ok (.iinc 5 1, 3) := by decide +kernel
theorem dX8_goOnWithCalls_107 : decode cX8_goOnWithCalls 107 = .ok (.goto (-30), 3) := by decide +kernel
theorem dX8_goOnWithCalls_110 : decode cX8_goOnWithCalls 110 = .ok (.aload_n 3, 1) := by decide +kernel
theorem dX8_goOnWithCalls_111 : decode cX8_goOnWithCalls 111 = .ok (.invokestatic 296, 3) := by decide +kernel
theorem dX8_goOnWithCalls_114 : decode cX8_goOnWithCalls 114 = .ok (.ifCond .eq 13, 3) := by decide +kernel
theorem dX8_goOnWithCalls_117 : decode cX8_goOnWithCalls 117 = .ok (.aload_n 0, 1) := by decide +kernel
theorem dX8_goOnWithCalls_118 : decode cX8_goOnWithCalls 118 = .ok (.aload_n 2, 1) := by decide +kernel
theorem dX8_goOnWithCalls_119 : decode cX8_goOnWithCalls 119 = .ok (.iconst 3, 1) := by decide +kernel
theorem dX8_goOnWithCalls_120 : decode cX8_goOnWithCalls 120 = .ok (.iconst 0, 1) := by decide +kernel
theorem dX8_goOnWithCalls_121 : decode cX8_goOnWithCalls 121 = .ok (.invokevirtual 285, 3) := by decide +kernel
theorem dX8_goOnWithCalls_124 : decode cX8_goOnWithCalls 124 = .ok (.goto 22, 3) := by decide +kernel
theorem dX8_goOnWithCalls_127 : decode cX8_goOnWithCalls 127 = .ok (.aload_n 3, 1) := by decide +kernel
theorem dX8_goOnWithCalls_128 : decode cX8_goOnWithCalls 128 = .ok (.ifnull 18, 3) := by decide +kernel
theorem dX8_goOnWithCalls_131 : decode cX8_goOnWithCalls 131 = .ok (.aload_n 3, 1) := by decide +kernel
theorem dX8_goOnWithCalls_132 : decode cX8_goOnWithCalls 132 = .ok (.getfield 249, 3) := by decide +kernel
theorem dX8_goOnWithCalls_135 : decode cX8_goOnWithCalls 135 = .ok (.iconst 4, 1) := by decide +kernel
theorem dX8_goOnWithCalls_136 : decode cX8_goOnWithCalls 136 = .ok (.if_icmp .ne 10, 3) := by decide +kernel
theorem dX8_goOnWithCalls_139 : decode cX8_goOnWithCalls 139 = .ok (.aload_n 0, 1) := by decide +kernel
theorem dX8_goOnWithCalls_140 : decode cX8_goOnWithCalls 140 = .ok (.aload_n 2, 1) := by decide +kernel
theorem dX8_goOnWithCalls_141 : decode cX8_goOnWithCalls 141 = .ok (.iconst 4, 1) := by decide +kernel
theorem dX8_goOnWithCalls_142 : decode cX8_goOnWithCalls 142 = .ok (.iconst 0, 1) := by decide +kernel
theorem dX8_goOnWithCalls_143 : decode cX8_goOnWithCalls 143 = .ok (.invokevirtual 285, 3) := by decide +kernel
theorem dX8_goOnWithCalls_146 : decode cX8_goOnWithCalls 146 = .ok (.iinc 1 (-1), 3) := by decide +kernel
theorem dX8_goOnWithCalls_149 : decode cX8_goOnWithCalls 149 = .ok (.goto (-139), 3) := by decide +kernel
theorem dX8_goOnWithCalls_152 : decode cX8_goOnWithCalls 152 = .ok (.return_, 1) := by decide +kernel
theorem dX8_isDone_0 : decode cX8_isDone 0 = .ok (.aload_n 0, 1) := by decide +kernel
theorem dX8_isDone_1 : decode cX8_isDone 1 = .ok (.ifnull 11, 3) := by decide +kernel
theorem dX8_isDone_4 : decode cX8_isDone 4 = .ok (.aload_n 0, 1) := by decide +kernel
theorem dX8_isDone_5 : decode cX8_isDone 5 = .ok (.getfield 249, 3) := by decide +kernel
theorem dX8_isDone_8 : decode cX8_isDone 8 = .ok (.iconst 3, 1) := by decide +kernel
theorem dX8_isDone_9 : decode cX8_isDone 9 = .ok (.if_icmp .ne 7, 3) := by decide +kernel
theorem dX8_isDone_12 : decode cX8_isDone 12 = .ok (.iconst 1, 1) := by decide +kernel
theorem dX8_isDone_13 : decode cX8_isDone 13 = .ok (.goto 4, 3) := by decide +kernel
theorem dX8_isDone_16 : decode cX8_isDone 16 = .ok (.iconst 0, 1) := by decide +kernel
theorem dX8_isDone_17 : decode cX8_isDone 17 = .ok (.ireturn, 1) := by decide +kernel
theorem dX8_beginStep_0 : decode cX8_beginStep 0 = .ok (.aload_n 1, 1) := by decide +kernel
theorem dX8_beginStep_1 : decode cX8_beginStep 1 = .ok (.aload_n 0, 1) := by decide +kernel
theorem dX8_beginStep_2 : decode cX8_beginStep 2 = .ok (.getfield 26, 3) := by decide +kernel
theorem dX8_beginStep_5 : decode cX8_beginStep 5 = .ok (.aload_n 1, 1) := by decide +kernel
theorem dX8_beginStep_6 : decode cX8_beginStep 6 = .ok (.getfield 206, 3) := by decide +kernel
theorem dX8_beginStep_9 : decode cX8_beginStep 9 = .ok (.getfield 210, 3) := by decide +kernel
theorem dX8_beginStep_12 : decode cX8_beginStep 12 = .ok (.aaload, 1) := by decide +kernel
theorem dX8_beginStep_13 : decode cX8_beginStep 13 = .ok (.iload_n 2, 1) := by decide +kernel
theorem dX8_beginStep_14 : decode cX8_beginStep 14 = .ok (.invokestatic 304, 3) := by decide +kernel
theorem dX8_beginStep_17 : decode cX8_beginStep 17 = .ok (.astore_n 3, 1) := by decide +kernel
theorem dX8_beginStep_18 : decode cX8_beginStep 18 = .ok (.aload_n 1, 1) := by decide +kernel
theorem dX8_beginStep_19 : decode cX8_beginStep 19 = .ok (.getfield 224, 3) := by decide +kernel
theorem dX8_beginStep_22 : decode cX8_beginStep 22 = .ok (.aload_n 3, 1) := by decide +kernel
theorem dX8_beginStep_23 : decode cX8_beginStep 23 = .ok (.invokevirtual 91, 3) := by decide +kernel
theorem dX8_beginStep_26 : decode cX8_beginStep 26 = .ok (.pop, 1) := by decide +kernel
theorem dX8_beginStep_27 : decode cX8_beginStep 27 = .ok (.aload_n 0, 1) := by decide +kernel
theorem dX8_beginStep_28 : decode cX8_beginStep 28 = .ok (.aload_n 3, 1) := by decide +kernel
theorem dX8_beginStep_29 : decode cX8_beginStep 29 = .ok (.iconst 0, 1) := by decide +kernel
theorem dX8_beginStep_30 : decode cX8_beginStep 30 = .ok (.invokevirtual 151, 3) := by decide +kernel
theorem dX8_beginStep_33 : decode cX8_beginStep 33 = .ok (.aload_n 3, 1) := by decide +kernel
theorem dX8_beginStep_34 : decode cX8_beginStep 34 = .ok (.areturn, 1) := by decide +kernel
theorem dX8_stepOf_0 : decode cX8_stepOf 0 = .ok (.new 132, 3) := by decide +kernel
theorem dX8_stepOf_3 : decode cX8_stepOf 3 = .ok (.dup, 1) := by decide +kernel
theorem dX8_stepOf_4 : decode cX8_stepOf 4 = .ok (.aload_n 0, 1) := by decide +kernel
theorem dX8_stepOf_5 : decode cX8_stepOf 5 = .ok (.getfield 206, 3) := by decide +kernel
theorem dX8_stepOf_8 : decode cX8_stepOf 8 = .ok (.getfield 210, 3) := by decide +kernel
theorem dX8_stepOf_11 : decode cX8_stepOf 11 = .ok (.aload_n 1, 1) := by decide +kernel
theorem dX8_stepOf_12 : decode cX8_stepOf 12 = .ok (.getfield 308, 3) := by decide +kernel
theorem dX8_stepOf_15 : decode cX8_stepOf 15 = .ok (.iload_n 2, 1) := by decide +kernel
theorem dX8_stepOf_16 : decode cX8_stepOf 16 = .ok (.iaload, 1) := by decide +kernel
theorem dX8_stepOf_17 : decode cX8_stepOf 17 = .ok (.aload_n 1, 1) := by decide +kernel
theorem dX8_stepOf_18 : decode cX8_stepOf 18 = .ok (.getfield 310, 3) := by decide +kernel
theorem dX8_stepOf_21 : decode cX8_stepOf 21 = .ok (.iload_n 2, 1) := by decide +kernel
theorem dX8_stepOf_22 : decode cX8_stepOf 22 = .ok (.baload, 1) := by decide +kernel
theorem dX8_stepOf_23 : decode cX8_stepOf 23 = .ok (.invokespecial 134, 3) := by decide +kernel
theorem dX8_stepOf_26 : decode cX8_stepOf 26 = .ok (.astore_n 3, 1) := by decide +kernel
theorem dX8_stepOf_27 : decode cX8_stepOf 27 = .ok (.aload_n 3, 1) := by decide +kernel
theorem dX8_stepOf_28 : decode cX8_stepOf 28 = .ok (.aload_n 1, 1) := by decide +kernel
theorem dX8_stepOf_29 : decode cX8_stepOf 29 = .ok (.getfield 314, 3) := by decide +kernel
theorem dX8_stepOf_32 : decode cX8_stepOf 32 = .ok (.iload_n 2, 1) := by decide +kernel
theorem dX8_stepOf_33 : decode cX8_stepOf 33 = .ok (.iaload, 1) := by decide +kernel
theorem dX8_stepOf_34 : decode cX8_stepOf 34 = .ok (.putfield 317, 3) := by decide +kernel
theorem dX8_stepOf_37 : decode cX8_stepOf 37 = .ok (.aload_n 3, 1) := by decide +kernel
theorem dX8_stepOf_38 : decode cX8_stepOf 38 = .ok (.aload_n 0, 1) := by decide +kernel
theorem dX8_stepOf_39 : decode cX8_stepOf 39 = .ok (.putfield 219, 3) := by decide +kernel
theorem dX8_stepOf_42 : decode cX8_stepOf 42 = .ok (.aload_n 3, 1) := by decide +kernel
theorem dX8_stepOf_43 : decode cX8_stepOf 43 = .ok (.aload_n 0, 1) := by decide +kernel
theorem dX8_stepOf_44 : decode cX8_stepOf 44 = .ok (.getfield 213, 3) := by decide +kernel
theorem dX8_stepOf_47 : decode cX8_stepOf 47 = .ok (.getfield 319, 3) := by decide +kernel
theorem dX8_stepOf_50 : decode cX8_stepOf 50 = .ok (.putfield 322, 3) := by decide +kernel
theorem dX8_stepOf_53 : decode cX8_stepOf 53 = .ok (.aload_n 3, 1) := by decide +kernel
theorem dX8_stepOf_54 : decode cX8_stepOf 54 = .ok (.aload_n 0, 1) := by decide +kernel
theorem dX8_stepOf_55 : decode cX8_stepOf 55 = .ok (.getfield 206, 3) := by decide +kernel
theorem dX8_stepOf_58 : decode cX8_stepOf 58 = .ok (.getfield 137, 3) := by decide +kernel
theorem dX8_stepOf_61 : decode cX8_stepOf 61 = .ok (.putfield 137, 3) := by decide +kernel
theorem dX8_stepOf_64 : decode cX8_stepOf 64 = .ok (.aload_n 3, 1) := by decide +kernel
theorem dX8_stepOf_65 : decode cX8_stepOf 65 = .ok (.aload_n 0, 1) := by decide +kernel
theorem dX8_stepOf_66 : decode cX8_stepOf 66 = .ok (.getfield 218, 3) := by decide +kernel
theorem dX8_stepOf_69 : decode cX8_stepOf 69 = .ok (.putfield 143, 3) := by decide +kernel
theorem dX8_stepOf_72 : decode cX8_stepOf 72 = .ok (.aload_n 3, 1) := by decide +kernel
theorem dX8_stepOf_73 : decode cX8_stepOf 73 = .ok (.areturn, 1) := by decide +kernel
theorem dX8_goOnWithRequests_0 : decode cX8_goOnWithRequests 0 = .ok (.iconst 0, 1) := by decide +kernel
theorem dX8_goOnWithRequests_1 : decode cX8_goOnWithRequests 1 = .ok (.istore_n 1, 1) := by decide +kernel
theorem dX8_goOnWithRequests_2 : decode cX8_goOnWithRequests 2 = .ok (.iload_n 1, 1) := by decide +kernel
theorem dX8_goOnWithRequests_3 : decode cX8_goOnWithRequests 3 = .ok (.aload_n 0, 1) := by decide +kernel
theorem dX8_goOnWithRequests_4 : decode cX8_goOnWithRequests 4 = .ok (.getfield 43, 3) := by decide +kernel
theorem dX8_goOnWithRequests_7 : decode cX8_goOnWithRequests 7 = .ok (.invokevirtual 82, 3) := by decide +kernel
theorem dX8_goOnWithRequests_10 : decode cX8_goOnWithRequests 10 = .ok (.if_icmp .ge 69, 3) := by decide +kernel
theorem dX8_goOnWithRequests_13 : decode cX8_goOnWithRequests 13 = .ok (.aload_n 0, 1) := by decide +kernel
theorem dX8_goOnWithRequests_14 : decode cX8_goOnWithRequests 14 = .ok (.getfield 43, 3) := by decide +kernel
theorem dX8_goOnWithRequests_17 : decode cX8_goOnWithRequests 17 = .ok (.iload_n 1, 1) := by decide +kernel
theorem dX8_goOnWithRequests_18 : decode cX8_goOnWithRequests 18 = .ok (.invokevirtual 98, 3) := by decide +kernel
theorem dX8_goOnWithRequests_21 : decode cX8_goOnWithRequests 21 = .ok (.checkcast 146, 3) := by decide +kernel
theorem dX8_goOnWithRequests_24 : decode cX8_goOnWithRequests 24 = .ok (.astore_n 2, 1) := by decide +kernel
theorem dX8_goOnWithRequests_25 : decode cX8_goOnWithRequests 25 = .ok (.aload_n 2, 1) := by decide +kernel
theorem dX8_goOnWithRequests_26 : decode cX8_goOnWithRequests 26 = .ok (.getfield 187, 3) := by decide +kernel
theorem dX8_goOnWithRequests_29 : decode cX8_goOnWithRequests 29 = .ok (.bipush 8, 2) := by decide +kernel
theorem dX8_goOnWithRequests_31 : decode cX8_goOnWithRequests 31 = .ok (.if_icmp .eq 6, 3) := by decide +kernel
theorem dX8_goOnWithRequests_34 : decode cX8_goOnWithRequests 34 = .ok (.goto 39, 3) := by decide +kernel
theorem dX8_goOnWithRequests_37 : decode cX8_goOnWithRequests 37 = .ok (.aload_n 2, 1) := by decide +kernel
theorem dX8_goOnWithRequests_38 : decode cX8_goOnWithRequests 38 = .ok (.getfield 323, 3) := by decide +kernel
theorem dX8_goOnWithRequests_41 : decode cX8_goOnWithRequests 41 = .ok (.getfield 143, 3) := by decide +kernel
theorem dX8_goOnWithRequests_44 : decode cX8_goOnWithRequests 44 = .ok (.aload_n 0, 1) := by decide +kernel
theorem dX8_goOnWithRequests_45 : decode cX8_goOnWithRequests 45 = .ok (.getfield 140, 3) := by decide +kernel
theorem dX8_goOnWithRequests_48 : decode cX8_goOnWithRequests 48 = .ok (.if_icmp .gt 12, 3) := by decide +kernel
theorem dX8_goOnWithRequests_51 : decode cX8_goOnWithRequests 51 = .ok (.aload_n 0, 1) := by decide +kernel
theorem dX8_goOnWithRequests_52 : decode cX8_goOnWithRequests 52 = .ok (.aload_n 2, 1) := by decide +kernel
theorem dX8_goOnWithRequests_53 : decode cX8_goOnWithRequests 53 = .ok (.iconst 5, 1) := by decide +kernel
theorem dX8_goOnWithRequests_54 : decode cX8_goOnWithRequests 54 = .ok (.invokevirtual 326, 3) := by decide +kernel
theorem dX8_goOnWithRequests_57 : decode cX8_goOnWithRequests 57 = .ok (.goto 16, 3) := by decide +kernel
theorem dX8_goOnWithRequests_60 : decode cX8_goOnWithRequests 60 = .ok (.aload_n 0, 1) := by decide +kernel
theorem dX8_goOnWithRequests_61 : decode cX8_goOnWithRequests 61 = .ok (.aload_n 2, 1) := by decide +kernel
theorem dX8_goOnWithRequests_62 : decode cX8_goOnWithRequests 62 = .ok (.getfield 323, 3) := by decide +kernel
theorem dX8_goOnWithRequests_65 : decode cX8_goOnWithRequests 65 = .ok (.invokevirtual 155, 3) := by decide +kernel
theorem dX8_goOnWithRequests_68 : decode cX8_goOnWithRequests 68 = .ok (.aload_n 0, 1) := by decide +kernel
theorem dX8_goOnWithRequests_69 : decode cX8_goOnWithRequests 69 = .ok (.aload_n 2, 1) := by decide +kernel
theorem dX8_goOnWithRequests_70 : decode cX8_goOnWithRequests 70 = .ok (.invokevirtual 159, 3) := by decide +kernel
theorem dX8_goOnWithRequests_73 : decode cX8_goOnWithRequests 73 = .ok (.iinc 1 1, 3) := by decide +kernel
theorem dX8_goOnWithRequests_76 : decode cX8_goOnWithRequests 76 = .ok (.goto (-74), 3) := by decide +kernel
theorem dX8_goOnWithRequests_79 : decode cX8_goOnWithRequests 79 = .ok (.return_, 1) := by decide +kernel
theorem dX8_goOnWithRepairs_0 : decode cX8_goOnWithRepairs 0 = .ok (.iconst 0, 1) := by decide +kernel
theorem dX8_goOnWithRepairs_1 : decode cX8_goOnWithRepairs 1 = .ok (.istore_n 1, 1) := by decide +kernel
theorem dX8_goOnWithRepairs_2 : decode cX8_goOnWithRepairs 2 = .ok (.iload_n 1, 1) := by decide +kernel
theorem dX8_goOnWithRepairs_3 : decode cX8_goOnWithRepairs 3 = .ok (.aload_n 0, 1) := by decide +kernel
theorem dX8_goOnWithRepairs_4 : decode cX8_goOnWithRepairs 4 = .ok (.getfield 49, 3) := by decide +kernel
theorem dX8_goOnWithRepairs_7 : decode cX8_goOnWithRepairs 7 = .ok (.invokevirtual 82, 3) := by decide +kernel
theorem dX8_goOnWithRepairs_10 : decode cX8_goOnWithRepairs 10 = .ok (.if_icmp .ge 57, 3) := by decide +kernel
theorem dX8_goOnWithRepairs_13 : decode cX8_goOnWithRepairs 13 = .ok (.aload_n 0, 1) := by decide +kernel
theorem dX8_goOnWithRepairs_14 : decode cX8_goOnWithRepairs 14 = .ok (.getfield 49, 3) := by decide +kernel
theorem dX8_goOnWithRepairs_17 : decode cX8_goOnWithRepairs 17 = .ok (.iload_n 1, 1) := by decide +kernel
theorem dX8_goOnWithRepairs_18 : decode cX8_goOnWithRepairs 18 = .ok (.invokevirtual 98, 3) := by decide +kernel
theorem dX8_goOnWithRepairs_21 : decode cX8_goOnWithRepairs 21 = .ok (.checkcast 132, 3) := by decide +kernel
theorem dX8_goOnWithRepairs_24 : decode cX8_goOnWithRepairs 24 = .ok (.astore_n 2, 1) := by decide +kernel
theorem dX8_goOnWithRepairs_25 : decode cX8_goOnWithRepairs 25 = .ok (.aload_n 0, 1) := by decide +kernel
theorem dX8_goOnWithRepairs_26 : decode cX8_goOnWithRepairs 26 = .ok (.aload_n 2, 1) := by decide +kernel
theorem dX8_goOnWithRepairs_27 : decode cX8_goOnWithRepairs 27 = .ok (.invokevirtual 330, 3) := by decide +kernel
theorem dX8_goOnWithRepairs_30 : decode cX8_goOnWithRepairs 30 = .ok (.aload_n 2, 1) := by decide +kernel
theorem dX8_goOnWithRepairs_31 : decode cX8_goOnWithRepairs 31 = .ok (.getfield 249, 3) := by decide +kernel
theorem dX8_goOnWithRepairs_34 : decode cX8_goOnWithRepairs 34 = .ok (.bipush 8, 2) := by decide +kernel
theorem dX8_goOnWithRepairs_36 : decode cX8_goOnWithRepairs 36 = .ok (.if_icmp .ne 25, 3) := by decide +kernel
theorem dX8_goOnWithRepairs_39 : decode cX8_goOnWithRepairs 39 = .ok (.aload_n 2, 1) := by decide +kernel
theorem dX8_goOnWithRepairs_40 : decode cX8_goOnWithRepairs 40 = .ok (.aload_n 0, 1) := by decide +kernel
theorem dX8_goOnWithRepairs_41 : decode cX8_goOnWithRepairs 41 = .ok (.getfield 140, 3) := by decide +kernel
theorem dX8_goOnWithRepairs_44 : decode cX8_goOnWithRepairs 44 = .ok (.invokevirtual 333, 3) := by decide +kernel
theorem dX8_goOnWithRepairs_47 : decode cX8_goOnWithRepairs 47 = .ok (.ifCond .ne 14, 3) := by decide +kernel
theorem dX8_goOnWithRepairs_50 : decode cX8_goOnWithRepairs 50 = .ok (.aload_n 0, 1) := by decide +kernel
theorem dX8_goOnWithRepairs_51 : decode cX8_goOnWithRepairs 51 = .ok (.aload_n 2, 1) := by decide +kernel
theorem dX8_goOnWithRepairs_52 : decode cX8_goOnWithRepairs 52 = .ok (.iconst 0, 1) := by decide +kernel
theorem dX8_goOnWithRepairs_53 : decode cX8_goOnWithRepairs 53 = .ok (.invokevirtual 151, 3) := by decide +kernel
theorem dX8_goOnWithRepairs_56 : decode cX8_goOnWithRepairs 56 = .ok (.aload_n 0, 1) := by decide +kernel
theorem dX8_goOnWithRepairs_57 : decode cX8_goOnWithRepairs 57 = .ok (.aload_n 2, 1) := by decide +kernel
theorem dX8_goOnWithRepairs_58 : decode cX8_goOnWithRepairs 58 = .ok (.invokevirtual 330, 3) := by decide +kernel
theorem dX8_goOnWithRepairs_61 : decode cX8_goOnWithRepairs 61 = .ok (.iinc 1 1, 3) := by decide +kernel
theorem dX8_goOnWithRepairs_64 : decode cX8_goOnWithRepairs 64 = .ok (.goto (-62), 3) := by decide +kernel
theorem dX8_goOnWithRepairs_67 : decode cX8_goOnWithRepairs 67 = .ok (.return_, 1) := by decide +kernel
theorem dX8_runQueued_0 : decode cX8_runQueued 0 = .ok (.iconst 0, 1) := by decide +kernel
