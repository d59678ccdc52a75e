theorem dX8_request_120 : decode cX8_request 120 = .ok (.aload 4, 2) := by decide +kernel
theorem dX8_request_122 : decode cX8_request 122 = .ok (.getfield 137, 3) := by decide +kernel
theorem dX8_request_125 : decode cX8_request 125 = .ok (.ireturn, 1) := by decide +kernel
theorem dX8_pass_0 : decode cX8_pass 0 = .ok (.iload_n 1, 1) := by decide +kernel
theorem dX8_pass_1 : decode cX8_pass 1 = .ok (.iconst 1, 1) := by decide +kernel
theorem dX8_pass_2 : decode cX8_pass 2 = .ok (.bipush 50, 2) := by decide +kernel
theorem dX8_pass_4 : decode cX8_pass 4 = .ok (.invokestatic 54, 3) := by decide +kernel
theorem dX8_pass_7 : decode cX8_pass 7 = .ok (.invokestatic 62, 3) := by decide +kernel
theorem dX8_pass_10 : decode cX8_pass 10 = .ok (.aload_n 0, 1) := by decide +kernel
theorem dX8_pass_11 : decode cX8_pass 11 = .ok (.getfield 140, 3) := by decide +kernel
theorem dX8_pass_14 : decode cX8_pass 14 = .ok (.iload_n 1, 1) := by decide +kernel
theorem dX8_pass_15 : decode cX8_pass 15 = .ok (.iadd, 1) := by decide +kernel
theorem dX8_pass_16 : decode cX8_pass 16 = .ok (.sipush 600, 3) := by decide +kernel
theorem dX8_pass_19 : decode cX8_pass 19 = .ok (.if_icmp .gt 7, 3) := by decide +kernel
theorem dX8_pass_22 : decode cX8_pass 22 = .ok (.iconst 1, 1) := by decide +kernel
theorem dX8_pass_23 : decode cX8_pass 23 = .ok (.goto 4, 3) := by decide +kernel
theorem dX8_pass_26 : decode cX8_pass 26 = .ok (.iconst 0, 1) := by decide +kernel
theorem dX8_pass_27 : decode cX8_pass 27 = .ok (.invokestatic 75, 3) := by decide +kernel
theorem dX8_pass_30 : decode cX8_pass 30 = .ok (.iconst 0, 1) := by decide +kernel
theorem dX8_pass_31 : decode cX8_pass 31 = .ok (.istore_n 2, 1) := by decide +kernel
theorem dX8_pass_32 : decode cX8_pass 32 = .ok (.iload_n 2, 1) := by decide +kernel
theorem dX8_pass_33 : decode cX8_pass 33 = .ok (.iload_n 1, 1) := by decide +kernel
theorem dX8_pass_34 : decode cX8_pass 34 = .ok (.if_icmp .ge 60, 3) := by decide +kernel
theorem dX8_pass_37 : decode cX8_pass 37 = .ok (.aload_n 0, 1) := by decide +kernel
theorem dX8_pass_38 : decode cX8_pass 38 = .ok (.dup, 1) := by decide +kernel
theorem dX8_pass_39 : decode cX8_pass 39 = .ok (.getfield 140, 3) := by decide +kernel
theorem dX8_pass_42 : decode cX8_pass 42 = .ok (.iconst 1, 1) := by decide +kernel
theorem dX8_pass_43 : decode cX8_pass 43 = .ok (.iadd, 1) := by decide +kernel
theorem dX8_pass_44 : decode cX8_pass 44 = .ok (.putfield 140, 3) := by decide +kernel
theorem dX8_pass_47 : decode cX8_pass 47 = .ok (.aload_n 0, 1) := by decide +kernel
theorem dX8_pass_48 : decode cX8_pass 48 = .ok (.invokevirtual 163, 3) := by decide +kernel
theorem dX8_pass_51 : decode cX8_pass 51 = .ok (.aload_n 0, 1) := by decide +kernel
theorem dX8_pass_52 : decode cX8_pass 52 = .ok (.invokevirtual 166, 3) := by decide +kernel
theorem dX8_pass_55 : decode cX8_pass 55 = .ok (.aload_n 0, 1) := by decide +kernel
theorem dX8_pass_56 : decode cX8_pass 56 = .ok (.invokevirtual 169, 3) := by decide +kernel
theorem dX8_pass_59 : decode cX8_pass 59 = .ok (.aload_n 0, 1) := by decide +kernel
theorem dX8_pass_60 : decode cX8_pass 60 = .ok (.invokevirtual 172, 3) := by decide +kernel
theorem dX8_pass_63 : decode cX8_pass 63 = .ok (.aload_n 0, 1) := by decide +kernel
theorem dX8_pass_64 : decode cX8_pass 64 = .ok (.invokevirtual 175, 3) := by decide +kernel
theorem dX8_pass_67 : decode cX8_pass 67 = .ok (.aload_n 0, 1) := by decide +kernel
theorem dX8_pass_68 : decode cX8_pass 68 = .ok (.invokevirtual 178, 3) := by decide +kernel
theorem dX8_pass_71 : decode cX8_pass 71 = .ok (.aload_n 0, 1) := by decide +kernel
theorem dX8_pass_72 : decode cX8_pass 72 = .ok (.invokevirtual 181, 3) := by decide +kernel
theorem dX8_pass_75 : decode cX8_pass 75 = .ok (.aload_n 0, 1) := by decide +kernel
theorem dX8_pass_76 : decode cX8_pass 76 = .ok (.getfield 140, 3) := by decide +kernel
theorem dX8_pass_79 : decode cX8_pass 79 = .ok (.iconst 5, 1) := by decide +kernel
theorem dX8_pass_80 : decode cX8_pass 80 = .ok (.irem, 1) := by decide +kernel
theorem dX8_pass_81 : decode cX8_pass 81 = .ok (.ifCond .ne 7, 3) := by decide +kernel
theorem dX8_pass_84 : decode cX8_pass 84 = .ok (.aload_n 0, 1) := by decide +kernel
theorem dX8_pass_85 : decode cX8_pass 85 = .ok (.invokevirtual 184, 3) := by decide +kernel
theorem dX8_pass_88 : decode cX8_pass 88 = .ok (.iinc 2 1, 3) := by decide +kernel
theorem dX8_pass_91 : decode cX8_pass 91 = .ok (.goto (-59), 3) := by decide +kernel
theorem dX8_pass_94 : decode cX8_pass 94 = .ok (.aload_n 0, 1) := by decide +kernel
theorem dX8_pass_95 : decode cX8_pass 95 = .ok (.getfield 140, 3) := by decide +kernel
theorem dX8_pass_98 : decode cX8_pass 98 = .ok (.ireturn, 1) := by decide +kernel
theorem dX8_tick_0 : decode cX8_tick 0 = .ok (.aload_n 0, 1) := by decide +kernel
theorem dX8_tick_1 : decode cX8_tick 1 = .ok (.getfield 140, 3) := by decide +kernel
theorem dX8_tick_4 : decode cX8_tick 4 = .ok (.ireturn, 1) := by decide +kernel
theorem dX8_requestState_0 : decode cX8_requestState 0 = .ok (.iload_n 1, 1) := by decide +kernel
theorem dX8_requestState_1 : decode cX8_requestState 1 = .ok (.iconst 0, 1) := by decide +kernel
theorem dX8_requestState_2 : decode cX8_requestState 2 = .ok (.aload_n 0, 1) := by decide +kernel
theorem dX8_requestState_3 : decode cX8_requestState 3 = .ok (.getfield 43, 3) := by decide +kernel
theorem dX8_requestState_6 : decode cX8_requestState 6 = .ok (.invokevirtual 82, 3) := by decide +kernel
theorem dX8_requestState_9 : decode cX8_requestState 9 = .ok (.iconst 1, 1) := by decide +kernel
theorem dX8_requestState_10 : decode cX8_requestState 10 = .ok (.isub, 1) := by decide +kernel
theorem dX8_requestState_11 : decode cX8_requestState 11 = .ok (.invokestatic 54, 3) := by decide +kernel
theorem dX8_requestState_14 : decode cX8_requestState 14 = .ok (.invokestatic 58, 3) := by decide +kernel
theorem dX8_requestState_17 : decode cX8_requestState 17 = .ok (.aload_n 0, 1) := by decide +kernel
theorem dX8_requestState_18 : decode cX8_requestState 18 = .ok (.getfield 43, 3) := by decide +kernel
theorem dX8_requestState_21 : decode cX8_requestState 21 = .ok (.iload_n 1, 1) := by decide +kernel
theorem dX8_requestState_22 : decode cX8_requestState 22 = .ok (.invokevirtual 98, 3) := by decide +kernel
theorem dX8_requestState_25 : decode cX8_requestState 25 = .ok (.checkcast 146, 3) := by decide +kernel
theorem dX8_requestState_28 : decode cX8_requestState 28 = .ok (.getfield 187, 3) := by decide +kernel
theorem dX8_requestState_31 : decode cX8_requestState 31 = .ok (.ireturn, 1) := by decide +kernel
theorem dX8_requestTicks_0 : decode cX8_requestTicks 0 = .ok (.iload_n 1, 1) := by decide +kernel
theorem dX8_requestTicks_1 : decode cX8_requestTicks 1 = .ok (.iconst 0, 1) := by decide +kernel
theorem dX8_requestTicks_2 : decode cX8_requestTicks 2 = .ok (.aload_n 0, 1) := by decide +kernel
theorem dX8_requestTicks_3 : decode cX8_requestTicks 3 = .ok (.getfield 43, 3) := by decide +kernel
theorem dX8_requestTicks_6 : decode cX8_requestTicks 6 = .ok (.invokevirtual 82, 3) := by decide +kernel
theorem dX8_requestTicks_9 : decode cX8_requestTicks 9 = .ok (.iconst 1, 1) := by decide +kernel
theorem dX8_requestTicks_10 : decode cX8_requestTicks 10 = .ok (.isub, 1) := by decide +kernel
theorem dX8_requestTicks_11 : decode cX8_requestTicks 11 = .ok (.invokestatic 54, 3) := by decide +kernel
theorem dX8_requestTicks_14 : decode cX8_requestTicks 14 = .ok (.invokestatic 58, 3) := by decide +kernel
theorem dX8_requestTicks_17 : decode cX8_requestTicks 17 = .ok (.aload_n 0, 1) := by decide +kernel
theorem dX8_requestTicks_18 : decode cX8_requestTicks 18 = .ok (.getfield 43, 3) := by decide +kernel
theorem dX8_requestTicks_21 : decode cX8_requestTicks 21 = .ok (.iload_n 1, 1) := by decide +kernel
theorem dX8_requestTicks_22 : decode cX8_requestTicks 22 = .ok (.invokevirtual 98, 3) := by decide +kernel
theorem dX8_requestTicks_25 : decode cX8_requestTicks 25 = .ok (.checkcast 146, 3) := by decide +kernel
theorem dX8_requestTicks_28 : decode cX8_requestTicks 28 = .ok (.astore_n 2, 1) := by decide +kernel
theorem dX8_requestTicks_29 : decode cX8_requestTicks 29 = .ok (.aload_n 2, 1) := by decide +kernel
theorem dX8_requestTicks_30 : decode cX8_requestTicks 30 = .ok (.getfield 187, 3) := by decide +kernel
theorem dX8_requestTicks_33 : decode cX8_requestTicks 33 = .ok (.bipush 8, 2) := by decide +kernel
theorem dX8_requestTicks_35 : decode cX8_requestTicks 35 = .ok (.if_icmp .ne 10, 3) := by decide +kernel
theorem dX8_requestTicks_38 : decode cX8_requestTicks 38 = .ok (.aload_n 0, 1) := by decide +kernel
theorem dX8_requestTicks_39 : decode cX8_requestTicks 39 = .ok (.getfield 140, 3) := by decide +kernel
theorem dX8_requestTicks_42 : decode cX8_requestTicks 42 = .ok (.goto 7, 3) := by decide +kernel
theorem dX8_requestTicks_45 : decode cX8_requestTicks 45 = .ok (.aload_n 2, 1) := by decide +kernel
theorem dX8_requestTicks_46 : decode cX8_requestTicks 46 = .ok (.getfield 190, 3) := by decide +kernel
theorem dX8_requestTicks_49 : decode cX8_requestTicks 49 = .ok (.aload_n 2, 1) := by decide +kernel
theorem dX8_requestTicks_50 : decode cX8_requestTicks 50 = .ok (.getfield 193, 3) := by decide +kernel
theorem dX8_requestTicks_53 : decode cX8_requestTicks 53 = .ok (.isub, 1) := by decide +kernel
theorem dX8_requestTicks_54 : decode cX8_requestTicks 54 = .ok (.ireturn, 1) := by decide +kernel
theorem dX8_isKept_0 : decode cX8_isKept 0 = .ok (.iload_n 1, 1) := by decide +kernel
theorem dX8_isKept_1 : decode cX8_isKept 1 = .ok (.iconst 0, 1) := by decide +kernel
theorem dX8_isKept_2 : decode cX8_isKept 2 = .ok (.aload_n 0, 1) := by decide +kernel
theorem dX8_isKept_3 : decode cX8_isKept 3 = .ok (.getfield 43, 3) := by decide +kernel
theorem dX8_isKept_6 : decode cX8_isKept 6 = .ok (.invokevirtual 82, 3) := by decide +kernel
theorem dX8_isKept_9 : decode cX8_isKept 9 = .ok (.iconst 1, 1) := by decide +kernel
theorem dX8_isKept_10 : decode cX8_isKept 10 = .ok (.isub, 1) := by decide +kernel
theorem dX8_isKept_11 : decode cX8_isKept 11 = .ok (.invokestatic 54, 3) := by decide +kernel
theorem dX8_isKept_14 : decode cX8_isKept 14 = .ok (.invokestatic 58, 3) := by decide +kernel
theorem dX8_isKept_17 : decode cX8_isKept 17 = .ok (.aload_n 0, 1) := by decide +kernel
theorem dX8_isKept_18 : decode cX8_isKept 18 = .ok (.getfield 43, 3) := by decide +kernel
theorem dX8_isKept_21 : decode cX8_isKept 21 = .ok (.iload_n 1, 1) := by decide +kernel
theorem dX8_isKept_22 : decode cX8_isKept 22 = .ok (.invokevirtual 98, 3) := by decide +kernel
theorem dX8_isKept_25 : decode cX8_isKept 25 = .ok (.checkcast 146, 3) := by decide +kernel
theorem dX8_isKept_28 : decode cX8_isKept 28 = .ok (.astore_n 2, 1) := by decide +kernel
theorem dX8_isKept_29 : decode cX8_isKept 29 = .ok (.aload_n 2, 1) := by decide +kernel
theorem dX8_isKept_30 : decode cX8_isKept 30 = .ok (.getfield 187, 3) := by decide +kernel
theorem dX8_isKept_33 : decode cX8_isKept 33 = .ok (.bipush 8, 2) := by decide +kernel
theorem dX8_isKept_35 : decode cX8_isKept 35 = .ok (.if_icmp .ne 11, 3) := by decide +kernel
theorem dX8_isKept_38 : decode cX8_isKept 38 = .ok (.aload_n 0, 1) := by decide +kernel
theorem dX8_isKept_39 : decode cX8_isKept 39 = .ok (.aload_n 2, 1) := by decide +kernel
theorem dX8_isKept_40 : decode cX8_isKept 40 = .ok (.invokevirtual 196, 3) := by decide +kernel
theorem dX8_isKept_43 : decode cX8_isKept 43 = .ok (.goto 7, 3) := by decide +kernel
theorem dX8_isKept_46 : decode cX8_isKept 46 = .ok (.aload_n 2, 1) := by decide +kernel
theorem dX8_isKept_47 : decode cX8_isKept 47 = .ok (.getfield 200, 3) := by decide +kernel
theorem dX8_isKept_50 : decode cX8_isKept 50 = .ok (.ireturn, 1) := by decide +kernel
theorem dX8_callsOf_0 : decode cX8_callsOf 0 = .ok (.iload_n 1, 1) := by decide +kernel
theorem dX8_callsOf_1 : decode cX8_callsOf 1 = .ok (.iconst 0, 1) := by decide +kernel
theorem dX8_callsOf_2 : decode cX8_callsOf 2 = .ok (.aload_n 0, 1) := by decide +kernel
theorem dX8_callsOf_3 : decode cX8_callsOf 3 = .ok (.getfield 43, 3) := by decide +kernel
theorem dX8_callsOf_6 : decode cX8_callsOf 6 = .ok (.invokevirtual 82, 3) := by decide +kernel
theorem dX8_callsOf_9 : decode cX8_callsOf 9 = .ok (.iconst 1, 1) := by decide +kernel
theorem dX8_callsOf_10 : decode cX8_callsOf 10 = .ok (.isub, 1) := by decide +kernel
theorem dX8_callsOf_11 : decode cX8_callsOf 11 = .ok (.invokestatic 54, 3) := by decide +kernel
theorem dX8_callsOf_14 : decode cX8_callsOf 14 = .ok (.invokestatic 58, 3) := by decide +kernel
theorem dX8_callsOf_17 : decode cX8_callsOf 17 = .ok (.iconst 0, 1) := by decide +kernel
theorem dX8_callsOf_18 : decode cX8_callsOf 18 = .ok (.istore_n 2, 1) := by decide +kernel
theorem dX8_callsOf_19 : decode cX8_callsOf 19 = .ok (.iconst 0, 1) := by decide +kernel
theorem dX8_callsOf_20 : decode cX8_callsOf 20 = .ok (.istore_n 3, 1) := by decide +kernel
theorem dX8_callsOf_21 : decode cX8_callsOf 21 = .ok (.iload_n 3, 1) := by decide +kernel
theorem dX8_callsOf_22 : decode cX8_callsOf 22 = .ok (.aload_n 0, 1) := by decide +kernel
theorem dX8_callsOf_23 : decode cX8_callsOf 23 = .ok (.getfield 46, 3) := by decide +kernel
theorem dX8_callsOf_26 : decode cX8_callsOf 26 = .ok (.invokevirtual 82, 3) := by decide +kernel
theorem dX8_callsOf_29 : decode cX8_callsOf 29 = .ok (.if_icmp .ge 33, 3) := by decide +kernel
theorem dX8_callsOf_32 : decode cX8_callsOf 32 = .ok (.aload_n 0, 1) := by decide +kernel
theorem dX8_callsOf_33 : decode cX8_callsOf 33 = .ok (.getfield 46, 3) := by decide +kernel
theorem dX8_callsOf_36 : decode cX8_callsOf 36 = .ok (.iload_n 3, 1) := by decide +kernel
theorem dX8_callsOf_37 : decode cX8_callsOf 37 = .ok (.invokevirtual 98, 3) := by decide +kernel
theorem dX8_callsOf_40 : decode cX8_callsOf 40 = .ok (.checkcast 204, 3) := by decide +kernel
theorem dX8_callsOf_43 : decode cX8_callsOf 43 = .ok (.getfield 206, 3) := by decide +kernel
theorem dX8_callsOf_46 : decode cX8_callsOf 46 = .ok (.getfield 137, 3) := by decide +kernel
theorem dX8_callsOf_49 : decode cX8_callsOf 49 = .ok (.iload_n 1, 1) := by decide +kernel
theorem dX8_callsOf_50 : decode cX8_callsOf 50 = .ok (.if_icmp .ne 6, 3) := by decide +kernel
theorem dX8_callsOf_53 : decode cX8_callsOf 53 = .ok (.iinc 2 1, 3) := by decide +kernel
theorem dX8_callsOf_56 : decode cX8_callsOf 56 = .ok (.iinc 3 1, 3) := by decide +kernel
theorem dX8_callsOf_59 : decode cX8_callsOf 59 = .ok (.goto (-38), 3) := by decide +kernel
theorem dX8_callsOf_62 : decode cX8_callsOf 62 = .ok (.iload_n 2, 1) := by decide +kernel
theorem dX8_callsOf_63 : decode cX8_callsOf 63 = .ok (.ireturn, 1) := by decide +kernel
theorem dX8_calls_0 : decode cX8_calls 0 = .ok (.aload_n 0, 1) := by decide +kernel
theorem dX8_calls_1 : decode cX8_calls 1 = .ok (.getfield 46, 3) := by decide +kernel
theorem dX8_calls_4 : decode cX8_calls 4 = .ok (.invokevirtual 82, 3) := by decide +kernel
theorem dX8_calls_7 : decode cX8_calls 7 = .ok (.ireturn, 1) := by decide +kernel
theorem dX8_call_0 : decode cX8_call 0 = .ok (.iload_n 1, 1) := by decide +kernel
theorem dX8_call_1 : decode cX8_call 1 = .ok (.iconst 0, 1) := by decide +kernel
theorem dX8_call_2 : decode cX8_call 2 = .ok (.aload_n 0, 1) := by decide +kernel
theorem dX8_call_3 : decode cX8_call 3 = .ok (.getfield 46, 3) := by decide +kernel
theorem dX8_call_6 : decode cX8_call 6 = .ok (.invokevirtual 82, 3) := by decide +kernel
theorem dX8_call_9 : decode cX8_call 9 = .ok (.iconst 1, 1) := by decide +kernel
theorem dX8_call_10 : decode cX8_call 10 = .ok (.isub, 1) := by decide +kernel
theorem dX8_call_11 : decode cX8_call 11 = .ok (.invokestatic 54, 3) := by decide +kernel
theorem dX8_call_14 : decode cX8_call 14 = .ok (.invokestatic 58, 3) := by decide +kernel
theorem dX8_call_17 : decode cX8_call 17 = .ok (.iload_n 2, 1) := by decide +kernel
theorem dX8_call_18 : decode cX8_call 18 = .ok (.iconst 0, 1) := by decide +kernel
theorem dX8_call_19 : decode cX8_call 19 = .ok (.bipush 7, 2) := by decide +kernel
theorem dX8_call_21 : decode cX8_call 21 = .ok (.invokestatic 54, 3) := by decide +kernel
theorem dX8_call_24 : decode cX8_call 24 = .ok (.invokestatic 62, 3) := by decide +kernel
theorem dX8_call_27 : decode cX8_call 27 = .ok (.aload_n 0, 1) := by decide +kernel
theorem dX8_call_28 : decode cX8_call 28 = .ok (.getfield 46, 3) := by decide +kernel
theorem dX8_call_31 : decode cX8_call 31 = .ok (.iload_n 1, 1) := by decide +kernel
theorem dX8_call_32 : decode cX8_call 32 = .ok (.invokevirtual 98, 3) := by decide +kernel
theorem dX8_call_35 : decode cX8_call 35 = .ok (.checkcast 204, 3) := by decide +kernel
theorem dX8_call_38 : decode cX8_call 38 = .ok (.astore_n 3, 1) := by decide +kernel
theorem dX8_call_39 : decode cX8_call 39 = .ok (.iload_n 2, 1) := by decide +kernel
theorem dX8_call_40 : decode cX8_call 40 = .ok (.tableswitch 111 0 6 #[44, 52, 60, 65, 70, 95, 103], 44) := by decide +kernel
theorem dX8_call_84 : decode cX8_call 84 = .ok (.aload_n 3, 1) := by decide +kernel
theorem dX8_call_85 : decode cX8_call 85 = .ok (.getfield 206, 3) := by decide +kernel
theorem dX8_call_88 : decode cX8_call 88 = .ok (.getfield 210, 3) := by decide +kernel
theorem dX8_call_91 : decode cX8_call 91 = .ok (.ireturn, 1) := by decide +kernel
theorem dX8_call_92 : decode cX8_call 92 = .ok (.aload_n 3, 1) := by decide +kernel
theorem dX8_call_93 : decode cX8_call 93 = .ok (.getfield 213, 3) := by decide +kernel
theorem dX8_call_96 : decode cX8_call 96 = .ok (.getfield 95, 3) := by decide +kernel
theorem dX8_call_99 : decode cX8_call 99 = .ok (.ireturn, 1) := by decide +kernel
theorem dX8_call_100 : decode cX8_call 100 = .ok (.aload_n 3, 1) := by decide +kernel
theorem dX8_call_101 : decode cX8_call 101 = .ok (.getfield 217, 3) := by decide +kernel
theorem dX8_call_104 : decode cX8_call 104 = .ok (.ireturn, 1) := by decide +kernel
theorem dX8_call_105 : decode cX8_call 105 = .ok (.aload_n 3, 1) := by decide +kernel
theorem dX8_call_106 : decode cX8_call 106 = .ok (.getfield 218, 3) := by decide +kernel
theorem dX8_call_109 : decode cX8_call 109 = .ok (.ireturn, 1) := by decide +kernel
theorem dX8_call_110 : decode cX8_call 110 = .ok (.aload_n 3, 1) := by decide +kernel
theorem dX8_call_111 : decode cX8_call 111 = .ok (.getfield 206, 3) := by decide +kernel
theorem dX8_call_114 : decode cX8_call 114 = .ok (.getfield 219, 3) := by decide +kernel
theorem dX8_call_117 : decode cX8_call 117 = .ok (.ifnonnull 7, 3) := by decide +kernel
theorem dX8_call_120 : decode cX8_call 120 = .ok (.iconst (-1), 1) := by decide +kernel
theorem dX8_call_121 : decode cX8_call 121 = .ok (.goto 13, 3) := by decide +kernel
theorem dX8_call_124 : decode cX8_call 124 = .ok (.aload_n 3, 1) := by decide +kernel
theorem dX8_call_125 : decode cX8_call 125 = .ok (.getfield 206, 3) := by decide +kernel
theorem dX8_call_128 : decode cX8_call 128 = .ok (.getfield 219, 3) := by decide +kernel
theorem dX8_call_131 : decode cX8_call 131 = .ok (.getfield 223, 3) := by decide +kernel
theorem dX8_call_134 : decode cX8_call 134 = .ok (.ireturn, 1) := by decide +kernel
theorem dX8_call_135 : decode cX8_call 135 = .ok (.aload_n 3, 1) := by decide +kernel
theorem dX8_call_136 : decode cX8_call 136 = .ok (.getfield 206, 3) := by decide +kernel
theorem dX8_call_139 : decode cX8_call 139 = .ok (.getfield 137, 3) := by decide +kernel
theorem dX8_call_142 : decode cX8_call 142 = .ok (.ireturn, 1) := by decide +kernel
theorem dX8_call_143 : decode cX8_call 143 = .ok (.aload_n 3, 1) := by decide +kernel
theorem dX8_call_144 : decode cX8_call 144 = .ok (.getfield 224, 3) := by decide +kernel
theorem dX8_call_147 : decode cX8_call 147 = .ok (.invokevirtual 82, 3) := by decide +kernel
theorem dX8_call_150 : decode cX8_call 150 = .ok (.ireturn, 1) := by decide +kernel
theorem dX8_call_151 : decode cX8_call 151 = .ok (.aload_n 3, 1) := by decide +kernel
theorem dX8_call_152 : decode cX8_call 152 = .ok (.getfield 206, 3) := by decide +kernel
theorem dX8_call_155 : decode cX8_call 155 = .ok (.getfield 227, 3) := by decide +kernel
theorem dX8_call_158 : decode cX8_call 158 = .ok (.ireturn, 1) := by decide +kernel
theorem dX8_budget_0 : decode cX8_budget 0 = .ok (.iload_n 1, 1) := by decide +kernel
theorem dX8_budget_1 : decode cX8_budget 1 = .ok (.iconst 0, 1) := by decide +kernel
theorem dX8_budget_2 : decode cX8_budget 2 = .ok (.bipush 6, 2) := by decide +kernel
theorem dX8_budget_4 : decode cX8_budget 4 = .ok (.invokestatic 54, 3) := by decide +kernel
theorem dX8_budget_7 : decode cX8_budget 7 = .ok (.invokestatic 58, 3) := by decide +kernel
theorem dX8_budget_10 : decode cX8_budget 10 = .ok (.aload_n 0, 1) := by decide +kernel
theorem dX8_budget_11 : decode cX8_budget 11 = .ok (.getfield 32, 3) := by decide +kernel
theorem dX8_budget_14 : decode cX8_budget 14 = .ok (.iload_n 1, 1) := by decide +kernel
theorem dX8_budget_15 : decode cX8_budget 15 = .ok (.aaload, 1) := by decide +kernel
theorem dX8_budget_16 : decode cX8_budget 16 = .ok (.getfield 230, 3) := by decide +kernel
theorem dX8_budget_19 : decode cX8_budget 19 = .ok (.ireturn, 1) := by decide +kernel
theorem dX8_breaker_0 : decode cX8_breaker 0 = .ok (.iload_n 1, 1) := by decide +kernel
theorem dX8_breaker_1 : decode cX8_breaker 1 = .ok (.iconst 0, 1) := by decide +kernel
theorem dX8_breaker_2 : decode cX8_breaker 2 = .ok (.bipush 6, 2) := by decide +kernel
theorem dX8_breaker_4 : decode cX8_breaker 4 = .ok (.invokestatic 54, 3) := by decide +kernel
theorem dX8_breaker_7 : decode cX8_breaker 7 = .ok (.ifCond .eq 24, 3) := by decide +kernel
theorem dX8_breaker_10 : decode cX8_breaker 10 = .ok (.iload_n 2, 1) := by decide +kernel
theorem dX8_breaker_11 : decode cX8_breaker 11 = .ok (.iconst 0, 1) := by decide +kernel
theorem dX8_breaker_12 : decode cX8_breaker 12 = .ok (.aload_n 0, 1) := by decide +kernel
theorem dX8_breaker_13 : decode cX8_breaker 13 = .ok (.getfield 39, 3) := by decide +kernel
theorem dX8_breaker_16 : decode cX8_breaker 16 = .ok (.invokevirtual 82, 3) := by decide +kernel
theorem dX8_breaker_19 : decode cX8_breaker 19 = .ok (.iconst 1, 1) := by decide +kernel
theorem dX8_breaker_20 : decode cX8_breaker 20 = .ok (.isub, 1) := by decide +kernel
theorem dX8_breaker_21 : decode cX8_breaker 21 = .ok (.invokestatic 54, 3) := by decide +kernel
theorem dX8_breaker_24 : decode cX8_breaker 24 = .ok (.ifCond .eq 7, 3) := by decide +kernel
theorem dX8_breaker_27 : decode cX8_breaker 27 = .ok (.iconst 1, 1) := by decide +kernel
theorem dX8_breaker_28 : decode cX8_breaker 28 = .ok (.goto 4, 3) := by decide +kernel
theorem dX8_breaker_31 : decode cX8_breaker 31 = .ok (.iconst 0, 1) := by decide +kernel
theorem dX8_breaker_32 : decode cX8_breaker 32 = .ok (.invokestatic 58, 3) := by decide +kernel
theorem dX8_breaker_35 : decode cX8_breaker 35 = .ok (.aload_n 0, 1) := by decide +kernel
theorem dX8_breaker_36 : decode cX8_breaker 36 = .ok (.getfield 39, 3) := by decide +kernel
theorem dX8_breaker_39 : decode cX8_breaker 39 = .ok (.iload_n 2, 1) := by decide +kernel
theorem dX8_breaker_40 : decode cX8_breaker 40 = .ok (.invokevirtual 98, 3) := by decide +kernel
theorem dX8_breaker_43 : decode cX8_breaker 43 = .ok (.checkcast 86, 3) := by decide +kernel
theorem dX8_breaker_46 : decode cX8_breaker 46 = .ok (.getfield 233, 3) := by decide +kernel
theorem dX8_breaker_49 : decode cX8_breaker 49 = .ok (.iload_n 1, 1) := by decide +kernel
theorem dX8_breaker_50 : decode cX8_breaker 50 = .ok (.aaload, 1) := by decide +kernel
theorem dX8_breaker_51 : decode cX8_breaker 51 = .ok (.getfield 237, 3) := by decide +kernel
theorem dX8_breaker_54 : decode cX8_breaker 54 = .ok (.ireturn, 1) := by decide +kernel
theorem dX8_isShunned_0 : decode cX8_isShunned 0 = .ok (.iload_n 1, 1) := by decide +kernel
theorem dX8_isShunned_1 : decode cX8_isShunned 1 = .ok (.iconst 0, 1) := by decide +kernel
theorem dX8_isShunned_2 : decode cX8_isShunned 2 = .ok (.aload_n 0, 1) := by decide +kernel
theorem dX8_isShunned_3 : decode cX8_isShunned 3 = .ok (.getfield 39, 3) := by decide +kernel
theorem dX8_isShunned_6 : decode cX8_isShunned 6 = .ok (.invokevirtual 82, 3) := by decide +kernel
theorem dX8_isShunned_9 : decode cX8_isShunned 9 = .ok (.iconst 1, 1) := by decide +kernel
theorem dX8_isShunned_10 : decode cX8_isShunned 10 = .ok (.isub, 1) := by decide +kernel
theorem dX8_isShunned_11 : decode cX8_isShunned 11 = .ok (.invokestatic 54, 3) := by decide +kernel
theorem dX8_isShunned_14 : decode cX8_isShunned 14 = .ok (.invokestatic 58, 3) := by decide +kernel
theorem dX8_isShunned_17 : decode cX8_isShunned 17 = .ok (.aload_n 0, 1) := by decide +kernel
theorem dX8_isShunned_18 : decode cX8_isShunned 18 = .ok (.getfield 39, 3) := by decide +kernel
theorem dX8_isShunned_21 : decode cX8_isShunned 21 = .ok (.iload_n 1, 1) := by decide +kernel
theorem dX8_isShunned_22 : decode cX8_isShunned 22 = .ok (.invokevirtual 98, 3) := by decide +kernel
theorem dX8_isShunned_25 : decode cX8_isShunned 25 = .ok (.checkcast 86, 3) := by decide +kernel
theorem dX8_isShunned_28 : decode cX8_isShunned 28 = .ok (.invokevirtual 240, 3) := by decide +kernel
theorem dX8_isShunned_31 : decode cX8_isShunned 31 = .ok (.aload_n 0, 1) := by decide +kernel
theorem dX8_isShunned_32 : decode cX8_isShunned 32 = .ok (.getfield 9, 3) := by decide +kernel
theorem dX8_isShunned_35 : decode cX8_isShunned 35 = .ok (.if_icmp .lt 7, 3) := by decide +kernel
theorem dX8_isShunned_38 : decode cX8_isShunned 38 = .ok (.iconst 1, 1) := by decide +kernel
theorem dX8_isShunned_39 : decode cX8_isShunned 39 = .ok (.goto 4, 3) := by decide +kernel
theorem dX8_isShunned_42 : decode cX8_isShunned 42 = .ok (.iconst 0, 1) := by decide +kernel
theorem dX8_isShunned_43 : decode cX8_isShunned 43 = .ok (.ireturn, 1) := by decide +kernel
theorem dX8_load_0 : decode cX8_load 0 = .ok (.iload_n 1, 1) := by decide +kernel
theorem dX8_load_1 : decode cX8_load 1 = .ok (.iconst 0, 1) := by decide +kernel
theorem dX8_load_2 : decode cX8_load 2 = .ok (.aload_n 0, 1) := by decide +kernel
theorem dX8_load_3 : decode cX8_load 3 = .ok (.getfield 39, 3) := by decide +kernel
theorem dX8_load_6 : decode cX8_load 6 = .ok (.invokevirtual 82, 3) := by decide +kernel
theorem dX8_load_9 : decode cX8_load 9 = .ok (.iconst 1, 1) := by decide +kernel
theorem dX8_load_10 : decode cX8_load 10 = .ok (.isub, 1) := by decide +kernel
theorem dX8_load_11 : decode cX8_load 11 = .ok (.invokestatic 54, 3) := by decide +kernel
theorem dX8_load_14 : decode cX8_load 14 = .ok (.invokestatic 58, 3) := by decide +kernel
theorem dX8_load_17 : decode cX8_load 17 = .ok (.aload_n 0, 1) := by decide +kernel
theorem dX8_load_18 : decode cX8_load 18 = .ok (.getfield 39, 3) := by decide +kernel
theorem dX8_load_21 : decode cX8_load 21 = .ok (.iload_n 1, 1) := by decide +kernel
theorem dX8_load_22 : decode cX8_load 22 = .ok (.invokevirtual 98, 3) := by decide +kernel
theorem dX8_load_25 : decode cX8_load 25 = .ok (.checkcast 86, 3) := by decide +kernel
theorem dX8_load_28 : decode cX8_load 28 = .ok (.astore_n 3, 1) := by decide +kernel
theorem dX8_load_29 : decode cX8_load 29 = .ok (.iload_n 2, 1) := by decide +kernel
theorem dX8_load_30 : decode cX8_load 30 = .ok (.ifCond .eq 10, 3) := by decide +kernel
theorem dX8_load_33 : decode cX8_load 33 = .ok (.aload_n 3, 1) := by decide +kernel
theorem dX8_load_34 : decode cX8_load 34 = .ok (.invokevirtual 243, 3) := by decide +kernel
theorem dX8_load_37 : decode cX8_load 37 = .ok (.goto 7, 3) := by decide +kernel
theorem dX8_load_40 : decode cX8_load 40 = .ok (.aload_n 3, 1) := by decide +kernel
theorem dX8_load_41 : decode cX8_load 41 = .ok (.getfield 246, 3) := by decide +kernel
theorem dX8_load_44 : decode cX8_load 44 = .ok (.ireturn, 1) := by decide +kernel
theorem dX8_canaryShare_0 : decode cX8_canaryShare 0 = .ok (.iload_n 1, 1) := by decide +kernel
theorem dX8_canaryShare_1 : decode cX8_canaryShare 1 = .ok (.iconst 0, 1) := by decide +kernel
theorem dX8_canaryShare_2 : decode cX8_canaryShare 2 = .ok (.iconst 5, 1) := by decide +kernel
theorem dX8_canaryShare_3 : decode cX8_canaryShare 3 = .ok (.invokestatic 54, 3) := by decide +kernel
theorem dX8_canaryShare_6 : decode cX8_canaryShare 6 = .ok (.invokestatic 58, 3) := by decide +kernel
theorem dX8_canaryShare_9 : decode cX8_canaryShare 9 = .ok (.aload_n 0, 1) := by decide +kernel
theorem dX8_canaryShare_10 : decode cX8_canaryShare 10 = .ok (.getfield 26, 3) := by decide +kernel
theorem dX8_canaryShare_13 : decode cX8_canaryShare 13 = .ok (.iload_n 1, 1) := by decide +kernel
theorem dX8_canaryShare_14 : decode cX8_canaryShare 14 = .ok (.aaload, 1) := by decide +kernel
theorem dX8_canaryShare_15 : decode cX8_canaryShare 15 = .ok (.getfield 119, 3) := by decide +kernel
theorem dX8_canaryShare_18 : decode cX8_canaryShare 18 = .ok (.getfield 123, 3) := by decide +kernel
theorem dX8_canaryShare_21 : decode cX8_canaryShare 21 = .ok (.ireturn, 1) := by decide +kernel
theorem dX8_repairs_0 : decode cX8_repairs 0 = .ok (.iload_n 1, 1) := by decide +kernel
theorem dX8_repairs_1 : decode cX8_repairs 1 = .ok (.ifCond .ne 11, 3) := by decide +kernel
theorem dX8_repairs_4 : decode cX8_repairs 4 = .ok (.aload_n 0, 1) := by decide +kernel
theorem dX8_repairs_5 : decode cX8_repairs 5 = .ok (.getfield 49, 3) := by decide +kernel
theorem dX8_repairs_8 : decode cX8_repairs 8 = .ok (.invokevirtual 82, 3) := by decide +kernel
theorem dX8_repairs_11 : decode cX8_repairs 11 = .ok (.ireturn, 1) := by decide +kernel
theorem dX8_repairs_12 : decode cX8_repairs 12 = .ok (.iconst 0, 1) := by decide +kernel
theorem dX8_repairs_13 : decode cX8_repairs 13 = .ok (.istore_n 2, 1) := by decide +kernel
theorem dX8_repairs_14 : decode cX8_repairs 14 = .ok (.iconst 0, 1) := by decide +kernel
theorem dX8_repairs_15 : decode cX8_repairs 15 = .ok (.istore_n 3, 1) := by decide +kernel
theorem dX8_repairs_16 : decode cX8_repairs 16 = .ok (.iload_n 3, 1) := by decide +kernel
theorem dX8_repairs_17 : decode cX8_repairs 17 = .ok (.aload_n 0, 1) := by decide +kernel
theorem dX8_repairs_18 : decode cX8_repairs 18 = .ok (.getfield 49, 3) := by decide +kernel
theorem dX8_repairs_21 : decode cX8_repairs 21 = .ok (.invokevirtual 82, 3) := by decide +kernel
theorem dX8_repairs_24 : decode cX8_repairs 24 = .ok (.if_icmp .ge 30, 3) := by decide +kernel
theorem dX8_repairs_27 : decode cX8_repairs 27 = .ok (.aload_n 0, 1) := by decide +kernel
theorem dX8_repairs_28 : decode cX8_repairs 28 = .ok (.getfield 49, 3) := by decide +kernel
theorem dX8_repairs_31 : decode cX8_repairs 31 = .ok (.iload_n 3, 1) := by decide +kernel
theorem dX8_repairs_32 : decode cX8_repairs 32 = .ok (.invokevirtual 98, 3) := by decide +kernel
theorem dX8_repairs_35 : decode cX8_repairs 35 = .ok (.checkcast 132, 3) := by decide +kernel
theorem dX8_repairs_38 : decode cX8_repairs 38 = .ok (.getfield 249, 3) := by decide +kernel
theorem dX8_repairs_41 : decode cX8_repairs 41 = .ok (.iconst 3, 1) := by decide +kernel
theorem dX8_repairs_42 : decode cX8_repairs 42 = .ok (.if_icmp .ne 6, 3) := by decide +kernel
theorem dX8_repairs_45 : decode cX8_repairs 45 = .ok (.iinc 2 1, 3) := by decide +kernel
theorem dX8_repairs_48 : decode cX8_repairs 48 = .ok (.iinc 3 1, 3) := by decide +kernel
theorem dX8_repairs_51 : decode cX8_repairs 51 = .ok (.goto (-35), 3) := by decide +kernel
theorem dX8_repairs_54 : decode cX8_repairs 54 = .ok (.iload_n 2, 1) := by decide +kernel
theorem dX8_repairs_55 : decode cX8_repairs 55 = .ok (.ireturn, 1) := by decide +kernel
theorem dX8_extra_0 : decode cX8_extra 0 = .ok (.iload_n 1, 1) := by decide +kernel
theorem dX8_extra_1 : decode cX8_extra 1 = .ok (.iconst 0, 1) := by decide +kernel
theorem dX8_extra_2 : decode cX8_extra 2 = .ok (.bipush 6, 2) := by decide +kernel
theorem dX8_extra_4 : decode cX8_extra 4 = .ok (.invokestatic 54, 3) := by decide +kernel
theorem dX8_extra_7 : decode cX8_extra 7 = .ok (.invokestatic 58, 3) := by decide +kernel
theorem dX8_extra_10 : decode cX8_extra 10 = .ok (.aload_n 0, 1) := by decide +kernel
theorem dX8_extra_11 : decode cX8_extra 11 = .ok (.getfield 32, 3) := by decide +kernel
theorem dX8_extra_14 : decode cX8_extra 14 = .ok (.iload_n 1, 1) := by decide +kernel
theorem dX8_extra_15 : decode cX8_extra 15 = .ok (.aaload, 1) := by decide +kernel
theorem dX8_extra_16 : decode cX8_extra 16 = .ok (.getfield 250, 3) := by decide +kernel
theorem dX8_extra_19 : decode cX8_extra 19 = .ok (.ireturn, 1) := by decide +kernel
theorem dX8_first_0 : decode cX8_first 0 = .ok (.iload_n 1, 1) := by decide +kernel
theorem dX8_first_1 : decode cX8_first 1 = .ok (.iconst 0, 1) := by decide +kernel
theorem dX8_first_2 : decode cX8_first 2 = .ok (.bipush 6, 2) := by decide +kernel
theorem dX8_first_4 : decode cX8_first 4 = .ok (.invokestatic 54, 3) := by decide +kernel
theorem dX8_first_7 : decode cX8_first 7 = .ok (.invokestatic 58, 3) := by decide +kernel
theorem dX8_first_10 : decode cX8_first 10 = .ok (.aload_n 0, 1) := by decide +kernel
theorem dX8_first_11 : decode cX8_first 11 = .ok (.getfield 32, 3) := by decide +kernel
theorem dX8_first_14 : decode cX8_first 14 = .ok (.iload_n 1, 1) := by decide +kernel
theorem dX8_first_15 : decode cX8_first 15 = .ok (.aaload, 1) := by decide +kernel
theorem dX8_first_16 : decode cX8_first 16 = .ok (.getfield 253, 3) := by decide +kernel
theorem dX8_first_19 : decode cX8_first 19 = .ok (.ireturn, 1) := by decide +kernel
theorem dX8_isWithin_0 : decode cX8_isWithin 0 = .ok (.iload_n 0, 1) := by decide +kernel
theorem dX8_isWithin_1 : decode cX8_isWithin 1 = .ok (.iload_n 1, 1) := by decide +kernel
theorem dX8_isWithin_2 : decode cX8_isWithin 2 = .ok (.if_icmp .lt 12, 3) := by decide +kernel
theorem dX8_isWithin_5 : decode cX8_isWithin 5 = .ok (.iload_n 0, 1) := by decide +kernel
theorem dX8_isWithin_6 : decode cX8_isWithin 6 = .ok (.iload_n 2, 1) := by decide +kernel
theorem dX8_isWithin_7 : decode cX8_isWithin 7 = .ok (.if_icmp .gt 7, 3) := by decide +kernel
theorem dX8_isWithin_10 : decode cX8_isWithin 10 = .ok (.iconst 1, 1) := by decide +kernel
theorem dX8_isWithin_11 : decode cX8_isWithin 11 = .ok (.goto 4, 3) := by decide +kernel
theorem dX8_isWithin_14 : decode cX8_isWithin 14 = .ok (.iconst 0, 1) := by decide +kernel
theorem dX8_isWithin_15 : decode cX8_isWithin 15 = .ok (.ireturn, 1) := by decide +kernel
theorem dX8_mustExist_0 : decode cX8_mustExist 0 = .ok (.iload_n 0, 1) := by decide +kernel
theorem dX8_mustExist_1 : decode cX8_mustExist 1 = .ok (.ifCond .ne 14, 3) := by decide +kernel
theorem dX8_mustExist_4 : decode cX8_mustExist 4 = .ok (.new 256, 3) := by decide +kernel
theorem dX8_mustExist_7 : decode cX8_mustExist 7 = .ok (.dup, 1) := by decide +kernel
theorem dX8_mustExist_8 : decode cX8_mustExist 8 = .ok (.ldc_w 258, 3) := by decide +kernel
theorem dX8_mustExist_11 : decode cX8_mustExist 11 = .ok (.invokespecial 260, 3) := by decide +kernel
theorem dX8_mustExist_14 : decode cX8_mustExist 14 = .ok (.athrow, 1) := by decide +kernel
theorem dX8_mustExist_15 : decode cX8_mustExist 15 = .ok (.return_, 1) := by decide +kernel
theorem dX8_mustFit_0 : decode cX8_mustFit 0 = .ok (.iload_n 0, 1) := by decide +kernel
theorem dX8_mustFit_1 : decode cX8_mustFit 1 = .ok (.ifCond .ne 14, 3) := by decide +kernel
theorem dX8_mustFit_4 : decode cX8_mustFit 4 = .ok (.new 263, 3) := by decide +kernel
theorem dX8_mustFit_7 : decode cX8_mustFit 7 = .ok (.dup, 1) := by decide +kernel
theorem dX8_mustFit_8 : decode cX8_mustFit 8 = .ok (.ldc_w 265, 3) := by decide +kernel
theorem dX8_mustFit_11 : decode cX8_mustFit 11 = .ok (.invokespecial 267, 3) := by decide +kernel
theorem dX8_mustFit_14 : decode cX8_mustFit 14 = .ok (.athrow, 1) := by decide +kernel
theorem dX8_mustFit_15 : decode cX8_mustFit 15 = .ok (.return_, 1) := by decide +kernel
theorem dX8_mustBeAllowed_0 : decode cX8_mustBeAllowed 0 = .ok (.iload_n 0, 1) := by decide +kernel
theorem dX8_mustBeAllowed_1 : decode cX8_mustBeAllowed 1 = .ok (.ifCond .ne 14, 3) := by decide +kernel
theorem dX8_mustBeAllowed_4 : decode cX8_mustBeAllowed 4 = .ok (.new 268, 3) := by decide +kernel
theorem dX8_mustBeAllowed_7 : decode cX8_mustBeAllowed 7 = .ok (.dup, 1) := by decide +kernel
theorem dX8_mustBeAllowed_8 : decode cX8_mustBeAllowed 8 = .ok (.ldc_w 270, 3) := by decide +kernel
theorem dX8_mustBeAllowed_11 : decode cX8_mustBeAllowed 11 = .ok (.invokespecial 272, 3) := by decide +kernel
theorem dX8_mustBeAllowed_14 : decode cX8_mustBeAllowed 14 = .ok (.athrow, 1) := by decide +kernel
theorem dX8_mustBeAllowed_15 : decode cX8_mustBeAllowed 15 = .ok (.return_, 1) := by decide +kernel
theorem dX8_policyPlace_0 : decode cX8_policyPlace 0 = .ok (.iload_n 1, 1) := by decide +kernel
theorem dX8_policyPlace_1 : decode cX8_policyPlace 1 = .ok (.iconst (-1), 1) := by decide +kernel
theorem dX8_policyPlace_2 : decode cX8_policyPlace 2 = .ok (.if_icmp .ne 5, 3) := by decide +kernel
theorem dX8_policyPlace_5 : decode cX8_policyPlace 5 = .ok (.iconst 0, 1) := by decide +kernel
theorem dX8_policyPlace_6 : decode cX8_policyPlace 6 = .ok (.ireturn, 1) := by decide +kernel
theorem dX8_policyPlace_7 : decode cX8_policyPlace 7 = .ok (.iload_n 0, 1) := by decide +kernel
theorem dX8_policyPlace_8 : decode cX8_policyPlace 8 = .ok (.iconst (-1), 1) := by decide +kernel
theorem dX8_policyPlace_9 : decode cX8_policyPlace 9 = .ok (.if_icmp .ne 9, 3) := by decide +kernel
theorem dX8_policyPlace_12 : decode cX8_policyPlace 12 = .ok (.iconst 1, 1) := by decide +kernel
theorem dX8_policyPlace_13 : decode cX8_policyPlace 13 = .ok (.iload_n 1, 1) := by decide +kernel
theorem dX8_policyPlace_14 : decode cX8_policyPlace 14 = .ok (.iadd, 1) := by decide +kernel
theorem dX8_policyPlace_15 : decode cX8_policyPlace 15 = .ok (.goto 12, 3) := by decide +kernel
theorem dX8_policyPlace_18 : decode cX8_policyPlace 18 = .ok (.bipush 7, 2) := by decide +kernel
theorem dX8_policyPlace_20 : decode cX8_policyPlace 20 = .ok (.iload_n 0, 1) := by decide +kernel
theorem dX8_policyPlace_21 : decode cX8_policyPlace 21 = .ok (.bipush 6, 2) := by decide +kernel
theorem dX8_policyPlace_23 : decode cX8_policyPlace 23 = .ok (.imul, 1) := by decide +kernel
theorem dX8_policyPlace_24 : decode cX8_policyPlace 24 = .ok (.iadd, 1) := by decide +kernel
theorem dX8_policyPlace_25 : decode cX8_policyPlace 25 = .ok (.iload_n 1, 1) := by decide +kernel
theorem dX8_policyPlace_26 : decode cX8_policyPlace 26 = .ok (.iadd, 1) := by decide +kernel
theorem dX8_policyPlace_27 : decode cX8_policyPlace 27 = .ok (.ireturn, 1) := by decide +kernel
theorem dX8_policyOf_0 : decode cX8_policyOf 0 = .ok (.aload_n 0, 1) := by decide +kernel
theorem dX8_policyOf_1 : decode cX8_policyOf 1 = .ok (.getfield 21, 3) := by decide +kernel
theorem dX8_policyOf_4 : decode cX8_policyOf 4 = .ok (.iload_n 2, 1) := by decide +kernel
theorem dX8_policyOf_5 : decode cX8_policyOf 5 = .ok (.aaload, 1) := by decide +kernel
theorem dX8_policyOf_6 : decode cX8_policyOf 6 = .ok (.astore_n 3, 1) := by decide +kernel
theorem dX8_policyOf_7 : decode cX8_policyOf 7 = .ok (.aload_n 3, 1) := by decide +kernel
theorem dX8_policyOf_8 : decode cX8_policyOf 8 = .ok (.aload_n 1, 1) := by decide +kernel
theorem dX8_policyOf_9 : decode cX8_policyOf 9 = .ok (.getfield 273, 3) := by decide +kernel
theorem dX8_policyOf_12 : decode cX8_policyOf 12 = .ok (.aload_n 1, 1) := by decide +kernel
theorem dX8_policyOf_13 : decode cX8_policyOf 13 = .ok (.getfield 210, 3) := by decide +kernel
theorem dX8_policyOf_16 : decode cX8_policyOf 16 = .ok (.invokestatic 112, 3) := by decide +kernel
theorem dX8_policyOf_19 : decode cX8_policyOf 19 = .ok (.iaload, 1) := by decide +kernel
theorem dX8_policyOf_20 : decode cX8_policyOf 20 = .ok (.istore 4, 2) := by decide +kernel
theorem dX8_policyOf_22 : decode cX8_policyOf 22 = .ok (.iload 4, 2) := by decide +kernel
theorem dX8_policyOf_24 : decode cX8_policyOf 24 = .ok (.iconst (-1), 1) := by decide +kernel
theorem dX8_policyOf_25 : decode cX8_policyOf 25 = .ok (.if_icmp .eq 6, 3) := by decide +kernel
theorem dX8_policyOf_28 : decode cX8_policyOf 28 = .ok (.iload 4, 2) := by decide +kernel
theorem dX8_policyOf_30 : decode cX8_policyOf 30 = .ok (.ireturn, 1) := by decide +kernel
theorem dX8_policyOf_31 : decode cX8_policyOf 31 = .ok (.aload_n 3, 1) := by decide +kernel
theorem dX8_policyOf_32 : decode cX8_policyOf 32 = .ok (.iconst (-1), 1) := by decide +kernel
theorem dX8_policyOf_33 : decode cX8_policyOf 33 = .ok (.aload_n 1, 1) := by decide +kernel
theorem dX8_policyOf_34 : decode cX8_policyOf 34 = .ok (.getfield 210, 3) := by decide +kernel
theorem dX8_policyOf_37 : decode cX8_policyOf 37 = .ok (.invokestatic 112, 3) := by decide +kernel
theorem dX8_policyOf_40 : decode cX8_policyOf 40 = .ok (.iaload, 1) := by decide +kernel
theorem dX8_policyOf_41 : decode cX8_policyOf 41 = .ok (.istore 5, 2) := by decide +kernel
theorem dX8_policyOf_43 : decode cX8_policyOf 43 = .ok (.iload 5, 2) := by decide +kernel
theorem dX8_policyOf_45 : decode cX8_policyOf 45 = .ok (.iconst (-1), 1) := by decide +kernel
theorem dX8_policyOf_46 : decode cX8_policyOf 46 = .ok (.if_icmp .eq 6, 3) := by decide +kernel
theorem dX8_policyOf_49 : decode cX8_policyOf 49 = .ok (.iload 5, 2) := by decide +kernel
theorem dX8_policyOf_51 : decode cX8_policyOf 51 = .ok (.ireturn, 1) := by decide +kernel
theorem dX8_policyOf_52 : decode cX8_policyOf 52 = .ok (.aload_n 3, 1) := by decide +kernel
theorem dX8_policyOf_53 : decode cX8_policyOf 53 = .ok (.iconst (-1), 1) := by decide +kernel
theorem dX8_policyOf_54 : decode cX8_policyOf 54 = .ok (.iconst (-1), 1) := by decide +kernel
theorem dX8_policyOf_55 : decode cX8_policyOf 55 = .ok (.invokestatic 112, 3) := by decide +kernel
theorem dX8_policyOf_58 : decode cX8_policyOf 58 = .ok (.iaload, 1) := by decide +kernel
theorem dX8_policyOf_59 : decode cX8_policyOf 59 = .ok (.istore 6, 2) := by decide +kernel
theorem dX8_policyOf_61 : decode cX8_policyOf 61 = .ok (.iload 6, 2) := by decide +kernel
theorem dX8_policyOf_63 : decode cX8_policyOf 63 = .ok (.iconst (-1), 1) := by decide +kernel
theorem dX8_policyOf_64 : decode cX8_policyOf 64 = .ok (.if_icmp .eq 8, 3) := by decide +kernel
theorem dX8_policyOf_67 : decode cX8_policyOf 67 = .ok (.iload 6, 2) := by decide +kernel
theorem dX8_policyOf_69 : decode cX8_policyOf 69 = .ok (.goto 8, 3) := by decide +kernel
theorem dX8_policyOf_72 : decode cX8_policyOf 72 = .ok (.getstatic 276, 3) := by decide +kernel
theorem dX8_policyOf_75 : decode cX8_policyOf 75 = .ok (.iload_n 2, 1) := by decide +kernel
theorem dX8_policyOf_76 : decode cX8_policyOf 76 = .ok (.iaload, 1) := by decide +kernel
theorem dX8_policyOf_77 : decode cX8_policyOf 77 = .ok (.ireturn, 1) := by decide +kernel
theorem dX8_halfOpenBreakers_0 : decode cX8_halfOpenBreakers 0 = .ok (.iconst 0, 1) := by decide +kernel
theorem dX8_halfOpenBreakers_1 : decode cX8_halfOpenBreakers 1 = .ok (.istore_n 1, 1) := by decide +kernel
theorem dX8_halfOpenBreakers_2 : decode cX8_halfOpenBreakers 2 = .ok (.iload_n 1, 1) := by decide +kernel
theorem dX8_halfOpenBreakers_3 : decode cX8_halfOpenBreakers 3 = .ok (.aload_n 0, 1) := by decide +kernel
theorem dX8_halfOpenBreakers_4 : decode cX8_halfOpenBreakers 4 = .ok (.getfield 39, 3) := by decide +kernel
theorem dX8_halfOpenBreakers_7 : decode cX8_halfOpenBreakers 7 = .ok (.invokevirtual 82, 3) := by decide +kernel
theorem dX8_halfOpenBreakers_10 : decode cX8_halfOpenBreakers 10 = .ok (.if_icmp .ge 48, 3) := by decide +kernel
theorem dX8_halfOpenBreakers_13 : decode cX8_halfOpenBreakers 13 = .ok (.aload_n 0, 1) := by decide +kernel
theorem dX8_halfOpenBreakers_14 : decode cX8_halfOpenBreakers 14 = .ok (.getfield 39, 3) := by decide +kernel
theorem dX8_halfOpenBreakers_17 : decode cX8_halfOpenBreakers 17 = .ok (.iload_n 1, 1) := by decide +kernel
theorem dX8_halfOpenBreakers_18 : decode cX8_halfOpenBreakers 18 = .ok (.invokevirtual 98, 3) := by decide +kernel
theorem dX8_halfOpenBreakers_21 : decode cX8_halfOpenBreakers 21 = .ok (.checkcast 86, 3) := by decide +kernel
theorem dX8_halfOpenBreakers_24 : decode cX8_halfOpenBreakers 24 = .ok (.getfield 233, 3) := by decide +kernel
theorem dX8_halfOpenBreakers_27 : decode cX8_halfOpenBreakers 27 = .ok (.astore_n 2, 1) := by decide +kernel
theorem dX8_halfOpenBreakers_28 : decode cX8_halfOpenBreakers 28 = .ok (.iconst 0, 1) := by decide +kernel
theorem dX8_halfOpenBreakers_29 : decode cX8_halfOpenBreakers 29 = .ok (.istore_n 3, 1) := by decide +kernel
theorem dX8_halfOpenBreakers_30 : decode cX8_halfOpenBreakers 30 = .ok (.iload_n 3, 1) := by decide +kernel
theorem dX8_halfOpenBreakers_31 : decode cX8_halfOpenBreakers 31 = .ok (.aload_n 2, 1) := by decide +kernel
theorem dX8_halfOpenBreakers_32 : decode cX8_halfOpenBreakers 32 = .ok (.arraylength, 1) := by decide +kernel
theorem dX8_halfOpenBreakers_33 : decode cX8_halfOpenBreakers 33 = .ok (.if_icmp .ge 19, 3) := by decide +kernel
theorem dX8_halfOpenBreakers_36 : decode cX8_halfOpenBreakers 36 = .ok (.aload_n 2, 1) := by decide +kernel
theorem dX8_halfOpenBreakers_37 : decode cX8_halfOpenBreakers 37 = .ok (.iload_n 3, 1) := by decide +kernel
theorem dX8_halfOpenBreakers_38 : decode cX8_halfOpenBreakers 38 = .ok (.aaload, 1) := by decide +kernel
theorem dX8_halfOpenBreakers_39 : decode cX8_halfOpenBreakers 39 = .ok (.aload_n 0, 1) := by decide +kernel
theorem dX8_halfOpenBreakers_40 : decode cX8_halfOpenBreakers 40 = .ok (.getfield 140, 3) := by decide +kernel
theorem dX8_halfOpenBreakers_43 : decode cX8_halfOpenBreakers 43 = .ok (.invokevirtual 279, 3) := by decide +kernel
theorem dX8_halfOpenBreakers_46 : decode cX8_halfOpenBreakers 46 = .ok (.iinc 3 1, 3) := by decide +kernel
theorem dX8_halfOpenBreakers_49 : decode cX8_halfOpenBreakers 49 = .ok (.goto (-19), 3) := by decide +kernel
theorem dX8_halfOpenBreakers_52 : decode cX8_halfOpenBreakers 52 = .ok (.iinc 1 1, 3) := by decide +kernel
theorem dX8_halfOpenBreakers_55 : decode cX8_halfOpenBreakers 55 = .ok (.goto (-53), 3) := by decide +kernel
theorem dX8_halfOpenBreakers_58 : decode cX8_halfOpenBreakers 58 = .ok (.return_, 1) := by decide +kernel
theorem dX8_endLateCalls_0 : decode cX8_endLateCalls 0 = .ok (.iconst 0, 1) := by decide +kernel
theorem dX8_endLateCalls_1 : decode cX8_endLateCalls 1 = .ok (.istore_n 1, 1) := by decide +kernel
theorem dX8_endLateCalls_2 : decode cX8_endLateCalls 2 = .ok (.iload_n 1, 1) := by decide +kernel
theorem dX8_endLateCalls_3 : decode cX8_endLateCalls 3 = .ok (.aload_n 0, 1) := by decide +kernel
theorem dX8_endLateCalls_4 : decode cX8_endLateCalls 4 = .ok (.getfield 46, 3) := by decide +kernel
theorem dX8_endLateCalls_7 : decode cX8_endLateCalls 7 = .ok (.invokevirtual 82, 3) := by decide +kernel
theorem dX8_endLateCalls_10 : decode cX8_endLateCalls 10 = .ok (.if_icmp .ge 46, 3) := by decide +kernel
theorem dX8_endLateCalls_13 : decode cX8_endLateCalls 13 = .ok (.aload_n 0, 1) := by decide +kernel
theorem dX8_endLateCalls_14 : decode cX8_endLateCalls 14 = .ok (.getfield 46, 3) := by decide +kernel
theorem dX8_endLateCalls_17 : decode cX8_endLateCalls 17 = .ok (.iload_n 1, 1) := by decide +kernel
theorem dX8_endLateCalls_18 : decode cX8_endLateCalls 18 = .ok (.invokevirtual 98, 3) := by decide +kernel
theorem dX8_endLateCalls_21 : decode cX8_endLateCalls 21 = .ok (.checkcast 204, 3) := by decide +kernel
theorem dX8_endLateCalls_24 : decode cX8_endLateCalls 24 = .ok (.astore_n 2, 1) := by decide +kernel
theorem dX8_endLateCalls_25 : decode cX8_endLateCalls 25 = .ok (.aload_n 2, 1) := by decide +kernel
theorem dX8_endLateCalls_26 : decode cX8_endLateCalls 26 = .ok (.invokevirtual 282, 3) := by decide +kernel
theorem dX8_endLateCalls_29 : decode cX8_endLateCalls 29 = .ok (.ifCond .ne 21, 3) := by decide +kernel
theorem dX8_endLateCalls_32 : decode cX8_endLateCalls 32 = .ok (.aload_n 2, 1) := by decide +kernel
theorem dX8_endLateCalls_33 : decode cX8_endLateCalls 33 = .ok (.getfield 218, 3) := by decide +kernel
theorem dX8_endLateCalls_36 : decode cX8_endLateCalls 36 = .ok (.aload_n 0, 1) := by decide +kernel
theorem dX8_endLateCalls_37 : decode cX8_endLateCalls 37 = .ok (.getfield 140, 3) := by decide +kernel
theorem dX8_endLateCalls_40 : decode cX8_endLateCalls 40 = .ok (.if_icmp .gt 10, 3) := by decide +kernel
theorem dX8_endLateCalls_43 : decode cX8_endLateCalls 43 = .ok (.aload_n 0, 1) := by decide +kernel
theorem dX8_endLateCalls_44 : decode cX8_endLateCalls 44 = .ok (.aload_n 2, 1) := by decide +kernel
theorem dX8_endLateCalls_45 : decode cX8_endLateCalls 45 = .ok (.iconst 5, 1) := by decide +kernel
theorem dX8_endLateCalls_46 : decode cX8_endLateCalls 46 = .ok (.iconst 0, 1) := by decide +kernel
theorem dX8_endLateCalls_47 : decode cX8_endLateCalls 47 = .ok (.invokevirtual 285, 3) := by decide +kernel
theorem dX8_endLateCalls_50 : decode cX8_endLateCalls 50 = .ok (.iinc 1 1, 3) := by decide +kernel
theorem dX8_endLateCalls_53 : decode cX8_endLateCalls 53 = .ok (.goto (-51), 3) := by decide +kernel
theorem dX8_endLateCalls_56 : decode cX8_endLateCalls 56 = .ok (.return_, 1) := by decide +kernel
theorem dX8_endWork_0 : decode cX8_endWork 0 = .ok (.iconst 0, 1) := by decide +kernel
theorem dX8_endWork_1 : decode cX8_endWork 1 = .ok (.istore_n 1, 1) := by decide +kernel
theorem dX8_endWork_2 : decode cX8_endWork 2 = .ok (.iload_n 1, 1) := by decide +kernel
theorem dX8_endWork_3 : decode cX8_endWork 3 = .ok (.aload_n 0, 1) := by decide +kernel
theorem dX8_endWork_4 : decode cX8_endWork 4 = .ok (.getfield 46, 3) := by decide +kernel
theorem dX8_endWork_7 : decode cX8_endWork 7 = .ok (.invokevirtual 82, 3) := by decide +kernel
theorem dX8_endWork_10 : decode cX8_endWork 10 = .ok (.if_icmp .ge 98, 3) := by decide +kernel
theorem dX8_endWork_13 : decode cX8_endWork 13 = .ok (.aload_n 0, 1) := by decide +kernel
theorem dX8_endWork_14 : decode cX8_endWork 14 = .ok (.getfield 46, 3) := by decide +kernel
theorem dX8_endWork_17 : decode cX8_endWork 17 = .ok (.iload_n 1, 1) := by decide +kernel
theorem dX8_endWork_18 : decode cX8_endWork 18 = .ok (.invokevirtual 98, 3) := by decide +kernel
theorem dX8_endWork_21 : decode cX8_endWork 21 = .ok (.checkcast 204, 3) := by decide +kernel
theorem dX8_endWork_24 : decode cX8_endWork 24 = .ok (.astore_n 2, 1) := by decide +kernel
theorem dX8_endWork_25 : decode cX8_endWork 25 = .ok (.aload_n 2, 1) := by decide +kernel
theorem dX8_endWork_26 : decode cX8_endWork 26 = .ok (.getfield 217, 3) := by decide +kernel
theorem dX8_endWork_29 : decode cX8_endWork 29 = .ok (.iconst 1, 1) := by decide +kernel
theorem dX8_endWork_30 : decode cX8_endWork 30 = .ok (.if_icmp .ne 72, 3) := by decide +kernel
