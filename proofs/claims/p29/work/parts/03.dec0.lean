theorem dX0_init_0 : decode cX0_init 0 = .ok (.aload_n 0, 1) := by decide +kernel
theorem dX0_init_1 : decode cX0_init 1 = .ok (.invokespecial 3, 3) := by decide +kernel
theorem dX0_init_4 : decode cX0_init 4 = .ok (.aload_n 0, 1) := by decide +kernel
theorem dX0_init_5 : decode cX0_init 5 = .ok (.iconst 0, 1) := by decide +kernel
theorem dX0_init_6 : decode cX0_init 6 = .ok (.putfield 9, 3) := by decide +kernel
theorem dX0_init_9 : decode cX0_init 9 = .ok (.return_, 1) := by decide +kernel
theorem dX0_count_0 : decode cX0_count 0 = .ok (.aload_n 0, 1) := by decide +kernel
theorem dX0_count_1 : decode cX0_count 1 = .ok (.getfield 9, 3) := by decide +kernel
theorem dX0_count_4 : decode cX0_count 4 = .ok (.iconst 1, 1) := by decide +kernel
theorem dX0_count_5 : decode cX0_count 5 = .ok (.if_icmp .ne 4, 3) := by decide +kernel
theorem dX0_count_8 : decode cX0_count 8 = .ok (.return_, 1) := by decide +kernel
theorem dX0_count_9 : decode cX0_count 9 = .ok (.iload_n 1, 1) := by decide +kernel
theorem dX0_count_10 : decode cX0_count 10 = .ok (.ifCond .eq 14, 3) := by decide +kernel
theorem dX0_count_13 : decode cX0_count 13 = .ok (.aload_n 0, 1) := by decide +kernel
theorem dX0_count_14 : decode cX0_count 14 = .ok (.iconst 0, 1) := by decide +kernel
theorem dX0_count_15 : decode cX0_count 15 = .ok (.putfield 9, 3) := by decide +kernel
theorem dX0_count_18 : decode cX0_count 18 = .ok (.aload_n 0, 1) := by decide +kernel
theorem dX0_count_19 : decode cX0_count 19 = .ok (.iconst 0, 1) := by decide +kernel
theorem dX0_count_20 : decode cX0_count 20 = .ok (.putfield 15, 3) := by decide +kernel
theorem dX0_count_23 : decode cX0_count 23 = .ok (.return_, 1) := by decide +kernel
theorem dX0_count_24 : decode cX0_count 24 = .ok (.aload_n 0, 1) := by decide +kernel
theorem dX0_count_25 : decode cX0_count 25 = .ok (.dup, 1) := by decide +kernel
theorem dX0_count_26 : decode cX0_count 26 = .ok (.getfield 15, 3) := by decide +kernel
theorem dX0_count_29 : decode cX0_count 29 = .ok (.iconst 1, 1) := by decide +kernel
theorem dX0_count_30 : decode cX0_count 30 = .ok (.iadd, 1) := by decide +kernel
theorem dX0_count_31 : decode cX0_count 31 = .ok (.putfield 15, 3) := by decide +kernel
theorem dX0_count_34 : decode cX0_count 34 = .ok (.aload_n 0, 1) := by decide +kernel
theorem dX0_count_35 : decode cX0_count 35 = .ok (.getfield 15, 3) := by decide +kernel
theorem dX0_count_38 : decode cX0_count 38 = .ok (.iconst 3, 1) := by decide +kernel
theorem dX0_count_39 : decode cX0_count 39 = .ok (.if_icmp .ge 11, 3) := by decide +kernel
theorem dX0_count_42 : decode cX0_count 42 = .ok (.aload_n 0, 1) := by decide +kernel
theorem dX0_count_43 : decode cX0_count 43 = .ok (.getfield 9, 3) := by decide +kernel
theorem dX0_count_46 : decode cX0_count 46 = .ok (.iconst 2, 1) := by decide +kernel
theorem dX0_count_47 : decode cX0_count 47 = .ok (.if_icmp .ne 13, 3) := by decide +kernel
theorem dX0_count_50 : decode cX0_count 50 = .ok (.aload_n 0, 1) := by decide +kernel
theorem dX0_count_51 : decode cX0_count 51 = .ok (.iconst 1, 1) := by decide +kernel
theorem dX0_count_52 : decode cX0_count 52 = .ok (.putfield 9, 3) := by decide +kernel
theorem dX0_count_55 : decode cX0_count 55 = .ok (.aload_n 0, 1) := by decide +kernel
theorem dX0_count_56 : decode cX0_count 56 = .ok (.iload_n 2, 1) := by decide +kernel
theorem dX0_count_57 : decode cX0_count 57 = .ok (.putfield 18, 3) := by decide +kernel
theorem dX0_count_60 : decode cX0_count 60 = .ok (.return_, 1) := by decide +kernel
theorem dX0_rest_0 : decode cX0_rest 0 = .ok (.aload_n 0, 1) := by decide +kernel
theorem dX0_rest_1 : decode cX0_rest 1 = .ok (.getfield 9, 3) := by decide +kernel
theorem dX0_rest_4 : decode cX0_rest 4 = .ok (.iconst 1, 1) := by decide +kernel
theorem dX0_rest_5 : decode cX0_rest 5 = .ok (.if_icmp .ne 19, 3) := by decide +kernel
theorem dX0_rest_8 : decode cX0_rest 8 = .ok (.iload_n 1, 1) := by decide +kernel
theorem dX0_rest_9 : decode cX0_rest 9 = .ok (.aload_n 0, 1) := by decide +kernel
theorem dX0_rest_10 : decode cX0_rest 10 = .ok (.getfield 18, 3) := by decide +kernel
theorem dX0_rest_13 : decode cX0_rest 13 = .ok (.isub, 1) := by decide +kernel
theorem dX0_rest_14 : decode cX0_rest 14 = .ok (.bipush 10, 2) := by decide +kernel
theorem dX0_rest_16 : decode cX0_rest 16 = .ok (.if_icmp .lt 8, 3) := by decide +kernel
theorem dX0_rest_19 : decode cX0_rest 19 = .ok (.aload_n 0, 1) := by decide +kernel
theorem dX0_rest_20 : decode cX0_rest 20 = .ok (.iconst 2, 1) := by decide +kernel
theorem dX0_rest_21 : decode cX0_rest 21 = .ok (.putfield 9, 3) := by decide +kernel
theorem dX0_rest_24 : decode cX0_rest 24 = .ok (.return_, 1) := by decide +kernel
theorem dX1_init_0 : decode cX1_init 0 = .ok (.aload_n 0, 1) := by decide +kernel
theorem dX1_init_1 : decode cX1_init 1 = .ok (.invokespecial 3, 3) := by decide +kernel
theorem dX1_init_4 : decode cX1_init 4 = .ok (.aload_n 0, 1) := by decide +kernel
theorem dX1_init_5 : decode cX1_init 5 = .ok (.new 9, 3) := by decide +kernel
theorem dX1_init_8 : decode cX1_init 8 = .ok (.dup, 1) := by decide +kernel
theorem dX1_init_9 : decode cX1_init 9 = .ok (.invokespecial 11, 3) := by decide +kernel
theorem dX1_init_12 : decode cX1_init 12 = .ok (.putfield 12, 3) := by decide +kernel
theorem dX1_init_15 : decode cX1_init 15 = .ok (.aload_n 0, 1) := by decide +kernel
theorem dX1_init_16 : decode cX1_init 16 = .ok (.iconst (-1), 1) := by decide +kernel
theorem dX1_init_17 : decode cX1_init 17 = .ok (.putfield 18, 3) := by decide +kernel
theorem dX1_init_20 : decode cX1_init 20 = .ok (.aload_n 0, 1) := by decide +kernel
theorem dX1_init_21 : decode cX1_init 21 = .ok (.ldc 22, 2) := by decide +kernel
theorem dX1_init_23 : decode cX1_init 23 = .ok (.putfield 23, 3) := by decide +kernel
theorem dX1_init_26 : decode cX1_init 26 = .ok (.aload_n 0, 1) := by decide +kernel
theorem dX1_init_27 : decode cX1_init 27 = .ok (.iconst (-1), 1) := by decide +kernel
theorem dX1_init_28 : decode cX1_init 28 = .ok (.putfield 26, 3) := by decide +kernel
theorem dX1_init_31 : decode cX1_init 31 = .ok (.aload_n 0, 1) := by decide +kernel
theorem dX1_init_32 : decode cX1_init 32 = .ok (.ldc 22, 2) := by decide +kernel
theorem dX1_init_34 : decode cX1_init 34 = .ok (.putfield 29, 3) := by decide +kernel
theorem dX1_init_37 : decode cX1_init 37 = .ok (.aload_n 0, 1) := by decide +kernel
theorem dX1_init_38 : decode cX1_init 38 = .ok (.iload_n 1, 1) := by decide +kernel
theorem dX1_init_39 : decode cX1_init 39 = .ok (.putfield 32, 3) := by decide +kernel
theorem dX1_init_42 : decode cX1_init 42 = .ok (.aload_n 0, 1) := by decide +kernel
theorem dX1_init_43 : decode cX1_init 43 = .ok (.aload_n 2, 1) := by decide +kernel
theorem dX1_init_44 : decode cX1_init 44 = .ok (.putfield 35, 3) := by decide +kernel
theorem dX1_init_47 : decode cX1_init 47 = .ok (.aload_n 0, 1) := by decide +kernel
theorem dX1_init_48 : decode cX1_init 48 = .ok (.aload_n 3, 1) := by decide +kernel
theorem dX1_init_49 : decode cX1_init 49 = .ok (.putfield 39, 3) := by decide +kernel
theorem dX1_init_52 : decode cX1_init 52 = .ok (.aload_n 0, 1) := by decide +kernel
theorem dX1_init_53 : decode cX1_init 53 = .ok (.iload 4, 2) := by decide +kernel
theorem dX1_init_55 : decode cX1_init 55 = .ok (.putfield 43, 3) := by decide +kernel
theorem dX1_init_58 : decode cX1_init 58 = .ok (.return_, 1) := by decide +kernel
theorem dX1_hasEnded_0 : decode cX1_hasEnded 0 = .ok (.aload_n 0, 1) := by decide +kernel
theorem dX1_hasEnded_1 : decode cX1_hasEnded 1 = .ok (.getfield 18, 3) := by decide +kernel
theorem dX1_hasEnded_4 : decode cX1_hasEnded 4 = .ok (.iconst 3, 1) := by decide +kernel
theorem dX1_hasEnded_5 : decode cX1_hasEnded 5 = .ok (.if_icmp .lt 7, 3) := by decide +kernel
theorem dX1_hasEnded_8 : decode cX1_hasEnded 8 = .ok (.iconst 1, 1) := by decide +kernel
theorem dX1_hasEnded_9 : decode cX1_hasEnded 9 = .ok (.goto 4, 3) := by decide +kernel
theorem dX1_hasEnded_12 : decode cX1_hasEnded 12 = .ok (.iconst 0, 1) := by decide +kernel
theorem dX1_hasEnded_13 : decode cX1_hasEnded 13 = .ok (.ireturn, 1) := by decide +kernel
theorem dX1_isKnown_0 : decode cX1_isKnown 0 = .ok (.aload_n 0, 1) := by decide +kernel
theorem dX1_isKnown_1 : decode cX1_isKnown 1 = .ok (.getfield 29, 3) := by decide +kernel
theorem dX1_isKnown_4 : decode cX1_isKnown 4 = .ok (.iload_n 1, 1) := by decide +kernel
theorem dX1_isKnown_5 : decode cX1_isKnown 5 = .ok (.if_icmp .gt 7, 3) := by decide +kernel
theorem dX1_isKnown_8 : decode cX1_isKnown 8 = .ok (.iconst 1, 1) := by decide +kernel
theorem dX1_isKnown_9 : decode cX1_isKnown 9 = .ok (.goto 4, 3) := by decide +kernel
theorem dX1_isKnown_12 : decode cX1_isKnown 12 = .ok (.iconst 0, 1) := by decide +kernel
theorem dX1_isKnown_13 : decode cX1_isKnown 13 = .ok (.ireturn, 1) := by decide +kernel
theorem dX1_lastStep_0 : decode cX1_lastStep 0 = .ok (.aload_n 0, 1) := by decide +kernel
theorem dX1_lastStep_1 : decode cX1_lastStep 1 = .ok (.getfield 12, 3) := by decide +kernel
theorem dX1_lastStep_4 : decode cX1_lastStep 4 = .ok (.invokevirtual 46, 3) := by decide +kernel
theorem dX1_lastStep_7 : decode cX1_lastStep 7 = .ok (.ifCond .eq 7, 3) := by decide +kernel
theorem dX1_lastStep_10 : decode cX1_lastStep 10 = .ok (.aconst_null, 1) := by decide +kernel
theorem dX1_lastStep_11 : decode cX1_lastStep 11 = .ok (.goto 22, 3) := by decide +kernel
theorem dX1_lastStep_14 : decode cX1_lastStep 14 = .ok (.aload_n 0, 1) := by decide +kernel
theorem dX1_lastStep_15 : decode cX1_lastStep 15 = .ok (.getfield 12, 3) := by decide +kernel
theorem dX1_lastStep_18 : decode cX1_lastStep 18 = .ok (.aload_n 0, 1) := by decide +kernel
theorem dX1_lastStep_19 : decode cX1_lastStep 19 = .ok (.getfield 12, 3) := by decide +kernel
theorem dX1_lastStep_22 : decode cX1_lastStep 22 = .ok (.invokevirtual 50, 3) := by decide +kernel
theorem dX1_lastStep_25 : decode cX1_lastStep 25 = .ok (.iconst 1, 1) := by decide +kernel
theorem dX1_lastStep_26 : decode cX1_lastStep 26 = .ok (.isub, 1) := by decide +kernel
theorem dX1_lastStep_27 : decode cX1_lastStep 27 = .ok (.invokevirtual 54, 3) := by decide +kernel
theorem dX1_lastStep_30 : decode cX1_lastStep 30 = .ok (.checkcast 58, 3) := by decide +kernel
theorem dX1_lastStep_33 : decode cX1_lastStep 33 = .ok (.areturn, 1) := by decide +kernel
theorem dX1_learnEnd_0 : decode cX1_learnEnd 0 = .ok (.aload_n 0, 1) := by decide +kernel
theorem dX1_learnEnd_1 : decode cX1_learnEnd 1 = .ok (.getfield 18, 3) := by decide +kernel
theorem dX1_learnEnd_4 : decode cX1_learnEnd 4 = .ok (.bipush 7, 2) := by decide +kernel
theorem dX1_learnEnd_6 : decode cX1_learnEnd 6 = .ok (.if_icmp .ne 4, 3) := by decide +kernel
theorem dX1_learnEnd_9 : decode cX1_learnEnd 9 = .ok (.return_, 1) := by decide +kernel
theorem dX1_learnEnd_10 : decode cX1_learnEnd 10 = .ok (.aload_n 0, 1) := by decide +kernel
theorem dX1_learnEnd_11 : decode cX1_learnEnd 11 = .ok (.getfield 39, 3) := by decide +kernel
theorem dX1_learnEnd_14 : decode cX1_learnEnd 14 = .ok (.getfield 60, 3) := by decide +kernel
theorem dX1_learnEnd_17 : decode cX1_learnEnd 17 = .ok (.iconst 2, 1) := by decide +kernel
theorem dX1_learnEnd_18 : decode cX1_learnEnd 18 = .ok (.iaload, 1) := by decide +kernel
theorem dX1_learnEnd_19 : decode cX1_learnEnd 19 = .ok (.ifCond .eq 15, 3) := by decide +kernel
theorem dX1_learnEnd_22 : decode cX1_learnEnd 22 = .ok (.aload_n 0, 1) := by decide +kernel
theorem dX1_learnEnd_23 : decode cX1_learnEnd 23 = .ok (.getfield 18, 3) := by decide +kernel
theorem dX1_learnEnd_26 : decode cX1_learnEnd 26 = .ok (.iconst 5, 1) := by decide +kernel
theorem dX1_learnEnd_27 : decode cX1_learnEnd 27 = .ok (.if_icmp .eq 7, 3) := by decide +kernel
theorem dX1_learnEnd_30 : decode cX1_learnEnd 30 = .ok (.iconst 1, 1) := by decide +kernel
theorem dX1_learnEnd_31 : decode cX1_learnEnd 31 = .ok (.goto 4, 3) := by decide +kernel
theorem dX1_learnEnd_34 : decode cX1_learnEnd 34 = .ok (.iconst 0, 1) := by decide +kernel
theorem dX1_learnEnd_35 : decode cX1_learnEnd 35 = .ok (.istore_n 2, 1) := by decide +kernel
theorem dX1_learnEnd_36 : decode cX1_learnEnd 36 = .ok (.aload_n 0, 1) := by decide +kernel
theorem dX1_learnEnd_37 : decode cX1_learnEnd 37 = .ok (.iload_n 2, 1) := by decide +kernel
theorem dX1_learnEnd_38 : decode cX1_learnEnd 38 = .ok (.ifCond .eq 7, 3) := by decide +kernel
theorem dX1_learnEnd_41 : decode cX1_learnEnd 41 = .ok (.iconst 5, 1) := by decide +kernel
theorem dX1_learnEnd_42 : decode cX1_learnEnd 42 = .ok (.goto 7, 3) := by decide +kernel
theorem dX1_learnEnd_45 : decode cX1_learnEnd 45 = .ok (.aload_n 0, 1) := by decide +kernel
theorem dX1_learnEnd_46 : decode cX1_learnEnd 46 = .ok (.getfield 18, 3) := by decide +kernel
theorem dX1_learnEnd_49 : decode cX1_learnEnd 49 = .ok (.putfield 26, 3) := by decide +kernel
theorem dX1_learnEnd_52 : decode cX1_learnEnd 52 = .ok (.aload_n 0, 1) := by decide +kernel
theorem dX1_learnEnd_53 : decode cX1_learnEnd 53 = .ok (.iload_n 2, 1) := by decide +kernel
theorem dX1_learnEnd_54 : decode cX1_learnEnd 54 = .ok (.ifCond .eq 10, 3) := by decide +kernel
theorem dX1_learnEnd_57 : decode cX1_learnEnd 57 = .ok (.aload_n 0, 1) := by decide +kernel
theorem dX1_learnEnd_58 : decode cX1_learnEnd 58 = .ok (.getfield 43, 3) := by decide +kernel
theorem dX1_learnEnd_61 : decode cX1_learnEnd 61 = .ok (.goto 4, 3) := by decide +kernel
theorem dX1_learnEnd_64 : decode cX1_learnEnd 64 = .ok (.iload_n 1, 1) := by decide +kernel
theorem dX1_learnEnd_65 : decode cX1_learnEnd 65 = .ok (.putfield 29, 3) := by decide +kernel
theorem dX1_learnEnd_68 : decode cX1_learnEnd 68 = .ok (.return_, 1) := by decide +kernel
theorem dX2_init_0 : decode cX2_init 0 = .ok (.aload_n 0, 1) := by decide +kernel
theorem dX2_init_1 : decode cX2_init 1 = .ok (.invokespecial 3, 3) := by decide +kernel
theorem dX2_init_4 : decode cX2_init 4 = .ok (.aload_n 0, 1) := by decide +kernel
theorem dX2_init_5 : decode cX2_init 5 = .ok (.sipush 1000, 3) := by decide +kernel
theorem dX2_init_8 : decode cX2_init 8 = .ok (.putfield 9, 3) := by decide +kernel
theorem dX2_init_11 : decode cX2_init 11 = .ok (.aload_n 0, 1) := by decide +kernel
theorem dX2_init_12 : decode cX2_init 12 = .ok (.bipush 10, 2) := by decide +kernel
theorem dX2_init_14 : decode cX2_init 14 = .ok (.putfield 15, 3) := by decide +kernel
theorem dX2_init_17 : decode cX2_init 17 = .ok (.return_, 1) := by decide +kernel
theorem dX2_account_0 : decode cX2_account 0 = .ok (.iload_n 1, 1) := by decide +kernel
theorem dX2_account_1 : decode cX2_account 1 = .ok (.ifCond .eq 27, 3) := by decide +kernel
theorem dX2_account_4 : decode cX2_account 4 = .ok (.aload_n 0, 1) := by decide +kernel
theorem dX2_account_5 : decode cX2_account 5 = .ok (.dup, 1) := by decide +kernel
theorem dX2_account_6 : decode cX2_account 6 = .ok (.getfield 18, 3) := by decide +kernel
theorem dX2_account_9 : decode cX2_account 9 = .ok (.iconst 1, 1) := by decide +kernel
theorem dX2_account_10 : decode cX2_account 10 = .ok (.iadd, 1) := by decide +kernel
theorem dX2_account_11 : decode cX2_account 11 = .ok (.putfield 18, 3) := by decide +kernel
theorem dX2_account_14 : decode cX2_account 14 = .ok (.aload_n 0, 1) := by decide +kernel
theorem dX2_account_15 : decode cX2_account 15 = .ok (.dup, 1) := by decide +kernel
theorem dX2_account_16 : decode cX2_account 16 = .ok (.getfield 9, 3) := by decide +kernel
theorem dX2_account_19 : decode cX2_account 19 = .ok (.bipush 100, 2) := by decide +kernel
theorem dX2_account_21 : decode cX2_account 21 = .ok (.isub, 1) := by decide +kernel
theorem dX2_account_22 : decode cX2_account 22 = .ok (.putfield 9, 3) := by decide +kernel
theorem dX2_account_25 : decode cX2_account 25 = .ok (.goto 32, 3) := by decide +kernel
theorem dX2_account_28 : decode cX2_account 28 = .ok (.aload_n 0, 1) := by decide +kernel
theorem dX2_account_29 : decode cX2_account 29 = .ok (.dup, 1) := by decide +kernel
theorem dX2_account_30 : decode cX2_account 30 = .ok (.getfield 21, 3) := by decide +kernel
theorem dX2_account_33 : decode cX2_account 33 = .ok (.iconst 1, 1) := by decide +kernel
theorem dX2_account_34 : decode cX2_account 34 = .ok (.iadd, 1) := by decide +kernel
theorem dX2_account_35 : decode cX2_account 35 = .ok (.putfield 21, 3) := by decide +kernel
theorem dX2_account_38 : decode cX2_account 38 = .ok (.aload_n 0, 1) := by decide +kernel
theorem dX2_account_39 : decode cX2_account 39 = .ok (.sipush 1000, 3) := by decide +kernel
theorem dX2_account_42 : decode cX2_account 42 = .ok (.aload_n 0, 1) := by decide +kernel
theorem dX2_account_43 : decode cX2_account 43 = .ok (.getfield 9, 3) := by decide +kernel
theorem dX2_account_46 : decode cX2_account 46 = .ok (.aload_n 0, 1) := by decide +kernel
theorem dX2_account_47 : decode cX2_account 47 = .ok (.getfield 15, 3) := by decide +kernel
theorem dX2_account_50 : decode cX2_account 50 = .ok (.iadd, 1) := by decide +kernel
theorem dX2_account_51 : decode cX2_account 51 = .ok (.invokestatic 24, 3) := by decide +kernel
theorem dX2_account_54 : decode cX2_account 54 = .ok (.putfield 9, 3) := by decide +kernel
theorem dX2_account_57 : decode cX2_account 57 = .ok (.return_, 1) := by decide +kernel
theorem dX3_init_0 : decode cX3_init 0 = .ok (.aload_n 0, 1) := by decide +kernel
theorem dX3_init_1 : decode cX3_init 1 = .ok (.invokespecial 3, 3) := by decide +kernel
theorem dX3_init_4 : decode cX3_init 4 = .ok (.aload_n 0, 1) := by decide +kernel
theorem dX3_init_5 : decode cX3_init 5 = .ok (.iconst 2, 1) := by decide +kernel
theorem dX3_init_6 : decode cX3_init 6 = .ok (.newarray .int, 2) := by decide +kernel
theorem dX3_init_8 : decode cX3_init 8 = .ok (.putfield 9, 3) := by decide +kernel
theorem dX3_init_11 : decode cX3_init 11 = .ok (.aload_n 0, 1) := by decide +kernel
theorem dX3_init_12 : decode cX3_init 12 = .ok (.iconst 2, 1) := by decide +kernel
theorem dX3_init_13 : decode cX3_init 13 = .ok (.newarray .int, 2) := by decide +kernel
theorem dX3_init_15 : decode cX3_init 15 = .ok (.putfield 15, 3) := by decide +kernel
theorem dX3_init_18 : decode cX3_init 18 = .ok (.return_, 1) := by decide +kernel
theorem dX3_restart_0 : decode cX3_restart 0 = .ok (.aload_n 0, 1) := by decide +kernel
theorem dX3_restart_1 : decode cX3_restart 1 = .ok (.iload_n 1, 1) := by decide +kernel
theorem dX3_restart_2 : decode cX3_restart 2 = .ok (.putfield 18, 3) := by decide +kernel
theorem dX3_restart_5 : decode cX3_restart 5 = .ok (.aload_n 0, 1) := by decide +kernel
theorem dX3_restart_6 : decode cX3_restart 6 = .ok (.iconst 0, 1) := by decide +kernel
theorem dX3_restart_7 : decode cX3_restart 7 = .ok (.putfield 22, 3) := by decide +kernel
theorem dX3_restart_10 : decode cX3_restart 10 = .ok (.iconst 0, 1) := by decide +kernel
theorem dX3_restart_11 : decode cX3_restart 11 = .ok (.istore_n 2, 1) := by decide +kernel
theorem dX3_restart_12 : decode cX3_restart 12 = .ok (.iload_n 2, 1) := by decide +kernel
theorem dX3_restart_13 : decode cX3_restart 13 = .ok (.iconst 2, 1) := by decide +kernel
theorem dX3_restart_14 : decode cX3_restart 14 = .ok (.if_icmp .ge 23, 3) := by decide +kernel
theorem dX3_restart_17 : decode cX3_restart 17 = .ok (.aload_n 0, 1) := by decide +kernel
theorem dX3_restart_18 : decode cX3_restart 18 = .ok (.getfield 9, 3) := by decide +kernel
theorem dX3_restart_21 : decode cX3_restart 21 = .ok (.iload_n 2, 1) := by decide +kernel
theorem dX3_restart_22 : decode cX3_restart 22 = .ok (.iconst 0, 1) := by decide +kernel
theorem dX3_restart_23 : decode cX3_restart 23 = .ok (.iastore, 1) := by decide +kernel
theorem dX3_restart_24 : decode cX3_restart 24 = .ok (.aload_n 0, 1) := by decide +kernel
theorem dX3_restart_25 : decode cX3_restart 25 = .ok (.getfield 15, 3) := by decide +kernel
theorem dX3_restart_28 : decode cX3_restart 28 = .ok (.iload_n 2, 1) := by decide +kernel
theorem dX3_restart_29 : decode cX3_restart 29 = .ok (.iconst 0, 1) := by decide +kernel
theorem dX3_restart_30 : decode cX3_restart 30 = .ok (.iastore, 1) := by decide +kernel
theorem dX3_restart_31 : decode cX3_restart 31 = .ok (.iinc 2 1, 3) := by decide +kernel
theorem dX3_restart_34 : decode cX3_restart 34 = .ok (.goto (-22), 3) := by decide +kernel
theorem dX3_restart_37 : decode cX3_restart 37 = .ok (.return_, 1) := by decide +kernel
theorem dX3_nextVersion_0 : decode cX3_nextVersion 0 = .ok (.aload_n 0, 1) := by decide +kernel
theorem dX3_nextVersion_1 : decode cX3_nextVersion 1 = .ok (.getfield 18, 3) := by decide +kernel
theorem dX3_nextVersion_4 : decode cX3_nextVersion 4 = .ok (.ifCond .ne 5, 3) := by decide +kernel
theorem dX3_nextVersion_7 : decode cX3_nextVersion 7 = .ok (.iconst (-1), 1) := by decide +kernel
theorem dX3_nextVersion_8 : decode cX3_nextVersion 8 = .ok (.ireturn, 1) := by decide +kernel
theorem dX3_nextVersion_9 : decode cX3_nextVersion 9 = .ok (.aload_n 0, 1) := by decide +kernel
theorem dX3_nextVersion_10 : decode cX3_nextVersion 10 = .ok (.dup, 1) := by decide +kernel
theorem dX3_nextVersion_11 : decode cX3_nextVersion 11 = .ok (.getfield 22, 3) := by decide +kernel
theorem dX3_nextVersion_14 : decode cX3_nextVersion 14 = .ok (.iconst 1, 1) := by decide +kernel
theorem dX3_nextVersion_15 : decode cX3_nextVersion 15 = .ok (.iadd, 1) := by decide +kernel
theorem dX3_nextVersion_16 : decode cX3_nextVersion 16 = .ok (.putfield 22, 3) := by decide +kernel
theorem dX3_nextVersion_19 : decode cX3_nextVersion 19 = .ok (.aload_n 0, 1) := by decide +kernel
theorem dX3_nextVersion_20 : decode cX3_nextVersion 20 = .ok (.getfield 22, 3) := by decide +kernel
theorem dX3_nextVersion_23 : decode cX3_nextVersion 23 = .ok (.aload_n 0, 1) := by decide +kernel
theorem dX3_nextVersion_24 : decode cX3_nextVersion 24 = .ok (.getfield 18, 3) := by decide +kernel
theorem dX3_nextVersion_27 : decode cX3_nextVersion 27 = .ok (.imul, 1) := by decide +kernel
theorem dX3_nextVersion_28 : decode cX3_nextVersion 28 = .ok (.bipush 100, 2) := by decide +kernel
theorem dX3_nextVersion_30 : decode cX3_nextVersion 30 = .ok (.idiv, 1) := by decide +kernel
theorem dX3_nextVersion_31 : decode cX3_nextVersion 31 = .ok (.aload_n 0, 1) := by decide +kernel
theorem dX3_nextVersion_32 : decode cX3_nextVersion 32 = .ok (.getfield 22, 3) := by decide +kernel
theorem dX3_nextVersion_35 : decode cX3_nextVersion 35 = .ok (.iconst 1, 1) := by decide +kernel
theorem dX3_nextVersion_36 : decode cX3_nextVersion 36 = .ok (.isub, 1) := by decide +kernel
theorem dX3_nextVersion_37 : decode cX3_nextVersion 37 = .ok (.aload_n 0, 1) := by decide +kernel
theorem dX3_nextVersion_38 : decode cX3_nextVersion 38 = .ok (.getfield 18, 3) := by decide +kernel
theorem dX3_nextVersion_41 : decode cX3_nextVersion 41 = .ok (.imul, 1) := by decide +kernel
theorem dX3_nextVersion_42 : decode cX3_nextVersion 42 = .ok (.bipush 100, 2) := by decide +kernel
theorem dX3_nextVersion_44 : decode cX3_nextVersion 44 = .ok (.idiv, 1) := by decide +kernel
theorem dX3_nextVersion_45 : decode cX3_nextVersion 45 = .ok (.if_icmp .le 7, 3) := by decide +kernel
theorem dX3_nextVersion_48 : decode cX3_nextVersion 48 = .ok (.iconst 1, 1) := by decide +kernel
theorem dX3_nextVersion_49 : decode cX3_nextVersion 49 = .ok (.goto 4, 3) := by decide +kernel
theorem dX3_nextVersion_52 : decode cX3_nextVersion 52 = .ok (.iconst 0, 1) := by decide +kernel
theorem dX3_nextVersion_53 : decode cX3_nextVersion 53 = .ok (.ireturn, 1) := by decide +kernel
theorem dX3_judge_0 : decode cX3_judge 0 = .ok (.aload_n 0, 1) := by decide +kernel
theorem dX3_judge_1 : decode cX3_judge 1 = .ok (.getfield 18, 3) := by decide +kernel
theorem dX3_judge_4 : decode cX3_judge 4 = .ok (.ifCond .ne 4, 3) := by decide +kernel
theorem dX3_judge_7 : decode cX3_judge 7 = .ok (.return_, 1) := by decide +kernel
theorem dX3_judge_8 : decode cX3_judge 8 = .ok (.aload_n 0, 1) := by decide +kernel
theorem dX3_judge_9 : decode cX3_judge 9 = .ok (.getfield 9, 3) := by decide +kernel
theorem dX3_judge_12 : decode cX3_judge 12 = .ok (.iload_n 1, 1) := by decide +kernel
theorem dX3_judge_13 : decode cX3_judge 13 = .ok (.dup2, 1) := by decide +kernel
theorem dX3_judge_14 : decode cX3_judge 14 = .ok (.iaload, 1) := by decide +kernel
theorem dX3_judge_15 : decode cX3_judge 15 = .ok (.iconst 1, 1) := by decide +kernel
theorem dX3_judge_16 : decode cX3_judge 16 = .ok (.iadd, 1) := by decide +kernel
theorem dX3_judge_17 : decode cX3_judge 17 = .ok (.iastore, 1) := by decide +kernel
theorem dX3_judge_18 : decode cX3_judge 18 = .ok (.iload_n 2, 1) := by decide +kernel
theorem dX3_judge_19 : decode cX3_judge 19 = .ok (.ifCond .ne 13, 3) := by decide +kernel
theorem dX3_judge_22 : decode cX3_judge 22 = .ok (.aload_n 0, 1) := by decide +kernel
theorem dX3_judge_23 : decode cX3_judge 23 = .ok (.getfield 15, 3) := by decide +kernel
theorem dX3_judge_26 : decode cX3_judge 26 = .ok (.iload_n 1, 1) := by decide +kernel
theorem dX3_judge_27 : decode cX3_judge 27 = .ok (.dup2, 1) := by decide +kernel
theorem dX3_judge_28 : decode cX3_judge 28 = .ok (.iaload, 1) := by decide +kernel
theorem dX3_judge_29 : decode cX3_judge 29 = .ok (.iconst 1, 1) := by decide +kernel
theorem dX3_judge_30 : decode cX3_judge 30 = .ok (.iadd, 1) := by decide +kernel
theorem dX3_judge_31 : decode cX3_judge 31 = .ok (.iastore, 1) := by decide +kernel
theorem dX3_judge_32 : decode cX3_judge 32 = .ok (.aload_n 0, 1) := by decide +kernel
theorem dX3_judge_33 : decode cX3_judge 33 = .ok (.getfield 15, 3) := by decide +kernel
theorem dX3_judge_36 : decode cX3_judge 36 = .ok (.iconst 1, 1) := by decide +kernel
theorem dX3_judge_37 : decode cX3_judge 37 = .ok (.iaload, 1) := by decide +kernel
theorem dX3_judge_38 : decode cX3_judge 38 = .ok (.aload_n 0, 1) := by decide +kernel
theorem dX3_judge_39 : decode cX3_judge 39 = .ok (.getfield 9, 3) := by decide +kernel
theorem dX3_judge_42 : decode cX3_judge 42 = .ok (.iconst 0, 1) := by decide +kernel
theorem dX3_judge_43 : decode cX3_judge 43 = .ok (.iaload, 1) := by decide +kernel
theorem dX3_judge_44 : decode cX3_judge 44 = .ok (.imul, 1) := by decide +kernel
theorem dX3_judge_45 : decode cX3_judge 45 = .ok (.iconst 2, 1) := by decide +kernel
theorem dX3_judge_46 : decode cX3_judge 46 = .ok (.aload_n 0, 1) := by decide +kernel
theorem dX3_judge_47 : decode cX3_judge 47 = .ok (.getfield 15, 3) := by decide +kernel
theorem dX3_judge_50 : decode cX3_judge 50 = .ok (.iconst 0, 1) := by decide +kernel
theorem dX3_judge_51 : decode cX3_judge 51 = .ok (.iaload, 1) := by decide +kernel
theorem dX3_judge_52 : decode cX3_judge 52 = .ok (.imul, 1) := by decide +kernel
theorem dX3_judge_53 : decode cX3_judge 53 = .ok (.aload_n 0, 1) := by decide +kernel
theorem dX3_judge_54 : decode cX3_judge 54 = .ok (.getfield 9, 3) := by decide +kernel
theorem dX3_judge_57 : decode cX3_judge 57 = .ok (.iconst 1, 1) := by decide +kernel
theorem dX3_judge_58 : decode cX3_judge 58 = .ok (.iaload, 1) := by decide +kernel
theorem dX3_judge_59 : decode cX3_judge 59 = .ok (.imul, 1) := by decide +kernel
theorem dX3_judge_60 : decode cX3_judge 60 = .ok (.if_icmp .le 7, 3) := by decide +kernel
theorem dX3_judge_63 : decode cX3_judge 63 = .ok (.iconst 1, 1) := by decide +kernel
theorem dX3_judge_64 : decode cX3_judge 64 = .ok (.goto 4, 3) := by decide +kernel
theorem dX3_judge_67 : decode cX3_judge 67 = .ok (.iconst 0, 1) := by decide +kernel
theorem dX3_judge_68 : decode cX3_judge 68 = .ok (.istore_n 3, 1) := by decide +kernel
theorem dX3_judge_69 : decode cX3_judge 69 = .ok (.aload_n 0, 1) := by decide +kernel
theorem dX3_judge_70 : decode cX3_judge 70 = .ok (.getfield 9, 3) := by decide +kernel
theorem dX3_judge_73 : decode cX3_judge 73 = .ok (.iconst 1, 1) := by decide +kernel
theorem dX3_judge_74 : decode cX3_judge 74 = .ok (.iaload, 1) := by decide +kernel
theorem dX3_judge_75 : decode cX3_judge 75 = .ok (.iconst 5, 1) := by decide +kernel
theorem dX3_judge_76 : decode cX3_judge 76 = .ok (.if_icmp .lt 22, 3) := by decide +kernel
theorem dX3_judge_79 : decode cX3_judge 79 = .ok (.aload_n 0, 1) := by decide +kernel
theorem dX3_judge_80 : decode cX3_judge 80 = .ok (.getfield 15, 3) := by decide +kernel
theorem dX3_judge_83 : decode cX3_judge 83 = .ok (.iconst 1, 1) := by decide +kernel
theorem dX3_judge_84 : decode cX3_judge 84 = .ok (.iaload, 1) := by decide +kernel
theorem dX3_judge_85 : decode cX3_judge 85 = .ok (.iconst 2, 1) := by decide +kernel
theorem dX3_judge_86 : decode cX3_judge 86 = .ok (.if_icmp .lt 12, 3) := by decide +kernel
theorem dX3_judge_89 : decode cX3_judge 89 = .ok (.iload_n 3, 1) := by decide +kernel
theorem dX3_judge_90 : decode cX3_judge 90 = .ok (.ifCond .eq 8, 3) := by decide +kernel
theorem dX3_judge_93 : decode cX3_judge 93 = .ok (.aload_n 0, 1) := by decide +kernel
theorem dX3_judge_94 : decode cX3_judge 94 = .ok (.iconst 0, 1) := by decide +kernel
theorem dX3_judge_95 : decode cX3_judge 95 = .ok (.putfield 18, 3) := by decide +kernel
theorem dX3_judge_98 : decode cX3_judge 98 = .ok (.return_, 1) := by decide +kernel
theorem dX4_init_0 : decode cX4_init 0 = .ok (.aload_n 0, 1) := by decide +kernel
theorem dX4_init_1 : decode cX4_init 1 = .ok (.invokespecial 3, 3) := by decide +kernel
theorem dX4_init_4 : decode cX4_init 4 = .ok (.aload_n 0, 1) := by decide +kernel
theorem dX4_init_5 : decode cX4_init 5 = .ok (.iconst 4, 1) := by decide +kernel
theorem dX4_init_6 : decode cX4_init 6 = .ok (.newarray .int, 2) := by decide +kernel
theorem dX4_init_8 : decode cX4_init 8 = .ok (.putfield 9, 3) := by decide +kernel
theorem dX4_init_11 : decode cX4_init 11 = .ok (.aload_n 0, 1) := by decide +kernel
theorem dX4_init_12 : decode cX4_init 12 = .ok (.bipush 7, 2) := by decide +kernel
theorem dX4_init_14 : decode cX4_init 14 = .ok (.anewarray 15, 3) := by decide +kernel
theorem dX4_init_17 : decode cX4_init 17 = .ok (.putfield 17, 3) := by decide +kernel
theorem dX4_init_20 : decode cX4_init 20 = .ok (.aload_n 0, 1) := by decide +kernel
theorem dX4_init_21 : decode cX4_init 21 = .ok (.bipush 7, 2) := by decide +kernel
theorem dX4_init_23 : decode cX4_init 23 = .ok (.newarray .int, 2) := by decide +kernel
theorem dX4_init_25 : decode cX4_init 25 = .ok (.putfield 21, 3) := by decide +kernel
theorem dX4_init_28 : decode cX4_init 28 = .ok (.aload_n 0, 1) := by decide +kernel
theorem dX4_init_29 : decode cX4_init 29 = .ok (.new 24, 3) := by decide +kernel
theorem dX4_init_32 : decode cX4_init 32 = .ok (.dup, 1) := by decide +kernel
theorem dX4_init_33 : decode cX4_init 33 = .ok (.invokespecial 26, 3) := by decide +kernel
theorem dX4_init_36 : decode cX4_init 36 = .ok (.putfield 27, 3) := by decide +kernel
theorem dX4_init_39 : decode cX4_init 39 = .ok (.aload_n 0, 1) := by decide +kernel
theorem dX4_init_40 : decode cX4_init 40 = .ok (.iload_n 1, 1) := by decide +kernel
theorem dX4_init_41 : decode cX4_init 41 = .ok (.putfield 31, 3) := by decide +kernel
theorem dX4_init_44 : decode cX4_init 44 = .ok (.aload_n 0, 1) := by decide +kernel
theorem dX4_init_45 : decode cX4_init 45 = .ok (.iload_n 2, 1) := by decide +kernel
theorem dX4_init_46 : decode cX4_init 46 = .ok (.putfield 35, 3) := by decide +kernel
theorem dX4_init_49 : decode cX4_init 49 = .ok (.aload_n 0, 1) := by decide +kernel
theorem dX4_init_50 : decode cX4_init 50 = .ok (.iload_n 3, 1) := by decide +kernel
theorem dX4_init_51 : decode cX4_init 51 = .ok (.putfield 38, 3) := by decide +kernel
theorem dX4_init_54 : decode cX4_init 54 = .ok (.aload_n 0, 1) := by decide +kernel
theorem dX4_init_55 : decode cX4_init 55 = .ok (.iload 4, 2) := by decide +kernel
theorem dX4_init_57 : decode cX4_init 57 = .ok (.putfield 41, 3) := by decide +kernel
theorem dX4_init_60 : decode cX4_init 60 = .ok (.aload_n 0, 1) := by decide +kernel
theorem dX4_init_61 : decode cX4_init 61 = .ok (.iload 5, 2) := by decide +kernel
theorem dX4_init_63 : decode cX4_init 63 = .ok (.putfield 44, 3) := by decide +kernel
theorem dX4_init_66 : decode cX4_init 66 = .ok (.aload_n 0, 1) := by decide +kernel
theorem dX4_init_67 : decode cX4_init 67 = .ok (.iload 6, 2) := by decide +kernel
theorem dX4_init_69 : decode cX4_init 69 = .ok (.putfield 47, 3) := by decide +kernel
theorem dX4_init_72 : decode cX4_init 72 = .ok (.aload_n 0, 1) := by decide +kernel
theorem dX4_init_73 : decode cX4_init 73 = .ok (.iload 7, 2) := by decide +kernel
theorem dX4_init_75 : decode cX4_init 75 = .ok (.putfield 50, 3) := by decide +kernel
theorem dX4_init_78 : decode cX4_init 78 = .ok (.iconst 0, 1) := by decide +kernel
theorem dX4_init_79 : decode cX4_init 79 = .ok (.istore 8, 2) := by decide +kernel
theorem dX4_init_81 : decode cX4_init 81 = .ok (.iload 8, 2) := by decide +kernel
theorem dX4_init_83 : decode cX4_init 83 = .ok (.bipush 7, 2) := by decide +kernel
theorem dX4_init_85 : decode cX4_init 85 = .ok (.if_icmp .ge 23, 3) := by decide +kernel
theorem dX4_init_88 : decode cX4_init 88 = .ok (.aload_n 0, 1) := by decide +kernel
theorem dX4_init_89 : decode cX4_init 89 = .ok (.getfield 17, 3) := by decide +kernel
theorem dX4_init_92 : decode cX4_init 92 = .ok (.iload 8, 2) := by decide +kernel
theorem dX4_init_94 : decode cX4_init 94 = .ok (.new 15, 3) := by decide +kernel
theorem dX4_init_97 : decode cX4_init 97 = .ok (.dup, 1) := by decide +kernel
theorem dX4_init_98 : decode cX4_init 98 = .ok (.invokespecial 53, 3) := by decide +kernel
theorem dX4_init_101 : decode cX4_init 101 = .ok (.aastore, 1) := by decide +kernel
theorem dX4_init_102 : decode cX4_init 102 = .ok (.iinc 8 1, 3) := by decide +kernel
theorem dX4_init_105 : decode cX4_init 105 = .ok (.goto (-24), 3) := by decide +kernel
theorem dX4_init_108 : decode cX4_init 108 = .ok (.return_, 1) := by decide +kernel
theorem dX4_openBreakers_0 : decode cX4_openBreakers 0 = .ok (.iconst 0, 1) := by decide +kernel
theorem dX4_openBreakers_1 : decode cX4_openBreakers 1 = .ok (.istore_n 1, 1) := by decide +kernel
theorem dX4_openBreakers_2 : decode cX4_openBreakers 2 = .ok (.iconst 0, 1) := by decide +kernel
theorem dX4_openBreakers_3 : decode cX4_openBreakers 3 = .ok (.istore_n 2, 1) := by decide +kernel
theorem dX4_openBreakers_4 : decode cX4_openBreakers 4 = .ok (.iload_n 2, 1) := by decide +kernel
theorem dX4_openBreakers_5 : decode cX4_openBreakers 5 = .ok (.bipush 7, 2) := by decide +kernel
theorem dX4_openBreakers_7 : decode cX4_openBreakers 7 = .ok (.if_icmp .ge 25, 3) := by decide +kernel
theorem dX4_openBreakers_10 : decode cX4_openBreakers 10 = .ok (.aload_n 0, 1) := by decide +kernel
theorem dX4_openBreakers_11 : decode cX4_openBreakers 11 = .ok (.getfield 17, 3) := by decide +kernel
theorem dX4_openBreakers_14 : decode cX4_openBreakers 14 = .ok (.iload_n 2, 1) := by decide +kernel
theorem dX4_openBreakers_15 : decode cX4_openBreakers 15 = .ok (.aaload, 1) := by decide +kernel
theorem dX4_openBreakers_16 : decode cX4_openBreakers 16 = .ok (.getfield 54, 3) := by decide +kernel
theorem dX4_openBreakers_19 : decode cX4_openBreakers 19 = .ok (.iconst 1, 1) := by decide +kernel
theorem dX4_openBreakers_20 : decode cX4_openBreakers 20 = .ok (.if_icmp .ne 6, 3) := by decide +kernel
theorem dX4_openBreakers_23 : decode cX4_openBreakers 23 = .ok (.iinc 1 1, 3) := by decide +kernel
theorem dX4_openBreakers_26 : decode cX4_openBreakers 26 = .ok (.iinc 2 1, 3) := by decide +kernel
theorem dX4_openBreakers_29 : decode cX4_openBreakers 29 = .ok (.goto (-25), 3) := by decide +kernel
theorem dX4_openBreakers_32 : decode cX4_openBreakers 32 = .ok (.iload_n 1, 1) := by decide +kernel
theorem dX4_openBreakers_33 : decode cX4_openBreakers 33 = .ok (.ireturn, 1) := by decide +kernel
theorem dX4_loadNow_0 : decode cX4_loadNow 0 = .ok (.aload_n 0, 1) := by decide +kernel
theorem dX4_loadNow_1 : decode cX4_loadNow 1 = .ok (.getfield 57, 3) := by decide +kernel
theorem dX4_loadNow_4 : decode cX4_loadNow 4 = .ok (.aload_n 0, 1) := by decide +kernel
theorem dX4_loadNow_5 : decode cX4_loadNow 5 = .ok (.getfield 27, 3) := by decide +kernel
theorem dX4_loadNow_8 : decode cX4_loadNow 8 = .ok (.invokevirtual 60, 3) := by decide +kernel
theorem dX4_loadNow_11 : decode cX4_loadNow 11 = .ok (.iadd, 1) := by decide +kernel
theorem dX4_loadNow_12 : decode cX4_loadNow 12 = .ok (.ireturn, 1) := by decide +kernel
theorem dX4_tellLoad_0 : decode cX4_tellLoad 0 = .ok (.aload_n 0, 1) := by decide +kernel
theorem dX4_tellLoad_1 : decode cX4_tellLoad 1 = .ok (.aload_n 0, 1) := by decide +kernel
theorem dX4_tellLoad_2 : decode cX4_tellLoad 2 = .ok (.invokevirtual 64, 3) := by decide +kernel
theorem dX4_tellLoad_5 : decode cX4_tellLoad 5 = .ok (.putfield 67, 3) := by decide +kernel
theorem dX4_tellLoad_8 : decode cX4_tellLoad 8 = .ok (.iconst 0, 1) := by decide +kernel
theorem dX4_tellLoad_9 : decode cX4_tellLoad 9 = .ok (.istore_n 1, 1) := by decide +kernel
theorem dX4_tellLoad_10 : decode cX4_tellLoad 10 = .ok (.iload_n 1, 1) := by decide +kernel
theorem dX4_tellLoad_11 : decode cX4_tellLoad 11 = .ok (.bipush 7, 2) := by decide +kernel
theorem dX4_tellLoad_13 : decode cX4_tellLoad 13 = .ok (.if_icmp .ge 16, 3) := by decide +kernel
theorem dX4_tellLoad_16 : decode cX4_tellLoad 16 = .ok (.aload_n 0, 1) := by decide +kernel
theorem dX4_tellLoad_17 : decode cX4_tellLoad 17 = .ok (.getfield 21, 3) := by decide +kernel
theorem dX4_tellLoad_20 : decode cX4_tellLoad 20 = .ok (.iload_n 1, 1) := by decide +kernel
theorem dX4_tellLoad_21 : decode cX4_tellLoad 21 = .ok (.iconst 0, 1) := by decide +kernel
theorem dX4_tellLoad_22 : decode cX4_tellLoad 22 = .ok (.iastore, 1) := by decide +kernel
theorem dX4_tellLoad_23 : decode cX4_tellLoad 23 = .ok (.iinc 1 1, 3) := by decide +kernel
theorem dX4_tellLoad_26 : decode cX4_tellLoad 26 = .ok (.goto (-16), 3) := by decide +kernel
theorem dX4_tellLoad_29 : decode cX4_tellLoad 29 = .ok (.return_, 1) := by decide +kernel
theorem dX4_burdenFor_0 : decode cX4_burdenFor 0 = .ok (.bipush 100, 2) := by decide +kernel
theorem dX4_burdenFor_2 : decode cX4_burdenFor 2 = .ok (.aload_n 0, 1) := by decide +kernel
theorem dX4_burdenFor_3 : decode cX4_burdenFor 3 = .ok (.getfield 67, 3) := by decide +kernel
theorem dX4_burdenFor_6 : decode cX4_burdenFor 6 = .ok (.aload_n 0, 1) := by decide +kernel
theorem dX4_burdenFor_7 : decode cX4_burdenFor 7 = .ok (.getfield 21, 3) := by decide +kernel
theorem dX4_burdenFor_10 : decode cX4_burdenFor 10 = .ok (.iload_n 1, 1) := by decide +kernel
theorem dX4_burdenFor_11 : decode cX4_burdenFor 11 = .ok (.iaload, 1) := by decide +kernel
theorem dX4_burdenFor_12 : decode cX4_burdenFor 12 = .ok (.iadd, 1) := by decide +kernel
theorem dX4_burdenFor_13 : decode cX4_burdenFor 13 = .ok (.imul, 1) := by decide +kernel
theorem dX4_burdenFor_14 : decode cX4_burdenFor 14 = .ok (.istore_n 3, 1) := by decide +kernel
theorem dX4_burdenFor_15 : decode cX4_burdenFor 15 = .ok (.aload_n 0, 1) := by decide +kernel
theorem dX4_burdenFor_16 : decode cX4_burdenFor 16 = .ok (.getfield 41, 3) := by decide +kernel
theorem dX4_burdenFor_19 : decode cX4_burdenFor 19 = .ok (.ifCond .le 10, 3) := by decide +kernel
theorem dX4_burdenFor_22 : decode cX4_burdenFor 22 = .ok (.iload_n 3, 1) := by decide +kernel
theorem dX4_burdenFor_23 : decode cX4_burdenFor 23 = .ok (.aload_n 0, 1) := by decide +kernel
theorem dX4_burdenFor_24 : decode cX4_burdenFor 24 = .ok (.getfield 41, 3) := by decide +kernel
theorem dX4_burdenFor_27 : decode cX4_burdenFor 27 = .ok (.idiv, 1) := by decide +kernel
theorem dX4_burdenFor_28 : decode cX4_burdenFor 28 = .ok (.istore_n 3, 1) := by decide +kernel
theorem dX4_burdenFor_29 : decode cX4_burdenFor 29 = .ok (.aload_n 0, 1) := by decide +kernel
theorem dX4_burdenFor_30 : decode cX4_burdenFor 30 = .ok (.getfield 38, 3) := by decide +kernel
theorem dX4_burdenFor_33 : decode cX4_burdenFor 33 = .ok (.iload_n 2, 1) := by decide +kernel
theorem dX4_burdenFor_34 : decode cX4_burdenFor 34 = .ok (.if_icmp .ne 7, 3) := by decide +kernel
theorem dX4_burdenFor_37 : decode cX4_burdenFor 37 = .ok (.iload_n 3, 1) := by decide +kernel
theorem dX4_burdenFor_38 : decode cX4_burdenFor 38 = .ok (.goto 8, 3) := by decide +kernel
theorem dX4_burdenFor_41 : decode cX4_burdenFor 41 = .ok (.iload_n 3, 1) := by decide +kernel
theorem dX4_burdenFor_42 : decode cX4_burdenFor 42 = .ok (.sipush 150, 3) := by decide +kernel
theorem dX4_burdenFor_45 : decode cX4_burdenFor 45 = .ok (.iadd, 1) := by decide +kernel
theorem dX4_burdenFor_46 : decode cX4_burdenFor 46 = .ok (.ireturn, 1) := by decide +kernel
theorem dX4_release_0 : decode cX4_release 0 = .ok (.aload_n 1, 1) := by decide +kernel
theorem dX4_release_1 : decode cX4_release 1 = .ok (.getfield 70, 3) := by decide +kernel
theorem dX4_release_4 : decode cX4_release 4 = .ok (.iconst 1, 1) := by decide +kernel
theorem dX4_release_5 : decode cX4_release 5 = .ok (.if_icmp .eq 11, 3) := by decide +kernel
theorem dX4_release_8 : decode cX4_release 8 = .ok (.aload_n 1, 1) := by decide +kernel
theorem dX4_release_9 : decode cX4_release 9 = .ok (.getfield 70, 3) := by decide +kernel
theorem dX4_release_12 : decode cX4_release 12 = .ok (.iconst 2, 1) := by decide +kernel
theorem dX4_release_13 : decode cX4_release 13 = .ok (.if_icmp .ne 14, 3) := by decide +kernel
theorem dX4_release_16 : decode cX4_release 16 = .ok (.aload_n 0, 1) := by decide +kernel
theorem dX4_release_17 : decode cX4_release 17 = .ok (.dup, 1) := by decide +kernel
theorem dX4_release_18 : decode cX4_release 18 = .ok (.getfield 57, 3) := by decide +kernel
theorem dX4_release_21 : decode cX4_release 21 = .ok (.iconst 1, 1) := by decide +kernel
theorem dX4_release_22 : decode cX4_release 22 = .ok (.isub, 1) := by decide +kernel
theorem dX4_release_23 : decode cX4_release 23 = .ok (.putfield 57, 3) := by decide +kernel
theorem dX4_release_26 : decode cX4_release 26 = .ok (.return_, 1) := by decide +kernel
theorem dX4_release_27 : decode cX4_release 27 = .ok (.iconst 0, 1) := by decide +kernel
theorem dX4_release_28 : decode cX4_release 28 = .ok (.istore_n 2, 1) := by decide +kernel
theorem dX4_release_29 : decode cX4_release 29 = .ok (.iload_n 2, 1) := by decide +kernel
theorem dX4_release_30 : decode cX4_release 30 = .ok (.aload_n 0, 1) := by decide +kernel
theorem dX4_release_31 : decode cX4_release 31 = .ok (.getfield 27, 3) := by decide +kernel
theorem dX4_release_34 : decode cX4_release 34 = .ok (.invokevirtual 60, 3) := by decide +kernel
theorem dX4_release_37 : decode cX4_release 37 = .ok (.if_icmp .ge 31, 3) := by decide +kernel
theorem dX4_release_40 : decode cX4_release 40 = .ok (.aload_n 0, 1) := by decide +kernel
theorem dX4_release_41 : decode cX4_release 41 = .ok (.getfield 27, 3) := by decide +kernel
theorem dX4_release_44 : decode cX4_release 44 = .ok (.iload_n 2, 1) := by decide +kernel
theorem dX4_release_45 : decode cX4_release 45 = .ok (.invokevirtual 73, 3) := by decide +kernel
theorem dX4_release_48 : decode cX4_release 48 = .ok (.aload_n 1, 1) := by decide +kernel
theorem dX4_release_49 : decode cX4_release 49 = .ok (.if_acmp .ne 13, 3) := by decide +kernel
theorem dX4_release_52 : decode cX4_release 52 = .ok (.aload_n 0, 1) := by decide +kernel
theorem dX4_release_53 : decode cX4_release 53 = .ok (.getfield 27, 3) := by decide +kernel
theorem dX4_release_56 : decode cX4_release 56 = .ok (.iload_n 2, 1) := by decide +kernel
theorem dX4_release_57 : decode cX4_release 57 = .ok (.invokevirtual 77, 3) := by decide +kernel
theorem dX4_release_60 : decode cX4_release 60 = .ok (.pop, 1) := by decide +kernel
theorem dX4_release_61 : decode cX4_release 61 = .ok (.return_, 1) := by decide +kernel
theorem dX4_release_62 : decode cX4_release 62 = .ok (.iinc 2 1, 3) := by decide +kernel
theorem dX4_release_65 : decode cX4_release 65 = .ok (.goto (-36), 3) := by decide +kernel
theorem dX4_release_68 : decode cX4_release 68 = .ok (.return_, 1) := by decide +kernel
theorem dX5_init_0 : decode cX5_init 0 = .ok (.aload_n 0, 1) := by decide +kernel
theorem dX5_init_1 : decode cX5_init 1 = .ok (.invokespecial 3, 3) := by decide +kernel
theorem dX5_init_4 : decode cX5_init 4 = .ok (.aload_n 0, 1) := by decide +kernel
theorem dX5_init_5 : decode cX5_init 5 = .ok (.bipush 8, 2) := by decide +kernel
theorem dX5_init_7 : decode cX5_init 7 = .ok (.putfield 9, 3) := by decide +kernel
theorem dX5_init_10 : decode cX5_init 10 = .ok (.aload_n 0, 1) := by decide +kernel
theorem dX5_init_11 : decode cX5_init 11 = .ok (.aload_n 1, 1) := by decide +kernel
theorem dX5_init_12 : decode cX5_init 12 = .ok (.putfield 15, 3) := by decide +kernel
theorem dX5_init_15 : decode cX5_init 15 = .ok (.aload_n 0, 1) := by decide +kernel
theorem dX5_init_16 : decode cX5_init 16 = .ok (.iload_n 2, 1) := by decide +kernel
theorem dX5_init_17 : decode cX5_init 17 = .ok (.putfield 19, 3) := by decide +kernel
theorem dX5_init_20 : decode cX5_init 20 = .ok (.return_, 1) := by decide +kernel
theorem dX6_init_0 : decode cX6_init 0 = .ok (.aload_n 0, 1) := by decide +kernel
theorem dX6_init_1 : decode cX6_init 1 = .ok (.invokespecial 3, 3) := by decide +kernel
theorem dX6_init_4 : decode cX6_init 4 = .ok (.aload_n 0, 1) := by decide +kernel
theorem dX6_init_5 : decode cX6_init 5 = .ok (.iconst 1, 1) := by decide +kernel
theorem dX6_init_6 : decode cX6_init 6 = .ok (.putfield 9, 3) := by decide +kernel
theorem dX6_init_9 : decode cX6_init 9 = .ok (.aload_n 0, 1) := by decide +kernel
theorem dX6_init_10 : decode cX6_init 10 = .ok (.iconst 4, 1) := by decide +kernel
theorem dX6_init_11 : decode cX6_init 11 = .ok (.newarray .int, 2) := by decide +kernel
theorem dX6_init_13 : decode cX6_init 13 = .ok (.putfield 15, 3) := by decide +kernel
theorem dX6_init_16 : decode cX6_init 16 = .ok (.aload_n 0, 1) := by decide +kernel
theorem dX6_init_17 : decode cX6_init 17 = .ok (.iconst 4, 1) := by decide +kernel
theorem dX6_init_18 : decode cX6_init 18 = .ok (.newarray .int, 2) := by decide +kernel
theorem dX6_init_20 : decode cX6_init 20 = .ok (.putfield 19, 3) := by decide +kernel
theorem dX6_init_23 : decode cX6_init 23 = .ok (.aload_n 0, 1) := by decide +kernel
theorem dX6_init_24 : decode cX6_init 24 = .ok (.iconst 4, 1) := by decide +kernel
theorem dX6_init_25 : decode cX6_init 25 = .ok (.newarray .boolean, 2) := by decide +kernel
theorem dX6_init_27 : decode cX6_init 27 = .ok (.putfield 22, 3) := by decide +kernel
theorem dX6_init_30 : decode cX6_init 30 = .ok (.aload_n 0, 1) := by decide +kernel
theorem dX6_init_31 : decode cX6_init 31 = .ok (.new 26, 3) := by decide +kernel
theorem dX6_init_34 : decode cX6_init 34 = .ok (.dup, 1) := by decide +kernel
theorem dX6_init_35 : decode cX6_init 35 = .ok (.invokespecial 28, 3) := by decide +kernel
theorem dX6_init_38 : decode cX6_init 38 = .ok (.putfield 29, 3) := by decide +kernel
theorem dX6_init_41 : decode cX6_init 41 = .ok (.return_, 1) := by decide +kernel
theorem dX6_plan_0 : decode cX6_plan 0 = .ok (.aload_n 0, 1) := by decide +kernel
theorem dX6_plan_1 : decode cX6_plan 1 = .ok (.getfield 33, 3) := by decide +kernel
theorem dX6_plan_4 : decode cX6_plan 4 = .ok (.iconst 4, 1) := by decide +kernel
theorem dX6_plan_5 : decode cX6_plan 5 = .ok (.if_icmp .ge 43, 3) := by decide +kernel
theorem dX6_plan_8 : decode cX6_plan 8 = .ok (.aload_n 0, 1) := by decide +kernel
theorem dX6_plan_9 : decode cX6_plan 9 = .ok (.getfield 15, 3) := by decide +kernel
theorem dX6_plan_12 : decode cX6_plan 12 = .ok (.aload_n 0, 1) := by decide +kernel
theorem dX6_plan_13 : decode cX6_plan 13 = .ok (.getfield 33, 3) := by decide +kernel
theorem dX6_plan_16 : decode cX6_plan 16 = .ok (.iload_n 1, 1) := by decide +kernel
theorem dX6_plan_17 : decode cX6_plan 17 = .ok (.iastore, 1) := by decide +kernel
theorem dX6_plan_18 : decode cX6_plan 18 = .ok (.aload_n 0, 1) := by decide +kernel
theorem dX6_plan_19 : decode cX6_plan 19 = .ok (.getfield 22, 3) := by decide +kernel
theorem dX6_plan_22 : decode cX6_plan 22 = .ok (.aload_n 0, 1) := by decide +kernel
theorem dX6_plan_23 : decode cX6_plan 23 = .ok (.getfield 33, 3) := by decide +kernel
theorem dX6_plan_26 : decode cX6_plan 26 = .ok (.iload_n 2, 1) := by decide +kernel
theorem dX6_plan_27 : decode cX6_plan 27 = .ok (.bastore, 1) := by decide +kernel
theorem dX6_plan_28 : decode cX6_plan 28 = .ok (.aload_n 0, 1) := by decide +kernel
theorem dX6_plan_29 : decode cX6_plan 29 = .ok (.getfield 19, 3) := by decide +kernel
theorem dX6_plan_32 : decode cX6_plan 32 = .ok (.aload_n 0, 1) := by decide +kernel
theorem dX6_plan_33 : decode cX6_plan 33 = .ok (.getfield 33, 3) := by decide +kernel
