theorem dX0_init_0 : decode cX0_init 0 = .ok (.aload_n 0, 1) := by decide +kernel
theorem dX0_init_1 : decode cX0_init 1 = .ok (.invokespecial 3, 3) := by decide +kernel
theorem dX0_init_4 : decode cX0_init 4 = .ok (.aload_n 0, 1) := by decide +kernel
theorem dX0_init_5 : decode cX0_init 5 = .ok (.iconst 0, 1) := by decide +kernel
theorem dX0_init_6 : decode cX0_init 6 = .ok (.putfield 9, 3) := by decide +kernel
theorem dX0_init_9 : decode cX0_init 9 = .ok (.return_, 1) := by decide +kernel
theorem dX0_count_0 : decode cX0_count 0 = .ok (.aload_n 0, 1) := by decide +kernel
theorem dX0_count_1 : decode cX0_count 1 = .ok (.getfield 9, 3) := by decide +kernel
theorem dX0_count_4 : decode cX0_count 4 = .ok (.iconst 1, 1) := by decide +kernel
theorem dX0_count_5 : decode cX0_count 5 = .ok (.if_icmp .ne 4, 3) := by decide +kernel
theorem dX0_count_8 : decode cX0_count 8 = .ok (.return_, 1) := by decide +kernel
theorem dX0_count_9 : decode cX0_count 9 = .ok (.iload_n 1, 1) := by decide +kernel
theorem dX0_count_10 : decode cX0_count 10 = .ok (.ifCond .eq 14, 3) := by decide +kernel
theorem dX0_count_13 : decode cX0_count 13 = .ok (.aload_n 0, 1) := by decide +kernel
theorem dX0_count_14 : decode cX0_count 14 = .ok (.iconst 0, 1) := by decide +kernel
theorem dX0_count_15 : decode cX0_count 15 = .ok (.putfield 9, 3) := by decide +kernel
theorem dX0_count_18 : decode cX0_count 18 = .ok (.aload_n 0, 1) := by decide +kernel
theorem dX0_count_19 : decode cX0_count 19 = .ok (.iconst 0, 1) := by decide +kernel
theorem dX0_count_20 : decode cX0_count 20 = .ok (.putfield 15, 3) := by decide +kernel
theorem dX0_count_23 : decode cX0_count 23 = .ok (.return_, 1) := by decide +kernel
theorem dX0_count_24 : decode cX0_count 24 = .ok (.aload_n 0, 1) := by decide +kernel
theorem dX0_count_25 : decode cX0_count 25 = .ok (.dup, 1) := by decide +kernel
theorem dX0_count_26 : decode cX0_count 26 = .ok (.getfield 15, 3) := by decide +kernel
theorem dX0_count_29 : decode cX0_count 29 = .ok (.iconst 1, 1) := by decide +kernel
theorem dX0_count_30 : decode cX0_count 30 = .ok (.iadd, 1) := by decide +kernel
theorem dX0_count_31 : decode cX0_count 31 = .ok (.putfield 15, 3) := by decide +kernel
theorem dX0_count_34 : decode cX0_count 34 = .ok (.aload_n 0, 1) := by decide +kernel
theorem dX0_count_35 : decode cX0_count 35 = .ok (.getfield 15, 3) := by decide +kernel
theorem dX0_count_38 : decode cX0_count 38 = .ok (.iconst 3, 1) := by decide +kernel
theorem dX0_count_39 : decode cX0_count 39 = .ok (.if_icmp .ge 11, 3) := by decide +kernel
theorem dX0_count_42 : decode cX0_count 42 = .ok (.aload_n 0, 1) := by decide +kernel
theorem dX0_count_43 : decode cX0_count 43 = .ok (.getfield 9, 3) := by decide +kernel
theorem dX0_count_46 : decode cX0_count 46 = .ok (.iconst 2, 1) := by decide +kernel
theorem dX0_count_47 : decode cX0_count 47 = .ok (.if_icmp .ne 13, 3) := by decide +kernel
theorem dX0_count_50 : decode cX0_count 50 = .ok (.aload_n 0, 1) := by decide +kernel
theorem dX0_count_51 : decode cX0_count 51 = .ok (.iconst 1, 1) := by decide +kernel
theorem dX0_count_52 : decode cX0_count 52 = .ok (.putfield 9, 3) := by decide +kernel
theorem dX0_count_55 : decode cX0_count 55 = .ok (.aload_n 0, 1) := by decide +kernel
theorem dX0_count_56 : decode cX0_count 56 = .ok (.iload_n 2, 1) := by decide +kernel
theorem dX0_count_57 : decode cX0_count 57 = .ok (.putfield 18, 3) := by decide +kernel
theorem dX0_count_60 : decode cX0_count 60 = .ok (.return_, 1) := by decide +kernel
theorem dX0_rest_0 : decode cX0_rest 0 = .ok (.aload_n 0, 1) := by decide +kernel
theorem dX0_rest_1 : decode cX0_rest 1 = .ok (.getfield 9, 3) := by decide +kernel
theorem dX0_rest_4 : decode cX0_rest 4 = .ok (.iconst 1, 1) := by decide +kernel
theorem dX0_rest_5 : decode cX0_rest 5 = .ok (.if_icmp .ne 19, 3) := by decide +kernel
theorem dX0_rest_8 : decode cX0_rest 8 = .ok (.iload_n 1, 1) := by decide +kernel
theorem dX0_rest_9 : decode cX0_rest 9 = .ok (.aload_n 0, 1) := by decide +kernel
theorem dX0_rest_10 : decode cX0_rest 10 = .ok (.getfield 18, 3) := by decide +kernel
theorem dX0_rest_13 : decode cX0_rest 13 = .ok (.isub, 1) := by decide +kernel
theorem dX0_rest_14 : decode cX0_rest 14 = .ok (.bipush 10, 2) := by decide +kernel
theorem dX0_rest_16 : decode cX0_rest 16 = .ok (.if_icmp .lt 8, 3) := by decide +kernel
theorem dX0_rest_19 : decode cX0_rest 19 = .ok (.aload_n 0, 1) := by decide +kernel
theorem dX0_rest_20 : decode cX0_rest 20 = .ok (.iconst 2, 1) := by decide +kernel
theorem dX0_rest_21 : decode cX0_rest 21 = .ok (.putfield 9, 3) := by decide +kernel
theorem dX0_rest_24 : decode cX0_rest 24 = .ok (.return_, 1) := by decide +kernel
theorem dX1_init_0 : decode cX1_init 0 = .ok (.aload_n 0, 1) := by decide +kernel
theorem dX1_init_1 : decode cX1_init 1 = .ok (.invokespecial 3, 3) := by decide +kernel
theorem dX1_init_4 : decode cX1_init 4 = .ok (.aload_n 0, 1) := by decide +kernel
theorem dX1_init_5 : decode cX1_init 5 = .ok (.new 9, 3) := by decide +kernel
theorem dX1_init_8 : decode cX1_init 8 = .ok (.dup, 1) := by decide +kernel
theorem dX1_init_9 : decode cX1_init 9 = .ok (.invokespecial 11, 3) := by decide +kernel
theorem dX1_init_12 : decode cX1_init 12 = .ok (.putfield 12, 3) := by decide +kernel
theorem dX1_init_15 : decode cX1_init 15 = .ok (.aload_n 0, 1) := by decide +kernel
theorem dX1_init_16 : decode cX1_init 16 = .ok (.iconst (-1), 1) := by decide +kernel
theorem dX1_init_17 : decode cX1_init 17 = .ok (.putfield 18, 3) := by decide +kernel
theorem dX1_init_20 : decode cX1_init 20 = .ok (.aload_n 0, 1) := by decide +kernel
theorem dX1_init_21 : decode cX1_init 21 = .ok (.ldc 22, 2) := by decide +kernel
theorem dX1_init_23 : decode cX1_init 23 = .ok (.putfield 23, 3) := by decide +kernel
theorem dX1_init_26 : decode cX1_init 26 = .ok (.aload_n 0, 1) := by decide +kernel
theorem dX1_init_27 : decode cX1_init 27 = .ok (.iconst (-1), 1) := by decide +kernel
theorem dX1_init_28 : decode cX1_init 28 = .ok (.putfield 26, 3) := by decide +kernel
theorem dX1_init_31 : decode cX1_init 31 = .ok (.aload_n 0, 1) := by decide +kernel
theorem dX1_init_32 : decode cX1_init 32 = .ok (.ldc 22, 2) := by decide +kernel
theorem dX1_init_34 : decode cX1_init 34 = .ok (.putfield 29, 3) := by decide +kernel
theorem dX1_init_37 : decode cX1_init 37 = .ok (.aload_n 0, 1) := by decide +kernel
theorem dX1_init_38 : decode cX1_init 38 = .ok (.iload_n 1, 1) := by decide +kernel
theorem dX1_init_39 : decode cX1_init 39 = .ok (.putfield 32, 3) := by decide +kernel
theorem dX1_init_42 : decode cX1_init 42 = .ok (.aload_n 0, 1) := by decide +kernel
theorem dX1_init_43 : decode cX1_init 43 = .ok (.aload_n 2, 1) := by decide +kernel
theorem dX1_init_44 : decode cX1_init 44 = .ok (.putfield 35, 3) := by decide +kernel
theorem dX1_init_47 : decode cX1_init 47 = .ok (.aload_n 0, 1) := by decide +kernel
theorem dX1_init_48 : decode cX1_init 48 = .ok (.aload_n 3, 1) := by decide +kernel
theorem dX1_init_49 : decode cX1_init 49 = .ok (.putfield 39, 3) := by decide +kernel
theorem dX1_init_52 : decode cX1_init 52 = .ok (.aload_n 0, 1) := by decide +kernel
theorem dX1_init_53 : decode cX1_init 53 = .ok (.iload 4, 2) := by decide +kernel
theorem dX1_init_55 : decode cX1_init 55 = .ok (.putfield 43, 3) := by decide +kernel
theorem dX1_init_58 : decode cX1_init 58 = .ok (.return_, 1) := by decide +kernel
theorem dX1_hasEnded_0 : decode cX1_hasEnded 0 = .ok (.aload_n 0, 1) := by decide +kernel
theorem dX1_hasEnded_1 : decode cX1_hasEnded 1 = .ok (.getfield 18, 3) := by decide +kernel
theorem dX1_hasEnded_4 : decode cX1_hasEnded 4 = .ok (.iconst 3, 1) := by decide +kernel
theorem dX1_hasEnded_5 : decode cX1_hasEnded 5 = .ok (.if_icmp .lt 7, 3) := by decide +kernel
theorem dX1_hasEnded_8 : decode cX1_hasEnded 8 = .ok (.iconst 1, 1) := by decide +kernel
theorem dX1_hasEnded_9 : decode cX1_hasEnded 9 = .ok (.goto 4, 3) := by decide +kernel
theorem dX1_hasEnded_12 : decode cX1_hasEnded 12 = .ok (.iconst 0, 1) := by decide +kernel
theorem dX1_hasEnded_13 : decode cX1_hasEnded 13 = .ok (.ireturn, 1) := by decide +kernel
theorem dX1_isKnown_0 : decode cX1_isKnown 0 = .ok (.aload_n 0, 1) := by decide +kernel
theorem dX1_isKnown_1 : decode cX1_isKnown 1 = .ok (.getfield 29, 3) := by decide +kernel
theorem dX1_isKnown_4 : decode cX1_isKnown 4 = .ok (.iload_n 1, 1) := by decide +kernel
theorem dX1_isKnown_5 : decode cX1_isKnown 5 = .ok (.if_icmp .gt 7, 3) := by decide +kernel
theorem dX1_isKnown_8 : decode cX1_isKnown 8 = .ok (.iconst 1, 1) := by decide +kernel
theorem dX1_isKnown_9 : decode cX1_isKnown 9 = .ok (.goto 4, 3) := by decide +kernel
theorem dX1_isKnown_12 : decode cX1_isKnown 12 = .ok (.iconst 0, 1) := by decide +kernel
theorem dX1_isKnown_13 : decode cX1_isKnown 13 = .ok (.ireturn, 1) := by decide +kernel
theorem dX1_lastStep_0 : decode cX1_lastStep 0 = .ok (.aload_n 0, 1) := by decide +kernel
theorem dX1_lastStep_1 : decode cX1_lastStep 1 = .ok (.getfield 12, 3) := by decide +kernel
theorem dX1_lastStep_4 : decode cX1_lastStep 4 = .ok (.invokevirtual 46, 3) := by decide +kernel
theorem dX1_lastStep_7 : decode cX1_lastStep 7 = .ok (.ifCond .eq 7, 3) := by decide +kernel
theorem dX1_lastStep_10 : decode cX1_lastStep 10 = .ok (.aconst_null, 1) := by decide +kernel
theorem dX1_lastStep_11 : decode cX1_lastStep 11 = .ok (.goto 22, 3) := by decide +kernel
theorem dX1_lastStep_14 : decode cX1_lastStep 14 = .ok (.aload_n 0, 1) := by decide +kernel
theorem dX1_lastStep_15 : decode cX1_lastStep 15 = .ok (.getfield 12, 3) := by decide +kernel
theorem dX1_lastStep_18 : decode cX1_lastStep 18 = .ok (.aload_n 0, 1) := by decide +kernel
theorem dX1_lastStep_19 : decode cX1_lastStep 19 = .ok (.getfield 12, 3) := by decide +kernel
theorem dX1_lastStep_22 : decode cX1_lastStep 22 = .ok (.invokevirtual 50, 3) := by decide +kernel
theorem dX1_lastStep_25 : decode cX1_lastStep 25 = .ok (.iconst 1, 1) := by decide +kernel
theorem dX1_lastStep_26 : decode cX1_lastStep 26 = .ok (.isub, 1) := by decide +kernel
theorem dX1_lastStep_27 : decode cX1_lastStep 27 = .ok (.invokevirtual 54, 3) := by decide +kernel
theorem dX1_lastStep_30 : decode cX1_lastStep 30 = .ok (.checkcast 58, 3) := by decide +kernel
theorem dX1_lastStep_33 : decode cX1_lastStep 33 = .ok (.areturn, 1) := by decide +kernel
theorem dX1_learnEnd_0 : decode cX1_learnEnd 0 = .ok (.aload_n 0, 1) := by decide +kernel
theorem dX1_learnEnd_1 : decode cX1_learnEnd 1 = .ok (.getfield 18, 3) := by decide +kernel
theorem dX1_learnEnd_4 : decode cX1_learnEnd 4 = .ok (.bipush 7, 2) := by decide +kernel
theorem dX1_learnEnd_6 : decode cX1_learnEnd 6 = .ok (.if_icmp .ne 4, 3) := by decide +kernel
theorem dX1_learnEnd_9 : decode cX1_learnEnd 9 = .ok (.return_, 1) := by decide +kernel
theorem dX1_learnEnd_10 : decode cX1_learnEnd 10 = .ok (.aload_n 0, 1) := by decide +kernel
theorem dX1_learnEnd_11 : decode cX1_learnEnd 11 = .ok (.getfield 39, 3) := by decide +kernel
theorem dX1_learnEnd_14 : decode cX1_learnEnd 14 = .ok (.getfield 60, 3) := by decide +kernel
theorem dX1_learnEnd_17 : decode cX1_learnEnd 17 = .ok (.iconst 2, 1) := by decide +kernel
theorem dX1_learnEnd_18 : decode cX1_learnEnd 18 = .ok (.iaload, 1) := by decide +kernel
theorem dX1_learnEnd_19 : decode cX1_learnEnd 19 = .ok (.ifCond .eq 15, 3) := by decide +kernel
theorem dX1_learnEnd_22 : decode cX1_learnEnd 22 = .ok (.aload_n 0, 1) := by decide +kernel
theorem dX1_learnEnd_23 : decode cX1_learnEnd 23 = .ok (.getfield 18, 3) := by decide +kernel
theorem dX1_learnEnd_26 : decode cX1_learnEnd 26 = .ok (.iconst 5, 1) := by decide +kernel
theorem dX1_learnEnd_27 : decode cX1_learnEnd 27 = .ok (.if_icmp .eq 7, 3) := by decide +kernel
theorem dX1_learnEnd_30 : decode cX1_learnEnd 30 = .ok (.iconst 1, 1) := by decide +kernel
theorem dX1_learnEnd_31 : decode cX1_learnEnd 31 = .ok (.goto 4, 3) := by decide +kernel
theorem dX1_learnEnd_34 : decode cX1_learnEnd 34 = .ok (.iconst 0, 1) := by decide +kernel
theorem dX1_learnEnd_35 : decode cX1_learnEnd 35 = .ok (.istore_n 2, 1) := by decide +kernel
theorem dX1_learnEnd_36 : decode cX1_learnEnd 36 = .ok (.aload_n 0, 1) := by decide +kernel
theorem dX1_learnEnd_37 : decode cX1_learnEnd 37 = .ok (.iload_n 2, 1) := by decide +kernel
theorem dX1_learnEnd_38 : decode cX1_learnEnd 38 = .ok (.ifCond .eq 7, 3) := by decide +kernel
theorem dX1_learnEnd_41 : decode cX1_learnEnd 41 = .ok (.iconst 5, 1) := by decide +kernel
theorem dX1_learnEnd_42 : decode cX1_learnEnd 42 = .ok (.goto 7, 3) := by decide +kernel
theorem dX1_learnEnd_45 : decode cX1_learnEnd 45 = .ok (.aload_n 0, 1) := by decide +kernel
theorem dX1_learnEnd_46 : decode cX1_learnEnd 46 = .ok (.getfield 18, 3) := by decide +kernel
theorem dX1_learnEnd_49 : decode cX1_learnEnd 49 = .ok (.putfield 26, 3) := by decide +kernel
theorem dX1_learnEnd_52 : decode cX1_learnEnd 52 = .ok (.aload_n 0, 1) := by decide +kernel
theorem dX1_learnEnd_53 : decode cX1_learnEnd 53 = .ok (.iload_n 2, 1) := by decide +kernel
theorem dX1_learnEnd_54 : decode cX1_learnEnd 54 = .ok (.ifCond .eq 10, 3) := by decide +kernel
theorem dX1_learnEnd_57 : decode cX1_learnEnd 57 = .ok (.aload_n 0, 1) := by decide +kernel
theorem dX1_learnEnd_58 : decode cX1_learnEnd 58 = .ok (.getfield 43, 3) := by decide +kernel
theorem dX1_learnEnd_61 : decode cX1_learnEnd 61 = .ok (.goto 4, 3) := by decide +kernel
theorem dX1_learnEnd_64 : decode cX1_learnEnd 64 = .ok (.iload_n 1, 1) := by decide +kernel
theorem dX1_learnEnd_65 : decode cX1_learnEnd 65 = .ok (.putfield 29, 3) := by decide +kernel
theorem dX1_learnEnd_68 : decode cX1_learnEnd 68 = .ok (.return_, 1) := by decide +kernel
theorem dX2_init_0 : decode cX2_init 0 = .ok (.aload_n 0, 1) := by decide +kernel
theorem dX2_init_1 : decode cX2_init 1 = .ok (.invokespecial 3, 3) := by decide +kernel
theorem dX2_init_4 : decode cX2_init 4 = .ok (.aload_n 0, 1) := by decide +kernel
theorem dX2_init_5 : decode cX2_init 5 = .ok (.sipush 1000, 3) := by decide +kernel
theorem dX2_init_8 : decode cX2_init 8 = .ok (.putfield 9, 3) := by decide +kernel
theorem dX2_init_11 : decode cX2_init 11 = .ok (.aload_n 0, 1) := by decide +kernel
theorem dX2_init_12 : decode cX2_init 12 = .ok (.bipush 10, 2) := by decide +kernel
theorem dX2_init_14 : decode cX2_init 14 = .ok (.putfield 15, 3) := by decide +kernel
theorem dX2_init_17 : decode cX2_init 17 = .ok (.return_, 1) := by decide +kernel
theorem dX2_account_0 : decode cX2_account 0 = .ok (.iload_n 1, 1) := by decide +kernel
theorem dX2_account_1 : decode cX2_account 1 = .ok (.ifCond .eq 27, 3) := by decide +kernel
theorem dX2_account_4 : decode cX2_account 4 = .ok (.aload_n 0, 1) := by decide +kernel
theorem dX2_account_5 : decode cX2_account 5 = .ok (.dup, 1) := by decide +kernel
theorem dX2_account_6 : decode cX2_account 6 = .ok (.getfield 18, 3) := by decide +kernel
theorem dX2_account_9 : decode cX2_account 9 = .ok (.iconst 1, 1) := by decide +kernel
theorem dX2_account_10 : decode cX2_account 10 = .ok (.iadd, 1) := by decide +kernel
theorem dX2_account_11 : decode cX2_account 11 = .ok (.putfield 18, 3) := by decide +kernel
theorem dX2_account_14 : decode cX2_account 14 = .ok (.aload_n 0, 1) := by decide +kernel
theorem dX2_account_15 : decode cX2_account 15 = .ok (.dup, 1) := by decide +kernel
theorem dX2_account_16 : decode cX2_account 16 = .ok (.getfield 9, 3) := by decide +kernel
theorem dX2_account_19 : decode cX2_account 19 = .ok (.bipush 100, 2) := by decide +kernel
theorem dX2_account_21 : decode cX2_account 21 = .ok (.isub, 1) := by decide +kernel
theorem dX2_account_22 : decode cX2_account 22 = .ok (.putfield 9, 3) := by decide +kernel
theorem dX2_account_25 : decode cX2_account 25 = .ok (.goto 32, 3) := by decide +kernel
theorem dX2_account_28 : decode cX2_account 28 = .ok (.aload_n 0, 1) := by decide +kernel
theorem dX2_account_29 : decode cX2_account 29 = .ok (.dup, 1) := by decide +kernel
theorem dX2_account_30 : decode cX2_account 30 = .ok (.getfield 21, 3) := by decide +kernel
theorem dX2_account_33 : decode cX2_account 33 = .ok (.iconst 1, 1) := by decide +kernel
theorem dX2_account_34 : decode cX2_account 34 = .ok (.iadd, 1) := by decide +kernel
theorem dX2_account_35 : decode cX2_account 35 = .ok (.putfield 21, 3) := by decide +kernel
theorem dX2_account_38 : decode cX2_account 38 = .ok (.aload_n 0, 1) := by decide +kernel
theorem dX2_account_39 : decode cX2_account 39 = .ok (.sipush 1000, 3) := by decide +kernel
theorem dX2_account_42 : decode cX2_account 42 = .ok (.aload_n 0, 1) := by decide +kernel
theorem dX2_account_43 : decode cX2_account 43 = .ok (.getfield 9, 3) := by decide +kernel
theorem dX2_account_46 : decode cX2_account 46 = .ok (.aload_n 0, 1) := by decide +kernel
theorem dX2_account_47 : decode cX2_account 47 = .ok (.getfield 15, 3) := by decide +kernel
theorem dX2_account_50 : decode cX2_account 50 = .ok (.iadd, 1) := by decide +kernel
theorem dX2_account_51 : decode cX2_account 51 = .ok (.invokestatic 24, 3) := by decide +kernel
theorem dX2_account_54 : decode cX2_account 54 = .ok (.putfield 9, 3) := by decide +kernel
theorem dX2_account_57 : decode cX2_account 57 = .ok (.return_, 1) := by decide +kernel
theorem dX3_init_0 : decode cX3_init 0 = .ok (.aload_n 0, 1) := by decide +kernel
theorem dX3_init_1 : decode cX3_init 1 = .ok (.invokespecial 3, 3) := by decide +kernel
theorem dX3_init_4 : decode cX3_init 4 = .ok (.aload_n 0, 1) := by decide +kernel
theorem dX3_init_5 : decode cX3_init 5 = .ok (.iconst 2, 1) := by decide +kernel
theorem dX3_init_6 : decode cX3_init 6 = .ok (.newarray .int, 2) := by decide +kernel
theorem dX3_init_8 : decode cX3_init 8 = .ok (.putfield 9, 3) := by decide +kernel
theorem dX3_init_11 : decode cX3_init 11 = .ok (.aload_n 0, 1) := by decide +kernel
theorem dX3_init_12 : decode cX3_init 12 = .ok (.iconst 2, 1) := by decide +kernel
theorem dX3_init_13 : decode cX3_init 13 = .ok (.newarray .int, 2) := by decide +kernel
theorem dX3_init_15 : decode cX3_init 15 = .ok (.putfield 15, 3) := by decide +kernel
theorem dX3_init_18 : decode cX3_init 18 = .ok (.return_, 1) := by decide +kernel
theorem dX3_restart_0 : decode cX3_restart 0 = .ok (.aload_n 0, 1) := by decide +kernel
theorem dX3_restart_1 : decode cX3_restart 1 = .ok (.iload_n 1, 1) := by decide +kernel
theorem dX3_restart_2 : decode cX3_restart 2 = .ok (.putfield 18, 3) := by decide +kernel
theorem dX3_restart_5 : decode cX3_restart 5 = .ok (.aload_n 0, 1) := by decide +kernel
theorem dX3_restart_6 : decode cX3_restart 6 = .ok (.iconst 0, 1) := by decide +kernel
theorem dX3_restart_7 : decode cX3_restart 7 = .ok (.putfield 22, 3) := by decide +kernel
theorem dX3_restart_10 : decode cX3_restart 10 = .ok (.iconst 0, 1) := by decide +kernel
theorem dX3_restart_11 : decode cX3_restart 11 = .ok (.istore_n 2, 1) := by decide +kernel
theorem dX3_restart_12 : decode cX3_restart 12 = .ok (.iload_n 2, 1) := by decide +kernel
theorem dX3_restart_13 : decode cX3_restart 13 = .ok (.iconst 2, 1) := by decide +kernel
theorem dX3_restart_14 : decode cX3_restart 14 = .ok (.if_icmp .ge 23, 3) := by decide +kernel
theorem dX3_restart_17 : decode cX3_restart 17 = .ok (.aload_n 0, 1) := by decide +kernel
theorem dX3_restart_18 : decode cX3_restart 18 = .ok (.getfield 9, 3) := by decide +kernel
theorem dX3_restart_21 : decode cX3_restart 21 = .ok (.iload_n 2, 1) := by decide +kernel
theorem dX3_restart_22 : decode cX3_restart 22 = .ok (.iconst 0, 1) := by decide +kernel
theorem dX3_restart_23 : decode cX3_restart 23 = .ok (.iastore, 1) := by decide +kernel
theorem dX3_restart_24 : decode cX3_restart 24 = .ok (.aload_n 0, 1) := by decide +kernel
theorem dX3_restart_25 : decode cX3_restart 25 = .ok (.getfield 15, 3) := by decide +kernel
theorem dX3_restart_28 : decode cX3_restart 28 = .ok (.iload_n 2, 1) := by decide +kernel
theorem dX3_restart_29 : decode cX3_restart 29 = .ok (.iconst 0, 1) := by decide +kernel
theorem dX3_restart_30 : decode cX3_restart 30 = .ok (.iastore, 1) := by decide +kernel
theorem dX3_restart_31 : decode cX3_restart 31 = .ok (.iinc 2 1, 3) := by decide +kernel
theorem dX3_restart_34 : decode cX3_restart 34 = .ok (.goto (-22), 3) := by decide +kernel
theorem dX3_restart_37 : decode cX3_restart 37 = .ok (.return_, 1) := by decide +kernel
theorem dX3_nextVersion_0 : decode cX3_nextVersion 0 = .ok (.aload_n 0, 1) := by decide +kernel
theorem dX3_nextVersion_1 : decode cX3_nextVersion 1 = .ok (.getfield 18, 3) := by decide +kernel
theorem dX3_nextVersion_4 : decode cX3_nextVersion 4 = .ok (.ifCond .ne 5, 3) := by decide +kernel
theorem dX3_nextVersion_7 : decode cX3_nextVersion 7 = .ok (.iconst (-1), 1) := by decide +kernel
theorem dX3_nextVersion_8 : decode cX3_nextVersion 8 = .ok (.ireturn, 1) := by decide +kernel
theorem dX3_nextVersion_9 : decode cX3_nextVersion 9 = .ok (.aload_n 0, 1) := by decide +kernel
theorem dX3_nextVersion_10 : decode cX3_nextVersion 10 = .ok (.dup, 1) := by decide +kernel
theorem dX3_nextVersion_11 : decode cX3_nextVersion 11 = .ok (.getfield 22, 3) := by decide +kernel
theorem dX3_nextVersion_14 : decode cX3_nextVersion 14 = .ok (.iconst 1, 1) := by decide +kernel
theorem dX3_nextVersion_15 : decode cX3_nextVersion 15 = .ok (.iadd, 1) := by decide +kernel
theorem dX3_nextVersion_16 : decode cX3_nextVersion 16 = .ok (.putfield 22, 3) := by decide +kernel
theorem dX3_nextVersion_19 : decode cX3_nextVersion 19 = .ok (.aload_n 0, 1) := by decide +kernel
theorem dX3_nextVersion_20 : decode cX3_nextVersion 20 = .ok (.getfield 22, 3) := by decide +kernel
theorem dX3_nextVersion_23 : decode cX3_nextVersion 23 = .ok (.aload_n 0, 1) := by decide +kernel
theorem dX3_nextVersion_24 : decode cX3_nextVersion 24 = .ok (.getfield 18, 3) := by decide +kernel
theorem dX3_nextVersion_27 : decode cX3_nextVersion 27 = .ok (.imul, 1) := by decide +kernel
theorem dX3_nextVersion_28 : decode cX3_nextVersion 28 = .ok (.bipush 100, 2) := by decide +kernel
theorem dX3_nextVersion_30 : decode cX3_nextVersion 30 = .ok (.idiv, 1) := by decide +kernel
theorem dX3_nextVersion_31 : decode cX3_nextVersion 31 = .ok (.aload_n 0, 1) := by decide +kernel
theorem dX3_nextVersion_32 : decode cX3_nextVersion 32 = .ok (.getfield 22, 3) := by decide +kernel
theorem dX3_nextVersion_35 : decode cX3_nextVersion 35 = .ok (.iconst 1, 1) := by decide +kernel
theorem dX3_nextVersion_36 : decode cX3_nextVersion 36 = .ok (.isub, 1) := by decide +kernel
theorem dX3_nextVersion_37 : decode cX3_nextVersion 37 = .ok (.aload_n 0, 1) := by decide +kernel
theorem dX3_nextVersion_38 : decode cX3_nextVersion 38 = .ok (.getfield 18, 3) := by decide +kernel
theorem dX3_nextVersion_41 : decode cX3_nextVersion 41 = .ok (.imul, 1) := by decide +kernel
theorem dX3_nextVersion_42 : decode cX3_nextVersion 42 = .ok (.bipush 100, 2) := by decide +kernel
theorem dX3_nextVersion_44 : decode cX3_nextVersion 44 = .ok (.idiv, 1) := by decide +kernel
theorem dX3_nextVersion_45 : decode cX3_nextVersion 45 = .ok (.if_icmp .le 7, 3) := by decide +kernel
theorem dX3_nextVersion_48 : decode cX3_nextVersion 48 = .ok (.iconst 1, 1) := by decide +kernel
theorem dX3_nextVersion_49 : decode cX3_nextVersion 49 = .ok (.goto 4, 3) := by decide +kernel
theorem dX3_nextVersion_52 : decode cX3_nextVersion 52 = .ok (.iconst 0, 1) := by decide +kernel
theorem dX3_nextVersion_53 : decode cX3_nextVersion 53 = .ok (.ireturn, 1) := by decide +kernel
theorem dX3_judge_0 : decode cX3_judge 0 = .ok (.aload_n 0, 1) := by decide +kernel
theorem dX3_judge_1 : decode cX3_judge 1 = .ok (.getfield 18, 3) := by decide +kernel
theorem dX3_judge_4 : decode cX3_judge 4 = .ok (.ifCond .ne 4, 3) := by decide +kernel
theorem dX3_judge_7 : decode cX3_judge 7 = .ok (.return_, 1) := by decide +kernel
theorem dX3_judge_8 : decode cX3_judge 8 = .ok (.aload_n 0, 1) := by decide +kernel
theorem dX3_judge_9 : decode cX3_judge 9 = .ok (.getfield 9, 3) := by decide +kernel
theorem dX3_judge_12 : decode cX3_judge 12 = .ok (.iload_n 1, 1) := by decide +kernel
theorem dX3_judge_13 : decode cX3_judge 13 = .ok (.dup2, 1) := by decide +kernel
theorem dX3_judge_14 : decode cX3_judge 14 = .ok (.iaload, 1) := by decide +kernel
theorem dX3_judge_15 : decode cX3_judge 15 = .ok (.iconst 1, 1) := by decide +kernel
theorem dX3_judge_16 : decode cX3_judge 16 = .ok (.iadd, 1) := by decide +kernel
theorem dX3_judge_17 : decode cX3_judge 17 = .ok (.iastore, 1) := by decide +kernel
theorem dX3_judge_18 : decode cX3_judge 18 = .ok (.iload_n 2, 1) := by decide +kernel
theorem dX3_judge_19 : decode cX3_judge 19 = .ok (.ifCond .ne 13, 3) := by decide +kernel
theorem dX3_judge_22 : decode cX3_judge 22 = .ok (.aload_n 0, 1) := by decide +kernel
theorem dX3_judge_23 : decode cX3_judge 23 = .ok (.getfield 15, 3) := by decide +kernel
theorem dX3_judge_26 : decode cX3_judge 26 = .ok (.iload_n 1, 1) := by decide +kernel
theorem dX3_judge_27 : decode cX3_judge 27 = .ok (.dup2, 1) := by decide +kernel
theorem dX3_judge_28 : decode cX3_judge 28 = .ok (.iaload, 1) := by decide +kernel
theorem dX3_judge_29 : decode cX3_judge 29 = .ok (.iconst 1, 1) := by decide +kernel
theorem dX3_judge_30 : decode cX3_judge 30 = .ok (.iadd, 1) := by decide +kernel
theorem dX3_judge_31 : decode cX3_judge 31 = .ok (.iastore, 1) := by decide +kernel
theorem dX3_judge_32 : decode cX3_judge 32 = .ok (.aload_n 0, 1) := by decide +kernel
theorem dX3_judge_33 : decode cX3_judge 33 = .ok (.getfield 15, 3) := by decide +kernel
theorem dX3_judge_36 : decode cX3_judge 36 = .ok (.iconst 1, 1) := by decide +kernel
theorem dX3_judge_37 : decode cX3_judge 37 = .ok (.iaload, 1) := by decide +kernel
theorem dX3_judge_38 : decode cX3_judge 38 = .ok (.aload_n 0, 1) := by decide +kernel
theorem dX3_judge_39 : decode cX3_judge 39 = .ok (.getfield 9, 3) := by decide +kernel
theorem dX3_judge_42 : decode cX3_judge 42 = .ok (.iconst 0, 1) := by decide +kernel
theorem dX3_judge_43 : decode cX3_judge 43 = .ok (.iaload, 1) := by decide +kernel
theorem dX3_judge_44 : decode cX3_judge 44 = .ok (.imul, 1) := by decide +kernel
theorem dX3_judge_45 : decode cX3_judge 45 = .ok (.iconst 2, 1) := by decide +kernel
theorem dX3_judge_46 : decode cX3_judge 46 = .ok (.aload_n 0, 1) := by decide +kernel
theorem dX3_judge_47 : decode cX3_judge 47 = .ok (.getfield 15, 3) := by decide +kernel
theorem dX3_judge_50 : decode cX3_judge 50 = .ok (.iconst 0, 1) := by decide +kernel
theorem dX3_judge_51 : decode cX3_judge 51 = .ok (.iaload, 1) := by decide +kernel
theorem dX3_judge_52 : decode cX3_judge 52 = .ok (.imul, 1) := by decide +kernel
theorem dX3_judge_53 : decode cX3_judge 53 = .ok (.aload_n 0, 1) := by decide +kernel
theorem dX3_judge_54 : decode cX3_judge 54 = .ok (.getfield 9, 3) := by decide +kernel
theorem dX3_judge_57 : decode cX3_judge 57 = .ok (.iconst 1, 1) := by decide +kernel
theorem dX3_judge_58 : decode cX3_judge 58 = .ok (.iaload, 1) := by decide +kernel
theorem dX3_judge_59 : decode cX3_judge 59 = .ok (.imul, 1) := by decide +kernel
theorem dX3_judge_60 : decode cX3_judge 60 = .ok (.if_icmp .le 7, 3) := by decide +kernel
theorem dX3_judge_63 : decode cX3_judge 63 = .ok (.iconst 1, 1) := by decide +kernel
theorem dX3_judge_64 : decode cX3_judge 64 = .ok (.goto 4, 3) := by decide +kernel
theorem dX3_judge_67 : decode cX3_judge 67 = .ok (.iconst 0, 1) := by decide +kernel
theorem dX3_judge_68 : decode cX3_judge 68 = .ok (.istore_n 3, 1) := by decide +kernel
theorem dX3_judge_69 : decode cX3_judge 69 = .ok (.aload_n 0, 1) := by decide +kernel
theorem dX3_judge_70 : decode cX3_judge 70 = .ok (.getfield 9, 3) := by decide +kernel
theorem dX3_judge_73 : decode cX3_judge 73 = .ok (.iconst 1, 1) := by decide +kernel
theorem dX3_judge_74 : decode cX3_judge 74 = .ok (.iaload, 1) := by decide +kernel
theorem dX3_judge_75 : decode cX3_judge 75 = .ok (.iconst 5, 1) := by decide +kernel
theorem dX3_judge_76 : decode cX3_judge 76 = .ok (.if_icmp .lt 22, 3) := by decide +kernel
theorem dX3_judge_79 : decode cX3_judge 79 = .ok (.aload_n 0, 1) := by decide +kernel
theorem dX3_judge_80 : decode cX3_judge 80 = .ok (.getfield 15, 3) := by decide +kernel
theorem dX3_judge_83 : decode cX3_judge 83 = .ok (.iconst 1, 1) := by decide +kernel
theorem dX3_judge_84 : decode cX3_judge 84 = .ok (.iaload, 1) := by decide +kernel
theorem dX3_judge_85 : decode cX3_judge 85 = .ok (.iconst 2, 1) := by decide +kernel
theorem dX3_judge_86 : decode cX3_judge 86 = .ok (.if_icmp .lt 12, 3) := by decide +kernel
theorem dX3_judge_89 : decode cX3_judge 89 = .ok (.iload_n 3, 1) := by decide +kernel
theorem dX3_judge_90 : decode cX3_judge 90 = .ok (.ifCond .eq 8, 3) := by decide +kernel
theorem dX3_judge_93 : decode cX3_judge 93 = .ok (.aload_n 0, 1) := by decide +kernel
theorem dX3_judge_94 : decode cX3_judge 94 = .ok (.iconst 0, 1) := by decide +kernel
theorem dX3_judge_95 : decode cX3_judge 95 = .ok (.putfield 18, 3) := by decide +kernel
theorem dX3_judge_98 : decode cX3_judge 98 = .ok (.return_, 1) := by decide +kernel
theorem dX4_init_0 : decode cX4_init 0 = .ok (.aload_n 0, 1) := by decide +kernel
theorem dX4_init_1 : decode cX4_init 1 = .ok (.invokespecial 3, 3) := by decide +kernel
theorem dX4_init_4 : decode cX4_init 4 = .ok (.aload_n 0, 1) := by decide +kernel
theorem dX4_init_5 : decode cX4_init 5 = .ok (.iconst 4, 1) := by decide +kernel
theorem dX4_init_6 : decode cX4_init 6 = .ok (.newarray .int, 2) := by decide +kernel
theorem dX4_init_8 : decode cX4_init 8 = .ok (.putfield 9, 3) := by decide +kernel
theorem dX4_init_11 : decode cX4_init 11 = .ok (.aload_n 0, 1) := by decide +kernel
theorem dX4_init_12 : decode cX4_init 12 = .ok (.bipush 7, 2) := by decide +kernel
theorem dX4_init_14 : decode cX4_init 14 = .ok (.anewarray 15, 3) := by decide +kernel
theorem dX4_init_17 : decode cX4_init 17 = .ok (.putfield 17, 3) := by decide +kernel
theorem dX4_init_20 : decode cX4_init 20 = .ok (.aload_n 0, 1) := by decide +kernel
theorem dX4_init_21 : decode cX4_init 21 = .ok (.bipush 7, 2) := by decide +kernel
theorem dX4_init_23 : decode cX4_init 23 = .ok (.newarray .int, 2) := by decide +kernel
theorem dX4_init_25 : decode cX4_init 25 = .ok (.putfield 21, 3) := by decide +kernel
theorem dX4_init_28 : decode cX4_init 28 = .ok (.aload_n 0, 1) := by decide +kernel
theorem dX4_init_29 : decode cX4_init 29 = .ok (.new 24, 3) := by decide +kernel
theorem dX4_init_32 : decode cX4_init 32 = .ok (.dup, 1) := by decide +kernel
theorem dX4_init_33 : decode cX4_init 33 = .ok (.invokespecial 26, 3) := by decide +kernel
theorem dX4_init_36 : decode cX4_init 36 = .ok (.putfield 27, 3) := by decide +kernel
theorem dX4_init_39 : decode cX4_init 39 = .ok (.aload_n 0, 1) := by decide +kernel
theorem dX4_init_40 : decode cX4_init 40 = .ok (.iload_n 1, 1) := by decide +kernel
theorem dX4_init_41 : decode cX4_init 41 = .ok (.putfield 31, 3) := by decide +kernel
theorem dX4_init_44 : decode cX4_init 44 = .ok (.aload_n 0, 1) := by decide +kernel
theorem dX4_init_45 : decode cX4_init 45 = .ok (.iload_n 2, 1) := by decide +kernel
theorem dX4_init_46 : decode cX4_init 46 = .ok (.putfield 35, 3) := by decide +kernel
theorem dX4_init_49 : decode cX4_init 49 = .ok (.aload_n 0, 1) := by decide +kernel
theorem dX4_init_50 : decode cX4_init 50 = .ok (.iload_n 3, 1) := by decide +kernel
theorem dX4_init_51 : decode cX4_init 51 = .ok (.putfield 38, 3) := by decide +kernel
theorem dX4_init_54 : decode cX4_init 54 = .ok (.aload_n 0, 1) := by decide +kernel
theorem dX4_init_55 : decode cX4_init 55 = .ok (.iload 4, 2) := by decide +kernel
theorem dX4_init_57 : decode cX4_init 57 = .ok (.putfield 41, 3) := by decide +kernel
theorem dX4_init_60 : decode cX4_init 60 = .ok (.aload_n 0, 1) := by decide +kernel
theorem dX4_init_61 : decode cX4_init 61 = .ok (.iload 5, 2) := by decide +kernel
theorem dX4_init_63 : decode cX4_init 63 = .ok (.putfield 44, 3) := by decide +kernel
theorem dX4_init_66 : decode cX4_init 66 = .ok (.aload_n 0, 1) := by decide +kernel
theorem dX4_init_67 : decode cX4_init 67 = .ok (.iload 6, 2) := by decide +kernel
theorem dX4_init_69 : decode cX4_init 69 = .ok (.putfield 47, 3) := by decide +kernel
theorem dX4_init_72 : decode cX4_init 72 = .ok (.aload_n 0, 1) := by decide +kernel
theorem dX4_init_73 : decode cX4_init 73 = .ok (.iload 7, 2) := by decide +kernel
theorem dX4_init_75 : decode cX4_init 75 = .ok (.putfield 50, 3) := by decide +kernel
theorem dX4_init_78 : decode cX4_init 78 = .ok (.iconst 0, 1) := by decide +kernel
theorem dX4_init_79 : decode cX4_init 79 = .ok (.istore 8, 2) := by decide +kernel
theorem dX4_init_81 : decode cX4_init 81 = .ok (.iload 8, 2) := by decide +kernel
theorem dX4_init_83 : decode cX4_init 83 = .ok (.bipush 7, 2) := by decide +kernel
theorem dX4_init_85 : decode cX4_init 85 = .ok (.if_icmp .ge 23, 3) := by decide +kernel
theorem dX4_init_88 : decode cX4_init 88 = .ok (.aload_n 0, 1) := by decide +kernel
theorem dX4_init_89 : decode cX4_init 89 = .ok (.getfield 17, 3) := by decide +kernel
theorem dX4_init_92 : decode cX4_init 92 = .ok (.iload 8, 2) := by decide +kernel
theorem dX4_init_94 : decode cX4_init 94 = .ok (.new 15, 3) := by decide +kernel
theorem dX4_init_97 : decode cX4_init 97 = .ok (.dup, 1) := by decide +kernel
theorem dX4_init_98 : decode cX4_init 98 = .ok (.invokespecial 53, 3) := by decide +kernel
theorem dX4_init_101 : decode cX4_init 101 = .ok (.aastore, 1) := by decide +kernel
theorem dX4_init_102 : decode cX4_init 102 = .ok (.iinc 8 1, 3) := by decide +kernel
theorem dX4_init_105 : decode cX4_init 105 = .ok (.goto (-24), 3) := by decide +kernel
theorem dX4_init_108 : decode cX4_init 108 = .ok (.return_, 1) := by decide +kernel
theorem dX4_openBreakers_0 : decode cX4_openBreakers 0 = .ok (.iconst 0, 1) := by decide +kernel
theorem dX4_openBreakers_1 : decode cX4_openBreakers 1 = .ok (.istore_n 1, 1) := by decide +kernel
theorem dX4_openBreakers_2 : decode cX4_openBreakers 2 = .ok (.iconst 0, 1) := by decide +kernel
theorem dX4_openBreakers_3 : decode cX4_openBreakers 3 = .ok (.istore_n 2, 1) := by decide +kernel
theorem dX4_openBreakers_4 : decode cX4_openBreakers 4 = .ok (.iload_n 2, 1) := by decide +kernel
theorem dX4_openBreakers_5 : decode cX4_openBreakers 5 = .ok (.bipush 7, 2) := by decide +kernel
theorem dX4_openBreakers_7 : decode cX4_openBreakers 7 = .ok (.if_icmp .ge 25, 3) := by decide +kernel
theorem dX4_openBreakers_10 : decode cX4_openBreakers 10 = .ok (.aload_n 0, 1) := by decide +kernel
theorem dX4_openBreakers_11 : decode cX4_openBreakers 11 = .ok (.getfield 17, 3) := by decide +kernel
theorem dX4_openBreakers_14 : decode cX4_openBreakers 14 = .ok (.iload_n 2, 1) := by decide +kernel
theorem dX4_openBreakers_15 : decode cX4_openBreakers 15 = .ok (.aaload, 1) := by decide +kernel
theorem dX4_openBreakers_16 : decode cX4_openBreakers 16 = .ok (.getfield 54, 3) := by decide +kernel
theorem dX4_openBreakers_19 : decode cX4_openBreakers 19 = .ok (.iconst 1, 1) := by decide +kernel
theorem dX4_openBreakers_20 : decode cX4_openBreakers 20 = .ok (.if_icmp .ne 6, 3) := by decide +kernel
theorem dX4_openBreakers_23 : decode cX4_openBreakers 23 = .ok (.iinc 1 1, 3) := by decide +kernel
theorem dX4_openBreakers_26 : decode cX4_openBreakers 26 = .ok (.iinc 2 1, 3) := by decide +kernel
theorem dX4_openBreakers_29 : decode cX4_openBreakers 29 = .ok (.goto (-25), 3) := by decide +kernel
theorem dX4_openBreakers_32 : decode cX4_openBreakers 32 = .ok (.iload_n 1, 1) := by decide +kernel
theorem dX4_openBreakers_33 : decode cX4_openBreakers 33 = .ok (.ireturn, 1) := by decide +kernel
theorem dX4_loadNow_0 : decode cX4_loadNow 0 = .ok (.aload_n 0, 1) := by decide +kernel
theorem dX4_loadNow_1 : decode cX4_loadNow 1 = .ok (.getfield 57, 3) := by decide +kernel
theorem dX4_loadNow_4 : decode cX4_loadNow 4 = .ok (.aload_n 0, 1) := by decide +kernel
theorem dX4_loadNow_5 : decode cX4_loadNow 5 = .ok (.getfield 27, 3) := by decide +kernel
theorem dX4_loadNow_8 : decode cX4_loadNow 8 = .ok (.invokevirtual 60, 3) := by decide +kernel
theorem dX4_loadNow_11 : decode cX4_loadNow 11 = .ok (.iadd, 1) := by decide +kernel
theorem dX4_loadNow_12 : decode cX4_loadNow 12 = .ok (.ireturn, 1) := by decide +kernel
theorem dX4_tellLoad_0 : decode cX4_tellLoad 0 = .ok (.aload_n 0, 1) := by decide +kernel
theorem dX4_tellLoad_1 : decode cX4_tellLoad 1 = .ok (.aload_n 0, 1) := by decide +kernel
theorem dX4_tellLoad_2 : decode cX4_tellLoad 2 = .ok (.invokevirtual 64, 3) := by decide +kernel
theorem dX4_tellLoad_5 : decode cX4_tellLoad 5 = .ok (.putfield 67, 3) := by decide +kernel
theorem dX4_tellLoad_8 : decode cX4_tellLoad 8 = .ok (.iconst 0, 1) := by decide +kernel
theorem dX4_tellLoad_9 : decode cX4_tellLoad 9 = .ok (.istore_n 1, 1) := by decide +kernel
theorem dX4_tellLoad_10 : decode cX4_tellLoad 10 = .ok (.iload_n 1, 1) := by decide +kernel
theorem dX4_tellLoad_11 : decode cX4_tellLoad 11 = .ok (.bipush 7, 2) := by decide +kernel
theorem dX4_tellLoad_13 : decode cX4_tellLoad 13 = .ok (.if_icmp .ge 16, 3) := by decide +kernel
theorem dX4_tellLoad_16 : decode cX4_tellLoad 16 = .ok (.aload_n 0, 1) := by decide +kernel
theorem dX4_tellLoad_17 : decode cX4_tellLoad 17 = .ok (.getfield 21, 3) := by decide +kernel
theorem dX4_tellLoad_20 : decode cX4_tellLoad 20 = .ok (.iload_n 1, 1) := by decide +kernel
theorem dX4_tellLoad_21 : decode cX4_tellLoad 21 = .ok (.iconst 0, 1) := by decide +kernel
theorem dX4_tellLoad_22 : decode cX4_tellLoad 22 = .ok (.iastore, 1) := by decide +kernel
theorem dX4_tellLoad_23 : decode cX4_tellLoad 23 = .ok (.iinc 1 1, 3) := by decide +kernel
theorem dX4_tellLoad_26 : decode cX4_tellLoad 26 = .ok (.goto (-16), 3) := by decide +kernel
theorem dX4_tellLoad_29 : decode cX4_tellLoad 29 = .ok (.return_, 1) := by decide +kernel
theorem dX4_burdenFor_0 : decode cX4_burdenFor 0 = .ok (.bipush 100, 2) := by decide +kernel
theorem dX4_burdenFor_2 : decode cX4_burdenFor 2 = .ok (.aload_n 0, 1) := by decide +kernel
theorem dX4_burdenFor_3 : decode cX4_burdenFor 3 = .ok (.getfield 67, 3) := by decide +kernel
theorem dX4_burdenFor_6 : decode cX4_burdenFor 6 = .ok (.aload_n 0, 1) := by decide +kernel
theorem dX4_burdenFor_7 : decode cX4_burdenFor 7 = .ok (.getfield 21, 3) := by decide +kernel
theorem dX4_burdenFor_10 : decode cX4_burdenFor 10 = .ok (.iload_n 1, 1) := by decide +kernel
theorem dX4_burdenFor_11 : decode cX4_burdenFor 11 = .ok (.iaload, 1) := by decide +kernel
theorem dX4_burdenFor_12 : decode cX4_burdenFor 12 = .ok (.iadd, 1) := by decide +kernel
theorem dX4_burdenFor_13 : decode cX4_burdenFor 13 = .ok (.imul, 1) := by decide +kernel
theorem dX4_burdenFor_14 : decode cX4_burdenFor 14 = .ok (.istore_n 3, 1) := by decide +kernel
theorem dX4_burdenFor_15 : decode cX4_burdenFor 15 = .ok (.aload_n 0, 1) := by decide +kernel
theorem dX4_burdenFor_16 : decode cX4_burdenFor 16 = .ok (.getfield 41, 3) := by decide +kernel
theorem dX4_burdenFor_19 : decode cX4_burdenFor 19 = .ok (.ifCond .le 10, 3) := by decide +kernel
theorem dX4_burdenFor_22 : decode cX4_burdenFor 22 = .ok (.iload_n 3, 1) := by decide +kernel
theorem dX4_burdenFor_23 : decode cX4_burdenFor 23 = .ok (.aload_n 0, 1) := by decide +kernel
theorem dX4_burdenFor_24 : decode cX4_burdenFor 24 = .ok (.getfield 41, 3) := by decide +kernel
theorem dX4_burdenFor_27 : decode cX4_burdenFor 27 = .ok (.idiv, 1) := by decide +kernel
theorem dX4_burdenFor_28 : decode cX4_burdenFor 28 = .ok (.istore_n 3, 1) := by decide +kernel
theorem dX4_burdenFor_29 : decode cX4_burdenFor 29 = .ok (.aload_n 0, 1) := by decide +kernel
theorem dX4_burdenFor_30 : decode cX4_burdenFor 30 = .ok (.getfield 38, 3) := by decide +kernel
theorem dX4_burdenFor_33 : decode cX4_burdenFor 33 = .ok (.iload_n 2, 1) := by decide +kernel
theorem dX4_burdenFor_34 : decode cX4_burdenFor 34 = .ok (.if_icmp .ne 7, 3) := by decide +kernel
theorem dX4_burdenFor_37 : decode cX4_burdenFor 37 = .ok (.iload_n 3, 1) := by decide +kernel
theorem dX4_burdenFor_38 : decode cX4_burdenFor 38 = .ok (.goto 8, 3) := by decide +kernel
theorem dX4_burdenFor_41 : decode cX4_burdenFor 41 = .ok (.iload_n 3, 1) := by decide +kernel
theorem dX4_burdenFor_42 : decode cX4_burdenFor 42 = .ok (.sipush 150, 3) := by decide +kernel
theorem dX4_burdenFor_45 : decode cX4_burdenFor 45 = .ok (.iadd, 1) := by decide +kernel
theorem dX4_burdenFor_46 : decode cX4_burdenFor 46 = .ok (.ireturn, 1) := by decide +kernel
theorem dX4_release_0 : decode cX4_release 0 = .ok (.aload_n 1, 1) := by decide +kernel
theorem dX4_release_1 : decode cX4_release 1 = .ok (.getfield 70, 3) := by decide +kernel
theorem dX4_release_4 : decode cX4_release 4 = .ok (.iconst 1, 1) := by decide +kernel
theorem dX4_release_5 : decode cX4_release 5 = .ok (.if_icmp .eq 11, 3) := by decide +kernel
theorem dX4_release_8 : decode cX4_release 8 = .ok (.aload_n 1, 1) := by decide +kernel
theorem dX4_release_9 : decode cX4_release 9 = .ok (.getfield 70, 3) := by decide +kernel
theorem dX4_release_12 : decode cX4_release 12 = .ok (.iconst 2, 1) := by decide +kernel
theorem dX4_release_13 : decode cX4_release 13 = .ok (.if_icmp .ne 14, 3) := by decide +kernel
theorem dX4_release_16 : decode cX4_release 16 = .ok (.aload_n 0, 1) := by decide +kernel
theorem dX4_release_17 : decode cX4_release 17 = .ok (.dup, 1) := by decide +kernel
theorem dX4_release_18 : decode cX4_release 18 = .ok (.getfield 57, 3) := by decide +kernel
theorem dX4_release_21 : decode cX4_release 21 = .ok (.iconst 1, 1) := by decide +kernel
theorem dX4_release_22 : decode cX4_release 22 = .ok (.isub, 1) := by decide +kernel
theorem dX4_release_23 : decode cX4_release 23 = .ok (.putfield 57, 3) := by decide +kernel
theorem dX4_release_26 : decode cX4_release 26 = .ok (.return_, 1) := by decide +kernel
theorem dX4_release_27 : decode cX4_release 27 = .ok (.iconst 0, 1) := by decide +kernel
theorem dX4_release_28 : decode cX4_release 28 = .ok (.istore_n 2, 1) := by decide +kernel
theorem dX4_release_29 : decode cX4_release 29 = .ok (.iload_n 2, 1) := by decide +kernel
theorem dX4_release_30 : decode cX4_release 30 = .ok (.aload_n 0, 1) := by decide +kernel
theorem dX4_release_31 : decode cX4_release 31 = .ok (.getfield 27, 3) := by decide +kernel
theorem dX4_release_34 : decode cX4_release 34 = .ok (.invokevirtual 60, 3) := by decide +kernel
theorem dX4_release_37 : decode cX4_release 37 = .ok (.if_icmp .ge 31, 3) := by decide +kernel
theorem dX4_release_40 : decode cX4_release 40 = .ok (.aload_n 0, 1) := by decide +kernel
theorem dX4_release_41 : decode cX4_release 41 = .ok (.getfield 27, 3) := by decide +kernel
theorem dX4_release_44 : decode cX4_release 44 = .ok (.iload_n 2, 1) := by decide +kernel
theorem dX4_release_45 : decode cX4_release 45 = .ok (.invokevirtual 73, 3) := by decide +kernel
theorem dX4_release_48 : decode cX4_release 48 = .ok (.aload_n 1, 1) := by decide +kernel
theorem dX4_release_49 : decode cX4_release 49 = .ok (.if_acmp .ne 13, 3) := by decide +kernel
theorem dX4_release_52 : decode cX4_release 52 = .ok (.aload_n 0, 1) := by decide +kernel
theorem dX4_release_53 : decode cX4_release 53 = .ok (.getfield 27, 3) := by decide +kernel
theorem dX4_release_56 : decode cX4_release 56 = .ok (.iload_n 2, 1) := by decide +kernel
theorem dX4_release_57 : decode cX4_release 57 = .ok (.invokevirtual 77, 3) := by decide +kernel
theorem dX4_release_60 : decode cX4_release 60 = .ok (.pop, 1) := by decide +kernel
theorem dX4_release_61 : decode cX4_release 61 = .ok (.return_, 1) := by decide +kernel
theorem dX4_release_62 : decode cX4_release 62 = .ok (.iinc 2 1, 3) := by decide +kernel
theorem dX4_release_65 : decode cX4_release 65 = .ok (.goto (-36), 3) := by decide +kernel
theorem dX4_release_68 : decode cX4_release 68 = .ok (.return_, 1) := by decide +kernel
theorem dX5_init_0 : decode cX5_init 0 = .ok (.aload_n 0, 1) := by decide +kernel
theorem dX5_init_1 : decode cX5_init 1 = .ok (.invokespecial 3, 3) := by decide +kernel
theorem dX5_init_4 : decode cX5_init 4 = .ok (.aload_n 0, 1) := by decide +kernel
theorem dX5_init_5 : decode cX5_init 5 = .ok (.bipush 8, 2) := by decide +kernel
theorem dX5_init_7 : decode cX5_init 7 = .ok (.putfield 9, 3) := by decide +kernel
theorem dX5_init_10 : decode cX5_init 10 = .ok (.aload_n 0, 1) := by decide +kernel
theorem dX5_init_11 : decode cX5_init 11 = .ok (.aload_n 1, 1) := by decide +kernel
theorem dX5_init_12 : decode cX5_init 12 = .ok (.putfield 15, 3) := by decide +kernel
theorem dX5_init_15 : decode cX5_init 15 = .ok (.aload_n 0, 1) := by decide +kernel
theorem dX5_init_16 : decode cX5_init 16 = .ok (.iload_n 2, 1) := by decide +kernel
theorem dX5_init_17 : decode cX5_init 17 = .ok (.putfield 19, 3) := by decide +kernel
theorem dX5_init_20 : decode cX5_init 20 = .ok (.return_, 1) := by decide +kernel
theorem dX6_init_0 : decode cX6_init 0 = .ok (.aload_n 0, 1) := by decide +kernel
theorem dX6_init_1 : decode cX6_init 1 = .ok (.invokespecial 3, 3) := by decide +kernel
theorem dX6_init_4 : decode cX6_init 4 = .ok (.aload_n 0, 1) := by decide +kernel
theorem dX6_init_5 : decode cX6_init 5 = .ok (.iconst 1, 1) := by decide +kernel
theorem dX6_init_6 : decode cX6_init 6 = .ok (.putfield 9, 3) := by decide +kernel
theorem dX6_init_9 : decode cX6_init 9 = .ok (.aload_n 0, 1) := by decide +kernel
theorem dX6_init_10 : decode cX6_init 10 = .ok (.iconst 4, 1) := by decide +kernel
theorem dX6_init_11 : decode cX6_init 11 = .ok (.newarray .int, 2) := by decide +kernel
theorem dX6_init_13 : decode cX6_init 13 = .ok (.putfield 15, 3) := by decide +kernel
theorem dX6_init_16 : decode cX6_init 16 = .ok (.aload_n 0, 1) := by decide +kernel
theorem dX6_init_17 : decode cX6_init 17 = .ok (.iconst 4, 1) := by decide +kernel
theorem dX6_init_18 : decode cX6_init 18 = .ok (.newarray .int, 2) := by decide +kernel
theorem dX6_init_20 : decode cX6_init 20 = .ok (.putfield 19, 3) := by decide +kernel
theorem dX6_init_23 : decode cX6_init 23 = .ok (.aload_n 0, 1) := by decide +kernel
theorem dX6_init_24 : decode cX6_init 24 = .ok (.iconst 4, 1) := by decide +kernel
theorem dX6_init_25 : decode cX6_init 25 = .ok (.newarray .boolean, 2) := by decide +kernel
theorem dX6_init_27 : decode cX6_init 27 = .ok (.putfield 22, 3) := by decide +kernel
theorem dX6_init_30 : decode cX6_init 30 = .ok (.aload_n 0, 1) := by decide +kernel
theorem dX6_init_31 : decode cX6_init 31 = .ok (.new 26, 3) := by decide +kernel
theorem dX6_init_34 : decode cX6_init 34 = .ok (.dup, 1) := by decide +kernel
theorem dX6_init_35 : decode cX6_init 35 = .ok (.invokespecial 28, 3) := by decide +kernel
theorem dX6_init_38 : decode cX6_init 38 = .ok (.putfield 29, 3) := by decide +kernel
theorem dX6_init_41 : decode cX6_init 41 = .ok (.return_, 1) := by decide +kernel
theorem dX6_plan_0 : decode cX6_plan 0 = .ok (.aload_n 0, 1) := by decide +kernel
theorem dX6_plan_1 : decode cX6_plan 1 = .ok (.getfield 33, 3) := by decide +kernel
theorem dX6_plan_4 : decode cX6_plan 4 = .ok (.iconst 4, 1) := by decide +kernel
theorem dX6_plan_5 : decode cX6_plan 5 = .ok (.if_icmp .ge 43, 3) := by decide +kernel
theorem dX6_plan_8 : decode cX6_plan 8 = .ok (.aload_n 0, 1) := by decide +kernel
theorem dX6_plan_9 : decode cX6_plan 9 = .ok (.getfield 15, 3) := by decide +kernel
theorem dX6_plan_12 : decode cX6_plan 12 = .ok (.aload_n 0, 1) := by decide +kernel
theorem dX6_plan_13 : decode cX6_plan 13 = .ok (.getfield 33, 3) := by decide +kernel
theorem dX6_plan_16 : decode cX6_plan 16 = .ok (.iload_n 1, 1) := by decide +kernel
theorem dX6_plan_17 : decode cX6_plan 17 = .ok (.iastore, 1) := by decide +kernel
theorem dX6_plan_18 : decode cX6_plan 18 = .ok (.aload_n 0, 1) := by decide +kernel
theorem dX6_plan_19 : decode cX6_plan 19 = .ok (.getfield 22, 3) := by decide +kernel
theorem dX6_plan_22 : decode cX6_plan 22 = .ok (.aload_n 0, 1) := by decide +kernel
theorem dX6_plan_23 : decode cX6_plan 23 = .ok (.getfield 33, 3) := by decide +kernel
theorem dX6_plan_26 : decode cX6_plan 26 = .ok (.iload_n 2, 1) := by decide +kernel
theorem dX6_plan_27 : decode cX6_plan 27 = .ok (.bastore, 1) := by decide +kernel
theorem dX6_plan_28 : decode cX6_plan 28 = .ok (.aload_n 0, 1) := by decide +kernel
theorem dX6_plan_29 : decode cX6_plan 29 = .ok (.getfield 19, 3) := by decide +kernel
theorem dX6_plan_32 : decode cX6_plan 32 = .ok (.aload_n 0, 1) := by decide +kernel
theorem dX6_plan_33 : decode cX6_plan 33 = .ok (.getfield 33, 3) := by decide +kernel
theorem dX6_plan_36 : decode cX6_plan 36 = .ok (.iload_n 3, 1) := by decide +kernel
theorem dX6_plan_37 : decode cX6_plan 37 = .ok (.iastore, 1) := by decide +kernel
theorem dX6_plan_38 : decode cX6_plan 38 = .ok (.aload_n 0, 1) := by decide +kernel
theorem dX6_plan_39 : decode cX6_plan 39 = .ok (.dup, 1) := by decide +kernel
theorem dX6_plan_40 : decode cX6_plan 40 = .ok (.getfield 33, 3) := by decide +kernel
theorem dX6_plan_43 : decode cX6_plan 43 = .ok (.iconst 1, 1) := by decide +kernel
theorem dX6_plan_44 : decode cX6_plan 44 = .ok (.iadd, 1) := by decide +kernel
theorem dX6_plan_45 : decode cX6_plan 45 = .ok (.putfield 33, 3) := by decide +kernel
theorem dX6_plan_48 : decode cX6_plan 48 = .ok (.return_, 1) := by decide +kernel
theorem dX7_init_0 : decode cX7_init 0 = .ok (.aload_n 0, 1) := by decide +kernel
theorem dX7_init_1 : decode cX7_init 1 = .ok (.invokespecial 3, 3) := by decide +kernel
theorem dX7_init_4 : decode cX7_init 4 = .ok (.aload_n 0, 1) := by decide +kernel
theorem dX7_init_5 : decode cX7_init 5 = .ok (.iconst (-1), 1) := by decide +kernel
theorem dX7_init_6 : decode cX7_init 6 = .ok (.putfield 9, 3) := by decide +kernel
theorem dX7_init_9 : decode cX7_init 9 = .ok (.aload_n 0, 1) := by decide +kernel
theorem dX7_init_10 : decode cX7_init 10 = .ok (.ldc 15, 2) := by decide +kernel
theorem dX7_init_12 : decode cX7_init 12 = .ok (.putfield 16, 3) := by decide +kernel
theorem dX7_init_15 : decode cX7_init 15 = .ok (.aload_n 0, 1) := by decide +kernel
theorem dX7_init_16 : decode cX7_init 16 = .ok (.iconst (-1), 1) := by decide +kernel
theorem dX7_init_17 : decode cX7_init 17 = .ok (.putfield 19, 3) := by decide +kernel
theorem dX7_init_20 : decode cX7_init 20 = .ok (.aload_n 0, 1) := by decide +kernel
theorem dX7_init_21 : decode cX7_init 21 = .ok (.iconst (-1), 1) := by decide +kernel
theorem dX7_init_22 : decode cX7_init 22 = .ok (.putfield 22, 3) := by decide +kernel
theorem dX7_init_25 : decode cX7_init 25 = .ok (.aload_n 0, 1) := by decide +kernel
theorem dX7_init_26 : decode cX7_init 26 = .ok (.new 25, 3) := by decide +kernel
theorem dX7_init_29 : decode cX7_init 29 = .ok (.dup, 1) := by decide +kernel
theorem dX7_init_30 : decode cX7_init 30 = .ok (.invokespecial 27, 3) := by decide +kernel
theorem dX7_init_33 : decode cX7_init 33 = .ok (.putfield 28, 3) := by decide +kernel
theorem dX7_init_36 : decode cX7_init 36 = .ok (.aload_n 0, 1) := by decide +kernel
theorem dX7_init_37 : decode cX7_init 37 = .ok (.iconst (-1), 1) := by decide +kernel
theorem dX7_init_38 : decode cX7_init 38 = .ok (.putfield 32, 3) := by decide +kernel
theorem dX7_init_41 : decode cX7_init 41 = .ok (.aload_n 0, 1) := by decide +kernel
theorem dX7_init_42 : decode cX7_init 42 = .ok (.bipush 8, 2) := by decide +kernel
theorem dX7_init_44 : decode cX7_init 44 = .ok (.putfield 35, 3) := by decide +kernel
theorem dX7_init_47 : decode cX7_init 47 = .ok (.aload_n 0, 1) := by decide +kernel
theorem dX7_init_48 : decode cX7_init 48 = .ok (.iload_n 1, 1) := by decide +kernel
theorem dX7_init_49 : decode cX7_init 49 = .ok (.putfield 38, 3) := by decide +kernel
theorem dX7_init_52 : decode cX7_init 52 = .ok (.aload_n 0, 1) := by decide +kernel
theorem dX7_init_53 : decode cX7_init 53 = .ok (.iload_n 2, 1) := by decide +kernel
theorem dX7_init_54 : decode cX7_init 54 = .ok (.putfield 41, 3) := by decide +kernel
theorem dX7_init_57 : decode cX7_init 57 = .ok (.aload_n 0, 1) := by decide +kernel
theorem dX7_init_58 : decode cX7_init 58 = .ok (.iload_n 3, 1) := by decide +kernel
theorem dX7_init_59 : decode cX7_init 59 = .ok (.putfield 44, 3) := by decide +kernel
theorem dX7_init_62 : decode cX7_init 62 = .ok (.return_, 1) := by decide +kernel
theorem dX7_hasTryOut_0 : decode cX7_hasTryOut 0 = .ok (.iconst 0, 1) := by decide +kernel
theorem dX7_hasTryOut_1 : decode cX7_hasTryOut 1 = .ok (.istore_n 2, 1) := by decide +kernel
theorem dX7_hasTryOut_2 : decode cX7_hasTryOut 2 = .ok (.iload_n 2, 1) := by decide +kernel
theorem dX7_hasTryOut_3 : decode cX7_hasTryOut 3 = .ok (.aload_n 0, 1) := by decide +kernel
theorem dX7_hasTryOut_4 : decode cX7_hasTryOut 4 = .ok (.getfield 28, 3) := by decide +kernel
theorem dX7_hasTryOut_7 : decode cX7_hasTryOut 7 = .ok (.invokevirtual 48, 3) := by decide +kernel
theorem dX7_hasTryOut_10 : decode cX7_hasTryOut 10 = .ok (.if_icmp .ge 29, 3) := by decide +kernel
theorem dX7_hasTryOut_13 : decode cX7_hasTryOut 13 = .ok (.aload_n 0, 1) := by decide +kernel
theorem dX7_hasTryOut_14 : decode cX7_hasTryOut 14 = .ok (.getfield 28, 3) := by decide +kernel
theorem dX7_hasTryOut_17 : decode cX7_hasTryOut 17 = .ok (.iload_n 2, 1) := by decide +kernel
theorem dX7_hasTryOut_18 : decode cX7_hasTryOut 18 = .ok (.invokevirtual 52, 3) := by decide +kernel
theorem dX7_hasTryOut_21 : decode cX7_hasTryOut 21 = .ok (.checkcast 56, 3) := by decide +kernel
theorem dX7_hasTryOut_24 : decode cX7_hasTryOut 24 = .ok (.iload_n 1, 1) := by decide +kernel
theorem dX7_hasTryOut_25 : decode cX7_hasTryOut 25 = .ok (.invokevirtual 58, 3) := by decide +kernel
theorem dX7_hasTryOut_28 : decode cX7_hasTryOut 28 = .ok (.ifCond .ne 5, 3) := by decide +kernel
theorem dX7_hasTryOut_31 : decode cX7_hasTryOut 31 = .ok (.iconst 1, 1) := by decide +kernel
theorem dX7_hasTryOut_32 : decode cX7_hasTryOut 32 = .ok (.ireturn, 1) := by decide +kernel
theorem dX7_hasTryOut_33 : decode cX7_hasTryOut 33 = .ok (.iinc 2 1, 3) := by decide +kernel
theorem dX7_hasTryOut_36 : decode cX7_hasTryOut 36 = .ok (.goto (-34), 3) := by decide +kernel
theorem dX7_hasTryOut_39 : decode cX7_hasTryOut 39 = .ok (.iconst 0, 1) := by decide +kernel
theorem dX7_hasTryOut_40 : decode cX7_hasTryOut 40 = .ok (.ireturn, 1) := by decide +kernel
theorem dX7_hasTried_0 : decode cX7_hasTried 0 = .ok (.iconst 0, 1) := by decide +kernel
theorem dX7_hasTried_1 : decode cX7_hasTried 1 = .ok (.istore_n 2, 1) := by decide +kernel
theorem dX7_hasTried_2 : decode cX7_hasTried 2 = .ok (.iload_n 2, 1) := by decide +kernel
theorem dX7_hasTried_3 : decode cX7_hasTried 3 = .ok (.aload_n 0, 1) := by decide +kernel
theorem dX7_hasTried_4 : decode cX7_hasTried 4 = .ok (.getfield 28, 3) := by decide +kernel
theorem dX7_hasTried_7 : decode cX7_hasTried 7 = .ok (.invokevirtual 48, 3) := by decide +kernel
theorem dX7_hasTried_10 : decode cX7_hasTried 10 = .ok (.if_icmp .ge 29, 3) := by decide +kernel
theorem dX7_hasTried_13 : decode cX7_hasTried 13 = .ok (.aload_n 0, 1) := by decide +kernel
theorem dX7_hasTried_14 : decode cX7_hasTried 14 = .ok (.getfield 28, 3) := by decide +kernel
theorem dX7_hasTried_17 : decode cX7_hasTried 17 = .ok (.iload_n 2, 1) := by decide +kernel
theorem dX7_hasTried_18 : decode cX7_hasTried 18 = .ok (.invokevirtual 52, 3) := by decide +kernel
theorem dX7_hasTried_21 : decode cX7_hasTried 21 = .ok (.checkcast 56, 3) := by decide +kernel
theorem dX7_hasTried_24 : decode cX7_hasTried 24 = .ok (.getfield 62, 3) := by decide +kernel
theorem dX7_hasTried_27 : decode cX7_hasTried 27 = .ok (.aload_n 1, 1) := by decide +kernel
theorem dX7_hasTried_28 : decode cX7_hasTried 28 = .ok (.if_acmp .ne 5, 3) := by decide +kernel
theorem dX7_hasTried_31 : decode cX7_hasTried 31 = .ok (.iconst 1, 1) := by decide +kernel
theorem dX7_hasTried_32 : decode cX7_hasTried 32 = .ok (.ireturn, 1) := by decide +kernel
theorem dX7_hasTried_33 : decode cX7_hasTried 33 = .ok (.iinc 2 1, 3) := by decide +kernel
theorem dX7_hasTried_36 : decode cX7_hasTried 36 = .ok (.goto (-34), 3) := by decide +kernel
theorem dX7_hasTried_39 : decode cX7_hasTried 39 = .ok (.iconst 0, 1) := by decide +kernel
theorem dX7_hasTried_40 : decode cX7_hasTried 40 = .ok (.ireturn, 1) := by decide +kernel
theorem dX8_init_0 : decode cX8_init 0 = .ok (.aload_n 0, 1) := by decide +kernel
theorem dX8_init_1 : decode cX8_init 1 = .ok (.invokespecial 3, 3) := by decide +kernel
theorem dX8_init_4 : decode cX8_init 4 = .ok (.aload_n 0, 1) := by decide +kernel
theorem dX8_init_5 : decode cX8_init 5 = .ok (.iconst 3, 1) := by decide +kernel
theorem dX8_init_6 : decode cX8_init 6 = .ok (.putfield 9, 3) := by decide +kernel
theorem dX8_init_9 : decode cX8_init 9 = .ok (.aload_n 0, 1) := by decide +kernel
theorem dX8_init_10 : decode cX8_init 10 = .ok (.iconst 4, 1) := by decide +kernel
theorem dX8_init_11 : decode cX8_init 11 = .ok (.putfield 13, 3) := by decide +kernel
theorem dX8_init_14 : decode cX8_init 14 = .ok (.aload_n 0, 1) := by decide +kernel
theorem dX8_init_15 : decode cX8_init 15 = .ok (.bipush 30, 2) := by decide +kernel
theorem dX8_init_17 : decode cX8_init 17 = .ok (.putfield 16, 3) := by decide +kernel
theorem dX8_init_20 : decode cX8_init 20 = .ok (.aload_n 0, 1) := by decide +kernel
theorem dX8_init_21 : decode cX8_init 21 = .ok (.iconst 3, 1) := by decide +kernel
theorem dX8_init_22 : decode cX8_init 22 = .ok (.bipush 49, 2) := by decide +kernel
theorem dX8_init_24 : decode cX8_init 24 = .ok (.multianewarray 19 2, 4) := by decide +kernel
theorem dX8_init_28 : decode cX8_init 28 = .ok (.putfield 21, 3) := by decide +kernel
theorem dX8_init_31 : decode cX8_init 31 = .ok (.aload_n 0, 1) := by decide +kernel
theorem dX8_init_32 : decode cX8_init 32 = .ok (.bipush 6, 2) := by decide +kernel
theorem dX8_init_34 : decode cX8_init 34 = .ok (.anewarray 24, 3) := by decide +kernel
theorem dX8_init_37 : decode cX8_init 37 = .ok (.putfield 26, 3) := by decide +kernel
theorem dX8_init_40 : decode cX8_init 40 = .ok (.aload_n 0, 1) := by decide +kernel
theorem dX8_init_41 : decode cX8_init 41 = .ok (.bipush 7, 2) := by decide +kernel
theorem dX8_init_43 : decode cX8_init 43 = .ok (.anewarray 30, 3) := by decide +kernel
theorem dX8_init_46 : decode cX8_init 46 = .ok (.putfield 32, 3) := by decide +kernel
theorem dX8_init_49 : decode cX8_init 49 = .ok (.aload_n 0, 1) := by decide +kernel
theorem dX8_init_50 : decode cX8_init 50 = .ok (.new 36, 3) := by decide +kernel
theorem dX8_init_53 : decode cX8_init 53 = .ok (.dup, 1) := by decide +kernel
theorem dX8_init_54 : decode cX8_init 54 = .ok (.invokespecial 38, 3) := by decide +kernel
theorem dX8_init_57 : decode cX8_init 57 = .ok (.putfield 39, 3) := by decide +kernel
theorem dX8_init_60 : decode cX8_init 60 = .ok (.aload_n 0, 1) := by decide +kernel
theorem dX8_init_61 : decode cX8_init 61 = .ok (.new 36, 3) := by decide +kernel
theorem dX8_init_64 : decode cX8_init 64 = .ok (.dup, 1) := by decide +kernel
theorem dX8_init_65 : decode cX8_init 65 = .ok (.invokespecial 38, 3) := by decide +kernel
theorem dX8_init_68 : decode cX8_init 68 = .ok (.putfield 43, 3) := by decide +kernel
theorem dX8_init_71 : decode cX8_init 71 = .ok (.aload_n 0, 1) := by decide +kernel
theorem dX8_init_72 : decode cX8_init 72 = .ok (.new 36, 3) := by decide +kernel
theorem dX8_init_75 : decode cX8_init 75 = .ok (.dup, 1) := by decide +kernel
theorem dX8_init_76 : decode cX8_init 76 = .ok (.invokespecial 38, 3) := by decide +kernel
theorem dX8_init_79 : decode cX8_init 79 = .ok (.putfield 46, 3) := by decide +kernel
theorem dX8_init_82 : decode cX8_init 82 = .ok (.aload_n 0, 1) := by decide +kernel
theorem dX8_init_83 : decode cX8_init 83 = .ok (.new 36, 3) := by decide +kernel
theorem dX8_init_86 : decode cX8_init 86 = .ok (.dup, 1) := by decide +kernel
theorem dX8_init_87 : decode cX8_init 87 = .ok (.invokespecial 38, 3) := by decide +kernel
theorem dX8_init_90 : decode cX8_init 90 = .ok (.putfield 49, 3) := by decide +kernel
theorem dX8_init_93 : decode cX8_init 93 = .ok (.iconst 0, 1) := by decide +kernel
theorem dX8_init_94 : decode cX8_init 94 = .ok (.istore_n 1, 1) := by decide +kernel
theorem dX8_init_95 : decode cX8_init 95 = .ok (.iload_n 1, 1) := by decide +kernel
theorem dX8_init_96 : decode cX8_init 96 = .ok (.bipush 6, 2) := by decide +kernel
theorem dX8_init_98 : decode cX8_init 98 = .ok (.if_icmp .ge 22, 3) := by decide +kernel
theorem dX8_init_101 : decode cX8_init 101 = .ok (.aload_n 0, 1) := by decide +kernel
theorem dX8_init_102 : decode cX8_init 102 = .ok (.getfield 26, 3) := by decide +kernel
theorem dX8_init_105 : decode cX8_init 105 = .ok (.iload_n 1, 1) := by decide +kernel
theorem dX8_init_106 : decode cX8_init 106 = .ok (.new 24, 3) := by decide +kernel
theorem dX8_init_109 : decode cX8_init 109 = .ok (.dup, 1) := by decide +kernel
theorem dX8_init_110 : decode cX8_init 110 = .ok (.invokespecial 52, 3) := by decide +kernel
theorem dX8_init_113 : decode cX8_init 113 = .ok (.aastore, 1) := by decide +kernel
theorem dX8_init_114 : decode cX8_init 114 = .ok (.iinc 1 1, 3) := by decide +kernel
theorem dX8_init_117 : decode cX8_init 117 = .ok (.goto (-22), 3) := by decide +kernel
theorem dX8_init_120 : decode cX8_init 120 = .ok (.iconst 0, 1) := by decide +kernel
theorem dX8_init_121 : decode cX8_init 121 = .ok (.istore_n 1, 1) := by decide +kernel
theorem dX8_init_122 : decode cX8_init 122 = .ok (.iload_n 1, 1) := by decide +kernel
theorem dX8_init_123 : decode cX8_init 123 = .ok (.bipush 7, 2) := by decide +kernel
theorem dX8_init_125 : decode cX8_init 125 = .ok (.if_icmp .ge 22, 3) := by decide +kernel
theorem dX8_init_128 : decode cX8_init 128 = .ok (.aload_n 0, 1) := by decide +kernel
theorem dX8_init_129 : decode cX8_init 129 = .ok (.getfield 32, 3) := by decide +kernel
theorem dX8_init_132 : decode cX8_init 132 = .ok (.iload_n 1, 1) := by decide +kernel
theorem dX8_init_133 : decode cX8_init 133 = .ok (.new 30, 3) := by decide +kernel
theorem dX8_init_136 : decode cX8_init 136 = .ok (.dup, 1) := by decide +kernel
theorem dX8_init_137 : decode cX8_init 137 = .ok (.invokespecial 53, 3) := by decide +kernel
theorem dX8_init_140 : decode cX8_init 140 = .ok (.aastore, 1) := by decide +kernel
theorem dX8_init_141 : decode cX8_init 141 = .ok (.iinc 1 1, 3) := by decide +kernel
theorem dX8_init_144 : decode cX8_init 144 = .ok (.goto (-22), 3) := by decide +kernel
theorem dX8_init_147 : decode cX8_init 147 = .ok (.iconst 0, 1) := by decide +kernel
theorem dX8_init_148 : decode cX8_init 148 = .ok (.istore_n 1, 1) := by decide +kernel
theorem dX8_init_149 : decode cX8_init 149 = .ok (.iload_n 1, 1) := by decide +kernel
theorem dX8_init_150 : decode cX8_init 150 = .ok (.iconst 3, 1) := by decide +kernel
theorem dX8_init_151 : decode cX8_init 151 = .ok (.if_icmp .ge 32, 3) := by decide +kernel
theorem dX8_init_154 : decode cX8_init 154 = .ok (.iconst 0, 1) := by decide +kernel
theorem dX8_init_155 : decode cX8_init 155 = .ok (.istore_n 2, 1) := by decide +kernel
theorem dX8_init_156 : decode cX8_init 156 = .ok (.iload_n 2, 1) := by decide +kernel
theorem dX8_init_157 : decode cX8_init 157 = .ok (.bipush 49, 2) := by decide +kernel
theorem dX8_init_159 : decode cX8_init 159 = .ok (.if_icmp .ge 18, 3) := by decide +kernel
theorem dX8_init_162 : decode cX8_init 162 = .ok (.aload_n 0, 1) := by decide +kernel
theorem dX8_init_163 : decode cX8_init 163 = .ok (.getfield 21, 3) := by decide +kernel
theorem dX8_init_166 : decode cX8_init 166 = .ok (.iload_n 1, 1) := by decide +kernel
theorem dX8_init_167 : decode cX8_init 167 = .ok (.aaload, 1) := by decide +kernel
theorem dX8_init_168 : decode cX8_init 168 = .ok (.iload_n 2, 1) := by decide +kernel
theorem dX8_init_169 : decode cX8_init 169 = .ok (.iconst (-1), 1) := by decide +kernel
theorem dX8_init_170 : decode cX8_init 170 = .ok (.iastore, 1) := by decide +kernel
theorem dX8_init_171 : decode cX8_init 171 = .ok (.iinc 2 1, 3) := by decide +kernel
theorem dX8_init_174 : decode cX8_init 174 = .ok (.goto (-18), 3) := by decide +kernel
theorem dX8_init_177 : decode cX8_init 177 = .ok (.iinc 1 1, 3) := by decide +kernel
theorem dX8_init_180 : decode cX8_init 180 = .ok (.goto (-31), 3) := by decide +kernel
theorem dX8_init_183 : decode cX8_init 183 = .ok (.return_, 1) := by decide +kernel
theorem dX8_work_0 : decode cX8_work 0 = .ok (.iload_n 1, 1) := by decide +kernel
theorem dX8_work_1 : decode cX8_work 1 = .ok (.iconst 0, 1) := by decide +kernel
theorem dX8_work_2 : decode cX8_work 2 = .ok (.iconst 5, 1) := by decide +kernel
theorem dX8_work_3 : decode cX8_work 3 = .ok (.invokestatic 54, 3) := by decide +kernel
theorem dX8_work_6 : decode cX8_work 6 = .ok (.invokestatic 58, 3) := by decide +kernel
theorem dX8_work_9 : decode cX8_work 9 = .ok (.iload_n 2, 1) := by decide +kernel
theorem dX8_work_10 : decode cX8_work 10 = .ok (.iconst 0, 1) := by decide +kernel
theorem dX8_work_11 : decode cX8_work 11 = .ok (.bipush 50, 2) := by decide +kernel
theorem dX8_work_13 : decode cX8_work 13 = .ok (.invokestatic 54, 3) := by decide +kernel
theorem dX8_work_16 : decode cX8_work 16 = .ok (.invokestatic 62, 3) := by decide +kernel
theorem dX8_work_19 : decode cX8_work 19 = .ok (.aload_n 0, 1) := by decide +kernel
theorem dX8_work_20 : decode cX8_work 20 = .ok (.getfield 26, 3) := by decide +kernel
theorem dX8_work_23 : decode cX8_work 23 = .ok (.iload_n 1, 1) := by decide +kernel
theorem dX8_work_24 : decode cX8_work 24 = .ok (.aaload, 1) := by decide +kernel
theorem dX8_work_25 : decode cX8_work 25 = .ok (.astore_n 3, 1) := by decide +kernel
theorem dX8_work_26 : decode cX8_work 26 = .ok (.aload_n 3, 1) := by decide +kernel
theorem dX8_work_27 : decode cX8_work 27 = .ok (.getfield 65, 3) := by decide +kernel
theorem dX8_work_30 : decode cX8_work 30 = .ok (.istore 4, 2) := by decide +kernel
theorem dX8_work_32 : decode cX8_work 32 = .ok (.aload_n 3, 1) := by decide +kernel
theorem dX8_work_33 : decode cX8_work 33 = .ok (.iload_n 2, 1) := by decide +kernel
theorem dX8_work_34 : decode cX8_work 34 = .ok (.putfield 65, 3) := by decide +kernel
theorem dX8_work_37 : decode cX8_work 37 = .ok (.iload 4, 2) := by decide +kernel
theorem dX8_work_39 : decode cX8_work 39 = .ok (.ireturn, 1) := by decide +kernel
theorem dX8_step_0 : decode cX8_step 0 = .ok (.iload_n 1, 1) := by decide +kernel
theorem dX8_step_1 : decode cX8_step 1 = .ok (.iconst 0, 1) := by decide +kernel
theorem dX8_step_2 : decode cX8_step 2 = .ok (.iconst 5, 1) := by decide +kernel
theorem dX8_step_3 : decode cX8_step 3 = .ok (.invokestatic 54, 3) := by decide +kernel
theorem dX8_step_6 : decode cX8_step 6 = .ok (.ifCond .eq 26, 3) := by decide +kernel
theorem dX8_step_9 : decode cX8_step 9 = .ok (.iload_n 2, 1) := by decide +kernel
theorem dX8_step_10 : decode cX8_step 10 = .ok (.iconst 0, 1) := by decide +kernel
theorem dX8_step_11 : decode cX8_step 11 = .ok (.iconst 5, 1) := by decide +kernel
theorem dX8_step_12 : decode cX8_step 12 = .ok (.invokestatic 54, 3) := by decide +kernel
theorem dX8_step_15 : decode cX8_step 15 = .ok (.ifCond .eq 17, 3) := by decide +kernel
theorem dX8_step_18 : decode cX8_step 18 = .ok (.iload 4, 2) := by decide +kernel
theorem dX8_step_20 : decode cX8_step 20 = .ok (.iconst (-1), 1) := by decide +kernel
theorem dX8_step_21 : decode cX8_step 21 = .ok (.iconst 5, 1) := by decide +kernel
theorem dX8_step_22 : decode cX8_step 22 = .ok (.invokestatic 54, 3) := by decide +kernel
theorem dX8_step_25 : decode cX8_step 25 = .ok (.ifCond .eq 7, 3) := by decide +kernel
theorem dX8_step_28 : decode cX8_step 28 = .ok (.iconst 1, 1) := by decide +kernel
theorem dX8_step_29 : decode cX8_step 29 = .ok (.goto 4, 3) := by decide +kernel
theorem dX8_step_32 : decode cX8_step 32 = .ok (.iconst 0, 1) := by decide +kernel
theorem dX8_step_33 : decode cX8_step 33 = .ok (.invokestatic 58, 3) := by decide +kernel
theorem dX8_step_36 : decode cX8_step 36 = .ok (.iload_n 2, 1) := by decide +kernel
theorem dX8_step_37 : decode cX8_step 37 = .ok (.iload_n 1, 1) := by decide +kernel
theorem dX8_step_38 : decode cX8_step 38 = .ok (.if_icmp .le 19, 3) := by decide +kernel
theorem dX8_step_41 : decode cX8_step 41 = .ok (.iload 4, 2) := by decide +kernel
theorem dX8_step_43 : decode cX8_step 43 = .ok (.iconst (-1), 1) := by decide +kernel
theorem dX8_step_44 : decode cX8_step 44 = .ok (.if_icmp .eq 9, 3) := by decide +kernel
theorem dX8_step_47 : decode cX8_step 47 = .ok (.iload 4, 2) := by decide +kernel
theorem dX8_step_49 : decode cX8_step 49 = .ok (.iload_n 1, 1) := by decide +kernel
theorem dX8_step_50 : decode cX8_step 50 = .ok (.if_icmp .le 7, 3) := by decide +kernel
theorem dX8_step_53 : decode cX8_step 53 = .ok (.iconst 1, 1) := by decide +kernel
theorem dX8_step_54 : decode cX8_step 54 = .ok (.goto 4, 3) := by decide +kernel
theorem dX8_step_57 : decode cX8_step 57 = .ok (.iconst 0, 1) := by decide +kernel
theorem dX8_step_58 : decode cX8_step 58 = .ok (.invokestatic 62, 3) := by decide +kernel
theorem dX8_step_61 : decode cX8_step 61 = .ok (.aload_n 0, 1) := by decide +kernel
theorem dX8_step_62 : decode cX8_step 62 = .ok (.getfield 26, 3) := by decide +kernel
theorem dX8_step_65 : decode cX8_step 65 = .ok (.iload_n 1, 1) := by decide +kernel
theorem dX8_step_66 : decode cX8_step 66 = .ok (.aaload, 1) := by decide +kernel
theorem dX8_step_67 : decode cX8_step 67 = .ok (.astore 5, 2) := by decide +kernel
theorem dX8_step_69 : decode cX8_step 69 = .ok (.aload 5, 2) := by decide +kernel
theorem dX8_step_71 : decode cX8_step 71 = .ok (.getfield 68, 3) := by decide +kernel
theorem dX8_step_74 : decode cX8_step 74 = .ok (.iconst 4, 1) := by decide +kernel
theorem dX8_step_75 : decode cX8_step 75 = .ok (.if_icmp .ge 17, 3) := by decide +kernel
theorem dX8_step_78 : decode cX8_step 78 = .ok (.aload_n 0, 1) := by decide +kernel
theorem dX8_step_79 : decode cX8_step 79 = .ok (.getfield 43, 3) := by decide +kernel
theorem dX8_step_82 : decode cX8_step 82 = .ok (.invokevirtual 71, 3) := by decide +kernel
theorem dX8_step_85 : decode cX8_step 85 = .ok (.ifCond .eq 7, 3) := by decide +kernel
theorem dX8_step_88 : decode cX8_step 88 = .ok (.iconst 1, 1) := by decide +kernel
theorem dX8_step_89 : decode cX8_step 89 = .ok (.goto 4, 3) := by decide +kernel
theorem dX8_step_92 : decode cX8_step 92 = .ok (.iconst 0, 1) := by decide +kernel
theorem dX8_step_93 : decode cX8_step 93 = .ok (.invokestatic 75, 3) := by decide +kernel
theorem dX8_step_96 : decode cX8_step 96 = .ok (.aload 5, 2) := by decide +kernel
theorem dX8_step_98 : decode cX8_step 98 = .ok (.iload_n 2, 1) := by decide +kernel
theorem dX8_step_99 : decode cX8_step 99 = .ok (.iload_n 3, 1) := by decide +kernel
theorem dX8_step_100 : decode cX8_step 100 = .ok (.iload 4, 2) := by decide +kernel
theorem dX8_step_102 : decode cX8_step 102 = .ok (.invokevirtual 78, 3) := by decide +kernel
theorem dX8_step_105 : decode cX8_step 105 = .ok (.aload 5, 2) := by decide +kernel
theorem dX8_step_107 : decode cX8_step 107 = .ok (.getfield 68, 3) := by decide +kernel
theorem dX8_step_110 : decode cX8_step 110 = .ok (.ireturn, 1) := by decide +kernel
theorem dX8_instance_0 : decode cX8_instance 0 = .ok (.iload_n 1, 1) := by decide +kernel
theorem dX8_instance_1 : decode cX8_instance 1 = .ok (.iconst 0, 1) := by decide +kernel
theorem dX8_instance_2 : decode cX8_instance 2 = .ok (.iconst 5, 1) := by decide +kernel
theorem dX8_instance_3 : decode cX8_instance 3 = .ok (.invokestatic 54, 3) := by decide +kernel
theorem dX8_instance_6 : decode cX8_instance 6 = .ok (.invokestatic 58, 3) := by decide +kernel
theorem dX8_instance_9 : decode cX8_instance 9 = .ok (.iload_n 2, 1) := by decide +kernel
theorem dX8_instance_10 : decode cX8_instance 10 = .ok (.iconst 0, 1) := by decide +kernel
theorem dX8_instance_11 : decode cX8_instance 11 = .ok (.iconst 2, 1) := by decide +kernel
theorem dX8_instance_12 : decode cX8_instance 12 = .ok (.invokestatic 54, 3) := by decide +kernel
theorem dX8_instance_15 : decode cX8_instance 15 = .ok (.ifCond .eq 28, 3) := by decide +kernel
theorem dX8_instance_18 : decode cX8_instance 18 = .ok (.iload_n 3, 1) := by decide +kernel
theorem dX8_instance_19 : decode cX8_instance 19 = .ok (.iconst 1, 1) := by decide +kernel
theorem dX8_instance_20 : decode cX8_instance 20 = .ok (.bipush 9, 2) := by decide +kernel
theorem dX8_instance_22 : decode cX8_instance 22 = .ok (.invokestatic 54, 3) := by decide +kernel
theorem dX8_instance_25 : decode cX8_instance 25 = .ok (.ifCond .eq 18, 3) := by decide +kernel
theorem dX8_instance_28 : decode cX8_instance 28 = .ok (.iload 4, 2) := by decide +kernel
theorem dX8_instance_30 : decode cX8_instance 30 = .ok (.iconst 1, 1) := by decide +kernel
theorem dX8_instance_31 : decode cX8_instance 31 = .ok (.bipush 9, 2) := by decide +kernel
theorem dX8_instance_33 : decode cX8_instance 33 = .ok (.invokestatic 54, 3) := by decide +kernel
theorem dX8_instance_36 : decode cX8_instance 36 = .ok (.ifCond .eq 7, 3) := by decide +kernel
theorem dX8_instance_39 : decode cX8_instance 39 = .ok (.iconst 1, 1) := by decide +kernel
theorem dX8_instance_40 : decode cX8_instance 40 = .ok (.goto 4, 3) := by decide +kernel
theorem dX8_instance_43 : decode cX8_instance 43 = .ok (.iconst 0, 1) := by decide +kernel
theorem dX8_instance_44 : decode cX8_instance 44 = .ok (.invokestatic 62, 3) := by decide +kernel
theorem dX8_instance_47 : decode cX8_instance 47 = .ok (.iload 5, 2) := by decide +kernel
theorem dX8_instance_49 : decode cX8_instance 49 = .ok (.iconst 0, 1) := by decide +kernel
theorem dX8_instance_50 : decode cX8_instance 50 = .ok (.bipush 9, 2) := by decide +kernel
theorem dX8_instance_52 : decode cX8_instance 52 = .ok (.invokestatic 54, 3) := by decide +kernel
theorem dX8_instance_55 : decode cX8_instance 55 = .ok (.ifCond .eq 17, 3) := by decide +kernel
theorem dX8_instance_58 : decode cX8_instance 58 = .ok (.iload 6, 2) := by decide +kernel
theorem dX8_instance_60 : decode cX8_instance 60 = .ok (.iconst 0, 1) := by decide +kernel
theorem dX8_instance_61 : decode cX8_instance 61 = .ok (.iconst 1, 1) := by decide +kernel
theorem dX8_instance_62 : decode cX8_instance 62 = .ok (.invokestatic 54, 3) := by decide +kernel
theorem dX8_instance_65 : decode cX8_instance 65 = .ok (.ifCond .eq 7, 3) := by decide +kernel
theorem dX8_instance_68 : decode cX8_instance 68 = .ok (.iconst 1, 1) := by decide +kernel
theorem dX8_instance_69 : decode cX8_instance 69 = .ok (.goto 4, 3) := by decide +kernel
theorem dX8_instance_72 : decode cX8_instance 72 = .ok (.iconst 0, 1) := by decide +kernel
theorem dX8_instance_73 : decode cX8_instance 73 = .ok (.invokestatic 62, 3) := by decide +kernel
theorem dX8_instance_76 : decode cX8_instance 76 = .ok (.aload_n 0, 1) := by decide +kernel
theorem dX8_instance_77 : decode cX8_instance 77 = .ok (.getfield 39, 3) := by decide +kernel
theorem dX8_instance_80 : decode cX8_instance 80 = .ok (.invokevirtual 82, 3) := by decide +kernel
theorem dX8_instance_83 : decode cX8_instance 83 = .ok (.bipush 12, 2) := by decide +kernel
theorem dX8_instance_85 : decode cX8_instance 85 = .ok (.if_icmp .ge 7, 3) := by decide +kernel
theorem dX8_instance_88 : decode cX8_instance 88 = .ok (.iconst 1, 1) := by decide +kernel
theorem dX8_instance_89 : decode cX8_instance 89 = .ok (.goto 4, 3) := by decide +kernel
theorem dX8_instance_92 : decode cX8_instance 92 = .ok (.iconst 0, 1) := by decide +kernel
theorem dX8_instance_93 : decode cX8_instance 93 = .ok (.invokestatic 75, 3) := by decide +kernel
theorem dX8_instance_96 : decode cX8_instance 96 = .ok (.new 86, 3) := by decide +kernel
theorem dX8_instance_99 : decode cX8_instance 99 = .ok (.dup, 1) := by decide +kernel
theorem dX8_instance_100 : decode cX8_instance 100 = .ok (.aload_n 0, 1) := by decide +kernel
theorem dX8_instance_101 : decode cX8_instance 101 = .ok (.getfield 39, 3) := by decide +kernel
theorem dX8_instance_104 : decode cX8_instance 104 = .ok (.invokevirtual 82, 3) := by decide +kernel
theorem dX8_instance_107 : decode cX8_instance 107 = .ok (.iload_n 1, 1) := by decide +kernel
theorem dX8_instance_108 : decode cX8_instance 108 = .ok (.iload_n 2, 1) := by decide +kernel
theorem dX8_instance_109 : decode cX8_instance 109 = .ok (.iload_n 3, 1) := by decide +kernel
theorem dX8_instance_110 : decode cX8_instance 110 = .ok (.iload 4, 2) := by decide +kernel
theorem dX8_instance_112 : decode cX8_instance 112 = .ok (.iload 5, 2) := by decide +kernel
theorem dX8_instance_114 : decode cX8_instance 114 = .ok (.iload 6, 2) := by decide +kernel
theorem dX8_instance_116 : decode cX8_instance 116 = .ok (.invokespecial 88, 3) := by decide +kernel
theorem dX8_instance_119 : decode cX8_instance 119 = .ok (.astore 7, 2) := by decide +kernel
theorem dX8_instance_121 : decode cX8_instance 121 = .ok (.aload_n 0, 1) := by decide +kernel
theorem dX8_instance_122 : decode cX8_instance 122 = .ok (.getfield 39, 3) := by decide +kernel
theorem dX8_instance_125 : decode cX8_instance 125 = .ok (.aload 7, 2) := by decide +kernel
theorem dX8_instance_127 : decode cX8_instance 127 = .ok (.invokevirtual 91, 3) := by decide +kernel
theorem dX8_instance_130 : decode cX8_instance 130 = .ok (.pop, 1) := by decide +kernel
theorem dX8_instance_131 : decode cX8_instance 131 = .ok (.aload 7, 2) := by decide +kernel
theorem dX8_instance_133 : decode cX8_instance 133 = .ok (.getfield 95, 3) := by decide +kernel
theorem dX8_instance_136 : decode cX8_instance 136 = .ok (.ireturn, 1) := by decide +kernel
theorem dX8_fault_0 : decode cX8_fault 0 = .ok (.iload_n 1, 1) := by decide +kernel
theorem dX8_fault_1 : decode cX8_fault 1 = .ok (.iconst 0, 1) := by decide +kernel
theorem dX8_fault_2 : decode cX8_fault 2 = .ok (.aload_n 0, 1) := by decide +kernel
theorem dX8_fault_3 : decode cX8_fault 3 = .ok (.getfield 39, 3) := by decide +kernel
theorem dX8_fault_6 : decode cX8_fault 6 = .ok (.invokevirtual 82, 3) := by decide +kernel
theorem dX8_fault_9 : decode cX8_fault 9 = .ok (.iconst 1, 1) := by decide +kernel
theorem dX8_fault_10 : decode cX8_fault 10 = .ok (.isub, 1) := by decide +kernel
theorem dX8_fault_11 : decode cX8_fault 11 = .ok (.invokestatic 54, 3) := by decide +kernel
theorem dX8_fault_14 : decode cX8_fault 14 = .ok (.invokestatic 58, 3) := by decide +kernel
theorem dX8_fault_17 : decode cX8_fault 17 = .ok (.iload_n 2, 1) := by decide +kernel
theorem dX8_fault_18 : decode cX8_fault 18 = .ok (.iconst 0, 1) := by decide +kernel
theorem dX8_fault_19 : decode cX8_fault 19 = .ok (.iconst 3, 1) := by decide +kernel
theorem dX8_fault_20 : decode cX8_fault 20 = .ok (.invokestatic 54, 3) := by decide +kernel
theorem dX8_fault_23 : decode cX8_fault 23 = .ok (.invokestatic 62, 3) := by decide +kernel
theorem dX8_fault_26 : decode cX8_fault 26 = .ok (.iload_n 3, 1) := by decide +kernel
theorem dX8_fault_27 : decode cX8_fault 27 = .ok (.iconst 0, 1) := by decide +kernel
theorem dX8_fault_28 : decode cX8_fault 28 = .ok (.iload_n 2, 1) := by decide +kernel
theorem dX8_fault_29 : decode cX8_fault 29 = .ok (.ifCond .ne 8, 3) := by decide +kernel
theorem dX8_fault_32 : decode cX8_fault 32 = .ok (.bipush 50, 2) := by decide +kernel
theorem dX8_fault_34 : decode cX8_fault 34 = .ok (.goto 4, 3) := by decide +kernel
theorem dX8_fault_37 : decode cX8_fault 37 = .ok (.iconst 1, 1) := by decide +kernel
theorem dX8_fault_38 : decode cX8_fault 38 = .ok (.invokestatic 54, 3) := by decide +kernel
theorem dX8_fault_41 : decode cX8_fault 41 = .ok (.invokestatic 62, 3) := by decide +kernel
theorem dX8_fault_44 : decode cX8_fault 44 = .ok (.aload_n 0, 1) := by decide +kernel
theorem dX8_fault_45 : decode cX8_fault 45 = .ok (.getfield 39, 3) := by decide +kernel
theorem dX8_fault_48 : decode cX8_fault 48 = .ok (.iload_n 1, 1) := by decide +kernel
theorem dX8_fault_49 : decode cX8_fault 49 = .ok (.invokevirtual 98, 3) := by decide +kernel
theorem dX8_fault_52 : decode cX8_fault 52 = .ok (.checkcast 86, 3) := by decide +kernel
theorem dX8_fault_55 : decode cX8_fault 55 = .ok (.getfield 102, 3) := by decide +kernel
theorem dX8_fault_58 : decode cX8_fault 58 = .ok (.astore 4, 2) := by decide +kernel
theorem dX8_fault_60 : decode cX8_fault 60 = .ok (.aload 4, 2) := by decide +kernel
theorem dX8_fault_62 : decode cX8_fault 62 = .ok (.iload_n 2, 1) := by decide +kernel
theorem dX8_fault_63 : decode cX8_fault 63 = .ok (.iaload, 1) := by decide +kernel
theorem dX8_fault_64 : decode cX8_fault 64 = .ok (.istore 5, 2) := by decide +kernel
theorem dX8_fault_66 : decode cX8_fault 66 = .ok (.aload 4, 2) := by decide +kernel
theorem dX8_fault_68 : decode cX8_fault 68 = .ok (.iload_n 2, 1) := by decide +kernel
theorem dX8_fault_69 : decode cX8_fault 69 = .ok (.iload_n 3, 1) := by decide +kernel
theorem dX8_fault_70 : decode cX8_fault 70 = .ok (.iastore, 1) := by decide +kernel
theorem dX8_fault_71 : decode cX8_fault 71 = .ok (.iload 5, 2) := by decide +kernel
theorem dX8_fault_73 : decode cX8_fault 73 = .ok (.ireturn, 1) := by decide +kernel
theorem dX8_policy_0 : decode cX8_policy 0 = .ok (.iload_n 1, 1) := by decide +kernel
theorem dX8_policy_1 : decode cX8_policy 1 = .ok (.iconst (-1), 1) := by decide +kernel
theorem dX8_policy_2 : decode cX8_policy 2 = .ok (.bipush 6, 2) := by decide +kernel
theorem dX8_policy_4 : decode cX8_policy 4 = .ok (.invokestatic 54, 3) := by decide +kernel
theorem dX8_policy_7 : decode cX8_policy 7 = .ok (.ifCond .eq 16, 3) := by decide +kernel
theorem dX8_policy_10 : decode cX8_policy 10 = .ok (.iload_n 2, 1) := by decide +kernel
theorem dX8_policy_11 : decode cX8_policy 11 = .ok (.iconst (-1), 1) := by decide +kernel
theorem dX8_policy_12 : decode cX8_policy 12 = .ok (.iconst 5, 1) := by decide +kernel
theorem dX8_policy_13 : decode cX8_policy 13 = .ok (.invokestatic 54, 3) := by decide +kernel
theorem dX8_policy_16 : decode cX8_policy 16 = .ok (.ifCond .eq 7, 3) := by decide +kernel
theorem dX8_policy_19 : decode cX8_policy 19 = .ok (.iconst 1, 1) := by decide +kernel
theorem dX8_policy_20 : decode cX8_policy 20 = .ok (.goto 4, 3) := by decide +kernel
theorem dX8_policy_23 : decode cX8_policy 23 = .ok (.iconst 0, 1) := by decide +kernel
theorem dX8_policy_24 : decode cX8_policy 24 = .ok (.invokestatic 58, 3) := by decide +kernel
theorem dX8_policy_27 : decode cX8_policy 27 = .ok (.iload_n 1, 1) := by decide +kernel
theorem dX8_policy_28 : decode cX8_policy 28 = .ok (.iconst (-1), 1) := by decide +kernel
theorem dX8_policy_29 : decode cX8_policy 29 = .ok (.if_icmp .eq 8, 3) := by decide +kernel
theorem dX8_policy_32 : decode cX8_policy 32 = .ok (.iload_n 2, 1) := by decide +kernel
theorem dX8_policy_33 : decode cX8_policy 33 = .ok (.iconst (-1), 1) := by decide +kernel
theorem dX8_policy_34 : decode cX8_policy 34 = .ok (.if_icmp .eq 7, 3) := by decide +kernel
theorem dX8_policy_37 : decode cX8_policy 37 = .ok (.iconst 1, 1) := by decide +kernel
theorem dX8_policy_38 : decode cX8_policy 38 = .ok (.goto 4, 3) := by decide +kernel
theorem dX8_policy_41 : decode cX8_policy 41 = .ok (.iconst 0, 1) := by decide +kernel
theorem dX8_policy_42 : decode cX8_policy 42 = .ok (.invokestatic 62, 3) := by decide +kernel
theorem dX8_policy_45 : decode cX8_policy 45 = .ok (.iload_n 3, 1) := by decide +kernel
theorem dX8_policy_46 : decode cX8_policy 46 = .ok (.iconst 0, 1) := by decide +kernel
theorem dX8_policy_47 : decode cX8_policy 47 = .ok (.iconst 2, 1) := by decide +kernel
theorem dX8_policy_48 : decode cX8_policy 48 = .ok (.invokestatic 54, 3) := by decide +kernel
theorem dX8_policy_51 : decode cX8_policy 51 = .ok (.invokestatic 62, 3) := by decide +kernel
theorem dX8_policy_54 : decode cX8_policy 54 = .ok (.iload 4, 2) := by decide +kernel
theorem dX8_policy_56 : decode cX8_policy 56 = .ok (.getstatic 106, 3) := by decide +kernel
theorem dX8_policy_59 : decode cX8_policy 59 = .ok (.iload_n 3, 1) := by decide +kernel
theorem dX8_policy_60 : decode cX8_policy 60 = .ok (.iaload, 1) := by decide +kernel
theorem dX8_policy_61 : decode cX8_policy 61 = .ok (.getstatic 109, 3) := by decide +kernel
theorem dX8_policy_64 : decode cX8_policy 64 = .ok (.iload_n 3, 1) := by decide +kernel
theorem dX8_policy_65 : decode cX8_policy 65 = .ok (.iaload, 1) := by decide +kernel
theorem dX8_policy_66 : decode cX8_policy 66 = .ok (.invokestatic 54, 3) := by decide +kernel
theorem dX8_policy_69 : decode cX8_policy 69 = .ok (.invokestatic 62, 3) := by decide +kernel
theorem dX8_policy_72 : decode cX8_policy 72 = .ok (.iload_n 1, 1) := by decide +kernel
theorem dX8_policy_73 : decode cX8_policy 73 = .ok (.iload_n 2, 1) := by decide +kernel
theorem dX8_policy_74 : decode cX8_policy 74 = .ok (.invokestatic 112, 3) := by decide +kernel
theorem dX8_policy_77 : decode cX8_policy 77 = .ok (.istore 5, 2) := by decide +kernel
theorem dX8_policy_79 : decode cX8_policy 79 = .ok (.aload_n 0, 1) := by decide +kernel
theorem dX8_policy_80 : decode cX8_policy 80 = .ok (.getfield 21, 3) := by decide +kernel
theorem dX8_policy_83 : decode cX8_policy 83 = .ok (.iload_n 3, 1) := by decide +kernel
theorem dX8_policy_84 : decode cX8_policy 84 = .ok (.aaload, 1) := by decide +kernel
