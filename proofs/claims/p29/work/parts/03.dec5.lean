theorem dJx4a65c_elementData_915e3_6 : decode cJx4a65c_elementData_915e3 6 = .ok (.areturn, 1) := by decide +kernel
theorem dJx4a65c_get_915e3_0 : decode cJx4a65c_get_915e3 0 = .ok (.iload_n 1, 1) := by decide +kernel
theorem dJx4a65c_get_915e3_1 : decode cJx4a65c_get_915e3 1 = .ok (.aload_n 0, 1) := by decide +kernel
theorem dJx4a65c_get_915e3_2 : decode cJx4a65c_get_915e3 2 = .ok (.getfield 48, 3) := by decide +kernel
theorem dJx4a65c_get_915e3_5 : decode cJx4a65c_get_915e3 5 = .ok (.invokestatic 118, 3) := by decide +kernel
theorem dJx4a65c_get_915e3_8 : decode cJx4a65c_get_915e3 8 = .ok (.pop, 1) := by decide +kernel
theorem dJx4a65c_get_915e3_9 : decode cJx4a65c_get_915e3 9 = .ok (.aload_n 0, 1) := by decide +kernel
theorem dJx4a65c_get_915e3_10 : decode cJx4a65c_get_915e3 10 = .ok (.iload_n 1, 1) := by decide +kernel
theorem dJx4a65c_get_915e3_11 : decode cJx4a65c_get_915e3 11 = .ok (.invokevirtual 123, 3) := by decide +kernel
theorem dJx4a65c_get_915e3_14 : decode cJx4a65c_get_915e3 14 = .ok (.areturn, 1) := by decide +kernel
theorem dJx4a65c_add_72be8_0 : decode cJx4a65c_add_72be8 0 = .ok (.iload_n 3, 1) := by decide +kernel
theorem dJx4a65c_add_72be8_1 : decode cJx4a65c_add_72be8 1 = .ok (.aload_n 2, 1) := by decide +kernel
theorem dJx4a65c_add_72be8_2 : decode cJx4a65c_add_72be8 2 = .ok (.arraylength, 1) := by decide +kernel
theorem dJx4a65c_add_72be8_3 : decode cJx4a65c_add_72be8 3 = .ok (.if_icmp .ne 8, 3) := by decide +kernel
theorem dJx4a65c_add_72be8_6 : decode cJx4a65c_add_72be8 6 = .ok (.aload_n 0, 1) := by decide +kernel
theorem dJx4a65c_add_72be8_7 : decode cJx4a65c_add_72be8 7 = .ok (.invokevirtual 129, 3) := by decide +kernel
theorem dJx4a65c_add_72be8_10 : decode cJx4a65c_add_72be8 10 = .ok (.astore_n 2, 1) := by decide +kernel
theorem dJx4a65c_add_72be8_11 : decode cJx4a65c_add_72be8 11 = .ok (.aload_n 2, 1) := by decide +kernel
theorem dJx4a65c_add_72be8_12 : decode cJx4a65c_add_72be8 12 = .ok (.iload_n 3, 1) := by decide +kernel
theorem dJx4a65c_add_72be8_13 : decode cJx4a65c_add_72be8 13 = .ok (.aload_n 1, 1) := by decide +kernel
theorem dJx4a65c_add_72be8_14 : decode cJx4a65c_add_72be8 14 = .ok (.aastore, 1) := by decide +kernel
theorem dJx4a65c_add_72be8_15 : decode cJx4a65c_add_72be8 15 = .ok (.aload_n 0, 1) := by decide +kernel
theorem dJx4a65c_add_72be8_16 : decode cJx4a65c_add_72be8 16 = .ok (.iload_n 3, 1) := by decide +kernel
theorem dJx4a65c_add_72be8_17 : decode cJx4a65c_add_72be8 17 = .ok (.iconst 1, 1) := by decide +kernel
theorem dJx4a65c_add_72be8_18 : decode cJx4a65c_add_72be8 18 = .ok (.iadd, 1) := by decide +kernel
theorem dJx4a65c_add_72be8_19 : decode cJx4a65c_add_72be8 19 = .ok (.putfield 48, 3) := by decide +kernel
theorem dJx4a65c_add_72be8_22 : decode cJx4a65c_add_72be8 22 = .ok (.return_, 1) := by decide +kernel
theorem dJx4a65c_add_9ea2d_0 : decode cJx4a65c_add_9ea2d 0 = .ok (.aload_n 0, 1) := by decide +kernel
theorem dJx4a65c_add_9ea2d_1 : decode cJx4a65c_add_9ea2d 1 = .ok (.dup, 1) := by decide +kernel
theorem dJx4a65c_add_9ea2d_2 : decode cJx4a65c_add_9ea2d 2 = .ok (.getfield 63, 3) := by decide +kernel
theorem dJx4a65c_add_9ea2d_5 : decode cJx4a65c_add_9ea2d 5 = .ok (.iconst 1, 1) := by decide +kernel
theorem dJx4a65c_add_9ea2d_6 : decode cJx4a65c_add_9ea2d 6 = .ok (.iadd, 1) := by decide +kernel
theorem dJx4a65c_add_9ea2d_7 : decode cJx4a65c_add_9ea2d 7 = .ok (.putfield 63, 3) := by decide +kernel
theorem dJx4a65c_add_9ea2d_10 : decode cJx4a65c_add_9ea2d 10 = .ok (.aload_n 0, 1) := by decide +kernel
theorem dJx4a65c_add_9ea2d_11 : decode cJx4a65c_add_9ea2d 11 = .ok (.aload_n 1, 1) := by decide +kernel
theorem dJx4a65c_add_9ea2d_12 : decode cJx4a65c_add_9ea2d 12 = .ok (.aload_n 0, 1) := by decide +kernel
theorem dJx4a65c_add_9ea2d_13 : decode cJx4a65c_add_9ea2d 13 = .ok (.getfield 9, 3) := by decide +kernel
theorem dJx4a65c_add_9ea2d_16 : decode cJx4a65c_add_9ea2d 16 = .ok (.aload_n 0, 1) := by decide +kernel
theorem dJx4a65c_add_9ea2d_17 : decode cJx4a65c_add_9ea2d 17 = .ok (.getfield 48, 3) := by decide +kernel
theorem dJx4a65c_add_9ea2d_20 : decode cJx4a65c_add_9ea2d 20 = .ok (.invokevirtual 131, 3) := by decide +kernel
theorem dJx4a65c_add_9ea2d_23 : decode cJx4a65c_add_9ea2d 23 = .ok (.iconst 1, 1) := by decide +kernel
theorem dJx4a65c_add_9ea2d_24 : decode cJx4a65c_add_9ea2d 24 = .ok (.ireturn, 1) := by decide +kernel
theorem dJx4a65c_remove_915e3_0 : decode cJx4a65c_remove_915e3 0 = .ok (.iload_n 1, 1) := by decide +kernel
theorem dJx4a65c_remove_915e3_1 : decode cJx4a65c_remove_915e3 1 = .ok (.aload_n 0, 1) := by decide +kernel
theorem dJx4a65c_remove_915e3_2 : decode cJx4a65c_remove_915e3 2 = .ok (.getfield 48, 3) := by decide +kernel
theorem dJx4a65c_remove_915e3_5 : decode cJx4a65c_remove_915e3 5 = .ok (.invokestatic 118, 3) := by decide +kernel
theorem dJx4a65c_remove_915e3_8 : decode cJx4a65c_remove_915e3 8 = .ok (.pop, 1) := by decide +kernel
theorem dJx4a65c_remove_915e3_9 : decode cJx4a65c_remove_915e3 9 = .ok (.aload_n 0, 1) := by decide +kernel
theorem dJx4a65c_remove_915e3_10 : decode cJx4a65c_remove_915e3 10 = .ok (.getfield 9, 3) := by decide +kernel
theorem dJx4a65c_remove_915e3_13 : decode cJx4a65c_remove_915e3 13 = .ok (.astore_n 2, 1) := by decide +kernel
theorem dJx4a65c_remove_915e3_14 : decode cJx4a65c_remove_915e3 14 = .ok (.aload_n 2, 1) := by decide +kernel
theorem dJx4a65c_remove_915e3_15 : decode cJx4a65c_remove_915e3 15 = .ok (.iload_n 1, 1) := by decide +kernel
theorem dJx4a65c_remove_915e3_16 : decode cJx4a65c_remove_915e3 16 = .ok (.aaload, 1) := by decide +kernel
theorem dJx4a65c_remove_915e3_17 : decode cJx4a65c_remove_915e3 17 = .ok (.astore_n 3, 1) := by decide +kernel
theorem dJx4a65c_remove_915e3_18 : decode cJx4a65c_remove_915e3 18 = .ok (.aload_n 0, 1) := by decide +kernel
theorem dJx4a65c_remove_915e3_19 : decode cJx4a65c_remove_915e3 19 = .ok (.aload_n 2, 1) := by decide +kernel
theorem dJx4a65c_remove_915e3_20 : decode cJx4a65c_remove_915e3 20 = .ok (.iload_n 1, 1) := by decide +kernel
theorem dJx4a65c_remove_915e3_21 : decode cJx4a65c_remove_915e3 21 = .ok (.invokevirtual 144, 3) := by decide +kernel
theorem dJx4a65c_remove_915e3_24 : decode cJx4a65c_remove_915e3 24 = .ok (.aload_n 3, 1) := by decide +kernel
theorem dJx4a65c_remove_915e3_25 : decode cJx4a65c_remove_915e3 25 = .ok (.areturn, 1) := by decide +kernel
theorem dJx4a65c_fastRemove_b59b0_0 : decode cJx4a65c_fastRemove_b59b0 0 = .ok (.aload_n 0, 1) := by decide +kernel
theorem dJx4a65c_fastRemove_b59b0_1 : decode cJx4a65c_fastRemove_b59b0 1 = .ok (.dup, 1) := by decide +kernel
theorem dJx4a65c_fastRemove_b59b0_2 : decode cJx4a65c_fastRemove_b59b0 2 = .ok (.getfield 63, 3) := by decide +kernel
theorem dJx4a65c_fastRemove_b59b0_5 : decode cJx4a65c_fastRemove_b59b0 5 = .ok (.iconst 1, 1) := by decide +kernel
theorem dJx4a65c_fastRemove_b59b0_6 : decode cJx4a65c_fastRemove_b59b0 6 = .ok (.iadd, 1) := by decide +kernel
theorem dJx4a65c_fastRemove_b59b0_7 : decode cJx4a65c_fastRemove_b59b0 7 = .ok (.putfield 63, 3) := by decide +kernel
theorem dJx4a65c_fastRemove_b59b0_10 : decode cJx4a65c_fastRemove_b59b0 10 = .ok (.aload_n 0, 1) := by decide +kernel
theorem dJx4a65c_fastRemove_b59b0_11 : decode cJx4a65c_fastRemove_b59b0 11 = .ok (.getfield 48, 3) := by decide +kernel
theorem dJx4a65c_fastRemove_b59b0_14 : decode cJx4a65c_fastRemove_b59b0 14 = .ok (.iconst 1, 1) := by decide +kernel
theorem dJx4a65c_fastRemove_b59b0_15 : decode cJx4a65c_fastRemove_b59b0 15 = .ok (.isub, 1) := by decide +kernel
theorem dJx4a65c_fastRemove_b59b0_16 : decode cJx4a65c_fastRemove_b59b0 16 = .ok (.dup, 1) := by decide +kernel
theorem dJx4a65c_fastRemove_b59b0_17 : decode cJx4a65c_fastRemove_b59b0 17 = .ok (.istore_n 3, 1) := by decide +kernel
theorem dJx4a65c_fastRemove_b59b0_18 : decode cJx4a65c_fastRemove_b59b0 18 = .ok (.iload_n 2, 1) := by decide +kernel
theorem dJx4a65c_fastRemove_b59b0_19 : decode cJx4a65c_fastRemove_b59b0 19 = .ok (.if_icmp .le 15, 3) := by decide +kernel
theorem dJx4a65c_fastRemove_b59b0_22 : decode cJx4a65c_fastRemove_b59b0 22 = .ok (.aload_n 1, 1) := by decide +kernel
theorem dJx4a65c_fastRemove_b59b0_23 : decode cJx4a65c_fastRemove_b59b0 23 = .ok (.iload_n 2, 1) := by decide +kernel
theorem dJx4a65c_fastRemove_b59b0_24 : decode cJx4a65c_fastRemove_b59b0 24 = .ok (.iconst 1, 1) := by decide +kernel
theorem dJx4a65c_fastRemove_b59b0_25 : decode cJx4a65c_fastRemove_b59b0 25 = .ok (.iadd, 1) := by decide +kernel
theorem dJx4a65c_fastRemove_b59b0_26 : decode cJx4a65c_fastRemove_b59b0 26 = .ok (.aload_n 1, 1) := by decide +kernel
theorem dJx4a65c_fastRemove_b59b0_27 : decode cJx4a65c_fastRemove_b59b0 27 = .ok (.iload_n 2, 1) := by decide +kernel
theorem dJx4a65c_fastRemove_b59b0_28 : decode cJx4a65c_fastRemove_b59b0 28 = .ok (.iload_n 3, 1) := by decide +kernel
theorem dJx4a65c_fastRemove_b59b0_29 : decode cJx4a65c_fastRemove_b59b0 29 = .ok (.iload_n 2, 1) := by decide +kernel
theorem dJx4a65c_fastRemove_b59b0_30 : decode cJx4a65c_fastRemove_b59b0 30 = .ok (.isub, 1) := by decide +kernel
theorem dJx4a65c_fastRemove_b59b0_31 : decode cJx4a65c_fastRemove_b59b0 31 = .ok (.invokestatic 112, 3) := by decide +kernel
theorem dJx4a65c_fastRemove_b59b0_34 : decode cJx4a65c_fastRemove_b59b0 34 = .ok (.aload_n 1, 1) := by decide +kernel
theorem dJx4a65c_fastRemove_b59b0_35 : decode cJx4a65c_fastRemove_b59b0 35 = .ok (.aload_n 0, 1) := by decide +kernel
theorem dJx4a65c_fastRemove_b59b0_36 : decode cJx4a65c_fastRemove_b59b0 36 = .ok (.iload_n 3, 1) := by decide +kernel
theorem dJx4a65c_fastRemove_b59b0_37 : decode cJx4a65c_fastRemove_b59b0 37 = .ok (.dup_x1, 1) := by decide +kernel
theorem dJx4a65c_fastRemove_b59b0_38 : decode cJx4a65c_fastRemove_b59b0 38 = .ok (.putfield 48, 3) := by decide +kernel
theorem dJx4a65c_fastRemove_b59b0_41 : decode cJx4a65c_fastRemove_b59b0 41 = .ok (.aconst_null, 1) := by decide +kernel
theorem dJx4a65c_fastRemove_b59b0_42 : decode cJx4a65c_fastRemove_b59b0 42 = .ok (.aastore, 1) := by decide +kernel
theorem dJx4a65c_fastRemove_b59b0_43 : decode cJx4a65c_fastRemove_b59b0 43 = .ok (.return_, 1) := by decide +kernel
theorem dJ7_copyOf_1904c_0 : decode cJ7_copyOf_1904c 0 = .ok (.aload_n 0, 1) := by decide +kernel
theorem dJ7_copyOf_1904c_1 : decode cJ7_copyOf_1904c 1 = .ok (.iload_n 1, 1) := by decide +kernel
theorem dJ7_copyOf_1904c_2 : decode cJ7_copyOf_1904c 2 = .ok (.aload_n 0, 1) := by decide +kernel
theorem dJ7_copyOf_1904c_3 : decode cJ7_copyOf_1904c 3 = .ok (.invokevirtual 86, 3) := by decide +kernel
theorem dJ7_copyOf_1904c_6 : decode cJ7_copyOf_1904c 6 = .ok (.invokestatic 300, 3) := by decide +kernel
theorem dJ7_copyOf_1904c_9 : decode cJ7_copyOf_1904c 9 = .ok (.areturn, 1) := by decide +kernel
theorem dJ7_copyOf_6403c_0 : decode cJ7_copyOf_6403c 0 = .ok (.aload_n 2, 1) := by decide +kernel
theorem dJ7_copyOf_6403c_1 : decode cJ7_copyOf_6403c 1 = .ok (.ldc 110, 2) := by decide +kernel
theorem dJ7_copyOf_6403c_3 : decode cJ7_copyOf_6403c 3 = .ok (.if_acmp .ne 10, 3) := by decide +kernel
theorem dJ7_copyOf_6403c_6 : decode cJ7_copyOf_6403c 6 = .ok (.iload_n 1, 1) := by decide +kernel
theorem dJ7_copyOf_6403c_7 : decode cJ7_copyOf_6403c 7 = .ok (.anewarray 2, 3) := by decide +kernel
theorem dJ7_copyOf_6403c_10 : decode cJ7_copyOf_6403c 10 = .ok (.goto 14, 3) := by decide +kernel
theorem dJ7_copyOf_6403c_13 : decode cJ7_copyOf_6403c 13 = .ok (.aload_n 2, 1) := by decide +kernel
theorem dJ7_copyOf_6403c_14 : decode cJ7_copyOf_6403c 14 = .ok (.invokevirtual 90, 3) := by decide +kernel
theorem dJ7_copyOf_6403c_17 : decode cJ7_copyOf_6403c 17 = .ok (.iload_n 1, 1) := by decide +kernel
theorem dJ7_copyOf_6403c_18 : decode cJ7_copyOf_6403c 18 = .ok (.invokestatic 95, 3) := by decide +kernel
theorem dJ7_copyOf_6403c_21 : decode cJ7_copyOf_6403c 21 = .ok (.checkcast 110, 3) := by decide +kernel
theorem dJ7_copyOf_6403c_24 : decode cJ7_copyOf_6403c 24 = .ok (.astore_n 3, 1) := by decide +kernel
theorem dJ7_copyOf_6403c_25 : decode cJ7_copyOf_6403c 25 = .ok (.aload_n 0, 1) := by decide +kernel
theorem dJ7_copyOf_6403c_26 : decode cJ7_copyOf_6403c 26 = .ok (.iconst 0, 1) := by decide +kernel
theorem dJ7_copyOf_6403c_27 : decode cJ7_copyOf_6403c 27 = .ok (.aload_n 3, 1) := by decide +kernel
theorem dJ7_copyOf_6403c_28 : decode cJ7_copyOf_6403c 28 = .ok (.iconst 0, 1) := by decide +kernel
theorem dJ7_copyOf_6403c_29 : decode cJ7_copyOf_6403c 29 = .ok (.aload_n 0, 1) := by decide +kernel
theorem dJ7_copyOf_6403c_30 : decode cJ7_copyOf_6403c 30 = .ok (.arraylength, 1) := by decide +kernel
theorem dJ7_copyOf_6403c_31 : decode cJ7_copyOf_6403c 31 = .ok (.iload_n 1, 1) := by decide +kernel
theorem dJ7_copyOf_6403c_32 : decode cJ7_copyOf_6403c 32 = .ok (.invokestatic 304, 3) := by decide +kernel
theorem dJ7_copyOf_6403c_35 : decode cJ7_copyOf_6403c 35 = .ok (.invokestatic 150, 3) := by decide +kernel
theorem dJ7_copyOf_6403c_38 : decode cJ7_copyOf_6403c 38 = .ok (.aload_n 3, 1) := by decide +kernel
theorem dJ7_copyOf_6403c_39 : decode cJ7_copyOf_6403c 39 = .ok (.areturn, 1) := by decide +kernel
theorem dJ15_checkIndex_7cf53_0 : decode cJ15_checkIndex_7cf53 0 = .ok (.iload_n 0, 1) := by decide +kernel
theorem dJ15_checkIndex_7cf53_1 : decode cJ15_checkIndex_7cf53 1 = .ok (.iload_n 1, 1) := by decide +kernel
theorem dJ15_checkIndex_7cf53_2 : decode cJ15_checkIndex_7cf53 2 = .ok (.aconst_null, 1) := by decide +kernel
theorem dJ15_checkIndex_7cf53_3 : decode cJ15_checkIndex_7cf53 3 = .ok (.invokestatic 105, 3) := by decide +kernel
theorem dJ15_checkIndex_7cf53_6 : decode cJ15_checkIndex_7cf53 6 = .ok (.ireturn, 1) := by decide +kernel
theorem dJ8_newLength_cabcc_0 : decode cJ8_newLength_cabcc 0 = .ok (.iload_n 0, 1) := by decide +kernel
theorem dJ8_newLength_cabcc_1 : decode cJ8_newLength_cabcc 1 = .ok (.iload_n 1, 1) := by decide +kernel
theorem dJ8_newLength_cabcc_2 : decode cJ8_newLength_cabcc 2 = .ok (.iload_n 2, 1) := by decide +kernel
theorem dJ8_newLength_cabcc_3 : decode cJ8_newLength_cabcc 3 = .ok (.invokestatic 194, 3) := by decide +kernel
theorem dJ8_newLength_cabcc_6 : decode cJ8_newLength_cabcc 6 = .ok (.iadd, 1) := by decide +kernel
theorem dJ8_newLength_cabcc_7 : decode cJ8_newLength_cabcc 7 = .ok (.istore_n 3, 1) := by decide +kernel
theorem dJ8_newLength_cabcc_8 : decode cJ8_newLength_cabcc 8 = .ok (.iconst 0, 1) := by decide +kernel
theorem dJ8_newLength_cabcc_9 : decode cJ8_newLength_cabcc 9 = .ok (.iload_n 3, 1) := by decide +kernel
theorem dJ8_newLength_cabcc_10 : decode cJ8_newLength_cabcc 10 = .ok (.if_icmp .ge 11, 3) := by decide +kernel
theorem dJ8_newLength_cabcc_13 : decode cJ8_newLength_cabcc 13 = .ok (.iload_n 3, 1) := by decide +kernel
theorem dJ8_newLength_cabcc_14 : decode cJ8_newLength_cabcc 14 = .ok (.ldc 200, 2) := by decide +kernel
theorem dJ8_newLength_cabcc_16 : decode cJ8_newLength_cabcc 16 = .ok (.if_icmp .gt 5, 3) := by decide +kernel
theorem dJ8_newLength_cabcc_19 : decode cJ8_newLength_cabcc 19 = .ok (.iload_n 3, 1) := by decide +kernel
theorem dJ8_newLength_cabcc_20 : decode cJ8_newLength_cabcc 20 = .ok (.ireturn, 1) := by decide +kernel
theorem dJ8_newLength_cabcc_21 : decode cJ8_newLength_cabcc 21 = .ok (.iload_n 0, 1) := by decide +kernel
theorem dJ8_newLength_cabcc_22 : decode cJ8_newLength_cabcc 22 = .ok (.iload_n 1, 1) := by decide +kernel
theorem dJ8_newLength_cabcc_23 : decode cJ8_newLength_cabcc 23 = .ok (.invokestatic 201, 3) := by decide +kernel
theorem dJ8_newLength_cabcc_26 : decode cJ8_newLength_cabcc 26 = .ok (.ireturn, 1) := by decide +kernel
theorem dJ8_hugeLength_7cf53_0 : decode cJ8_hugeLength_7cf53 0 = .ok (.iload_n 0, 1) := by decide +kernel
theorem dJ8_hugeLength_7cf53_1 : decode cJ8_hugeLength_7cf53 1 = .ok (.iload_n 1, 1) := by decide +kernel
theorem dJ8_hugeLength_7cf53_2 : decode cJ8_hugeLength_7cf53 2 = .ok (.iadd, 1) := by decide +kernel
theorem dJ8_hugeLength_7cf53_3 : decode cJ8_hugeLength_7cf53 3 = .ok (.istore_n 2, 1) := by decide +kernel
theorem dJ8_hugeLength_7cf53_4 : decode cJ8_hugeLength_7cf53 4 = .ok (.iload_n 2, 1) := by decide +kernel
theorem dJ8_hugeLength_7cf53_5 : decode cJ8_hugeLength_7cf53 5 = .ok (.ifCond .ge 44, 3) := by decide +kernel
theorem dJ8_hugeLength_7cf53_8 : decode cJ8_hugeLength_7cf53 8 = .ok (.new 204, 3) := by decide +kernel
theorem dJ8_hugeLength_7cf53_11 : decode cJ8_hugeLength_7cf53 11 = .ok (.dup, 1) := by decide +kernel
theorem dJ8_hugeLength_7cf53_12 : decode cJ8_hugeLength_7cf53 12 = .ok (.new 89, 3) := by decide +kernel
theorem dJ8_hugeLength_7cf53_15 : decode cJ8_hugeLength_7cf53 15 = .ok (.dup, 1) := by decide +kernel
theorem dJ8_hugeLength_7cf53_16 : decode cJ8_hugeLength_7cf53 16 = .ok (.invokespecial 91, 3) := by decide +kernel
theorem dJ8_hugeLength_7cf53_19 : decode cJ8_hugeLength_7cf53 19 = .ok (.ldc 206, 2) := by decide +kernel
theorem dJ8_hugeLength_7cf53_21 : decode cJ8_hugeLength_7cf53 21 = .ok (.invokevirtual 94, 3) := by decide +kernel
theorem dJ8_hugeLength_7cf53_24 : decode cJ8_hugeLength_7cf53 24 = .ok (.iload_n 0, 1) := by decide +kernel
theorem dJ8_hugeLength_7cf53_25 : decode cJ8_hugeLength_7cf53 25 = .ok (.invokevirtual 98, 3) := by decide +kernel
theorem dJ8_hugeLength_7cf53_28 : decode cJ8_hugeLength_7cf53 28 = .ok (.ldc 208, 2) := by decide +kernel
theorem dJ8_hugeLength_7cf53_30 : decode cJ8_hugeLength_7cf53 30 = .ok (.invokevirtual 94, 3) := by decide +kernel
theorem dJ8_hugeLength_7cf53_33 : decode cJ8_hugeLength_7cf53 33 = .ok (.iload_n 1, 1) := by decide +kernel
theorem dJ8_hugeLength_7cf53_34 : decode cJ8_hugeLength_7cf53 34 = .ok (.invokevirtual 98, 3) := by decide +kernel
theorem dJ8_hugeLength_7cf53_37 : decode cJ8_hugeLength_7cf53 37 = .ok (.ldc 210, 2) := by decide +kernel
theorem dJ8_hugeLength_7cf53_39 : decode cJ8_hugeLength_7cf53 39 = .ok (.invokevirtual 94, 3) := by decide +kernel
theorem dJ8_hugeLength_7cf53_42 : decode cJ8_hugeLength_7cf53 42 = .ok (.invokevirtual 101, 3) := by decide +kernel
theorem dJ8_hugeLength_7cf53_45 : decode cJ8_hugeLength_7cf53 45 = .ok (.invokespecial 212, 3) := by decide +kernel
theorem dJ8_hugeLength_7cf53_48 : decode cJ8_hugeLength_7cf53 48 = .ok (.athrow, 1) := by decide +kernel
theorem dJ8_hugeLength_7cf53_49 : decode cJ8_hugeLength_7cf53 49 = .ok (.iload_n 2, 1) := by decide +kernel
theorem dJ8_hugeLength_7cf53_50 : decode cJ8_hugeLength_7cf53 50 = .ok (.ldc 200, 2) := by decide +kernel
theorem dJ8_hugeLength_7cf53_52 : decode cJ8_hugeLength_7cf53 52 = .ok (.if_icmp .gt 6, 3) := by decide +kernel
theorem dJ8_hugeLength_7cf53_55 : decode cJ8_hugeLength_7cf53 55 = .ok (.ldc 200, 2) := by decide +kernel
theorem dJ8_hugeLength_7cf53_57 : decode cJ8_hugeLength_7cf53 57 = .ok (.ireturn, 1) := by decide +kernel
theorem dJ8_hugeLength_7cf53_58 : decode cJ8_hugeLength_7cf53 58 = .ok (.iload_n 2, 1) := by decide +kernel
theorem dJ8_hugeLength_7cf53_59 : decode cJ8_hugeLength_7cf53 59 = .ok (.ireturn, 1) := by decide +kernel
theorem dJ3_checkIndex_8e157_0 : decode cJ3_checkIndex_8e157 0 = .ok (.iload_n 0, 1) := by decide +kernel
theorem dJ3_checkIndex_8e157_1 : decode cJ3_checkIndex_8e157 1 = .ok (.ifCond .lt 8, 3) := by decide +kernel
theorem dJ3_checkIndex_8e157_4 : decode cJ3_checkIndex_8e157 4 = .ok (.iload_n 0, 1) := by decide +kernel
theorem dJ3_checkIndex_8e157_5 : decode cJ3_checkIndex_8e157 5 = .ok (.iload_n 1, 1) := by decide +kernel
theorem dJ3_checkIndex_8e157_6 : decode cJ3_checkIndex_8e157 6 = .ok (.if_icmp .lt 10, 3) := by decide +kernel
theorem dJ3_checkIndex_8e157_9 : decode cJ3_checkIndex_8e157 9 = .ok (.aload_n 2, 1) := by decide +kernel
theorem dJ3_checkIndex_8e157_10 : decode cJ3_checkIndex_8e157 10 = .ok (.iload_n 0, 1) := by decide +kernel
theorem dJ3_checkIndex_8e157_11 : decode cJ3_checkIndex_8e157 11 = .ok (.iload_n 1, 1) := by decide +kernel
theorem dJ3_checkIndex_8e157_12 : decode cJ3_checkIndex_8e157 12 = .ok (.invokestatic 95, 3) := by decide +kernel
theorem dJ3_checkIndex_8e157_15 : decode cJ3_checkIndex_8e157 15 = .ok (.athrow, 1) := by decide +kernel
theorem dJ3_checkIndex_8e157_16 : decode cJ3_checkIndex_8e157 16 = .ok (.iload_n 0, 1) := by decide +kernel
theorem dJ3_checkIndex_8e157_17 : decode cJ3_checkIndex_8e157 17 = .ok (.ireturn, 1) := by decide +kernel
theorem dL_at_0 : decode cL_at 0 = .ok (.iload_n 1, 1) := by decide +kernel
theorem dL_at_1 : decode cL_at 1 = .ok (.aload_n 0, 1) := by decide +kernel
theorem dL_at_2 : decode cL_at 2 = .ok (.arraylength, 1) := by decide +kernel
theorem dL_at_3 : decode cL_at 3 = .ok (.if_icmp .ge 9, 3) := by decide +kernel
theorem dL_at_6 : decode cL_at 6 = .ok (.aload_n 0, 1) := by decide +kernel
theorem dL_at_7 : decode cL_at 7 = .ok (.iload_n 1, 1) := by decide +kernel
theorem dL_at_8 : decode cL_at 8 = .ok (.iaload, 1) := by decide +kernel
theorem dL_at_9 : decode cL_at 9 = .ok (.goto 12, 3) := by decide +kernel
theorem dL_at_12 : decode cL_at 12 = .ok (.ldc 7, 2) := by decide +kernel
theorem dL_at_14 : decode cL_at 14 = .ok (.iload_n 1, 1) := by decide +kernel
theorem dL_at_15 : decode cL_at 15 = .ok (.iconst 1, 1) := by decide +kernel
theorem dL_at_16 : decode cL_at 16 = .ok (.iadd, 1) := by decide +kernel
theorem dL_at_17 : decode cL_at 17 = .ok (.imul, 1) := by decide +kernel
theorem dL_at_18 : decode cL_at 18 = .ok (.ldc 8, 2) := by decide +kernel
theorem dL_at_20 : decode cL_at 20 = .ok (.iadd, 1) := by decide +kernel
theorem dL_at_21 : decode cL_at 21 = .ok (.ireturn, 1) := by decide +kernel
theorem dL_low_0 : decode cL_low 0 = .ok (.iload_n 0, 1) := by decide +kernel
theorem dL_low_1 : decode cL_low 1 = .ok (.ldc 9, 2) := by decide +kernel
theorem dL_low_3 : decode cL_low 3 = .ok (.iand, 1) := by decide +kernel
theorem dL_low_4 : decode cL_low 4 = .ok (.iload_n 1, 1) := by decide +kernel
theorem dL_low_5 : decode cL_low 5 = .ok (.irem, 1) := by decide +kernel
theorem dL_low_6 : decode cL_low 6 = .ok (.ireturn, 1) := by decide +kernel
theorem dL_work_0 : decode cL_work 0 = .ok (.aload_n 0, 1) := by decide +kernel
theorem dL_work_1 : decode cL_work 1 = .ok (.iload_n 1, 1) := by decide +kernel
theorem dL_work_2 : decode cL_work 2 = .ok (.iload_n 2, 1) := by decide +kernel
theorem dL_work_3 : decode cL_work 3 = .ok (.invokevirtual 10, 3) := by decide +kernel
theorem dL_work_6 : decode cL_work 6 = .ok (.ireturn, 1) := by decide +kernel
theorem dL_work_7 : decode cL_work 7 = .ok (.astore_n 3, 1) := by decide +kernel
theorem dL_work_8 : decode cL_work 8 = .ok (.ldc 18, 2) := by decide +kernel
theorem dL_work_10 : decode cL_work 10 = .ok (.ireturn, 1) := by decide +kernel
theorem dL_work_11 : decode cL_work 11 = .ok (.astore_n 3, 1) := by decide +kernel
theorem dL_work_12 : decode cL_work 12 = .ok (.ldc 21, 2) := by decide +kernel
theorem dL_work_14 : decode cL_work 14 = .ok (.ireturn, 1) := by decide +kernel
theorem dL_step_0 : decode cL_step 0 = .ok (.aload_n 0, 1) := by decide +kernel
theorem dL_step_1 : decode cL_step 1 = .ok (.iload_n 1, 1) := by decide +kernel
theorem dL_step_2 : decode cL_step 2 = .ok (.iload_n 2, 1) := by decide +kernel
theorem dL_step_3 : decode cL_step 3 = .ok (.iload_n 3, 1) := by decide +kernel
theorem dL_step_4 : decode cL_step 4 = .ok (.iload 4, 2) := by decide +kernel
theorem dL_step_6 : decode cL_step 6 = .ok (.invokevirtual 22, 3) := by decide +kernel
theorem dL_step_9 : decode cL_step 9 = .ok (.ireturn, 1) := by decide +kernel
theorem dL_step_10 : decode cL_step 10 = .ok (.astore 5, 2) := by decide +kernel
theorem dL_step_12 : decode cL_step 12 = .ok (.ldc 18, 2) := by decide +kernel
theorem dL_step_14 : decode cL_step 14 = .ok (.ireturn, 1) := by decide +kernel
theorem dL_step_15 : decode cL_step 15 = .ok (.astore 5, 2) := by decide +kernel
theorem dL_step_17 : decode cL_step 17 = .ok (.ldc 21, 2) := by decide +kernel
theorem dL_step_19 : decode cL_step 19 = .ok (.ireturn, 1) := by decide +kernel
theorem dL_step_20 : decode cL_step 20 = .ok (.astore 5, 2) := by decide +kernel
theorem dL_step_22 : decode cL_step 22 = .ok (.ldc 28, 2) := by decide +kernel
theorem dL_step_24 : decode cL_step 24 = .ok (.ireturn, 1) := by decide +kernel
theorem dL_instance_0 : decode cL_instance 0 = .ok (.aload_n 0, 1) := by decide +kernel
theorem dL_instance_1 : decode cL_instance 1 = .ok (.iload_n 1, 1) := by decide +kernel
theorem dL_instance_2 : decode cL_instance 2 = .ok (.iload_n 2, 1) := by decide +kernel
theorem dL_instance_3 : decode cL_instance 3 = .ok (.iload_n 3, 1) := by decide +kernel
theorem dL_instance_4 : decode cL_instance 4 = .ok (.iload 4, 2) := by decide +kernel
theorem dL_instance_6 : decode cL_instance 6 = .ok (.iload 5, 2) := by decide +kernel
theorem dL_instance_8 : decode cL_instance 8 = .ok (.iload 6, 2) := by decide +kernel
theorem dL_instance_10 : decode cL_instance 10 = .ok (.invokevirtual 29, 3) := by decide +kernel
theorem dL_instance_13 : decode cL_instance 13 = .ok (.ireturn, 1) := by decide +kernel
theorem dL_instance_14 : decode cL_instance 14 = .ok (.astore 7, 2) := by decide +kernel
theorem dL_instance_16 : decode cL_instance 16 = .ok (.ldc 18, 2) := by decide +kernel
theorem dL_instance_18 : decode cL_instance 18 = .ok (.ireturn, 1) := by decide +kernel
theorem dL_instance_19 : decode cL_instance 19 = .ok (.astore 7, 2) := by decide +kernel
theorem dL_instance_21 : decode cL_instance 21 = .ok (.ldc 21, 2) := by decide +kernel
theorem dL_instance_23 : decode cL_instance 23 = .ok (.ireturn, 1) := by decide +kernel
theorem dL_instance_24 : decode cL_instance 24 = .ok (.astore 7, 2) := by decide +kernel
theorem dL_instance_26 : decode cL_instance 26 = .ok (.ldc 28, 2) := by decide +kernel
theorem dL_instance_28 : decode cL_instance 28 = .ok (.ireturn, 1) := by decide +kernel
theorem dL_fault_0 : decode cL_fault 0 = .ok (.aload_n 0, 1) := by decide +kernel
theorem dL_fault_1 : decode cL_fault 1 = .ok (.iload_n 1, 1) := by decide +kernel
theorem dL_fault_2 : decode cL_fault 2 = .ok (.iload_n 2, 1) := by decide +kernel
theorem dL_fault_3 : decode cL_fault 3 = .ok (.iload_n 3, 1) := by decide +kernel
theorem dL_fault_4 : decode cL_fault 4 = .ok (.invokevirtual 33, 3) := by decide +kernel
theorem dL_fault_7 : decode cL_fault 7 = .ok (.ireturn, 1) := by decide +kernel
theorem dL_fault_8 : decode cL_fault 8 = .ok (.astore 4, 2) := by decide +kernel
theorem dL_fault_10 : decode cL_fault 10 = .ok (.ldc 18, 2) := by decide +kernel
theorem dL_fault_12 : decode cL_fault 12 = .ok (.ireturn, 1) := by decide +kernel
theorem dL_fault_13 : decode cL_fault 13 = .ok (.astore 4, 2) := by decide +kernel
theorem dL_fault_15 : decode cL_fault 15 = .ok (.ldc 21, 2) := by decide +kernel
theorem dL_fault_17 : decode cL_fault 17 = .ok (.ireturn, 1) := by decide +kernel
theorem dL_policy_0 : decode cL_policy 0 = .ok (.aload_n 0, 1) := by decide +kernel
theorem dL_policy_1 : decode cL_policy 1 = .ok (.iload_n 1, 1) := by decide +kernel
theorem dL_policy_2 : decode cL_policy 2 = .ok (.iload_n 2, 1) := by decide +kernel
theorem dL_policy_3 : decode cL_policy 3 = .ok (.iload_n 3, 1) := by decide +kernel
theorem dL_policy_4 : decode cL_policy 4 = .ok (.iload 4, 2) := by decide +kernel
theorem dL_policy_6 : decode cL_policy 6 = .ok (.invokevirtual 37, 3) := by decide +kernel
theorem dL_policy_9 : decode cL_policy 9 = .ok (.ireturn, 1) := by decide +kernel
theorem dL_policy_10 : decode cL_policy 10 = .ok (.astore 5, 2) := by decide +kernel
theorem dL_policy_12 : decode cL_policy 12 = .ok (.ldc 18, 2) := by decide +kernel
theorem dL_policy_14 : decode cL_policy 14 = .ok (.ireturn, 1) := by decide +kernel
theorem dL_policy_15 : decode cL_policy 15 = .ok (.astore 5, 2) := by decide +kernel
theorem dL_policy_17 : decode cL_policy 17 = .ok (.ldc 21, 2) := by decide +kernel
theorem dL_policy_19 : decode cL_policy 19 = .ok (.ireturn, 1) := by decide +kernel
theorem dL_share_0 : decode cL_share 0 = .ok (.aload_n 0, 1) := by decide +kernel
theorem dL_share_1 : decode cL_share 1 = .ok (.iload_n 1, 1) := by decide +kernel
theorem dL_share_2 : decode cL_share 2 = .ok (.iload_n 2, 1) := by decide +kernel
theorem dL_share_3 : decode cL_share 3 = .ok (.invokevirtual 41, 3) := by decide +kernel
theorem dL_share_6 : decode cL_share 6 = .ok (.ireturn, 1) := by decide +kernel
theorem dL_share_7 : decode cL_share 7 = .ok (.astore_n 3, 1) := by decide +kernel
theorem dL_share_8 : decode cL_share 8 = .ok (.ldc 18, 2) := by decide +kernel
theorem dL_share_10 : decode cL_share 10 = .ok (.ireturn, 1) := by decide +kernel
theorem dL_share_11 : decode cL_share 11 = .ok (.astore_n 3, 1) := by decide +kernel
theorem dL_share_12 : decode cL_share 12 = .ok (.ldc 21, 2) := by decide +kernel
theorem dL_share_14 : decode cL_share 14 = .ok (.ireturn, 1) := by decide +kernel
theorem dL_eyes_0 : decode cL_eyes 0 = .ok (.aload_n 0, 1) := by decide +kernel
theorem dL_eyes_1 : decode cL_eyes 1 = .ok (.iload_n 1, 1) := by decide +kernel
theorem dL_eyes_2 : decode cL_eyes 2 = .ok (.invokevirtual 44, 3) := by decide +kernel
theorem dL_eyes_5 : decode cL_eyes 5 = .ok (.ireturn, 1) := by decide +kernel
theorem dL_eyes_6 : decode cL_eyes 6 = .ok (.astore_n 2, 1) := by decide +kernel
theorem dL_eyes_7 : decode cL_eyes 7 = .ok (.ldc 21, 2) := by decide +kernel
theorem dL_eyes_9 : decode cL_eyes 9 = .ok (.ireturn, 1) := by decide +kernel
theorem dL_canary_0 : decode cL_canary 0 = .ok (.aload_n 0, 1) := by decide +kernel
theorem dL_canary_1 : decode cL_canary 1 = .ok (.iload_n 1, 1) := by decide +kernel
theorem dL_canary_2 : decode cL_canary 2 = .ok (.iload_n 2, 1) := by decide +kernel
theorem dL_canary_3 : decode cL_canary 3 = .ok (.invokevirtual 48, 3) := by decide +kernel
theorem dL_canary_6 : decode cL_canary 6 = .ok (.ireturn, 1) := by decide +kernel
theorem dL_canary_7 : decode cL_canary 7 = .ok (.astore_n 3, 1) := by decide +kernel
theorem dL_canary_8 : decode cL_canary 8 = .ok (.ldc 18, 2) := by decide +kernel
theorem dL_canary_10 : decode cL_canary 10 = .ok (.ireturn, 1) := by decide +kernel
theorem dL_canary_11 : decode cL_canary 11 = .ok (.astore_n 3, 1) := by decide +kernel
theorem dL_canary_12 : decode cL_canary 12 = .ok (.ldc 21, 2) := by decide +kernel
theorem dL_canary_14 : decode cL_canary 14 = .ok (.ireturn, 1) := by decide +kernel
theorem dL_request_0 : decode cL_request 0 = .ok (.aload_n 0, 1) := by decide +kernel
theorem dL_request_1 : decode cL_request 1 = .ok (.iload_n 1, 1) := by decide +kernel
theorem dL_request_2 : decode cL_request 2 = .ok (.iload_n 2, 1) := by decide +kernel
theorem dL_request_3 : decode cL_request 3 = .ok (.iload_n 3, 1) := by decide +kernel
theorem dL_request_4 : decode cL_request 4 = .ok (.invokevirtual 55, 3) := by decide +kernel
theorem dL_request_7 : decode cL_request 7 = .ok (.ireturn, 1) := by decide +kernel
theorem dL_request_8 : decode cL_request 8 = .ok (.astore 4, 2) := by decide +kernel
theorem dL_request_10 : decode cL_request 10 = .ok (.ldc 18, 2) := by decide +kernel
theorem dL_request_12 : decode cL_request 12 = .ok (.ireturn, 1) := by decide +kernel
theorem dL_request_13 : decode cL_request 13 = .ok (.astore 4, 2) := by decide +kernel
theorem dL_request_15 : decode cL_request 15 = .ok (.ldc 21, 2) := by decide +kernel
theorem dL_request_17 : decode cL_request 17 = .ok (.ireturn, 1) := by decide +kernel
theorem dL_request_18 : decode cL_request 18 = .ok (.astore 4, 2) := by decide +kernel
theorem dL_request_20 : decode cL_request 20 = .ok (.ldc 28, 2) := by decide +kernel
theorem dL_request_22 : decode cL_request 22 = .ok (.ireturn, 1) := by decide +kernel
theorem dL_pass_0 : decode cL_pass 0 = .ok (.aload_n 0, 1) := by decide +kernel
theorem dL_pass_1 : decode cL_pass 1 = .ok (.iload_n 1, 1) := by decide +kernel
theorem dL_pass_2 : decode cL_pass 2 = .ok (.invokevirtual 59, 3) := by decide +kernel
theorem dL_pass_5 : decode cL_pass 5 = .ok (.ireturn, 1) := by decide +kernel
theorem dL_pass_6 : decode cL_pass 6 = .ok (.astore_n 2, 1) := by decide +kernel
theorem dL_pass_7 : decode cL_pass 7 = .ok (.ldc 21, 2) := by decide +kernel
theorem dL_pass_9 : decode cL_pass 9 = .ok (.ireturn, 1) := by decide +kernel
theorem dL_pass_10 : decode cL_pass 10 = .ok (.astore_n 2, 1) := by decide +kernel
theorem dL_pass_11 : decode cL_pass 11 = .ok (.ldc 28, 2) := by decide +kernel
theorem dL_pass_13 : decode cL_pass 13 = .ok (.ireturn, 1) := by decide +kernel
theorem dL_requestState_0 : decode cL_requestState 0 = .ok (.aload_n 0, 1) := by decide +kernel
theorem dL_requestState_1 : decode cL_requestState 1 = .ok (.iload_n 1, 1) := by decide +kernel
theorem dL_requestState_2 : decode cL_requestState 2 = .ok (.invokevirtual 62, 3) := by decide +kernel
theorem dL_requestState_5 : decode cL_requestState 5 = .ok (.ireturn, 1) := by decide +kernel
theorem dL_requestState_6 : decode cL_requestState 6 = .ok (.astore_n 2, 1) := by decide +kernel
theorem dL_requestState_7 : decode cL_requestState 7 = .ok (.ldc 18, 2) := by decide +kernel
theorem dL_requestState_9 : decode cL_requestState 9 = .ok (.ireturn, 1) := by decide +kernel
theorem dL_requestTicks_0 : decode cL_requestTicks 0 = .ok (.aload_n 0, 1) := by decide +kernel
theorem dL_requestTicks_1 : decode cL_requestTicks 1 = .ok (.iload_n 1, 1) := by decide +kernel
theorem dL_requestTicks_2 : decode cL_requestTicks 2 = .ok (.invokevirtual 65, 3) := by decide +kernel
theorem dL_requestTicks_5 : decode cL_requestTicks 5 = .ok (.ireturn, 1) := by decide +kernel
theorem dL_requestTicks_6 : decode cL_requestTicks 6 = .ok (.astore_n 2, 1) := by decide +kernel
theorem dL_requestTicks_7 : decode cL_requestTicks 7 = .ok (.ldc 18, 2) := by decide +kernel
theorem dL_requestTicks_9 : decode cL_requestTicks 9 = .ok (.ireturn, 1) := by decide +kernel
theorem dL_isKept_0 : decode cL_isKept 0 = .ok (.aload_n 0, 1) := by decide +kernel
theorem dL_isKept_1 : decode cL_isKept 1 = .ok (.iload_n 1, 1) := by decide +kernel
theorem dL_isKept_2 : decode cL_isKept 2 = .ok (.invokevirtual 68, 3) := by decide +kernel
theorem dL_isKept_5 : decode cL_isKept 5 = .ok (.ifCond .eq 7, 3) := by decide +kernel
theorem dL_isKept_8 : decode cL_isKept 8 = .ok (.iconst 1, 1) := by decide +kernel
theorem dL_isKept_9 : decode cL_isKept 9 = .ok (.goto 4, 3) := by decide +kernel
theorem dL_isKept_12 : decode cL_isKept 12 = .ok (.iconst 0, 1) := by decide +kernel
theorem dL_isKept_13 : decode cL_isKept 13 = .ok (.ireturn, 1) := by decide +kernel
theorem dL_isKept_14 : decode cL_isKept 14 = .ok (.astore_n 2, 1) := by decide +kernel
theorem dL_isKept_15 : decode cL_isKept 15 = .ok (.ldc 18, 2) := by decide +kernel
theorem dL_isKept_17 : decode cL_isKept 17 = .ok (.ireturn, 1) := by decide +kernel
theorem dL_callsOf_0 : decode cL_callsOf 0 = .ok (.aload_n 0, 1) := by decide +kernel
theorem dL_callsOf_1 : decode cL_callsOf 1 = .ok (.iload_n 1, 1) := by decide +kernel
theorem dL_callsOf_2 : decode cL_callsOf 2 = .ok (.invokevirtual 72, 3) := by decide +kernel
theorem dL_callsOf_5 : decode cL_callsOf 5 = .ok (.ireturn, 1) := by decide +kernel
theorem dL_callsOf_6 : decode cL_callsOf 6 = .ok (.astore_n 2, 1) := by decide +kernel
theorem dL_callsOf_7 : decode cL_callsOf 7 = .ok (.ldc 18, 2) := by decide +kernel
theorem dL_callsOf_9 : decode cL_callsOf 9 = .ok (.ireturn, 1) := by decide +kernel
theorem dL_call_0 : decode cL_call 0 = .ok (.aload_n 0, 1) := by decide +kernel
theorem dL_call_1 : decode cL_call 1 = .ok (.iload_n 1, 1) := by decide +kernel
theorem dL_call_2 : decode cL_call 2 = .ok (.iload_n 2, 1) := by decide +kernel
theorem dL_call_3 : decode cL_call 3 = .ok (.invokevirtual 75, 3) := by decide +kernel
theorem dL_call_6 : decode cL_call 6 = .ok (.ireturn, 1) := by decide +kernel
theorem dL_call_7 : decode cL_call 7 = .ok (.astore_n 3, 1) := by decide +kernel
theorem dL_call_8 : decode cL_call 8 = .ok (.ldc 18, 2) := by decide +kernel
theorem dL_call_10 : decode cL_call 10 = .ok (.ireturn, 1) := by decide +kernel
theorem dL_call_11 : decode cL_call 11 = .ok (.astore_n 3, 1) := by decide +kernel
theorem dL_call_12 : decode cL_call 12 = .ok (.ldc 21, 2) := by decide +kernel
theorem dL_call_14 : decode cL_call 14 = .ok (.ireturn, 1) := by decide +kernel
theorem dL_budget_0 : decode cL_budget 0 = .ok (.aload_n 0, 1) := by decide +kernel
theorem dL_budget_1 : decode cL_budget 1 = .ok (.iload_n 1, 1) := by decide +kernel
theorem dL_budget_2 : decode cL_budget 2 = .ok (.invokevirtual 78, 3) := by decide +kernel
theorem dL_budget_5 : decode cL_budget 5 = .ok (.ireturn, 1) := by decide +kernel
theorem dL_budget_6 : decode cL_budget 6 = .ok (.astore_n 2, 1) := by decide +kernel
theorem dL_budget_7 : decode cL_budget 7 = .ok (.ldc 18, 2) := by decide +kernel
theorem dL_budget_9 : decode cL_budget 9 = .ok (.ireturn, 1) := by decide +kernel
theorem dL_breaker_0 : decode cL_breaker 0 = .ok (.aload_n 0, 1) := by decide +kernel
theorem dL_breaker_1 : decode cL_breaker 1 = .ok (.iload_n 1, 1) := by decide +kernel
theorem dL_breaker_2 : decode cL_breaker 2 = .ok (.iload_n 2, 1) := by decide +kernel
theorem dL_breaker_3 : decode cL_breaker 3 = .ok (.invokevirtual 81, 3) := by decide +kernel
theorem dL_breaker_6 : decode cL_breaker 6 = .ok (.ireturn, 1) := by decide +kernel
theorem dL_breaker_7 : decode cL_breaker 7 = .ok (.astore_n 3, 1) := by decide +kernel
theorem dL_breaker_8 : decode cL_breaker 8 = .ok (.ldc 18, 2) := by decide +kernel
theorem dL_breaker_10 : decode cL_breaker 10 = .ok (.ireturn, 1) := by decide +kernel
theorem dL_isShunned_0 : decode cL_isShunned 0 = .ok (.aload_n 0, 1) := by decide +kernel
theorem dL_isShunned_1 : decode cL_isShunned 1 = .ok (.iload_n 1, 1) := by decide +kernel
theorem dL_isShunned_2 : decode cL_isShunned 2 = .ok (.invokevirtual 84, 3) := by decide +kernel
theorem dL_isShunned_5 : decode cL_isShunned 5 = .ok (.ifCond .eq 7, 3) := by decide +kernel
theorem dL_isShunned_8 : decode cL_isShunned 8 = .ok (.iconst 1, 1) := by decide +kernel
theorem dL_isShunned_9 : decode cL_isShunned 9 = .ok (.goto 4, 3) := by decide +kernel
theorem dL_isShunned_12 : decode cL_isShunned 12 = .ok (.iconst 0, 1) := by decide +kernel
theorem dL_isShunned_13 : decode cL_isShunned 13 = .ok (.ireturn, 1) := by decide +kernel
theorem dL_isShunned_14 : decode cL_isShunned 14 = .ok (.astore_n 2, 1) := by decide +kernel
theorem dL_isShunned_15 : decode cL_isShunned 15 = .ok (.ldc 18, 2) := by decide +kernel
theorem dL_isShunned_17 : decode cL_isShunned 17 = .ok (.ireturn, 1) := by decide +kernel
theorem dL_load_0 : decode cL_load 0 = .ok (.aload_n 0, 1) := by decide +kernel
theorem dL_load_1 : decode cL_load 1 = .ok (.iload_n 1, 1) := by decide +kernel
theorem dL_load_2 : decode cL_load 2 = .ok (.iload_n 2, 1) := by decide +kernel
theorem dL_load_3 : decode cL_load 3 = .ok (.invokevirtual 87, 3) := by decide +kernel
theorem dL_load_6 : decode cL_load 6 = .ok (.ireturn, 1) := by decide +kernel
theorem dL_load_7 : decode cL_load 7 = .ok (.astore_n 3, 1) := by decide +kernel
theorem dL_load_8 : decode cL_load 8 = .ok (.ldc 18, 2) := by decide +kernel
theorem dL_load_10 : decode cL_load 10 = .ok (.ireturn, 1) := by decide +kernel
theorem dL_canaryShare_0 : decode cL_canaryShare 0 = .ok (.aload_n 0, 1) := by decide +kernel
theorem dL_canaryShare_1 : decode cL_canaryShare 1 = .ok (.iload_n 1, 1) := by decide +kernel
theorem dL_canaryShare_2 : decode cL_canaryShare 2 = .ok (.invokevirtual 91, 3) := by decide +kernel
theorem dL_canaryShare_5 : decode cL_canaryShare 5 = .ok (.ireturn, 1) := by decide +kernel
theorem dL_canaryShare_6 : decode cL_canaryShare 6 = .ok (.astore_n 2, 1) := by decide +kernel
theorem dL_canaryShare_7 : decode cL_canaryShare 7 = .ok (.ldc 18, 2) := by decide +kernel
theorem dL_canaryShare_9 : decode cL_canaryShare 9 = .ok (.ireturn, 1) := by decide +kernel
theorem dL_extra_0 : decode cL_extra 0 = .ok (.aload_n 0, 1) := by decide +kernel
theorem dL_extra_1 : decode cL_extra 1 = .ok (.iload_n 1, 1) := by decide +kernel
theorem dL_extra_2 : decode cL_extra 2 = .ok (.invokevirtual 94, 3) := by decide +kernel
theorem dL_extra_5 : decode cL_extra 5 = .ok (.ireturn, 1) := by decide +kernel
theorem dL_extra_6 : decode cL_extra 6 = .ok (.astore_n 2, 1) := by decide +kernel
theorem dL_extra_7 : decode cL_extra 7 = .ok (.ldc 18, 2) := by decide +kernel
theorem dL_extra_9 : decode cL_extra 9 = .ok (.ireturn, 1) := by decide +kernel
theorem dL_first_0 : decode cL_first 0 = .ok (.aload_n 0, 1) := by decide +kernel
theorem dL_first_1 : decode cL_first 1 = .ok (.iload_n 1, 1) := by decide +kernel
theorem dL_first_2 : decode cL_first 2 = .ok (.invokevirtual 97, 3) := by decide +kernel
theorem dL_first_5 : decode cL_first 5 = .ok (.ireturn, 1) := by decide +kernel
theorem dL_first_6 : decode cL_first 6 = .ok (.astore_n 2, 1) := by decide +kernel
theorem dL_first_7 : decode cL_first 7 = .ok (.ldc 18, 2) := by decide +kernel
theorem dL_first_9 : decode cL_first 9 = .ok (.ireturn, 1) := by decide +kernel
theorem dL_makes_0 : decode cL_makes 0 = .ok (.iload 6, 2) := by decide +kernel
theorem dL_makes_2 : decode cL_makes 2 = .ok (.iconst 4, 1) := by decide +kernel
theorem dL_makes_3 : decode cL_makes 3 = .ok (.invokestatic 100, 3) := by decide +kernel
theorem dL_makes_6 : decode cL_makes 6 = .ok (.istore 8, 2) := by decide +kernel
theorem dL_makes_8 : decode cL_makes 8 = .ok (.iload 6, 2) := by decide +kernel
theorem dL_makes_10 : decode cL_makes 10 = .ok (.iconst 2, 1) := by decide +kernel
theorem dL_makes_11 : decode cL_makes 11 = .ok (.ishr, 1) := by decide +kernel
theorem dL_makes_12 : decode cL_makes 12 = .ok (.iconst 3, 1) := by decide +kernel
theorem dL_makes_13 : decode cL_makes 13 = .ok (.invokestatic 100, 3) := by decide +kernel
theorem dL_makes_16 : decode cL_makes 16 = .ok (.ifCond .ne 152, 3) := by decide +kernel
theorem dL_makes_19 : decode cL_makes 19 = .ok (.aload_n 1, 1) := by decide +kernel
theorem dL_makes_20 : decode cL_makes 20 = .ok (.iconst 1, 1) := by decide +kernel
theorem dL_makes_21 : decode cL_makes 21 = .ok (.iaload, 1) := by decide +kernel
theorem dL_makes_22 : decode cL_makes 22 = .ok (.ifCond .ne 146, 3) := by decide +kernel
theorem dL_makes_25 : decode cL_makes 25 = .ok (.iload 8, 2) := by decide +kernel
theorem dL_makes_27 : decode cL_makes 27 = .ok (.iconst 1, 1) := by decide +kernel
theorem dL_makes_28 : decode cL_makes 28 = .ok (.iadd, 1) := by decide +kernel
theorem dL_makes_29 : decode cL_makes 29 = .ok (.iload 7, 2) := by decide +kernel
theorem dL_makes_31 : decode cL_makes 31 = .ok (.iconst 5, 1) := by decide +kernel
theorem dL_makes_32 : decode cL_makes 32 = .ok (.iload 8, 2) := by decide +kernel
theorem dL_makes_34 : decode cL_makes 34 = .ok (.isub, 1) := by decide +kernel
theorem dL_makes_35 : decode cL_makes 35 = .ok (.invokestatic 100, 3) := by decide +kernel
theorem dL_makes_38 : decode cL_makes 38 = .ok (.iadd, 1) := by decide +kernel
theorem dL_makes_39 : decode cL_makes 39 = .ok (.istore 9, 2) := by decide +kernel
theorem dL_makes_41 : decode cL_makes 41 = .ok (.iload 7, 2) := by decide +kernel
theorem dL_makes_43 : decode cL_makes 43 = .ok (.iconst 3, 1) := by decide +kernel
theorem dL_makes_44 : decode cL_makes 44 = .ok (.ishr, 1) := by decide +kernel
theorem dL_makes_45 : decode cL_makes 45 = .ok (.iconst 2, 1) := by decide +kernel
theorem dL_makes_46 : decode cL_makes 46 = .ok (.invokestatic 100, 3) := by decide +kernel
theorem dL_makes_49 : decode cL_makes 49 = .ok (.ifCond .ne 7, 3) := by decide +kernel
theorem dL_makes_52 : decode cL_makes 52 = .ok (.iconst (-1), 1) := by decide +kernel
theorem dL_makes_53 : decode cL_makes 53 = .ok (.goto 19, 3) := by decide +kernel
theorem dL_makes_56 : decode cL_makes 56 = .ok (.iload 8, 2) := by decide +kernel
theorem dL_makes_58 : decode cL_makes 58 = .ok (.iconst 1, 1) := by decide +kernel
theorem dL_makes_59 : decode cL_makes 59 = .ok (.iadd, 1) := by decide +kernel
theorem dL_makes_60 : decode cL_makes 60 = .ok (.iload 7, 2) := by decide +kernel
theorem dL_makes_62 : decode cL_makes 62 = .ok (.iconst 4, 1) := by decide +kernel
theorem dL_makes_63 : decode cL_makes 63 = .ok (.ishr, 1) := by decide +kernel
theorem dL_makes_64 : decode cL_makes 64 = .ok (.iconst 5, 1) := by decide +kernel
theorem dL_makes_65 : decode cL_makes 65 = .ok (.iload 8, 2) := by decide +kernel
theorem dL_makes_67 : decode cL_makes 67 = .ok (.isub, 1) := by decide +kernel
theorem dL_makes_68 : decode cL_makes 68 = .ok (.invokestatic 100, 3) := by decide +kernel
theorem dL_makes_71 : decode cL_makes 71 = .ok (.iadd, 1) := by decide +kernel
theorem dL_makes_72 : decode cL_makes 72 = .ok (.istore 10, 2) := by decide +kernel
theorem dL_makes_74 : decode cL_makes 74 = .ok (.aload_n 0, 1) := by decide +kernel
theorem dL_makes_75 : decode cL_makes 75 = .ok (.iload 8, 2) := by decide +kernel
theorem dL_makes_77 : decode cL_makes 77 = .ok (.iload 9, 2) := by decide +kernel
theorem dL_makes_79 : decode cL_makes 79 = .ok (.iload 7, 2) := by decide +kernel
theorem dL_makes_81 : decode cL_makes 81 = .ok (.bipush 7, 2) := by decide +kernel
theorem dL_makes_83 : decode cL_makes 83 = .ok (.ishr, 1) := by decide +kernel
theorem dL_makes_84 : decode cL_makes 84 = .ok (.iconst 2, 1) := by decide +kernel
theorem dL_makes_85 : decode cL_makes 85 = .ok (.invokestatic 100, 3) := by decide +kernel
theorem dL_makes_88 : decode cL_makes 88 = .ok (.ifCond .ne 7, 3) := by decide +kernel
theorem dL_makes_91 : decode cL_makes 91 = .ok (.iconst 1, 1) := by decide +kernel
theorem dL_makes_92 : decode cL_makes 92 = .ok (.goto 4, 3) := by decide +kernel
theorem dL_makes_95 : decode cL_makes 95 = .ok (.iconst 0, 1) := by decide +kernel
theorem dL_makes_96 : decode cL_makes 96 = .ok (.iload 10, 2) := by decide +kernel
theorem dL_makes_98 : decode cL_makes 98 = .ok (.invokestatic 105, 3) := by decide +kernel
theorem dL_makes_101 : decode cL_makes 101 = .ok (.istore 11, 2) := by decide +kernel
theorem dL_makes_103 : decode cL_makes 103 = .ok (.aload 5, 2) := by decide +kernel
theorem dL_makes_105 : decode cL_makes 105 = .ok (.iload 8, 2) := by decide +kernel
theorem dL_makes_107 : decode cL_makes 107 = .ok (.dup2, 1) := by decide +kernel
theorem dL_makes_108 : decode cL_makes 108 = .ok (.iaload, 1) := by decide +kernel
theorem dL_makes_109 : decode cL_makes 109 = .ok (.aload 5, 2) := by decide +kernel
theorem dL_makes_111 : decode cL_makes 111 = .ok (.iload 8, 2) := by decide +kernel
theorem dL_makes_113 : decode cL_makes 113 = .ok (.iaload, 1) := by decide +kernel
theorem dL_makes_114 : decode cL_makes 114 = .ok (.iconst 3, 1) := by decide +kernel
theorem dL_makes_115 : decode cL_makes 115 = .ok (.if_icmp .ge 8, 3) := by decide +kernel
theorem dL_makes_118 : decode cL_makes 118 = .ok (.iload 11, 2) := by decide +kernel
theorem dL_makes_120 : decode cL_makes 120 = .ok (.ifCond .gt 9, 3) := by decide +kernel
theorem dL_makes_123 : decode cL_makes 123 = .ok (.iload 11, 2) := by decide +kernel
theorem dL_makes_125 : decode cL_makes 125 = .ok (.iconst 4, 1) := by decide +kernel
theorem dL_makes_126 : decode cL_makes 126 = .ok (.if_icmp .ne 7, 3) := by decide +kernel
theorem dL_makes_129 : decode cL_makes 129 = .ok (.iconst 1, 1) := by decide +kernel
theorem dL_makes_130 : decode cL_makes 130 = .ok (.goto 4, 3) := by decide +kernel
theorem dL_makes_133 : decode cL_makes 133 = .ok (.iconst 0, 1) := by decide +kernel
theorem dL_makes_134 : decode cL_makes 134 = .ok (.iadd, 1) := by decide +kernel
theorem dL_makes_135 : decode cL_makes 135 = .ok (.iastore, 1) := by decide +kernel
theorem dL_makes_136 : decode cL_makes 136 = .ok (.iload 11, 2) := by decide +kernel
theorem dL_makes_138 : decode cL_makes 138 = .ok (.aload 5, 2) := by decide +kernel
theorem dL_makes_140 : decode cL_makes 140 = .ok (.iload 8, 2) := by decide +kernel
theorem dL_makes_142 : decode cL_makes 142 = .ok (.iaload, 1) := by decide +kernel
theorem dL_makes_143 : decode cL_makes 143 = .ok (.if_icmp .eq 19, 3) := by decide +kernel
theorem dL_makes_146 : decode cL_makes 146 = .ok (.iload 11, 2) := by decide +kernel
theorem dL_makes_148 : decode cL_makes 148 = .ok (.ldc 28, 2) := by decide +kernel
theorem dL_makes_150 : decode cL_makes 150 = .ok (.if_icmp .ne 16, 3) := by decide +kernel
theorem dL_makes_153 : decode cL_makes 153 = .ok (.aload 5, 2) := by decide +kernel
theorem dL_makes_155 : decode cL_makes 155 = .ok (.iload 8, 2) := by decide +kernel
theorem dL_makes_157 : decode cL_makes 157 = .ok (.iaload, 1) := by decide +kernel
theorem dL_makes_158 : decode cL_makes 158 = .ok (.iconst 4, 1) := by decide +kernel
theorem dL_makes_159 : decode cL_makes 159 = .ok (.if_icmp .ne 7, 3) := by decide +kernel
theorem dL_makes_162 : decode cL_makes 162 = .ok (.iconst 1, 1) := by decide +kernel
theorem dL_makes_163 : decode cL_makes 163 = .ok (.goto 4, 3) := by decide +kernel
theorem dL_makes_166 : decode cL_makes 166 = .ok (.iconst 0, 1) := by decide +kernel
theorem dL_makes_167 : decode cL_makes 167 = .ok (.ireturn, 1) := by decide +kernel
theorem dL_makes_168 : decode cL_makes 168 = .ok (.aload_n 1, 1) := by decide +kernel
theorem dL_makes_169 : decode cL_makes 169 = .ok (.iconst 0, 1) := by decide +kernel
theorem dL_makes_170 : decode cL_makes 170 = .ok (.iaload, 1) := by decide +kernel
theorem dL_makes_171 : decode cL_makes 171 = .ok (.bipush 12, 2) := by decide +kernel
theorem dL_makes_173 : decode cL_makes 173 = .ok (.if_icmp .ne 24, 3) := by decide +kernel
theorem dL_makes_176 : decode cL_makes 176 = .ok (.aload_n 0, 1) := by decide +kernel
theorem dL_makes_177 : decode cL_makes 177 = .ok (.iconst 0, 1) := by decide +kernel
theorem dL_makes_178 : decode cL_makes 178 = .ok (.iconst 0, 1) := by decide +kernel
theorem dL_makes_179 : decode cL_makes 179 = .ok (.iconst 1, 1) := by decide +kernel
theorem dL_makes_180 : decode cL_makes 180 = .ok (.iconst 1, 1) := by decide +kernel
theorem dL_makes_181 : decode cL_makes 181 = .ok (.iconst 0, 1) := by decide +kernel
theorem dL_makes_182 : decode cL_makes 182 = .ok (.iconst 0, 1) := by decide +kernel
theorem dL_makes_183 : decode cL_makes 183 = .ok (.invokestatic 108, 3) := by decide +kernel
theorem dL_makes_186 : decode cL_makes 186 = .ok (.ldc 28, 2) := by decide +kernel
theorem dL_makes_188 : decode cL_makes 188 = .ok (.if_icmp .ne 7, 3) := by decide +kernel
theorem dL_makes_191 : decode cL_makes 191 = .ok (.iconst 1, 1) := by decide +kernel
theorem dL_makes_192 : decode cL_makes 192 = .ok (.goto 4, 3) := by decide +kernel
theorem dL_makes_195 : decode cL_makes 195 = .ok (.iconst 0, 1) := by decide +kernel
theorem dL_makes_196 : decode cL_makes 196 = .ok (.ireturn, 1) := by decide +kernel
