theorem d_MA_min_0 : decode b_MA_min 0 = .ok (.iload_n 0, 1) := by decide +kernel
theorem d_MA_min_1 : decode b_MA_min 1 = .ok (.iload_n 1, 1) := by decide +kernel
theorem d_MA_min_2 : decode b_MA_min 2 = .ok (.if_icmp .gt 7, 3) := by decide +kernel
theorem d_MA_min_5 : decode b_MA_min 5 = .ok (.iload_n 0, 1) := by decide +kernel
theorem d_MA_min_6 : decode b_MA_min 6 = .ok (.goto 4, 3) := by decide +kernel
theorem d_MA_min_9 : decode b_MA_min 9 = .ok (.iload_n 1, 1) := by decide +kernel
theorem d_MA_min_10 : decode b_MA_min 10 = .ok (.ireturn, 1) := by decide +kernel
theorem d_MA_max_0 : decode b_MA_max 0 = .ok (.iload_n 0, 1) := by decide +kernel
theorem d_MA_max_1 : decode b_MA_max 1 = .ok (.iload_n 1, 1) := by decide +kernel
theorem d_MA_max_2 : decode b_MA_max 2 = .ok (.if_icmp .lt 7, 3) := by decide +kernel
theorem d_MA_max_5 : decode b_MA_max 5 = .ok (.iload_n 0, 1) := by decide +kernel
theorem d_MA_max_6 : decode b_MA_max 6 = .ok (.goto 4, 3) := by decide +kernel
theorem d_MA_max_9 : decode b_MA_max 9 = .ok (.iload_n 1, 1) := by decide +kernel
theorem d_MA_max_10 : decode b_MA_max 10 = .ok (.ireturn, 1) := by decide +kernel
theorem d_AL_init_0 : decode b_AL_init 0 = .ok (.aload_n 0, 1) := by decide +kernel
theorem d_AL_init_1 : decode b_AL_init 1 = .ok (.invokespecial 1, 3) := by decide +kernel
theorem d_AL_init_4 : decode b_AL_init 4 = .ok (.aload_n 0, 1) := by decide +kernel
theorem d_AL_init_5 : decode b_AL_init 5 = .ok (.getstatic 39, 3) := by decide +kernel
theorem d_AL_init_8 : decode b_AL_init 8 = .ok (.putfield 9, 3) := by decide +kernel
theorem d_AL_init_11 : decode b_AL_init 11 = .ok (.return_, 1) := by decide +kernel
theorem d_BL_init_0 : decode b_BL_init 0 = .ok (.aload_n 0, 1) := by decide +kernel
theorem d_BL_init_1 : decode b_BL_init 1 = .ok (.invokespecial 1, 3) := by decide +kernel
theorem d_BL_init_4 : decode b_BL_init 4 = .ok (.aload_n 0, 1) := by decide +kernel
theorem d_BL_init_5 : decode b_BL_init 5 = .ok (.iconst 0, 1) := by decide +kernel
theorem d_BL_init_6 : decode b_BL_init 6 = .ok (.putfield 7, 3) := by decide +kernel
theorem d_BL_init_9 : decode b_BL_init 9 = .ok (.return_, 1) := by decide +kernel
theorem d_BC_init_0 : decode b_BC_init 0 = .ok (.aload_n 0, 1) := by decide +kernel
theorem d_BC_init_1 : decode b_BC_init 1 = .ok (.invokespecial 1, 3) := by decide +kernel
theorem d_BC_init_4 : decode b_BC_init 4 = .ok (.return_, 1) := by decide +kernel
theorem d_AL_size_0 : decode b_AL_size 0 = .ok (.aload_n 0, 1) := by decide +kernel
theorem d_AL_size_1 : decode b_AL_size 1 = .ok (.getfield 48, 3) := by decide +kernel
theorem d_AL_size_4 : decode b_AL_size 4 = .ok (.ireturn, 1) := by decide +kernel
theorem d_AL_get_0 : decode b_AL_get 0 = .ok (.iload_n 1, 1) := by decide +kernel
theorem d_AL_get_1 : decode b_AL_get 1 = .ok (.aload_n 0, 1) := by decide +kernel
theorem d_AL_get_2 : decode b_AL_get 2 = .ok (.getfield 48, 3) := by decide +kernel
theorem d_AL_get_5 : decode b_AL_get 5 = .ok (.invokestatic 118, 3) := by decide +kernel
theorem d_AL_get_8 : decode b_AL_get 8 = .ok (.pop, 1) := by decide +kernel
theorem d_AL_get_9 : decode b_AL_get 9 = .ok (.aload_n 0, 1) := by decide +kernel
theorem d_AL_get_10 : decode b_AL_get 10 = .ok (.iload_n 1, 1) := by decide +kernel
theorem d_AL_get_11 : decode b_AL_get 11 = .ok (.invokevirtual 123, 3) := by decide +kernel
theorem d_AL_get_14 : decode b_AL_get 14 = .ok (.areturn, 1) := by decide +kernel
theorem d_OB_checkIndex_0 : decode b_OB_checkIndex 0 = .ok (.iload_n 0, 1) := by decide +kernel
theorem d_OB_checkIndex_1 : decode b_OB_checkIndex 1 = .ok (.iload_n 1, 1) := by decide +kernel
theorem d_OB_checkIndex_2 : decode b_OB_checkIndex 2 = .ok (.aconst_null, 1) := by decide +kernel
theorem d_OB_checkIndex_3 : decode b_OB_checkIndex 3 = .ok (.invokestatic 105, 3) := by decide +kernel
theorem d_OB_checkIndex_6 : decode b_OB_checkIndex 6 = .ok (.ireturn, 1) := by decide +kernel
theorem d_PR_checkIndex_0 : decode b_PR_checkIndex 0 = .ok (.iload_n 0, 1) := by decide +kernel
theorem d_PR_checkIndex_1 : decode b_PR_checkIndex 1 = .ok (.ifCond .lt 8, 3) := by decide +kernel
theorem d_PR_checkIndex_4 : decode b_PR_checkIndex 4 = .ok (.iload_n 0, 1) := by decide +kernel
theorem d_PR_checkIndex_5 : decode b_PR_checkIndex 5 = .ok (.iload_n 1, 1) := by decide +kernel
theorem d_PR_checkIndex_6 : decode b_PR_checkIndex 6 = .ok (.if_icmp .lt 10, 3) := by decide +kernel
theorem d_PR_checkIndex_9 : decode b_PR_checkIndex 9 = .ok (.aload_n 2, 1) := by decide +kernel
theorem d_PR_checkIndex_10 : decode b_PR_checkIndex 10 = .ok (.iload_n 0, 1) := by decide +kernel
theorem d_PR_checkIndex_11 : decode b_PR_checkIndex 11 = .ok (.iload_n 1, 1) := by decide +kernel
theorem d_PR_checkIndex_12 : decode b_PR_checkIndex 12 = .ok (.invokestatic 95, 3) := by decide +kernel
theorem d_PR_checkIndex_15 : decode b_PR_checkIndex 15 = .ok (.athrow, 1) := by decide +kernel
theorem d_PR_checkIndex_16 : decode b_PR_checkIndex 16 = .ok (.iload_n 0, 1) := by decide +kernel
theorem d_PR_checkIndex_17 : decode b_PR_checkIndex 17 = .ok (.ireturn, 1) := by decide +kernel
theorem d_AL_elementData_0 : decode b_AL_elementData 0 = .ok (.aload_n 0, 1) := by decide +kernel
theorem d_AL_elementData_1 : decode b_AL_elementData 1 = .ok (.getfield 9, 3) := by decide +kernel
theorem d_AL_elementData_4 : decode b_AL_elementData 4 = .ok (.iload_n 1, 1) := by decide +kernel
theorem d_AL_elementData_5 : decode b_AL_elementData 5 = .ok (.aaload, 1) := by decide +kernel
theorem d_AL_elementData_6 : decode b_AL_elementData 6 = .ok (.areturn, 1) := by decide +kernel
theorem d_AL_add_0 : decode b_AL_add 0 = .ok (.aload_n 0, 1) := by decide +kernel
theorem d_AL_add_1 : decode b_AL_add 1 = .ok (.dup, 1) := by decide +kernel
theorem d_AL_add_2 : decode b_AL_add 2 = .ok (.getfield 63, 3) := by decide +kernel
theorem d_AL_add_5 : decode b_AL_add 5 = .ok (.iconst 1, 1) := by decide +kernel
theorem d_AL_add_6 : decode b_AL_add 6 = .ok (.iadd, 1) := by decide +kernel
theorem d_AL_add_7 : decode b_AL_add 7 = .ok (.putfield 63, 3) := by decide +kernel
theorem d_AL_add_10 : decode b_AL_add 10 = .ok (.aload_n 0, 1) := by decide +kernel
theorem d_AL_add_11 : decode b_AL_add 11 = .ok (.aload_n 1, 1) := by decide +kernel
theorem d_AL_add_12 : decode b_AL_add 12 = .ok (.aload_n 0, 1) := by decide +kernel
theorem d_AL_add_13 : decode b_AL_add 13 = .ok (.getfield 9, 3) := by decide +kernel
theorem d_AL_add_16 : decode b_AL_add 16 = .ok (.aload_n 0, 1) := by decide +kernel
theorem d_AL_add_17 : decode b_AL_add 17 = .ok (.getfield 48, 3) := by decide +kernel
theorem d_AL_add_20 : decode b_AL_add 20 = .ok (.invokevirtual 131, 3) := by decide +kernel
theorem d_AL_add_23 : decode b_AL_add 23 = .ok (.iconst 1, 1) := by decide +kernel
theorem d_AL_add_24 : decode b_AL_add 24 = .ok (.ireturn, 1) := by decide +kernel
theorem d_AL_add2_0 : decode b_AL_add2 0 = .ok (.iload_n 3, 1) := by decide +kernel
theorem d_AL_add2_1 : decode b_AL_add2 1 = .ok (.aload_n 2, 1) := by decide +kernel
theorem d_AL_add2_2 : decode b_AL_add2 2 = .ok (.arraylength, 1) := by decide +kernel
theorem d_AL_add2_3 : decode b_AL_add2 3 = .ok (.if_icmp .ne 8, 3) := by decide +kernel
theorem d_AL_add2_6 : decode b_AL_add2 6 = .ok (.aload_n 0, 1) := by decide +kernel
theorem d_AL_add2_7 : decode b_AL_add2 7 = .ok (.invokevirtual 129, 3) := by decide +kernel
theorem d_AL_add2_10 : decode b_AL_add2 10 = .ok (.astore_n 2, 1) := by decide +kernel
theorem d_AL_add2_11 : decode b_AL_add2 11 = .ok (.aload_n 2, 1) := by decide +kernel
theorem d_AL_add2_12 : decode b_AL_add2 12 = .ok (.iload_n 3, 1) := by decide +kernel
theorem d_AL_add2_13 : decode b_AL_add2 13 = .ok (.aload_n 1, 1) := by decide +kernel
theorem d_AL_add2_14 : decode b_AL_add2 14 = .ok (.aastore, 1) := by decide +kernel
theorem d_AL_add2_15 : decode b_AL_add2 15 = .ok (.aload_n 0, 1) := by decide +kernel
theorem d_AL_add2_16 : decode b_AL_add2 16 = .ok (.iload_n 3, 1) := by decide +kernel
theorem d_AL_add2_17 : decode b_AL_add2 17 = .ok (.iconst 1, 1) := by decide +kernel
theorem d_AL_add2_18 : decode b_AL_add2 18 = .ok (.iadd, 1) := by decide +kernel
theorem d_AL_add2_19 : decode b_AL_add2 19 = .ok (.putfield 48, 3) := by decide +kernel
theorem d_AL_add2_22 : decode b_AL_add2 22 = .ok (.return_, 1) := by decide +kernel
theorem d_AL_grow_0 : decode b_AL_grow 0 = .ok (.aload_n 0, 1) := by decide +kernel
theorem d_AL_grow_1 : decode b_AL_grow 1 = .ok (.aload_n 0, 1) := by decide +kernel
theorem d_AL_grow_2 : decode b_AL_grow 2 = .ok (.getfield 48, 3) := by decide +kernel
theorem d_AL_grow_5 : decode b_AL_grow 5 = .ok (.iconst 1, 1) := by decide +kernel
theorem d_AL_grow_6 : decode b_AL_grow 6 = .ok (.iadd, 1) := by decide +kernel
theorem d_AL_grow_7 : decode b_AL_grow 7 = .ok (.invokevirtual 69, 3) := by decide +kernel
theorem d_AL_grow_10 : decode b_AL_grow 10 = .ok (.areturn, 1) := by decide +kernel
theorem d_AL_grow2_0 : decode b_AL_grow2 0 = .ok (.aload_n 0, 1) := by decide +kernel
theorem d_AL_grow2_1 : decode b_AL_grow2 1 = .ok (.getfield 9, 3) := by decide +kernel
theorem d_AL_grow2_4 : decode b_AL_grow2 4 = .ok (.arraylength, 1) := by decide +kernel
theorem d_AL_grow2_5 : decode b_AL_grow2 5 = .ok (.istore_n 2, 1) := by decide +kernel
theorem d_AL_grow2_6 : decode b_AL_grow2 6 = .ok (.iload_n 2, 1) := by decide +kernel
theorem d_AL_grow2_7 : decode b_AL_grow2 7 = .ok (.ifCond .gt 13, 3) := by decide +kernel
theorem d_AL_grow2_10 : decode b_AL_grow2 10 = .ok (.aload_n 0, 1) := by decide +kernel
theorem d_AL_grow2_11 : decode b_AL_grow2 11 = .ok (.getfield 9, 3) := by decide +kernel
theorem d_AL_grow2_14 : decode b_AL_grow2 14 = .ok (.getstatic 39, 3) := by decide +kernel
theorem d_AL_grow2_17 : decode b_AL_grow2 17 = .ok (.if_acmp .eq 28, 3) := by decide +kernel
theorem d_AL_grow2_20 : decode b_AL_grow2 20 = .ok (.iload_n 2, 1) := by decide +kernel
theorem d_AL_grow2_21 : decode b_AL_grow2 21 = .ok (.iload_n 1, 1) := by decide +kernel
theorem d_AL_grow2_22 : decode b_AL_grow2 22 = .ok (.iload_n 2, 1) := by decide +kernel
theorem d_AL_grow2_23 : decode b_AL_grow2 23 = .ok (.isub, 1) := by decide +kernel
theorem d_AL_grow2_24 : decode b_AL_grow2 24 = .ok (.iload_n 2, 1) := by decide +kernel
theorem d_AL_grow2_25 : decode b_AL_grow2 25 = .ok (.iconst 1, 1) := by decide +kernel
theorem d_AL_grow2_26 : decode b_AL_grow2 26 = .ok (.ishr, 1) := by decide +kernel
theorem d_AL_grow2_27 : decode b_AL_grow2 27 = .ok (.invokestatic 73, 3) := by decide +kernel
theorem d_AL_grow2_30 : decode b_AL_grow2 30 = .ok (.istore_n 3, 1) := by decide +kernel
theorem d_AL_grow2_31 : decode b_AL_grow2 31 = .ok (.aload_n 0, 1) := by decide +kernel
theorem d_AL_grow2_32 : decode b_AL_grow2 32 = .ok (.aload_n 0, 1) := by decide +kernel
theorem d_AL_grow2_33 : decode b_AL_grow2 33 = .ok (.getfield 9, 3) := by decide +kernel
theorem d_AL_grow2_36 : decode b_AL_grow2 36 = .ok (.iload_n 3, 1) := by decide +kernel
theorem d_AL_grow2_37 : decode b_AL_grow2 37 = .ok (.invokestatic 66, 3) := by decide +kernel
theorem d_AL_grow2_40 : decode b_AL_grow2 40 = .ok (.dup_x1, 1) := by decide +kernel
theorem d_AL_grow2_41 : decode b_AL_grow2 41 = .ok (.putfield 9, 3) := by decide +kernel
theorem d_AL_grow2_44 : decode b_AL_grow2 44 = .ok (.areturn, 1) := by decide +kernel
theorem d_AL_grow2_45 : decode b_AL_grow2 45 = .ok (.aload_n 0, 1) := by decide +kernel
theorem d_AL_grow2_46 : decode b_AL_grow2 46 = .ok (.bipush 10, 2) := by decide +kernel
theorem d_AL_grow2_48 : decode b_AL_grow2 48 = .ok (.iload_n 1, 1) := by decide +kernel
theorem d_AL_grow2_49 : decode b_AL_grow2 49 = .ok (.invokestatic 79, 3) := by decide +kernel
theorem d_AL_grow2_52 : decode b_AL_grow2 52 = .ok (.anewarray 7, 3) := by decide +kernel
theorem d_AL_grow2_55 : decode b_AL_grow2 55 = .ok (.dup_x1, 1) := by decide +kernel
theorem d_AL_grow2_56 : decode b_AL_grow2 56 = .ok (.putfield 9, 3) := by decide +kernel
theorem d_AL_grow2_59 : decode b_AL_grow2 59 = .ok (.areturn, 1) := by decide +kernel
theorem d_AS_newLength_0 : decode b_AS_newLength 0 = .ok (.iload_n 0, 1) := by decide +kernel
theorem d_AS_newLength_1 : decode b_AS_newLength 1 = .ok (.iload_n 1, 1) := by decide +kernel
theorem d_AS_newLength_2 : decode b_AS_newLength 2 = .ok (.iload_n 2, 1) := by decide +kernel
theorem d_AS_newLength_3 : decode b_AS_newLength 3 = .ok (.invokestatic 194, 3) := by decide +kernel
theorem d_AS_newLength_6 : decode b_AS_newLength 6 = .ok (.iadd, 1) := by decide +kernel
theorem d_AS_newLength_7 : decode b_AS_newLength 7 = .ok (.istore_n 3, 1) := by decide +kernel
theorem d_AS_newLength_8 : decode b_AS_newLength 8 = .ok (.iconst 0, 1) := by decide +kernel
theorem d_AS_newLength_9 : decode b_AS_newLength 9 = .ok (.iload_n 3, 1) := by decide +kernel
theorem d_AS_newLength_10 : decode b_AS_newLength 10 = .ok (.if_icmp .ge 11, 3) := by decide +kernel
theorem d_AS_newLength_13 : decode b_AS_newLength 13 = .ok (.iload_n 3, 1) := by decide +kernel
theorem d_AS_newLength_14 : decode b_AS_newLength 14 = .ok (.ldc 200, 2) := by decide +kernel
theorem d_AS_newLength_16 : decode b_AS_newLength 16 = .ok (.if_icmp .gt 5, 3) := by decide +kernel
theorem d_AS_newLength_19 : decode b_AS_newLength 19 = .ok (.iload_n 3, 1) := by decide +kernel
theorem d_AS_newLength_20 : decode b_AS_newLength 20 = .ok (.ireturn, 1) := by decide +kernel
theorem d_AS_newLength_21 : decode b_AS_newLength 21 = .ok (.iload_n 0, 1) := by decide +kernel
theorem d_AS_newLength_22 : decode b_AS_newLength 22 = .ok (.iload_n 1, 1) := by decide +kernel
theorem d_AS_newLength_23 : decode b_AS_newLength 23 = .ok (.invokestatic 201, 3) := by decide +kernel
theorem d_AS_newLength_26 : decode b_AS_newLength 26 = .ok (.ireturn, 1) := by decide +kernel
theorem d_AS_hugeLength_0 : decode b_AS_hugeLength 0 = .ok (.iload_n 0, 1) := by decide +kernel
theorem d_AS_hugeLength_1 : decode b_AS_hugeLength 1 = .ok (.iload_n 1, 1) := by decide +kernel
theorem d_AS_hugeLength_2 : decode b_AS_hugeLength 2 = .ok (.iadd, 1) := by decide +kernel
theorem d_AS_hugeLength_3 : decode b_AS_hugeLength 3 = .ok (.istore_n 2, 1) := by decide +kernel
theorem d_AS_hugeLength_4 : decode b_AS_hugeLength 4 = .ok (.iload_n 2, 1) := by decide +kernel
theorem d_AS_hugeLength_5 : decode b_AS_hugeLength 5 = .ok (.ifCond .ge 44, 3) := by decide +kernel
theorem d_AS_hugeLength_8 : decode b_AS_hugeLength 8 = .ok (.new 204, 3) := by decide +kernel
theorem d_AS_hugeLength_11 : decode b_AS_hugeLength 11 = .ok (.dup, 1) := by decide +kernel
theorem d_AS_hugeLength_12 : decode b_AS_hugeLength 12 = .ok (.new 89, 3) := by decide +kernel
theorem d_AS_hugeLength_15 : decode b_AS_hugeLength 15 = .ok (.dup, 1) := by decide +kernel
theorem d_AS_hugeLength_16 : decode b_AS_hugeLength 16 = .ok (.invokespecial 91, 3) := by decide +kernel
theorem d_AS_hugeLength_19 : decode b_AS_hugeLength 19 = .ok (.ldc 206, 2) := by decide +kernel
theorem d_AS_hugeLength_21 : decode b_AS_hugeLength 21 = .ok (.invokevirtual 94, 3) := by decide +kernel
theorem d_AS_hugeLength_24 : decode b_AS_hugeLength 24 = .ok (.iload_n 0, 1) := by decide +kernel
theorem d_AS_hugeLength_25 : decode b_AS_hugeLength 25 = .ok (.invokevirtual 98, 3) := by decide +kernel
theorem d_AS_hugeLength_28 : decode b_AS_hugeLength 28 = .ok (.ldc 208, 2) := by decide +kernel
theorem d_AS_hugeLength_30 : decode b_AS_hugeLength 30 = .ok (.invokevirtual 94, 3) := by decide +kernel
theorem d_AS_hugeLength_33 : decode b_AS_hugeLength 33 = .ok (.iload_n 1, 1) := by decide +kernel
theorem d_AS_hugeLength_34 : decode b_AS_hugeLength 34 = .ok (.invokevirtual 98, 3) := by decide +kernel
theorem d_AS_hugeLength_37 : decode b_AS_hugeLength 37 = .ok (.ldc 210, 2) := by decide +kernel
theorem d_AS_hugeLength_39 : decode b_AS_hugeLength 39 = .ok (.invokevirtual 94, 3) := by decide +kernel
theorem d_AS_hugeLength_42 : decode b_AS_hugeLength 42 = .ok (.invokevirtual 101, 3) := by decide +kernel
theorem d_AS_hugeLength_45 : decode b_AS_hugeLength 45 = .ok (.invokespecial 212, 3) := by decide +kernel
theorem d_AS_hugeLength_48 : decode b_AS_hugeLength 48 = .ok (.athrow, 1) := by decide +kernel
theorem d_AS_hugeLength_49 : decode b_AS_hugeLength 49 = .ok (.iload_n 2, 1) := by decide +kernel
theorem d_AS_hugeLength_50 : decode b_AS_hugeLength 50 = .ok (.ldc 200, 2) := by decide +kernel
theorem d_AS_hugeLength_52 : decode b_AS_hugeLength 52 = .ok (.if_icmp .gt 6, 3) := by decide +kernel
theorem d_AS_hugeLength_55 : decode b_AS_hugeLength 55 = .ok (.ldc 200, 2) := by decide +kernel
theorem d_AS_hugeLength_57 : decode b_AS_hugeLength 57 = .ok (.ireturn, 1) := by decide +kernel
theorem d_AS_hugeLength_58 : decode b_AS_hugeLength 58 = .ok (.iload_n 2, 1) := by decide +kernel
theorem d_AS_hugeLength_59 : decode b_AS_hugeLength 59 = .ok (.ireturn, 1) := by decide +kernel
theorem d_AR_copyOf_0 : decode b_AR_copyOf 0 = .ok (.aload_n 0, 1) := by decide +kernel
theorem d_AR_copyOf_1 : decode b_AR_copyOf 1 = .ok (.iload_n 1, 1) := by decide +kernel
theorem d_AR_copyOf_2 : decode b_AR_copyOf 2 = .ok (.aload_n 0, 1) := by decide +kernel
theorem d_AR_copyOf_3 : decode b_AR_copyOf 3 = .ok (.invokevirtual 86, 3) := by decide +kernel
theorem d_AR_copyOf_6 : decode b_AR_copyOf 6 = .ok (.invokestatic 300, 3) := by decide +kernel
theorem d_AR_copyOf_9 : decode b_AR_copyOf 9 = .ok (.areturn, 1) := by decide +kernel
theorem d_AR_copyOf2_0 : decode b_AR_copyOf2 0 = .ok (.aload_n 2, 1) := by decide +kernel
theorem d_AR_copyOf2_1 : decode b_AR_copyOf2 1 = .ok (.ldc 110, 2) := by decide +kernel
theorem d_AR_copyOf2_3 : decode b_AR_copyOf2 3 = .ok (.if_acmp .ne 10, 3) := by decide +kernel
theorem d_AR_copyOf2_6 : decode b_AR_copyOf2 6 = .ok (.iload_n 1, 1) := by decide +kernel
theorem d_AR_copyOf2_7 : decode b_AR_copyOf2 7 = .ok (.anewarray 2, 3) := by decide +kernel
theorem d_AR_copyOf2_10 : decode b_AR_copyOf2 10 = .ok (.goto 14, 3) := by decide +kernel
theorem d_AR_copyOf2_13 : decode b_AR_copyOf2 13 = .ok (.aload_n 2, 1) := by decide +kernel
theorem d_AR_copyOf2_14 : decode b_AR_copyOf2 14 = .ok (.invokevirtual 90, 3) := by decide +kernel
theorem d_AR_copyOf2_17 : decode b_AR_copyOf2 17 = .ok (.iload_n 1, 1) := by decide +kernel
theorem d_AR_copyOf2_18 : decode b_AR_copyOf2 18 = .ok (.invokestatic 95, 3) := by decide +kernel
theorem d_AR_copyOf2_21 : decode b_AR_copyOf2 21 = .ok (.checkcast 110, 3) := by decide +kernel
theorem d_AR_copyOf2_24 : decode b_AR_copyOf2 24 = .ok (.astore_n 3, 1) := by decide +kernel
theorem d_AR_copyOf2_25 : decode b_AR_copyOf2 25 = .ok (.aload_n 0, 1) := by decide +kernel
theorem d_AR_copyOf2_26 : decode b_AR_copyOf2 26 = .ok (.iconst 0, 1) := by decide +kernel
theorem d_AR_copyOf2_27 : decode b_AR_copyOf2 27 = .ok (.aload_n 3, 1) := by decide +kernel
theorem d_AR_copyOf2_28 : decode b_AR_copyOf2 28 = .ok (.iconst 0, 1) := by decide +kernel
theorem d_AR_copyOf2_29 : decode b_AR_copyOf2 29 = .ok (.aload_n 0, 1) := by decide +kernel
theorem d_AR_copyOf2_30 : decode b_AR_copyOf2 30 = .ok (.arraylength, 1) := by decide +kernel
theorem d_AR_copyOf2_31 : decode b_AR_copyOf2 31 = .ok (.iload_n 1, 1) := by decide +kernel
theorem d_AR_copyOf2_32 : decode b_AR_copyOf2 32 = .ok (.invokestatic 304, 3) := by decide +kernel
theorem d_AR_copyOf2_35 : decode b_AR_copyOf2 35 = .ok (.invokestatic 150, 3) := by decide +kernel
theorem d_AR_copyOf2_38 : decode b_AR_copyOf2 38 = .ok (.aload_n 3, 1) := by decide +kernel
theorem d_AR_copyOf2_39 : decode b_AR_copyOf2 39 = .ok (.areturn, 1) := by decide +kernel
theorem d_IN_bitCount_0 : decode b_IN_bitCount 0 = .ok (.iload_n 0, 1) := by decide +kernel
theorem d_IN_bitCount_1 : decode b_IN_bitCount 1 = .ok (.iload_n 0, 1) := by decide +kernel
theorem d_IN_bitCount_2 : decode b_IN_bitCount 2 = .ok (.iconst 1, 1) := by decide +kernel
theorem d_IN_bitCount_3 : decode b_IN_bitCount 3 = .ok (.iushr, 1) := by decide +kernel
theorem d_IN_bitCount_4 : decode b_IN_bitCount 4 = .ok (.ldc_w 265, 3) := by decide +kernel
theorem d_IN_bitCount_7 : decode b_IN_bitCount 7 = .ok (.iand, 1) := by decide +kernel
theorem d_IN_bitCount_8 : decode b_IN_bitCount 8 = .ok (.isub, 1) := by decide +kernel
theorem d_IN_bitCount_9 : decode b_IN_bitCount 9 = .ok (.istore_n 0, 1) := by decide +kernel
theorem d_IN_bitCount_10 : decode b_IN_bitCount 10 = .ok (.iload_n 0, 1) := by decide +kernel
theorem d_IN_bitCount_11 : decode b_IN_bitCount 11 = .ok (.ldc_w 266, 3) := by decide +kernel
theorem d_IN_bitCount_14 : decode b_IN_bitCount 14 = .ok (.iand, 1) := by decide +kernel
theorem d_IN_bitCount_15 : decode b_IN_bitCount 15 = .ok (.iload_n 0, 1) := by decide +kernel
theorem d_IN_bitCount_16 : decode b_IN_bitCount 16 = .ok (.iconst 2, 1) := by decide +kernel
theorem d_IN_bitCount_17 : decode b_IN_bitCount 17 = .ok (.iushr, 1) := by decide +kernel
theorem d_IN_bitCount_18 : decode b_IN_bitCount 18 = .ok (.ldc_w 266, 3) := by decide +kernel
theorem d_IN_bitCount_21 : decode b_IN_bitCount 21 = .ok (.iand, 1) := by decide +kernel
theorem d_IN_bitCount_22 : decode b_IN_bitCount 22 = .ok (.iadd, 1) := by decide +kernel
theorem d_IN_bitCount_23 : decode b_IN_bitCount 23 = .ok (.istore_n 0, 1) := by decide +kernel
theorem d_IN_bitCount_24 : decode b_IN_bitCount 24 = .ok (.iload_n 0, 1) := by decide +kernel
theorem d_IN_bitCount_25 : decode b_IN_bitCount 25 = .ok (.iload_n 0, 1) := by decide +kernel
theorem d_IN_bitCount_26 : decode b_IN_bitCount 26 = .ok (.iconst 4, 1) := by decide +kernel
theorem d_IN_bitCount_27 : decode b_IN_bitCount 27 = .ok (.iushr, 1) := by decide +kernel
theorem d_IN_bitCount_28 : decode b_IN_bitCount 28 = .ok (.iadd, 1) := by decide +kernel
theorem d_IN_bitCount_29 : decode b_IN_bitCount 29 = .ok (.ldc_w 267, 3) := by decide +kernel
theorem d_IN_bitCount_32 : decode b_IN_bitCount 32 = .ok (.iand, 1) := by decide +kernel
theorem d_IN_bitCount_33 : decode b_IN_bitCount 33 = .ok (.istore_n 0, 1) := by decide +kernel
theorem d_IN_bitCount_34 : decode b_IN_bitCount 34 = .ok (.iload_n 0, 1) := by decide +kernel
theorem d_IN_bitCount_35 : decode b_IN_bitCount 35 = .ok (.iload_n 0, 1) := by decide +kernel
theorem d_IN_bitCount_36 : decode b_IN_bitCount 36 = .ok (.bipush 8, 2) := by decide +kernel
theorem d_IN_bitCount_38 : decode b_IN_bitCount 38 = .ok (.iushr, 1) := by decide +kernel
theorem d_IN_bitCount_39 : decode b_IN_bitCount 39 = .ok (.iadd, 1) := by decide +kernel
theorem d_IN_bitCount_40 : decode b_IN_bitCount 40 = .ok (.istore_n 0, 1) := by decide +kernel
theorem d_IN_bitCount_41 : decode b_IN_bitCount 41 = .ok (.iload_n 0, 1) := by decide +kernel
theorem d_IN_bitCount_42 : decode b_IN_bitCount 42 = .ok (.iload_n 0, 1) := by decide +kernel
theorem d_IN_bitCount_43 : decode b_IN_bitCount 43 = .ok (.bipush 16, 2) := by decide +kernel
theorem d_IN_bitCount_45 : decode b_IN_bitCount 45 = .ok (.iushr, 1) := by decide +kernel
theorem d_IN_bitCount_46 : decode b_IN_bitCount 46 = .ok (.iadd, 1) := by decide +kernel
theorem d_IN_bitCount_47 : decode b_IN_bitCount 47 = .ok (.istore_n 0, 1) := by decide +kernel
theorem d_IN_bitCount_48 : decode b_IN_bitCount 48 = .ok (.iload_n 0, 1) := by decide +kernel
theorem d_IN_bitCount_49 : decode b_IN_bitCount 49 = .ok (.bipush 63, 2) := by decide +kernel
theorem d_IN_bitCount_51 : decode b_IN_bitCount 51 = .ok (.iand, 1) := by decide +kernel
theorem d_IN_bitCount_52 : decode b_IN_bitCount 52 = .ok (.ireturn, 1) := by decide +kernel
theorem d_LW_cell_0 : decode b_LW_cell 0 = .ok (.iload_n 1, 1) := by decide +kernel
theorem d_LW_cell_1 : decode b_LW_cell 1 = .ok (.aload_n 0, 1) := by decide +kernel
theorem d_LW_cell_2 : decode b_LW_cell 2 = .ok (.arraylength, 1) := by decide +kernel
theorem d_LW_cell_3 : decode b_LW_cell 3 = .ok (.if_icmp .ge 9, 3) := by decide +kernel
theorem d_LW_cell_6 : decode b_LW_cell 6 = .ok (.aload_n 0, 1) := by decide +kernel
theorem d_LW_cell_7 : decode b_LW_cell 7 = .ok (.iload_n 1, 1) := by decide +kernel
theorem d_LW_cell_8 : decode b_LW_cell 8 = .ok (.iaload, 1) := by decide +kernel
theorem d_LW_cell_9 : decode b_LW_cell 9 = .ok (.goto 4, 3) := by decide +kernel
theorem d_LW_cell_12 : decode b_LW_cell 12 = .ok (.iconst 0, 1) := by decide +kernel
theorem d_LW_cell_13 : decode b_LW_cell 13 = .ok (.ireturn, 1) := by decide +kernel
theorem d_LW_fault_0 : decode b_LW_fault 0 = .ok (.aload_n 3, 1) := by decide +kernel
theorem d_LW_fault_1 : decode b_LW_fault 1 = .ok (.iconst 0, 1) := by decide +kernel
theorem d_LW_fault_2 : decode b_LW_fault 2 = .ok (.aload_n 0, 1) := by decide +kernel
theorem d_LW_fault_3 : decode b_LW_fault 3 = .ok (.iload_n 1, 1) := by decide +kernel
theorem d_LW_fault_4 : decode b_LW_fault 4 = .ok (.iload_n 2, 1) := by decide +kernel
theorem d_LW_fault_5 : decode b_LW_fault 5 = .ok (.invokevirtual 7, 3) := by decide +kernel
theorem d_LW_fault_8 : decode b_LW_fault 8 = .ok (.i2l, 1) := by decide +kernel
theorem d_LW_fault_9 : decode b_LW_fault 9 = .ok (.lastore, 1) := by decide +kernel
theorem d_LW_fault_10 : decode b_LW_fault 10 = .ok (.goto 11, 3) := by decide +kernel
theorem d_LW_fault_13 : decode b_LW_fault 13 = .ok (.astore 4, 2) := by decide +kernel
theorem d_LW_fault_15 : decode b_LW_fault 15 = .ok (.iconst 1, 1) := by decide +kernel
theorem d_LW_fault_16 : decode b_LW_fault 16 = .ok (.ireturn, 1) := by decide +kernel
theorem d_LW_fault_17 : decode b_LW_fault 17 = .ok (.astore 4, 2) := by decide +kernel
theorem d_LW_fault_19 : decode b_LW_fault 19 = .ok (.iconst 2, 1) := by decide +kernel
theorem d_LW_fault_20 : decode b_LW_fault 20 = .ok (.ireturn, 1) := by decide +kernel
theorem d_LW_fault_21 : decode b_LW_fault 21 = .ok (.iconst 0, 1) := by decide +kernel
theorem d_LW_fault_22 : decode b_LW_fault 22 = .ok (.ireturn, 1) := by decide +kernel
theorem d_LW_act_0 : decode b_LW_act 0 = .ok (.aload_n 3, 1) := by decide +kernel
theorem d_LW_act_1 : decode b_LW_act 1 = .ok (.iconst 0, 1) := by decide +kernel
theorem d_LW_act_2 : decode b_LW_act 2 = .ok (.aload_n 0, 1) := by decide +kernel
theorem d_LW_act_3 : decode b_LW_act 3 = .ok (.iload_n 1, 1) := by decide +kernel
theorem d_LW_act_4 : decode b_LW_act 4 = .ok (.iload_n 2, 1) := by decide +kernel
theorem d_LW_act_5 : decode b_LW_act 5 = .ok (.invokevirtual 17, 3) := by decide +kernel
theorem d_LW_act_8 : decode b_LW_act 8 = .ok (.i2l, 1) := by decide +kernel
theorem d_LW_act_9 : decode b_LW_act 9 = .ok (.lastore, 1) := by decide +kernel
theorem d_LW_act_10 : decode b_LW_act 10 = .ok (.goto 11, 3) := by decide +kernel
theorem d_LW_act_13 : decode b_LW_act 13 = .ok (.astore 4, 2) := by decide +kernel
theorem d_LW_act_15 : decode b_LW_act 15 = .ok (.iconst 1, 1) := by decide +kernel
theorem d_LW_act_16 : decode b_LW_act 16 = .ok (.ireturn, 1) := by decide +kernel
theorem d_LW_act_17 : decode b_LW_act 17 = .ok (.astore 4, 2) := by decide +kernel
theorem d_LW_act_19 : decode b_LW_act 19 = .ok (.iconst 2, 1) := by decide +kernel
theorem d_LW_act_20 : decode b_LW_act 20 = .ok (.ireturn, 1) := by decide +kernel
theorem d_LW_act_21 : decode b_LW_act 21 = .ok (.iconst 0, 1) := by decide +kernel
theorem d_LW_act_22 : decode b_LW_act 22 = .ok (.ireturn, 1) := by decide +kernel
theorem d_LW_shows_0 : decode b_LW_shows 0 = .ok (.aload 4, 2) := by decide +kernel
theorem d_LW_shows_2 : decode b_LW_shows 2 = .ok (.iconst 0, 1) := by decide +kernel
theorem d_LW_shows_3 : decode b_LW_shows 3 = .ok (.aload_n 0, 1) := by decide +kernel
theorem d_LW_shows_4 : decode b_LW_shows 4 = .ok (.iload_n 1, 1) := by decide +kernel
theorem d_LW_shows_5 : decode b_LW_shows 5 = .ok (.iload_n 2, 1) := by decide +kernel
theorem d_LW_shows_6 : decode b_LW_shows 6 = .ok (.iload_n 3, 1) := by decide +kernel
theorem d_LW_shows_7 : decode b_LW_shows 7 = .ok (.invokevirtual 20, 3) := by decide +kernel
theorem d_LW_shows_10 : decode b_LW_shows 10 = .ok (.ifCond .eq 7, 3) := by decide +kernel
theorem d_LW_shows_13 : decode b_LW_shows 13 = .ok (.lconst 1, 1) := by decide +kernel
theorem d_LW_shows_14 : decode b_LW_shows 14 = .ok (.goto 4, 3) := by decide +kernel
theorem d_LW_shows_17 : decode b_LW_shows 17 = .ok (.lconst 0, 1) := by decide +kernel
theorem d_LW_shows_18 : decode b_LW_shows 18 = .ok (.lastore, 1) := by decide +kernel
theorem d_LW_shows_19 : decode b_LW_shows 19 = .ok (.goto 7, 3) := by decide +kernel
theorem d_LW_shows_22 : decode b_LW_shows 22 = .ok (.astore 5, 2) := by decide +kernel
theorem d_LW_shows_24 : decode b_LW_shows 24 = .ok (.iconst 1, 1) := by decide +kernel
theorem d_LW_shows_25 : decode b_LW_shows 25 = .ok (.ireturn, 1) := by decide +kernel
theorem d_LW_shows_26 : decode b_LW_shows 26 = .ok (.iconst 0, 1) := by decide +kernel
theorem d_LW_shows_27 : decode b_LW_shows 27 = .ok (.ireturn, 1) := by decide +kernel
theorem d_LW_way_0 : decode b_LW_way 0 = .ok (.aload 4, 2) := by decide +kernel
theorem d_LW_way_2 : decode b_LW_way 2 = .ok (.iconst 0, 1) := by decide +kernel
theorem d_LW_way_3 : decode b_LW_way 3 = .ok (.aload_n 0, 1) := by decide +kernel
theorem d_LW_way_4 : decode b_LW_way 4 = .ok (.iload_n 1, 1) := by decide +kernel
theorem d_LW_way_5 : decode b_LW_way 5 = .ok (.iload_n 2, 1) := by decide +kernel
theorem d_LW_way_6 : decode b_LW_way 6 = .ok (.iload_n 3, 1) := by decide +kernel
theorem d_LW_way_7 : decode b_LW_way 7 = .ok (.invokevirtual 24, 3) := by decide +kernel
theorem d_LW_way_10 : decode b_LW_way 10 = .ok (.i2l, 1) := by decide +kernel
theorem d_LW_way_11 : decode b_LW_way 11 = .ok (.lastore, 1) := by decide +kernel
theorem d_LW_way_12 : decode b_LW_way 12 = .ok (.goto 7, 3) := by decide +kernel
theorem d_LW_way_15 : decode b_LW_way 15 = .ok (.astore 5, 2) := by decide +kernel
theorem d_LW_way_17 : decode b_LW_way 17 = .ok (.iconst 1, 1) := by decide +kernel
theorem d_LW_way_18 : decode b_LW_way 18 = .ok (.ireturn, 1) := by decide +kernel
theorem d_LW_way_19 : decode b_LW_way 19 = .ok (.iconst 0, 1) := by decide +kernel
theorem d_LW_way_20 : decode b_LW_way 20 = .ok (.ireturn, 1) := by decide +kernel
theorem d_LW_change_0 : decode b_LW_change 0 = .ok (.aload_n 3, 1) := by decide +kernel
theorem d_LW_change_1 : decode b_LW_change 1 = .ok (.iconst 0, 1) := by decide +kernel
theorem d_LW_change_2 : decode b_LW_change 2 = .ok (.aload_n 0, 1) := by decide +kernel
theorem d_LW_change_3 : decode b_LW_change 3 = .ok (.iload_n 1, 1) := by decide +kernel
theorem d_LW_change_4 : decode b_LW_change 4 = .ok (.iload_n 2, 1) := by decide +kernel
theorem d_LW_change_5 : decode b_LW_change 5 = .ok (.invokevirtual 28, 3) := by decide +kernel
theorem d_LW_change_8 : decode b_LW_change 8 = .ok (.i2l, 1) := by decide +kernel
theorem d_LW_change_9 : decode b_LW_change 9 = .ok (.lastore, 1) := by decide +kernel
theorem d_LW_change_10 : decode b_LW_change 10 = .ok (.goto 7, 3) := by decide +kernel
theorem d_LW_change_13 : decode b_LW_change 13 = .ok (.astore 4, 2) := by decide +kernel
theorem d_LW_change_15 : decode b_LW_change 15 = .ok (.iconst 1, 1) := by decide +kernel
theorem d_LW_change_16 : decode b_LW_change 16 = .ok (.ireturn, 1) := by decide +kernel
theorem d_LW_change_17 : decode b_LW_change 17 = .ok (.iconst 0, 1) := by decide +kernel
theorem d_LW_change_18 : decode b_LW_change 18 = .ok (.ireturn, 1) := by decide +kernel
theorem d_LW_result_0 : decode b_LW_result 0 = .ok (.aload 5, 2) := by decide +kernel
theorem d_LW_result_2 : decode b_LW_result 2 = .ok (.iconst 0, 1) := by decide +kernel
theorem d_LW_result_3 : decode b_LW_result 3 = .ok (.aload_n 0, 1) := by decide +kernel
theorem d_LW_result_4 : decode b_LW_result 4 = .ok (.iload_n 1, 1) := by decide +kernel
theorem d_LW_result_5 : decode b_LW_result 5 = .ok (.iload_n 2, 1) := by decide +kernel
theorem d_LW_result_6 : decode b_LW_result 6 = .ok (.iload_n 3, 1) := by decide +kernel
theorem d_LW_result_7 : decode b_LW_result 7 = .ok (.iload 4, 2) := by decide +kernel
theorem d_LW_result_9 : decode b_LW_result 9 = .ok (.invokevirtual 31, 3) := by decide +kernel
theorem d_LW_result_12 : decode b_LW_result 12 = .ok (.i2l, 1) := by decide +kernel
theorem d_LW_result_13 : decode b_LW_result 13 = .ok (.lastore, 1) := by decide +kernel
theorem d_LW_result_14 : decode b_LW_result 14 = .ok (.goto 11, 3) := by decide +kernel
theorem d_LW_result_17 : decode b_LW_result 17 = .ok (.astore 6, 2) := by decide +kernel
theorem d_LW_result_19 : decode b_LW_result 19 = .ok (.iconst 1, 1) := by decide +kernel
theorem d_LW_result_20 : decode b_LW_result 20 = .ok (.ireturn, 1) := by decide +kernel
theorem d_LW_result_21 : decode b_LW_result 21 = .ok (.astore 6, 2) := by decide +kernel
theorem d_LW_result_23 : decode b_LW_result 23 = .ok (.iconst 2, 1) := by decide +kernel
theorem d_LW_result_24 : decode b_LW_result 24 = .ok (.ireturn, 1) := by decide +kernel
theorem d_LW_result_25 : decode b_LW_result 25 = .ok (.iconst 0, 1) := by decide +kernel
theorem d_LW_result_26 : decode b_LW_result 26 = .ok (.ireturn, 1) := by decide +kernel
theorem d_LW_plan_0 : decode b_LW_plan 0 = .ok (.aload_n 2, 1) := by decide +kernel
theorem d_LW_plan_1 : decode b_LW_plan 1 = .ok (.iconst 0, 1) := by decide +kernel
theorem d_LW_plan_2 : decode b_LW_plan 2 = .ok (.aload_n 0, 1) := by decide +kernel
theorem d_LW_plan_3 : decode b_LW_plan 3 = .ok (.iload_n 1, 1) := by decide +kernel
theorem d_LW_plan_4 : decode b_LW_plan 4 = .ok (.invokevirtual 35, 3) := by decide +kernel
theorem d_LW_plan_7 : decode b_LW_plan 7 = .ok (.i2l, 1) := by decide +kernel
theorem d_LW_plan_8 : decode b_LW_plan 8 = .ok (.lastore, 1) := by decide +kernel
theorem d_LW_plan_9 : decode b_LW_plan 9 = .ok (.goto 6, 3) := by decide +kernel
theorem d_LW_plan_12 : decode b_LW_plan 12 = .ok (.astore_n 3, 1) := by decide +kernel
theorem d_LW_plan_13 : decode b_LW_plan 13 = .ok (.iconst 1, 1) := by decide +kernel
theorem d_LW_plan_14 : decode b_LW_plan 14 = .ok (.ireturn, 1) := by decide +kernel
theorem d_LW_plan_15 : decode b_LW_plan 15 = .ok (.iconst 0, 1) := by decide +kernel
theorem d_LW_plan_16 : decode b_LW_plan 16 = .ok (.ireturn, 1) := by decide +kernel
theorem d_LW_planned_0 : decode b_LW_planned 0 = .ok (.aload_n 2, 1) := by decide +kernel
theorem d_LW_planned_1 : decode b_LW_planned 1 = .ok (.iconst 0, 1) := by decide +kernel
theorem d_LW_planned_2 : decode b_LW_planned 2 = .ok (.aload_n 0, 1) := by decide +kernel
theorem d_LW_planned_3 : decode b_LW_planned 3 = .ok (.iload_n 1, 1) := by decide +kernel
theorem d_LW_planned_4 : decode b_LW_planned 4 = .ok (.invokevirtual 39, 3) := by decide +kernel
theorem d_LW_planned_7 : decode b_LW_planned 7 = .ok (.i2l, 1) := by decide +kernel
theorem d_LW_planned_8 : decode b_LW_planned 8 = .ok (.lastore, 1) := by decide +kernel
theorem d_LW_planned_9 : decode b_LW_planned 9 = .ok (.goto 6, 3) := by decide +kernel
theorem d_LW_planned_12 : decode b_LW_planned 12 = .ok (.astore_n 3, 1) := by decide +kernel
theorem d_LW_planned_13 : decode b_LW_planned 13 = .ok (.iconst 1, 1) := by decide +kernel
theorem d_LW_planned_14 : decode b_LW_planned 14 = .ok (.ireturn, 1) := by decide +kernel
theorem d_LW_planned_15 : decode b_LW_planned 15 = .ok (.iconst 0, 1) := by decide +kernel
theorem d_LW_planned_16 : decode b_LW_planned 16 = .ok (.ireturn, 1) := by decide +kernel
theorem d_LW_from_0 : decode b_LW_from 0 = .ok (.aload_n 2, 1) := by decide +kernel
theorem d_LW_from_1 : decode b_LW_from 1 = .ok (.iconst 0, 1) := by decide +kernel
theorem d_LW_from_2 : decode b_LW_from 2 = .ok (.aload_n 0, 1) := by decide +kernel
theorem d_LW_from_3 : decode b_LW_from 3 = .ok (.iload_n 1, 1) := by decide +kernel
theorem d_LW_from_4 : decode b_LW_from 4 = .ok (.invokevirtual 42, 3) := by decide +kernel
theorem d_LW_from_7 : decode b_LW_from 7 = .ok (.i2l, 1) := by decide +kernel
theorem d_LW_from_8 : decode b_LW_from 8 = .ok (.lastore, 1) := by decide +kernel
theorem d_LW_from_9 : decode b_LW_from 9 = .ok (.goto 6, 3) := by decide +kernel
theorem d_LW_from_12 : decode b_LW_from 12 = .ok (.astore_n 3, 1) := by decide +kernel
theorem d_LW_from_13 : decode b_LW_from 13 = .ok (.iconst 1, 1) := by decide +kernel
theorem d_LW_from_14 : decode b_LW_from 14 = .ok (.ireturn, 1) := by decide +kernel
theorem d_LW_from_15 : decode b_LW_from 15 = .ok (.iconst 0, 1) := by decide +kernel
theorem d_LW_from_16 : decode b_LW_from 16 = .ok (.ireturn, 1) := by decide +kernel
theorem d_LW_state_0 : decode b_LW_state 0 = .ok (.aload_n 3, 1) := by decide +kernel
theorem d_LW_state_1 : decode b_LW_state 1 = .ok (.iconst 0, 1) := by decide +kernel
theorem d_LW_state_2 : decode b_LW_state 2 = .ok (.aload_n 0, 1) := by decide +kernel
theorem d_LW_state_3 : decode b_LW_state 3 = .ok (.iload_n 1, 1) := by decide +kernel
theorem d_LW_state_4 : decode b_LW_state 4 = .ok (.iload_n 2, 1) := by decide +kernel
theorem d_LW_state_5 : decode b_LW_state 5 = .ok (.invokevirtual 45, 3) := by decide +kernel
theorem d_LW_state_8 : decode b_LW_state 8 = .ok (.i2l, 1) := by decide +kernel
theorem d_LW_state_9 : decode b_LW_state 9 = .ok (.lastore, 1) := by decide +kernel
theorem d_LW_state_10 : decode b_LW_state 10 = .ok (.goto 7, 3) := by decide +kernel
theorem d_LW_state_13 : decode b_LW_state 13 = .ok (.astore 4, 2) := by decide +kernel
theorem d_LW_state_15 : decode b_LW_state 15 = .ok (.iconst 1, 1) := by decide +kernel
theorem d_LW_state_16 : decode b_LW_state 16 = .ok (.ireturn, 1) := by decide +kernel
theorem d_LW_state_17 : decode b_LW_state 17 = .ok (.iconst 0, 1) := by decide +kernel
theorem d_LW_state_18 : decode b_LW_state 18 = .ok (.ireturn, 1) := by decide +kernel
theorem d_LW_word_0 : decode b_LW_word 0 = .ok (.aload 4, 2) := by decide +kernel
theorem d_LW_word_2 : decode b_LW_word 2 = .ok (.iconst 0, 1) := by decide +kernel
theorem d_LW_word_3 : decode b_LW_word 3 = .ok (.aload_n 0, 1) := by decide +kernel
theorem d_LW_word_4 : decode b_LW_word 4 = .ok (.iload_n 1, 1) := by decide +kernel
theorem d_LW_word_5 : decode b_LW_word 5 = .ok (.iload_n 2, 1) := by decide +kernel
theorem d_LW_word_6 : decode b_LW_word 6 = .ok (.iload_n 3, 1) := by decide +kernel
theorem d_LW_word_7 : decode b_LW_word 7 = .ok (.invokevirtual 48, 3) := by decide +kernel
theorem d_LW_word_10 : decode b_LW_word 10 = .ok (.i2l, 1) := by decide +kernel
theorem d_LW_word_11 : decode b_LW_word 11 = .ok (.lastore, 1) := by decide +kernel
theorem d_LW_word_12 : decode b_LW_word 12 = .ok (.goto 7, 3) := by decide +kernel
theorem d_LW_word_15 : decode b_LW_word 15 = .ok (.astore 5, 2) := by decide +kernel
theorem d_LW_word_17 : decode b_LW_word 17 = .ok (.iconst 1, 1) := by decide +kernel
theorem d_LW_word_18 : decode b_LW_word 18 = .ok (.ireturn, 1) := by decide +kernel
theorem d_LW_word_19 : decode b_LW_word 19 = .ok (.iconst 0, 1) := by decide +kernel
theorem d_LW_word_20 : decode b_LW_word 20 = .ok (.ireturn, 1) := by decide +kernel
theorem d_LW_listed_0 : decode b_LW_listed 0 = .ok (.aload 4, 2) := by decide +kernel
theorem d_LW_listed_2 : decode b_LW_listed 2 = .ok (.iconst 0, 1) := by decide +kernel
theorem d_LW_listed_3 : decode b_LW_listed 3 = .ok (.aload_n 0, 1) := by decide +kernel
theorem d_LW_listed_4 : decode b_LW_listed 4 = .ok (.iload_n 1, 1) := by decide +kernel
theorem d_LW_listed_5 : decode b_LW_listed 5 = .ok (.iload_n 2, 1) := by decide +kernel
theorem d_LW_listed_6 : decode b_LW_listed 6 = .ok (.iload_n 3, 1) := by decide +kernel
theorem d_LW_listed_7 : decode b_LW_listed 7 = .ok (.invokevirtual 51, 3) := by decide +kernel
theorem d_LW_listed_10 : decode b_LW_listed 10 = .ok (.i2l, 1) := by decide +kernel
theorem d_LW_listed_11 : decode b_LW_listed 11 = .ok (.lastore, 1) := by decide +kernel
theorem d_LW_listed_12 : decode b_LW_listed 12 = .ok (.goto 7, 3) := by decide +kernel
theorem d_LW_listed_15 : decode b_LW_listed 15 = .ok (.astore 5, 2) := by decide +kernel
theorem d_LW_listed_17 : decode b_LW_listed 17 = .ok (.iconst 1, 1) := by decide +kernel
theorem d_LW_listed_18 : decode b_LW_listed 18 = .ok (.ireturn, 1) := by decide +kernel
theorem d_LW_listed_19 : decode b_LW_listed 19 = .ok (.iconst 0, 1) := by decide +kernel
theorem d_LW_listed_20 : decode b_LW_listed 20 = .ok (.ireturn, 1) := by decide +kernel
theorem d_LW_hidden_0 : decode b_LW_hidden 0 = .ok (.aload_n 2, 1) := by decide +kernel
theorem d_LW_hidden_1 : decode b_LW_hidden 1 = .ok (.iconst 0, 1) := by decide +kernel
theorem d_LW_hidden_2 : decode b_LW_hidden 2 = .ok (.aload_n 0, 1) := by decide +kernel
theorem d_LW_hidden_3 : decode b_LW_hidden 3 = .ok (.iload_n 1, 1) := by decide +kernel
theorem d_LW_hidden_4 : decode b_LW_hidden 4 = .ok (.invokevirtual 54, 3) := by decide +kernel
theorem d_LW_hidden_7 : decode b_LW_hidden 7 = .ok (.i2l, 1) := by decide +kernel
theorem d_LW_hidden_8 : decode b_LW_hidden 8 = .ok (.lastore, 1) := by decide +kernel
theorem d_LW_hidden_9 : decode b_LW_hidden 9 = .ok (.goto 6, 3) := by decide +kernel
theorem d_LW_hidden_12 : decode b_LW_hidden 12 = .ok (.astore_n 3, 1) := by decide +kernel
theorem d_LW_hidden_13 : decode b_LW_hidden 13 = .ok (.iconst 1, 1) := by decide +kernel
theorem d_LW_hidden_14 : decode b_LW_hidden 14 = .ok (.ireturn, 1) := by decide +kernel
theorem d_LW_hidden_15 : decode b_LW_hidden 15 = .ok (.iconst 0, 1) := by decide +kernel
theorem d_LW_hidden_16 : decode b_LW_hidden 16 = .ok (.ireturn, 1) := by decide +kernel
theorem d_LW_proves_0 : decode b_LW_proves 0 = .ok (.aload_n 3, 1) := by decide +kernel
theorem d_LW_proves_1 : decode b_LW_proves 1 = .ok (.iconst 0, 1) := by decide +kernel
theorem d_LW_proves_2 : decode b_LW_proves 2 = .ok (.aload_n 0, 1) := by decide +kernel
theorem d_LW_proves_3 : decode b_LW_proves 3 = .ok (.iload_n 1, 1) := by decide +kernel
theorem d_LW_proves_4 : decode b_LW_proves 4 = .ok (.iload_n 2, 1) := by decide +kernel
theorem d_LW_proves_5 : decode b_LW_proves 5 = .ok (.invokevirtual 57, 3) := by decide +kernel
theorem d_LW_proves_8 : decode b_LW_proves 8 = .ok (.i2l, 1) := by decide +kernel
theorem d_LW_proves_9 : decode b_LW_proves 9 = .ok (.lastore, 1) := by decide +kernel
theorem d_LW_proves_10 : decode b_LW_proves 10 = .ok (.goto 7, 3) := by decide +kernel
theorem d_LW_proves_13 : decode b_LW_proves 13 = .ok (.astore 4, 2) := by decide +kernel
theorem d_LW_proves_15 : decode b_LW_proves 15 = .ok (.iconst 1, 1) := by decide +kernel
theorem d_LW_proves_16 : decode b_LW_proves 16 = .ok (.ireturn, 1) := by decide +kernel
theorem d_LW_proves_17 : decode b_LW_proves 17 = .ok (.iconst 0, 1) := by decide +kernel
theorem d_LW_proves_18 : decode b_LW_proves 18 = .ok (.ireturn, 1) := by decide +kernel
theorem d_LW_touched_0 : decode b_LW_touched 0 = .ok (.aload_n 3, 1) := by decide +kernel
theorem d_LW_touched_1 : decode b_LW_touched 1 = .ok (.iconst 0, 1) := by decide +kernel
theorem d_LW_touched_2 : decode b_LW_touched 2 = .ok (.aload_n 0, 1) := by decide +kernel
theorem d_LW_touched_3 : decode b_LW_touched 3 = .ok (.iload_n 1, 1) := by decide +kernel
theorem d_LW_touched_4 : decode b_LW_touched 4 = .ok (.iload_n 2, 1) := by decide +kernel
theorem d_LW_touched_5 : decode b_LW_touched 5 = .ok (.invokevirtual 60, 3) := by decide +kernel
theorem d_LW_touched_8 : decode b_LW_touched 8 = .ok (.i2l, 1) := by decide +kernel
theorem d_LW_touched_9 : decode b_LW_touched 9 = .ok (.lastore, 1) := by decide +kernel
theorem d_LW_touched_10 : decode b_LW_touched 10 = .ok (.goto 7, 3) := by decide +kernel
theorem d_LW_touched_13 : decode b_LW_touched 13 = .ok (.astore 4, 2) := by decide +kernel
theorem d_LW_touched_15 : decode b_LW_touched 15 = .ok (.iconst 1, 1) := by decide +kernel
theorem d_LW_touched_16 : decode b_LW_touched 16 = .ok (.ireturn, 1) := by decide +kernel
theorem d_LW_touched_17 : decode b_LW_touched 17 = .ok (.iconst 0, 1) := by decide +kernel
theorem d_LW_touched_18 : decode b_LW_touched 18 = .ok (.ireturn, 1) := by decide +kernel
