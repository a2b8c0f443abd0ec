theorem d_CL_init_0 : decode b_CL_init 0 = .ok (.aload_n 0, 1) := by decide +kernel
theorem d_CL_init_1 : decode b_CL_init 1 = .ok (.invokespecial 3, 3) := by decide +kernel
theorem d_CL_init_4 : decode b_CL_init 4 = .ok (.aload_n 0, 1) := by decide +kernel
theorem d_CL_init_5 : decode b_CL_init 5 = .ok (.iconst 1, 1) := by decide +kernel
theorem d_CL_init_6 : decode b_CL_init 6 = .ok (.sipush 5000, 3) := by decide +kernel
theorem d_CL_init_9 : decode b_CL_init 9 = .ok (.iload_n 1, 1) := by decide +kernel
theorem d_CL_init_10 : decode b_CL_init 10 = .ok (.invokestatic 9, 3) := by decide +kernel
theorem d_CL_init_13 : decode b_CL_init 13 = .ok (.invokestatic 15, 3) := by decide +kernel
theorem d_CL_init_16 : decode b_CL_init 16 = .ok (.putfield 18, 3) := by decide +kernel
theorem d_CL_init_19 : decode b_CL_init 19 = .ok (.aload_n 0, 1) := by decide +kernel
theorem d_CL_init_20 : decode b_CL_init 20 = .ok (.new 22, 3) := by decide +kernel
theorem d_CL_init_23 : decode b_CL_init 23 = .ok (.dup, 1) := by decide +kernel
theorem d_CL_init_24 : decode b_CL_init 24 = .ok (.invokespecial 24, 3) := by decide +kernel
theorem d_CL_init_27 : decode b_CL_init 27 = .ok (.putfield 25, 3) := by decide +kernel
theorem d_CL_init_30 : decode b_CL_init 30 = .ok (.aload_n 0, 1) := by decide +kernel
theorem d_CL_init_31 : decode b_CL_init 31 = .ok (.new 29, 3) := by decide +kernel
theorem d_CL_init_34 : decode b_CL_init 34 = .ok (.dup, 1) := by decide +kernel
theorem d_CL_init_35 : decode b_CL_init 35 = .ok (.invokespecial 31, 3) := by decide +kernel
theorem d_CL_init_38 : decode b_CL_init 38 = .ok (.putfield 32, 3) := by decide +kernel
theorem d_CL_init_41 : decode b_CL_init 41 = .ok (.aload_n 0, 1) := by decide +kernel
theorem d_CL_init_42 : decode b_CL_init 42 = .ok (.new 36, 3) := by decide +kernel
theorem d_CL_init_45 : decode b_CL_init 45 = .ok (.dup, 1) := by decide +kernel
theorem d_CL_init_46 : decode b_CL_init 46 = .ok (.invokespecial 38, 3) := by decide +kernel
theorem d_CL_init_49 : decode b_CL_init 49 = .ok (.putfield 39, 3) := by decide +kernel
theorem d_CL_init_52 : decode b_CL_init 52 = .ok (.aload_n 0, 1) := by decide +kernel
theorem d_CL_init_53 : decode b_CL_init 53 = .ok (.bipush 8, 2) := by decide +kernel
theorem d_CL_init_55 : decode b_CL_init 55 = .ok (.newarray .int, 2) := by decide +kernel
theorem d_CL_init_57 : decode b_CL_init 57 = .ok (.putfield 43, 3) := by decide +kernel
theorem d_CL_init_60 : decode b_CL_init 60 = .ok (.aload_n 0, 1) := by decide +kernel
theorem d_CL_init_61 : decode b_CL_init 61 = .ok (.iconst 0, 1) := by decide +kernel
theorem d_CL_init_62 : decode b_CL_init 62 = .ok (.putfield 47, 3) := by decide +kernel
theorem d_CL_init_65 : decode b_CL_init 65 = .ok (.aload_n 0, 1) := by decide +kernel
theorem d_CL_init_66 : decode b_CL_init 66 = .ok (.iconst 0, 1) := by decide +kernel
theorem d_CL_init_67 : decode b_CL_init 67 = .ok (.putfield 50, 3) := by decide +kernel
theorem d_CL_init_70 : decode b_CL_init 70 = .ok (.return_, 1) := by decide +kernel
theorem d_TL_init_0 : decode b_TL_init 0 = .ok (.aload_n 0, 1) := by decide +kernel
theorem d_TL_init_1 : decode b_TL_init 1 = .ok (.invokespecial 3, 3) := by decide +kernel
theorem d_TL_init_4 : decode b_TL_init 4 = .ok (.aload_n 0, 1) := by decide +kernel
theorem d_TL_init_5 : decode b_TL_init 5 = .ok (.sipush 512, 3) := by decide +kernel
theorem d_TL_init_8 : decode b_TL_init 8 = .ok (.newarray .int, 2) := by decide +kernel
theorem d_TL_init_10 : decode b_TL_init 10 = .ok (.putfield 9, 3) := by decide +kernel
theorem d_TL_init_13 : decode b_TL_init 13 = .ok (.aload_n 0, 1) := by decide +kernel
theorem d_TL_init_14 : decode b_TL_init 14 = .ok (.sipush 512, 3) := by decide +kernel
theorem d_TL_init_17 : decode b_TL_init 17 = .ok (.newarray .int, 2) := by decide +kernel
theorem d_TL_init_19 : decode b_TL_init 19 = .ok (.putfield 15, 3) := by decide +kernel
theorem d_TL_init_22 : decode b_TL_init 22 = .ok (.aload_n 0, 1) := by decide +kernel
theorem d_TL_init_23 : decode b_TL_init 23 = .ok (.iconst 0, 1) := by decide +kernel
theorem d_TL_init_24 : decode b_TL_init 24 = .ok (.putfield 18, 3) := by decide +kernel
theorem d_TL_init_27 : decode b_TL_init 27 = .ok (.return_, 1) := by decide +kernel
theorem d_TU_init_0 : decode b_TU_init 0 = .ok (.aload_n 0, 1) := by decide +kernel
theorem d_TU_init_1 : decode b_TU_init 1 = .ok (.invokespecial 3, 3) := by decide +kernel
theorem d_TU_init_4 : decode b_TU_init 4 = .ok (.aload_n 0, 1) := by decide +kernel
theorem d_TU_init_5 : decode b_TU_init 5 = .ok (.bipush 8, 2) := by decide +kernel
theorem d_TU_init_7 : decode b_TU_init 7 = .ok (.newarray .int, 2) := by decide +kernel
theorem d_TU_init_9 : decode b_TU_init 9 = .ok (.putfield 9, 3) := by decide +kernel
theorem d_TU_init_12 : decode b_TU_init 12 = .ok (.aload_n 0, 1) := by decide +kernel
theorem d_TU_init_13 : decode b_TU_init 13 = .ok (.bipush 8, 2) := by decide +kernel
theorem d_TU_init_15 : decode b_TU_init 15 = .ok (.newarray .int, 2) := by decide +kernel
theorem d_TU_init_17 : decode b_TU_init 17 = .ok (.putfield 15, 3) := by decide +kernel
theorem d_TU_init_20 : decode b_TU_init 20 = .ok (.aload_n 0, 1) := by decide +kernel
theorem d_TU_init_21 : decode b_TU_init 21 = .ok (.bipush 8, 2) := by decide +kernel
theorem d_TU_init_23 : decode b_TU_init 23 = .ok (.newarray .int, 2) := by decide +kernel
theorem d_TU_init_25 : decode b_TU_init 25 = .ok (.putfield 18, 3) := by decide +kernel
theorem d_TU_init_28 : decode b_TU_init 28 = .ok (.aload_n 0, 1) := by decide +kernel
theorem d_TU_init_29 : decode b_TU_init 29 = .ok (.bipush 100, 2) := by decide +kernel
theorem d_TU_init_31 : decode b_TU_init 31 = .ok (.newarray .int, 2) := by decide +kernel
theorem d_TU_init_33 : decode b_TU_init 33 = .ok (.putfield 21, 3) := by decide +kernel
theorem d_TU_init_36 : decode b_TU_init 36 = .ok (.aload_n 0, 1) := by decide +kernel
theorem d_TU_init_37 : decode b_TU_init 37 = .ok (.sipush 2048, 3) := by decide +kernel
theorem d_TU_init_40 : decode b_TU_init 40 = .ok (.newarray .int, 2) := by decide +kernel
theorem d_TU_init_42 : decode b_TU_init 42 = .ok (.putfield 24, 3) := by decide +kernel
theorem d_TU_init_45 : decode b_TU_init 45 = .ok (.aload_n 0, 1) := by decide +kernel
theorem d_TU_init_46 : decode b_TU_init 46 = .ok (.iconst 0, 1) := by decide +kernel
theorem d_TU_init_47 : decode b_TU_init 47 = .ok (.putfield 27, 3) := by decide +kernel
theorem d_TU_init_50 : decode b_TU_init 50 = .ok (.return_, 1) := by decide +kernel
theorem d_CL_seconds_0 : decode b_CL_seconds 0 = .ok (.aload_n 0, 1) := by decide +kernel
theorem d_CL_seconds_1 : decode b_CL_seconds 1 = .ok (.getfield 50, 3) := by decide +kernel
theorem d_CL_seconds_4 : decode b_CL_seconds 4 = .ok (.ireturn, 1) := by decide +kernel
theorem d_CL_fault_0 : decode b_CL_fault 0 = .ok (.iload_n 1, 1) := by decide +kernel
theorem d_CL_fault_1 : decode b_CL_fault 1 = .ok (.bipush 30, 2) := by decide +kernel
theorem d_CL_fault_3 : decode b_CL_fault 3 = .ok (.invokestatic 53, 3) := by decide +kernel
theorem d_CL_fault_6 : decode b_CL_fault 6 = .ok (.iload_n 2, 1) := by decide +kernel
theorem d_CL_fault_7 : decode b_CL_fault 7 = .ok (.iconst (-1), 1) := by decide +kernel
theorem d_CL_fault_8 : decode b_CL_fault 8 = .ok (.if_icmp .eq 9, 3) := by decide +kernel
theorem d_CL_fault_11 : decode b_CL_fault 11 = .ok (.iload_n 2, 1) := by decide +kernel
theorem d_CL_fault_12 : decode b_CL_fault 12 = .ok (.bipush 30, 2) := by decide +kernel
theorem d_CL_fault_14 : decode b_CL_fault 14 = .ok (.invokestatic 53, 3) := by decide +kernel
theorem d_CL_fault_17 : decode b_CL_fault 17 = .ok (.iload_n 1, 1) := by decide +kernel
theorem d_CL_fault_18 : decode b_CL_fault 18 = .ok (.iload_n 2, 1) := by decide +kernel
theorem d_CL_fault_19 : decode b_CL_fault 19 = .ok (.invokestatic 57, 3) := by decide +kernel
theorem d_CL_fault_22 : decode b_CL_fault 22 = .ok (.aload_n 0, 1) := by decide +kernel
theorem d_CL_fault_23 : decode b_CL_fault 23 = .ok (.iload_n 1, 1) := by decide +kernel
theorem d_CL_fault_24 : decode b_CL_fault 24 = .ok (.iload_n 2, 1) := by decide +kernel
theorem d_CL_fault_25 : decode b_CL_fault 25 = .ok (.invokevirtual 60, 3) := by decide +kernel
theorem d_CL_fault_28 : decode b_CL_fault 28 = .ok (.istore_n 3, 1) := by decide +kernel
theorem d_CL_fault_29 : decode b_CL_fault 29 = .ok (.iload_n 3, 1) := by decide +kernel
theorem d_CL_fault_30 : decode b_CL_fault 30 = .ok (.iconst (-1), 1) := by decide +kernel
theorem d_CL_fault_31 : decode b_CL_fault 31 = .ok (.if_icmp .eq 5, 3) := by decide +kernel
theorem d_CL_fault_34 : decode b_CL_fault 34 = .ok (.iload_n 3, 1) := by decide +kernel
theorem d_CL_fault_35 : decode b_CL_fault 35 = .ok (.ireturn, 1) := by decide +kernel
theorem d_CL_fault_36 : decode b_CL_fault 36 = .ok (.aload_n 0, 1) := by decide +kernel
theorem d_CL_fault_37 : decode b_CL_fault 37 = .ok (.getfield 25, 3) := by decide +kernel
theorem d_CL_fault_40 : decode b_CL_fault 40 = .ok (.invokevirtual 63, 3) := by decide +kernel
theorem d_CL_fault_43 : decode b_CL_fault 43 = .ok (.bipush 24, 2) := by decide +kernel
theorem d_CL_fault_45 : decode b_CL_fault 45 = .ok (.invokestatic 67, 3) := by decide +kernel
theorem d_CL_fault_48 : decode b_CL_fault 48 = .ok (.aload_n 0, 1) := by decide +kernel
theorem d_CL_fault_49 : decode b_CL_fault 49 = .ok (.getfield 25, 3) := by decide +kernel
theorem d_CL_fault_52 : decode b_CL_fault 52 = .ok (.new 70, 3) := by decide +kernel
theorem d_CL_fault_55 : decode b_CL_fault 55 = .ok (.dup, 1) := by decide +kernel
theorem d_CL_fault_56 : decode b_CL_fault 56 = .ok (.iload_n 1, 1) := by decide +kernel
theorem d_CL_fault_57 : decode b_CL_fault 57 = .ok (.iload_n 2, 1) := by decide +kernel
theorem d_CL_fault_58 : decode b_CL_fault 58 = .ok (.invokespecial 72, 3) := by decide +kernel
theorem d_CL_fault_61 : decode b_CL_fault 61 = .ok (.invokevirtual 74, 3) := by decide +kernel
theorem d_CL_fault_64 : decode b_CL_fault 64 = .ok (.pop, 1) := by decide +kernel
theorem d_CL_fault_65 : decode b_CL_fault 65 = .ok (.aload_n 0, 1) := by decide +kernel
theorem d_CL_fault_66 : decode b_CL_fault 66 = .ok (.getfield 25, 3) := by decide +kernel
theorem d_CL_fault_69 : decode b_CL_fault 69 = .ok (.invokevirtual 63, 3) := by decide +kernel
theorem d_CL_fault_72 : decode b_CL_fault 72 = .ok (.iconst 1, 1) := by decide +kernel
theorem d_CL_fault_73 : decode b_CL_fault 73 = .ok (.isub, 1) := by decide +kernel
theorem d_CL_fault_74 : decode b_CL_fault 74 = .ok (.ireturn, 1) := by decide +kernel
theorem d_CL_needBelow_0 : decode b_CL_needBelow 0 = .ok (.iload_n 0, 1) := by decide +kernel
theorem d_CL_needBelow_1 : decode b_CL_needBelow 1 = .ok (.iconst 0, 1) := by decide +kernel
theorem d_CL_needBelow_2 : decode b_CL_needBelow 2 = .ok (.iload_n 1, 1) := by decide +kernel
theorem d_CL_needBelow_3 : decode b_CL_needBelow 3 = .ok (.iconst 1, 1) := by decide +kernel
theorem d_CL_needBelow_4 : decode b_CL_needBelow 4 = .ok (.isub, 1) := by decide +kernel
theorem d_CL_needBelow_5 : decode b_CL_needBelow 5 = .ok (.invokestatic 78, 3) := by decide +kernel
theorem d_CL_needBelow_8 : decode b_CL_needBelow 8 = .ok (.return_, 1) := by decide +kernel
theorem d_CL_needWithin_0 : decode b_CL_needWithin 0 = .ok (.iload_n 0, 1) := by decide +kernel
theorem d_CL_needWithin_1 : decode b_CL_needWithin 1 = .ok (.iload_n 1, 1) := by decide +kernel
theorem d_CL_needWithin_2 : decode b_CL_needWithin 2 = .ok (.if_icmp .lt 8, 3) := by decide +kernel
theorem d_CL_needWithin_5 : decode b_CL_needWithin 5 = .ok (.iload_n 0, 1) := by decide +kernel
theorem d_CL_needWithin_6 : decode b_CL_needWithin 6 = .ok (.iload_n 2, 1) := by decide +kernel
theorem d_CL_needWithin_7 : decode b_CL_needWithin 7 = .ok (.if_icmp .le 13, 3) := by decide +kernel
theorem d_CL_needWithin_10 : decode b_CL_needWithin 10 = .ok (.new 166, 3) := by decide +kernel
theorem d_CL_needWithin_13 : decode b_CL_needWithin 13 = .ok (.dup, 1) := by decide +kernel
theorem d_CL_needWithin_14 : decode b_CL_needWithin 14 = .ok (.ldc 173, 2) := by decide +kernel
theorem d_CL_needWithin_16 : decode b_CL_needWithin 16 = .ok (.invokespecial 170, 3) := by decide +kernel
theorem d_CL_needWithin_19 : decode b_CL_needWithin 19 = .ok (.athrow, 1) := by decide +kernel
theorem d_CL_needWithin_20 : decode b_CL_needWithin 20 = .ok (.return_, 1) := by decide +kernel
theorem d_CL_needOther_0 : decode b_CL_needOther 0 = .ok (.iload_n 0, 1) := by decide +kernel
theorem d_CL_needOther_1 : decode b_CL_needOther 1 = .ok (.iload_n 1, 1) := by decide +kernel
theorem d_CL_needOther_2 : decode b_CL_needOther 2 = .ok (.if_icmp .ne 13, 3) := by decide +kernel
theorem d_CL_needOther_5 : decode b_CL_needOther 5 = .ok (.new 166, 3) := by decide +kernel
theorem d_CL_needOther_8 : decode b_CL_needOther 8 = .ok (.dup, 1) := by decide +kernel
theorem d_CL_needOther_9 : decode b_CL_needOther 9 = .ok (.ldc 175, 2) := by decide +kernel
theorem d_CL_needOther_11 : decode b_CL_needOther 11 = .ok (.invokespecial 170, 3) := by decide +kernel
theorem d_CL_needOther_14 : decode b_CL_needOther 14 = .ok (.athrow, 1) := by decide +kernel
theorem d_CL_needOther_15 : decode b_CL_needOther 15 = .ok (.return_, 1) := by decide +kernel
theorem d_CL_caseOf_0 : decode b_CL_caseOf 0 = .ok (.iconst 0, 1) := by decide +kernel
theorem d_CL_caseOf_1 : decode b_CL_caseOf 1 = .ok (.istore_n 3, 1) := by decide +kernel
theorem d_CL_caseOf_2 : decode b_CL_caseOf 2 = .ok (.iload_n 3, 1) := by decide +kernel
theorem d_CL_caseOf_3 : decode b_CL_caseOf 3 = .ok (.aload_n 0, 1) := by decide +kernel
theorem d_CL_caseOf_4 : decode b_CL_caseOf 4 = .ok (.getfield 25, 3) := by decide +kernel
theorem d_CL_caseOf_7 : decode b_CL_caseOf 7 = .ok (.invokevirtual 63, 3) := by decide +kernel
theorem d_CL_caseOf_10 : decode b_CL_caseOf 10 = .ok (.if_icmp .ge 30, 3) := by decide +kernel
theorem d_CL_caseOf_13 : decode b_CL_caseOf 13 = .ok (.aload_n 0, 1) := by decide +kernel
theorem d_CL_caseOf_14 : decode b_CL_caseOf 14 = .ok (.getfield 25, 3) := by decide +kernel
theorem d_CL_caseOf_17 : decode b_CL_caseOf 17 = .ok (.iload_n 3, 1) := by decide +kernel
theorem d_CL_caseOf_18 : decode b_CL_caseOf 18 = .ok (.invokevirtual 112, 3) := by decide +kernel
theorem d_CL_caseOf_21 : decode b_CL_caseOf 21 = .ok (.checkcast 70, 3) := by decide +kernel
theorem d_CL_caseOf_24 : decode b_CL_caseOf 24 = .ok (.iload_n 1, 1) := by decide +kernel
theorem d_CL_caseOf_25 : decode b_CL_caseOf 25 = .ok (.iload_n 2, 1) := by decide +kernel
theorem d_CL_caseOf_26 : decode b_CL_caseOf 26 = .ok (.invokevirtual 182, 3) := by decide +kernel
theorem d_CL_caseOf_29 : decode b_CL_caseOf 29 = .ok (.ifCond .eq 5, 3) := by decide +kernel
theorem d_CL_caseOf_32 : decode b_CL_caseOf 32 = .ok (.iload_n 3, 1) := by decide +kernel
theorem d_CL_caseOf_33 : decode b_CL_caseOf 33 = .ok (.ireturn, 1) := by decide +kernel
theorem d_CL_caseOf_34 : decode b_CL_caseOf 34 = .ok (.iinc 3 1, 3) := by decide +kernel
theorem d_CL_caseOf_37 : decode b_CL_caseOf 37 = .ok (.goto (-35), 3) := by decide +kernel
theorem d_CL_caseOf_40 : decode b_CL_caseOf 40 = .ok (.iconst (-1), 1) := by decide +kernel
theorem d_CL_caseOf_41 : decode b_CL_caseOf 41 = .ok (.ireturn, 1) := by decide +kernel
theorem d_CS_isOf_0 : decode b_CS_isOf 0 = .ok (.aload_n 0, 1) := by decide +kernel
theorem d_CS_isOf_1 : decode b_CS_isOf 1 = .ok (.getfield 9, 3) := by decide +kernel
theorem d_CS_isOf_4 : decode b_CS_isOf 4 = .ok (.iload_n 1, 1) := by decide +kernel
theorem d_CS_isOf_5 : decode b_CS_isOf 5 = .ok (.if_icmp .ne 11, 3) := by decide +kernel
theorem d_CS_isOf_8 : decode b_CS_isOf 8 = .ok (.aload_n 0, 1) := by decide +kernel
theorem d_CS_isOf_9 : decode b_CS_isOf 9 = .ok (.getfield 15, 3) := by decide +kernel
theorem d_CS_isOf_12 : decode b_CS_isOf 12 = .ok (.iload_n 2, 1) := by decide +kernel
theorem d_CS_isOf_13 : decode b_CS_isOf 13 = .ok (.if_icmp .eq 19, 3) := by decide +kernel
theorem d_CS_isOf_16 : decode b_CS_isOf 16 = .ok (.aload_n 0, 1) := by decide +kernel
theorem d_CS_isOf_17 : decode b_CS_isOf 17 = .ok (.getfield 9, 3) := by decide +kernel
theorem d_CS_isOf_20 : decode b_CS_isOf 20 = .ok (.iload_n 2, 1) := by decide +kernel
theorem d_CS_isOf_21 : decode b_CS_isOf 21 = .ok (.if_icmp .ne 15, 3) := by decide +kernel
theorem d_CS_isOf_24 : decode b_CS_isOf 24 = .ok (.aload_n 0, 1) := by decide +kernel
theorem d_CS_isOf_25 : decode b_CS_isOf 25 = .ok (.getfield 15, 3) := by decide +kernel
theorem d_CS_isOf_28 : decode b_CS_isOf 28 = .ok (.iload_n 1, 1) := by decide +kernel
theorem d_CS_isOf_29 : decode b_CS_isOf 29 = .ok (.if_icmp .ne 7, 3) := by decide +kernel
theorem d_CS_isOf_32 : decode b_CS_isOf 32 = .ok (.iconst 1, 1) := by decide +kernel
theorem d_CS_isOf_33 : decode b_CS_isOf 33 = .ok (.goto 4, 3) := by decide +kernel
theorem d_CS_isOf_36 : decode b_CS_isOf 36 = .ok (.iconst 0, 1) := by decide +kernel
theorem d_CS_isOf_37 : decode b_CS_isOf 37 = .ok (.ireturn, 1) := by decide +kernel
theorem d_CL_needRoom_0 : decode b_CL_needRoom 0 = .ok (.iload_n 0, 1) := by decide +kernel
theorem d_CL_needRoom_1 : decode b_CL_needRoom 1 = .ok (.iload_n 1, 1) := by decide +kernel
theorem d_CL_needRoom_2 : decode b_CL_needRoom 2 = .ok (.if_icmp .lt 13, 3) := by decide +kernel
theorem d_CL_needRoom_5 : decode b_CL_needRoom 5 = .ok (.new 177, 3) := by decide +kernel
theorem d_CL_needRoom_8 : decode b_CL_needRoom 8 = .ok (.dup, 1) := by decide +kernel
theorem d_CL_needRoom_9 : decode b_CL_needRoom 9 = .ok (.ldc 179, 2) := by decide +kernel
theorem d_CL_needRoom_11 : decode b_CL_needRoom 11 = .ok (.invokespecial 181, 3) := by decide +kernel
theorem d_CL_needRoom_14 : decode b_CL_needRoom 14 = .ok (.athrow, 1) := by decide +kernel
theorem d_CL_needRoom_15 : decode b_CL_needRoom 15 = .ok (.return_, 1) := by decide +kernel
theorem d_CS_init_0 : decode b_CS_init 0 = .ok (.aload_n 0, 1) := by decide +kernel
theorem d_CS_init_1 : decode b_CS_init 1 = .ok (.invokespecial 3, 3) := by decide +kernel
theorem d_CS_init_4 : decode b_CS_init 4 = .ok (.aload_n 0, 1) := by decide +kernel
theorem d_CS_init_5 : decode b_CS_init 5 = .ok (.iload_n 1, 1) := by decide +kernel
theorem d_CS_init_6 : decode b_CS_init 6 = .ok (.putfield 9, 3) := by decide +kernel
theorem d_CS_init_9 : decode b_CS_init 9 = .ok (.aload_n 0, 1) := by decide +kernel
theorem d_CS_init_10 : decode b_CS_init 10 = .ok (.iload_n 2, 1) := by decide +kernel
theorem d_CS_init_11 : decode b_CS_init 11 = .ok (.putfield 15, 3) := by decide +kernel
theorem d_CS_init_14 : decode b_CS_init 14 = .ok (.aload_n 0, 1) := by decide +kernel
theorem d_CS_init_15 : decode b_CS_init 15 = .ok (.bipush 32, 2) := by decide +kernel
theorem d_CS_init_17 : decode b_CS_init 17 = .ok (.newarray .int, 2) := by decide +kernel
theorem d_CS_init_19 : decode b_CS_init 19 = .ok (.putfield 18, 3) := by decide +kernel
theorem d_CS_init_22 : decode b_CS_init 22 = .ok (.aload_n 0, 1) := by decide +kernel
theorem d_CS_init_23 : decode b_CS_init 23 = .ok (.bipush 32, 2) := by decide +kernel
theorem d_CS_init_25 : decode b_CS_init 25 = .ok (.newarray .int, 2) := by decide +kernel
theorem d_CS_init_27 : decode b_CS_init 27 = .ok (.putfield 22, 3) := by decide +kernel
theorem d_CS_init_30 : decode b_CS_init 30 = .ok (.aload_n 0, 1) := by decide +kernel
theorem d_CS_init_31 : decode b_CS_init 31 = .ok (.bipush 32, 2) := by decide +kernel
theorem d_CS_init_33 : decode b_CS_init 33 = .ok (.newarray .boolean, 2) := by decide +kernel
theorem d_CS_init_35 : decode b_CS_init 35 = .ok (.putfield 25, 3) := by decide +kernel
theorem d_CS_init_38 : decode b_CS_init 38 = .ok (.aload_n 0, 1) := by decide +kernel
theorem d_CS_init_39 : decode b_CS_init 39 = .ok (.iconst 0, 1) := by decide +kernel
theorem d_CS_init_40 : decode b_CS_init 40 = .ok (.putfield 29, 3) := by decide +kernel
theorem d_CS_init_43 : decode b_CS_init 43 = .ok (.return_, 1) := by decide +kernel
theorem d_CL_act_0 : decode b_CL_act 0 = .ok (.iload_n 1, 1) := by decide +kernel
theorem d_CL_act_1 : decode b_CL_act 1 = .ok (.bipush 10, 2) := by decide +kernel
theorem d_CL_act_3 : decode b_CL_act 3 = .ok (.invokestatic 53, 3) := by decide +kernel
theorem d_CL_act_6 : decode b_CL_act 6 = .ok (.iload_n 2, 1) := by decide +kernel
theorem d_CL_act_7 : decode b_CL_act 7 = .ok (.iconst 1, 1) := by decide +kernel
theorem d_CL_act_8 : decode b_CL_act 8 = .ok (.sipush 10000, 3) := by decide +kernel
theorem d_CL_act_11 : decode b_CL_act 11 = .ok (.invokestatic 78, 3) := by decide +kernel
theorem d_CL_act_14 : decode b_CL_act 14 = .ok (.aload_n 0, 1) := by decide +kernel
theorem d_CL_act_15 : decode b_CL_act 15 = .ok (.getfield 39, 3) := by decide +kernel
theorem d_CL_act_18 : decode b_CL_act 18 = .ok (.invokevirtual 82, 3) := by decide +kernel
theorem d_CL_act_21 : decode b_CL_act 21 = .ok (.bipush 8, 2) := by decide +kernel
theorem d_CL_act_23 : decode b_CL_act 23 = .ok (.invokestatic 67, 3) := by decide +kernel
theorem d_CL_act_26 : decode b_CL_act 26 = .ok (.aload_n 0, 1) := by decide +kernel
theorem d_CL_act_27 : decode b_CL_act 27 = .ok (.getfield 39, 3) := by decide +kernel
theorem d_CL_act_30 : decode b_CL_act 30 = .ok (.iload_n 1, 1) := by decide +kernel
theorem d_CL_act_31 : decode b_CL_act 31 = .ok (.iload_n 2, 1) := by decide +kernel
theorem d_CL_act_32 : decode b_CL_act 32 = .ok (.invokevirtual 85, 3) := by decide +kernel
theorem d_CL_act_35 : decode b_CL_act 35 = .ok (.ireturn, 1) := by decide +kernel
theorem d_TU_actCount_0 : decode b_TU_actCount 0 = .ok (.aload_n 0, 1) := by decide +kernel
theorem d_TU_actCount_1 : decode b_TU_actCount 1 = .ok (.getfield 27, 3) := by decide +kernel
theorem d_TU_actCount_4 : decode b_TU_actCount 4 = .ok (.ireturn, 1) := by decide +kernel
theorem d_TU_addAct_0 : decode b_TU_addAct 0 = .ok (.aload_n 0, 1) := by decide +kernel
theorem d_TU_addAct_1 : decode b_TU_addAct 1 = .ok (.getfield 27, 3) := by decide +kernel
theorem d_TU_addAct_4 : decode b_TU_addAct 4 = .ok (.bipush 8, 2) := by decide +kernel
theorem d_TU_addAct_6 : decode b_TU_addAct 6 = .ok (.if_icmp .lt 5, 3) := by decide +kernel
theorem d_TU_addAct_9 : decode b_TU_addAct 9 = .ok (.iconst (-1), 1) := by decide +kernel
theorem d_TU_addAct_10 : decode b_TU_addAct 10 = .ok (.ireturn, 1) := by decide +kernel
theorem d_TU_addAct_11 : decode b_TU_addAct 11 = .ok (.aload_n 0, 1) := by decide +kernel
theorem d_TU_addAct_12 : decode b_TU_addAct 12 = .ok (.getfield 9, 3) := by decide +kernel
theorem d_TU_addAct_15 : decode b_TU_addAct 15 = .ok (.aload_n 0, 1) := by decide +kernel
theorem d_TU_addAct_16 : decode b_TU_addAct 16 = .ok (.getfield 27, 3) := by decide +kernel
theorem d_TU_addAct_19 : decode b_TU_addAct 19 = .ok (.iload_n 1, 1) := by decide +kernel
theorem d_TU_addAct_20 : decode b_TU_addAct 20 = .ok (.iastore, 1) := by decide +kernel
theorem d_TU_addAct_21 : decode b_TU_addAct 21 = .ok (.aload_n 0, 1) := by decide +kernel
theorem d_TU_addAct_22 : decode b_TU_addAct 22 = .ok (.getfield 15, 3) := by decide +kernel
theorem d_TU_addAct_25 : decode b_TU_addAct 25 = .ok (.aload_n 0, 1) := by decide +kernel
theorem d_TU_addAct_26 : decode b_TU_addAct 26 = .ok (.getfield 27, 3) := by decide +kernel
theorem d_TU_addAct_29 : decode b_TU_addAct 29 = .ok (.iload_n 2, 1) := by decide +kernel
theorem d_TU_addAct_30 : decode b_TU_addAct 30 = .ok (.iastore, 1) := by decide +kernel
theorem d_TU_addAct_31 : decode b_TU_addAct 31 = .ok (.aload_n 0, 1) := by decide +kernel
theorem d_TU_addAct_32 : decode b_TU_addAct 32 = .ok (.dup, 1) := by decide +kernel
theorem d_TU_addAct_33 : decode b_TU_addAct 33 = .ok (.getfield 27, 3) := by decide +kernel
theorem d_TU_addAct_36 : decode b_TU_addAct 36 = .ok (.iconst 1, 1) := by decide +kernel
theorem d_TU_addAct_37 : decode b_TU_addAct 37 = .ok (.iadd, 1) := by decide +kernel
theorem d_TU_addAct_38 : decode b_TU_addAct 38 = .ok (.putfield 27, 3) := by decide +kernel
theorem d_TU_addAct_41 : decode b_TU_addAct 41 = .ok (.aload_n 0, 1) := by decide +kernel
theorem d_TU_addAct_42 : decode b_TU_addAct 42 = .ok (.getfield 27, 3) := by decide +kernel
theorem d_TU_addAct_45 : decode b_TU_addAct 45 = .ok (.iconst 1, 1) := by decide +kernel
theorem d_TU_addAct_46 : decode b_TU_addAct 46 = .ok (.isub, 1) := by decide +kernel
theorem d_TU_addAct_47 : decode b_TU_addAct 47 = .ok (.ireturn, 1) := by decide +kernel
theorem d_CL_shows_0 : decode b_CL_shows 0 = .ok (.iload_n 1, 1) := by decide +kernel
theorem d_CL_shows_1 : decode b_CL_shows 1 = .ok (.aload_n 0, 1) := by decide +kernel
theorem d_CL_shows_2 : decode b_CL_shows 2 = .ok (.getfield 39, 3) := by decide +kernel
theorem d_CL_shows_5 : decode b_CL_shows 5 = .ok (.invokevirtual 82, 3) := by decide +kernel
theorem d_CL_shows_8 : decode b_CL_shows 8 = .ok (.invokestatic 53, 3) := by decide +kernel
theorem d_CL_shows_11 : decode b_CL_shows 11 = .ok (.iload_n 2, 1) := by decide +kernel
theorem d_CL_shows_12 : decode b_CL_shows 12 = .ok (.aload_n 0, 1) := by decide +kernel
theorem d_CL_shows_13 : decode b_CL_shows 13 = .ok (.getfield 25, 3) := by decide +kernel
theorem d_CL_shows_16 : decode b_CL_shows 16 = .ok (.invokevirtual 63, 3) := by decide +kernel
theorem d_CL_shows_19 : decode b_CL_shows 19 = .ok (.invokestatic 53, 3) := by decide +kernel
theorem d_CL_shows_22 : decode b_CL_shows 22 = .ok (.aload_n 0, 1) := by decide +kernel
theorem d_CL_shows_23 : decode b_CL_shows 23 = .ok (.getfield 39, 3) := by decide +kernel
theorem d_CL_shows_26 : decode b_CL_shows 26 = .ok (.iload_n 1, 1) := by decide +kernel
theorem d_CL_shows_27 : decode b_CL_shows 27 = .ok (.iload_n 2, 1) := by decide +kernel
theorem d_CL_shows_28 : decode b_CL_shows 28 = .ok (.iload_n 3, 1) := by decide +kernel
theorem d_CL_shows_29 : decode b_CL_shows 29 = .ok (.invokevirtual 88, 3) := by decide +kernel
theorem d_CL_shows_32 : decode b_CL_shows 32 = .ok (.ireturn, 1) := by decide +kernel
theorem d_TU_setShown_0 : decode b_TU_setShown 0 = .ok (.aload_n 0, 1) := by decide +kernel
theorem d_TU_setShown_1 : decode b_TU_setShown 1 = .ok (.getfield 18, 3) := by decide +kernel
theorem d_TU_setShown_4 : decode b_TU_setShown 4 = .ok (.iload_n 1, 1) := by decide +kernel
theorem d_TU_setShown_5 : decode b_TU_setShown 5 = .ok (.iaload, 1) := by decide +kernel
theorem d_TU_setShown_6 : decode b_TU_setShown 6 = .ok (.iload_n 2, 1) := by decide +kernel
theorem d_TU_setShown_7 : decode b_TU_setShown 7 = .ok (.invokestatic 31, 3) := by decide +kernel
theorem d_TU_setShown_10 : decode b_TU_setShown 10 = .ok (.istore 4, 2) := by decide +kernel
theorem d_TU_setShown_12 : decode b_TU_setShown 12 = .ok (.iload_n 3, 1) := by decide +kernel
theorem d_TU_setShown_13 : decode b_TU_setShown 13 = .ok (.ifCond .eq 18, 3) := by decide +kernel
theorem d_TU_setShown_16 : decode b_TU_setShown 16 = .ok (.aload_n 0, 1) := by decide +kernel
theorem d_TU_setShown_17 : decode b_TU_setShown 17 = .ok (.getfield 18, 3) := by decide +kernel
theorem d_TU_setShown_20 : decode b_TU_setShown 20 = .ok (.iload_n 1, 1) := by decide +kernel
theorem d_TU_setShown_21 : decode b_TU_setShown 21 = .ok (.dup2, 1) := by decide +kernel
theorem d_TU_setShown_22 : decode b_TU_setShown 22 = .ok (.iaload, 1) := by decide +kernel
theorem d_TU_setShown_23 : decode b_TU_setShown 23 = .ok (.iconst 1, 1) := by decide +kernel
theorem d_TU_setShown_24 : decode b_TU_setShown 24 = .ok (.iload_n 2, 1) := by decide +kernel
theorem d_TU_setShown_25 : decode b_TU_setShown 25 = .ok (.ishl, 1) := by decide +kernel
theorem d_TU_setShown_26 : decode b_TU_setShown 26 = .ok (.ior, 1) := by decide +kernel
theorem d_TU_setShown_27 : decode b_TU_setShown 27 = .ok (.iastore, 1) := by decide +kernel
theorem d_TU_setShown_28 : decode b_TU_setShown 28 = .ok (.goto 17, 3) := by decide +kernel
theorem d_TU_setShown_31 : decode b_TU_setShown 31 = .ok (.aload_n 0, 1) := by decide +kernel
theorem d_TU_setShown_32 : decode b_TU_setShown 32 = .ok (.getfield 18, 3) := by decide +kernel
theorem d_TU_setShown_35 : decode b_TU_setShown 35 = .ok (.iload_n 1, 1) := by decide +kernel
theorem d_TU_setShown_36 : decode b_TU_setShown 36 = .ok (.dup2, 1) := by decide +kernel
theorem d_TU_setShown_37 : decode b_TU_setShown 37 = .ok (.iaload, 1) := by decide +kernel
theorem d_TU_setShown_38 : decode b_TU_setShown 38 = .ok (.iconst 1, 1) := by decide +kernel
theorem d_TU_setShown_39 : decode b_TU_setShown 39 = .ok (.iload_n 2, 1) := by decide +kernel
theorem d_TU_setShown_40 : decode b_TU_setShown 40 = .ok (.ishl, 1) := by decide +kernel
theorem d_TU_setShown_41 : decode b_TU_setShown 41 = .ok (.iconst (-1), 1) := by decide +kernel
theorem d_TU_setShown_42 : decode b_TU_setShown 42 = .ok (.ixor, 1) := by decide +kernel
theorem d_TU_setShown_43 : decode b_TU_setShown 43 = .ok (.iand, 1) := by decide +kernel
theorem d_TU_setShown_44 : decode b_TU_setShown 44 = .ok (.iastore, 1) := by decide +kernel
theorem d_TU_setShown_45 : decode b_TU_setShown 45 = .ok (.iload 4, 2) := by decide +kernel
theorem d_TU_setShown_47 : decode b_TU_setShown 47 = .ok (.ireturn, 1) := by decide +kernel
theorem d_CL_holds_0 : decode b_CL_holds 0 = .ok (.iload_n 0, 1) := by decide +kernel
theorem d_CL_holds_1 : decode b_CL_holds 1 = .ok (.iconst 1, 1) := by decide +kernel
theorem d_CL_holds_2 : decode b_CL_holds 2 = .ok (.iload_n 1, 1) := by decide +kernel
theorem d_CL_holds_3 : decode b_CL_holds 3 = .ok (.ishl, 1) := by decide +kernel
theorem d_CL_holds_4 : decode b_CL_holds 4 = .ok (.iand, 1) := by decide +kernel
theorem d_CL_holds_5 : decode b_CL_holds 5 = .ok (.ifCond .eq 7, 3) := by decide +kernel
theorem d_CL_holds_8 : decode b_CL_holds 8 = .ok (.iconst 1, 1) := by decide +kernel
theorem d_CL_holds_9 : decode b_CL_holds 9 = .ok (.goto 4, 3) := by decide +kernel
theorem d_CL_holds_12 : decode b_CL_holds 12 = .ok (.iconst 0, 1) := by decide +kernel
theorem d_CL_holds_13 : decode b_CL_holds 13 = .ok (.ireturn, 1) := by decide +kernel
theorem d_CL_way_0 : decode b_CL_way 0 = .ok (.iload_n 1, 1) := by decide +kernel
theorem d_CL_way_1 : decode b_CL_way 1 = .ok (.bipush 10, 2) := by decide +kernel
theorem d_CL_way_3 : decode b_CL_way 3 = .ok (.invokestatic 53, 3) := by decide +kernel
theorem d_CL_way_6 : decode b_CL_way 6 = .ok (.iload_n 2, 1) := by decide +kernel
theorem d_CL_way_7 : decode b_CL_way 7 = .ok (.bipush 10, 2) := by decide +kernel
theorem d_CL_way_9 : decode b_CL_way 9 = .ok (.invokestatic 53, 3) := by decide +kernel
theorem d_CL_way_12 : decode b_CL_way 12 = .ok (.iload_n 1, 1) := by decide +kernel
theorem d_CL_way_13 : decode b_CL_way 13 = .ok (.iload_n 2, 1) := by decide +kernel
theorem d_CL_way_14 : decode b_CL_way 14 = .ok (.invokestatic 57, 3) := by decide +kernel
theorem d_CL_way_17 : decode b_CL_way 17 = .ok (.iload_n 3, 1) := by decide +kernel
theorem d_CL_way_18 : decode b_CL_way 18 = .ok (.iconst 0, 1) := by decide +kernel
theorem d_CL_way_19 : decode b_CL_way 19 = .ok (.sipush 10000, 3) := by decide +kernel
theorem d_CL_way_22 : decode b_CL_way 22 = .ok (.invokestatic 78, 3) := by decide +kernel
theorem d_CL_way_25 : decode b_CL_way 25 = .ok (.aload_n 0, 1) := by decide +kernel
theorem d_CL_way_26 : decode b_CL_way 26 = .ok (.getfield 39, 3) := by decide +kernel
theorem d_CL_way_29 : decode b_CL_way 29 = .ok (.iload_n 1, 1) := by decide +kernel
theorem d_CL_way_30 : decode b_CL_way 30 = .ok (.iload_n 2, 1) := by decide +kernel
theorem d_CL_way_31 : decode b_CL_way 31 = .ok (.iload_n 3, 1) := by decide +kernel
theorem d_CL_way_32 : decode b_CL_way 32 = .ok (.invokevirtual 92, 3) := by decide +kernel
theorem d_CL_way_35 : decode b_CL_way 35 = .ok (.ireturn, 1) := by decide +kernel
theorem d_TU_setWay_0 : decode b_TU_setWay 0 = .ok (.aload_n 0, 1) := by decide +kernel
theorem d_TU_setWay_1 : decode b_TU_setWay 1 = .ok (.getfield 21, 3) := by decide +kernel
theorem d_TU_setWay_4 : decode b_TU_setWay 4 = .ok (.iload_n 1, 1) := by decide +kernel
theorem d_TU_setWay_5 : decode b_TU_setWay 5 = .ok (.bipush 10, 2) := by decide +kernel
theorem d_TU_setWay_7 : decode b_TU_setWay 7 = .ok (.imul, 1) := by decide +kernel
theorem d_TU_setWay_8 : decode b_TU_setWay 8 = .ok (.iload_n 2, 1) := by decide +kernel
theorem d_TU_setWay_9 : decode b_TU_setWay 9 = .ok (.iadd, 1) := by decide +kernel
theorem d_TU_setWay_10 : decode b_TU_setWay 10 = .ok (.iaload, 1) := by decide +kernel
theorem d_TU_setWay_11 : decode b_TU_setWay 11 = .ok (.istore 4, 2) := by decide +kernel
theorem d_TU_setWay_13 : decode b_TU_setWay 13 = .ok (.aload_n 0, 1) := by decide +kernel
theorem d_TU_setWay_14 : decode b_TU_setWay 14 = .ok (.getfield 21, 3) := by decide +kernel
theorem d_TU_setWay_17 : decode b_TU_setWay 17 = .ok (.iload_n 1, 1) := by decide +kernel
theorem d_TU_setWay_18 : decode b_TU_setWay 18 = .ok (.bipush 10, 2) := by decide +kernel
theorem d_TU_setWay_20 : decode b_TU_setWay 20 = .ok (.imul, 1) := by decide +kernel
theorem d_TU_setWay_21 : decode b_TU_setWay 21 = .ok (.iload_n 2, 1) := by decide +kernel
theorem d_TU_setWay_22 : decode b_TU_setWay 22 = .ok (.iadd, 1) := by decide +kernel
theorem d_TU_setWay_23 : decode b_TU_setWay 23 = .ok (.iload_n 3, 1) := by decide +kernel
theorem d_TU_setWay_24 : decode b_TU_setWay 24 = .ok (.iastore, 1) := by decide +kernel
theorem d_TU_setWay_25 : decode b_TU_setWay 25 = .ok (.aload_n 0, 1) := by decide +kernel
theorem d_TU_setWay_26 : decode b_TU_setWay 26 = .ok (.getfield 21, 3) := by decide +kernel
theorem d_TU_setWay_29 : decode b_TU_setWay 29 = .ok (.iload_n 2, 1) := by decide +kernel
theorem d_TU_setWay_30 : decode b_TU_setWay 30 = .ok (.bipush 10, 2) := by decide +kernel
theorem d_TU_setWay_32 : decode b_TU_setWay 32 = .ok (.imul, 1) := by decide +kernel
theorem d_TU_setWay_33 : decode b_TU_setWay 33 = .ok (.iload_n 1, 1) := by decide +kernel
theorem d_TU_setWay_34 : decode b_TU_setWay 34 = .ok (.iadd, 1) := by decide +kernel
theorem d_TU_setWay_35 : decode b_TU_setWay 35 = .ok (.iload_n 3, 1) := by decide +kernel
theorem d_TU_setWay_36 : decode b_TU_setWay 36 = .ok (.iastore, 1) := by decide +kernel
theorem d_TU_setWay_37 : decode b_TU_setWay 37 = .ok (.iload 4, 2) := by decide +kernel
theorem d_TU_setWay_39 : decode b_TU_setWay 39 = .ok (.ireturn, 1) := by decide +kernel
theorem d_CL_change_0 : decode b_CL_change 0 = .ok (.iload_n 1, 1) := by decide +kernel
theorem d_CL_change_1 : decode b_CL_change 1 = .ok (.bipush 30, 2) := by decide +kernel
theorem d_CL_change_3 : decode b_CL_change 3 = .ok (.invokestatic 53, 3) := by decide +kernel
theorem d_CL_change_6 : decode b_CL_change 6 = .ok (.iload_n 2, 1) := by decide +kernel
theorem d_CL_change_7 : decode b_CL_change 7 = .ok (.invokestatic 96, 3) := by decide +kernel
theorem d_CL_change_10 : decode b_CL_change 10 = .ok (.aload_n 0, 1) := by decide +kernel
theorem d_CL_change_11 : decode b_CL_change 11 = .ok (.iload_n 1, 1) := by decide +kernel
theorem d_CL_change_12 : decode b_CL_change 12 = .ok (.invokevirtual 100, 3) := by decide +kernel
theorem d_CL_change_15 : decode b_CL_change 15 = .ok (.istore_n 3, 1) := by decide +kernel
theorem d_CL_change_16 : decode b_CL_change 16 = .ok (.aload_n 0, 1) := by decide +kernel
theorem d_CL_change_17 : decode b_CL_change 17 = .ok (.getfield 32, 3) := by decide +kernel
theorem d_CL_change_20 : decode b_CL_change 20 = .ok (.iload_n 2, 1) := by decide +kernel
theorem d_CL_change_21 : decode b_CL_change 21 = .ok (.iload_n 3, 1) := by decide +kernel
theorem d_CL_change_22 : decode b_CL_change 22 = .ok (.invokevirtual 104, 3) := by decide +kernel
theorem d_CL_change_25 : decode b_CL_change 25 = .ok (.iload_n 3, 1) := by decide +kernel
theorem d_CL_change_26 : decode b_CL_change 26 = .ok (.invokestatic 107, 3) := by decide +kernel
theorem d_CL_change_29 : decode b_CL_change 29 = .ok (.ireturn, 1) := by decide +kernel
theorem d_CL_needDay_0 : decode b_CL_needDay 0 = .ok (.iload_n 0, 1) := by decide +kernel
theorem d_CL_needDay_1 : decode b_CL_needDay 1 = .ok (.iconst 0, 1) := by decide +kernel
theorem d_CL_needDay_2 : decode b_CL_needDay 2 = .ok (.ldc 165, 2) := by decide +kernel
theorem d_CL_needDay_4 : decode b_CL_needDay 4 = .ok (.invokestatic 78, 3) := by decide +kernel
theorem d_CL_needDay_7 : decode b_CL_needDay 7 = .ok (.return_, 1) := by decide +kernel
theorem d_CL_casesWith_0 : decode b_CL_casesWith 0 = .ok (.iconst 0, 1) := by decide +kernel
theorem d_CL_casesWith_1 : decode b_CL_casesWith 1 = .ok (.istore_n 2, 1) := by decide +kernel
theorem d_CL_casesWith_2 : decode b_CL_casesWith 2 = .ok (.iconst 0, 1) := by decide +kernel
theorem d_CL_casesWith_3 : decode b_CL_casesWith 3 = .ok (.istore_n 3, 1) := by decide +kernel
theorem d_CL_casesWith_4 : decode b_CL_casesWith 4 = .ok (.iload_n 3, 1) := by decide +kernel
theorem d_CL_casesWith_5 : decode b_CL_casesWith 5 = .ok (.aload_n 0, 1) := by decide +kernel
theorem d_CL_casesWith_6 : decode b_CL_casesWith 6 = .ok (.getfield 25, 3) := by decide +kernel
theorem d_CL_casesWith_9 : decode b_CL_casesWith 9 = .ok (.invokevirtual 63, 3) := by decide +kernel
theorem d_CL_casesWith_12 : decode b_CL_casesWith 12 = .ok (.if_icmp .ge 33, 3) := by decide +kernel
theorem d_CL_casesWith_15 : decode b_CL_casesWith 15 = .ok (.aload_n 0, 1) := by decide +kernel
theorem d_CL_casesWith_16 : decode b_CL_casesWith 16 = .ok (.getfield 25, 3) := by decide +kernel
theorem d_CL_casesWith_19 : decode b_CL_casesWith 19 = .ok (.iload_n 3, 1) := by decide +kernel
theorem d_CL_casesWith_20 : decode b_CL_casesWith 20 = .ok (.invokevirtual 112, 3) := by decide +kernel
theorem d_CL_casesWith_23 : decode b_CL_casesWith 23 = .ok (.checkcast 70, 3) := by decide +kernel
theorem d_CL_casesWith_26 : decode b_CL_casesWith 26 = .ok (.iload_n 1, 1) := by decide +kernel
theorem d_CL_casesWith_27 : decode b_CL_casesWith 27 = .ok (.invokevirtual 185, 3) := by decide +kernel
theorem d_CL_casesWith_30 : decode b_CL_casesWith 30 = .ok (.ifCond .eq 9, 3) := by decide +kernel
theorem d_CL_casesWith_33 : decode b_CL_casesWith 33 = .ok (.iload_n 2, 1) := by decide +kernel
theorem d_CL_casesWith_34 : decode b_CL_casesWith 34 = .ok (.iconst 1, 1) := by decide +kernel
theorem d_CL_casesWith_35 : decode b_CL_casesWith 35 = .ok (.iload_n 3, 1) := by decide +kernel
theorem d_CL_casesWith_36 : decode b_CL_casesWith 36 = .ok (.ishl, 1) := by decide +kernel
theorem d_CL_casesWith_37 : decode b_CL_casesWith 37 = .ok (.ior, 1) := by decide +kernel
theorem d_CL_casesWith_38 : decode b_CL_casesWith 38 = .ok (.istore_n 2, 1) := by decide +kernel
theorem d_CL_casesWith_39 : decode b_CL_casesWith 39 = .ok (.iinc 3 1, 3) := by decide +kernel
theorem d_CL_casesWith_42 : decode b_CL_casesWith 42 = .ok (.goto (-38), 3) := by decide +kernel
theorem d_CL_casesWith_45 : decode b_CL_casesWith 45 = .ok (.iload_n 2, 1) := by decide +kernel
theorem d_CL_casesWith_46 : decode b_CL_casesWith 46 = .ok (.ireturn, 1) := by decide +kernel
theorem d_CS_has_0 : decode b_CS_has 0 = .ok (.aload_n 0, 1) := by decide +kernel
theorem d_CS_has_1 : decode b_CS_has 1 = .ok (.getfield 9, 3) := by decide +kernel
theorem d_CS_has_4 : decode b_CS_has 4 = .ok (.iload_n 1, 1) := by decide +kernel
theorem d_CS_has_5 : decode b_CS_has 5 = .ok (.if_icmp .eq 11, 3) := by decide +kernel
theorem d_CS_has_8 : decode b_CS_has 8 = .ok (.aload_n 0, 1) := by decide +kernel
theorem d_CS_has_9 : decode b_CS_has 9 = .ok (.getfield 15, 3) := by decide +kernel
theorem d_CS_has_12 : decode b_CS_has 12 = .ok (.iload_n 1, 1) := by decide +kernel
theorem d_CS_has_13 : decode b_CS_has 13 = .ok (.if_icmp .ne 7, 3) := by decide +kernel
theorem d_CS_has_16 : decode b_CS_has 16 = .ok (.iconst 1, 1) := by decide +kernel
theorem d_CS_has_17 : decode b_CS_has 17 = .ok (.goto 4, 3) := by decide +kernel
theorem d_CS_has_20 : decode b_CS_has 20 = .ok (.iconst 0, 1) := by decide +kernel
theorem d_CS_has_21 : decode b_CS_has 21 = .ok (.ireturn, 1) := by decide +kernel
theorem d_TL_note_0 : decode b_TL_note 0 = .ok (.iconst 0, 1) := by decide +kernel
theorem d_TL_note_1 : decode b_TL_note 1 = .ok (.istore_n 3, 1) := by decide +kernel
theorem d_TL_note_2 : decode b_TL_note 2 = .ok (.iload_n 3, 1) := by decide +kernel
theorem d_TL_note_3 : decode b_TL_note 3 = .ok (.aload_n 0, 1) := by decide +kernel
theorem d_TL_note_4 : decode b_TL_note 4 = .ok (.getfield 18, 3) := by decide +kernel
theorem d_TL_note_7 : decode b_TL_note 7 = .ok (.if_icmp .ge 30, 3) := by decide +kernel
theorem d_TL_note_10 : decode b_TL_note 10 = .ok (.aload_n 0, 1) := by decide +kernel
theorem d_TL_note_11 : decode b_TL_note 11 = .ok (.getfield 9, 3) := by decide +kernel
theorem d_TL_note_14 : decode b_TL_note 14 = .ok (.iload_n 3, 1) := by decide +kernel
theorem d_TL_note_15 : decode b_TL_note 15 = .ok (.iaload, 1) := by decide +kernel
theorem d_TL_note_16 : decode b_TL_note 16 = .ok (.iload_n 1, 1) := by decide +kernel
theorem d_TL_note_17 : decode b_TL_note 17 = .ok (.if_icmp .ne 14, 3) := by decide +kernel
theorem d_TL_note_20 : decode b_TL_note 20 = .ok (.aload_n 0, 1) := by decide +kernel
theorem d_TL_note_21 : decode b_TL_note 21 = .ok (.getfield 15, 3) := by decide +kernel
theorem d_TL_note_24 : decode b_TL_note 24 = .ok (.iload_n 3, 1) := by decide +kernel
theorem d_TL_note_25 : decode b_TL_note 25 = .ok (.dup2, 1) := by decide +kernel
theorem d_TL_note_26 : decode b_TL_note 26 = .ok (.iaload, 1) := by decide +kernel
theorem d_TL_note_27 : decode b_TL_note 27 = .ok (.iload_n 2, 1) := by decide +kernel
theorem d_TL_note_28 : decode b_TL_note 28 = .ok (.ior, 1) := by decide +kernel
theorem d_TL_note_29 : decode b_TL_note 29 = .ok (.iastore, 1) := by decide +kernel
theorem d_TL_note_30 : decode b_TL_note 30 = .ok (.return_, 1) := by decide +kernel
theorem d_TL_note_31 : decode b_TL_note 31 = .ok (.iinc 3 1, 3) := by decide +kernel
theorem d_TL_note_34 : decode b_TL_note 34 = .ok (.goto (-32), 3) := by decide +kernel
theorem d_TL_note_37 : decode b_TL_note 37 = .ok (.iload_n 2, 1) := by decide +kernel
theorem d_TL_note_38 : decode b_TL_note 38 = .ok (.ifCond .eq 43, 3) := by decide +kernel
theorem d_TL_note_41 : decode b_TL_note 41 = .ok (.aload_n 0, 1) := by decide +kernel
theorem d_TL_note_42 : decode b_TL_note 42 = .ok (.getfield 18, 3) := by decide +kernel
theorem d_TL_note_45 : decode b_TL_note 45 = .ok (.sipush 512, 3) := by decide +kernel
theorem d_TL_note_48 : decode b_TL_note 48 = .ok (.if_icmp .ge 33, 3) := by decide +kernel
theorem d_TL_note_51 : decode b_TL_note 51 = .ok (.aload_n 0, 1) := by decide +kernel
theorem d_TL_note_52 : decode b_TL_note 52 = .ok (.getfield 9, 3) := by decide +kernel
theorem d_TL_note_55 : decode b_TL_note 55 = .ok (.aload_n 0, 1) := by decide +kernel
theorem d_TL_note_56 : decode b_TL_note 56 = .ok (.getfield 18, 3) := by decide +kernel
theorem d_TL_note_59 : decode b_TL_note 59 = .ok (.iload_n 1, 1) := by decide +kernel
theorem d_TL_note_60 : decode b_TL_note 60 = .ok (.iastore, 1) := by decide +kernel
theorem d_TL_note_61 : decode b_TL_note 61 = .ok (.aload_n 0, 1) := by decide +kernel
theorem d_TL_note_62 : decode b_TL_note 62 = .ok (.getfield 15, 3) := by decide +kernel
theorem d_TL_note_65 : decode b_TL_note 65 = .ok (.aload_n 0, 1) := by decide +kernel
theorem d_TL_note_66 : decode b_TL_note 66 = .ok (.getfield 18, 3) := by decide +kernel
theorem d_TL_note_69 : decode b_TL_note 69 = .ok (.iload_n 2, 1) := by decide +kernel
theorem d_TL_note_70 : decode b_TL_note 70 = .ok (.iastore, 1) := by decide +kernel
theorem d_TL_note_71 : decode b_TL_note 71 = .ok (.aload_n 0, 1) := by decide +kernel
theorem d_TL_note_72 : decode b_TL_note 72 = .ok (.dup, 1) := by decide +kernel
theorem d_TL_note_73 : decode b_TL_note 73 = .ok (.getfield 18, 3) := by decide +kernel
theorem d_TL_note_76 : decode b_TL_note 76 = .ok (.iconst 1, 1) := by decide +kernel
theorem d_TL_note_77 : decode b_TL_note 77 = .ok (.iadd, 1) := by decide +kernel
theorem d_TL_note_78 : decode b_TL_note 78 = .ok (.putfield 18, 3) := by decide +kernel
theorem d_TL_note_81 : decode b_TL_note 81 = .ok (.return_, 1) := by decide +kernel
theorem d_CL_result_0 : decode b_CL_result 0 = .ok (.iload_n 1, 1) := by decide +kernel
theorem d_CL_result_1 : decode b_CL_result 1 = .ok (.aload_n 0, 1) := by decide +kernel
theorem d_CL_result_2 : decode b_CL_result 2 = .ok (.getfield 25, 3) := by decide +kernel
theorem d_CL_result_5 : decode b_CL_result 5 = .ok (.invokevirtual 63, 3) := by decide +kernel
theorem d_CL_result_8 : decode b_CL_result 8 = .ok (.invokestatic 53, 3) := by decide +kernel
theorem d_CL_result_11 : decode b_CL_result 11 = .ok (.iload_n 2, 1) := by decide +kernel
theorem d_CL_result_12 : decode b_CL_result 12 = .ok (.bipush 10, 2) := by decide +kernel
theorem d_CL_result_14 : decode b_CL_result 14 = .ok (.invokestatic 53, 3) := by decide +kernel
theorem d_CL_result_17 : decode b_CL_result 17 = .ok (.iload_n 3, 1) := by decide +kernel
theorem d_CL_result_18 : decode b_CL_result 18 = .ok (.invokestatic 96, 3) := by decide +kernel
theorem d_CL_result_21 : decode b_CL_result 21 = .ok (.aload_n 0, 1) := by decide +kernel
theorem d_CL_result_22 : decode b_CL_result 22 = .ok (.getfield 25, 3) := by decide +kernel
theorem d_CL_result_25 : decode b_CL_result 25 = .ok (.iload_n 1, 1) := by decide +kernel
theorem d_CL_result_26 : decode b_CL_result 26 = .ok (.invokevirtual 112, 3) := by decide +kernel
theorem d_CL_result_29 : decode b_CL_result 29 = .ok (.checkcast 70, 3) := by decide +kernel
theorem d_CL_result_32 : decode b_CL_result 32 = .ok (.astore 5, 2) := by decide +kernel
theorem d_CL_result_34 : decode b_CL_result 34 = .ok (.aload 5, 2) := by decide +kernel
theorem d_CL_result_36 : decode b_CL_result 36 = .ok (.iload_n 2, 1) := by decide +kernel
theorem d_CL_result_37 : decode b_CL_result 37 = .ok (.iload_n 3, 1) := by decide +kernel
theorem d_CL_result_38 : decode b_CL_result 38 = .ok (.invokevirtual 116, 3) := by decide +kernel
theorem d_CL_result_41 : decode b_CL_result 41 = .ok (.istore 6, 2) := by decide +kernel
theorem d_CL_result_43 : decode b_CL_result 43 = .ok (.iload 6, 2) := by decide +kernel
theorem d_CL_result_45 : decode b_CL_result 45 = .ok (.bipush 32, 2) := by decide +kernel
theorem d_CL_result_47 : decode b_CL_result 47 = .ok (.invokestatic 67, 3) := by decide +kernel
theorem d_CL_result_50 : decode b_CL_result 50 = .ok (.aload 5, 2) := by decide +kernel
theorem d_CL_result_52 : decode b_CL_result 52 = .ok (.iload 6, 2) := by decide +kernel
theorem d_CL_result_54 : decode b_CL_result 54 = .ok (.iload_n 2, 1) := by decide +kernel
theorem d_CL_result_55 : decode b_CL_result 55 = .ok (.iload_n 3, 1) := by decide +kernel
theorem d_CL_result_56 : decode b_CL_result 56 = .ok (.iload 4, 2) := by decide +kernel
theorem d_CL_result_58 : decode b_CL_result 58 = .ok (.invokevirtual 119, 3) := by decide +kernel
theorem d_CL_result_61 : decode b_CL_result 61 = .ok (.aload 5, 2) := by decide +kernel
theorem d_CL_result_63 : decode b_CL_result 63 = .ok (.invokevirtual 123, 3) := by decide +kernel
theorem d_CL_result_66 : decode b_CL_result 66 = .ok (.ireturn, 1) := by decide +kernel
theorem d_CS_rowOf_0 : decode b_CS_rowOf 0 = .ok (.iconst 0, 1) := by decide +kernel
theorem d_CS_rowOf_1 : decode b_CS_rowOf 1 = .ok (.istore_n 3, 1) := by decide +kernel
theorem d_CS_rowOf_2 : decode b_CS_rowOf 2 = .ok (.iload_n 3, 1) := by decide +kernel
theorem d_CS_rowOf_3 : decode b_CS_rowOf 3 = .ok (.aload_n 0, 1) := by decide +kernel
theorem d_CS_rowOf_4 : decode b_CS_rowOf 4 = .ok (.getfield 29, 3) := by decide +kernel
theorem d_CS_rowOf_7 : decode b_CS_rowOf 7 = .ok (.if_icmp .ge 31, 3) := by decide +kernel
theorem d_CS_rowOf_10 : decode b_CS_rowOf 10 = .ok (.aload_n 0, 1) := by decide +kernel
theorem d_CS_rowOf_11 : decode b_CS_rowOf 11 = .ok (.getfield 18, 3) := by decide +kernel
theorem d_CS_rowOf_14 : decode b_CS_rowOf 14 = .ok (.iload_n 3, 1) := by decide +kernel
theorem d_CS_rowOf_15 : decode b_CS_rowOf 15 = .ok (.iaload, 1) := by decide +kernel
theorem d_CS_rowOf_16 : decode b_CS_rowOf 16 = .ok (.iload_n 1, 1) := by decide +kernel
theorem d_CS_rowOf_17 : decode b_CS_rowOf 17 = .ok (.if_icmp .ne 15, 3) := by decide +kernel
theorem d_CS_rowOf_20 : decode b_CS_rowOf 20 = .ok (.aload_n 0, 1) := by decide +kernel
theorem d_CS_rowOf_21 : decode b_CS_rowOf 21 = .ok (.getfield 22, 3) := by decide +kernel
theorem d_CS_rowOf_24 : decode b_CS_rowOf 24 = .ok (.iload_n 3, 1) := by decide +kernel
theorem d_CS_rowOf_25 : decode b_CS_rowOf 25 = .ok (.iaload, 1) := by decide +kernel
theorem d_CS_rowOf_26 : decode b_CS_rowOf 26 = .ok (.iload_n 2, 1) := by decide +kernel
theorem d_CS_rowOf_27 : decode b_CS_rowOf 27 = .ok (.if_icmp .ne 5, 3) := by decide +kernel
theorem d_CS_rowOf_30 : decode b_CS_rowOf 30 = .ok (.iload_n 3, 1) := by decide +kernel
theorem d_CS_rowOf_31 : decode b_CS_rowOf 31 = .ok (.ireturn, 1) := by decide +kernel
theorem d_CS_rowOf_32 : decode b_CS_rowOf 32 = .ok (.iinc 3 1, 3) := by decide +kernel
theorem d_CS_rowOf_35 : decode b_CS_rowOf 35 = .ok (.goto (-33), 3) := by decide +kernel
theorem d_CS_rowOf_38 : decode b_CS_rowOf 38 = .ok (.aload_n 0, 1) := by decide +kernel
theorem d_CS_rowOf_39 : decode b_CS_rowOf 39 = .ok (.getfield 29, 3) := by decide +kernel
theorem d_CS_rowOf_42 : decode b_CS_rowOf 42 = .ok (.ireturn, 1) := by decide +kernel
theorem d_CS_tell_0 : decode b_CS_tell 0 = .ok (.iload_n 1, 1) := by decide +kernel
theorem d_CS_tell_1 : decode b_CS_tell 1 = .ok (.ifCond .lt 9, 3) := by decide +kernel
theorem d_CS_tell_4 : decode b_CS_tell 4 = .ok (.iload_n 1, 1) := by decide +kernel
theorem d_CS_tell_5 : decode b_CS_tell 5 = .ok (.bipush 32, 2) := by decide +kernel
theorem d_CS_tell_7 : decode b_CS_tell 7 = .ok (.if_icmp .lt 4, 3) := by decide +kernel
theorem d_CS_tell_10 : decode b_CS_tell 10 = .ok (.return_, 1) := by decide +kernel
theorem d_CS_tell_11 : decode b_CS_tell 11 = .ok (.aload_n 0, 1) := by decide +kernel
theorem d_CS_tell_12 : decode b_CS_tell 12 = .ok (.getfield 18, 3) := by decide +kernel
theorem d_CS_tell_15 : decode b_CS_tell 15 = .ok (.iload_n 1, 1) := by decide +kernel
theorem d_CS_tell_16 : decode b_CS_tell 16 = .ok (.iload_n 2, 1) := by decide +kernel
theorem d_CS_tell_17 : decode b_CS_tell 17 = .ok (.iastore, 1) := by decide +kernel
theorem d_CS_tell_18 : decode b_CS_tell 18 = .ok (.aload_n 0, 1) := by decide +kernel
theorem d_CS_tell_19 : decode b_CS_tell 19 = .ok (.getfield 22, 3) := by decide +kernel
theorem d_CS_tell_22 : decode b_CS_tell 22 = .ok (.iload_n 1, 1) := by decide +kernel
theorem d_CS_tell_23 : decode b_CS_tell 23 = .ok (.iload_n 3, 1) := by decide +kernel
theorem d_CS_tell_24 : decode b_CS_tell 24 = .ok (.iastore, 1) := by decide +kernel
theorem d_CS_tell_25 : decode b_CS_tell 25 = .ok (.aload_n 0, 1) := by decide +kernel
theorem d_CS_tell_26 : decode b_CS_tell 26 = .ok (.getfield 25, 3) := by decide +kernel
theorem d_CS_tell_29 : decode b_CS_tell 29 = .ok (.iload_n 1, 1) := by decide +kernel
theorem d_CS_tell_30 : decode b_CS_tell 30 = .ok (.iload 4, 2) := by decide +kernel
theorem d_CS_tell_32 : decode b_CS_tell 32 = .ok (.bastore, 1) := by decide +kernel
theorem d_CS_tell_33 : decode b_CS_tell 33 = .ok (.aload_n 0, 1) := by decide +kernel
theorem d_CS_tell_34 : decode b_CS_tell 34 = .ok (.aload_n 0, 1) := by decide +kernel
theorem d_CS_tell_35 : decode b_CS_tell 35 = .ok (.getfield 29, 3) := by decide +kernel
theorem d_CS_tell_38 : decode b_CS_tell 38 = .ok (.iload_n 1, 1) := by decide +kernel
theorem d_CS_tell_39 : decode b_CS_tell 39 = .ok (.iconst 1, 1) := by decide +kernel
theorem d_CS_tell_40 : decode b_CS_tell 40 = .ok (.iadd, 1) := by decide +kernel
theorem d_CS_tell_41 : decode b_CS_tell 41 = .ok (.invokestatic 32, 3) := by decide +kernel
theorem d_CS_tell_44 : decode b_CS_tell 44 = .ok (.putfield 29, 3) := by decide +kernel
theorem d_CS_tell_47 : decode b_CS_tell 47 = .ok (.return_, 1) := by decide +kernel
theorem d_CS_resultCount_0 : decode b_CS_resultCount 0 = .ok (.aload_n 0, 1) := by decide +kernel
theorem d_CS_resultCount_1 : decode b_CS_resultCount 1 = .ok (.getfield 29, 3) := by decide +kernel
theorem d_CS_resultCount_4 : decode b_CS_resultCount 4 = .ok (.ireturn, 1) := by decide +kernel
theorem d_CL_plan_0 : decode b_CL_plan 0 = .ok (.iload_n 1, 1) := by decide +kernel
theorem d_CL_plan_1 : decode b_CL_plan 1 = .ok (.invokestatic 96, 3) := by decide +kernel
theorem d_CL_plan_4 : decode b_CL_plan 4 = .ok (.aload_n 0, 1) := by decide +kernel
theorem d_CL_plan_5 : decode b_CL_plan 5 = .ok (.iload_n 1, 1) := by decide +kernel
theorem d_CL_plan_6 : decode b_CL_plan 6 = .ok (.invokevirtual 126, 3) := by decide +kernel
theorem d_CL_plan_9 : decode b_CL_plan 9 = .ok (.aload_n 0, 1) := by decide +kernel
theorem d_CL_plan_10 : decode b_CL_plan 10 = .ok (.getfield 39, 3) := by decide +kernel
theorem d_CL_plan_13 : decode b_CL_plan 13 = .ok (.invokevirtual 129, 3) := by decide +kernel
theorem d_CL_plan_16 : decode b_CL_plan 16 = .ok (.iand, 1) := by decide +kernel
theorem d_CL_plan_17 : decode b_CL_plan 17 = .ok (.istore_n 2, 1) := by decide +kernel
theorem d_CL_plan_18 : decode b_CL_plan 18 = .ok (.aload_n 0, 1) := by decide +kernel
theorem d_CL_plan_19 : decode b_CL_plan 19 = .ok (.aload_n 0, 1) := by decide +kernel
theorem d_CL_plan_20 : decode b_CL_plan 20 = .ok (.getfield 39, 3) := by decide +kernel
theorem d_CL_plan_23 : decode b_CL_plan 23 = .ok (.iload_n 2, 1) := by decide +kernel
theorem d_CL_plan_24 : decode b_CL_plan 24 = .ok (.aload_n 0, 1) := by decide +kernel
theorem d_CL_plan_25 : decode b_CL_plan 25 = .ok (.getfield 43, 3) := by decide +kernel
theorem d_CL_plan_28 : decode b_CL_plan 28 = .ok (.invokevirtual 132, 3) := by decide +kernel
theorem d_CL_plan_31 : decode b_CL_plan 31 = .ok (.putfield 47, 3) := by decide +kernel
theorem d_CL_plan_34 : decode b_CL_plan 34 = .ok (.aload_n 0, 1) := by decide +kernel
theorem d_CL_plan_35 : decode b_CL_plan 35 = .ok (.aload_n 0, 1) := by decide +kernel
theorem d_CL_plan_36 : decode b_CL_plan 36 = .ok (.getfield 39, 3) := by decide +kernel
theorem d_CL_plan_39 : decode b_CL_plan 39 = .ok (.aload_n 0, 1) := by decide +kernel
theorem d_CL_plan_40 : decode b_CL_plan 40 = .ok (.getfield 43, 3) := by decide +kernel
theorem d_CL_plan_43 : decode b_CL_plan 43 = .ok (.aload_n 0, 1) := by decide +kernel
theorem d_CL_plan_44 : decode b_CL_plan 44 = .ok (.getfield 47, 3) := by decide +kernel
theorem d_CL_plan_47 : decode b_CL_plan 47 = .ok (.invokevirtual 136, 3) := by decide +kernel
theorem d_CL_plan_50 : decode b_CL_plan 50 = .ok (.putfield 50, 3) := by decide +kernel
theorem d_CL_plan_53 : decode b_CL_plan 53 = .ok (.aload_n 0, 1) := by decide +kernel
theorem d_CL_plan_54 : decode b_CL_plan 54 = .ok (.getfield 47, 3) := by decide +kernel
theorem d_CL_plan_57 : decode b_CL_plan 57 = .ok (.ireturn, 1) := by decide +kernel
theorem d_CL_unprovedCases_0 : decode b_CL_unprovedCases 0 = .ok (.iconst 0, 1) := by decide +kernel
theorem d_CL_unprovedCases_1 : decode b_CL_unprovedCases 1 = .ok (.istore_n 2, 1) := by decide +kernel
theorem d_CL_unprovedCases_2 : decode b_CL_unprovedCases 2 = .ok (.iconst 0, 1) := by decide +kernel
theorem d_CL_unprovedCases_3 : decode b_CL_unprovedCases 3 = .ok (.istore_n 3, 1) := by decide +kernel
theorem d_CL_unprovedCases_4 : decode b_CL_unprovedCases 4 = .ok (.iload_n 3, 1) := by decide +kernel
theorem d_CL_unprovedCases_5 : decode b_CL_unprovedCases 5 = .ok (.aload_n 0, 1) := by decide +kernel
theorem d_CL_unprovedCases_6 : decode b_CL_unprovedCases 6 = .ok (.getfield 25, 3) := by decide +kernel
theorem d_CL_unprovedCases_9 : decode b_CL_unprovedCases 9 = .ok (.invokevirtual 63, 3) := by decide +kernel
theorem d_CL_unprovedCases_12 : decode b_CL_unprovedCases 12 = .ok (.if_icmp .ge 25, 3) := by decide +kernel
theorem d_CL_unprovedCases_15 : decode b_CL_unprovedCases 15 = .ok (.aload_n 0, 1) := by decide +kernel
theorem d_CL_unprovedCases_16 : decode b_CL_unprovedCases 16 = .ok (.iload_n 3, 1) := by decide +kernel
theorem d_CL_unprovedCases_17 : decode b_CL_unprovedCases 17 = .ok (.iload_n 1, 1) := by decide +kernel
theorem d_CL_unprovedCases_18 : decode b_CL_unprovedCases 18 = .ok (.invokevirtual 143, 3) := by decide +kernel
theorem d_CL_unprovedCases_21 : decode b_CL_unprovedCases 21 = .ok (.iconst 3, 1) := by decide +kernel
theorem d_CL_unprovedCases_22 : decode b_CL_unprovedCases 22 = .ok (.if_icmp .eq 9, 3) := by decide +kernel
theorem d_CL_unprovedCases_25 : decode b_CL_unprovedCases 25 = .ok (.iload_n 2, 1) := by decide +kernel
theorem d_CL_unprovedCases_26 : decode b_CL_unprovedCases 26 = .ok (.iconst 1, 1) := by decide +kernel
theorem d_CL_unprovedCases_27 : decode b_CL_unprovedCases 27 = .ok (.iload_n 3, 1) := by decide +kernel
theorem d_CL_unprovedCases_28 : decode b_CL_unprovedCases 28 = .ok (.ishl, 1) := by decide +kernel
theorem d_CL_unprovedCases_29 : decode b_CL_unprovedCases 29 = .ok (.ior, 1) := by decide +kernel
theorem d_CL_unprovedCases_30 : decode b_CL_unprovedCases 30 = .ok (.istore_n 2, 1) := by decide +kernel
theorem d_CL_unprovedCases_31 : decode b_CL_unprovedCases 31 = .ok (.iinc 3 1, 3) := by decide +kernel
theorem d_CL_unprovedCases_34 : decode b_CL_unprovedCases 34 = .ok (.goto (-30), 3) := by decide +kernel
theorem d_CL_unprovedCases_37 : decode b_CL_unprovedCases 37 = .ok (.iload_n 2, 1) := by decide +kernel
theorem d_CL_unprovedCases_38 : decode b_CL_unprovedCases 38 = .ok (.ireturn, 1) := by decide +kernel
theorem d_CL_stateOn_0 : decode b_CL_stateOn 0 = .ok (.aload_n 0, 1) := by decide +kernel
theorem d_CL_stateOn_1 : decode b_CL_stateOn 1 = .ok (.getfield 25, 3) := by decide +kernel
theorem d_CL_stateOn_4 : decode b_CL_stateOn 4 = .ok (.iload_n 1, 1) := by decide +kernel
theorem d_CL_stateOn_5 : decode b_CL_stateOn 5 = .ok (.invokevirtual 112, 3) := by decide +kernel
theorem d_CL_stateOn_8 : decode b_CL_stateOn 8 = .ok (.checkcast 70, 3) := by decide +kernel
theorem d_CL_stateOn_11 : decode b_CL_stateOn 11 = .ok (.astore_n 3, 1) := by decide +kernel
theorem d_CL_stateOn_12 : decode b_CL_stateOn 12 = .ok (.aload_n 0, 1) := by decide +kernel
theorem d_CL_stateOn_13 : decode b_CL_stateOn 13 = .ok (.iload_n 1, 1) := by decide +kernel
theorem d_CL_stateOn_14 : decode b_CL_stateOn 14 = .ok (.iload_n 2, 1) := by decide +kernel
theorem d_CL_stateOn_15 : decode b_CL_stateOn 15 = .ok (.invokevirtual 146, 3) := by decide +kernel
theorem d_CL_stateOn_18 : decode b_CL_stateOn 18 = .ok (.istore 4, 2) := by decide +kernel
theorem d_CL_stateOn_20 : decode b_CL_stateOn 20 = .ok (.iconst 0, 1) := by decide +kernel
theorem d_CL_stateOn_21 : decode b_CL_stateOn 21 = .ok (.istore 5, 2) := by decide +kernel
theorem d_CL_stateOn_23 : decode b_CL_stateOn 23 = .ok (.iconst 0, 1) := by decide +kernel
theorem d_CL_stateOn_24 : decode b_CL_stateOn 24 = .ok (.istore 6, 2) := by decide +kernel
theorem d_CL_stateOn_26 : decode b_CL_stateOn 26 = .ok (.iconst 0, 1) := by decide +kernel
theorem d_CL_stateOn_27 : decode b_CL_stateOn 27 = .ok (.istore 7, 2) := by decide +kernel
theorem d_CL_stateOn_29 : decode b_CL_stateOn 29 = .ok (.iload 7, 2) := by decide +kernel
theorem d_CL_stateOn_31 : decode b_CL_stateOn 31 = .ok (.bipush 10, 2) := by decide +kernel
theorem d_CL_stateOn_33 : decode b_CL_stateOn 33 = .ok (.if_icmp .ge 40, 3) := by decide +kernel
theorem d_CL_stateOn_36 : decode b_CL_stateOn 36 = .ok (.aload_n 3, 1) := by decide +kernel
theorem d_CL_stateOn_37 : decode b_CL_stateOn 37 = .ok (.iload 7, 2) := by decide +kernel
theorem d_CL_stateOn_39 : decode b_CL_stateOn 39 = .ok (.iload 4, 2) := by decide +kernel
theorem d_CL_stateOn_41 : decode b_CL_stateOn 41 = .ok (.iload_n 2, 1) := by decide +kernel
theorem d_CL_stateOn_42 : decode b_CL_stateOn 42 = .ok (.invokevirtual 149, 3) := by decide +kernel
theorem d_CL_stateOn_45 : decode b_CL_stateOn 45 = .ok (.istore 8, 2) := by decide +kernel
theorem d_CL_stateOn_47 : decode b_CL_stateOn 47 = .ok (.iload 8, 2) := by decide +kernel
theorem d_CL_stateOn_49 : decode b_CL_stateOn 49 = .ok (.iconst 1, 1) := by decide +kernel
theorem d_CL_stateOn_50 : decode b_CL_stateOn 50 = .ok (.if_icmp .ne 9, 3) := by decide +kernel
theorem d_CL_stateOn_53 : decode b_CL_stateOn 53 = .ok (.iinc 5 1, 3) := by decide +kernel
theorem d_CL_stateOn_56 : decode b_CL_stateOn 56 = .ok (.goto 11, 3) := by decide +kernel
theorem d_CL_stateOn_59 : decode b_CL_stateOn 59 = .ok (.iload 8, 2) := by decide +kernel
theorem d_CL_stateOn_61 : decode b_CL_stateOn 61 = .ok (.ifCond .ne 6, 3) := by decide +kernel
theorem d_CL_stateOn_64 : decode b_CL_stateOn 64 = .ok (.iinc 6 1, 3) := by decide +kernel
theorem d_CL_stateOn_67 : decode b_CL_stateOn 67 = .ok (.iinc 7 1, 3) := by decide +kernel
theorem d_CL_stateOn_70 : decode b_CL_stateOn 70 = .ok (.goto (-41), 3) := by decide +kernel
theorem d_CL_stateOn_73 : decode b_CL_stateOn 73 = .ok (.iload 6, 2) := by decide +kernel
theorem d_CL_stateOn_75 : decode b_CL_stateOn 75 = .ok (.ifCond .le 14, 3) := by decide +kernel
theorem d_CL_stateOn_78 : decode b_CL_stateOn 78 = .ok (.iload 5, 2) := by decide +kernel
theorem d_CL_stateOn_80 : decode b_CL_stateOn 80 = .ok (.ifCond .le 7, 3) := by decide +kernel
theorem d_CL_stateOn_83 : decode b_CL_stateOn 83 = .ok (.iconst 2, 1) := by decide +kernel
theorem d_CL_stateOn_84 : decode b_CL_stateOn 84 = .ok (.goto 4, 3) := by decide +kernel
theorem d_CL_stateOn_87 : decode b_CL_stateOn 87 = .ok (.iconst 1, 1) := by decide +kernel
theorem d_CL_stateOn_88 : decode b_CL_stateOn 88 = .ok (.ireturn, 1) := by decide +kernel
theorem d_CL_stateOn_89 : decode b_CL_stateOn 89 = .ok (.iload 5, 2) := by decide +kernel
theorem d_CL_stateOn_91 : decode b_CL_stateOn 91 = .ok (.iconst 2, 1) := by decide +kernel
theorem d_CL_stateOn_92 : decode b_CL_stateOn 92 = .ok (.if_icmp .lt 7, 3) := by decide +kernel
theorem d_CL_stateOn_95 : decode b_CL_stateOn 95 = .ok (.iconst 3, 1) := by decide +kernel
theorem d_CL_stateOn_96 : decode b_CL_stateOn 96 = .ok (.goto 4, 3) := by decide +kernel
theorem d_CL_stateOn_99 : decode b_CL_stateOn 99 = .ok (.iconst 0, 1) := by decide +kernel
theorem d_CL_stateOn_100 : decode b_CL_stateOn 100 = .ok (.ireturn, 1) := by decide +kernel
theorem d_CL_firstCountingDay_0 : decode b_CL_firstCountingDay 0 = .ok (.iload_n 2, 1) := by decide +kernel
theorem d_CL_firstCountingDay_1 : decode b_CL_firstCountingDay 1 = .ok (.aload_n 0, 1) := by decide +kernel
theorem d_CL_firstCountingDay_2 : decode b_CL_firstCountingDay 2 = .ok (.getfield 18, 3) := by decide +kernel
theorem d_CL_firstCountingDay_5 : decode b_CL_firstCountingDay 5 = .ok (.isub, 1) := by decide +kernel
theorem d_CL_firstCountingDay_6 : decode b_CL_firstCountingDay 6 = .ok (.aload_n 0, 1) := by decide +kernel
theorem d_CL_firstCountingDay_7 : decode b_CL_firstCountingDay 7 = .ok (.getfield 32, 3) := by decide +kernel
theorem d_CL_firstCountingDay_10 : decode b_CL_firstCountingDay 10 = .ok (.iload_n 1, 1) := by decide +kernel
theorem d_CL_firstCountingDay_11 : decode b_CL_firstCountingDay 11 = .ok (.iload_n 2, 1) := by decide +kernel
theorem d_CL_firstCountingDay_12 : decode b_CL_firstCountingDay 12 = .ok (.invokevirtual 162, 3) := by decide +kernel
theorem d_CL_firstCountingDay_15 : decode b_CL_firstCountingDay 15 = .ok (.iconst 1, 1) := by decide +kernel
theorem d_CL_firstCountingDay_16 : decode b_CL_firstCountingDay 16 = .ok (.iadd, 1) := by decide +kernel
theorem d_CL_firstCountingDay_17 : decode b_CL_firstCountingDay 17 = .ok (.invokestatic 15, 3) := by decide +kernel
theorem d_CL_firstCountingDay_20 : decode b_CL_firstCountingDay 20 = .ok (.ireturn, 1) := by decide +kernel
theorem d_TL_latest_0 : decode b_TL_latest 0 = .ok (.iconst (-1), 1) := by decide +kernel
theorem d_TL_latest_1 : decode b_TL_latest 1 = .ok (.istore_n 3, 1) := by decide +kernel
theorem d_TL_latest_2 : decode b_TL_latest 2 = .ok (.iconst 0, 1) := by decide +kernel
theorem d_TL_latest_3 : decode b_TL_latest 3 = .ok (.istore 4, 2) := by decide +kernel
theorem d_TL_latest_5 : decode b_TL_latest 5 = .ok (.iload 4, 2) := by decide +kernel
theorem d_TL_latest_7 : decode b_TL_latest 7 = .ok (.aload_n 0, 1) := by decide +kernel
theorem d_TL_latest_8 : decode b_TL_latest 8 = .ok (.getfield 18, 3) := by decide +kernel
theorem d_TL_latest_11 : decode b_TL_latest 11 = .ok (.if_icmp .ge 53, 3) := by decide +kernel
theorem d_TL_latest_14 : decode b_TL_latest 14 = .ok (.aload_n 0, 1) := by decide +kernel
theorem d_TL_latest_15 : decode b_TL_latest 15 = .ok (.getfield 9, 3) := by decide +kernel
theorem d_TL_latest_18 : decode b_TL_latest 18 = .ok (.iload 4, 2) := by decide +kernel
theorem d_TL_latest_20 : decode b_TL_latest 20 = .ok (.iaload, 1) := by decide +kernel
theorem d_TL_latest_21 : decode b_TL_latest 21 = .ok (.iload_n 2, 1) := by decide +kernel
theorem d_TL_latest_22 : decode b_TL_latest 22 = .ok (.if_icmp .gt 36, 3) := by decide +kernel
theorem d_TL_latest_25 : decode b_TL_latest 25 = .ok (.aload_n 0, 1) := by decide +kernel
theorem d_TL_latest_26 : decode b_TL_latest 26 = .ok (.getfield 9, 3) := by decide +kernel
theorem d_TL_latest_29 : decode b_TL_latest 29 = .ok (.iload 4, 2) := by decide +kernel
theorem d_TL_latest_31 : decode b_TL_latest 31 = .ok (.iaload, 1) := by decide +kernel
theorem d_TL_latest_32 : decode b_TL_latest 32 = .ok (.iload_n 3, 1) := by decide +kernel
theorem d_TL_latest_33 : decode b_TL_latest 33 = .ok (.if_icmp .le 25, 3) := by decide +kernel
theorem d_TL_latest_36 : decode b_TL_latest 36 = .ok (.aload_n 0, 1) := by decide +kernel
theorem d_TL_latest_37 : decode b_TL_latest 37 = .ok (.getfield 15, 3) := by decide +kernel
theorem d_TL_latest_40 : decode b_TL_latest 40 = .ok (.iload 4, 2) := by decide +kernel
theorem d_TL_latest_42 : decode b_TL_latest 42 = .ok (.iaload, 1) := by decide +kernel
theorem d_TL_latest_43 : decode b_TL_latest 43 = .ok (.iload_n 1, 1) := by decide +kernel
theorem d_TL_latest_44 : decode b_TL_latest 44 = .ok (.invokestatic 22, 3) := by decide +kernel
theorem d_TL_latest_47 : decode b_TL_latest 47 = .ok (.ifCond .eq 11, 3) := by decide +kernel
theorem d_TL_latest_50 : decode b_TL_latest 50 = .ok (.aload_n 0, 1) := by decide +kernel
theorem d_TL_latest_51 : decode b_TL_latest 51 = .ok (.getfield 9, 3) := by decide +kernel
theorem d_TL_latest_54 : decode b_TL_latest 54 = .ok (.iload 4, 2) := by decide +kernel
theorem d_TL_latest_56 : decode b_TL_latest 56 = .ok (.iaload, 1) := by decide +kernel
theorem d_TL_latest_57 : decode b_TL_latest 57 = .ok (.istore_n 3, 1) := by decide +kernel
theorem d_TL_latest_58 : decode b_TL_latest 58 = .ok (.iinc 4 1, 3) := by decide +kernel
theorem d_TL_latest_61 : decode b_TL_latest 61 = .ok (.goto (-56), 3) := by decide +kernel
theorem d_TL_latest_64 : decode b_TL_latest 64 = .ok (.iload_n 3, 1) := by decide +kernel
theorem d_TL_latest_65 : decode b_TL_latest 65 = .ok (.ireturn, 1) := by decide +kernel
theorem d_CS_wordOf_0 : decode b_CS_wordOf 0 = .ok (.iconst (-1), 1) := by decide +kernel
theorem d_CS_wordOf_1 : decode b_CS_wordOf 1 = .ok (.istore 4, 2) := by decide +kernel
theorem d_CS_wordOf_3 : decode b_CS_wordOf 3 = .ok (.iconst (-1), 1) := by decide +kernel
theorem d_CS_wordOf_4 : decode b_CS_wordOf 4 = .ok (.istore 5, 2) := by decide +kernel
theorem d_CS_wordOf_6 : decode b_CS_wordOf 6 = .ok (.iconst 0, 1) := by decide +kernel
theorem d_CS_wordOf_7 : decode b_CS_wordOf 7 = .ok (.istore 6, 2) := by decide +kernel
theorem d_CS_wordOf_9 : decode b_CS_wordOf 9 = .ok (.iload 6, 2) := by decide +kernel
theorem d_CS_wordOf_11 : decode b_CS_wordOf 11 = .ok (.aload_n 0, 1) := by decide +kernel
theorem d_CS_wordOf_12 : decode b_CS_wordOf 12 = .ok (.getfield 29, 3) := by decide +kernel
theorem d_CS_wordOf_15 : decode b_CS_wordOf 15 = .ok (.if_icmp .ge 80, 3) := by decide +kernel
theorem d_CS_wordOf_18 : decode b_CS_wordOf 18 = .ok (.aload_n 0, 1) := by decide +kernel
theorem d_CS_wordOf_19 : decode b_CS_wordOf 19 = .ok (.getfield 18, 3) := by decide +kernel
theorem d_CS_wordOf_22 : decode b_CS_wordOf 22 = .ok (.iload 6, 2) := by decide +kernel
theorem d_CS_wordOf_24 : decode b_CS_wordOf 24 = .ok (.iaload, 1) := by decide +kernel
theorem d_CS_wordOf_25 : decode b_CS_wordOf 25 = .ok (.iload_n 1, 1) := by decide +kernel
theorem d_CS_wordOf_26 : decode b_CS_wordOf 26 = .ok (.if_icmp .ne 63, 3) := by decide +kernel
theorem d_CS_wordOf_29 : decode b_CS_wordOf 29 = .ok (.aload_n 0, 1) := by decide +kernel
theorem d_CS_wordOf_30 : decode b_CS_wordOf 30 = .ok (.getfield 22, 3) := by decide +kernel
theorem d_CS_wordOf_33 : decode b_CS_wordOf 33 = .ok (.iload 6, 2) := by decide +kernel
theorem d_CS_wordOf_35 : decode b_CS_wordOf 35 = .ok (.iaload, 1) := by decide +kernel
theorem d_CS_wordOf_36 : decode b_CS_wordOf 36 = .ok (.iload_n 2, 1) := by decide +kernel
theorem d_CS_wordOf_37 : decode b_CS_wordOf 37 = .ok (.if_icmp .lt 52, 3) := by decide +kernel
theorem d_CS_wordOf_40 : decode b_CS_wordOf 40 = .ok (.aload_n 0, 1) := by decide +kernel
theorem d_CS_wordOf_41 : decode b_CS_wordOf 41 = .ok (.getfield 22, 3) := by decide +kernel
theorem d_CS_wordOf_44 : decode b_CS_wordOf 44 = .ok (.iload 6, 2) := by decide +kernel
theorem d_CS_wordOf_46 : decode b_CS_wordOf 46 = .ok (.iaload, 1) := by decide +kernel
theorem d_CS_wordOf_47 : decode b_CS_wordOf 47 = .ok (.iload_n 3, 1) := by decide +kernel
theorem d_CS_wordOf_48 : decode b_CS_wordOf 48 = .ok (.if_icmp .gt 41, 3) := by decide +kernel
theorem d_CS_wordOf_51 : decode b_CS_wordOf 51 = .ok (.aload_n 0, 1) := by decide +kernel
theorem d_CS_wordOf_52 : decode b_CS_wordOf 52 = .ok (.getfield 22, 3) := by decide +kernel
theorem d_CS_wordOf_55 : decode b_CS_wordOf 55 = .ok (.iload 6, 2) := by decide +kernel
theorem d_CS_wordOf_57 : decode b_CS_wordOf 57 = .ok (.iaload, 1) := by decide +kernel
theorem d_CS_wordOf_58 : decode b_CS_wordOf 58 = .ok (.iload 4, 2) := by decide +kernel
theorem d_CS_wordOf_60 : decode b_CS_wordOf 60 = .ok (.if_icmp .le 29, 3) := by decide +kernel
theorem d_CS_wordOf_63 : decode b_CS_wordOf 63 = .ok (.aload_n 0, 1) := by decide +kernel
theorem d_CS_wordOf_64 : decode b_CS_wordOf 64 = .ok (.getfield 22, 3) := by decide +kernel
theorem d_CS_wordOf_67 : decode b_CS_wordOf 67 = .ok (.iload 6, 2) := by decide +kernel
theorem d_CS_wordOf_69 : decode b_CS_wordOf 69 = .ok (.iaload, 1) := by decide +kernel
theorem d_CS_wordOf_70 : decode b_CS_wordOf 70 = .ok (.istore 4, 2) := by decide +kernel
theorem d_CS_wordOf_72 : decode b_CS_wordOf 72 = .ok (.aload_n 0, 1) := by decide +kernel
theorem d_CS_wordOf_73 : decode b_CS_wordOf 73 = .ok (.getfield 25, 3) := by decide +kernel
theorem d_CS_wordOf_76 : decode b_CS_wordOf 76 = .ok (.iload 6, 2) := by decide +kernel
theorem d_CS_wordOf_78 : decode b_CS_wordOf 78 = .ok (.baload, 1) := by decide +kernel
theorem d_CS_wordOf_79 : decode b_CS_wordOf 79 = .ok (.ifCond .eq 7, 3) := by decide +kernel
theorem d_CS_wordOf_82 : decode b_CS_wordOf 82 = .ok (.iconst 1, 1) := by decide +kernel
theorem d_CS_wordOf_83 : decode b_CS_wordOf 83 = .ok (.goto 4, 3) := by decide +kernel
theorem d_CS_wordOf_86 : decode b_CS_wordOf 86 = .ok (.iconst 0, 1) := by decide +kernel
theorem d_CS_wordOf_87 : decode b_CS_wordOf 87 = .ok (.istore 5, 2) := by decide +kernel
theorem d_CS_wordOf_89 : decode b_CS_wordOf 89 = .ok (.iinc 6 1, 3) := by decide +kernel
theorem d_CS_wordOf_92 : decode b_CS_wordOf 92 = .ok (.goto (-83), 3) := by decide +kernel
theorem d_CS_wordOf_95 : decode b_CS_wordOf 95 = .ok (.iload 5, 2) := by decide +kernel
theorem d_CS_wordOf_97 : decode b_CS_wordOf 97 = .ok (.ireturn, 1) := by decide +kernel
theorem d_TU_shownByAny_0 : decode b_TU_shownByAny 0 = .ok (.aload_n 0, 1) := by decide +kernel
theorem d_TU_shownByAny_1 : decode b_TU_shownByAny 1 = .ok (.iconst 1, 1) := by decide +kernel
theorem d_TU_shownByAny_2 : decode b_TU_shownByAny 2 = .ok (.aload_n 0, 1) := by decide +kernel
theorem d_TU_shownByAny_3 : decode b_TU_shownByAny 3 = .ok (.getfield 27, 3) := by decide +kernel
theorem d_TU_shownByAny_6 : decode b_TU_shownByAny 6 = .ok (.ishl, 1) := by decide +kernel
theorem d_TU_shownByAny_7 : decode b_TU_shownByAny 7 = .ok (.iconst 1, 1) := by decide +kernel
theorem d_TU_shownByAny_8 : decode b_TU_shownByAny 8 = .ok (.isub, 1) := by decide +kernel
theorem d_TU_shownByAny_9 : decode b_TU_shownByAny 9 = .ok (.invokevirtual 35, 3) := by decide +kernel
theorem d_TU_shownByAny_12 : decode b_TU_shownByAny 12 = .ok (.ireturn, 1) := by decide +kernel
theorem d_TU_shownBy_0 : decode b_TU_shownBy 0 = .ok (.iconst 0, 1) := by decide +kernel
theorem d_TU_shownBy_1 : decode b_TU_shownBy 1 = .ok (.istore_n 2, 1) := by decide +kernel
theorem d_TU_shownBy_2 : decode b_TU_shownBy 2 = .ok (.iconst 0, 1) := by decide +kernel
theorem d_TU_shownBy_3 : decode b_TU_shownBy 3 = .ok (.istore_n 3, 1) := by decide +kernel
theorem d_TU_shownBy_4 : decode b_TU_shownBy 4 = .ok (.iload_n 3, 1) := by decide +kernel
theorem d_TU_shownBy_5 : decode b_TU_shownBy 5 = .ok (.aload_n 0, 1) := by decide +kernel
theorem d_TU_shownBy_6 : decode b_TU_shownBy 6 = .ok (.getfield 27, 3) := by decide +kernel
theorem d_TU_shownBy_9 : decode b_TU_shownBy 9 = .ok (.if_icmp .ge 26, 3) := by decide +kernel
theorem d_TU_shownBy_12 : decode b_TU_shownBy 12 = .ok (.iload_n 1, 1) := by decide +kernel
theorem d_TU_shownBy_13 : decode b_TU_shownBy 13 = .ok (.iload_n 3, 1) := by decide +kernel
theorem d_TU_shownBy_14 : decode b_TU_shownBy 14 = .ok (.invokestatic 31, 3) := by decide +kernel
theorem d_TU_shownBy_17 : decode b_TU_shownBy 17 = .ok (.ifCond .eq 12, 3) := by decide +kernel
theorem d_TU_shownBy_20 : decode b_TU_shownBy 20 = .ok (.iload_n 2, 1) := by decide +kernel
theorem d_TU_shownBy_21 : decode b_TU_shownBy 21 = .ok (.aload_n 0, 1) := by decide +kernel
theorem d_TU_shownBy_22 : decode b_TU_shownBy 22 = .ok (.getfield 18, 3) := by decide +kernel
theorem d_TU_shownBy_25 : decode b_TU_shownBy 25 = .ok (.iload_n 3, 1) := by decide +kernel
theorem d_TU_shownBy_26 : decode b_TU_shownBy 26 = .ok (.iaload, 1) := by decide +kernel
theorem d_TU_shownBy_27 : decode b_TU_shownBy 27 = .ok (.ior, 1) := by decide +kernel
theorem d_TU_shownBy_28 : decode b_TU_shownBy 28 = .ok (.istore_n 2, 1) := by decide +kernel
theorem d_TU_shownBy_29 : decode b_TU_shownBy 29 = .ok (.iinc 3 1, 3) := by decide +kernel
theorem d_TU_shownBy_32 : decode b_TU_shownBy 32 = .ok (.goto (-28), 3) := by decide +kernel
theorem d_TU_shownBy_35 : decode b_TU_shownBy 35 = .ok (.iload_n 2, 1) := by decide +kernel
theorem d_TU_shownBy_36 : decode b_TU_shownBy 36 = .ok (.ireturn, 1) := by decide +kernel
theorem d_TU_findOrder_0 : decode b_TU_findOrder 0 = .ok (.aload_n 0, 1) := by decide +kernel
theorem d_TU_findOrder_1 : decode b_TU_findOrder 1 = .ok (.iload_n 1, 1) := by decide +kernel
theorem d_TU_findOrder_2 : decode b_TU_findOrder 2 = .ok (.invokevirtual 43, 3) := by decide +kernel
theorem d_TU_findOrder_5 : decode b_TU_findOrder 5 = .ok (.iconst 0, 1) := by decide +kernel
theorem d_TU_findOrder_6 : decode b_TU_findOrder 6 = .ok (.istore_n 3, 1) := by decide +kernel
theorem d_TU_findOrder_7 : decode b_TU_findOrder 7 = .ok (.iconst 0, 1) := by decide +kernel
theorem d_TU_findOrder_8 : decode b_TU_findOrder 8 = .ok (.istore 4, 2) := by decide +kernel
theorem d_TU_findOrder_10 : decode b_TU_findOrder 10 = .ok (.iconst 0, 1) := by decide +kernel
theorem d_TU_findOrder_11 : decode b_TU_findOrder 11 = .ok (.istore 5, 2) := by decide +kernel
theorem d_TU_findOrder_13 : decode b_TU_findOrder 13 = .ok (.iload 5, 2) := by decide +kernel
theorem d_TU_findOrder_15 : decode b_TU_findOrder 15 = .ok (.aload_n 0, 1) := by decide +kernel
theorem d_TU_findOrder_16 : decode b_TU_findOrder 16 = .ok (.getfield 27, 3) := by decide +kernel
theorem d_TU_findOrder_19 : decode b_TU_findOrder 19 = .ok (.if_icmp .ge 78, 3) := by decide +kernel
theorem d_TU_findOrder_22 : decode b_TU_findOrder 22 = .ok (.iload 5, 2) := by decide +kernel
theorem d_TU_findOrder_24 : decode b_TU_findOrder 24 = .ok (.aload_n 2, 1) := by decide +kernel
theorem d_TU_findOrder_25 : decode b_TU_findOrder 25 = .ok (.arraylength, 1) := by decide +kernel
theorem d_TU_findOrder_26 : decode b_TU_findOrder 26 = .ok (.if_icmp .ge 71, 3) := by decide +kernel
theorem d_TU_findOrder_29 : decode b_TU_findOrder 29 = .ok (.aload_n 0, 1) := by decide +kernel
theorem d_TU_findOrder_30 : decode b_TU_findOrder 30 = .ok (.iload_n 3, 1) := by decide +kernel
theorem d_TU_findOrder_31 : decode b_TU_findOrder 31 = .ok (.iload_n 1, 1) := by decide +kernel
theorem d_TU_findOrder_32 : decode b_TU_findOrder 32 = .ok (.invokevirtual 50, 3) := by decide +kernel
theorem d_TU_findOrder_35 : decode b_TU_findOrder 35 = .ok (.ifCond .eq 6, 3) := by decide +kernel
theorem d_TU_findOrder_38 : decode b_TU_findOrder 38 = .ok (.iload 4, 2) := by decide +kernel
theorem d_TU_findOrder_40 : decode b_TU_findOrder 40 = .ok (.ireturn, 1) := by decide +kernel
theorem d_TU_findOrder_41 : decode b_TU_findOrder 41 = .ok (.iload 4, 2) := by decide +kernel
theorem d_TU_findOrder_43 : decode b_TU_findOrder 43 = .ok (.ifCond .ne 10, 3) := by decide +kernel
theorem d_TU_findOrder_46 : decode b_TU_findOrder 46 = .ok (.aload_n 0, 1) := by decide +kernel
theorem d_TU_findOrder_47 : decode b_TU_findOrder 47 = .ok (.invokevirtual 53, 3) := by decide +kernel
theorem d_TU_findOrder_50 : decode b_TU_findOrder 50 = .ok (.goto 14, 3) := by decide +kernel
theorem d_TU_findOrder_53 : decode b_TU_findOrder 53 = .ok (.aload_n 0, 1) := by decide +kernel
theorem d_TU_findOrder_54 : decode b_TU_findOrder 54 = .ok (.iload_n 3, 1) := by decide +kernel
theorem d_TU_findOrder_55 : decode b_TU_findOrder 55 = .ok (.aload_n 2, 1) := by decide +kernel
theorem d_TU_findOrder_56 : decode b_TU_findOrder 56 = .ok (.iload 4, 2) := by decide +kernel
theorem d_TU_findOrder_58 : decode b_TU_findOrder 58 = .ok (.iconst 1, 1) := by decide +kernel
theorem d_TU_findOrder_59 : decode b_TU_findOrder 59 = .ok (.isub, 1) := by decide +kernel
theorem d_TU_findOrder_60 : decode b_TU_findOrder 60 = .ok (.iaload, 1) := by decide +kernel
theorem d_TU_findOrder_61 : decode b_TU_findOrder 61 = .ok (.invokevirtual 56, 3) := by decide +kernel
theorem d_TU_findOrder_64 : decode b_TU_findOrder 64 = .ok (.istore 6, 2) := by decide +kernel
theorem d_TU_findOrder_66 : decode b_TU_findOrder 66 = .ok (.iload 6, 2) := by decide +kernel
theorem d_TU_findOrder_68 : decode b_TU_findOrder 68 = .ok (.iconst (-1), 1) := by decide +kernel
theorem d_TU_findOrder_69 : decode b_TU_findOrder 69 = .ok (.if_icmp .ne 6, 3) := by decide +kernel
theorem d_TU_findOrder_72 : decode b_TU_findOrder 72 = .ok (.iload 4, 2) := by decide +kernel
theorem d_TU_findOrder_74 : decode b_TU_findOrder 74 = .ok (.ireturn, 1) := by decide +kernel
theorem d_TU_findOrder_75 : decode b_TU_findOrder 75 = .ok (.aload_n 2, 1) := by decide +kernel
theorem d_TU_findOrder_76 : decode b_TU_findOrder 76 = .ok (.iload 4, 2) := by decide +kernel
theorem d_TU_findOrder_78 : decode b_TU_findOrder 78 = .ok (.iload 6, 2) := by decide +kernel
theorem d_TU_findOrder_80 : decode b_TU_findOrder 80 = .ok (.iastore, 1) := by decide +kernel
theorem d_TU_findOrder_81 : decode b_TU_findOrder 81 = .ok (.iinc 4 1, 3) := by decide +kernel
theorem d_TU_findOrder_84 : decode b_TU_findOrder 84 = .ok (.iload_n 3, 1) := by decide +kernel
theorem d_TU_findOrder_85 : decode b_TU_findOrder 85 = .ok (.iconst 1, 1) := by decide +kernel
theorem d_TU_findOrder_86 : decode b_TU_findOrder 86 = .ok (.iload 6, 2) := by decide +kernel
theorem d_TU_findOrder_88 : decode b_TU_findOrder 88 = .ok (.ishl, 1) := by decide +kernel
theorem d_TU_findOrder_89 : decode b_TU_findOrder 89 = .ok (.ior, 1) := by decide +kernel
theorem d_TU_findOrder_90 : decode b_TU_findOrder 90 = .ok (.istore_n 3, 1) := by decide +kernel
theorem d_TU_findOrder_91 : decode b_TU_findOrder 91 = .ok (.iinc 5 1, 3) := by decide +kernel
theorem d_TU_findOrder_94 : decode b_TU_findOrder 94 = .ok (.goto (-81), 3) := by decide +kernel
theorem d_TU_findOrder_97 : decode b_TU_findOrder 97 = .ok (.iload 4, 2) := by decide +kernel
theorem d_TU_findOrder_99 : decode b_TU_findOrder 99 = .ok (.ireturn, 1) := by decide +kernel
theorem d_TU_weighRests_0 : decode b_TU_weighRests 0 = .ok (.iconst 1, 1) := by decide +kernel
theorem d_TU_weighRests_1 : decode b_TU_weighRests 1 = .ok (.aload_n 0, 1) := by decide +kernel
theorem d_TU_weighRests_2 : decode b_TU_weighRests 2 = .ok (.getfield 27, 3) := by decide +kernel
theorem d_TU_weighRests_5 : decode b_TU_weighRests 5 = .ok (.ishl, 1) := by decide +kernel
theorem d_TU_weighRests_6 : decode b_TU_weighRests 6 = .ok (.iconst 1, 1) := by decide +kernel
theorem d_TU_weighRests_7 : decode b_TU_weighRests 7 = .ok (.isub, 1) := by decide +kernel
theorem d_TU_weighRests_8 : decode b_TU_weighRests 8 = .ok (.istore_n 2, 1) := by decide +kernel
theorem d_TU_weighRests_9 : decode b_TU_weighRests 9 = .ok (.iload_n 2, 1) := by decide +kernel
theorem d_TU_weighRests_10 : decode b_TU_weighRests 10 = .ok (.ifCond .le 70, 3) := by decide +kernel
theorem d_TU_weighRests_13 : decode b_TU_weighRests 13 = .ok (.aload_n 0, 1) := by decide +kernel
theorem d_TU_weighRests_14 : decode b_TU_weighRests 14 = .ok (.iload_n 2, 1) := by decide +kernel
theorem d_TU_weighRests_15 : decode b_TU_weighRests 15 = .ok (.iload_n 1, 1) := by decide +kernel
theorem d_TU_weighRests_16 : decode b_TU_weighRests 16 = .ok (.invokevirtual 50, 3) := by decide +kernel
theorem d_TU_weighRests_19 : decode b_TU_weighRests 19 = .ok (.istore_n 3, 1) := by decide +kernel
theorem d_TU_weighRests_20 : decode b_TU_weighRests 20 = .ok (.iconst 0, 1) := by decide +kernel
theorem d_TU_weighRests_21 : decode b_TU_weighRests 21 = .ok (.istore 4, 2) := by decide +kernel
theorem d_TU_weighRests_23 : decode b_TU_weighRests 23 = .ok (.iload 4, 2) := by decide +kernel
theorem d_TU_weighRests_25 : decode b_TU_weighRests 25 = .ok (.aload_n 0, 1) := by decide +kernel
theorem d_TU_weighRests_26 : decode b_TU_weighRests 26 = .ok (.getfield 27, 3) := by decide +kernel
theorem d_TU_weighRests_29 : decode b_TU_weighRests 29 = .ok (.if_icmp .ge 45, 3) := by decide +kernel
theorem d_TU_weighRests_32 : decode b_TU_weighRests 32 = .ok (.iload_n 2, 1) := by decide +kernel
theorem d_TU_weighRests_33 : decode b_TU_weighRests 33 = .ok (.iload 4, 2) := by decide +kernel
theorem d_TU_weighRests_35 : decode b_TU_weighRests 35 = .ok (.invokestatic 31, 3) := by decide +kernel
theorem d_TU_weighRests_38 : decode b_TU_weighRests 38 = .ok (.ifCond .eq 30, 3) := by decide +kernel
theorem d_TU_weighRests_41 : decode b_TU_weighRests 41 = .ok (.aload_n 0, 1) := by decide +kernel
theorem d_TU_weighRests_42 : decode b_TU_weighRests 42 = .ok (.getfield 24, 3) := by decide +kernel
theorem d_TU_weighRests_45 : decode b_TU_weighRests 45 = .ok (.iload_n 2, 1) := by decide +kernel
theorem d_TU_weighRests_46 : decode b_TU_weighRests 46 = .ok (.bipush 8, 2) := by decide +kernel
theorem d_TU_weighRests_48 : decode b_TU_weighRests 48 = .ok (.imul, 1) := by decide +kernel
theorem d_TU_weighRests_49 : decode b_TU_weighRests 49 = .ok (.iload 4, 2) := by decide +kernel
theorem d_TU_weighRests_51 : decode b_TU_weighRests 51 = .ok (.iadd, 1) := by decide +kernel
theorem d_TU_weighRests_52 : decode b_TU_weighRests 52 = .ok (.iload_n 3, 1) := by decide +kernel
theorem d_TU_weighRests_53 : decode b_TU_weighRests 53 = .ok (.ifCond .eq 7, 3) := by decide +kernel
theorem d_TU_weighRests_56 : decode b_TU_weighRests 56 = .ok (.iconst 0, 1) := by decide +kernel
theorem d_TU_weighRests_57 : decode b_TU_weighRests 57 = .ok (.goto 10, 3) := by decide +kernel
theorem d_TU_weighRests_60 : decode b_TU_weighRests 60 = .ok (.aload_n 0, 1) := by decide +kernel
theorem d_TU_weighRests_61 : decode b_TU_weighRests 61 = .ok (.iload_n 2, 1) := by decide +kernel
theorem d_TU_weighRests_62 : decode b_TU_weighRests 62 = .ok (.iload 4, 2) := by decide +kernel
theorem d_TU_weighRests_64 : decode b_TU_weighRests 64 = .ok (.invokevirtual 63, 3) := by decide +kernel
theorem d_TU_weighRests_67 : decode b_TU_weighRests 67 = .ok (.iastore, 1) := by decide +kernel
theorem d_TU_weighRests_68 : decode b_TU_weighRests 68 = .ok (.iinc 4 1, 3) := by decide +kernel
theorem d_TU_weighRests_71 : decode b_TU_weighRests 71 = .ok (.goto (-48), 3) := by decide +kernel
theorem d_TU_weighRests_74 : decode b_TU_weighRests 74 = .ok (.iinc 2 (-1), 3) := by decide +kernel
theorem d_TU_weighRests_77 : decode b_TU_weighRests 77 = .ok (.goto (-68), 3) := by decide +kernel
theorem d_TU_weighRests_80 : decode b_TU_weighRests 80 = .ok (.return_, 1) := by decide +kernel
theorem d_TU_covers_0 : decode b_TU_covers 0 = .ok (.iload_n 2, 1) := by decide +kernel
theorem d_TU_covers_1 : decode b_TU_covers 1 = .ok (.aload_n 0, 1) := by decide +kernel
theorem d_TU_covers_2 : decode b_TU_covers 2 = .ok (.iload_n 1, 1) := by decide +kernel
theorem d_TU_covers_3 : decode b_TU_covers 3 = .ok (.invokevirtual 35, 3) := by decide +kernel
theorem d_TU_covers_6 : decode b_TU_covers 6 = .ok (.iconst (-1), 1) := by decide +kernel
theorem d_TU_covers_7 : decode b_TU_covers 7 = .ok (.ixor, 1) := by decide +kernel
theorem d_TU_covers_8 : decode b_TU_covers 8 = .ok (.iand, 1) := by decide +kernel
theorem d_TU_covers_9 : decode b_TU_covers 9 = .ok (.ifCond .ne 7, 3) := by decide +kernel
theorem d_TU_covers_12 : decode b_TU_covers 12 = .ok (.iconst 1, 1) := by decide +kernel
theorem d_TU_covers_13 : decode b_TU_covers 13 = .ok (.goto 4, 3) := by decide +kernel
theorem d_TU_covers_16 : decode b_TU_covers 16 = .ok (.iconst 0, 1) := by decide +kernel
theorem d_TU_covers_17 : decode b_TU_covers 17 = .ok (.ireturn, 1) := by decide +kernel
theorem d_TU_leastRest_0 : decode b_TU_leastRest 0 = .ok (.ldc 66, 2) := by decide +kernel
theorem d_TU_leastRest_2 : decode b_TU_leastRest 2 = .ok (.istore_n 3, 1) := by decide +kernel
theorem d_TU_leastRest_3 : decode b_TU_leastRest 3 = .ok (.iconst 0, 1) := by decide +kernel
theorem d_TU_leastRest_4 : decode b_TU_leastRest 4 = .ok (.istore 4, 2) := by decide +kernel
theorem d_TU_leastRest_6 : decode b_TU_leastRest 6 = .ok (.iload 4, 2) := by decide +kernel
theorem d_TU_leastRest_8 : decode b_TU_leastRest 8 = .ok (.aload_n 0, 1) := by decide +kernel
theorem d_TU_leastRest_9 : decode b_TU_leastRest 9 = .ok (.getfield 27, 3) := by decide +kernel
theorem d_TU_leastRest_12 : decode b_TU_leastRest 12 = .ok (.if_icmp .ge 31, 3) := by decide +kernel
theorem d_TU_leastRest_15 : decode b_TU_leastRest 15 = .ok (.iload_n 1, 1) := by decide +kernel
theorem d_TU_leastRest_16 : decode b_TU_leastRest 16 = .ok (.iload 4, 2) := by decide +kernel
theorem d_TU_leastRest_18 : decode b_TU_leastRest 18 = .ok (.invokestatic 31, 3) := by decide +kernel
theorem d_TU_leastRest_21 : decode b_TU_leastRest 21 = .ok (.ifCond .ne 16, 3) := by decide +kernel
theorem d_TU_leastRest_24 : decode b_TU_leastRest 24 = .ok (.iload_n 3, 1) := by decide +kernel
theorem d_TU_leastRest_25 : decode b_TU_leastRest 25 = .ok (.aload_n 0, 1) := by decide +kernel
theorem d_TU_leastRest_26 : decode b_TU_leastRest 26 = .ok (.iload_n 1, 1) := by decide +kernel
theorem d_TU_leastRest_27 : decode b_TU_leastRest 27 = .ok (.iload_n 2, 1) := by decide +kernel
theorem d_TU_leastRest_28 : decode b_TU_leastRest 28 = .ok (.iload 4, 2) := by decide +kernel
theorem d_TU_leastRest_30 : decode b_TU_leastRest 30 = .ok (.invokevirtual 67, 3) := by decide +kernel
theorem d_TU_leastRest_33 : decode b_TU_leastRest 33 = .ok (.invokestatic 71, 3) := by decide +kernel
theorem d_TU_leastRest_36 : decode b_TU_leastRest 36 = .ok (.istore_n 3, 1) := by decide +kernel
theorem d_TU_leastRest_37 : decode b_TU_leastRest 37 = .ok (.iinc 4 1, 3) := by decide +kernel
theorem d_TU_leastRest_40 : decode b_TU_leastRest 40 = .ok (.goto (-34), 3) := by decide +kernel
theorem d_TU_leastRest_43 : decode b_TU_leastRest 43 = .ok (.iload_n 3, 1) := by decide +kernel
theorem d_TU_leastRest_44 : decode b_TU_leastRest 44 = .ok (.ireturn, 1) := by decide +kernel
theorem d_TU_weightOfNext_0 : decode b_TU_weightOfNext 0 = .ok (.aload_n 0, 1) := by decide +kernel
theorem d_TU_weightOfNext_1 : decode b_TU_weightOfNext 1 = .ok (.iload_n 2, 1) := by decide +kernel
theorem d_TU_weightOfNext_2 : decode b_TU_weightOfNext 2 = .ok (.iload_n 3, 1) := by decide +kernel
theorem d_TU_weightOfNext_3 : decode b_TU_weightOfNext 3 = .ok (.invokevirtual 60, 3) := by decide +kernel
theorem d_TU_weightOfNext_6 : decode b_TU_weightOfNext 6 = .ok (.aload_n 0, 1) := by decide +kernel
theorem d_TU_weightOfNext_7 : decode b_TU_weightOfNext 7 = .ok (.getfield 15, 3) := by decide +kernel
theorem d_TU_weightOfNext_10 : decode b_TU_weightOfNext 10 = .ok (.iload_n 3, 1) := by decide +kernel
theorem d_TU_weightOfNext_11 : decode b_TU_weightOfNext 11 = .ok (.iaload, 1) := by decide +kernel
theorem d_TU_weightOfNext_12 : decode b_TU_weightOfNext 12 = .ok (.iadd, 1) := by decide +kernel
theorem d_TU_weightOfNext_13 : decode b_TU_weightOfNext 13 = .ok (.invokestatic 76, 3) := by decide +kernel
theorem d_TU_weightOfNext_16 : decode b_TU_weightOfNext 16 = .ok (.istore 4, 2) := by decide +kernel
theorem d_TU_weightOfNext_18 : decode b_TU_weightOfNext 18 = .ok (.iload 4, 2) := by decide +kernel
theorem d_TU_weightOfNext_20 : decode b_TU_weightOfNext 20 = .ok (.aload_n 0, 1) := by decide +kernel
theorem d_TU_weightOfNext_21 : decode b_TU_weightOfNext 21 = .ok (.getfield 24, 3) := by decide +kernel
theorem d_TU_weightOfNext_24 : decode b_TU_weightOfNext 24 = .ok (.iload_n 1, 1) := by decide +kernel
theorem d_TU_weightOfNext_25 : decode b_TU_weightOfNext 25 = .ok (.iconst 1, 1) := by decide +kernel
theorem d_TU_weightOfNext_26 : decode b_TU_weightOfNext 26 = .ok (.iload_n 3, 1) := by decide +kernel
theorem d_TU_weightOfNext_27 : decode b_TU_weightOfNext 27 = .ok (.ishl, 1) := by decide +kernel
theorem d_TU_weightOfNext_28 : decode b_TU_weightOfNext 28 = .ok (.ior, 1) := by decide +kernel
theorem d_TU_weightOfNext_29 : decode b_TU_weightOfNext 29 = .ok (.bipush 8, 2) := by decide +kernel
theorem d_TU_weightOfNext_31 : decode b_TU_weightOfNext 31 = .ok (.imul, 1) := by decide +kernel
theorem d_TU_weightOfNext_32 : decode b_TU_weightOfNext 32 = .ok (.iload_n 3, 1) := by decide +kernel
theorem d_TU_weightOfNext_33 : decode b_TU_weightOfNext 33 = .ok (.iadd, 1) := by decide +kernel
theorem d_TU_weightOfNext_34 : decode b_TU_weightOfNext 34 = .ok (.iaload, 1) := by decide +kernel
theorem d_TU_weightOfNext_35 : decode b_TU_weightOfNext 35 = .ok (.iadd, 1) := by decide +kernel
theorem d_TU_weightOfNext_36 : decode b_TU_weightOfNext 36 = .ok (.ireturn, 1) := by decide +kernel
theorem d_TU_wayBetween_0 : decode b_TU_wayBetween 0 = .ok (.aload_n 0, 1) := by decide +kernel
theorem d_TU_wayBetween_1 : decode b_TU_wayBetween 1 = .ok (.getfield 21, 3) := by decide +kernel
theorem d_TU_wayBetween_4 : decode b_TU_wayBetween 4 = .ok (.aload_n 0, 1) := by decide +kernel
theorem d_TU_wayBetween_5 : decode b_TU_wayBetween 5 = .ok (.getfield 9, 3) := by decide +kernel
theorem d_TU_wayBetween_8 : decode b_TU_wayBetween 8 = .ok (.iload_n 1, 1) := by decide +kernel
theorem d_TU_wayBetween_9 : decode b_TU_wayBetween 9 = .ok (.iaload, 1) := by decide +kernel
theorem d_TU_wayBetween_10 : decode b_TU_wayBetween 10 = .ok (.bipush 10, 2) := by decide +kernel
theorem d_TU_wayBetween_12 : decode b_TU_wayBetween 12 = .ok (.imul, 1) := by decide +kernel
theorem d_TU_wayBetween_13 : decode b_TU_wayBetween 13 = .ok (.aload_n 0, 1) := by decide +kernel
theorem d_TU_wayBetween_14 : decode b_TU_wayBetween 14 = .ok (.getfield 9, 3) := by decide +kernel
theorem d_TU_wayBetween_17 : decode b_TU_wayBetween 17 = .ok (.iload_n 2, 1) := by decide +kernel
theorem d_TU_wayBetween_18 : decode b_TU_wayBetween 18 = .ok (.iaload, 1) := by decide +kernel
theorem d_TU_wayBetween_19 : decode b_TU_wayBetween 19 = .ok (.iadd, 1) := by decide +kernel
theorem d_TU_wayBetween_20 : decode b_TU_wayBetween 20 = .ok (.iaload, 1) := by decide +kernel
theorem d_TU_wayBetween_21 : decode b_TU_wayBetween 21 = .ok (.ireturn, 1) := by decide +kernel
theorem d_TU_weight_0 : decode b_TU_weight 0 = .ok (.iload_n 0, 1) := by decide +kernel
theorem d_TU_weight_1 : decode b_TU_weight 1 = .ok (.iconst 4, 1) := by decide +kernel
theorem d_TU_weight_2 : decode b_TU_weight 2 = .ok (.ishl, 1) := by decide +kernel
theorem d_TU_weight_3 : decode b_TU_weight 3 = .ok (.iconst 1, 1) := by decide +kernel
theorem d_TU_weight_4 : decode b_TU_weight 4 = .ok (.iadd, 1) := by decide +kernel
theorem d_TU_weight_5 : decode b_TU_weight 5 = .ok (.ireturn, 1) := by decide +kernel
theorem d_TU_bestFirst_0 : decode b_TU_bestFirst 0 = .ok (.iconst (-1), 1) := by decide +kernel
theorem d_TU_bestFirst_1 : decode b_TU_bestFirst 1 = .ok (.istore_n 1, 1) := by decide +kernel
theorem d_TU_bestFirst_2 : decode b_TU_bestFirst 2 = .ok (.ldc 66, 2) := by decide +kernel
theorem d_TU_bestFirst_4 : decode b_TU_bestFirst 4 = .ok (.istore_n 2, 1) := by decide +kernel
theorem d_TU_bestFirst_5 : decode b_TU_bestFirst 5 = .ok (.iconst 0, 1) := by decide +kernel
theorem d_TU_bestFirst_6 : decode b_TU_bestFirst 6 = .ok (.istore_n 3, 1) := by decide +kernel
theorem d_TU_bestFirst_7 : decode b_TU_bestFirst 7 = .ok (.iload_n 3, 1) := by decide +kernel
theorem d_TU_bestFirst_8 : decode b_TU_bestFirst 8 = .ok (.aload_n 0, 1) := by decide +kernel
theorem d_TU_bestFirst_9 : decode b_TU_bestFirst 9 = .ok (.getfield 27, 3) := by decide +kernel
theorem d_TU_bestFirst_12 : decode b_TU_bestFirst 12 = .ok (.if_icmp .ge 27, 3) := by decide +kernel
theorem d_TU_bestFirst_15 : decode b_TU_bestFirst 15 = .ok (.aload_n 0, 1) := by decide +kernel
theorem d_TU_bestFirst_16 : decode b_TU_bestFirst 16 = .ok (.iload_n 3, 1) := by decide +kernel
theorem d_TU_bestFirst_17 : decode b_TU_bestFirst 17 = .ok (.invokevirtual 47, 3) := by decide +kernel
theorem d_TU_bestFirst_20 : decode b_TU_bestFirst 20 = .ok (.istore 4, 2) := by decide +kernel
theorem d_TU_bestFirst_22 : decode b_TU_bestFirst 22 = .ok (.iload 4, 2) := by decide +kernel
theorem d_TU_bestFirst_24 : decode b_TU_bestFirst 24 = .ok (.iload_n 2, 1) := by decide +kernel
theorem d_TU_bestFirst_25 : decode b_TU_bestFirst 25 = .ok (.if_icmp .ge 8, 3) := by decide +kernel
theorem d_TU_bestFirst_28 : decode b_TU_bestFirst 28 = .ok (.iload 4, 2) := by decide +kernel
theorem d_TU_bestFirst_30 : decode b_TU_bestFirst 30 = .ok (.istore_n 2, 1) := by decide +kernel
theorem d_TU_bestFirst_31 : decode b_TU_bestFirst 31 = .ok (.iload_n 3, 1) := by decide +kernel
theorem d_TU_bestFirst_32 : decode b_TU_bestFirst 32 = .ok (.istore_n 1, 1) := by decide +kernel
theorem d_TU_bestFirst_33 : decode b_TU_bestFirst 33 = .ok (.iinc 3 1, 3) := by decide +kernel
theorem d_TU_bestFirst_36 : decode b_TU_bestFirst 36 = .ok (.goto (-29), 3) := by decide +kernel
theorem d_TU_bestFirst_39 : decode b_TU_bestFirst 39 = .ok (.iload_n 1, 1) := by decide +kernel
theorem d_TU_bestFirst_40 : decode b_TU_bestFirst 40 = .ok (.ireturn, 1) := by decide +kernel
theorem d_TU_weightOfFirst_0 : decode b_TU_weightOfFirst 0 = .ok (.aload_n 0, 1) := by decide +kernel
theorem d_TU_weightOfFirst_1 : decode b_TU_weightOfFirst 1 = .ok (.getfield 15, 3) := by decide +kernel
theorem d_TU_weightOfFirst_4 : decode b_TU_weightOfFirst 4 = .ok (.iload_n 1, 1) := by decide +kernel
theorem d_TU_weightOfFirst_5 : decode b_TU_weightOfFirst 5 = .ok (.iaload, 1) := by decide +kernel
theorem d_TU_weightOfFirst_6 : decode b_TU_weightOfFirst 6 = .ok (.invokestatic 76, 3) := by decide +kernel
theorem d_TU_weightOfFirst_9 : decode b_TU_weightOfFirst 9 = .ok (.aload_n 0, 1) := by decide +kernel
theorem d_TU_weightOfFirst_10 : decode b_TU_weightOfFirst 10 = .ok (.getfield 24, 3) := by decide +kernel
theorem d_TU_weightOfFirst_13 : decode b_TU_weightOfFirst 13 = .ok (.iconst 1, 1) := by decide +kernel
theorem d_TU_weightOfFirst_14 : decode b_TU_weightOfFirst 14 = .ok (.iload_n 1, 1) := by decide +kernel
theorem d_TU_weightOfFirst_15 : decode b_TU_weightOfFirst 15 = .ok (.ishl, 1) := by decide +kernel
theorem d_TU_weightOfFirst_16 : decode b_TU_weightOfFirst 16 = .ok (.bipush 8, 2) := by decide +kernel
theorem d_TU_weightOfFirst_18 : decode b_TU_weightOfFirst 18 = .ok (.imul, 1) := by decide +kernel
theorem d_TU_weightOfFirst_19 : decode b_TU_weightOfFirst 19 = .ok (.iload_n 1, 1) := by decide +kernel
theorem d_TU_weightOfFirst_20 : decode b_TU_weightOfFirst 20 = .ok (.iadd, 1) := by decide +kernel
theorem d_TU_weightOfFirst_21 : decode b_TU_weightOfFirst 21 = .ok (.iaload, 1) := by decide +kernel
theorem d_TU_weightOfFirst_22 : decode b_TU_weightOfFirst 22 = .ok (.iadd, 1) := by decide +kernel
theorem d_TU_weightOfFirst_23 : decode b_TU_weightOfFirst 23 = .ok (.ireturn, 1) := by decide +kernel
theorem d_TU_bestNext_0 : decode b_TU_bestNext 0 = .ok (.iconst (-1), 1) := by decide +kernel
theorem d_TU_bestNext_1 : decode b_TU_bestNext 1 = .ok (.istore_n 3, 1) := by decide +kernel
theorem d_TU_bestNext_2 : decode b_TU_bestNext 2 = .ok (.ldc 66, 2) := by decide +kernel
theorem d_TU_bestNext_4 : decode b_TU_bestNext 4 = .ok (.istore 4, 2) := by decide +kernel
theorem d_TU_bestNext_6 : decode b_TU_bestNext 6 = .ok (.iconst 0, 1) := by decide +kernel
theorem d_TU_bestNext_7 : decode b_TU_bestNext 7 = .ok (.istore 5, 2) := by decide +kernel
theorem d_TU_bestNext_9 : decode b_TU_bestNext 9 = .ok (.iload 5, 2) := by decide +kernel
theorem d_TU_bestNext_11 : decode b_TU_bestNext 11 = .ok (.aload_n 0, 1) := by decide +kernel
theorem d_TU_bestNext_12 : decode b_TU_bestNext 12 = .ok (.getfield 27, 3) := by decide +kernel
theorem d_TU_bestNext_15 : decode b_TU_bestNext 15 = .ok (.if_icmp .ge 47, 3) := by decide +kernel
theorem d_TU_bestNext_18 : decode b_TU_bestNext 18 = .ok (.iload_n 1, 1) := by decide +kernel
theorem d_TU_bestNext_19 : decode b_TU_bestNext 19 = .ok (.iload 5, 2) := by decide +kernel
theorem d_TU_bestNext_21 : decode b_TU_bestNext 21 = .ok (.invokestatic 31, 3) := by decide +kernel
theorem d_TU_bestNext_24 : decode b_TU_bestNext 24 = .ok (.ifCond .eq 8, 3) := by decide +kernel
theorem d_TU_bestNext_27 : decode b_TU_bestNext 27 = .ok (.ldc 66, 2) := by decide +kernel
theorem d_TU_bestNext_29 : decode b_TU_bestNext 29 = .ok (.goto 11, 3) := by decide +kernel
theorem d_TU_bestNext_32 : decode b_TU_bestNext 32 = .ok (.aload_n 0, 1) := by decide +kernel
theorem d_TU_bestNext_33 : decode b_TU_bestNext 33 = .ok (.iload_n 1, 1) := by decide +kernel
theorem d_TU_bestNext_34 : decode b_TU_bestNext 34 = .ok (.iload_n 2, 1) := by decide +kernel
theorem d_TU_bestNext_35 : decode b_TU_bestNext 35 = .ok (.iload 5, 2) := by decide +kernel
theorem d_TU_bestNext_37 : decode b_TU_bestNext 37 = .ok (.invokevirtual 67, 3) := by decide +kernel
theorem d_TU_bestNext_40 : decode b_TU_bestNext 40 = .ok (.istore 6, 2) := by decide +kernel
theorem d_TU_bestNext_42 : decode b_TU_bestNext 42 = .ok (.iload 6, 2) := by decide +kernel
theorem d_TU_bestNext_44 : decode b_TU_bestNext 44 = .ok (.iload 4, 2) := by decide +kernel
theorem d_TU_bestNext_46 : decode b_TU_bestNext 46 = .ok (.if_icmp .ge 10, 3) := by decide +kernel
theorem d_TU_bestNext_49 : decode b_TU_bestNext 49 = .ok (.iload 6, 2) := by decide +kernel
theorem d_TU_bestNext_51 : decode b_TU_bestNext 51 = .ok (.istore 4, 2) := by decide +kernel
theorem d_TU_bestNext_53 : decode b_TU_bestNext 53 = .ok (.iload 5, 2) := by decide +kernel
theorem d_TU_bestNext_55 : decode b_TU_bestNext 55 = .ok (.istore_n 3, 1) := by decide +kernel
theorem d_TU_bestNext_56 : decode b_TU_bestNext 56 = .ok (.iinc 5 1, 3) := by decide +kernel
theorem d_TU_bestNext_59 : decode b_TU_bestNext 59 = .ok (.goto (-50), 3) := by decide +kernel
theorem d_TU_bestNext_62 : decode b_TU_bestNext 62 = .ok (.iload_n 3, 1) := by decide +kernel
theorem d_TU_bestNext_63 : decode b_TU_bestNext 63 = .ok (.ireturn, 1) := by decide +kernel
theorem d_TU_secondsOf_0 : decode b_TU_secondsOf 0 = .ok (.iconst 0, 1) := by decide +kernel
theorem d_TU_secondsOf_1 : decode b_TU_secondsOf 1 = .ok (.istore_n 3, 1) := by decide +kernel
theorem d_TU_secondsOf_2 : decode b_TU_secondsOf 2 = .ok (.iconst 0, 1) := by decide +kernel
theorem d_TU_secondsOf_3 : decode b_TU_secondsOf 3 = .ok (.istore 4, 2) := by decide +kernel
theorem d_TU_secondsOf_5 : decode b_TU_secondsOf 5 = .ok (.iload 4, 2) := by decide +kernel
theorem d_TU_secondsOf_7 : decode b_TU_secondsOf 7 = .ok (.iload_n 2, 1) := by decide +kernel
theorem d_TU_secondsOf_8 : decode b_TU_secondsOf 8 = .ok (.if_icmp .ge 50, 3) := by decide +kernel
theorem d_TU_secondsOf_11 : decode b_TU_secondsOf 11 = .ok (.iload 4, 2) := by decide +kernel
theorem d_TU_secondsOf_13 : decode b_TU_secondsOf 13 = .ok (.aload_n 1, 1) := by decide +kernel
theorem d_TU_secondsOf_14 : decode b_TU_secondsOf 14 = .ok (.arraylength, 1) := by decide +kernel
theorem d_TU_secondsOf_15 : decode b_TU_secondsOf 15 = .ok (.if_icmp .ge 43, 3) := by decide +kernel
theorem d_TU_secondsOf_18 : decode b_TU_secondsOf 18 = .ok (.iload_n 3, 1) := by decide +kernel
theorem d_TU_secondsOf_19 : decode b_TU_secondsOf 19 = .ok (.aload_n 0, 1) := by decide +kernel
theorem d_TU_secondsOf_20 : decode b_TU_secondsOf 20 = .ok (.getfield 15, 3) := by decide +kernel
theorem d_TU_secondsOf_23 : decode b_TU_secondsOf 23 = .ok (.aload_n 1, 1) := by decide +kernel
theorem d_TU_secondsOf_24 : decode b_TU_secondsOf 24 = .ok (.iload 4, 2) := by decide +kernel
theorem d_TU_secondsOf_26 : decode b_TU_secondsOf 26 = .ok (.iaload, 1) := by decide +kernel
theorem d_TU_secondsOf_27 : decode b_TU_secondsOf 27 = .ok (.iaload, 1) := by decide +kernel
theorem d_TU_secondsOf_28 : decode b_TU_secondsOf 28 = .ok (.iadd, 1) := by decide +kernel
theorem d_TU_secondsOf_29 : decode b_TU_secondsOf 29 = .ok (.istore_n 3, 1) := by decide +kernel
theorem d_TU_secondsOf_30 : decode b_TU_secondsOf 30 = .ok (.iload 4, 2) := by decide +kernel
theorem d_TU_secondsOf_32 : decode b_TU_secondsOf 32 = .ok (.ifCond .le 20, 3) := by decide +kernel
theorem d_TU_secondsOf_35 : decode b_TU_secondsOf 35 = .ok (.iload_n 3, 1) := by decide +kernel
theorem d_TU_secondsOf_36 : decode b_TU_secondsOf 36 = .ok (.aload_n 0, 1) := by decide +kernel
theorem d_TU_secondsOf_37 : decode b_TU_secondsOf 37 = .ok (.aload_n 1, 1) := by decide +kernel
theorem d_TU_secondsOf_38 : decode b_TU_secondsOf 38 = .ok (.iload 4, 2) := by decide +kernel
theorem d_TU_secondsOf_40 : decode b_TU_secondsOf 40 = .ok (.iconst 1, 1) := by decide +kernel
theorem d_TU_secondsOf_41 : decode b_TU_secondsOf 41 = .ok (.isub, 1) := by decide +kernel
theorem d_TU_secondsOf_42 : decode b_TU_secondsOf 42 = .ok (.iaload, 1) := by decide +kernel
theorem d_TU_secondsOf_43 : decode b_TU_secondsOf 43 = .ok (.aload_n 1, 1) := by decide +kernel
theorem d_TU_secondsOf_44 : decode b_TU_secondsOf 44 = .ok (.iload 4, 2) := by decide +kernel
theorem d_TU_secondsOf_46 : decode b_TU_secondsOf 46 = .ok (.iaload, 1) := by decide +kernel
theorem d_TU_secondsOf_47 : decode b_TU_secondsOf 47 = .ok (.invokevirtual 60, 3) := by decide +kernel
theorem d_TU_secondsOf_50 : decode b_TU_secondsOf 50 = .ok (.iadd, 1) := by decide +kernel
theorem d_TU_secondsOf_51 : decode b_TU_secondsOf 51 = .ok (.istore_n 3, 1) := by decide +kernel
theorem d_TU_secondsOf_52 : decode b_TU_secondsOf 52 = .ok (.iinc 4 1, 3) := by decide +kernel
theorem d_TU_secondsOf_55 : decode b_TU_secondsOf 55 = .ok (.goto (-50), 3) := by decide +kernel
theorem d_TU_secondsOf_58 : decode b_TU_secondsOf 58 = .ok (.iload_n 3, 1) := by decide +kernel
theorem d_TU_secondsOf_59 : decode b_TU_secondsOf 59 = .ok (.ireturn, 1) := by decide +kernel
theorem d_CL_planned_0 : decode b_CL_planned 0 = .ok (.iload_n 1, 1) := by decide +kernel
theorem d_CL_planned_1 : decode b_CL_planned 1 = .ok (.aload_n 0, 1) := by decide +kernel
theorem d_CL_planned_2 : decode b_CL_planned 2 = .ok (.getfield 47, 3) := by decide +kernel
theorem d_CL_planned_5 : decode b_CL_planned 5 = .ok (.invokestatic 53, 3) := by decide +kernel
theorem d_CL_planned_8 : decode b_CL_planned 8 = .ok (.aload_n 0, 1) := by decide +kernel
theorem d_CL_planned_9 : decode b_CL_planned 9 = .ok (.getfield 43, 3) := by decide +kernel
theorem d_CL_planned_12 : decode b_CL_planned 12 = .ok (.iload_n 1, 1) := by decide +kernel
theorem d_CL_planned_13 : decode b_CL_planned 13 = .ok (.iaload, 1) := by decide +kernel
theorem d_CL_planned_14 : decode b_CL_planned 14 = .ok (.ireturn, 1) := by decide +kernel
theorem d_CL_from_0 : decode b_CL_from 0 = .ok (.iload_n 1, 1) := by decide +kernel
theorem d_CL_from_1 : decode b_CL_from 1 = .ok (.aload_n 0, 1) := by decide +kernel
theorem d_CL_from_2 : decode b_CL_from 2 = .ok (.getfield 39, 3) := by decide +kernel
theorem d_CL_from_5 : decode b_CL_from 5 = .ok (.invokevirtual 82, 3) := by decide +kernel
theorem d_CL_from_8 : decode b_CL_from 8 = .ok (.invokestatic 53, 3) := by decide +kernel
theorem d_CL_from_11 : decode b_CL_from 11 = .ok (.aload_n 0, 1) := by decide +kernel
theorem d_CL_from_12 : decode b_CL_from 12 = .ok (.getfield 39, 3) := by decide +kernel
theorem d_CL_from_15 : decode b_CL_from 15 = .ok (.iload_n 1, 1) := by decide +kernel
theorem d_CL_from_16 : decode b_CL_from 16 = .ok (.invokevirtual 140, 3) := by decide +kernel
theorem d_CL_from_19 : decode b_CL_from 19 = .ok (.ireturn, 1) := by decide +kernel
theorem d_TU_leastSecondsFrom_0 : decode b_TU_leastSecondsFrom 0 = .ok (.aload_n 0, 1) := by decide +kernel
theorem d_TU_leastSecondsFrom_1 : decode b_TU_leastSecondsFrom 1 = .ok (.getfield 18, 3) := by decide +kernel
theorem d_TU_leastSecondsFrom_4 : decode b_TU_leastSecondsFrom 4 = .ok (.iload_n 1, 1) := by decide +kernel
theorem d_TU_leastSecondsFrom_5 : decode b_TU_leastSecondsFrom 5 = .ok (.iaload, 1) := by decide +kernel
theorem d_TU_leastSecondsFrom_6 : decode b_TU_leastSecondsFrom 6 = .ok (.ifCond .ne 5, 3) := by decide +kernel
theorem d_TU_leastSecondsFrom_9 : decode b_TU_leastSecondsFrom 9 = .ok (.iconst (-1), 1) := by decide +kernel
theorem d_TU_leastSecondsFrom_10 : decode b_TU_leastSecondsFrom 10 = .ok (.ireturn, 1) := by decide +kernel
theorem d_TU_leastSecondsFrom_11 : decode b_TU_leastSecondsFrom 11 = .ok (.aload_n 0, 1) := by decide +kernel
theorem d_TU_leastSecondsFrom_12 : decode b_TU_leastSecondsFrom 12 = .ok (.aload_n 0, 1) := by decide +kernel
theorem d_TU_leastSecondsFrom_13 : decode b_TU_leastSecondsFrom 13 = .ok (.invokevirtual 39, 3) := by decide +kernel
theorem d_TU_leastSecondsFrom_16 : decode b_TU_leastSecondsFrom 16 = .ok (.invokevirtual 43, 3) := by decide +kernel
theorem d_TU_leastSecondsFrom_19 : decode b_TU_leastSecondsFrom 19 = .ok (.aload_n 0, 1) := by decide +kernel
theorem d_TU_leastSecondsFrom_20 : decode b_TU_leastSecondsFrom 20 = .ok (.iload_n 1, 1) := by decide +kernel
theorem d_TU_leastSecondsFrom_21 : decode b_TU_leastSecondsFrom 21 = .ok (.invokevirtual 47, 3) := by decide +kernel
theorem d_TU_leastSecondsFrom_24 : decode b_TU_leastSecondsFrom 24 = .ok (.iconst 4, 1) := by decide +kernel
theorem d_TU_leastSecondsFrom_25 : decode b_TU_leastSecondsFrom 25 = .ok (.ishr, 1) := by decide +kernel
theorem d_TU_leastSecondsFrom_26 : decode b_TU_leastSecondsFrom 26 = .ok (.ireturn, 1) := by decide +kernel
theorem d_CL_state_0 : decode b_CL_state 0 = .ok (.iload_n 1, 1) := by decide +kernel
theorem d_CL_state_1 : decode b_CL_state 1 = .ok (.aload_n 0, 1) := by decide +kernel
theorem d_CL_state_2 : decode b_CL_state 2 = .ok (.getfield 25, 3) := by decide +kernel
theorem d_CL_state_5 : decode b_CL_state 5 = .ok (.invokevirtual 63, 3) := by decide +kernel
theorem d_CL_state_8 : decode b_CL_state 8 = .ok (.invokestatic 53, 3) := by decide +kernel
theorem d_CL_state_11 : decode b_CL_state 11 = .ok (.iload_n 2, 1) := by decide +kernel
theorem d_CL_state_12 : decode b_CL_state 12 = .ok (.invokestatic 96, 3) := by decide +kernel
theorem d_CL_state_15 : decode b_CL_state 15 = .ok (.aload_n 0, 1) := by decide +kernel
theorem d_CL_state_16 : decode b_CL_state 16 = .ok (.iload_n 1, 1) := by decide +kernel
theorem d_CL_state_17 : decode b_CL_state 17 = .ok (.iload_n 2, 1) := by decide +kernel
theorem d_CL_state_18 : decode b_CL_state 18 = .ok (.invokevirtual 143, 3) := by decide +kernel
theorem d_CL_state_21 : decode b_CL_state 21 = .ok (.ireturn, 1) := by decide +kernel
theorem d_CL_word_0 : decode b_CL_word 0 = .ok (.iload_n 1, 1) := by decide +kernel
theorem d_CL_word_1 : decode b_CL_word 1 = .ok (.aload_n 0, 1) := by decide +kernel
theorem d_CL_word_2 : decode b_CL_word 2 = .ok (.getfield 25, 3) := by decide +kernel
theorem d_CL_word_5 : decode b_CL_word 5 = .ok (.invokevirtual 63, 3) := by decide +kernel
theorem d_CL_word_8 : decode b_CL_word 8 = .ok (.invokestatic 53, 3) := by decide +kernel
theorem d_CL_word_11 : decode b_CL_word 11 = .ok (.iload_n 2, 1) := by decide +kernel
theorem d_CL_word_12 : decode b_CL_word 12 = .ok (.bipush 10, 2) := by decide +kernel
theorem d_CL_word_14 : decode b_CL_word 14 = .ok (.invokestatic 53, 3) := by decide +kernel
theorem d_CL_word_17 : decode b_CL_word 17 = .ok (.iload_n 3, 1) := by decide +kernel
theorem d_CL_word_18 : decode b_CL_word 18 = .ok (.invokestatic 96, 3) := by decide +kernel
theorem d_CL_word_21 : decode b_CL_word 21 = .ok (.aload_n 0, 1) := by decide +kernel
theorem d_CL_word_22 : decode b_CL_word 22 = .ok (.getfield 25, 3) := by decide +kernel
theorem d_CL_word_25 : decode b_CL_word 25 = .ok (.iload_n 1, 1) := by decide +kernel
theorem d_CL_word_26 : decode b_CL_word 26 = .ok (.invokevirtual 112, 3) := by decide +kernel
theorem d_CL_word_29 : decode b_CL_word 29 = .ok (.checkcast 70, 3) := by decide +kernel
theorem d_CL_word_32 : decode b_CL_word 32 = .ok (.iload_n 2, 1) := by decide +kernel
theorem d_CL_word_33 : decode b_CL_word 33 = .ok (.aload_n 0, 1) := by decide +kernel
theorem d_CL_word_34 : decode b_CL_word 34 = .ok (.iload_n 1, 1) := by decide +kernel
theorem d_CL_word_35 : decode b_CL_word 35 = .ok (.iload_n 3, 1) := by decide +kernel
theorem d_CL_word_36 : decode b_CL_word 36 = .ok (.invokevirtual 146, 3) := by decide +kernel
theorem d_CL_word_39 : decode b_CL_word 39 = .ok (.iload_n 3, 1) := by decide +kernel
theorem d_CL_word_40 : decode b_CL_word 40 = .ok (.invokevirtual 149, 3) := by decide +kernel
theorem d_CL_word_43 : decode b_CL_word 43 = .ok (.ireturn, 1) := by decide +kernel
theorem d_CL_listed_0 : decode b_CL_listed 0 = .ok (.iload_n 1, 1) := by decide +kernel
theorem d_CL_listed_1 : decode b_CL_listed 1 = .ok (.iconst 4, 1) := by decide +kernel
theorem d_CL_listed_2 : decode b_CL_listed 2 = .ok (.invokestatic 53, 3) := by decide +kernel
theorem d_CL_listed_5 : decode b_CL_listed 5 = .ok (.iload_n 2, 1) := by decide +kernel
theorem d_CL_listed_6 : decode b_CL_listed 6 = .ok (.invokestatic 96, 3) := by decide +kernel
theorem d_CL_listed_9 : decode b_CL_listed 9 = .ok (.iload_n 3, 1) := by decide +kernel
theorem d_CL_listed_10 : decode b_CL_listed 10 = .ok (.invokestatic 152, 3) := by decide +kernel
theorem d_CL_listed_13 : decode b_CL_listed 13 = .ok (.iload_n 3, 1) := by decide +kernel
theorem d_CL_listed_14 : decode b_CL_listed 14 = .ok (.istore 4, 2) := by decide +kernel
theorem d_CL_listed_16 : decode b_CL_listed 16 = .ok (.iconst 0, 1) := by decide +kernel
theorem d_CL_listed_17 : decode b_CL_listed 17 = .ok (.istore 5, 2) := by decide +kernel
theorem d_CL_listed_19 : decode b_CL_listed 19 = .ok (.iload 5, 2) := by decide +kernel
theorem d_CL_listed_21 : decode b_CL_listed 21 = .ok (.aload_n 0, 1) := by decide +kernel
theorem d_CL_listed_22 : decode b_CL_listed 22 = .ok (.getfield 25, 3) := by decide +kernel
theorem d_CL_listed_25 : decode b_CL_listed 25 = .ok (.invokevirtual 63, 3) := by decide +kernel
theorem d_CL_listed_28 : decode b_CL_listed 28 = .ok (.if_icmp .ge 31, 3) := by decide +kernel
theorem d_CL_listed_31 : decode b_CL_listed 31 = .ok (.aload_n 0, 1) := by decide +kernel
theorem d_CL_listed_32 : decode b_CL_listed 32 = .ok (.iload 5, 2) := by decide +kernel
theorem d_CL_listed_34 : decode b_CL_listed 34 = .ok (.iload_n 2, 1) := by decide +kernel
theorem d_CL_listed_35 : decode b_CL_listed 35 = .ok (.invokevirtual 143, 3) := by decide +kernel
theorem d_CL_listed_38 : decode b_CL_listed 38 = .ok (.iload_n 1, 1) := by decide +kernel
theorem d_CL_listed_39 : decode b_CL_listed 39 = .ok (.if_icmp .ne 14, 3) := by decide +kernel
theorem d_CL_listed_42 : decode b_CL_listed 42 = .ok (.iload 4, 2) := by decide +kernel
theorem d_CL_listed_44 : decode b_CL_listed 44 = .ok (.ifCond .ne 6, 3) := by decide +kernel
theorem d_CL_listed_47 : decode b_CL_listed 47 = .ok (.iload 5, 2) := by decide +kernel
theorem d_CL_listed_49 : decode b_CL_listed 49 = .ok (.ireturn, 1) := by decide +kernel
theorem d_CL_listed_50 : decode b_CL_listed 50 = .ok (.iinc 4 (-1), 3) := by decide +kernel
theorem d_CL_listed_53 : decode b_CL_listed 53 = .ok (.iinc 5 1, 3) := by decide +kernel
theorem d_CL_listed_56 : decode b_CL_listed 56 = .ok (.goto (-37), 3) := by decide +kernel
theorem d_CL_listed_59 : decode b_CL_listed 59 = .ok (.iconst (-1), 1) := by decide +kernel
theorem d_CL_listed_60 : decode b_CL_listed 60 = .ok (.ireturn, 1) := by decide +kernel
theorem d_CL_needNotNegative_0 : decode b_CL_needNotNegative 0 = .ok (.iload_n 0, 1) := by decide +kernel
theorem d_CL_needNotNegative_1 : decode b_CL_needNotNegative 1 = .ok (.ifCond .ge 13, 3) := by decide +kernel
theorem d_CL_needNotNegative_4 : decode b_CL_needNotNegative 4 = .ok (.new 166, 3) := by decide +kernel
theorem d_CL_needNotNegative_7 : decode b_CL_needNotNegative 7 = .ok (.dup, 1) := by decide +kernel
theorem d_CL_needNotNegative_8 : decode b_CL_needNotNegative 8 = .ok (.ldc 168, 2) := by decide +kernel
theorem d_CL_needNotNegative_10 : decode b_CL_needNotNegative 10 = .ok (.invokespecial 170, 3) := by decide +kernel
theorem d_CL_needNotNegative_13 : decode b_CL_needNotNegative 13 = .ok (.athrow, 1) := by decide +kernel
theorem d_CL_needNotNegative_14 : decode b_CL_needNotNegative 14 = .ok (.return_, 1) := by decide +kernel
theorem d_CL_hidden_0 : decode b_CL_hidden 0 = .ok (.iload_n 1, 1) := by decide +kernel
theorem d_CL_hidden_1 : decode b_CL_hidden 1 = .ok (.invokestatic 152, 3) := by decide +kernel
theorem d_CL_hidden_4 : decode b_CL_hidden 4 = .ok (.aload_n 0, 1) := by decide +kernel
theorem d_CL_hidden_5 : decode b_CL_hidden 5 = .ok (.getfield 39, 3) := by decide +kernel
theorem d_CL_hidden_8 : decode b_CL_hidden 8 = .ok (.invokevirtual 129, 3) := by decide +kernel
theorem d_CL_hidden_11 : decode b_CL_hidden 11 = .ok (.istore_n 2, 1) := by decide +kernel
theorem d_CL_hidden_12 : decode b_CL_hidden 12 = .ok (.iload_n 1, 1) := by decide +kernel
theorem d_CL_hidden_13 : decode b_CL_hidden 13 = .ok (.istore_n 3, 1) := by decide +kernel
theorem d_CL_hidden_14 : decode b_CL_hidden 14 = .ok (.iconst 0, 1) := by decide +kernel
theorem d_CL_hidden_15 : decode b_CL_hidden 15 = .ok (.istore 4, 2) := by decide +kernel
theorem d_CL_hidden_17 : decode b_CL_hidden 17 = .ok (.iload 4, 2) := by decide +kernel
theorem d_CL_hidden_19 : decode b_CL_hidden 19 = .ok (.aload_n 0, 1) := by decide +kernel
theorem d_CL_hidden_20 : decode b_CL_hidden 20 = .ok (.getfield 25, 3) := by decide +kernel
theorem d_CL_hidden_23 : decode b_CL_hidden 23 = .ok (.invokevirtual 63, 3) := by decide +kernel
theorem d_CL_hidden_26 : decode b_CL_hidden 26 = .ok (.if_icmp .ge 28, 3) := by decide +kernel
theorem d_CL_hidden_29 : decode b_CL_hidden 29 = .ok (.iload_n 2, 1) := by decide +kernel
theorem d_CL_hidden_30 : decode b_CL_hidden 30 = .ok (.iload 4, 2) := by decide +kernel
theorem d_CL_hidden_32 : decode b_CL_hidden 32 = .ok (.invokestatic 155, 3) := by decide +kernel
theorem d_CL_hidden_35 : decode b_CL_hidden 35 = .ok (.ifCond .ne 13, 3) := by decide +kernel
theorem d_CL_hidden_38 : decode b_CL_hidden 38 = .ok (.iload_n 3, 1) := by decide +kernel
theorem d_CL_hidden_39 : decode b_CL_hidden 39 = .ok (.ifCond .ne 6, 3) := by decide +kernel
theorem d_CL_hidden_42 : decode b_CL_hidden 42 = .ok (.iload 4, 2) := by decide +kernel
theorem d_CL_hidden_44 : decode b_CL_hidden 44 = .ok (.ireturn, 1) := by decide +kernel
theorem d_CL_hidden_45 : decode b_CL_hidden 45 = .ok (.iinc 3 (-1), 3) := by decide +kernel
theorem d_CL_hidden_48 : decode b_CL_hidden 48 = .ok (.iinc 4 1, 3) := by decide +kernel
theorem d_CL_hidden_51 : decode b_CL_hidden 51 = .ok (.goto (-34), 3) := by decide +kernel
theorem d_CL_hidden_54 : decode b_CL_hidden 54 = .ok (.iconst (-1), 1) := by decide +kernel
theorem d_CL_hidden_55 : decode b_CL_hidden 55 = .ok (.ireturn, 1) := by decide +kernel
theorem d_CL_proves_0 : decode b_CL_proves 0 = .ok (.iload_n 1, 1) := by decide +kernel
theorem d_CL_proves_1 : decode b_CL_proves 1 = .ok (.aload_n 0, 1) := by decide +kernel
theorem d_CL_proves_2 : decode b_CL_proves 2 = .ok (.getfield 25, 3) := by decide +kernel
theorem d_CL_proves_5 : decode b_CL_proves 5 = .ok (.invokevirtual 63, 3) := by decide +kernel
theorem d_CL_proves_8 : decode b_CL_proves 8 = .ok (.invokestatic 53, 3) := by decide +kernel
theorem d_CL_proves_11 : decode b_CL_proves 11 = .ok (.iload_n 2, 1) := by decide +kernel
theorem d_CL_proves_12 : decode b_CL_proves 12 = .ok (.invokestatic 96, 3) := by decide +kernel
theorem d_CL_proves_15 : decode b_CL_proves 15 = .ok (.iload_n 2, 1) := by decide +kernel
theorem d_CL_proves_16 : decode b_CL_proves 16 = .ok (.istore_n 3, 1) := by decide +kernel
theorem d_CL_proves_17 : decode b_CL_proves 17 = .ok (.iconst 0, 1) := by decide +kernel
theorem d_CL_proves_18 : decode b_CL_proves 18 = .ok (.istore 4, 2) := by decide +kernel
theorem d_CL_proves_20 : decode b_CL_proves 20 = .ok (.iload 4, 2) := by decide +kernel
theorem d_CL_proves_22 : decode b_CL_proves 22 = .ok (.sipush 576, 3) := by decide +kernel
theorem d_CL_proves_25 : decode b_CL_proves 25 = .ok (.if_icmp .gt 28, 3) := by decide +kernel
theorem d_CL_proves_28 : decode b_CL_proves 28 = .ok (.aload_n 0, 1) := by decide +kernel
theorem d_CL_proves_29 : decode b_CL_proves 29 = .ok (.iload_n 1, 1) := by decide +kernel
theorem d_CL_proves_30 : decode b_CL_proves 30 = .ok (.iload_n 3, 1) := by decide +kernel
theorem d_CL_proves_31 : decode b_CL_proves 31 = .ok (.invokevirtual 143, 3) := by decide +kernel
theorem d_CL_proves_34 : decode b_CL_proves 34 = .ok (.iconst 3, 1) := by decide +kernel
theorem d_CL_proves_35 : decode b_CL_proves 35 = .ok (.if_icmp .eq 5, 3) := by decide +kernel
theorem d_CL_proves_38 : decode b_CL_proves 38 = .ok (.iload_n 3, 1) := by decide +kernel
theorem d_CL_proves_39 : decode b_CL_proves 39 = .ok (.ireturn, 1) := by decide +kernel
theorem d_CL_proves_40 : decode b_CL_proves 40 = .ok (.aload_n 0, 1) := by decide +kernel
theorem d_CL_proves_41 : decode b_CL_proves 41 = .ok (.iload_n 1, 1) := by decide +kernel
theorem d_CL_proves_42 : decode b_CL_proves 42 = .ok (.iload_n 3, 1) := by decide +kernel
theorem d_CL_proves_43 : decode b_CL_proves 43 = .ok (.invokevirtual 159, 3) := by decide +kernel
theorem d_CL_proves_46 : decode b_CL_proves 46 = .ok (.istore_n 3, 1) := by decide +kernel
theorem d_CL_proves_47 : decode b_CL_proves 47 = .ok (.iinc 4 1, 3) := by decide +kernel
theorem d_CL_proves_50 : decode b_CL_proves 50 = .ok (.goto (-30), 3) := by decide +kernel
theorem d_CL_proves_53 : decode b_CL_proves 53 = .ok (.iload_n 3, 1) := by decide +kernel
theorem d_CL_proves_54 : decode b_CL_proves 54 = .ok (.ireturn, 1) := by decide +kernel
theorem d_CL_nextTurn_0 : decode b_CL_nextTurn 0 = .ok (.ldc 189, 2) := by decide +kernel
theorem d_CL_nextTurn_2 : decode b_CL_nextTurn 2 = .ok (.istore_n 3, 1) := by decide +kernel
theorem d_CL_nextTurn_3 : decode b_CL_nextTurn 3 = .ok (.aload_n 0, 1) := by decide +kernel
theorem d_CL_nextTurn_4 : decode b_CL_nextTurn 4 = .ok (.getfield 32, 3) := by decide +kernel
theorem d_CL_nextTurn_7 : decode b_CL_nextTurn 7 = .ok (.iload_n 1, 1) := by decide +kernel
theorem d_CL_nextTurn_8 : decode b_CL_nextTurn 8 = .ok (.iload_n 2, 1) := by decide +kernel
theorem d_CL_nextTurn_9 : decode b_CL_nextTurn 9 = .ok (.invokevirtual 190, 3) := by decide +kernel
theorem d_CL_nextTurn_12 : decode b_CL_nextTurn 12 = .ok (.istore 4, 2) := by decide +kernel
theorem d_CL_nextTurn_14 : decode b_CL_nextTurn 14 = .ok (.iload 4, 2) := by decide +kernel
theorem d_CL_nextTurn_16 : decode b_CL_nextTurn 16 = .ok (.iconst (-1), 1) := by decide +kernel
theorem d_CL_nextTurn_17 : decode b_CL_nextTurn 17 = .ok (.if_icmp .eq 10, 3) := by decide +kernel
theorem d_CL_nextTurn_20 : decode b_CL_nextTurn 20 = .ok (.iload_n 3, 1) := by decide +kernel
theorem d_CL_nextTurn_21 : decode b_CL_nextTurn 21 = .ok (.iload 4, 2) := by decide +kernel
theorem d_CL_nextTurn_23 : decode b_CL_nextTurn 23 = .ok (.invokestatic 9, 3) := by decide +kernel
theorem d_CL_nextTurn_26 : decode b_CL_nextTurn 26 = .ok (.istore_n 3, 1) := by decide +kernel
theorem d_CL_nextTurn_27 : decode b_CL_nextTurn 27 = .ok (.aload_n 0, 1) := by decide +kernel
theorem d_CL_nextTurn_28 : decode b_CL_nextTurn 28 = .ok (.getfield 25, 3) := by decide +kernel
theorem d_CL_nextTurn_31 : decode b_CL_nextTurn 31 = .ok (.iload_n 1, 1) := by decide +kernel
theorem d_CL_nextTurn_32 : decode b_CL_nextTurn 32 = .ok (.invokevirtual 112, 3) := by decide +kernel
theorem d_CL_nextTurn_35 : decode b_CL_nextTurn 35 = .ok (.checkcast 70, 3) := by decide +kernel
theorem d_CL_nextTurn_38 : decode b_CL_nextTurn 38 = .ok (.iload_n 2, 1) := by decide +kernel
theorem d_CL_nextTurn_39 : decode b_CL_nextTurn 39 = .ok (.aload_n 0, 1) := by decide +kernel
theorem d_CL_nextTurn_40 : decode b_CL_nextTurn 40 = .ok (.getfield 18, 3) := by decide +kernel
theorem d_CL_nextTurn_43 : decode b_CL_nextTurn 43 = .ok (.iload_n 3, 1) := by decide +kernel
theorem d_CL_nextTurn_44 : decode b_CL_nextTurn 44 = .ok (.invokevirtual 193, 3) := by decide +kernel
theorem d_CL_nextTurn_47 : decode b_CL_nextTurn 47 = .ok (.ireturn, 1) := by decide +kernel
theorem d_TL_nextBehind_0 : decode b_TL_nextBehind 0 = .ok (.iconst (-1), 1) := by decide +kernel
theorem d_TL_nextBehind_1 : decode b_TL_nextBehind 1 = .ok (.istore_n 3, 1) := by decide +kernel
theorem d_TL_nextBehind_2 : decode b_TL_nextBehind 2 = .ok (.iconst 0, 1) := by decide +kernel
theorem d_TL_nextBehind_3 : decode b_TL_nextBehind 3 = .ok (.istore 4, 2) := by decide +kernel
theorem d_TL_nextBehind_5 : decode b_TL_nextBehind 5 = .ok (.iload 4, 2) := by decide +kernel
theorem d_TL_nextBehind_7 : decode b_TL_nextBehind 7 = .ok (.aload_n 0, 1) := by decide +kernel
theorem d_TL_nextBehind_8 : decode b_TL_nextBehind 8 = .ok (.getfield 18, 3) := by decide +kernel
theorem d_TL_nextBehind_11 : decode b_TL_nextBehind 11 = .ok (.if_icmp .ge 70, 3) := by decide +kernel
theorem d_TL_nextBehind_14 : decode b_TL_nextBehind 14 = .ok (.iload_n 3, 1) := by decide +kernel
theorem d_TL_nextBehind_15 : decode b_TL_nextBehind 15 = .ok (.iconst (-1), 1) := by decide +kernel
theorem d_TL_nextBehind_16 : decode b_TL_nextBehind 16 = .ok (.if_icmp .eq 14, 3) := by decide +kernel
theorem d_TL_nextBehind_19 : decode b_TL_nextBehind 19 = .ok (.aload_n 0, 1) := by decide +kernel
theorem d_TL_nextBehind_20 : decode b_TL_nextBehind 20 = .ok (.getfield 9, 3) := by decide +kernel
theorem d_TL_nextBehind_23 : decode b_TL_nextBehind 23 = .ok (.iload 4, 2) := by decide +kernel
theorem d_TL_nextBehind_25 : decode b_TL_nextBehind 25 = .ok (.iaload, 1) := by decide +kernel
theorem d_TL_nextBehind_26 : decode b_TL_nextBehind 26 = .ok (.iload_n 3, 1) := by decide +kernel
theorem d_TL_nextBehind_27 : decode b_TL_nextBehind 27 = .ok (.if_icmp .ge 7, 3) := by decide +kernel
theorem d_TL_nextBehind_30 : decode b_TL_nextBehind 30 = .ok (.iconst 1, 1) := by decide +kernel
theorem d_TL_nextBehind_31 : decode b_TL_nextBehind 31 = .ok (.goto 4, 3) := by decide +kernel
theorem d_TL_nextBehind_34 : decode b_TL_nextBehind 34 = .ok (.iconst 0, 1) := by decide +kernel
theorem d_TL_nextBehind_35 : decode b_TL_nextBehind 35 = .ok (.istore 5, 2) := by decide +kernel
theorem d_TL_nextBehind_37 : decode b_TL_nextBehind 37 = .ok (.aload_n 0, 1) := by decide +kernel
theorem d_TL_nextBehind_38 : decode b_TL_nextBehind 38 = .ok (.getfield 9, 3) := by decide +kernel
theorem d_TL_nextBehind_41 : decode b_TL_nextBehind 41 = .ok (.iload 4, 2) := by decide +kernel
theorem d_TL_nextBehind_43 : decode b_TL_nextBehind 43 = .ok (.iaload, 1) := by decide +kernel
theorem d_TL_nextBehind_44 : decode b_TL_nextBehind 44 = .ok (.iload_n 2, 1) := by decide +kernel
theorem d_TL_nextBehind_45 : decode b_TL_nextBehind 45 = .ok (.if_icmp .le 30, 3) := by decide +kernel
theorem d_TL_nextBehind_48 : decode b_TL_nextBehind 48 = .ok (.iload 5, 2) := by decide +kernel
theorem d_TL_nextBehind_50 : decode b_TL_nextBehind 50 = .ok (.ifCond .eq 25, 3) := by decide +kernel
theorem d_TL_nextBehind_53 : decode b_TL_nextBehind 53 = .ok (.aload_n 0, 1) := by decide +kernel
theorem d_TL_nextBehind_54 : decode b_TL_nextBehind 54 = .ok (.getfield 15, 3) := by decide +kernel
theorem d_TL_nextBehind_57 : decode b_TL_nextBehind 57 = .ok (.iload 4, 2) := by decide +kernel
theorem d_TL_nextBehind_59 : decode b_TL_nextBehind 59 = .ok (.iaload, 1) := by decide +kernel
theorem d_TL_nextBehind_60 : decode b_TL_nextBehind 60 = .ok (.iload_n 1, 1) := by decide +kernel
theorem d_TL_nextBehind_61 : decode b_TL_nextBehind 61 = .ok (.invokestatic 22, 3) := by decide +kernel
theorem d_TL_nextBehind_64 : decode b_TL_nextBehind 64 = .ok (.ifCond .eq 11, 3) := by decide +kernel
theorem d_TL_nextBehind_67 : decode b_TL_nextBehind 67 = .ok (.aload_n 0, 1) := by decide +kernel
theorem d_TL_nextBehind_68 : decode b_TL_nextBehind 68 = .ok (.getfield 9, 3) := by decide +kernel
theorem d_TL_nextBehind_71 : decode b_TL_nextBehind 71 = .ok (.iload 4, 2) := by decide +kernel
theorem d_TL_nextBehind_73 : decode b_TL_nextBehind 73 = .ok (.iaload, 1) := by decide +kernel
theorem d_TL_nextBehind_74 : decode b_TL_nextBehind 74 = .ok (.istore_n 3, 1) := by decide +kernel
theorem d_TL_nextBehind_75 : decode b_TL_nextBehind 75 = .ok (.iinc 4 1, 3) := by decide +kernel
theorem d_TL_nextBehind_78 : decode b_TL_nextBehind 78 = .ok (.goto (-73), 3) := by decide +kernel
theorem d_TL_nextBehind_81 : decode b_TL_nextBehind 81 = .ok (.iload_n 3, 1) := by decide +kernel
theorem d_TL_nextBehind_82 : decode b_TL_nextBehind 82 = .ok (.ireturn, 1) := by decide +kernel
theorem d_CS_nextTurn_0 : decode b_CS_nextTurn 0 = .ok (.iload_n 3, 1) := by decide +kernel
theorem d_CS_nextTurn_1 : decode b_CS_nextTurn 1 = .ok (.istore 4, 2) := by decide +kernel
theorem d_CS_nextTurn_3 : decode b_CS_nextTurn 3 = .ok (.iconst 0, 1) := by decide +kernel
theorem d_CS_nextTurn_4 : decode b_CS_nextTurn 4 = .ok (.istore 5, 2) := by decide +kernel
theorem d_CS_nextTurn_6 : decode b_CS_nextTurn 6 = .ok (.iload 5, 2) := by decide +kernel
theorem d_CS_nextTurn_8 : decode b_CS_nextTurn 8 = .ok (.aload_n 0, 1) := by decide +kernel
theorem d_CS_nextTurn_9 : decode b_CS_nextTurn 9 = .ok (.getfield 29, 3) := by decide +kernel
theorem d_CS_nextTurn_12 : decode b_CS_nextTurn 12 = .ok (.if_icmp .ge 65, 3) := by decide +kernel
theorem d_CS_nextTurn_15 : decode b_CS_nextTurn 15 = .ok (.aload_n 0, 1) := by decide +kernel
theorem d_CS_nextTurn_16 : decode b_CS_nextTurn 16 = .ok (.getfield 22, 3) := by decide +kernel
theorem d_CS_nextTurn_19 : decode b_CS_nextTurn 19 = .ok (.iload 5, 2) := by decide +kernel
theorem d_CS_nextTurn_21 : decode b_CS_nextTurn 21 = .ok (.iaload, 1) := by decide +kernel
theorem d_CS_nextTurn_22 : decode b_CS_nextTurn 22 = .ok (.iload_n 2, 1) := by decide +kernel
theorem d_CS_nextTurn_23 : decode b_CS_nextTurn 23 = .ok (.iadd, 1) := by decide +kernel
theorem d_CS_nextTurn_24 : decode b_CS_nextTurn 24 = .ok (.iconst 1, 1) := by decide +kernel
theorem d_CS_nextTurn_25 : decode b_CS_nextTurn 25 = .ok (.iadd, 1) := by decide +kernel
theorem d_CS_nextTurn_26 : decode b_CS_nextTurn 26 = .ok (.istore 6, 2) := by decide +kernel
theorem d_CS_nextTurn_28 : decode b_CS_nextTurn 28 = .ok (.aload_n 0, 1) := by decide +kernel
theorem d_CS_nextTurn_29 : decode b_CS_nextTurn 29 = .ok (.getfield 22, 3) := by decide +kernel
theorem d_CS_nextTurn_32 : decode b_CS_nextTurn 32 = .ok (.iload 5, 2) := by decide +kernel
theorem d_CS_nextTurn_34 : decode b_CS_nextTurn 34 = .ok (.iaload, 1) := by decide +kernel
theorem d_CS_nextTurn_35 : decode b_CS_nextTurn 35 = .ok (.iload_n 1, 1) := by decide +kernel
theorem d_CS_nextTurn_36 : decode b_CS_nextTurn 36 = .ok (.if_icmp .le 20, 3) := by decide +kernel
theorem d_CS_nextTurn_39 : decode b_CS_nextTurn 39 = .ok (.iload 4, 2) := by decide +kernel
theorem d_CS_nextTurn_41 : decode b_CS_nextTurn 41 = .ok (.aload_n 0, 1) := by decide +kernel
theorem d_CS_nextTurn_42 : decode b_CS_nextTurn 42 = .ok (.getfield 22, 3) := by decide +kernel
theorem d_CS_nextTurn_45 : decode b_CS_nextTurn 45 = .ok (.iload 5, 2) := by decide +kernel
theorem d_CS_nextTurn_47 : decode b_CS_nextTurn 47 = .ok (.iaload, 1) := by decide +kernel
theorem d_CS_nextTurn_48 : decode b_CS_nextTurn 48 = .ok (.invokestatic 38, 3) := by decide +kernel
theorem d_CS_nextTurn_51 : decode b_CS_nextTurn 51 = .ok (.istore 4, 2) := by decide +kernel
theorem d_CS_nextTurn_53 : decode b_CS_nextTurn 53 = .ok (.goto 18, 3) := by decide +kernel
theorem d_CS_nextTurn_56 : decode b_CS_nextTurn 56 = .ok (.iload 6, 2) := by decide +kernel
theorem d_CS_nextTurn_58 : decode b_CS_nextTurn 58 = .ok (.iload_n 1, 1) := by decide +kernel
theorem d_CS_nextTurn_59 : decode b_CS_nextTurn 59 = .ok (.if_icmp .le 12, 3) := by decide +kernel
theorem d_CS_nextTurn_62 : decode b_CS_nextTurn 62 = .ok (.iload 4, 2) := by decide +kernel
theorem d_CS_nextTurn_64 : decode b_CS_nextTurn 64 = .ok (.iload 6, 2) := by decide +kernel
theorem d_CS_nextTurn_66 : decode b_CS_nextTurn 66 = .ok (.invokestatic 38, 3) := by decide +kernel
theorem d_CS_nextTurn_69 : decode b_CS_nextTurn 69 = .ok (.istore 4, 2) := by decide +kernel
theorem d_CS_nextTurn_71 : decode b_CS_nextTurn 71 = .ok (.iinc 5 1, 3) := by decide +kernel
theorem d_CS_nextTurn_74 : decode b_CS_nextTurn 74 = .ok (.goto (-68), 3) := by decide +kernel
theorem d_CS_nextTurn_77 : decode b_CS_nextTurn 77 = .ok (.iload 4, 2) := by decide +kernel
theorem d_CS_nextTurn_79 : decode b_CS_nextTurn 79 = .ok (.ireturn, 1) := by decide +kernel
theorem d_CL_touched_0 : decode b_CL_touched 0 = .ok (.iload_n 1, 1) := by decide +kernel
theorem d_CL_touched_1 : decode b_CL_touched 1 = .ok (.aload_n 0, 1) := by decide +kernel
theorem d_CL_touched_2 : decode b_CL_touched 2 = .ok (.getfield 25, 3) := by decide +kernel
theorem d_CL_touched_5 : decode b_CL_touched 5 = .ok (.invokevirtual 63, 3) := by decide +kernel
theorem d_CL_touched_8 : decode b_CL_touched 8 = .ok (.invokestatic 53, 3) := by decide +kernel
theorem d_CL_touched_11 : decode b_CL_touched 11 = .ok (.iload_n 2, 1) := by decide +kernel
theorem d_CL_touched_12 : decode b_CL_touched 12 = .ok (.invokestatic 96, 3) := by decide +kernel
theorem d_CL_touched_15 : decode b_CL_touched 15 = .ok (.aload_n 0, 1) := by decide +kernel
theorem d_CL_touched_16 : decode b_CL_touched 16 = .ok (.getfield 32, 3) := by decide +kernel
theorem d_CL_touched_19 : decode b_CL_touched 19 = .ok (.iload_n 1, 1) := by decide +kernel
theorem d_CL_touched_20 : decode b_CL_touched 20 = .ok (.iload_n 2, 1) := by decide +kernel
theorem d_CL_touched_21 : decode b_CL_touched 21 = .ok (.invokevirtual 162, 3) := by decide +kernel
theorem d_CL_touched_24 : decode b_CL_touched 24 = .ok (.ireturn, 1) := by decide +kernel
