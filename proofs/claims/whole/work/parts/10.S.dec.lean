theorem d_Nd_isVector_0 : decode b_Nd_isVector 0 = .ok (.iload_n 0, 1) := by decide +kernel
theorem d_Nd_isVector_1 : decode b_Nd_isVector 1 = .ok (.invokestatic 184, 3) := by decide +kernel
theorem d_Nd_isVector_4 : decode b_Nd_isVector 4 = .ok (.ifCond .eq 28, 3) := by decide +kernel
theorem d_Nd_isVector_7 : decode b_Nd_isVector 7 = .ok (.iload_n 1, 1) := by decide +kernel
theorem d_Nd_isVector_8 : decode b_Nd_isVector 8 = .ok (.invokestatic 184, 3) := by decide +kernel
theorem d_Nd_isVector_11 : decode b_Nd_isVector 11 = .ok (.ifCond .eq 21, 3) := by decide +kernel
theorem d_Nd_isVector_14 : decode b_Nd_isVector 14 = .ok (.iload_n 2, 1) := by decide +kernel
theorem d_Nd_isVector_15 : decode b_Nd_isVector 15 = .ok (.invokestatic 184, 3) := by decide +kernel
theorem d_Nd_isVector_18 : decode b_Nd_isVector 18 = .ok (.ifCond .eq 14, 3) := by decide +kernel
theorem d_Nd_isVector_21 : decode b_Nd_isVector 21 = .ok (.iload_n 3, 1) := by decide +kernel
theorem d_Nd_isVector_22 : decode b_Nd_isVector 22 = .ok (.invokestatic 184, 3) := by decide +kernel
theorem d_Nd_isVector_25 : decode b_Nd_isVector 25 = .ok (.ifCond .eq 7, 3) := by decide +kernel
theorem d_Nd_isVector_28 : decode b_Nd_isVector 28 = .ok (.iconst 1, 1) := by decide +kernel
theorem d_Nd_isVector_29 : decode b_Nd_isVector 29 = .ok (.goto 4, 3) := by decide +kernel
theorem d_Nd_isVector_32 : decode b_Nd_isVector 32 = .ok (.iconst 0, 1) := by decide +kernel
theorem d_Nd_isVector_33 : decode b_Nd_isVector 33 = .ok (.ireturn, 1) := by decide +kernel
theorem d_Nd_isCoordinate_0 : decode b_Nd_isCoordinate 0 = .ok (.iload_n 0, 1) := by decide +kernel
theorem d_Nd_isCoordinate_1 : decode b_Nd_isCoordinate 1 = .ok (.iconst 0, 1) := by decide +kernel
theorem d_Nd_isCoordinate_2 : decode b_Nd_isCoordinate 2 = .ok (.bipush 99, 2) := by decide +kernel
theorem d_Nd_isCoordinate_4 : decode b_Nd_isCoordinate 4 = .ok (.invokestatic 45, 3) := by decide +kernel
theorem d_Nd_isCoordinate_7 : decode b_Nd_isCoordinate 7 = .ok (.ireturn, 1) := by decide +kernel
theorem d_Nd_isWithin_0 : decode b_Nd_isWithin 0 = .ok (.iload_n 0, 1) := by decide +kernel
theorem d_Nd_isWithin_1 : decode b_Nd_isWithin 1 = .ok (.iload_n 1, 1) := by decide +kernel
theorem d_Nd_isWithin_2 : decode b_Nd_isWithin 2 = .ok (.if_icmp .lt 12, 3) := by decide +kernel
theorem d_Nd_isWithin_5 : decode b_Nd_isWithin 5 = .ok (.iload_n 0, 1) := by decide +kernel
theorem d_Nd_isWithin_6 : decode b_Nd_isWithin 6 = .ok (.iload_n 2, 1) := by decide +kernel
theorem d_Nd_isWithin_7 : decode b_Nd_isWithin 7 = .ok (.if_icmp .gt 7, 3) := by decide +kernel
theorem d_Nd_isWithin_10 : decode b_Nd_isWithin 10 = .ok (.iconst 1, 1) := by decide +kernel
theorem d_Nd_isWithin_11 : decode b_Nd_isWithin 11 = .ok (.goto 4, 3) := by decide +kernel
theorem d_Nd_isWithin_14 : decode b_Nd_isWithin 14 = .ok (.iconst 0, 1) := by decide +kernel
theorem d_Nd_isWithin_15 : decode b_Nd_isWithin 15 = .ok (.ireturn, 1) := by decide +kernel
theorem d_Nd_writeVector_0 : decode b_Nd_writeVector 0 = .ok (.aload_n 0, 1) := by decide +kernel
theorem d_Nd_writeVector_1 : decode b_Nd_writeVector 1 = .ok (.iconst 0, 1) := by decide +kernel
theorem d_Nd_writeVector_2 : decode b_Nd_writeVector 2 = .ok (.iload_n 1, 1) := by decide +kernel
theorem d_Nd_writeVector_3 : decode b_Nd_writeVector 3 = .ok (.iastore, 1) := by decide +kernel
theorem d_Nd_writeVector_4 : decode b_Nd_writeVector 4 = .ok (.aload_n 0, 1) := by decide +kernel
theorem d_Nd_writeVector_5 : decode b_Nd_writeVector 5 = .ok (.iconst 1, 1) := by decide +kernel
theorem d_Nd_writeVector_6 : decode b_Nd_writeVector 6 = .ok (.iload_n 2, 1) := by decide +kernel
theorem d_Nd_writeVector_7 : decode b_Nd_writeVector 7 = .ok (.iastore, 1) := by decide +kernel
theorem d_Nd_writeVector_8 : decode b_Nd_writeVector 8 = .ok (.aload_n 0, 1) := by decide +kernel
theorem d_Nd_writeVector_9 : decode b_Nd_writeVector 9 = .ok (.iconst 2, 1) := by decide +kernel
theorem d_Nd_writeVector_10 : decode b_Nd_writeVector 10 = .ok (.iload_n 3, 1) := by decide +kernel
theorem d_Nd_writeVector_11 : decode b_Nd_writeVector 11 = .ok (.iastore, 1) := by decide +kernel
theorem d_Nd_writeVector_12 : decode b_Nd_writeVector 12 = .ok (.aload_n 0, 1) := by decide +kernel
theorem d_Nd_writeVector_13 : decode b_Nd_writeVector 13 = .ok (.iconst 3, 1) := by decide +kernel
theorem d_Nd_writeVector_14 : decode b_Nd_writeVector 14 = .ok (.iload 4, 2) := by decide +kernel
theorem d_Nd_writeVector_16 : decode b_Nd_writeVector 16 = .ok (.iastore, 1) := by decide +kernel
theorem d_Nd_writeVector_17 : decode b_Nd_writeVector 17 = .ok (.return_, 1) := by decide +kernel
theorem d_Nd_distance_0 : decode b_Nd_distance 0 = .ok (.iconst 0, 1) := by decide +kernel
theorem d_Nd_distance_1 : decode b_Nd_distance 1 = .ok (.istore_n 2, 1) := by decide +kernel
theorem d_Nd_distance_2 : decode b_Nd_distance 2 = .ok (.iconst 0, 1) := by decide +kernel
theorem d_Nd_distance_3 : decode b_Nd_distance 3 = .ok (.istore_n 3, 1) := by decide +kernel
theorem d_Nd_distance_4 : decode b_Nd_distance 4 = .ok (.iload_n 3, 1) := by decide +kernel
theorem d_Nd_distance_5 : decode b_Nd_distance 5 = .ok (.iconst 4, 1) := by decide +kernel
theorem d_Nd_distance_6 : decode b_Nd_distance 6 = .ok (.if_icmp .ge 26, 3) := by decide +kernel
theorem d_Nd_distance_9 : decode b_Nd_distance 9 = .ok (.aload_n 0, 1) := by decide +kernel
theorem d_Nd_distance_10 : decode b_Nd_distance 10 = .ok (.iload_n 3, 1) := by decide +kernel
theorem d_Nd_distance_11 : decode b_Nd_distance 11 = .ok (.iaload, 1) := by decide +kernel
theorem d_Nd_distance_12 : decode b_Nd_distance 12 = .ok (.aload_n 1, 1) := by decide +kernel
theorem d_Nd_distance_13 : decode b_Nd_distance 13 = .ok (.iload_n 3, 1) := by decide +kernel
theorem d_Nd_distance_14 : decode b_Nd_distance 14 = .ok (.iaload, 1) := by decide +kernel
theorem d_Nd_distance_15 : decode b_Nd_distance 15 = .ok (.isub, 1) := by decide +kernel
theorem d_Nd_distance_16 : decode b_Nd_distance 16 = .ok (.istore 4, 2) := by decide +kernel
theorem d_Nd_distance_18 : decode b_Nd_distance 18 = .ok (.iload_n 2, 1) := by decide +kernel
theorem d_Nd_distance_19 : decode b_Nd_distance 19 = .ok (.iload 4, 2) := by decide +kernel
theorem d_Nd_distance_21 : decode b_Nd_distance 21 = .ok (.iload 4, 2) := by decide +kernel
theorem d_Nd_distance_23 : decode b_Nd_distance 23 = .ok (.imul, 1) := by decide +kernel
theorem d_Nd_distance_24 : decode b_Nd_distance 24 = .ok (.iadd, 1) := by decide +kernel
theorem d_Nd_distance_25 : decode b_Nd_distance 25 = .ok (.istore_n 2, 1) := by decide +kernel
theorem d_Nd_distance_26 : decode b_Nd_distance 26 = .ok (.iinc 3 1, 3) := by decide +kernel
theorem d_Nd_distance_29 : decode b_Nd_distance 29 = .ok (.goto (-25), 3) := by decide +kernel
theorem d_Nd_distance_32 : decode b_Nd_distance 32 = .ok (.iload_n 2, 1) := by decide +kernel
theorem d_Nd_distance_33 : decode b_Nd_distance 33 = .ok (.ireturn, 1) := by decide +kernel
theorem d_Nd_isIn_0 : decode b_Nd_isIn 0 = .ok (.iload_n 0, 1) := by decide +kernel
theorem d_Nd_isIn_1 : decode b_Nd_isIn 1 = .ok (.iload_n 1, 1) := by decide +kernel
theorem d_Nd_isIn_2 : decode b_Nd_isIn 2 = .ok (.ishr, 1) := by decide +kernel
theorem d_Nd_isIn_3 : decode b_Nd_isIn 3 = .ok (.iconst 1, 1) := by decide +kernel
theorem d_Nd_isIn_4 : decode b_Nd_isIn 4 = .ok (.iand, 1) := by decide +kernel
theorem d_Nd_isIn_5 : decode b_Nd_isIn 5 = .ok (.ifCond .eq 7, 3) := by decide +kernel
theorem d_Nd_isIn_8 : decode b_Nd_isIn 8 = .ok (.iconst 1, 1) := by decide +kernel
theorem d_Nd_isIn_9 : decode b_Nd_isIn 9 = .ok (.goto 4, 3) := by decide +kernel
theorem d_Nd_isIn_12 : decode b_Nd_isIn 12 = .ok (.iconst 0, 1) := by decide +kernel
theorem d_Nd_isIn_13 : decode b_Nd_isIn 13 = .ok (.ireturn, 1) := by decide +kernel
theorem d_In_bitCount_0 : decode b_In_bitCount 0 = .ok (.iload_n 0, 1) := by decide +kernel
theorem d_In_bitCount_1 : decode b_In_bitCount 1 = .ok (.iload_n 0, 1) := by decide +kernel
theorem d_In_bitCount_2 : decode b_In_bitCount 2 = .ok (.iconst 1, 1) := by decide +kernel
theorem d_In_bitCount_3 : decode b_In_bitCount 3 = .ok (.iushr, 1) := by decide +kernel
theorem d_In_bitCount_4 : decode b_In_bitCount 4 = .ok (.ldc_w 265, 3) := by decide +kernel
theorem d_In_bitCount_7 : decode b_In_bitCount 7 = .ok (.iand, 1) := by decide +kernel
theorem d_In_bitCount_8 : decode b_In_bitCount 8 = .ok (.isub, 1) := by decide +kernel
theorem d_In_bitCount_9 : decode b_In_bitCount 9 = .ok (.istore_n 0, 1) := by decide +kernel
theorem d_In_bitCount_10 : decode b_In_bitCount 10 = .ok (.iload_n 0, 1) := by decide +kernel
theorem d_In_bitCount_11 : decode b_In_bitCount 11 = .ok (.ldc_w 266, 3) := by decide +kernel
theorem d_In_bitCount_14 : decode b_In_bitCount 14 = .ok (.iand, 1) := by decide +kernel
theorem d_In_bitCount_15 : decode b_In_bitCount 15 = .ok (.iload_n 0, 1) := by decide +kernel
theorem d_In_bitCount_16 : decode b_In_bitCount 16 = .ok (.iconst 2, 1) := by decide +kernel
theorem d_In_bitCount_17 : decode b_In_bitCount 17 = .ok (.iushr, 1) := by decide +kernel
theorem d_In_bitCount_18 : decode b_In_bitCount 18 = .ok (.ldc_w 266, 3) := by decide +kernel
theorem d_In_bitCount_21 : decode b_In_bitCount 21 = .ok (.iand, 1) := by decide +kernel
theorem d_In_bitCount_22 : decode b_In_bitCount 22 = .ok (.iadd, 1) := by decide +kernel
theorem d_In_bitCount_23 : decode b_In_bitCount 23 = .ok (.istore_n 0, 1) := by decide +kernel
theorem d_In_bitCount_24 : decode b_In_bitCount 24 = .ok (.iload_n 0, 1) := by decide +kernel
theorem d_In_bitCount_25 : decode b_In_bitCount 25 = .ok (.iload_n 0, 1) := by decide +kernel
theorem d_In_bitCount_26 : decode b_In_bitCount 26 = .ok (.iconst 4, 1) := by decide +kernel
theorem d_In_bitCount_27 : decode b_In_bitCount 27 = .ok (.iushr, 1) := by decide +kernel
theorem d_In_bitCount_28 : decode b_In_bitCount 28 = .ok (.iadd, 1) := by decide +kernel
theorem d_In_bitCount_29 : decode b_In_bitCount 29 = .ok (.ldc_w 267, 3) := by decide +kernel
theorem d_In_bitCount_32 : decode b_In_bitCount 32 = .ok (.iand, 1) := by decide +kernel
theorem d_In_bitCount_33 : decode b_In_bitCount 33 = .ok (.istore_n 0, 1) := by decide +kernel
theorem d_In_bitCount_34 : decode b_In_bitCount 34 = .ok (.iload_n 0, 1) := by decide +kernel
theorem d_In_bitCount_35 : decode b_In_bitCount 35 = .ok (.iload_n 0, 1) := by decide +kernel
theorem d_In_bitCount_36 : decode b_In_bitCount 36 = .ok (.bipush 8, 2) := by decide +kernel
theorem d_In_bitCount_38 : decode b_In_bitCount 38 = .ok (.iushr, 1) := by decide +kernel
theorem d_In_bitCount_39 : decode b_In_bitCount 39 = .ok (.iadd, 1) := by decide +kernel
theorem d_In_bitCount_40 : decode b_In_bitCount 40 = .ok (.istore_n 0, 1) := by decide +kernel
theorem d_In_bitCount_41 : decode b_In_bitCount 41 = .ok (.iload_n 0, 1) := by decide +kernel
theorem d_In_bitCount_42 : decode b_In_bitCount 42 = .ok (.iload_n 0, 1) := by decide +kernel
theorem d_In_bitCount_43 : decode b_In_bitCount 43 = .ok (.bipush 16, 2) := by decide +kernel
theorem d_In_bitCount_45 : decode b_In_bitCount 45 = .ok (.iushr, 1) := by decide +kernel
theorem d_In_bitCount_46 : decode b_In_bitCount 46 = .ok (.iadd, 1) := by decide +kernel
theorem d_In_bitCount_47 : decode b_In_bitCount 47 = .ok (.istore_n 0, 1) := by decide +kernel
theorem d_In_bitCount_48 : decode b_In_bitCount 48 = .ok (.iload_n 0, 1) := by decide +kernel
theorem d_In_bitCount_49 : decode b_In_bitCount 49 = .ok (.bipush 63, 2) := by decide +kernel
theorem d_In_bitCount_51 : decode b_In_bitCount 51 = .ok (.iand, 1) := by decide +kernel
theorem d_In_bitCount_52 : decode b_In_bitCount 52 = .ok (.ireturn, 1) := by decide +kernel
theorem d_Nd_isDocumentNumber_0 : decode b_Nd_isDocumentNumber 0 = .ok (.iload_n 0, 1) := by decide +kernel
theorem d_Nd_isDocumentNumber_1 : decode b_Nd_isDocumentNumber 1 = .ok (.iconst 0, 1) := by decide +kernel
theorem d_Nd_isDocumentNumber_2 : decode b_Nd_isDocumentNumber 2 = .ok (.bipush 29, 2) := by decide +kernel
theorem d_Nd_isDocumentNumber_4 : decode b_Nd_isDocumentNumber 4 = .ok (.invokestatic 45, 3) := by decide +kernel
theorem d_Nd_isDocumentNumber_7 : decode b_Nd_isDocumentNumber 7 = .ok (.ireturn, 1) := by decide +kernel
