theorem d_Ch_choose_0 : decode b_Ch_choose 0 = .ok (.aload_n 0, 1) := by decide +kernel
theorem d_Ch_choose_1 : decode b_Ch_choose 1 = .ok (.iconst 0, 1) := by decide +kernel
theorem d_Ch_choose_2 : decode b_Ch_choose 2 = .ok (.putfield 15, 3) := by decide +kernel
theorem d_Ch_choose_5 : decode b_Ch_choose 5 = .ok (.aload_n 0, 1) := by decide +kernel
theorem d_Ch_choose_6 : decode b_Ch_choose 6 = .ok (.iconst 0, 1) := by decide +kernel
theorem d_Ch_choose_7 : decode b_Ch_choose 7 = .ok (.putfield 19, 3) := by decide +kernel
theorem d_Ch_choose_10 : decode b_Ch_choose 10 = .ok (.iconst 0, 1) := by decide +kernel
theorem d_Ch_choose_11 : decode b_Ch_choose 11 = .ok (.istore 4, 2) := by decide +kernel
theorem d_Ch_choose_13 : decode b_Ch_choose 13 = .ok (.iload 4, 2) := by decide +kernel
theorem d_Ch_choose_15 : decode b_Ch_choose 15 = .ok (.aload_n 2, 1) := by decide +kernel
theorem d_Ch_choose_16 : decode b_Ch_choose 16 = .ok (.invokevirtual 22, 3) := by decide +kernel
theorem d_Ch_choose_19 : decode b_Ch_choose 19 = .ok (.if_icmp .ge 47, 3) := by decide +kernel
theorem d_Ch_choose_22 : decode b_Ch_choose 22 = .ok (.aload_n 0, 1) := by decide +kernel
theorem d_Ch_choose_23 : decode b_Ch_choose 23 = .ok (.getfield 15, 3) := by decide +kernel
theorem d_Ch_choose_26 : decode b_Ch_choose 26 = .ok (.iload_n 3, 1) := by decide +kernel
theorem d_Ch_choose_27 : decode b_Ch_choose 27 = .ok (.if_icmp .ge 39, 3) := by decide +kernel
theorem d_Ch_choose_30 : decode b_Ch_choose 30 = .ok (.aload_n 2, 1) := by decide +kernel
theorem d_Ch_choose_31 : decode b_Ch_choose 31 = .ok (.iload 4, 2) := by decide +kernel
theorem d_Ch_choose_33 : decode b_Ch_choose 33 = .ok (.invokevirtual 27, 3) := by decide +kernel
theorem d_Ch_choose_36 : decode b_Ch_choose 36 = .ok (.istore 5, 2) := by decide +kernel
theorem d_Ch_choose_38 : decode b_Ch_choose 38 = .ok (.aload_n 0, 1) := by decide +kernel
theorem d_Ch_choose_39 : decode b_Ch_choose 39 = .ok (.aload_n 1, 1) := by decide +kernel
theorem d_Ch_choose_40 : decode b_Ch_choose 40 = .ok (.iload 5, 2) := by decide +kernel
theorem d_Ch_choose_42 : decode b_Ch_choose 42 = .ok (.aload_n 2, 1) := by decide +kernel
theorem d_Ch_choose_43 : decode b_Ch_choose 43 = .ok (.iload 4, 2) := by decide +kernel
theorem d_Ch_choose_45 : decode b_Ch_choose 45 = .ok (.invokevirtual 31, 3) := by decide +kernel
theorem d_Ch_choose_48 : decode b_Ch_choose 48 = .ok (.invokevirtual 34, 3) := by decide +kernel
theorem d_Ch_choose_51 : decode b_Ch_choose 51 = .ok (.ifCond .eq 9, 3) := by decide +kernel
theorem d_Ch_choose_54 : decode b_Ch_choose 54 = .ok (.aload_n 0, 1) := by decide +kernel
theorem d_Ch_choose_55 : decode b_Ch_choose 55 = .ok (.iload 5, 2) := by decide +kernel
theorem d_Ch_choose_57 : decode b_Ch_choose 57 = .ok (.invokevirtual 38, 3) := by decide +kernel
theorem d_Ch_choose_60 : decode b_Ch_choose 60 = .ok (.iinc 4 1, 3) := by decide +kernel
theorem d_Ch_choose_63 : decode b_Ch_choose 63 = .ok (.goto (-50), 3) := by decide +kernel
theorem d_Ch_choose_66 : decode b_Ch_choose 66 = .ok (.iconst 0, 1) := by decide +kernel
theorem d_Ch_choose_67 : decode b_Ch_choose 67 = .ok (.istore 4, 2) := by decide +kernel
theorem d_Ch_choose_69 : decode b_Ch_choose 69 = .ok (.iload 4, 2) := by decide +kernel
theorem d_Ch_choose_71 : decode b_Ch_choose 71 = .ok (.aload_n 2, 1) := by decide +kernel
theorem d_Ch_choose_72 : decode b_Ch_choose 72 = .ok (.invokevirtual 22, 3) := by decide +kernel
theorem d_Ch_choose_75 : decode b_Ch_choose 75 = .ok (.if_icmp .ge 43, 3) := by decide +kernel
theorem d_Ch_choose_78 : decode b_Ch_choose 78 = .ok (.aload_n 0, 1) := by decide +kernel
theorem d_Ch_choose_79 : decode b_Ch_choose 79 = .ok (.getfield 15, 3) := by decide +kernel
theorem d_Ch_choose_82 : decode b_Ch_choose 82 = .ok (.iload_n 3, 1) := by decide +kernel
theorem d_Ch_choose_83 : decode b_Ch_choose 83 = .ok (.if_icmp .ge 35, 3) := by decide +kernel
theorem d_Ch_choose_86 : decode b_Ch_choose 86 = .ok (.aload_n 2, 1) := by decide +kernel
theorem d_Ch_choose_87 : decode b_Ch_choose 87 = .ok (.iload 4, 2) := by decide +kernel
theorem d_Ch_choose_89 : decode b_Ch_choose 89 = .ok (.invokevirtual 27, 3) := by decide +kernel
theorem d_Ch_choose_92 : decode b_Ch_choose 92 = .ok (.istore 5, 2) := by decide +kernel
theorem d_Ch_choose_94 : decode b_Ch_choose 94 = .ok (.aload_n 0, 1) := by decide +kernel
theorem d_Ch_choose_95 : decode b_Ch_choose 95 = .ok (.getfield 19, 3) := by decide +kernel
theorem d_Ch_choose_98 : decode b_Ch_choose 98 = .ok (.iload 5, 2) := by decide +kernel
theorem d_Ch_choose_100 : decode b_Ch_choose 100 = .ok (.invokestatic 42, 3) := by decide +kernel
theorem d_Ch_choose_103 : decode b_Ch_choose 103 = .ok (.ifCond .ne 9, 3) := by decide +kernel
theorem d_Ch_choose_106 : decode b_Ch_choose 106 = .ok (.aload_n 0, 1) := by decide +kernel
theorem d_Ch_choose_107 : decode b_Ch_choose 107 = .ok (.iload 5, 2) := by decide +kernel
theorem d_Ch_choose_109 : decode b_Ch_choose 109 = .ok (.invokevirtual 38, 3) := by decide +kernel
theorem d_Ch_choose_112 : decode b_Ch_choose 112 = .ok (.iinc 4 1, 3) := by decide +kernel
theorem d_Ch_choose_115 : decode b_Ch_choose 115 = .ok (.goto (-46), 3) := by decide +kernel
theorem d_Ch_choose_118 : decode b_Ch_choose 118 = .ok (.return_, 1) := by decide +kernel
theorem d_Ch_isNearestToVector_0 : decode b_Ch_isNearestToVector 0 = .ok (.iconst 0, 1) := by decide +kernel
theorem d_Ch_isNearestToVector_1 : decode b_Ch_isNearestToVector 1 = .ok (.istore 4, 2) := by decide +kernel
theorem d_Ch_isNearestToVector_3 : decode b_Ch_isNearestToVector 3 = .ok (.iload 4, 2) := by decide +kernel
theorem d_Ch_isNearestToVector_5 : decode b_Ch_isNearestToVector 5 = .ok (.aload_n 0, 1) := by decide +kernel
theorem d_Ch_isNearestToVector_6 : decode b_Ch_isNearestToVector 6 = .ok (.getfield 15, 3) := by decide +kernel
theorem d_Ch_isNearestToVector_9 : decode b_Ch_isNearestToVector 9 = .ok (.if_icmp .ge 34, 3) := by decide +kernel
theorem d_Ch_isNearestToVector_12 : decode b_Ch_isNearestToVector 12 = .ok (.iload_n 3, 1) := by decide +kernel
theorem d_Ch_isNearestToVector_13 : decode b_Ch_isNearestToVector 13 = .ok (.aload_n 1, 1) := by decide +kernel
theorem d_Ch_isNearestToVector_14 : decode b_Ch_isNearestToVector 14 = .ok (.iload_n 2, 1) := by decide +kernel
theorem d_Ch_isNearestToVector_15 : decode b_Ch_isNearestToVector 15 = .ok (.invokevirtual 46, 3) := by decide +kernel
theorem d_Ch_isNearestToVector_18 : decode b_Ch_isNearestToVector 18 = .ok (.aload_n 1, 1) := by decide +kernel
theorem d_Ch_isNearestToVector_19 : decode b_Ch_isNearestToVector 19 = .ok (.aload_n 0, 1) := by decide +kernel
theorem d_Ch_isNearestToVector_20 : decode b_Ch_isNearestToVector 20 = .ok (.getfield 9, 3) := by decide +kernel
theorem d_Ch_isNearestToVector_23 : decode b_Ch_isNearestToVector 23 = .ok (.iload 4, 2) := by decide +kernel
theorem d_Ch_isNearestToVector_25 : decode b_Ch_isNearestToVector 25 = .ok (.iaload, 1) := by decide +kernel
theorem d_Ch_isNearestToVector_26 : decode b_Ch_isNearestToVector 26 = .ok (.invokevirtual 46, 3) := by decide +kernel
theorem d_Ch_isNearestToVector_29 : decode b_Ch_isNearestToVector 29 = .ok (.invokestatic 52, 3) := by decide +kernel
theorem d_Ch_isNearestToVector_32 : decode b_Ch_isNearestToVector 32 = .ok (.if_icmp .lt 5, 3) := by decide +kernel
theorem d_Ch_isNearestToVector_35 : decode b_Ch_isNearestToVector 35 = .ok (.iconst 0, 1) := by decide +kernel
theorem d_Ch_isNearestToVector_36 : decode b_Ch_isNearestToVector 36 = .ok (.ireturn, 1) := by decide +kernel
theorem d_Ch_isNearestToVector_37 : decode b_Ch_isNearestToVector 37 = .ok (.iinc 4 1, 3) := by decide +kernel
theorem d_Ch_isNearestToVector_40 : decode b_Ch_isNearestToVector 40 = .ok (.goto (-37), 3) := by decide +kernel
theorem d_Ch_isNearestToVector_43 : decode b_Ch_isNearestToVector 43 = .ok (.iconst 1, 1) := by decide +kernel
theorem d_Ch_isNearestToVector_44 : decode b_Ch_isNearestToVector 44 = .ok (.ireturn, 1) := by decide +kernel
theorem d_Ch_take_0 : decode b_Ch_take 0 = .ok (.aload_n 0, 1) := by decide +kernel
theorem d_Ch_take_1 : decode b_Ch_take 1 = .ok (.getfield 9, 3) := by decide +kernel
theorem d_Ch_take_4 : decode b_Ch_take 4 = .ok (.aload_n 0, 1) := by decide +kernel
theorem d_Ch_take_5 : decode b_Ch_take 5 = .ok (.getfield 15, 3) := by decide +kernel
theorem d_Ch_take_8 : decode b_Ch_take 8 = .ok (.iload_n 1, 1) := by decide +kernel
theorem d_Ch_take_9 : decode b_Ch_take 9 = .ok (.iastore, 1) := by decide +kernel
theorem d_Ch_take_10 : decode b_Ch_take 10 = .ok (.aload_n 0, 1) := by decide +kernel
theorem d_Ch_take_11 : decode b_Ch_take 11 = .ok (.dup, 1) := by decide +kernel
theorem d_Ch_take_12 : decode b_Ch_take 12 = .ok (.getfield 15, 3) := by decide +kernel
theorem d_Ch_take_15 : decode b_Ch_take 15 = .ok (.iconst 1, 1) := by decide +kernel
theorem d_Ch_take_16 : decode b_Ch_take 16 = .ok (.iadd, 1) := by decide +kernel
theorem d_Ch_take_17 : decode b_Ch_take 17 = .ok (.putfield 15, 3) := by decide +kernel
theorem d_Ch_take_20 : decode b_Ch_take 20 = .ok (.aload_n 0, 1) := by decide +kernel
theorem d_Ch_take_21 : decode b_Ch_take 21 = .ok (.dup, 1) := by decide +kernel
theorem d_Ch_take_22 : decode b_Ch_take 22 = .ok (.getfield 19, 3) := by decide +kernel
theorem d_Ch_take_25 : decode b_Ch_take 25 = .ok (.iconst 1, 1) := by decide +kernel
theorem d_Ch_take_26 : decode b_Ch_take 26 = .ok (.iload_n 1, 1) := by decide +kernel
theorem d_Ch_take_27 : decode b_Ch_take 27 = .ok (.ishl, 1) := by decide +kernel
theorem d_Ch_take_28 : decode b_Ch_take 28 = .ok (.ior, 1) := by decide +kernel
theorem d_Ch_take_29 : decode b_Ch_take 29 = .ok (.putfield 19, 3) := by decide +kernel
theorem d_Ch_take_32 : decode b_Ch_take 32 = .ok (.return_, 1) := by decide +kernel
theorem d_Ch_size_0 : decode b_Ch_size 0 = .ok (.aload_n 0, 1) := by decide +kernel
theorem d_Ch_size_1 : decode b_Ch_size 1 = .ok (.getfield 15, 3) := by decide +kernel
theorem d_Ch_size_4 : decode b_Ch_size 4 = .ok (.ireturn, 1) := by decide +kernel
theorem d_Ch_chosen_0 : decode b_Ch_chosen 0 = .ok (.aload_n 0, 1) := by decide +kernel
theorem d_Ch_chosen_1 : decode b_Ch_chosen 1 = .ok (.getfield 9, 3) := by decide +kernel
theorem d_Ch_chosen_4 : decode b_Ch_chosen 4 = .ok (.iload_n 1, 1) := by decide +kernel
theorem d_Ch_chosen_5 : decode b_Ch_chosen 5 = .ok (.iaload, 1) := by decide +kernel
theorem d_Ch_chosen_6 : decode b_Ch_chosen 6 = .ok (.ireturn, 1) := by decide +kernel
