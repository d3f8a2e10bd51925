theorem d_Rk_start_0 : decode b_Rk_start 0 = .ok (.aload_n 0, 1) := by decide +kernel
theorem d_Rk_start_1 : decode b_Rk_start 1 = .ok (.iconst 0, 1) := by decide +kernel
theorem d_Rk_start_2 : decode b_Rk_start 2 = .ok (.putfield 18, 3) := by decide +kernel
theorem d_Rk_start_5 : decode b_Rk_start 5 = .ok (.aload_n 0, 1) := by decide +kernel
theorem d_Rk_start_6 : decode b_Rk_start 6 = .ok (.iload_n 1, 1) := by decide +kernel
theorem d_Rk_start_7 : decode b_Rk_start 7 = .ok (.bipush 30, 2) := by decide +kernel
theorem d_Rk_start_9 : decode b_Rk_start 9 = .ok (.invokestatic 22, 3) := by decide +kernel
theorem d_Rk_start_12 : decode b_Rk_start 12 = .ok (.putfield 28, 3) := by decide +kernel
theorem d_Rk_start_15 : decode b_Rk_start 15 = .ok (.aload_n 0, 1) := by decide +kernel
theorem d_Rk_start_16 : decode b_Rk_start 16 = .ok (.iload_n 2, 1) := by decide +kernel
theorem d_Rk_start_17 : decode b_Rk_start 17 = .ok (.iconst 1, 1) := by decide +kernel
theorem d_Rk_start_18 : decode b_Rk_start 18 = .ok (.if_icmp .ne 7, 3) := by decide +kernel
theorem d_Rk_start_21 : decode b_Rk_start 21 = .ok (.iconst 1, 1) := by decide +kernel
theorem d_Rk_start_22 : decode b_Rk_start 22 = .ok (.goto 4, 3) := by decide +kernel
theorem d_Rk_start_25 : decode b_Rk_start 25 = .ok (.iconst 0, 1) := by decide +kernel
theorem d_Rk_start_26 : decode b_Rk_start 26 = .ok (.putfield 31, 3) := by decide +kernel
theorem d_Rk_start_29 : decode b_Rk_start 29 = .ok (.return_, 1) := by decide +kernel
theorem d_Rk_add_0 : decode b_Rk_add 0 = .ok (.aload_n 0, 1) := by decide +kernel
theorem d_Rk_add_1 : decode b_Rk_add 1 = .ok (.invokevirtual 39, 3) := by decide +kernel
theorem d_Rk_add_4 : decode b_Rk_add 4 = .ok (.ifCond .eq 53, 3) := by decide +kernel
theorem d_Rk_add_7 : decode b_Rk_add 7 = .ok (.aload_n 0, 1) := by decide +kernel
theorem d_Rk_add_8 : decode b_Rk_add 8 = .ok (.getfield 18, 3) := by decide +kernel
theorem d_Rk_add_11 : decode b_Rk_add 11 = .ok (.ifCond .eq 34, 3) := by decide +kernel
theorem d_Rk_add_14 : decode b_Rk_add 14 = .ok (.aload_n 0, 1) := by decide +kernel
theorem d_Rk_add_15 : decode b_Rk_add 15 = .ok (.iload_n 1, 1) := by decide +kernel
theorem d_Rk_add_16 : decode b_Rk_add 16 = .ok (.iload_n 2, 1) := by decide +kernel
theorem d_Rk_add_17 : decode b_Rk_add 17 = .ok (.aload_n 0, 1) := by decide +kernel
theorem d_Rk_add_18 : decode b_Rk_add 18 = .ok (.getfield 9, 3) := by decide +kernel
theorem d_Rk_add_21 : decode b_Rk_add 21 = .ok (.aload_n 0, 1) := by decide +kernel
theorem d_Rk_add_22 : decode b_Rk_add 22 = .ok (.getfield 18, 3) := by decide +kernel
theorem d_Rk_add_25 : decode b_Rk_add 25 = .ok (.iconst 1, 1) := by decide +kernel
theorem d_Rk_add_26 : decode b_Rk_add 26 = .ok (.isub, 1) := by decide +kernel
theorem d_Rk_add_27 : decode b_Rk_add 27 = .ok (.iaload, 1) := by decide +kernel
theorem d_Rk_add_28 : decode b_Rk_add 28 = .ok (.aload_n 0, 1) := by decide +kernel
theorem d_Rk_add_29 : decode b_Rk_add 29 = .ok (.getfield 15, 3) := by decide +kernel
theorem d_Rk_add_32 : decode b_Rk_add 32 = .ok (.aload_n 0, 1) := by decide +kernel
theorem d_Rk_add_33 : decode b_Rk_add 33 = .ok (.getfield 18, 3) := by decide +kernel
theorem d_Rk_add_36 : decode b_Rk_add 36 = .ok (.iconst 1, 1) := by decide +kernel
theorem d_Rk_add_37 : decode b_Rk_add 37 = .ok (.isub, 1) := by decide +kernel
theorem d_Rk_add_38 : decode b_Rk_add 38 = .ok (.iaload, 1) := by decide +kernel
theorem d_Rk_add_39 : decode b_Rk_add 39 = .ok (.invokevirtual 35, 3) := by decide +kernel
theorem d_Rk_add_42 : decode b_Rk_add 42 = .ok (.ifCond .ne 5, 3) := by decide +kernel
theorem d_Rk_add_45 : decode b_Rk_add 45 = .ok (.iconst 0, 1) := by decide +kernel
theorem d_Rk_add_46 : decode b_Rk_add 46 = .ok (.ireturn, 1) := by decide +kernel
theorem d_Rk_add_47 : decode b_Rk_add 47 = .ok (.aload_n 0, 1) := by decide +kernel
theorem d_Rk_add_48 : decode b_Rk_add 48 = .ok (.dup, 1) := by decide +kernel
theorem d_Rk_add_49 : decode b_Rk_add 49 = .ok (.getfield 18, 3) := by decide +kernel
theorem d_Rk_add_52 : decode b_Rk_add 52 = .ok (.iconst 1, 1) := by decide +kernel
theorem d_Rk_add_53 : decode b_Rk_add 53 = .ok (.isub, 1) := by decide +kernel
theorem d_Rk_add_54 : decode b_Rk_add 54 = .ok (.putfield 18, 3) := by decide +kernel
theorem d_Rk_add_57 : decode b_Rk_add 57 = .ok (.aload_n 0, 1) := by decide +kernel
theorem d_Rk_add_58 : decode b_Rk_add 58 = .ok (.getfield 18, 3) := by decide +kernel
theorem d_Rk_add_61 : decode b_Rk_add 61 = .ok (.istore_n 3, 1) := by decide +kernel
theorem d_Rk_add_62 : decode b_Rk_add 62 = .ok (.iload_n 3, 1) := by decide +kernel
theorem d_Rk_add_63 : decode b_Rk_add 63 = .ok (.ifCond .le 62, 3) := by decide +kernel
theorem d_Rk_add_66 : decode b_Rk_add 66 = .ok (.aload_n 0, 1) := by decide +kernel
theorem d_Rk_add_67 : decode b_Rk_add 67 = .ok (.iload_n 1, 1) := by decide +kernel
theorem d_Rk_add_68 : decode b_Rk_add 68 = .ok (.iload_n 2, 1) := by decide +kernel
theorem d_Rk_add_69 : decode b_Rk_add 69 = .ok (.aload_n 0, 1) := by decide +kernel
theorem d_Rk_add_70 : decode b_Rk_add 70 = .ok (.getfield 9, 3) := by decide +kernel
theorem d_Rk_add_73 : decode b_Rk_add 73 = .ok (.iload_n 3, 1) := by decide +kernel
theorem d_Rk_add_74 : decode b_Rk_add 74 = .ok (.iconst 1, 1) := by decide +kernel
theorem d_Rk_add_75 : decode b_Rk_add 75 = .ok (.isub, 1) := by decide +kernel
theorem d_Rk_add_76 : decode b_Rk_add 76 = .ok (.iaload, 1) := by decide +kernel
theorem d_Rk_add_77 : decode b_Rk_add 77 = .ok (.aload_n 0, 1) := by decide +kernel
theorem d_Rk_add_78 : decode b_Rk_add 78 = .ok (.getfield 15, 3) := by decide +kernel
theorem d_Rk_add_81 : decode b_Rk_add 81 = .ok (.iload_n 3, 1) := by decide +kernel
theorem d_Rk_add_82 : decode b_Rk_add 82 = .ok (.iconst 1, 1) := by decide +kernel
theorem d_Rk_add_83 : decode b_Rk_add 83 = .ok (.isub, 1) := by decide +kernel
theorem d_Rk_add_84 : decode b_Rk_add 84 = .ok (.iaload, 1) := by decide +kernel
theorem d_Rk_add_85 : decode b_Rk_add 85 = .ok (.invokevirtual 35, 3) := by decide +kernel
theorem d_Rk_add_88 : decode b_Rk_add 88 = .ok (.ifCond .eq 37, 3) := by decide +kernel
theorem d_Rk_add_91 : decode b_Rk_add 91 = .ok (.aload_n 0, 1) := by decide +kernel
theorem d_Rk_add_92 : decode b_Rk_add 92 = .ok (.getfield 9, 3) := by decide +kernel
theorem d_Rk_add_95 : decode b_Rk_add 95 = .ok (.iload_n 3, 1) := by decide +kernel
theorem d_Rk_add_96 : decode b_Rk_add 96 = .ok (.aload_n 0, 1) := by decide +kernel
theorem d_Rk_add_97 : decode b_Rk_add 97 = .ok (.getfield 9, 3) := by decide +kernel
theorem d_Rk_add_100 : decode b_Rk_add 100 = .ok (.iload_n 3, 1) := by decide +kernel
theorem d_Rk_add_101 : decode b_Rk_add 101 = .ok (.iconst 1, 1) := by decide +kernel
theorem d_Rk_add_102 : decode b_Rk_add 102 = .ok (.isub, 1) := by decide +kernel
theorem d_Rk_add_103 : decode b_Rk_add 103 = .ok (.iaload, 1) := by decide +kernel
theorem d_Rk_add_104 : decode b_Rk_add 104 = .ok (.iastore, 1) := by decide +kernel
theorem d_Rk_add_105 : decode b_Rk_add 105 = .ok (.aload_n 0, 1) := by decide +kernel
theorem d_Rk_add_106 : decode b_Rk_add 106 = .ok (.getfield 15, 3) := by decide +kernel
theorem d_Rk_add_109 : decode b_Rk_add 109 = .ok (.iload_n 3, 1) := by decide +kernel
theorem d_Rk_add_110 : decode b_Rk_add 110 = .ok (.aload_n 0, 1) := by decide +kernel
theorem d_Rk_add_111 : decode b_Rk_add 111 = .ok (.getfield 15, 3) := by decide +kernel
theorem d_Rk_add_114 : decode b_Rk_add 114 = .ok (.iload_n 3, 1) := by decide +kernel
theorem d_Rk_add_115 : decode b_Rk_add 115 = .ok (.iconst 1, 1) := by decide +kernel
theorem d_Rk_add_116 : decode b_Rk_add 116 = .ok (.isub, 1) := by decide +kernel
theorem d_Rk_add_117 : decode b_Rk_add 117 = .ok (.iaload, 1) := by decide +kernel
theorem d_Rk_add_118 : decode b_Rk_add 118 = .ok (.iastore, 1) := by decide +kernel
theorem d_Rk_add_119 : decode b_Rk_add 119 = .ok (.iinc 3 (-1), 3) := by decide +kernel
theorem d_Rk_add_122 : decode b_Rk_add 122 = .ok (.goto (-60), 3) := by decide +kernel
theorem d_Rk_add_125 : decode b_Rk_add 125 = .ok (.aload_n 0, 1) := by decide +kernel
theorem d_Rk_add_126 : decode b_Rk_add 126 = .ok (.getfield 9, 3) := by decide +kernel
theorem d_Rk_add_129 : decode b_Rk_add 129 = .ok (.iload_n 3, 1) := by decide +kernel
theorem d_Rk_add_130 : decode b_Rk_add 130 = .ok (.iload_n 1, 1) := by decide +kernel
theorem d_Rk_add_131 : decode b_Rk_add 131 = .ok (.iastore, 1) := by decide +kernel
theorem d_Rk_add_132 : decode b_Rk_add 132 = .ok (.aload_n 0, 1) := by decide +kernel
theorem d_Rk_add_133 : decode b_Rk_add 133 = .ok (.getfield 15, 3) := by decide +kernel
theorem d_Rk_add_136 : decode b_Rk_add 136 = .ok (.iload_n 3, 1) := by decide +kernel
theorem d_Rk_add_137 : decode b_Rk_add 137 = .ok (.iload_n 2, 1) := by decide +kernel
theorem d_Rk_add_138 : decode b_Rk_add 138 = .ok (.iastore, 1) := by decide +kernel
theorem d_Rk_add_139 : decode b_Rk_add 139 = .ok (.aload_n 0, 1) := by decide +kernel
theorem d_Rk_add_140 : decode b_Rk_add 140 = .ok (.dup, 1) := by decide +kernel
theorem d_Rk_add_141 : decode b_Rk_add 141 = .ok (.getfield 18, 3) := by decide +kernel
theorem d_Rk_add_144 : decode b_Rk_add 144 = .ok (.iconst 1, 1) := by decide +kernel
theorem d_Rk_add_145 : decode b_Rk_add 145 = .ok (.iadd, 1) := by decide +kernel
theorem d_Rk_add_146 : decode b_Rk_add 146 = .ok (.putfield 18, 3) := by decide +kernel
theorem d_Rk_add_149 : decode b_Rk_add 149 = .ok (.iconst 1, 1) := by decide +kernel
theorem d_Rk_add_150 : decode b_Rk_add 150 = .ok (.ireturn, 1) := by decide +kernel
theorem d_Rk_isFull_0 : decode b_Rk_isFull 0 = .ok (.aload_n 0, 1) := by decide +kernel
theorem d_Rk_isFull_1 : decode b_Rk_isFull 1 = .ok (.getfield 18, 3) := by decide +kernel
theorem d_Rk_isFull_4 : decode b_Rk_isFull 4 = .ok (.aload_n 0, 1) := by decide +kernel
theorem d_Rk_isFull_5 : decode b_Rk_isFull 5 = .ok (.getfield 28, 3) := by decide +kernel
theorem d_Rk_isFull_8 : decode b_Rk_isFull 8 = .ok (.if_icmp .lt 7, 3) := by decide +kernel
theorem d_Rk_isFull_11 : decode b_Rk_isFull 11 = .ok (.iconst 1, 1) := by decide +kernel
theorem d_Rk_isFull_12 : decode b_Rk_isFull 12 = .ok (.goto 4, 3) := by decide +kernel
theorem d_Rk_isFull_15 : decode b_Rk_isFull 15 = .ok (.iconst 0, 1) := by decide +kernel
theorem d_Rk_isFull_16 : decode b_Rk_isFull 16 = .ok (.ireturn, 1) := by decide +kernel
theorem d_Rk_precedes_0 : decode b_Rk_precedes 0 = .ok (.iload_n 2, 1) := by decide +kernel
theorem d_Rk_precedes_1 : decode b_Rk_precedes 1 = .ok (.iload 4, 2) := by decide +kernel
theorem d_Rk_precedes_3 : decode b_Rk_precedes 3 = .ok (.if_icmp .eq 27, 3) := by decide +kernel
theorem d_Rk_precedes_6 : decode b_Rk_precedes 6 = .ok (.aload_n 0, 1) := by decide +kernel
theorem d_Rk_precedes_7 : decode b_Rk_precedes 7 = .ok (.getfield 31, 3) := by decide +kernel
theorem d_Rk_precedes_10 : decode b_Rk_precedes 10 = .ok (.iload_n 2, 1) := by decide +kernel
theorem d_Rk_precedes_11 : decode b_Rk_precedes 11 = .ok (.iload 4, 2) := by decide +kernel
theorem d_Rk_precedes_13 : decode b_Rk_precedes 13 = .ok (.if_icmp .le 7, 3) := by decide +kernel
theorem d_Rk_precedes_16 : decode b_Rk_precedes 16 = .ok (.iconst 1, 1) := by decide +kernel
theorem d_Rk_precedes_17 : decode b_Rk_precedes 17 = .ok (.goto 4, 3) := by decide +kernel
theorem d_Rk_precedes_20 : decode b_Rk_precedes 20 = .ok (.iconst 0, 1) := by decide +kernel
theorem d_Rk_precedes_21 : decode b_Rk_precedes 21 = .ok (.if_icmp .ne 7, 3) := by decide +kernel
theorem d_Rk_precedes_24 : decode b_Rk_precedes 24 = .ok (.iconst 1, 1) := by decide +kernel
theorem d_Rk_precedes_25 : decode b_Rk_precedes 25 = .ok (.goto 4, 3) := by decide +kernel
theorem d_Rk_precedes_28 : decode b_Rk_precedes 28 = .ok (.iconst 0, 1) := by decide +kernel
theorem d_Rk_precedes_29 : decode b_Rk_precedes 29 = .ok (.ireturn, 1) := by decide +kernel
theorem d_Rk_precedes_30 : decode b_Rk_precedes 30 = .ok (.iload_n 1, 1) := by decide +kernel
theorem d_Rk_precedes_31 : decode b_Rk_precedes 31 = .ok (.iload_n 3, 1) := by decide +kernel
theorem d_Rk_precedes_32 : decode b_Rk_precedes 32 = .ok (.if_icmp .ge 7, 3) := by decide +kernel
theorem d_Rk_precedes_35 : decode b_Rk_precedes 35 = .ok (.iconst 1, 1) := by decide +kernel
theorem d_Rk_precedes_36 : decode b_Rk_precedes 36 = .ok (.goto 4, 3) := by decide +kernel
theorem d_Rk_precedes_39 : decode b_Rk_precedes 39 = .ok (.iconst 0, 1) := by decide +kernel
theorem d_Rk_precedes_40 : decode b_Rk_precedes 40 = .ok (.ireturn, 1) := by decide +kernel
theorem d_Rk_size_0 : decode b_Rk_size 0 = .ok (.aload_n 0, 1) := by decide +kernel
theorem d_Rk_size_1 : decode b_Rk_size 1 = .ok (.getfield 18, 3) := by decide +kernel
theorem d_Rk_size_4 : decode b_Rk_size 4 = .ok (.ireturn, 1) := by decide +kernel
theorem d_Rk_numberAt_0 : decode b_Rk_numberAt 0 = .ok (.aload_n 0, 1) := by decide +kernel
theorem d_Rk_numberAt_1 : decode b_Rk_numberAt 1 = .ok (.getfield 9, 3) := by decide +kernel
theorem d_Rk_numberAt_4 : decode b_Rk_numberAt 4 = .ok (.iload_n 1, 1) := by decide +kernel
theorem d_Rk_numberAt_5 : decode b_Rk_numberAt 5 = .ok (.iaload, 1) := by decide +kernel
theorem d_Rk_numberAt_6 : decode b_Rk_numberAt 6 = .ok (.ireturn, 1) := by decide +kernel
theorem d_Rk_changeRoom_0 : decode b_Rk_changeRoom 0 = .ok (.aload_n 0, 1) := by decide +kernel
theorem d_Rk_changeRoom_1 : decode b_Rk_changeRoom 1 = .ok (.iload_n 1, 1) := by decide +kernel
theorem d_Rk_changeRoom_2 : decode b_Rk_changeRoom 2 = .ok (.bipush 30, 2) := by decide +kernel
theorem d_Rk_changeRoom_4 : decode b_Rk_changeRoom 4 = .ok (.invokestatic 22, 3) := by decide +kernel
theorem d_Rk_changeRoom_7 : decode b_Rk_changeRoom 7 = .ok (.putfield 28, 3) := by decide +kernel
theorem d_Rk_changeRoom_10 : decode b_Rk_changeRoom 10 = .ok (.aload_n 0, 1) := by decide +kernel
theorem d_Rk_changeRoom_11 : decode b_Rk_changeRoom 11 = .ok (.aload_n 0, 1) := by decide +kernel
theorem d_Rk_changeRoom_12 : decode b_Rk_changeRoom 12 = .ok (.getfield 18, 3) := by decide +kernel
theorem d_Rk_changeRoom_15 : decode b_Rk_changeRoom 15 = .ok (.aload_n 0, 1) := by decide +kernel
theorem d_Rk_changeRoom_16 : decode b_Rk_changeRoom 16 = .ok (.getfield 28, 3) := by decide +kernel
theorem d_Rk_changeRoom_19 : decode b_Rk_changeRoom 19 = .ok (.invokestatic 22, 3) := by decide +kernel
theorem d_Rk_changeRoom_22 : decode b_Rk_changeRoom 22 = .ok (.putfield 18, 3) := by decide +kernel
theorem d_Rk_changeRoom_25 : decode b_Rk_changeRoom 25 = .ok (.return_, 1) := by decide +kernel
theorem d_Rk_valueAt_0 : decode b_Rk_valueAt 0 = .ok (.aload_n 0, 1) := by decide +kernel
theorem d_Rk_valueAt_1 : decode b_Rk_valueAt 1 = .ok (.getfield 15, 3) := by decide +kernel
theorem d_Rk_valueAt_4 : decode b_Rk_valueAt 4 = .ok (.iload_n 1, 1) := by decide +kernel
theorem d_Rk_valueAt_5 : decode b_Rk_valueAt 5 = .ok (.iaload, 1) := by decide +kernel
theorem d_Rk_valueAt_6 : decode b_Rk_valueAt 6 = .ok (.ireturn, 1) := by decide +kernel
theorem d_Rk_dropFirst_0 : decode b_Rk_dropFirst 0 = .ok (.iconst 1, 1) := by decide +kernel
theorem d_Rk_dropFirst_1 : decode b_Rk_dropFirst 1 = .ok (.istore_n 1, 1) := by decide +kernel
theorem d_Rk_dropFirst_2 : decode b_Rk_dropFirst 2 = .ok (.iload_n 1, 1) := by decide +kernel
theorem d_Rk_dropFirst_3 : decode b_Rk_dropFirst 3 = .ok (.aload_n 0, 1) := by decide +kernel
theorem d_Rk_dropFirst_4 : decode b_Rk_dropFirst 4 = .ok (.getfield 18, 3) := by decide +kernel
theorem d_Rk_dropFirst_7 : decode b_Rk_dropFirst 7 = .ok (.if_icmp .ge 37, 3) := by decide +kernel
theorem d_Rk_dropFirst_10 : decode b_Rk_dropFirst 10 = .ok (.aload_n 0, 1) := by decide +kernel
theorem d_Rk_dropFirst_11 : decode b_Rk_dropFirst 11 = .ok (.getfield 9, 3) := by decide +kernel
theorem d_Rk_dropFirst_14 : decode b_Rk_dropFirst 14 = .ok (.iload_n 1, 1) := by decide +kernel
theorem d_Rk_dropFirst_15 : decode b_Rk_dropFirst 15 = .ok (.iconst 1, 1) := by decide +kernel
theorem d_Rk_dropFirst_16 : decode b_Rk_dropFirst 16 = .ok (.isub, 1) := by decide +kernel
theorem d_Rk_dropFirst_17 : decode b_Rk_dropFirst 17 = .ok (.aload_n 0, 1) := by decide +kernel
theorem d_Rk_dropFirst_18 : decode b_Rk_dropFirst 18 = .ok (.getfield 9, 3) := by decide +kernel
theorem d_Rk_dropFirst_21 : decode b_Rk_dropFirst 21 = .ok (.iload_n 1, 1) := by decide +kernel
theorem d_Rk_dropFirst_22 : decode b_Rk_dropFirst 22 = .ok (.iaload, 1) := by decide +kernel
theorem d_Rk_dropFirst_23 : decode b_Rk_dropFirst 23 = .ok (.iastore, 1) := by decide +kernel
theorem d_Rk_dropFirst_24 : decode b_Rk_dropFirst 24 = .ok (.aload_n 0, 1) := by decide +kernel
theorem d_Rk_dropFirst_25 : decode b_Rk_dropFirst 25 = .ok (.getfield 15, 3) := by decide +kernel
theorem d_Rk_dropFirst_28 : decode b_Rk_dropFirst 28 = .ok (.iload_n 1, 1) := by decide +kernel
theorem d_Rk_dropFirst_29 : decode b_Rk_dropFirst 29 = .ok (.iconst 1, 1) := by decide +kernel
theorem d_Rk_dropFirst_30 : decode b_Rk_dropFirst 30 = .ok (.isub, 1) := by decide +kernel
theorem d_Rk_dropFirst_31 : decode b_Rk_dropFirst 31 = .ok (.aload_n 0, 1) := by decide +kernel
theorem d_Rk_dropFirst_32 : decode b_Rk_dropFirst 32 = .ok (.getfield 15, 3) := by decide +kernel
theorem d_Rk_dropFirst_35 : decode b_Rk_dropFirst 35 = .ok (.iload_n 1, 1) := by decide +kernel
theorem d_Rk_dropFirst_36 : decode b_Rk_dropFirst 36 = .ok (.iaload, 1) := by decide +kernel
theorem d_Rk_dropFirst_37 : decode b_Rk_dropFirst 37 = .ok (.iastore, 1) := by decide +kernel
theorem d_Rk_dropFirst_38 : decode b_Rk_dropFirst 38 = .ok (.iinc 1 1, 3) := by decide +kernel
theorem d_Rk_dropFirst_41 : decode b_Rk_dropFirst 41 = .ok (.goto (-39), 3) := by decide +kernel
theorem d_Rk_dropFirst_44 : decode b_Rk_dropFirst 44 = .ok (.aload_n 0, 1) := by decide +kernel
theorem d_Rk_dropFirst_45 : decode b_Rk_dropFirst 45 = .ok (.iconst 0, 1) := by decide +kernel
theorem d_Rk_dropFirst_46 : decode b_Rk_dropFirst 46 = .ok (.aload_n 0, 1) := by decide +kernel
theorem d_Rk_dropFirst_47 : decode b_Rk_dropFirst 47 = .ok (.getfield 18, 3) := by decide +kernel
theorem d_Rk_dropFirst_50 : decode b_Rk_dropFirst 50 = .ok (.iconst 1, 1) := by decide +kernel
theorem d_Rk_dropFirst_51 : decode b_Rk_dropFirst 51 = .ok (.isub, 1) := by decide +kernel
theorem d_Rk_dropFirst_52 : decode b_Rk_dropFirst 52 = .ok (.invokestatic 43, 3) := by decide +kernel
theorem d_Rk_dropFirst_55 : decode b_Rk_dropFirst 55 = .ok (.putfield 18, 3) := by decide +kernel
theorem d_Rk_dropFirst_58 : decode b_Rk_dropFirst 58 = .ok (.return_, 1) := by decide +kernel
theorem d_Rk_lastPrecedes_0 : decode b_Rk_lastPrecedes 0 = .ok (.aload_n 0, 1) := by decide +kernel
theorem d_Rk_lastPrecedes_1 : decode b_Rk_lastPrecedes 1 = .ok (.getfield 18, 3) := by decide +kernel
theorem d_Rk_lastPrecedes_4 : decode b_Rk_lastPrecedes 4 = .ok (.ifCond .le 38, 3) := by decide +kernel
theorem d_Rk_lastPrecedes_7 : decode b_Rk_lastPrecedes 7 = .ok (.aload_n 0, 1) := by decide +kernel
theorem d_Rk_lastPrecedes_8 : decode b_Rk_lastPrecedes 8 = .ok (.aload_n 0, 1) := by decide +kernel
theorem d_Rk_lastPrecedes_9 : decode b_Rk_lastPrecedes 9 = .ok (.getfield 9, 3) := by decide +kernel
theorem d_Rk_lastPrecedes_12 : decode b_Rk_lastPrecedes 12 = .ok (.aload_n 0, 1) := by decide +kernel
theorem d_Rk_lastPrecedes_13 : decode b_Rk_lastPrecedes 13 = .ok (.getfield 18, 3) := by decide +kernel
theorem d_Rk_lastPrecedes_16 : decode b_Rk_lastPrecedes 16 = .ok (.iconst 1, 1) := by decide +kernel
theorem d_Rk_lastPrecedes_17 : decode b_Rk_lastPrecedes 17 = .ok (.isub, 1) := by decide +kernel
theorem d_Rk_lastPrecedes_18 : decode b_Rk_lastPrecedes 18 = .ok (.iaload, 1) := by decide +kernel
theorem d_Rk_lastPrecedes_19 : decode b_Rk_lastPrecedes 19 = .ok (.aload_n 0, 1) := by decide +kernel
theorem d_Rk_lastPrecedes_20 : decode b_Rk_lastPrecedes 20 = .ok (.getfield 15, 3) := by decide +kernel
theorem d_Rk_lastPrecedes_23 : decode b_Rk_lastPrecedes 23 = .ok (.aload_n 0, 1) := by decide +kernel
theorem d_Rk_lastPrecedes_24 : decode b_Rk_lastPrecedes 24 = .ok (.getfield 18, 3) := by decide +kernel
theorem d_Rk_lastPrecedes_27 : decode b_Rk_lastPrecedes 27 = .ok (.iconst 1, 1) := by decide +kernel
theorem d_Rk_lastPrecedes_28 : decode b_Rk_lastPrecedes 28 = .ok (.isub, 1) := by decide +kernel
theorem d_Rk_lastPrecedes_29 : decode b_Rk_lastPrecedes 29 = .ok (.iaload, 1) := by decide +kernel
theorem d_Rk_lastPrecedes_30 : decode b_Rk_lastPrecedes 30 = .ok (.iload_n 1, 1) := by decide +kernel
theorem d_Rk_lastPrecedes_31 : decode b_Rk_lastPrecedes 31 = .ok (.iload_n 2, 1) := by decide +kernel
theorem d_Rk_lastPrecedes_32 : decode b_Rk_lastPrecedes 32 = .ok (.invokevirtual 35, 3) := by decide +kernel
theorem d_Rk_lastPrecedes_35 : decode b_Rk_lastPrecedes 35 = .ok (.ifCond .eq 7, 3) := by decide +kernel
theorem d_Rk_lastPrecedes_38 : decode b_Rk_lastPrecedes 38 = .ok (.iconst 1, 1) := by decide +kernel
theorem d_Rk_lastPrecedes_39 : decode b_Rk_lastPrecedes 39 = .ok (.goto 4, 3) := by decide +kernel
theorem d_Rk_lastPrecedes_42 : decode b_Rk_lastPrecedes 42 = .ok (.iconst 0, 1) := by decide +kernel
theorem d_Rk_lastPrecedes_43 : decode b_Rk_lastPrecedes 43 = .ok (.ireturn, 1) := by decide +kernel
theorem d_Rk_holds_0 : decode b_Rk_holds 0 = .ok (.iconst 0, 1) := by decide +kernel
theorem d_Rk_holds_1 : decode b_Rk_holds 1 = .ok (.istore_n 2, 1) := by decide +kernel
theorem d_Rk_holds_2 : decode b_Rk_holds 2 = .ok (.iload_n 2, 1) := by decide +kernel
theorem d_Rk_holds_3 : decode b_Rk_holds 3 = .ok (.aload_n 0, 1) := by decide +kernel
theorem d_Rk_holds_4 : decode b_Rk_holds 4 = .ok (.getfield 18, 3) := by decide +kernel
theorem d_Rk_holds_7 : decode b_Rk_holds 7 = .ok (.if_icmp .ge 21, 3) := by decide +kernel
theorem d_Rk_holds_10 : decode b_Rk_holds 10 = .ok (.aload_n 0, 1) := by decide +kernel
theorem d_Rk_holds_11 : decode b_Rk_holds 11 = .ok (.getfield 9, 3) := by decide +kernel
theorem d_Rk_holds_14 : decode b_Rk_holds 14 = .ok (.iload_n 2, 1) := by decide +kernel
theorem d_Rk_holds_15 : decode b_Rk_holds 15 = .ok (.iaload, 1) := by decide +kernel
theorem d_Rk_holds_16 : decode b_Rk_holds 16 = .ok (.iload_n 1, 1) := by decide +kernel
theorem d_Rk_holds_17 : decode b_Rk_holds 17 = .ok (.if_icmp .ne 5, 3) := by decide +kernel
theorem d_Rk_holds_20 : decode b_Rk_holds 20 = .ok (.iconst 1, 1) := by decide +kernel
theorem d_Rk_holds_21 : decode b_Rk_holds 21 = .ok (.ireturn, 1) := by decide +kernel
theorem d_Rk_holds_22 : decode b_Rk_holds 22 = .ok (.iinc 2 1, 3) := by decide +kernel
theorem d_Rk_holds_25 : decode b_Rk_holds 25 = .ok (.goto (-23), 3) := by decide +kernel
theorem d_Rk_holds_28 : decode b_Rk_holds 28 = .ok (.iconst 0, 1) := by decide +kernel
theorem d_Rk_holds_29 : decode b_Rk_holds 29 = .ok (.ireturn, 1) := by decide +kernel
