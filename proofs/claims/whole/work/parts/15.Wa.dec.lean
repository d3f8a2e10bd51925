theorem d_Wa_standAt_0 : decode b_Wa_standAt 0 = .ok (.aload_n 1, 1) := by decide +kernel
theorem d_Wa_standAt_1 : decode b_Wa_standAt 1 = .ok (.aload_n 2, 1) := by decide +kernel
theorem d_Wa_standAt_2 : decode b_Wa_standAt 2 = .ok (.aload_n 0, 1) := by decide +kernel
theorem d_Wa_standAt_3 : decode b_Wa_standAt 3 = .ok (.getfield 21, 3) := by decide +kernel
theorem d_Wa_standAt_6 : decode b_Wa_standAt 6 = .ok (.invokevirtual 25, 3) := by decide +kernel
theorem d_Wa_standAt_9 : decode b_Wa_standAt 9 = .ok (.aload_n 0, 1) := by decide +kernel
theorem d_Wa_standAt_10 : decode b_Wa_standAt 10 = .ok (.getfield 12, 3) := by decide +kernel
theorem d_Wa_standAt_13 : decode b_Wa_standAt 13 = .ok (.iconst 1, 1) := by decide +kernel
theorem d_Wa_standAt_14 : decode b_Wa_standAt 14 = .ok (.iconst 0, 1) := by decide +kernel
theorem d_Wa_standAt_15 : decode b_Wa_standAt 15 = .ok (.invokevirtual 31, 3) := by decide +kernel
theorem d_Wa_standAt_18 : decode b_Wa_standAt 18 = .ok (.aload_n 0, 1) := by decide +kernel
theorem d_Wa_standAt_19 : decode b_Wa_standAt 19 = .ok (.getfield 12, 3) := by decide +kernel
theorem d_Wa_standAt_22 : decode b_Wa_standAt 22 = .ok (.iload_n 3, 1) := by decide +kernel
theorem d_Wa_standAt_23 : decode b_Wa_standAt 23 = .ok (.aload_n 0, 1) := by decide +kernel
theorem d_Wa_standAt_24 : decode b_Wa_standAt 24 = .ok (.getfield 21, 3) := by decide +kernel
theorem d_Wa_standAt_27 : decode b_Wa_standAt 27 = .ok (.iload_n 3, 1) := by decide +kernel
theorem d_Wa_standAt_28 : decode b_Wa_standAt 28 = .ok (.iaload, 1) := by decide +kernel
theorem d_Wa_standAt_29 : decode b_Wa_standAt 29 = .ok (.invokevirtual 35, 3) := by decide +kernel
theorem d_Wa_standAt_32 : decode b_Wa_standAt 32 = .ok (.pop, 1) := by decide +kernel
theorem d_Wa_standAt_33 : decode b_Wa_standAt 33 = .ok (.return_, 1) := by decide +kernel
theorem d_Wa_walk_0 : decode b_Wa_walk 0 = .ok (.aload_n 0, 1) := by decide +kernel
theorem d_Wa_walk_1 : decode b_Wa_walk 1 = .ok (.iload_n 3, 1) := by decide +kernel
theorem d_Wa_walk_2 : decode b_Wa_walk 2 = .ok (.invokevirtual 39, 3) := by decide +kernel
theorem d_Wa_walk_5 : decode b_Wa_walk 5 = .ok (.iconst 0, 1) := by decide +kernel
theorem d_Wa_walk_6 : decode b_Wa_walk 6 = .ok (.istore 4, 2) := by decide +kernel
theorem d_Wa_walk_8 : decode b_Wa_walk 8 = .ok (.iload 4, 2) := by decide +kernel
theorem d_Wa_walk_10 : decode b_Wa_walk 10 = .ok (.bipush 30, 2) := by decide +kernel
theorem d_Wa_walk_12 : decode b_Wa_walk 12 = .ok (.if_icmp .ge 76, 3) := by decide +kernel
theorem d_Wa_walk_15 : decode b_Wa_walk 15 = .ok (.aload_n 0, 1) := by decide +kernel
theorem d_Wa_walk_16 : decode b_Wa_walk 16 = .ok (.getfield 18, 3) := by decide +kernel
theorem d_Wa_walk_19 : decode b_Wa_walk 19 = .ok (.invokevirtual 43, 3) := by decide +kernel
theorem d_Wa_walk_22 : decode b_Wa_walk 22 = .ok (.ifCond .le 66, 3) := by decide +kernel
theorem d_Wa_walk_25 : decode b_Wa_walk 25 = .ok (.aload_n 0, 1) := by decide +kernel
theorem d_Wa_walk_26 : decode b_Wa_walk 26 = .ok (.getfield 18, 3) := by decide +kernel
theorem d_Wa_walk_29 : decode b_Wa_walk 29 = .ok (.iconst 0, 1) := by decide +kernel
theorem d_Wa_walk_30 : decode b_Wa_walk 30 = .ok (.invokevirtual 47, 3) := by decide +kernel
theorem d_Wa_walk_33 : decode b_Wa_walk 33 = .ok (.istore 5, 2) := by decide +kernel
theorem d_Wa_walk_35 : decode b_Wa_walk 35 = .ok (.aload_n 0, 1) := by decide +kernel
theorem d_Wa_walk_36 : decode b_Wa_walk 36 = .ok (.getfield 18, 3) := by decide +kernel
theorem d_Wa_walk_39 : decode b_Wa_walk 39 = .ok (.invokevirtual 51, 3) := by decide +kernel
theorem d_Wa_walk_42 : decode b_Wa_walk 42 = .ok (.aload_n 0, 1) := by decide +kernel
theorem d_Wa_walk_43 : decode b_Wa_walk 43 = .ok (.getfield 12, 3) := by decide +kernel
theorem d_Wa_walk_46 : decode b_Wa_walk 46 = .ok (.invokevirtual 54, 3) := by decide +kernel
theorem d_Wa_walk_49 : decode b_Wa_walk 49 = .ok (.ifCond .eq 25, 3) := by decide +kernel
theorem d_Wa_walk_52 : decode b_Wa_walk 52 = .ok (.aload_n 0, 1) := by decide +kernel
theorem d_Wa_walk_53 : decode b_Wa_walk 53 = .ok (.getfield 12, 3) := by decide +kernel
theorem d_Wa_walk_56 : decode b_Wa_walk 56 = .ok (.iload 5, 2) := by decide +kernel
theorem d_Wa_walk_58 : decode b_Wa_walk 58 = .ok (.aload_n 0, 1) := by decide +kernel
theorem d_Wa_walk_59 : decode b_Wa_walk 59 = .ok (.getfield 21, 3) := by decide +kernel
theorem d_Wa_walk_62 : decode b_Wa_walk 62 = .ok (.iload 5, 2) := by decide +kernel
theorem d_Wa_walk_64 : decode b_Wa_walk 64 = .ok (.iaload, 1) := by decide +kernel
theorem d_Wa_walk_65 : decode b_Wa_walk 65 = .ok (.invokevirtual 58, 3) := by decide +kernel
theorem d_Wa_walk_68 : decode b_Wa_walk 68 = .ok (.ifCond .eq 6, 3) := by decide +kernel
theorem d_Wa_walk_71 : decode b_Wa_walk 71 = .ok (.goto 17, 3) := by decide +kernel
theorem d_Wa_walk_74 : decode b_Wa_walk 74 = .ok (.aload_n 0, 1) := by decide +kernel
theorem d_Wa_walk_75 : decode b_Wa_walk 75 = .ok (.aload_n 1, 1) := by decide +kernel
theorem d_Wa_walk_76 : decode b_Wa_walk 76 = .ok (.iload_n 2, 1) := by decide +kernel
theorem d_Wa_walk_77 : decode b_Wa_walk 77 = .ok (.iload 5, 2) := by decide +kernel
theorem d_Wa_walk_79 : decode b_Wa_walk 79 = .ok (.invokevirtual 61, 3) := by decide +kernel
theorem d_Wa_walk_82 : decode b_Wa_walk 82 = .ok (.iinc 4 1, 3) := by decide +kernel
theorem d_Wa_walk_85 : decode b_Wa_walk 85 = .ok (.goto (-77), 3) := by decide +kernel
theorem d_Wa_walk_88 : decode b_Wa_walk 88 = .ok (.aload_n 0, 1) := by decide +kernel
theorem d_Wa_walk_89 : decode b_Wa_walk 89 = .ok (.getfield 65, 3) := by decide +kernel
theorem d_Wa_walk_92 : decode b_Wa_walk 92 = .ok (.invokestatic 69, 3) := by decide +kernel
theorem d_Wa_walk_95 : decode b_Wa_walk 95 = .ok (.ireturn, 1) := by decide +kernel
theorem d_Wa_begin_0 : decode b_Wa_begin 0 = .ok (.aload_n 0, 1) := by decide +kernel
theorem d_Wa_begin_1 : decode b_Wa_begin 1 = .ok (.iconst 0, 1) := by decide +kernel
theorem d_Wa_begin_2 : decode b_Wa_begin 2 = .ok (.putfield 65, 3) := by decide +kernel
theorem d_Wa_begin_5 : decode b_Wa_begin 5 = .ok (.iconst 0, 1) := by decide +kernel
theorem d_Wa_begin_6 : decode b_Wa_begin 6 = .ok (.istore_n 2, 1) := by decide +kernel
theorem d_Wa_begin_7 : decode b_Wa_begin 7 = .ok (.iload_n 2, 1) := by decide +kernel
theorem d_Wa_begin_8 : decode b_Wa_begin 8 = .ok (.aload_n 0, 1) := by decide +kernel
theorem d_Wa_begin_9 : decode b_Wa_begin 9 = .ok (.getfield 12, 3) := by decide +kernel
theorem d_Wa_begin_12 : decode b_Wa_begin 12 = .ok (.invokevirtual 43, 3) := by decide +kernel
theorem d_Wa_begin_15 : decode b_Wa_begin 15 = .ok (.if_icmp .ge 28, 3) := by decide +kernel
theorem d_Wa_begin_18 : decode b_Wa_begin 18 = .ok (.aload_n 0, 1) := by decide +kernel
theorem d_Wa_begin_19 : decode b_Wa_begin 19 = .ok (.dup, 1) := by decide +kernel
theorem d_Wa_begin_20 : decode b_Wa_begin 20 = .ok (.getfield 65, 3) := by decide +kernel
theorem d_Wa_begin_23 : decode b_Wa_begin 23 = .ok (.iconst 1, 1) := by decide +kernel
theorem d_Wa_begin_24 : decode b_Wa_begin 24 = .ok (.aload_n 0, 1) := by decide +kernel
theorem d_Wa_begin_25 : decode b_Wa_begin 25 = .ok (.getfield 12, 3) := by decide +kernel
theorem d_Wa_begin_28 : decode b_Wa_begin 28 = .ok (.iload_n 2, 1) := by decide +kernel
theorem d_Wa_begin_29 : decode b_Wa_begin 29 = .ok (.invokevirtual 47, 3) := by decide +kernel
theorem d_Wa_begin_32 : decode b_Wa_begin 32 = .ok (.ishl, 1) := by decide +kernel
theorem d_Wa_begin_33 : decode b_Wa_begin 33 = .ok (.ior, 1) := by decide +kernel
theorem d_Wa_begin_34 : decode b_Wa_begin 34 = .ok (.putfield 65, 3) := by decide +kernel
theorem d_Wa_begin_37 : decode b_Wa_begin 37 = .ok (.iinc 2 1, 3) := by decide +kernel
theorem d_Wa_begin_40 : decode b_Wa_begin 40 = .ok (.goto (-33), 3) := by decide +kernel
theorem d_Wa_begin_43 : decode b_Wa_begin 43 = .ok (.aload_n 0, 1) := by decide +kernel
theorem d_Wa_begin_44 : decode b_Wa_begin 44 = .ok (.getfield 12, 3) := by decide +kernel
theorem d_Wa_begin_47 : decode b_Wa_begin 47 = .ok (.iload_n 1, 1) := by decide +kernel
theorem d_Wa_begin_48 : decode b_Wa_begin 48 = .ok (.invokevirtual 74, 3) := by decide +kernel
theorem d_Wa_begin_51 : decode b_Wa_begin 51 = .ok (.aload_n 0, 1) := by decide +kernel
theorem d_Wa_begin_52 : decode b_Wa_begin 52 = .ok (.getfield 18, 3) := by decide +kernel
theorem d_Wa_begin_55 : decode b_Wa_begin 55 = .ok (.bipush 30, 2) := by decide +kernel
theorem d_Wa_begin_57 : decode b_Wa_begin 57 = .ok (.iconst 0, 1) := by decide +kernel
theorem d_Wa_begin_58 : decode b_Wa_begin 58 = .ok (.invokevirtual 31, 3) := by decide +kernel
theorem d_Wa_begin_61 : decode b_Wa_begin 61 = .ok (.iconst 0, 1) := by decide +kernel
theorem d_Wa_begin_62 : decode b_Wa_begin 62 = .ok (.istore_n 2, 1) := by decide +kernel
theorem d_Wa_begin_63 : decode b_Wa_begin 63 = .ok (.iload_n 2, 1) := by decide +kernel
theorem d_Wa_begin_64 : decode b_Wa_begin 64 = .ok (.aload_n 0, 1) := by decide +kernel
theorem d_Wa_begin_65 : decode b_Wa_begin 65 = .ok (.getfield 12, 3) := by decide +kernel
theorem d_Wa_begin_68 : decode b_Wa_begin 68 = .ok (.invokevirtual 43, 3) := by decide +kernel
theorem d_Wa_begin_71 : decode b_Wa_begin 71 = .ok (.if_icmp .ge 33, 3) := by decide +kernel
theorem d_Wa_begin_74 : decode b_Wa_begin 74 = .ok (.aload_n 0, 1) := by decide +kernel
theorem d_Wa_begin_75 : decode b_Wa_begin 75 = .ok (.getfield 18, 3) := by decide +kernel
theorem d_Wa_begin_78 : decode b_Wa_begin 78 = .ok (.aload_n 0, 1) := by decide +kernel
theorem d_Wa_begin_79 : decode b_Wa_begin 79 = .ok (.getfield 12, 3) := by decide +kernel
theorem d_Wa_begin_82 : decode b_Wa_begin 82 = .ok (.iload_n 2, 1) := by decide +kernel
theorem d_Wa_begin_83 : decode b_Wa_begin 83 = .ok (.invokevirtual 47, 3) := by decide +kernel
theorem d_Wa_begin_86 : decode b_Wa_begin 86 = .ok (.aload_n 0, 1) := by decide +kernel
theorem d_Wa_begin_87 : decode b_Wa_begin 87 = .ok (.getfield 12, 3) := by decide +kernel
theorem d_Wa_begin_90 : decode b_Wa_begin 90 = .ok (.iload_n 2, 1) := by decide +kernel
theorem d_Wa_begin_91 : decode b_Wa_begin 91 = .ok (.invokevirtual 77, 3) := by decide +kernel
theorem d_Wa_begin_94 : decode b_Wa_begin 94 = .ok (.invokevirtual 35, 3) := by decide +kernel
theorem d_Wa_begin_97 : decode b_Wa_begin 97 = .ok (.pop, 1) := by decide +kernel
theorem d_Wa_begin_98 : decode b_Wa_begin 98 = .ok (.iinc 2 1, 3) := by decide +kernel
theorem d_Wa_begin_101 : decode b_Wa_begin 101 = .ok (.goto (-38), 3) := by decide +kernel
theorem d_Wa_begin_104 : decode b_Wa_begin 104 = .ok (.return_, 1) := by decide +kernel
theorem d_Wa_lookAround_0 : decode b_Wa_lookAround 0 = .ok (.iconst 0, 1) := by decide +kernel
theorem d_Wa_lookAround_1 : decode b_Wa_lookAround 1 = .ok (.istore 4, 2) := by decide +kernel
theorem d_Wa_lookAround_3 : decode b_Wa_lookAround 3 = .ok (.iload 4, 2) := by decide +kernel
theorem d_Wa_lookAround_5 : decode b_Wa_lookAround 5 = .ok (.aload_n 1, 1) := by decide +kernel
theorem d_Wa_lookAround_6 : decode b_Wa_lookAround 6 = .ok (.iload_n 3, 1) := by decide +kernel
theorem d_Wa_lookAround_7 : decode b_Wa_lookAround 7 = .ok (.iload_n 2, 1) := by decide +kernel
theorem d_Wa_lookAround_8 : decode b_Wa_lookAround 8 = .ok (.invokevirtual 80, 3) := by decide +kernel
theorem d_Wa_lookAround_11 : decode b_Wa_lookAround 11 = .ok (.if_icmp .ge 80, 3) := by decide +kernel
theorem d_Wa_lookAround_14 : decode b_Wa_lookAround 14 = .ok (.aload_n 1, 1) := by decide +kernel
theorem d_Wa_lookAround_15 : decode b_Wa_lookAround 15 = .ok (.iload_n 3, 1) := by decide +kernel
theorem d_Wa_lookAround_16 : decode b_Wa_lookAround 16 = .ok (.iload_n 2, 1) := by decide +kernel
theorem d_Wa_lookAround_17 : decode b_Wa_lookAround 17 = .ok (.iload 4, 2) := by decide +kernel
theorem d_Wa_lookAround_19 : decode b_Wa_lookAround 19 = .ok (.invokevirtual 86, 3) := by decide +kernel
theorem d_Wa_lookAround_22 : decode b_Wa_lookAround 22 = .ok (.istore 5, 2) := by decide +kernel
theorem d_Wa_lookAround_24 : decode b_Wa_lookAround 24 = .ok (.aload_n 0, 1) := by decide +kernel
theorem d_Wa_lookAround_25 : decode b_Wa_lookAround 25 = .ok (.getfield 65, 3) := by decide +kernel
theorem d_Wa_lookAround_28 : decode b_Wa_lookAround 28 = .ok (.iload 5, 2) := by decide +kernel
theorem d_Wa_lookAround_30 : decode b_Wa_lookAround 30 = .ok (.invokestatic 90, 3) := by decide +kernel
theorem d_Wa_lookAround_33 : decode b_Wa_lookAround 33 = .ok (.ifCond .ne 52, 3) := by decide +kernel
theorem d_Wa_lookAround_36 : decode b_Wa_lookAround 36 = .ok (.aload_n 0, 1) := by decide +kernel
theorem d_Wa_lookAround_37 : decode b_Wa_lookAround 37 = .ok (.dup, 1) := by decide +kernel
theorem d_Wa_lookAround_38 : decode b_Wa_lookAround 38 = .ok (.getfield 65, 3) := by decide +kernel
theorem d_Wa_lookAround_41 : decode b_Wa_lookAround 41 = .ok (.iconst 1, 1) := by decide +kernel
theorem d_Wa_lookAround_42 : decode b_Wa_lookAround 42 = .ok (.iload 5, 2) := by decide +kernel
theorem d_Wa_lookAround_44 : decode b_Wa_lookAround 44 = .ok (.ishl, 1) := by decide +kernel
theorem d_Wa_lookAround_45 : decode b_Wa_lookAround 45 = .ok (.ior, 1) := by decide +kernel
theorem d_Wa_lookAround_46 : decode b_Wa_lookAround 46 = .ok (.putfield 65, 3) := by decide +kernel
theorem d_Wa_lookAround_49 : decode b_Wa_lookAround 49 = .ok (.aload_n 0, 1) := by decide +kernel
theorem d_Wa_lookAround_50 : decode b_Wa_lookAround 50 = .ok (.getfield 12, 3) := by decide +kernel
theorem d_Wa_lookAround_53 : decode b_Wa_lookAround 53 = .ok (.iload 5, 2) := by decide +kernel
theorem d_Wa_lookAround_55 : decode b_Wa_lookAround 55 = .ok (.aload_n 0, 1) := by decide +kernel
theorem d_Wa_lookAround_56 : decode b_Wa_lookAround 56 = .ok (.getfield 21, 3) := by decide +kernel
theorem d_Wa_lookAround_59 : decode b_Wa_lookAround 59 = .ok (.iload 5, 2) := by decide +kernel
theorem d_Wa_lookAround_61 : decode b_Wa_lookAround 61 = .ok (.iaload, 1) := by decide +kernel
theorem d_Wa_lookAround_62 : decode b_Wa_lookAround 62 = .ok (.invokevirtual 35, 3) := by decide +kernel
theorem d_Wa_lookAround_65 : decode b_Wa_lookAround 65 = .ok (.ifCond .eq 20, 3) := by decide +kernel
theorem d_Wa_lookAround_68 : decode b_Wa_lookAround 68 = .ok (.aload_n 0, 1) := by decide +kernel
theorem d_Wa_lookAround_69 : decode b_Wa_lookAround 69 = .ok (.getfield 18, 3) := by decide +kernel
theorem d_Wa_lookAround_72 : decode b_Wa_lookAround 72 = .ok (.iload 5, 2) := by decide +kernel
theorem d_Wa_lookAround_74 : decode b_Wa_lookAround 74 = .ok (.aload_n 0, 1) := by decide +kernel
theorem d_Wa_lookAround_75 : decode b_Wa_lookAround 75 = .ok (.getfield 21, 3) := by decide +kernel
theorem d_Wa_lookAround_78 : decode b_Wa_lookAround 78 = .ok (.iload 5, 2) := by decide +kernel
theorem d_Wa_lookAround_80 : decode b_Wa_lookAround 80 = .ok (.iaload, 1) := by decide +kernel
theorem d_Wa_lookAround_81 : decode b_Wa_lookAround 81 = .ok (.invokevirtual 35, 3) := by decide +kernel
theorem d_Wa_lookAround_84 : decode b_Wa_lookAround 84 = .ok (.pop, 1) := by decide +kernel
theorem d_Wa_lookAround_85 : decode b_Wa_lookAround 85 = .ok (.iinc 4 1, 3) := by decide +kernel
theorem d_Wa_lookAround_88 : decode b_Wa_lookAround 88 = .ok (.goto (-85), 3) := by decide +kernel
theorem d_Wa_lookAround_91 : decode b_Wa_lookAround 91 = .ok (.return_, 1) := by decide +kernel
theorem d_Wa_held_0 : decode b_Wa_held 0 = .ok (.aload_n 0, 1) := by decide +kernel
theorem d_Wa_held_1 : decode b_Wa_held 1 = .ok (.getfield 12, 3) := by decide +kernel
theorem d_Wa_held_4 : decode b_Wa_held 4 = .ok (.areturn, 1) := by decide +kernel
theorem d_Wa_standNowhere_0 : decode b_Wa_standNowhere 0 = .ok (.aload_n 0, 1) := by decide +kernel
theorem d_Wa_standNowhere_1 : decode b_Wa_standNowhere 1 = .ok (.getfield 12, 3) := by decide +kernel
theorem d_Wa_standNowhere_4 : decode b_Wa_standNowhere 4 = .ok (.iconst 0, 1) := by decide +kernel
theorem d_Wa_standNowhere_5 : decode b_Wa_standNowhere 5 = .ok (.iconst 0, 1) := by decide +kernel
theorem d_Wa_standNowhere_6 : decode b_Wa_standNowhere 6 = .ok (.invokevirtual 31, 3) := by decide +kernel
theorem d_Wa_standNowhere_9 : decode b_Wa_standNowhere 9 = .ok (.return_, 1) := by decide +kernel
