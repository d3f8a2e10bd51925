theorem d_Gr_enter_0 : decode b_Gr_enter 0 = .ok (.aload_n 0, 1) := by decide +kernel
theorem d_Gr_enter_1 : decode b_Gr_enter 1 = .ok (.getfield 12, 3) := by decide +kernel
theorem d_Gr_enter_4 : decode b_Gr_enter 4 = .ok (.iload_n 2, 1) := by decide +kernel
theorem d_Gr_enter_5 : decode b_Gr_enter 5 = .ok (.invokevirtual 56, 3) := by decide +kernel
theorem d_Gr_enter_8 : decode b_Gr_enter 8 = .ok (.aload_n 0, 1) := by decide +kernel
theorem d_Gr_enter_9 : decode b_Gr_enter 9 = .ok (.getfield 39, 3) := by decide +kernel
theorem d_Gr_enter_12 : decode b_Gr_enter 12 = .ok (.bipush (-2), 2) := by decide +kernel
theorem d_Gr_enter_14 : decode b_Gr_enter 14 = .ok (.if_icmp .ne 9, 3) := by decide +kernel
theorem d_Gr_enter_17 : decode b_Gr_enter 17 = .ok (.aload_n 0, 1) := by decide +kernel
theorem d_Gr_enter_18 : decode b_Gr_enter 18 = .ok (.iload_n 2, 1) := by decide +kernel
theorem d_Gr_enter_19 : decode b_Gr_enter 19 = .ok (.putfield 39, 3) := by decide +kernel
theorem d_Gr_enter_22 : decode b_Gr_enter 22 = .ok (.return_, 1) := by decide +kernel
theorem d_Gr_enter_23 : decode b_Gr_enter 23 = .ok (.aload_n 0, 1) := by decide +kernel
theorem d_Gr_enter_24 : decode b_Gr_enter 24 = .ok (.getfield 12, 3) := by decide +kernel
theorem d_Gr_enter_27 : decode b_Gr_enter 27 = .ok (.iload_n 2, 1) := by decide +kernel
theorem d_Gr_enter_28 : decode b_Gr_enter 28 = .ok (.invokevirtual 43, 3) := by decide +kernel
theorem d_Gr_enter_31 : decode b_Gr_enter 31 = .ok (.istore_n 3, 1) := by decide +kernel
theorem d_Gr_enter_32 : decode b_Gr_enter 32 = .ok (.aload_n 0, 1) := by decide +kernel
theorem d_Gr_enter_33 : decode b_Gr_enter 33 = .ok (.getfield 21, 3) := by decide +kernel
theorem d_Gr_enter_36 : decode b_Gr_enter 36 = .ok (.aload_n 1, 1) := by decide +kernel
theorem d_Gr_enter_37 : decode b_Gr_enter 37 = .ok (.aload_n 1, 1) := by decide +kernel
theorem d_Gr_enter_38 : decode b_Gr_enter 38 = .ok (.iload_n 2, 1) := by decide +kernel
theorem d_Gr_enter_39 : decode b_Gr_enter 39 = .ok (.invokevirtual 60, 3) := by decide +kernel
theorem d_Gr_enter_42 : decode b_Gr_enter 42 = .ok (.aload_n 0, 1) := by decide +kernel
theorem d_Gr_enter_43 : decode b_Gr_enter 43 = .ok (.getfield 39, 3) := by decide +kernel
theorem d_Gr_enter_46 : decode b_Gr_enter 46 = .ok (.invokevirtual 66, 3) := by decide +kernel
theorem d_Gr_enter_49 : decode b_Gr_enter 49 = .ok (.aload_n 0, 1) := by decide +kernel
theorem d_Gr_enter_50 : decode b_Gr_enter 50 = .ok (.invokevirtual 70, 3) := by decide +kernel
theorem d_Gr_enter_53 : decode b_Gr_enter 53 = .ok (.istore 4, 2) := by decide +kernel
theorem d_Gr_enter_55 : decode b_Gr_enter 55 = .ok (.iload 4, 2) := by decide +kernel
theorem d_Gr_enter_57 : decode b_Gr_enter 57 = .ok (.ifCond .lt 67, 3) := by decide +kernel
theorem d_Gr_enter_60 : decode b_Gr_enter 60 = .ok (.iload 4, 2) := by decide +kernel
theorem d_Gr_enter_62 : decode b_Gr_enter 62 = .ok (.iload_n 3, 1) := by decide +kernel
theorem d_Gr_enter_63 : decode b_Gr_enter 63 = .ok (.if_icmp .le 7, 3) := by decide +kernel
theorem d_Gr_enter_66 : decode b_Gr_enter 66 = .ok (.iconst 1, 1) := by decide +kernel
theorem d_Gr_enter_67 : decode b_Gr_enter 67 = .ok (.goto 4, 3) := by decide +kernel
theorem d_Gr_enter_70 : decode b_Gr_enter 70 = .ok (.iconst 0, 1) := by decide +kernel
theorem d_Gr_enter_71 : decode b_Gr_enter 71 = .ok (.istore 5, 2) := by decide +kernel
theorem d_Gr_enter_73 : decode b_Gr_enter 73 = .ok (.aload_n 0, 1) := by decide +kernel
theorem d_Gr_enter_74 : decode b_Gr_enter 74 = .ok (.dup, 1) := by decide +kernel
theorem d_Gr_enter_75 : decode b_Gr_enter 75 = .ok (.getfield 50, 3) := by decide +kernel
theorem d_Gr_enter_78 : decode b_Gr_enter 78 = .ok (.aload_n 0, 1) := by decide +kernel
theorem d_Gr_enter_79 : decode b_Gr_enter 79 = .ok (.getfield 21, 3) := by decide +kernel
theorem d_Gr_enter_82 : decode b_Gr_enter 82 = .ok (.aload_n 0, 1) := by decide +kernel
theorem d_Gr_enter_83 : decode b_Gr_enter 83 = .ok (.getfield 12, 3) := by decide +kernel
theorem d_Gr_enter_86 : decode b_Gr_enter 86 = .ok (.iload 4, 2) := by decide +kernel
theorem d_Gr_enter_88 : decode b_Gr_enter 88 = .ok (.iload 5, 2) := by decide +kernel
theorem d_Gr_enter_90 : decode b_Gr_enter 90 = .ok (.ifCond .eq 7, 3) := by decide +kernel
theorem d_Gr_enter_93 : decode b_Gr_enter 93 = .ok (.iconst 1, 1) := by decide +kernel
theorem d_Gr_enter_94 : decode b_Gr_enter 94 = .ok (.goto 4, 3) := by decide +kernel
theorem d_Gr_enter_97 : decode b_Gr_enter 97 = .ok (.iconst 5, 1) := by decide +kernel
theorem d_Gr_enter_98 : decode b_Gr_enter 98 = .ok (.invokevirtual 74, 3) := by decide +kernel
theorem d_Gr_enter_101 : decode b_Gr_enter 101 = .ok (.iadd, 1) := by decide +kernel
theorem d_Gr_enter_102 : decode b_Gr_enter 102 = .ok (.putfield 50, 3) := by decide +kernel
theorem d_Gr_enter_105 : decode b_Gr_enter 105 = .ok (.iload 5, 2) := by decide +kernel
theorem d_Gr_enter_107 : decode b_Gr_enter 107 = .ok (.ifCond .ne 11, 3) := by decide +kernel
theorem d_Gr_enter_110 : decode b_Gr_enter 110 = .ok (.aload_n 0, 1) := by decide +kernel
theorem d_Gr_enter_111 : decode b_Gr_enter 111 = .ok (.aload_n 1, 1) := by decide +kernel
theorem d_Gr_enter_112 : decode b_Gr_enter 112 = .ok (.iload_n 2, 1) := by decide +kernel
theorem d_Gr_enter_113 : decode b_Gr_enter 113 = .ok (.iload 4, 2) := by decide +kernel
theorem d_Gr_enter_115 : decode b_Gr_enter 115 = .ok (.invokevirtual 78, 3) := by decide +kernel
theorem d_Gr_enter_118 : decode b_Gr_enter 118 = .ok (.iinc 4 (-1), 3) := by decide +kernel
theorem d_Gr_enter_121 : decode b_Gr_enter 121 = .ok (.goto (-66), 3) := by decide +kernel
theorem d_Gr_enter_124 : decode b_Gr_enter 124 = .ok (.iload_n 3, 1) := by decide +kernel
theorem d_Gr_enter_125 : decode b_Gr_enter 125 = .ok (.aload_n 0, 1) := by decide +kernel
theorem d_Gr_enter_126 : decode b_Gr_enter 126 = .ok (.invokevirtual 70, 3) := by decide +kernel
theorem d_Gr_enter_129 : decode b_Gr_enter 129 = .ok (.if_icmp .le 8, 3) := by decide +kernel
theorem d_Gr_enter_132 : decode b_Gr_enter 132 = .ok (.aload_n 0, 1) := by decide +kernel
theorem d_Gr_enter_133 : decode b_Gr_enter 133 = .ok (.iload_n 2, 1) := by decide +kernel
theorem d_Gr_enter_134 : decode b_Gr_enter 134 = .ok (.putfield 39, 3) := by decide +kernel
theorem d_Gr_enter_137 : decode b_Gr_enter 137 = .ok (.return_, 1) := by decide +kernel
theorem d_Gr_top_0 : decode b_Gr_top 0 = .ok (.aload_n 0, 1) := by decide +kernel
theorem d_Gr_top_1 : decode b_Gr_top 1 = .ok (.getfield 39, 3) := by decide +kernel
theorem d_Gr_top_4 : decode b_Gr_top 4 = .ok (.bipush (-2), 2) := by decide +kernel
theorem d_Gr_top_6 : decode b_Gr_top 6 = .ok (.if_icmp .ne 8, 3) := by decide +kernel
theorem d_Gr_top_9 : decode b_Gr_top 9 = .ok (.bipush (-2), 2) := by decide +kernel
theorem d_Gr_top_11 : decode b_Gr_top 11 = .ok (.goto 14, 3) := by decide +kernel
theorem d_Gr_top_14 : decode b_Gr_top 14 = .ok (.aload_n 0, 1) := by decide +kernel
theorem d_Gr_top_15 : decode b_Gr_top 15 = .ok (.getfield 12, 3) := by decide +kernel
theorem d_Gr_top_18 : decode b_Gr_top 18 = .ok (.aload_n 0, 1) := by decide +kernel
theorem d_Gr_top_19 : decode b_Gr_top 19 = .ok (.getfield 39, 3) := by decide +kernel
theorem d_Gr_top_22 : decode b_Gr_top 22 = .ok (.invokevirtual 43, 3) := by decide +kernel
theorem d_Gr_top_25 : decode b_Gr_top 25 = .ok (.ireturn, 1) := by decide +kernel
theorem d_Gr_link_0 : decode b_Gr_link 0 = .ok (.aload_n 0, 1) := by decide +kernel
theorem d_Gr_link_1 : decode b_Gr_link 1 = .ok (.getfield 28, 3) := by decide +kernel
theorem d_Gr_link_4 : decode b_Gr_link 4 = .ok (.aload_n 1, 1) := by decide +kernel
theorem d_Gr_link_5 : decode b_Gr_link 5 = .ok (.aload_n 0, 1) := by decide +kernel
theorem d_Gr_link_6 : decode b_Gr_link 6 = .ok (.getfield 21, 3) := by decide +kernel
theorem d_Gr_link_9 : decode b_Gr_link 9 = .ok (.invokevirtual 85, 3) := by decide +kernel
theorem d_Gr_link_12 : decode b_Gr_link 12 = .ok (.iconst 3, 1) := by decide +kernel
theorem d_Gr_link_13 : decode b_Gr_link 13 = .ok (.invokevirtual 89, 3) := by decide +kernel
theorem d_Gr_link_16 : decode b_Gr_link 16 = .ok (.aload_n 0, 1) := by decide +kernel
theorem d_Gr_link_17 : decode b_Gr_link 17 = .ok (.getfield 12, 3) := by decide +kernel
theorem d_Gr_link_20 : decode b_Gr_link 20 = .ok (.iload_n 2, 1) := by decide +kernel
theorem d_Gr_link_21 : decode b_Gr_link 21 = .ok (.iload_n 3, 1) := by decide +kernel
theorem d_Gr_link_22 : decode b_Gr_link 22 = .ok (.aload_n 0, 1) := by decide +kernel
theorem d_Gr_link_23 : decode b_Gr_link 23 = .ok (.getfield 28, 3) := by decide +kernel
theorem d_Gr_link_26 : decode b_Gr_link 26 = .ok (.invokevirtual 93, 3) := by decide +kernel
theorem d_Gr_link_29 : decode b_Gr_link 29 = .ok (.iconst 0, 1) := by decide +kernel
theorem d_Gr_link_30 : decode b_Gr_link 30 = .ok (.istore 4, 2) := by decide +kernel
theorem d_Gr_link_32 : decode b_Gr_link 32 = .ok (.iload 4, 2) := by decide +kernel
theorem d_Gr_link_34 : decode b_Gr_link 34 = .ok (.aload_n 0, 1) := by decide +kernel
theorem d_Gr_link_35 : decode b_Gr_link 35 = .ok (.getfield 12, 3) := by decide +kernel
theorem d_Gr_link_38 : decode b_Gr_link 38 = .ok (.iload_n 2, 1) := by decide +kernel
theorem d_Gr_link_39 : decode b_Gr_link 39 = .ok (.iload_n 3, 1) := by decide +kernel
theorem d_Gr_link_40 : decode b_Gr_link 40 = .ok (.invokevirtual 97, 3) := by decide +kernel
theorem d_Gr_link_43 : decode b_Gr_link 43 = .ok (.if_icmp .ge 62, 3) := by decide +kernel
theorem d_Gr_link_46 : decode b_Gr_link 46 = .ok (.aload_n 0, 1) := by decide +kernel
theorem d_Gr_link_47 : decode b_Gr_link 47 = .ok (.getfield 12, 3) := by decide +kernel
theorem d_Gr_link_50 : decode b_Gr_link 50 = .ok (.iload_n 2, 1) := by decide +kernel
theorem d_Gr_link_51 : decode b_Gr_link 51 = .ok (.iload_n 3, 1) := by decide +kernel
theorem d_Gr_link_52 : decode b_Gr_link 52 = .ok (.iload 4, 2) := by decide +kernel
theorem d_Gr_link_54 : decode b_Gr_link 54 = .ok (.invokevirtual 101, 3) := by decide +kernel
theorem d_Gr_link_57 : decode b_Gr_link 57 = .ok (.istore 5, 2) := by decide +kernel
theorem d_Gr_link_59 : decode b_Gr_link 59 = .ok (.aload_n 0, 1) := by decide +kernel
theorem d_Gr_link_60 : decode b_Gr_link 60 = .ok (.getfield 12, 3) := by decide +kernel
theorem d_Gr_link_63 : decode b_Gr_link 63 = .ok (.iload 5, 2) := by decide +kernel
theorem d_Gr_link_65 : decode b_Gr_link 65 = .ok (.iload_n 3, 1) := by decide +kernel
theorem d_Gr_link_66 : decode b_Gr_link 66 = .ok (.iload_n 2, 1) := by decide +kernel
theorem d_Gr_link_67 : decode b_Gr_link 67 = .ok (.invokevirtual 105, 3) := by decide +kernel
theorem d_Gr_link_70 : decode b_Gr_link 70 = .ok (.aload_n 0, 1) := by decide +kernel
theorem d_Gr_link_71 : decode b_Gr_link 71 = .ok (.getfield 12, 3) := by decide +kernel
theorem d_Gr_link_74 : decode b_Gr_link 74 = .ok (.iload 5, 2) := by decide +kernel
theorem d_Gr_link_76 : decode b_Gr_link 76 = .ok (.iload_n 3, 1) := by decide +kernel
theorem d_Gr_link_77 : decode b_Gr_link 77 = .ok (.invokevirtual 97, 3) := by decide +kernel
theorem d_Gr_link_80 : decode b_Gr_link 80 = .ok (.aload_n 0, 1) := by decide +kernel
theorem d_Gr_link_81 : decode b_Gr_link 81 = .ok (.getfield 12, 3) := by decide +kernel
theorem d_Gr_link_84 : decode b_Gr_link 84 = .ok (.iload_n 3, 1) := by decide +kernel
theorem d_Gr_link_85 : decode b_Gr_link 85 = .ok (.invokevirtual 109, 3) := by decide +kernel
theorem d_Gr_link_88 : decode b_Gr_link 88 = .ok (.if_icmp .le 11, 3) := by decide +kernel
theorem d_Gr_link_91 : decode b_Gr_link 91 = .ok (.aload_n 0, 1) := by decide +kernel
theorem d_Gr_link_92 : decode b_Gr_link 92 = .ok (.aload_n 1, 1) := by decide +kernel
theorem d_Gr_link_93 : decode b_Gr_link 93 = .ok (.iload 5, 2) := by decide +kernel
theorem d_Gr_link_95 : decode b_Gr_link 95 = .ok (.iload_n 3, 1) := by decide +kernel
theorem d_Gr_link_96 : decode b_Gr_link 96 = .ok (.invokevirtual 112, 3) := by decide +kernel
theorem d_Gr_link_99 : decode b_Gr_link 99 = .ok (.iinc 4 1, 3) := by decide +kernel
theorem d_Gr_link_102 : decode b_Gr_link 102 = .ok (.goto (-70), 3) := by decide +kernel
theorem d_Gr_link_105 : decode b_Gr_link 105 = .ok (.return_, 1) := by decide +kernel
theorem d_Gr_shorten_0 : decode b_Gr_shorten 0 = .ok (.aload_n 0, 1) := by decide +kernel
theorem d_Gr_shorten_1 : decode b_Gr_shorten 1 = .ok (.getfield 35, 3) := by decide +kernel
theorem d_Gr_shorten_4 : decode b_Gr_shorten 4 = .ok (.bipush 30, 2) := by decide +kernel
theorem d_Gr_shorten_6 : decode b_Gr_shorten 6 = .ok (.iconst 0, 1) := by decide +kernel
theorem d_Gr_shorten_7 : decode b_Gr_shorten 7 = .ok (.invokevirtual 115, 3) := by decide +kernel
theorem d_Gr_shorten_10 : decode b_Gr_shorten 10 = .ok (.iconst 0, 1) := by decide +kernel
theorem d_Gr_shorten_11 : decode b_Gr_shorten 11 = .ok (.istore 4, 2) := by decide +kernel
theorem d_Gr_shorten_13 : decode b_Gr_shorten 13 = .ok (.iload 4, 2) := by decide +kernel
theorem d_Gr_shorten_15 : decode b_Gr_shorten 15 = .ok (.aload_n 0, 1) := by decide +kernel
theorem d_Gr_shorten_16 : decode b_Gr_shorten 16 = .ok (.getfield 12, 3) := by decide +kernel
theorem d_Gr_shorten_19 : decode b_Gr_shorten 19 = .ok (.iload_n 2, 1) := by decide +kernel
theorem d_Gr_shorten_20 : decode b_Gr_shorten 20 = .ok (.iload_n 3, 1) := by decide +kernel
theorem d_Gr_shorten_21 : decode b_Gr_shorten 21 = .ok (.invokevirtual 97, 3) := by decide +kernel
theorem d_Gr_shorten_24 : decode b_Gr_shorten 24 = .ok (.if_icmp .ge 46, 3) := by decide +kernel
theorem d_Gr_shorten_27 : decode b_Gr_shorten 27 = .ok (.aload_n 0, 1) := by decide +kernel
theorem d_Gr_shorten_28 : decode b_Gr_shorten 28 = .ok (.getfield 12, 3) := by decide +kernel
theorem d_Gr_shorten_31 : decode b_Gr_shorten 31 = .ok (.iload_n 2, 1) := by decide +kernel
theorem d_Gr_shorten_32 : decode b_Gr_shorten 32 = .ok (.iload_n 3, 1) := by decide +kernel
theorem d_Gr_shorten_33 : decode b_Gr_shorten 33 = .ok (.iload 4, 2) := by decide +kernel
theorem d_Gr_shorten_35 : decode b_Gr_shorten 35 = .ok (.invokevirtual 101, 3) := by decide +kernel
theorem d_Gr_shorten_38 : decode b_Gr_shorten 38 = .ok (.istore 5, 2) := by decide +kernel
theorem d_Gr_shorten_40 : decode b_Gr_shorten 40 = .ok (.aload_n 0, 1) := by decide +kernel
theorem d_Gr_shorten_41 : decode b_Gr_shorten 41 = .ok (.getfield 35, 3) := by decide +kernel
theorem d_Gr_shorten_44 : decode b_Gr_shorten 44 = .ok (.iload 5, 2) := by decide +kernel
theorem d_Gr_shorten_46 : decode b_Gr_shorten 46 = .ok (.aload_n 1, 1) := by decide +kernel
theorem d_Gr_shorten_47 : decode b_Gr_shorten 47 = .ok (.iload_n 2, 1) := by decide +kernel
theorem d_Gr_shorten_48 : decode b_Gr_shorten 48 = .ok (.invokevirtual 60, 3) := by decide +kernel
theorem d_Gr_shorten_51 : decode b_Gr_shorten 51 = .ok (.aload_n 1, 1) := by decide +kernel
theorem d_Gr_shorten_52 : decode b_Gr_shorten 52 = .ok (.iload 5, 2) := by decide +kernel
theorem d_Gr_shorten_54 : decode b_Gr_shorten 54 = .ok (.invokevirtual 60, 3) := by decide +kernel
theorem d_Gr_shorten_57 : decode b_Gr_shorten 57 = .ok (.invokestatic 119, 3) := by decide +kernel
theorem d_Gr_shorten_60 : decode b_Gr_shorten 60 = .ok (.invokevirtual 123, 3) := by decide +kernel
theorem d_Gr_shorten_63 : decode b_Gr_shorten 63 = .ok (.pop, 1) := by decide +kernel
theorem d_Gr_shorten_64 : decode b_Gr_shorten 64 = .ok (.iinc 4 1, 3) := by decide +kernel
theorem d_Gr_shorten_67 : decode b_Gr_shorten 67 = .ok (.goto (-54), 3) := by decide +kernel
theorem d_Gr_shorten_70 : decode b_Gr_shorten 70 = .ok (.aload_n 0, 1) := by decide +kernel
theorem d_Gr_shorten_71 : decode b_Gr_shorten 71 = .ok (.getfield 28, 3) := by decide +kernel
theorem d_Gr_shorten_74 : decode b_Gr_shorten 74 = .ok (.aload_n 1, 1) := by decide +kernel
theorem d_Gr_shorten_75 : decode b_Gr_shorten 75 = .ok (.aload_n 0, 1) := by decide +kernel
theorem d_Gr_shorten_76 : decode b_Gr_shorten 76 = .ok (.getfield 35, 3) := by decide +kernel
theorem d_Gr_shorten_79 : decode b_Gr_shorten 79 = .ok (.aload_n 0, 1) := by decide +kernel
theorem d_Gr_shorten_80 : decode b_Gr_shorten 80 = .ok (.getfield 12, 3) := by decide +kernel
theorem d_Gr_shorten_83 : decode b_Gr_shorten 83 = .ok (.iload_n 3, 1) := by decide +kernel
theorem d_Gr_shorten_84 : decode b_Gr_shorten 84 = .ok (.invokevirtual 109, 3) := by decide +kernel
theorem d_Gr_shorten_87 : decode b_Gr_shorten 87 = .ok (.invokevirtual 89, 3) := by decide +kernel
theorem d_Gr_shorten_90 : decode b_Gr_shorten 90 = .ok (.aload_n 0, 1) := by decide +kernel
theorem d_Gr_shorten_91 : decode b_Gr_shorten 91 = .ok (.getfield 12, 3) := by decide +kernel
theorem d_Gr_shorten_94 : decode b_Gr_shorten 94 = .ok (.iload_n 2, 1) := by decide +kernel
theorem d_Gr_shorten_95 : decode b_Gr_shorten 95 = .ok (.iload_n 3, 1) := by decide +kernel
theorem d_Gr_shorten_96 : decode b_Gr_shorten 96 = .ok (.aload_n 0, 1) := by decide +kernel
theorem d_Gr_shorten_97 : decode b_Gr_shorten 97 = .ok (.getfield 28, 3) := by decide +kernel
theorem d_Gr_shorten_100 : decode b_Gr_shorten 100 = .ok (.invokevirtual 93, 3) := by decide +kernel
theorem d_Gr_shorten_103 : decode b_Gr_shorten 103 = .ok (.return_, 1) := by decide +kernel
theorem d_Gr_clear_0 : decode b_Gr_clear 0 = .ok (.aload_n 0, 1) := by decide +kernel
theorem d_Gr_clear_1 : decode b_Gr_clear 1 = .ok (.getfield 12, 3) := by decide +kernel
theorem d_Gr_clear_4 : decode b_Gr_clear 4 = .ok (.invokevirtual 53, 3) := by decide +kernel
theorem d_Gr_clear_7 : decode b_Gr_clear 7 = .ok (.aload_n 0, 1) := by decide +kernel
theorem d_Gr_clear_8 : decode b_Gr_clear 8 = .ok (.bipush (-2), 2) := by decide +kernel
theorem d_Gr_clear_10 : decode b_Gr_clear 10 = .ok (.putfield 39, 3) := by decide +kernel
theorem d_Gr_clear_13 : decode b_Gr_clear 13 = .ok (.return_, 1) := by decide +kernel
theorem d_Gr_search_0 : decode b_Gr_search 0 = .ok (.aload_n 0, 1) := by decide +kernel
theorem d_Gr_search_1 : decode b_Gr_search 1 = .ok (.getfield 39, 3) := by decide +kernel
theorem d_Gr_search_4 : decode b_Gr_search 4 = .ok (.bipush (-2), 2) := by decide +kernel
theorem d_Gr_search_6 : decode b_Gr_search 6 = .ok (.if_icmp .ne 13, 3) := by decide +kernel
theorem d_Gr_search_9 : decode b_Gr_search 9 = .ok (.aload_n 0, 1) := by decide +kernel
theorem d_Gr_search_10 : decode b_Gr_search 10 = .ok (.getfield 21, 3) := by decide +kernel
theorem d_Gr_search_13 : decode b_Gr_search 13 = .ok (.invokevirtual 82, 3) := by decide +kernel
theorem d_Gr_search_16 : decode b_Gr_search 16 = .ok (.goto 65, 3) := by decide +kernel
theorem d_Gr_search_19 : decode b_Gr_search 19 = .ok (.aload_n 0, 1) := by decide +kernel
theorem d_Gr_search_20 : decode b_Gr_search 20 = .ok (.getfield 21, 3) := by decide +kernel
theorem d_Gr_search_23 : decode b_Gr_search 23 = .ok (.aload_n 1, 1) := by decide +kernel
theorem d_Gr_search_24 : decode b_Gr_search 24 = .ok (.aload_n 2, 1) := by decide +kernel
theorem d_Gr_search_25 : decode b_Gr_search 25 = .ok (.aload_n 0, 1) := by decide +kernel
theorem d_Gr_search_26 : decode b_Gr_search 26 = .ok (.getfield 39, 3) := by decide +kernel
theorem d_Gr_search_29 : decode b_Gr_search 29 = .ok (.invokevirtual 66, 3) := by decide +kernel
theorem d_Gr_search_32 : decode b_Gr_search 32 = .ok (.aload_n 0, 1) := by decide +kernel
theorem d_Gr_search_33 : decode b_Gr_search 33 = .ok (.invokevirtual 70, 3) := by decide +kernel
theorem d_Gr_search_36 : decode b_Gr_search 36 = .ok (.istore 4, 2) := by decide +kernel
theorem d_Gr_search_38 : decode b_Gr_search 38 = .ok (.iload 4, 2) := by decide +kernel
theorem d_Gr_search_40 : decode b_Gr_search 40 = .ok (.ifCond .lt 41, 3) := by decide +kernel
theorem d_Gr_search_43 : decode b_Gr_search 43 = .ok (.aload_n 0, 1) := by decide +kernel
theorem d_Gr_search_44 : decode b_Gr_search 44 = .ok (.dup, 1) := by decide +kernel
theorem d_Gr_search_45 : decode b_Gr_search 45 = .ok (.getfield 47, 3) := by decide +kernel
theorem d_Gr_search_48 : decode b_Gr_search 48 = .ok (.aload_n 0, 1) := by decide +kernel
theorem d_Gr_search_49 : decode b_Gr_search 49 = .ok (.getfield 21, 3) := by decide +kernel
theorem d_Gr_search_52 : decode b_Gr_search 52 = .ok (.aload_n 0, 1) := by decide +kernel
theorem d_Gr_search_53 : decode b_Gr_search 53 = .ok (.getfield 12, 3) := by decide +kernel
theorem d_Gr_search_56 : decode b_Gr_search 56 = .ok (.iload 4, 2) := by decide +kernel
theorem d_Gr_search_58 : decode b_Gr_search 58 = .ok (.iload 4, 2) := by decide +kernel
theorem d_Gr_search_60 : decode b_Gr_search 60 = .ok (.ifCond .le 7, 3) := by decide +kernel
theorem d_Gr_search_63 : decode b_Gr_search 63 = .ok (.iconst 1, 1) := by decide +kernel
theorem d_Gr_search_64 : decode b_Gr_search 64 = .ok (.goto 4, 3) := by decide +kernel
theorem d_Gr_search_67 : decode b_Gr_search 67 = .ok (.iload_n 3, 1) := by decide +kernel
theorem d_Gr_search_68 : decode b_Gr_search 68 = .ok (.invokevirtual 74, 3) := by decide +kernel
theorem d_Gr_search_71 : decode b_Gr_search 71 = .ok (.iadd, 1) := by decide +kernel
theorem d_Gr_search_72 : decode b_Gr_search 72 = .ok (.putfield 47, 3) := by decide +kernel
theorem d_Gr_search_75 : decode b_Gr_search 75 = .ok (.iinc 4 (-1), 3) := by decide +kernel
theorem d_Gr_search_78 : decode b_Gr_search 78 = .ok (.goto (-40), 3) := by decide +kernel
theorem d_Gr_search_81 : decode b_Gr_search 81 = .ok (.aload_n 0, 1) := by decide +kernel
theorem d_Gr_search_82 : decode b_Gr_search 82 = .ok (.getfield 21, 3) := by decide +kernel
theorem d_Gr_search_85 : decode b_Gr_search 85 = .ok (.invokevirtual 85, 3) := by decide +kernel
theorem d_Gr_search_88 : decode b_Gr_search 88 = .ok (.areturn, 1) := by decide +kernel
theorem d_Gr_entry_0 : decode b_Gr_entry 0 = .ok (.aload_n 0, 1) := by decide +kernel
theorem d_Gr_entry_1 : decode b_Gr_entry 1 = .ok (.getfield 39, 3) := by decide +kernel
theorem d_Gr_entry_4 : decode b_Gr_entry 4 = .ok (.ireturn, 1) := by decide +kernel
theorem d_Gr_seenInSearches_0 : decode b_Gr_seenInSearches 0 = .ok (.aload_n 0, 1) := by decide +kernel
theorem d_Gr_seenInSearches_1 : decode b_Gr_seenInSearches 1 = .ok (.getfield 47, 3) := by decide +kernel
theorem d_Gr_seenInSearches_4 : decode b_Gr_seenInSearches 4 = .ok (.ireturn, 1) := by decide +kernel
theorem d_Gr_seenInEntering_0 : decode b_Gr_seenInEntering 0 = .ok (.aload_n 0, 1) := by decide +kernel
theorem d_Gr_seenInEntering_1 : decode b_Gr_seenInEntering 1 = .ok (.getfield 50, 3) := by decide +kernel
theorem d_Gr_seenInEntering_4 : decode b_Gr_seenInEntering 4 = .ok (.ireturn, 1) := by decide +kernel
