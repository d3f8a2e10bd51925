theorem d_Nd_put_0 : decode b_Nd_put 0 = .ok (.iload_n 1, 1) := by decide +kernel
theorem d_Nd_put_1 : decode b_Nd_put 1 = .ok (.iload_n 2, 1) := by decide +kernel
theorem d_Nd_put_2 : decode b_Nd_put 2 = .ok (.iload_n 3, 1) := by decide +kernel
theorem d_Nd_put_3 : decode b_Nd_put 3 = .ok (.iload 4, 2) := by decide +kernel
theorem d_Nd_put_5 : decode b_Nd_put 5 = .ok (.invokestatic 40, 3) := by decide +kernel
theorem d_Nd_put_8 : decode b_Nd_put 8 = .ok (.ifCond .eq 14, 3) := by decide +kernel
theorem d_Nd_put_11 : decode b_Nd_put 11 = .ok (.iload 5, 2) := by decide +kernel
theorem d_Nd_put_13 : decode b_Nd_put 13 = .ok (.iconst 0, 1) := by decide +kernel
theorem d_Nd_put_14 : decode b_Nd_put 14 = .ok (.ldc 44, 2) := by decide +kernel
theorem d_Nd_put_16 : decode b_Nd_put 16 = .ok (.invokestatic 45, 3) := by decide +kernel
theorem d_Nd_put_19 : decode b_Nd_put 19 = .ok (.ifCond .ne 5, 3) := by decide +kernel
theorem d_Nd_put_22 : decode b_Nd_put 22 = .ok (.iconst (-1), 1) := by decide +kernel
theorem d_Nd_put_23 : decode b_Nd_put 23 = .ok (.ireturn, 1) := by decide +kernel
theorem d_Nd_put_24 : decode b_Nd_put 24 = .ok (.aload_n 0, 1) := by decide +kernel
theorem d_Nd_put_25 : decode b_Nd_put 25 = .ok (.getfield 19, 3) := by decide +kernel
theorem d_Nd_put_28 : decode b_Nd_put 28 = .ok (.getfield 49, 3) := by decide +kernel
theorem d_Nd_put_31 : decode b_Nd_put 31 = .ok (.invokevirtual 53, 3) := by decide +kernel
theorem d_Nd_put_34 : decode b_Nd_put 34 = .ok (.istore 6, 2) := by decide +kernel
theorem d_Nd_put_36 : decode b_Nd_put 36 = .ok (.iload 6, 2) := by decide +kernel
theorem d_Nd_put_38 : decode b_Nd_put 38 = .ok (.bipush (-2), 2) := by decide +kernel
theorem d_Nd_put_40 : decode b_Nd_put 40 = .ok (.if_icmp .ne 6, 3) := by decide +kernel
theorem d_Nd_put_43 : decode b_Nd_put 43 = .ok (.bipush (-3), 2) := by decide +kernel
theorem d_Nd_put_45 : decode b_Nd_put 45 = .ok (.ireturn, 1) := by decide +kernel
theorem d_Nd_put_46 : decode b_Nd_put 46 = .ok (.aload_n 0, 1) := by decide +kernel
theorem d_Nd_put_47 : decode b_Nd_put 47 = .ok (.getfield 12, 3) := by decide +kernel
theorem d_Nd_put_50 : decode b_Nd_put 50 = .ok (.iload 6, 2) := by decide +kernel
theorem d_Nd_put_52 : decode b_Nd_put 52 = .ok (.iload_n 1, 1) := by decide +kernel
theorem d_Nd_put_53 : decode b_Nd_put 53 = .ok (.iload_n 2, 1) := by decide +kernel
theorem d_Nd_put_54 : decode b_Nd_put 54 = .ok (.iload_n 3, 1) := by decide +kernel
theorem d_Nd_put_55 : decode b_Nd_put 55 = .ok (.iload 4, 2) := by decide +kernel
theorem d_Nd_put_57 : decode b_Nd_put 57 = .ok (.iload 5, 2) := by decide +kernel
theorem d_Nd_put_59 : decode b_Nd_put 59 = .ok (.invokevirtual 59, 3) := by decide +kernel
theorem d_Nd_put_62 : decode b_Nd_put 62 = .ok (.aload_n 0, 1) := by decide +kernel
theorem d_Nd_put_63 : decode b_Nd_put 63 = .ok (.getfield 19, 3) := by decide +kernel
theorem d_Nd_put_66 : decode b_Nd_put 66 = .ok (.aload_n 0, 1) := by decide +kernel
theorem d_Nd_put_67 : decode b_Nd_put 67 = .ok (.getfield 12, 3) := by decide +kernel
theorem d_Nd_put_70 : decode b_Nd_put 70 = .ok (.iload 6, 2) := by decide +kernel
theorem d_Nd_put_72 : decode b_Nd_put 72 = .ok (.invokevirtual 63, 3) := by decide +kernel
theorem d_Nd_put_75 : decode b_Nd_put 75 = .ok (.iload 6, 2) := by decide +kernel
theorem d_Nd_put_77 : decode b_Nd_put 77 = .ok (.ireturn, 1) := by decide +kernel
theorem d_Nd_remove_0 : decode b_Nd_remove 0 = .ok (.aload_n 0, 1) := by decide +kernel
theorem d_Nd_remove_1 : decode b_Nd_remove 1 = .ok (.getfield 12, 3) := by decide +kernel
theorem d_Nd_remove_4 : decode b_Nd_remove 4 = .ok (.iload_n 1, 1) := by decide +kernel
theorem d_Nd_remove_5 : decode b_Nd_remove 5 = .ok (.invokevirtual 67, 3) := by decide +kernel
theorem d_Nd_remove_8 : decode b_Nd_remove 8 = .ok (.ireturn, 1) := by decide +kernel
theorem d_Nd_renew_0 : decode b_Nd_renew 0 = .ok (.aload_n 0, 1) := by decide +kernel
theorem d_Nd_renew_1 : decode b_Nd_renew 1 = .ok (.getfield 19, 3) := by decide +kernel
theorem d_Nd_renew_4 : decode b_Nd_renew 4 = .ok (.getfield 49, 3) := by decide +kernel
theorem d_Nd_renew_7 : decode b_Nd_renew 7 = .ok (.invokevirtual 71, 3) := by decide +kernel
theorem d_Nd_renew_10 : decode b_Nd_renew 10 = .ok (.aload_n 0, 1) := by decide +kernel
theorem d_Nd_renew_11 : decode b_Nd_renew 11 = .ok (.getfield 12, 3) := by decide +kernel
theorem d_Nd_renew_14 : decode b_Nd_renew 14 = .ok (.invokevirtual 74, 3) := by decide +kernel
theorem d_Nd_renew_17 : decode b_Nd_renew 17 = .ok (.isub, 1) := by decide +kernel
theorem d_Nd_renew_18 : decode b_Nd_renew 18 = .ok (.istore_n 1, 1) := by decide +kernel
theorem d_Nd_renew_19 : decode b_Nd_renew 19 = .ok (.aload_n 0, 1) := by decide +kernel
theorem d_Nd_renew_20 : decode b_Nd_renew 20 = .ok (.getfield 19, 3) := by decide +kernel
theorem d_Nd_renew_23 : decode b_Nd_renew 23 = .ok (.invokevirtual 77, 3) := by decide +kernel
theorem d_Nd_renew_26 : decode b_Nd_renew 26 = .ok (.iconst 0, 1) := by decide +kernel
theorem d_Nd_renew_27 : decode b_Nd_renew 27 = .ok (.istore_n 2, 1) := by decide +kernel
theorem d_Nd_renew_28 : decode b_Nd_renew 28 = .ok (.iload_n 2, 1) := by decide +kernel
theorem d_Nd_renew_29 : decode b_Nd_renew 29 = .ok (.bipush 30, 2) := by decide +kernel
theorem d_Nd_renew_31 : decode b_Nd_renew 31 = .ok (.if_icmp .ge 32, 3) := by decide +kernel
theorem d_Nd_renew_34 : decode b_Nd_renew 34 = .ok (.aload_n 0, 1) := by decide +kernel
theorem d_Nd_renew_35 : decode b_Nd_renew 35 = .ok (.getfield 12, 3) := by decide +kernel
theorem d_Nd_renew_38 : decode b_Nd_renew 38 = .ok (.iload_n 2, 1) := by decide +kernel
theorem d_Nd_renew_39 : decode b_Nd_renew 39 = .ok (.invokevirtual 80, 3) := by decide +kernel
theorem d_Nd_renew_42 : decode b_Nd_renew 42 = .ok (.ifCond .eq 15, 3) := by decide +kernel
theorem d_Nd_renew_45 : decode b_Nd_renew 45 = .ok (.aload_n 0, 1) := by decide +kernel
theorem d_Nd_renew_46 : decode b_Nd_renew 46 = .ok (.getfield 19, 3) := by decide +kernel
theorem d_Nd_renew_49 : decode b_Nd_renew 49 = .ok (.aload_n 0, 1) := by decide +kernel
theorem d_Nd_renew_50 : decode b_Nd_renew 50 = .ok (.getfield 12, 3) := by decide +kernel
theorem d_Nd_renew_53 : decode b_Nd_renew 53 = .ok (.iload_n 2, 1) := by decide +kernel
theorem d_Nd_renew_54 : decode b_Nd_renew 54 = .ok (.invokevirtual 63, 3) := by decide +kernel
theorem d_Nd_renew_57 : decode b_Nd_renew 57 = .ok (.iinc 2 1, 3) := by decide +kernel
theorem d_Nd_renew_60 : decode b_Nd_renew 60 = .ok (.goto (-32), 3) := by decide +kernel
theorem d_Nd_renew_63 : decode b_Nd_renew 63 = .ok (.iload_n 1, 1) := by decide +kernel
theorem d_Nd_renew_64 : decode b_Nd_renew 64 = .ok (.ireturn, 1) := by decide +kernel
theorem d_Nd_ask_0 : decode b_Nd_ask 0 = .ok (.iload_n 1, 1) := by decide +kernel
theorem d_Nd_ask_1 : decode b_Nd_ask 1 = .ok (.iload_n 2, 1) := by decide +kernel
theorem d_Nd_ask_2 : decode b_Nd_ask 2 = .ok (.iload_n 3, 1) := by decide +kernel
theorem d_Nd_ask_3 : decode b_Nd_ask 3 = .ok (.iload 4, 2) := by decide +kernel
theorem d_Nd_ask_5 : decode b_Nd_ask 5 = .ok (.invokestatic 40, 3) := by decide +kernel
theorem d_Nd_ask_8 : decode b_Nd_ask 8 = .ok (.ifCond .ne 5, 3) := by decide +kernel
theorem d_Nd_ask_11 : decode b_Nd_ask 11 = .ok (.iconst 0, 1) := by decide +kernel
theorem d_Nd_ask_12 : decode b_Nd_ask 12 = .ok (.ireturn, 1) := by decide +kernel
theorem d_Nd_ask_13 : decode b_Nd_ask 13 = .ok (.aload_n 0, 1) := by decide +kernel
theorem d_Nd_ask_14 : decode b_Nd_ask 14 = .ok (.getfield 33, 3) := by decide +kernel
theorem d_Nd_ask_17 : decode b_Nd_ask 17 = .ok (.iload_n 1, 1) := by decide +kernel
theorem d_Nd_ask_18 : decode b_Nd_ask 18 = .ok (.iload_n 2, 1) := by decide +kernel
theorem d_Nd_ask_19 : decode b_Nd_ask 19 = .ok (.iload_n 3, 1) := by decide +kernel
theorem d_Nd_ask_20 : decode b_Nd_ask 20 = .ok (.iload 4, 2) := by decide +kernel
theorem d_Nd_ask_22 : decode b_Nd_ask 22 = .ok (.invokestatic 83, 3) := by decide +kernel
theorem d_Nd_ask_25 : decode b_Nd_ask 25 = .ok (.iconst 1, 1) := by decide +kernel
theorem d_Nd_ask_26 : decode b_Nd_ask 26 = .ok (.ireturn, 1) := by decide +kernel
theorem d_Nd_near_0 : decode b_Nd_near 0 = .ok (.iload_n 1, 1) := by decide +kernel
theorem d_Nd_near_1 : decode b_Nd_near 1 = .ok (.iconst 1, 1) := by decide +kernel
theorem d_Nd_near_2 : decode b_Nd_near 2 = .ok (.bipush 10, 2) := by decide +kernel
theorem d_Nd_near_4 : decode b_Nd_near 4 = .ok (.invokestatic 45, 3) := by decide +kernel
theorem d_Nd_near_7 : decode b_Nd_near 7 = .ok (.ifCond .eq 13, 3) := by decide +kernel
theorem d_Nd_near_10 : decode b_Nd_near 10 = .ok (.iload_n 2, 1) := by decide +kernel
theorem d_Nd_near_11 : decode b_Nd_near 11 = .ok (.iconst 1, 1) := by decide +kernel
theorem d_Nd_near_12 : decode b_Nd_near 12 = .ok (.bipush 10, 2) := by decide +kernel
theorem d_Nd_near_14 : decode b_Nd_near 14 = .ok (.invokestatic 45, 3) := by decide +kernel
theorem d_Nd_near_17 : decode b_Nd_near 17 = .ok (.ifCond .ne 5, 3) := by decide +kernel
theorem d_Nd_near_20 : decode b_Nd_near 20 = .ok (.iconst (-1), 1) := by decide +kernel
theorem d_Nd_near_21 : decode b_Nd_near 21 = .ok (.ireturn, 1) := by decide +kernel
theorem d_Nd_near_22 : decode b_Nd_near 22 = .ok (.aload_n 0, 1) := by decide +kernel
theorem d_Nd_near_23 : decode b_Nd_near 23 = .ok (.getfield 26, 3) := by decide +kernel
theorem d_Nd_near_26 : decode b_Nd_near 26 = .ok (.iload_n 1, 1) := by decide +kernel
theorem d_Nd_near_27 : decode b_Nd_near 27 = .ok (.iconst 0, 1) := by decide +kernel
theorem d_Nd_near_28 : decode b_Nd_near 28 = .ok (.invokevirtual 87, 3) := by decide +kernel
theorem d_Nd_near_31 : decode b_Nd_near 31 = .ok (.aload_n 0, 1) := by decide +kernel
theorem d_Nd_near_32 : decode b_Nd_near 32 = .ok (.aload_n 0, 1) := by decide +kernel
theorem d_Nd_near_33 : decode b_Nd_near 33 = .ok (.getfield 26, 3) := by decide +kernel
theorem d_Nd_near_36 : decode b_Nd_near 36 = .ok (.iload_n 1, 1) := by decide +kernel
theorem d_Nd_near_37 : decode b_Nd_near 37 = .ok (.iload_n 2, 1) := by decide +kernel
theorem d_Nd_near_38 : decode b_Nd_near 38 = .ok (.invokestatic 91, 3) := by decide +kernel
theorem d_Nd_near_41 : decode b_Nd_near 41 = .ok (.invokevirtual 97, 3) := by decide +kernel
theorem d_Nd_near_44 : decode b_Nd_near 44 = .ok (.aload_n 0, 1) := by decide +kernel
theorem d_Nd_near_45 : decode b_Nd_near 45 = .ok (.getfield 26, 3) := by decide +kernel
theorem d_Nd_near_48 : decode b_Nd_near 48 = .ok (.invokevirtual 101, 3) := by decide +kernel
theorem d_Nd_near_51 : decode b_Nd_near 51 = .ok (.ireturn, 1) := by decide +kernel
theorem d_Nd_searchInto_0 : decode b_Nd_searchInto 0 = .ok (.aload_n 0, 1) := by decide +kernel
theorem d_Nd_searchInto_1 : decode b_Nd_searchInto 1 = .ok (.getfield 19, 3) := by decide +kernel
theorem d_Nd_searchInto_4 : decode b_Nd_searchInto 4 = .ok (.aload_n 0, 1) := by decide +kernel
theorem d_Nd_searchInto_5 : decode b_Nd_searchInto 5 = .ok (.getfield 12, 3) := by decide +kernel
theorem d_Nd_searchInto_8 : decode b_Nd_searchInto 8 = .ok (.aload_n 0, 1) := by decide +kernel
theorem d_Nd_searchInto_9 : decode b_Nd_searchInto 9 = .ok (.getfield 33, 3) := by decide +kernel
theorem d_Nd_searchInto_12 : decode b_Nd_searchInto 12 = .ok (.iload_n 2, 1) := by decide +kernel
theorem d_Nd_searchInto_13 : decode b_Nd_searchInto 13 = .ok (.invokevirtual 174, 3) := by decide +kernel
theorem d_Nd_searchInto_16 : decode b_Nd_searchInto 16 = .ok (.astore_n 3, 1) := by decide +kernel
theorem d_Nd_searchInto_17 : decode b_Nd_searchInto 17 = .ok (.iconst 0, 1) := by decide +kernel
theorem d_Nd_searchInto_18 : decode b_Nd_searchInto 18 = .ok (.istore 4, 2) := by decide +kernel
theorem d_Nd_searchInto_20 : decode b_Nd_searchInto 20 = .ok (.iload 4, 2) := by decide +kernel
theorem d_Nd_searchInto_22 : decode b_Nd_searchInto 22 = .ok (.aload_n 3, 1) := by decide +kernel
theorem d_Nd_searchInto_23 : decode b_Nd_searchInto 23 = .ok (.invokevirtual 101, 3) := by decide +kernel
theorem d_Nd_searchInto_26 : decode b_Nd_searchInto 26 = .ok (.if_icmp .ge 42, 3) := by decide +kernel
theorem d_Nd_searchInto_29 : decode b_Nd_searchInto 29 = .ok (.aload_n 3, 1) := by decide +kernel
theorem d_Nd_searchInto_30 : decode b_Nd_searchInto 30 = .ok (.iload 4, 2) := by decide +kernel
theorem d_Nd_searchInto_32 : decode b_Nd_searchInto 32 = .ok (.invokevirtual 120, 3) := by decide +kernel
theorem d_Nd_searchInto_35 : decode b_Nd_searchInto 35 = .ok (.istore 5, 2) := by decide +kernel
theorem d_Nd_searchInto_37 : decode b_Nd_searchInto 37 = .ok (.aload_n 0, 1) := by decide +kernel
theorem d_Nd_searchInto_38 : decode b_Nd_searchInto 38 = .ok (.getfield 12, 3) := by decide +kernel
theorem d_Nd_searchInto_41 : decode b_Nd_searchInto 41 = .ok (.iload 5, 2) := by decide +kernel
theorem d_Nd_searchInto_43 : decode b_Nd_searchInto 43 = .ok (.invokevirtual 80, 3) := by decide +kernel
theorem d_Nd_searchInto_46 : decode b_Nd_searchInto 46 = .ok (.ifCond .eq 16, 3) := by decide +kernel
theorem d_Nd_searchInto_49 : decode b_Nd_searchInto 49 = .ok (.aload_n 1, 1) := by decide +kernel
theorem d_Nd_searchInto_50 : decode b_Nd_searchInto 50 = .ok (.iload 5, 2) := by decide +kernel
theorem d_Nd_searchInto_52 : decode b_Nd_searchInto 52 = .ok (.aload_n 3, 1) := by decide +kernel
theorem d_Nd_searchInto_53 : decode b_Nd_searchInto 53 = .ok (.iload 4, 2) := by decide +kernel
theorem d_Nd_searchInto_55 : decode b_Nd_searchInto 55 = .ok (.invokevirtual 124, 3) := by decide +kernel
theorem d_Nd_searchInto_58 : decode b_Nd_searchInto 58 = .ok (.invokevirtual 178, 3) := by decide +kernel
theorem d_Nd_searchInto_61 : decode b_Nd_searchInto 61 = .ok (.pop, 1) := by decide +kernel
theorem d_Nd_searchInto_62 : decode b_Nd_searchInto 62 = .ok (.iinc 4 1, 3) := by decide +kernel
theorem d_Nd_searchInto_65 : decode b_Nd_searchInto 65 = .ok (.goto (-45), 3) := by decide +kernel
theorem d_Nd_searchInto_68 : decode b_Nd_searchInto 68 = .ok (.return_, 1) := by decide +kernel
theorem d_Nd_exact_0 : decode b_Nd_exact 0 = .ok (.iload_n 1, 1) := by decide +kernel
theorem d_Nd_exact_1 : decode b_Nd_exact 1 = .ok (.iconst 1, 1) := by decide +kernel
theorem d_Nd_exact_2 : decode b_Nd_exact 2 = .ok (.bipush 10, 2) := by decide +kernel
theorem d_Nd_exact_4 : decode b_Nd_exact 4 = .ok (.invokestatic 45, 3) := by decide +kernel
theorem d_Nd_exact_7 : decode b_Nd_exact 7 = .ok (.ifCond .ne 5, 3) := by decide +kernel
theorem d_Nd_exact_10 : decode b_Nd_exact 10 = .ok (.iconst (-1), 1) := by decide +kernel
theorem d_Nd_exact_11 : decode b_Nd_exact 11 = .ok (.ireturn, 1) := by decide +kernel
theorem d_Nd_exact_12 : decode b_Nd_exact 12 = .ok (.aload_n 0, 1) := by decide +kernel
theorem d_Nd_exact_13 : decode b_Nd_exact 13 = .ok (.getfield 26, 3) := by decide +kernel
theorem d_Nd_exact_16 : decode b_Nd_exact 16 = .ok (.iload_n 1, 1) := by decide +kernel
theorem d_Nd_exact_17 : decode b_Nd_exact 17 = .ok (.iconst 0, 1) := by decide +kernel
theorem d_Nd_exact_18 : decode b_Nd_exact 18 = .ok (.invokevirtual 87, 3) := by decide +kernel
theorem d_Nd_exact_21 : decode b_Nd_exact 21 = .ok (.aload_n 0, 1) := by decide +kernel
theorem d_Nd_exact_22 : decode b_Nd_exact 22 = .ok (.getfield 12, 3) := by decide +kernel
theorem d_Nd_exact_25 : decode b_Nd_exact 25 = .ok (.aload_n 0, 1) := by decide +kernel
theorem d_Nd_exact_26 : decode b_Nd_exact 26 = .ok (.getfield 33, 3) := by decide +kernel
theorem d_Nd_exact_29 : decode b_Nd_exact 29 = .ok (.aload_n 0, 1) := by decide +kernel
theorem d_Nd_exact_30 : decode b_Nd_exact 30 = .ok (.getfield 26, 3) := by decide +kernel
theorem d_Nd_exact_33 : decode b_Nd_exact 33 = .ok (.invokevirtual 102, 3) := by decide +kernel
theorem d_Nd_exact_36 : decode b_Nd_exact 36 = .ok (.aload_n 0, 1) := by decide +kernel
theorem d_Nd_exact_37 : decode b_Nd_exact 37 = .ok (.getfield 26, 3) := by decide +kernel
theorem d_Nd_exact_40 : decode b_Nd_exact 40 = .ok (.invokevirtual 101, 3) := by decide +kernel
theorem d_Nd_exact_43 : decode b_Nd_exact 43 = .ok (.ireturn, 1) := by decide +kernel
theorem d_Nd_match_0 : decode b_Nd_match 0 = .ok (.iload_n 1, 1) := by decide +kernel
theorem d_Nd_match_1 : decode b_Nd_match 1 = .ok (.iconst 1, 1) := by decide +kernel
theorem d_Nd_match_2 : decode b_Nd_match 2 = .ok (.bipush 10, 2) := by decide +kernel
theorem d_Nd_match_4 : decode b_Nd_match 4 = .ok (.invokestatic 45, 3) := by decide +kernel
theorem d_Nd_match_7 : decode b_Nd_match 7 = .ok (.ifCond .eq 14, 3) := by decide +kernel
theorem d_Nd_match_10 : decode b_Nd_match 10 = .ok (.iload_n 2, 1) := by decide +kernel
theorem d_Nd_match_11 : decode b_Nd_match 11 = .ok (.iconst 0, 1) := by decide +kernel
theorem d_Nd_match_12 : decode b_Nd_match 12 = .ok (.sipush 255, 3) := by decide +kernel
theorem d_Nd_match_15 : decode b_Nd_match 15 = .ok (.invokestatic 45, 3) := by decide +kernel
theorem d_Nd_match_18 : decode b_Nd_match 18 = .ok (.ifCond .ne 5, 3) := by decide +kernel
theorem d_Nd_match_21 : decode b_Nd_match 21 = .ok (.iconst (-1), 1) := by decide +kernel
theorem d_Nd_match_22 : decode b_Nd_match 22 = .ok (.ireturn, 1) := by decide +kernel
theorem d_Nd_match_23 : decode b_Nd_match 23 = .ok (.aload_n 0, 1) := by decide +kernel
theorem d_Nd_match_24 : decode b_Nd_match 24 = .ok (.getfield 26, 3) := by decide +kernel
theorem d_Nd_match_27 : decode b_Nd_match 27 = .ok (.iload_n 1, 1) := by decide +kernel
theorem d_Nd_match_28 : decode b_Nd_match 28 = .ok (.iconst 1, 1) := by decide +kernel
theorem d_Nd_match_29 : decode b_Nd_match 29 = .ok (.invokevirtual 87, 3) := by decide +kernel
theorem d_Nd_match_32 : decode b_Nd_match 32 = .ok (.aload_n 0, 1) := by decide +kernel
theorem d_Nd_match_33 : decode b_Nd_match 33 = .ok (.getfield 12, 3) := by decide +kernel
theorem d_Nd_match_36 : decode b_Nd_match 36 = .ok (.iload_n 2, 1) := by decide +kernel
theorem d_Nd_match_37 : decode b_Nd_match 37 = .ok (.aload_n 0, 1) := by decide +kernel
theorem d_Nd_match_38 : decode b_Nd_match 38 = .ok (.getfield 26, 3) := by decide +kernel
theorem d_Nd_match_41 : decode b_Nd_match 41 = .ok (.invokevirtual 106, 3) := by decide +kernel
theorem d_Nd_match_44 : decode b_Nd_match 44 = .ok (.aload_n 0, 1) := by decide +kernel
theorem d_Nd_match_45 : decode b_Nd_match 45 = .ok (.getfield 26, 3) := by decide +kernel
theorem d_Nd_match_48 : decode b_Nd_match 48 = .ok (.invokevirtual 101, 3) := by decide +kernel
theorem d_Nd_match_51 : decode b_Nd_match 51 = .ok (.ireturn, 1) := by decide +kernel
theorem d_Nd_fuse_0 : decode b_Nd_fuse 0 = .ok (.iload_n 1, 1) := by decide +kernel
theorem d_Nd_fuse_1 : decode b_Nd_fuse 1 = .ok (.iconst 1, 1) := by decide +kernel
theorem d_Nd_fuse_2 : decode b_Nd_fuse 2 = .ok (.bipush 10, 2) := by decide +kernel
theorem d_Nd_fuse_4 : decode b_Nd_fuse 4 = .ok (.invokestatic 45, 3) := by decide +kernel
theorem d_Nd_fuse_7 : decode b_Nd_fuse 7 = .ok (.ifCond .eq 14, 3) := by decide +kernel
theorem d_Nd_fuse_10 : decode b_Nd_fuse 10 = .ok (.iload_n 2, 1) := by decide +kernel
theorem d_Nd_fuse_11 : decode b_Nd_fuse 11 = .ok (.iconst 0, 1) := by decide +kernel
theorem d_Nd_fuse_12 : decode b_Nd_fuse 12 = .ok (.sipush 255, 3) := by decide +kernel
theorem d_Nd_fuse_15 : decode b_Nd_fuse 15 = .ok (.invokestatic 45, 3) := by decide +kernel
theorem d_Nd_fuse_18 : decode b_Nd_fuse 18 = .ok (.ifCond .ne 5, 3) := by decide +kernel
theorem d_Nd_fuse_21 : decode b_Nd_fuse 21 = .ok (.iconst (-1), 1) := by decide +kernel
theorem d_Nd_fuse_22 : decode b_Nd_fuse 22 = .ok (.ireturn, 1) := by decide +kernel
theorem d_Nd_fuse_23 : decode b_Nd_fuse 23 = .ok (.aload_n 0, 1) := by decide +kernel
theorem d_Nd_fuse_24 : decode b_Nd_fuse 24 = .ok (.invokevirtual 110, 3) := by decide +kernel
theorem d_Nd_fuse_27 : decode b_Nd_fuse 27 = .ok (.aload_n 0, 1) := by decide +kernel
theorem d_Nd_fuse_28 : decode b_Nd_fuse 28 = .ok (.getfield 30, 3) := by decide +kernel
theorem d_Nd_fuse_31 : decode b_Nd_fuse 31 = .ok (.bipush 10, 2) := by decide +kernel
theorem d_Nd_fuse_33 : decode b_Nd_fuse 33 = .ok (.iconst 1, 1) := by decide +kernel
theorem d_Nd_fuse_34 : decode b_Nd_fuse 34 = .ok (.invokevirtual 87, 3) := by decide +kernel
theorem d_Nd_fuse_37 : decode b_Nd_fuse 37 = .ok (.aload_n 0, 1) := by decide +kernel
theorem d_Nd_fuse_38 : decode b_Nd_fuse 38 = .ok (.getfield 12, 3) := by decide +kernel
theorem d_Nd_fuse_41 : decode b_Nd_fuse 41 = .ok (.iload_n 2, 1) := by decide +kernel
theorem d_Nd_fuse_42 : decode b_Nd_fuse 42 = .ok (.aload_n 0, 1) := by decide +kernel
theorem d_Nd_fuse_43 : decode b_Nd_fuse 43 = .ok (.getfield 30, 3) := by decide +kernel
theorem d_Nd_fuse_46 : decode b_Nd_fuse 46 = .ok (.invokevirtual 106, 3) := by decide +kernel
theorem d_Nd_fuse_49 : decode b_Nd_fuse 49 = .ok (.aload_n 0, 1) := by decide +kernel
theorem d_Nd_fuse_50 : decode b_Nd_fuse 50 = .ok (.aload_n 0, 1) := by decide +kernel
theorem d_Nd_fuse_51 : decode b_Nd_fuse 51 = .ok (.getfield 30, 3) := by decide +kernel
theorem d_Nd_fuse_54 : decode b_Nd_fuse 54 = .ok (.invokevirtual 113, 3) := by decide +kernel
theorem d_Nd_fuse_57 : decode b_Nd_fuse 57 = .ok (.aload_n 0, 1) := by decide +kernel
theorem d_Nd_fuse_58 : decode b_Nd_fuse 58 = .ok (.getfield 30, 3) := by decide +kernel
theorem d_Nd_fuse_61 : decode b_Nd_fuse 61 = .ok (.bipush 10, 2) := by decide +kernel
theorem d_Nd_fuse_63 : decode b_Nd_fuse 63 = .ok (.iconst 0, 1) := by decide +kernel
theorem d_Nd_fuse_64 : decode b_Nd_fuse 64 = .ok (.invokevirtual 87, 3) := by decide +kernel
theorem d_Nd_fuse_67 : decode b_Nd_fuse 67 = .ok (.aload_n 0, 1) := by decide +kernel
theorem d_Nd_fuse_68 : decode b_Nd_fuse 68 = .ok (.aload_n 0, 1) := by decide +kernel
theorem d_Nd_fuse_69 : decode b_Nd_fuse 69 = .ok (.getfield 30, 3) := by decide +kernel
theorem d_Nd_fuse_72 : decode b_Nd_fuse 72 = .ok (.bipush 10, 2) := by decide +kernel
theorem d_Nd_fuse_74 : decode b_Nd_fuse 74 = .ok (.invokevirtual 97, 3) := by decide +kernel
theorem d_Nd_fuse_77 : decode b_Nd_fuse 77 = .ok (.aload_n 0, 1) := by decide +kernel
theorem d_Nd_fuse_78 : decode b_Nd_fuse 78 = .ok (.aload_n 0, 1) := by decide +kernel
theorem d_Nd_fuse_79 : decode b_Nd_fuse 79 = .ok (.getfield 30, 3) := by decide +kernel
theorem d_Nd_fuse_82 : decode b_Nd_fuse 82 = .ok (.invokevirtual 113, 3) := by decide +kernel
theorem d_Nd_fuse_85 : decode b_Nd_fuse 85 = .ok (.aload_n 0, 1) := by decide +kernel
theorem d_Nd_fuse_86 : decode b_Nd_fuse 86 = .ok (.getfield 26, 3) := by decide +kernel
theorem d_Nd_fuse_89 : decode b_Nd_fuse 89 = .ok (.iload_n 1, 1) := by decide +kernel
theorem d_Nd_fuse_90 : decode b_Nd_fuse 90 = .ok (.iconst 1, 1) := by decide +kernel
theorem d_Nd_fuse_91 : decode b_Nd_fuse 91 = .ok (.invokevirtual 87, 3) := by decide +kernel
theorem d_Nd_fuse_94 : decode b_Nd_fuse 94 = .ok (.aload_n 0, 1) := by decide +kernel
theorem d_Nd_fuse_95 : decode b_Nd_fuse 95 = .ok (.aload_n 0, 1) := by decide +kernel
theorem d_Nd_fuse_96 : decode b_Nd_fuse 96 = .ok (.getfield 26, 3) := by decide +kernel
theorem d_Nd_fuse_99 : decode b_Nd_fuse 99 = .ok (.invokevirtual 117, 3) := by decide +kernel
theorem d_Nd_fuse_102 : decode b_Nd_fuse 102 = .ok (.aload_n 0, 1) := by decide +kernel
theorem d_Nd_fuse_103 : decode b_Nd_fuse 103 = .ok (.getfield 26, 3) := by decide +kernel
theorem d_Nd_fuse_106 : decode b_Nd_fuse 106 = .ok (.invokevirtual 101, 3) := by decide +kernel
theorem d_Nd_fuse_109 : decode b_Nd_fuse 109 = .ok (.ireturn, 1) := by decide +kernel
theorem d_Nd_clearPoints_0 : decode b_Nd_clearPoints 0 = .ok (.iconst 0, 1) := by decide +kernel
theorem d_Nd_clearPoints_1 : decode b_Nd_clearPoints 1 = .ok (.istore_n 1, 1) := by decide +kernel
theorem d_Nd_clearPoints_2 : decode b_Nd_clearPoints 2 = .ok (.iload_n 1, 1) := by decide +kernel
theorem d_Nd_clearPoints_3 : decode b_Nd_clearPoints 3 = .ok (.bipush 30, 2) := by decide +kernel
theorem d_Nd_clearPoints_5 : decode b_Nd_clearPoints 5 = .ok (.if_icmp .ge 16, 3) := by decide +kernel
theorem d_Nd_clearPoints_8 : decode b_Nd_clearPoints 8 = .ok (.aload_n 0, 1) := by decide +kernel
theorem d_Nd_clearPoints_9 : decode b_Nd_clearPoints 9 = .ok (.getfield 37, 3) := by decide +kernel
theorem d_Nd_clearPoints_12 : decode b_Nd_clearPoints 12 = .ok (.iload_n 1, 1) := by decide +kernel
theorem d_Nd_clearPoints_13 : decode b_Nd_clearPoints 13 = .ok (.iconst 0, 1) := by decide +kernel
theorem d_Nd_clearPoints_14 : decode b_Nd_clearPoints 14 = .ok (.iastore, 1) := by decide +kernel
theorem d_Nd_clearPoints_15 : decode b_Nd_clearPoints 15 = .ok (.iinc 1 1, 3) := by decide +kernel
theorem d_Nd_clearPoints_18 : decode b_Nd_clearPoints 18 = .ok (.goto (-16), 3) := by decide +kernel
theorem d_Nd_clearPoints_21 : decode b_Nd_clearPoints 21 = .ok (.return_, 1) := by decide +kernel
theorem d_Nd_addPoints_0 : decode b_Nd_addPoints 0 = .ok (.iconst 0, 1) := by decide +kernel
theorem d_Nd_addPoints_1 : decode b_Nd_addPoints 1 = .ok (.istore_n 2, 1) := by decide +kernel
theorem d_Nd_addPoints_2 : decode b_Nd_addPoints 2 = .ok (.iload_n 2, 1) := by decide +kernel
theorem d_Nd_addPoints_3 : decode b_Nd_addPoints 3 = .ok (.aload_n 1, 1) := by decide +kernel
theorem d_Nd_addPoints_4 : decode b_Nd_addPoints 4 = .ok (.invokevirtual 101, 3) := by decide +kernel
theorem d_Nd_addPoints_7 : decode b_Nd_addPoints 7 = .ok (.if_icmp .ge 30, 3) := by decide +kernel
theorem d_Nd_addPoints_10 : decode b_Nd_addPoints 10 = .ok (.aload_n 0, 1) := by decide +kernel
theorem d_Nd_addPoints_11 : decode b_Nd_addPoints 11 = .ok (.getfield 37, 3) := by decide +kernel
theorem d_Nd_addPoints_14 : decode b_Nd_addPoints 14 = .ok (.aload_n 1, 1) := by decide +kernel
theorem d_Nd_addPoints_15 : decode b_Nd_addPoints 15 = .ok (.iload_n 2, 1) := by decide +kernel
theorem d_Nd_addPoints_16 : decode b_Nd_addPoints 16 = .ok (.invokevirtual 120, 3) := by decide +kernel
theorem d_Nd_addPoints_19 : decode b_Nd_addPoints 19 = .ok (.dup2, 1) := by decide +kernel
theorem d_Nd_addPoints_20 : decode b_Nd_addPoints 20 = .ok (.iaload, 1) := by decide +kernel
theorem d_Nd_addPoints_21 : decode b_Nd_addPoints 21 = .ok (.sipush 1000, 3) := by decide +kernel
theorem d_Nd_addPoints_24 : decode b_Nd_addPoints 24 = .ok (.bipush 10, 2) := by decide +kernel
theorem d_Nd_addPoints_26 : decode b_Nd_addPoints 26 = .ok (.iload_n 2, 1) := by decide +kernel
theorem d_Nd_addPoints_27 : decode b_Nd_addPoints 27 = .ok (.iadd, 1) := by decide +kernel
theorem d_Nd_addPoints_28 : decode b_Nd_addPoints 28 = .ok (.idiv, 1) := by decide +kernel
theorem d_Nd_addPoints_29 : decode b_Nd_addPoints 29 = .ok (.iadd, 1) := by decide +kernel
theorem d_Nd_addPoints_30 : decode b_Nd_addPoints 30 = .ok (.iastore, 1) := by decide +kernel
theorem d_Nd_addPoints_31 : decode b_Nd_addPoints 31 = .ok (.iinc 2 1, 3) := by decide +kernel
theorem d_Nd_addPoints_34 : decode b_Nd_addPoints 34 = .ok (.goto (-32), 3) := by decide +kernel
theorem d_Nd_addPoints_37 : decode b_Nd_addPoints 37 = .ok (.return_, 1) := by decide +kernel
theorem d_Nd_rankByPoints_0 : decode b_Nd_rankByPoints 0 = .ok (.iconst 0, 1) := by decide +kernel
theorem d_Nd_rankByPoints_1 : decode b_Nd_rankByPoints 1 = .ok (.istore_n 2, 1) := by decide +kernel
theorem d_Nd_rankByPoints_2 : decode b_Nd_rankByPoints 2 = .ok (.iload_n 2, 1) := by decide +kernel
theorem d_Nd_rankByPoints_3 : decode b_Nd_rankByPoints 3 = .ok (.bipush 30, 2) := by decide +kernel
theorem d_Nd_rankByPoints_5 : decode b_Nd_rankByPoints 5 = .ok (.if_icmp .ge 30, 3) := by decide +kernel
theorem d_Nd_rankByPoints_8 : decode b_Nd_rankByPoints 8 = .ok (.aload_n 0, 1) := by decide +kernel
theorem d_Nd_rankByPoints_9 : decode b_Nd_rankByPoints 9 = .ok (.getfield 37, 3) := by decide +kernel
theorem d_Nd_rankByPoints_12 : decode b_Nd_rankByPoints 12 = .ok (.iload_n 2, 1) := by decide +kernel
theorem d_Nd_rankByPoints_13 : decode b_Nd_rankByPoints 13 = .ok (.iaload, 1) := by decide +kernel
theorem d_Nd_rankByPoints_14 : decode b_Nd_rankByPoints 14 = .ok (.ifCond .le 15, 3) := by decide +kernel
theorem d_Nd_rankByPoints_17 : decode b_Nd_rankByPoints 17 = .ok (.aload_n 1, 1) := by decide +kernel
theorem d_Nd_rankByPoints_18 : decode b_Nd_rankByPoints 18 = .ok (.iload_n 2, 1) := by decide +kernel
theorem d_Nd_rankByPoints_19 : decode b_Nd_rankByPoints 19 = .ok (.aload_n 0, 1) := by decide +kernel
theorem d_Nd_rankByPoints_20 : decode b_Nd_rankByPoints 20 = .ok (.getfield 37, 3) := by decide +kernel
theorem d_Nd_rankByPoints_23 : decode b_Nd_rankByPoints 23 = .ok (.iload_n 2, 1) := by decide +kernel
theorem d_Nd_rankByPoints_24 : decode b_Nd_rankByPoints 24 = .ok (.iaload, 1) := by decide +kernel
theorem d_Nd_rankByPoints_25 : decode b_Nd_rankByPoints 25 = .ok (.invokevirtual 178, 3) := by decide +kernel
theorem d_Nd_rankByPoints_28 : decode b_Nd_rankByPoints 28 = .ok (.pop, 1) := by decide +kernel
theorem d_Nd_rankByPoints_29 : decode b_Nd_rankByPoints 29 = .ok (.iinc 2 1, 3) := by decide +kernel
theorem d_Nd_rankByPoints_32 : decode b_Nd_rankByPoints 32 = .ok (.goto (-30), 3) := by decide +kernel
theorem d_Nd_rankByPoints_35 : decode b_Nd_rankByPoints 35 = .ok (.return_, 1) := by decide +kernel
theorem d_Nd_found_0 : decode b_Nd_found 0 = .ok (.iload_n 2, 1) := by decide +kernel
theorem d_Nd_found_1 : decode b_Nd_found 1 = .ok (.iconst 0, 1) := by decide +kernel
theorem d_Nd_found_2 : decode b_Nd_found 2 = .ok (.iconst 2, 1) := by decide +kernel
theorem d_Nd_found_3 : decode b_Nd_found 3 = .ok (.invokestatic 45, 3) := by decide +kernel
theorem d_Nd_found_6 : decode b_Nd_found 6 = .ok (.ifCond .ne 5, 3) := by decide +kernel
theorem d_Nd_found_9 : decode b_Nd_found 9 = .ok (.iconst (-1), 1) := by decide +kernel
theorem d_Nd_found_10 : decode b_Nd_found 10 = .ok (.ireturn, 1) := by decide +kernel
theorem d_Nd_found_11 : decode b_Nd_found 11 = .ok (.iload_n 1, 1) := by decide +kernel
theorem d_Nd_found_12 : decode b_Nd_found 12 = .ok (.iconst 0, 1) := by decide +kernel
theorem d_Nd_found_13 : decode b_Nd_found 13 = .ok (.aload_n 0, 1) := by decide +kernel
theorem d_Nd_found_14 : decode b_Nd_found 14 = .ok (.getfield 26, 3) := by decide +kernel
theorem d_Nd_found_17 : decode b_Nd_found 17 = .ok (.invokevirtual 101, 3) := by decide +kernel
theorem d_Nd_found_20 : decode b_Nd_found 20 = .ok (.iconst 1, 1) := by decide +kernel
theorem d_Nd_found_21 : decode b_Nd_found 21 = .ok (.isub, 1) := by decide +kernel
theorem d_Nd_found_22 : decode b_Nd_found 22 = .ok (.invokestatic 45, 3) := by decide +kernel
theorem d_Nd_found_25 : decode b_Nd_found 25 = .ok (.ifCond .ne 6, 3) := by decide +kernel
theorem d_Nd_found_28 : decode b_Nd_found 28 = .ok (.bipush (-2), 2) := by decide +kernel
theorem d_Nd_found_30 : decode b_Nd_found 30 = .ok (.ireturn, 1) := by decide +kernel
theorem d_Nd_found_31 : decode b_Nd_found 31 = .ok (.aload_n 0, 1) := by decide +kernel
theorem d_Nd_found_32 : decode b_Nd_found 32 = .ok (.getfield 26, 3) := by decide +kernel
theorem d_Nd_found_35 : decode b_Nd_found 35 = .ok (.iload_n 1, 1) := by decide +kernel
theorem d_Nd_found_36 : decode b_Nd_found 36 = .ok (.invokevirtual 120, 3) := by decide +kernel
theorem d_Nd_found_39 : decode b_Nd_found 39 = .ok (.istore_n 3, 1) := by decide +kernel
theorem d_Nd_found_40 : decode b_Nd_found 40 = .ok (.iload_n 2, 1) := by decide +kernel
theorem d_Nd_found_41 : decode b_Nd_found 41 = .ok (.lookupswitch 38 #[(0, 27), (1, 29)], 27) := by decide +kernel
theorem d_Nd_found_68 : decode b_Nd_found 68 = .ok (.iload_n 3, 1) := by decide +kernel
theorem d_Nd_found_69 : decode b_Nd_found 69 = .ok (.ireturn, 1) := by decide +kernel
theorem d_Nd_found_70 : decode b_Nd_found 70 = .ok (.aload_n 0, 1) := by decide +kernel
theorem d_Nd_found_71 : decode b_Nd_found 71 = .ok (.getfield 26, 3) := by decide +kernel
theorem d_Nd_found_74 : decode b_Nd_found 74 = .ok (.iload_n 1, 1) := by decide +kernel
theorem d_Nd_found_75 : decode b_Nd_found 75 = .ok (.invokevirtual 124, 3) := by decide +kernel
theorem d_Nd_found_78 : decode b_Nd_found 78 = .ok (.ireturn, 1) := by decide +kernel
theorem d_Nd_found_79 : decode b_Nd_found 79 = .ok (.aload_n 0, 1) := by decide +kernel
theorem d_Nd_found_80 : decode b_Nd_found 80 = .ok (.getfield 12, 3) := by decide +kernel
theorem d_Nd_found_83 : decode b_Nd_found 83 = .ok (.iload_n 3, 1) := by decide +kernel
theorem d_Nd_found_84 : decode b_Nd_found 84 = .ok (.invokevirtual 80, 3) := by decide +kernel
theorem d_Nd_found_87 : decode b_Nd_found 87 = .ok (.ifCond .eq 7, 3) := by decide +kernel
theorem d_Nd_found_90 : decode b_Nd_found 90 = .ok (.iconst 1, 1) := by decide +kernel
theorem d_Nd_found_91 : decode b_Nd_found 91 = .ok (.goto 4, 3) := by decide +kernel
theorem d_Nd_found_94 : decode b_Nd_found 94 = .ok (.iconst 0, 1) := by decide +kernel
theorem d_Nd_found_95 : decode b_Nd_found 95 = .ok (.ireturn, 1) := by decide +kernel
theorem d_Nd_node_0 : decode b_Nd_node 0 = .ok (.iload_n 2, 1) := by decide +kernel
theorem d_Nd_node_1 : decode b_Nd_node 1 = .ok (.iconst 0, 1) := by decide +kernel
theorem d_Nd_node_2 : decode b_Nd_node 2 = .ok (.bipush 7, 2) := by decide +kernel
theorem d_Nd_node_4 : decode b_Nd_node 4 = .ok (.invokestatic 45, 3) := by decide +kernel
theorem d_Nd_node_7 : decode b_Nd_node 7 = .ok (.ifCond .ne 16, 3) := by decide +kernel
theorem d_Nd_node_10 : decode b_Nd_node 10 = .ok (.iload_n 2, 1) := by decide +kernel
theorem d_Nd_node_11 : decode b_Nd_node 11 = .ok (.bipush 10, 2) := by decide +kernel
theorem d_Nd_node_13 : decode b_Nd_node 13 = .ok (.bipush 13, 2) := by decide +kernel
theorem d_Nd_node_15 : decode b_Nd_node 15 = .ok (.invokestatic 45, 3) := by decide +kernel
theorem d_Nd_node_18 : decode b_Nd_node 18 = .ok (.ifCond .ne 5, 3) := by decide +kernel
theorem d_Nd_node_21 : decode b_Nd_node 21 = .ok (.iconst (-1), 1) := by decide +kernel
theorem d_Nd_node_22 : decode b_Nd_node 22 = .ok (.ireturn, 1) := by decide +kernel
theorem d_Nd_node_23 : decode b_Nd_node 23 = .ok (.aload_n 0, 1) := by decide +kernel
theorem d_Nd_node_24 : decode b_Nd_node 24 = .ok (.getfield 19, 3) := by decide +kernel
theorem d_Nd_node_27 : decode b_Nd_node 27 = .ok (.getfield 49, 3) := by decide +kernel
theorem d_Nd_node_30 : decode b_Nd_node 30 = .ok (.iload_n 1, 1) := by decide +kernel
theorem d_Nd_node_31 : decode b_Nd_node 31 = .ok (.invokevirtual 127, 3) := by decide +kernel
theorem d_Nd_node_34 : decode b_Nd_node 34 = .ok (.ifCond .ne 6, 3) := by decide +kernel
theorem d_Nd_node_37 : decode b_Nd_node 37 = .ok (.bipush (-2), 2) := by decide +kernel
theorem d_Nd_node_39 : decode b_Nd_node 39 = .ok (.ireturn, 1) := by decide +kernel
theorem d_Nd_node_40 : decode b_Nd_node 40 = .ok (.iload_n 2, 1) := by decide +kernel
theorem d_Nd_node_41 : decode b_Nd_node 41 = .ok (.bipush 10, 2) := by decide +kernel
theorem d_Nd_node_43 : decode b_Nd_node 43 = .ok (.if_icmp .lt 41, 3) := by decide +kernel
theorem d_Nd_node_46 : decode b_Nd_node 46 = .ok (.iload_n 2, 1) := by decide +kernel
theorem d_Nd_node_47 : decode b_Nd_node 47 = .ok (.bipush 10, 2) := by decide +kernel
theorem d_Nd_node_49 : decode b_Nd_node 49 = .ok (.isub, 1) := by decide +kernel
theorem d_Nd_node_50 : decode b_Nd_node 50 = .ok (.istore_n 3, 1) := by decide +kernel
theorem d_Nd_node_51 : decode b_Nd_node 51 = .ok (.aload_n 0, 1) := by decide +kernel
theorem d_Nd_node_52 : decode b_Nd_node 52 = .ok (.getfield 19, 3) := by decide +kernel
theorem d_Nd_node_55 : decode b_Nd_node 55 = .ok (.getfield 49, 3) := by decide +kernel
theorem d_Nd_node_58 : decode b_Nd_node 58 = .ok (.iload_n 1, 1) := by decide +kernel
theorem d_Nd_node_59 : decode b_Nd_node 59 = .ok (.iload_n 3, 1) := by decide +kernel
theorem d_Nd_node_60 : decode b_Nd_node 60 = .ok (.invokevirtual 130, 3) := by decide +kernel
theorem d_Nd_node_63 : decode b_Nd_node 63 = .ok (.ifCond .eq 18, 3) := by decide +kernel
theorem d_Nd_node_66 : decode b_Nd_node 66 = .ok (.aload_n 0, 1) := by decide +kernel
theorem d_Nd_node_67 : decode b_Nd_node 67 = .ok (.getfield 19, 3) := by decide +kernel
theorem d_Nd_node_70 : decode b_Nd_node 70 = .ok (.getfield 49, 3) := by decide +kernel
theorem d_Nd_node_73 : decode b_Nd_node 73 = .ok (.iload_n 1, 1) := by decide +kernel
theorem d_Nd_node_74 : decode b_Nd_node 74 = .ok (.iload_n 3, 1) := by decide +kernel
theorem d_Nd_node_75 : decode b_Nd_node 75 = .ok (.invokevirtual 134, 3) := by decide +kernel
theorem d_Nd_node_78 : decode b_Nd_node 78 = .ok (.goto 5, 3) := by decide +kernel
theorem d_Nd_node_81 : decode b_Nd_node 81 = .ok (.bipush (-2), 2) := by decide +kernel
theorem d_Nd_node_83 : decode b_Nd_node 83 = .ok (.ireturn, 1) := by decide +kernel
theorem d_Nd_node_84 : decode b_Nd_node 84 = .ok (.iload_n 2, 1) := by decide +kernel
theorem d_Nd_node_85 : decode b_Nd_node 85 = .ok (.tableswitch 97 0 7 #[47, 59, 71, 97, 97, 97, 97, 88], 47) := by decide +kernel
theorem d_Nd_node_132 : decode b_Nd_node 132 = .ok (.aload_n 0, 1) := by decide +kernel
theorem d_Nd_node_133 : decode b_Nd_node 133 = .ok (.getfield 19, 3) := by decide +kernel
theorem d_Nd_node_136 : decode b_Nd_node 136 = .ok (.getfield 49, 3) := by decide +kernel
theorem d_Nd_node_139 : decode b_Nd_node 139 = .ok (.iload_n 1, 1) := by decide +kernel
theorem d_Nd_node_140 : decode b_Nd_node 140 = .ok (.invokevirtual 137, 3) := by decide +kernel
theorem d_Nd_node_143 : decode b_Nd_node 143 = .ok (.ireturn, 1) := by decide +kernel
theorem d_Nd_node_144 : decode b_Nd_node 144 = .ok (.aload_n 0, 1) := by decide +kernel
theorem d_Nd_node_145 : decode b_Nd_node 145 = .ok (.getfield 19, 3) := by decide +kernel
theorem d_Nd_node_148 : decode b_Nd_node 148 = .ok (.getfield 49, 3) := by decide +kernel
theorem d_Nd_node_151 : decode b_Nd_node 151 = .ok (.iload_n 1, 1) := by decide +kernel
theorem d_Nd_node_152 : decode b_Nd_node 152 = .ok (.invokevirtual 140, 3) := by decide +kernel
theorem d_Nd_node_155 : decode b_Nd_node 155 = .ok (.ireturn, 1) := by decide +kernel
theorem d_Nd_node_156 : decode b_Nd_node 156 = .ok (.aload_n 0, 1) := by decide +kernel
theorem d_Nd_node_157 : decode b_Nd_node 157 = .ok (.getfield 12, 3) := by decide +kernel
theorem d_Nd_node_160 : decode b_Nd_node 160 = .ok (.iload_n 1, 1) := by decide +kernel
theorem d_Nd_node_161 : decode b_Nd_node 161 = .ok (.invokevirtual 80, 3) := by decide +kernel
theorem d_Nd_node_164 : decode b_Nd_node 164 = .ok (.ifCond .eq 7, 3) := by decide +kernel
theorem d_Nd_node_167 : decode b_Nd_node 167 = .ok (.iconst 1, 1) := by decide +kernel
theorem d_Nd_node_168 : decode b_Nd_node 168 = .ok (.goto 4, 3) := by decide +kernel
theorem d_Nd_node_171 : decode b_Nd_node 171 = .ok (.iconst 0, 1) := by decide +kernel
theorem d_Nd_node_172 : decode b_Nd_node 172 = .ok (.ireturn, 1) := by decide +kernel
theorem d_Nd_node_173 : decode b_Nd_node 173 = .ok (.aload_n 0, 1) := by decide +kernel
theorem d_Nd_node_174 : decode b_Nd_node 174 = .ok (.getfield 12, 3) := by decide +kernel
theorem d_Nd_node_177 : decode b_Nd_node 177 = .ok (.iload_n 1, 1) := by decide +kernel
theorem d_Nd_node_178 : decode b_Nd_node 178 = .ok (.invokevirtual 143, 3) := by decide +kernel
theorem d_Nd_node_181 : decode b_Nd_node 181 = .ok (.ireturn, 1) := by decide +kernel
theorem d_Nd_node_182 : decode b_Nd_node 182 = .ok (.aload_n 0, 1) := by decide +kernel
theorem d_Nd_node_183 : decode b_Nd_node 183 = .ok (.getfield 12, 3) := by decide +kernel
theorem d_Nd_node_186 : decode b_Nd_node 186 = .ok (.iload_n 1, 1) := by decide +kernel
theorem d_Nd_node_187 : decode b_Nd_node 187 = .ok (.iload_n 2, 1) := by decide +kernel
theorem d_Nd_node_188 : decode b_Nd_node 188 = .ok (.iconst 3, 1) := by decide +kernel
theorem d_Nd_node_189 : decode b_Nd_node 189 = .ok (.isub, 1) := by decide +kernel
theorem d_Nd_node_190 : decode b_Nd_node 190 = .ok (.invokevirtual 146, 3) := by decide +kernel
theorem d_Nd_node_193 : decode b_Nd_node 193 = .ok (.ireturn, 1) := by decide +kernel
theorem d_Nd_neighbour_0 : decode b_Nd_neighbour 0 = .ok (.aload_n 0, 1) := by decide +kernel
theorem d_Nd_neighbour_1 : decode b_Nd_neighbour 1 = .ok (.getfield 19, 3) := by decide +kernel
theorem d_Nd_neighbour_4 : decode b_Nd_neighbour 4 = .ok (.getfield 49, 3) := by decide +kernel
theorem d_Nd_neighbour_7 : decode b_Nd_neighbour 7 = .ok (.iload_n 1, 1) := by decide +kernel
theorem d_Nd_neighbour_8 : decode b_Nd_neighbour 8 = .ok (.iload_n 2, 1) := by decide +kernel
theorem d_Nd_neighbour_9 : decode b_Nd_neighbour 9 = .ok (.invokevirtual 130, 3) := by decide +kernel
theorem d_Nd_neighbour_12 : decode b_Nd_neighbour 12 = .ok (.ifCond .eq 25, 3) := by decide +kernel
theorem d_Nd_neighbour_15 : decode b_Nd_neighbour 15 = .ok (.iload_n 3, 1) := by decide +kernel
theorem d_Nd_neighbour_16 : decode b_Nd_neighbour 16 = .ok (.iconst 0, 1) := by decide +kernel
theorem d_Nd_neighbour_17 : decode b_Nd_neighbour 17 = .ok (.aload_n 0, 1) := by decide +kernel
theorem d_Nd_neighbour_18 : decode b_Nd_neighbour 18 = .ok (.getfield 19, 3) := by decide +kernel
theorem d_Nd_neighbour_21 : decode b_Nd_neighbour 21 = .ok (.getfield 49, 3) := by decide +kernel
theorem d_Nd_neighbour_24 : decode b_Nd_neighbour 24 = .ok (.iload_n 1, 1) := by decide +kernel
theorem d_Nd_neighbour_25 : decode b_Nd_neighbour 25 = .ok (.iload_n 2, 1) := by decide +kernel
theorem d_Nd_neighbour_26 : decode b_Nd_neighbour 26 = .ok (.invokevirtual 134, 3) := by decide +kernel
theorem d_Nd_neighbour_29 : decode b_Nd_neighbour 29 = .ok (.iconst 1, 1) := by decide +kernel
theorem d_Nd_neighbour_30 : decode b_Nd_neighbour 30 = .ok (.isub, 1) := by decide +kernel
theorem d_Nd_neighbour_31 : decode b_Nd_neighbour 31 = .ok (.invokestatic 45, 3) := by decide +kernel
theorem d_Nd_neighbour_34 : decode b_Nd_neighbour 34 = .ok (.ifCond .ne 6, 3) := by decide +kernel
theorem d_Nd_neighbour_37 : decode b_Nd_neighbour 37 = .ok (.bipush (-2), 2) := by decide +kernel
theorem d_Nd_neighbour_39 : decode b_Nd_neighbour 39 = .ok (.ireturn, 1) := by decide +kernel
theorem d_Nd_neighbour_40 : decode b_Nd_neighbour 40 = .ok (.aload_n 0, 1) := by decide +kernel
theorem d_Nd_neighbour_41 : decode b_Nd_neighbour 41 = .ok (.getfield 19, 3) := by decide +kernel
theorem d_Nd_neighbour_44 : decode b_Nd_neighbour 44 = .ok (.getfield 49, 3) := by decide +kernel
theorem d_Nd_neighbour_47 : decode b_Nd_neighbour 47 = .ok (.iload_n 1, 1) := by decide +kernel
theorem d_Nd_neighbour_48 : decode b_Nd_neighbour 48 = .ok (.iload_n 2, 1) := by decide +kernel
theorem d_Nd_neighbour_49 : decode b_Nd_neighbour 49 = .ok (.iload_n 3, 1) := by decide +kernel
theorem d_Nd_neighbour_50 : decode b_Nd_neighbour 50 = .ok (.invokevirtual 149, 3) := by decide +kernel
theorem d_Nd_neighbour_53 : decode b_Nd_neighbour 53 = .ok (.ireturn, 1) := by decide +kernel
theorem d_Nd_count_0 : decode b_Nd_count 0 = .ok (.iload_n 1, 1) := by decide +kernel
theorem d_Nd_count_1 : decode b_Nd_count 1 = .ok (.tableswitch 148 0 9 #[55, 66, 74, 82, 90, 98, 106, 114, 119, 130], 55) := by decide +kernel
theorem d_Nd_count_56 : decode b_Nd_count 56 = .ok (.aload_n 0, 1) := by decide +kernel
theorem d_Nd_count_57 : decode b_Nd_count 57 = .ok (.getfield 19, 3) := by decide +kernel
theorem d_Nd_count_60 : decode b_Nd_count 60 = .ok (.getfield 49, 3) := by decide +kernel
theorem d_Nd_count_63 : decode b_Nd_count 63 = .ok (.invokevirtual 71, 3) := by decide +kernel
theorem d_Nd_count_66 : decode b_Nd_count 66 = .ok (.ireturn, 1) := by decide +kernel
theorem d_Nd_count_67 : decode b_Nd_count 67 = .ok (.aload_n 0, 1) := by decide +kernel
theorem d_Nd_count_68 : decode b_Nd_count 68 = .ok (.getfield 12, 3) := by decide +kernel
theorem d_Nd_count_71 : decode b_Nd_count 71 = .ok (.invokevirtual 74, 3) := by decide +kernel
theorem d_Nd_count_74 : decode b_Nd_count 74 = .ok (.ireturn, 1) := by decide +kernel
theorem d_Nd_count_75 : decode b_Nd_count 75 = .ok (.aload_n 0, 1) := by decide +kernel
theorem d_Nd_count_76 : decode b_Nd_count 76 = .ok (.getfield 19, 3) := by decide +kernel
theorem d_Nd_count_79 : decode b_Nd_count 79 = .ok (.invokevirtual 153, 3) := by decide +kernel
theorem d_Nd_count_82 : decode b_Nd_count 82 = .ok (.ireturn, 1) := by decide +kernel
theorem d_Nd_count_83 : decode b_Nd_count 83 = .ok (.aload_n 0, 1) := by decide +kernel
theorem d_Nd_count_84 : decode b_Nd_count 84 = .ok (.getfield 19, 3) := by decide +kernel
theorem d_Nd_count_87 : decode b_Nd_count 87 = .ok (.invokevirtual 156, 3) := by decide +kernel
theorem d_Nd_count_90 : decode b_Nd_count 90 = .ok (.ireturn, 1) := by decide +kernel
theorem d_Nd_count_91 : decode b_Nd_count 91 = .ok (.aload_n 0, 1) := by decide +kernel
theorem d_Nd_count_92 : decode b_Nd_count 92 = .ok (.getfield 19, 3) := by decide +kernel
theorem d_Nd_count_95 : decode b_Nd_count 95 = .ok (.invokevirtual 159, 3) := by decide +kernel
theorem d_Nd_count_98 : decode b_Nd_count 98 = .ok (.ireturn, 1) := by decide +kernel
theorem d_Nd_count_99 : decode b_Nd_count 99 = .ok (.aload_n 0, 1) := by decide +kernel
theorem d_Nd_count_100 : decode b_Nd_count 100 = .ok (.getfield 19, 3) := by decide +kernel
theorem d_Nd_count_103 : decode b_Nd_count 103 = .ok (.invokevirtual 162, 3) := by decide +kernel
theorem d_Nd_count_106 : decode b_Nd_count 106 = .ok (.ireturn, 1) := by decide +kernel
theorem d_Nd_count_107 : decode b_Nd_count 107 = .ok (.aload_n 0, 1) := by decide +kernel
theorem d_Nd_count_108 : decode b_Nd_count 108 = .ok (.getfield 26, 3) := by decide +kernel
theorem d_Nd_count_111 : decode b_Nd_count 111 = .ok (.invokevirtual 101, 3) := by decide +kernel
theorem d_Nd_count_114 : decode b_Nd_count 114 = .ok (.ireturn, 1) := by decide +kernel
theorem d_Nd_count_115 : decode b_Nd_count 115 = .ok (.aload_n 0, 1) := by decide +kernel
theorem d_Nd_count_116 : decode b_Nd_count 116 = .ok (.invokevirtual 165, 3) := by decide +kernel
theorem d_Nd_count_119 : decode b_Nd_count 119 = .ok (.ireturn, 1) := by decide +kernel
theorem d_Nd_count_120 : decode b_Nd_count 120 = .ok (.aload_n 0, 1) := by decide +kernel
theorem d_Nd_count_121 : decode b_Nd_count 121 = .ok (.getfield 19, 3) := by decide +kernel
theorem d_Nd_count_124 : decode b_Nd_count 124 = .ok (.getfield 49, 3) := by decide +kernel
theorem d_Nd_count_127 : decode b_Nd_count 127 = .ok (.invokevirtual 168, 3) := by decide +kernel
theorem d_Nd_count_130 : decode b_Nd_count 130 = .ok (.ireturn, 1) := by decide +kernel
theorem d_Nd_count_131 : decode b_Nd_count 131 = .ok (.aload_n 0, 1) := by decide +kernel
theorem d_Nd_count_132 : decode b_Nd_count 132 = .ok (.getfield 19, 3) := by decide +kernel
theorem d_Nd_count_135 : decode b_Nd_count 135 = .ok (.getfield 49, 3) := by decide +kernel
theorem d_Nd_count_138 : decode b_Nd_count 138 = .ok (.aload_n 0, 1) := by decide +kernel
theorem d_Nd_count_139 : decode b_Nd_count 139 = .ok (.getfield 19, 3) := by decide +kernel
theorem d_Nd_count_142 : decode b_Nd_count 142 = .ok (.invokevirtual 153, 3) := by decide +kernel
theorem d_Nd_count_145 : decode b_Nd_count 145 = .ok (.invokevirtual 171, 3) := by decide +kernel
theorem d_Nd_count_148 : decode b_Nd_count 148 = .ok (.ireturn, 1) := by decide +kernel
theorem d_Nd_count_149 : decode b_Nd_count 149 = .ok (.iconst (-1), 1) := by decide +kernel
theorem d_Nd_count_150 : decode b_Nd_count 150 = .ok (.ireturn, 1) := by decide +kernel
theorem d_Nd_foundAmongNearest_0 : decode b_Nd_foundAmongNearest 0 = .ok (.aload_n 0, 1) := by decide +kernel
theorem d_Nd_foundAmongNearest_1 : decode b_Nd_foundAmongNearest 1 = .ok (.getfield 30, 3) := by decide +kernel
theorem d_Nd_foundAmongNearest_4 : decode b_Nd_foundAmongNearest 4 = .ok (.aload_n 0, 1) := by decide +kernel
theorem d_Nd_foundAmongNearest_5 : decode b_Nd_foundAmongNearest 5 = .ok (.getfield 26, 3) := by decide +kernel
theorem d_Nd_foundAmongNearest_8 : decode b_Nd_foundAmongNearest 8 = .ok (.invokevirtual 101, 3) := by decide +kernel
theorem d_Nd_foundAmongNearest_11 : decode b_Nd_foundAmongNearest 11 = .ok (.iconst 0, 1) := by decide +kernel
theorem d_Nd_foundAmongNearest_12 : decode b_Nd_foundAmongNearest 12 = .ok (.invokevirtual 87, 3) := by decide +kernel
theorem d_Nd_foundAmongNearest_15 : decode b_Nd_foundAmongNearest 15 = .ok (.aload_n 0, 1) := by decide +kernel
theorem d_Nd_foundAmongNearest_16 : decode b_Nd_foundAmongNearest 16 = .ok (.getfield 12, 3) := by decide +kernel
theorem d_Nd_foundAmongNearest_19 : decode b_Nd_foundAmongNearest 19 = .ok (.aload_n 0, 1) := by decide +kernel
theorem d_Nd_foundAmongNearest_20 : decode b_Nd_foundAmongNearest 20 = .ok (.getfield 33, 3) := by decide +kernel
theorem d_Nd_foundAmongNearest_23 : decode b_Nd_foundAmongNearest 23 = .ok (.aload_n 0, 1) := by decide +kernel
theorem d_Nd_foundAmongNearest_24 : decode b_Nd_foundAmongNearest 24 = .ok (.getfield 30, 3) := by decide +kernel
theorem d_Nd_foundAmongNearest_27 : decode b_Nd_foundAmongNearest 27 = .ok (.invokevirtual 102, 3) := by decide +kernel
theorem d_Nd_foundAmongNearest_30 : decode b_Nd_foundAmongNearest 30 = .ok (.iconst 0, 1) := by decide +kernel
theorem d_Nd_foundAmongNearest_31 : decode b_Nd_foundAmongNearest 31 = .ok (.istore_n 1, 1) := by decide +kernel
theorem d_Nd_foundAmongNearest_32 : decode b_Nd_foundAmongNearest 32 = .ok (.iconst 0, 1) := by decide +kernel
theorem d_Nd_foundAmongNearest_33 : decode b_Nd_foundAmongNearest 33 = .ok (.istore_n 2, 1) := by decide +kernel
theorem d_Nd_foundAmongNearest_34 : decode b_Nd_foundAmongNearest 34 = .ok (.iload_n 2, 1) := by decide +kernel
theorem d_Nd_foundAmongNearest_35 : decode b_Nd_foundAmongNearest 35 = .ok (.aload_n 0, 1) := by decide +kernel
theorem d_Nd_foundAmongNearest_36 : decode b_Nd_foundAmongNearest 36 = .ok (.getfield 26, 3) := by decide +kernel
theorem d_Nd_foundAmongNearest_39 : decode b_Nd_foundAmongNearest 39 = .ok (.invokevirtual 101, 3) := by decide +kernel
theorem d_Nd_foundAmongNearest_42 : decode b_Nd_foundAmongNearest 42 = .ok (.if_icmp .ge 30, 3) := by decide +kernel
theorem d_Nd_foundAmongNearest_45 : decode b_Nd_foundAmongNearest 45 = .ok (.aload_n 0, 1) := by decide +kernel
theorem d_Nd_foundAmongNearest_46 : decode b_Nd_foundAmongNearest 46 = .ok (.getfield 30, 3) := by decide +kernel
theorem d_Nd_foundAmongNearest_49 : decode b_Nd_foundAmongNearest 49 = .ok (.aload_n 0, 1) := by decide +kernel
theorem d_Nd_foundAmongNearest_50 : decode b_Nd_foundAmongNearest 50 = .ok (.getfield 26, 3) := by decide +kernel
theorem d_Nd_foundAmongNearest_53 : decode b_Nd_foundAmongNearest 53 = .ok (.iload_n 2, 1) := by decide +kernel
theorem d_Nd_foundAmongNearest_54 : decode b_Nd_foundAmongNearest 54 = .ok (.invokevirtual 120, 3) := by decide +kernel
theorem d_Nd_foundAmongNearest_57 : decode b_Nd_foundAmongNearest 57 = .ok (.invokevirtual 181, 3) := by decide +kernel
theorem d_Nd_foundAmongNearest_60 : decode b_Nd_foundAmongNearest 60 = .ok (.ifCond .eq 6, 3) := by decide +kernel
theorem d_Nd_foundAmongNearest_63 : decode b_Nd_foundAmongNearest 63 = .ok (.iinc 1 1, 3) := by decide +kernel
theorem d_Nd_foundAmongNearest_66 : decode b_Nd_foundAmongNearest 66 = .ok (.iinc 2 1, 3) := by decide +kernel
theorem d_Nd_foundAmongNearest_69 : decode b_Nd_foundAmongNearest 69 = .ok (.goto (-35), 3) := by decide +kernel
theorem d_Nd_foundAmongNearest_72 : decode b_Nd_foundAmongNearest 72 = .ok (.iload_n 1, 1) := by decide +kernel
theorem d_Nd_foundAmongNearest_73 : decode b_Nd_foundAmongNearest 73 = .ok (.ireturn, 1) := by decide +kernel
