theorem d_Do_store_0 : decode b_Do_store 0 = .ok (.aload_n 0, 1) := by decide +kernel
theorem d_Do_store_1 : decode b_Do_store 1 = .ok (.getfield 11, 3) := by decide +kernel
theorem d_Do_store_4 : decode b_Do_store 4 = .ok (.iload_n 1, 1) := by decide +kernel
theorem d_Do_store_5 : decode b_Do_store 5 = .ok (.aaload, 1) := by decide +kernel
theorem d_Do_store_6 : decode b_Do_store 6 = .ok (.iload_n 2, 1) := by decide +kernel
theorem d_Do_store_7 : decode b_Do_store 7 = .ok (.iload_n 3, 1) := by decide +kernel
theorem d_Do_store_8 : decode b_Do_store 8 = .ok (.iload 4, 2) := by decide +kernel
theorem d_Do_store_10 : decode b_Do_store 10 = .ok (.iload 5, 2) := by decide +kernel
theorem d_Do_store_12 : decode b_Do_store 12 = .ok (.invokestatic 23, 3) := by decide +kernel
theorem d_Do_store_15 : decode b_Do_store 15 = .ok (.aload_n 0, 1) := by decide +kernel
theorem d_Do_store_16 : decode b_Do_store 16 = .ok (.getfield 16, 3) := by decide +kernel
theorem d_Do_store_19 : decode b_Do_store 19 = .ok (.iload_n 1, 1) := by decide +kernel
theorem d_Do_store_20 : decode b_Do_store 20 = .ok (.iload 6, 2) := by decide +kernel
theorem d_Do_store_22 : decode b_Do_store 22 = .ok (.iastore, 1) := by decide +kernel
theorem d_Do_store_23 : decode b_Do_store 23 = .ok (.aload_n 0, 1) := by decide +kernel
theorem d_Do_store_24 : decode b_Do_store 24 = .ok (.dup, 1) := by decide +kernel
theorem d_Do_store_25 : decode b_Do_store 25 = .ok (.getfield 27, 3) := by decide +kernel
theorem d_Do_store_28 : decode b_Do_store 28 = .ok (.iconst 1, 1) := by decide +kernel
theorem d_Do_store_29 : decode b_Do_store 29 = .ok (.iload_n 1, 1) := by decide +kernel
theorem d_Do_store_30 : decode b_Do_store 30 = .ok (.ishl, 1) := by decide +kernel
theorem d_Do_store_31 : decode b_Do_store 31 = .ok (.ior, 1) := by decide +kernel
theorem d_Do_store_32 : decode b_Do_store 32 = .ok (.putfield 27, 3) := by decide +kernel
theorem d_Do_store_35 : decode b_Do_store 35 = .ok (.return_, 1) := by decide +kernel
theorem d_Do_vector_0 : decode b_Do_vector 0 = .ok (.aload_n 0, 1) := by decide +kernel
theorem d_Do_vector_1 : decode b_Do_vector 1 = .ok (.getfield 11, 3) := by decide +kernel
theorem d_Do_vector_4 : decode b_Do_vector 4 = .ok (.iload_n 1, 1) := by decide +kernel
theorem d_Do_vector_5 : decode b_Do_vector 5 = .ok (.aaload, 1) := by decide +kernel
theorem d_Do_vector_6 : decode b_Do_vector 6 = .ok (.areturn, 1) := by decide +kernel
theorem d_Do_measure_0 : decode b_Do_measure 0 = .ok (.iconst 0, 1) := by decide +kernel
theorem d_Do_measure_1 : decode b_Do_measure 1 = .ok (.istore_n 3, 1) := by decide +kernel
theorem d_Do_measure_2 : decode b_Do_measure 2 = .ok (.iload_n 3, 1) := by decide +kernel
theorem d_Do_measure_3 : decode b_Do_measure 3 = .ok (.bipush 30, 2) := by decide +kernel
theorem d_Do_measure_5 : decode b_Do_measure 5 = .ok (.if_icmp .ge 22, 3) := by decide +kernel
theorem d_Do_measure_8 : decode b_Do_measure 8 = .ok (.aload_n 2, 1) := by decide +kernel
theorem d_Do_measure_9 : decode b_Do_measure 9 = .ok (.iload_n 3, 1) := by decide +kernel
theorem d_Do_measure_10 : decode b_Do_measure 10 = .ok (.aload_n 1, 1) := by decide +kernel
theorem d_Do_measure_11 : decode b_Do_measure 11 = .ok (.aload_n 0, 1) := by decide +kernel
theorem d_Do_measure_12 : decode b_Do_measure 12 = .ok (.getfield 11, 3) := by decide +kernel
theorem d_Do_measure_15 : decode b_Do_measure 15 = .ok (.iload_n 3, 1) := by decide +kernel
theorem d_Do_measure_16 : decode b_Do_measure 16 = .ok (.aaload, 1) := by decide +kernel
theorem d_Do_measure_17 : decode b_Do_measure 17 = .ok (.invokestatic 48, 3) := by decide +kernel
theorem d_Do_measure_20 : decode b_Do_measure 20 = .ok (.iastore, 1) := by decide +kernel
theorem d_Do_measure_21 : decode b_Do_measure 21 = .ok (.iinc 3 1, 3) := by decide +kernel
theorem d_Do_measure_24 : decode b_Do_measure 24 = .ok (.goto (-22), 3) := by decide +kernel
theorem d_Do_measure_27 : decode b_Do_measure 27 = .ok (.return_, 1) := by decide +kernel
theorem d_Do_retire_0 : decode b_Do_retire 0 = .ok (.aload_n 0, 1) := by decide +kernel
theorem d_Do_retire_1 : decode b_Do_retire 1 = .ok (.iload_n 1, 1) := by decide +kernel
theorem d_Do_retire_2 : decode b_Do_retire 2 = .ok (.invokevirtual 31, 3) := by decide +kernel
theorem d_Do_retire_5 : decode b_Do_retire 5 = .ok (.ifCond .ne 5, 3) := by decide +kernel
theorem d_Do_retire_8 : decode b_Do_retire 8 = .ok (.iconst 0, 1) := by decide +kernel
theorem d_Do_retire_9 : decode b_Do_retire 9 = .ok (.ireturn, 1) := by decide +kernel
theorem d_Do_retire_10 : decode b_Do_retire 10 = .ok (.aload_n 0, 1) := by decide +kernel
theorem d_Do_retire_11 : decode b_Do_retire 11 = .ok (.dup, 1) := by decide +kernel
theorem d_Do_retire_12 : decode b_Do_retire 12 = .ok (.getfield 27, 3) := by decide +kernel
theorem d_Do_retire_15 : decode b_Do_retire 15 = .ok (.iconst 1, 1) := by decide +kernel
theorem d_Do_retire_16 : decode b_Do_retire 16 = .ok (.iload_n 1, 1) := by decide +kernel
theorem d_Do_retire_17 : decode b_Do_retire 17 = .ok (.ishl, 1) := by decide +kernel
theorem d_Do_retire_18 : decode b_Do_retire 18 = .ok (.iconst (-1), 1) := by decide +kernel
theorem d_Do_retire_19 : decode b_Do_retire 19 = .ok (.ixor, 1) := by decide +kernel
theorem d_Do_retire_20 : decode b_Do_retire 20 = .ok (.iand, 1) := by decide +kernel
theorem d_Do_retire_21 : decode b_Do_retire 21 = .ok (.putfield 27, 3) := by decide +kernel
theorem d_Do_retire_24 : decode b_Do_retire 24 = .ok (.iconst 1, 1) := by decide +kernel
theorem d_Do_retire_25 : decode b_Do_retire 25 = .ok (.ireturn, 1) := by decide +kernel
theorem d_Do_isLive_0 : decode b_Do_isLive 0 = .ok (.iload_n 1, 1) := by decide +kernel
theorem d_Do_isLive_1 : decode b_Do_isLive 1 = .ok (.invokestatic 35, 3) := by decide +kernel
theorem d_Do_isLive_4 : decode b_Do_isLive 4 = .ok (.ifCond .eq 18, 3) := by decide +kernel
theorem d_Do_isLive_7 : decode b_Do_isLive 7 = .ok (.aload_n 0, 1) := by decide +kernel
theorem d_Do_isLive_8 : decode b_Do_isLive 8 = .ok (.getfield 27, 3) := by decide +kernel
theorem d_Do_isLive_11 : decode b_Do_isLive 11 = .ok (.iload_n 1, 1) := by decide +kernel
theorem d_Do_isLive_12 : decode b_Do_isLive 12 = .ok (.invokestatic 38, 3) := by decide +kernel
theorem d_Do_isLive_15 : decode b_Do_isLive 15 = .ok (.ifCond .eq 7, 3) := by decide +kernel
theorem d_Do_isLive_18 : decode b_Do_isLive 18 = .ok (.iconst 1, 1) := by decide +kernel
theorem d_Do_isLive_19 : decode b_Do_isLive 19 = .ok (.goto 4, 3) := by decide +kernel
theorem d_Do_isLive_22 : decode b_Do_isLive 22 = .ok (.iconst 0, 1) := by decide +kernel
theorem d_Do_isLive_23 : decode b_Do_isLive 23 = .ok (.ireturn, 1) := by decide +kernel
theorem d_Do_liveCount_0 : decode b_Do_liveCount 0 = .ok (.aload_n 0, 1) := by decide +kernel
theorem d_Do_liveCount_1 : decode b_Do_liveCount 1 = .ok (.getfield 27, 3) := by decide +kernel
theorem d_Do_liveCount_4 : decode b_Do_liveCount 4 = .ok (.invokestatic 42, 3) := by decide +kernel
theorem d_Do_liveCount_7 : decode b_Do_liveCount 7 = .ok (.ireturn, 1) := by decide +kernel
theorem d_Do_rankByDistance_0 : decode b_Do_rankByDistance 0 = .ok (.iconst 0, 1) := by decide +kernel
theorem d_Do_rankByDistance_1 : decode b_Do_rankByDistance 1 = .ok (.istore_n 3, 1) := by decide +kernel
theorem d_Do_rankByDistance_2 : decode b_Do_rankByDistance 2 = .ok (.iload_n 3, 1) := by decide +kernel
theorem d_Do_rankByDistance_3 : decode b_Do_rankByDistance 3 = .ok (.bipush 30, 2) := by decide +kernel
theorem d_Do_rankByDistance_5 : decode b_Do_rankByDistance 5 = .ok (.if_icmp .ge 33, 3) := by decide +kernel
theorem d_Do_rankByDistance_8 : decode b_Do_rankByDistance 8 = .ok (.aload_n 0, 1) := by decide +kernel
theorem d_Do_rankByDistance_9 : decode b_Do_rankByDistance 9 = .ok (.iload_n 3, 1) := by decide +kernel
theorem d_Do_rankByDistance_10 : decode b_Do_rankByDistance 10 = .ok (.invokevirtual 31, 3) := by decide +kernel
theorem d_Do_rankByDistance_13 : decode b_Do_rankByDistance 13 = .ok (.ifCond .eq 19, 3) := by decide +kernel
theorem d_Do_rankByDistance_16 : decode b_Do_rankByDistance 16 = .ok (.aload_n 2, 1) := by decide +kernel
theorem d_Do_rankByDistance_17 : decode b_Do_rankByDistance 17 = .ok (.iload_n 3, 1) := by decide +kernel
theorem d_Do_rankByDistance_18 : decode b_Do_rankByDistance 18 = .ok (.aload_n 1, 1) := by decide +kernel
theorem d_Do_rankByDistance_19 : decode b_Do_rankByDistance 19 = .ok (.aload_n 0, 1) := by decide +kernel
theorem d_Do_rankByDistance_20 : decode b_Do_rankByDistance 20 = .ok (.getfield 11, 3) := by decide +kernel
theorem d_Do_rankByDistance_23 : decode b_Do_rankByDistance 23 = .ok (.iload_n 3, 1) := by decide +kernel
theorem d_Do_rankByDistance_24 : decode b_Do_rankByDistance 24 = .ok (.aaload, 1) := by decide +kernel
theorem d_Do_rankByDistance_25 : decode b_Do_rankByDistance 25 = .ok (.invokestatic 48, 3) := by decide +kernel
theorem d_Do_rankByDistance_28 : decode b_Do_rankByDistance 28 = .ok (.invokevirtual 52, 3) := by decide +kernel
theorem d_Do_rankByDistance_31 : decode b_Do_rankByDistance 31 = .ok (.pop, 1) := by decide +kernel
theorem d_Do_rankByDistance_32 : decode b_Do_rankByDistance 32 = .ok (.iinc 3 1, 3) := by decide +kernel
theorem d_Do_rankByDistance_35 : decode b_Do_rankByDistance 35 = .ok (.goto (-33), 3) := by decide +kernel
theorem d_Do_rankByDistance_38 : decode b_Do_rankByDistance 38 = .ok (.return_, 1) := by decide +kernel
theorem d_Do_rankByScore_0 : decode b_Do_rankByScore 0 = .ok (.aload_n 0, 1) := by decide +kernel
theorem d_Do_rankByScore_1 : decode b_Do_rankByScore 1 = .ok (.invokevirtual 57, 3) := by decide +kernel
theorem d_Do_rankByScore_4 : decode b_Do_rankByScore 4 = .ok (.iconst 0, 1) := by decide +kernel
theorem d_Do_rankByScore_5 : decode b_Do_rankByScore 5 = .ok (.istore_n 3, 1) := by decide +kernel
theorem d_Do_rankByScore_6 : decode b_Do_rankByScore 6 = .ok (.iload_n 3, 1) := by decide +kernel
theorem d_Do_rankByScore_7 : decode b_Do_rankByScore 7 = .ok (.bipush 30, 2) := by decide +kernel
theorem d_Do_rankByScore_9 : decode b_Do_rankByScore 9 = .ok (.if_icmp .ge 42, 3) := by decide +kernel
theorem d_Do_rankByScore_12 : decode b_Do_rankByScore 12 = .ok (.aload_n 0, 1) := by decide +kernel
theorem d_Do_rankByScore_13 : decode b_Do_rankByScore 13 = .ok (.iload_n 3, 1) := by decide +kernel
theorem d_Do_rankByScore_14 : decode b_Do_rankByScore 14 = .ok (.invokevirtual 31, 3) := by decide +kernel
theorem d_Do_rankByScore_17 : decode b_Do_rankByScore 17 = .ok (.ifCond .eq 12, 3) := by decide +kernel
theorem d_Do_rankByScore_20 : decode b_Do_rankByScore 20 = .ok (.aload_n 0, 1) := by decide +kernel
theorem d_Do_rankByScore_21 : decode b_Do_rankByScore 21 = .ok (.iload_n 3, 1) := by decide +kernel
theorem d_Do_rankByScore_22 : decode b_Do_rankByScore 22 = .ok (.iload_n 1, 1) := by decide +kernel
theorem d_Do_rankByScore_23 : decode b_Do_rankByScore 23 = .ok (.invokevirtual 60, 3) := by decide +kernel
theorem d_Do_rankByScore_26 : decode b_Do_rankByScore 26 = .ok (.goto 4, 3) := by decide +kernel
theorem d_Do_rankByScore_29 : decode b_Do_rankByScore 29 = .ok (.iconst 0, 1) := by decide +kernel
theorem d_Do_rankByScore_30 : decode b_Do_rankByScore 30 = .ok (.istore 4, 2) := by decide +kernel
theorem d_Do_rankByScore_32 : decode b_Do_rankByScore 32 = .ok (.iload 4, 2) := by decide +kernel
theorem d_Do_rankByScore_34 : decode b_Do_rankByScore 34 = .ok (.ifCond .le 11, 3) := by decide +kernel
theorem d_Do_rankByScore_37 : decode b_Do_rankByScore 37 = .ok (.aload_n 2, 1) := by decide +kernel
theorem d_Do_rankByScore_38 : decode b_Do_rankByScore 38 = .ok (.iload_n 3, 1) := by decide +kernel
theorem d_Do_rankByScore_39 : decode b_Do_rankByScore 39 = .ok (.iload 4, 2) := by decide +kernel
theorem d_Do_rankByScore_41 : decode b_Do_rankByScore 41 = .ok (.invokevirtual 52, 3) := by decide +kernel
theorem d_Do_rankByScore_44 : decode b_Do_rankByScore 44 = .ok (.pop, 1) := by decide +kernel
theorem d_Do_rankByScore_45 : decode b_Do_rankByScore 45 = .ok (.iinc 3 1, 3) := by decide +kernel
theorem d_Do_rankByScore_48 : decode b_Do_rankByScore 48 = .ok (.goto (-42), 3) := by decide +kernel
theorem d_Do_rankByScore_51 : decode b_Do_rankByScore 51 = .ok (.return_, 1) := by decide +kernel
theorem d_Do_weighWords_0 : decode b_Do_weighWords 0 = .ok (.iconst 0, 1) := by decide +kernel
theorem d_Do_weighWords_1 : decode b_Do_weighWords 1 = .ok (.istore_n 1, 1) := by decide +kernel
theorem d_Do_weighWords_2 : decode b_Do_weighWords 2 = .ok (.iload_n 1, 1) := by decide +kernel
theorem d_Do_weighWords_3 : decode b_Do_weighWords 3 = .ok (.bipush 8, 2) := by decide +kernel
theorem d_Do_weighWords_5 : decode b_Do_weighWords 5 = .ok (.if_icmp .ge 37, 3) := by decide +kernel
theorem d_Do_weighWords_8 : decode b_Do_weighWords 8 = .ok (.aload_n 0, 1) := by decide +kernel
theorem d_Do_weighWords_9 : decode b_Do_weighWords 9 = .ok (.iload_n 1, 1) := by decide +kernel
theorem d_Do_weighWords_10 : decode b_Do_weighWords 10 = .ok (.invokevirtual 64, 3) := by decide +kernel
theorem d_Do_weighWords_13 : decode b_Do_weighWords 13 = .ok (.istore_n 2, 1) := by decide +kernel
theorem d_Do_weighWords_14 : decode b_Do_weighWords 14 = .ok (.aload_n 0, 1) := by decide +kernel
theorem d_Do_weighWords_15 : decode b_Do_weighWords 15 = .ok (.getfield 20, 3) := by decide +kernel
theorem d_Do_weighWords_18 : decode b_Do_weighWords 18 = .ok (.iload_n 1, 1) := by decide +kernel
theorem d_Do_weighWords_19 : decode b_Do_weighWords 19 = .ok (.iload_n 2, 1) := by decide +kernel
theorem d_Do_weighWords_20 : decode b_Do_weighWords 20 = .ok (.ifCond .le 14, 3) := by decide +kernel
theorem d_Do_weighWords_23 : decode b_Do_weighWords 23 = .ok (.iconst 1, 1) := by decide +kernel
theorem d_Do_weighWords_24 : decode b_Do_weighWords 24 = .ok (.aload_n 0, 1) := by decide +kernel
theorem d_Do_weighWords_25 : decode b_Do_weighWords 25 = .ok (.invokevirtual 67, 3) := by decide +kernel
theorem d_Do_weighWords_28 : decode b_Do_weighWords 28 = .ok (.iload_n 2, 1) := by decide +kernel
theorem d_Do_weighWords_29 : decode b_Do_weighWords 29 = .ok (.idiv, 1) := by decide +kernel
theorem d_Do_weighWords_30 : decode b_Do_weighWords 30 = .ok (.iadd, 1) := by decide +kernel
theorem d_Do_weighWords_31 : decode b_Do_weighWords 31 = .ok (.goto 4, 3) := by decide +kernel
theorem d_Do_weighWords_34 : decode b_Do_weighWords 34 = .ok (.iconst 0, 1) := by decide +kernel
theorem d_Do_weighWords_35 : decode b_Do_weighWords 35 = .ok (.iastore, 1) := by decide +kernel
theorem d_Do_weighWords_36 : decode b_Do_weighWords 36 = .ok (.iinc 1 1, 3) := by decide +kernel
theorem d_Do_weighWords_39 : decode b_Do_weighWords 39 = .ok (.goto (-37), 3) := by decide +kernel
theorem d_Do_weighWords_42 : decode b_Do_weighWords 42 = .ok (.return_, 1) := by decide +kernel
theorem d_Do_liveWith_0 : decode b_Do_liveWith 0 = .ok (.iconst 0, 1) := by decide +kernel
theorem d_Do_liveWith_1 : decode b_Do_liveWith 1 = .ok (.istore_n 2, 1) := by decide +kernel
theorem d_Do_liveWith_2 : decode b_Do_liveWith 2 = .ok (.iconst 0, 1) := by decide +kernel
theorem d_Do_liveWith_3 : decode b_Do_liveWith 3 = .ok (.istore_n 3, 1) := by decide +kernel
theorem d_Do_liveWith_4 : decode b_Do_liveWith 4 = .ok (.iload_n 3, 1) := by decide +kernel
theorem d_Do_liveWith_5 : decode b_Do_liveWith 5 = .ok (.bipush 30, 2) := by decide +kernel
theorem d_Do_liveWith_7 : decode b_Do_liveWith 7 = .ok (.if_icmp .ge 29, 3) := by decide +kernel
theorem d_Do_liveWith_10 : decode b_Do_liveWith 10 = .ok (.aload_n 0, 1) := by decide +kernel
theorem d_Do_liveWith_11 : decode b_Do_liveWith 11 = .ok (.iload_n 3, 1) := by decide +kernel
theorem d_Do_liveWith_12 : decode b_Do_liveWith 12 = .ok (.invokevirtual 31, 3) := by decide +kernel
theorem d_Do_liveWith_15 : decode b_Do_liveWith 15 = .ok (.ifCond .eq 15, 3) := by decide +kernel
theorem d_Do_liveWith_18 : decode b_Do_liveWith 18 = .ok (.aload_n 0, 1) := by decide +kernel
theorem d_Do_liveWith_19 : decode b_Do_liveWith 19 = .ok (.iload_n 3, 1) := by decide +kernel
theorem d_Do_liveWith_20 : decode b_Do_liveWith 20 = .ok (.iload_n 1, 1) := by decide +kernel
theorem d_Do_liveWith_21 : decode b_Do_liveWith 21 = .ok (.invokevirtual 71, 3) := by decide +kernel
theorem d_Do_liveWith_24 : decode b_Do_liveWith 24 = .ok (.ifCond .le 6, 3) := by decide +kernel
theorem d_Do_liveWith_27 : decode b_Do_liveWith 27 = .ok (.iinc 2 1, 3) := by decide +kernel
theorem d_Do_liveWith_30 : decode b_Do_liveWith 30 = .ok (.iinc 3 1, 3) := by decide +kernel
theorem d_Do_liveWith_33 : decode b_Do_liveWith 33 = .ok (.goto (-29), 3) := by decide +kernel
theorem d_Do_liveWith_36 : decode b_Do_liveWith 36 = .ok (.iload_n 2, 1) := by decide +kernel
theorem d_Do_liveWith_37 : decode b_Do_liveWith 37 = .ok (.ireturn, 1) := by decide +kernel
theorem d_Do_countOfWord_0 : decode b_Do_countOfWord 0 = .ok (.aload_n 0, 1) := by decide +kernel
theorem d_Do_countOfWord_1 : decode b_Do_countOfWord 1 = .ok (.getfield 16, 3) := by decide +kernel
theorem d_Do_countOfWord_4 : decode b_Do_countOfWord 4 = .ok (.iload_n 1, 1) := by decide +kernel
theorem d_Do_countOfWord_5 : decode b_Do_countOfWord 5 = .ok (.iaload, 1) := by decide +kernel
theorem d_Do_countOfWord_6 : decode b_Do_countOfWord 6 = .ok (.iconst 3, 1) := by decide +kernel
theorem d_Do_countOfWord_7 : decode b_Do_countOfWord 7 = .ok (.iload_n 2, 1) := by decide +kernel
theorem d_Do_countOfWord_8 : decode b_Do_countOfWord 8 = .ok (.imul, 1) := by decide +kernel
theorem d_Do_countOfWord_9 : decode b_Do_countOfWord 9 = .ok (.ishr, 1) := by decide +kernel
theorem d_Do_countOfWord_10 : decode b_Do_countOfWord 10 = .ok (.bipush 7, 2) := by decide +kernel
theorem d_Do_countOfWord_12 : decode b_Do_countOfWord 12 = .ok (.iand, 1) := by decide +kernel
theorem d_Do_countOfWord_13 : decode b_Do_countOfWord 13 = .ok (.ireturn, 1) := by decide +kernel
theorem d_Do_score_0 : decode b_Do_score 0 = .ok (.iconst 0, 1) := by decide +kernel
theorem d_Do_score_1 : decode b_Do_score 1 = .ok (.istore_n 3, 1) := by decide +kernel
theorem d_Do_score_2 : decode b_Do_score 2 = .ok (.iconst 0, 1) := by decide +kernel
theorem d_Do_score_3 : decode b_Do_score 3 = .ok (.istore 4, 2) := by decide +kernel
theorem d_Do_score_5 : decode b_Do_score 5 = .ok (.iload 4, 2) := by decide +kernel
theorem d_Do_score_7 : decode b_Do_score 7 = .ok (.bipush 8, 2) := by decide +kernel
theorem d_Do_score_9 : decode b_Do_score 9 = .ok (.if_icmp .ge 48, 3) := by decide +kernel
theorem d_Do_score_12 : decode b_Do_score 12 = .ok (.iload_n 2, 1) := by decide +kernel
theorem d_Do_score_13 : decode b_Do_score 13 = .ok (.iload 4, 2) := by decide +kernel
theorem d_Do_score_15 : decode b_Do_score 15 = .ok (.invokestatic 38, 3) := by decide +kernel
theorem d_Do_score_18 : decode b_Do_score 18 = .ok (.ifCond .eq 33, 3) := by decide +kernel
theorem d_Do_score_21 : decode b_Do_score 21 = .ok (.aload_n 0, 1) := by decide +kernel
theorem d_Do_score_22 : decode b_Do_score 22 = .ok (.iload_n 1, 1) := by decide +kernel
theorem d_Do_score_23 : decode b_Do_score 23 = .ok (.iload 4, 2) := by decide +kernel
theorem d_Do_score_25 : decode b_Do_score 25 = .ok (.invokevirtual 71, 3) := by decide +kernel
theorem d_Do_score_28 : decode b_Do_score 28 = .ok (.istore 5, 2) := by decide +kernel
theorem d_Do_score_30 : decode b_Do_score 30 = .ok (.iload_n 3, 1) := by decide +kernel
theorem d_Do_score_31 : decode b_Do_score 31 = .ok (.bipush 100, 2) := by decide +kernel
theorem d_Do_score_33 : decode b_Do_score 33 = .ok (.iload 5, 2) := by decide +kernel
theorem d_Do_score_35 : decode b_Do_score 35 = .ok (.imul, 1) := by decide +kernel
theorem d_Do_score_36 : decode b_Do_score 36 = .ok (.iload 5, 2) := by decide +kernel
theorem d_Do_score_38 : decode b_Do_score 38 = .ok (.iconst 1, 1) := by decide +kernel
theorem d_Do_score_39 : decode b_Do_score 39 = .ok (.iadd, 1) := by decide +kernel
theorem d_Do_score_40 : decode b_Do_score 40 = .ok (.idiv, 1) := by decide +kernel
theorem d_Do_score_41 : decode b_Do_score 41 = .ok (.aload_n 0, 1) := by decide +kernel
theorem d_Do_score_42 : decode b_Do_score 42 = .ok (.getfield 20, 3) := by decide +kernel
theorem d_Do_score_45 : decode b_Do_score 45 = .ok (.iload 4, 2) := by decide +kernel
theorem d_Do_score_47 : decode b_Do_score 47 = .ok (.iaload, 1) := by decide +kernel
theorem d_Do_score_48 : decode b_Do_score 48 = .ok (.imul, 1) := by decide +kernel
theorem d_Do_score_49 : decode b_Do_score 49 = .ok (.iadd, 1) := by decide +kernel
theorem d_Do_score_50 : decode b_Do_score 50 = .ok (.istore_n 3, 1) := by decide +kernel
theorem d_Do_score_51 : decode b_Do_score 51 = .ok (.iinc 4 1, 3) := by decide +kernel
theorem d_Do_score_54 : decode b_Do_score 54 = .ok (.goto (-49), 3) := by decide +kernel
theorem d_Do_score_57 : decode b_Do_score 57 = .ok (.iload_n 3, 1) := by decide +kernel
theorem d_Do_score_58 : decode b_Do_score 58 = .ok (.ireturn, 1) := by decide +kernel
theorem d_Do_counts_0 : decode b_Do_counts 0 = .ok (.aload_n 0, 1) := by decide +kernel
theorem d_Do_counts_1 : decode b_Do_counts 1 = .ok (.getfield 16, 3) := by decide +kernel
theorem d_Do_counts_4 : decode b_Do_counts 4 = .ok (.iload_n 1, 1) := by decide +kernel
theorem d_Do_counts_5 : decode b_Do_counts 5 = .ok (.iaload, 1) := by decide +kernel
theorem d_Do_counts_6 : decode b_Do_counts 6 = .ok (.ireturn, 1) := by decide +kernel
theorem d_Do_coordinate_0 : decode b_Do_coordinate 0 = .ok (.aload_n 0, 1) := by decide +kernel
theorem d_Do_coordinate_1 : decode b_Do_coordinate 1 = .ok (.getfield 11, 3) := by decide +kernel
theorem d_Do_coordinate_4 : decode b_Do_coordinate 4 = .ok (.iload_n 1, 1) := by decide +kernel
theorem d_Do_coordinate_5 : decode b_Do_coordinate 5 = .ok (.aaload, 1) := by decide +kernel
theorem d_Do_coordinate_6 : decode b_Do_coordinate 6 = .ok (.iload_n 2, 1) := by decide +kernel
theorem d_Do_coordinate_7 : decode b_Do_coordinate 7 = .ok (.iaload, 1) := by decide +kernel
theorem d_Do_coordinate_8 : decode b_Do_coordinate 8 = .ok (.ireturn, 1) := by decide +kernel
