theorem d_Li_freeNumber_0 : decode b_Li_freeNumber 0 = .ok (.iconst 0, 1) := by decide +kernel
theorem d_Li_freeNumber_1 : decode b_Li_freeNumber 1 = .ok (.istore_n 1, 1) := by decide +kernel
theorem d_Li_freeNumber_2 : decode b_Li_freeNumber 2 = .ok (.iload_n 1, 1) := by decide +kernel
theorem d_Li_freeNumber_3 : decode b_Li_freeNumber 3 = .ok (.bipush 30, 2) := by decide +kernel
theorem d_Li_freeNumber_5 : decode b_Li_freeNumber 5 = .ok (.if_icmp .ge 20, 3) := by decide +kernel
theorem d_Li_freeNumber_8 : decode b_Li_freeNumber 8 = .ok (.aload_n 0, 1) := by decide +kernel
theorem d_Li_freeNumber_9 : decode b_Li_freeNumber 9 = .ok (.getfield 9, 3) := by decide +kernel
theorem d_Li_freeNumber_12 : decode b_Li_freeNumber 12 = .ok (.iload_n 1, 1) := by decide +kernel
theorem d_Li_freeNumber_13 : decode b_Li_freeNumber 13 = .ok (.iaload, 1) := by decide +kernel
theorem d_Li_freeNumber_14 : decode b_Li_freeNumber 14 = .ok (.ifCond .ne 5, 3) := by decide +kernel
theorem d_Li_freeNumber_17 : decode b_Li_freeNumber 17 = .ok (.iload_n 1, 1) := by decide +kernel
theorem d_Li_freeNumber_18 : decode b_Li_freeNumber 18 = .ok (.ireturn, 1) := by decide +kernel
theorem d_Li_freeNumber_19 : decode b_Li_freeNumber 19 = .ok (.iinc 1 1, 3) := by decide +kernel
theorem d_Li_freeNumber_22 : decode b_Li_freeNumber 22 = .ok (.goto (-20), 3) := by decide +kernel
theorem d_Li_freeNumber_25 : decode b_Li_freeNumber 25 = .ok (.bipush (-2), 2) := by decide +kernel
theorem d_Li_freeNumber_27 : decode b_Li_freeNumber 27 = .ok (.ireturn, 1) := by decide +kernel
theorem d_Li_addNode_0 : decode b_Li_addNode 0 = .ok (.aload_n 0, 1) := by decide +kernel
theorem d_Li_addNode_1 : decode b_Li_addNode 1 = .ok (.dup, 1) := by decide +kernel
theorem d_Li_addNode_2 : decode b_Li_addNode 2 = .ok (.getfield 27, 3) := by decide +kernel
theorem d_Li_addNode_5 : decode b_Li_addNode 5 = .ok (.iconst 1, 1) := by decide +kernel
theorem d_Li_addNode_6 : decode b_Li_addNode 6 = .ok (.iadd, 1) := by decide +kernel
theorem d_Li_addNode_7 : decode b_Li_addNode 7 = .ok (.putfield 27, 3) := by decide +kernel
theorem d_Li_addNode_10 : decode b_Li_addNode 10 = .ok (.aload_n 0, 1) := by decide +kernel
theorem d_Li_addNode_11 : decode b_Li_addNode 11 = .ok (.getfield 9, 3) := by decide +kernel
theorem d_Li_addNode_14 : decode b_Li_addNode 14 = .ok (.iload_n 1, 1) := by decide +kernel
theorem d_Li_addNode_15 : decode b_Li_addNode 15 = .ok (.aload_n 0, 1) := by decide +kernel
theorem d_Li_addNode_16 : decode b_Li_addNode 16 = .ok (.getfield 27, 3) := by decide +kernel
theorem d_Li_addNode_19 : decode b_Li_addNode 19 = .ok (.iastore, 1) := by decide +kernel
theorem d_Li_addNode_20 : decode b_Li_addNode 20 = .ok (.aload_n 0, 1) := by decide +kernel
theorem d_Li_addNode_21 : decode b_Li_addNode 21 = .ok (.getfield 15, 3) := by decide +kernel
theorem d_Li_addNode_24 : decode b_Li_addNode 24 = .ok (.iload_n 1, 1) := by decide +kernel
theorem d_Li_addNode_25 : decode b_Li_addNode 25 = .ok (.aload_n 0, 1) := by decide +kernel
theorem d_Li_addNode_26 : decode b_Li_addNode 26 = .ok (.getfield 27, 3) := by decide +kernel
theorem d_Li_addNode_29 : decode b_Li_addNode 29 = .ok (.invokestatic 31, 3) := by decide +kernel
theorem d_Li_addNode_32 : decode b_Li_addNode 32 = .ok (.iastore, 1) := by decide +kernel
theorem d_Li_addNode_33 : decode b_Li_addNode 33 = .ok (.iconst 0, 1) := by decide +kernel
theorem d_Li_addNode_34 : decode b_Li_addNode 34 = .ok (.istore_n 2, 1) := by decide +kernel
theorem d_Li_addNode_35 : decode b_Li_addNode 35 = .ok (.iload_n 2, 1) := by decide +kernel
theorem d_Li_addNode_36 : decode b_Li_addNode 36 = .ok (.iconst 4, 1) := by decide +kernel
theorem d_Li_addNode_37 : decode b_Li_addNode 37 = .ok (.if_icmp .ge 20, 3) := by decide +kernel
theorem d_Li_addNode_40 : decode b_Li_addNode 40 = .ok (.aload_n 0, 1) := by decide +kernel
theorem d_Li_addNode_41 : decode b_Li_addNode 41 = .ok (.getfield 18, 3) := by decide +kernel
theorem d_Li_addNode_44 : decode b_Li_addNode 44 = .ok (.iload_n 1, 1) := by decide +kernel
theorem d_Li_addNode_45 : decode b_Li_addNode 45 = .ok (.iconst 4, 1) := by decide +kernel
theorem d_Li_addNode_46 : decode b_Li_addNode 46 = .ok (.imul, 1) := by decide +kernel
theorem d_Li_addNode_47 : decode b_Li_addNode 47 = .ok (.iload_n 2, 1) := by decide +kernel
theorem d_Li_addNode_48 : decode b_Li_addNode 48 = .ok (.iadd, 1) := by decide +kernel
theorem d_Li_addNode_49 : decode b_Li_addNode 49 = .ok (.iconst 0, 1) := by decide +kernel
theorem d_Li_addNode_50 : decode b_Li_addNode 50 = .ok (.iastore, 1) := by decide +kernel
theorem d_Li_addNode_51 : decode b_Li_addNode 51 = .ok (.iinc 2 1, 3) := by decide +kernel
theorem d_Li_addNode_54 : decode b_Li_addNode 54 = .ok (.goto (-19), 3) := by decide +kernel
theorem d_Li_addNode_57 : decode b_Li_addNode 57 = .ok (.return_, 1) := by decide +kernel
theorem d_Li_levelOf_0 : decode b_Li_levelOf 0 = .ok (.iconst 0, 1) := by decide +kernel
theorem d_Li_levelOf_1 : decode b_Li_levelOf 1 = .ok (.istore_n 1, 1) := by decide +kernel
theorem d_Li_levelOf_2 : decode b_Li_levelOf 2 = .ok (.iload_n 0, 1) := by decide +kernel
theorem d_Li_levelOf_3 : decode b_Li_levelOf 3 = .ok (.istore_n 2, 1) := by decide +kernel
theorem d_Li_levelOf_4 : decode b_Li_levelOf 4 = .ok (.iload_n 1, 1) := by decide +kernel
theorem d_Li_levelOf_5 : decode b_Li_levelOf 5 = .ok (.iconst 3, 1) := by decide +kernel
theorem d_Li_levelOf_6 : decode b_Li_levelOf 6 = .ok (.if_icmp .ge 19, 3) := by decide +kernel
theorem d_Li_levelOf_9 : decode b_Li_levelOf 9 = .ok (.iload_n 2, 1) := by decide +kernel
theorem d_Li_levelOf_10 : decode b_Li_levelOf 10 = .ok (.iconst 3, 1) := by decide +kernel
theorem d_Li_levelOf_11 : decode b_Li_levelOf 11 = .ok (.irem, 1) := by decide +kernel
theorem d_Li_levelOf_12 : decode b_Li_levelOf 12 = .ok (.ifCond .ne 13, 3) := by decide +kernel
theorem d_Li_levelOf_15 : decode b_Li_levelOf 15 = .ok (.iload_n 2, 1) := by decide +kernel
theorem d_Li_levelOf_16 : decode b_Li_levelOf 16 = .ok (.iconst 3, 1) := by decide +kernel
theorem d_Li_levelOf_17 : decode b_Li_levelOf 17 = .ok (.idiv, 1) := by decide +kernel
theorem d_Li_levelOf_18 : decode b_Li_levelOf 18 = .ok (.istore_n 2, 1) := by decide +kernel
theorem d_Li_levelOf_19 : decode b_Li_levelOf 19 = .ok (.iinc 1 1, 3) := by decide +kernel
theorem d_Li_levelOf_22 : decode b_Li_levelOf 22 = .ok (.goto (-18), 3) := by decide +kernel
theorem d_Li_levelOf_25 : decode b_Li_levelOf 25 = .ok (.iload_n 1, 1) := by decide +kernel
theorem d_Li_levelOf_26 : decode b_Li_levelOf 26 = .ok (.ireturn, 1) := by decide +kernel
theorem d_Li_level_0 : decode b_Li_level 0 = .ok (.aload_n 0, 1) := by decide +kernel
theorem d_Li_level_1 : decode b_Li_level 1 = .ok (.getfield 15, 3) := by decide +kernel
theorem d_Li_level_4 : decode b_Li_level 4 = .ok (.iload_n 1, 1) := by decide +kernel
theorem d_Li_level_5 : decode b_Li_level 5 = .ok (.iaload, 1) := by decide +kernel
theorem d_Li_level_6 : decode b_Li_level 6 = .ok (.ireturn, 1) := by decide +kernel
theorem d_Li_degree_0 : decode b_Li_degree 0 = .ok (.aload_n 0, 1) := by decide +kernel
theorem d_Li_degree_1 : decode b_Li_degree 1 = .ok (.getfield 18, 3) := by decide +kernel
theorem d_Li_degree_4 : decode b_Li_degree 4 = .ok (.iload_n 1, 1) := by decide +kernel
theorem d_Li_degree_5 : decode b_Li_degree 5 = .ok (.iconst 4, 1) := by decide +kernel
theorem d_Li_degree_6 : decode b_Li_degree 6 = .ok (.imul, 1) := by decide +kernel
theorem d_Li_degree_7 : decode b_Li_degree 7 = .ok (.iload_n 2, 1) := by decide +kernel
theorem d_Li_degree_8 : decode b_Li_degree 8 = .ok (.iadd, 1) := by decide +kernel
theorem d_Li_degree_9 : decode b_Li_degree 9 = .ok (.iaload, 1) := by decide +kernel
theorem d_Li_degree_10 : decode b_Li_degree 10 = .ok (.ireturn, 1) := by decide +kernel
theorem d_Li_linked_0 : decode b_Li_linked 0 = .ok (.aload_n 0, 1) := by decide +kernel
theorem d_Li_linked_1 : decode b_Li_linked 1 = .ok (.getfield 21, 3) := by decide +kernel
theorem d_Li_linked_4 : decode b_Li_linked 4 = .ok (.iload_n 1, 1) := by decide +kernel
theorem d_Li_linked_5 : decode b_Li_linked 5 = .ok (.iconst 4, 1) := by decide +kernel
theorem d_Li_linked_6 : decode b_Li_linked 6 = .ok (.imul, 1) := by decide +kernel
theorem d_Li_linked_7 : decode b_Li_linked 7 = .ok (.iload_n 2, 1) := by decide +kernel
theorem d_Li_linked_8 : decode b_Li_linked 8 = .ok (.iadd, 1) := by decide +kernel
theorem d_Li_linked_9 : decode b_Li_linked 9 = .ok (.bipush 7, 2) := by decide +kernel
theorem d_Li_linked_11 : decode b_Li_linked 11 = .ok (.imul, 1) := by decide +kernel
theorem d_Li_linked_12 : decode b_Li_linked 12 = .ok (.iload_n 3, 1) := by decide +kernel
theorem d_Li_linked_13 : decode b_Li_linked 13 = .ok (.iadd, 1) := by decide +kernel
theorem d_Li_linked_14 : decode b_Li_linked 14 = .ok (.iaload, 1) := by decide +kernel
theorem d_Li_linked_15 : decode b_Li_linked 15 = .ok (.ireturn, 1) := by decide +kernel
theorem d_Li_replace_0 : decode b_Li_replace 0 = .ok (.aload_n 0, 1) := by decide +kernel
theorem d_Li_replace_1 : decode b_Li_replace 1 = .ok (.getfield 18, 3) := by decide +kernel
theorem d_Li_replace_4 : decode b_Li_replace 4 = .ok (.iload_n 1, 1) := by decide +kernel
theorem d_Li_replace_5 : decode b_Li_replace 5 = .ok (.iconst 4, 1) := by decide +kernel
theorem d_Li_replace_6 : decode b_Li_replace 6 = .ok (.imul, 1) := by decide +kernel
theorem d_Li_replace_7 : decode b_Li_replace 7 = .ok (.iload_n 2, 1) := by decide +kernel
theorem d_Li_replace_8 : decode b_Li_replace 8 = .ok (.iadd, 1) := by decide +kernel
theorem d_Li_replace_9 : decode b_Li_replace 9 = .ok (.iconst 0, 1) := by decide +kernel
theorem d_Li_replace_10 : decode b_Li_replace 10 = .ok (.iastore, 1) := by decide +kernel
theorem d_Li_replace_11 : decode b_Li_replace 11 = .ok (.iconst 0, 1) := by decide +kernel
theorem d_Li_replace_12 : decode b_Li_replace 12 = .ok (.istore 4, 2) := by decide +kernel
theorem d_Li_replace_14 : decode b_Li_replace 14 = .ok (.iload 4, 2) := by decide +kernel
theorem d_Li_replace_16 : decode b_Li_replace 16 = .ok (.aload_n 3, 1) := by decide +kernel
theorem d_Li_replace_17 : decode b_Li_replace 17 = .ok (.invokevirtual 46, 3) := by decide +kernel
theorem d_Li_replace_20 : decode b_Li_replace 20 = .ok (.if_icmp .ge 21, 3) := by decide +kernel
theorem d_Li_replace_23 : decode b_Li_replace 23 = .ok (.aload_n 0, 1) := by decide +kernel
theorem d_Li_replace_24 : decode b_Li_replace 24 = .ok (.iload_n 1, 1) := by decide +kernel
theorem d_Li_replace_25 : decode b_Li_replace 25 = .ok (.iload_n 2, 1) := by decide +kernel
theorem d_Li_replace_26 : decode b_Li_replace 26 = .ok (.aload_n 3, 1) := by decide +kernel
theorem d_Li_replace_27 : decode b_Li_replace 27 = .ok (.iload 4, 2) := by decide +kernel
theorem d_Li_replace_29 : decode b_Li_replace 29 = .ok (.invokevirtual 51, 3) := by decide +kernel
theorem d_Li_replace_32 : decode b_Li_replace 32 = .ok (.invokevirtual 54, 3) := by decide +kernel
theorem d_Li_replace_35 : decode b_Li_replace 35 = .ok (.iinc 4 1, 3) := by decide +kernel
theorem d_Li_replace_38 : decode b_Li_replace 38 = .ok (.goto (-24), 3) := by decide +kernel
theorem d_Li_replace_41 : decode b_Li_replace 41 = .ok (.return_, 1) := by decide +kernel
theorem d_Li_append_0 : decode b_Li_append 0 = .ok (.iload_n 1, 1) := by decide +kernel
theorem d_Li_append_1 : decode b_Li_append 1 = .ok (.iconst 4, 1) := by decide +kernel
theorem d_Li_append_2 : decode b_Li_append 2 = .ok (.imul, 1) := by decide +kernel
theorem d_Li_append_3 : decode b_Li_append 3 = .ok (.iload_n 2, 1) := by decide +kernel
theorem d_Li_append_4 : decode b_Li_append 4 = .ok (.iadd, 1) := by decide +kernel
theorem d_Li_append_5 : decode b_Li_append 5 = .ok (.istore 4, 2) := by decide +kernel
theorem d_Li_append_7 : decode b_Li_append 7 = .ok (.aload_n 0, 1) := by decide +kernel
theorem d_Li_append_8 : decode b_Li_append 8 = .ok (.getfield 18, 3) := by decide +kernel
theorem d_Li_append_11 : decode b_Li_append 11 = .ok (.iload 4, 2) := by decide +kernel
theorem d_Li_append_13 : decode b_Li_append 13 = .ok (.iaload, 1) := by decide +kernel
theorem d_Li_append_14 : decode b_Li_append 14 = .ok (.bipush 7, 2) := by decide +kernel
theorem d_Li_append_16 : decode b_Li_append 16 = .ok (.if_icmp .ge 33, 3) := by decide +kernel
theorem d_Li_append_19 : decode b_Li_append 19 = .ok (.aload_n 0, 1) := by decide +kernel
theorem d_Li_append_20 : decode b_Li_append 20 = .ok (.getfield 21, 3) := by decide +kernel
theorem d_Li_append_23 : decode b_Li_append 23 = .ok (.iload 4, 2) := by decide +kernel
theorem d_Li_append_25 : decode b_Li_append 25 = .ok (.bipush 7, 2) := by decide +kernel
theorem d_Li_append_27 : decode b_Li_append 27 = .ok (.imul, 1) := by decide +kernel
theorem d_Li_append_28 : decode b_Li_append 28 = .ok (.aload_n 0, 1) := by decide +kernel
theorem d_Li_append_29 : decode b_Li_append 29 = .ok (.getfield 18, 3) := by decide +kernel
theorem d_Li_append_32 : decode b_Li_append 32 = .ok (.iload 4, 2) := by decide +kernel
theorem d_Li_append_34 : decode b_Li_append 34 = .ok (.iaload, 1) := by decide +kernel
theorem d_Li_append_35 : decode b_Li_append 35 = .ok (.iadd, 1) := by decide +kernel
theorem d_Li_append_36 : decode b_Li_append 36 = .ok (.iload_n 3, 1) := by decide +kernel
theorem d_Li_append_37 : decode b_Li_append 37 = .ok (.iastore, 1) := by decide +kernel
theorem d_Li_append_38 : decode b_Li_append 38 = .ok (.aload_n 0, 1) := by decide +kernel
theorem d_Li_append_39 : decode b_Li_append 39 = .ok (.getfield 18, 3) := by decide +kernel
theorem d_Li_append_42 : decode b_Li_append 42 = .ok (.iload 4, 2) := by decide +kernel
theorem d_Li_append_44 : decode b_Li_append 44 = .ok (.dup2, 1) := by decide +kernel
theorem d_Li_append_45 : decode b_Li_append 45 = .ok (.iaload, 1) := by decide +kernel
theorem d_Li_append_46 : decode b_Li_append 46 = .ok (.iconst 1, 1) := by decide +kernel
theorem d_Li_append_47 : decode b_Li_append 47 = .ok (.iadd, 1) := by decide +kernel
theorem d_Li_append_48 : decode b_Li_append 48 = .ok (.iastore, 1) := by decide +kernel
theorem d_Li_append_49 : decode b_Li_append 49 = .ok (.return_, 1) := by decide +kernel
theorem d_Li_most_0 : decode b_Li_most 0 = .ok (.iload_n 1, 1) := by decide +kernel
theorem d_Li_most_1 : decode b_Li_most 1 = .ok (.ifCond .ne 8, 3) := by decide +kernel
theorem d_Li_most_4 : decode b_Li_most 4 = .ok (.bipush 6, 2) := by decide +kernel
theorem d_Li_most_6 : decode b_Li_most 6 = .ok (.goto 4, 3) := by decide +kernel
theorem d_Li_most_9 : decode b_Li_most 9 = .ok (.iconst 3, 1) := by decide +kernel
theorem d_Li_most_10 : decode b_Li_most 10 = .ok (.ireturn, 1) := by decide +kernel
theorem d_Li_size_0 : decode b_Li_size 0 = .ok (.aload_n 0, 1) := by decide +kernel
theorem d_Li_size_1 : decode b_Li_size 1 = .ok (.getfield 27, 3) := by decide +kernel
theorem d_Li_size_4 : decode b_Li_size 4 = .ok (.ireturn, 1) := by decide +kernel
theorem d_Li_clear_0 : decode b_Li_clear 0 = .ok (.iconst 0, 1) := by decide +kernel
theorem d_Li_clear_1 : decode b_Li_clear 1 = .ok (.istore_n 1, 1) := by decide +kernel
theorem d_Li_clear_2 : decode b_Li_clear 2 = .ok (.iload_n 1, 1) := by decide +kernel
theorem d_Li_clear_3 : decode b_Li_clear 3 = .ok (.bipush 30, 2) := by decide +kernel
theorem d_Li_clear_5 : decode b_Li_clear 5 = .ok (.if_icmp .ge 16, 3) := by decide +kernel
theorem d_Li_clear_8 : decode b_Li_clear 8 = .ok (.aload_n 0, 1) := by decide +kernel
theorem d_Li_clear_9 : decode b_Li_clear 9 = .ok (.getfield 9, 3) := by decide +kernel
theorem d_Li_clear_12 : decode b_Li_clear 12 = .ok (.iload_n 1, 1) := by decide +kernel
theorem d_Li_clear_13 : decode b_Li_clear 13 = .ok (.iconst 0, 1) := by decide +kernel
theorem d_Li_clear_14 : decode b_Li_clear 14 = .ok (.iastore, 1) := by decide +kernel
theorem d_Li_clear_15 : decode b_Li_clear 15 = .ok (.iinc 1 1, 3) := by decide +kernel
theorem d_Li_clear_18 : decode b_Li_clear 18 = .ok (.goto (-16), 3) := by decide +kernel
theorem d_Li_clear_21 : decode b_Li_clear 21 = .ok (.aload_n 0, 1) := by decide +kernel
theorem d_Li_clear_22 : decode b_Li_clear 22 = .ok (.iconst 0, 1) := by decide +kernel
theorem d_Li_clear_23 : decode b_Li_clear 23 = .ok (.putfield 27, 3) := by decide +kernel
theorem d_Li_clear_26 : decode b_Li_clear 26 = .ok (.return_, 1) := by decide +kernel
theorem d_Li_isNode_0 : decode b_Li_isNode 0 = .ok (.iload_n 1, 1) := by decide +kernel
theorem d_Li_isNode_1 : decode b_Li_isNode 1 = .ok (.invokestatic 35, 3) := by decide +kernel
theorem d_Li_isNode_4 : decode b_Li_isNode 4 = .ok (.ifCond .eq 16, 3) := by decide +kernel
theorem d_Li_isNode_7 : decode b_Li_isNode 7 = .ok (.aload_n 0, 1) := by decide +kernel
theorem d_Li_isNode_8 : decode b_Li_isNode 8 = .ok (.getfield 9, 3) := by decide +kernel
theorem d_Li_isNode_11 : decode b_Li_isNode 11 = .ok (.iload_n 1, 1) := by decide +kernel
theorem d_Li_isNode_12 : decode b_Li_isNode 12 = .ok (.iaload, 1) := by decide +kernel
theorem d_Li_isNode_13 : decode b_Li_isNode 13 = .ok (.ifCond .le 7, 3) := by decide +kernel
theorem d_Li_isNode_16 : decode b_Li_isNode 16 = .ok (.iconst 1, 1) := by decide +kernel
theorem d_Li_isNode_17 : decode b_Li_isNode 17 = .ok (.goto 4, 3) := by decide +kernel
theorem d_Li_isNode_20 : decode b_Li_isNode 20 = .ok (.iconst 0, 1) := by decide +kernel
theorem d_Li_isNode_21 : decode b_Li_isNode 21 = .ok (.ireturn, 1) := by decide +kernel
theorem d_Li_isInLayer_0 : decode b_Li_isInLayer 0 = .ok (.aload_n 0, 1) := by decide +kernel
theorem d_Li_isInLayer_1 : decode b_Li_isInLayer 1 = .ok (.iload_n 1, 1) := by decide +kernel
theorem d_Li_isInLayer_2 : decode b_Li_isInLayer 2 = .ok (.invokevirtual 39, 3) := by decide +kernel
theorem d_Li_isInLayer_5 : decode b_Li_isInLayer 5 = .ok (.ifCond .eq 21, 3) := by decide +kernel
theorem d_Li_isInLayer_8 : decode b_Li_isInLayer 8 = .ok (.iload_n 2, 1) := by decide +kernel
theorem d_Li_isInLayer_9 : decode b_Li_isInLayer 9 = .ok (.iconst 0, 1) := by decide +kernel
theorem d_Li_isInLayer_10 : decode b_Li_isInLayer 10 = .ok (.aload_n 0, 1) := by decide +kernel
theorem d_Li_isInLayer_11 : decode b_Li_isInLayer 11 = .ok (.getfield 15, 3) := by decide +kernel
theorem d_Li_isInLayer_14 : decode b_Li_isInLayer 14 = .ok (.iload_n 1, 1) := by decide +kernel
theorem d_Li_isInLayer_15 : decode b_Li_isInLayer 15 = .ok (.iaload, 1) := by decide +kernel
theorem d_Li_isInLayer_16 : decode b_Li_isInLayer 16 = .ok (.invokestatic 42, 3) := by decide +kernel
theorem d_Li_isInLayer_19 : decode b_Li_isInLayer 19 = .ok (.ifCond .eq 7, 3) := by decide +kernel
theorem d_Li_isInLayer_22 : decode b_Li_isInLayer 22 = .ok (.iconst 1, 1) := by decide +kernel
theorem d_Li_isInLayer_23 : decode b_Li_isInLayer 23 = .ok (.goto 4, 3) := by decide +kernel
theorem d_Li_isInLayer_26 : decode b_Li_isInLayer 26 = .ok (.iconst 0, 1) := by decide +kernel
theorem d_Li_isInLayer_27 : decode b_Li_isInLayer 27 = .ok (.ireturn, 1) := by decide +kernel
theorem d_Li_order_0 : decode b_Li_order 0 = .ok (.aload_n 0, 1) := by decide +kernel
theorem d_Li_order_1 : decode b_Li_order 1 = .ok (.getfield 9, 3) := by decide +kernel
theorem d_Li_order_4 : decode b_Li_order 4 = .ok (.iload_n 1, 1) := by decide +kernel
theorem d_Li_order_5 : decode b_Li_order 5 = .ok (.iaload, 1) := by decide +kernel
theorem d_Li_order_6 : decode b_Li_order 6 = .ok (.ireturn, 1) := by decide +kernel
theorem d_Li_oneSidedPairs_0 : decode b_Li_oneSidedPairs 0 = .ok (.iconst 0, 1) := by decide +kernel
theorem d_Li_oneSidedPairs_1 : decode b_Li_oneSidedPairs 1 = .ok (.istore_n 1, 1) := by decide +kernel
theorem d_Li_oneSidedPairs_2 : decode b_Li_oneSidedPairs 2 = .ok (.iconst 0, 1) := by decide +kernel
theorem d_Li_oneSidedPairs_3 : decode b_Li_oneSidedPairs 3 = .ok (.istore_n 2, 1) := by decide +kernel
theorem d_Li_oneSidedPairs_4 : decode b_Li_oneSidedPairs 4 = .ok (.iload_n 2, 1) := by decide +kernel
theorem d_Li_oneSidedPairs_5 : decode b_Li_oneSidedPairs 5 = .ok (.bipush 30, 2) := by decide +kernel
theorem d_Li_oneSidedPairs_7 : decode b_Li_oneSidedPairs 7 = .ok (.if_icmp .ge 25, 3) := by decide +kernel
theorem d_Li_oneSidedPairs_10 : decode b_Li_oneSidedPairs 10 = .ok (.aload_n 0, 1) := by decide +kernel
theorem d_Li_oneSidedPairs_11 : decode b_Li_oneSidedPairs 11 = .ok (.iload_n 2, 1) := by decide +kernel
theorem d_Li_oneSidedPairs_12 : decode b_Li_oneSidedPairs 12 = .ok (.invokevirtual 39, 3) := by decide +kernel
theorem d_Li_oneSidedPairs_15 : decode b_Li_oneSidedPairs 15 = .ok (.ifCond .eq 11, 3) := by decide +kernel
theorem d_Li_oneSidedPairs_18 : decode b_Li_oneSidedPairs 18 = .ok (.iload_n 1, 1) := by decide +kernel
theorem d_Li_oneSidedPairs_19 : decode b_Li_oneSidedPairs 19 = .ok (.aload_n 0, 1) := by decide +kernel
theorem d_Li_oneSidedPairs_20 : decode b_Li_oneSidedPairs 20 = .ok (.iload_n 2, 1) := by decide +kernel
theorem d_Li_oneSidedPairs_21 : decode b_Li_oneSidedPairs 21 = .ok (.invokevirtual 58, 3) := by decide +kernel
theorem d_Li_oneSidedPairs_24 : decode b_Li_oneSidedPairs 24 = .ok (.iadd, 1) := by decide +kernel
theorem d_Li_oneSidedPairs_25 : decode b_Li_oneSidedPairs 25 = .ok (.istore_n 1, 1) := by decide +kernel
theorem d_Li_oneSidedPairs_26 : decode b_Li_oneSidedPairs 26 = .ok (.iinc 2 1, 3) := by decide +kernel
theorem d_Li_oneSidedPairs_29 : decode b_Li_oneSidedPairs 29 = .ok (.goto (-25), 3) := by decide +kernel
theorem d_Li_oneSidedPairs_32 : decode b_Li_oneSidedPairs 32 = .ok (.iload_n 1, 1) := by decide +kernel
theorem d_Li_oneSidedPairs_33 : decode b_Li_oneSidedPairs 33 = .ok (.ireturn, 1) := by decide +kernel
theorem d_Li_unreturned_0 : decode b_Li_unreturned 0 = .ok (.iconst 0, 1) := by decide +kernel
theorem d_Li_unreturned_1 : decode b_Li_unreturned 1 = .ok (.istore_n 2, 1) := by decide +kernel
theorem d_Li_unreturned_2 : decode b_Li_unreturned 2 = .ok (.iconst 0, 1) := by decide +kernel
theorem d_Li_unreturned_3 : decode b_Li_unreturned 3 = .ok (.istore_n 3, 1) := by decide +kernel
theorem d_Li_unreturned_4 : decode b_Li_unreturned 4 = .ok (.iload_n 3, 1) := by decide +kernel
theorem d_Li_unreturned_5 : decode b_Li_unreturned 5 = .ok (.aload_n 0, 1) := by decide +kernel
theorem d_Li_unreturned_6 : decode b_Li_unreturned 6 = .ok (.iload_n 1, 1) := by decide +kernel
theorem d_Li_unreturned_7 : decode b_Li_unreturned 7 = .ok (.iconst 0, 1) := by decide +kernel
theorem d_Li_unreturned_8 : decode b_Li_unreturned 8 = .ok (.invokevirtual 61, 3) := by decide +kernel
theorem d_Li_unreturned_11 : decode b_Li_unreturned 11 = .ok (.if_icmp .ge 27, 3) := by decide +kernel
theorem d_Li_unreturned_14 : decode b_Li_unreturned 14 = .ok (.aload_n 0, 1) := by decide +kernel
theorem d_Li_unreturned_15 : decode b_Li_unreturned 15 = .ok (.aload_n 0, 1) := by decide +kernel
theorem d_Li_unreturned_16 : decode b_Li_unreturned 16 = .ok (.iload_n 1, 1) := by decide +kernel
theorem d_Li_unreturned_17 : decode b_Li_unreturned 17 = .ok (.iconst 0, 1) := by decide +kernel
theorem d_Li_unreturned_18 : decode b_Li_unreturned 18 = .ok (.iload_n 3, 1) := by decide +kernel
theorem d_Li_unreturned_19 : decode b_Li_unreturned 19 = .ok (.invokevirtual 65, 3) := by decide +kernel
theorem d_Li_unreturned_22 : decode b_Li_unreturned 22 = .ok (.iload_n 1, 1) := by decide +kernel
theorem d_Li_unreturned_23 : decode b_Li_unreturned 23 = .ok (.invokevirtual 73, 3) := by decide +kernel
theorem d_Li_unreturned_26 : decode b_Li_unreturned 26 = .ok (.ifCond .ne 6, 3) := by decide +kernel
theorem d_Li_unreturned_29 : decode b_Li_unreturned 29 = .ok (.iinc 2 1, 3) := by decide +kernel
theorem d_Li_unreturned_32 : decode b_Li_unreturned 32 = .ok (.iinc 3 1, 3) := by decide +kernel
theorem d_Li_unreturned_35 : decode b_Li_unreturned 35 = .ok (.goto (-31), 3) := by decide +kernel
theorem d_Li_unreturned_38 : decode b_Li_unreturned 38 = .ok (.iload_n 2, 1) := by decide +kernel
theorem d_Li_unreturned_39 : decode b_Li_unreturned 39 = .ok (.ireturn, 1) := by decide +kernel
theorem d_Li_isLinked_0 : decode b_Li_isLinked 0 = .ok (.iconst 0, 1) := by decide +kernel
theorem d_Li_isLinked_1 : decode b_Li_isLinked 1 = .ok (.istore_n 3, 1) := by decide +kernel
theorem d_Li_isLinked_2 : decode b_Li_isLinked 2 = .ok (.iload_n 3, 1) := by decide +kernel
theorem d_Li_isLinked_3 : decode b_Li_isLinked 3 = .ok (.aload_n 0, 1) := by decide +kernel
theorem d_Li_isLinked_4 : decode b_Li_isLinked 4 = .ok (.iload_n 1, 1) := by decide +kernel
theorem d_Li_isLinked_5 : decode b_Li_isLinked 5 = .ok (.iconst 0, 1) := by decide +kernel
theorem d_Li_isLinked_6 : decode b_Li_isLinked 6 = .ok (.invokevirtual 61, 3) := by decide +kernel
theorem d_Li_isLinked_9 : decode b_Li_isLinked 9 = .ok (.if_icmp .ge 22, 3) := by decide +kernel
theorem d_Li_isLinked_12 : decode b_Li_isLinked 12 = .ok (.aload_n 0, 1) := by decide +kernel
theorem d_Li_isLinked_13 : decode b_Li_isLinked 13 = .ok (.iload_n 1, 1) := by decide +kernel
theorem d_Li_isLinked_14 : decode b_Li_isLinked 14 = .ok (.iconst 0, 1) := by decide +kernel
theorem d_Li_isLinked_15 : decode b_Li_isLinked 15 = .ok (.iload_n 3, 1) := by decide +kernel
theorem d_Li_isLinked_16 : decode b_Li_isLinked 16 = .ok (.invokevirtual 65, 3) := by decide +kernel
theorem d_Li_isLinked_19 : decode b_Li_isLinked 19 = .ok (.iload_n 2, 1) := by decide +kernel
theorem d_Li_isLinked_20 : decode b_Li_isLinked 20 = .ok (.if_icmp .ne 5, 3) := by decide +kernel
theorem d_Li_isLinked_23 : decode b_Li_isLinked 23 = .ok (.iconst 1, 1) := by decide +kernel
theorem d_Li_isLinked_24 : decode b_Li_isLinked 24 = .ok (.ireturn, 1) := by decide +kernel
theorem d_Li_isLinked_25 : decode b_Li_isLinked 25 = .ok (.iinc 3 1, 3) := by decide +kernel
theorem d_Li_isLinked_28 : decode b_Li_isLinked 28 = .ok (.goto (-26), 3) := by decide +kernel
theorem d_Li_isLinked_31 : decode b_Li_isLinked 31 = .ok (.iconst 0, 1) := by decide +kernel
theorem d_Li_isLinked_32 : decode b_Li_isLinked 32 = .ok (.ireturn, 1) := by decide +kernel
theorem d_Li_reachedFrom_0 : decode b_Li_reachedFrom 0 = .ok (.aload_n 0, 1) := by decide +kernel
theorem d_Li_reachedFrom_1 : decode b_Li_reachedFrom 1 = .ok (.iload_n 1, 1) := by decide +kernel
theorem d_Li_reachedFrom_2 : decode b_Li_reachedFrom 2 = .ok (.invokevirtual 39, 3) := by decide +kernel
theorem d_Li_reachedFrom_5 : decode b_Li_reachedFrom 5 = .ok (.ifCond .ne 5, 3) := by decide +kernel
theorem d_Li_reachedFrom_8 : decode b_Li_reachedFrom 8 = .ok (.iconst 0, 1) := by decide +kernel
theorem d_Li_reachedFrom_9 : decode b_Li_reachedFrom 9 = .ok (.ireturn, 1) := by decide +kernel
theorem d_Li_reachedFrom_10 : decode b_Li_reachedFrom 10 = .ok (.iconst 1, 1) := by decide +kernel
theorem d_Li_reachedFrom_11 : decode b_Li_reachedFrom 11 = .ok (.iload_n 1, 1) := by decide +kernel
theorem d_Li_reachedFrom_12 : decode b_Li_reachedFrom 12 = .ok (.ishl, 1) := by decide +kernel
theorem d_Li_reachedFrom_13 : decode b_Li_reachedFrom 13 = .ok (.istore_n 2, 1) := by decide +kernel
theorem d_Li_reachedFrom_14 : decode b_Li_reachedFrom 14 = .ok (.iconst 1, 1) := by decide +kernel
theorem d_Li_reachedFrom_15 : decode b_Li_reachedFrom 15 = .ok (.istore_n 3, 1) := by decide +kernel
theorem d_Li_reachedFrom_16 : decode b_Li_reachedFrom 16 = .ok (.aload_n 0, 1) := by decide +kernel
theorem d_Li_reachedFrom_17 : decode b_Li_reachedFrom 17 = .ok (.getfield 24, 3) := by decide +kernel
theorem d_Li_reachedFrom_20 : decode b_Li_reachedFrom 20 = .ok (.iconst 0, 1) := by decide +kernel
theorem d_Li_reachedFrom_21 : decode b_Li_reachedFrom 21 = .ok (.iload_n 1, 1) := by decide +kernel
theorem d_Li_reachedFrom_22 : decode b_Li_reachedFrom 22 = .ok (.iastore, 1) := by decide +kernel
theorem d_Li_reachedFrom_23 : decode b_Li_reachedFrom 23 = .ok (.iconst 0, 1) := by decide +kernel
theorem d_Li_reachedFrom_24 : decode b_Li_reachedFrom 24 = .ok (.istore 4, 2) := by decide +kernel
theorem d_Li_reachedFrom_26 : decode b_Li_reachedFrom 26 = .ok (.iload 4, 2) := by decide +kernel
theorem d_Li_reachedFrom_28 : decode b_Li_reachedFrom 28 = .ok (.bipush 30, 2) := by decide +kernel
theorem d_Li_reachedFrom_30 : decode b_Li_reachedFrom 30 = .ok (.if_icmp .ge 84, 3) := by decide +kernel
theorem d_Li_reachedFrom_33 : decode b_Li_reachedFrom 33 = .ok (.iload 4, 2) := by decide +kernel
theorem d_Li_reachedFrom_35 : decode b_Li_reachedFrom 35 = .ok (.iload_n 3, 1) := by decide +kernel
theorem d_Li_reachedFrom_36 : decode b_Li_reachedFrom 36 = .ok (.if_icmp .ge 78, 3) := by decide +kernel
theorem d_Li_reachedFrom_39 : decode b_Li_reachedFrom 39 = .ok (.iconst 0, 1) := by decide +kernel
theorem d_Li_reachedFrom_40 : decode b_Li_reachedFrom 40 = .ok (.istore 5, 2) := by decide +kernel
theorem d_Li_reachedFrom_42 : decode b_Li_reachedFrom 42 = .ok (.iload 5, 2) := by decide +kernel
theorem d_Li_reachedFrom_44 : decode b_Li_reachedFrom 44 = .ok (.aload_n 0, 1) := by decide +kernel
theorem d_Li_reachedFrom_45 : decode b_Li_reachedFrom 45 = .ok (.aload_n 0, 1) := by decide +kernel
theorem d_Li_reachedFrom_46 : decode b_Li_reachedFrom 46 = .ok (.getfield 24, 3) := by decide +kernel
theorem d_Li_reachedFrom_49 : decode b_Li_reachedFrom 49 = .ok (.iload 4, 2) := by decide +kernel
theorem d_Li_reachedFrom_51 : decode b_Li_reachedFrom 51 = .ok (.iaload, 1) := by decide +kernel
theorem d_Li_reachedFrom_52 : decode b_Li_reachedFrom 52 = .ok (.iconst 0, 1) := by decide +kernel
theorem d_Li_reachedFrom_53 : decode b_Li_reachedFrom 53 = .ok (.invokevirtual 61, 3) := by decide +kernel
theorem d_Li_reachedFrom_56 : decode b_Li_reachedFrom 56 = .ok (.if_icmp .ge 52, 3) := by decide +kernel
theorem d_Li_reachedFrom_59 : decode b_Li_reachedFrom 59 = .ok (.aload_n 0, 1) := by decide +kernel
theorem d_Li_reachedFrom_60 : decode b_Li_reachedFrom 60 = .ok (.aload_n 0, 1) := by decide +kernel
theorem d_Li_reachedFrom_61 : decode b_Li_reachedFrom 61 = .ok (.getfield 24, 3) := by decide +kernel
theorem d_Li_reachedFrom_64 : decode b_Li_reachedFrom 64 = .ok (.iload 4, 2) := by decide +kernel
theorem d_Li_reachedFrom_66 : decode b_Li_reachedFrom 66 = .ok (.iaload, 1) := by decide +kernel
theorem d_Li_reachedFrom_67 : decode b_Li_reachedFrom 67 = .ok (.iconst 0, 1) := by decide +kernel
theorem d_Li_reachedFrom_68 : decode b_Li_reachedFrom 68 = .ok (.iload 5, 2) := by decide +kernel
theorem d_Li_reachedFrom_70 : decode b_Li_reachedFrom 70 = .ok (.invokevirtual 65, 3) := by decide +kernel
theorem d_Li_reachedFrom_73 : decode b_Li_reachedFrom 73 = .ok (.istore 6, 2) := by decide +kernel
theorem d_Li_reachedFrom_75 : decode b_Li_reachedFrom 75 = .ok (.iload_n 2, 1) := by decide +kernel
theorem d_Li_reachedFrom_76 : decode b_Li_reachedFrom 76 = .ok (.iload 6, 2) := by decide +kernel
theorem d_Li_reachedFrom_78 : decode b_Li_reachedFrom 78 = .ok (.invokestatic 69, 3) := by decide +kernel
theorem d_Li_reachedFrom_81 : decode b_Li_reachedFrom 81 = .ok (.ifCond .ne 21, 3) := by decide +kernel
theorem d_Li_reachedFrom_84 : decode b_Li_reachedFrom 84 = .ok (.iload_n 2, 1) := by decide +kernel
theorem d_Li_reachedFrom_85 : decode b_Li_reachedFrom 85 = .ok (.iconst 1, 1) := by decide +kernel
theorem d_Li_reachedFrom_86 : decode b_Li_reachedFrom 86 = .ok (.iload 6, 2) := by decide +kernel
theorem d_Li_reachedFrom_88 : decode b_Li_reachedFrom 88 = .ok (.ishl, 1) := by decide +kernel
theorem d_Li_reachedFrom_89 : decode b_Li_reachedFrom 89 = .ok (.ior, 1) := by decide +kernel
theorem d_Li_reachedFrom_90 : decode b_Li_reachedFrom 90 = .ok (.istore_n 2, 1) := by decide +kernel
theorem d_Li_reachedFrom_91 : decode b_Li_reachedFrom 91 = .ok (.aload_n 0, 1) := by decide +kernel
theorem d_Li_reachedFrom_92 : decode b_Li_reachedFrom 92 = .ok (.getfield 24, 3) := by decide +kernel
theorem d_Li_reachedFrom_95 : decode b_Li_reachedFrom 95 = .ok (.iload_n 3, 1) := by decide +kernel
theorem d_Li_reachedFrom_96 : decode b_Li_reachedFrom 96 = .ok (.iload 6, 2) := by decide +kernel
theorem d_Li_reachedFrom_98 : decode b_Li_reachedFrom 98 = .ok (.iastore, 1) := by decide +kernel
theorem d_Li_reachedFrom_99 : decode b_Li_reachedFrom 99 = .ok (.iinc 3 1, 3) := by decide +kernel
theorem d_Li_reachedFrom_102 : decode b_Li_reachedFrom 102 = .ok (.iinc 5 1, 3) := by decide +kernel
theorem d_Li_reachedFrom_105 : decode b_Li_reachedFrom 105 = .ok (.goto (-63), 3) := by decide +kernel
theorem d_Li_reachedFrom_108 : decode b_Li_reachedFrom 108 = .ok (.iinc 4 1, 3) := by decide +kernel
theorem d_Li_reachedFrom_111 : decode b_Li_reachedFrom 111 = .ok (.goto (-85), 3) := by decide +kernel
theorem d_Li_reachedFrom_114 : decode b_Li_reachedFrom 114 = .ok (.iload_n 3, 1) := by decide +kernel
theorem d_Li_reachedFrom_115 : decode b_Li_reachedFrom 115 = .ok (.ireturn, 1) := by decide +kernel
