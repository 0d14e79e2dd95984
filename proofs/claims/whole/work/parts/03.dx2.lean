theorem dX5_shortestWayByTrying_19 : decode cX5_shortestWayByTrying 19 = .ok (.invokestatic 30, 3) := by decide +kernel
theorem dX5_shortestWayByTrying_22 : decode cX5_shortestWayByTrying 22 = .ok (.istore_n 3, 1) := by decide +kernel
theorem dX5_shortestWayByTrying_23 : decode cX5_shortestWayByTrying 23 = .ok (.iload_n 3, 1) := by decide +kernel
theorem dX5_shortestWayByTrying_24 : decode cX5_shortestWayByTrying 24 = .ok (.iload_n 2, 1) := by decide +kernel
theorem dX5_shortestWayByTrying_25 : decode cX5_shortestWayByTrying 25 = .ok (.invokestatic 34, 3) := by decide +kernel
theorem dX5_shortestWayByTrying_28 : decode cX5_shortestWayByTrying 28 = .ok (.ifCond .eq 6, 3) := by decide +kernel
theorem dX5_shortestWayByTrying_31 : decode cX5_shortestWayByTrying 31 = .ok (.iload 4, 2) := by decide +kernel
theorem dX5_shortestWayByTrying_33 : decode cX5_shortestWayByTrying 33 = .ok (.ireturn, 1) := by decide +kernel
theorem dX5_shortestWayByTrying_34 : decode cX5_shortestWayByTrying 34 = .ok (.iinc 4 1, 3) := by decide +kernel
theorem dX5_shortestWayByTrying_37 : decode cX5_shortestWayByTrying 37 = .ok (.goto (-30), 3) := by decide +kernel
theorem dX5_shortestWayByTrying_40 : decode cX5_shortestWayByTrying 40 = .ok (.iconst (-1), 1) := by decide +kernel
theorem dX5_shortestWayByTrying_41 : decode cX5_shortestWayByTrying 41 = .ok (.ireturn, 1) := by decide +kernel
theorem dX5_groupSize_0 : decode cX5_groupSize 0 = .ok (.iconst 1, 1) := by decide +kernel
theorem dX5_groupSize_1 : decode cX5_groupSize 1 = .ok (.iload_n 1, 1) := by decide +kernel
theorem dX5_groupSize_2 : decode cX5_groupSize 2 = .ok (.ishl, 1) := by decide +kernel
theorem dX5_groupSize_3 : decode cX5_groupSize 3 = .ok (.istore_n 2, 1) := by decide +kernel
theorem dX5_groupSize_4 : decode cX5_groupSize 4 = .ok (.iconst 1, 1) := by decide +kernel
theorem dX5_groupSize_5 : decode cX5_groupSize 5 = .ok (.istore_n 3, 1) := by decide +kernel
theorem dX5_groupSize_6 : decode cX5_groupSize 6 = .ok (.iload_n 3, 1) := by decide +kernel
theorem dX5_groupSize_7 : decode cX5_groupSize 7 = .ok (.bipush 20, 2) := by decide +kernel
theorem dX5_groupSize_9 : decode cX5_groupSize 9 = .ok (.if_icmp .ge 20, 3) := by decide +kernel
theorem dX5_groupSize_12 : decode cX5_groupSize 12 = .ok (.iload_n 2, 1) := by decide +kernel
theorem dX5_groupSize_13 : decode cX5_groupSize 13 = .ok (.aload_n 0, 1) := by decide +kernel
theorem dX5_groupSize_14 : decode cX5_groupSize 14 = .ok (.getfield 15, 3) := by decide +kernel
theorem dX5_groupSize_17 : decode cX5_groupSize 17 = .ok (.iload_n 2, 1) := by decide +kernel
theorem dX5_groupSize_18 : decode cX5_groupSize 18 = .ok (.invokestatic 30, 3) := by decide +kernel
theorem dX5_groupSize_21 : decode cX5_groupSize 21 = .ok (.ior, 1) := by decide +kernel
theorem dX5_groupSize_22 : decode cX5_groupSize 22 = .ok (.istore_n 2, 1) := by decide +kernel
theorem dX5_groupSize_23 : decode cX5_groupSize 23 = .ok (.iinc 3 1, 3) := by decide +kernel
theorem dX5_groupSize_26 : decode cX5_groupSize 26 = .ok (.goto (-20), 3) := by decide +kernel
theorem dX5_groupSize_29 : decode cX5_groupSize 29 = .ok (.iload_n 2, 1) := by decide +kernel
theorem dX5_groupSize_30 : decode cX5_groupSize 30 = .ok (.invokestatic 38, 3) := by decide +kernel
theorem dX5_groupSize_33 : decode cX5_groupSize 33 = .ok (.ireturn, 1) := by decide +kernel
theorem dX5_leastLinks_0 : decode cX5_leastLinks 0 = .ok (.iconst 1, 1) := by decide +kernel
theorem dX5_leastLinks_1 : decode cX5_leastLinks 1 = .ok (.iload_n 1, 1) := by decide +kernel
theorem dX5_leastLinks_2 : decode cX5_leastLinks 2 = .ok (.ishl, 1) := by decide +kernel
theorem dX5_leastLinks_3 : decode cX5_leastLinks 3 = .ok (.istore 4, 2) := by decide +kernel
theorem dX5_leastLinks_5 : decode cX5_leastLinks 5 = .ok (.iconst 0, 1) := by decide +kernel
theorem dX5_leastLinks_6 : decode cX5_leastLinks 6 = .ok (.istore 5, 2) := by decide +kernel
theorem dX5_leastLinks_8 : decode cX5_leastLinks 8 = .ok (.iload 5, 2) := by decide +kernel
theorem dX5_leastLinks_10 : decode cX5_leastLinks 10 = .ok (.bipush 20, 2) := by decide +kernel
theorem dX5_leastLinks_12 : decode cX5_leastLinks 12 = .ok (.if_icmp .ge 33, 3) := by decide +kernel
theorem dX5_leastLinks_15 : decode cX5_leastLinks 15 = .ok (.iload 4, 2) := by decide +kernel
theorem dX5_leastLinks_17 : decode cX5_leastLinks 17 = .ok (.iload_n 2, 1) := by decide +kernel
theorem dX5_leastLinks_18 : decode cX5_leastLinks 18 = .ok (.iand, 1) := by decide +kernel
theorem dX5_leastLinks_19 : decode cX5_leastLinks 19 = .ok (.ifCond .eq 6, 3) := by decide +kernel
theorem dX5_leastLinks_22 : decode cX5_leastLinks 22 = .ok (.iload 5, 2) := by decide +kernel
theorem dX5_leastLinks_24 : decode cX5_leastLinks 24 = .ok (.ireturn, 1) := by decide +kernel
theorem dX5_leastLinks_25 : decode cX5_leastLinks 25 = .ok (.iload 4, 2) := by decide +kernel
theorem dX5_leastLinks_27 : decode cX5_leastLinks 27 = .ok (.aload_n 0, 1) := by decide +kernel
theorem dX5_leastLinks_28 : decode cX5_leastLinks 28 = .ok (.getfield 15, 3) := by decide +kernel
theorem dX5_leastLinks_31 : decode cX5_leastLinks 31 = .ok (.iload 4, 2) := by decide +kernel
theorem dX5_leastLinks_33 : decode cX5_leastLinks 33 = .ok (.invokestatic 30, 3) := by decide +kernel
theorem dX5_leastLinks_36 : decode cX5_leastLinks 36 = .ok (.ior, 1) := by decide +kernel
theorem dX5_leastLinks_37 : decode cX5_leastLinks 37 = .ok (.istore 4, 2) := by decide +kernel
theorem dX5_leastLinks_39 : decode cX5_leastLinks 39 = .ok (.iinc 5 1, 3) := by decide +kernel
theorem dX5_leastLinks_42 : decode cX5_leastLinks 42 = .ok (.goto (-34), 3) := by decide +kernel
theorem dX5_leastLinks_45 : decode cX5_leastLinks 45 = .ok (.iload_n 3, 1) := by decide +kernel
theorem dX5_leastLinks_46 : decode cX5_leastLinks 46 = .ok (.ireturn, 1) := by decide +kernel
theorem dX5_step_0 : decode cX5_step 0 = .ok (.iconst 0, 1) := by decide +kernel
theorem dX5_step_1 : decode cX5_step 1 = .ok (.istore_n 2, 1) := by decide +kernel
theorem dX5_step_2 : decode cX5_step 2 = .ok (.iconst 0, 1) := by decide +kernel
theorem dX5_step_3 : decode cX5_step 3 = .ok (.istore_n 3, 1) := by decide +kernel
theorem dX5_step_4 : decode cX5_step 4 = .ok (.iload_n 3, 1) := by decide +kernel
theorem dX5_step_5 : decode cX5_step 5 = .ok (.aload_n 0, 1) := by decide +kernel
theorem dX5_step_6 : decode cX5_step 6 = .ok (.arraylength, 1) := by decide +kernel
theorem dX5_step_7 : decode cX5_step 7 = .ok (.if_icmp .ge 23, 3) := by decide +kernel
theorem dX5_step_10 : decode cX5_step 10 = .ok (.iload_n 1, 1) := by decide +kernel
theorem dX5_step_11 : decode cX5_step 11 = .ok (.iload_n 3, 1) := by decide +kernel
theorem dX5_step_12 : decode cX5_step 12 = .ok (.invokestatic 34, 3) := by decide +kernel
theorem dX5_step_15 : decode cX5_step 15 = .ok (.ifCond .eq 9, 3) := by decide +kernel
theorem dX5_step_18 : decode cX5_step 18 = .ok (.iload_n 2, 1) := by decide +kernel
theorem dX5_step_19 : decode cX5_step 19 = .ok (.aload_n 0, 1) := by decide +kernel
theorem dX5_step_20 : decode cX5_step 20 = .ok (.iload_n 3, 1) := by decide +kernel
theorem dX5_step_21 : decode cX5_step 21 = .ok (.iaload, 1) := by decide +kernel
theorem dX5_step_22 : decode cX5_step 22 = .ok (.ior, 1) := by decide +kernel
theorem dX5_step_23 : decode cX5_step 23 = .ok (.istore_n 2, 1) := by decide +kernel
theorem dX5_step_24 : decode cX5_step 24 = .ok (.iinc 3 1, 3) := by decide +kernel
theorem dX5_step_27 : decode cX5_step 27 = .ok (.goto (-23), 3) := by decide +kernel
theorem dX5_step_30 : decode cX5_step 30 = .ok (.iload_n 2, 1) := by decide +kernel
theorem dX5_step_31 : decode cX5_step 31 = .ok (.ireturn, 1) := by decide +kernel
theorem dX6_init_0 : decode cX6_init 0 = .ok (.aload_n 0, 1) := by decide +kernel
theorem dX6_init_1 : decode cX6_init 1 = .ok (.invokespecial 3, 3) := by decide +kernel
theorem dX6_init_4 : decode cX6_init 4 = .ok (.aload_n 0, 1) := by decide +kernel
theorem dX6_init_5 : decode cX6_init 5 = .ok (.bipush 12, 2) := by decide +kernel
theorem dX6_init_7 : decode cX6_init 7 = .ok (.newarray .int, 2) := by decide +kernel
theorem dX6_init_9 : decode cX6_init 9 = .ok (.putfield 9, 3) := by decide +kernel
theorem dX6_init_12 : decode cX6_init 12 = .ok (.aload_n 0, 1) := by decide +kernel
theorem dX6_init_13 : decode cX6_init 13 = .ok (.bipush 12, 2) := by decide +kernel
theorem dX6_init_15 : decode cX6_init 15 = .ok (.newarray .int, 2) := by decide +kernel
theorem dX6_init_17 : decode cX6_init 17 = .ok (.putfield 15, 3) := by decide +kernel
theorem dX6_init_20 : decode cX6_init 20 = .ok (.return_, 1) := by decide +kernel
theorem dX6_append_0 : decode cX6_append 0 = .ok (.aload_n 0, 1) := by decide +kernel
theorem dX6_append_1 : decode cX6_append 1 = .ok (.getfield 9, 3) := by decide +kernel
theorem dX6_append_4 : decode cX6_append 4 = .ok (.aload_n 0, 1) := by decide +kernel
theorem dX6_append_5 : decode cX6_append 5 = .ok (.getfield 18, 3) := by decide +kernel
theorem dX6_append_8 : decode cX6_append 8 = .ok (.iload_n 1, 1) := by decide +kernel
theorem dX6_append_9 : decode cX6_append 9 = .ok (.iastore, 1) := by decide +kernel
theorem dX6_append_10 : decode cX6_append 10 = .ok (.aload_n 0, 1) := by decide +kernel
theorem dX6_append_11 : decode cX6_append 11 = .ok (.getfield 15, 3) := by decide +kernel
theorem dX6_append_14 : decode cX6_append 14 = .ok (.aload_n 0, 1) := by decide +kernel
theorem dX6_append_15 : decode cX6_append 15 = .ok (.getfield 18, 3) := by decide +kernel
theorem dX6_append_18 : decode cX6_append 18 = .ok (.iload_n 2, 1) := by decide +kernel
theorem dX6_append_19 : decode cX6_append 19 = .ok (.iastore, 1) := by decide +kernel
theorem dX6_append_20 : decode cX6_append 20 = .ok (.aload_n 0, 1) := by decide +kernel
theorem dX6_append_21 : decode cX6_append 21 = .ok (.aload_n 0, 1) := by decide +kernel
theorem dX6_append_22 : decode cX6_append 22 = .ok (.getfield 22, 3) := by decide +kernel
theorem dX6_append_25 : decode cX6_append 25 = .ok (.aload_n 0, 1) := by decide +kernel
theorem dX6_append_26 : decode cX6_append 26 = .ok (.getfield 18, 3) := by decide +kernel
theorem dX6_append_29 : decode cX6_append 29 = .ok (.iconst 1, 1) := by decide +kernel
theorem dX6_append_30 : decode cX6_append 30 = .ok (.invokestatic 25, 3) := by decide +kernel
theorem dX6_append_33 : decode cX6_append 33 = .ok (.putfield 22, 3) := by decide +kernel
theorem dX6_append_36 : decode cX6_append 36 = .ok (.aload_n 0, 1) := by decide +kernel
theorem dX6_append_37 : decode cX6_append 37 = .ok (.dup, 1) := by decide +kernel
theorem dX6_append_38 : decode cX6_append 38 = .ok (.getfield 18, 3) := by decide +kernel
theorem dX6_append_41 : decode cX6_append 41 = .ok (.dup_x1, 1) := by decide +kernel
theorem dX6_append_42 : decode cX6_append 42 = .ok (.iconst 1, 1) := by decide +kernel
theorem dX6_append_43 : decode cX6_append 43 = .ok (.iadd, 1) := by decide +kernel
theorem dX6_append_44 : decode cX6_append 44 = .ok (.putfield 18, 3) := by decide +kernel
theorem dX6_append_47 : decode cX6_append 47 = .ok (.ireturn, 1) := by decide +kernel
theorem dX6_findReasons_0 : decode cX6_findReasons 0 = .ok (.iconst 0, 1) := by decide +kernel
theorem dX6_findReasons_1 : decode cX6_findReasons 1 = .ok (.istore_n 2, 1) := by decide +kernel
theorem dX6_findReasons_2 : decode cX6_findReasons 2 = .ok (.iconst 0, 1) := by decide +kernel
theorem dX6_findReasons_3 : decode cX6_findReasons 3 = .ok (.istore_n 3, 1) := by decide +kernel
theorem dX6_findReasons_4 : decode cX6_findReasons 4 = .ok (.iload_n 3, 1) := by decide +kernel
theorem dX6_findReasons_5 : decode cX6_findReasons 5 = .ok (.aload_n 0, 1) := by decide +kernel
theorem dX6_findReasons_6 : decode cX6_findReasons 6 = .ok (.getfield 18, 3) := by decide +kernel
theorem dX6_findReasons_9 : decode cX6_findReasons 9 = .ok (.if_icmp .ge 41, 3) := by decide +kernel
theorem dX6_findReasons_12 : decode cX6_findReasons 12 = .ok (.aload_n 0, 1) := by decide +kernel
theorem dX6_findReasons_13 : decode cX6_findReasons 13 = .ok (.getfield 22, 3) := by decide +kernel
theorem dX6_findReasons_16 : decode cX6_findReasons 16 = .ok (.iload_n 3, 1) := by decide +kernel
theorem dX6_findReasons_17 : decode cX6_findReasons 17 = .ok (.invokestatic 29, 3) := by decide +kernel
theorem dX6_findReasons_20 : decode cX6_findReasons 20 = .ok (.ifCond .eq 24, 3) := by decide +kernel
theorem dX6_findReasons_23 : decode cX6_findReasons 23 = .ok (.aload_n 1, 1) := by decide +kernel
theorem dX6_findReasons_24 : decode cX6_findReasons 24 = .ok (.getfield 33, 3) := by decide +kernel
theorem dX6_findReasons_27 : decode cX6_findReasons 27 = .ok (.aload_n 0, 1) := by decide +kernel
theorem dX6_findReasons_28 : decode cX6_findReasons 28 = .ok (.getfield 9, 3) := by decide +kernel
theorem dX6_findReasons_31 : decode cX6_findReasons 31 = .ok (.iload_n 3, 1) := by decide +kernel
theorem dX6_findReasons_32 : decode cX6_findReasons 32 = .ok (.iaload, 1) := by decide +kernel
theorem dX6_findReasons_33 : decode cX6_findReasons 33 = .ok (.baload, 1) := by decide +kernel
theorem dX6_findReasons_34 : decode cX6_findReasons 34 = .ok (.ifCond .eq 10, 3) := by decide +kernel
theorem dX6_findReasons_37 : decode cX6_findReasons 37 = .ok (.iload_n 2, 1) := by decide +kernel
theorem dX6_findReasons_38 : decode cX6_findReasons 38 = .ok (.iload_n 3, 1) := by decide +kernel
theorem dX6_findReasons_39 : decode cX6_findReasons 39 = .ok (.iconst 1, 1) := by decide +kernel
theorem dX6_findReasons_40 : decode cX6_findReasons 40 = .ok (.invokestatic 25, 3) := by decide +kernel
theorem dX6_findReasons_43 : decode cX6_findReasons 43 = .ok (.istore_n 2, 1) := by decide +kernel
theorem dX6_findReasons_44 : decode cX6_findReasons 44 = .ok (.iinc 3 1, 3) := by decide +kernel
theorem dX6_findReasons_47 : decode cX6_findReasons 47 = .ok (.goto (-43), 3) := by decide +kernel
theorem dX6_findReasons_50 : decode cX6_findReasons 50 = .ok (.iload_n 2, 1) := by decide +kernel
theorem dX6_findReasons_51 : decode cX6_findReasons 51 = .ok (.ireturn, 1) := by decide +kernel
theorem dX6_ruleAtRank_0 : decode cX6_ruleAtRank 0 = .ok (.iconst 0, 1) := by decide +kernel
theorem dX6_ruleAtRank_1 : decode cX6_ruleAtRank 1 = .ok (.istore_n 3, 1) := by decide +kernel
theorem dX6_ruleAtRank_2 : decode cX6_ruleAtRank 2 = .ok (.iconst 0, 1) := by decide +kernel
theorem dX6_ruleAtRank_3 : decode cX6_ruleAtRank 3 = .ok (.istore 4, 2) := by decide +kernel
theorem dX6_ruleAtRank_5 : decode cX6_ruleAtRank 5 = .ok (.iload 4, 2) := by decide +kernel
theorem dX6_ruleAtRank_7 : decode cX6_ruleAtRank 7 = .ok (.aload_n 0, 1) := by decide +kernel
theorem dX6_ruleAtRank_8 : decode cX6_ruleAtRank 8 = .ok (.getfield 18, 3) := by decide +kernel
theorem dX6_ruleAtRank_11 : decode cX6_ruleAtRank 11 = .ok (.if_icmp .ge 29, 3) := by decide +kernel
theorem dX6_ruleAtRank_14 : decode cX6_ruleAtRank 14 = .ok (.iload_n 1, 1) := by decide +kernel
theorem dX6_ruleAtRank_15 : decode cX6_ruleAtRank 15 = .ok (.iload 4, 2) := by decide +kernel
theorem dX6_ruleAtRank_17 : decode cX6_ruleAtRank 17 = .ok (.invokestatic 29, 3) := by decide +kernel
theorem dX6_ruleAtRank_20 : decode cX6_ruleAtRank 20 = .ok (.ifCond .eq 14, 3) := by decide +kernel
theorem dX6_ruleAtRank_23 : decode cX6_ruleAtRank 23 = .ok (.iload_n 3, 1) := by decide +kernel
theorem dX6_ruleAtRank_24 : decode cX6_ruleAtRank 24 = .ok (.iload_n 2, 1) := by decide +kernel
theorem dX6_ruleAtRank_25 : decode cX6_ruleAtRank 25 = .ok (.if_icmp .ne 6, 3) := by decide +kernel
theorem dX6_ruleAtRank_28 : decode cX6_ruleAtRank 28 = .ok (.iload 4, 2) := by decide +kernel
theorem dX6_ruleAtRank_30 : decode cX6_ruleAtRank 30 = .ok (.ireturn, 1) := by decide +kernel
theorem dX6_ruleAtRank_31 : decode cX6_ruleAtRank 31 = .ok (.iinc 3 1, 3) := by decide +kernel
theorem dX6_ruleAtRank_34 : decode cX6_ruleAtRank 34 = .ok (.iinc 4 1, 3) := by decide +kernel
theorem dX6_ruleAtRank_37 : decode cX6_ruleAtRank 37 = .ok (.goto (-32), 3) := by decide +kernel
theorem dX6_ruleAtRank_40 : decode cX6_ruleAtRank 40 = .ok (.iconst (-1), 1) := by decide +kernel
theorem dX6_ruleAtRank_41 : decode cX6_ruleAtRank 41 = .ok (.ireturn, 1) := by decide +kernel
theorem dX6_weightOf_0 : decode cX6_weightOf 0 = .ok (.iconst 0, 1) := by decide +kernel
theorem dX6_weightOf_1 : decode cX6_weightOf 1 = .ok (.istore_n 2, 1) := by decide +kernel
theorem dX6_weightOf_2 : decode cX6_weightOf 2 = .ok (.iconst 0, 1) := by decide +kernel
theorem dX6_weightOf_3 : decode cX6_weightOf 3 = .ok (.istore_n 3, 1) := by decide +kernel
theorem dX6_weightOf_4 : decode cX6_weightOf 4 = .ok (.iload_n 3, 1) := by decide +kernel
theorem dX6_weightOf_5 : decode cX6_weightOf 5 = .ok (.aload_n 0, 1) := by decide +kernel
theorem dX6_weightOf_6 : decode cX6_weightOf 6 = .ok (.getfield 18, 3) := by decide +kernel
theorem dX6_weightOf_9 : decode cX6_weightOf 9 = .ok (.if_icmp .ge 26, 3) := by decide +kernel
theorem dX6_weightOf_12 : decode cX6_weightOf 12 = .ok (.iload_n 1, 1) := by decide +kernel
theorem dX6_weightOf_13 : decode cX6_weightOf 13 = .ok (.iload_n 3, 1) := by decide +kernel
theorem dX6_weightOf_14 : decode cX6_weightOf 14 = .ok (.invokestatic 29, 3) := by decide +kernel
theorem dX6_weightOf_17 : decode cX6_weightOf 17 = .ok (.ifCond .eq 12, 3) := by decide +kernel
theorem dX6_weightOf_20 : decode cX6_weightOf 20 = .ok (.iload_n 2, 1) := by decide +kernel
theorem dX6_weightOf_21 : decode cX6_weightOf 21 = .ok (.aload_n 0, 1) := by decide +kernel
theorem dX6_weightOf_22 : decode cX6_weightOf 22 = .ok (.getfield 15, 3) := by decide +kernel
theorem dX6_weightOf_25 : decode cX6_weightOf 25 = .ok (.iload_n 3, 1) := by decide +kernel
theorem dX6_weightOf_26 : decode cX6_weightOf 26 = .ok (.iaload, 1) := by decide +kernel
theorem dX6_weightOf_27 : decode cX6_weightOf 27 = .ok (.iadd, 1) := by decide +kernel
theorem dX6_weightOf_28 : decode cX6_weightOf 28 = .ok (.istore_n 2, 1) := by decide +kernel
theorem dX6_weightOf_29 : decode cX6_weightOf 29 = .ok (.iinc 3 1, 3) := by decide +kernel
theorem dX6_weightOf_32 : decode cX6_weightOf 32 = .ok (.goto (-28), 3) := by decide +kernel
theorem dX6_weightOf_35 : decode cX6_weightOf 35 = .ok (.iload_n 2, 1) := by decide +kernel
theorem dX6_weightOf_36 : decode cX6_weightOf 36 = .ok (.ireturn, 1) := by decide +kernel
theorem dX7_init_0 : decode cX7_init 0 = .ok (.aload_n 0, 1) := by decide +kernel
theorem dX7_init_1 : decode cX7_init 1 = .ok (.invokespecial 1, 3) := by decide +kernel
theorem dX7_init_4 : decode cX7_init 4 = .ok (.aload_n 0, 1) := by decide +kernel
theorem dX7_init_5 : decode cX7_init 5 = .ok (.new 7, 3) := by decide +kernel
theorem dX7_init_8 : decode cX7_init 8 = .ok (.dup, 1) := by decide +kernel
theorem dX7_init_9 : decode cX7_init 9 = .ok (.invokespecial 9, 3) := by decide +kernel
theorem dX7_init_12 : decode cX7_init 12 = .ok (.putfield 10, 3) := by decide +kernel
theorem dX7_init_15 : decode cX7_init 15 = .ok (.aload_n 0, 1) := by decide +kernel
theorem dX7_init_16 : decode cX7_init 16 = .ok (.new 16, 3) := by decide +kernel
theorem dX7_init_19 : decode cX7_init 19 = .ok (.dup, 1) := by decide +kernel
theorem dX7_init_20 : decode cX7_init 20 = .ok (.invokespecial 18, 3) := by decide +kernel
theorem dX7_init_23 : decode cX7_init 23 = .ok (.putfield 19, 3) := by decide +kernel
theorem dX7_init_26 : decode cX7_init 26 = .ok (.aload_n 0, 1) := by decide +kernel
theorem dX7_init_27 : decode cX7_init 27 = .ok (.new 23, 3) := by decide +kernel
theorem dX7_init_30 : decode cX7_init 30 = .ok (.dup, 1) := by decide +kernel
theorem dX7_init_31 : decode cX7_init 31 = .ok (.invokespecial 25, 3) := by decide +kernel
theorem dX7_init_34 : decode cX7_init 34 = .ok (.putfield 26, 3) := by decide +kernel
theorem dX7_init_37 : decode cX7_init 37 = .ok (.aload_n 0, 1) := by decide +kernel
theorem dX7_init_38 : decode cX7_init 38 = .ok (.new 30, 3) := by decide +kernel
theorem dX7_init_41 : decode cX7_init 41 = .ok (.dup, 1) := by decide +kernel
theorem dX7_init_42 : decode cX7_init 42 = .ok (.invokespecial 32, 3) := by decide +kernel
theorem dX7_init_45 : decode cX7_init 45 = .ok (.putfield 33, 3) := by decide +kernel
theorem dX7_init_48 : decode cX7_init 48 = .ok (.aload_n 0, 1) := by decide +kernel
theorem dX7_init_49 : decode cX7_init 49 = .ok (.bipush 50, 2) := by decide +kernel
theorem dX7_init_51 : decode cX7_init 51 = .ok (.putfield 37, 3) := by decide +kernel
theorem dX7_init_54 : decode cX7_init 54 = .ok (.return_, 1) := by decide +kernel
theorem dX7_open_0 : decode cX7_open 0 = .ok (.iload_n 1, 1) := by decide +kernel
theorem dX7_open_1 : decode cX7_open 1 = .ok (.bipush 97, 2) := by decide +kernel
theorem dX7_open_3 : decode cX7_open 3 = .ok (.if_icmp .lt 9, 3) := by decide +kernel
theorem dX7_open_6 : decode cX7_open 6 = .ok (.iload_n 1, 1) := by decide +kernel
theorem dX7_open_7 : decode cX7_open 7 = .ok (.bipush 100, 2) := by decide +kernel
theorem dX7_open_9 : decode cX7_open 9 = .ok (.if_icmp .le 13, 3) := by decide +kernel
theorem dX7_open_12 : decode cX7_open 12 = .ok (.new 41, 3) := by decide +kernel
theorem dX7_open_15 : decode cX7_open 15 = .ok (.dup, 1) := by decide +kernel
theorem dX7_open_16 : decode cX7_open 16 = .ok (.ldc 43, 2) := by decide +kernel
theorem dX7_open_18 : decode cX7_open 18 = .ok (.invokespecial 45, 3) := by decide +kernel
theorem dX7_open_21 : decode cX7_open 21 = .ok (.athrow, 1) := by decide +kernel
theorem dX7_open_22 : decode cX7_open 22 = .ok (.aload_n 0, 1) := by decide +kernel
theorem dX7_open_23 : decode cX7_open 23 = .ok (.getfield 10, 3) := by decide +kernel
theorem dX7_open_26 : decode cX7_open 26 = .ok (.getfield 48, 3) := by decide +kernel
theorem dX7_open_29 : decode cX7_open 29 = .ok (.getfield 52, 3) := by decide +kernel
theorem dX7_open_32 : decode cX7_open 32 = .ok (.bipush 20, 2) := by decide +kernel
theorem dX7_open_34 : decode cX7_open 34 = .ok (.if_icmp .lt 13, 3) := by decide +kernel
theorem dX7_open_37 : decode cX7_open 37 = .ok (.new 57, 3) := by decide +kernel
theorem dX7_open_40 : decode cX7_open 40 = .ok (.dup, 1) := by decide +kernel
theorem dX7_open_41 : decode cX7_open 41 = .ok (.ldc 59, 2) := by decide +kernel
theorem dX7_open_43 : decode cX7_open 43 = .ok (.invokespecial 61, 3) := by decide +kernel
theorem dX7_open_46 : decode cX7_open 46 = .ok (.athrow, 1) := by decide +kernel
theorem dX7_open_47 : decode cX7_open 47 = .ok (.aload_n 0, 1) := by decide +kernel
theorem dX7_open_48 : decode cX7_open 48 = .ok (.getfield 10, 3) := by decide +kernel
theorem dX7_open_51 : decode cX7_open 51 = .ok (.getfield 48, 3) := by decide +kernel
theorem dX7_open_54 : decode cX7_open 54 = .ok (.iload_n 1, 1) := by decide +kernel
theorem dX7_open_55 : decode cX7_open 55 = .ok (.aload_n 0, 1) := by decide +kernel
theorem dX7_open_56 : decode cX7_open 56 = .ok (.getfield 10, 3) := by decide +kernel
theorem dX7_open_59 : decode cX7_open 59 = .ok (.getfield 62, 3) := by decide +kernel
theorem dX7_open_62 : decode cX7_open 62 = .ok (.invokevirtual 65, 3) := by decide +kernel
theorem dX7_open_65 : decode cX7_open 65 = .ok (.ireturn, 1) := by decide +kernel
theorem dX7_setMarked_0 : decode cX7_setMarked 0 = .ok (.aload_n 0, 1) := by decide +kernel
theorem dX7_setMarked_1 : decode cX7_setMarked 1 = .ok (.iload_n 1, 1) := by decide +kernel
theorem dX7_setMarked_2 : decode cX7_setMarked 2 = .ok (.invokevirtual 69, 3) := by decide +kernel
theorem dX7_setMarked_5 : decode cX7_setMarked 5 = .ok (.aload_n 0, 1) := by decide +kernel
theorem dX7_setMarked_6 : decode cX7_setMarked 6 = .ok (.getfield 10, 3) := by decide +kernel
theorem dX7_setMarked_9 : decode cX7_setMarked 9 = .ok (.getfield 48, 3) := by decide +kernel
theorem dX7_setMarked_12 : decode cX7_setMarked 12 = .ok (.getfield 73, 3) := by decide +kernel
theorem dX7_setMarked_15 : decode cX7_setMarked 15 = .ok (.iload_n 1, 1) := by decide +kernel
theorem dX7_setMarked_16 : decode cX7_setMarked 16 = .ok (.invokestatic 76, 3) := by decide +kernel
theorem dX7_setMarked_19 : decode cX7_setMarked 19 = .ok (.istore_n 3, 1) := by decide +kernel
theorem dX7_setMarked_20 : decode cX7_setMarked 20 = .ok (.aload_n 0, 1) := by decide +kernel
theorem dX7_setMarked_21 : decode cX7_setMarked 21 = .ok (.getfield 10, 3) := by decide +kernel
theorem dX7_setMarked_24 : decode cX7_setMarked 24 = .ok (.getfield 48, 3) := by decide +kernel
theorem dX7_setMarked_27 : decode cX7_setMarked 27 = .ok (.aload_n 0, 1) := by decide +kernel
theorem dX7_setMarked_28 : decode cX7_setMarked 28 = .ok (.getfield 10, 3) := by decide +kernel
theorem dX7_setMarked_31 : decode cX7_setMarked 31 = .ok (.getfield 48, 3) := by decide +kernel
theorem dX7_setMarked_34 : decode cX7_setMarked 34 = .ok (.getfield 73, 3) := by decide +kernel
theorem dX7_setMarked_37 : decode cX7_setMarked 37 = .ok (.iload_n 1, 1) := by decide +kernel
theorem dX7_setMarked_38 : decode cX7_setMarked 38 = .ok (.iload_n 2, 1) := by decide +kernel
theorem dX7_setMarked_39 : decode cX7_setMarked 39 = .ok (.invokestatic 80, 3) := by decide +kernel
theorem dX7_setMarked_42 : decode cX7_setMarked 42 = .ok (.putfield 73, 3) := by decide +kernel
theorem dX7_setMarked_45 : decode cX7_setMarked 45 = .ok (.iload_n 3, 1) := by decide +kernel
theorem dX7_setMarked_46 : decode cX7_setMarked 46 = .ok (.ireturn, 1) := by decide +kernel
theorem dX7_setBlocked_0 : decode cX7_setBlocked 0 = .ok (.aload_n 0, 1) := by decide +kernel
theorem dX7_setBlocked_1 : decode cX7_setBlocked 1 = .ok (.iload_n 1, 1) := by decide +kernel
theorem dX7_setBlocked_2 : decode cX7_setBlocked 2 = .ok (.invokevirtual 69, 3) := by decide +kernel
theorem dX7_setBlocked_5 : decode cX7_setBlocked 5 = .ok (.aload_n 0, 1) := by decide +kernel
theorem dX7_setBlocked_6 : decode cX7_setBlocked 6 = .ok (.getfield 10, 3) := by decide +kernel
theorem dX7_setBlocked_9 : decode cX7_setBlocked 9 = .ok (.getfield 48, 3) := by decide +kernel
theorem dX7_setBlocked_12 : decode cX7_setBlocked 12 = .ok (.getfield 84, 3) := by decide +kernel
theorem dX7_setBlocked_15 : decode cX7_setBlocked 15 = .ok (.iload_n 1, 1) := by decide +kernel
theorem dX7_setBlocked_16 : decode cX7_setBlocked 16 = .ok (.invokestatic 76, 3) := by decide +kernel
theorem dX7_setBlocked_19 : decode cX7_setBlocked 19 = .ok (.istore_n 3, 1) := by decide +kernel
theorem dX7_setBlocked_20 : decode cX7_setBlocked 20 = .ok (.aload_n 0, 1) := by decide +kernel
theorem dX7_setBlocked_21 : decode cX7_setBlocked 21 = .ok (.getfield 10, 3) := by decide +kernel
theorem dX7_setBlocked_24 : decode cX7_setBlocked 24 = .ok (.getfield 48, 3) := by decide +kernel
theorem dX7_setBlocked_27 : decode cX7_setBlocked 27 = .ok (.aload_n 0, 1) := by decide +kernel
theorem dX7_setBlocked_28 : decode cX7_setBlocked 28 = .ok (.getfield 10, 3) := by decide +kernel
theorem dX7_setBlocked_31 : decode cX7_setBlocked 31 = .ok (.getfield 48, 3) := by decide +kernel
theorem dX7_setBlocked_34 : decode cX7_setBlocked 34 = .ok (.getfield 84, 3) := by decide +kernel
theorem dX7_setBlocked_37 : decode cX7_setBlocked 37 = .ok (.iload_n 1, 1) := by decide +kernel
theorem dX7_setBlocked_38 : decode cX7_setBlocked 38 = .ok (.iload_n 2, 1) := by decide +kernel
theorem dX7_setBlocked_39 : decode cX7_setBlocked 39 = .ok (.invokestatic 80, 3) := by decide +kernel
theorem dX7_setBlocked_42 : decode cX7_setBlocked 42 = .ok (.putfield 84, 3) := by decide +kernel
theorem dX7_setBlocked_45 : decode cX7_setBlocked 45 = .ok (.iload_n 3, 1) := by decide +kernel
theorem dX7_setBlocked_46 : decode cX7_setBlocked 46 = .ok (.ireturn, 1) := by decide +kernel
theorem dX7_isMarked_0 : decode cX7_isMarked 0 = .ok (.aload_n 0, 1) := by decide +kernel
theorem dX7_isMarked_1 : decode cX7_isMarked 1 = .ok (.iload_n 1, 1) := by decide +kernel
theorem dX7_isMarked_2 : decode cX7_isMarked 2 = .ok (.invokevirtual 69, 3) := by decide +kernel
theorem dX7_isMarked_5 : decode cX7_isMarked 5 = .ok (.aload_n 0, 1) := by decide +kernel
theorem dX7_isMarked_6 : decode cX7_isMarked 6 = .ok (.getfield 10, 3) := by decide +kernel
theorem dX7_isMarked_9 : decode cX7_isMarked 9 = .ok (.getfield 48, 3) := by decide +kernel
theorem dX7_isMarked_12 : decode cX7_isMarked 12 = .ok (.getfield 73, 3) := by decide +kernel
theorem dX7_isMarked_15 : decode cX7_isMarked 15 = .ok (.iload_n 1, 1) := by decide +kernel
theorem dX7_isMarked_16 : decode cX7_isMarked 16 = .ok (.invokestatic 76, 3) := by decide +kernel
theorem dX7_isMarked_19 : decode cX7_isMarked 19 = .ok (.ireturn, 1) := by decide +kernel
theorem dX7_countryOf_0 : decode cX7_countryOf 0 = .ok (.aload_n 0, 1) := by decide +kernel
theorem dX7_countryOf_1 : decode cX7_countryOf 1 = .ok (.iload_n 1, 1) := by decide +kernel
theorem dX7_countryOf_2 : decode cX7_countryOf 2 = .ok (.invokevirtual 69, 3) := by decide +kernel
theorem dX7_countryOf_5 : decode cX7_countryOf 5 = .ok (.aload_n 0, 1) := by decide +kernel
theorem dX7_countryOf_6 : decode cX7_countryOf 6 = .ok (.getfield 10, 3) := by decide +kernel
theorem dX7_countryOf_9 : decode cX7_countryOf 9 = .ok (.getfield 48, 3) := by decide +kernel
theorem dX7_countryOf_12 : decode cX7_countryOf 12 = .ok (.getfield 87, 3) := by decide +kernel
theorem dX7_countryOf_15 : decode cX7_countryOf 15 = .ok (.iload_n 1, 1) := by decide +kernel
theorem dX7_countryOf_16 : decode cX7_countryOf 16 = .ok (.caload, 1) := by decide +kernel
theorem dX7_countryOf_17 : decode cX7_countryOf 17 = .ok (.ireturn, 1) := by decide +kernel
theorem dX7_accounts_0 : decode cX7_accounts 0 = .ok (.aload_n 0, 1) := by decide +kernel
theorem dX7_accounts_1 : decode cX7_accounts 1 = .ok (.getfield 10, 3) := by decide +kernel
theorem dX7_accounts_4 : decode cX7_accounts 4 = .ok (.getfield 48, 3) := by decide +kernel
theorem dX7_accounts_7 : decode cX7_accounts 7 = .ok (.getfield 52, 3) := by decide +kernel
theorem dX7_accounts_10 : decode cX7_accounts 10 = .ok (.ireturn, 1) := by decide +kernel
theorem dX7_pass_0 : decode cX7_pass 0 = .ok (.iload_n 1, 1) := by decide +kernel
theorem dX7_pass_1 : decode cX7_pass 1 = .ok (.iconst 1, 1) := by decide +kernel
theorem dX7_pass_2 : decode cX7_pass 2 = .ok (.if_icmp .lt 10, 3) := by decide +kernel
theorem dX7_pass_5 : decode cX7_pass 5 = .ok (.iload_n 1, 1) := by decide +kernel
theorem dX7_pass_6 : decode cX7_pass 6 = .ok (.sipush 1440, 3) := by decide +kernel
theorem dX7_pass_9 : decode cX7_pass 9 = .ok (.if_icmp .le 13, 3) := by decide +kernel
theorem dX7_pass_12 : decode cX7_pass 12 = .ok (.new 41, 3) := by decide +kernel
theorem dX7_pass_15 : decode cX7_pass 15 = .ok (.dup, 1) := by decide +kernel
theorem dX7_pass_16 : decode cX7_pass 16 = .ok (.ldc 91, 2) := by decide +kernel
theorem dX7_pass_18 : decode cX7_pass 18 = .ok (.invokespecial 45, 3) := by decide +kernel
theorem dX7_pass_21 : decode cX7_pass 21 = .ok (.athrow, 1) := by decide +kernel
theorem dX7_pass_22 : decode cX7_pass 22 = .ok (.aload_n 0, 1) := by decide +kernel
theorem dX7_pass_23 : decode cX7_pass 23 = .ok (.getfield 10, 3) := by decide +kernel
theorem dX7_pass_26 : decode cX7_pass 26 = .ok (.iload_n 1, 1) := by decide +kernel
theorem dX7_pass_27 : decode cX7_pass 27 = .ok (.invokevirtual 93, 3) := by decide +kernel
theorem dX7_pass_30 : decode cX7_pass 30 = .ok (.aload_n 0, 1) := by decide +kernel
theorem dX7_pass_31 : decode cX7_pass 31 = .ok (.getfield 10, 3) := by decide +kernel
theorem dX7_pass_34 : decode cX7_pass 34 = .ok (.getfield 62, 3) := by decide +kernel
theorem dX7_pass_37 : decode cX7_pass 37 = .ok (.ireturn, 1) := by decide +kernel
theorem dX7_time_0 : decode cX7_time 0 = .ok (.aload_n 0, 1) := by decide +kernel
theorem dX7_time_1 : decode cX7_time 1 = .ok (.getfield 10, 3) := by decide +kernel
theorem dX7_time_4 : decode cX7_time 4 = .ok (.getfield 62, 3) := by decide +kernel
theorem dX7_time_7 : decode cX7_time 7 = .ok (.ireturn, 1) := by decide +kernel
theorem dX7_pay_0 : decode cX7_pay 0 = .ok (.aload_n 0, 1) := by decide +kernel
theorem dX7_pay_1 : decode cX7_pay 1 = .ok (.iload_n 1, 1) := by decide +kernel
theorem dX7_pay_2 : decode cX7_pay 2 = .ok (.invokevirtual 69, 3) := by decide +kernel
theorem dX7_pay_5 : decode cX7_pay 5 = .ok (.aload_n 0, 1) := by decide +kernel
theorem dX7_pay_6 : decode cX7_pay 6 = .ok (.iload_n 2, 1) := by decide +kernel
theorem dX7_pay_7 : decode cX7_pay 7 = .ok (.invokevirtual 69, 3) := by decide +kernel
theorem dX7_pay_10 : decode cX7_pay 10 = .ok (.iload_n 3, 1) := by decide +kernel
theorem dX7_pay_11 : decode cX7_pay 11 = .ok (.iconst 1, 1) := by decide +kernel
theorem dX7_pay_12 : decode cX7_pay 12 = .ok (.if_icmp .lt 10, 3) := by decide +kernel
theorem dX7_pay_15 : decode cX7_pay 15 = .ok (.iload_n 3, 1) := by decide +kernel
theorem dX7_pay_16 : decode cX7_pay 16 = .ok (.sipush 9999, 3) := by decide +kernel
theorem dX7_pay_19 : decode cX7_pay 19 = .ok (.if_icmp .le 13, 3) := by decide +kernel
theorem dX7_pay_22 : decode cX7_pay 22 = .ok (.new 41, 3) := by decide +kernel
theorem dX7_pay_25 : decode cX7_pay 25 = .ok (.dup, 1) := by decide +kernel
theorem dX7_pay_26 : decode cX7_pay 26 = .ok (.ldc 96, 2) := by decide +kernel
theorem dX7_pay_28 : decode cX7_pay 28 = .ok (.invokespecial 45, 3) := by decide +kernel
theorem dX7_pay_31 : decode cX7_pay 31 = .ok (.athrow, 1) := by decide +kernel
theorem dX7_pay_32 : decode cX7_pay 32 = .ok (.iload_n 1, 1) := by decide +kernel
theorem dX7_pay_33 : decode cX7_pay 33 = .ok (.iload_n 2, 1) := by decide +kernel
theorem dX7_pay_34 : decode cX7_pay 34 = .ok (.if_icmp .ne 13, 3) := by decide +kernel
theorem dX7_pay_37 : decode cX7_pay 37 = .ok (.new 98, 3) := by decide +kernel
theorem dX7_pay_40 : decode cX7_pay 40 = .ok (.dup, 1) := by decide +kernel
theorem dX7_pay_41 : decode cX7_pay 41 = .ok (.ldc 100, 2) := by decide +kernel
theorem dX7_pay_43 : decode cX7_pay 43 = .ok (.invokespecial 102, 3) := by decide +kernel
theorem dX7_pay_46 : decode cX7_pay 46 = .ok (.athrow, 1) := by decide +kernel
theorem dX7_pay_47 : decode cX7_pay 47 = .ok (.aload_n 0, 1) := by decide +kernel
theorem dX7_pay_48 : decode cX7_pay 48 = .ok (.getfield 10, 3) := by decide +kernel
theorem dX7_pay_51 : decode cX7_pay 51 = .ok (.getfield 48, 3) := by decide +kernel
theorem dX7_pay_54 : decode cX7_pay 54 = .ok (.getfield 84, 3) := by decide +kernel
theorem dX7_pay_57 : decode cX7_pay 57 = .ok (.istore 4, 2) := by decide +kernel
theorem dX7_pay_59 : decode cX7_pay 59 = .ok (.iload 4, 2) := by decide +kernel
theorem dX7_pay_61 : decode cX7_pay 61 = .ok (.iload_n 1, 1) := by decide +kernel
theorem dX7_pay_62 : decode cX7_pay 62 = .ok (.invokestatic 76, 3) := by decide +kernel
theorem dX7_pay_65 : decode cX7_pay 65 = .ok (.ifCond .ne 12, 3) := by decide +kernel
theorem dX7_pay_68 : decode cX7_pay 68 = .ok (.iload 4, 2) := by decide +kernel
theorem dX7_pay_70 : decode cX7_pay 70 = .ok (.iload_n 2, 1) := by decide +kernel
theorem dX7_pay_71 : decode cX7_pay 71 = .ok (.invokestatic 76, 3) := by decide +kernel
theorem dX7_pay_74 : decode cX7_pay 74 = .ok (.ifCond .eq 13, 3) := by decide +kernel
theorem dX7_pay_77 : decode cX7_pay 77 = .ok (.new 57, 3) := by decide +kernel
theorem dX7_pay_80 : decode cX7_pay 80 = .ok (.dup, 1) := by decide +kernel
theorem dX7_pay_81 : decode cX7_pay 81 = .ok (.ldc 103, 2) := by decide +kernel
theorem dX7_pay_83 : decode cX7_pay 83 = .ok (.invokespecial 61, 3) := by decide +kernel
theorem dX7_pay_86 : decode cX7_pay 86 = .ok (.athrow, 1) := by decide +kernel
theorem dX7_pay_87 : decode cX7_pay 87 = .ok (.aload_n 0, 1) := by decide +kernel
theorem dX7_pay_88 : decode cX7_pay 88 = .ok (.getfield 10, 3) := by decide +kernel
theorem dX7_pay_91 : decode cX7_pay 91 = .ok (.getfield 105, 3) := by decide +kernel
theorem dX7_pay_94 : decode cX7_pay 94 = .ok (.getfield 109, 3) := by decide +kernel
theorem dX7_pay_97 : decode cX7_pay 97 = .ok (.sipush 200, 3) := by decide +kernel
theorem dX7_pay_100 : decode cX7_pay 100 = .ok (.if_icmp .lt 13, 3) := by decide +kernel
theorem dX7_pay_103 : decode cX7_pay 103 = .ok (.new 57, 3) := by decide +kernel
theorem dX7_pay_106 : decode cX7_pay 106 = .ok (.dup, 1) := by decide +kernel
theorem dX7_pay_107 : decode cX7_pay 107 = .ok (.ldc 112, 2) := by decide +kernel
theorem dX7_pay_109 : decode cX7_pay 109 = .ok (.invokespecial 61, 3) := by decide +kernel
theorem dX7_pay_112 : decode cX7_pay 112 = .ok (.athrow, 1) := by decide +kernel
theorem dX7_pay_113 : decode cX7_pay 113 = .ok (.aload_n 0, 1) := by decide +kernel
theorem dX7_pay_114 : decode cX7_pay 114 = .ok (.getfield 10, 3) := by decide +kernel
theorem dX7_pay_117 : decode cX7_pay 117 = .ok (.getfield 105, 3) := by decide +kernel
theorem dX7_pay_120 : decode cX7_pay 120 = .ok (.iload_n 1, 1) := by decide +kernel
theorem dX7_pay_121 : decode cX7_pay 121 = .ok (.iload_n 2, 1) := by decide +kernel
theorem dX7_pay_122 : decode cX7_pay 122 = .ok (.iload_n 3, 1) := by decide +kernel
theorem dX7_pay_123 : decode cX7_pay 123 = .ok (.aload_n 0, 1) := by decide +kernel
theorem dX7_pay_124 : decode cX7_pay 124 = .ok (.getfield 10, 3) := by decide +kernel
theorem dX7_pay_127 : decode cX7_pay 127 = .ok (.getfield 62, 3) := by decide +kernel
theorem dX7_pay_130 : decode cX7_pay 130 = .ok (.invokevirtual 114, 3) := by decide +kernel
theorem dX7_pay_133 : decode cX7_pay 133 = .ok (.istore 5, 2) := by decide +kernel
theorem dX7_pay_135 : decode cX7_pay 135 = .ok (.aload_n 0, 1) := by decide +kernel
theorem dX7_pay_136 : decode cX7_pay 136 = .ok (.getfield 19, 3) := by decide +kernel
theorem dX7_pay_139 : decode cX7_pay 139 = .ok (.aload_n 0, 1) := by decide +kernel
theorem dX7_pay_140 : decode cX7_pay 140 = .ok (.getfield 10, 3) := by decide +kernel
theorem dX7_pay_143 : decode cX7_pay 143 = .ok (.iload 5, 2) := by decide +kernel
theorem dX7_pay_145 : decode cX7_pay 145 = .ok (.aload_n 0, 1) := by decide +kernel
theorem dX7_pay_146 : decode cX7_pay 146 = .ok (.getfield 19, 3) := by decide +kernel
theorem dX7_pay_149 : decode cX7_pay 149 = .ok (.getfield 117, 3) := by decide +kernel
theorem dX7_pay_152 : decode cX7_pay 152 = .ok (.invokevirtual 118, 3) := by decide +kernel
theorem dX7_pay_155 : decode cX7_pay 155 = .ok (.aload_n 0, 1) := by decide +kernel
theorem dX7_pay_156 : decode cX7_pay 156 = .ok (.getfield 26, 3) := by decide +kernel
theorem dX7_pay_159 : decode cX7_pay 159 = .ok (.aload_n 0, 1) := by decide +kernel
theorem dX7_pay_160 : decode cX7_pay 160 = .ok (.getfield 19, 3) := by decide +kernel
theorem dX7_pay_163 : decode cX7_pay 163 = .ok (.invokevirtual 122, 3) := by decide +kernel
theorem dX7_pay_166 : decode cX7_pay 166 = .ok (.istore 6, 2) := by decide +kernel
theorem dX7_pay_168 : decode cX7_pay 168 = .ok (.aload_n 0, 1) := by decide +kernel
theorem dX7_pay_169 : decode cX7_pay 169 = .ok (.getfield 26, 3) := by decide +kernel
theorem dX7_pay_172 : decode cX7_pay 172 = .ok (.iload 6, 2) := by decide +kernel
theorem dX7_pay_174 : decode cX7_pay 174 = .ok (.invokevirtual 126, 3) := by decide +kernel
theorem dX7_pay_177 : decode cX7_pay 177 = .ok (.istore 7, 2) := by decide +kernel
theorem dX7_pay_179 : decode cX7_pay 179 = .ok (.aload_n 0, 1) := by decide +kernel
theorem dX7_pay_180 : decode cX7_pay 180 = .ok (.getfield 33, 3) := by decide +kernel
theorem dX7_pay_183 : decode cX7_pay 183 = .ok (.iload 5, 2) := by decide +kernel
theorem dX7_pay_185 : decode cX7_pay 185 = .ok (.iload 6, 2) := by decide +kernel
theorem dX7_pay_187 : decode cX7_pay 187 = .ok (.iload 7, 2) := by decide +kernel
theorem dX7_pay_189 : decode cX7_pay 189 = .ok (.aload_n 0, 1) := by decide +kernel
theorem dX7_pay_190 : decode cX7_pay 190 = .ok (.getfield 19, 3) := by decide +kernel
theorem dX7_pay_193 : decode cX7_pay 193 = .ok (.invokevirtual 130, 3) := by decide +kernel
theorem dX7_pay_196 : decode cX7_pay 196 = .ok (.iload 7, 2) := by decide +kernel
theorem dX7_pay_198 : decode cX7_pay 198 = .ok (.aload_n 0, 1) := by decide +kernel
theorem dX7_pay_199 : decode cX7_pay 199 = .ok (.getfield 37, 3) := by decide +kernel
theorem dX7_pay_202 : decode cX7_pay 202 = .ok (.if_icmp .lt 12, 3) := by decide +kernel
theorem dX7_pay_205 : decode cX7_pay 205 = .ok (.aload_n 0, 1) := by decide +kernel
theorem dX7_pay_206 : decode cX7_pay 206 = .ok (.getfield 33, 3) := by decide +kernel
theorem dX7_pay_209 : decode cX7_pay 209 = .ok (.iload 5, 2) := by decide +kernel
theorem dX7_pay_211 : decode cX7_pay 211 = .ok (.invokevirtual 134, 3) := by decide +kernel
theorem dX7_pay_214 : decode cX7_pay 214 = .ok (.iload 5, 2) := by decide +kernel
theorem dX7_pay_216 : decode cX7_pay 216 = .ok (.ireturn, 1) := by decide +kernel
theorem dX7_payments_0 : decode cX7_payments 0 = .ok (.aload_n 0, 1) := by decide +kernel
theorem dX7_payments_1 : decode cX7_payments 1 = .ok (.getfield 10, 3) := by decide +kernel
theorem dX7_payments_4 : decode cX7_payments 4 = .ok (.getfield 105, 3) := by decide +kernel
theorem dX7_payments_7 : decode cX7_payments 7 = .ok (.getfield 109, 3) := by decide +kernel
theorem dX7_payments_10 : decode cX7_payments 10 = .ok (.ireturn, 1) := by decide +kernel
theorem dX7_minuteOf_0 : decode cX7_minuteOf 0 = .ok (.aload_n 0, 1) := by decide +kernel
theorem dX7_minuteOf_1 : decode cX7_minuteOf 1 = .ok (.iload_n 1, 1) := by decide +kernel
theorem dX7_minuteOf_2 : decode cX7_minuteOf 2 = .ok (.invokevirtual 137, 3) := by decide +kernel
theorem dX7_minuteOf_5 : decode cX7_minuteOf 5 = .ok (.aload_n 0, 1) := by decide +kernel
theorem dX7_minuteOf_6 : decode cX7_minuteOf 6 = .ok (.getfield 10, 3) := by decide +kernel
theorem dX7_minuteOf_9 : decode cX7_minuteOf 9 = .ok (.getfield 105, 3) := by decide +kernel
theorem dX7_minuteOf_12 : decode cX7_minuteOf 12 = .ok (.getfield 140, 3) := by decide +kernel
theorem dX7_minuteOf_15 : decode cX7_minuteOf 15 = .ok (.iload_n 1, 1) := by decide +kernel
theorem dX7_minuteOf_16 : decode cX7_minuteOf 16 = .ok (.iaload, 1) := by decide +kernel
theorem dX7_minuteOf_17 : decode cX7_minuteOf 17 = .ok (.ireturn, 1) := by decide +kernel
theorem dX7_sentBy_0 : decode cX7_sentBy 0 = .ok (.aload_n 0, 1) := by decide +kernel
theorem dX7_sentBy_1 : decode cX7_sentBy 1 = .ok (.iload_n 1, 1) := by decide +kernel
theorem dX7_sentBy_2 : decode cX7_sentBy 2 = .ok (.invokevirtual 69, 3) := by decide +kernel
theorem dX7_sentBy_5 : decode cX7_sentBy 5 = .ok (.iload_n 2, 1) := by decide +kernel
theorem dX7_sentBy_6 : decode cX7_sentBy 6 = .ok (.invokestatic 144, 3) := by decide +kernel
theorem dX7_sentBy_9 : decode cX7_sentBy 9 = .ok (.aload_n 0, 1) := by decide +kernel
theorem dX7_sentBy_10 : decode cX7_sentBy 10 = .ok (.getfield 10, 3) := by decide +kernel
theorem dX7_sentBy_13 : decode cX7_sentBy 13 = .ok (.iload_n 1, 1) := by decide +kernel
theorem dX7_sentBy_14 : decode cX7_sentBy 14 = .ok (.iload_n 2, 1) := by decide +kernel
theorem dX7_sentBy_15 : decode cX7_sentBy 15 = .ok (.invokevirtual 147, 3) := by decide +kernel
theorem dX7_sentBy_18 : decode cX7_sentBy 18 = .ok (.ireturn, 1) := by decide +kernel
theorem dX7_sentByAnew_0 : decode cX7_sentByAnew 0 = .ok (.aload_n 0, 1) := by decide +kernel
theorem dX7_sentByAnew_1 : decode cX7_sentByAnew 1 = .ok (.iload_n 1, 1) := by decide +kernel
theorem dX7_sentByAnew_2 : decode cX7_sentByAnew 2 = .ok (.invokevirtual 69, 3) := by decide +kernel
theorem dX7_sentByAnew_5 : decode cX7_sentByAnew 5 = .ok (.iload_n 2, 1) := by decide +kernel
theorem dX7_sentByAnew_6 : decode cX7_sentByAnew 6 = .ok (.invokestatic 144, 3) := by decide +kernel
theorem dX7_sentByAnew_9 : decode cX7_sentByAnew 9 = .ok (.aload_n 0, 1) := by decide +kernel
theorem dX7_sentByAnew_10 : decode cX7_sentByAnew 10 = .ok (.getfield 10, 3) := by decide +kernel
theorem dX7_sentByAnew_13 : decode cX7_sentByAnew 13 = .ok (.iload_n 1, 1) := by decide +kernel
theorem dX7_sentByAnew_14 : decode cX7_sentByAnew 14 = .ok (.iload_n 2, 1) := by decide +kernel
theorem dX7_sentByAnew_15 : decode cX7_sentByAnew 15 = .ok (.invokevirtual 151, 3) := by decide +kernel
theorem dX7_sentByAnew_18 : decode cX7_sentByAnew 18 = .ok (.ireturn, 1) := by decide +kernel
theorem dX7_kept_0 : decode cX7_kept 0 = .ok (.aload_n 0, 1) := by decide +kernel
theorem dX7_kept_1 : decode cX7_kept 1 = .ok (.getfield 10, 3) := by decide +kernel
theorem dX7_kept_4 : decode cX7_kept 4 = .ok (.getfield 105, 3) := by decide +kernel
theorem dX7_kept_7 : decode cX7_kept 7 = .ok (.getfield 109, 3) := by decide +kernel
theorem dX7_kept_10 : decode cX7_kept 10 = .ok (.aload_n 0, 1) := by decide +kernel
theorem dX7_kept_11 : decode cX7_kept 11 = .ok (.getfield 10, 3) := by decide +kernel
theorem dX7_kept_14 : decode cX7_kept 14 = .ok (.getfield 154, 3) := by decide +kernel
theorem dX7_kept_17 : decode cX7_kept 17 = .ok (.isub, 1) := by decide +kernel
theorem dX7_kept_18 : decode cX7_kept 18 = .ok (.ireturn, 1) := by decide +kernel
theorem dX7_valueOf_0 : decode cX7_valueOf 0 = .ok (.aload_n 0, 1) := by decide +kernel
theorem dX7_valueOf_1 : decode cX7_valueOf 1 = .ok (.iload_n 1, 1) := by decide +kernel
theorem dX7_valueOf_2 : decode cX7_valueOf 2 = .ok (.invokevirtual 137, 3) := by decide +kernel
theorem dX7_valueOf_5 : decode cX7_valueOf 5 = .ok (.iload_n 2, 1) := by decide +kernel
theorem dX7_valueOf_6 : decode cX7_valueOf 6 = .ok (.invokestatic 157, 3) := by decide +kernel
theorem dX7_valueOf_9 : decode cX7_valueOf 9 = .ok (.iload_n 3, 1) := by decide +kernel
theorem dX7_valueOf_10 : decode cX7_valueOf 10 = .ok (.invokestatic 144, 3) := by decide +kernel
theorem dX7_valueOf_13 : decode cX7_valueOf 13 = .ok (.aload_n 0, 1) := by decide +kernel
theorem dX7_valueOf_14 : decode cX7_valueOf 14 = .ok (.getfield 10, 3) := by decide +kernel
theorem dX7_valueOf_17 : decode cX7_valueOf 17 = .ok (.iload_n 1, 1) := by decide +kernel
theorem dX7_valueOf_18 : decode cX7_valueOf 18 = .ok (.iload_n 2, 1) := by decide +kernel
theorem dX7_valueOf_19 : decode cX7_valueOf 19 = .ok (.iload_n 3, 1) := by decide +kernel
theorem dX7_valueOf_20 : decode cX7_valueOf 20 = .ok (.invokevirtual 161, 3) := by decide +kernel
theorem dX7_valueOf_23 : decode cX7_valueOf 23 = .ok (.ireturn, 1) := by decide +kernel
theorem dX7_addTest_0 : decode cX7_addTest 0 = .ok (.iload_n 1, 1) := by decide +kernel
theorem dX7_addTest_1 : decode cX7_addTest 1 = .ok (.invokestatic 157, 3) := by decide +kernel
theorem dX7_addTest_4 : decode cX7_addTest 4 = .ok (.iload_n 2, 1) := by decide +kernel
theorem dX7_addTest_5 : decode cX7_addTest 5 = .ok (.invokestatic 144, 3) := by decide +kernel
theorem dX7_addTest_8 : decode cX7_addTest 8 = .ok (.iload 4, 2) := by decide +kernel
theorem dX7_addTest_10 : decode cX7_addTest 10 = .ok (.ifCond .lt 10, 3) := by decide +kernel
theorem dX7_addTest_13 : decode cX7_addTest 13 = .ok (.iload 4, 2) := by decide +kernel
theorem dX7_addTest_15 : decode cX7_addTest 15 = .ok (.ldc 165, 2) := by decide +kernel
theorem dX7_addTest_17 : decode cX7_addTest 17 = .ok (.if_icmp .le 13, 3) := by decide +kernel
theorem dX7_addTest_20 : decode cX7_addTest 20 = .ok (.new 41, 3) := by decide +kernel
theorem dX7_addTest_23 : decode cX7_addTest 23 = .ok (.dup, 1) := by decide +kernel
theorem dX7_addTest_24 : decode cX7_addTest 24 = .ok (.ldc 166, 2) := by decide +kernel
theorem dX7_addTest_26 : decode cX7_addTest 26 = .ok (.invokespecial 45, 3) := by decide +kernel
theorem dX7_addTest_29 : decode cX7_addTest 29 = .ok (.athrow, 1) := by decide +kernel
theorem dX7_addTest_30 : decode cX7_addTest 30 = .ok (.aload_n 0, 1) := by decide +kernel
theorem dX7_addTest_31 : decode cX7_addTest 31 = .ok (.invokevirtual 168, 3) := by decide +kernel
theorem dX7_addTest_34 : decode cX7_addTest 34 = .ok (.aload_n 0, 1) := by decide +kernel
theorem dX7_addTest_35 : decode cX7_addTest 35 = .ok (.getfield 19, 3) := by decide +kernel
theorem dX7_addTest_38 : decode cX7_addTest 38 = .ok (.iload_n 1, 1) := by decide +kernel
theorem dX7_addTest_39 : decode cX7_addTest 39 = .ok (.iload_n 2, 1) := by decide +kernel
theorem dX7_addTest_40 : decode cX7_addTest 40 = .ok (.iload_n 3, 1) := by decide +kernel
theorem dX7_addTest_41 : decode cX7_addTest 41 = .ok (.iload 4, 2) := by decide +kernel
theorem dX7_addTest_43 : decode cX7_addTest 43 = .ok (.invokevirtual 171, 3) := by decide +kernel
theorem dX7_addTest_46 : decode cX7_addTest 46 = .ok (.ireturn, 1) := by decide +kernel
theorem dX7_addBoth_0 : decode cX7_addBoth 0 = .ok (.aload_n 0, 1) := by decide +kernel
theorem dX7_addBoth_1 : decode cX7_addBoth 1 = .ok (.iload_n 1, 1) := by decide +kernel
theorem dX7_addBoth_2 : decode cX7_addBoth 2 = .ok (.iload_n 2, 1) := by decide +kernel
theorem dX7_addBoth_3 : decode cX7_addBoth 3 = .ok (.invokevirtual 175, 3) := by decide +kernel
theorem dX7_addBoth_6 : decode cX7_addBoth 6 = .ok (.aload_n 0, 1) := by decide +kernel
theorem dX7_addBoth_7 : decode cX7_addBoth 7 = .ok (.getfield 19, 3) := by decide +kernel
theorem dX7_addBoth_10 : decode cX7_addBoth 10 = .ok (.iconst 1, 1) := by decide +kernel
theorem dX7_addBoth_11 : decode cX7_addBoth 11 = .ok (.iload_n 1, 1) := by decide +kernel
theorem dX7_addBoth_12 : decode cX7_addBoth 12 = .ok (.iload_n 2, 1) := by decide +kernel
theorem dX7_addBoth_13 : decode cX7_addBoth 13 = .ok (.invokevirtual 179, 3) := by decide +kernel
theorem dX7_addBoth_16 : decode cX7_addBoth 16 = .ok (.ireturn, 1) := by decide +kernel
theorem dX7_addEither_0 : decode cX7_addEither 0 = .ok (.aload_n 0, 1) := by decide +kernel
theorem dX7_addEither_1 : decode cX7_addEither 1 = .ok (.iload_n 1, 1) := by decide +kernel
theorem dX7_addEither_2 : decode cX7_addEither 2 = .ok (.iload_n 2, 1) := by decide +kernel
theorem dX7_addEither_3 : decode cX7_addEither 3 = .ok (.invokevirtual 175, 3) := by decide +kernel
theorem dX7_addEither_6 : decode cX7_addEither 6 = .ok (.aload_n 0, 1) := by decide +kernel
theorem dX7_addEither_7 : decode cX7_addEither 7 = .ok (.getfield 19, 3) := by decide +kernel
theorem dX7_addEither_10 : decode cX7_addEither 10 = .ok (.iconst 2, 1) := by decide +kernel
theorem dX7_addEither_11 : decode cX7_addEither 11 = .ok (.iload_n 1, 1) := by decide +kernel
theorem dX7_addEither_12 : decode cX7_addEither 12 = .ok (.iload_n 2, 1) := by decide +kernel
theorem dX7_addEither_13 : decode cX7_addEither 13 = .ok (.invokevirtual 179, 3) := by decide +kernel
theorem dX7_addEither_16 : decode cX7_addEither 16 = .ok (.ireturn, 1) := by decide +kernel
theorem dX7_addNot_0 : decode cX7_addNot 0 = .ok (.aload_n 0, 1) := by decide +kernel
theorem dX7_addNot_1 : decode cX7_addNot 1 = .ok (.iload_n 1, 1) := by decide +kernel
theorem dX7_addNot_2 : decode cX7_addNot 2 = .ok (.invokevirtual 183, 3) := by decide +kernel
theorem dX7_addNot_5 : decode cX7_addNot 5 = .ok (.iconst 1, 1) := by decide +kernel
theorem dX7_addNot_6 : decode cX7_addNot 6 = .ok (.aload_n 0, 1) := by decide +kernel
theorem dX7_addNot_7 : decode cX7_addNot 7 = .ok (.getfield 19, 3) := by decide +kernel
theorem dX7_addNot_10 : decode cX7_addNot 10 = .ok (.getfield 186, 3) := by decide +kernel
theorem dX7_addNot_13 : decode cX7_addNot 13 = .ok (.iload_n 1, 1) := by decide +kernel
theorem dX7_addNot_14 : decode cX7_addNot 14 = .ok (.iaload, 1) := by decide +kernel
theorem dX7_addNot_15 : decode cX7_addNot 15 = .ok (.iadd, 1) := by decide +kernel
theorem dX7_addNot_16 : decode cX7_addNot 16 = .ok (.invokestatic 189, 3) := by decide +kernel
theorem dX7_addNot_19 : decode cX7_addNot 19 = .ok (.aload_n 0, 1) := by decide +kernel
theorem dX7_addNot_20 : decode cX7_addNot 20 = .ok (.invokevirtual 168, 3) := by decide +kernel
theorem dX7_addNot_23 : decode cX7_addNot 23 = .ok (.aload_n 0, 1) := by decide +kernel
theorem dX7_addNot_24 : decode cX7_addNot 24 = .ok (.getfield 19, 3) := by decide +kernel
theorem dX7_addNot_27 : decode cX7_addNot 27 = .ok (.iload_n 1, 1) := by decide +kernel
theorem dX7_addNot_28 : decode cX7_addNot 28 = .ok (.invokevirtual 192, 3) := by decide +kernel
theorem dX7_addNot_31 : decode cX7_addNot 31 = .ok (.ireturn, 1) := by decide +kernel
theorem dX7_holds_0 : decode cX7_holds 0 = .ok (.aload_n 0, 1) := by decide +kernel
theorem dX7_holds_1 : decode cX7_holds 1 = .ok (.iload_n 1, 1) := by decide +kernel
theorem dX7_holds_2 : decode cX7_holds 2 = .ok (.invokevirtual 183, 3) := by decide +kernel
theorem dX7_holds_5 : decode cX7_holds 5 = .ok (.aload_n 0, 1) := by decide +kernel
theorem dX7_holds_6 : decode cX7_holds 6 = .ok (.iload_n 2, 1) := by decide +kernel
theorem dX7_holds_7 : decode cX7_holds 7 = .ok (.invokevirtual 137, 3) := by decide +kernel
theorem dX7_holds_10 : decode cX7_holds 10 = .ok (.aload_n 0, 1) := by decide +kernel
theorem dX7_holds_11 : decode cX7_holds 11 = .ok (.getfield 19, 3) := by decide +kernel
theorem dX7_holds_14 : decode cX7_holds 14 = .ok (.aload_n 0, 1) := by decide +kernel
theorem dX7_holds_15 : decode cX7_holds 15 = .ok (.getfield 10, 3) := by decide +kernel
theorem dX7_holds_18 : decode cX7_holds 18 = .ok (.iload_n 2, 1) := by decide +kernel
theorem dX7_holds_19 : decode cX7_holds 19 = .ok (.iload_n 1, 1) := by decide +kernel
theorem dX7_holds_20 : decode cX7_holds 20 = .ok (.iconst 1, 1) := by decide +kernel
theorem dX7_holds_21 : decode cX7_holds 21 = .ok (.iadd, 1) := by decide +kernel
theorem dX7_holds_22 : decode cX7_holds 22 = .ok (.invokevirtual 118, 3) := by decide +kernel
theorem dX7_holds_25 : decode cX7_holds 25 = .ok (.aload_n 0, 1) := by decide +kernel
theorem dX7_holds_26 : decode cX7_holds 26 = .ok (.getfield 19, 3) := by decide +kernel
theorem dX7_holds_29 : decode cX7_holds 29 = .ok (.getfield 195, 3) := by decide +kernel
theorem dX7_holds_32 : decode cX7_holds 32 = .ok (.iload_n 1, 1) := by decide +kernel
theorem dX7_holds_33 : decode cX7_holds 33 = .ok (.baload, 1) := by decide +kernel
theorem dX7_holds_34 : decode cX7_holds 34 = .ok (.ireturn, 1) := by decide +kernel
theorem dX7_sizeOf_0 : decode cX7_sizeOf 0 = .ok (.aload_n 0, 1) := by decide +kernel
theorem dX7_sizeOf_1 : decode cX7_sizeOf 1 = .ok (.iload_n 1, 1) := by decide +kernel
theorem dX7_sizeOf_2 : decode cX7_sizeOf 2 = .ok (.invokevirtual 183, 3) := by decide +kernel
theorem dX7_sizeOf_5 : decode cX7_sizeOf 5 = .ok (.aload_n 0, 1) := by decide +kernel
theorem dX7_sizeOf_6 : decode cX7_sizeOf 6 = .ok (.getfield 19, 3) := by decide +kernel
theorem dX7_sizeOf_9 : decode cX7_sizeOf 9 = .ok (.getfield 186, 3) := by decide +kernel
theorem dX7_sizeOf_12 : decode cX7_sizeOf 12 = .ok (.iload_n 1, 1) := by decide +kernel
theorem dX7_sizeOf_13 : decode cX7_sizeOf 13 = .ok (.iaload, 1) := by decide +kernel
theorem dX7_sizeOf_14 : decode cX7_sizeOf 14 = .ok (.ireturn, 1) := by decide +kernel
theorem dX7_addRule_0 : decode cX7_addRule 0 = .ok (.aload_n 0, 1) := by decide +kernel
theorem dX7_addRule_1 : decode cX7_addRule 1 = .ok (.iload_n 1, 1) := by decide +kernel
theorem dX7_addRule_2 : decode cX7_addRule 2 = .ok (.invokevirtual 183, 3) := by decide +kernel
theorem dX7_addRule_5 : decode cX7_addRule 5 = .ok (.iload_n 2, 1) := by decide +kernel
theorem dX7_addRule_6 : decode cX7_addRule 6 = .ok (.iconst 1, 1) := by decide +kernel
theorem dX7_addRule_7 : decode cX7_addRule 7 = .ok (.if_icmp .lt 9, 3) := by decide +kernel
theorem dX7_addRule_10 : decode cX7_addRule 10 = .ok (.iload_n 2, 1) := by decide +kernel
theorem dX7_addRule_11 : decode cX7_addRule 11 = .ok (.bipush 100, 2) := by decide +kernel
theorem dX7_addRule_13 : decode cX7_addRule 13 = .ok (.if_icmp .le 13, 3) := by decide +kernel
theorem dX7_addRule_16 : decode cX7_addRule 16 = .ok (.new 41, 3) := by decide +kernel
theorem dX7_addRule_19 : decode cX7_addRule 19 = .ok (.dup, 1) := by decide +kernel
theorem dX7_addRule_20 : decode cX7_addRule 20 = .ok (.ldc 199, 2) := by decide +kernel
theorem dX7_addRule_22 : decode cX7_addRule 22 = .ok (.invokespecial 45, 3) := by decide +kernel
theorem dX7_addRule_25 : decode cX7_addRule 25 = .ok (.athrow, 1) := by decide +kernel
theorem dX7_addRule_26 : decode cX7_addRule 26 = .ok (.aload_n 0, 1) := by decide +kernel
theorem dX7_addRule_27 : decode cX7_addRule 27 = .ok (.getfield 26, 3) := by decide +kernel
theorem dX7_addRule_30 : decode cX7_addRule 30 = .ok (.getfield 201, 3) := by decide +kernel
theorem dX7_addRule_33 : decode cX7_addRule 33 = .ok (.bipush 12, 2) := by decide +kernel
theorem dX7_addRule_35 : decode cX7_addRule 35 = .ok (.if_icmp .lt 13, 3) := by decide +kernel
theorem dX7_addRule_38 : decode cX7_addRule 38 = .ok (.new 57, 3) := by decide +kernel
theorem dX7_addRule_41 : decode cX7_addRule 41 = .ok (.dup, 1) := by decide +kernel
theorem dX7_addRule_42 : decode cX7_addRule 42 = .ok (.ldc 202, 2) := by decide +kernel
theorem dX7_addRule_44 : decode cX7_addRule 44 = .ok (.invokespecial 61, 3) := by decide +kernel
theorem dX7_addRule_47 : decode cX7_addRule 47 = .ok (.athrow, 1) := by decide +kernel
theorem dX7_addRule_48 : decode cX7_addRule 48 = .ok (.aload_n 0, 1) := by decide +kernel
theorem dX7_addRule_49 : decode cX7_addRule 49 = .ok (.getfield 26, 3) := by decide +kernel
theorem dX7_addRule_52 : decode cX7_addRule 52 = .ok (.iload_n 1, 1) := by decide +kernel
theorem dX7_addRule_53 : decode cX7_addRule 53 = .ok (.iload_n 2, 1) := by decide +kernel
theorem dX7_addRule_54 : decode cX7_addRule 54 = .ok (.invokevirtual 204, 3) := by decide +kernel
theorem dX7_addRule_57 : decode cX7_addRule 57 = .ok (.ireturn, 1) := by decide +kernel
theorem dX7_setRule_0 : decode cX7_setRule 0 = .ok (.aload_n 0, 1) := by decide +kernel
theorem dX7_setRule_1 : decode cX7_setRule 1 = .ok (.iload_n 1, 1) := by decide +kernel
theorem dX7_setRule_2 : decode cX7_setRule 2 = .ok (.invokevirtual 206, 3) := by decide +kernel
theorem dX7_setRule_5 : decode cX7_setRule 5 = .ok (.aload_n 0, 1) := by decide +kernel
theorem dX7_setRule_6 : decode cX7_setRule 6 = .ok (.getfield 26, 3) := by decide +kernel
theorem dX7_setRule_9 : decode cX7_setRule 9 = .ok (.getfield 209, 3) := by decide +kernel
theorem dX7_setRule_12 : decode cX7_setRule 12 = .ok (.iload_n 1, 1) := by decide +kernel
theorem dX7_setRule_13 : decode cX7_setRule 13 = .ok (.invokestatic 76, 3) := by decide +kernel
theorem dX7_setRule_16 : decode cX7_setRule 16 = .ok (.istore_n 3, 1) := by decide +kernel
theorem dX7_setRule_17 : decode cX7_setRule 17 = .ok (.aload_n 0, 1) := by decide +kernel
theorem dX7_setRule_18 : decode cX7_setRule 18 = .ok (.getfield 26, 3) := by decide +kernel
theorem dX7_setRule_21 : decode cX7_setRule 21 = .ok (.aload_n 0, 1) := by decide +kernel
theorem dX7_setRule_22 : decode cX7_setRule 22 = .ok (.getfield 26, 3) := by decide +kernel
theorem dX7_setRule_25 : decode cX7_setRule 25 = .ok (.getfield 209, 3) := by decide +kernel
theorem dX7_setRule_28 : decode cX7_setRule 28 = .ok (.iload_n 1, 1) := by decide +kernel
theorem dX7_setRule_29 : decode cX7_setRule 29 = .ok (.iload_n 2, 1) := by decide +kernel
theorem dX7_setRule_30 : decode cX7_setRule 30 = .ok (.invokestatic 80, 3) := by decide +kernel
theorem dX7_setRule_33 : decode cX7_setRule 33 = .ok (.putfield 209, 3) := by decide +kernel
theorem dX7_setRule_36 : decode cX7_setRule 36 = .ok (.iload_n 3, 1) := by decide +kernel
theorem dX7_setRule_37 : decode cX7_setRule 37 = .ok (.ireturn, 1) := by decide +kernel
theorem dX7_setThreshold_0 : decode cX7_setThreshold 0 = .ok (.iload_n 1, 1) := by decide +kernel
theorem dX7_setThreshold_1 : decode cX7_setThreshold 1 = .ok (.invokestatic 212, 3) := by decide +kernel
theorem dX7_setThreshold_4 : decode cX7_setThreshold 4 = .ok (.aload_n 0, 1) := by decide +kernel
theorem dX7_setThreshold_5 : decode cX7_setThreshold 5 = .ok (.getfield 37, 3) := by decide +kernel
theorem dX7_setThreshold_8 : decode cX7_setThreshold 8 = .ok (.istore_n 2, 1) := by decide +kernel
theorem dX7_setThreshold_9 : decode cX7_setThreshold 9 = .ok (.aload_n 0, 1) := by decide +kernel
theorem dX7_setThreshold_10 : decode cX7_setThreshold 10 = .ok (.iload_n 1, 1) := by decide +kernel
theorem dX7_setThreshold_11 : decode cX7_setThreshold 11 = .ok (.putfield 37, 3) := by decide +kernel
theorem dX7_setThreshold_14 : decode cX7_setThreshold 14 = .ok (.iload_n 2, 1) := by decide +kernel
theorem dX7_setThreshold_15 : decode cX7_setThreshold 15 = .ok (.ireturn, 1) := by decide +kernel
theorem dX7_score_0 : decode cX7_score 0 = .ok (.aload_n 0, 1) := by decide +kernel
theorem dX7_score_1 : decode cX7_score 1 = .ok (.iload_n 1, 1) := by decide +kernel
theorem dX7_score_2 : decode cX7_score 2 = .ok (.invokevirtual 137, 3) := by decide +kernel
theorem dX7_score_5 : decode cX7_score 5 = .ok (.aload_n 0, 1) := by decide +kernel
theorem dX7_score_6 : decode cX7_score 6 = .ok (.getfield 33, 3) := by decide +kernel
theorem dX7_score_9 : decode cX7_score 9 = .ok (.getfield 215, 3) := by decide +kernel
theorem dX7_score_12 : decode cX7_score 12 = .ok (.iload_n 1, 1) := by decide +kernel
theorem dX7_score_13 : decode cX7_score 13 = .ok (.iaload, 1) := by decide +kernel
theorem dX7_score_14 : decode cX7_score 14 = .ok (.ireturn, 1) := by decide +kernel
theorem dX7_scoreNow_0 : decode cX7_scoreNow 0 = .ok (.aload_n 0, 1) := by decide +kernel
theorem dX7_scoreNow_1 : decode cX7_scoreNow 1 = .ok (.iload_n 1, 1) := by decide +kernel
theorem dX7_scoreNow_2 : decode cX7_scoreNow 2 = .ok (.invokevirtual 137, 3) := by decide +kernel
theorem dX7_scoreNow_5 : decode cX7_scoreNow 5 = .ok (.aload_n 0, 1) := by decide +kernel
theorem dX7_scoreNow_6 : decode cX7_scoreNow 6 = .ok (.getfield 19, 3) := by decide +kernel
theorem dX7_scoreNow_9 : decode cX7_scoreNow 9 = .ok (.aload_n 0, 1) := by decide +kernel
theorem dX7_scoreNow_10 : decode cX7_scoreNow 10 = .ok (.getfield 10, 3) := by decide +kernel
theorem dX7_scoreNow_13 : decode cX7_scoreNow 13 = .ok (.iload_n 1, 1) := by decide +kernel
theorem dX7_scoreNow_14 : decode cX7_scoreNow 14 = .ok (.aload_n 0, 1) := by decide +kernel
theorem dX7_scoreNow_15 : decode cX7_scoreNow 15 = .ok (.getfield 19, 3) := by decide +kernel
theorem dX7_scoreNow_18 : decode cX7_scoreNow 18 = .ok (.getfield 117, 3) := by decide +kernel
theorem dX7_scoreNow_21 : decode cX7_scoreNow 21 = .ok (.invokevirtual 118, 3) := by decide +kernel
theorem dX7_scoreNow_24 : decode cX7_scoreNow 24 = .ok (.aload_n 0, 1) := by decide +kernel
theorem dX7_scoreNow_25 : decode cX7_scoreNow 25 = .ok (.getfield 26, 3) := by decide +kernel
theorem dX7_scoreNow_28 : decode cX7_scoreNow 28 = .ok (.aload_n 0, 1) := by decide +kernel
theorem dX7_scoreNow_29 : decode cX7_scoreNow 29 = .ok (.getfield 26, 3) := by decide +kernel
theorem dX7_scoreNow_32 : decode cX7_scoreNow 32 = .ok (.aload_n 0, 1) := by decide +kernel
theorem dX7_scoreNow_33 : decode cX7_scoreNow 33 = .ok (.getfield 19, 3) := by decide +kernel
theorem dX7_scoreNow_36 : decode cX7_scoreNow 36 = .ok (.invokevirtual 122, 3) := by decide +kernel
theorem dX7_scoreNow_39 : decode cX7_scoreNow 39 = .ok (.invokevirtual 126, 3) := by decide +kernel
theorem dX7_scoreNow_42 : decode cX7_scoreNow 42 = .ok (.ireturn, 1) := by decide +kernel
theorem dX7_reasons_0 : decode cX7_reasons 0 = .ok (.aload_n 0, 1) := by decide +kernel
theorem dX7_reasons_1 : decode cX7_reasons 1 = .ok (.iload_n 1, 1) := by decide +kernel
theorem dX7_reasons_2 : decode cX7_reasons 2 = .ok (.invokevirtual 137, 3) := by decide +kernel
theorem dX7_reasons_5 : decode cX7_reasons 5 = .ok (.aload_n 0, 1) := by decide +kernel
theorem dX7_reasons_6 : decode cX7_reasons 6 = .ok (.getfield 33, 3) := by decide +kernel
theorem dX7_reasons_9 : decode cX7_reasons 9 = .ok (.getfield 218, 3) := by decide +kernel
theorem dX7_reasons_12 : decode cX7_reasons 12 = .ok (.iload_n 1, 1) := by decide +kernel
theorem dX7_reasons_13 : decode cX7_reasons 13 = .ok (.iaload, 1) := by decide +kernel
theorem dX7_reasons_14 : decode cX7_reasons 14 = .ok (.invokestatic 221, 3) := by decide +kernel
theorem dX7_reasons_17 : decode cX7_reasons 17 = .ok (.ireturn, 1) := by decide +kernel
theorem dX7_reasonRule_0 : decode cX7_reasonRule 0 = .ok (.aload_n 0, 1) := by decide +kernel
theorem dX7_reasonRule_1 : decode cX7_reasonRule 1 = .ok (.iload_n 1, 1) := by decide +kernel
theorem dX7_reasonRule_2 : decode cX7_reasonRule 2 = .ok (.invokevirtual 137, 3) := by decide +kernel
theorem dX7_reasonRule_5 : decode cX7_reasonRule 5 = .ok (.aload_n 0, 1) := by decide +kernel
theorem dX7_reasonRule_6 : decode cX7_reasonRule 6 = .ok (.iload_n 1, 1) := by decide +kernel
theorem dX7_reasonRule_7 : decode cX7_reasonRule 7 = .ok (.iload_n 2, 1) := by decide +kernel
theorem dX7_reasonRule_8 : decode cX7_reasonRule 8 = .ok (.invokevirtual 226, 3) := by decide +kernel
theorem dX7_reasonRule_11 : decode cX7_reasonRule 11 = .ok (.ireturn, 1) := by decide +kernel
theorem dX7_reasonTests_0 : decode cX7_reasonTests 0 = .ok (.aload_n 0, 1) := by decide +kernel
theorem dX7_reasonTests_1 : decode cX7_reasonTests 1 = .ok (.iload_n 1, 1) := by decide +kernel
theorem dX7_reasonTests_2 : decode cX7_reasonTests 2 = .ok (.invokevirtual 137, 3) := by decide +kernel
theorem dX7_reasonTests_5 : decode cX7_reasonTests 5 = .ok (.aload_n 0, 1) := by decide +kernel
theorem dX7_reasonTests_6 : decode cX7_reasonTests 6 = .ok (.getfield 26, 3) := by decide +kernel
theorem dX7_reasonTests_9 : decode cX7_reasonTests 9 = .ok (.getfield 229, 3) := by decide +kernel
theorem dX7_reasonTests_12 : decode cX7_reasonTests 12 = .ok (.aload_n 0, 1) := by decide +kernel
theorem dX7_reasonTests_13 : decode cX7_reasonTests 13 = .ok (.iload_n 1, 1) := by decide +kernel
theorem dX7_reasonTests_14 : decode cX7_reasonTests 14 = .ok (.iload_n 2, 1) := by decide +kernel
theorem dX7_reasonTests_15 : decode cX7_reasonTests 15 = .ok (.invokevirtual 226, 3) := by decide +kernel
theorem dX7_reasonTests_18 : decode cX7_reasonTests 18 = .ok (.iaload, 1) := by decide +kernel
theorem dX7_reasonTests_19 : decode cX7_reasonTests 19 = .ok (.istore_n 3, 1) := by decide +kernel
theorem dX7_reasonTests_20 : decode cX7_reasonTests 20 = .ok (.aload_n 0, 1) := by decide +kernel
theorem dX7_reasonTests_21 : decode cX7_reasonTests 21 = .ok (.getfield 19, 3) := by decide +kernel
theorem dX7_reasonTests_24 : decode cX7_reasonTests 24 = .ok (.iload_n 3, 1) := by decide +kernel
theorem dX7_reasonTests_25 : decode cX7_reasonTests 25 = .ok (.aload_n 0, 1) := by decide +kernel
theorem dX7_reasonTests_26 : decode cX7_reasonTests 26 = .ok (.getfield 33, 3) := by decide +kernel
theorem dX7_reasonTests_29 : decode cX7_reasonTests 29 = .ok (.getfield 231, 3) := by decide +kernel
theorem dX7_reasonTests_32 : decode cX7_reasonTests 32 = .ok (.iload_n 1, 1) := by decide +kernel
theorem dX7_reasonTests_33 : decode cX7_reasonTests 33 = .ok (.iaload, 1) := by decide +kernel
theorem dX7_reasonTests_34 : decode cX7_reasonTests 34 = .ok (.invokevirtual 234, 3) := by decide +kernel
theorem dX7_reasonTests_37 : decode cX7_reasonTests 37 = .ok (.ireturn, 1) := by decide +kernel
theorem dX7_reasonFeature_0 : decode cX7_reasonFeature 0 = .ok (.aload_n 0, 1) := by decide +kernel
theorem dX7_reasonFeature_1 : decode cX7_reasonFeature 1 = .ok (.iload_n 1, 1) := by decide +kernel
theorem dX7_reasonFeature_2 : decode cX7_reasonFeature 2 = .ok (.invokevirtual 137, 3) := by decide +kernel
theorem dX7_reasonFeature_5 : decode cX7_reasonFeature 5 = .ok (.aload_n 0, 1) := by decide +kernel
theorem dX7_reasonFeature_6 : decode cX7_reasonFeature 6 = .ok (.getfield 19, 3) := by decide +kernel
theorem dX7_reasonFeature_9 : decode cX7_reasonFeature 9 = .ok (.getfield 237, 3) := by decide +kernel
theorem dX7_reasonFeature_12 : decode cX7_reasonFeature 12 = .ok (.aload_n 0, 1) := by decide +kernel
theorem dX7_reasonFeature_13 : decode cX7_reasonFeature 13 = .ok (.iload_n 1, 1) := by decide +kernel
theorem dX7_reasonFeature_14 : decode cX7_reasonFeature 14 = .ok (.iload_n 2, 1) := by decide +kernel
theorem dX7_reasonFeature_15 : decode cX7_reasonFeature 15 = .ok (.iload_n 3, 1) := by decide +kernel
theorem dX7_reasonFeature_16 : decode cX7_reasonFeature 16 = .ok (.invokevirtual 240, 3) := by decide +kernel
theorem dX7_reasonFeature_19 : decode cX7_reasonFeature 19 = .ok (.caload, 1) := by decide +kernel
theorem dX7_reasonFeature_20 : decode cX7_reasonFeature 20 = .ok (.ireturn, 1) := by decide +kernel
theorem dX7_reasonValue_0 : decode cX7_reasonValue 0 = .ok (.aload_n 0, 1) := by decide +kernel
theorem dX7_reasonValue_1 : decode cX7_reasonValue 1 = .ok (.iload_n 1, 1) := by decide +kernel
theorem dX7_reasonValue_2 : decode cX7_reasonValue 2 = .ok (.invokevirtual 137, 3) := by decide +kernel
theorem dX7_reasonValue_5 : decode cX7_reasonValue 5 = .ok (.aload_n 0, 1) := by decide +kernel
theorem dX7_reasonValue_6 : decode cX7_reasonValue 6 = .ok (.getfield 33, 3) := by decide +kernel
theorem dX7_reasonValue_9 : decode cX7_reasonValue 9 = .ok (.iload_n 1, 1) := by decide +kernel
theorem dX7_reasonValue_10 : decode cX7_reasonValue 10 = .ok (.aload_n 0, 1) := by decide +kernel
theorem dX7_reasonValue_11 : decode cX7_reasonValue 11 = .ok (.iload_n 1, 1) := by decide +kernel
theorem dX7_reasonValue_12 : decode cX7_reasonValue 12 = .ok (.iload_n 2, 1) := by decide +kernel
theorem dX7_reasonValue_13 : decode cX7_reasonValue 13 = .ok (.iload_n 3, 1) := by decide +kernel
theorem dX7_reasonValue_14 : decode cX7_reasonValue 14 = .ok (.invokevirtual 240, 3) := by decide +kernel
theorem dX7_reasonValue_17 : decode cX7_reasonValue 17 = .ok (.invokevirtual 243, 3) := by decide +kernel
theorem dX7_reasonValue_20 : decode cX7_reasonValue 20 = .ok (.ireturn, 1) := by decide +kernel
theorem dX7_nextAlert_0 : decode cX7_nextAlert 0 = .ok (.aload_n 0, 1) := by decide +kernel
theorem dX7_nextAlert_1 : decode cX7_nextAlert 1 = .ok (.getfield 33, 3) := by decide +kernel
theorem dX7_nextAlert_4 : decode cX7_nextAlert 4 = .ok (.aload_n 0, 1) := by decide +kernel
theorem dX7_nextAlert_5 : decode cX7_nextAlert 5 = .ok (.getfield 10, 3) := by decide +kernel
theorem dX7_nextAlert_8 : decode cX7_nextAlert 8 = .ok (.getfield 105, 3) := by decide +kernel
theorem dX7_nextAlert_11 : decode cX7_nextAlert 11 = .ok (.getfield 109, 3) := by decide +kernel
theorem dX7_nextAlert_14 : decode cX7_nextAlert 14 = .ok (.invokevirtual 246, 3) := by decide +kernel
theorem dX7_nextAlert_17 : decode cX7_nextAlert 17 = .ok (.istore_n 1, 1) := by decide +kernel
theorem dX7_nextAlert_18 : decode cX7_nextAlert 18 = .ok (.iload_n 1, 1) := by decide +kernel
theorem dX7_nextAlert_19 : decode cX7_nextAlert 19 = .ok (.iconst (-1), 1) := by decide +kernel
theorem dX7_nextAlert_20 : decode cX7_nextAlert 20 = .ok (.if_icmp .ne 13, 3) := by decide +kernel
theorem dX7_nextAlert_23 : decode cX7_nextAlert 23 = .ok (.new 249, 3) := by decide +kernel
theorem dX7_nextAlert_26 : decode cX7_nextAlert 26 = .ok (.dup, 1) := by decide +kernel
theorem dX7_nextAlert_27 : decode cX7_nextAlert 27 = .ok (.ldc 251, 2) := by decide +kernel
theorem dX7_nextAlert_29 : decode cX7_nextAlert 29 = .ok (.invokespecial 253, 3) := by decide +kernel
theorem dX7_nextAlert_32 : decode cX7_nextAlert 32 = .ok (.athrow, 1) := by decide +kernel
theorem dX7_nextAlert_33 : decode cX7_nextAlert 33 = .ok (.iload_n 1, 1) := by decide +kernel
theorem dX7_nextAlert_34 : decode cX7_nextAlert 34 = .ok (.ireturn, 1) := by decide +kernel
theorem dX7_alertAt_0 : decode cX7_alertAt 0 = .ok (.aload_n 0, 1) := by decide +kernel
theorem dX7_alertAt_1 : decode cX7_alertAt 1 = .ok (.getfield 33, 3) := by decide +kernel
theorem dX7_alertAt_4 : decode cX7_alertAt 4 = .ok (.iload_n 1, 1) := by decide +kernel
theorem dX7_alertAt_5 : decode cX7_alertAt 5 = .ok (.aload_n 0, 1) := by decide +kernel
theorem dX7_alertAt_6 : decode cX7_alertAt 6 = .ok (.getfield 10, 3) := by decide +kernel
theorem dX7_alertAt_9 : decode cX7_alertAt 9 = .ok (.getfield 105, 3) := by decide +kernel
theorem dX7_alertAt_12 : decode cX7_alertAt 12 = .ok (.getfield 109, 3) := by decide +kernel
theorem dX7_alertAt_15 : decode cX7_alertAt 15 = .ok (.invokevirtual 254, 3) := by decide +kernel
theorem dX7_alertAt_18 : decode cX7_alertAt 18 = .ok (.istore_n 2, 1) := by decide +kernel
theorem dX7_alertAt_19 : decode cX7_alertAt 19 = .ok (.iload_n 2, 1) := by decide +kernel
theorem dX7_alertAt_20 : decode cX7_alertAt 20 = .ok (.iconst (-1), 1) := by decide +kernel
theorem dX7_alertAt_21 : decode cX7_alertAt 21 = .ok (.if_icmp .ne 14, 3) := by decide +kernel
theorem dX7_alertAt_24 : decode cX7_alertAt 24 = .ok (.new 257, 3) := by decide +kernel
theorem dX7_alertAt_27 : decode cX7_alertAt 27 = .ok (.dup, 1) := by decide +kernel
theorem dX7_alertAt_28 : decode cX7_alertAt 28 = .ok (.ldc_w 259, 3) := by decide +kernel
theorem dX7_alertAt_31 : decode cX7_alertAt 31 = .ok (.invokespecial 261, 3) := by decide +kernel
theorem dX7_alertAt_34 : decode cX7_alertAt 34 = .ok (.athrow, 1) := by decide +kernel
theorem dX7_alertAt_35 : decode cX7_alertAt 35 = .ok (.iload_n 2, 1) := by decide +kernel
theorem dX7_alertAt_36 : decode cX7_alertAt 36 = .ok (.ireturn, 1) := by decide +kernel
theorem dX7_openAlerts_0 : decode cX7_openAlerts 0 = .ok (.aload_n 0, 1) := by decide +kernel
theorem dX7_openAlerts_1 : decode cX7_openAlerts 1 = .ok (.getfield 33, 3) := by decide +kernel
theorem dX7_openAlerts_4 : decode cX7_openAlerts 4 = .ok (.getfield 262, 3) := by decide +kernel
theorem dX7_openAlerts_7 : decode cX7_openAlerts 7 = .ok (.ireturn, 1) := by decide +kernel
theorem dX7_decide_0 : decode cX7_decide 0 = .ok (.aload_n 0, 1) := by decide +kernel
theorem dX7_decide_1 : decode cX7_decide 1 = .ok (.iload_n 1, 1) := by decide +kernel
theorem dX7_decide_2 : decode cX7_decide 2 = .ok (.invokevirtual 137, 3) := by decide +kernel
theorem dX7_decide_5 : decode cX7_decide 5 = .ok (.aload_n 0, 1) := by decide +kernel
theorem dX7_decide_6 : decode cX7_decide 6 = .ok (.getfield 33, 3) := by decide +kernel
theorem dX7_decide_9 : decode cX7_decide 9 = .ok (.getfield 265, 3) := by decide +kernel
theorem dX7_decide_12 : decode cX7_decide 12 = .ok (.iload_n 1, 1) := by decide +kernel
theorem dX7_decide_13 : decode cX7_decide 13 = .ok (.caload, 1) := by decide +kernel
theorem dX7_decide_14 : decode cX7_decide 14 = .ok (.bipush 111, 2) := by decide +kernel
theorem dX7_decide_16 : decode cX7_decide 16 = .ok (.if_icmp .eq 14, 3) := by decide +kernel
theorem dX7_decide_19 : decode cX7_decide 19 = .ok (.new 57, 3) := by decide +kernel
theorem dX7_decide_22 : decode cX7_decide 22 = .ok (.dup, 1) := by decide +kernel
theorem dX7_decide_23 : decode cX7_decide 23 = .ok (.ldc_w 268, 3) := by decide +kernel
theorem dX7_decide_26 : decode cX7_decide 26 = .ok (.invokespecial 61, 3) := by decide +kernel
theorem dX7_decide_29 : decode cX7_decide 29 = .ok (.athrow, 1) := by decide +kernel
theorem dX7_decide_30 : decode cX7_decide 30 = .ok (.aload_n 0, 1) := by decide +kernel
theorem dX7_decide_31 : decode cX7_decide 31 = .ok (.getfield 33, 3) := by decide +kernel
theorem dX7_decide_34 : decode cX7_decide 34 = .ok (.iload_n 1, 1) := by decide +kernel
theorem dX7_decide_35 : decode cX7_decide 35 = .ok (.iload_n 2, 1) := by decide +kernel
theorem dX7_decide_36 : decode cX7_decide 36 = .ok (.ifCond .eq 8, 3) := by decide +kernel
theorem dX7_decide_39 : decode cX7_decide 39 = .ok (.bipush 102, 2) := by decide +kernel
theorem dX7_decide_41 : decode cX7_decide 41 = .ok (.goto 5, 3) := by decide +kernel
theorem dX7_decide_44 : decode cX7_decide 44 = .ok (.bipush 99, 2) := by decide +kernel
theorem dX7_decide_46 : decode cX7_decide 46 = .ok (.invokevirtual 270, 3) := by decide +kernel
theorem dX7_decide_49 : decode cX7_decide 49 = .ok (.iload_n 2, 1) := by decide +kernel
theorem dX7_decide_50 : decode cX7_decide 50 = .ok (.ifCond .eq 41, 3) := by decide +kernel
theorem dX7_decide_53 : decode cX7_decide 53 = .ok (.aload_n 0, 1) := by decide +kernel
theorem dX7_decide_54 : decode cX7_decide 54 = .ok (.getfield 10, 3) := by decide +kernel
theorem dX7_decide_57 : decode cX7_decide 57 = .ok (.getfield 105, 3) := by decide +kernel
theorem dX7_decide_60 : decode cX7_decide 60 = .ok (.getfield 274, 3) := by decide +kernel
theorem dX7_decide_63 : decode cX7_decide 63 = .ok (.iload_n 1, 1) := by decide +kernel
theorem dX7_decide_64 : decode cX7_decide 64 = .ok (.iaload, 1) := by decide +kernel
theorem dX7_decide_65 : decode cX7_decide 65 = .ok (.istore_n 3, 1) := by decide +kernel
theorem dX7_decide_66 : decode cX7_decide 66 = .ok (.aload_n 0, 1) := by decide +kernel
theorem dX7_decide_67 : decode cX7_decide 67 = .ok (.getfield 10, 3) := by decide +kernel
theorem dX7_decide_70 : decode cX7_decide 70 = .ok (.getfield 48, 3) := by decide +kernel
theorem dX7_decide_73 : decode cX7_decide 73 = .ok (.aload_n 0, 1) := by decide +kernel
theorem dX7_decide_74 : decode cX7_decide 74 = .ok (.getfield 10, 3) := by decide +kernel
theorem dX7_decide_77 : decode cX7_decide 77 = .ok (.getfield 48, 3) := by decide +kernel
theorem dX7_decide_80 : decode cX7_decide 80 = .ok (.getfield 73, 3) := by decide +kernel
theorem dX7_decide_83 : decode cX7_decide 83 = .ok (.iload_n 3, 1) := by decide +kernel
theorem dX7_decide_84 : decode cX7_decide 84 = .ok (.iconst 1, 1) := by decide +kernel
theorem dX7_decide_85 : decode cX7_decide 85 = .ok (.invokestatic 80, 3) := by decide +kernel
theorem dX7_decide_88 : decode cX7_decide 88 = .ok (.putfield 73, 3) := by decide +kernel
theorem dX7_decide_91 : decode cX7_decide 91 = .ok (.aload_n 0, 1) := by decide +kernel
theorem dX7_decide_92 : decode cX7_decide 92 = .ok (.getfield 33, 3) := by decide +kernel
theorem dX7_decide_95 : decode cX7_decide 95 = .ok (.getfield 262, 3) := by decide +kernel
theorem dX7_decide_98 : decode cX7_decide 98 = .ok (.ireturn, 1) := by decide +kernel
theorem dX7_alertOf_0 : decode cX7_alertOf 0 = .ok (.aload_n 0, 1) := by decide +kernel
theorem dX7_alertOf_1 : decode cX7_alertOf 1 = .ok (.iload_n 1, 1) := by decide +kernel
theorem dX7_alertOf_2 : decode cX7_alertOf 2 = .ok (.invokevirtual 137, 3) := by decide +kernel
theorem dX7_alertOf_5 : decode cX7_alertOf 5 = .ok (.aload_n 0, 1) := by decide +kernel
theorem dX7_alertOf_6 : decode cX7_alertOf 6 = .ok (.getfield 33, 3) := by decide +kernel
theorem dX7_alertOf_9 : decode cX7_alertOf 9 = .ok (.getfield 265, 3) := by decide +kernel
theorem dX7_alertOf_12 : decode cX7_alertOf 12 = .ok (.iload_n 1, 1) := by decide +kernel
theorem dX7_alertOf_13 : decode cX7_alertOf 13 = .ok (.caload, 1) := by decide +kernel
theorem dX7_alertOf_14 : decode cX7_alertOf 14 = .ok (.ireturn, 1) := by decide +kernel
theorem dX7_ring_0 : decode cX7_ring 0 = .ok (.aload_n 0, 1) := by decide +kernel
theorem dX7_ring_1 : decode cX7_ring 1 = .ok (.iload_n 1, 1) := by decide +kernel
theorem dX7_ring_2 : decode cX7_ring 2 = .ok (.invokevirtual 69, 3) := by decide +kernel
theorem dX7_ring_5 : decode cX7_ring 5 = .ok (.iload_n 2, 1) := by decide +kernel
theorem dX7_ring_6 : decode cX7_ring 6 = .ok (.invokestatic 144, 3) := by decide +kernel
theorem dX7_ring_9 : decode cX7_ring 9 = .ok (.aload_n 0, 1) := by decide +kernel
theorem dX7_ring_10 : decode cX7_ring 10 = .ok (.getfield 10, 3) := by decide +kernel
theorem dX7_ring_13 : decode cX7_ring 13 = .ok (.iload_n 2, 1) := by decide +kernel
theorem dX7_ring_14 : decode cX7_ring 14 = .ok (.invokevirtual 277, 3) := by decide +kernel
theorem dX7_ring_17 : decode cX7_ring 17 = .ok (.iload_n 1, 1) := by decide +kernel
theorem dX7_ring_18 : decode cX7_ring 18 = .ok (.iload_n 1, 1) := by decide +kernel
theorem dX7_ring_19 : decode cX7_ring 19 = .ok (.invokevirtual 281, 3) := by decide +kernel
theorem dX7_ring_22 : decode cX7_ring 22 = .ok (.invokestatic 286, 3) := by decide +kernel
theorem dX7_ring_25 : decode cX7_ring 25 = .ok (.ireturn, 1) := by decide +kernel
theorem dX7_ringByTrying_0 : decode cX7_ringByTrying 0 = .ok (.aload_n 0, 1) := by decide +kernel
theorem dX7_ringByTrying_1 : decode cX7_ringByTrying 1 = .ok (.iload_n 1, 1) := by decide +kernel
theorem dX7_ringByTrying_2 : decode cX7_ringByTrying 2 = .ok (.invokevirtual 69, 3) := by decide +kernel
theorem dX7_ringByTrying_5 : decode cX7_ringByTrying 5 = .ok (.iload_n 2, 1) := by decide +kernel
theorem dX7_ringByTrying_6 : decode cX7_ringByTrying 6 = .ok (.invokestatic 144, 3) := by decide +kernel
theorem dX7_ringByTrying_9 : decode cX7_ringByTrying 9 = .ok (.aload_n 0, 1) := by decide +kernel
theorem dX7_ringByTrying_10 : decode cX7_ringByTrying 10 = .ok (.getfield 10, 3) := by decide +kernel
theorem dX7_ringByTrying_13 : decode cX7_ringByTrying 13 = .ok (.iload_n 2, 1) := by decide +kernel
theorem dX7_ringByTrying_14 : decode cX7_ringByTrying 14 = .ok (.invokevirtual 277, 3) := by decide +kernel
theorem dX7_ringByTrying_17 : decode cX7_ringByTrying 17 = .ok (.iload_n 1, 1) := by decide +kernel
theorem dX7_ringByTrying_18 : decode cX7_ringByTrying 18 = .ok (.iload_n 1, 1) := by decide +kernel
theorem dX7_ringByTrying_19 : decode cX7_ringByTrying 19 = .ok (.invokevirtual 289, 3) := by decide +kernel
theorem dX7_ringByTrying_22 : decode cX7_ringByTrying 22 = .ok (.invokestatic 286, 3) := by decide +kernel
theorem dX7_ringByTrying_25 : decode cX7_ringByTrying 25 = .ok (.ireturn, 1) := by decide +kernel
theorem dX7_group_0 : decode cX7_group 0 = .ok (.aload_n 0, 1) := by decide +kernel
theorem dX7_group_1 : decode cX7_group 1 = .ok (.iload_n 1, 1) := by decide +kernel
theorem dX7_group_2 : decode cX7_group 2 = .ok (.invokevirtual 69, 3) := by decide +kernel
theorem dX7_group_5 : decode cX7_group 5 = .ok (.iload_n 2, 1) := by decide +kernel
theorem dX7_group_6 : decode cX7_group 6 = .ok (.invokestatic 144, 3) := by decide +kernel
theorem dX7_group_9 : decode cX7_group 9 = .ok (.aload_n 0, 1) := by decide +kernel
theorem dX7_group_10 : decode cX7_group 10 = .ok (.getfield 10, 3) := by decide +kernel
theorem dX7_group_13 : decode cX7_group 13 = .ok (.iload_n 2, 1) := by decide +kernel
theorem dX7_group_14 : decode cX7_group 14 = .ok (.invokevirtual 277, 3) := by decide +kernel
theorem dX7_group_17 : decode cX7_group 17 = .ok (.iload_n 1, 1) := by decide +kernel
theorem dX7_group_18 : decode cX7_group 18 = .ok (.invokevirtual 292, 3) := by decide +kernel
theorem dX7_group_21 : decode cX7_group 21 = .ok (.ireturn, 1) := by decide +kernel
theorem dX7_caught_0 : decode cX7_caught 0 = .ok (.iload_n 1, 1) := by decide +kernel
theorem dX7_caught_1 : decode cX7_caught 1 = .ok (.invokestatic 212, 3) := by decide +kernel
theorem dX7_caught_4 : decode cX7_caught 4 = .ok (.aload_n 0, 1) := by decide +kernel
theorem dX7_caught_5 : decode cX7_caught 5 = .ok (.bipush 102, 2) := by decide +kernel
theorem dX7_caught_7 : decode cX7_caught 7 = .ok (.iload_n 1, 1) := by decide +kernel
theorem dX7_caught_8 : decode cX7_caught 8 = .ok (.invokevirtual 295, 3) := by decide +kernel
theorem dX7_caught_11 : decode cX7_caught 11 = .ok (.ireturn, 1) := by decide +kernel
theorem dX7_bestThreshold_0 : decode cX7_bestThreshold 0 = .ok (.iload_n 1, 1) := by decide +kernel
theorem dX7_bestThreshold_1 : decode cX7_bestThreshold 1 = .ok (.invokestatic 298, 3) := by decide +kernel
theorem dX7_bestThreshold_4 : decode cX7_bestThreshold 4 = .ok (.iconst 1, 1) := by decide +kernel
theorem dX7_bestThreshold_5 : decode cX7_bestThreshold 5 = .ok (.istore_n 2, 1) := by decide +kernel
theorem dX7_bestThreshold_6 : decode cX7_bestThreshold 6 = .ok (.sipush 1201, 3) := by decide +kernel
theorem dX7_bestThreshold_9 : decode cX7_bestThreshold 9 = .ok (.istore_n 3, 1) := by decide +kernel
theorem dX7_bestThreshold_10 : decode cX7_bestThreshold 10 = .ok (.iconst 0, 1) := by decide +kernel
theorem dX7_bestThreshold_11 : decode cX7_bestThreshold 11 = .ok (.istore 4, 2) := by decide +kernel
theorem dX7_bestThreshold_13 : decode cX7_bestThreshold 13 = .ok (.iload 4, 2) := by decide +kernel
theorem dX7_bestThreshold_15 : decode cX7_bestThreshold 15 = .ok (.sipush 1201, 3) := by decide +kernel
theorem dX7_bestThreshold_18 : decode cX7_bestThreshold 18 = .ok (.if_icmp .ge 44, 3) := by decide +kernel
theorem dX7_bestThreshold_21 : decode cX7_bestThreshold 21 = .ok (.iload_n 2, 1) := by decide +kernel
theorem dX7_bestThreshold_22 : decode cX7_bestThreshold 22 = .ok (.iload_n 3, 1) := by decide +kernel
theorem dX7_bestThreshold_23 : decode cX7_bestThreshold 23 = .ok (.if_icmp .ge 39, 3) := by decide +kernel
theorem dX7_bestThreshold_26 : decode cX7_bestThreshold 26 = .ok (.iload_n 2, 1) := by decide +kernel
theorem dX7_bestThreshold_27 : decode cX7_bestThreshold 27 = .ok (.iload_n 3, 1) := by decide +kernel
theorem dX7_bestThreshold_28 : decode cX7_bestThreshold 28 = .ok (.iadd, 1) := by decide +kernel
theorem dX7_bestThreshold_29 : decode cX7_bestThreshold 29 = .ok (.iconst 2, 1) := by decide +kernel
theorem dX7_bestThreshold_30 : decode cX7_bestThreshold 30 = .ok (.idiv, 1) := by decide +kernel
theorem dX7_bestThreshold_31 : decode cX7_bestThreshold 31 = .ok (.istore 5, 2) := by decide +kernel
theorem dX7_bestThreshold_33 : decode cX7_bestThreshold 33 = .ok (.aload_n 0, 1) := by decide +kernel
theorem dX7_bestThreshold_34 : decode cX7_bestThreshold 34 = .ok (.bipush 99, 2) := by decide +kernel
theorem dX7_bestThreshold_36 : decode cX7_bestThreshold 36 = .ok (.iload 5, 2) := by decide +kernel
theorem dX7_bestThreshold_38 : decode cX7_bestThreshold 38 = .ok (.invokevirtual 295, 3) := by decide +kernel
theorem dX7_bestThreshold_41 : decode cX7_bestThreshold 41 = .ok (.iload_n 1, 1) := by decide +kernel
theorem dX7_bestThreshold_42 : decode cX7_bestThreshold 42 = .ok (.if_icmp .gt 9, 3) := by decide +kernel
theorem dX7_bestThreshold_45 : decode cX7_bestThreshold 45 = .ok (.iload 5, 2) := by decide +kernel
theorem dX7_bestThreshold_47 : decode cX7_bestThreshold 47 = .ok (.istore_n 3, 1) := by decide +kernel
theorem dX7_bestThreshold_48 : decode cX7_bestThreshold 48 = .ok (.goto 8, 3) := by decide +kernel
theorem dX7_bestThreshold_51 : decode cX7_bestThreshold 51 = .ok (.iload 5, 2) := by decide +kernel
theorem dX7_bestThreshold_53 : decode cX7_bestThreshold 53 = .ok (.iconst 1, 1) := by decide +kernel
theorem dX7_bestThreshold_54 : decode cX7_bestThreshold 54 = .ok (.iadd, 1) := by decide +kernel
theorem dX7_bestThreshold_55 : decode cX7_bestThreshold 55 = .ok (.istore_n 2, 1) := by decide +kernel
theorem dX7_bestThreshold_56 : decode cX7_bestThreshold 56 = .ok (.iinc 4 1, 3) := by decide +kernel
theorem dX7_bestThreshold_59 : decode cX7_bestThreshold 59 = .ok (.goto (-46), 3) := by decide +kernel
theorem dX7_bestThreshold_62 : decode cX7_bestThreshold 62 = .ok (.iload_n 2, 1) := by decide +kernel
theorem dX7_bestThreshold_63 : decode cX7_bestThreshold 63 = .ok (.ireturn, 1) := by decide +kernel
theorem dX7_bestThresholdByTrying_0 : decode cX7_bestThresholdByTrying 0 = .ok (.iload_n 1, 1) := by decide +kernel
theorem dX7_bestThresholdByTrying_1 : decode cX7_bestThresholdByTrying 1 = .ok (.invokestatic 298, 3) := by decide +kernel
theorem dX7_bestThresholdByTrying_4 : decode cX7_bestThresholdByTrying 4 = .ok (.iconst 1, 1) := by decide +kernel
theorem dX7_bestThresholdByTrying_5 : decode cX7_bestThresholdByTrying 5 = .ok (.istore_n 2, 1) := by decide +kernel
theorem dX7_bestThresholdByTrying_6 : decode cX7_bestThresholdByTrying 6 = .ok (.iload_n 2, 1) := by decide +kernel
theorem dX7_bestThresholdByTrying_7 : decode cX7_bestThresholdByTrying 7 = .ok (.sipush 1201, 3) := by decide +kernel
theorem dX7_bestThresholdByTrying_10 : decode cX7_bestThresholdByTrying 10 = .ok (.if_icmp .ge 20, 3) := by decide +kernel
theorem dX7_bestThresholdByTrying_13 : decode cX7_bestThresholdByTrying 13 = .ok (.aload_n 0, 1) := by decide +kernel
theorem dX7_bestThresholdByTrying_14 : decode cX7_bestThresholdByTrying 14 = .ok (.bipush 99, 2) := by decide +kernel
theorem dX7_bestThresholdByTrying_16 : decode cX7_bestThresholdByTrying 16 = .ok (.iload_n 2, 1) := by decide +kernel
theorem dX7_bestThresholdByTrying_17 : decode cX7_bestThresholdByTrying 17 = .ok (.invokevirtual 295, 3) := by decide +kernel
theorem dX7_bestThresholdByTrying_20 : decode cX7_bestThresholdByTrying 20 = .ok (.iload_n 1, 1) := by decide +kernel
theorem dX7_bestThresholdByTrying_21 : decode cX7_bestThresholdByTrying 21 = .ok (.if_icmp .le 9, 3) := by decide +kernel
theorem dX7_bestThresholdByTrying_24 : decode cX7_bestThresholdByTrying 24 = .ok (.iinc 2 1, 3) := by decide +kernel
theorem dX7_bestThresholdByTrying_27 : decode cX7_bestThresholdByTrying 27 = .ok (.goto (-21), 3) := by decide +kernel
theorem dX7_bestThresholdByTrying_30 : decode cX7_bestThresholdByTrying 30 = .ok (.iload_n 2, 1) := by decide +kernel
theorem dX7_bestThresholdByTrying_31 : decode cX7_bestThresholdByTrying 31 = .ok (.ireturn, 1) := by decide +kernel
theorem dX7_precision_0 : decode cX7_precision 0 = .ok (.aload_n 0, 1) := by decide +kernel
theorem dX7_precision_1 : decode cX7_precision 1 = .ok (.iload_n 1, 1) := by decide +kernel
theorem dX7_precision_2 : decode cX7_precision 2 = .ok (.invokevirtual 206, 3) := by decide +kernel
theorem dX7_precision_5 : decode cX7_precision 5 = .ok (.aload_n 0, 1) := by decide +kernel
theorem dX7_precision_6 : decode cX7_precision 6 = .ok (.getfield 33, 3) := by decide +kernel
theorem dX7_precision_9 : decode cX7_precision 9 = .ok (.bipush 102, 2) := by decide +kernel
theorem dX7_precision_11 : decode cX7_precision 11 = .ok (.iload_n 1, 1) := by decide +kernel
theorem dX7_precision_12 : decode cX7_precision 12 = .ok (.aload_n 0, 1) := by decide +kernel
theorem dX7_precision_13 : decode cX7_precision 13 = .ok (.getfield 10, 3) := by decide +kernel
theorem dX7_precision_16 : decode cX7_precision 16 = .ok (.getfield 105, 3) := by decide +kernel
theorem dX7_precision_19 : decode cX7_precision 19 = .ok (.getfield 109, 3) := by decide +kernel
theorem dX7_precision_22 : decode cX7_precision 22 = .ok (.invokevirtual 301, 3) := by decide +kernel
theorem dX7_precision_25 : decode cX7_precision 25 = .ok (.istore_n 2, 1) := by decide +kernel
theorem dX7_precision_26 : decode cX7_precision 26 = .ok (.iload_n 2, 1) := by decide +kernel
theorem dX7_precision_27 : decode cX7_precision 27 = .ok (.aload_n 0, 1) := by decide +kernel
theorem dX7_precision_28 : decode cX7_precision 28 = .ok (.getfield 33, 3) := by decide +kernel
theorem dX7_precision_31 : decode cX7_precision 31 = .ok (.bipush 99, 2) := by decide +kernel
theorem dX7_precision_33 : decode cX7_precision 33 = .ok (.iload_n 1, 1) := by decide +kernel
theorem dX7_precision_34 : decode cX7_precision 34 = .ok (.aload_n 0, 1) := by decide +kernel
theorem dX7_precision_35 : decode cX7_precision 35 = .ok (.getfield 10, 3) := by decide +kernel
theorem dX7_precision_38 : decode cX7_precision 38 = .ok (.getfield 105, 3) := by decide +kernel
theorem dX7_precision_41 : decode cX7_precision 41 = .ok (.getfield 109, 3) := by decide +kernel
theorem dX7_precision_44 : decode cX7_precision 44 = .ok (.invokevirtual 301, 3) := by decide +kernel
theorem dX7_precision_47 : decode cX7_precision 47 = .ok (.iadd, 1) := by decide +kernel
theorem dX7_precision_48 : decode cX7_precision 48 = .ok (.istore_n 3, 1) := by decide +kernel
theorem dX7_precision_49 : decode cX7_precision 49 = .ok (.iload_n 3, 1) := by decide +kernel
theorem dX7_precision_50 : decode cX7_precision 50 = .ok (.ifCond .ne 14, 3) := by decide +kernel
theorem dX7_precision_53 : decode cX7_precision 53 = .ok (.new 305, 3) := by decide +kernel
theorem dX7_precision_56 : decode cX7_precision 56 = .ok (.dup, 1) := by decide +kernel
theorem dX7_precision_57 : decode cX7_precision 57 = .ok (.ldc_w 307, 3) := by decide +kernel
theorem dX7_precision_60 : decode cX7_precision 60 = .ok (.invokespecial 309, 3) := by decide +kernel
theorem dX7_precision_63 : decode cX7_precision 63 = .ok (.athrow, 1) := by decide +kernel
theorem dX7_precision_64 : decode cX7_precision 64 = .ok (.iload_n 2, 1) := by decide +kernel
theorem dX7_precision_65 : decode cX7_precision 65 = .ok (.i2f, 1) := by decide +kernel
theorem dX7_precision_66 : decode cX7_precision 66 = .ok (.iload_n 3, 1) := by decide +kernel
theorem dX7_precision_67 : decode cX7_precision 67 = .ok (.i2f, 1) := by decide +kernel
theorem dX7_precision_68 : decode cX7_precision 68 = .ok (.fdiv, 1) := by decide +kernel
theorem dX7_precision_69 : decode cX7_precision 69 = .ok (.freturn, 1) := by decide +kernel
theorem dX7_meanScore_0 : decode cX7_meanScore 0 = .ok (.aload_n 0, 1) := by decide +kernel
theorem dX7_meanScore_1 : decode cX7_meanScore 1 = .ok (.getfield 10, 3) := by decide +kernel
theorem dX7_meanScore_4 : decode cX7_meanScore 4 = .ok (.getfield 105, 3) := by decide +kernel
theorem dX7_meanScore_7 : decode cX7_meanScore 7 = .ok (.getfield 109, 3) := by decide +kernel
theorem dX7_meanScore_10 : decode cX7_meanScore 10 = .ok (.istore_n 1, 1) := by decide +kernel
theorem dX7_meanScore_11 : decode cX7_meanScore 11 = .ok (.iload_n 1, 1) := by decide +kernel
theorem dX7_meanScore_12 : decode cX7_meanScore 12 = .ok (.ifCond .ne 14, 3) := by decide +kernel
theorem dX7_meanScore_15 : decode cX7_meanScore 15 = .ok (.new 305, 3) := by decide +kernel
theorem dX7_meanScore_18 : decode cX7_meanScore 18 = .ok (.dup, 1) := by decide +kernel
theorem dX7_meanScore_19 : decode cX7_meanScore 19 = .ok (.ldc_w 310, 3) := by decide +kernel
theorem dX7_meanScore_22 : decode cX7_meanScore 22 = .ok (.invokespecial 309, 3) := by decide +kernel
theorem dX7_meanScore_25 : decode cX7_meanScore 25 = .ok (.athrow, 1) := by decide +kernel
theorem dX7_meanScore_26 : decode cX7_meanScore 26 = .ok (.iconst 0, 1) := by decide +kernel
theorem dX7_meanScore_27 : decode cX7_meanScore 27 = .ok (.istore_n 2, 1) := by decide +kernel
theorem dX7_meanScore_28 : decode cX7_meanScore 28 = .ok (.iconst 0, 1) := by decide +kernel
theorem dX7_meanScore_29 : decode cX7_meanScore 29 = .ok (.istore_n 3, 1) := by decide +kernel
theorem dX7_meanScore_30 : decode cX7_meanScore 30 = .ok (.iload_n 3, 1) := by decide +kernel
theorem dX7_meanScore_31 : decode cX7_meanScore 31 = .ok (.iload_n 1, 1) := by decide +kernel
theorem dX7_meanScore_32 : decode cX7_meanScore 32 = .ok (.if_icmp .ge 21, 3) := by decide +kernel
theorem dX7_meanScore_35 : decode cX7_meanScore 35 = .ok (.iload_n 2, 1) := by decide +kernel
theorem dX7_meanScore_36 : decode cX7_meanScore 36 = .ok (.aload_n 0, 1) := by decide +kernel
theorem dX7_meanScore_37 : decode cX7_meanScore 37 = .ok (.getfield 33, 3) := by decide +kernel
theorem dX7_meanScore_40 : decode cX7_meanScore 40 = .ok (.getfield 215, 3) := by decide +kernel
theorem dX7_meanScore_43 : decode cX7_meanScore 43 = .ok (.iload_n 3, 1) := by decide +kernel
theorem dX7_meanScore_44 : decode cX7_meanScore 44 = .ok (.iaload, 1) := by decide +kernel
theorem dX7_meanScore_45 : decode cX7_meanScore 45 = .ok (.iadd, 1) := by decide +kernel
theorem dX7_meanScore_46 : decode cX7_meanScore 46 = .ok (.istore_n 2, 1) := by decide +kernel
theorem dX7_meanScore_47 : decode cX7_meanScore 47 = .ok (.iinc 3 1, 3) := by decide +kernel
theorem dX7_meanScore_50 : decode cX7_meanScore 50 = .ok (.goto (-20), 3) := by decide +kernel
theorem dX7_meanScore_53 : decode cX7_meanScore 53 = .ok (.iload_n 2, 1) := by decide +kernel
theorem dX7_meanScore_54 : decode cX7_meanScore 54 = .ok (.i2d, 1) := by decide +kernel
theorem dX7_meanScore_55 : decode cX7_meanScore 55 = .ok (.iload_n 1, 1) := by decide +kernel
theorem dX7_meanScore_56 : decode cX7_meanScore 56 = .ok (.i2d, 1) := by decide +kernel
theorem dX7_meanScore_57 : decode cX7_meanScore 57 = .ok (.ddiv, 1) := by decide +kernel
theorem dX7_meanScore_58 : decode cX7_meanScore 58 = .ok (.dreturn, 1) := by decide +kernel
theorem dX7_turnover_0 : decode cX7_turnover 0 = .ok (.lconst 0, 1) := by decide +kernel
theorem dX7_turnover_1 : decode cX7_turnover 1 = .ok (.lstore_n 1, 1) := by decide +kernel
theorem dX7_turnover_2 : decode cX7_turnover 2 = .ok (.iconst 0, 1) := by decide +kernel
theorem dX7_turnover_3 : decode cX7_turnover 3 = .ok (.istore_n 3, 1) := by decide +kernel
theorem dX7_turnover_4 : decode cX7_turnover 4 = .ok (.iload_n 3, 1) := by decide +kernel
theorem dX7_turnover_5 : decode cX7_turnover 5 = .ok (.aload_n 0, 1) := by decide +kernel
theorem dX7_turnover_6 : decode cX7_turnover 6 = .ok (.getfield 10, 3) := by decide +kernel
theorem dX7_turnover_9 : decode cX7_turnover 9 = .ok (.getfield 105, 3) := by decide +kernel
theorem dX7_turnover_12 : decode cX7_turnover 12 = .ok (.getfield 109, 3) := by decide +kernel
theorem dX7_turnover_15 : decode cX7_turnover 15 = .ok (.if_icmp .ge 25, 3) := by decide +kernel
theorem dX7_turnover_18 : decode cX7_turnover 18 = .ok (.lload_n 1, 1) := by decide +kernel
theorem dX7_turnover_19 : decode cX7_turnover 19 = .ok (.aload_n 0, 1) := by decide +kernel
theorem dX7_turnover_20 : decode cX7_turnover 20 = .ok (.getfield 10, 3) := by decide +kernel
theorem dX7_turnover_23 : decode cX7_turnover 23 = .ok (.getfield 105, 3) := by decide +kernel
theorem dX7_turnover_26 : decode cX7_turnover 26 = .ok (.getfield 312, 3) := by decide +kernel
theorem dX7_turnover_29 : decode cX7_turnover 29 = .ok (.iload_n 3, 1) := by decide +kernel
theorem dX7_turnover_30 : decode cX7_turnover 30 = .ok (.iaload, 1) := by decide +kernel
theorem dX7_turnover_31 : decode cX7_turnover 31 = .ok (.i2l, 1) := by decide +kernel
theorem dX7_turnover_32 : decode cX7_turnover 32 = .ok (.ladd, 1) := by decide +kernel
theorem dX7_turnover_33 : decode cX7_turnover 33 = .ok (.lstore_n 1, 1) := by decide +kernel
theorem dX7_turnover_34 : decode cX7_turnover 34 = .ok (.iinc 3 1, 3) := by decide +kernel
theorem dX7_turnover_37 : decode cX7_turnover 37 = .ok (.goto (-33), 3) := by decide +kernel
theorem dX7_turnover_40 : decode cX7_turnover 40 = .ok (.lload_n 1, 1) := by decide +kernel
theorem dX7_turnover_41 : decode cX7_turnover 41 = .ok (.lreturn, 1) := by decide +kernel
theorem dX7_isSound_0 : decode cX7_isSound 0 = .ok (.aload_n 0, 1) := by decide +kernel
theorem dX7_isSound_1 : decode cX7_isSound 1 = .ok (.invokevirtual 315, 3) := by decide +kernel
theorem dX7_isSound_4 : decode cX7_isSound 4 = .ok (.ifCond .eq 14, 3) := by decide +kernel
theorem dX7_isSound_7 : decode cX7_isSound 7 = .ok (.aload_n 0, 1) := by decide +kernel
theorem dX7_isSound_8 : decode cX7_isSound 8 = .ok (.invokevirtual 319, 3) := by decide +kernel
theorem dX7_isSound_11 : decode cX7_isSound 11 = .ok (.ifCond .eq 7, 3) := by decide +kernel
theorem dX7_isSound_14 : decode cX7_isSound 14 = .ok (.iconst 1, 1) := by decide +kernel
theorem dX7_isSound_15 : decode cX7_isSound 15 = .ok (.goto 4, 3) := by decide +kernel
theorem dX7_isSound_18 : decode cX7_isSound 18 = .ok (.iconst 0, 1) := by decide +kernel
theorem dX7_isSound_19 : decode cX7_isSound 19 = .ok (.ireturn, 1) := by decide +kernel
theorem dX7_areScoresSound_0 : decode cX7_areScoresSound 0 = .ok (.iconst 0, 1) := by decide +kernel
theorem dX7_areScoresSound_1 : decode cX7_areScoresSound 1 = .ok (.istore_n 1, 1) := by decide +kernel
theorem dX7_areScoresSound_2 : decode cX7_areScoresSound 2 = .ok (.iload_n 1, 1) := by decide +kernel
theorem dX7_areScoresSound_3 : decode cX7_areScoresSound 3 = .ok (.aload_n 0, 1) := by decide +kernel
theorem dX7_areScoresSound_4 : decode cX7_areScoresSound 4 = .ok (.getfield 10, 3) := by decide +kernel
theorem dX7_areScoresSound_7 : decode cX7_areScoresSound 7 = .ok (.getfield 105, 3) := by decide +kernel
theorem dX7_areScoresSound_10 : decode cX7_areScoresSound 10 = .ok (.getfield 109, 3) := by decide +kernel
theorem dX7_areScoresSound_13 : decode cX7_areScoresSound 13 = .ok (.if_icmp .ge 39, 3) := by decide +kernel
theorem dX7_areScoresSound_16 : decode cX7_areScoresSound 16 = .ok (.aload_n 0, 1) := by decide +kernel
theorem dX7_areScoresSound_17 : decode cX7_areScoresSound 17 = .ok (.getfield 33, 3) := by decide +kernel
theorem dX7_areScoresSound_20 : decode cX7_areScoresSound 20 = .ok (.getfield 215, 3) := by decide +kernel
theorem dX7_areScoresSound_23 : decode cX7_areScoresSound 23 = .ok (.iload_n 1, 1) := by decide +kernel
theorem dX7_areScoresSound_24 : decode cX7_areScoresSound 24 = .ok (.iaload, 1) := by decide +kernel
theorem dX7_areScoresSound_25 : decode cX7_areScoresSound 25 = .ok (.aload_n 0, 1) := by decide +kernel
theorem dX7_areScoresSound_26 : decode cX7_areScoresSound 26 = .ok (.getfield 26, 3) := by decide +kernel
theorem dX7_areScoresSound_29 : decode cX7_areScoresSound 29 = .ok (.aload_n 0, 1) := by decide +kernel
theorem dX7_areScoresSound_30 : decode cX7_areScoresSound 30 = .ok (.getfield 33, 3) := by decide +kernel
theorem dX7_areScoresSound_33 : decode cX7_areScoresSound 33 = .ok (.getfield 218, 3) := by decide +kernel
theorem dX7_areScoresSound_36 : decode cX7_areScoresSound 36 = .ok (.iload_n 1, 1) := by decide +kernel
theorem dX7_areScoresSound_37 : decode cX7_areScoresSound 37 = .ok (.iaload, 1) := by decide +kernel
theorem dX7_areScoresSound_38 : decode cX7_areScoresSound 38 = .ok (.invokevirtual 126, 3) := by decide +kernel
theorem dX7_areScoresSound_41 : decode cX7_areScoresSound 41 = .ok (.if_icmp .eq 5, 3) := by decide +kernel
theorem dX7_areScoresSound_44 : decode cX7_areScoresSound 44 = .ok (.iconst 0, 1) := by decide +kernel
theorem dX7_areScoresSound_45 : decode cX7_areScoresSound 45 = .ok (.ireturn, 1) := by decide +kernel
theorem dX7_areScoresSound_46 : decode cX7_areScoresSound 46 = .ok (.iinc 1 1, 3) := by decide +kernel
theorem dX7_areScoresSound_49 : decode cX7_areScoresSound 49 = .ok (.goto (-47), 3) := by decide +kernel
theorem dX7_areScoresSound_52 : decode cX7_areScoresSound 52 = .ok (.iconst 1, 1) := by decide +kernel
theorem dX7_areScoresSound_53 : decode cX7_areScoresSound 53 = .ok (.ireturn, 1) := by decide +kernel
theorem dX7_areSumsSound_0 : decode cX7_areSumsSound 0 = .ok (.iconst 0, 1) := by decide +kernel
theorem dX7_areSumsSound_1 : decode cX7_areSumsSound 1 = .ok (.istore_n 1, 1) := by decide +kernel
theorem dX7_areSumsSound_2 : decode cX7_areSumsSound 2 = .ok (.iload_n 1, 1) := by decide +kernel
theorem dX7_areSumsSound_3 : decode cX7_areSumsSound 3 = .ok (.aload_n 0, 1) := by decide +kernel
theorem dX7_areSumsSound_4 : decode cX7_areSumsSound 4 = .ok (.getfield 10, 3) := by decide +kernel
theorem dX7_areSumsSound_7 : decode cX7_areSumsSound 7 = .ok (.getfield 48, 3) := by decide +kernel
theorem dX7_areSumsSound_10 : decode cX7_areSumsSound 10 = .ok (.getfield 52, 3) := by decide +kernel
theorem dX7_areSumsSound_13 : decode cX7_areSumsSound 13 = .ok (.if_icmp .ge 38, 3) := by decide +kernel
theorem dX7_areSumsSound_16 : decode cX7_areSumsSound 16 = .ok (.aload_n 0, 1) := by decide +kernel
theorem dX7_areSumsSound_17 : decode cX7_areSumsSound 17 = .ok (.getfield 10, 3) := by decide +kernel
theorem dX7_areSumsSound_20 : decode cX7_areSumsSound 20 = .ok (.iload_n 1, 1) := by decide +kernel
theorem dX7_areSumsSound_21 : decode cX7_areSumsSound 21 = .ok (.sipush 10080, 3) := by decide +kernel
theorem dX7_areSumsSound_24 : decode cX7_areSumsSound 24 = .ok (.invokevirtual 147, 3) := by decide +kernel
theorem dX7_areSumsSound_27 : decode cX7_areSumsSound 27 = .ok (.istore_n 2, 1) := by decide +kernel
theorem dX7_areSumsSound_28 : decode cX7_areSumsSound 28 = .ok (.iload_n 2, 1) := by decide +kernel
theorem dX7_areSumsSound_29 : decode cX7_areSumsSound 29 = .ok (.aload_n 0, 1) := by decide +kernel
theorem dX7_areSumsSound_30 : decode cX7_areSumsSound 30 = .ok (.getfield 10, 3) := by decide +kernel
theorem dX7_areSumsSound_33 : decode cX7_areSumsSound 33 = .ok (.iload_n 1, 1) := by decide +kernel
theorem dX7_areSumsSound_34 : decode cX7_areSumsSound 34 = .ok (.sipush 10080, 3) := by decide +kernel
theorem dX7_areSumsSound_37 : decode cX7_areSumsSound 37 = .ok (.invokevirtual 151, 3) := by decide +kernel
theorem dX7_areSumsSound_40 : decode cX7_areSumsSound 40 = .ok (.if_icmp .eq 5, 3) := by decide +kernel
theorem dX7_areSumsSound_43 : decode cX7_areSumsSound 43 = .ok (.iconst 0, 1) := by decide +kernel
theorem dX7_areSumsSound_44 : decode cX7_areSumsSound 44 = .ok (.ireturn, 1) := by decide +kernel
theorem dX7_areSumsSound_45 : decode cX7_areSumsSound 45 = .ok (.iinc 1 1, 3) := by decide +kernel
theorem dX7_areSumsSound_48 : decode cX7_areSumsSound 48 = .ok (.goto (-46), 3) := by decide +kernel
theorem dX7_areSumsSound_51 : decode cX7_areSumsSound 51 = .ok (.iconst 1, 1) := by decide +kernel
theorem dX7_areSumsSound_52 : decode cX7_areSumsSound 52 = .ok (.ireturn, 1) := by decide +kernel
theorem dX7_countDecided_0 : decode cX7_countDecided 0 = .ok (.iconst 0, 1) := by decide +kernel
theorem dX7_countDecided_1 : decode cX7_countDecided 1 = .ok (.istore_n 3, 1) := by decide +kernel
theorem dX7_countDecided_2 : decode cX7_countDecided 2 = .ok (.iconst 0, 1) := by decide +kernel
theorem dX7_countDecided_3 : decode cX7_countDecided 3 = .ok (.istore 4, 2) := by decide +kernel
theorem dX7_countDecided_5 : decode cX7_countDecided 5 = .ok (.iload 4, 2) := by decide +kernel
theorem dX7_countDecided_7 : decode cX7_countDecided 7 = .ok (.aload_n 0, 1) := by decide +kernel
theorem dX7_countDecided_8 : decode cX7_countDecided 8 = .ok (.getfield 10, 3) := by decide +kernel
theorem dX7_countDecided_11 : decode cX7_countDecided 11 = .ok (.getfield 105, 3) := by decide +kernel
theorem dX7_countDecided_14 : decode cX7_countDecided 14 = .ok (.getfield 109, 3) := by decide +kernel
theorem dX7_countDecided_17 : decode cX7_countDecided 17 = .ok (.if_icmp .ge 40, 3) := by decide +kernel
theorem dX7_countDecided_20 : decode cX7_countDecided 20 = .ok (.aload_n 0, 1) := by decide +kernel
theorem dX7_countDecided_21 : decode cX7_countDecided 21 = .ok (.getfield 33, 3) := by decide +kernel
theorem dX7_countDecided_24 : decode cX7_countDecided 24 = .ok (.getfield 265, 3) := by decide +kernel
theorem dX7_countDecided_27 : decode cX7_countDecided 27 = .ok (.iload 4, 2) := by decide +kernel
theorem dX7_countDecided_29 : decode cX7_countDecided 29 = .ok (.caload, 1) := by decide +kernel
theorem dX7_countDecided_30 : decode cX7_countDecided 30 = .ok (.iload_n 1, 1) := by decide +kernel
theorem dX7_countDecided_31 : decode cX7_countDecided 31 = .ok (.if_icmp .ne 20, 3) := by decide +kernel
theorem dX7_countDecided_34 : decode cX7_countDecided 34 = .ok (.aload_n 0, 1) := by decide +kernel
theorem dX7_countDecided_35 : decode cX7_countDecided 35 = .ok (.getfield 33, 3) := by decide +kernel
theorem dX7_countDecided_38 : decode cX7_countDecided 38 = .ok (.getfield 215, 3) := by decide +kernel
theorem dX7_countDecided_41 : decode cX7_countDecided 41 = .ok (.iload 4, 2) := by decide +kernel
theorem dX7_countDecided_43 : decode cX7_countDecided 43 = .ok (.iaload, 1) := by decide +kernel
theorem dX7_countDecided_44 : decode cX7_countDecided 44 = .ok (.iload_n 2, 1) := by decide +kernel
theorem dX7_countDecided_45 : decode cX7_countDecided 45 = .ok (.if_icmp .lt 6, 3) := by decide +kernel
theorem dX7_countDecided_48 : decode cX7_countDecided 48 = .ok (.iinc 3 1, 3) := by decide +kernel
theorem dX7_countDecided_51 : decode cX7_countDecided 51 = .ok (.iinc 4 1, 3) := by decide +kernel
theorem dX7_countDecided_54 : decode cX7_countDecided 54 = .ok (.goto (-49), 3) := by decide +kernel
theorem dX7_countDecided_57 : decode cX7_countDecided 57 = .ok (.iload_n 3, 1) := by decide +kernel
theorem dX7_countDecided_58 : decode cX7_countDecided 58 = .ok (.ireturn, 1) := by decide +kernel
theorem dX7_ruleOfReason_0 : decode cX7_ruleOfReason 0 = .ok (.aload_n 0, 1) := by decide +kernel
theorem dX7_ruleOfReason_1 : decode cX7_ruleOfReason 1 = .ok (.getfield 26, 3) := by decide +kernel
theorem dX7_ruleOfReason_4 : decode cX7_ruleOfReason 4 = .ok (.aload_n 0, 1) := by decide +kernel
theorem dX7_ruleOfReason_5 : decode cX7_ruleOfReason 5 = .ok (.getfield 33, 3) := by decide +kernel
theorem dX7_ruleOfReason_8 : decode cX7_ruleOfReason 8 = .ok (.getfield 218, 3) := by decide +kernel
theorem dX7_ruleOfReason_11 : decode cX7_ruleOfReason 11 = .ok (.iload_n 1, 1) := by decide +kernel
theorem dX7_ruleOfReason_12 : decode cX7_ruleOfReason 12 = .ok (.iaload, 1) := by decide +kernel
theorem dX7_ruleOfReason_13 : decode cX7_ruleOfReason 13 = .ok (.iload_n 2, 1) := by decide +kernel
theorem dX7_ruleOfReason_14 : decode cX7_ruleOfReason 14 = .ok (.invokevirtual 322, 3) := by decide +kernel
theorem dX7_ruleOfReason_17 : decode cX7_ruleOfReason 17 = .ok (.istore_n 3, 1) := by decide +kernel
theorem dX7_ruleOfReason_18 : decode cX7_ruleOfReason 18 = .ok (.iload_n 3, 1) := by decide +kernel
theorem dX7_ruleOfReason_19 : decode cX7_ruleOfReason 19 = .ok (.iconst (-1), 1) := by decide +kernel
theorem dX7_ruleOfReason_20 : decode cX7_ruleOfReason 20 = .ok (.if_icmp .ne 14, 3) := by decide +kernel
theorem dX7_ruleOfReason_23 : decode cX7_ruleOfReason 23 = .ok (.new 257, 3) := by decide +kernel
theorem dX7_ruleOfReason_26 : decode cX7_ruleOfReason 26 = .ok (.dup, 1) := by decide +kernel
theorem dX7_ruleOfReason_27 : decode cX7_ruleOfReason 27 = .ok (.ldc_w 325, 3) := by decide +kernel
theorem dX7_ruleOfReason_30 : decode cX7_ruleOfReason 30 = .ok (.invokespecial 261, 3) := by decide +kernel
theorem dX7_ruleOfReason_33 : decode cX7_ruleOfReason 33 = .ok (.athrow, 1) := by decide +kernel
theorem dX7_ruleOfReason_34 : decode cX7_ruleOfReason 34 = .ok (.iload_n 3, 1) := by decide +kernel
theorem dX7_ruleOfReason_35 : decode cX7_ruleOfReason 35 = .ok (.ireturn, 1) := by decide +kernel
theorem dX7_testOfReason_0 : decode cX7_testOfReason 0 = .ok (.aload_n 0, 1) := by decide +kernel
theorem dX7_testOfReason_1 : decode cX7_testOfReason 1 = .ok (.getfield 26, 3) := by decide +kernel
theorem dX7_testOfReason_4 : decode cX7_testOfReason 4 = .ok (.getfield 229, 3) := by decide +kernel
theorem dX7_testOfReason_7 : decode cX7_testOfReason 7 = .ok (.aload_n 0, 1) := by decide +kernel
theorem dX7_testOfReason_8 : decode cX7_testOfReason 8 = .ok (.iload_n 1, 1) := by decide +kernel
theorem dX7_testOfReason_9 : decode cX7_testOfReason 9 = .ok (.iload_n 2, 1) := by decide +kernel
theorem dX7_testOfReason_10 : decode cX7_testOfReason 10 = .ok (.invokevirtual 226, 3) := by decide +kernel
theorem dX7_testOfReason_13 : decode cX7_testOfReason 13 = .ok (.iaload, 1) := by decide +kernel
theorem dX7_testOfReason_14 : decode cX7_testOfReason 14 = .ok (.istore 4, 2) := by decide +kernel
theorem dX7_testOfReason_16 : decode cX7_testOfReason 16 = .ok (.aload_n 0, 1) := by decide +kernel
theorem dX7_testOfReason_17 : decode cX7_testOfReason 17 = .ok (.getfield 19, 3) := by decide +kernel
theorem dX7_testOfReason_20 : decode cX7_testOfReason 20 = .ok (.iload 4, 2) := by decide +kernel
theorem dX7_testOfReason_22 : decode cX7_testOfReason 22 = .ok (.aload_n 0, 1) := by decide +kernel
theorem dX7_testOfReason_23 : decode cX7_testOfReason 23 = .ok (.getfield 33, 3) := by decide +kernel
theorem dX7_testOfReason_26 : decode cX7_testOfReason 26 = .ok (.getfield 231, 3) := by decide +kernel
theorem dX7_testOfReason_29 : decode cX7_testOfReason 29 = .ok (.iload_n 1, 1) := by decide +kernel
theorem dX7_testOfReason_30 : decode cX7_testOfReason 30 = .ok (.iaload, 1) := by decide +kernel
theorem dX7_testOfReason_31 : decode cX7_testOfReason 31 = .ok (.iload_n 3, 1) := by decide +kernel
theorem dX7_testOfReason_32 : decode cX7_testOfReason 32 = .ok (.invokevirtual 327, 3) := by decide +kernel
theorem dX7_testOfReason_35 : decode cX7_testOfReason 35 = .ok (.istore 5, 2) := by decide +kernel
theorem dX7_testOfReason_37 : decode cX7_testOfReason 37 = .ok (.iload 5, 2) := by decide +kernel
theorem dX7_testOfReason_39 : decode cX7_testOfReason 39 = .ok (.iconst (-1), 1) := by decide +kernel
theorem dX7_testOfReason_40 : decode cX7_testOfReason 40 = .ok (.if_icmp .ne 14, 3) := by decide +kernel
theorem dX7_testOfReason_43 : decode cX7_testOfReason 43 = .ok (.new 257, 3) := by decide +kernel
theorem dX7_testOfReason_46 : decode cX7_testOfReason 46 = .ok (.dup, 1) := by decide +kernel
theorem dX7_testOfReason_47 : decode cX7_testOfReason 47 = .ok (.ldc_w 330, 3) := by decide +kernel
theorem dX7_testOfReason_50 : decode cX7_testOfReason 50 = .ok (.invokespecial 261, 3) := by decide +kernel
theorem dX7_testOfReason_53 : decode cX7_testOfReason 53 = .ok (.athrow, 1) := by decide +kernel
theorem dX7_testOfReason_54 : decode cX7_testOfReason 54 = .ok (.iload 5, 2) := by decide +kernel
theorem dX7_testOfReason_56 : decode cX7_testOfReason 56 = .ok (.ireturn, 1) := by decide +kernel
theorem dX7_requireAccount_0 : decode cX7_requireAccount 0 = .ok (.iload_n 1, 1) := by decide +kernel
theorem dX7_requireAccount_1 : decode cX7_requireAccount 1 = .ok (.ifCond .lt 17, 3) := by decide +kernel
theorem dX7_requireAccount_4 : decode cX7_requireAccount 4 = .ok (.iload_n 1, 1) := by decide +kernel
theorem dX7_requireAccount_5 : decode cX7_requireAccount 5 = .ok (.aload_n 0, 1) := by decide +kernel
theorem dX7_requireAccount_6 : decode cX7_requireAccount 6 = .ok (.getfield 10, 3) := by decide +kernel
theorem dX7_requireAccount_9 : decode cX7_requireAccount 9 = .ok (.getfield 48, 3) := by decide +kernel
theorem dX7_requireAccount_12 : decode cX7_requireAccount 12 = .ok (.getfield 52, 3) := by decide +kernel
theorem dX7_requireAccount_15 : decode cX7_requireAccount 15 = .ok (.if_icmp .lt 14, 3) := by decide +kernel
theorem dX7_requireAccount_18 : decode cX7_requireAccount 18 = .ok (.new 257, 3) := by decide +kernel
theorem dX7_requireAccount_21 : decode cX7_requireAccount 21 = .ok (.dup, 1) := by decide +kernel
theorem dX7_requireAccount_22 : decode cX7_requireAccount 22 = .ok (.ldc_w 332, 3) := by decide +kernel
theorem dX7_requireAccount_25 : decode cX7_requireAccount 25 = .ok (.invokespecial 261, 3) := by decide +kernel
theorem dX7_requireAccount_28 : decode cX7_requireAccount 28 = .ok (.athrow, 1) := by decide +kernel
theorem dX7_requireAccount_29 : decode cX7_requireAccount 29 = .ok (.return_, 1) := by decide +kernel
theorem dX7_requirePayment_0 : decode cX7_requirePayment 0 = .ok (.iload_n 1, 1) := by decide +kernel
theorem dX7_requirePayment_1 : decode cX7_requirePayment 1 = .ok (.ifCond .lt 17, 3) := by decide +kernel
theorem dX7_requirePayment_4 : decode cX7_requirePayment 4 = .ok (.iload_n 1, 1) := by decide +kernel
theorem dX7_requirePayment_5 : decode cX7_requirePayment 5 = .ok (.aload_n 0, 1) := by decide +kernel
theorem dX7_requirePayment_6 : decode cX7_requirePayment 6 = .ok (.getfield 10, 3) := by decide +kernel
theorem dX7_requirePayment_9 : decode cX7_requirePayment 9 = .ok (.getfield 105, 3) := by decide +kernel
theorem dX7_requirePayment_12 : decode cX7_requirePayment 12 = .ok (.getfield 109, 3) := by decide +kernel
theorem dX7_requirePayment_15 : decode cX7_requirePayment 15 = .ok (.if_icmp .lt 14, 3) := by decide +kernel
theorem dX7_requirePayment_18 : decode cX7_requirePayment 18 = .ok (.new 249, 3) := by decide +kernel
theorem dX7_requirePayment_21 : decode cX7_requirePayment 21 = .ok (.dup, 1) := by decide +kernel
theorem dX7_requirePayment_22 : decode cX7_requirePayment 22 = .ok (.ldc_w 334, 3) := by decide +kernel
theorem dX7_requirePayment_25 : decode cX7_requirePayment 25 = .ok (.invokespecial 253, 3) := by decide +kernel
theorem dX7_requirePayment_28 : decode cX7_requirePayment 28 = .ok (.athrow, 1) := by decide +kernel
theorem dX7_requirePayment_29 : decode cX7_requirePayment 29 = .ok (.return_, 1) := by decide +kernel
theorem dX7_requireCondition_0 : decode cX7_requireCondition 0 = .ok (.iload_n 1, 1) := by decide +kernel
theorem dX7_requireCondition_1 : decode cX7_requireCondition 1 = .ok (.ifCond .lt 14, 3) := by decide +kernel
theorem dX7_requireCondition_4 : decode cX7_requireCondition 4 = .ok (.iload_n 1, 1) := by decide +kernel
theorem dX7_requireCondition_5 : decode cX7_requireCondition 5 = .ok (.aload_n 0, 1) := by decide +kernel
theorem dX7_requireCondition_6 : decode cX7_requireCondition 6 = .ok (.getfield 19, 3) := by decide +kernel
theorem dX7_requireCondition_9 : decode cX7_requireCondition 9 = .ok (.getfield 117, 3) := by decide +kernel
theorem dX7_requireCondition_12 : decode cX7_requireCondition 12 = .ok (.if_icmp .lt 14, 3) := by decide +kernel
theorem dX7_requireCondition_15 : decode cX7_requireCondition 15 = .ok (.new 257, 3) := by decide +kernel
theorem dX7_requireCondition_18 : decode cX7_requireCondition 18 = .ok (.dup, 1) := by decide +kernel
theorem dX7_requireCondition_19 : decode cX7_requireCondition 19 = .ok (.ldc_w 336, 3) := by decide +kernel
theorem dX7_requireCondition_22 : decode cX7_requireCondition 22 = .ok (.invokespecial 261, 3) := by decide +kernel
theorem dX7_requireCondition_25 : decode cX7_requireCondition 25 = .ok (.athrow, 1) := by decide +kernel
theorem dX7_requireCondition_26 : decode cX7_requireCondition 26 = .ok (.return_, 1) := by decide +kernel
theorem dX7_requireRule_0 : decode cX7_requireRule 0 = .ok (.iload_n 1, 1) := by decide +kernel
theorem dX7_requireRule_1 : decode cX7_requireRule 1 = .ok (.ifCond .lt 14, 3) := by decide +kernel
theorem dX7_requireRule_4 : decode cX7_requireRule 4 = .ok (.iload_n 1, 1) := by decide +kernel
theorem dX7_requireRule_5 : decode cX7_requireRule 5 = .ok (.aload_n 0, 1) := by decide +kernel
theorem dX7_requireRule_6 : decode cX7_requireRule 6 = .ok (.getfield 26, 3) := by decide +kernel
theorem dX7_requireRule_9 : decode cX7_requireRule 9 = .ok (.getfield 201, 3) := by decide +kernel
theorem dX7_requireRule_12 : decode cX7_requireRule 12 = .ok (.if_icmp .lt 14, 3) := by decide +kernel
theorem dX7_requireRule_15 : decode cX7_requireRule 15 = .ok (.new 257, 3) := by decide +kernel
theorem dX7_requireRule_18 : decode cX7_requireRule 18 = .ok (.dup, 1) := by decide +kernel
theorem dX7_requireRule_19 : decode cX7_requireRule 19 = .ok (.ldc_w 338, 3) := by decide +kernel
theorem dX7_requireRule_22 : decode cX7_requireRule 22 = .ok (.invokespecial 261, 3) := by decide +kernel
theorem dX7_requireRule_25 : decode cX7_requireRule 25 = .ok (.athrow, 1) := by decide +kernel
theorem dX7_requireRule_26 : decode cX7_requireRule 26 = .ok (.return_, 1) := by decide +kernel
theorem dX7_requireJoinable_0 : decode cX7_requireJoinable 0 = .ok (.aload_n 0, 1) := by decide +kernel
theorem dX7_requireJoinable_1 : decode cX7_requireJoinable 1 = .ok (.iload_n 1, 1) := by decide +kernel
theorem dX7_requireJoinable_2 : decode cX7_requireJoinable 2 = .ok (.invokevirtual 183, 3) := by decide +kernel
theorem dX7_requireJoinable_5 : decode cX7_requireJoinable 5 = .ok (.aload_n 0, 1) := by decide +kernel
theorem dX7_requireJoinable_6 : decode cX7_requireJoinable 6 = .ok (.iload_n 2, 1) := by decide +kernel
theorem dX7_requireJoinable_7 : decode cX7_requireJoinable 7 = .ok (.invokevirtual 183, 3) := by decide +kernel
theorem dX7_requireJoinable_10 : decode cX7_requireJoinable 10 = .ok (.iconst 1, 1) := by decide +kernel
theorem dX7_requireJoinable_11 : decode cX7_requireJoinable 11 = .ok (.aload_n 0, 1) := by decide +kernel
theorem dX7_requireJoinable_12 : decode cX7_requireJoinable 12 = .ok (.getfield 19, 3) := by decide +kernel
theorem dX7_requireJoinable_15 : decode cX7_requireJoinable 15 = .ok (.getfield 186, 3) := by decide +kernel
theorem dX7_requireJoinable_18 : decode cX7_requireJoinable 18 = .ok (.iload_n 1, 1) := by decide +kernel
theorem dX7_requireJoinable_19 : decode cX7_requireJoinable 19 = .ok (.iaload, 1) := by decide +kernel
theorem dX7_requireJoinable_20 : decode cX7_requireJoinable 20 = .ok (.iadd, 1) := by decide +kernel
theorem dX7_requireJoinable_21 : decode cX7_requireJoinable 21 = .ok (.aload_n 0, 1) := by decide +kernel
theorem dX7_requireJoinable_22 : decode cX7_requireJoinable 22 = .ok (.getfield 19, 3) := by decide +kernel
theorem dX7_requireJoinable_25 : decode cX7_requireJoinable 25 = .ok (.getfield 186, 3) := by decide +kernel
theorem dX7_requireJoinable_28 : decode cX7_requireJoinable 28 = .ok (.iload_n 2, 1) := by decide +kernel
theorem dX7_requireJoinable_29 : decode cX7_requireJoinable 29 = .ok (.iaload, 1) := by decide +kernel
theorem dX7_requireJoinable_30 : decode cX7_requireJoinable 30 = .ok (.iadd, 1) := by decide +kernel
theorem dX7_requireJoinable_31 : decode cX7_requireJoinable 31 = .ok (.invokestatic 189, 3) := by decide +kernel
theorem dX7_requireJoinable_34 : decode cX7_requireJoinable 34 = .ok (.aload_n 0, 1) := by decide +kernel
theorem dX7_requireJoinable_35 : decode cX7_requireJoinable 35 = .ok (.invokevirtual 168, 3) := by decide +kernel
theorem dX7_requireJoinable_38 : decode cX7_requireJoinable 38 = .ok (.return_, 1) := by decide +kernel
theorem dX7_requireRoomForCondition_0 : decode cX7_requireRoomForCondition 0 = .ok (.aload_n 0, 1) := by decide +kernel
theorem dX7_requireRoomForCondition_1 : decode cX7_requireRoomForCondition 1 = .ok (.getfield 19, 3) := by decide +kernel
theorem dX7_requireRoomForCondition_4 : decode cX7_requireRoomForCondition 4 = .ok (.getfield 117, 3) := by decide +kernel
theorem dX7_requireRoomForCondition_7 : decode cX7_requireRoomForCondition 7 = .ok (.bipush 30, 2) := by decide +kernel
theorem dX7_requireRoomForCondition_9 : decode cX7_requireRoomForCondition 9 = .ok (.if_icmp .lt 14, 3) := by decide +kernel
theorem dX7_requireRoomForCondition_12 : decode cX7_requireRoomForCondition 12 = .ok (.new 57, 3) := by decide +kernel
theorem dX7_requireRoomForCondition_15 : decode cX7_requireRoomForCondition 15 = .ok (.dup, 1) := by decide +kernel
theorem dX7_requireRoomForCondition_16 : decode cX7_requireRoomForCondition 16 = .ok (.ldc_w 340, 3) := by decide +kernel
theorem dX7_requireRoomForCondition_19 : decode cX7_requireRoomForCondition 19 = .ok (.invokespecial 61, 3) := by decide +kernel
theorem dX7_requireRoomForCondition_22 : decode cX7_requireRoomForCondition 22 = .ok (.athrow, 1) := by decide +kernel
theorem dX7_requireRoomForCondition_23 : decode cX7_requireRoomForCondition 23 = .ok (.return_, 1) := by decide +kernel
theorem dX7_requireSize_0 : decode cX7_requireSize 0 = .ok (.iload_n 0, 1) := by decide +kernel
theorem dX7_requireSize_1 : decode cX7_requireSize 1 = .ok (.bipush 15, 2) := by decide +kernel
theorem dX7_requireSize_3 : decode cX7_requireSize 3 = .ok (.if_icmp .le 14, 3) := by decide +kernel
theorem dX7_requireSize_6 : decode cX7_requireSize 6 = .ok (.new 98, 3) := by decide +kernel
theorem dX7_requireSize_9 : decode cX7_requireSize 9 = .ok (.dup, 1) := by decide +kernel
theorem dX7_requireSize_10 : decode cX7_requireSize 10 = .ok (.ldc_w 342, 3) := by decide +kernel
theorem dX7_requireSize_13 : decode cX7_requireSize 13 = .ok (.invokespecial 102, 3) := by decide +kernel
theorem dX7_requireSize_16 : decode cX7_requireSize 16 = .ok (.athrow, 1) := by decide +kernel
theorem dX7_requireSize_17 : decode cX7_requireSize 17 = .ok (.return_, 1) := by decide +kernel
theorem dX7_requireFeature_0 : decode cX7_requireFeature 0 = .ok (.iload_n 0, 1) := by decide +kernel
theorem dX7_requireFeature_1 : decode cX7_requireFeature 1 = .ok (.invokestatic 344, 3) := by decide +kernel
theorem dX7_requireFeature_4 : decode cX7_requireFeature 4 = .ok (.ifCond .ne 14, 3) := by decide +kernel
theorem dX7_requireFeature_7 : decode cX7_requireFeature 7 = .ok (.new 41, 3) := by decide +kernel
theorem dX7_requireFeature_10 : decode cX7_requireFeature 10 = .ok (.dup, 1) := by decide +kernel
theorem dX7_requireFeature_11 : decode cX7_requireFeature 11 = .ok (.ldc_w 348, 3) := by decide +kernel
theorem dX7_requireFeature_14 : decode cX7_requireFeature 14 = .ok (.invokespecial 45, 3) := by decide +kernel
theorem dX7_requireFeature_17 : decode cX7_requireFeature 17 = .ok (.athrow, 1) := by decide +kernel
theorem dX7_requireFeature_18 : decode cX7_requireFeature 18 = .ok (.return_, 1) := by decide +kernel
theorem dX7_requireWindow_0 : decode cX7_requireWindow 0 = .ok (.iload_n 0, 1) := by decide +kernel
theorem dX7_requireWindow_1 : decode cX7_requireWindow 1 = .ok (.iconst 1, 1) := by decide +kernel
theorem dX7_requireWindow_2 : decode cX7_requireWindow 2 = .ok (.if_icmp .lt 10, 3) := by decide +kernel
theorem dX7_requireWindow_5 : decode cX7_requireWindow 5 = .ok (.iload_n 0, 1) := by decide +kernel
theorem dX7_requireWindow_6 : decode cX7_requireWindow 6 = .ok (.sipush 10080, 3) := by decide +kernel
theorem dX7_requireWindow_9 : decode cX7_requireWindow 9 = .ok (.if_icmp .le 14, 3) := by decide +kernel
theorem dX7_requireWindow_12 : decode cX7_requireWindow 12 = .ok (.new 41, 3) := by decide +kernel
theorem dX7_requireWindow_15 : decode cX7_requireWindow 15 = .ok (.dup, 1) := by decide +kernel
theorem dX7_requireWindow_16 : decode cX7_requireWindow 16 = .ok (.ldc_w 350, 3) := by decide +kernel
theorem dX7_requireWindow_19 : decode cX7_requireWindow 19 = .ok (.invokespecial 45, 3) := by decide +kernel
theorem dX7_requireWindow_22 : decode cX7_requireWindow 22 = .ok (.athrow, 1) := by decide +kernel
theorem dX7_requireWindow_23 : decode cX7_requireWindow 23 = .ok (.return_, 1) := by decide +kernel
theorem dX7_requireThreshold_0 : decode cX7_requireThreshold 0 = .ok (.iload_n 0, 1) := by decide +kernel
theorem dX7_requireThreshold_1 : decode cX7_requireThreshold 1 = .ok (.iconst 1, 1) := by decide +kernel
theorem dX7_requireThreshold_2 : decode cX7_requireThreshold 2 = .ok (.if_icmp .lt 10, 3) := by decide +kernel
