theorem dX0_init_0 : decode cX0_init 0 = .ok (.aload_n 0, 1) := by decide +kernel
theorem dX0_init_1 : decode cX0_init 1 = .ok (.invokespecial 3, 3) := by decide +kernel
theorem dX0_init_4 : decode cX0_init 4 = .ok (.aload_n 0, 1) := by decide +kernel
theorem dX0_init_5 : decode cX0_init 5 = .ok (.bipush 20, 2) := by decide +kernel
theorem dX0_init_7 : decode cX0_init 7 = .ok (.newarray .char, 2) := by decide +kernel
theorem dX0_init_9 : decode cX0_init 9 = .ok (.putfield 9, 3) := by decide +kernel
theorem dX0_init_12 : decode cX0_init 12 = .ok (.aload_n 0, 1) := by decide +kernel
theorem dX0_init_13 : decode cX0_init 13 = .ok (.bipush 20, 2) := by decide +kernel
theorem dX0_init_15 : decode cX0_init 15 = .ok (.newarray .int, 2) := by decide +kernel
theorem dX0_init_17 : decode cX0_init 17 = .ok (.putfield 15, 3) := by decide +kernel
theorem dX0_init_20 : decode cX0_init 20 = .ok (.return_, 1) := by decide +kernel
theorem dX0_append_0 : decode cX0_append 0 = .ok (.aload_n 0, 1) := by decide +kernel
theorem dX0_append_1 : decode cX0_append 1 = .ok (.getfield 9, 3) := by decide +kernel
theorem dX0_append_4 : decode cX0_append 4 = .ok (.aload_n 0, 1) := by decide +kernel
theorem dX0_append_5 : decode cX0_append 5 = .ok (.getfield 19, 3) := by decide +kernel
theorem dX0_append_8 : decode cX0_append 8 = .ok (.iload_n 1, 1) := by decide +kernel
theorem dX0_append_9 : decode cX0_append 9 = .ok (.castore, 1) := by decide +kernel
theorem dX0_append_10 : decode cX0_append 10 = .ok (.aload_n 0, 1) := by decide +kernel
theorem dX0_append_11 : decode cX0_append 11 = .ok (.getfield 15, 3) := by decide +kernel
theorem dX0_append_14 : decode cX0_append 14 = .ok (.aload_n 0, 1) := by decide +kernel
theorem dX0_append_15 : decode cX0_append 15 = .ok (.getfield 19, 3) := by decide +kernel
theorem dX0_append_18 : decode cX0_append 18 = .ok (.iload_n 2, 1) := by decide +kernel
theorem dX0_append_19 : decode cX0_append 19 = .ok (.iastore, 1) := by decide +kernel
theorem dX0_append_20 : decode cX0_append 20 = .ok (.aload_n 0, 1) := by decide +kernel
theorem dX0_append_21 : decode cX0_append 21 = .ok (.dup, 1) := by decide +kernel
theorem dX0_append_22 : decode cX0_append 22 = .ok (.getfield 19, 3) := by decide +kernel
theorem dX0_append_25 : decode cX0_append 25 = .ok (.dup_x1, 1) := by decide +kernel
theorem dX0_append_26 : decode cX0_append 26 = .ok (.iconst 1, 1) := by decide +kernel
theorem dX0_append_27 : decode cX0_append 27 = .ok (.iadd, 1) := by decide +kernel
theorem dX0_append_28 : decode cX0_append 28 = .ok (.putfield 19, 3) := by decide +kernel
theorem dX0_append_31 : decode cX0_append 31 = .ok (.ireturn, 1) := by decide +kernel
theorem dX1_init_0 : decode cX1_init 0 = .ok (.aload_n 0, 1) := by decide +kernel
theorem dX1_init_1 : decode cX1_init 1 = .ok (.invokespecial 3, 3) := by decide +kernel
theorem dX1_init_4 : decode cX1_init 4 = .ok (.aload_n 0, 1) := by decide +kernel
theorem dX1_init_5 : decode cX1_init 5 = .ok (.new 9, 3) := by decide +kernel
theorem dX1_init_8 : decode cX1_init 8 = .ok (.dup, 1) := by decide +kernel
theorem dX1_init_9 : decode cX1_init 9 = .ok (.invokespecial 11, 3) := by decide +kernel
theorem dX1_init_12 : decode cX1_init 12 = .ok (.putfield 12, 3) := by decide +kernel
theorem dX1_init_15 : decode cX1_init 15 = .ok (.aload_n 0, 1) := by decide +kernel
theorem dX1_init_16 : decode cX1_init 16 = .ok (.new 18, 3) := by decide +kernel
theorem dX1_init_19 : decode cX1_init 19 = .ok (.dup, 1) := by decide +kernel
theorem dX1_init_20 : decode cX1_init 20 = .ok (.invokespecial 20, 3) := by decide +kernel
theorem dX1_init_23 : decode cX1_init 23 = .ok (.putfield 21, 3) := by decide +kernel
theorem dX1_init_26 : decode cX1_init 26 = .ok (.aload_n 0, 1) := by decide +kernel
theorem dX1_init_27 : decode cX1_init 27 = .ok (.new 25, 3) := by decide +kernel
theorem dX1_init_30 : decode cX1_init 30 = .ok (.dup, 1) := by decide +kernel
theorem dX1_init_31 : decode cX1_init 31 = .ok (.invokespecial 27, 3) := by decide +kernel
theorem dX1_init_34 : decode cX1_init 34 = .ok (.putfield 28, 3) := by decide +kernel
theorem dX1_init_37 : decode cX1_init 37 = .ok (.return_, 1) := by decide +kernel
theorem dX1_hasFeature_0 : decode cX1_hasFeature 0 = .ok (.getstatic 32, 3) := by decide +kernel
theorem dX1_hasFeature_3 : decode cX1_hasFeature 3 = .ok (.astore_n 1, 1) := by decide +kernel
theorem dX1_hasFeature_4 : decode cX1_hasFeature 4 = .ok (.aload_n 1, 1) := by decide +kernel
theorem dX1_hasFeature_5 : decode cX1_hasFeature 5 = .ok (.arraylength, 1) := by decide +kernel
theorem dX1_hasFeature_6 : decode cX1_hasFeature 6 = .ok (.istore_n 2, 1) := by decide +kernel
theorem dX1_hasFeature_7 : decode cX1_hasFeature 7 = .ok (.iconst 0, 1) := by decide +kernel
theorem dX1_hasFeature_8 : decode cX1_hasFeature 8 = .ok (.istore_n 3, 1) := by decide +kernel
theorem dX1_hasFeature_9 : decode cX1_hasFeature 9 = .ok (.iload_n 3, 1) := by decide +kernel
theorem dX1_hasFeature_10 : decode cX1_hasFeature 10 = .ok (.iload_n 2, 1) := by decide +kernel
theorem dX1_hasFeature_11 : decode cX1_hasFeature 11 = .ok (.if_icmp .ge 22, 3) := by decide +kernel
theorem dX1_hasFeature_14 : decode cX1_hasFeature 14 = .ok (.aload_n 1, 1) := by decide +kernel
theorem dX1_hasFeature_15 : decode cX1_hasFeature 15 = .ok (.iload_n 3, 1) := by decide +kernel
theorem dX1_hasFeature_16 : decode cX1_hasFeature 16 = .ok (.caload, 1) := by decide +kernel
theorem dX1_hasFeature_17 : decode cX1_hasFeature 17 = .ok (.istore 4, 2) := by decide +kernel
theorem dX1_hasFeature_19 : decode cX1_hasFeature 19 = .ok (.iload 4, 2) := by decide +kernel
theorem dX1_hasFeature_21 : decode cX1_hasFeature 21 = .ok (.iload_n 0, 1) := by decide +kernel
theorem dX1_hasFeature_22 : decode cX1_hasFeature 22 = .ok (.if_icmp .ne 5, 3) := by decide +kernel
theorem dX1_hasFeature_25 : decode cX1_hasFeature 25 = .ok (.iconst 1, 1) := by decide +kernel
theorem dX1_hasFeature_26 : decode cX1_hasFeature 26 = .ok (.ireturn, 1) := by decide +kernel
theorem dX1_hasFeature_27 : decode cX1_hasFeature 27 = .ok (.iinc 3 1, 3) := by decide +kernel
theorem dX1_hasFeature_30 : decode cX1_hasFeature 30 = .ok (.goto (-21), 3) := by decide +kernel
theorem dX1_hasFeature_33 : decode cX1_hasFeature 33 = .ok (.iconst 0, 1) := by decide +kernel
theorem dX1_hasFeature_34 : decode cX1_hasFeature 34 = .ok (.ireturn, 1) := by decide +kernel
theorem dX1_advance_0 : decode cX1_advance 0 = .ok (.aload_n 0, 1) := by decide +kernel
theorem dX1_advance_1 : decode cX1_advance 1 = .ok (.dup, 1) := by decide +kernel
theorem dX1_advance_2 : decode cX1_advance 2 = .ok (.getfield 36, 3) := by decide +kernel
theorem dX1_advance_5 : decode cX1_advance 5 = .ok (.iload_n 1, 1) := by decide +kernel
theorem dX1_advance_6 : decode cX1_advance 6 = .ok (.iadd, 1) := by decide +kernel
theorem dX1_advance_7 : decode cX1_advance 7 = .ok (.putfield 36, 3) := by decide +kernel
theorem dX1_advance_10 : decode cX1_advance 10 = .ok (.aload_n 0, 1) := by decide +kernel
theorem dX1_advance_11 : decode cX1_advance 11 = .ok (.aload_n 0, 1) := by decide +kernel
theorem dX1_advance_12 : decode cX1_advance 12 = .ok (.getfield 21, 3) := by decide +kernel
theorem dX1_advance_15 : decode cX1_advance 15 = .ok (.aload_n 0, 1) := by decide +kernel
theorem dX1_advance_16 : decode cX1_advance 16 = .ok (.getfield 36, 3) := by decide +kernel
theorem dX1_advance_19 : decode cX1_advance 19 = .ok (.sipush 10080, 3) := by decide +kernel
theorem dX1_advance_22 : decode cX1_advance 22 = .ok (.isub, 1) := by decide +kernel
theorem dX1_advance_23 : decode cX1_advance 23 = .ok (.aload_n 0, 1) := by decide +kernel
theorem dX1_advance_24 : decode cX1_advance 24 = .ok (.getfield 40, 3) := by decide +kernel
theorem dX1_advance_27 : decode cX1_advance 27 = .ok (.invokevirtual 43, 3) := by decide +kernel
theorem dX1_advance_30 : decode cX1_advance 30 = .ok (.putfield 40, 3) := by decide +kernel
theorem dX1_advance_33 : decode cX1_advance 33 = .ok (.return_, 1) := by decide +kernel
theorem dX1_keptSum_0 : decode cX1_keptSum 0 = .ok (.aload_n 0, 1) := by decide +kernel
theorem dX1_keptSum_1 : decode cX1_keptSum 1 = .ok (.getfield 21, 3) := by decide +kernel
theorem dX1_keptSum_4 : decode cX1_keptSum 4 = .ok (.aload_n 0, 1) := by decide +kernel
theorem dX1_keptSum_5 : decode cX1_keptSum 5 = .ok (.getfield 36, 3) := by decide +kernel
theorem dX1_keptSum_8 : decode cX1_keptSum 8 = .ok (.iload_n 2, 1) := by decide +kernel
theorem dX1_keptSum_9 : decode cX1_keptSum 9 = .ok (.isub, 1) := by decide +kernel
theorem dX1_keptSum_10 : decode cX1_keptSum 10 = .ok (.aload_n 0, 1) := by decide +kernel
theorem dX1_keptSum_11 : decode cX1_keptSum 11 = .ok (.getfield 40, 3) := by decide +kernel
theorem dX1_keptSum_14 : decode cX1_keptSum 14 = .ok (.invokevirtual 43, 3) := by decide +kernel
theorem dX1_keptSum_17 : decode cX1_keptSum 17 = .ok (.istore_n 3, 1) := by decide +kernel
theorem dX1_keptSum_18 : decode cX1_keptSum 18 = .ok (.aload_n 0, 1) := by decide +kernel
theorem dX1_keptSum_19 : decode cX1_keptSum 19 = .ok (.getfield 21, 3) := by decide +kernel
theorem dX1_keptSum_22 : decode cX1_keptSum 22 = .ok (.aload_n 0, 1) := by decide +kernel
theorem dX1_keptSum_23 : decode cX1_keptSum 23 = .ok (.getfield 21, 3) := by decide +kernel
theorem dX1_keptSum_26 : decode cX1_keptSum 26 = .ok (.getfield 47, 3) := by decide +kernel
theorem dX1_keptSum_29 : decode cX1_keptSum 29 = .ok (.iload_n 1, 1) := by decide +kernel
theorem dX1_keptSum_30 : decode cX1_keptSum 30 = .ok (.iload_n 3, 1) := by decide +kernel
theorem dX1_keptSum_31 : decode cX1_keptSum 31 = .ok (.aload_n 0, 1) := by decide +kernel
theorem dX1_keptSum_32 : decode cX1_keptSum 32 = .ok (.getfield 21, 3) := by decide +kernel
theorem dX1_keptSum_35 : decode cX1_keptSum 35 = .ok (.getfield 51, 3) := by decide +kernel
theorem dX1_keptSum_38 : decode cX1_keptSum 38 = .ok (.invokevirtual 54, 3) := by decide +kernel
theorem dX1_keptSum_41 : decode cX1_keptSum 41 = .ok (.ireturn, 1) := by decide +kernel
theorem dX1_sumAnew_0 : decode cX1_sumAnew 0 = .ok (.iconst 0, 1) := by decide +kernel
theorem dX1_sumAnew_1 : decode cX1_sumAnew 1 = .ok (.istore_n 3, 1) := by decide +kernel
theorem dX1_sumAnew_2 : decode cX1_sumAnew 2 = .ok (.iconst 0, 1) := by decide +kernel
theorem dX1_sumAnew_3 : decode cX1_sumAnew 3 = .ok (.istore 4, 2) := by decide +kernel
theorem dX1_sumAnew_5 : decode cX1_sumAnew 5 = .ok (.iload 4, 2) := by decide +kernel
theorem dX1_sumAnew_7 : decode cX1_sumAnew 7 = .ok (.aload_n 0, 1) := by decide +kernel
theorem dX1_sumAnew_8 : decode cX1_sumAnew 8 = .ok (.getfield 21, 3) := by decide +kernel
theorem dX1_sumAnew_11 : decode cX1_sumAnew 11 = .ok (.getfield 51, 3) := by decide +kernel
theorem dX1_sumAnew_14 : decode cX1_sumAnew 14 = .ok (.if_icmp .ge 55, 3) := by decide +kernel
theorem dX1_sumAnew_17 : decode cX1_sumAnew 17 = .ok (.aload_n 0, 1) := by decide +kernel
theorem dX1_sumAnew_18 : decode cX1_sumAnew 18 = .ok (.getfield 21, 3) := by decide +kernel
theorem dX1_sumAnew_21 : decode cX1_sumAnew 21 = .ok (.getfield 47, 3) := by decide +kernel
theorem dX1_sumAnew_24 : decode cX1_sumAnew 24 = .ok (.iload 4, 2) := by decide +kernel
theorem dX1_sumAnew_26 : decode cX1_sumAnew 26 = .ok (.iaload, 1) := by decide +kernel
theorem dX1_sumAnew_27 : decode cX1_sumAnew 27 = .ok (.iload_n 1, 1) := by decide +kernel
theorem dX1_sumAnew_28 : decode cX1_sumAnew 28 = .ok (.if_icmp .ne 35, 3) := by decide +kernel
theorem dX1_sumAnew_31 : decode cX1_sumAnew 31 = .ok (.aload_n 0, 1) := by decide +kernel
theorem dX1_sumAnew_32 : decode cX1_sumAnew 32 = .ok (.getfield 21, 3) := by decide +kernel
theorem dX1_sumAnew_35 : decode cX1_sumAnew 35 = .ok (.getfield 58, 3) := by decide +kernel
theorem dX1_sumAnew_38 : decode cX1_sumAnew 38 = .ok (.iload 4, 2) := by decide +kernel
theorem dX1_sumAnew_40 : decode cX1_sumAnew 40 = .ok (.iaload, 1) := by decide +kernel
theorem dX1_sumAnew_41 : decode cX1_sumAnew 41 = .ok (.aload_n 0, 1) := by decide +kernel
theorem dX1_sumAnew_42 : decode cX1_sumAnew 42 = .ok (.getfield 36, 3) := by decide +kernel
theorem dX1_sumAnew_45 : decode cX1_sumAnew 45 = .ok (.iload_n 2, 1) := by decide +kernel
theorem dX1_sumAnew_46 : decode cX1_sumAnew 46 = .ok (.isub, 1) := by decide +kernel
theorem dX1_sumAnew_47 : decode cX1_sumAnew 47 = .ok (.if_icmp .le 16, 3) := by decide +kernel
theorem dX1_sumAnew_50 : decode cX1_sumAnew 50 = .ok (.iload_n 3, 1) := by decide +kernel
theorem dX1_sumAnew_51 : decode cX1_sumAnew 51 = .ok (.aload_n 0, 1) := by decide +kernel
theorem dX1_sumAnew_52 : decode cX1_sumAnew 52 = .ok (.getfield 21, 3) := by decide +kernel
theorem dX1_sumAnew_55 : decode cX1_sumAnew 55 = .ok (.getfield 61, 3) := by decide +kernel
theorem dX1_sumAnew_58 : decode cX1_sumAnew 58 = .ok (.iload 4, 2) := by decide +kernel
theorem dX1_sumAnew_60 : decode cX1_sumAnew 60 = .ok (.iaload, 1) := by decide +kernel
theorem dX1_sumAnew_61 : decode cX1_sumAnew 61 = .ok (.iadd, 1) := by decide +kernel
theorem dX1_sumAnew_62 : decode cX1_sumAnew 62 = .ok (.istore_n 3, 1) := by decide +kernel
theorem dX1_sumAnew_63 : decode cX1_sumAnew 63 = .ok (.iinc 4 1, 3) := by decide +kernel
theorem dX1_sumAnew_66 : decode cX1_sumAnew 66 = .ok (.goto (-61), 3) := by decide +kernel
theorem dX1_sumAnew_69 : decode cX1_sumAnew 69 = .ok (.iload_n 3, 1) := by decide +kernel
theorem dX1_sumAnew_70 : decode cX1_sumAnew 70 = .ok (.ireturn, 1) := by decide +kernel
theorem dX1_networkNow_0 : decode cX1_networkNow 0 = .ok (.aload_n 0, 1) := by decide +kernel
theorem dX1_networkNow_1 : decode cX1_networkNow 1 = .ok (.aload_n 0, 1) := by decide +kernel
theorem dX1_networkNow_2 : decode cX1_networkNow 2 = .ok (.getfield 21, 3) := by decide +kernel
theorem dX1_networkNow_5 : decode cX1_networkNow 5 = .ok (.aload_n 0, 1) := by decide +kernel
theorem dX1_networkNow_6 : decode cX1_networkNow 6 = .ok (.getfield 36, 3) := by decide +kernel
theorem dX1_networkNow_9 : decode cX1_networkNow 9 = .ok (.iload_n 1, 1) := by decide +kernel
theorem dX1_networkNow_10 : decode cX1_networkNow 10 = .ok (.isub, 1) := by decide +kernel
theorem dX1_networkNow_11 : decode cX1_networkNow 11 = .ok (.iconst 0, 1) := by decide +kernel
theorem dX1_networkNow_12 : decode cX1_networkNow 12 = .ok (.invokevirtual 43, 3) := by decide +kernel
theorem dX1_networkNow_15 : decode cX1_networkNow 15 = .ok (.aload_n 0, 1) := by decide +kernel
theorem dX1_networkNow_16 : decode cX1_networkNow 16 = .ok (.getfield 21, 3) := by decide +kernel
theorem dX1_networkNow_19 : decode cX1_networkNow 19 = .ok (.getfield 51, 3) := by decide +kernel
theorem dX1_networkNow_22 : decode cX1_networkNow 22 = .ok (.invokevirtual 64, 3) := by decide +kernel
theorem dX1_networkNow_25 : decode cX1_networkNow 25 = .ok (.areturn, 1) := by decide +kernel
theorem dX1_networkOf_0 : decode cX1_networkOf 0 = .ok (.aload_n 0, 1) := by decide +kernel
theorem dX1_networkOf_1 : decode cX1_networkOf 1 = .ok (.getfield 28, 3) := by decide +kernel
theorem dX1_networkOf_4 : decode cX1_networkOf 4 = .ok (.aload_n 0, 1) := by decide +kernel
theorem dX1_networkOf_5 : decode cX1_networkOf 5 = .ok (.getfield 21, 3) := by decide +kernel
theorem dX1_networkOf_8 : decode cX1_networkOf 8 = .ok (.iload_n 1, 1) := by decide +kernel
theorem dX1_networkOf_9 : decode cX1_networkOf 9 = .ok (.iload_n 2, 1) := by decide +kernel
theorem dX1_networkOf_10 : decode cX1_networkOf 10 = .ok (.invokevirtual 68, 3) := by decide +kernel
theorem dX1_networkOf_13 : decode cX1_networkOf 13 = .ok (.aload_n 0, 1) := by decide +kernel
theorem dX1_networkOf_14 : decode cX1_networkOf 14 = .ok (.getfield 28, 3) := by decide +kernel
theorem dX1_networkOf_17 : decode cX1_networkOf 17 = .ok (.areturn, 1) := by decide +kernel
theorem dX1_featureValue_0 : decode cX1_featureValue 0 = .ok (.aload_n 0, 1) := by decide +kernel
theorem dX1_featureValue_1 : decode cX1_featureValue 1 = .ok (.getfield 21, 3) := by decide +kernel
theorem dX1_featureValue_4 : decode cX1_featureValue 4 = .ok (.getfield 47, 3) := by decide +kernel
theorem dX1_featureValue_7 : decode cX1_featureValue 7 = .ok (.iload_n 1, 1) := by decide +kernel
theorem dX1_featureValue_8 : decode cX1_featureValue 8 = .ok (.iaload, 1) := by decide +kernel
theorem dX1_featureValue_9 : decode cX1_featureValue 9 = .ok (.istore 4, 2) := by decide +kernel
theorem dX1_featureValue_11 : decode cX1_featureValue 11 = .ok (.aload_n 0, 1) := by decide +kernel
theorem dX1_featureValue_12 : decode cX1_featureValue 12 = .ok (.getfield 21, 3) := by decide +kernel
theorem dX1_featureValue_15 : decode cX1_featureValue 15 = .ok (.getfield 72, 3) := by decide +kernel
theorem dX1_featureValue_18 : decode cX1_featureValue 18 = .ok (.iload_n 1, 1) := by decide +kernel
theorem dX1_featureValue_19 : decode cX1_featureValue 19 = .ok (.iaload, 1) := by decide +kernel
theorem dX1_featureValue_20 : decode cX1_featureValue 20 = .ok (.istore 5, 2) := by decide +kernel
theorem dX1_featureValue_22 : decode cX1_featureValue 22 = .ok (.iload_n 1, 1) := by decide +kernel
theorem dX1_featureValue_23 : decode cX1_featureValue 23 = .ok (.iconst 1, 1) := by decide +kernel
theorem dX1_featureValue_24 : decode cX1_featureValue 24 = .ok (.iadd, 1) := by decide +kernel
theorem dX1_featureValue_25 : decode cX1_featureValue 25 = .ok (.istore 6, 2) := by decide +kernel
theorem dX1_featureValue_27 : decode cX1_featureValue 27 = .ok (.aload_n 0, 1) := by decide +kernel
theorem dX1_featureValue_28 : decode cX1_featureValue 28 = .ok (.getfield 21, 3) := by decide +kernel
theorem dX1_featureValue_31 : decode cX1_featureValue 31 = .ok (.aload_n 0, 1) := by decide +kernel
theorem dX1_featureValue_32 : decode cX1_featureValue 32 = .ok (.getfield 21, 3) := by decide +kernel
theorem dX1_featureValue_35 : decode cX1_featureValue 35 = .ok (.getfield 58, 3) := by decide +kernel
theorem dX1_featureValue_38 : decode cX1_featureValue 38 = .ok (.iload_n 1, 1) := by decide +kernel
theorem dX1_featureValue_39 : decode cX1_featureValue 39 = .ok (.iaload, 1) := by decide +kernel
theorem dX1_featureValue_40 : decode cX1_featureValue 40 = .ok (.iload_n 3, 1) := by decide +kernel
theorem dX1_featureValue_41 : decode cX1_featureValue 41 = .ok (.isub, 1) := by decide +kernel
theorem dX1_featureValue_42 : decode cX1_featureValue 42 = .ok (.iconst 0, 1) := by decide +kernel
theorem dX1_featureValue_43 : decode cX1_featureValue 43 = .ok (.invokevirtual 43, 3) := by decide +kernel
theorem dX1_featureValue_46 : decode cX1_featureValue 46 = .ok (.istore 7, 2) := by decide +kernel
theorem dX1_featureValue_48 : decode cX1_featureValue 48 = .ok (.iload_n 2, 1) := by decide +kernel
theorem dX1_featureValue_49 : decode cX1_featureValue 49 = .ok (.tableswitch 306 97 115 #[248, 306, 181, 283, 306, 220, 269, 306, 199, 306, 306, 144, 130, 91, 306, 306, 237, 164, 109], 91) := by decide +kernel
theorem dX1_featureValue_140 : decode cX1_featureValue 140 = .ok (.aload_n 0, 1) := by decide +kernel
theorem dX1_featureValue_141 : decode cX1_featureValue 141 = .ok (.getfield 21, 3) := by decide +kernel
theorem dX1_featureValue_144 : decode cX1_featureValue 144 = .ok (.iload 4, 2) := by decide +kernel
theorem dX1_featureValue_146 : decode cX1_featureValue 146 = .ok (.iload 7, 2) := by decide +kernel
theorem dX1_featureValue_148 : decode cX1_featureValue 148 = .ok (.iload 6, 2) := by decide +kernel
theorem dX1_featureValue_150 : decode cX1_featureValue 150 = .ok (.iconst 1, 1) := by decide +kernel
theorem dX1_featureValue_151 : decode cX1_featureValue 151 = .ok (.sipush 9999, 3) := by decide +kernel
theorem dX1_featureValue_154 : decode cX1_featureValue 154 = .ok (.invokevirtual 75, 3) := by decide +kernel
theorem dX1_featureValue_157 : decode cX1_featureValue 157 = .ok (.ireturn, 1) := by decide +kernel
theorem dX1_featureValue_158 : decode cX1_featureValue 158 = .ok (.aload_n 0, 1) := by decide +kernel
theorem dX1_featureValue_159 : decode cX1_featureValue 159 = .ok (.getfield 21, 3) := by decide +kernel
theorem dX1_featureValue_162 : decode cX1_featureValue 162 = .ok (.aload_n 0, 1) := by decide +kernel
theorem dX1_featureValue_163 : decode cX1_featureValue 163 = .ok (.getfield 21, 3) := by decide +kernel
theorem dX1_featureValue_166 : decode cX1_featureValue 166 = .ok (.getfield 47, 3) := by decide +kernel
theorem dX1_featureValue_169 : decode cX1_featureValue 169 = .ok (.iload 4, 2) := by decide +kernel
theorem dX1_featureValue_171 : decode cX1_featureValue 171 = .ok (.iload 7, 2) := by decide +kernel
theorem dX1_featureValue_173 : decode cX1_featureValue 173 = .ok (.iload 6, 2) := by decide +kernel
theorem dX1_featureValue_175 : decode cX1_featureValue 175 = .ok (.invokevirtual 54, 3) := by decide +kernel
theorem dX1_featureValue_178 : decode cX1_featureValue 178 = .ok (.ireturn, 1) := by decide +kernel
theorem dX1_featureValue_179 : decode cX1_featureValue 179 = .ok (.aload_n 0, 1) := by decide +kernel
theorem dX1_featureValue_180 : decode cX1_featureValue 180 = .ok (.getfield 21, 3) := by decide +kernel
theorem dX1_featureValue_183 : decode cX1_featureValue 183 = .ok (.iload 4, 2) := by decide +kernel
theorem dX1_featureValue_185 : decode cX1_featureValue 185 = .ok (.iload 7, 2) := by decide +kernel
theorem dX1_featureValue_187 : decode cX1_featureValue 187 = .ok (.iload 6, 2) := by decide +kernel
theorem dX1_featureValue_189 : decode cX1_featureValue 189 = .ok (.invokevirtual 79, 3) := by decide +kernel
theorem dX1_featureValue_192 : decode cX1_featureValue 192 = .ok (.ireturn, 1) := by decide +kernel
theorem dX1_featureValue_193 : decode cX1_featureValue 193 = .ok (.aload_n 0, 1) := by decide +kernel
theorem dX1_featureValue_194 : decode cX1_featureValue 194 = .ok (.getfield 21, 3) := by decide +kernel
theorem dX1_featureValue_197 : decode cX1_featureValue 197 = .ok (.iload 4, 2) := by decide +kernel
theorem dX1_featureValue_199 : decode cX1_featureValue 199 = .ok (.iload 7, 2) := by decide +kernel
theorem dX1_featureValue_201 : decode cX1_featureValue 201 = .ok (.iload 6, 2) := by decide +kernel
theorem dX1_featureValue_203 : decode cX1_featureValue 203 = .ok (.sipush 900, 3) := by decide +kernel
theorem dX1_featureValue_206 : decode cX1_featureValue 206 = .ok (.sipush 999, 3) := by decide +kernel
theorem dX1_featureValue_209 : decode cX1_featureValue 209 = .ok (.invokevirtual 75, 3) := by decide +kernel
theorem dX1_featureValue_212 : decode cX1_featureValue 212 = .ok (.ireturn, 1) := by decide +kernel
theorem dX1_featureValue_213 : decode cX1_featureValue 213 = .ok (.aload_n 0, 1) := by decide +kernel
theorem dX1_featureValue_214 : decode cX1_featureValue 214 = .ok (.getfield 21, 3) := by decide +kernel
theorem dX1_featureValue_217 : decode cX1_featureValue 217 = .ok (.iload 4, 2) := by decide +kernel
theorem dX1_featureValue_219 : decode cX1_featureValue 219 = .ok (.iload 7, 2) := by decide +kernel
theorem dX1_featureValue_221 : decode cX1_featureValue 221 = .ok (.iload 6, 2) := by decide +kernel
theorem dX1_featureValue_223 : decode cX1_featureValue 223 = .ok (.invokevirtual 83, 3) := by decide +kernel
theorem dX1_featureValue_226 : decode cX1_featureValue 226 = .ok (.invokestatic 86, 3) := by decide +kernel
theorem dX1_featureValue_229 : decode cX1_featureValue 229 = .ok (.ireturn, 1) := by decide +kernel
theorem dX1_featureValue_230 : decode cX1_featureValue 230 = .ok (.aload_n 0, 1) := by decide +kernel
theorem dX1_featureValue_231 : decode cX1_featureValue 231 = .ok (.aload_n 0, 1) := by decide +kernel
theorem dX1_featureValue_232 : decode cX1_featureValue 232 = .ok (.getfield 21, 3) := by decide +kernel
theorem dX1_featureValue_235 : decode cX1_featureValue 235 = .ok (.iload 4, 2) := by decide +kernel
theorem dX1_featureValue_237 : decode cX1_featureValue 237 = .ok (.iload 7, 2) := by decide +kernel
theorem dX1_featureValue_239 : decode cX1_featureValue 239 = .ok (.iload 6, 2) := by decide +kernel
theorem dX1_featureValue_241 : decode cX1_featureValue 241 = .ok (.invokevirtual 83, 3) := by decide +kernel
theorem dX1_featureValue_244 : decode cX1_featureValue 244 = .ok (.invokevirtual 92, 3) := by decide +kernel
theorem dX1_featureValue_247 : decode cX1_featureValue 247 = .ok (.ireturn, 1) := by decide +kernel
theorem dX1_featureValue_248 : decode cX1_featureValue 248 = .ok (.aload_n 0, 1) := by decide +kernel
theorem dX1_featureValue_249 : decode cX1_featureValue 249 = .ok (.getfield 21, 3) := by decide +kernel
theorem dX1_featureValue_252 : decode cX1_featureValue 252 = .ok (.aload_n 0, 1) := by decide +kernel
theorem dX1_featureValue_253 : decode cX1_featureValue 253 = .ok (.getfield 21, 3) := by decide +kernel
theorem dX1_featureValue_256 : decode cX1_featureValue 256 = .ok (.getfield 72, 3) := by decide +kernel
theorem dX1_featureValue_259 : decode cX1_featureValue 259 = .ok (.iload 4, 2) := by decide +kernel
theorem dX1_featureValue_261 : decode cX1_featureValue 261 = .ok (.iload 7, 2) := by decide +kernel
theorem dX1_featureValue_263 : decode cX1_featureValue 263 = .ok (.iload 6, 2) := by decide +kernel
theorem dX1_featureValue_265 : decode cX1_featureValue 265 = .ok (.invokevirtual 54, 3) := by decide +kernel
theorem dX1_featureValue_268 : decode cX1_featureValue 268 = .ok (.ireturn, 1) := by decide +kernel
theorem dX1_featureValue_269 : decode cX1_featureValue 269 = .ok (.aload_n 0, 1) := by decide +kernel
theorem dX1_featureValue_270 : decode cX1_featureValue 270 = .ok (.getfield 21, 3) := by decide +kernel
theorem dX1_featureValue_273 : decode cX1_featureValue 273 = .ok (.iload_n 1, 1) := by decide +kernel
theorem dX1_featureValue_274 : decode cX1_featureValue 274 = .ok (.invokevirtual 95, 3) := by decide +kernel
theorem dX1_featureValue_277 : decode cX1_featureValue 277 = .ok (.ifCond .eq 7, 3) := by decide +kernel
theorem dX1_featureValue_280 : decode cX1_featureValue 280 = .ok (.iconst 1, 1) := by decide +kernel
theorem dX1_featureValue_281 : decode cX1_featureValue 281 = .ok (.goto 4, 3) := by decide +kernel
theorem dX1_featureValue_284 : decode cX1_featureValue 284 = .ok (.iconst 0, 1) := by decide +kernel
theorem dX1_featureValue_285 : decode cX1_featureValue 285 = .ok (.ireturn, 1) := by decide +kernel
theorem dX1_featureValue_286 : decode cX1_featureValue 286 = .ok (.aload_n 0, 1) := by decide +kernel
theorem dX1_featureValue_287 : decode cX1_featureValue 287 = .ok (.getfield 21, 3) := by decide +kernel
theorem dX1_featureValue_290 : decode cX1_featureValue 290 = .ok (.iload_n 1, 1) := by decide +kernel
theorem dX1_featureValue_291 : decode cX1_featureValue 291 = .ok (.ldc 99, 2) := by decide +kernel
theorem dX1_featureValue_293 : decode cX1_featureValue 293 = .ok (.invokevirtual 100, 3) := by decide +kernel
theorem dX1_featureValue_296 : decode cX1_featureValue 296 = .ok (.ireturn, 1) := by decide +kernel
theorem dX1_featureValue_297 : decode cX1_featureValue 297 = .ok (.aload_n 0, 1) := by decide +kernel
theorem dX1_featureValue_298 : decode cX1_featureValue 298 = .ok (.getfield 21, 3) := by decide +kernel
theorem dX1_featureValue_301 : decode cX1_featureValue 301 = .ok (.getfield 58, 3) := by decide +kernel
theorem dX1_featureValue_304 : decode cX1_featureValue 304 = .ok (.iload_n 1, 1) := by decide +kernel
theorem dX1_featureValue_305 : decode cX1_featureValue 305 = .ok (.iaload, 1) := by decide +kernel
theorem dX1_featureValue_306 : decode cX1_featureValue 306 = .ok (.aload_n 0, 1) := by decide +kernel
theorem dX1_featureValue_307 : decode cX1_featureValue 307 = .ok (.getfield 12, 3) := by decide +kernel
theorem dX1_featureValue_310 : decode cX1_featureValue 310 = .ok (.getfield 103, 3) := by decide +kernel
theorem dX1_featureValue_313 : decode cX1_featureValue 313 = .ok (.iload 4, 2) := by decide +kernel
theorem dX1_featureValue_315 : decode cX1_featureValue 315 = .ok (.iaload, 1) := by decide +kernel
theorem dX1_featureValue_316 : decode cX1_featureValue 316 = .ok (.isub, 1) := by decide +kernel
theorem dX1_featureValue_317 : decode cX1_featureValue 317 = .ok (.ireturn, 1) := by decide +kernel
theorem dX1_featureValue_318 : decode cX1_featureValue 318 = .ok (.aload_n 0, 1) := by decide +kernel
theorem dX1_featureValue_319 : decode cX1_featureValue 319 = .ok (.iload 7, 2) := by decide +kernel
theorem dX1_featureValue_321 : decode cX1_featureValue 321 = .ok (.iload 6, 2) := by decide +kernel
theorem dX1_featureValue_323 : decode cX1_featureValue 323 = .ok (.invokevirtual 64, 3) := by decide +kernel
theorem dX1_featureValue_326 : decode cX1_featureValue 326 = .ok (.iload 4, 2) := by decide +kernel
theorem dX1_featureValue_328 : decode cX1_featureValue 328 = .ok (.invokevirtual 106, 3) := by decide +kernel
theorem dX1_featureValue_331 : decode cX1_featureValue 331 = .ok (.ireturn, 1) := by decide +kernel
theorem dX1_featureValue_332 : decode cX1_featureValue 332 = .ok (.aload_n 0, 1) := by decide +kernel
theorem dX1_featureValue_333 : decode cX1_featureValue 333 = .ok (.iload 7, 2) := by decide +kernel
theorem dX1_featureValue_335 : decode cX1_featureValue 335 = .ok (.iload 6, 2) := by decide +kernel
theorem dX1_featureValue_337 : decode cX1_featureValue 337 = .ok (.invokevirtual 64, 3) := by decide +kernel
theorem dX1_featureValue_340 : decode cX1_featureValue 340 = .ok (.iload 5, 2) := by decide +kernel
theorem dX1_featureValue_342 : decode cX1_featureValue 342 = .ok (.aload_n 0, 1) := by decide +kernel
theorem dX1_featureValue_343 : decode cX1_featureValue 343 = .ok (.getfield 12, 3) := by decide +kernel
theorem dX1_featureValue_346 : decode cX1_featureValue 346 = .ok (.getfield 109, 3) := by decide +kernel
theorem dX1_featureValue_349 : decode cX1_featureValue 349 = .ok (.bipush 99, 2) := by decide +kernel
theorem dX1_featureValue_351 : decode cX1_featureValue 351 = .ok (.invokevirtual 112, 3) := by decide +kernel
theorem dX1_featureValue_354 : decode cX1_featureValue 354 = .ok (.ireturn, 1) := by decide +kernel
theorem dX1_featureValue_355 : decode cX1_featureValue 355 = .ok (.aload_n 0, 1) := by decide +kernel
theorem dX1_featureValue_356 : decode cX1_featureValue 356 = .ok (.iload 7, 2) := by decide +kernel
theorem dX1_featureValue_358 : decode cX1_featureValue 358 = .ok (.iload 6, 2) := by decide +kernel
theorem dX1_featureValue_360 : decode cX1_featureValue 360 = .ok (.invokevirtual 64, 3) := by decide +kernel
theorem dX1_featureValue_363 : decode cX1_featureValue 363 = .ok (.iload 5, 2) := by decide +kernel
theorem dX1_featureValue_365 : decode cX1_featureValue 365 = .ok (.iload 4, 2) := by decide +kernel
theorem dX1_featureValue_367 : decode cX1_featureValue 367 = .ok (.invokevirtual 115, 3) := by decide +kernel
theorem dX1_featureValue_370 : decode cX1_featureValue 370 = .ok (.istore 8, 2) := by decide +kernel
theorem dX1_featureValue_372 : decode cX1_featureValue 372 = .ok (.iload 8, 2) := by decide +kernel
theorem dX1_featureValue_374 : decode cX1_featureValue 374 = .ok (.iconst (-1), 1) := by decide +kernel
theorem dX1_featureValue_375 : decode cX1_featureValue 375 = .ok (.if_icmp .ne 7, 3) := by decide +kernel
theorem dX1_featureValue_378 : decode cX1_featureValue 378 = .ok (.iconst 0, 1) := by decide +kernel
theorem dX1_featureValue_379 : decode cX1_featureValue 379 = .ok (.goto 7, 3) := by decide +kernel
theorem dX1_featureValue_382 : decode cX1_featureValue 382 = .ok (.iconst 1, 1) := by decide +kernel
theorem dX1_featureValue_383 : decode cX1_featureValue 383 = .ok (.iload 8, 2) := by decide +kernel
theorem dX1_featureValue_385 : decode cX1_featureValue 385 = .ok (.iadd, 1) := by decide +kernel
theorem dX1_featureValue_386 : decode cX1_featureValue 386 = .ok (.ireturn, 1) := by decide +kernel
theorem dX1_countCountries_0 : decode cX1_countCountries 0 = .ok (.iconst 0, 1) := by decide +kernel
theorem dX1_countCountries_1 : decode cX1_countCountries 1 = .ok (.istore_n 2, 1) := by decide +kernel
theorem dX1_countCountries_2 : decode cX1_countCountries 2 = .ok (.iconst 0, 1) := by decide +kernel
theorem dX1_countCountries_3 : decode cX1_countCountries 3 = .ok (.istore_n 3, 1) := by decide +kernel
theorem dX1_countCountries_4 : decode cX1_countCountries 4 = .ok (.iload_n 3, 1) := by decide +kernel
theorem dX1_countCountries_5 : decode cX1_countCountries 5 = .ok (.aload_n 0, 1) := by decide +kernel
theorem dX1_countCountries_6 : decode cX1_countCountries 6 = .ok (.getfield 12, 3) := by decide +kernel
theorem dX1_countCountries_9 : decode cX1_countCountries 9 = .ok (.getfield 118, 3) := by decide +kernel
theorem dX1_countCountries_12 : decode cX1_countCountries 12 = .ok (.if_icmp .ge 35, 3) := by decide +kernel
theorem dX1_countCountries_15 : decode cX1_countCountries 15 = .ok (.iload_n 1, 1) := by decide +kernel
theorem dX1_countCountries_16 : decode cX1_countCountries 16 = .ok (.iload_n 3, 1) := by decide +kernel
theorem dX1_countCountries_17 : decode cX1_countCountries 17 = .ok (.invokestatic 119, 3) := by decide +kernel
theorem dX1_countCountries_20 : decode cX1_countCountries 20 = .ok (.ifCond .eq 21, 3) := by decide +kernel
theorem dX1_countCountries_23 : decode cX1_countCountries 23 = .ok (.iload_n 2, 1) := by decide +kernel
theorem dX1_countCountries_24 : decode cX1_countCountries 24 = .ok (.aload_n 0, 1) := by decide +kernel
theorem dX1_countCountries_25 : decode cX1_countCountries 25 = .ok (.getfield 12, 3) := by decide +kernel
theorem dX1_countCountries_28 : decode cX1_countCountries 28 = .ok (.getfield 123, 3) := by decide +kernel
theorem dX1_countCountries_31 : decode cX1_countCountries 31 = .ok (.iload_n 3, 1) := by decide +kernel
theorem dX1_countCountries_32 : decode cX1_countCountries 32 = .ok (.caload, 1) := by decide +kernel
theorem dX1_countCountries_33 : decode cX1_countCountries 33 = .ok (.bipush 97, 2) := by decide +kernel
theorem dX1_countCountries_35 : decode cX1_countCountries 35 = .ok (.isub, 1) := by decide +kernel
theorem dX1_countCountries_36 : decode cX1_countCountries 36 = .ok (.iconst 1, 1) := by decide +kernel
theorem dX1_countCountries_37 : decode cX1_countCountries 37 = .ok (.invokestatic 126, 3) := by decide +kernel
theorem dX1_countCountries_40 : decode cX1_countCountries 40 = .ok (.istore_n 2, 1) := by decide +kernel
theorem dX1_countCountries_41 : decode cX1_countCountries 41 = .ok (.iinc 3 1, 3) := by decide +kernel
theorem dX1_countCountries_44 : decode cX1_countCountries 44 = .ok (.goto (-40), 3) := by decide +kernel
theorem dX1_countCountries_47 : decode cX1_countCountries 47 = .ok (.iload_n 2, 1) := by decide +kernel
theorem dX1_countCountries_48 : decode cX1_countCountries 48 = .ok (.invokestatic 86, 3) := by decide +kernel
theorem dX1_countCountries_51 : decode cX1_countCountries 51 = .ok (.ireturn, 1) := by decide +kernel
theorem dX2_init_0 : decode cX2_init 0 = .ok (.aload_n 0, 1) := by decide +kernel
theorem dX2_init_1 : decode cX2_init 1 = .ok (.invokespecial 3, 3) := by decide +kernel
theorem dX2_init_4 : decode cX2_init 4 = .ok (.aload_n 0, 1) := by decide +kernel
theorem dX2_init_5 : decode cX2_init 5 = .ok (.sipush 200, 3) := by decide +kernel
theorem dX2_init_8 : decode cX2_init 8 = .ok (.newarray .int, 2) := by decide +kernel
theorem dX2_init_10 : decode cX2_init 10 = .ok (.putfield 9, 3) := by decide +kernel
theorem dX2_init_13 : decode cX2_init 13 = .ok (.aload_n 0, 1) := by decide +kernel
theorem dX2_init_14 : decode cX2_init 14 = .ok (.sipush 200, 3) := by decide +kernel
theorem dX2_init_17 : decode cX2_init 17 = .ok (.newarray .char, 2) := by decide +kernel
theorem dX2_init_19 : decode cX2_init 19 = .ok (.putfield 15, 3) := by decide +kernel
theorem dX2_init_22 : decode cX2_init 22 = .ok (.aload_n 0, 1) := by decide +kernel
theorem dX2_init_23 : decode cX2_init 23 = .ok (.sipush 200, 3) := by decide +kernel
theorem dX2_init_26 : decode cX2_init 26 = .ok (.newarray .int, 2) := by decide +kernel
theorem dX2_init_28 : decode cX2_init 28 = .ok (.putfield 19, 3) := by decide +kernel
theorem dX2_init_31 : decode cX2_init 31 = .ok (.aload_n 0, 1) := by decide +kernel
theorem dX2_init_32 : decode cX2_init 32 = .ok (.sipush 200, 3) := by decide +kernel
theorem dX2_init_35 : decode cX2_init 35 = .ok (.newarray .int, 2) := by decide +kernel
theorem dX2_init_37 : decode cX2_init 37 = .ok (.putfield 22, 3) := by decide +kernel
theorem dX2_init_40 : decode cX2_init 40 = .ok (.aload_n 0, 1) := by decide +kernel
theorem dX2_init_41 : decode cX2_init 41 = .ok (.sipush 6000, 3) := by decide +kernel
theorem dX2_init_44 : decode cX2_init 44 = .ok (.newarray .int, 2) := by decide +kernel
theorem dX2_init_46 : decode cX2_init 46 = .ok (.putfield 25, 3) := by decide +kernel
theorem dX2_init_49 : decode cX2_init 49 = .ok (.return_, 1) := by decide +kernel
theorem dX2_keep_0 : decode cX2_keep 0 = .ok (.iconst 0, 1) := by decide +kernel
theorem dX2_keep_1 : decode cX2_keep 1 = .ok (.istore 5, 2) := by decide +kernel
theorem dX2_keep_3 : decode cX2_keep 3 = .ok (.iconst 0, 1) := by decide +kernel
theorem dX2_keep_4 : decode cX2_keep 4 = .ok (.istore 6, 2) := by decide +kernel
theorem dX2_keep_6 : decode cX2_keep 6 = .ok (.iload 6, 2) := by decide +kernel
theorem dX2_keep_8 : decode cX2_keep 8 = .ok (.aload 4, 2) := by decide +kernel
theorem dX2_keep_10 : decode cX2_keep 10 = .ok (.getfield 28, 3) := by decide +kernel
theorem dX2_keep_13 : decode cX2_keep 13 = .ok (.if_icmp .ge 46, 3) := by decide +kernel
theorem dX2_keep_16 : decode cX2_keep 16 = .ok (.iload 5, 2) := by decide +kernel
theorem dX2_keep_18 : decode cX2_keep 18 = .ok (.iload 6, 2) := by decide +kernel
theorem dX2_keep_20 : decode cX2_keep 20 = .ok (.aload 4, 2) := by decide +kernel
theorem dX2_keep_22 : decode cX2_keep 22 = .ok (.getfield 34, 3) := by decide +kernel
theorem dX2_keep_25 : decode cX2_keep 25 = .ok (.iload 6, 2) := by decide +kernel
theorem dX2_keep_27 : decode cX2_keep 27 = .ok (.baload, 1) := by decide +kernel
theorem dX2_keep_28 : decode cX2_keep 28 = .ok (.invokestatic 38, 3) := by decide +kernel
theorem dX2_keep_31 : decode cX2_keep 31 = .ok (.istore 5, 2) := by decide +kernel
theorem dX2_keep_33 : decode cX2_keep 33 = .ok (.aload_n 0, 1) := by decide +kernel
theorem dX2_keep_34 : decode cX2_keep 34 = .ok (.getfield 25, 3) := by decide +kernel
theorem dX2_keep_37 : decode cX2_keep 37 = .ok (.iload_n 1, 1) := by decide +kernel
theorem dX2_keep_38 : decode cX2_keep 38 = .ok (.bipush 30, 2) := by decide +kernel
theorem dX2_keep_40 : decode cX2_keep 40 = .ok (.imul, 1) := by decide +kernel
theorem dX2_keep_41 : decode cX2_keep 41 = .ok (.iload 6, 2) := by decide +kernel
theorem dX2_keep_43 : decode cX2_keep 43 = .ok (.iadd, 1) := by decide +kernel
theorem dX2_keep_44 : decode cX2_keep 44 = .ok (.aload 4, 2) := by decide +kernel
theorem dX2_keep_46 : decode cX2_keep 46 = .ok (.getfield 42, 3) := by decide +kernel
theorem dX2_keep_49 : decode cX2_keep 49 = .ok (.iload 6, 2) := by decide +kernel
theorem dX2_keep_51 : decode cX2_keep 51 = .ok (.iaload, 1) := by decide +kernel
theorem dX2_keep_52 : decode cX2_keep 52 = .ok (.iastore, 1) := by decide +kernel
theorem dX2_keep_53 : decode cX2_keep 53 = .ok (.iinc 6 1, 3) := by decide +kernel
theorem dX2_keep_56 : decode cX2_keep 56 = .ok (.goto (-50), 3) := by decide +kernel
theorem dX2_keep_59 : decode cX2_keep 59 = .ok (.aload_n 0, 1) := by decide +kernel
theorem dX2_keep_60 : decode cX2_keep 60 = .ok (.getfield 22, 3) := by decide +kernel
theorem dX2_keep_63 : decode cX2_keep 63 = .ok (.iload_n 1, 1) := by decide +kernel
theorem dX2_keep_64 : decode cX2_keep 64 = .ok (.iload 5, 2) := by decide +kernel
theorem dX2_keep_66 : decode cX2_keep 66 = .ok (.iastore, 1) := by decide +kernel
theorem dX2_keep_67 : decode cX2_keep 67 = .ok (.aload_n 0, 1) := by decide +kernel
theorem dX2_keep_68 : decode cX2_keep 68 = .ok (.getfield 19, 3) := by decide +kernel
theorem dX2_keep_71 : decode cX2_keep 71 = .ok (.iload_n 1, 1) := by decide +kernel
theorem dX2_keep_72 : decode cX2_keep 72 = .ok (.iload_n 2, 1) := by decide +kernel
theorem dX2_keep_73 : decode cX2_keep 73 = .ok (.iastore, 1) := by decide +kernel
theorem dX2_keep_74 : decode cX2_keep 74 = .ok (.aload_n 0, 1) := by decide +kernel
theorem dX2_keep_75 : decode cX2_keep 75 = .ok (.getfield 9, 3) := by decide +kernel
theorem dX2_keep_78 : decode cX2_keep 78 = .ok (.iload_n 1, 1) := by decide +kernel
theorem dX2_keep_79 : decode cX2_keep 79 = .ok (.iload_n 3, 1) := by decide +kernel
theorem dX2_keep_80 : decode cX2_keep 80 = .ok (.iastore, 1) := by decide +kernel
theorem dX2_keep_81 : decode cX2_keep 81 = .ok (.aload_n 0, 1) := by decide +kernel
theorem dX2_keep_82 : decode cX2_keep 82 = .ok (.getfield 15, 3) := by decide +kernel
theorem dX2_keep_85 : decode cX2_keep 85 = .ok (.iload_n 1, 1) := by decide +kernel
theorem dX2_keep_86 : decode cX2_keep 86 = .ok (.bipush 45, 2) := by decide +kernel
theorem dX2_keep_88 : decode cX2_keep 88 = .ok (.castore, 1) := by decide +kernel
theorem dX2_keep_89 : decode cX2_keep 89 = .ok (.return_, 1) := by decide +kernel
theorem dX2_foundValue_0 : decode cX2_foundValue 0 = .ok (.aload_n 0, 1) := by decide +kernel
theorem dX2_foundValue_1 : decode cX2_foundValue 1 = .ok (.getfield 25, 3) := by decide +kernel
theorem dX2_foundValue_4 : decode cX2_foundValue 4 = .ok (.iload_n 1, 1) := by decide +kernel
theorem dX2_foundValue_5 : decode cX2_foundValue 5 = .ok (.bipush 30, 2) := by decide +kernel
theorem dX2_foundValue_7 : decode cX2_foundValue 7 = .ok (.imul, 1) := by decide +kernel
theorem dX2_foundValue_8 : decode cX2_foundValue 8 = .ok (.iload_n 2, 1) := by decide +kernel
theorem dX2_foundValue_9 : decode cX2_foundValue 9 = .ok (.iadd, 1) := by decide +kernel
theorem dX2_foundValue_10 : decode cX2_foundValue 10 = .ok (.iaload, 1) := by decide +kernel
theorem dX2_foundValue_11 : decode cX2_foundValue 11 = .ok (.ireturn, 1) := by decide +kernel
theorem dX2_raise_0 : decode cX2_raise 0 = .ok (.aload_n 0, 1) := by decide +kernel
theorem dX2_raise_1 : decode cX2_raise 1 = .ok (.getfield 15, 3) := by decide +kernel
theorem dX2_raise_4 : decode cX2_raise 4 = .ok (.iload_n 1, 1) := by decide +kernel
theorem dX2_raise_5 : decode cX2_raise 5 = .ok (.bipush 111, 2) := by decide +kernel
theorem dX2_raise_7 : decode cX2_raise 7 = .ok (.castore, 1) := by decide +kernel
theorem dX2_raise_8 : decode cX2_raise 8 = .ok (.aload_n 0, 1) := by decide +kernel
theorem dX2_raise_9 : decode cX2_raise 9 = .ok (.dup, 1) := by decide +kernel
theorem dX2_raise_10 : decode cX2_raise 10 = .ok (.getfield 45, 3) := by decide +kernel
theorem dX2_raise_13 : decode cX2_raise 13 = .ok (.iconst 1, 1) := by decide +kernel
theorem dX2_raise_14 : decode cX2_raise 14 = .ok (.iadd, 1) := by decide +kernel
theorem dX2_raise_15 : decode cX2_raise 15 = .ok (.putfield 45, 3) := by decide +kernel
theorem dX2_raise_18 : decode cX2_raise 18 = .ok (.return_, 1) := by decide +kernel
theorem dX2_close_0 : decode cX2_close 0 = .ok (.aload_n 0, 1) := by decide +kernel
theorem dX2_close_1 : decode cX2_close 1 = .ok (.getfield 15, 3) := by decide +kernel
theorem dX2_close_4 : decode cX2_close 4 = .ok (.iload_n 1, 1) := by decide +kernel
theorem dX2_close_5 : decode cX2_close 5 = .ok (.iload_n 2, 1) := by decide +kernel
theorem dX2_close_6 : decode cX2_close 6 = .ok (.castore, 1) := by decide +kernel
theorem dX2_close_7 : decode cX2_close 7 = .ok (.aload_n 0, 1) := by decide +kernel
theorem dX2_close_8 : decode cX2_close 8 = .ok (.dup, 1) := by decide +kernel
theorem dX2_close_9 : decode cX2_close 9 = .ok (.getfield 45, 3) := by decide +kernel
theorem dX2_close_12 : decode cX2_close 12 = .ok (.iconst 1, 1) := by decide +kernel
theorem dX2_close_13 : decode cX2_close 13 = .ok (.isub, 1) := by decide +kernel
theorem dX2_close_14 : decode cX2_close 14 = .ok (.putfield 45, 3) := by decide +kernel
theorem dX2_close_17 : decode cX2_close 17 = .ok (.return_, 1) := by decide +kernel
theorem dX2_firstOpen_0 : decode cX2_firstOpen 0 = .ok (.iconst (-1), 1) := by decide +kernel
theorem dX2_firstOpen_1 : decode cX2_firstOpen 1 = .ok (.istore_n 2, 1) := by decide +kernel
theorem dX2_firstOpen_2 : decode cX2_firstOpen 2 = .ok (.iconst 0, 1) := by decide +kernel
theorem dX2_firstOpen_3 : decode cX2_firstOpen 3 = .ok (.istore_n 3, 1) := by decide +kernel
theorem dX2_firstOpen_4 : decode cX2_firstOpen 4 = .ok (.iload_n 3, 1) := by decide +kernel
theorem dX2_firstOpen_5 : decode cX2_firstOpen 5 = .ok (.iload_n 1, 1) := by decide +kernel
theorem dX2_firstOpen_6 : decode cX2_firstOpen 6 = .ok (.if_icmp .ge 36, 3) := by decide +kernel
theorem dX2_firstOpen_9 : decode cX2_firstOpen 9 = .ok (.aload_n 0, 1) := by decide +kernel
theorem dX2_firstOpen_10 : decode cX2_firstOpen 10 = .ok (.getfield 15, 3) := by decide +kernel
theorem dX2_firstOpen_13 : decode cX2_firstOpen 13 = .ok (.iload_n 3, 1) := by decide +kernel
theorem dX2_firstOpen_14 : decode cX2_firstOpen 14 = .ok (.caload, 1) := by decide +kernel
theorem dX2_firstOpen_15 : decode cX2_firstOpen 15 = .ok (.bipush 111, 2) := by decide +kernel
theorem dX2_firstOpen_17 : decode cX2_firstOpen 17 = .ok (.if_icmp .ne 19, 3) := by decide +kernel
theorem dX2_firstOpen_20 : decode cX2_firstOpen 20 = .ok (.iload_n 2, 1) := by decide +kernel
theorem dX2_firstOpen_21 : decode cX2_firstOpen 21 = .ok (.iconst (-1), 1) := by decide +kernel
theorem dX2_firstOpen_22 : decode cX2_firstOpen 22 = .ok (.if_icmp .eq 12, 3) := by decide +kernel
theorem dX2_firstOpen_25 : decode cX2_firstOpen 25 = .ok (.aload_n 0, 1) := by decide +kernel
theorem dX2_firstOpen_26 : decode cX2_firstOpen 26 = .ok (.iload_n 3, 1) := by decide +kernel
theorem dX2_firstOpen_27 : decode cX2_firstOpen 27 = .ok (.iload_n 2, 1) := by decide +kernel
theorem dX2_firstOpen_28 : decode cX2_firstOpen 28 = .ok (.invokevirtual 48, 3) := by decide +kernel
theorem dX2_firstOpen_31 : decode cX2_firstOpen 31 = .ok (.ifCond .eq 5, 3) := by decide +kernel
theorem dX2_firstOpen_34 : decode cX2_firstOpen 34 = .ok (.iload_n 3, 1) := by decide +kernel
theorem dX2_firstOpen_35 : decode cX2_firstOpen 35 = .ok (.istore_n 2, 1) := by decide +kernel
theorem dX2_firstOpen_36 : decode cX2_firstOpen 36 = .ok (.iinc 3 1, 3) := by decide +kernel
theorem dX2_firstOpen_39 : decode cX2_firstOpen 39 = .ok (.goto (-35), 3) := by decide +kernel
theorem dX2_firstOpen_42 : decode cX2_firstOpen 42 = .ok (.iload_n 2, 1) := by decide +kernel
theorem dX2_firstOpen_43 : decode cX2_firstOpen 43 = .ok (.ireturn, 1) := by decide +kernel
theorem dX2_openAtRank_0 : decode cX2_openAtRank 0 = .ok (.iconst 0, 1) := by decide +kernel
theorem dX2_openAtRank_1 : decode cX2_openAtRank 1 = .ok (.istore_n 3, 1) := by decide +kernel
theorem dX2_openAtRank_2 : decode cX2_openAtRank 2 = .ok (.iload_n 3, 1) := by decide +kernel
theorem dX2_openAtRank_3 : decode cX2_openAtRank 3 = .ok (.iload_n 2, 1) := by decide +kernel
theorem dX2_openAtRank_4 : decode cX2_openAtRank 4 = .ok (.if_icmp .ge 32, 3) := by decide +kernel
theorem dX2_openAtRank_7 : decode cX2_openAtRank 7 = .ok (.aload_n 0, 1) := by decide +kernel
theorem dX2_openAtRank_8 : decode cX2_openAtRank 8 = .ok (.getfield 15, 3) := by decide +kernel
theorem dX2_openAtRank_11 : decode cX2_openAtRank 11 = .ok (.iload_n 3, 1) := by decide +kernel
theorem dX2_openAtRank_12 : decode cX2_openAtRank 12 = .ok (.caload, 1) := by decide +kernel
theorem dX2_openAtRank_13 : decode cX2_openAtRank 13 = .ok (.bipush 111, 2) := by decide +kernel
theorem dX2_openAtRank_15 : decode cX2_openAtRank 15 = .ok (.if_icmp .ne 15, 3) := by decide +kernel
theorem dX2_openAtRank_18 : decode cX2_openAtRank 18 = .ok (.aload_n 0, 1) := by decide +kernel
theorem dX2_openAtRank_19 : decode cX2_openAtRank 19 = .ok (.iload_n 3, 1) := by decide +kernel
theorem dX2_openAtRank_20 : decode cX2_openAtRank 20 = .ok (.iload_n 2, 1) := by decide +kernel
theorem dX2_openAtRank_21 : decode cX2_openAtRank 21 = .ok (.invokevirtual 52, 3) := by decide +kernel
theorem dX2_openAtRank_24 : decode cX2_openAtRank 24 = .ok (.iload_n 1, 1) := by decide +kernel
theorem dX2_openAtRank_25 : decode cX2_openAtRank 25 = .ok (.if_icmp .ne 5, 3) := by decide +kernel
theorem dX2_openAtRank_28 : decode cX2_openAtRank 28 = .ok (.iload_n 3, 1) := by decide +kernel
theorem dX2_openAtRank_29 : decode cX2_openAtRank 29 = .ok (.ireturn, 1) := by decide +kernel
theorem dX2_openAtRank_30 : decode cX2_openAtRank 30 = .ok (.iinc 3 1, 3) := by decide +kernel
theorem dX2_openAtRank_33 : decode cX2_openAtRank 33 = .ok (.goto (-31), 3) := by decide +kernel
theorem dX2_openAtRank_36 : decode cX2_openAtRank 36 = .ok (.iconst (-1), 1) := by decide +kernel
theorem dX2_openAtRank_37 : decode cX2_openAtRank 37 = .ok (.ireturn, 1) := by decide +kernel
theorem dX2_countAhead_0 : decode cX2_countAhead 0 = .ok (.iconst 0, 1) := by decide +kernel
theorem dX2_countAhead_1 : decode cX2_countAhead 1 = .ok (.istore_n 3, 1) := by decide +kernel
theorem dX2_countAhead_2 : decode cX2_countAhead 2 = .ok (.iconst 0, 1) := by decide +kernel
theorem dX2_countAhead_3 : decode cX2_countAhead 3 = .ok (.istore 4, 2) := by decide +kernel
theorem dX2_countAhead_5 : decode cX2_countAhead 5 = .ok (.iload 4, 2) := by decide +kernel
theorem dX2_countAhead_7 : decode cX2_countAhead 7 = .ok (.iload_n 2, 1) := by decide +kernel
theorem dX2_countAhead_8 : decode cX2_countAhead 8 = .ok (.if_icmp .ge 34, 3) := by decide +kernel
theorem dX2_countAhead_11 : decode cX2_countAhead 11 = .ok (.aload_n 0, 1) := by decide +kernel
theorem dX2_countAhead_12 : decode cX2_countAhead 12 = .ok (.getfield 15, 3) := by decide +kernel
theorem dX2_countAhead_15 : decode cX2_countAhead 15 = .ok (.iload 4, 2) := by decide +kernel
theorem dX2_countAhead_17 : decode cX2_countAhead 17 = .ok (.caload, 1) := by decide +kernel
theorem dX2_countAhead_18 : decode cX2_countAhead 18 = .ok (.bipush 111, 2) := by decide +kernel
theorem dX2_countAhead_20 : decode cX2_countAhead 20 = .ok (.if_icmp .ne 16, 3) := by decide +kernel
theorem dX2_countAhead_23 : decode cX2_countAhead 23 = .ok (.aload_n 0, 1) := by decide +kernel
theorem dX2_countAhead_24 : decode cX2_countAhead 24 = .ok (.iload 4, 2) := by decide +kernel
theorem dX2_countAhead_26 : decode cX2_countAhead 26 = .ok (.iload_n 1, 1) := by decide +kernel
theorem dX2_countAhead_27 : decode cX2_countAhead 27 = .ok (.invokevirtual 48, 3) := by decide +kernel
theorem dX2_countAhead_30 : decode cX2_countAhead 30 = .ok (.ifCond .eq 6, 3) := by decide +kernel
theorem dX2_countAhead_33 : decode cX2_countAhead 33 = .ok (.iinc 3 1, 3) := by decide +kernel
theorem dX2_countAhead_36 : decode cX2_countAhead 36 = .ok (.iinc 4 1, 3) := by decide +kernel
theorem dX2_countAhead_39 : decode cX2_countAhead 39 = .ok (.goto (-34), 3) := by decide +kernel
theorem dX2_countAhead_42 : decode cX2_countAhead 42 = .ok (.iload_n 3, 1) := by decide +kernel
theorem dX2_countAhead_43 : decode cX2_countAhead 43 = .ok (.ireturn, 1) := by decide +kernel
theorem dX2_isAhead_0 : decode cX2_isAhead 0 = .ok (.aload_n 0, 1) := by decide +kernel
theorem dX2_isAhead_1 : decode cX2_isAhead 1 = .ok (.getfield 9, 3) := by decide +kernel
theorem dX2_isAhead_4 : decode cX2_isAhead 4 = .ok (.iload_n 1, 1) := by decide +kernel
theorem dX2_isAhead_5 : decode cX2_isAhead 5 = .ok (.iaload, 1) := by decide +kernel
theorem dX2_isAhead_6 : decode cX2_isAhead 6 = .ok (.aload_n 0, 1) := by decide +kernel
theorem dX2_isAhead_7 : decode cX2_isAhead 7 = .ok (.getfield 9, 3) := by decide +kernel
theorem dX2_isAhead_10 : decode cX2_isAhead 10 = .ok (.iload_n 2, 1) := by decide +kernel
theorem dX2_isAhead_11 : decode cX2_isAhead 11 = .ok (.iaload, 1) := by decide +kernel
theorem dX2_isAhead_12 : decode cX2_isAhead 12 = .ok (.if_icmp .gt 23, 3) := by decide +kernel
theorem dX2_isAhead_15 : decode cX2_isAhead 15 = .ok (.aload_n 0, 1) := by decide +kernel
theorem dX2_isAhead_16 : decode cX2_isAhead 16 = .ok (.getfield 9, 3) := by decide +kernel
theorem dX2_isAhead_19 : decode cX2_isAhead 19 = .ok (.iload_n 1, 1) := by decide +kernel
theorem dX2_isAhead_20 : decode cX2_isAhead 20 = .ok (.iaload, 1) := by decide +kernel
theorem dX2_isAhead_21 : decode cX2_isAhead 21 = .ok (.aload_n 0, 1) := by decide +kernel
theorem dX2_isAhead_22 : decode cX2_isAhead 22 = .ok (.getfield 9, 3) := by decide +kernel
theorem dX2_isAhead_25 : decode cX2_isAhead 25 = .ok (.iload_n 2, 1) := by decide +kernel
theorem dX2_isAhead_26 : decode cX2_isAhead 26 = .ok (.iaload, 1) := by decide +kernel
theorem dX2_isAhead_27 : decode cX2_isAhead 27 = .ok (.if_icmp .ne 12, 3) := by decide +kernel
theorem dX2_isAhead_30 : decode cX2_isAhead 30 = .ok (.iload_n 1, 1) := by decide +kernel
theorem dX2_isAhead_31 : decode cX2_isAhead 31 = .ok (.iload_n 2, 1) := by decide +kernel
theorem dX2_isAhead_32 : decode cX2_isAhead 32 = .ok (.if_icmp .ge 7, 3) := by decide +kernel
theorem dX2_isAhead_35 : decode cX2_isAhead 35 = .ok (.iconst 1, 1) := by decide +kernel
theorem dX2_isAhead_36 : decode cX2_isAhead 36 = .ok (.goto 4, 3) := by decide +kernel
theorem dX2_isAhead_39 : decode cX2_isAhead 39 = .ok (.iconst 0, 1) := by decide +kernel
theorem dX2_isAhead_40 : decode cX2_isAhead 40 = .ok (.ireturn, 1) := by decide +kernel
theorem dX2_countWithReason_0 : decode cX2_countWithReason 0 = .ok (.iconst 0, 1) := by decide +kernel
theorem dX2_countWithReason_1 : decode cX2_countWithReason 1 = .ok (.istore 4, 2) := by decide +kernel
theorem dX2_countWithReason_3 : decode cX2_countWithReason 3 = .ok (.iconst 0, 1) := by decide +kernel
theorem dX2_countWithReason_4 : decode cX2_countWithReason 4 = .ok (.istore 5, 2) := by decide +kernel
theorem dX2_countWithReason_6 : decode cX2_countWithReason 6 = .ok (.iload 5, 2) := by decide +kernel
theorem dX2_countWithReason_8 : decode cX2_countWithReason 8 = .ok (.iload_n 3, 1) := by decide +kernel
theorem dX2_countWithReason_9 : decode cX2_countWithReason 9 = .ok (.if_icmp .ge 37, 3) := by decide +kernel
theorem dX2_countWithReason_12 : decode cX2_countWithReason 12 = .ok (.aload_n 0, 1) := by decide +kernel
theorem dX2_countWithReason_13 : decode cX2_countWithReason 13 = .ok (.getfield 15, 3) := by decide +kernel
theorem dX2_countWithReason_16 : decode cX2_countWithReason 16 = .ok (.iload 5, 2) := by decide +kernel
theorem dX2_countWithReason_18 : decode cX2_countWithReason 18 = .ok (.caload, 1) := by decide +kernel
theorem dX2_countWithReason_19 : decode cX2_countWithReason 19 = .ok (.iload_n 1, 1) := by decide +kernel
theorem dX2_countWithReason_20 : decode cX2_countWithReason 20 = .ok (.if_icmp .ne 20, 3) := by decide +kernel
theorem dX2_countWithReason_23 : decode cX2_countWithReason 23 = .ok (.aload_n 0, 1) := by decide +kernel
theorem dX2_countWithReason_24 : decode cX2_countWithReason 24 = .ok (.getfield 19, 3) := by decide +kernel
theorem dX2_countWithReason_27 : decode cX2_countWithReason 27 = .ok (.iload 5, 2) := by decide +kernel
theorem dX2_countWithReason_29 : decode cX2_countWithReason 29 = .ok (.iaload, 1) := by decide +kernel
theorem dX2_countWithReason_30 : decode cX2_countWithReason 30 = .ok (.iload_n 2, 1) := by decide +kernel
theorem dX2_countWithReason_31 : decode cX2_countWithReason 31 = .ok (.invokestatic 56, 3) := by decide +kernel
theorem dX2_countWithReason_34 : decode cX2_countWithReason 34 = .ok (.ifCond .eq 6, 3) := by decide +kernel
theorem dX2_countWithReason_37 : decode cX2_countWithReason 37 = .ok (.iinc 4 1, 3) := by decide +kernel
theorem dX2_countWithReason_40 : decode cX2_countWithReason 40 = .ok (.iinc 5 1, 3) := by decide +kernel
theorem dX2_countWithReason_43 : decode cX2_countWithReason 43 = .ok (.goto (-37), 3) := by decide +kernel
theorem dX2_countWithReason_46 : decode cX2_countWithReason 46 = .ok (.iload 4, 2) := by decide +kernel
theorem dX2_countWithReason_48 : decode cX2_countWithReason 48 = .ok (.ireturn, 1) := by decide +kernel
theorem dX3_init_0 : decode cX3_init 0 = .ok (.aload_n 0, 1) := by decide +kernel
theorem dX3_init_1 : decode cX3_init 1 = .ok (.invokespecial 3, 3) := by decide +kernel
theorem dX3_init_4 : decode cX3_init 4 = .ok (.aload_n 0, 1) := by decide +kernel
theorem dX3_init_5 : decode cX3_init 5 = .ok (.bipush 30, 2) := by decide +kernel
theorem dX3_init_7 : decode cX3_init 7 = .ok (.newarray .int, 2) := by decide +kernel
theorem dX3_init_9 : decode cX3_init 9 = .ok (.putfield 9, 3) := by decide +kernel
theorem dX3_init_12 : decode cX3_init 12 = .ok (.aload_n 0, 1) := by decide +kernel
theorem dX3_init_13 : decode cX3_init 13 = .ok (.bipush 30, 2) := by decide +kernel
theorem dX3_init_15 : decode cX3_init 15 = .ok (.newarray .int, 2) := by decide +kernel
theorem dX3_init_17 : decode cX3_init 17 = .ok (.putfield 15, 3) := by decide +kernel
theorem dX3_init_20 : decode cX3_init 20 = .ok (.aload_n 0, 1) := by decide +kernel
theorem dX3_init_21 : decode cX3_init 21 = .ok (.bipush 30, 2) := by decide +kernel
theorem dX3_init_23 : decode cX3_init 23 = .ok (.newarray .char, 2) := by decide +kernel
theorem dX3_init_25 : decode cX3_init 25 = .ok (.putfield 18, 3) := by decide +kernel
theorem dX3_init_28 : decode cX3_init 28 = .ok (.aload_n 0, 1) := by decide +kernel
theorem dX3_init_29 : decode cX3_init 29 = .ok (.bipush 30, 2) := by decide +kernel
theorem dX3_init_31 : decode cX3_init 31 = .ok (.newarray .int, 2) := by decide +kernel
theorem dX3_init_33 : decode cX3_init 33 = .ok (.putfield 22, 3) := by decide +kernel
theorem dX3_init_36 : decode cX3_init 36 = .ok (.aload_n 0, 1) := by decide +kernel
theorem dX3_init_37 : decode cX3_init 37 = .ok (.bipush 30, 2) := by decide +kernel
theorem dX3_init_39 : decode cX3_init 39 = .ok (.newarray .boolean, 2) := by decide +kernel
theorem dX3_init_41 : decode cX3_init 41 = .ok (.putfield 25, 3) := by decide +kernel
theorem dX3_init_44 : decode cX3_init 44 = .ok (.aload_n 0, 1) := by decide +kernel
theorem dX3_init_45 : decode cX3_init 45 = .ok (.bipush 30, 2) := by decide +kernel
theorem dX3_init_47 : decode cX3_init 47 = .ok (.newarray .int, 2) := by decide +kernel
theorem dX3_init_49 : decode cX3_init 49 = .ok (.putfield 29, 3) := by decide +kernel
theorem dX3_init_52 : decode cX3_init 52 = .ok (.aload_n 0, 1) := by decide +kernel
theorem dX3_init_53 : decode cX3_init 53 = .ok (.bipush 30, 2) := by decide +kernel
theorem dX3_init_55 : decode cX3_init 55 = .ok (.newarray .int, 2) := by decide +kernel
theorem dX3_init_57 : decode cX3_init 57 = .ok (.putfield 32, 3) := by decide +kernel
theorem dX3_init_60 : decode cX3_init 60 = .ok (.aload_n 0, 1) := by decide +kernel
theorem dX3_init_61 : decode cX3_init 61 = .ok (.bipush 30, 2) := by decide +kernel
theorem dX3_init_63 : decode cX3_init 63 = .ok (.newarray .int, 2) := by decide +kernel
theorem dX3_init_65 : decode cX3_init 65 = .ok (.putfield 35, 3) := by decide +kernel
theorem dX3_init_68 : decode cX3_init 68 = .ok (.aload_n 0, 1) := by decide +kernel
theorem dX3_init_69 : decode cX3_init 69 = .ok (.bipush 30, 2) := by decide +kernel
theorem dX3_init_71 : decode cX3_init 71 = .ok (.newarray .int, 2) := by decide +kernel
theorem dX3_init_73 : decode cX3_init 73 = .ok (.putfield 38, 3) := by decide +kernel
theorem dX3_init_76 : decode cX3_init 76 = .ok (.aload_n 0, 1) := by decide +kernel
theorem dX3_init_77 : decode cX3_init 77 = .ok (.sipush 240, 3) := by decide +kernel
theorem dX3_init_80 : decode cX3_init 80 = .ok (.newarray .int, 2) := by decide +kernel
theorem dX3_init_82 : decode cX3_init 82 = .ok (.putfield 41, 3) := by decide +kernel
theorem dX3_init_85 : decode cX3_init 85 = .ok (.aload_n 0, 1) := by decide +kernel
theorem dX3_init_86 : decode cX3_init 86 = .ok (.bipush 30, 2) := by decide +kernel
theorem dX3_init_88 : decode cX3_init 88 = .ok (.newarray .boolean, 2) := by decide +kernel
theorem dX3_init_90 : decode cX3_init 90 = .ok (.putfield 44, 3) := by decide +kernel
theorem dX3_init_93 : decode cX3_init 93 = .ok (.aload_n 0, 1) := by decide +kernel
theorem dX3_init_94 : decode cX3_init 94 = .ok (.bipush 30, 2) := by decide +kernel
theorem dX3_init_96 : decode cX3_init 96 = .ok (.newarray .int, 2) := by decide +kernel
theorem dX3_init_98 : decode cX3_init 98 = .ok (.putfield 47, 3) := by decide +kernel
theorem dX3_init_101 : decode cX3_init 101 = .ok (.return_, 1) := by decide +kernel
theorem dX3_appendTest_0 : decode cX3_appendTest 0 = .ok (.aload_n 0, 1) := by decide +kernel
theorem dX3_appendTest_1 : decode cX3_appendTest 1 = .ok (.getfield 18, 3) := by decide +kernel
theorem dX3_appendTest_4 : decode cX3_appendTest 4 = .ok (.aload_n 0, 1) := by decide +kernel
theorem dX3_appendTest_5 : decode cX3_appendTest 5 = .ok (.getfield 50, 3) := by decide +kernel
theorem dX3_appendTest_8 : decode cX3_appendTest 8 = .ok (.iload_n 1, 1) := by decide +kernel
theorem dX3_appendTest_9 : decode cX3_appendTest 9 = .ok (.castore, 1) := by decide +kernel
theorem dX3_appendTest_10 : decode cX3_appendTest 10 = .ok (.aload_n 0, 1) := by decide +kernel
theorem dX3_appendTest_11 : decode cX3_appendTest 11 = .ok (.getfield 22, 3) := by decide +kernel
theorem dX3_appendTest_14 : decode cX3_appendTest 14 = .ok (.aload_n 0, 1) := by decide +kernel
theorem dX3_appendTest_15 : decode cX3_appendTest 15 = .ok (.getfield 50, 3) := by decide +kernel
theorem dX3_appendTest_18 : decode cX3_appendTest 18 = .ok (.iload_n 2, 1) := by decide +kernel
theorem dX3_appendTest_19 : decode cX3_appendTest 19 = .ok (.iastore, 1) := by decide +kernel
theorem dX3_appendTest_20 : decode cX3_appendTest 20 = .ok (.aload_n 0, 1) := by decide +kernel
theorem dX3_appendTest_21 : decode cX3_appendTest 21 = .ok (.getfield 25, 3) := by decide +kernel
theorem dX3_appendTest_24 : decode cX3_appendTest 24 = .ok (.aload_n 0, 1) := by decide +kernel
theorem dX3_appendTest_25 : decode cX3_appendTest 25 = .ok (.getfield 50, 3) := by decide +kernel
theorem dX3_appendTest_28 : decode cX3_appendTest 28 = .ok (.iload_n 3, 1) := by decide +kernel
theorem dX3_appendTest_29 : decode cX3_appendTest 29 = .ok (.bastore, 1) := by decide +kernel
theorem dX3_appendTest_30 : decode cX3_appendTest 30 = .ok (.aload_n 0, 1) := by decide +kernel
theorem dX3_appendTest_31 : decode cX3_appendTest 31 = .ok (.getfield 29, 3) := by decide +kernel
theorem dX3_appendTest_34 : decode cX3_appendTest 34 = .ok (.aload_n 0, 1) := by decide +kernel
theorem dX3_appendTest_35 : decode cX3_appendTest 35 = .ok (.getfield 50, 3) := by decide +kernel
theorem dX3_appendTest_38 : decode cX3_appendTest 38 = .ok (.iload 4, 2) := by decide +kernel
theorem dX3_appendTest_40 : decode cX3_appendTest 40 = .ok (.iastore, 1) := by decide +kernel
theorem dX3_appendTest_41 : decode cX3_appendTest 41 = .ok (.aload_n 0, 1) := by decide +kernel
theorem dX3_appendTest_42 : decode cX3_appendTest 42 = .ok (.aload_n 0, 1) := by decide +kernel
theorem dX3_appendTest_43 : decode cX3_appendTest 43 = .ok (.getfield 50, 3) := by decide +kernel
theorem dX3_appendTest_46 : decode cX3_appendTest 46 = .ok (.invokevirtual 54, 3) := by decide +kernel
theorem dX3_appendTest_49 : decode cX3_appendTest 49 = .ok (.aload_n 0, 1) := by decide +kernel
theorem dX3_appendTest_50 : decode cX3_appendTest 50 = .ok (.iconst 0, 1) := by decide +kernel
theorem dX3_appendTest_51 : decode cX3_appendTest 51 = .ok (.iconst 1, 1) := by decide +kernel
theorem dX3_appendTest_52 : decode cX3_appendTest 52 = .ok (.invokevirtual 58, 3) := by decide +kernel
theorem dX3_appendTest_55 : decode cX3_appendTest 55 = .ok (.ireturn, 1) := by decide +kernel
theorem dX3_appendJoin_0 : decode cX3_appendJoin 0 = .ok (.aload_n 0, 1) := by decide +kernel
theorem dX3_appendJoin_1 : decode cX3_appendJoin 1 = .ok (.getfield 32, 3) := by decide +kernel
theorem dX3_appendJoin_4 : decode cX3_appendJoin 4 = .ok (.aload_n 0, 1) := by decide +kernel
theorem dX3_appendJoin_5 : decode cX3_appendJoin 5 = .ok (.getfield 50, 3) := by decide +kernel
theorem dX3_appendJoin_8 : decode cX3_appendJoin 8 = .ok (.iload_n 2, 1) := by decide +kernel
theorem dX3_appendJoin_9 : decode cX3_appendJoin 9 = .ok (.iastore, 1) := by decide +kernel
theorem dX3_appendJoin_10 : decode cX3_appendJoin 10 = .ok (.aload_n 0, 1) := by decide +kernel
theorem dX3_appendJoin_11 : decode cX3_appendJoin 11 = .ok (.getfield 35, 3) := by decide +kernel
theorem dX3_appendJoin_14 : decode cX3_appendJoin 14 = .ok (.aload_n 0, 1) := by decide +kernel
theorem dX3_appendJoin_15 : decode cX3_appendJoin 15 = .ok (.getfield 50, 3) := by decide +kernel
theorem dX3_appendJoin_18 : decode cX3_appendJoin 18 = .ok (.iload_n 3, 1) := by decide +kernel
theorem dX3_appendJoin_19 : decode cX3_appendJoin 19 = .ok (.iastore, 1) := by decide +kernel
theorem dX3_appendJoin_20 : decode cX3_appendJoin 20 = .ok (.aload_n 0, 1) := by decide +kernel
theorem dX3_appendJoin_21 : decode cX3_appendJoin 21 = .ok (.iload_n 2, 1) := by decide +kernel
theorem dX3_appendJoin_22 : decode cX3_appendJoin 22 = .ok (.invokevirtual 62, 3) := by decide +kernel
theorem dX3_appendJoin_25 : decode cX3_appendJoin 25 = .ok (.aload_n 0, 1) := by decide +kernel
theorem dX3_appendJoin_26 : decode cX3_appendJoin 26 = .ok (.iload_n 3, 1) := by decide +kernel
theorem dX3_appendJoin_27 : decode cX3_appendJoin 27 = .ok (.invokevirtual 62, 3) := by decide +kernel
theorem dX3_appendJoin_30 : decode cX3_appendJoin 30 = .ok (.aload_n 0, 1) := by decide +kernel
theorem dX3_appendJoin_31 : decode cX3_appendJoin 31 = .ok (.iload_n 1, 1) := by decide +kernel
theorem dX3_appendJoin_32 : decode cX3_appendJoin 32 = .ok (.iconst 1, 1) := by decide +kernel
theorem dX3_appendJoin_33 : decode cX3_appendJoin 33 = .ok (.aload_n 0, 1) := by decide +kernel
theorem dX3_appendJoin_34 : decode cX3_appendJoin 34 = .ok (.getfield 15, 3) := by decide +kernel
theorem dX3_appendJoin_37 : decode cX3_appendJoin 37 = .ok (.iload_n 2, 1) := by decide +kernel
theorem dX3_appendJoin_38 : decode cX3_appendJoin 38 = .ok (.iaload, 1) := by decide +kernel
theorem dX3_appendJoin_39 : decode cX3_appendJoin 39 = .ok (.iadd, 1) := by decide +kernel
theorem dX3_appendJoin_40 : decode cX3_appendJoin 40 = .ok (.aload_n 0, 1) := by decide +kernel
theorem dX3_appendJoin_41 : decode cX3_appendJoin 41 = .ok (.getfield 15, 3) := by decide +kernel
theorem dX3_appendJoin_44 : decode cX3_appendJoin 44 = .ok (.iload_n 3, 1) := by decide +kernel
theorem dX3_appendJoin_45 : decode cX3_appendJoin 45 = .ok (.iaload, 1) := by decide +kernel
theorem dX3_appendJoin_46 : decode cX3_appendJoin 46 = .ok (.iadd, 1) := by decide +kernel
theorem dX3_appendJoin_47 : decode cX3_appendJoin 47 = .ok (.invokevirtual 58, 3) := by decide +kernel
theorem dX3_appendJoin_50 : decode cX3_appendJoin 50 = .ok (.ireturn, 1) := by decide +kernel
theorem dX3_appendNot_0 : decode cX3_appendNot 0 = .ok (.aload_n 0, 1) := by decide +kernel
theorem dX3_appendNot_1 : decode cX3_appendNot 1 = .ok (.getfield 32, 3) := by decide +kernel
theorem dX3_appendNot_4 : decode cX3_appendNot 4 = .ok (.aload_n 0, 1) := by decide +kernel
theorem dX3_appendNot_5 : decode cX3_appendNot 5 = .ok (.getfield 50, 3) := by decide +kernel
theorem dX3_appendNot_8 : decode cX3_appendNot 8 = .ok (.iload_n 1, 1) := by decide +kernel
theorem dX3_appendNot_9 : decode cX3_appendNot 9 = .ok (.iastore, 1) := by decide +kernel
theorem dX3_appendNot_10 : decode cX3_appendNot 10 = .ok (.aload_n 0, 1) := by decide +kernel
theorem dX3_appendNot_11 : decode cX3_appendNot 11 = .ok (.iconst 3, 1) := by decide +kernel
theorem dX3_appendNot_12 : decode cX3_appendNot 12 = .ok (.iconst 1, 1) := by decide +kernel
theorem dX3_appendNot_13 : decode cX3_appendNot 13 = .ok (.aload_n 0, 1) := by decide +kernel
theorem dX3_appendNot_14 : decode cX3_appendNot 14 = .ok (.getfield 15, 3) := by decide +kernel
theorem dX3_appendNot_17 : decode cX3_appendNot 17 = .ok (.iload_n 1, 1) := by decide +kernel
theorem dX3_appendNot_18 : decode cX3_appendNot 18 = .ok (.iaload, 1) := by decide +kernel
theorem dX3_appendNot_19 : decode cX3_appendNot 19 = .ok (.iadd, 1) := by decide +kernel
theorem dX3_appendNot_20 : decode cX3_appendNot 20 = .ok (.invokevirtual 58, 3) := by decide +kernel
theorem dX3_appendNot_23 : decode cX3_appendNot 23 = .ok (.ireturn, 1) := by decide +kernel
theorem dX3_finish_0 : decode cX3_finish 0 = .ok (.aload_n 0, 1) := by decide +kernel
theorem dX3_finish_1 : decode cX3_finish 1 = .ok (.getfield 9, 3) := by decide +kernel
theorem dX3_finish_4 : decode cX3_finish 4 = .ok (.aload_n 0, 1) := by decide +kernel
theorem dX3_finish_5 : decode cX3_finish 5 = .ok (.getfield 50, 3) := by decide +kernel
theorem dX3_finish_8 : decode cX3_finish 8 = .ok (.iload_n 1, 1) := by decide +kernel
theorem dX3_finish_9 : decode cX3_finish 9 = .ok (.iastore, 1) := by decide +kernel
theorem dX3_finish_10 : decode cX3_finish 10 = .ok (.aload_n 0, 1) := by decide +kernel
theorem dX3_finish_11 : decode cX3_finish 11 = .ok (.getfield 15, 3) := by decide +kernel
theorem dX3_finish_14 : decode cX3_finish 14 = .ok (.aload_n 0, 1) := by decide +kernel
theorem dX3_finish_15 : decode cX3_finish 15 = .ok (.getfield 50, 3) := by decide +kernel
theorem dX3_finish_18 : decode cX3_finish 18 = .ok (.iload_n 2, 1) := by decide +kernel
theorem dX3_finish_19 : decode cX3_finish 19 = .ok (.iastore, 1) := by decide +kernel
theorem dX3_finish_20 : decode cX3_finish 20 = .ok (.aload_n 0, 1) := by decide +kernel
theorem dX3_finish_21 : decode cX3_finish 21 = .ok (.dup, 1) := by decide +kernel
theorem dX3_finish_22 : decode cX3_finish 22 = .ok (.getfield 50, 3) := by decide +kernel
theorem dX3_finish_25 : decode cX3_finish 25 = .ok (.dup_x1, 1) := by decide +kernel
theorem dX3_finish_26 : decode cX3_finish 26 = .ok (.iconst 1, 1) := by decide +kernel
theorem dX3_finish_27 : decode cX3_finish 27 = .ok (.iadd, 1) := by decide +kernel
theorem dX3_finish_28 : decode cX3_finish 28 = .ok (.putfield 50, 3) := by decide +kernel
theorem dX3_finish_31 : decode cX3_finish 31 = .ok (.ireturn, 1) := by decide +kernel
theorem dX3_keepTest_0 : decode cX3_keepTest 0 = .ok (.aload_n 0, 1) := by decide +kernel
theorem dX3_keepTest_1 : decode cX3_keepTest 1 = .ok (.getfield 38, 3) := by decide +kernel
theorem dX3_keepTest_4 : decode cX3_keepTest 4 = .ok (.aload_n 0, 1) := by decide +kernel
theorem dX3_keepTest_5 : decode cX3_keepTest 5 = .ok (.getfield 50, 3) := by decide +kernel
theorem dX3_keepTest_8 : decode cX3_keepTest 8 = .ok (.iaload, 1) := by decide +kernel
theorem dX3_keepTest_9 : decode cX3_keepTest 9 = .ok (.bipush 8, 2) := by decide +kernel
theorem dX3_keepTest_11 : decode cX3_keepTest 11 = .ok (.if_icmp .ge 39, 3) := by decide +kernel
theorem dX3_keepTest_14 : decode cX3_keepTest 14 = .ok (.aload_n 0, 1) := by decide +kernel
theorem dX3_keepTest_15 : decode cX3_keepTest 15 = .ok (.getfield 41, 3) := by decide +kernel
theorem dX3_keepTest_18 : decode cX3_keepTest 18 = .ok (.aload_n 0, 1) := by decide +kernel
theorem dX3_keepTest_19 : decode cX3_keepTest 19 = .ok (.getfield 50, 3) := by decide +kernel
theorem dX3_keepTest_22 : decode cX3_keepTest 22 = .ok (.bipush 8, 2) := by decide +kernel
theorem dX3_keepTest_24 : decode cX3_keepTest 24 = .ok (.imul, 1) := by decide +kernel
theorem dX3_keepTest_25 : decode cX3_keepTest 25 = .ok (.aload_n 0, 1) := by decide +kernel
theorem dX3_keepTest_26 : decode cX3_keepTest 26 = .ok (.getfield 38, 3) := by decide +kernel
theorem dX3_keepTest_29 : decode cX3_keepTest 29 = .ok (.aload_n 0, 1) := by decide +kernel
theorem dX3_keepTest_30 : decode cX3_keepTest 30 = .ok (.getfield 50, 3) := by decide +kernel
theorem dX3_keepTest_33 : decode cX3_keepTest 33 = .ok (.iaload, 1) := by decide +kernel
theorem dX3_keepTest_34 : decode cX3_keepTest 34 = .ok (.iadd, 1) := by decide +kernel
theorem dX3_keepTest_35 : decode cX3_keepTest 35 = .ok (.iload_n 1, 1) := by decide +kernel
theorem dX3_keepTest_36 : decode cX3_keepTest 36 = .ok (.iastore, 1) := by decide +kernel
theorem dX3_keepTest_37 : decode cX3_keepTest 37 = .ok (.aload_n 0, 1) := by decide +kernel
theorem dX3_keepTest_38 : decode cX3_keepTest 38 = .ok (.getfield 38, 3) := by decide +kernel
theorem dX3_keepTest_41 : decode cX3_keepTest 41 = .ok (.aload_n 0, 1) := by decide +kernel
theorem dX3_keepTest_42 : decode cX3_keepTest 42 = .ok (.getfield 50, 3) := by decide +kernel
theorem dX3_keepTest_45 : decode cX3_keepTest 45 = .ok (.dup2, 1) := by decide +kernel
theorem dX3_keepTest_46 : decode cX3_keepTest 46 = .ok (.iaload, 1) := by decide +kernel
theorem dX3_keepTest_47 : decode cX3_keepTest 47 = .ok (.iconst 1, 1) := by decide +kernel
theorem dX3_keepTest_48 : decode cX3_keepTest 48 = .ok (.iadd, 1) := by decide +kernel
theorem dX3_keepTest_49 : decode cX3_keepTest 49 = .ok (.iastore, 1) := by decide +kernel
theorem dX3_keepTest_50 : decode cX3_keepTest 50 = .ok (.return_, 1) := by decide +kernel
theorem dX3_keepTestsOf_0 : decode cX3_keepTestsOf 0 = .ok (.iconst 0, 1) := by decide +kernel
theorem dX3_keepTestsOf_1 : decode cX3_keepTestsOf 1 = .ok (.istore_n 2, 1) := by decide +kernel
theorem dX3_keepTestsOf_2 : decode cX3_keepTestsOf 2 = .ok (.iload_n 2, 1) := by decide +kernel
theorem dX3_keepTestsOf_3 : decode cX3_keepTestsOf 3 = .ok (.aload_n 0, 1) := by decide +kernel
theorem dX3_keepTestsOf_4 : decode cX3_keepTestsOf 4 = .ok (.getfield 38, 3) := by decide +kernel
theorem dX3_keepTestsOf_7 : decode cX3_keepTestsOf 7 = .ok (.iload_n 1, 1) := by decide +kernel
theorem dX3_keepTestsOf_8 : decode cX3_keepTestsOf 8 = .ok (.iaload, 1) := by decide +kernel
theorem dX3_keepTestsOf_9 : decode cX3_keepTestsOf 9 = .ok (.if_icmp .ge 24, 3) := by decide +kernel
theorem dX3_keepTestsOf_12 : decode cX3_keepTestsOf 12 = .ok (.aload_n 0, 1) := by decide +kernel
theorem dX3_keepTestsOf_13 : decode cX3_keepTestsOf 13 = .ok (.aload_n 0, 1) := by decide +kernel
theorem dX3_keepTestsOf_14 : decode cX3_keepTestsOf 14 = .ok (.getfield 41, 3) := by decide +kernel
theorem dX3_keepTestsOf_17 : decode cX3_keepTestsOf 17 = .ok (.iload_n 1, 1) := by decide +kernel
theorem dX3_keepTestsOf_18 : decode cX3_keepTestsOf 18 = .ok (.bipush 8, 2) := by decide +kernel
theorem dX3_keepTestsOf_20 : decode cX3_keepTestsOf 20 = .ok (.imul, 1) := by decide +kernel
theorem dX3_keepTestsOf_21 : decode cX3_keepTestsOf 21 = .ok (.iload_n 2, 1) := by decide +kernel
theorem dX3_keepTestsOf_22 : decode cX3_keepTestsOf 22 = .ok (.iadd, 1) := by decide +kernel
theorem dX3_keepTestsOf_23 : decode cX3_keepTestsOf 23 = .ok (.iaload, 1) := by decide +kernel
theorem dX3_keepTestsOf_24 : decode cX3_keepTestsOf 24 = .ok (.invokevirtual 54, 3) := by decide +kernel
theorem dX3_keepTestsOf_27 : decode cX3_keepTestsOf 27 = .ok (.iinc 2 1, 3) := by decide +kernel
theorem dX3_keepTestsOf_30 : decode cX3_keepTestsOf 30 = .ok (.goto (-28), 3) := by decide +kernel
theorem dX3_keepTestsOf_33 : decode cX3_keepTestsOf 33 = .ok (.return_, 1) := by decide +kernel
theorem dX3_judge_0 : decode cX3_judge 0 = .ok (.iconst 0, 1) := by decide +kernel
theorem dX3_judge_1 : decode cX3_judge 1 = .ok (.istore 4, 2) := by decide +kernel
theorem dX3_judge_3 : decode cX3_judge 3 = .ok (.iload 4, 2) := by decide +kernel
theorem dX3_judge_5 : decode cX3_judge 5 = .ok (.iload_n 3, 1) := by decide +kernel
theorem dX3_judge_6 : decode cX3_judge 6 = .ok (.if_icmp .ge 157, 3) := by decide +kernel
theorem dX3_judge_9 : decode cX3_judge 9 = .ok (.aload_n 0, 1) := by decide +kernel
theorem dX3_judge_10 : decode cX3_judge 10 = .ok (.getfield 44, 3) := by decide +kernel
theorem dX3_judge_13 : decode cX3_judge 13 = .ok (.aload_n 0, 1) := by decide +kernel
theorem dX3_judge_14 : decode cX3_judge 14 = .ok (.getfield 32, 3) := by decide +kernel
theorem dX3_judge_17 : decode cX3_judge 17 = .ok (.iload 4, 2) := by decide +kernel
theorem dX3_judge_19 : decode cX3_judge 19 = .ok (.iaload, 1) := by decide +kernel
theorem dX3_judge_20 : decode cX3_judge 20 = .ok (.baload, 1) := by decide +kernel
theorem dX3_judge_21 : decode cX3_judge 21 = .ok (.istore 5, 2) := by decide +kernel
theorem dX3_judge_23 : decode cX3_judge 23 = .ok (.aload_n 0, 1) := by decide +kernel
theorem dX3_judge_24 : decode cX3_judge 24 = .ok (.getfield 44, 3) := by decide +kernel
theorem dX3_judge_27 : decode cX3_judge 27 = .ok (.aload_n 0, 1) := by decide +kernel
theorem dX3_judge_28 : decode cX3_judge 28 = .ok (.getfield 35, 3) := by decide +kernel
theorem dX3_judge_31 : decode cX3_judge 31 = .ok (.iload 4, 2) := by decide +kernel
theorem dX3_judge_33 : decode cX3_judge 33 = .ok (.iaload, 1) := by decide +kernel
theorem dX3_judge_34 : decode cX3_judge 34 = .ok (.baload, 1) := by decide +kernel
theorem dX3_judge_35 : decode cX3_judge 35 = .ok (.istore 6, 2) := by decide +kernel
theorem dX3_judge_37 : decode cX3_judge 37 = .ok (.aload_n 0, 1) := by decide +kernel
theorem dX3_judge_38 : decode cX3_judge 38 = .ok (.getfield 9, 3) := by decide +kernel
theorem dX3_judge_41 : decode cX3_judge 41 = .ok (.iload 4, 2) := by decide +kernel
theorem dX3_judge_43 : decode cX3_judge 43 = .ok (.iaload, 1) := by decide +kernel
theorem dX3_judge_44 : decode cX3_judge 44 = .ok (.tableswitch 98 1 3 #[28, 53, 78], 28) := by decide +kernel
theorem dX3_judge_72 : decode cX3_judge 72 = .ok (.aload_n 0, 1) := by decide +kernel
theorem dX3_judge_73 : decode cX3_judge 73 = .ok (.getfield 44, 3) := by decide +kernel
theorem dX3_judge_76 : decode cX3_judge 76 = .ok (.iload 4, 2) := by decide +kernel
theorem dX3_judge_78 : decode cX3_judge 78 = .ok (.iload 5, 2) := by decide +kernel
theorem dX3_judge_80 : decode cX3_judge 80 = .ok (.ifCond .eq 12, 3) := by decide +kernel
theorem dX3_judge_83 : decode cX3_judge 83 = .ok (.iload 6, 2) := by decide +kernel
theorem dX3_judge_85 : decode cX3_judge 85 = .ok (.ifCond .eq 7, 3) := by decide +kernel
theorem dX3_judge_88 : decode cX3_judge 88 = .ok (.iconst 1, 1) := by decide +kernel
theorem dX3_judge_89 : decode cX3_judge 89 = .ok (.goto 4, 3) := by decide +kernel
theorem dX3_judge_92 : decode cX3_judge 92 = .ok (.iconst 0, 1) := by decide +kernel
theorem dX3_judge_93 : decode cX3_judge 93 = .ok (.bastore, 1) := by decide +kernel
theorem dX3_judge_94 : decode cX3_judge 94 = .ok (.goto 63, 3) := by decide +kernel
theorem dX3_judge_97 : decode cX3_judge 97 = .ok (.aload_n 0, 1) := by decide +kernel
theorem dX3_judge_98 : decode cX3_judge 98 = .ok (.getfield 44, 3) := by decide +kernel
theorem dX3_judge_101 : decode cX3_judge 101 = .ok (.iload 4, 2) := by decide +kernel
theorem dX3_judge_103 : decode cX3_judge 103 = .ok (.iload 5, 2) := by decide +kernel
theorem dX3_judge_105 : decode cX3_judge 105 = .ok (.ifCond .ne 8, 3) := by decide +kernel
theorem dX3_judge_108 : decode cX3_judge 108 = .ok (.iload 6, 2) := by decide +kernel
theorem dX3_judge_110 : decode cX3_judge 110 = .ok (.ifCond .eq 7, 3) := by decide +kernel
theorem dX3_judge_113 : decode cX3_judge 113 = .ok (.iconst 1, 1) := by decide +kernel
theorem dX3_judge_114 : decode cX3_judge 114 = .ok (.goto 4, 3) := by decide +kernel
theorem dX3_judge_117 : decode cX3_judge 117 = .ok (.iconst 0, 1) := by decide +kernel
theorem dX3_judge_118 : decode cX3_judge 118 = .ok (.bastore, 1) := by decide +kernel
theorem dX3_judge_119 : decode cX3_judge 119 = .ok (.goto 38, 3) := by decide +kernel
theorem dX3_judge_122 : decode cX3_judge 122 = .ok (.aload_n 0, 1) := by decide +kernel
theorem dX3_judge_123 : decode cX3_judge 123 = .ok (.getfield 44, 3) := by decide +kernel
theorem dX3_judge_126 : decode cX3_judge 126 = .ok (.iload 4, 2) := by decide +kernel
theorem dX3_judge_128 : decode cX3_judge 128 = .ok (.iload 5, 2) := by decide +kernel
theorem dX3_judge_130 : decode cX3_judge 130 = .ok (.ifCond .ne 7, 3) := by decide +kernel
theorem dX3_judge_133 : decode cX3_judge 133 = .ok (.iconst 1, 1) := by decide +kernel
theorem dX3_judge_134 : decode cX3_judge 134 = .ok (.goto 4, 3) := by decide +kernel
theorem dX3_judge_137 : decode cX3_judge 137 = .ok (.iconst 0, 1) := by decide +kernel
theorem dX3_judge_138 : decode cX3_judge 138 = .ok (.bastore, 1) := by decide +kernel
theorem dX3_judge_139 : decode cX3_judge 139 = .ok (.goto 18, 3) := by decide +kernel
theorem dX3_judge_142 : decode cX3_judge 142 = .ok (.aload_n 0, 1) := by decide +kernel
theorem dX3_judge_143 : decode cX3_judge 143 = .ok (.getfield 44, 3) := by decide +kernel
theorem dX3_judge_146 : decode cX3_judge 146 = .ok (.iload 4, 2) := by decide +kernel
theorem dX3_judge_148 : decode cX3_judge 148 = .ok (.aload_n 0, 1) := by decide +kernel
theorem dX3_judge_149 : decode cX3_judge 149 = .ok (.aload_n 1, 1) := by decide +kernel
theorem dX3_judge_150 : decode cX3_judge 150 = .ok (.iload_n 2, 1) := by decide +kernel
theorem dX3_judge_151 : decode cX3_judge 151 = .ok (.iload 4, 2) := by decide +kernel
theorem dX3_judge_153 : decode cX3_judge 153 = .ok (.invokevirtual 65, 3) := by decide +kernel
theorem dX3_judge_156 : decode cX3_judge 156 = .ok (.bastore, 1) := by decide +kernel
theorem dX3_judge_157 : decode cX3_judge 157 = .ok (.iinc 4 1, 3) := by decide +kernel
theorem dX3_judge_160 : decode cX3_judge 160 = .ok (.goto (-157), 3) := by decide +kernel
theorem dX3_judge_163 : decode cX3_judge 163 = .ok (.return_, 1) := by decide +kernel
theorem dX3_judgeTest_0 : decode cX3_judgeTest 0 = .ok (.aload_n 1, 1) := by decide +kernel
theorem dX3_judgeTest_1 : decode cX3_judgeTest 1 = .ok (.iload_n 2, 1) := by decide +kernel
theorem dX3_judgeTest_2 : decode cX3_judgeTest 2 = .ok (.aload_n 0, 1) := by decide +kernel
theorem dX3_judgeTest_3 : decode cX3_judgeTest 3 = .ok (.getfield 18, 3) := by decide +kernel
theorem dX3_judgeTest_6 : decode cX3_judgeTest 6 = .ok (.iload_n 3, 1) := by decide +kernel
theorem dX3_judgeTest_7 : decode cX3_judgeTest 7 = .ok (.caload, 1) := by decide +kernel
theorem dX3_judgeTest_8 : decode cX3_judgeTest 8 = .ok (.aload_n 0, 1) := by decide +kernel
theorem dX3_judgeTest_9 : decode cX3_judgeTest 9 = .ok (.getfield 22, 3) := by decide +kernel
theorem dX3_judgeTest_12 : decode cX3_judgeTest 12 = .ok (.iload_n 3, 1) := by decide +kernel
theorem dX3_judgeTest_13 : decode cX3_judgeTest 13 = .ok (.iaload, 1) := by decide +kernel
theorem dX3_judgeTest_14 : decode cX3_judgeTest 14 = .ok (.invokevirtual 69, 3) := by decide +kernel
theorem dX3_judgeTest_17 : decode cX3_judgeTest 17 = .ok (.istore 4, 2) := by decide +kernel
theorem dX3_judgeTest_19 : decode cX3_judgeTest 19 = .ok (.aload_n 0, 1) := by decide +kernel
theorem dX3_judgeTest_20 : decode cX3_judgeTest 20 = .ok (.getfield 47, 3) := by decide +kernel
theorem dX3_judgeTest_23 : decode cX3_judgeTest 23 = .ok (.iload_n 3, 1) := by decide +kernel
theorem dX3_judgeTest_24 : decode cX3_judgeTest 24 = .ok (.iload 4, 2) := by decide +kernel
theorem dX3_judgeTest_26 : decode cX3_judgeTest 26 = .ok (.iastore, 1) := by decide +kernel
theorem dX3_judgeTest_27 : decode cX3_judgeTest 27 = .ok (.aload_n 0, 1) := by decide +kernel
theorem dX3_judgeTest_28 : decode cX3_judgeTest 28 = .ok (.getfield 25, 3) := by decide +kernel
theorem dX3_judgeTest_31 : decode cX3_judgeTest 31 = .ok (.iload_n 3, 1) := by decide +kernel
theorem dX3_judgeTest_32 : decode cX3_judgeTest 32 = .ok (.baload, 1) := by decide +kernel
theorem dX3_judgeTest_33 : decode cX3_judgeTest 33 = .ok (.ifCond .eq 22, 3) := by decide +kernel
theorem dX3_judgeTest_36 : decode cX3_judgeTest 36 = .ok (.iload 4, 2) := by decide +kernel
theorem dX3_judgeTest_38 : decode cX3_judgeTest 38 = .ok (.aload_n 0, 1) := by decide +kernel
theorem dX3_judgeTest_39 : decode cX3_judgeTest 39 = .ok (.getfield 29, 3) := by decide +kernel
theorem dX3_judgeTest_42 : decode cX3_judgeTest 42 = .ok (.iload_n 3, 1) := by decide +kernel
theorem dX3_judgeTest_43 : decode cX3_judgeTest 43 = .ok (.iaload, 1) := by decide +kernel
theorem dX3_judgeTest_44 : decode cX3_judgeTest 44 = .ok (.if_icmp .lt 7, 3) := by decide +kernel
theorem dX3_judgeTest_47 : decode cX3_judgeTest 47 = .ok (.iconst 1, 1) := by decide +kernel
theorem dX3_judgeTest_48 : decode cX3_judgeTest 48 = .ok (.goto 23, 3) := by decide +kernel
theorem dX3_judgeTest_51 : decode cX3_judgeTest 51 = .ok (.iconst 0, 1) := by decide +kernel
theorem dX3_judgeTest_52 : decode cX3_judgeTest 52 = .ok (.goto 19, 3) := by decide +kernel
theorem dX3_judgeTest_55 : decode cX3_judgeTest 55 = .ok (.iload 4, 2) := by decide +kernel
theorem dX3_judgeTest_57 : decode cX3_judgeTest 57 = .ok (.aload_n 0, 1) := by decide +kernel
theorem dX3_judgeTest_58 : decode cX3_judgeTest 58 = .ok (.getfield 29, 3) := by decide +kernel
theorem dX3_judgeTest_61 : decode cX3_judgeTest 61 = .ok (.iload_n 3, 1) := by decide +kernel
theorem dX3_judgeTest_62 : decode cX3_judgeTest 62 = .ok (.iaload, 1) := by decide +kernel
theorem dX3_judgeTest_63 : decode cX3_judgeTest 63 = .ok (.if_icmp .gt 7, 3) := by decide +kernel
theorem dX3_judgeTest_66 : decode cX3_judgeTest 66 = .ok (.iconst 1, 1) := by decide +kernel
theorem dX3_judgeTest_67 : decode cX3_judgeTest 67 = .ok (.goto 4, 3) := by decide +kernel
theorem dX3_judgeTest_70 : decode cX3_judgeTest 70 = .ok (.iconst 0, 1) := by decide +kernel
theorem dX3_judgeTest_71 : decode cX3_judgeTest 71 = .ok (.ireturn, 1) := by decide +kernel
theorem dX3_countTests_0 : decode cX3_countTests 0 = .ok (.iconst 0, 1) := by decide +kernel
theorem dX3_countTests_1 : decode cX3_countTests 1 = .ok (.istore_n 3, 1) := by decide +kernel
theorem dX3_countTests_2 : decode cX3_countTests 2 = .ok (.iconst 0, 1) := by decide +kernel
theorem dX3_countTests_3 : decode cX3_countTests 3 = .ok (.istore 4, 2) := by decide +kernel
theorem dX3_countTests_5 : decode cX3_countTests 5 = .ok (.iload 4, 2) := by decide +kernel
theorem dX3_countTests_7 : decode cX3_countTests 7 = .ok (.aload_n 0, 1) := by decide +kernel
theorem dX3_countTests_8 : decode cX3_countTests 8 = .ok (.getfield 38, 3) := by decide +kernel
theorem dX3_countTests_11 : decode cX3_countTests 11 = .ok (.iload_n 1, 1) := by decide +kernel
theorem dX3_countTests_12 : decode cX3_countTests 12 = .ok (.iaload, 1) := by decide +kernel
theorem dX3_countTests_13 : decode cX3_countTests 13 = .ok (.if_icmp .ge 31, 3) := by decide +kernel
theorem dX3_countTests_16 : decode cX3_countTests 16 = .ok (.iload_n 2, 1) := by decide +kernel
theorem dX3_countTests_17 : decode cX3_countTests 17 = .ok (.aload_n 0, 1) := by decide +kernel
theorem dX3_countTests_18 : decode cX3_countTests 18 = .ok (.getfield 41, 3) := by decide +kernel
theorem dX3_countTests_21 : decode cX3_countTests 21 = .ok (.iload_n 1, 1) := by decide +kernel
theorem dX3_countTests_22 : decode cX3_countTests 22 = .ok (.bipush 8, 2) := by decide +kernel
theorem dX3_countTests_24 : decode cX3_countTests 24 = .ok (.imul, 1) := by decide +kernel
theorem dX3_countTests_25 : decode cX3_countTests 25 = .ok (.iload 4, 2) := by decide +kernel
theorem dX3_countTests_27 : decode cX3_countTests 27 = .ok (.iadd, 1) := by decide +kernel
theorem dX3_countTests_28 : decode cX3_countTests 28 = .ok (.iaload, 1) := by decide +kernel
theorem dX3_countTests_29 : decode cX3_countTests 29 = .ok (.invokestatic 75, 3) := by decide +kernel
theorem dX3_countTests_32 : decode cX3_countTests 32 = .ok (.ifCond .eq 6, 3) := by decide +kernel
theorem dX3_countTests_35 : decode cX3_countTests 35 = .ok (.iinc 3 1, 3) := by decide +kernel
theorem dX3_countTests_38 : decode cX3_countTests 38 = .ok (.iinc 4 1, 3) := by decide +kernel
theorem dX3_countTests_41 : decode cX3_countTests 41 = .ok (.goto (-36), 3) := by decide +kernel
theorem dX3_countTests_44 : decode cX3_countTests 44 = .ok (.iload_n 3, 1) := by decide +kernel
theorem dX3_countTests_45 : decode cX3_countTests 45 = .ok (.ireturn, 1) := by decide +kernel
theorem dX3_testAtRank_0 : decode cX3_testAtRank 0 = .ok (.iconst 0, 1) := by decide +kernel
theorem dX3_testAtRank_1 : decode cX3_testAtRank 1 = .ok (.istore 4, 2) := by decide +kernel
theorem dX3_testAtRank_3 : decode cX3_testAtRank 3 = .ok (.iconst 0, 1) := by decide +kernel
theorem dX3_testAtRank_4 : decode cX3_testAtRank 4 = .ok (.istore 5, 2) := by decide +kernel
theorem dX3_testAtRank_6 : decode cX3_testAtRank 6 = .ok (.iload 5, 2) := by decide +kernel
theorem dX3_testAtRank_8 : decode cX3_testAtRank 8 = .ok (.aload_n 0, 1) := by decide +kernel
theorem dX3_testAtRank_9 : decode cX3_testAtRank 9 = .ok (.getfield 38, 3) := by decide +kernel
theorem dX3_testAtRank_12 : decode cX3_testAtRank 12 = .ok (.iload_n 1, 1) := by decide +kernel
theorem dX3_testAtRank_13 : decode cX3_testAtRank 13 = .ok (.iaload, 1) := by decide +kernel
theorem dX3_testAtRank_14 : decode cX3_testAtRank 14 = .ok (.if_icmp .ge 44, 3) := by decide +kernel
theorem dX3_testAtRank_17 : decode cX3_testAtRank 17 = .ok (.aload_n 0, 1) := by decide +kernel
theorem dX3_testAtRank_18 : decode cX3_testAtRank 18 = .ok (.getfield 41, 3) := by decide +kernel
theorem dX3_testAtRank_21 : decode cX3_testAtRank 21 = .ok (.iload_n 1, 1) := by decide +kernel
theorem dX3_testAtRank_22 : decode cX3_testAtRank 22 = .ok (.bipush 8, 2) := by decide +kernel
theorem dX3_testAtRank_24 : decode cX3_testAtRank 24 = .ok (.imul, 1) := by decide +kernel
theorem dX3_testAtRank_25 : decode cX3_testAtRank 25 = .ok (.iload 5, 2) := by decide +kernel
theorem dX3_testAtRank_27 : decode cX3_testAtRank 27 = .ok (.iadd, 1) := by decide +kernel
theorem dX3_testAtRank_28 : decode cX3_testAtRank 28 = .ok (.iaload, 1) := by decide +kernel
theorem dX3_testAtRank_29 : decode cX3_testAtRank 29 = .ok (.istore 6, 2) := by decide +kernel
theorem dX3_testAtRank_31 : decode cX3_testAtRank 31 = .ok (.iload_n 2, 1) := by decide +kernel
theorem dX3_testAtRank_32 : decode cX3_testAtRank 32 = .ok (.iload 6, 2) := by decide +kernel
theorem dX3_testAtRank_34 : decode cX3_testAtRank 34 = .ok (.invokestatic 75, 3) := by decide +kernel
theorem dX3_testAtRank_37 : decode cX3_testAtRank 37 = .ok (.ifCond .eq 15, 3) := by decide +kernel
theorem dX3_testAtRank_40 : decode cX3_testAtRank 40 = .ok (.iload 4, 2) := by decide +kernel
theorem dX3_testAtRank_42 : decode cX3_testAtRank 42 = .ok (.iload_n 3, 1) := by decide +kernel
theorem dX3_testAtRank_43 : decode cX3_testAtRank 43 = .ok (.if_icmp .ne 6, 3) := by decide +kernel
theorem dX3_testAtRank_46 : decode cX3_testAtRank 46 = .ok (.iload 6, 2) := by decide +kernel
theorem dX3_testAtRank_48 : decode cX3_testAtRank 48 = .ok (.ireturn, 1) := by decide +kernel
theorem dX3_testAtRank_49 : decode cX3_testAtRank 49 = .ok (.iinc 4 1, 3) := by decide +kernel
theorem dX3_testAtRank_52 : decode cX3_testAtRank 52 = .ok (.iinc 5 1, 3) := by decide +kernel
theorem dX3_testAtRank_55 : decode cX3_testAtRank 55 = .ok (.goto (-49), 3) := by decide +kernel
theorem dX3_testAtRank_58 : decode cX3_testAtRank 58 = .ok (.iconst (-1), 1) := by decide +kernel
theorem dX3_testAtRank_59 : decode cX3_testAtRank 59 = .ok (.ireturn, 1) := by decide +kernel
theorem dX4_init_0 : decode cX4_init 0 = .ok (.aload_n 0, 1) := by decide +kernel
theorem dX4_init_1 : decode cX4_init 1 = .ok (.invokespecial 3, 3) := by decide +kernel
theorem dX4_init_4 : decode cX4_init 4 = .ok (.aload_n 0, 1) := by decide +kernel
theorem dX4_init_5 : decode cX4_init 5 = .ok (.sipush 200, 3) := by decide +kernel
theorem dX4_init_8 : decode cX4_init 8 = .ok (.newarray .int, 2) := by decide +kernel
theorem dX4_init_10 : decode cX4_init 10 = .ok (.putfield 9, 3) := by decide +kernel
theorem dX4_init_13 : decode cX4_init 13 = .ok (.aload_n 0, 1) := by decide +kernel
theorem dX4_init_14 : decode cX4_init 14 = .ok (.sipush 200, 3) := by decide +kernel
theorem dX4_init_17 : decode cX4_init 17 = .ok (.newarray .int, 2) := by decide +kernel
theorem dX4_init_19 : decode cX4_init 19 = .ok (.putfield 15, 3) := by decide +kernel
theorem dX4_init_22 : decode cX4_init 22 = .ok (.aload_n 0, 1) := by decide +kernel
theorem dX4_init_23 : decode cX4_init 23 = .ok (.sipush 200, 3) := by decide +kernel
theorem dX4_init_26 : decode cX4_init 26 = .ok (.newarray .int, 2) := by decide +kernel
theorem dX4_init_28 : decode cX4_init 28 = .ok (.putfield 18, 3) := by decide +kernel
theorem dX4_init_31 : decode cX4_init 31 = .ok (.aload_n 0, 1) := by decide +kernel
theorem dX4_init_32 : decode cX4_init 32 = .ok (.sipush 200, 3) := by decide +kernel
theorem dX4_init_35 : decode cX4_init 35 = .ok (.newarray .int, 2) := by decide +kernel
theorem dX4_init_37 : decode cX4_init 37 = .ok (.putfield 21, 3) := by decide +kernel
theorem dX4_init_40 : decode cX4_init 40 = .ok (.return_, 1) := by decide +kernel
theorem dX4_append_0 : decode cX4_append 0 = .ok (.aload_n 0, 1) := by decide +kernel
theorem dX4_append_1 : decode cX4_append 1 = .ok (.getfield 9, 3) := by decide +kernel
theorem dX4_append_4 : decode cX4_append 4 = .ok (.aload_n 0, 1) := by decide +kernel
theorem dX4_append_5 : decode cX4_append 5 = .ok (.getfield 24, 3) := by decide +kernel
theorem dX4_append_8 : decode cX4_append 8 = .ok (.iload_n 1, 1) := by decide +kernel
theorem dX4_append_9 : decode cX4_append 9 = .ok (.iastore, 1) := by decide +kernel
theorem dX4_append_10 : decode cX4_append 10 = .ok (.aload_n 0, 1) := by decide +kernel
theorem dX4_append_11 : decode cX4_append 11 = .ok (.getfield 15, 3) := by decide +kernel
theorem dX4_append_14 : decode cX4_append 14 = .ok (.aload_n 0, 1) := by decide +kernel
theorem dX4_append_15 : decode cX4_append 15 = .ok (.getfield 24, 3) := by decide +kernel
theorem dX4_append_18 : decode cX4_append 18 = .ok (.iload_n 2, 1) := by decide +kernel
theorem dX4_append_19 : decode cX4_append 19 = .ok (.iastore, 1) := by decide +kernel
theorem dX4_append_20 : decode cX4_append 20 = .ok (.aload_n 0, 1) := by decide +kernel
theorem dX4_append_21 : decode cX4_append 21 = .ok (.getfield 18, 3) := by decide +kernel
theorem dX4_append_24 : decode cX4_append 24 = .ok (.aload_n 0, 1) := by decide +kernel
theorem dX4_append_25 : decode cX4_append 25 = .ok (.getfield 24, 3) := by decide +kernel
theorem dX4_append_28 : decode cX4_append 28 = .ok (.iload_n 3, 1) := by decide +kernel
theorem dX4_append_29 : decode cX4_append 29 = .ok (.iastore, 1) := by decide +kernel
theorem dX4_append_30 : decode cX4_append 30 = .ok (.aload_n 0, 1) := by decide +kernel
theorem dX4_append_31 : decode cX4_append 31 = .ok (.getfield 21, 3) := by decide +kernel
theorem dX4_append_34 : decode cX4_append 34 = .ok (.aload_n 0, 1) := by decide +kernel
theorem dX4_append_35 : decode cX4_append 35 = .ok (.getfield 24, 3) := by decide +kernel
theorem dX4_append_38 : decode cX4_append 38 = .ok (.iload 4, 2) := by decide +kernel
theorem dX4_append_40 : decode cX4_append 40 = .ok (.iastore, 1) := by decide +kernel
theorem dX4_append_41 : decode cX4_append 41 = .ok (.aload_n 0, 1) := by decide +kernel
theorem dX4_append_42 : decode cX4_append 42 = .ok (.dup, 1) := by decide +kernel
theorem dX4_append_43 : decode cX4_append 43 = .ok (.getfield 24, 3) := by decide +kernel
theorem dX4_append_46 : decode cX4_append 46 = .ok (.dup_x1, 1) := by decide +kernel
theorem dX4_append_47 : decode cX4_append 47 = .ok (.iconst 1, 1) := by decide +kernel
theorem dX4_append_48 : decode cX4_append 48 = .ok (.iadd, 1) := by decide +kernel
theorem dX4_append_49 : decode cX4_append 49 = .ok (.putfield 24, 3) := by decide +kernel
theorem dX4_append_52 : decode cX4_append 52 = .ok (.ireturn, 1) := by decide +kernel
theorem dX4_firstAfter_0 : decode cX4_firstAfter 0 = .ok (.iload_n 2, 1) := by decide +kernel
theorem dX4_firstAfter_1 : decode cX4_firstAfter 1 = .ok (.istore_n 3, 1) := by decide +kernel
theorem dX4_firstAfter_2 : decode cX4_firstAfter 2 = .ok (.iload_n 3, 1) := by decide +kernel
theorem dX4_firstAfter_3 : decode cX4_firstAfter 3 = .ok (.aload_n 0, 1) := by decide +kernel
theorem dX4_firstAfter_4 : decode cX4_firstAfter 4 = .ok (.getfield 24, 3) := by decide +kernel
theorem dX4_firstAfter_7 : decode cX4_firstAfter 7 = .ok (.if_icmp .ge 19, 3) := by decide +kernel
theorem dX4_firstAfter_10 : decode cX4_firstAfter 10 = .ok (.aload_n 0, 1) := by decide +kernel
theorem dX4_firstAfter_11 : decode cX4_firstAfter 11 = .ok (.getfield 21, 3) := by decide +kernel
theorem dX4_firstAfter_14 : decode cX4_firstAfter 14 = .ok (.iload_n 3, 1) := by decide +kernel
theorem dX4_firstAfter_15 : decode cX4_firstAfter 15 = .ok (.iaload, 1) := by decide +kernel
theorem dX4_firstAfter_16 : decode cX4_firstAfter 16 = .ok (.iload_n 1, 1) := by decide +kernel
theorem dX4_firstAfter_17 : decode cX4_firstAfter 17 = .ok (.if_icmp .gt 9, 3) := by decide +kernel
theorem dX4_firstAfter_20 : decode cX4_firstAfter 20 = .ok (.iinc 3 1, 3) := by decide +kernel
theorem dX4_firstAfter_23 : decode cX4_firstAfter 23 = .ok (.goto (-21), 3) := by decide +kernel
theorem dX4_firstAfter_26 : decode cX4_firstAfter 26 = .ok (.iload_n 3, 1) := by decide +kernel
theorem dX4_firstAfter_27 : decode cX4_firstAfter 27 = .ok (.ireturn, 1) := by decide +kernel
theorem dX4_sumOf_0 : decode cX4_sumOf 0 = .ok (.iconst 0, 1) := by decide +kernel
theorem dX4_sumOf_1 : decode cX4_sumOf 1 = .ok (.istore 5, 2) := by decide +kernel
theorem dX4_sumOf_3 : decode cX4_sumOf 3 = .ok (.iload_n 3, 1) := by decide +kernel
theorem dX4_sumOf_4 : decode cX4_sumOf 4 = .ok (.istore 6, 2) := by decide +kernel
theorem dX4_sumOf_6 : decode cX4_sumOf 6 = .ok (.iload 6, 2) := by decide +kernel
theorem dX4_sumOf_8 : decode cX4_sumOf 8 = .ok (.iload 4, 2) := by decide +kernel
theorem dX4_sumOf_10 : decode cX4_sumOf 10 = .ok (.if_icmp .ge 29, 3) := by decide +kernel
theorem dX4_sumOf_13 : decode cX4_sumOf 13 = .ok (.aload_n 1, 1) := by decide +kernel
theorem dX4_sumOf_14 : decode cX4_sumOf 14 = .ok (.iload 6, 2) := by decide +kernel
theorem dX4_sumOf_16 : decode cX4_sumOf 16 = .ok (.iaload, 1) := by decide +kernel
theorem dX4_sumOf_17 : decode cX4_sumOf 17 = .ok (.iload_n 2, 1) := by decide +kernel
theorem dX4_sumOf_18 : decode cX4_sumOf 18 = .ok (.if_icmp .ne 15, 3) := by decide +kernel
theorem dX4_sumOf_21 : decode cX4_sumOf 21 = .ok (.iload 5, 2) := by decide +kernel
theorem dX4_sumOf_23 : decode cX4_sumOf 23 = .ok (.aload_n 0, 1) := by decide +kernel
theorem dX4_sumOf_24 : decode cX4_sumOf 24 = .ok (.getfield 18, 3) := by decide +kernel
theorem dX4_sumOf_27 : decode cX4_sumOf 27 = .ok (.iload 6, 2) := by decide +kernel
theorem dX4_sumOf_29 : decode cX4_sumOf 29 = .ok (.iaload, 1) := by decide +kernel
theorem dX4_sumOf_30 : decode cX4_sumOf 30 = .ok (.iadd, 1) := by decide +kernel
theorem dX4_sumOf_31 : decode cX4_sumOf 31 = .ok (.istore 5, 2) := by decide +kernel
theorem dX4_sumOf_33 : decode cX4_sumOf 33 = .ok (.iinc 6 1, 3) := by decide +kernel
theorem dX4_sumOf_36 : decode cX4_sumOf 36 = .ok (.goto (-30), 3) := by decide +kernel
theorem dX4_sumOf_39 : decode cX4_sumOf 39 = .ok (.iload 5, 2) := by decide +kernel
theorem dX4_sumOf_41 : decode cX4_sumOf 41 = .ok (.ireturn, 1) := by decide +kernel
theorem dX4_countSent_0 : decode cX4_countSent 0 = .ok (.iconst 0, 1) := by decide +kernel
theorem dX4_countSent_1 : decode cX4_countSent 1 = .ok (.istore 6, 2) := by decide +kernel
theorem dX4_countSent_3 : decode cX4_countSent 3 = .ok (.iload_n 2, 1) := by decide +kernel
theorem dX4_countSent_4 : decode cX4_countSent 4 = .ok (.istore 7, 2) := by decide +kernel
theorem dX4_countSent_6 : decode cX4_countSent 6 = .ok (.iload 7, 2) := by decide +kernel
theorem dX4_countSent_8 : decode cX4_countSent 8 = .ok (.iload_n 3, 1) := by decide +kernel
theorem dX4_countSent_9 : decode cX4_countSent 9 = .ok (.if_icmp .ge 46, 3) := by decide +kernel
theorem dX4_countSent_12 : decode cX4_countSent 12 = .ok (.aload_n 0, 1) := by decide +kernel
theorem dX4_countSent_13 : decode cX4_countSent 13 = .ok (.getfield 18, 3) := by decide +kernel
theorem dX4_countSent_16 : decode cX4_countSent 16 = .ok (.iload 7, 2) := by decide +kernel
theorem dX4_countSent_18 : decode cX4_countSent 18 = .ok (.iaload, 1) := by decide +kernel
theorem dX4_countSent_19 : decode cX4_countSent 19 = .ok (.istore 8, 2) := by decide +kernel
theorem dX4_countSent_21 : decode cX4_countSent 21 = .ok (.aload_n 0, 1) := by decide +kernel
theorem dX4_countSent_22 : decode cX4_countSent 22 = .ok (.getfield 9, 3) := by decide +kernel
theorem dX4_countSent_25 : decode cX4_countSent 25 = .ok (.iload 7, 2) := by decide +kernel
theorem dX4_countSent_27 : decode cX4_countSent 27 = .ok (.iaload, 1) := by decide +kernel
theorem dX4_countSent_28 : decode cX4_countSent 28 = .ok (.iload_n 1, 1) := by decide +kernel
theorem dX4_countSent_29 : decode cX4_countSent 29 = .ok (.if_icmp .ne 20, 3) := by decide +kernel
theorem dX4_countSent_32 : decode cX4_countSent 32 = .ok (.iload 8, 2) := by decide +kernel
theorem dX4_countSent_34 : decode cX4_countSent 34 = .ok (.iload 4, 2) := by decide +kernel
theorem dX4_countSent_36 : decode cX4_countSent 36 = .ok (.if_icmp .lt 13, 3) := by decide +kernel
theorem dX4_countSent_39 : decode cX4_countSent 39 = .ok (.iload 8, 2) := by decide +kernel
theorem dX4_countSent_41 : decode cX4_countSent 41 = .ok (.iload 5, 2) := by decide +kernel
theorem dX4_countSent_43 : decode cX4_countSent 43 = .ok (.if_icmp .gt 6, 3) := by decide +kernel
theorem dX4_countSent_46 : decode cX4_countSent 46 = .ok (.iinc 6 1, 3) := by decide +kernel
theorem dX4_countSent_49 : decode cX4_countSent 49 = .ok (.iinc 7 1, 3) := by decide +kernel
theorem dX4_countSent_52 : decode cX4_countSent 52 = .ok (.goto (-46), 3) := by decide +kernel
theorem dX4_countSent_55 : decode cX4_countSent 55 = .ok (.iload 6, 2) := by decide +kernel
theorem dX4_countSent_57 : decode cX4_countSent 57 = .ok (.ireturn, 1) := by decide +kernel
theorem dX4_greatestSent_0 : decode cX4_greatestSent 0 = .ok (.iconst 0, 1) := by decide +kernel
theorem dX4_greatestSent_1 : decode cX4_greatestSent 1 = .ok (.istore 4, 2) := by decide +kernel
theorem dX4_greatestSent_3 : decode cX4_greatestSent 3 = .ok (.iload_n 2, 1) := by decide +kernel
theorem dX4_greatestSent_4 : decode cX4_greatestSent 4 = .ok (.istore 5, 2) := by decide +kernel
theorem dX4_greatestSent_6 : decode cX4_greatestSent 6 = .ok (.iload 5, 2) := by decide +kernel
theorem dX4_greatestSent_8 : decode cX4_greatestSent 8 = .ok (.iload_n 3, 1) := by decide +kernel
theorem dX4_greatestSent_9 : decode cX4_greatestSent 9 = .ok (.if_icmp .ge 41, 3) := by decide +kernel
theorem dX4_greatestSent_12 : decode cX4_greatestSent 12 = .ok (.aload_n 0, 1) := by decide +kernel
theorem dX4_greatestSent_13 : decode cX4_greatestSent 13 = .ok (.getfield 9, 3) := by decide +kernel
theorem dX4_greatestSent_16 : decode cX4_greatestSent 16 = .ok (.iload 5, 2) := by decide +kernel
theorem dX4_greatestSent_18 : decode cX4_greatestSent 18 = .ok (.iaload, 1) := by decide +kernel
theorem dX4_greatestSent_19 : decode cX4_greatestSent 19 = .ok (.iload_n 1, 1) := by decide +kernel
theorem dX4_greatestSent_20 : decode cX4_greatestSent 20 = .ok (.if_icmp .ne 24, 3) := by decide +kernel
theorem dX4_greatestSent_23 : decode cX4_greatestSent 23 = .ok (.aload_n 0, 1) := by decide +kernel
theorem dX4_greatestSent_24 : decode cX4_greatestSent 24 = .ok (.getfield 18, 3) := by decide +kernel
theorem dX4_greatestSent_27 : decode cX4_greatestSent 27 = .ok (.iload 5, 2) := by decide +kernel
theorem dX4_greatestSent_29 : decode cX4_greatestSent 29 = .ok (.iaload, 1) := by decide +kernel
theorem dX4_greatestSent_30 : decode cX4_greatestSent 30 = .ok (.iload 4, 2) := by decide +kernel
theorem dX4_greatestSent_32 : decode cX4_greatestSent 32 = .ok (.if_icmp .le 12, 3) := by decide +kernel
theorem dX4_greatestSent_35 : decode cX4_greatestSent 35 = .ok (.aload_n 0, 1) := by decide +kernel
theorem dX4_greatestSent_36 : decode cX4_greatestSent 36 = .ok (.getfield 18, 3) := by decide +kernel
theorem dX4_greatestSent_39 : decode cX4_greatestSent 39 = .ok (.iload 5, 2) := by decide +kernel
theorem dX4_greatestSent_41 : decode cX4_greatestSent 41 = .ok (.iaload, 1) := by decide +kernel
theorem dX4_greatestSent_42 : decode cX4_greatestSent 42 = .ok (.istore 4, 2) := by decide +kernel
theorem dX4_greatestSent_44 : decode cX4_greatestSent 44 = .ok (.iinc 5 1, 3) := by decide +kernel
theorem dX4_greatestSent_47 : decode cX4_greatestSent 47 = .ok (.goto (-41), 3) := by decide +kernel
theorem dX4_greatestSent_50 : decode cX4_greatestSent 50 = .ok (.iload 4, 2) := by decide +kernel
theorem dX4_greatestSent_52 : decode cX4_greatestSent 52 = .ok (.ireturn, 1) := by decide +kernel
theorem dX4_receiversFrom_0 : decode cX4_receiversFrom 0 = .ok (.iconst 0, 1) := by decide +kernel
theorem dX4_receiversFrom_1 : decode cX4_receiversFrom 1 = .ok (.istore 4, 2) := by decide +kernel
theorem dX4_receiversFrom_3 : decode cX4_receiversFrom 3 = .ok (.iload_n 2, 1) := by decide +kernel
theorem dX4_receiversFrom_4 : decode cX4_receiversFrom 4 = .ok (.istore 5, 2) := by decide +kernel
theorem dX4_receiversFrom_6 : decode cX4_receiversFrom 6 = .ok (.iload 5, 2) := by decide +kernel
theorem dX4_receiversFrom_8 : decode cX4_receiversFrom 8 = .ok (.iload_n 3, 1) := by decide +kernel
theorem dX4_receiversFrom_9 : decode cX4_receiversFrom 9 = .ok (.if_icmp .ge 35, 3) := by decide +kernel
theorem dX4_receiversFrom_12 : decode cX4_receiversFrom 12 = .ok (.aload_n 0, 1) := by decide +kernel
theorem dX4_receiversFrom_13 : decode cX4_receiversFrom 13 = .ok (.getfield 9, 3) := by decide +kernel
theorem dX4_receiversFrom_16 : decode cX4_receiversFrom 16 = .ok (.iload 5, 2) := by decide +kernel
theorem dX4_receiversFrom_18 : decode cX4_receiversFrom 18 = .ok (.iaload, 1) := by decide +kernel
theorem dX4_receiversFrom_19 : decode cX4_receiversFrom 19 = .ok (.iload_n 1, 1) := by decide +kernel
theorem dX4_receiversFrom_20 : decode cX4_receiversFrom 20 = .ok (.if_icmp .ne 18, 3) := by decide +kernel
theorem dX4_receiversFrom_23 : decode cX4_receiversFrom 23 = .ok (.iload 4, 2) := by decide +kernel
theorem dX4_receiversFrom_25 : decode cX4_receiversFrom 25 = .ok (.aload_n 0, 1) := by decide +kernel
theorem dX4_receiversFrom_26 : decode cX4_receiversFrom 26 = .ok (.getfield 15, 3) := by decide +kernel
theorem dX4_receiversFrom_29 : decode cX4_receiversFrom 29 = .ok (.iload 5, 2) := by decide +kernel
theorem dX4_receiversFrom_31 : decode cX4_receiversFrom 31 = .ok (.iaload, 1) := by decide +kernel
theorem dX4_receiversFrom_32 : decode cX4_receiversFrom 32 = .ok (.iconst 1, 1) := by decide +kernel
theorem dX4_receiversFrom_33 : decode cX4_receiversFrom 33 = .ok (.invokestatic 28, 3) := by decide +kernel
theorem dX4_receiversFrom_36 : decode cX4_receiversFrom 36 = .ok (.istore 4, 2) := by decide +kernel
theorem dX4_receiversFrom_38 : decode cX4_receiversFrom 38 = .ok (.iinc 5 1, 3) := by decide +kernel
theorem dX4_receiversFrom_41 : decode cX4_receiversFrom 41 = .ok (.goto (-35), 3) := by decide +kernel
theorem dX4_receiversFrom_44 : decode cX4_receiversFrom 44 = .ok (.iload 4, 2) := by decide +kernel
theorem dX4_receiversFrom_46 : decode cX4_receiversFrom 46 = .ok (.ireturn, 1) := by decide +kernel
theorem dX4_isFirstOfPair_0 : decode cX4_isFirstOfPair 0 = .ok (.iconst 0, 1) := by decide +kernel
theorem dX4_isFirstOfPair_1 : decode cX4_isFirstOfPair 1 = .ok (.istore_n 2, 1) := by decide +kernel
theorem dX4_isFirstOfPair_2 : decode cX4_isFirstOfPair 2 = .ok (.iload_n 2, 1) := by decide +kernel
theorem dX4_isFirstOfPair_3 : decode cX4_isFirstOfPair 3 = .ok (.iload_n 1, 1) := by decide +kernel
theorem dX4_isFirstOfPair_4 : decode cX4_isFirstOfPair 4 = .ok (.if_icmp .ge 41, 3) := by decide +kernel
theorem dX4_isFirstOfPair_7 : decode cX4_isFirstOfPair 7 = .ok (.aload_n 0, 1) := by decide +kernel
theorem dX4_isFirstOfPair_8 : decode cX4_isFirstOfPair 8 = .ok (.getfield 9, 3) := by decide +kernel
theorem dX4_isFirstOfPair_11 : decode cX4_isFirstOfPair 11 = .ok (.iload_n 2, 1) := by decide +kernel
theorem dX4_isFirstOfPair_12 : decode cX4_isFirstOfPair 12 = .ok (.iaload, 1) := by decide +kernel
theorem dX4_isFirstOfPair_13 : decode cX4_isFirstOfPair 13 = .ok (.aload_n 0, 1) := by decide +kernel
theorem dX4_isFirstOfPair_14 : decode cX4_isFirstOfPair 14 = .ok (.getfield 9, 3) := by decide +kernel
theorem dX4_isFirstOfPair_17 : decode cX4_isFirstOfPair 17 = .ok (.iload_n 1, 1) := by decide +kernel
theorem dX4_isFirstOfPair_18 : decode cX4_isFirstOfPair 18 = .ok (.iaload, 1) := by decide +kernel
theorem dX4_isFirstOfPair_19 : decode cX4_isFirstOfPair 19 = .ok (.if_icmp .ne 20, 3) := by decide +kernel
theorem dX4_isFirstOfPair_22 : decode cX4_isFirstOfPair 22 = .ok (.aload_n 0, 1) := by decide +kernel
theorem dX4_isFirstOfPair_23 : decode cX4_isFirstOfPair 23 = .ok (.getfield 15, 3) := by decide +kernel
theorem dX4_isFirstOfPair_26 : decode cX4_isFirstOfPair 26 = .ok (.iload_n 2, 1) := by decide +kernel
theorem dX4_isFirstOfPair_27 : decode cX4_isFirstOfPair 27 = .ok (.iaload, 1) := by decide +kernel
theorem dX4_isFirstOfPair_28 : decode cX4_isFirstOfPair 28 = .ok (.aload_n 0, 1) := by decide +kernel
theorem dX4_isFirstOfPair_29 : decode cX4_isFirstOfPair 29 = .ok (.getfield 15, 3) := by decide +kernel
theorem dX4_isFirstOfPair_32 : decode cX4_isFirstOfPair 32 = .ok (.iload_n 1, 1) := by decide +kernel
theorem dX4_isFirstOfPair_33 : decode cX4_isFirstOfPair 33 = .ok (.iaload, 1) := by decide +kernel
theorem dX4_isFirstOfPair_34 : decode cX4_isFirstOfPair 34 = .ok (.if_icmp .ne 5, 3) := by decide +kernel
theorem dX4_isFirstOfPair_37 : decode cX4_isFirstOfPair 37 = .ok (.iconst 0, 1) := by decide +kernel
theorem dX4_isFirstOfPair_38 : decode cX4_isFirstOfPair 38 = .ok (.ireturn, 1) := by decide +kernel
theorem dX4_isFirstOfPair_39 : decode cX4_isFirstOfPair 39 = .ok (.iinc 2 1, 3) := by decide +kernel
theorem dX4_isFirstOfPair_42 : decode cX4_isFirstOfPair 42 = .ok (.goto (-40), 3) := by decide +kernel
theorem dX4_isFirstOfPair_45 : decode cX4_isFirstOfPair 45 = .ok (.iconst 1, 1) := by decide +kernel
theorem dX4_isFirstOfPair_46 : decode cX4_isFirstOfPair 46 = .ok (.ireturn, 1) := by decide +kernel
theorem dX4_minutesSinceLast_0 : decode cX4_minutesSinceLast 0 = .ok (.iload_n 1, 1) := by decide +kernel
theorem dX4_minutesSinceLast_1 : decode cX4_minutesSinceLast 1 = .ok (.iconst 1, 1) := by decide +kernel
theorem dX4_minutesSinceLast_2 : decode cX4_minutesSinceLast 2 = .ok (.isub, 1) := by decide +kernel
theorem dX4_minutesSinceLast_3 : decode cX4_minutesSinceLast 3 = .ok (.istore_n 3, 1) := by decide +kernel
theorem dX4_minutesSinceLast_4 : decode cX4_minutesSinceLast 4 = .ok (.iload_n 3, 1) := by decide +kernel
theorem dX4_minutesSinceLast_5 : decode cX4_minutesSinceLast 5 = .ok (.ifCond .lt 38, 3) := by decide +kernel
theorem dX4_minutesSinceLast_8 : decode cX4_minutesSinceLast 8 = .ok (.aload_n 0, 1) := by decide +kernel
theorem dX4_minutesSinceLast_9 : decode cX4_minutesSinceLast 9 = .ok (.getfield 9, 3) := by decide +kernel
theorem dX4_minutesSinceLast_12 : decode cX4_minutesSinceLast 12 = .ok (.iload_n 3, 1) := by decide +kernel
theorem dX4_minutesSinceLast_13 : decode cX4_minutesSinceLast 13 = .ok (.iaload, 1) := by decide +kernel
theorem dX4_minutesSinceLast_14 : decode cX4_minutesSinceLast 14 = .ok (.aload_n 0, 1) := by decide +kernel
theorem dX4_minutesSinceLast_15 : decode cX4_minutesSinceLast 15 = .ok (.getfield 9, 3) := by decide +kernel
theorem dX4_minutesSinceLast_18 : decode cX4_minutesSinceLast 18 = .ok (.iload_n 1, 1) := by decide +kernel
theorem dX4_minutesSinceLast_19 : decode cX4_minutesSinceLast 19 = .ok (.iaload, 1) := by decide +kernel
theorem dX4_minutesSinceLast_20 : decode cX4_minutesSinceLast 20 = .ok (.if_icmp .ne 17, 3) := by decide +kernel
theorem dX4_minutesSinceLast_23 : decode cX4_minutesSinceLast 23 = .ok (.aload_n 0, 1) := by decide +kernel
theorem dX4_minutesSinceLast_24 : decode cX4_minutesSinceLast 24 = .ok (.getfield 21, 3) := by decide +kernel
theorem dX4_minutesSinceLast_27 : decode cX4_minutesSinceLast 27 = .ok (.iload_n 1, 1) := by decide +kernel
theorem dX4_minutesSinceLast_28 : decode cX4_minutesSinceLast 28 = .ok (.iaload, 1) := by decide +kernel
theorem dX4_minutesSinceLast_29 : decode cX4_minutesSinceLast 29 = .ok (.aload_n 0, 1) := by decide +kernel
theorem dX4_minutesSinceLast_30 : decode cX4_minutesSinceLast 30 = .ok (.getfield 21, 3) := by decide +kernel
theorem dX4_minutesSinceLast_33 : decode cX4_minutesSinceLast 33 = .ok (.iload_n 3, 1) := by decide +kernel
theorem dX4_minutesSinceLast_34 : decode cX4_minutesSinceLast 34 = .ok (.iaload, 1) := by decide +kernel
theorem dX4_minutesSinceLast_35 : decode cX4_minutesSinceLast 35 = .ok (.isub, 1) := by decide +kernel
theorem dX4_minutesSinceLast_36 : decode cX4_minutesSinceLast 36 = .ok (.ireturn, 1) := by decide +kernel
theorem dX4_minutesSinceLast_37 : decode cX4_minutesSinceLast 37 = .ok (.iinc 3 (-1), 3) := by decide +kernel
theorem dX4_minutesSinceLast_40 : decode cX4_minutesSinceLast 40 = .ok (.goto (-36), 3) := by decide +kernel
theorem dX4_minutesSinceLast_43 : decode cX4_minutesSinceLast 43 = .ok (.iload_n 2, 1) := by decide +kernel
theorem dX4_minutesSinceLast_44 : decode cX4_minutesSinceLast 44 = .ok (.ireturn, 1) := by decide +kernel
theorem dX5_init_0 : decode cX5_init 0 = .ok (.aload_n 0, 1) := by decide +kernel
theorem dX5_init_1 : decode cX5_init 1 = .ok (.invokespecial 3, 3) := by decide +kernel
theorem dX5_init_4 : decode cX5_init 4 = .ok (.aload_n 0, 1) := by decide +kernel
theorem dX5_init_5 : decode cX5_init 5 = .ok (.bipush 20, 2) := by decide +kernel
theorem dX5_init_7 : decode cX5_init 7 = .ok (.newarray .int, 2) := by decide +kernel
theorem dX5_init_9 : decode cX5_init 9 = .ok (.putfield 9, 3) := by decide +kernel
theorem dX5_init_12 : decode cX5_init 12 = .ok (.aload_n 0, 1) := by decide +kernel
theorem dX5_init_13 : decode cX5_init 13 = .ok (.bipush 20, 2) := by decide +kernel
theorem dX5_init_15 : decode cX5_init 15 = .ok (.newarray .int, 2) := by decide +kernel
theorem dX5_init_17 : decode cX5_init 17 = .ok (.putfield 15, 3) := by decide +kernel
theorem dX5_init_20 : decode cX5_init 20 = .ok (.return_, 1) := by decide +kernel
theorem dX5_load_0 : decode cX5_load 0 = .ok (.iconst 0, 1) := by decide +kernel
theorem dX5_load_1 : decode cX5_load 1 = .ok (.istore 4, 2) := by decide +kernel
theorem dX5_load_3 : decode cX5_load 3 = .ok (.iload 4, 2) := by decide +kernel
theorem dX5_load_5 : decode cX5_load 5 = .ok (.bipush 20, 2) := by decide +kernel
theorem dX5_load_7 : decode cX5_load 7 = .ok (.if_icmp .ge 25, 3) := by decide +kernel
theorem dX5_load_10 : decode cX5_load 10 = .ok (.aload_n 0, 1) := by decide +kernel
theorem dX5_load_11 : decode cX5_load 11 = .ok (.getfield 9, 3) := by decide +kernel
theorem dX5_load_14 : decode cX5_load 14 = .ok (.iload 4, 2) := by decide +kernel
theorem dX5_load_16 : decode cX5_load 16 = .ok (.iconst 0, 1) := by decide +kernel
theorem dX5_load_17 : decode cX5_load 17 = .ok (.iastore, 1) := by decide +kernel
theorem dX5_load_18 : decode cX5_load 18 = .ok (.aload_n 0, 1) := by decide +kernel
theorem dX5_load_19 : decode cX5_load 19 = .ok (.getfield 15, 3) := by decide +kernel
theorem dX5_load_22 : decode cX5_load 22 = .ok (.iload 4, 2) := by decide +kernel
theorem dX5_load_24 : decode cX5_load 24 = .ok (.iconst 0, 1) := by decide +kernel
theorem dX5_load_25 : decode cX5_load 25 = .ok (.iastore, 1) := by decide +kernel
theorem dX5_load_26 : decode cX5_load 26 = .ok (.iinc 4 1, 3) := by decide +kernel
theorem dX5_load_29 : decode cX5_load 29 = .ok (.goto (-26), 3) := by decide +kernel
theorem dX5_load_32 : decode cX5_load 32 = .ok (.iload_n 2, 1) := by decide +kernel
theorem dX5_load_33 : decode cX5_load 33 = .ok (.istore 4, 2) := by decide +kernel
theorem dX5_load_35 : decode cX5_load 35 = .ok (.iload 4, 2) := by decide +kernel
theorem dX5_load_37 : decode cX5_load 37 = .ok (.iload_n 3, 1) := by decide +kernel
theorem dX5_load_38 : decode cX5_load 38 = .ok (.if_icmp .ge 87, 3) := by decide +kernel
theorem dX5_load_41 : decode cX5_load 41 = .ok (.aload_n 1, 1) := by decide +kernel
theorem dX5_load_42 : decode cX5_load 42 = .ok (.getfield 18, 3) := by decide +kernel
theorem dX5_load_45 : decode cX5_load 45 = .ok (.iload 4, 2) := by decide +kernel
theorem dX5_load_47 : decode cX5_load 47 = .ok (.iaload, 1) := by decide +kernel
theorem dX5_load_48 : decode cX5_load 48 = .ok (.istore 5, 2) := by decide +kernel
theorem dX5_load_50 : decode cX5_load 50 = .ok (.aload_n 1, 1) := by decide +kernel
theorem dX5_load_51 : decode cX5_load 51 = .ok (.getfield 23, 3) := by decide +kernel
theorem dX5_load_54 : decode cX5_load 54 = .ok (.iload 4, 2) := by decide +kernel
theorem dX5_load_56 : decode cX5_load 56 = .ok (.iaload, 1) := by decide +kernel
theorem dX5_load_57 : decode cX5_load 57 = .ok (.istore 6, 2) := by decide +kernel
theorem dX5_load_59 : decode cX5_load 59 = .ok (.aload_n 0, 1) := by decide +kernel
theorem dX5_load_60 : decode cX5_load 60 = .ok (.getfield 9, 3) := by decide +kernel
theorem dX5_load_63 : decode cX5_load 63 = .ok (.iload 5, 2) := by decide +kernel
theorem dX5_load_65 : decode cX5_load 65 = .ok (.aload_n 0, 1) := by decide +kernel
theorem dX5_load_66 : decode cX5_load 66 = .ok (.getfield 9, 3) := by decide +kernel
theorem dX5_load_69 : decode cX5_load 69 = .ok (.iload 5, 2) := by decide +kernel
theorem dX5_load_71 : decode cX5_load 71 = .ok (.iaload, 1) := by decide +kernel
theorem dX5_load_72 : decode cX5_load 72 = .ok (.iload 6, 2) := by decide +kernel
theorem dX5_load_74 : decode cX5_load 74 = .ok (.iconst 1, 1) := by decide +kernel
theorem dX5_load_75 : decode cX5_load 75 = .ok (.invokestatic 26, 3) := by decide +kernel
theorem dX5_load_78 : decode cX5_load 78 = .ok (.iastore, 1) := by decide +kernel
theorem dX5_load_79 : decode cX5_load 79 = .ok (.aload_n 0, 1) := by decide +kernel
theorem dX5_load_80 : decode cX5_load 80 = .ok (.getfield 15, 3) := by decide +kernel
theorem dX5_load_83 : decode cX5_load 83 = .ok (.iload 5, 2) := by decide +kernel
theorem dX5_load_85 : decode cX5_load 85 = .ok (.aload_n 0, 1) := by decide +kernel
theorem dX5_load_86 : decode cX5_load 86 = .ok (.getfield 15, 3) := by decide +kernel
theorem dX5_load_89 : decode cX5_load 89 = .ok (.iload 5, 2) := by decide +kernel
theorem dX5_load_91 : decode cX5_load 91 = .ok (.iaload, 1) := by decide +kernel
theorem dX5_load_92 : decode cX5_load 92 = .ok (.iload 6, 2) := by decide +kernel
theorem dX5_load_94 : decode cX5_load 94 = .ok (.iconst 1, 1) := by decide +kernel
theorem dX5_load_95 : decode cX5_load 95 = .ok (.invokestatic 26, 3) := by decide +kernel
theorem dX5_load_98 : decode cX5_load 98 = .ok (.iastore, 1) := by decide +kernel
theorem dX5_load_99 : decode cX5_load 99 = .ok (.aload_n 0, 1) := by decide +kernel
theorem dX5_load_100 : decode cX5_load 100 = .ok (.getfield 15, 3) := by decide +kernel
theorem dX5_load_103 : decode cX5_load 103 = .ok (.iload 6, 2) := by decide +kernel
theorem dX5_load_105 : decode cX5_load 105 = .ok (.aload_n 0, 1) := by decide +kernel
theorem dX5_load_106 : decode cX5_load 106 = .ok (.getfield 15, 3) := by decide +kernel
theorem dX5_load_109 : decode cX5_load 109 = .ok (.iload 6, 2) := by decide +kernel
theorem dX5_load_111 : decode cX5_load 111 = .ok (.iaload, 1) := by decide +kernel
theorem dX5_load_112 : decode cX5_load 112 = .ok (.iload 5, 2) := by decide +kernel
theorem dX5_load_114 : decode cX5_load 114 = .ok (.iconst 1, 1) := by decide +kernel
theorem dX5_load_115 : decode cX5_load 115 = .ok (.invokestatic 26, 3) := by decide +kernel
theorem dX5_load_118 : decode cX5_load 118 = .ok (.iastore, 1) := by decide +kernel
theorem dX5_load_119 : decode cX5_load 119 = .ok (.iinc 4 1, 3) := by decide +kernel
theorem dX5_load_122 : decode cX5_load 122 = .ok (.goto (-87), 3) := by decide +kernel
theorem dX5_load_125 : decode cX5_load 125 = .ok (.return_, 1) := by decide +kernel
theorem dX5_shortestWay_0 : decode cX5_shortestWay 0 = .ok (.iconst 0, 1) := by decide +kernel
theorem dX5_shortestWay_1 : decode cX5_shortestWay 1 = .ok (.istore_n 3, 1) := by decide +kernel
theorem dX5_shortestWay_2 : decode cX5_shortestWay 2 = .ok (.iconst 1, 1) := by decide +kernel
theorem dX5_shortestWay_3 : decode cX5_shortestWay 3 = .ok (.iload_n 1, 1) := by decide +kernel
theorem dX5_shortestWay_4 : decode cX5_shortestWay 4 = .ok (.ishl, 1) := by decide +kernel
theorem dX5_shortestWay_5 : decode cX5_shortestWay 5 = .ok (.istore 4, 2) := by decide +kernel
theorem dX5_shortestWay_7 : decode cX5_shortestWay 7 = .ok (.iconst 1, 1) := by decide +kernel
theorem dX5_shortestWay_8 : decode cX5_shortestWay 8 = .ok (.istore 5, 2) := by decide +kernel
theorem dX5_shortestWay_10 : decode cX5_shortestWay 10 = .ok (.iload 5, 2) := by decide +kernel
theorem dX5_shortestWay_12 : decode cX5_shortestWay 12 = .ok (.bipush 20, 2) := by decide +kernel
theorem dX5_shortestWay_14 : decode cX5_shortestWay 14 = .ok (.if_icmp .gt 41, 3) := by decide +kernel
theorem dX5_shortestWay_17 : decode cX5_shortestWay 17 = .ok (.aload_n 0, 1) := by decide +kernel
theorem dX5_shortestWay_18 : decode cX5_shortestWay 18 = .ok (.getfield 9, 3) := by decide +kernel
theorem dX5_shortestWay_21 : decode cX5_shortestWay 21 = .ok (.iload 4, 2) := by decide +kernel
theorem dX5_shortestWay_23 : decode cX5_shortestWay 23 = .ok (.invokestatic 30, 3) := by decide +kernel
theorem dX5_shortestWay_26 : decode cX5_shortestWay 26 = .ok (.iload_n 3, 1) := by decide +kernel
theorem dX5_shortestWay_27 : decode cX5_shortestWay 27 = .ok (.iconst (-1), 1) := by decide +kernel
theorem dX5_shortestWay_28 : decode cX5_shortestWay 28 = .ok (.ixor, 1) := by decide +kernel
theorem dX5_shortestWay_29 : decode cX5_shortestWay 29 = .ok (.iand, 1) := by decide +kernel
theorem dX5_shortestWay_30 : decode cX5_shortestWay 30 = .ok (.istore 4, 2) := by decide +kernel
theorem dX5_shortestWay_32 : decode cX5_shortestWay 32 = .ok (.iload 4, 2) := by decide +kernel
theorem dX5_shortestWay_34 : decode cX5_shortestWay 34 = .ok (.iload_n 2, 1) := by decide +kernel
theorem dX5_shortestWay_35 : decode cX5_shortestWay 35 = .ok (.invokestatic 34, 3) := by decide +kernel
theorem dX5_shortestWay_38 : decode cX5_shortestWay 38 = .ok (.ifCond .eq 6, 3) := by decide +kernel
theorem dX5_shortestWay_41 : decode cX5_shortestWay 41 = .ok (.iload 5, 2) := by decide +kernel
theorem dX5_shortestWay_43 : decode cX5_shortestWay 43 = .ok (.ireturn, 1) := by decide +kernel
theorem dX5_shortestWay_44 : decode cX5_shortestWay 44 = .ok (.iload_n 3, 1) := by decide +kernel
theorem dX5_shortestWay_45 : decode cX5_shortestWay 45 = .ok (.iload 4, 2) := by decide +kernel
theorem dX5_shortestWay_47 : decode cX5_shortestWay 47 = .ok (.ior, 1) := by decide +kernel
theorem dX5_shortestWay_48 : decode cX5_shortestWay 48 = .ok (.istore_n 3, 1) := by decide +kernel
theorem dX5_shortestWay_49 : decode cX5_shortestWay 49 = .ok (.iinc 5 1, 3) := by decide +kernel
theorem dX5_shortestWay_52 : decode cX5_shortestWay 52 = .ok (.goto (-42), 3) := by decide +kernel
theorem dX5_shortestWay_55 : decode cX5_shortestWay 55 = .ok (.iconst (-1), 1) := by decide +kernel
theorem dX5_shortestWay_56 : decode cX5_shortestWay 56 = .ok (.ireturn, 1) := by decide +kernel
theorem dX5_shortestWayByTrying_0 : decode cX5_shortestWayByTrying 0 = .ok (.iconst 1, 1) := by decide +kernel
theorem dX5_shortestWayByTrying_1 : decode cX5_shortestWayByTrying 1 = .ok (.iload_n 1, 1) := by decide +kernel
theorem dX5_shortestWayByTrying_2 : decode cX5_shortestWayByTrying 2 = .ok (.ishl, 1) := by decide +kernel
theorem dX5_shortestWayByTrying_3 : decode cX5_shortestWayByTrying 3 = .ok (.istore_n 3, 1) := by decide +kernel
theorem dX5_shortestWayByTrying_4 : decode cX5_shortestWayByTrying 4 = .ok (.iconst 1, 1) := by decide +kernel
theorem dX5_shortestWayByTrying_5 : decode cX5_shortestWayByTrying 5 = .ok (.istore 4, 2) := by decide +kernel
theorem dX5_shortestWayByTrying_7 : decode cX5_shortestWayByTrying 7 = .ok (.iload 4, 2) := by decide +kernel
theorem dX5_shortestWayByTrying_9 : decode cX5_shortestWayByTrying 9 = .ok (.bipush 20, 2) := by decide +kernel
theorem dX5_shortestWayByTrying_11 : decode cX5_shortestWayByTrying 11 = .ok (.if_icmp .gt 29, 3) := by decide +kernel
theorem dX5_shortestWayByTrying_14 : decode cX5_shortestWayByTrying 14 = .ok (.aload_n 0, 1) := by decide +kernel
theorem dX5_shortestWayByTrying_15 : decode cX5_shortestWayByTrying 15 = .ok (.getfield 9, 3) := by decide +kernel
theorem dX5_shortestWayByTrying_18 : decode cX5_shortestWayByTrying 18 = .ok (.iload_n 3, 1) := by decide +kernel
