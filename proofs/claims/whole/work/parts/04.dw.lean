theorem dL_open_0 : decode cL_open 0 = .ok (.aload_n 2, 1) := by decide +kernel
theorem dL_open_1 : decode cL_open 1 = .ok (.iconst 0, 1) := by decide +kernel
theorem dL_open_2 : decode cL_open 2 = .ok (.aload_n 0, 1) := by decide +kernel
theorem dL_open_3 : decode cL_open 3 = .ok (.iload_n 1, 1) := by decide +kernel
theorem dL_open_4 : decode cL_open 4 = .ok (.invokevirtual 7, 3) := by decide +kernel
theorem dL_open_7 : decode cL_open 7 = .ok (.i2l, 1) := by decide +kernel
theorem dL_open_8 : decode cL_open 8 = .ok (.lastore, 1) := by decide +kernel
theorem dL_open_9 : decode cL_open 9 = .ok (.goto 9, 3) := by decide +kernel
theorem dL_open_12 : decode cL_open 12 = .ok (.astore_n 3, 1) := by decide +kernel
theorem dL_open_13 : decode cL_open 13 = .ok (.iconst 1, 1) := by decide +kernel
theorem dL_open_14 : decode cL_open 14 = .ok (.ireturn, 1) := by decide +kernel
theorem dL_open_15 : decode cL_open 15 = .ok (.astore_n 3, 1) := by decide +kernel
theorem dL_open_16 : decode cL_open 16 = .ok (.iconst 2, 1) := by decide +kernel
theorem dL_open_17 : decode cL_open 17 = .ok (.ireturn, 1) := by decide +kernel
theorem dL_open_18 : decode cL_open 18 = .ok (.iconst 0, 1) := by decide +kernel
theorem dL_open_19 : decode cL_open 19 = .ok (.ireturn, 1) := by decide +kernel
theorem dL_setMarked_0 : decode cL_setMarked 0 = .ok (.aload_n 3, 1) := by decide +kernel
theorem dL_setMarked_1 : decode cL_setMarked 1 = .ok (.iconst 0, 1) := by decide +kernel
theorem dL_setMarked_2 : decode cL_setMarked 2 = .ok (.aload_n 0, 1) := by decide +kernel
theorem dL_setMarked_3 : decode cL_setMarked 3 = .ok (.iload_n 1, 1) := by decide +kernel
theorem dL_setMarked_4 : decode cL_setMarked 4 = .ok (.iload_n 2, 1) := by decide +kernel
theorem dL_setMarked_5 : decode cL_setMarked 5 = .ok (.invokevirtual 17, 3) := by decide +kernel
theorem dL_setMarked_8 : decode cL_setMarked 8 = .ok (.ifCond .eq 7, 3) := by decide +kernel
theorem dL_setMarked_11 : decode cL_setMarked 11 = .ok (.lconst 1, 1) := by decide +kernel
theorem dL_setMarked_12 : decode cL_setMarked 12 = .ok (.goto 4, 3) := by decide +kernel
theorem dL_setMarked_15 : decode cL_setMarked 15 = .ok (.lconst 0, 1) := by decide +kernel
theorem dL_setMarked_16 : decode cL_setMarked 16 = .ok (.lastore, 1) := by decide +kernel
theorem dL_setMarked_17 : decode cL_setMarked 17 = .ok (.goto 7, 3) := by decide +kernel
theorem dL_setMarked_20 : decode cL_setMarked 20 = .ok (.astore 4, 2) := by decide +kernel
theorem dL_setMarked_22 : decode cL_setMarked 22 = .ok (.iconst 1, 1) := by decide +kernel
theorem dL_setMarked_23 : decode cL_setMarked 23 = .ok (.ireturn, 1) := by decide +kernel
theorem dL_setMarked_24 : decode cL_setMarked 24 = .ok (.iconst 0, 1) := by decide +kernel
theorem dL_setMarked_25 : decode cL_setMarked 25 = .ok (.ireturn, 1) := by decide +kernel
theorem dL_setBlocked_0 : decode cL_setBlocked 0 = .ok (.aload_n 3, 1) := by decide +kernel
theorem dL_setBlocked_1 : decode cL_setBlocked 1 = .ok (.iconst 0, 1) := by decide +kernel
theorem dL_setBlocked_2 : decode cL_setBlocked 2 = .ok (.aload_n 0, 1) := by decide +kernel
theorem dL_setBlocked_3 : decode cL_setBlocked 3 = .ok (.iload_n 1, 1) := by decide +kernel
theorem dL_setBlocked_4 : decode cL_setBlocked 4 = .ok (.iload_n 2, 1) := by decide +kernel
theorem dL_setBlocked_5 : decode cL_setBlocked 5 = .ok (.invokevirtual 23, 3) := by decide +kernel
theorem dL_setBlocked_8 : decode cL_setBlocked 8 = .ok (.ifCond .eq 7, 3) := by decide +kernel
theorem dL_setBlocked_11 : decode cL_setBlocked 11 = .ok (.lconst 1, 1) := by decide +kernel
theorem dL_setBlocked_12 : decode cL_setBlocked 12 = .ok (.goto 4, 3) := by decide +kernel
theorem dL_setBlocked_15 : decode cL_setBlocked 15 = .ok (.lconst 0, 1) := by decide +kernel
theorem dL_setBlocked_16 : decode cL_setBlocked 16 = .ok (.lastore, 1) := by decide +kernel
theorem dL_setBlocked_17 : decode cL_setBlocked 17 = .ok (.goto 7, 3) := by decide +kernel
theorem dL_setBlocked_20 : decode cL_setBlocked 20 = .ok (.astore 4, 2) := by decide +kernel
theorem dL_setBlocked_22 : decode cL_setBlocked 22 = .ok (.iconst 1, 1) := by decide +kernel
theorem dL_setBlocked_23 : decode cL_setBlocked 23 = .ok (.ireturn, 1) := by decide +kernel
theorem dL_setBlocked_24 : decode cL_setBlocked 24 = .ok (.iconst 0, 1) := by decide +kernel
theorem dL_setBlocked_25 : decode cL_setBlocked 25 = .ok (.ireturn, 1) := by decide +kernel
theorem dL_isMarked_0 : decode cL_isMarked 0 = .ok (.aload_n 2, 1) := by decide +kernel
theorem dL_isMarked_1 : decode cL_isMarked 1 = .ok (.iconst 0, 1) := by decide +kernel
theorem dL_isMarked_2 : decode cL_isMarked 2 = .ok (.aload_n 0, 1) := by decide +kernel
theorem dL_isMarked_3 : decode cL_isMarked 3 = .ok (.iload_n 1, 1) := by decide +kernel
theorem dL_isMarked_4 : decode cL_isMarked 4 = .ok (.invokevirtual 26, 3) := by decide +kernel
theorem dL_isMarked_7 : decode cL_isMarked 7 = .ok (.ifCond .eq 7, 3) := by decide +kernel
theorem dL_isMarked_10 : decode cL_isMarked 10 = .ok (.lconst 1, 1) := by decide +kernel
theorem dL_isMarked_11 : decode cL_isMarked 11 = .ok (.goto 4, 3) := by decide +kernel
theorem dL_isMarked_14 : decode cL_isMarked 14 = .ok (.lconst 0, 1) := by decide +kernel
theorem dL_isMarked_15 : decode cL_isMarked 15 = .ok (.lastore, 1) := by decide +kernel
theorem dL_isMarked_16 : decode cL_isMarked 16 = .ok (.goto 6, 3) := by decide +kernel
theorem dL_isMarked_19 : decode cL_isMarked 19 = .ok (.astore_n 3, 1) := by decide +kernel
theorem dL_isMarked_20 : decode cL_isMarked 20 = .ok (.iconst 1, 1) := by decide +kernel
theorem dL_isMarked_21 : decode cL_isMarked 21 = .ok (.ireturn, 1) := by decide +kernel
theorem dL_isMarked_22 : decode cL_isMarked 22 = .ok (.iconst 0, 1) := by decide +kernel
theorem dL_isMarked_23 : decode cL_isMarked 23 = .ok (.ireturn, 1) := by decide +kernel
theorem dL_countryOf_0 : decode cL_countryOf 0 = .ok (.aload_n 2, 1) := by decide +kernel
theorem dL_countryOf_1 : decode cL_countryOf 1 = .ok (.iconst 0, 1) := by decide +kernel
theorem dL_countryOf_2 : decode cL_countryOf 2 = .ok (.aload_n 0, 1) := by decide +kernel
theorem dL_countryOf_3 : decode cL_countryOf 3 = .ok (.iload_n 1, 1) := by decide +kernel
theorem dL_countryOf_4 : decode cL_countryOf 4 = .ok (.invokevirtual 30, 3) := by decide +kernel
theorem dL_countryOf_7 : decode cL_countryOf 7 = .ok (.i2l, 1) := by decide +kernel
theorem dL_countryOf_8 : decode cL_countryOf 8 = .ok (.lastore, 1) := by decide +kernel
theorem dL_countryOf_9 : decode cL_countryOf 9 = .ok (.goto 6, 3) := by decide +kernel
theorem dL_countryOf_12 : decode cL_countryOf 12 = .ok (.astore_n 3, 1) := by decide +kernel
theorem dL_countryOf_13 : decode cL_countryOf 13 = .ok (.iconst 1, 1) := by decide +kernel
theorem dL_countryOf_14 : decode cL_countryOf 14 = .ok (.ireturn, 1) := by decide +kernel
theorem dL_countryOf_15 : decode cL_countryOf 15 = .ok (.iconst 0, 1) := by decide +kernel
theorem dL_countryOf_16 : decode cL_countryOf 16 = .ok (.ireturn, 1) := by decide +kernel
theorem dL_pass_0 : decode cL_pass 0 = .ok (.aload_n 2, 1) := by decide +kernel
theorem dL_pass_1 : decode cL_pass 1 = .ok (.iconst 0, 1) := by decide +kernel
theorem dL_pass_2 : decode cL_pass 2 = .ok (.aload_n 0, 1) := by decide +kernel
theorem dL_pass_3 : decode cL_pass 3 = .ok (.iload_n 1, 1) := by decide +kernel
theorem dL_pass_4 : decode cL_pass 4 = .ok (.invokevirtual 34, 3) := by decide +kernel
theorem dL_pass_7 : decode cL_pass 7 = .ok (.i2l, 1) := by decide +kernel
theorem dL_pass_8 : decode cL_pass 8 = .ok (.lastore, 1) := by decide +kernel
theorem dL_pass_9 : decode cL_pass 9 = .ok (.goto 6, 3) := by decide +kernel
theorem dL_pass_12 : decode cL_pass 12 = .ok (.astore_n 3, 1) := by decide +kernel
theorem dL_pass_13 : decode cL_pass 13 = .ok (.iconst 1, 1) := by decide +kernel
theorem dL_pass_14 : decode cL_pass 14 = .ok (.ireturn, 1) := by decide +kernel
theorem dL_pass_15 : decode cL_pass 15 = .ok (.iconst 0, 1) := by decide +kernel
theorem dL_pass_16 : decode cL_pass 16 = .ok (.ireturn, 1) := by decide +kernel
theorem dL_pay_0 : decode cL_pay 0 = .ok (.aload 4, 2) := by decide +kernel
theorem dL_pay_2 : decode cL_pay 2 = .ok (.iconst 0, 1) := by decide +kernel
theorem dL_pay_3 : decode cL_pay 3 = .ok (.aload_n 0, 1) := by decide +kernel
theorem dL_pay_4 : decode cL_pay 4 = .ok (.iload_n 1, 1) := by decide +kernel
theorem dL_pay_5 : decode cL_pay 5 = .ok (.iload_n 2, 1) := by decide +kernel
theorem dL_pay_6 : decode cL_pay 6 = .ok (.iload_n 3, 1) := by decide +kernel
theorem dL_pay_7 : decode cL_pay 7 = .ok (.invokevirtual 38, 3) := by decide +kernel
theorem dL_pay_10 : decode cL_pay 10 = .ok (.i2l, 1) := by decide +kernel
theorem dL_pay_11 : decode cL_pay 11 = .ok (.lastore, 1) := by decide +kernel
theorem dL_pay_12 : decode cL_pay 12 = .ok (.goto 19, 3) := by decide +kernel
theorem dL_pay_15 : decode cL_pay 15 = .ok (.astore 5, 2) := by decide +kernel
theorem dL_pay_17 : decode cL_pay 17 = .ok (.iconst 1, 1) := by decide +kernel
theorem dL_pay_18 : decode cL_pay 18 = .ok (.ireturn, 1) := by decide +kernel
theorem dL_pay_19 : decode cL_pay 19 = .ok (.astore 5, 2) := by decide +kernel
theorem dL_pay_21 : decode cL_pay 21 = .ok (.iconst 2, 1) := by decide +kernel
theorem dL_pay_22 : decode cL_pay 22 = .ok (.ireturn, 1) := by decide +kernel
theorem dL_pay_23 : decode cL_pay 23 = .ok (.astore 5, 2) := by decide +kernel
theorem dL_pay_25 : decode cL_pay 25 = .ok (.iconst 3, 1) := by decide +kernel
theorem dL_pay_26 : decode cL_pay 26 = .ok (.ireturn, 1) := by decide +kernel
theorem dL_pay_27 : decode cL_pay 27 = .ok (.astore 5, 2) := by decide +kernel
theorem dL_pay_29 : decode cL_pay 29 = .ok (.iconst 4, 1) := by decide +kernel
theorem dL_pay_30 : decode cL_pay 30 = .ok (.ireturn, 1) := by decide +kernel
theorem dL_pay_31 : decode cL_pay 31 = .ok (.iconst 0, 1) := by decide +kernel
theorem dL_pay_32 : decode cL_pay 32 = .ok (.ireturn, 1) := by decide +kernel
theorem dL_minuteOf_0 : decode cL_minuteOf 0 = .ok (.aload_n 2, 1) := by decide +kernel
theorem dL_minuteOf_1 : decode cL_minuteOf 1 = .ok (.iconst 0, 1) := by decide +kernel
theorem dL_minuteOf_2 : decode cL_minuteOf 2 = .ok (.aload_n 0, 1) := by decide +kernel
theorem dL_minuteOf_3 : decode cL_minuteOf 3 = .ok (.iload_n 1, 1) := by decide +kernel
theorem dL_minuteOf_4 : decode cL_minuteOf 4 = .ok (.invokevirtual 44, 3) := by decide +kernel
theorem dL_minuteOf_7 : decode cL_minuteOf 7 = .ok (.i2l, 1) := by decide +kernel
theorem dL_minuteOf_8 : decode cL_minuteOf 8 = .ok (.lastore, 1) := by decide +kernel
theorem dL_minuteOf_9 : decode cL_minuteOf 9 = .ok (.goto 6, 3) := by decide +kernel
theorem dL_minuteOf_12 : decode cL_minuteOf 12 = .ok (.astore_n 3, 1) := by decide +kernel
theorem dL_minuteOf_13 : decode cL_minuteOf 13 = .ok (.iconst 1, 1) := by decide +kernel
theorem dL_minuteOf_14 : decode cL_minuteOf 14 = .ok (.ireturn, 1) := by decide +kernel
theorem dL_minuteOf_15 : decode cL_minuteOf 15 = .ok (.iconst 0, 1) := by decide +kernel
theorem dL_minuteOf_16 : decode cL_minuteOf 16 = .ok (.ireturn, 1) := by decide +kernel
theorem dL_sentBy_0 : decode cL_sentBy 0 = .ok (.aload_n 3, 1) := by decide +kernel
theorem dL_sentBy_1 : decode cL_sentBy 1 = .ok (.iconst 0, 1) := by decide +kernel
theorem dL_sentBy_2 : decode cL_sentBy 2 = .ok (.aload_n 0, 1) := by decide +kernel
theorem dL_sentBy_3 : decode cL_sentBy 3 = .ok (.iload_n 1, 1) := by decide +kernel
theorem dL_sentBy_4 : decode cL_sentBy 4 = .ok (.iload_n 2, 1) := by decide +kernel
theorem dL_sentBy_5 : decode cL_sentBy 5 = .ok (.invokevirtual 49, 3) := by decide +kernel
theorem dL_sentBy_8 : decode cL_sentBy 8 = .ok (.i2l, 1) := by decide +kernel
theorem dL_sentBy_9 : decode cL_sentBy 9 = .ok (.lastore, 1) := by decide +kernel
theorem dL_sentBy_10 : decode cL_sentBy 10 = .ok (.goto 11, 3) := by decide +kernel
theorem dL_sentBy_13 : decode cL_sentBy 13 = .ok (.astore 4, 2) := by decide +kernel
theorem dL_sentBy_15 : decode cL_sentBy 15 = .ok (.iconst 1, 1) := by decide +kernel
theorem dL_sentBy_16 : decode cL_sentBy 16 = .ok (.ireturn, 1) := by decide +kernel
theorem dL_sentBy_17 : decode cL_sentBy 17 = .ok (.astore 4, 2) := by decide +kernel
theorem dL_sentBy_19 : decode cL_sentBy 19 = .ok (.iconst 2, 1) := by decide +kernel
theorem dL_sentBy_20 : decode cL_sentBy 20 = .ok (.ireturn, 1) := by decide +kernel
theorem dL_sentBy_21 : decode cL_sentBy 21 = .ok (.iconst 0, 1) := by decide +kernel
theorem dL_sentBy_22 : decode cL_sentBy 22 = .ok (.ireturn, 1) := by decide +kernel
theorem dL_sentByAnew_0 : decode cL_sentByAnew 0 = .ok (.aload_n 3, 1) := by decide +kernel
theorem dL_sentByAnew_1 : decode cL_sentByAnew 1 = .ok (.iconst 0, 1) := by decide +kernel
theorem dL_sentByAnew_2 : decode cL_sentByAnew 2 = .ok (.aload_n 0, 1) := by decide +kernel
theorem dL_sentByAnew_3 : decode cL_sentByAnew 3 = .ok (.iload_n 1, 1) := by decide +kernel
theorem dL_sentByAnew_4 : decode cL_sentByAnew 4 = .ok (.iload_n 2, 1) := by decide +kernel
theorem dL_sentByAnew_5 : decode cL_sentByAnew 5 = .ok (.invokevirtual 53, 3) := by decide +kernel
theorem dL_sentByAnew_8 : decode cL_sentByAnew 8 = .ok (.i2l, 1) := by decide +kernel
theorem dL_sentByAnew_9 : decode cL_sentByAnew 9 = .ok (.lastore, 1) := by decide +kernel
theorem dL_sentByAnew_10 : decode cL_sentByAnew 10 = .ok (.goto 11, 3) := by decide +kernel
theorem dL_sentByAnew_13 : decode cL_sentByAnew 13 = .ok (.astore 4, 2) := by decide +kernel
theorem dL_sentByAnew_15 : decode cL_sentByAnew 15 = .ok (.iconst 1, 1) := by decide +kernel
theorem dL_sentByAnew_16 : decode cL_sentByAnew 16 = .ok (.ireturn, 1) := by decide +kernel
theorem dL_sentByAnew_17 : decode cL_sentByAnew 17 = .ok (.astore 4, 2) := by decide +kernel
theorem dL_sentByAnew_19 : decode cL_sentByAnew 19 = .ok (.iconst 2, 1) := by decide +kernel
theorem dL_sentByAnew_20 : decode cL_sentByAnew 20 = .ok (.ireturn, 1) := by decide +kernel
theorem dL_sentByAnew_21 : decode cL_sentByAnew 21 = .ok (.iconst 0, 1) := by decide +kernel
theorem dL_sentByAnew_22 : decode cL_sentByAnew 22 = .ok (.ireturn, 1) := by decide +kernel
theorem dL_valueOf_0 : decode cL_valueOf 0 = .ok (.aload 4, 2) := by decide +kernel
theorem dL_valueOf_2 : decode cL_valueOf 2 = .ok (.iconst 0, 1) := by decide +kernel
theorem dL_valueOf_3 : decode cL_valueOf 3 = .ok (.aload_n 0, 1) := by decide +kernel
theorem dL_valueOf_4 : decode cL_valueOf 4 = .ok (.iload_n 1, 1) := by decide +kernel
theorem dL_valueOf_5 : decode cL_valueOf 5 = .ok (.iload_n 2, 1) := by decide +kernel
theorem dL_valueOf_6 : decode cL_valueOf 6 = .ok (.iload_n 3, 1) := by decide +kernel
theorem dL_valueOf_7 : decode cL_valueOf 7 = .ok (.invokevirtual 56, 3) := by decide +kernel
theorem dL_valueOf_10 : decode cL_valueOf 10 = .ok (.i2l, 1) := by decide +kernel
theorem dL_valueOf_11 : decode cL_valueOf 11 = .ok (.lastore, 1) := by decide +kernel
theorem dL_valueOf_12 : decode cL_valueOf 12 = .ok (.goto 11, 3) := by decide +kernel
theorem dL_valueOf_15 : decode cL_valueOf 15 = .ok (.astore 5, 2) := by decide +kernel
theorem dL_valueOf_17 : decode cL_valueOf 17 = .ok (.iconst 1, 1) := by decide +kernel
theorem dL_valueOf_18 : decode cL_valueOf 18 = .ok (.ireturn, 1) := by decide +kernel
theorem dL_valueOf_19 : decode cL_valueOf 19 = .ok (.astore 5, 2) := by decide +kernel
theorem dL_valueOf_21 : decode cL_valueOf 21 = .ok (.iconst 2, 1) := by decide +kernel
theorem dL_valueOf_22 : decode cL_valueOf 22 = .ok (.ireturn, 1) := by decide +kernel
theorem dL_valueOf_23 : decode cL_valueOf 23 = .ok (.iconst 0, 1) := by decide +kernel
theorem dL_valueOf_24 : decode cL_valueOf 24 = .ok (.ireturn, 1) := by decide +kernel
theorem dL_addTest_0 : decode cL_addTest 0 = .ok (.aload 5, 2) := by decide +kernel
theorem dL_addTest_2 : decode cL_addTest 2 = .ok (.iconst 0, 1) := by decide +kernel
theorem dL_addTest_3 : decode cL_addTest 3 = .ok (.aload_n 0, 1) := by decide +kernel
theorem dL_addTest_4 : decode cL_addTest 4 = .ok (.iload_n 1, 1) := by decide +kernel
theorem dL_addTest_5 : decode cL_addTest 5 = .ok (.iload_n 2, 1) := by decide +kernel
theorem dL_addTest_6 : decode cL_addTest 6 = .ok (.iload_n 3, 1) := by decide +kernel
theorem dL_addTest_7 : decode cL_addTest 7 = .ok (.iload 4, 2) := by decide +kernel
theorem dL_addTest_9 : decode cL_addTest 9 = .ok (.invokevirtual 60, 3) := by decide +kernel
theorem dL_addTest_12 : decode cL_addTest 12 = .ok (.i2l, 1) := by decide +kernel
theorem dL_addTest_13 : decode cL_addTest 13 = .ok (.lastore, 1) := by decide +kernel
theorem dL_addTest_14 : decode cL_addTest 14 = .ok (.goto 11, 3) := by decide +kernel
theorem dL_addTest_17 : decode cL_addTest 17 = .ok (.astore 6, 2) := by decide +kernel
theorem dL_addTest_19 : decode cL_addTest 19 = .ok (.iconst 1, 1) := by decide +kernel
theorem dL_addTest_20 : decode cL_addTest 20 = .ok (.ireturn, 1) := by decide +kernel
theorem dL_addTest_21 : decode cL_addTest 21 = .ok (.astore 6, 2) := by decide +kernel
theorem dL_addTest_23 : decode cL_addTest 23 = .ok (.iconst 2, 1) := by decide +kernel
theorem dL_addTest_24 : decode cL_addTest 24 = .ok (.ireturn, 1) := by decide +kernel
theorem dL_addTest_25 : decode cL_addTest 25 = .ok (.iconst 0, 1) := by decide +kernel
theorem dL_addTest_26 : decode cL_addTest 26 = .ok (.ireturn, 1) := by decide +kernel
theorem dL_addBoth_0 : decode cL_addBoth 0 = .ok (.aload_n 3, 1) := by decide +kernel
theorem dL_addBoth_1 : decode cL_addBoth 1 = .ok (.iconst 0, 1) := by decide +kernel
theorem dL_addBoth_2 : decode cL_addBoth 2 = .ok (.aload_n 0, 1) := by decide +kernel
theorem dL_addBoth_3 : decode cL_addBoth 3 = .ok (.iload_n 1, 1) := by decide +kernel
theorem dL_addBoth_4 : decode cL_addBoth 4 = .ok (.iload_n 2, 1) := by decide +kernel
theorem dL_addBoth_5 : decode cL_addBoth 5 = .ok (.invokevirtual 64, 3) := by decide +kernel
theorem dL_addBoth_8 : decode cL_addBoth 8 = .ok (.i2l, 1) := by decide +kernel
theorem dL_addBoth_9 : decode cL_addBoth 9 = .ok (.lastore, 1) := by decide +kernel
theorem dL_addBoth_10 : decode cL_addBoth 10 = .ok (.goto 15, 3) := by decide +kernel
theorem dL_addBoth_13 : decode cL_addBoth 13 = .ok (.astore 4, 2) := by decide +kernel
theorem dL_addBoth_15 : decode cL_addBoth 15 = .ok (.iconst 1, 1) := by decide +kernel
theorem dL_addBoth_16 : decode cL_addBoth 16 = .ok (.ireturn, 1) := by decide +kernel
theorem dL_addBoth_17 : decode cL_addBoth 17 = .ok (.astore 4, 2) := by decide +kernel
theorem dL_addBoth_19 : decode cL_addBoth 19 = .ok (.iconst 2, 1) := by decide +kernel
theorem dL_addBoth_20 : decode cL_addBoth 20 = .ok (.ireturn, 1) := by decide +kernel
theorem dL_addBoth_21 : decode cL_addBoth 21 = .ok (.astore 4, 2) := by decide +kernel
theorem dL_addBoth_23 : decode cL_addBoth 23 = .ok (.iconst 3, 1) := by decide +kernel
theorem dL_addBoth_24 : decode cL_addBoth 24 = .ok (.ireturn, 1) := by decide +kernel
theorem dL_addBoth_25 : decode cL_addBoth 25 = .ok (.iconst 0, 1) := by decide +kernel
theorem dL_addBoth_26 : decode cL_addBoth 26 = .ok (.ireturn, 1) := by decide +kernel
theorem dL_addEither_0 : decode cL_addEither 0 = .ok (.aload_n 3, 1) := by decide +kernel
theorem dL_addEither_1 : decode cL_addEither 1 = .ok (.iconst 0, 1) := by decide +kernel
theorem dL_addEither_2 : decode cL_addEither 2 = .ok (.aload_n 0, 1) := by decide +kernel
theorem dL_addEither_3 : decode cL_addEither 3 = .ok (.iload_n 1, 1) := by decide +kernel
theorem dL_addEither_4 : decode cL_addEither 4 = .ok (.iload_n 2, 1) := by decide +kernel
theorem dL_addEither_5 : decode cL_addEither 5 = .ok (.invokevirtual 67, 3) := by decide +kernel
theorem dL_addEither_8 : decode cL_addEither 8 = .ok (.i2l, 1) := by decide +kernel
theorem dL_addEither_9 : decode cL_addEither 9 = .ok (.lastore, 1) := by decide +kernel
theorem dL_addEither_10 : decode cL_addEither 10 = .ok (.goto 15, 3) := by decide +kernel
theorem dL_addEither_13 : decode cL_addEither 13 = .ok (.astore 4, 2) := by decide +kernel
theorem dL_addEither_15 : decode cL_addEither 15 = .ok (.iconst 1, 1) := by decide +kernel
theorem dL_addEither_16 : decode cL_addEither 16 = .ok (.ireturn, 1) := by decide +kernel
theorem dL_addEither_17 : decode cL_addEither 17 = .ok (.astore 4, 2) := by decide +kernel
theorem dL_addEither_19 : decode cL_addEither 19 = .ok (.iconst 2, 1) := by decide +kernel
theorem dL_addEither_20 : decode cL_addEither 20 = .ok (.ireturn, 1) := by decide +kernel
theorem dL_addEither_21 : decode cL_addEither 21 = .ok (.astore 4, 2) := by decide +kernel
theorem dL_addEither_23 : decode cL_addEither 23 = .ok (.iconst 3, 1) := by decide +kernel
theorem dL_addEither_24 : decode cL_addEither 24 = .ok (.ireturn, 1) := by decide +kernel
theorem dL_addEither_25 : decode cL_addEither 25 = .ok (.iconst 0, 1) := by decide +kernel
theorem dL_addEither_26 : decode cL_addEither 26 = .ok (.ireturn, 1) := by decide +kernel
theorem dL_addNot_0 : decode cL_addNot 0 = .ok (.aload_n 2, 1) := by decide +kernel
theorem dL_addNot_1 : decode cL_addNot 1 = .ok (.iconst 0, 1) := by decide +kernel
theorem dL_addNot_2 : decode cL_addNot 2 = .ok (.aload_n 0, 1) := by decide +kernel
theorem dL_addNot_3 : decode cL_addNot 3 = .ok (.iload_n 1, 1) := by decide +kernel
theorem dL_addNot_4 : decode cL_addNot 4 = .ok (.invokevirtual 70, 3) := by decide +kernel
theorem dL_addNot_7 : decode cL_addNot 7 = .ok (.i2l, 1) := by decide +kernel
theorem dL_addNot_8 : decode cL_addNot 8 = .ok (.lastore, 1) := by decide +kernel
theorem dL_addNot_9 : decode cL_addNot 9 = .ok (.goto 12, 3) := by decide +kernel
theorem dL_addNot_12 : decode cL_addNot 12 = .ok (.astore_n 3, 1) := by decide +kernel
theorem dL_addNot_13 : decode cL_addNot 13 = .ok (.iconst 1, 1) := by decide +kernel
theorem dL_addNot_14 : decode cL_addNot 14 = .ok (.ireturn, 1) := by decide +kernel
theorem dL_addNot_15 : decode cL_addNot 15 = .ok (.astore_n 3, 1) := by decide +kernel
theorem dL_addNot_16 : decode cL_addNot 16 = .ok (.iconst 2, 1) := by decide +kernel
theorem dL_addNot_17 : decode cL_addNot 17 = .ok (.ireturn, 1) := by decide +kernel
theorem dL_addNot_18 : decode cL_addNot 18 = .ok (.astore_n 3, 1) := by decide +kernel
theorem dL_addNot_19 : decode cL_addNot 19 = .ok (.iconst 3, 1) := by decide +kernel
theorem dL_addNot_20 : decode cL_addNot 20 = .ok (.ireturn, 1) := by decide +kernel
theorem dL_addNot_21 : decode cL_addNot 21 = .ok (.iconst 0, 1) := by decide +kernel
theorem dL_addNot_22 : decode cL_addNot 22 = .ok (.ireturn, 1) := by decide +kernel
theorem dL_holds_0 : decode cL_holds 0 = .ok (.aload_n 3, 1) := by decide +kernel
theorem dL_holds_1 : decode cL_holds 1 = .ok (.iconst 0, 1) := by decide +kernel
theorem dL_holds_2 : decode cL_holds 2 = .ok (.aload_n 0, 1) := by decide +kernel
theorem dL_holds_3 : decode cL_holds 3 = .ok (.iload_n 1, 1) := by decide +kernel
theorem dL_holds_4 : decode cL_holds 4 = .ok (.iload_n 2, 1) := by decide +kernel
theorem dL_holds_5 : decode cL_holds 5 = .ok (.invokevirtual 73, 3) := by decide +kernel
theorem dL_holds_8 : decode cL_holds 8 = .ok (.ifCond .eq 7, 3) := by decide +kernel
theorem dL_holds_11 : decode cL_holds 11 = .ok (.lconst 1, 1) := by decide +kernel
theorem dL_holds_12 : decode cL_holds 12 = .ok (.goto 4, 3) := by decide +kernel
theorem dL_holds_15 : decode cL_holds 15 = .ok (.lconst 0, 1) := by decide +kernel
theorem dL_holds_16 : decode cL_holds 16 = .ok (.lastore, 1) := by decide +kernel
theorem dL_holds_17 : decode cL_holds 17 = .ok (.goto 11, 3) := by decide +kernel
theorem dL_holds_20 : decode cL_holds 20 = .ok (.astore 4, 2) := by decide +kernel
theorem dL_holds_22 : decode cL_holds 22 = .ok (.iconst 1, 1) := by decide +kernel
theorem dL_holds_23 : decode cL_holds 23 = .ok (.ireturn, 1) := by decide +kernel
theorem dL_holds_24 : decode cL_holds 24 = .ok (.astore 4, 2) := by decide +kernel
theorem dL_holds_26 : decode cL_holds 26 = .ok (.iconst 2, 1) := by decide +kernel
theorem dL_holds_27 : decode cL_holds 27 = .ok (.ireturn, 1) := by decide +kernel
theorem dL_holds_28 : decode cL_holds 28 = .ok (.iconst 0, 1) := by decide +kernel
theorem dL_holds_29 : decode cL_holds 29 = .ok (.ireturn, 1) := by decide +kernel
theorem dL_sizeOf_0 : decode cL_sizeOf 0 = .ok (.aload_n 2, 1) := by decide +kernel
theorem dL_sizeOf_1 : decode cL_sizeOf 1 = .ok (.iconst 0, 1) := by decide +kernel
theorem dL_sizeOf_2 : decode cL_sizeOf 2 = .ok (.aload_n 0, 1) := by decide +kernel
theorem dL_sizeOf_3 : decode cL_sizeOf 3 = .ok (.iload_n 1, 1) := by decide +kernel
theorem dL_sizeOf_4 : decode cL_sizeOf 4 = .ok (.invokevirtual 77, 3) := by decide +kernel
theorem dL_sizeOf_7 : decode cL_sizeOf 7 = .ok (.i2l, 1) := by decide +kernel
theorem dL_sizeOf_8 : decode cL_sizeOf 8 = .ok (.lastore, 1) := by decide +kernel
theorem dL_sizeOf_9 : decode cL_sizeOf 9 = .ok (.goto 6, 3) := by decide +kernel
theorem dL_sizeOf_12 : decode cL_sizeOf 12 = .ok (.astore_n 3, 1) := by decide +kernel
theorem dL_sizeOf_13 : decode cL_sizeOf 13 = .ok (.iconst 1, 1) := by decide +kernel
theorem dL_sizeOf_14 : decode cL_sizeOf 14 = .ok (.ireturn, 1) := by decide +kernel
theorem dL_sizeOf_15 : decode cL_sizeOf 15 = .ok (.iconst 0, 1) := by decide +kernel
theorem dL_sizeOf_16 : decode cL_sizeOf 16 = .ok (.ireturn, 1) := by decide +kernel
theorem dL_addRule_0 : decode cL_addRule 0 = .ok (.aload_n 3, 1) := by decide +kernel
theorem dL_addRule_1 : decode cL_addRule 1 = .ok (.iconst 0, 1) := by decide +kernel
theorem dL_addRule_2 : decode cL_addRule 2 = .ok (.aload_n 0, 1) := by decide +kernel
theorem dL_addRule_3 : decode cL_addRule 3 = .ok (.iload_n 1, 1) := by decide +kernel
theorem dL_addRule_4 : decode cL_addRule 4 = .ok (.iload_n 2, 1) := by decide +kernel
theorem dL_addRule_5 : decode cL_addRule 5 = .ok (.invokevirtual 80, 3) := by decide +kernel
theorem dL_addRule_8 : decode cL_addRule 8 = .ok (.i2l, 1) := by decide +kernel
theorem dL_addRule_9 : decode cL_addRule 9 = .ok (.lastore, 1) := by decide +kernel
theorem dL_addRule_10 : decode cL_addRule 10 = .ok (.goto 15, 3) := by decide +kernel
theorem dL_addRule_13 : decode cL_addRule 13 = .ok (.astore 4, 2) := by decide +kernel
theorem dL_addRule_15 : decode cL_addRule 15 = .ok (.iconst 1, 1) := by decide +kernel
theorem dL_addRule_16 : decode cL_addRule 16 = .ok (.ireturn, 1) := by decide +kernel
theorem dL_addRule_17 : decode cL_addRule 17 = .ok (.astore 4, 2) := by decide +kernel
theorem dL_addRule_19 : decode cL_addRule 19 = .ok (.iconst 2, 1) := by decide +kernel
theorem dL_addRule_20 : decode cL_addRule 20 = .ok (.ireturn, 1) := by decide +kernel
theorem dL_addRule_21 : decode cL_addRule 21 = .ok (.astore 4, 2) := by decide +kernel
theorem dL_addRule_23 : decode cL_addRule 23 = .ok (.iconst 3, 1) := by decide +kernel
theorem dL_addRule_24 : decode cL_addRule 24 = .ok (.ireturn, 1) := by decide +kernel
theorem dL_addRule_25 : decode cL_addRule 25 = .ok (.iconst 0, 1) := by decide +kernel
theorem dL_addRule_26 : decode cL_addRule 26 = .ok (.ireturn, 1) := by decide +kernel
theorem dL_setRule_0 : decode cL_setRule 0 = .ok (.aload_n 3, 1) := by decide +kernel
theorem dL_setRule_1 : decode cL_setRule 1 = .ok (.iconst 0, 1) := by decide +kernel
theorem dL_setRule_2 : decode cL_setRule 2 = .ok (.aload_n 0, 1) := by decide +kernel
theorem dL_setRule_3 : decode cL_setRule 3 = .ok (.iload_n 1, 1) := by decide +kernel
theorem dL_setRule_4 : decode cL_setRule 4 = .ok (.iload_n 2, 1) := by decide +kernel
theorem dL_setRule_5 : decode cL_setRule 5 = .ok (.invokevirtual 83, 3) := by decide +kernel
theorem dL_setRule_8 : decode cL_setRule 8 = .ok (.ifCond .eq 7, 3) := by decide +kernel
theorem dL_setRule_11 : decode cL_setRule 11 = .ok (.lconst 1, 1) := by decide +kernel
theorem dL_setRule_12 : decode cL_setRule 12 = .ok (.goto 4, 3) := by decide +kernel
theorem dL_setRule_15 : decode cL_setRule 15 = .ok (.lconst 0, 1) := by decide +kernel
theorem dL_setRule_16 : decode cL_setRule 16 = .ok (.lastore, 1) := by decide +kernel
theorem dL_setRule_17 : decode cL_setRule 17 = .ok (.goto 7, 3) := by decide +kernel
theorem dL_setRule_20 : decode cL_setRule 20 = .ok (.astore 4, 2) := by decide +kernel
theorem dL_setRule_22 : decode cL_setRule 22 = .ok (.iconst 1, 1) := by decide +kernel
theorem dL_setRule_23 : decode cL_setRule 23 = .ok (.ireturn, 1) := by decide +kernel
theorem dL_setRule_24 : decode cL_setRule 24 = .ok (.iconst 0, 1) := by decide +kernel
theorem dL_setRule_25 : decode cL_setRule 25 = .ok (.ireturn, 1) := by decide +kernel
theorem dL_setThreshold_0 : decode cL_setThreshold 0 = .ok (.aload_n 2, 1) := by decide +kernel
theorem dL_setThreshold_1 : decode cL_setThreshold 1 = .ok (.iconst 0, 1) := by decide +kernel
theorem dL_setThreshold_2 : decode cL_setThreshold 2 = .ok (.aload_n 0, 1) := by decide +kernel
theorem dL_setThreshold_3 : decode cL_setThreshold 3 = .ok (.iload_n 1, 1) := by decide +kernel
theorem dL_setThreshold_4 : decode cL_setThreshold 4 = .ok (.invokevirtual 86, 3) := by decide +kernel
theorem dL_setThreshold_7 : decode cL_setThreshold 7 = .ok (.i2l, 1) := by decide +kernel
theorem dL_setThreshold_8 : decode cL_setThreshold 8 = .ok (.lastore, 1) := by decide +kernel
theorem dL_setThreshold_9 : decode cL_setThreshold 9 = .ok (.goto 6, 3) := by decide +kernel
theorem dL_setThreshold_12 : decode cL_setThreshold 12 = .ok (.astore_n 3, 1) := by decide +kernel
theorem dL_setThreshold_13 : decode cL_setThreshold 13 = .ok (.iconst 1, 1) := by decide +kernel
theorem dL_setThreshold_14 : decode cL_setThreshold 14 = .ok (.ireturn, 1) := by decide +kernel
theorem dL_setThreshold_15 : decode cL_setThreshold 15 = .ok (.iconst 0, 1) := by decide +kernel
theorem dL_setThreshold_16 : decode cL_setThreshold 16 = .ok (.ireturn, 1) := by decide +kernel
theorem dL_score_0 : decode cL_score 0 = .ok (.aload_n 2, 1) := by decide +kernel
theorem dL_score_1 : decode cL_score 1 = .ok (.iconst 0, 1) := by decide +kernel
theorem dL_score_2 : decode cL_score 2 = .ok (.aload_n 0, 1) := by decide +kernel
theorem dL_score_3 : decode cL_score 3 = .ok (.iload_n 1, 1) := by decide +kernel
theorem dL_score_4 : decode cL_score 4 = .ok (.invokevirtual 89, 3) := by decide +kernel
theorem dL_score_7 : decode cL_score 7 = .ok (.i2l, 1) := by decide +kernel
theorem dL_score_8 : decode cL_score 8 = .ok (.lastore, 1) := by decide +kernel
theorem dL_score_9 : decode cL_score 9 = .ok (.goto 6, 3) := by decide +kernel
theorem dL_score_12 : decode cL_score 12 = .ok (.astore_n 3, 1) := by decide +kernel
theorem dL_score_13 : decode cL_score 13 = .ok (.iconst 1, 1) := by decide +kernel
theorem dL_score_14 : decode cL_score 14 = .ok (.ireturn, 1) := by decide +kernel
theorem dL_score_15 : decode cL_score 15 = .ok (.iconst 0, 1) := by decide +kernel
theorem dL_score_16 : decode cL_score 16 = .ok (.ireturn, 1) := by decide +kernel
theorem dL_scoreNow_0 : decode cL_scoreNow 0 = .ok (.aload_n 2, 1) := by decide +kernel
theorem dL_scoreNow_1 : decode cL_scoreNow 1 = .ok (.iconst 0, 1) := by decide +kernel
theorem dL_scoreNow_2 : decode cL_scoreNow 2 = .ok (.aload_n 0, 1) := by decide +kernel
theorem dL_scoreNow_3 : decode cL_scoreNow 3 = .ok (.iload_n 1, 1) := by decide +kernel
theorem dL_scoreNow_4 : decode cL_scoreNow 4 = .ok (.invokevirtual 92, 3) := by decide +kernel
theorem dL_scoreNow_7 : decode cL_scoreNow 7 = .ok (.i2l, 1) := by decide +kernel
theorem dL_scoreNow_8 : decode cL_scoreNow 8 = .ok (.lastore, 1) := by decide +kernel
theorem dL_scoreNow_9 : decode cL_scoreNow 9 = .ok (.goto 6, 3) := by decide +kernel
theorem dL_scoreNow_12 : decode cL_scoreNow 12 = .ok (.astore_n 3, 1) := by decide +kernel
theorem dL_scoreNow_13 : decode cL_scoreNow 13 = .ok (.iconst 1, 1) := by decide +kernel
theorem dL_scoreNow_14 : decode cL_scoreNow 14 = .ok (.ireturn, 1) := by decide +kernel
theorem dL_scoreNow_15 : decode cL_scoreNow 15 = .ok (.iconst 0, 1) := by decide +kernel
theorem dL_scoreNow_16 : decode cL_scoreNow 16 = .ok (.ireturn, 1) := by decide +kernel
theorem dL_reasons_0 : decode cL_reasons 0 = .ok (.aload_n 2, 1) := by decide +kernel
theorem dL_reasons_1 : decode cL_reasons 1 = .ok (.iconst 0, 1) := by decide +kernel
theorem dL_reasons_2 : decode cL_reasons 2 = .ok (.aload_n 0, 1) := by decide +kernel
theorem dL_reasons_3 : decode cL_reasons 3 = .ok (.iload_n 1, 1) := by decide +kernel
theorem dL_reasons_4 : decode cL_reasons 4 = .ok (.invokevirtual 95, 3) := by decide +kernel
theorem dL_reasons_7 : decode cL_reasons 7 = .ok (.i2l, 1) := by decide +kernel
theorem dL_reasons_8 : decode cL_reasons 8 = .ok (.lastore, 1) := by decide +kernel
theorem dL_reasons_9 : decode cL_reasons 9 = .ok (.goto 6, 3) := by decide +kernel
theorem dL_reasons_12 : decode cL_reasons 12 = .ok (.astore_n 3, 1) := by decide +kernel
theorem dL_reasons_13 : decode cL_reasons 13 = .ok (.iconst 1, 1) := by decide +kernel
theorem dL_reasons_14 : decode cL_reasons 14 = .ok (.ireturn, 1) := by decide +kernel
theorem dL_reasons_15 : decode cL_reasons 15 = .ok (.iconst 0, 1) := by decide +kernel
theorem dL_reasons_16 : decode cL_reasons 16 = .ok (.ireturn, 1) := by decide +kernel
theorem dL_reasonRule_0 : decode cL_reasonRule 0 = .ok (.aload_n 3, 1) := by decide +kernel
theorem dL_reasonRule_1 : decode cL_reasonRule 1 = .ok (.iconst 0, 1) := by decide +kernel
theorem dL_reasonRule_2 : decode cL_reasonRule 2 = .ok (.aload_n 0, 1) := by decide +kernel
theorem dL_reasonRule_3 : decode cL_reasonRule 3 = .ok (.iload_n 1, 1) := by decide +kernel
theorem dL_reasonRule_4 : decode cL_reasonRule 4 = .ok (.iload_n 2, 1) := by decide +kernel
theorem dL_reasonRule_5 : decode cL_reasonRule 5 = .ok (.invokevirtual 98, 3) := by decide +kernel
theorem dL_reasonRule_8 : decode cL_reasonRule 8 = .ok (.i2l, 1) := by decide +kernel
theorem dL_reasonRule_9 : decode cL_reasonRule 9 = .ok (.lastore, 1) := by decide +kernel
theorem dL_reasonRule_10 : decode cL_reasonRule 10 = .ok (.goto 11, 3) := by decide +kernel
theorem dL_reasonRule_13 : decode cL_reasonRule 13 = .ok (.astore 4, 2) := by decide +kernel
theorem dL_reasonRule_15 : decode cL_reasonRule 15 = .ok (.iconst 1, 1) := by decide +kernel
theorem dL_reasonRule_16 : decode cL_reasonRule 16 = .ok (.ireturn, 1) := by decide +kernel
theorem dL_reasonRule_17 : decode cL_reasonRule 17 = .ok (.astore 4, 2) := by decide +kernel
theorem dL_reasonRule_19 : decode cL_reasonRule 19 = .ok (.iconst 2, 1) := by decide +kernel
theorem dL_reasonRule_20 : decode cL_reasonRule 20 = .ok (.ireturn, 1) := by decide +kernel
theorem dL_reasonRule_21 : decode cL_reasonRule 21 = .ok (.iconst 0, 1) := by decide +kernel
theorem dL_reasonRule_22 : decode cL_reasonRule 22 = .ok (.ireturn, 1) := by decide +kernel
theorem dL_reasonTests_0 : decode cL_reasonTests 0 = .ok (.aload_n 3, 1) := by decide +kernel
theorem dL_reasonTests_1 : decode cL_reasonTests 1 = .ok (.iconst 0, 1) := by decide +kernel
theorem dL_reasonTests_2 : decode cL_reasonTests 2 = .ok (.aload_n 0, 1) := by decide +kernel
theorem dL_reasonTests_3 : decode cL_reasonTests 3 = .ok (.iload_n 1, 1) := by decide +kernel
theorem dL_reasonTests_4 : decode cL_reasonTests 4 = .ok (.iload_n 2, 1) := by decide +kernel
theorem dL_reasonTests_5 : decode cL_reasonTests 5 = .ok (.invokevirtual 101, 3) := by decide +kernel
theorem dL_reasonTests_8 : decode cL_reasonTests 8 = .ok (.i2l, 1) := by decide +kernel
theorem dL_reasonTests_9 : decode cL_reasonTests 9 = .ok (.lastore, 1) := by decide +kernel
theorem dL_reasonTests_10 : decode cL_reasonTests 10 = .ok (.goto 11, 3) := by decide +kernel
theorem dL_reasonTests_13 : decode cL_reasonTests 13 = .ok (.astore 4, 2) := by decide +kernel
theorem dL_reasonTests_15 : decode cL_reasonTests 15 = .ok (.iconst 1, 1) := by decide +kernel
theorem dL_reasonTests_16 : decode cL_reasonTests 16 = .ok (.ireturn, 1) := by decide +kernel
theorem dL_reasonTests_17 : decode cL_reasonTests 17 = .ok (.astore 4, 2) := by decide +kernel
theorem dL_reasonTests_19 : decode cL_reasonTests 19 = .ok (.iconst 2, 1) := by decide +kernel
theorem dL_reasonTests_20 : decode cL_reasonTests 20 = .ok (.ireturn, 1) := by decide +kernel
theorem dL_reasonTests_21 : decode cL_reasonTests 21 = .ok (.iconst 0, 1) := by decide +kernel
theorem dL_reasonTests_22 : decode cL_reasonTests 22 = .ok (.ireturn, 1) := by decide +kernel
theorem dL_reasonFeature_0 : decode cL_reasonFeature 0 = .ok (.aload 4, 2) := by decide +kernel
theorem dL_reasonFeature_2 : decode cL_reasonFeature 2 = .ok (.iconst 0, 1) := by decide +kernel
theorem dL_reasonFeature_3 : decode cL_reasonFeature 3 = .ok (.aload_n 0, 1) := by decide +kernel
theorem dL_reasonFeature_4 : decode cL_reasonFeature 4 = .ok (.iload_n 1, 1) := by decide +kernel
theorem dL_reasonFeature_5 : decode cL_reasonFeature 5 = .ok (.iload_n 2, 1) := by decide +kernel
theorem dL_reasonFeature_6 : decode cL_reasonFeature 6 = .ok (.iload_n 3, 1) := by decide +kernel
theorem dL_reasonFeature_7 : decode cL_reasonFeature 7 = .ok (.invokevirtual 104, 3) := by decide +kernel
theorem dL_reasonFeature_10 : decode cL_reasonFeature 10 = .ok (.i2l, 1) := by decide +kernel
theorem dL_reasonFeature_11 : decode cL_reasonFeature 11 = .ok (.lastore, 1) := by decide +kernel
theorem dL_reasonFeature_12 : decode cL_reasonFeature 12 = .ok (.goto 11, 3) := by decide +kernel
theorem dL_reasonFeature_15 : decode cL_reasonFeature 15 = .ok (.astore 5, 2) := by decide +kernel
theorem dL_reasonFeature_17 : decode cL_reasonFeature 17 = .ok (.iconst 1, 1) := by decide +kernel
theorem dL_reasonFeature_18 : decode cL_reasonFeature 18 = .ok (.ireturn, 1) := by decide +kernel
theorem dL_reasonFeature_19 : decode cL_reasonFeature 19 = .ok (.astore 5, 2) := by decide +kernel
theorem dL_reasonFeature_21 : decode cL_reasonFeature 21 = .ok (.iconst 2, 1) := by decide +kernel
theorem dL_reasonFeature_22 : decode cL_reasonFeature 22 = .ok (.ireturn, 1) := by decide +kernel
theorem dL_reasonFeature_23 : decode cL_reasonFeature 23 = .ok (.iconst 0, 1) := by decide +kernel
theorem dL_reasonFeature_24 : decode cL_reasonFeature 24 = .ok (.ireturn, 1) := by decide +kernel
theorem dL_reasonValue_0 : decode cL_reasonValue 0 = .ok (.aload 4, 2) := by decide +kernel
theorem dL_reasonValue_2 : decode cL_reasonValue 2 = .ok (.iconst 0, 1) := by decide +kernel
theorem dL_reasonValue_3 : decode cL_reasonValue 3 = .ok (.aload_n 0, 1) := by decide +kernel
theorem dL_reasonValue_4 : decode cL_reasonValue 4 = .ok (.iload_n 1, 1) := by decide +kernel
theorem dL_reasonValue_5 : decode cL_reasonValue 5 = .ok (.iload_n 2, 1) := by decide +kernel
theorem dL_reasonValue_6 : decode cL_reasonValue 6 = .ok (.iload_n 3, 1) := by decide +kernel
theorem dL_reasonValue_7 : decode cL_reasonValue 7 = .ok (.invokevirtual 108, 3) := by decide +kernel
theorem dL_reasonValue_10 : decode cL_reasonValue 10 = .ok (.i2l, 1) := by decide +kernel
theorem dL_reasonValue_11 : decode cL_reasonValue 11 = .ok (.lastore, 1) := by decide +kernel
theorem dL_reasonValue_12 : decode cL_reasonValue 12 = .ok (.goto 11, 3) := by decide +kernel
theorem dL_reasonValue_15 : decode cL_reasonValue 15 = .ok (.astore 5, 2) := by decide +kernel
theorem dL_reasonValue_17 : decode cL_reasonValue 17 = .ok (.iconst 1, 1) := by decide +kernel
theorem dL_reasonValue_18 : decode cL_reasonValue 18 = .ok (.ireturn, 1) := by decide +kernel
theorem dL_reasonValue_19 : decode cL_reasonValue 19 = .ok (.astore 5, 2) := by decide +kernel
theorem dL_reasonValue_21 : decode cL_reasonValue 21 = .ok (.iconst 2, 1) := by decide +kernel
theorem dL_reasonValue_22 : decode cL_reasonValue 22 = .ok (.ireturn, 1) := by decide +kernel
theorem dL_reasonValue_23 : decode cL_reasonValue 23 = .ok (.iconst 0, 1) := by decide +kernel
theorem dL_reasonValue_24 : decode cL_reasonValue 24 = .ok (.ireturn, 1) := by decide +kernel
theorem dL_nextAlert_0 : decode cL_nextAlert 0 = .ok (.aload_n 1, 1) := by decide +kernel
theorem dL_nextAlert_1 : decode cL_nextAlert 1 = .ok (.iconst 0, 1) := by decide +kernel
theorem dL_nextAlert_2 : decode cL_nextAlert 2 = .ok (.aload_n 0, 1) := by decide +kernel
theorem dL_nextAlert_3 : decode cL_nextAlert 3 = .ok (.invokevirtual 111, 3) := by decide +kernel
theorem dL_nextAlert_6 : decode cL_nextAlert 6 = .ok (.i2l, 1) := by decide +kernel
theorem dL_nextAlert_7 : decode cL_nextAlert 7 = .ok (.lastore, 1) := by decide +kernel
theorem dL_nextAlert_8 : decode cL_nextAlert 8 = .ok (.goto 6, 3) := by decide +kernel
theorem dL_nextAlert_11 : decode cL_nextAlert 11 = .ok (.astore_n 2, 1) := by decide +kernel
theorem dL_nextAlert_12 : decode cL_nextAlert 12 = .ok (.iconst 1, 1) := by decide +kernel
theorem dL_nextAlert_13 : decode cL_nextAlert 13 = .ok (.ireturn, 1) := by decide +kernel
theorem dL_nextAlert_14 : decode cL_nextAlert 14 = .ok (.iconst 0, 1) := by decide +kernel
theorem dL_nextAlert_15 : decode cL_nextAlert 15 = .ok (.ireturn, 1) := by decide +kernel
theorem dL_alertAt_0 : decode cL_alertAt 0 = .ok (.aload_n 2, 1) := by decide +kernel
theorem dL_alertAt_1 : decode cL_alertAt 1 = .ok (.iconst 0, 1) := by decide +kernel
theorem dL_alertAt_2 : decode cL_alertAt 2 = .ok (.aload_n 0, 1) := by decide +kernel
theorem dL_alertAt_3 : decode cL_alertAt 3 = .ok (.iload_n 1, 1) := by decide +kernel
theorem dL_alertAt_4 : decode cL_alertAt 4 = .ok (.invokevirtual 115, 3) := by decide +kernel
theorem dL_alertAt_7 : decode cL_alertAt 7 = .ok (.i2l, 1) := by decide +kernel
theorem dL_alertAt_8 : decode cL_alertAt 8 = .ok (.lastore, 1) := by decide +kernel
theorem dL_alertAt_9 : decode cL_alertAt 9 = .ok (.goto 6, 3) := by decide +kernel
theorem dL_alertAt_12 : decode cL_alertAt 12 = .ok (.astore_n 3, 1) := by decide +kernel
theorem dL_alertAt_13 : decode cL_alertAt 13 = .ok (.iconst 1, 1) := by decide +kernel
theorem dL_alertAt_14 : decode cL_alertAt 14 = .ok (.ireturn, 1) := by decide +kernel
theorem dL_alertAt_15 : decode cL_alertAt 15 = .ok (.iconst 0, 1) := by decide +kernel
theorem dL_alertAt_16 : decode cL_alertAt 16 = .ok (.ireturn, 1) := by decide +kernel
theorem dL_decide_0 : decode cL_decide 0 = .ok (.aload_n 3, 1) := by decide +kernel
theorem dL_decide_1 : decode cL_decide 1 = .ok (.iconst 0, 1) := by decide +kernel
theorem dL_decide_2 : decode cL_decide 2 = .ok (.aload_n 0, 1) := by decide +kernel
theorem dL_decide_3 : decode cL_decide 3 = .ok (.iload_n 1, 1) := by decide +kernel
theorem dL_decide_4 : decode cL_decide 4 = .ok (.iload_n 2, 1) := by decide +kernel
theorem dL_decide_5 : decode cL_decide 5 = .ok (.invokevirtual 118, 3) := by decide +kernel
theorem dL_decide_8 : decode cL_decide 8 = .ok (.i2l, 1) := by decide +kernel
theorem dL_decide_9 : decode cL_decide 9 = .ok (.lastore, 1) := by decide +kernel
theorem dL_decide_10 : decode cL_decide 10 = .ok (.goto 11, 3) := by decide +kernel
theorem dL_decide_13 : decode cL_decide 13 = .ok (.astore 4, 2) := by decide +kernel
theorem dL_decide_15 : decode cL_decide 15 = .ok (.iconst 1, 1) := by decide +kernel
theorem dL_decide_16 : decode cL_decide 16 = .ok (.ireturn, 1) := by decide +kernel
theorem dL_decide_17 : decode cL_decide 17 = .ok (.astore 4, 2) := by decide +kernel
theorem dL_decide_19 : decode cL_decide 19 = .ok (.iconst 2, 1) := by decide +kernel
theorem dL_decide_20 : decode cL_decide 20 = .ok (.ireturn, 1) := by decide +kernel
theorem dL_decide_21 : decode cL_decide 21 = .ok (.iconst 0, 1) := by decide +kernel
theorem dL_decide_22 : decode cL_decide 22 = .ok (.ireturn, 1) := by decide +kernel
theorem dL_alertOf_0 : decode cL_alertOf 0 = .ok (.aload_n 2, 1) := by decide +kernel
theorem dL_alertOf_1 : decode cL_alertOf 1 = .ok (.iconst 0, 1) := by decide +kernel
theorem dL_alertOf_2 : decode cL_alertOf 2 = .ok (.aload_n 0, 1) := by decide +kernel
theorem dL_alertOf_3 : decode cL_alertOf 3 = .ok (.iload_n 1, 1) := by decide +kernel
theorem dL_alertOf_4 : decode cL_alertOf 4 = .ok (.invokevirtual 122, 3) := by decide +kernel
theorem dL_alertOf_7 : decode cL_alertOf 7 = .ok (.i2l, 1) := by decide +kernel
theorem dL_alertOf_8 : decode cL_alertOf 8 = .ok (.lastore, 1) := by decide +kernel
theorem dL_alertOf_9 : decode cL_alertOf 9 = .ok (.goto 6, 3) := by decide +kernel
theorem dL_alertOf_12 : decode cL_alertOf 12 = .ok (.astore_n 3, 1) := by decide +kernel
theorem dL_alertOf_13 : decode cL_alertOf 13 = .ok (.iconst 1, 1) := by decide +kernel
theorem dL_alertOf_14 : decode cL_alertOf 14 = .ok (.ireturn, 1) := by decide +kernel
theorem dL_alertOf_15 : decode cL_alertOf 15 = .ok (.iconst 0, 1) := by decide +kernel
theorem dL_alertOf_16 : decode cL_alertOf 16 = .ok (.ireturn, 1) := by decide +kernel
theorem dL_ring_0 : decode cL_ring 0 = .ok (.aload_n 3, 1) := by decide +kernel
theorem dL_ring_1 : decode cL_ring 1 = .ok (.iconst 0, 1) := by decide +kernel
theorem dL_ring_2 : decode cL_ring 2 = .ok (.aload_n 0, 1) := by decide +kernel
theorem dL_ring_3 : decode cL_ring 3 = .ok (.iload_n 1, 1) := by decide +kernel
theorem dL_ring_4 : decode cL_ring 4 = .ok (.iload_n 2, 1) := by decide +kernel
theorem dL_ring_5 : decode cL_ring 5 = .ok (.invokevirtual 125, 3) := by decide +kernel
theorem dL_ring_8 : decode cL_ring 8 = .ok (.i2l, 1) := by decide +kernel
theorem dL_ring_9 : decode cL_ring 9 = .ok (.lastore, 1) := by decide +kernel
theorem dL_ring_10 : decode cL_ring 10 = .ok (.goto 15, 3) := by decide +kernel
theorem dL_ring_13 : decode cL_ring 13 = .ok (.astore 4, 2) := by decide +kernel
theorem dL_ring_15 : decode cL_ring 15 = .ok (.iconst 1, 1) := by decide +kernel
theorem dL_ring_16 : decode cL_ring 16 = .ok (.ireturn, 1) := by decide +kernel
theorem dL_ring_17 : decode cL_ring 17 = .ok (.astore 4, 2) := by decide +kernel
theorem dL_ring_19 : decode cL_ring 19 = .ok (.iconst 2, 1) := by decide +kernel
theorem dL_ring_20 : decode cL_ring 20 = .ok (.ireturn, 1) := by decide +kernel
theorem dL_ring_21 : decode cL_ring 21 = .ok (.astore 4, 2) := by decide +kernel
theorem dL_ring_23 : decode cL_ring 23 = .ok (.iconst 3, 1) := by decide +kernel
theorem dL_ring_24 : decode cL_ring 24 = .ok (.ireturn, 1) := by decide +kernel
theorem dL_ring_25 : decode cL_ring 25 = .ok (.iconst 0, 1) := by decide +kernel
theorem dL_ring_26 : decode cL_ring 26 = .ok (.ireturn, 1) := by decide +kernel
theorem dL_ringByTrying_0 : decode cL_ringByTrying 0 = .ok (.aload_n 3, 1) := by decide +kernel
theorem dL_ringByTrying_1 : decode cL_ringByTrying 1 = .ok (.iconst 0, 1) := by decide +kernel
theorem dL_ringByTrying_2 : decode cL_ringByTrying 2 = .ok (.aload_n 0, 1) := by decide +kernel
theorem dL_ringByTrying_3 : decode cL_ringByTrying 3 = .ok (.iload_n 1, 1) := by decide +kernel
theorem dL_ringByTrying_4 : decode cL_ringByTrying 4 = .ok (.iload_n 2, 1) := by decide +kernel
theorem dL_ringByTrying_5 : decode cL_ringByTrying 5 = .ok (.invokevirtual 128, 3) := by decide +kernel
theorem dL_ringByTrying_8 : decode cL_ringByTrying 8 = .ok (.i2l, 1) := by decide +kernel
theorem dL_ringByTrying_9 : decode cL_ringByTrying 9 = .ok (.lastore, 1) := by decide +kernel
theorem dL_ringByTrying_10 : decode cL_ringByTrying 10 = .ok (.goto 15, 3) := by decide +kernel
theorem dL_ringByTrying_13 : decode cL_ringByTrying 13 = .ok (.astore 4, 2) := by decide +kernel
theorem dL_ringByTrying_15 : decode cL_ringByTrying 15 = .ok (.iconst 1, 1) := by decide +kernel
theorem dL_ringByTrying_16 : decode cL_ringByTrying 16 = .ok (.ireturn, 1) := by decide +kernel
theorem dL_ringByTrying_17 : decode cL_ringByTrying 17 = .ok (.astore 4, 2) := by decide +kernel
theorem dL_ringByTrying_19 : decode cL_ringByTrying 19 = .ok (.iconst 2, 1) := by decide +kernel
theorem dL_ringByTrying_20 : decode cL_ringByTrying 20 = .ok (.ireturn, 1) := by decide +kernel
theorem dL_ringByTrying_21 : decode cL_ringByTrying 21 = .ok (.astore 4, 2) := by decide +kernel
theorem dL_ringByTrying_23 : decode cL_ringByTrying 23 = .ok (.iconst 3, 1) := by decide +kernel
theorem dL_ringByTrying_24 : decode cL_ringByTrying 24 = .ok (.ireturn, 1) := by decide +kernel
theorem dL_ringByTrying_25 : decode cL_ringByTrying 25 = .ok (.iconst 0, 1) := by decide +kernel
theorem dL_ringByTrying_26 : decode cL_ringByTrying 26 = .ok (.ireturn, 1) := by decide +kernel
theorem dL_group_0 : decode cL_group 0 = .ok (.aload_n 3, 1) := by decide +kernel
theorem dL_group_1 : decode cL_group 1 = .ok (.iconst 0, 1) := by decide +kernel
theorem dL_group_2 : decode cL_group 2 = .ok (.aload_n 0, 1) := by decide +kernel
theorem dL_group_3 : decode cL_group 3 = .ok (.iload_n 1, 1) := by decide +kernel
theorem dL_group_4 : decode cL_group 4 = .ok (.iload_n 2, 1) := by decide +kernel
theorem dL_group_5 : decode cL_group 5 = .ok (.invokevirtual 131, 3) := by decide +kernel
theorem dL_group_8 : decode cL_group 8 = .ok (.i2l, 1) := by decide +kernel
theorem dL_group_9 : decode cL_group 9 = .ok (.lastore, 1) := by decide +kernel
theorem dL_group_10 : decode cL_group 10 = .ok (.goto 11, 3) := by decide +kernel
theorem dL_group_13 : decode cL_group 13 = .ok (.astore 4, 2) := by decide +kernel
theorem dL_group_15 : decode cL_group 15 = .ok (.iconst 1, 1) := by decide +kernel
theorem dL_group_16 : decode cL_group 16 = .ok (.ireturn, 1) := by decide +kernel
theorem dL_group_17 : decode cL_group 17 = .ok (.astore 4, 2) := by decide +kernel
theorem dL_group_19 : decode cL_group 19 = .ok (.iconst 2, 1) := by decide +kernel
theorem dL_group_20 : decode cL_group 20 = .ok (.ireturn, 1) := by decide +kernel
theorem dL_group_21 : decode cL_group 21 = .ok (.iconst 0, 1) := by decide +kernel
theorem dL_group_22 : decode cL_group 22 = .ok (.ireturn, 1) := by decide +kernel
theorem dL_caught_0 : decode cL_caught 0 = .ok (.aload_n 2, 1) := by decide +kernel
theorem dL_caught_1 : decode cL_caught 1 = .ok (.iconst 0, 1) := by decide +kernel
theorem dL_caught_2 : decode cL_caught 2 = .ok (.aload_n 0, 1) := by decide +kernel
theorem dL_caught_3 : decode cL_caught 3 = .ok (.iload_n 1, 1) := by decide +kernel
theorem dL_caught_4 : decode cL_caught 4 = .ok (.invokevirtual 134, 3) := by decide +kernel
theorem dL_caught_7 : decode cL_caught 7 = .ok (.i2l, 1) := by decide +kernel
theorem dL_caught_8 : decode cL_caught 8 = .ok (.lastore, 1) := by decide +kernel
theorem dL_caught_9 : decode cL_caught 9 = .ok (.goto 6, 3) := by decide +kernel
theorem dL_caught_12 : decode cL_caught 12 = .ok (.astore_n 3, 1) := by decide +kernel
theorem dL_caught_13 : decode cL_caught 13 = .ok (.iconst 1, 1) := by decide +kernel
theorem dL_caught_14 : decode cL_caught 14 = .ok (.ireturn, 1) := by decide +kernel
theorem dL_caught_15 : decode cL_caught 15 = .ok (.iconst 0, 1) := by decide +kernel
theorem dL_caught_16 : decode cL_caught 16 = .ok (.ireturn, 1) := by decide +kernel
theorem dL_bestThreshold_0 : decode cL_bestThreshold 0 = .ok (.aload_n 2, 1) := by decide +kernel
theorem dL_bestThreshold_1 : decode cL_bestThreshold 1 = .ok (.iconst 0, 1) := by decide +kernel
theorem dL_bestThreshold_2 : decode cL_bestThreshold 2 = .ok (.aload_n 0, 1) := by decide +kernel
theorem dL_bestThreshold_3 : decode cL_bestThreshold 3 = .ok (.iload_n 1, 1) := by decide +kernel
theorem dL_bestThreshold_4 : decode cL_bestThreshold 4 = .ok (.invokevirtual 137, 3) := by decide +kernel
theorem dL_bestThreshold_7 : decode cL_bestThreshold 7 = .ok (.i2l, 1) := by decide +kernel
theorem dL_bestThreshold_8 : decode cL_bestThreshold 8 = .ok (.lastore, 1) := by decide +kernel
theorem dL_bestThreshold_9 : decode cL_bestThreshold 9 = .ok (.goto 6, 3) := by decide +kernel
theorem dL_bestThreshold_12 : decode cL_bestThreshold 12 = .ok (.astore_n 3, 1) := by decide +kernel
theorem dL_bestThreshold_13 : decode cL_bestThreshold 13 = .ok (.iconst 1, 1) := by decide +kernel
theorem dL_bestThreshold_14 : decode cL_bestThreshold 14 = .ok (.ireturn, 1) := by decide +kernel
theorem dL_bestThreshold_15 : decode cL_bestThreshold 15 = .ok (.iconst 0, 1) := by decide +kernel
theorem dL_bestThreshold_16 : decode cL_bestThreshold 16 = .ok (.ireturn, 1) := by decide +kernel
theorem dL_bestThresholdByTrying_0 : decode cL_bestThresholdByTrying 0 = .ok (.aload_n 2, 1) := by decide +kernel
theorem dL_bestThresholdByTrying_1 : decode cL_bestThresholdByTrying 1 = .ok (.iconst 0, 1) := by decide +kernel
theorem dL_bestThresholdByTrying_2 : decode cL_bestThresholdByTrying 2 = .ok (.aload_n 0, 1) := by decide +kernel
theorem dL_bestThresholdByTrying_3 : decode cL_bestThresholdByTrying 3 = .ok (.iload_n 1, 1) := by decide +kernel
theorem dL_bestThresholdByTrying_4 : decode cL_bestThresholdByTrying 4 = .ok (.invokevirtual 140, 3) := by decide +kernel
theorem dL_bestThresholdByTrying_7 : decode cL_bestThresholdByTrying 7 = .ok (.i2l, 1) := by decide +kernel
theorem dL_bestThresholdByTrying_8 : decode cL_bestThresholdByTrying 8 = .ok (.lastore, 1) := by decide +kernel
theorem dL_bestThresholdByTrying_9 : decode cL_bestThresholdByTrying 9 = .ok (.goto 6, 3) := by decide +kernel
theorem dL_bestThresholdByTrying_12 : decode cL_bestThresholdByTrying 12 = .ok (.astore_n 3, 1) := by decide +kernel
theorem dL_bestThresholdByTrying_13 : decode cL_bestThresholdByTrying 13 = .ok (.iconst 1, 1) := by decide +kernel
theorem dL_bestThresholdByTrying_14 : decode cL_bestThresholdByTrying 14 = .ok (.ireturn, 1) := by decide +kernel
theorem dL_bestThresholdByTrying_15 : decode cL_bestThresholdByTrying 15 = .ok (.iconst 0, 1) := by decide +kernel
theorem dL_bestThresholdByTrying_16 : decode cL_bestThresholdByTrying 16 = .ok (.ireturn, 1) := by decide +kernel
theorem dL_precision_0 : decode cL_precision 0 = .ok (.aload_n 2, 1) := by decide +kernel
theorem dL_precision_1 : decode cL_precision 1 = .ok (.iconst 0, 1) := by decide +kernel
theorem dL_precision_2 : decode cL_precision 2 = .ok (.aload_n 0, 1) := by decide +kernel
theorem dL_precision_3 : decode cL_precision 3 = .ok (.iload_n 1, 1) := by decide +kernel
theorem dL_precision_4 : decode cL_precision 4 = .ok (.invokevirtual 143, 3) := by decide +kernel
theorem dL_precision_7 : decode cL_precision 7 = .ok (.f2d, 1) := by decide +kernel
theorem dL_precision_8 : decode cL_precision 8 = .ok (.dastore, 1) := by decide +kernel
theorem dL_precision_9 : decode cL_precision 9 = .ok (.goto 9, 3) := by decide +kernel
theorem dL_precision_12 : decode cL_precision 12 = .ok (.astore_n 3, 1) := by decide +kernel
theorem dL_precision_13 : decode cL_precision 13 = .ok (.iconst 1, 1) := by decide +kernel
theorem dL_precision_14 : decode cL_precision 14 = .ok (.ireturn, 1) := by decide +kernel
theorem dL_precision_15 : decode cL_precision 15 = .ok (.astore_n 3, 1) := by decide +kernel
theorem dL_precision_16 : decode cL_precision 16 = .ok (.iconst 2, 1) := by decide +kernel
theorem dL_precision_17 : decode cL_precision 17 = .ok (.ireturn, 1) := by decide +kernel
theorem dL_precision_18 : decode cL_precision 18 = .ok (.iconst 0, 1) := by decide +kernel
theorem dL_precision_19 : decode cL_precision 19 = .ok (.ireturn, 1) := by decide +kernel
theorem dL_meanScore_0 : decode cL_meanScore 0 = .ok (.aload_n 1, 1) := by decide +kernel
theorem dL_meanScore_1 : decode cL_meanScore 1 = .ok (.iconst 0, 1) := by decide +kernel
theorem dL_meanScore_2 : decode cL_meanScore 2 = .ok (.aload_n 0, 1) := by decide +kernel
theorem dL_meanScore_3 : decode cL_meanScore 3 = .ok (.invokevirtual 149, 3) := by decide +kernel
theorem dL_meanScore_6 : decode cL_meanScore 6 = .ok (.dastore, 1) := by decide +kernel
theorem dL_meanScore_7 : decode cL_meanScore 7 = .ok (.goto 6, 3) := by decide +kernel
theorem dL_meanScore_10 : decode cL_meanScore 10 = .ok (.astore_n 2, 1) := by decide +kernel
theorem dL_meanScore_11 : decode cL_meanScore 11 = .ok (.iconst 1, 1) := by decide +kernel
theorem dL_meanScore_12 : decode cL_meanScore 12 = .ok (.ireturn, 1) := by decide +kernel
theorem dL_meanScore_13 : decode cL_meanScore 13 = .ok (.iconst 0, 1) := by decide +kernel
theorem dL_meanScore_14 : decode cL_meanScore 14 = .ok (.ireturn, 1) := by decide +kernel
