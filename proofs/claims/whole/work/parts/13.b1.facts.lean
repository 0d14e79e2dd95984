set_option maxRecDepth 100000 in
theorem kc_X7_pay : Cond.code yX7_pay cX7_pay 8 (some .int) ∈ big := big_t3 28 (by decide +kernel)
set_option maxRecDepth 100000 in
theorem kn_X7_pay : Cond.instanceMethod yX7_pay ∈ big := big_t3 26 (by decide +kernel)
set_option maxRecDepth 100000 in
theorem kv_X7_pay : Cond.selects RX7 yX7_pay yX7_pay ∈ big := big_t3 27 (by decide +kernel)
set_option maxRecDepth 100000 in
theorem my_X7_pay : MyV z_X7_pay yX7_pay 3 := ⟨⟨kc_X7_pay, ki_X7, ⟨by decide +kernel, by decide +kernel⟩, by decide +kernel⟩, rfl, kn_X7_pay, kv_X7_pay⟩
set_option maxRecDepth 100000 in
theorem kl_L_38 : Cond.methodLink RL 38 yX7_pay ∈ big := big_t3 25 (by decide +kernel)
set_option maxRecDepth 100000 in
theorem nc_39 : ("java/lang/IllegalArgumentException", "java/lang/IndexOutOfBoundsException") ∈ ncl := List.mem_of_getElem? (i := 39) rfl
set_option maxRecDepth 100000 in
theorem nc_41 : ("java/lang/UnsupportedOperationException", "java/lang/IndexOutOfBoundsException") ∈ ncl := List.mem_of_getElem? (i := 41) rfl
set_option maxRecDepth 100000 in
theorem nc_12 : ("java/lang/UnsupportedOperationException", "java/lang/IllegalArgumentException") ∈ ncl := List.mem_of_getElem? (i := 12) rfl
set_option maxRecDepth 100000 in
theorem kk_L_42 : Cond.classLink RL 42 "java/lang/UnsupportedOperationException" ∈ big := big_t3 24 (by decide +kernel)
set_option maxRecDepth 100000 in
theorem kt_java_lang_UnsupportedOperationException : Cond.castable "java/lang/UnsupportedOperationException" "java/lang/UnsupportedOperationException" ∈ lw_tbl := tbl_t3 (List.mem_of_getElem? (i := 32) (by decide +kernel))
set_option maxRecDepth 100000 in
theorem nc_40 : ("java/lang/IllegalStateException", "java/lang/IndexOutOfBoundsException") ∈ ncl := List.mem_of_getElem? (i := 40) rfl
set_option maxRecDepth 100000 in
theorem nc_54 : ("java/lang/IllegalStateException", "java/lang/UnsupportedOperationException") ∈ ncl := List.mem_of_getElem? (i := 54) rfl
set_option maxRecDepth 100000 in
theorem kk_X7_249 : Cond.classLink RX7 249 "java/util/NoSuchElementException" ∈ big := big_t3 150 (by decide +kernel)
set_option maxRecDepth 100000 in
theorem ki_java_util_NoSuchElementException : Cond.initialized "java/util/NoSuchElementException" ∈ big := big_t1 21 (by decide +kernel)
set_option maxRecDepth 100000 in
theorem th_X7_249_253 : ThrN RX7 249 253 := ⟨kk_X7_249, ki_java_util_NoSuchElementException, by decide +kernel, by decide +kernel⟩
set_option maxRecDepth 100000 in
theorem tx_334 : (RX7, 334, "no such payment") ∈ texts := List.mem_of_getElem? (i := 8) rfl
set_option maxRecDepth 100000 in
theorem kc_X7_requirePayment : Cond.code yX7_requirePayment cX7_requirePayment 2 none ∈ big := big_t3 149 (by decide +kernel)
set_option maxRecDepth 100000 in
theorem kn_X7_requirePayment : Cond.instanceMethod yX7_requirePayment ∈ big := big_t3 148 (by decide +kernel)
set_option maxRecDepth 100000 in
theorem kv_X7_requirePayment : Cond.selects RX7 yX7_requirePayment yX7_requirePayment ∈ big := big_at 7 (by decide +kernel)
set_option maxRecDepth 100000 in
theorem my_X7_requirePayment : MyV z_X7_requirePayment yX7_requirePayment 1 := ⟨⟨kc_X7_requirePayment, ki_X7, ⟨by decide +kernel, by decide +kernel⟩, by decide +kernel⟩, rfl, kn_X7_requirePayment, kv_X7_requirePayment⟩
set_option maxRecDepth 100000 in
theorem kl_X7_137 : Cond.methodLink RX7 137 yX7_requirePayment ∈ big := big_t3 146 (by decide +kernel)
set_option maxRecDepth 100000 in
theorem kf_X7_140 : Cond.fieldLinkNest RX7 140 "FraudSieve$Ledger" (TX4 3).2.1 (TX4 3).2.2.1 "FraudSieve" ∈ lw_tbl := tbl_t1 (List.mem_of_getElem? (i := 85) (by decide +kernel))
set_option maxRecDepth 100000 in
theorem fg_X7_140 : Fld (some "FraudSieve") layC NC RX7 140 5 3 (some 9) := ⟨"FraudSieve$Ledger", RX4, TX4, 5, 4, rfC5, ⟨kf_X7_140, inb_X4, rfl, by decide, rfl⟩, rfl, by decide, rfl⟩
set_option maxRecDepth 100000 in
theorem kc_X7_minuteOf : Cond.code yX7_minuteOf cX7_minuteOf 2 (some .int) ∈ big := big_t3 145 (by decide +kernel)
set_option maxRecDepth 100000 in
theorem kn_X7_minuteOf : Cond.instanceMethod yX7_minuteOf ∈ big := big_t3 143 (by decide +kernel)
set_option maxRecDepth 100000 in
theorem kv_X7_minuteOf : Cond.selects RX7 yX7_minuteOf yX7_minuteOf ∈ big := big_t3 144 (by decide +kernel)
set_option maxRecDepth 100000 in
theorem my_X7_minuteOf : MyV z_X7_minuteOf yX7_minuteOf 1 := ⟨⟨kc_X7_minuteOf, ki_X7, ⟨by decide +kernel, by decide +kernel⟩, by decide +kernel⟩, rfl, kn_X7_minuteOf, kv_X7_minuteOf⟩
set_option maxRecDepth 100000 in
theorem kl_L_44 : Cond.methodLink RL 44 yX7_minuteOf ∈ big := big_t3 142 (by decide +kernel)
set_option maxRecDepth 100000 in
theorem kk_L_47 : Cond.classLink RL 47 "java/util/NoSuchElementException" ∈ big := big_t3 141 (by decide +kernel)
set_option maxRecDepth 100000 in
theorem kt_java_util_NoSuchElementException : Cond.castable "java/util/NoSuchElementException" "java/util/NoSuchElementException" ∈ lw_tbl := tbl_t3 (List.mem_of_getElem? (i := 152) (by decide +kernel))
set_option maxRecDepth 100000 in
theorem tx_350 : (RX7, 350, "window out of range") ∈ texts := List.mem_of_getElem? (i := 9) rfl
set_option maxRecDepth 100000 in
theorem kc_X7_requireWindow : Cond.code yX7_requireWindow cX7_requireWindow 1 none ∈ big := big_t3 175 (by decide +kernel)
set_option maxRecDepth 100000 in
theorem ks_X7_requireWindow : Cond.static yX7_requireWindow ∈ big := big_t3 174 (by decide +kernel)
set_option maxRecDepth 100000 in
theorem my_X7_requireWindow : MyS z_X7_requireWindow yX7_requireWindow 1 := ⟨⟨kc_X7_requireWindow, ki_X7, ⟨by decide +kernel, by decide +kernel⟩, by decide +kernel⟩, rfl, ks_X7_requireWindow⟩
set_option maxRecDepth 100000 in
theorem kl_X7_144 : Cond.methodLink RX7 144 yX7_requireWindow ∈ big := big_t3 173 (by decide +kernel)
set_option maxRecDepth 100000 in
theorem kf_X1_51 : Cond.fieldLinkNest RX1 51 "FraudSieve$Ledger" (TX4 4).2.1 (TX4 4).2.2.1 "FraudSieve" ∈ lw_tbl := tbl_t1 (List.mem_of_getElem? (i := 87) (by decide +kernel))
set_option maxRecDepth 100000 in
theorem fg_X1_51 : Fld (some "FraudSieve") layC NC RX1 51 5 4 none := ⟨"FraudSieve$Ledger", RX4, TX4, 5, 4, rfC5, ⟨kf_X1_51, inb_X4, rfl, by decide, rfl⟩, rfl, by decide, rfl⟩
set_option maxRecDepth 100000 in
theorem kc_X1_keptSum : Cond.code yX1_keptSum cX1_keptSum 4 (some .int) ∈ big := big_t2 62 (by decide +kernel)
set_option maxRecDepth 100000 in
theorem kn_X1_keptSum : Cond.instanceMethod yX1_keptSum ∈ big := big_t2 60 (by decide +kernel)
set_option maxRecDepth 100000 in
theorem kv_X1_keptSum : Cond.selects RX1 yX1_keptSum yX1_keptSum ∈ big := big_t2 61 (by decide +kernel)
set_option maxRecDepth 100000 in
theorem my_X1_keptSum : MyV z_X1_keptSum yX1_keptSum 2 := ⟨⟨kc_X1_keptSum, ki_X1, ⟨by decide +kernel, by decide +kernel⟩, by decide +kernel⟩, rfl, kn_X1_keptSum, kv_X1_keptSum⟩
set_option maxRecDepth 100000 in
theorem kl_X7_147 : Cond.methodLink RX7 147 yX1_keptSum ∈ big := big_t2 59 (by decide +kernel)
set_option maxRecDepth 100000 in
theorem kc_X7_sentBy : Cond.code yX7_sentBy cX7_sentBy 3 (some .int) ∈ big := big_t3 172 (by decide +kernel)
set_option maxRecDepth 100000 in
theorem kn_X7_sentBy : Cond.instanceMethod yX7_sentBy ∈ big := big_t3 170 (by decide +kernel)
set_option maxRecDepth 100000 in
theorem kv_X7_sentBy : Cond.selects RX7 yX7_sentBy yX7_sentBy ∈ big := big_t3 171 (by decide +kernel)
set_option maxRecDepth 100000 in
theorem my_X7_sentBy : MyV z_X7_sentBy yX7_sentBy 2 := ⟨⟨kc_X7_sentBy, ki_X7, ⟨by decide +kernel, by decide +kernel⟩, by decide +kernel⟩, rfl, kn_X7_sentBy, kv_X7_sentBy⟩
set_option maxRecDepth 100000 in
theorem kl_L_49 : Cond.methodLink RL 49 yX7_sentBy ∈ big := big_t3 169 (by decide +kernel)
set_option maxRecDepth 100000 in
theorem kf_X1_61 : Cond.fieldLinkNest RX1 61 "FraudSieve$Ledger" (TX4 2).2.1 (TX4 2).2.2.1 "FraudSieve" ∈ lw_tbl := tbl_t1 (List.mem_of_getElem? (i := 81) (by decide +kernel))
set_option maxRecDepth 100000 in
theorem fg_X1_61 : Fld (some "FraudSieve") layC NC RX1 61 5 2 (some 8) := ⟨"FraudSieve$Ledger", RX4, TX4, 5, 4, rfC5, ⟨kf_X1_61, inb_X4, rfl, by decide, rfl⟩, rfl, by decide, rfl⟩
set_option maxRecDepth 100000 in
theorem kc_X1_sumAnew : Cond.code yX1_sumAnew cX1_sumAnew 5 (some .int) ∈ big := big_t2 74 (by decide +kernel)
set_option maxRecDepth 100000 in
theorem kn_X1_sumAnew : Cond.instanceMethod yX1_sumAnew ∈ big := big_t2 72 (by decide +kernel)
set_option maxRecDepth 100000 in
theorem kv_X1_sumAnew : Cond.selects RX1 yX1_sumAnew yX1_sumAnew ∈ big := big_t2 73 (by decide +kernel)
set_option maxRecDepth 100000 in
theorem my_X1_sumAnew : MyV z_X1_sumAnew yX1_sumAnew 2 := ⟨⟨kc_X1_sumAnew, ki_X1, ⟨by decide +kernel, by decide +kernel⟩, by decide +kernel⟩, rfl, kn_X1_sumAnew, kv_X1_sumAnew⟩
set_option maxRecDepth 100000 in
theorem kl_X7_151 : Cond.methodLink RX7 151 yX1_sumAnew ∈ big := big_t2 71 (by decide +kernel)
set_option maxRecDepth 100000 in
theorem kc_X7_sentByAnew : Cond.code yX7_sentByAnew cX7_sentByAnew 3 (some .int) ∈ big := big_t3 183 (by decide +kernel)
set_option maxRecDepth 100000 in
theorem kn_X7_sentByAnew : Cond.instanceMethod yX7_sentByAnew ∈ big := big_t3 181 (by decide +kernel)
set_option maxRecDepth 100000 in
theorem kv_X7_sentByAnew : Cond.selects RX7 yX7_sentByAnew yX7_sentByAnew ∈ big := big_t3 182 (by decide +kernel)
set_option maxRecDepth 100000 in
theorem my_X7_sentByAnew : MyV z_X7_sentByAnew yX7_sentByAnew 2 := ⟨⟨kc_X7_sentByAnew, ki_X7, ⟨by decide +kernel, by decide +kernel⟩, by decide +kernel⟩, rfl, kn_X7_sentByAnew, kv_X7_sentByAnew⟩
set_option maxRecDepth 100000 in
theorem kl_L_53 : Cond.methodLink RL 53 yX7_sentByAnew ∈ big := big_t3 180 (by decide +kernel)
set_option maxRecDepth 100000 in
theorem kf_X1_32 : Cond.fieldLink RX1 32 "FraudSieve$Bank" "FEATURES" "[C" ∈ big := big_t3 197 (by decide +kernel)
set_option maxRecDepth 100000 in
theorem kc_X1_hasFeature : Cond.code yX1_hasFeature cX1_hasFeature 5 (some .boolean) ∈ big := big_t3 196 (by decide +kernel)
set_option maxRecDepth 100000 in
theorem ks_X1_hasFeature : Cond.static yX1_hasFeature ∈ big := big_t3 195 (by decide +kernel)
set_option maxRecDepth 100000 in
theorem my_X1_hasFeature : MyS z_X1_hasFeature yX1_hasFeature 1 := ⟨⟨kc_X1_hasFeature, ki_X1, ⟨by decide +kernel, by decide +kernel⟩, by decide +kernel⟩, rfl, ks_X1_hasFeature⟩
set_option maxRecDepth 100000 in
theorem kl_X7_344 : Cond.methodLink RX7 344 yX1_hasFeature ∈ big := big_t3 194 (by decide +kernel)
set_option maxRecDepth 100000 in
theorem tx_348 : (RX7, 348, "no such feature") ∈ texts := List.mem_of_getElem? (i := 10) rfl
set_option maxRecDepth 100000 in
theorem kc_X7_requireFeature : Cond.code yX7_requireFeature cX7_requireFeature 1 none ∈ big := big_t3 193 (by decide +kernel)
set_option maxRecDepth 100000 in
theorem ks_X7_requireFeature : Cond.static yX7_requireFeature ∈ big := big_t3 192 (by decide +kernel)
set_option maxRecDepth 100000 in
theorem my_X7_requireFeature : MyS z_X7_requireFeature yX7_requireFeature 1 := ⟨⟨kc_X7_requireFeature, ki_X7, ⟨by decide +kernel, by decide +kernel⟩, by decide +kernel⟩, rfl, ks_X7_requireFeature⟩
set_option maxRecDepth 100000 in
theorem kl_X7_157 : Cond.methodLink RX7 157 yX7_requireFeature ∈ big := big_t3 191 (by decide +kernel)
set_option maxRecDepth 100000 in
theorem kl_X7_161 : Cond.methodLink RX7 161 yX1_featureValue ∈ big := big_t3 200 (by decide +kernel)
set_option maxRecDepth 100000 in
theorem kc_X7_valueOf : Cond.code yX7_valueOf cX7_valueOf 4 (some .int) ∈ big := big_t3 190 (by decide +kernel)
set_option maxRecDepth 100000 in
theorem kn_X7_valueOf : Cond.instanceMethod yX7_valueOf ∈ big := big_t3 188 (by decide +kernel)
set_option maxRecDepth 100000 in
theorem kv_X7_valueOf : Cond.selects RX7 yX7_valueOf yX7_valueOf ∈ big := big_t3 189 (by decide +kernel)
set_option maxRecDepth 100000 in
theorem my_X7_valueOf : MyV z_X7_valueOf yX7_valueOf 3 := ⟨⟨kc_X7_valueOf, ki_X7, ⟨by decide +kernel, by decide +kernel⟩, by decide +kernel⟩, rfl, kn_X7_valueOf, kv_X7_valueOf⟩
set_option maxRecDepth 100000 in
theorem kl_L_56 : Cond.methodLink RL 56 yX7_valueOf ∈ big := big_t3 187 (by decide +kernel)
set_option maxRecDepth 100000 in
theorem nc_68 : ("java/lang/IllegalArgumentException", "java/util/NoSuchElementException") ∈ ncl := List.mem_of_getElem? (i := 68) rfl
set_option maxRecDepth 100000 in
theorem tx_166 : (RX7, 166, "bound out of range") ∈ texts := List.mem_of_getElem? (i := 11) rfl
set_option maxRecDepth 100000 in
theorem kq_X7_165 : Cond.constant RX7 165 99999 ∈ big := big_t3 208 (by decide +kernel)
set_option maxRecDepth 100000 in
theorem tx_340 : (RX7, 340, "no more conditions") ∈ texts := List.mem_of_getElem? (i := 12) rfl
set_option maxRecDepth 100000 in
theorem kc_X7_requireRoomForCondition : Cond.code yX7_requireRoomForCondition cX7_requireRoomForCondition 1 none ∈ big := big_t3 213 (by decide +kernel)
set_option maxRecDepth 100000 in
theorem kn_X7_requireRoomForCondition : Cond.instanceMethod yX7_requireRoomForCondition ∈ big := big_t3 212 (by decide +kernel)
set_option maxRecDepth 100000 in
theorem kv_X7_requireRoomForCondition : Cond.selects RX7 yX7_requireRoomForCondition yX7_requireRoomForCondition ∈ big := big_at 8 (by decide +kernel)
set_option maxRecDepth 100000 in
theorem my_X7_requireRoomForCondition : MyV z_X7_requireRoomForCondition yX7_requireRoomForCondition 0 := ⟨⟨kc_X7_requireRoomForCondition, ki_X7, ⟨by decide +kernel, by decide +kernel⟩, by decide +kernel⟩, rfl, kn_X7_requireRoomForCondition, kv_X7_requireRoomForCondition⟩
set_option maxRecDepth 100000 in
theorem kl_X7_168 : Cond.methodLink RX7 168 yX7_requireRoomForCondition ∈ big := big_t3 210 (by decide +kernel)
set_option maxRecDepth 100000 in
theorem kf_X3_50 : Cond.fieldLink RX3 50 "FraudSieve$Conditions" (TX3 12).2.1 (TX3 12).2.2.1 ∈ big := big_t1 157 (by decide +kernel)
set_option maxRecDepth 100000 in
theorem fg_X3_50 : Fld none layC NC RX3 50 13 12 none := ⟨"FraudSieve$Conditions", RX3, TX3, 13, 3, rfC13, ⟨kf_X3_50, inb_X3, rfl, by decide, rfl⟩, rfl, by decide, rfl⟩
set_option maxRecDepth 100000 in
theorem kf_X3_38 : Cond.fieldLink RX3 38 "FraudSieve$Conditions" (TX3 8).2.1 (TX3 8).2.2.1 ∈ big := big_t1 149 (by decide +kernel)
set_option maxRecDepth 100000 in
theorem fg_X3_38 : Fld none layC NC RX3 38 13 8 (some 22) := ⟨"FraudSieve$Conditions", RX3, TX3, 13, 3, rfC13, ⟨kf_X3_38, inb_X3, rfl, by decide, rfl⟩, rfl, by decide, rfl⟩
set_option maxRecDepth 100000 in
theorem kf_X3_41 : Cond.fieldLink RX3 41 "FraudSieve$Conditions" (TX3 9).2.1 (TX3 9).2.2.1 ∈ big := big_t1 150 (by decide +kernel)
set_option maxRecDepth 100000 in
theorem fg_X3_41 : Fld none layC NC RX3 41 13 9 (some 23) := ⟨"FraudSieve$Conditions", RX3, TX3, 13, 3, rfC13, ⟨kf_X3_41, inb_X3, rfl, by decide, rfl⟩, rfl, by decide, rfl⟩
set_option maxRecDepth 100000 in
theorem kc_X3_keepTest : Cond.code yX3_keepTest cX3_keepTest 2 none ∈ big := big_t3 222 (by decide +kernel)
set_option maxRecDepth 100000 in
theorem kn_X3_keepTest : Cond.instanceMethod yX3_keepTest ∈ big := big_t3 221 (by decide +kernel)
set_option maxRecDepth 100000 in
theorem kv_X3_keepTest : Cond.selects RX3 yX3_keepTest yX3_keepTest ∈ big := big_at 9 (by decide +kernel)
set_option maxRecDepth 100000 in
theorem my_X3_keepTest : MyV z_X3_keepTest yX3_keepTest 1 := ⟨⟨kc_X3_keepTest, ki_X3, ⟨by decide +kernel, by decide +kernel⟩, by decide +kernel⟩, rfl, kn_X3_keepTest, kv_X3_keepTest⟩
set_option maxRecDepth 100000 in
theorem kl_X3_54 : Cond.methodLink RX3 54 yX3_keepTest ∈ big := big_t3 219 (by decide +kernel)
set_option maxRecDepth 100000 in
theorem kf_X3_15 : Cond.fieldLink RX3 15 "FraudSieve$Conditions" (TX3 1).2.1 (TX3 1).2.2.1 ∈ big := big_t1 140 (by decide +kernel)
set_option maxRecDepth 100000 in
theorem fg_X3_15 : Fld none layC NC RX3 15 13 1 (some 15) := ⟨"FraudSieve$Conditions", RX3, TX3, 13, 3, rfC13, ⟨kf_X3_15, inb_X3, rfl, by decide, rfl⟩, rfl, by decide, rfl⟩
set_option maxRecDepth 100000 in
theorem fp_X3_50 : FldP none layC NC RX3 50 13 12 := ⟨"FraudSieve$Conditions", RX3, TX3, tyX3, 13, 3, rfC13, ⟨kf_X3_50, inb_X3, rfl, by decide, rfl⟩, rfl, by decide, rfl, rfl, rfl, tyX3_ok, nmX3⟩
set_option maxRecDepth 100000 in
theorem kc_X3_finish : Cond.code yX3_finish cX3_finish 3 (some .int) ∈ big := big_t3 226 (by decide +kernel)
set_option maxRecDepth 100000 in
theorem kn_X3_finish : Cond.instanceMethod yX3_finish ∈ big := big_t3 225 (by decide +kernel)
set_option maxRecDepth 100000 in
theorem kv_X3_finish : Cond.selects RX3 yX3_finish yX3_finish ∈ big := big_at 10 (by decide +kernel)
set_option maxRecDepth 100000 in
theorem my_X3_finish : MyV z_X3_finish yX3_finish 2 := ⟨⟨kc_X3_finish, ki_X3, ⟨by decide +kernel, by decide +kernel⟩, by decide +kernel⟩, rfl, kn_X3_finish, kv_X3_finish⟩
set_option maxRecDepth 100000 in
theorem kl_X3_58 : Cond.methodLink RX3 58 yX3_finish ∈ big := big_t3 223 (by decide +kernel)
set_option maxRecDepth 100000 in
theorem kc_X3_appendTest : Cond.code yX3_appendTest cX3_appendTest 5 (some .int) ∈ big := big_t3 218 (by decide +kernel)
set_option maxRecDepth 100000 in
theorem kn_X3_appendTest : Cond.instanceMethod yX3_appendTest ∈ big := big_t3 216 (by decide +kernel)
set_option maxRecDepth 100000 in
theorem kv_X3_appendTest : Cond.selects RX3 yX3_appendTest yX3_appendTest ∈ big := big_t3 217 (by decide +kernel)
set_option maxRecDepth 100000 in
theorem my_X3_appendTest : MyV z_X3_appendTest yX3_appendTest 4 := ⟨⟨kc_X3_appendTest, ki_X3, ⟨by decide +kernel, by decide +kernel⟩, by decide +kernel⟩, rfl, kn_X3_appendTest, kv_X3_appendTest⟩
set_option maxRecDepth 100000 in
theorem kl_X7_171 : Cond.methodLink RX7 171 yX3_appendTest ∈ big := big_t3 215 (by decide +kernel)
set_option maxRecDepth 100000 in
theorem kc_X7_addTest : Cond.code yX7_addTest cX7_addTest 5 (some .int) ∈ big := big_t3 207 (by decide +kernel)
set_option maxRecDepth 100000 in
theorem kn_X7_addTest : Cond.instanceMethod yX7_addTest ∈ big := big_t3 205 (by decide +kernel)
set_option maxRecDepth 100000 in
theorem kv_X7_addTest : Cond.selects RX7 yX7_addTest yX7_addTest ∈ big := big_t3 206 (by decide +kernel)
set_option maxRecDepth 100000 in
theorem my_X7_addTest : MyV z_X7_addTest yX7_addTest 4 := ⟨⟨kc_X7_addTest, ki_X7, ⟨by decide +kernel, by decide +kernel⟩, by decide +kernel⟩, rfl, kn_X7_addTest, kv_X7_addTest⟩
set_option maxRecDepth 100000 in
theorem kl_L_60 : Cond.methodLink RL 60 yX7_addTest ∈ big := big_t3 204 (by decide +kernel)
set_option maxRecDepth 100000 in
theorem tx_336 : (RX7, 336, "no such condition") ∈ texts := List.mem_of_getElem? (i := 13) rfl
set_option maxRecDepth 100000 in
theorem kc_X7_requireCondition : Cond.code yX7_requireCondition cX7_requireCondition 2 none ∈ big := big_t4 1 (by decide +kernel)
set_option maxRecDepth 100000 in
theorem kn_X7_requireCondition : Cond.instanceMethod yX7_requireCondition ∈ big := big_t4 0 (by decide +kernel)
set_option maxRecDepth 100000 in
theorem kv_X7_requireCondition : Cond.selects RX7 yX7_requireCondition yX7_requireCondition ∈ big := big_at 12 (by decide +kernel)
set_option maxRecDepth 100000 in
theorem my_X7_requireCondition : MyV z_X7_requireCondition yX7_requireCondition 1 := ⟨⟨kc_X7_requireCondition, ki_X7, ⟨by decide +kernel, by decide +kernel⟩, by decide +kernel⟩, rfl, kn_X7_requireCondition, kv_X7_requireCondition⟩
set_option maxRecDepth 100000 in
theorem kl_X7_183 : Cond.methodLink RX7 183 yX7_requireCondition ∈ big := big_t3 238 (by decide +kernel)
set_option maxRecDepth 100000 in
theorem kf_X7_186 : Cond.fieldLinkNest RX7 186 "FraudSieve$Conditions" (TX3 1).2.1 (TX3 1).2.2.1 "FraudSieve" ∈ lw_tbl := tbl_t1 (List.mem_of_getElem? (i := 141) (by decide +kernel))
set_option maxRecDepth 100000 in
theorem fg_X7_186 : Fld (some "FraudSieve") layC NC RX7 186 13 1 (some 15) := ⟨"FraudSieve$Conditions", RX3, TX3, 13, 3, rfC13, ⟨kf_X7_186, inb_X3, rfl, by decide, rfl⟩, rfl, by decide, rfl⟩
set_option maxRecDepth 100000 in
theorem tx_342 : (RX7, 342, "condition too large") ∈ texts := List.mem_of_getElem? (i := 14) rfl
set_option maxRecDepth 100000 in
theorem kc_X7_requireSize : Cond.code yX7_requireSize cX7_requireSize 1 none ∈ big := big_t4 5 (by decide +kernel)
set_option maxRecDepth 100000 in
theorem ks_X7_requireSize : Cond.static yX7_requireSize ∈ big := big_t4 4 (by decide +kernel)
set_option maxRecDepth 100000 in
theorem my_X7_requireSize : MyS z_X7_requireSize yX7_requireSize 1 := ⟨⟨kc_X7_requireSize, ki_X7, ⟨by decide +kernel, by decide +kernel⟩, by decide +kernel⟩, rfl, ks_X7_requireSize⟩
set_option maxRecDepth 100000 in
theorem kl_X7_189 : Cond.methodLink RX7 189 yX7_requireSize ∈ big := big_t4 3 (by decide +kernel)
set_option maxRecDepth 100000 in
theorem kc_X7_requireJoinable : Cond.code yX7_requireJoinable cX7_requireJoinable 3 none ∈ big := big_t3 237 (by decide +kernel)
set_option maxRecDepth 100000 in
theorem kn_X7_requireJoinable : Cond.instanceMethod yX7_requireJoinable ∈ big := big_t3 236 (by decide +kernel)
set_option maxRecDepth 100000 in
theorem kv_X7_requireJoinable : Cond.selects RX7 yX7_requireJoinable yX7_requireJoinable ∈ big := big_at 11 (by decide +kernel)
set_option maxRecDepth 100000 in
theorem my_X7_requireJoinable : MyV z_X7_requireJoinable yX7_requireJoinable 2 := ⟨⟨kc_X7_requireJoinable, ki_X7, ⟨by decide +kernel, by decide +kernel⟩, by decide +kernel⟩, rfl, kn_X7_requireJoinable, kv_X7_requireJoinable⟩
set_option maxRecDepth 100000 in
theorem kl_X7_175 : Cond.methodLink RX7 175 yX7_requireJoinable ∈ big := big_t3 234 (by decide +kernel)
set_option maxRecDepth 100000 in
theorem kc_X3_keepTestsOf : Cond.code yX3_keepTestsOf cX3_keepTestsOf 3 none ∈ big := big_t4 14 (by decide +kernel)
set_option maxRecDepth 100000 in
theorem kn_X3_keepTestsOf : Cond.instanceMethod yX3_keepTestsOf ∈ big := big_t4 13 (by decide +kernel)
set_option maxRecDepth 100000 in
theorem kv_X3_keepTestsOf : Cond.selects RX3 yX3_keepTestsOf yX3_keepTestsOf ∈ big := big_at 13 (by decide +kernel)
set_option maxRecDepth 100000 in
theorem my_X3_keepTestsOf : MyV z_X3_keepTestsOf yX3_keepTestsOf 1 := ⟨⟨kc_X3_keepTestsOf, ki_X3, ⟨by decide +kernel, by decide +kernel⟩, by decide +kernel⟩, rfl, kn_X3_keepTestsOf, kv_X3_keepTestsOf⟩
set_option maxRecDepth 100000 in
theorem kl_X3_62 : Cond.methodLink RX3 62 yX3_keepTestsOf ∈ big := big_t4 11 (by decide +kernel)
set_option maxRecDepth 100000 in
theorem kc_X3_appendJoin : Cond.code yX3_appendJoin cX3_appendJoin 4 (some .int) ∈ big := big_t4 10 (by decide +kernel)
set_option maxRecDepth 100000 in
theorem kn_X3_appendJoin : Cond.instanceMethod yX3_appendJoin ∈ big := big_t4 8 (by decide +kernel)
set_option maxRecDepth 100000 in
theorem kv_X3_appendJoin : Cond.selects RX3 yX3_appendJoin yX3_appendJoin ∈ big := big_t4 9 (by decide +kernel)
set_option maxRecDepth 100000 in
theorem my_X3_appendJoin : MyV z_X3_appendJoin yX3_appendJoin 3 := ⟨⟨kc_X3_appendJoin, ki_X3, ⟨by decide +kernel, by decide +kernel⟩, by decide +kernel⟩, rfl, kn_X3_appendJoin, kv_X3_appendJoin⟩
set_option maxRecDepth 100000 in
theorem kl_X7_179 : Cond.methodLink RX7 179 yX3_appendJoin ∈ big := big_t4 7 (by decide +kernel)
set_option maxRecDepth 100000 in
theorem kc_X7_addBoth : Cond.code yX7_addBoth cX7_addBoth 3 (some .int) ∈ big := big_t3 233 (by decide +kernel)
set_option maxRecDepth 100000 in
theorem kn_X7_addBoth : Cond.instanceMethod yX7_addBoth ∈ big := big_t3 231 (by decide +kernel)
set_option maxRecDepth 100000 in
theorem kv_X7_addBoth : Cond.selects RX7 yX7_addBoth yX7_addBoth ∈ big := big_t3 232 (by decide +kernel)
set_option maxRecDepth 100000 in
theorem my_X7_addBoth : MyV z_X7_addBoth yX7_addBoth 2 := ⟨⟨kc_X7_addBoth, ki_X7, ⟨by decide +kernel, by decide +kernel⟩, by decide +kernel⟩, rfl, kn_X7_addBoth, kv_X7_addBoth⟩
set_option maxRecDepth 100000 in
theorem kl_L_64 : Cond.methodLink RL 64 yX7_addBoth ∈ big := big_t3 230 (by decide +kernel)
set_option maxRecDepth 100000 in
theorem kc_X7_addEither : Cond.code yX7_addEither cX7_addEither 3 (some .int) ∈ big := big_t4 21 (by decide +kernel)
set_option maxRecDepth 100000 in
theorem kn_X7_addEither : Cond.instanceMethod yX7_addEither ∈ big := big_t4 19 (by decide +kernel)
set_option maxRecDepth 100000 in
theorem kv_X7_addEither : Cond.selects RX7 yX7_addEither yX7_addEither ∈ big := big_t4 20 (by decide +kernel)
set_option maxRecDepth 100000 in
theorem my_X7_addEither : MyV z_X7_addEither yX7_addEither 2 := ⟨⟨kc_X7_addEither, ki_X7, ⟨by decide +kernel, by decide +kernel⟩, by decide +kernel⟩, rfl, kn_X7_addEither, kv_X7_addEither⟩
set_option maxRecDepth 100000 in
theorem kl_L_67 : Cond.methodLink RL 67 yX7_addEither ∈ big := big_t4 18 (by decide +kernel)
set_option maxRecDepth 100000 in
theorem kc_X3_appendNot : Cond.code yX3_appendNot cX3_appendNot 2 (some .int) ∈ big := big_t4 32 (by decide +kernel)
set_option maxRecDepth 100000 in
theorem kn_X3_appendNot : Cond.instanceMethod yX3_appendNot ∈ big := big_t4 30 (by decide +kernel)
set_option maxRecDepth 100000 in
theorem kv_X3_appendNot : Cond.selects RX3 yX3_appendNot yX3_appendNot ∈ big := big_t4 31 (by decide +kernel)
set_option maxRecDepth 100000 in
theorem my_X3_appendNot : MyV z_X3_appendNot yX3_appendNot 1 := ⟨⟨kc_X3_appendNot, ki_X3, ⟨by decide +kernel, by decide +kernel⟩, by decide +kernel⟩, rfl, kn_X3_appendNot, kv_X3_appendNot⟩
set_option maxRecDepth 100000 in
theorem kl_X7_192 : Cond.methodLink RX7 192 yX3_appendNot ∈ big := big_t4 29 (by decide +kernel)
set_option maxRecDepth 100000 in
theorem kc_X7_addNot : Cond.code yX7_addNot cX7_addNot 2 (some .int) ∈ big := big_t4 28 (by decide +kernel)
set_option maxRecDepth 100000 in
theorem kn_X7_addNot : Cond.instanceMethod yX7_addNot ∈ big := big_t4 26 (by decide +kernel)
set_option maxRecDepth 100000 in
theorem kv_X7_addNot : Cond.selects RX7 yX7_addNot yX7_addNot ∈ big := big_t4 27 (by decide +kernel)
set_option maxRecDepth 100000 in
theorem my_X7_addNot : MyV z_X7_addNot yX7_addNot 1 := ⟨⟨kc_X7_addNot, ki_X7, ⟨by decide +kernel, by decide +kernel⟩, by decide +kernel⟩, rfl, kn_X7_addNot, kv_X7_addNot⟩
set_option maxRecDepth 100000 in
theorem kl_L_70 : Cond.methodLink RL 70 yX7_addNot ∈ big := big_t4 25 (by decide +kernel)
set_option maxRecDepth 100000 in
theorem kf_X7_195 : Cond.fieldLinkNest RX7 195 "FraudSieve$Conditions" (TX3 10).2.1 (TX3 10).2.2.1 "FraudSieve" ∈ lw_tbl := tbl_t1 (List.mem_of_getElem? (i := 154) (by decide +kernel))
set_option maxRecDepth 100000 in
theorem fg_X7_195 : Fld (some "FraudSieve") layC NC RX7 195 13 10 (some 24) := ⟨"FraudSieve$Conditions", RX3, TX3, 13, 3, rfC13, ⟨kf_X7_195, inb_X3, rfl, by decide, rfl⟩, rfl, by decide, rfl⟩
set_option maxRecDepth 100000 in
theorem kc_X7_holds : Cond.code yX7_holds cX7_holds 3 (some .boolean) ∈ big := big_t4 39 (by decide +kernel)
set_option maxRecDepth 100000 in
theorem kn_X7_holds : Cond.instanceMethod yX7_holds ∈ big := big_t4 37 (by decide +kernel)
set_option maxRecDepth 100000 in
theorem kv_X7_holds : Cond.selects RX7 yX7_holds yX7_holds ∈ big := big_t4 38 (by decide +kernel)
set_option maxRecDepth 100000 in
theorem my_X7_holds : MyV z_X7_holds yX7_holds 2 := ⟨⟨kc_X7_holds, ki_X7, ⟨by decide +kernel, by decide +kernel⟩, by decide +kernel⟩, rfl, kn_X7_holds, kv_X7_holds⟩
set_option maxRecDepth 100000 in
theorem kl_L_73 : Cond.methodLink RL 73 yX7_holds ∈ big := big_t4 36 (by decide +kernel)
set_option maxRecDepth 100000 in
theorem nc_42 : ("java/util/NoSuchElementException", "java/lang/IndexOutOfBoundsException") ∈ ncl := List.mem_of_getElem? (i := 42) rfl
set_option maxRecDepth 100000 in
theorem kc_X7_sizeOf : Cond.code yX7_sizeOf cX7_sizeOf 2 (some .int) ∈ big := big_t4 46 (by decide +kernel)
set_option maxRecDepth 100000 in
theorem kn_X7_sizeOf : Cond.instanceMethod yX7_sizeOf ∈ big := big_t4 44 (by decide +kernel)
set_option maxRecDepth 100000 in
theorem kv_X7_sizeOf : Cond.selects RX7 yX7_sizeOf yX7_sizeOf ∈ big := big_t4 45 (by decide +kernel)
set_option maxRecDepth 100000 in
theorem my_X7_sizeOf : MyV z_X7_sizeOf yX7_sizeOf 1 := ⟨⟨kc_X7_sizeOf, ki_X7, ⟨by decide +kernel, by decide +kernel⟩, by decide +kernel⟩, rfl, kn_X7_sizeOf, kv_X7_sizeOf⟩
set_option maxRecDepth 100000 in
theorem kl_L_77 : Cond.methodLink RL 77 yX7_sizeOf ∈ big := big_t4 43 (by decide +kernel)
set_option maxRecDepth 100000 in
theorem tx_199 : (RX7, 199, "weight out of range") ∈ texts := List.mem_of_getElem? (i := 15) rfl
set_option maxRecDepth 100000 in
theorem kf_X7_201 : Cond.fieldLinkNest RX7 201 "FraudSieve$Rules" (TX6 3).2.1 (TX6 3).2.2.1 "FraudSieve" ∈ lw_tbl := tbl_t1 (List.mem_of_getElem? (i := 200) (by decide +kernel))
set_option maxRecDepth 100000 in
theorem fg_X7_201 : Fld (some "FraudSieve") layC NC RX7 201 26 3 none := ⟨"FraudSieve$Rules", RX6, TX6, 4, 6, rfC26, ⟨kf_X7_201, inb_X6, rfl, by decide, rfl⟩, rfl, by decide, rfl⟩
set_option maxRecDepth 100000 in
theorem fp_X6_22 : FldP none layC NC RX6 22 26 2 := ⟨"FraudSieve$Rules", RX6, TX6, tyX6, 4, 6, rfC26, ⟨kf_X6_22, inb_X6, rfl, by decide, rfl⟩, rfl, by decide, rfl, rfl, rfl, tyX6_ok, nmX6⟩
set_option maxRecDepth 100000 in
theorem fp_X6_18 : FldP none layC NC RX6 18 26 3 := ⟨"FraudSieve$Rules", RX6, TX6, tyX6, 4, 6, rfC26, ⟨kf_X6_18, inb_X6, rfl, by decide, rfl⟩, rfl, by decide, rfl, rfl, rfl, tyX6_ok, nmX6⟩
set_option maxRecDepth 100000 in
theorem kc_X6_append : Cond.code yX6_append cX6_append 3 (some .int) ∈ big := big_t4 59 (by decide +kernel)
set_option maxRecDepth 100000 in
theorem kn_X6_append : Cond.instanceMethod yX6_append ∈ big := big_t4 57 (by decide +kernel)
set_option maxRecDepth 100000 in
theorem kv_X6_append : Cond.selects RX6 yX6_append yX6_append ∈ big := big_t4 58 (by decide +kernel)
set_option maxRecDepth 100000 in
theorem my_X6_append : MyV z_X6_append yX6_append 2 := ⟨⟨kc_X6_append, ki_X6, ⟨by decide +kernel, by decide +kernel⟩, by decide +kernel⟩, rfl, kn_X6_append, kv_X6_append⟩
set_option maxRecDepth 100000 in
theorem kl_X7_204 : Cond.methodLink RX7 204 yX6_append ∈ big := big_t4 56 (by decide +kernel)
set_option maxRecDepth 100000 in
theorem tx_202 : (RX7, 202, "no more rules") ∈ texts := List.mem_of_getElem? (i := 16) rfl
set_option maxRecDepth 100000 in
theorem kc_X7_addRule : Cond.code yX7_addRule cX7_addRule 3 (some .int) ∈ big := big_t4 53 (by decide +kernel)
set_option maxRecDepth 100000 in
theorem kn_X7_addRule : Cond.instanceMethod yX7_addRule ∈ big := big_t4 51 (by decide +kernel)
set_option maxRecDepth 100000 in
theorem kv_X7_addRule : Cond.selects RX7 yX7_addRule yX7_addRule ∈ big := big_t4 52 (by decide +kernel)
set_option maxRecDepth 100000 in
theorem my_X7_addRule : MyV z_X7_addRule yX7_addRule 2 := ⟨⟨kc_X7_addRule, ki_X7, ⟨by decide +kernel, by decide +kernel⟩, by decide +kernel⟩, rfl, kn_X7_addRule, kv_X7_addRule⟩
set_option maxRecDepth 100000 in
theorem kl_L_80 : Cond.methodLink RL 80 yX7_addRule ∈ big := big_t4 50 (by decide +kernel)
set_option maxRecDepth 100000 in
theorem tx_338 : (RX7, 338, "no such rule") ∈ texts := List.mem_of_getElem? (i := 17) rfl
set_option maxRecDepth 100000 in
theorem kc_X7_requireRule : Cond.code yX7_requireRule cX7_requireRule 2 none ∈ big := big_t4 70 (by decide +kernel)
set_option maxRecDepth 100000 in
theorem kn_X7_requireRule : Cond.instanceMethod yX7_requireRule ∈ big := big_t4 69 (by decide +kernel)
set_option maxRecDepth 100000 in
theorem kv_X7_requireRule : Cond.selects RX7 yX7_requireRule yX7_requireRule ∈ big := big_at 14 (by decide +kernel)
set_option maxRecDepth 100000 in
theorem my_X7_requireRule : MyV z_X7_requireRule yX7_requireRule 1 := ⟨⟨kc_X7_requireRule, ki_X7, ⟨by decide +kernel, by decide +kernel⟩, by decide +kernel⟩, rfl, kn_X7_requireRule, kv_X7_requireRule⟩
set_option maxRecDepth 100000 in
theorem kl_X7_206 : Cond.methodLink RX7 206 yX7_requireRule ∈ big := big_t4 67 (by decide +kernel)
set_option maxRecDepth 100000 in
theorem kf_X7_209 : Cond.fieldLinkNest RX7 209 "FraudSieve$Rules" (TX6 2).2.1 (TX6 2).2.2.1 "FraudSieve" ∈ lw_tbl := tbl_t1 (List.mem_of_getElem? (i := 198) (by decide +kernel))
set_option maxRecDepth 100000 in
theorem fg_X7_209 : Fld (some "FraudSieve") layC NC RX7 209 26 2 none := ⟨"FraudSieve$Rules", RX6, TX6, 4, 6, rfC26, ⟨kf_X7_209, inb_X6, rfl, by decide, rfl⟩, rfl, by decide, rfl⟩
set_option maxRecDepth 100000 in
theorem fp_X7_209 : FldP (some "FraudSieve") layC NC RX7 209 26 2 := ⟨"FraudSieve$Rules", RX6, TX6, tyX6, 4, 6, rfC26, ⟨kf_X7_209, inb_X6, rfl, by decide, rfl⟩, rfl, by decide, rfl, rfl, rfl, tyX6_ok, nmX6⟩
set_option maxRecDepth 100000 in
theorem kc_X7_setRule : Cond.code yX7_setRule cX7_setRule 4 (some .boolean) ∈ big := big_t4 66 (by decide +kernel)
set_option maxRecDepth 100000 in
theorem kn_X7_setRule : Cond.instanceMethod yX7_setRule ∈ big := big_t4 64 (by decide +kernel)
set_option maxRecDepth 100000 in
theorem kv_X7_setRule : Cond.selects RX7 yX7_setRule yX7_setRule ∈ big := big_t4 65 (by decide +kernel)
set_option maxRecDepth 100000 in
theorem my_X7_setRule : MyV z_X7_setRule yX7_setRule 2 := ⟨⟨kc_X7_setRule, ki_X7, ⟨by decide +kernel, by decide +kernel⟩, by decide +kernel⟩, rfl, kn_X7_setRule, kv_X7_setRule⟩
set_option maxRecDepth 100000 in
theorem kl_L_83 : Cond.methodLink RL 83 yX7_setRule ∈ big := big_t4 63 (by decide +kernel)
set_option maxRecDepth 100000 in
theorem tx_352 : (RX7, 352, "threshold out of range") ∈ texts := List.mem_of_getElem? (i := 18) rfl
set_option maxRecDepth 100000 in
theorem kc_X7_requireThreshold : Cond.code yX7_requireThreshold cX7_requireThreshold 1 none ∈ big := big_t4 81 (by decide +kernel)
set_option maxRecDepth 100000 in
theorem ks_X7_requireThreshold : Cond.static yX7_requireThreshold ∈ big := big_t4 80 (by decide +kernel)
set_option maxRecDepth 100000 in
theorem my_X7_requireThreshold : MyS z_X7_requireThreshold yX7_requireThreshold 1 := ⟨⟨kc_X7_requireThreshold, ki_X7, ⟨by decide +kernel, by decide +kernel⟩, by decide +kernel⟩, rfl, ks_X7_requireThreshold⟩
set_option maxRecDepth 100000 in
theorem kl_X7_212 : Cond.methodLink RX7 212 yX7_requireThreshold ∈ big := big_t4 79 (by decide +kernel)
set_option maxRecDepth 100000 in
theorem fp_X7_37 : FldP none layC NC RX7 37 0 4 := ⟨"FraudSieve", RX7, TX7, tyX7, 5, 7, rfC0, ⟨kf_X7_37, inb_X7, rfl, by decide, rfl⟩, rfl, by decide, rfl, rfl, rfl, tyX7_ok, nmX7⟩
set_option maxRecDepth 100000 in
theorem kc_X7_setThreshold : Cond.code yX7_setThreshold cX7_setThreshold 3 (some .int) ∈ big := big_t4 78 (by decide +kernel)
set_option maxRecDepth 100000 in
theorem kn_X7_setThreshold : Cond.instanceMethod yX7_setThreshold ∈ big := big_t4 76 (by decide +kernel)
set_option maxRecDepth 100000 in
theorem kv_X7_setThreshold : Cond.selects RX7 yX7_setThreshold yX7_setThreshold ∈ big := big_t4 77 (by decide +kernel)
set_option maxRecDepth 100000 in
theorem my_X7_setThreshold : MyV z_X7_setThreshold yX7_setThreshold 1 := ⟨⟨kc_X7_setThreshold, ki_X7, ⟨by decide +kernel, by decide +kernel⟩, by decide +kernel⟩, rfl, kn_X7_setThreshold, kv_X7_setThreshold⟩
set_option maxRecDepth 100000 in
theorem kl_L_86 : Cond.methodLink RL 86 yX7_setThreshold ∈ big := big_t4 75 (by decide +kernel)
set_option maxRecDepth 100000 in
theorem kf_X7_215 : Cond.fieldLinkNest RX7 215 "FraudSieve$Cases" (TX2 0).2.1 (TX2 0).2.2.1 "FraudSieve" ∈ lw_tbl := tbl_t1 (List.mem_of_getElem? (i := 217) (by decide +kernel))
set_option maxRecDepth 100000 in
theorem fg_X7_215 : Fld (some "FraudSieve") layC NC RX7 215 29 0 (some 30) := ⟨"FraudSieve$Cases", RX2, TX2, 6, 2, rfC29, ⟨kf_X7_215, inb_X2, rfl, by decide, rfl⟩, rfl, by decide, rfl⟩
set_option maxRecDepth 100000 in
theorem kc_X7_score : Cond.code yX7_score cX7_score 2 (some .int) ∈ big := big_t4 89 (by decide +kernel)
set_option maxRecDepth 100000 in
theorem kn_X7_score : Cond.instanceMethod yX7_score ∈ big := big_t4 87 (by decide +kernel)
set_option maxRecDepth 100000 in
theorem kv_X7_score : Cond.selects RX7 yX7_score yX7_score ∈ big := big_t4 88 (by decide +kernel)
set_option maxRecDepth 100000 in
theorem my_X7_score : MyV z_X7_score yX7_score 1 := ⟨⟨kc_X7_score, ki_X7, ⟨by decide +kernel, by decide +kernel⟩, by decide +kernel⟩, rfl, kn_X7_score, kv_X7_score⟩
set_option maxRecDepth 100000 in
theorem kl_L_89 : Cond.methodLink RL 89 yX7_score ∈ big := big_t4 86 (by decide +kernel)
set_option maxRecDepth 100000 in
theorem kc_X7_scoreNow : Cond.code yX7_scoreNow cX7_scoreNow 2 (some .int) ∈ big := big_t4 96 (by decide +kernel)
set_option maxRecDepth 100000 in
theorem kn_X7_scoreNow : Cond.instanceMethod yX7_scoreNow ∈ big := big_t4 94 (by decide +kernel)
set_option maxRecDepth 100000 in
theorem kv_X7_scoreNow : Cond.selects RX7 yX7_scoreNow yX7_scoreNow ∈ big := big_t4 95 (by decide +kernel)
set_option maxRecDepth 100000 in
theorem my_X7_scoreNow : MyV z_X7_scoreNow yX7_scoreNow 1 := ⟨⟨kc_X7_scoreNow, ki_X7, ⟨by decide +kernel, by decide +kernel⟩, by decide +kernel⟩, rfl, kn_X7_scoreNow, kv_X7_scoreNow⟩
set_option maxRecDepth 100000 in
theorem kl_L_92 : Cond.methodLink RL 92 yX7_scoreNow ∈ big := big_t4 93 (by decide +kernel)
set_option maxRecDepth 100000 in
theorem kf_X7_218 : Cond.fieldLinkNest RX7 218 "FraudSieve$Cases" (TX2 2).2.1 (TX2 2).2.2.1 "FraudSieve" ∈ lw_tbl := tbl_t1 (List.mem_of_getElem? (i := 221) (by decide +kernel))
set_option maxRecDepth 100000 in
theorem fg_X7_218 : Fld (some "FraudSieve") layC NC RX7 218 29 2 (some 32) := ⟨"FraudSieve$Cases", RX2, TX2, 6, 2, rfC29, ⟨kf_X7_218, inb_X2, rfl, by decide, rfl⟩, rfl, by decide, rfl⟩
set_option maxRecDepth 100000 in
theorem kl_X7_221 : Cond.methodLink RX7 221 yJ6_bitCount_0f7a4 ∈ big := big_t4 104 (by decide +kernel)
set_option maxRecDepth 100000 in
theorem kc_X7_reasons : Cond.code yX7_reasons cX7_reasons 2 (some .int) ∈ big := big_t4 103 (by decide +kernel)
set_option maxRecDepth 100000 in
theorem kn_X7_reasons : Cond.instanceMethod yX7_reasons ∈ big := big_t4 101 (by decide +kernel)
set_option maxRecDepth 100000 in
theorem kv_X7_reasons : Cond.selects RX7 yX7_reasons yX7_reasons ∈ big := big_t4 102 (by decide +kernel)
set_option maxRecDepth 100000 in
theorem my_X7_reasons : MyV z_X7_reasons yX7_reasons 1 := ⟨⟨kc_X7_reasons, ki_X7, ⟨by decide +kernel, by decide +kernel⟩, by decide +kernel⟩, rfl, kn_X7_reasons, kv_X7_reasons⟩
set_option maxRecDepth 100000 in
theorem kl_L_95 : Cond.methodLink RL 95 yX7_reasons ∈ big := big_t4 100 (by decide +kernel)
set_option maxRecDepth 100000 in
theorem kc_X6_ruleAtRank : Cond.code yX6_ruleAtRank cX6_ruleAtRank 5 (some .int) ∈ big := big_t4 119 (by decide +kernel)
set_option maxRecDepth 100000 in
theorem kn_X6_ruleAtRank : Cond.instanceMethod yX6_ruleAtRank ∈ big := big_t4 117 (by decide +kernel)
set_option maxRecDepth 100000 in
theorem kv_X6_ruleAtRank : Cond.selects RX6 yX6_ruleAtRank yX6_ruleAtRank ∈ big := big_t4 118 (by decide +kernel)
set_option maxRecDepth 100000 in
theorem my_X6_ruleAtRank : MyV z_X6_ruleAtRank yX6_ruleAtRank 2 := ⟨⟨kc_X6_ruleAtRank, ki_X6, ⟨by decide +kernel, by decide +kernel⟩, by decide +kernel⟩, rfl, kn_X6_ruleAtRank, kv_X6_ruleAtRank⟩
set_option maxRecDepth 100000 in
theorem kl_X7_322 : Cond.methodLink RX7 322 yX6_ruleAtRank ∈ big := big_t4 116 (by decide +kernel)
set_option maxRecDepth 100000 in
theorem tx_325 : (RX7, 325, "no such reason") ∈ texts := List.mem_of_getElem? (i := 19) rfl
set_option maxRecDepth 100000 in
theorem kc_X7_ruleOfReason : Cond.code yX7_ruleOfReason cX7_ruleOfReason 4 (some .int) ∈ big := big_t4 115 (by decide +kernel)
set_option maxRecDepth 100000 in
theorem kn_X7_ruleOfReason : Cond.instanceMethod yX7_ruleOfReason ∈ big := big_t4 114 (by decide +kernel)
set_option maxRecDepth 100000 in
theorem kv_X7_ruleOfReason : Cond.selects RX7 yX7_ruleOfReason yX7_ruleOfReason ∈ big := big_at 15 (by decide +kernel)
set_option maxRecDepth 100000 in
theorem my_X7_ruleOfReason : MyV z_X7_ruleOfReason yX7_ruleOfReason 2 := ⟨⟨kc_X7_ruleOfReason, ki_X7, ⟨by decide +kernel, by decide +kernel⟩, by decide +kernel⟩, rfl, kn_X7_ruleOfReason, kv_X7_ruleOfReason⟩
set_option maxRecDepth 100000 in
theorem kl_X7_226 : Cond.methodLink RX7 226 yX7_ruleOfReason ∈ big := big_t4 112 (by decide +kernel)
set_option maxRecDepth 100000 in
theorem kc_X7_reasonRule : Cond.code yX7_reasonRule cX7_reasonRule 3 (some .int) ∈ big := big_t4 111 (by decide +kernel)
set_option maxRecDepth 100000 in
theorem kn_X7_reasonRule : Cond.instanceMethod yX7_reasonRule ∈ big := big_t4 109 (by decide +kernel)
set_option maxRecDepth 100000 in
theorem kv_X7_reasonRule : Cond.selects RX7 yX7_reasonRule yX7_reasonRule ∈ big := big_t4 110 (by decide +kernel)
set_option maxRecDepth 100000 in
theorem my_X7_reasonRule : MyV z_X7_reasonRule yX7_reasonRule 2 := ⟨⟨kc_X7_reasonRule, ki_X7, ⟨by decide +kernel, by decide +kernel⟩, by decide +kernel⟩, rfl, kn_X7_reasonRule, kv_X7_reasonRule⟩
set_option maxRecDepth 100000 in
theorem kl_L_98 : Cond.methodLink RL 98 yX7_reasonRule ∈ big := big_t4 108 (by decide +kernel)
set_option maxRecDepth 100000 in
theorem nc_71 : ("java/lang/IndexOutOfBoundsException", "java/util/NoSuchElementException") ∈ ncl := List.mem_of_getElem? (i := 71) rfl
set_option maxRecDepth 100000 in
theorem kf_X7_229 : Cond.fieldLinkNest RX7 229 "FraudSieve$Rules" (TX6 0).2.1 (TX6 0).2.2.1 "FraudSieve" ∈ lw_tbl := tbl_t1 (List.mem_of_getElem? (i := 195) (by decide +kernel))
set_option maxRecDepth 100000 in
theorem fg_X7_229 : Fld (some "FraudSieve") layC NC RX7 229 26 0 (some 27) := ⟨"FraudSieve$Rules", RX6, TX6, 4, 6, rfC26, ⟨kf_X7_229, inb_X6, rfl, by decide, rfl⟩, rfl, by decide, rfl⟩
set_option maxRecDepth 100000 in
theorem kf_X7_231 : Cond.fieldLinkNest RX7 231 "FraudSieve$Cases" (TX2 3).2.1 (TX2 3).2.2.1 "FraudSieve" ∈ lw_tbl := tbl_t1 (List.mem_of_getElem? (i := 223) (by decide +kernel))
set_option maxRecDepth 100000 in
theorem fg_X7_231 : Fld (some "FraudSieve") layC NC RX7 231 29 3 (some 33) := ⟨"FraudSieve$Cases", RX2, TX2, 6, 2, rfC29, ⟨kf_X7_231, inb_X2, rfl, by decide, rfl⟩, rfl, by decide, rfl⟩
set_option maxRecDepth 100000 in
theorem kl_X3_75 : Cond.methodLinkNest RX3 75 yX7_hasBit "FraudSieve" ∈ lw_tbl := tbl_t4 (List.mem_of_getElem? (i := 132) (by decide +kernel))
set_option maxRecDepth 100000 in
theorem kc_X3_countTests : Cond.code yX3_countTests cX3_countTests 5 (some .int) ∈ big := big_t4 131 (by decide +kernel)
set_option maxRecDepth 100000 in
theorem kn_X3_countTests : Cond.instanceMethod yX3_countTests ∈ big := big_t4 129 (by decide +kernel)
set_option maxRecDepth 100000 in
theorem kv_X3_countTests : Cond.selects RX3 yX3_countTests yX3_countTests ∈ big := big_t4 130 (by decide +kernel)
set_option maxRecDepth 100000 in
theorem my_X3_countTests : MyV z_X3_countTests yX3_countTests 2 := ⟨⟨kc_X3_countTests, ki_X3, ⟨by decide +kernel, by decide +kernel⟩, by decide +kernel⟩, rfl, kn_X3_countTests, kv_X3_countTests⟩
set_option maxRecDepth 100000 in
theorem kl_X7_234 : Cond.methodLink RX7 234 yX3_countTests ∈ big := big_t4 128 (by decide +kernel)
set_option maxRecDepth 100000 in
theorem kc_X7_reasonTests : Cond.code yX7_reasonTests cX7_reasonTests 4 (some .int) ∈ big := big_t4 127 (by decide +kernel)
set_option maxRecDepth 100000 in
theorem kn_X7_reasonTests : Cond.instanceMethod yX7_reasonTests ∈ big := big_t4 125 (by decide +kernel)
set_option maxRecDepth 100000 in
theorem kv_X7_reasonTests : Cond.selects RX7 yX7_reasonTests yX7_reasonTests ∈ big := big_t4 126 (by decide +kernel)
set_option maxRecDepth 100000 in
theorem my_X7_reasonTests : MyV z_X7_reasonTests yX7_reasonTests 2 := ⟨⟨kc_X7_reasonTests, ki_X7, ⟨by decide +kernel, by decide +kernel⟩, by decide +kernel⟩, rfl, kn_X7_reasonTests, kv_X7_reasonTests⟩
set_option maxRecDepth 100000 in
theorem kl_L_101 : Cond.methodLink RL 101 yX7_reasonTests ∈ big := big_t4 124 (by decide +kernel)
set_option maxRecDepth 100000 in
theorem kf_X7_237 : Cond.fieldLinkNest RX7 237 "FraudSieve$Conditions" (TX3 2).2.1 (TX3 2).2.2.1 "FraudSieve" ∈ lw_tbl := tbl_t1 (List.mem_of_getElem? (i := 143) (by decide +kernel))
set_option maxRecDepth 100000 in
theorem fg_X7_237 : Fld (some "FraudSieve") layC NC RX7 237 13 2 (some 16) := ⟨"FraudSieve$Conditions", RX3, TX3, 13, 3, rfC13, ⟨kf_X7_237, inb_X3, rfl, by decide, rfl⟩, rfl, by decide, rfl⟩
set_option maxRecDepth 100000 in
theorem kc_X3_testAtRank : Cond.code yX3_testAtRank cX3_testAtRank 7 (some .int) ∈ big := big_t4 147 (by decide +kernel)
set_option maxRecDepth 100000 in
theorem kn_X3_testAtRank : Cond.instanceMethod yX3_testAtRank ∈ big := big_t4 145 (by decide +kernel)
set_option maxRecDepth 100000 in
theorem kv_X3_testAtRank : Cond.selects RX3 yX3_testAtRank yX3_testAtRank ∈ big := big_t4 146 (by decide +kernel)
set_option maxRecDepth 100000 in
theorem my_X3_testAtRank : MyV z_X3_testAtRank yX3_testAtRank 3 := ⟨⟨kc_X3_testAtRank, ki_X3, ⟨by decide +kernel, by decide +kernel⟩, by decide +kernel⟩, rfl, kn_X3_testAtRank, kv_X3_testAtRank⟩
set_option maxRecDepth 100000 in
theorem kl_X7_327 : Cond.methodLink RX7 327 yX3_testAtRank ∈ big := big_t4 144 (by decide +kernel)
set_option maxRecDepth 100000 in
theorem tx_330 : (RX7, 330, "no such test") ∈ texts := List.mem_of_getElem? (i := 20) rfl
set_option maxRecDepth 100000 in
theorem kc_X7_testOfReason : Cond.code yX7_testOfReason cX7_testOfReason 6 (some .int) ∈ big := big_t4 143 (by decide +kernel)
set_option maxRecDepth 100000 in
theorem kn_X7_testOfReason : Cond.instanceMethod yX7_testOfReason ∈ big := big_t4 142 (by decide +kernel)
set_option maxRecDepth 100000 in
theorem kv_X7_testOfReason : Cond.selects RX7 yX7_testOfReason yX7_testOfReason ∈ big := big_at 16 (by decide +kernel)
set_option maxRecDepth 100000 in
theorem my_X7_testOfReason : MyV z_X7_testOfReason yX7_testOfReason 3 := ⟨⟨kc_X7_testOfReason, ki_X7, ⟨by decide +kernel, by decide +kernel⟩, by decide +kernel⟩, rfl, kn_X7_testOfReason, kv_X7_testOfReason⟩
set_option maxRecDepth 100000 in
theorem kl_X7_240 : Cond.methodLink RX7 240 yX7_testOfReason ∈ big := big_t4 140 (by decide +kernel)
set_option maxRecDepth 100000 in
theorem kc_X7_reasonFeature : Cond.code yX7_reasonFeature cX7_reasonFeature 4 (some .char) ∈ big := big_t4 139 (by decide +kernel)
set_option maxRecDepth 100000 in
theorem kn_X7_reasonFeature : Cond.instanceMethod yX7_reasonFeature ∈ big := big_t4 137 (by decide +kernel)
set_option maxRecDepth 100000 in
theorem kv_X7_reasonFeature : Cond.selects RX7 yX7_reasonFeature yX7_reasonFeature ∈ big := big_t4 138 (by decide +kernel)
set_option maxRecDepth 100000 in
theorem my_X7_reasonFeature : MyV z_X7_reasonFeature yX7_reasonFeature 3 := ⟨⟨kc_X7_reasonFeature, ki_X7, ⟨by decide +kernel, by decide +kernel⟩, by decide +kernel⟩, rfl, kn_X7_reasonFeature, kv_X7_reasonFeature⟩
set_option maxRecDepth 100000 in
theorem kl_L_104 : Cond.methodLink RL 104 yX7_reasonFeature ∈ big := big_t4 136 (by decide +kernel)
set_option maxRecDepth 100000 in
theorem kc_X2_foundValue : Cond.code yX2_foundValue cX2_foundValue 3 (some .int) ∈ big := big_t4 159 (by decide +kernel)
set_option maxRecDepth 100000 in
theorem kn_X2_foundValue : Cond.instanceMethod yX2_foundValue ∈ big := big_t4 157 (by decide +kernel)
set_option maxRecDepth 100000 in
theorem kv_X2_foundValue : Cond.selects RX2 yX2_foundValue yX2_foundValue ∈ big := big_t4 158 (by decide +kernel)
set_option maxRecDepth 100000 in
theorem my_X2_foundValue : MyV z_X2_foundValue yX2_foundValue 2 := ⟨⟨kc_X2_foundValue, ki_X2, ⟨by decide +kernel, by decide +kernel⟩, by decide +kernel⟩, rfl, kn_X2_foundValue, kv_X2_foundValue⟩
set_option maxRecDepth 100000 in
theorem kl_X7_243 : Cond.methodLink RX7 243 yX2_foundValue ∈ big := big_t4 156 (by decide +kernel)
set_option maxRecDepth 100000 in
theorem kc_X7_reasonValue : Cond.code yX7_reasonValue cX7_reasonValue 4 (some .int) ∈ big := big_t4 155 (by decide +kernel)
set_option maxRecDepth 100000 in
theorem kn_X7_reasonValue : Cond.instanceMethod yX7_reasonValue ∈ big := big_t4 153 (by decide +kernel)
set_option maxRecDepth 100000 in
theorem kv_X7_reasonValue : Cond.selects RX7 yX7_reasonValue yX7_reasonValue ∈ big := big_t4 154 (by decide +kernel)
set_option maxRecDepth 100000 in
theorem my_X7_reasonValue : MyV z_X7_reasonValue yX7_reasonValue 3 := ⟨⟨kc_X7_reasonValue, ki_X7, ⟨by decide +kernel, by decide +kernel⟩, by decide +kernel⟩, rfl, kn_X7_reasonValue, kv_X7_reasonValue⟩
set_option maxRecDepth 100000 in
theorem kl_L_108 : Cond.methodLink RL 108 yX7_reasonValue ∈ big := big_t4 152 (by decide +kernel)
set_option maxRecDepth 100000 in
theorem kc_X2_isAhead : Cond.code yX2_isAhead cX2_isAhead 3 (some .boolean) ∈ big := big_t4 174 (by decide +kernel)
set_option maxRecDepth 100000 in
theorem kn_X2_isAhead : Cond.instanceMethod yX2_isAhead ∈ big := big_t4 173 (by decide +kernel)
set_option maxRecDepth 100000 in
theorem kv_X2_isAhead : Cond.selects RX2 yX2_isAhead yX2_isAhead ∈ big := big_at 17 (by decide +kernel)
set_option maxRecDepth 100000 in
theorem my_X2_isAhead : MyV z_X2_isAhead yX2_isAhead 2 := ⟨⟨kc_X2_isAhead, ki_X2, ⟨by decide +kernel, by decide +kernel⟩, by decide +kernel⟩, rfl, kn_X2_isAhead, kv_X2_isAhead⟩
set_option maxRecDepth 100000 in
theorem kl_X2_48 : Cond.methodLink RX2 48 yX2_isAhead ∈ big := big_t4 171 (by decide +kernel)
set_option maxRecDepth 100000 in
theorem kc_X2_firstOpen : Cond.code yX2_firstOpen cX2_firstOpen 4 (some .int) ∈ big := big_t4 170 (by decide +kernel)
set_option maxRecDepth 100000 in
theorem kn_X2_firstOpen : Cond.instanceMethod yX2_firstOpen ∈ big := big_t4 168 (by decide +kernel)
set_option maxRecDepth 100000 in
theorem kv_X2_firstOpen : Cond.selects RX2 yX2_firstOpen yX2_firstOpen ∈ big := big_t4 169 (by decide +kernel)
set_option maxRecDepth 100000 in
theorem my_X2_firstOpen : MyV z_X2_firstOpen yX2_firstOpen 1 := ⟨⟨kc_X2_firstOpen, ki_X2, ⟨by decide +kernel, by decide +kernel⟩, by decide +kernel⟩, rfl, kn_X2_firstOpen, kv_X2_firstOpen⟩
set_option maxRecDepth 100000 in
theorem kl_X7_246 : Cond.methodLink RX7 246 yX2_firstOpen ∈ big := big_t4 167 (by decide +kernel)
set_option maxRecDepth 100000 in
theorem tx_251 : (RX7, 251, "no open alert") ∈ texts := List.mem_of_getElem? (i := 21) rfl
set_option maxRecDepth 100000 in
theorem kc_X7_nextAlert : Cond.code yX7_nextAlert cX7_nextAlert 2 (some .int) ∈ big := big_t4 166 (by decide +kernel)
set_option maxRecDepth 100000 in
theorem kn_X7_nextAlert : Cond.instanceMethod yX7_nextAlert ∈ big := big_t4 164 (by decide +kernel)
set_option maxRecDepth 100000 in
theorem kv_X7_nextAlert : Cond.selects RX7 yX7_nextAlert yX7_nextAlert ∈ big := big_t4 165 (by decide +kernel)
set_option maxRecDepth 100000 in
theorem my_X7_nextAlert : MyV z_X7_nextAlert yX7_nextAlert 0 := ⟨⟨kc_X7_nextAlert, ki_X7, ⟨by decide +kernel, by decide +kernel⟩, by decide +kernel⟩, rfl, kn_X7_nextAlert, kv_X7_nextAlert⟩
set_option maxRecDepth 100000 in
theorem kl_L_111 : Cond.methodLink RL 111 yX7_nextAlert ∈ big := big_t4 163 (by decide +kernel)
set_option maxRecDepth 100000 in
theorem kc_X2_countAhead : Cond.code yX2_countAhead cX2_countAhead 5 (some .int) ∈ big := big_t4 190 (by decide +kernel)
set_option maxRecDepth 100000 in
theorem kn_X2_countAhead : Cond.instanceMethod yX2_countAhead ∈ big := big_t4 189 (by decide +kernel)
set_option maxRecDepth 100000 in
theorem kv_X2_countAhead : Cond.selects RX2 yX2_countAhead yX2_countAhead ∈ big := big_at 18 (by decide +kernel)
set_option maxRecDepth 100000 in
theorem my_X2_countAhead : MyV z_X2_countAhead yX2_countAhead 2 := ⟨⟨kc_X2_countAhead, ki_X2, ⟨by decide +kernel, by decide +kernel⟩, by decide +kernel⟩, rfl, kn_X2_countAhead, kv_X2_countAhead⟩
set_option maxRecDepth 100000 in
theorem kl_X2_52 : Cond.methodLink RX2 52 yX2_countAhead ∈ big := big_t4 187 (by decide +kernel)
set_option maxRecDepth 100000 in
theorem kc_X2_openAtRank : Cond.code yX2_openAtRank cX2_openAtRank 4 (some .int) ∈ big := big_t4 186 (by decide +kernel)
set_option maxRecDepth 100000 in
theorem kn_X2_openAtRank : Cond.instanceMethod yX2_openAtRank ∈ big := big_t4 184 (by decide +kernel)
set_option maxRecDepth 100000 in
theorem kv_X2_openAtRank : Cond.selects RX2 yX2_openAtRank yX2_openAtRank ∈ big := big_t4 185 (by decide +kernel)
set_option maxRecDepth 100000 in
theorem my_X2_openAtRank : MyV z_X2_openAtRank yX2_openAtRank 2 := ⟨⟨kc_X2_openAtRank, ki_X2, ⟨by decide +kernel, by decide +kernel⟩, by decide +kernel⟩, rfl, kn_X2_openAtRank, kv_X2_openAtRank⟩
set_option maxRecDepth 100000 in
theorem kl_X7_254 : Cond.methodLink RX7 254 yX2_openAtRank ∈ big := big_t4 183 (by decide +kernel)
set_option maxRecDepth 100000 in
theorem tx_259 : (RX7, 259, "no such rank") ∈ texts := List.mem_of_getElem? (i := 22) rfl
set_option maxRecDepth 100000 in
theorem kc_X7_alertAt : Cond.code yX7_alertAt cX7_alertAt 3 (some .int) ∈ big := big_t4 182 (by decide +kernel)
set_option maxRecDepth 100000 in
theorem kn_X7_alertAt : Cond.instanceMethod yX7_alertAt ∈ big := big_t4 180 (by decide +kernel)
set_option maxRecDepth 100000 in
theorem kv_X7_alertAt : Cond.selects RX7 yX7_alertAt yX7_alertAt ∈ big := big_t4 181 (by decide +kernel)
set_option maxRecDepth 100000 in
theorem my_X7_alertAt : MyV z_X7_alertAt yX7_alertAt 1 := ⟨⟨kc_X7_alertAt, ki_X7, ⟨by decide +kernel, by decide +kernel⟩, by decide +kernel⟩, rfl, kn_X7_alertAt, kv_X7_alertAt⟩
set_option maxRecDepth 100000 in
theorem kl_L_115 : Cond.methodLink RL 115 yX7_alertAt ∈ big := big_t4 179 (by decide +kernel)
set_option maxRecDepth 100000 in
theorem kf_X7_265 : Cond.fieldLinkNest RX7 265 "FraudSieve$Cases" (TX2 1).2.1 (TX2 1).2.2.1 "FraudSieve" ∈ lw_tbl := tbl_t1 (List.mem_of_getElem? (i := 219) (by decide +kernel))
set_option maxRecDepth 100000 in
theorem fg_X7_265 : Fld (some "FraudSieve") layC NC RX7 265 29 1 (some 31) := ⟨"FraudSieve$Cases", RX2, TX2, 6, 2, rfC29, ⟨kf_X7_265, inb_X2, rfl, by decide, rfl⟩, rfl, by decide, rfl⟩
set_option maxRecDepth 100000 in
theorem kc_X2_close : Cond.code yX2_close cX2_close 3 none ∈ big := big_t4 203 (by decide +kernel)
set_option maxRecDepth 100000 in
theorem kn_X2_close : Cond.instanceMethod yX2_close ∈ big := big_t4 201 (by decide +kernel)
set_option maxRecDepth 100000 in
theorem kv_X2_close : Cond.selects RX2 yX2_close yX2_close ∈ big := big_t4 202 (by decide +kernel)
set_option maxRecDepth 100000 in
theorem my_X2_close : MyV z_X2_close yX2_close 2 := ⟨⟨kc_X2_close, ki_X2, ⟨by decide +kernel, by decide +kernel⟩, by decide +kernel⟩, rfl, kn_X2_close, kv_X2_close⟩
set_option maxRecDepth 100000 in
theorem kl_X7_270 : Cond.methodLink RX7 270 yX2_close ∈ big := big_t4 200 (by decide +kernel)
set_option maxRecDepth 100000 in
theorem kf_X7_262 : Cond.fieldLinkNest RX7 262 "FraudSieve$Cases" (TX2 5).2.1 (TX2 5).2.2.1 "FraudSieve" ∈ lw_tbl := tbl_t1 (List.mem_of_getElem? (i := 226) (by decide +kernel))
set_option maxRecDepth 100000 in
theorem fg_X7_262 : Fld (some "FraudSieve") layC NC RX7 262 29 5 none := ⟨"FraudSieve$Cases", RX2, TX2, 6, 2, rfC29, ⟨kf_X7_262, inb_X2, rfl, by decide, rfl⟩, rfl, by decide, rfl⟩
set_option maxRecDepth 100000 in
theorem kf_X7_274 : Cond.fieldLinkNest RX7 274 "FraudSieve$Ledger" (TX4 1).2.1 (TX4 1).2.2.1 "FraudSieve" ∈ lw_tbl := tbl_t1 (List.mem_of_getElem? (i := 79) (by decide +kernel))
set_option maxRecDepth 100000 in
theorem fg_X7_274 : Fld (some "FraudSieve") layC NC RX7 274 5 1 (some 7) := ⟨"FraudSieve$Ledger", RX4, TX4, 5, 4, rfC5, ⟨kf_X7_274, inb_X4, rfl, by decide, rfl⟩, rfl, by decide, rfl⟩
set_option maxRecDepth 100000 in
theorem tx_268 : (RX7, 268, "no open alert of this payment") ∈ texts := List.mem_of_getElem? (i := 23) rfl
set_option maxRecDepth 100000 in
theorem kc_X7_decide : Cond.code yX7_decide cX7_decide 4 (some .int) ∈ big := big_t4 198 (by decide +kernel)
set_option maxRecDepth 100000 in
theorem kn_X7_decide : Cond.instanceMethod yX7_decide ∈ big := big_t4 196 (by decide +kernel)
set_option maxRecDepth 100000 in
theorem kv_X7_decide : Cond.selects RX7 yX7_decide yX7_decide ∈ big := big_t4 197 (by decide +kernel)
set_option maxRecDepth 100000 in
theorem my_X7_decide : MyV z_X7_decide yX7_decide 2 := ⟨⟨kc_X7_decide, ki_X7, ⟨by decide +kernel, by decide +kernel⟩, by decide +kernel⟩, rfl, kn_X7_decide, kv_X7_decide⟩
set_option maxRecDepth 100000 in
theorem kl_L_118 : Cond.methodLink RL 118 yX7_decide ∈ big := big_t4 195 (by decide +kernel)
set_option maxRecDepth 100000 in
theorem nc_69 : ("java/lang/IllegalStateException", "java/util/NoSuchElementException") ∈ ncl := List.mem_of_getElem? (i := 69) rfl
set_option maxRecDepth 100000 in
theorem kc_X7_alertOf : Cond.code yX7_alertOf cX7_alertOf 2 (some .char) ∈ big := big_t4 210 (by decide +kernel)
set_option maxRecDepth 100000 in
theorem kn_X7_alertOf : Cond.instanceMethod yX7_alertOf ∈ big := big_t4 208 (by decide +kernel)
set_option maxRecDepth 100000 in
theorem kv_X7_alertOf : Cond.selects RX7 yX7_alertOf yX7_alertOf ∈ big := big_t4 209 (by decide +kernel)
set_option maxRecDepth 100000 in
theorem my_X7_alertOf : MyV z_X7_alertOf yX7_alertOf 1 := ⟨⟨kc_X7_alertOf, ki_X7, ⟨by decide +kernel, by decide +kernel⟩, by decide +kernel⟩, rfl, kn_X7_alertOf, kv_X7_alertOf⟩
set_option maxRecDepth 100000 in
theorem kl_L_122 : Cond.methodLink RL 122 yX7_alertOf ∈ big := big_t4 207 (by decide +kernel)
set_option maxRecDepth 100000 in
theorem kc_X1_networkNow : Cond.code yX1_networkNow cX1_networkNow 2 (some (.object "FraudSieve$Network")) ∈ big := big_t4 221 (by decide +kernel)
set_option maxRecDepth 100000 in
theorem kn_X1_networkNow : Cond.instanceMethod yX1_networkNow ∈ big := big_t4 219 (by decide +kernel)
set_option maxRecDepth 100000 in
theorem kv_X1_networkNow : Cond.selects RX1 yX1_networkNow yX1_networkNow ∈ big := big_t4 220 (by decide +kernel)
set_option maxRecDepth 100000 in
theorem my_X1_networkNow : MyV z_X1_networkNow yX1_networkNow 1 := ⟨⟨kc_X1_networkNow, ki_X1, ⟨by decide +kernel, by decide +kernel⟩, by decide +kernel⟩, rfl, kn_X1_networkNow, kv_X1_networkNow⟩
set_option maxRecDepth 100000 in
theorem kl_X7_277 : Cond.methodLink RX7 277 yX1_networkNow ∈ big := big_t4 218 (by decide +kernel)
set_option maxRecDepth 100000 in
theorem kl_X7_281 : Cond.methodLink RX7 281 yX5_shortestWay ∈ big := big_t4 222 (by decide +kernel)
set_option maxRecDepth 100000 in
theorem tx_356 : (RX7, 356, "no such way") ∈ texts := List.mem_of_getElem? (i := 24) rfl
set_option maxRecDepth 100000 in
theorem kc_X7_requireWay : Cond.code yX7_requireWay cX7_requireWay 1 (some .int) ∈ big := big_t4 225 (by decide +kernel)
set_option maxRecDepth 100000 in
theorem ks_X7_requireWay : Cond.static yX7_requireWay ∈ big := big_t4 224 (by decide +kernel)
set_option maxRecDepth 100000 in
theorem my_X7_requireWay : MyS z_X7_requireWay yX7_requireWay 1 := ⟨⟨kc_X7_requireWay, ki_X7, ⟨by decide +kernel, by decide +kernel⟩, by decide +kernel⟩, rfl, ks_X7_requireWay⟩
