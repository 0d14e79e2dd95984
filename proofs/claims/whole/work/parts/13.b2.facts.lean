set_option maxRecDepth 100000 in
theorem kl_X7_286 : Cond.methodLink RX7 286 yX7_requireWay ∈ big := big_t4 223 (by decide +kernel)
set_option maxRecDepth 100000 in
theorem kc_X7_ring : Cond.code yX7_ring cX7_ring 3 (some .int) ∈ big := big_t4 217 (by decide +kernel)
set_option maxRecDepth 100000 in
theorem kn_X7_ring : Cond.instanceMethod yX7_ring ∈ big := big_t4 215 (by decide +kernel)
set_option maxRecDepth 100000 in
theorem kv_X7_ring : Cond.selects RX7 yX7_ring yX7_ring ∈ big := big_t4 216 (by decide +kernel)
set_option maxRecDepth 100000 in
theorem my_X7_ring : MyV z_X7_ring yX7_ring 2 := ⟨⟨kc_X7_ring, ki_X7, ⟨by decide +kernel, by decide +kernel⟩, by decide +kernel⟩, rfl, kn_X7_ring, kv_X7_ring⟩
set_option maxRecDepth 100000 in
theorem kl_L_125 : Cond.methodLink RL 125 yX7_ring ∈ big := big_t4 214 (by decide +kernel)
set_option maxRecDepth 100000 in
theorem nc_13 : ("java/util/NoSuchElementException", "java/lang/IllegalArgumentException") ∈ ncl := List.mem_of_getElem? (i := 13) rfl
set_option maxRecDepth 100000 in
theorem kc_X5_shortestWayByTrying : Cond.code yX5_shortestWayByTrying cX5_shortestWayByTrying 5 (some .int) ∈ big := big_t4 237 (by decide +kernel)
set_option maxRecDepth 100000 in
theorem kn_X5_shortestWayByTrying : Cond.instanceMethod yX5_shortestWayByTrying ∈ big := big_t4 235 (by decide +kernel)
set_option maxRecDepth 100000 in
theorem kv_X5_shortestWayByTrying : Cond.selects RX5 yX5_shortestWayByTrying yX5_shortestWayByTrying ∈ big := big_t4 236 (by decide +kernel)
set_option maxRecDepth 100000 in
theorem my_X5_shortestWayByTrying : MyV z_X5_shortestWayByTrying yX5_shortestWayByTrying 2 := ⟨⟨kc_X5_shortestWayByTrying, ki_X5, ⟨by decide +kernel, by decide +kernel⟩, by decide +kernel⟩, rfl, kn_X5_shortestWayByTrying, kv_X5_shortestWayByTrying⟩
set_option maxRecDepth 100000 in
theorem kl_X7_289 : Cond.methodLink RX7 289 yX5_shortestWayByTrying ∈ big := big_t4 234 (by decide +kernel)
set_option maxRecDepth 100000 in
theorem kc_X7_ringByTrying : Cond.code yX7_ringByTrying cX7_ringByTrying 3 (some .int) ∈ big := big_t4 233 (by decide +kernel)
set_option maxRecDepth 100000 in
theorem kn_X7_ringByTrying : Cond.instanceMethod yX7_ringByTrying ∈ big := big_t4 231 (by decide +kernel)
set_option maxRecDepth 100000 in
theorem kv_X7_ringByTrying : Cond.selects RX7 yX7_ringByTrying yX7_ringByTrying ∈ big := big_t4 232 (by decide +kernel)
set_option maxRecDepth 100000 in
theorem my_X7_ringByTrying : MyV z_X7_ringByTrying yX7_ringByTrying 2 := ⟨⟨kc_X7_ringByTrying, ki_X7, ⟨by decide +kernel, by decide +kernel⟩, by decide +kernel⟩, rfl, kn_X7_ringByTrying, kv_X7_ringByTrying⟩
set_option maxRecDepth 100000 in
theorem kl_L_128 : Cond.methodLink RL 128 yX7_ringByTrying ∈ big := big_t4 230 (by decide +kernel)
set_option maxRecDepth 100000 in
theorem kl_X7_292 : Cond.methodLink RX7 292 yX5_groupSize ∈ big := big_t5 5 (by decide +kernel)
set_option maxRecDepth 100000 in
theorem kc_X7_group : Cond.code yX7_group cX7_group 3 (some .int) ∈ big := big_t5 4 (by decide +kernel)
set_option maxRecDepth 100000 in
theorem kn_X7_group : Cond.instanceMethod yX7_group ∈ big := big_t5 2 (by decide +kernel)
set_option maxRecDepth 100000 in
theorem kv_X7_group : Cond.selects RX7 yX7_group yX7_group ∈ big := big_t5 3 (by decide +kernel)
set_option maxRecDepth 100000 in
theorem my_X7_group : MyV z_X7_group yX7_group 2 := ⟨⟨kc_X7_group, ki_X7, ⟨by decide +kernel, by decide +kernel⟩, by decide +kernel⟩, rfl, kn_X7_group, kv_X7_group⟩
set_option maxRecDepth 100000 in
theorem kl_L_131 : Cond.methodLink RL 131 yX7_group ∈ big := big_t5 1 (by decide +kernel)
set_option maxRecDepth 100000 in
theorem kc_X7_countDecided : Cond.code yX7_countDecided cX7_countDecided 5 (some .int) ∈ big := big_t5 16 (by decide +kernel)
set_option maxRecDepth 100000 in
theorem kn_X7_countDecided : Cond.instanceMethod yX7_countDecided ∈ big := big_t5 15 (by decide +kernel)
set_option maxRecDepth 100000 in
theorem kv_X7_countDecided : Cond.selects RX7 yX7_countDecided yX7_countDecided ∈ big := big_at 19 (by decide +kernel)
set_option maxRecDepth 100000 in
theorem my_X7_countDecided : MyV z_X7_countDecided yX7_countDecided 2 := ⟨⟨kc_X7_countDecided, ki_X7, ⟨by decide +kernel, by decide +kernel⟩, by decide +kernel⟩, rfl, kn_X7_countDecided, kv_X7_countDecided⟩
set_option maxRecDepth 100000 in
theorem kl_X7_295 : Cond.methodLink RX7 295 yX7_countDecided ∈ big := big_t5 13 (by decide +kernel)
set_option maxRecDepth 100000 in
theorem kc_X7_caught : Cond.code yX7_caught cX7_caught 2 (some .int) ∈ big := big_t5 12 (by decide +kernel)
set_option maxRecDepth 100000 in
theorem kn_X7_caught : Cond.instanceMethod yX7_caught ∈ big := big_t5 10 (by decide +kernel)
set_option maxRecDepth 100000 in
theorem kv_X7_caught : Cond.selects RX7 yX7_caught yX7_caught ∈ big := big_t5 11 (by decide +kernel)
set_option maxRecDepth 100000 in
theorem my_X7_caught : MyV z_X7_caught yX7_caught 1 := ⟨⟨kc_X7_caught, ki_X7, ⟨by decide +kernel, by decide +kernel⟩, by decide +kernel⟩, rfl, kn_X7_caught, kv_X7_caught⟩
set_option maxRecDepth 100000 in
theorem kl_L_134 : Cond.methodLink RL 134 yX7_caught ∈ big := big_t5 9 (by decide +kernel)
set_option maxRecDepth 100000 in
theorem tx_354 : (RX7, 354, "number out of range") ∈ texts := List.mem_of_getElem? (i := 25) rfl
set_option maxRecDepth 100000 in
theorem kc_X7_requireMost : Cond.code yX7_requireMost cX7_requireMost 1 none ∈ big := big_t5 26 (by decide +kernel)
set_option maxRecDepth 100000 in
theorem ks_X7_requireMost : Cond.static yX7_requireMost ∈ big := big_t5 25 (by decide +kernel)
set_option maxRecDepth 100000 in
theorem my_X7_requireMost : MyS z_X7_requireMost yX7_requireMost 1 := ⟨⟨kc_X7_requireMost, ki_X7, ⟨by decide +kernel, by decide +kernel⟩, by decide +kernel⟩, rfl, ks_X7_requireMost⟩
set_option maxRecDepth 100000 in
theorem kl_X7_298 : Cond.methodLink RX7 298 yX7_requireMost ∈ big := big_t5 24 (by decide +kernel)
set_option maxRecDepth 100000 in
theorem kc_X7_bestThreshold : Cond.code yX7_bestThreshold cX7_bestThreshold 6 (some .int) ∈ big := big_t5 23 (by decide +kernel)
set_option maxRecDepth 100000 in
theorem kn_X7_bestThreshold : Cond.instanceMethod yX7_bestThreshold ∈ big := big_t5 21 (by decide +kernel)
set_option maxRecDepth 100000 in
theorem kv_X7_bestThreshold : Cond.selects RX7 yX7_bestThreshold yX7_bestThreshold ∈ big := big_t5 22 (by decide +kernel)
set_option maxRecDepth 100000 in
theorem my_X7_bestThreshold : MyV z_X7_bestThreshold yX7_bestThreshold 1 := ⟨⟨kc_X7_bestThreshold, ki_X7, ⟨by decide +kernel, by decide +kernel⟩, by decide +kernel⟩, rfl, kn_X7_bestThreshold, kv_X7_bestThreshold⟩
set_option maxRecDepth 100000 in
theorem kl_L_137 : Cond.methodLink RL 137 yX7_bestThreshold ∈ big := big_t5 20 (by decide +kernel)
set_option maxRecDepth 100000 in
theorem kc_X7_bestThresholdByTrying : Cond.code yX7_bestThresholdByTrying cX7_bestThresholdByTrying 3 (some .int) ∈ big := big_t5 34 (by decide +kernel)
set_option maxRecDepth 100000 in
theorem kn_X7_bestThresholdByTrying : Cond.instanceMethod yX7_bestThresholdByTrying ∈ big := big_t5 32 (by decide +kernel)
set_option maxRecDepth 100000 in
theorem kv_X7_bestThresholdByTrying : Cond.selects RX7 yX7_bestThresholdByTrying yX7_bestThresholdByTrying ∈ big := big_t5 33 (by decide +kernel)
set_option maxRecDepth 100000 in
theorem my_X7_bestThresholdByTrying : MyV z_X7_bestThresholdByTrying yX7_bestThresholdByTrying 1 := ⟨⟨kc_X7_bestThresholdByTrying, ki_X7, ⟨by decide +kernel, by decide +kernel⟩, by decide +kernel⟩, rfl, kn_X7_bestThresholdByTrying, kv_X7_bestThresholdByTrying⟩
set_option maxRecDepth 100000 in
theorem kl_L_140 : Cond.methodLink RL 140 yX7_bestThresholdByTrying ∈ big := big_t5 31 (by decide +kernel)
set_option maxRecDepth 100000 in
theorem kl_X2_56 : Cond.methodLinkNest RX2 56 yX7_hasBit "FraudSieve" ∈ lw_tbl := tbl_t5 (List.mem_of_getElem? (i := 60) (by decide +kernel))
set_option maxRecDepth 100000 in
theorem kc_X2_countWithReason : Cond.code yX2_countWithReason cX2_countWithReason 6 (some .int) ∈ big := big_t5 59 (by decide +kernel)
set_option maxRecDepth 100000 in
theorem kn_X2_countWithReason : Cond.instanceMethod yX2_countWithReason ∈ big := big_t5 57 (by decide +kernel)
set_option maxRecDepth 100000 in
theorem kv_X2_countWithReason : Cond.selects RX2 yX2_countWithReason yX2_countWithReason ∈ big := big_t5 58 (by decide +kernel)
set_option maxRecDepth 100000 in
theorem my_X2_countWithReason : MyV z_X2_countWithReason yX2_countWithReason 3 := ⟨⟨kc_X2_countWithReason, ki_X2, ⟨by decide +kernel, by decide +kernel⟩, by decide +kernel⟩, rfl, kn_X2_countWithReason, kv_X2_countWithReason⟩
set_option maxRecDepth 100000 in
theorem kl_X7_301 : Cond.methodLink RX7 301 yX2_countWithReason ∈ big := big_t5 56 (by decide +kernel)
set_option maxRecDepth 100000 in
theorem kk_X7_305 : Cond.classLink RX7 305 "java/lang/ArithmeticException" ∈ big := big_t5 61 (by decide +kernel)
set_option maxRecDepth 100000 in
theorem ki_java_lang_ArithmeticException : Cond.initialized "java/lang/ArithmeticException" ∈ big := big_t1 22 (by decide +kernel)
set_option maxRecDepth 100000 in
theorem th_X7_305_309 : ThrF RX7 305 309 "java/lang/ArithmeticException" ["java/lang/RuntimeException", "java/lang/Exception"] := ⟨by decide +kernel, by decide +kernel, kk_X7_305, ki_java_lang_ArithmeticException, by decide +kernel, by decide +kernel⟩
set_option maxRecDepth 100000 in
theorem tx_307 : (RX7, 307, "no decided payment has this rule") ∈ texts := List.mem_of_getElem? (i := 26) rfl
set_option maxRecDepth 100000 in
theorem kc_X7_precision : Cond.code yX7_precision cX7_precision 4 (some .float) ∈ big := big_t5 55 (by decide +kernel)
set_option maxRecDepth 100000 in
theorem kn_X7_precision : Cond.instanceMethod yX7_precision ∈ big := big_t5 53 (by decide +kernel)
set_option maxRecDepth 100000 in
theorem kv_X7_precision : Cond.selects RX7 yX7_precision yX7_precision ∈ big := big_t5 54 (by decide +kernel)
set_option maxRecDepth 100000 in
theorem my_X7_precision : MyV z_X7_precision yX7_precision 1 := ⟨⟨kc_X7_precision, ki_X7, ⟨by decide +kernel, by decide +kernel⟩, by decide +kernel⟩, rfl, kn_X7_precision, kv_X7_precision⟩
set_option maxRecDepth 100000 in
theorem kl_L_143 : Cond.methodLink RL 143 yX7_precision ∈ big := big_t5 52 (by decide +kernel)
set_option maxRecDepth 100000 in
theorem nc_43 : ("java/lang/ArithmeticException", "java/lang/IndexOutOfBoundsException") ∈ ncl := List.mem_of_getElem? (i := 43) rfl
set_option maxRecDepth 100000 in
theorem kk_L_147 : Cond.classLink RL 147 "java/lang/ArithmeticException" ∈ big := big_t5 38 (by decide +kernel)
set_option maxRecDepth 100000 in
theorem kt_java_lang_ArithmeticException : Cond.castable "java/lang/ArithmeticException" "java/lang/ArithmeticException" ∈ lw_tbl := tbl_t5 (List.mem_of_getElem? (i := 50) (by decide +kernel))
set_option maxRecDepth 100000 in
theorem tx_310 : (RX7, 310, "no payments") ∈ texts := List.mem_of_getElem? (i := 27) rfl
set_option maxRecDepth 100000 in
theorem kc_X7_meanScore : Cond.code yX7_meanScore cX7_meanScore 4 (some .double) ∈ big := big_t5 70 (by decide +kernel)
set_option maxRecDepth 100000 in
theorem kn_X7_meanScore : Cond.instanceMethod yX7_meanScore ∈ big := big_t5 68 (by decide +kernel)
set_option maxRecDepth 100000 in
theorem kv_X7_meanScore : Cond.selects RX7 yX7_meanScore yX7_meanScore ∈ big := big_t5 69 (by decide +kernel)
set_option maxRecDepth 100000 in
theorem my_X7_meanScore : MyV z_X7_meanScore yX7_meanScore 0 := ⟨⟨kc_X7_meanScore, ki_X7, ⟨by decide +kernel, by decide +kernel⟩, by decide +kernel⟩, rfl, kn_X7_meanScore, kv_X7_meanScore⟩
set_option maxRecDepth 100000 in
theorem kl_L_149 : Cond.methodLink RL 149 yX7_meanScore ∈ big := big_t5 67 (by decide +kernel)
set_option maxRecDepth 100000 in
theorem kf_X7_154 : Cond.fieldLinkNest RX7 154 "FraudSieve$Bank" (TX1 4).2.1 (TX1 4).2.2.1 "FraudSieve" ∈ lw_tbl := tbl_t1 (List.mem_of_getElem? (i := 121) (by decide +kernel))
set_option maxRecDepth 100000 in
theorem fg_X7_154 : Fld (some "FraudSieve") layC NC RX7 154 1 4 none := ⟨"FraudSieve$Bank", RX1, TX1, 5, 1, rfC1, ⟨kf_X7_154, inb_X1, rfl, by decide, rfl⟩, rfl, by decide, rfl⟩
set_option maxRecDepth 100000 in
theorem kf_X7_312 : Cond.fieldLinkNest RX7 312 "FraudSieve$Ledger" (TX4 2).2.1 (TX4 2).2.2.1 "FraudSieve" ∈ lw_tbl := tbl_t1 (List.mem_of_getElem? (i := 82) (by decide +kernel))
set_option maxRecDepth 100000 in
theorem fg_X7_312 : Fld (some "FraudSieve") layC NC RX7 312 5 2 (some 8) := ⟨"FraudSieve$Ledger", RX4, TX4, 5, 4, rfC5, ⟨kf_X7_312, inb_X4, rfl, by decide, rfl⟩, rfl, by decide, rfl⟩
set_option maxRecDepth 100000 in
theorem kc_X7_areScoresSound : Cond.code yX7_areScoresSound cX7_areScoresSound 2 (some .boolean) ∈ big := big_t2 47 (by decide +kernel)
set_option maxRecDepth 100000 in
theorem kn_X7_areScoresSound : Cond.instanceMethod yX7_areScoresSound ∈ big := big_t2 46 (by decide +kernel)
set_option maxRecDepth 100000 in
theorem kv_X7_areScoresSound : Cond.selects RX7 yX7_areScoresSound yX7_areScoresSound ∈ big := big_at 0 (by decide +kernel)
set_option maxRecDepth 100000 in
theorem my_X7_areScoresSound : MyV z_X7_areScoresSound yX7_areScoresSound 0 := ⟨⟨kc_X7_areScoresSound, ki_X7, ⟨by decide +kernel, by decide +kernel⟩, by decide +kernel⟩, rfl, kn_X7_areScoresSound, kv_X7_areScoresSound⟩
set_option maxRecDepth 100000 in
theorem kl_X7_315 : Cond.methodLink RX7 315 yX7_areScoresSound ∈ big := big_t2 44 (by decide +kernel)
set_option maxRecDepth 100000 in
theorem kc_X7_areSumsSound : Cond.code yX7_areSumsSound cX7_areSumsSound 3 (some .boolean) ∈ big := big_t2 58 (by decide +kernel)
set_option maxRecDepth 100000 in
theorem kn_X7_areSumsSound : Cond.instanceMethod yX7_areSumsSound ∈ big := big_t2 57 (by decide +kernel)
set_option maxRecDepth 100000 in
theorem kv_X7_areSumsSound : Cond.selects RX7 yX7_areSumsSound yX7_areSumsSound ∈ big := big_at 1 (by decide +kernel)
set_option maxRecDepth 100000 in
theorem my_X7_areSumsSound : MyV z_X7_areSumsSound yX7_areSumsSound 0 := ⟨⟨kc_X7_areSumsSound, ki_X7, ⟨by decide +kernel, by decide +kernel⟩, by decide +kernel⟩, rfl, kn_X7_areSumsSound, kv_X7_areSumsSound⟩
set_option maxRecDepth 100000 in
theorem kl_X7_319 : Cond.methodLink RX7 319 yX7_areSumsSound ∈ big := big_t2 55 (by decide +kernel)
set_option maxRecDepth 100000 in
theorem kf_X8_82 : Cond.fieldLink RX8 82 "FraudSieveModel" (TX8 0).2.1 (TX8 0).2.2.1 ∈ big := big_t5 78 (by decide +kernel)
set_option maxRecDepth 100000 in
theorem inb_X8 : ∀ w ∈ u_ws RX8 TX8 33, w ∈ big := fun w hw => List.mem_filter.mpr ⟨(goodIn_r (big := lw_tbl) (u_ws RX8 TX8 33) [1118, 1120, 1122, 1124, 1126, 1128, 1130, 1132, 1134, 1136, 1138, 1140, 1142, 1144, 1146, 1148, 1150, 1152, 1154, 1156, 1158, 1160, 1162, 1164, 1166, 1168, 1170, 1172, 1174, 1176, 1178, 1180, 1182] (by decide +kernel) (by decide +kernel) w hw).1, by revert w; decide +kernel⟩
set_option maxRecDepth 100000 in
theorem fg_X8_82 : Fld none layM NM RX8 82 0 0 none := ⟨"FraudSieveModel", RX8, TX8, 33, 8, rfM0, ⟨kf_X8_82, inb_X8, rfl, by decide, rfl⟩, rfl, by decide, rfl⟩
set_option maxRecDepth 100000 in
theorem fp_X8_82 : FldP none layM NM RX8 82 0 0 := ⟨"FraudSieveModel", RX8, TX8, tyX8, 33, 8, rfM0, ⟨kf_X8_82, inb_X8, rfl, by decide, rfl⟩, rfl, by decide, rfl, rfl, rfl, tyX8_ok, nmX8⟩
set_option maxRecDepth 100000 in
theorem kf_X8_85 : Cond.fieldLink RX8 85 "FraudSieveModel" (TX8 3).2.1 (TX8 3).2.2.1 ∈ big := big_t5 81 (by decide +kernel)
set_option maxRecDepth 100000 in
theorem fg_X8_85 : Fld none layM NM RX8 85 0 3 none := ⟨"FraudSieveModel", RX8, TX8, 33, 8, rfM0, ⟨kf_X8_85, inb_X8, rfl, by decide, rfl⟩, rfl, by decide, rfl⟩
set_option maxRecDepth 100000 in
theorem kc_X8_isBetween : Cond.code yX8_isBetween cX8_isBetween 3 (some .boolean) ∈ big := big_t5 188 (by decide +kernel)
set_option maxRecDepth 100000 in
theorem ki_X8 : Cond.initialized RX8 ∈ big := big_t1 9 (by decide +kernel)
set_option maxRecDepth 100000 in
theorem ks_X8_isBetween : Cond.static yX8_isBetween ∈ big := big_t5 187 (by decide +kernel)
set_option maxRecDepth 100000 in
theorem my_X8_isBetween : MyS z_X8_isBetween yX8_isBetween 3 := ⟨⟨kc_X8_isBetween, ki_X8, ⟨by decide +kernel, by decide +kernel⟩, by decide +kernel⟩, rfl, ks_X8_isBetween⟩
set_option maxRecDepth 100000 in
theorem kl_X8_88 : Cond.methodLink RX8 88 yX8_isBetween ∈ big := big_t5 186 (by decide +kernel)
set_option maxRecDepth 100000 in
theorem kf_X8_9 : Cond.fieldLink RX8 9 "FraudSieveModel" (TX8 1).2.1 (TX8 1).2.2.1 ∈ big := big_t5 79 (by decide +kernel)
set_option maxRecDepth 100000 in
theorem fg_X8_9 : Fld none layM NM RX8 9 0 1 (some 1) := ⟨"FraudSieveModel", RX8, TX8, 33, 8, rfM0, ⟨kf_X8_9, inb_X8, rfl, by decide, rfl⟩, rfl, by decide, rfl⟩
set_option maxRecDepth 100000 in
theorem kf_X8_13 : Cond.fieldLink RX8 13 "FraudSieveModel" (TX8 2).2.1 (TX8 2).2.2.1 ∈ big := big_t5 80 (by decide +kernel)
set_option maxRecDepth 100000 in
theorem fg_X8_13 : Fld none layM NM RX8 13 0 2 (some 2) := ⟨"FraudSieveModel", RX8, TX8, 33, 8, rfM0, ⟨kf_X8_13, inb_X8, rfl, by decide, rfl⟩, rfl, by decide, rfl⟩
set_option maxRecDepth 100000 in
theorem kf_X8_96 : Cond.fieldLink RX8 96 "FraudSieveModel" (TX8 4).2.1 (TX8 4).2.2.1 ∈ big := big_t5 82 (by decide +kernel)
set_option maxRecDepth 100000 in
theorem fg_X8_96 : Fld none layM NM RX8 96 0 4 none := ⟨"FraudSieveModel", RX8, TX8, 33, 8, rfM0, ⟨kf_X8_96, inb_X8, rfl, by decide, rfl⟩, rfl, by decide, rfl⟩
set_option maxRecDepth 100000 in
theorem fp_X8_85 : FldP none layM NM RX8 85 0 3 := ⟨"FraudSieveModel", RX8, TX8, tyX8, 33, 8, rfM0, ⟨kf_X8_85, inb_X8, rfl, by decide, rfl⟩, rfl, by decide, rfl, rfl, rfl, tyX8_ok, nmX8⟩
set_option maxRecDepth 100000 in
theorem kc_X8_fails : Cond.code yX8_fails cX8_fails 2 (some .int) ∈ big := big_t5 192 (by decide +kernel)
set_option maxRecDepth 100000 in
theorem kn_X8_fails : Cond.instanceMethod yX8_fails ∈ big := big_t5 191 (by decide +kernel)
set_option maxRecDepth 100000 in
theorem kv_X8_fails : Cond.selects RX8 yX8_fails yX8_fails ∈ big := big_at 20 (by decide +kernel)
set_option maxRecDepth 100000 in
theorem my_X8_fails : MyV z_X8_fails yX8_fails 1 := ⟨⟨kc_X8_fails, ki_X8, ⟨by decide +kernel, by decide +kernel⟩, by decide +kernel⟩, rfl, kn_X8_fails, kv_X8_fails⟩
set_option maxRecDepth 100000 in
theorem kl_X8_92 : Cond.methodLink RX8 92 yX8_fails ∈ big := big_t5 189 (by decide +kernel)
set_option maxRecDepth 100000 in
theorem rc_X8 : RcM 0 RX8 := ⟨8, 33, TX8, rfM0, rfl, by decide, rfl⟩
set_option maxRecDepth 100000 in
theorem kc_X8_isAccount : Cond.code yX8_isAccount cX8_isAccount 2 (some .boolean) ∈ big := big_t5 200 (by decide +kernel)
set_option maxRecDepth 100000 in
theorem kn_X8_isAccount : Cond.instanceMethod yX8_isAccount ∈ big := big_t5 199 (by decide +kernel)
set_option maxRecDepth 100000 in
theorem kv_X8_isAccount : Cond.selects RX8 yX8_isAccount yX8_isAccount ∈ big := big_at 21 (by decide +kernel)
set_option maxRecDepth 100000 in
theorem my_X8_isAccount : MyV z_X8_isAccount yX8_isAccount 1 := ⟨⟨kc_X8_isAccount, ki_X8, ⟨by decide +kernel, by decide +kernel⟩, by decide +kernel⟩, rfl, kn_X8_isAccount, kv_X8_isAccount⟩
set_option maxRecDepth 100000 in
theorem kl_X8_99 : Cond.methodLink RX8 99 yX8_isAccount ∈ big := big_t5 197 (by decide +kernel)
set_option maxRecDepth 100000 in
theorem kf_X8_106 : Cond.fieldLink RX8 106 "FraudSieveModel" (TX8 5).2.1 (TX8 5).2.2.1 ∈ big := big_t5 83 (by decide +kernel)
set_option maxRecDepth 100000 in
theorem fg_X8_106 : Fld none layM NM RX8 106 0 5 none := ⟨"FraudSieveModel", RX8, TX8, 33, 8, rfM0, ⟨kf_X8_106, inb_X8, rfl, by decide, rfl⟩, rfl, by decide, rfl⟩
set_option maxRecDepth 100000 in
theorem kc_X8_has : Cond.code yX8_has cX8_has 2 (some .boolean) ∈ big := big_t5 207 (by decide +kernel)
set_option maxRecDepth 100000 in
theorem ks_X8_has : Cond.static yX8_has ∈ big := big_t5 206 (by decide +kernel)
set_option maxRecDepth 100000 in
theorem my_X8_has : MyS z_X8_has yX8_has 2 := ⟨⟨kc_X8_has, ki_X8, ⟨by decide +kernel, by decide +kernel⟩, by decide +kernel⟩, rfl, ks_X8_has⟩
set_option maxRecDepth 100000 in
theorem kl_X8_109 : Cond.methodLink RX8 109 yX8_has ∈ big := big_t5 205 (by decide +kernel)
set_option maxRecDepth 100000 in
theorem kc_X8_with : Cond.code yX8_with cX8_with 3 (some .int) ∈ big := big_t5 210 (by decide +kernel)
set_option maxRecDepth 100000 in
theorem ks_X8_with : Cond.static yX8_with ∈ big := big_t5 209 (by decide +kernel)
set_option maxRecDepth 100000 in
theorem my_X8_with : MyS z_X8_with yX8_with 3 := ⟨⟨kc_X8_with, ki_X8, ⟨by decide +kernel, by decide +kernel⟩, by decide +kernel⟩, rfl, ks_X8_with⟩
set_option maxRecDepth 100000 in
theorem kl_X8_113 : Cond.methodLink RX8 113 yX8_with ∈ big := big_t5 208 (by decide +kernel)
set_option maxRecDepth 100000 in
theorem fp_X8_106 : FldP none layM NM RX8 106 0 5 := ⟨"FraudSieveModel", RX8, TX8, tyX8, 33, 8, rfM0, ⟨kf_X8_106, inb_X8, rfl, by decide, rfl⟩, rfl, by decide, rfl, rfl, rfl, tyX8_ok, nmX8⟩
set_option maxRecDepth 100000 in
theorem kc_X8_isWrong : Cond.code yX8_isWrong cX8_isWrong 2 (some .boolean) ∈ big := big_t5 204 (by decide +kernel)
set_option maxRecDepth 100000 in
theorem kn_X8_isWrong : Cond.instanceMethod yX8_isWrong ∈ big := big_t5 203 (by decide +kernel)
set_option maxRecDepth 100000 in
theorem kv_X8_isWrong : Cond.selects RX8 yX8_isWrong yX8_isWrong ∈ big := big_at 22 (by decide +kernel)
set_option maxRecDepth 100000 in
theorem my_X8_isWrong : MyV z_X8_isWrong yX8_isWrong 1 := ⟨⟨kc_X8_isWrong, ki_X8, ⟨by decide +kernel, by decide +kernel⟩, by decide +kernel⟩, rfl, kn_X8_isWrong, kv_X8_isWrong⟩
set_option maxRecDepth 100000 in
theorem kl_X8_103 : Cond.methodLink RX8 103 yX8_isWrong ∈ big := big_t5 201 (by decide +kernel)
set_option maxRecDepth 100000 in
theorem kf_X8_117 : Cond.fieldLink RX8 117 "FraudSieveModel" (TX8 6).2.1 (TX8 6).2.2.1 ∈ big := big_t5 84 (by decide +kernel)
set_option maxRecDepth 100000 in
theorem fg_X8_117 : Fld none layM NM RX8 117 0 6 none := ⟨"FraudSieveModel", RX8, TX8, 33, 8, rfM0, ⟨kf_X8_117, inb_X8, rfl, by decide, rfl⟩, rfl, by decide, rfl⟩
set_option maxRecDepth 100000 in
theorem fp_X8_117 : FldP none layM NM RX8 117 0 6 := ⟨"FraudSieveModel", RX8, TX8, tyX8, 33, 8, rfM0, ⟨kf_X8_117, inb_X8, rfl, by decide, rfl⟩, rfl, by decide, rfl, rfl, rfl, tyX8_ok, nmX8⟩
set_option maxRecDepth 100000 in
theorem fp_X8_96 : FldP none layM NM RX8 96 0 4 := ⟨"FraudSieveModel", RX8, TX8, tyX8, 33, 8, rfM0, ⟨kf_X8_96, inb_X8, rfl, by decide, rfl⟩, rfl, by decide, rfl, rfl, rfl, tyX8_ok, nmX8⟩
set_option maxRecDepth 100000 in
theorem kf_X8_120 : Cond.fieldLink RX8 120 "FraudSieveModel" (TX8 15).2.1 (TX8 15).2.2.1 ∈ big := big_t5 93 (by decide +kernel)
set_option maxRecDepth 100000 in
theorem fg_X8_120 : Fld none layM NM RX8 120 0 15 none := ⟨"FraudSieveModel", RX8, TX8, 33, 8, rfM0, ⟨kf_X8_120, inb_X8, rfl, by decide, rfl⟩, rfl, by decide, rfl⟩
set_option maxRecDepth 100000 in
theorem kf_X8_26 : Cond.fieldLink RX8 26 "FraudSieveModel" (TX8 10).2.1 (TX8 10).2.2.1 ∈ big := big_t5 88 (by decide +kernel)
set_option maxRecDepth 100000 in
theorem fg_X8_26 : Fld none layM NM RX8 26 0 10 (some 6) := ⟨"FraudSieveModel", RX8, TX8, 33, 8, rfM0, ⟨kf_X8_26, inb_X8, rfl, by decide, rfl⟩, rfl, by decide, rfl⟩
set_option maxRecDepth 100000 in
theorem kf_X8_17 : Cond.fieldLink RX8 17 "FraudSieveModel" (TX8 7).2.1 (TX8 7).2.2.1 ∈ big := big_t5 85 (by decide +kernel)
set_option maxRecDepth 100000 in
theorem fg_X8_17 : Fld none layM NM RX8 17 0 7 (some 3) := ⟨"FraudSieveModel", RX8, TX8, 33, 8, rfM0, ⟨kf_X8_17, inb_X8, rfl, by decide, rfl⟩, rfl, by decide, rfl⟩
set_option maxRecDepth 100000 in
theorem kf_X8_20 : Cond.fieldLink RX8 20 "FraudSieveModel" (TX8 8).2.1 (TX8 8).2.2.1 ∈ big := big_t5 86 (by decide +kernel)
set_option maxRecDepth 100000 in
theorem fg_X8_20 : Fld none layM NM RX8 20 0 8 (some 4) := ⟨"FraudSieveModel", RX8, TX8, 33, 8, rfM0, ⟨kf_X8_20, inb_X8, rfl, by decide, rfl⟩, rfl, by decide, rfl⟩
set_option maxRecDepth 100000 in
theorem kf_X8_23 : Cond.fieldLink RX8 23 "FraudSieveModel" (TX8 9).2.1 (TX8 9).2.2.1 ∈ big := big_t5 87 (by decide +kernel)
set_option maxRecDepth 100000 in
theorem fg_X8_23 : Fld none layM NM RX8 23 0 9 (some 5) := ⟨"FraudSieveModel", RX8, TX8, 33, 8, rfM0, ⟨kf_X8_23, inb_X8, rfl, by decide, rfl⟩, rfl, by decide, rfl⟩
set_option maxRecDepth 100000 in
theorem kf_X8_29 : Cond.fieldLink RX8 29 "FraudSieveModel" (TX8 11).2.1 (TX8 11).2.2.1 ∈ big := big_t5 89 (by decide +kernel)
set_option maxRecDepth 100000 in
theorem fg_X8_29 : Fld none layM NM RX8 29 0 11 (some 7) := ⟨"FraudSieveModel", RX8, TX8, 33, 8, rfM0, ⟨kf_X8_29, inb_X8, rfl, by decide, rfl⟩, rfl, by decide, rfl⟩
set_option maxRecDepth 100000 in
theorem kf_X8_32 : Cond.fieldLink RX8 32 "FraudSieveModel" (TX8 12).2.1 (TX8 12).2.2.1 ∈ big := big_t5 90 (by decide +kernel)
set_option maxRecDepth 100000 in
theorem fg_X8_32 : Fld none layM NM RX8 32 0 12 (some 8) := ⟨"FraudSieveModel", RX8, TX8, 33, 8, rfM0, ⟨kf_X8_32, inb_X8, rfl, by decide, rfl⟩, rfl, by decide, rfl⟩
set_option maxRecDepth 100000 in
theorem kf_X8_123 : Cond.fieldLink RX8 123 "FraudSieveModel" (TX8 30).2.1 (TX8 30).2.2.1 ∈ big := big_t5 108 (by decide +kernel)
set_option maxRecDepth 100000 in
theorem fg_X8_123 : Fld none layM NM RX8 123 0 30 none := ⟨"FraudSieveModel", RX8, TX8, 33, 8, rfM0, ⟨kf_X8_123, inb_X8, rfl, by decide, rfl⟩, rfl, by decide, rfl⟩
set_option maxRecDepth 100000 in
theorem fp_X8_120 : FldP none layM NM RX8 120 0 15 := ⟨"FraudSieveModel", RX8, TX8, tyX8, 33, 8, rfM0, ⟨kf_X8_120, inb_X8, rfl, by decide, rfl⟩, rfl, by decide, rfl, rfl, rfl, tyX8_ok, nmX8⟩
set_option maxRecDepth 100000 in
theorem kf_X8_35 : Cond.fieldLink RX8 35 "FraudSieveModel" (TX8 13).2.1 (TX8 13).2.2.1 ∈ big := big_t5 91 (by decide +kernel)
set_option maxRecDepth 100000 in
theorem fg_X8_35 : Fld none layM NM RX8 35 0 13 (some 9) := ⟨"FraudSieveModel", RX8, TX8, 33, 8, rfM0, ⟨kf_X8_35, inb_X8, rfl, by decide, rfl⟩, rfl, by decide, rfl⟩
set_option maxRecDepth 100000 in
theorem kf_X8_187 : Cond.fieldLink RX8 187 "FraudSieveModel" (TX8 29).2.1 (TX8 29).2.2.1 ∈ big := big_t5 107 (by decide +kernel)
set_option maxRecDepth 100000 in
theorem fg_X8_187 : Fld none layM NM RX8 187 0 29 none := ⟨"FraudSieveModel", RX8, TX8, 33, 8, rfM0, ⟨kf_X8_187, inb_X8, rfl, by decide, rfl⟩, rfl, by decide, rfl⟩
set_option maxRecDepth 100000 in
theorem kf_X8_73 : Cond.fieldLink RX8 73 "FraudSieveModel" (TX8 27).2.1 (TX8 27).2.2.1 ∈ big := big_t5 105 (by decide +kernel)
set_option maxRecDepth 100000 in
theorem fg_X8_73 : Fld none layM NM RX8 73 0 27 (some 20) := ⟨"FraudSieveModel", RX8, TX8, 33, 8, rfM0, ⟨kf_X8_73, inb_X8, rfl, by decide, rfl⟩, rfl, by decide, rfl⟩
set_option maxRecDepth 100000 in
theorem kf_X8_48 : Cond.fieldLink RX8 48 "FraudSieveModel" (TX8 18).2.1 (TX8 18).2.2.1 ∈ big := big_t5 96 (by decide +kernel)
set_option maxRecDepth 100000 in
theorem fg_X8_48 : Fld none layM NM RX8 48 0 18 (some 12) := ⟨"FraudSieveModel", RX8, TX8, 33, 8, rfM0, ⟨kf_X8_48, inb_X8, rfl, by decide, rfl⟩, rfl, by decide, rfl⟩
set_option maxRecDepth 100000 in
theorem kf_X8_66 : Cond.fieldLink RX8 66 "FraudSieveModel" (TX8 24).2.1 (TX8 24).2.2.1 ∈ big := big_t5 102 (by decide +kernel)
set_option maxRecDepth 100000 in
theorem fg_X8_66 : Fld none layM NM RX8 66 0 24 (some 18) := ⟨"FraudSieveModel", RX8, TX8, 33, 8, rfM0, ⟨kf_X8_66, inb_X8, rfl, by decide, rfl⟩, rfl, by decide, rfl⟩
set_option maxRecDepth 100000 in
theorem kf_X8_60 : Cond.fieldLink RX8 60 "FraudSieveModel" (TX8 22).2.1 (TX8 22).2.2.1 ∈ big := big_t5 100 (by decide +kernel)
set_option maxRecDepth 100000 in
theorem fg_X8_60 : Fld none layM NM RX8 60 0 22 (some 16) := ⟨"FraudSieveModel", RX8, TX8, 33, 8, rfM0, ⟨kf_X8_60, inb_X8, rfl, by decide, rfl⟩, rfl, by decide, rfl⟩
set_option maxRecDepth 100000 in
theorem kq_X8_168 : Cond.constant RX8 168 99999 ∈ big := big_t6 45 (by decide +kernel)
set_option maxRecDepth 100000 in
theorem kc_X8_isIn : Cond.code yX8_isIn cX8_isIn 4 (some .boolean) ∈ big := big_t6 26 (by decide +kernel)
set_option maxRecDepth 100000 in
theorem kn_X8_isIn : Cond.instanceMethod yX8_isIn ∈ big := big_t6 25 (by decide +kernel)
set_option maxRecDepth 100000 in
theorem kv_X8_isIn : Cond.selects RX8 yX8_isIn yX8_isIn ∈ big := big_at 29 (by decide +kernel)
set_option maxRecDepth 100000 in
theorem my_X8_isIn : MyV z_X8_isIn yX8_isIn 3 := ⟨⟨kc_X8_isIn, ki_X8, ⟨by decide +kernel, by decide +kernel⟩, by decide +kernel⟩, rfl, kn_X8_isIn, kv_X8_isIn⟩
set_option maxRecDepth 100000 in
theorem kl_X8_136 : Cond.methodLink RX8 136 yX8_isIn ∈ big := big_t6 23 (by decide +kernel)
set_option maxRecDepth 100000 in
theorem kl_X8_152 : Cond.methodLink RX8 152 Lib.Math.max.name ∈ big := big_t6 42 (by decide +kernel)
set_option maxRecDepth 100000 in
theorem ks_J9_max_7cf53 : Cond.static Lib.Math.max.name ∈ big := big_t6 43 (by decide +kernel)
set_option maxRecDepth 100000 in
theorem ki_Math : Cond.initialized "java/lang/Math" ∈ big := big_t1 20 (by decide +kernel)
set_option maxRecDepth 100000 in
theorem kc_J9_max_7cf53 : Cond.code Lib.Math.max.name Lib.Math.max.code 2 (some .int) ∈ big := big_t6 44 (by decide +kernel)
set_option maxRecDepth 100000 in
theorem mm_X8_max_152 : MmF_max RX8 152 := ⟨kl_X8_152, ks_J9_max_7cf53, ki_Math, kc_J9_max_7cf53⟩
set_option maxRecDepth 100000 in
theorem kc_X8_gathered : Cond.code yX8_gathered cX8_gathered 8 (some .int) ∈ big := big_t6 41 (by decide +kernel)
set_option maxRecDepth 100000 in
theorem kn_X8_gathered : Cond.instanceMethod yX8_gathered ∈ big := big_t6 40 (by decide +kernel)
set_option maxRecDepth 100000 in
theorem kv_X8_gathered : Cond.selects RX8 yX8_gathered yX8_gathered ∈ big := big_at 32 (by decide +kernel)
set_option maxRecDepth 100000 in
theorem my_X8_gathered : MyV z_X8_gathered yX8_gathered 3 := ⟨⟨kc_X8_gathered, ki_X8, ⟨by decide +kernel, by decide +kernel⟩, by decide +kernel⟩, rfl, kn_X8_gathered, kv_X8_gathered⟩
set_option maxRecDepth 100000 in
theorem kl_X8_165 : Cond.methodLink RX8 165 yX8_gathered ∈ big := big_t6 38 (by decide +kernel)
set_option maxRecDepth 100000 in
theorem kf_X8_45 : Cond.fieldLink RX8 45 "FraudSieveModel" (TX8 17).2.1 (TX8 17).2.2.1 ∈ big := big_t5 95 (by decide +kernel)
set_option maxRecDepth 100000 in
theorem fg_X8_45 : Fld none layM NM RX8 45 0 17 (some 11) := ⟨"FraudSieveModel", RX8, TX8, 33, 8, rfM0, ⟨kf_X8_45, inb_X8, rfl, by decide, rfl⟩, rfl, by decide, rfl⟩
set_option maxRecDepth 100000 in
theorem kc_X8_spreads : Cond.code yX8_spreads cX8_spreads 8 none ∈ big := big_t6 22 (by decide +kernel)
set_option maxRecDepth 100000 in
theorem kn_X8_spreads : Cond.instanceMethod yX8_spreads ∈ big := big_t6 21 (by decide +kernel)
set_option maxRecDepth 100000 in
theorem kv_X8_spreads : Cond.selects RX8 yX8_spreads yX8_spreads ∈ big := big_at 28 (by decide +kernel)
set_option maxRecDepth 100000 in
theorem my_X8_spreads : MyV z_X8_spreads yX8_spreads 5 := ⟨⟨kc_X8_spreads, ki_X8, ⟨by decide +kernel, by decide +kernel⟩, by decide +kernel⟩, rfl, kn_X8_spreads, kv_X8_spreads⟩
set_option maxRecDepth 100000 in
theorem kl_X8_143 : Cond.methodLink RX8 143 yX8_spreads ∈ big := big_t6 19 (by decide +kernel)
set_option maxRecDepth 100000 in
theorem kl_X8_147 : Cond.methodLink RX8 147 Lib.Math.min.name ∈ big := big_t6 35 (by decide +kernel)
set_option maxRecDepth 100000 in
theorem ks_J9_min_7cf53 : Cond.static Lib.Math.min.name ∈ big := big_t6 36 (by decide +kernel)
set_option maxRecDepth 100000 in
theorem kc_J9_min_7cf53 : Cond.code Lib.Math.min.name Lib.Math.min.code 2 (some .int) ∈ big := big_t6 37 (by decide +kernel)
set_option maxRecDepth 100000 in
theorem mm_X8_min_147 : MmF_min RX8 147 := ⟨kl_X8_147, ks_J9_min_7cf53, ki_Math, kc_J9_min_7cf53⟩
set_option maxRecDepth 100000 in
theorem kc_X8_toMarked : Cond.code yX8_toMarked cX8_toMarked 6 (some .int) ∈ big := big_t6 34 (by decide +kernel)
set_option maxRecDepth 100000 in
theorem kn_X8_toMarked : Cond.instanceMethod yX8_toMarked ∈ big := big_t6 33 (by decide +kernel)
set_option maxRecDepth 100000 in
theorem kv_X8_toMarked : Cond.selects RX8 yX8_toMarked yX8_toMarked ∈ big := big_at 31 (by decide +kernel)
set_option maxRecDepth 100000 in
theorem my_X8_toMarked : MyV z_X8_toMarked yX8_toMarked 3 := ⟨⟨kc_X8_toMarked, ki_X8, ⟨by decide +kernel, by decide +kernel⟩, by decide +kernel⟩, rfl, kn_X8_toMarked, kv_X8_toMarked⟩
set_option maxRecDepth 100000 in
theorem kl_X8_162 : Cond.methodLink RX8 162 yX8_toMarked ∈ big := big_t6 31 (by decide +kernel)
set_option maxRecDepth 100000 in
theorem kc_X8_closing : Cond.code yX8_closing cX8_closing 3 (some .int) ∈ big := big_t6 30 (by decide +kernel)
set_option maxRecDepth 100000 in
theorem kn_X8_closing : Cond.instanceMethod yX8_closing ∈ big := big_t6 29 (by decide +kernel)
set_option maxRecDepth 100000 in
theorem kv_X8_closing : Cond.selects RX8 yX8_closing yX8_closing ∈ big := big_at 30 (by decide +kernel)
set_option maxRecDepth 100000 in
theorem my_X8_closing : MyV z_X8_closing yX8_closing 2 := ⟨⟨kc_X8_closing, ki_X8, ⟨by decide +kernel, by decide +kernel⟩, by decide +kernel⟩, rfl, kn_X8_closing, kv_X8_closing⟩
set_option maxRecDepth 100000 in
theorem kl_X8_159 : Cond.methodLink RX8 159 yX8_closing ∈ big := big_t6 27 (by decide +kernel)
set_option maxRecDepth 100000 in
theorem kc_X8_reached : Cond.code yX8_reached cX8_reached 7 (some .int) ∈ big := big_t6 18 (by decide +kernel)
set_option maxRecDepth 100000 in
theorem kn_X8_reached : Cond.instanceMethod yX8_reached ∈ big := big_t6 17 (by decide +kernel)
set_option maxRecDepth 100000 in
theorem kv_X8_reached : Cond.selects RX8 yX8_reached yX8_reached ∈ big := big_at 27 (by decide +kernel)
set_option maxRecDepth 100000 in
theorem my_X8_reached : MyV z_X8_reached yX8_reached 4 := ⟨⟨kc_X8_reached, ki_X8, ⟨by decide +kernel, by decide +kernel⟩, by decide +kernel⟩, rfl, kn_X8_reached, kv_X8_reached⟩
set_option maxRecDepth 100000 in
theorem kl_X8_155 : Cond.methodLink RX8 155 yX8_reached ∈ big := big_t6 15 (by decide +kernel)
set_option maxRecDepth 100000 in
theorem kc_X8_valueBy : Cond.code yX8_valueBy cX8_valueBy 8 (some .int) ∈ big := big_t6 14 (by decide +kernel)
set_option maxRecDepth 100000 in
theorem kn_X8_valueBy : Cond.instanceMethod yX8_valueBy ∈ big := big_t6 13 (by decide +kernel)
set_option maxRecDepth 100000 in
theorem kv_X8_valueBy : Cond.selects RX8 yX8_valueBy yX8_valueBy ∈ big := big_at 26 (by decide +kernel)
set_option maxRecDepth 100000 in
theorem my_X8_valueBy : MyV z_X8_valueBy yX8_valueBy 4 := ⟨⟨kc_X8_valueBy, ki_X8, ⟨by decide +kernel, by decide +kernel⟩, by decide +kernel⟩, rfl, kn_X8_valueBy, kv_X8_valueBy⟩
set_option maxRecDepth 100000 in
theorem kl_X8_172 : Cond.methodLink RX8 172 yX8_valueBy ∈ big := big_t6 11 (by decide +kernel)
set_option maxRecDepth 100000 in
theorem kf_X8_69 : Cond.fieldLink RX8 69 "FraudSieveModel" (TX8 25).2.1 (TX8 25).2.2.1 ∈ big := big_t5 103 (by decide +kernel)
set_option maxRecDepth 100000 in
theorem fg_X8_69 : Fld none layM NM RX8 69 0 25 (some 19) := ⟨"FraudSieveModel", RX8, TX8, 33, 8, rfM0, ⟨kf_X8_69, inb_X8, rfl, by decide, rfl⟩, rfl, by decide, rfl⟩
set_option maxRecDepth 100000 in
theorem kf_X8_63 : Cond.fieldLink RX8 63 "FraudSieveModel" (TX8 23).2.1 (TX8 23).2.2.1 ∈ big := big_t5 101 (by decide +kernel)
set_option maxRecDepth 100000 in
theorem fg_X8_63 : Fld none layM NM RX8 63 0 23 (some 17) := ⟨"FraudSieveModel", RX8, TX8, 33, 8, rfM0, ⟨kf_X8_63, inb_X8, rfl, by decide, rfl⟩, rfl, by decide, rfl⟩
set_option maxRecDepth 100000 in
theorem kf_X8_51 : Cond.fieldLink RX8 51 "FraudSieveModel" (TX8 19).2.1 (TX8 19).2.2.1 ∈ big := big_t5 97 (by decide +kernel)
set_option maxRecDepth 100000 in
theorem fg_X8_51 : Fld none layM NM RX8 51 0 19 (some 13) := ⟨"FraudSieveModel", RX8, TX8, 33, 8, rfM0, ⟨kf_X8_51, inb_X8, rfl, by decide, rfl⟩, rfl, by decide, rfl⟩
set_option maxRecDepth 100000 in
theorem kc_X8_isTrue : Cond.code yX8_isTrue cX8_isTrue 5 (some .boolean) ∈ big := big_t6 10 (by decide +kernel)
set_option maxRecDepth 100000 in
theorem kn_X8_isTrue : Cond.instanceMethod yX8_isTrue ∈ big := big_t6 9 (by decide +kernel)
set_option maxRecDepth 100000 in
theorem kv_X8_isTrue : Cond.selects RX8 yX8_isTrue yX8_isTrue ∈ big := big_at 25 (by decide +kernel)
set_option maxRecDepth 100000 in
theorem my_X8_isTrue (d : Nat) : MyV (z_X8_isTrue d) yX8_isTrue 3 := ⟨⟨kc_X8_isTrue, ki_X8, ⟨by decide +kernel, by decide +kernel⟩, by decide +kernel⟩, rfl, kn_X8_isTrue, kv_X8_isTrue⟩
set_option maxRecDepth 100000 in
theorem kl_X8_184 : Cond.methodLink RX8 184 yX8_isTrue ∈ big := big_t6 7 (by decide +kernel)
set_option maxRecDepth 100000 in
theorem kf_X8_54 : Cond.fieldLink RX8 54 "FraudSieveModel" (TX8 20).2.1 (TX8 20).2.2.1 ∈ big := big_t5 98 (by decide +kernel)
set_option maxRecDepth 100000 in
theorem fg_X8_54 : Fld none layM NM RX8 54 0 20 (some 14) := ⟨"FraudSieveModel", RX8, TX8, 33, 8, rfM0, ⟨kf_X8_54, inb_X8, rfl, by decide, rfl⟩, rfl, by decide, rfl⟩
set_option maxRecDepth 100000 in
theorem kc_X8_isReason : Cond.code yX8_isReason cX8_isReason 5 (some .boolean) ∈ big := big_t6 6 (by decide +kernel)
set_option maxRecDepth 100000 in
theorem kn_X8_isReason : Cond.instanceMethod yX8_isReason ∈ big := big_t6 5 (by decide +kernel)
set_option maxRecDepth 100000 in
theorem kv_X8_isReason : Cond.selects RX8 yX8_isReason yX8_isReason ∈ big := big_at 24 (by decide +kernel)
set_option maxRecDepth 100000 in
theorem my_X8_isReason : MyV z_X8_isReason yX8_isReason 4 := ⟨⟨kc_X8_isReason, ki_X8, ⟨by decide +kernel, by decide +kernel⟩, by decide +kernel⟩, rfl, kn_X8_isReason, kv_X8_isReason⟩
set_option maxRecDepth 100000 in
theorem kl_X8_193 : Cond.methodLink RX8 193 yX8_isReason ∈ big := big_t6 3 (by decide +kernel)
set_option maxRecDepth 100000 in
theorem kf_X8_76 : Cond.fieldLink RX8 76 "FraudSieveModel" (TX8 28).2.1 (TX8 28).2.2.1 ∈ big := big_t5 106 (by decide +kernel)
set_option maxRecDepth 100000 in
theorem fg_X8_76 : Fld none layM NM RX8 76 0 28 (some 21) := ⟨"FraudSieveModel", RX8, TX8, 33, 8, rfM0, ⟨kf_X8_76, inb_X8, rfl, by decide, rfl⟩, rfl, by decide, rfl⟩
set_option maxRecDepth 100000 in
theorem kc_X8_scoreBy : Cond.code yX8_scoreBy cX8_scoreBy 6 (some .int) ∈ big := big_t6 2 (by decide +kernel)
set_option maxRecDepth 100000 in
theorem kn_X8_scoreBy : Cond.instanceMethod yX8_scoreBy ∈ big := big_t6 1 (by decide +kernel)
set_option maxRecDepth 100000 in
theorem kv_X8_scoreBy : Cond.selects RX8 yX8_scoreBy yX8_scoreBy ∈ big := big_at 23 (by decide +kernel)
set_option maxRecDepth 100000 in
theorem my_X8_scoreBy : MyV z_X8_scoreBy yX8_scoreBy 3 := ⟨⟨kc_X8_scoreBy, ki_X8, ⟨by decide +kernel, by decide +kernel⟩, by decide +kernel⟩, rfl, kn_X8_scoreBy, kv_X8_scoreBy⟩
set_option maxRecDepth 100000 in
theorem kl_X8_126 : Cond.methodLink RX8 126 yX8_scoreBy ∈ big := big_t5 239 (by decide +kernel)
set_option maxRecDepth 100000 in
theorem kf_X8_38 : Cond.fieldLink RX8 38 "FraudSieveModel" (TX8 14).2.1 (TX8 14).2.2.1 ∈ big := big_t5 92 (by decide +kernel)
set_option maxRecDepth 100000 in
theorem fg_X8_38 : Fld none layM NM RX8 38 0 14 (some 10) := ⟨"FraudSieveModel", RX8, TX8, 33, 8, rfM0, ⟨kf_X8_38, inb_X8, rfl, by decide, rfl⟩, rfl, by decide, rfl⟩
set_option maxRecDepth 100000 in
theorem kf_X8_41 : Cond.fieldLink RX8 41 "FraudSieveModel" (TX8 16).2.1 (TX8 16).2.2.1 ∈ big := big_t5 94 (by decide +kernel)
set_option maxRecDepth 100000 in
theorem fg_X8_41 : Fld none layM NM RX8 41 0 16 none := ⟨"FraudSieveModel", RX8, TX8, 33, 8, rfM0, ⟨kf_X8_41, inb_X8, rfl, by decide, rfl⟩, rfl, by decide, rfl⟩
set_option maxRecDepth 100000 in
theorem kc_X8_isPayment : Cond.code yX8_isPayment cX8_isPayment 2 (some .boolean) ∈ big := big_t6 57 (by decide +kernel)
set_option maxRecDepth 100000 in
theorem kn_X8_isPayment : Cond.instanceMethod yX8_isPayment ∈ big := big_t6 56 (by decide +kernel)
set_option maxRecDepth 100000 in
theorem kv_X8_isPayment : Cond.selects RX8 yX8_isPayment yX8_isPayment ∈ big := big_at 33 (by decide +kernel)
set_option maxRecDepth 100000 in
theorem my_X8_isPayment : MyV z_X8_isPayment yX8_isPayment 1 := ⟨⟨kc_X8_isPayment, ki_X8, ⟨by decide +kernel, by decide +kernel⟩, by decide +kernel⟩, rfl, kn_X8_isPayment, kv_X8_isPayment⟩
set_option maxRecDepth 100000 in
theorem kl_X8_130 : Cond.methodLink RX8 130 yX8_isPayment ∈ big := big_t6 54 (by decide +kernel)
set_option maxRecDepth 100000 in
theorem kc_X8_isWindow : Cond.code yX8_isWindow cX8_isWindow 1 (some .boolean) ∈ big := big_t6 64 (by decide +kernel)
set_option maxRecDepth 100000 in
theorem ks_X8_isWindow : Cond.static yX8_isWindow ∈ big := big_t6 63 (by decide +kernel)
set_option maxRecDepth 100000 in
theorem my_X8_isWindow : MyS z_X8_isWindow yX8_isWindow 1 := ⟨⟨kc_X8_isWindow, ki_X8, ⟨by decide +kernel, by decide +kernel⟩, by decide +kernel⟩, rfl, ks_X8_isWindow⟩
set_option maxRecDepth 100000 in
theorem kl_X8_133 : Cond.methodLink RX8 133 yX8_isWindow ∈ big := big_t6 62 (by decide +kernel)
set_option maxRecDepth 100000 in
theorem kc_X8_sentBy : Cond.code yX8_sentBy cX8_sentBy 5 (some .int) ∈ big := big_t6 61 (by decide +kernel)
set_option maxRecDepth 100000 in
theorem kn_X8_sentBy : Cond.instanceMethod yX8_sentBy ∈ big := big_t6 59 (by decide +kernel)
set_option maxRecDepth 100000 in
theorem kv_X8_sentBy : Cond.selects RX8 yX8_sentBy yX8_sentBy ∈ big := big_t6 60 (by decide +kernel)
set_option maxRecDepth 100000 in
theorem my_X8_sentBy : MyV z_X8_sentBy yX8_sentBy 2 := ⟨⟨kc_X8_sentBy, ki_X8, ⟨by decide +kernel, by decide +kernel⟩, by decide +kernel⟩, rfl, kn_X8_sentBy, kv_X8_sentBy⟩
set_option maxRecDepth 100000 in
theorem kl_X8_139 : Cond.methodLink RX8 139 yX8_sentBy ∈ big := big_t6 69 (by decide +kernel)
set_option maxRecDepth 100000 in
theorem kc_X8_isFeature : Cond.code yX8_isFeature cX8_isFeature 1 (some .boolean) ∈ big := big_t6 80 (by decide +kernel)
set_option maxRecDepth 100000 in
theorem ks_X8_isFeature : Cond.static yX8_isFeature ∈ big := big_t6 79 (by decide +kernel)
set_option maxRecDepth 100000 in
theorem my_X8_isFeature : MyS z_X8_isFeature yX8_isFeature 1 := ⟨⟨kc_X8_isFeature, ki_X8, ⟨by decide +kernel, by decide +kernel⟩, by decide +kernel⟩, rfl, ks_X8_isFeature⟩
set_option maxRecDepth 100000 in
theorem kl_X8_169 : Cond.methodLink RX8 169 yX8_isFeature ∈ big := big_t6 78 (by decide +kernel)
set_option maxRecDepth 100000 in
theorem kf_X8_175 : Cond.fieldLink RX8 175 "FraudSieveModel" (TX8 26).2.1 (TX8 26).2.2.1 ∈ big := big_t5 104 (by decide +kernel)
set_option maxRecDepth 100000 in
theorem fg_X8_175 : Fld none layM NM RX8 175 0 26 none := ⟨"FraudSieveModel", RX8, TX8, 33, 8, rfM0, ⟨kf_X8_175, inb_X8, rfl, by decide, rfl⟩, rfl, by decide, rfl⟩
set_option maxRecDepth 100000 in
theorem kf_X8_57 : Cond.fieldLink RX8 57 "FraudSieveModel" (TX8 21).2.1 (TX8 21).2.2.1 ∈ big := big_t5 99 (by decide +kernel)
set_option maxRecDepth 100000 in
theorem fg_X8_57 : Fld none layM NM RX8 57 0 21 (some 15) := ⟨"FraudSieveModel", RX8, TX8, 33, 8, rfM0, ⟨kf_X8_57, inb_X8, rfl, by decide, rfl⟩, rfl, by decide, rfl⟩
set_option maxRecDepth 100000 in
theorem fp_X8_175 : FldP none layM NM RX8 175 0 26 := ⟨"FraudSieveModel", RX8, TX8, tyX8, 33, 8, rfM0, ⟨kf_X8_175, inb_X8, rfl, by decide, rfl⟩, rfl, by decide, rfl, rfl, rfl, tyX8_ok, nmX8⟩
set_option maxRecDepth 100000 in
theorem kc_X8_isCondition : Cond.code yX8_isCondition cX8_isCondition 2 (some .boolean) ∈ big := big_t6 96 (by decide +kernel)
set_option maxRecDepth 100000 in
theorem kn_X8_isCondition : Cond.instanceMethod yX8_isCondition ∈ big := big_t6 95 (by decide +kernel)
set_option maxRecDepth 100000 in
theorem kv_X8_isCondition : Cond.selects RX8 yX8_isCondition yX8_isCondition ∈ big := big_at 35 (by decide +kernel)
set_option maxRecDepth 100000 in
theorem my_X8_isCondition : MyV z_X8_isCondition yX8_isCondition 1 := ⟨⟨kc_X8_isCondition, ki_X8, ⟨by decide +kernel, by decide +kernel⟩, by decide +kernel⟩, rfl, kn_X8_isCondition, kv_X8_isCondition⟩
set_option maxRecDepth 100000 in
theorem kl_X8_178 : Cond.methodLink RX8 178 yX8_isCondition ∈ big := big_t6 93 (by decide +kernel)
set_option maxRecDepth 100000 in
theorem kc_X8_joins : Cond.code yX8_joins cX8_joins 5 (some .int) ∈ big := big_t6 92 (by decide +kernel)
set_option maxRecDepth 100000 in
theorem kn_X8_joins : Cond.instanceMethod yX8_joins ∈ big := big_t6 91 (by decide +kernel)
set_option maxRecDepth 100000 in
theorem kv_X8_joins : Cond.selects RX8 yX8_joins yX8_joins ∈ big := big_at 34 (by decide +kernel)
set_option maxRecDepth 100000 in
theorem my_X8_joins : MyV z_X8_joins yX8_joins 3 := ⟨⟨kc_X8_joins, ki_X8, ⟨by decide +kernel, by decide +kernel⟩, by decide +kernel⟩, rfl, kn_X8_joins, kv_X8_joins⟩
set_option maxRecDepth 100000 in
theorem kl_X8_181 : Cond.methodLink RX8 181 yX8_joins ∈ big := big_t6 89 (by decide +kernel)
set_option maxRecDepth 100000 in
theorem fp_X8_123 : FldP none layM NM RX8 123 0 30 := ⟨"FraudSieveModel", RX8, TX8, tyX8, 33, 8, rfM0, ⟨kf_X8_123, inb_X8, rfl, by decide, rfl⟩, rfl, by decide, rfl, rfl, rfl, tyX8_ok, nmX8⟩
set_option maxRecDepth 100000 in
theorem fp_X8_187 : FldP none layM NM RX8 187 0 29 := ⟨"FraudSieveModel", RX8, TX8, tyX8, 33, 8, rfM0, ⟨kf_X8_187, inb_X8, rfl, by decide, rfl⟩, rfl, by decide, rfl, rfl, rfl, tyX8_ok, nmX8⟩
set_option maxRecDepth 100000 in
theorem kc_X8_isRule : Cond.code yX8_isRule cX8_isRule 2 (some .boolean) ∈ big := big_t6 124 (by decide +kernel)
set_option maxRecDepth 100000 in
theorem kn_X8_isRule : Cond.instanceMethod yX8_isRule ∈ big := big_t6 123 (by decide +kernel)
set_option maxRecDepth 100000 in
theorem kv_X8_isRule : Cond.selects RX8 yX8_isRule yX8_isRule ∈ big := big_at 36 (by decide +kernel)
set_option maxRecDepth 100000 in
theorem my_X8_isRule : MyV z_X8_isRule yX8_isRule 1 := ⟨⟨kc_X8_isRule, ki_X8, ⟨by decide +kernel, by decide +kernel⟩, by decide +kernel⟩, rfl, kn_X8_isRule, kv_X8_isRule⟩
set_option maxRecDepth 100000 in
theorem kl_X8_190 : Cond.methodLink RX8 190 yX8_isRule ∈ big := big_t6 121 (by decide +kernel)
set_option maxRecDepth 100000 in
theorem fp_X8_41 : FldP none layM NM RX8 41 0 16 := ⟨"FraudSieveModel", RX8, TX8, tyX8, 33, 8, rfM0, ⟨kf_X8_41, inb_X8, rfl, by decide, rfl⟩, rfl, by decide, rfl, rfl, rfl, tyX8_ok, nmX8⟩
set_option maxRecDepth 100000 in
theorem kc_X8_wasReason : Cond.code yX8_wasReason cX8_wasReason 3 (some .boolean) ∈ big := big_t6 148 (by decide +kernel)
set_option maxRecDepth 100000 in
theorem kn_X8_wasReason : Cond.instanceMethod yX8_wasReason ∈ big := big_t6 147 (by decide +kernel)
set_option maxRecDepth 100000 in
theorem kv_X8_wasReason : Cond.selects RX8 yX8_wasReason yX8_wasReason ∈ big := big_at 38 (by decide +kernel)
set_option maxRecDepth 100000 in
theorem my_X8_wasReason : MyV z_X8_wasReason yX8_wasReason 2 := ⟨⟨kc_X8_wasReason, ki_X8, ⟨by decide +kernel, by decide +kernel⟩, by decide +kernel⟩, rfl, kn_X8_wasReason, kv_X8_wasReason⟩
set_option maxRecDepth 100000 in
theorem kl_X8_197 : Cond.methodLink RX8 197 yX8_wasReason ∈ big := big_t6 145 (by decide +kernel)
set_option maxRecDepth 100000 in
theorem kc_X8_reasonMany : Cond.code yX8_reasonMany cX8_reasonMany 4 (some .int) ∈ big := big_t6 144 (by decide +kernel)
set_option maxRecDepth 100000 in
theorem kn_X8_reasonMany : Cond.instanceMethod yX8_reasonMany ∈ big := big_t6 143 (by decide +kernel)
set_option maxRecDepth 100000 in
theorem kv_X8_reasonMany : Cond.selects RX8 yX8_reasonMany yX8_reasonMany ∈ big := big_at 37 (by decide +kernel)
set_option maxRecDepth 100000 in
theorem my_X8_reasonMany : MyV z_X8_reasonMany yX8_reasonMany 1 := ⟨⟨kc_X8_reasonMany, ki_X8, ⟨by decide +kernel, by decide +kernel⟩, by decide +kernel⟩, rfl, kn_X8_reasonMany, kv_X8_reasonMany⟩
set_option maxRecDepth 100000 in
theorem kl_X8_200 : Cond.methodLink RX8 200 yX8_reasonMany ∈ big := big_t6 141 (by decide +kernel)
set_option maxRecDepth 100000 in
theorem kc_X8_ruleOf : Cond.code yX8_ruleOf cX8_ruleOf 5 (some .int) ∈ big := big_t6 156 (by decide +kernel)
set_option maxRecDepth 100000 in
theorem kn_X8_ruleOf : Cond.instanceMethod yX8_ruleOf ∈ big := big_t6 155 (by decide +kernel)
set_option maxRecDepth 100000 in
theorem kv_X8_ruleOf : Cond.selects RX8 yX8_ruleOf yX8_ruleOf ∈ big := big_at 39 (by decide +kernel)
set_option maxRecDepth 100000 in
theorem my_X8_ruleOf : MyV z_X8_ruleOf yX8_ruleOf 2 := ⟨⟨kc_X8_ruleOf, ki_X8, ⟨by decide +kernel, by decide +kernel⟩, by decide +kernel⟩, rfl, kn_X8_ruleOf, kv_X8_ruleOf⟩
set_option maxRecDepth 100000 in
theorem kl_X8_203 : Cond.methodLink RX8 203 yX8_ruleOf ∈ big := big_t6 153 (by decide +kernel)
set_option maxRecDepth 100000 in
theorem kc_X8_gathers : Cond.code yX8_gathers cX8_gathers 3 none ∈ big := big_t6 168 (by decide +kernel)
set_option maxRecDepth 100000 in
theorem kn_X8_gathers : Cond.instanceMethod yX8_gathers ∈ big := big_t6 167 (by decide +kernel)
set_option maxRecDepth 100000 in
theorem kv_X8_gathers : Cond.selects RX8 yX8_gathers yX8_gathers ∈ big := big_at 41 (by decide +kernel)
set_option maxRecDepth 100000 in
theorem my_X8_gathers (d : Nat) : MyV (z_X8_gathers d) yX8_gathers 2 := ⟨⟨kc_X8_gathers, ki_X8, ⟨by decide +kernel, by decide +kernel⟩, by decide +kernel⟩, rfl, kn_X8_gathers, kv_X8_gathers⟩
set_option maxRecDepth 100000 in
theorem kl_X8_206 : Cond.methodLink RX8 206 yX8_gathers ∈ big := big_t6 165 (by decide +kernel)
set_option maxRecDepth 100000 in
theorem kf_X8_79 : Cond.fieldLink RX8 79 "FraudSieveModel" (TX8 31).2.1 (TX8 31).2.2.1 ∈ big := big_t5 109 (by decide +kernel)
set_option maxRecDepth 100000 in
theorem fg_X8_79 : Fld none layM NM RX8 79 0 31 (some 22) := ⟨"FraudSieveModel", RX8, TX8, 33, 8, rfM0, ⟨kf_X8_79, inb_X8, rfl, by decide, rfl⟩, rfl, by decide, rfl⟩
set_option maxRecDepth 100000 in
theorem kf_X8_210 : Cond.fieldLink RX8 210 "FraudSieveModel" (TX8 32).2.1 (TX8 32).2.2.1 ∈ big := big_t5 110 (by decide +kernel)
set_option maxRecDepth 100000 in
theorem fg_X8_210 : Fld none layM NM RX8 210 0 32 none := ⟨"FraudSieveModel", RX8, TX8, 33, 8, rfM0, ⟨kf_X8_210, inb_X8, rfl, by decide, rfl⟩, rfl, by decide, rfl⟩
set_option maxRecDepth 100000 in
theorem fp_X8_210 : FldP none layM NM RX8 210 0 32 := ⟨"FraudSieveModel", RX8, TX8, tyX8, 33, 8, rfM0, ⟨kf_X8_210, inb_X8, rfl, by decide, rfl⟩, rfl, by decide, rfl, rfl, rfl, tyX8_ok, nmX8⟩
set_option maxRecDepth 100000 in
theorem kc_X8_isNone : Cond.code yX8_isNone cX8_isNone 4 (some .boolean) ∈ big := big_t6 164 (by decide +kernel)
set_option maxRecDepth 100000 in
theorem kn_X8_isNone : Cond.instanceMethod yX8_isNone ∈ big := big_t6 163 (by decide +kernel)
set_option maxRecDepth 100000 in
theorem kv_X8_isNone : Cond.selects RX8 yX8_isNone yX8_isNone ∈ big := big_at 40 (by decide +kernel)
set_option maxRecDepth 100000 in
theorem my_X8_isNone : MyV z_X8_isNone yX8_isNone 2 := ⟨⟨kc_X8_isNone, ki_X8, ⟨by decide +kernel, by decide +kernel⟩, by decide +kernel⟩, rfl, kn_X8_isNone, kv_X8_isNone⟩
set_option maxRecDepth 100000 in
theorem kl_X8_213 : Cond.methodLink RX8 213 yX8_isNone ∈ big := big_t6 161 (by decide +kernel)
set_option maxRecDepth 100000 in
theorem kc_X8_isNoTest : Cond.code yX8_isNoTest cX8_isNoTest 4 (some .boolean) ∈ big := big_t6 176 (by decide +kernel)
set_option maxRecDepth 100000 in
theorem kn_X8_isNoTest : Cond.instanceMethod yX8_isNoTest ∈ big := big_t6 175 (by decide +kernel)
set_option maxRecDepth 100000 in
theorem kv_X8_isNoTest : Cond.selects RX8 yX8_isNoTest yX8_isNoTest ∈ big := big_at 42 (by decide +kernel)
set_option maxRecDepth 100000 in
theorem my_X8_isNoTest : MyV z_X8_isNoTest yX8_isNoTest 3 := ⟨⟨kc_X8_isNoTest, ki_X8, ⟨by decide +kernel, by decide +kernel⟩, by decide +kernel⟩, rfl, kn_X8_isNoTest, kv_X8_isNoTest⟩
set_option maxRecDepth 100000 in
theorem kl_X8_216 : Cond.methodLink RX8 216 yX8_isNoTest ∈ big := big_t6 173 (by decide +kernel)
set_option maxRecDepth 100000 in
theorem kc_X8_ranked : Cond.code yX8_ranked cX8_ranked 5 (some .int) ∈ big := big_t6 192 (by decide +kernel)
set_option maxRecDepth 100000 in
theorem kn_X8_ranked : Cond.instanceMethod yX8_ranked ∈ big := big_t6 191 (by decide +kernel)
set_option maxRecDepth 100000 in
theorem kv_X8_ranked : Cond.selects RX8 yX8_ranked yX8_ranked ∈ big := big_at 43 (by decide +kernel)
set_option maxRecDepth 100000 in
theorem my_X8_ranked : MyV z_X8_ranked yX8_ranked 1 := ⟨⟨kc_X8_ranked, ki_X8, ⟨by decide +kernel, by decide +kernel⟩, by decide +kernel⟩, rfl, kn_X8_ranked, kv_X8_ranked⟩
set_option maxRecDepth 100000 in
theorem kl_X8_222 : Cond.methodLink RX8 222 yX8_ranked ∈ big := big_t6 189 (by decide +kernel)
set_option maxRecDepth 100000 in
theorem kc_X8_alertAt : Cond.code yX8_alertAt cX8_alertAt 3 (some .int) ∈ big := big_t6 188 (by decide +kernel)
set_option maxRecDepth 100000 in
theorem kn_X8_alertAt : Cond.instanceMethod yX8_alertAt ∈ big := big_t6 186 (by decide +kernel)
set_option maxRecDepth 100000 in
theorem kv_X8_alertAt : Cond.selects RX8 yX8_alertAt yX8_alertAt ∈ big := big_t6 187 (by decide +kernel)
set_option maxRecDepth 100000 in
theorem my_X8_alertAt : MyV z_X8_alertAt yX8_alertAt 1 := ⟨⟨kc_X8_alertAt, ki_X8, ⟨by decide +kernel, by decide +kernel⟩, by decide +kernel⟩, rfl, kn_X8_alertAt, kv_X8_alertAt⟩
set_option maxRecDepth 100000 in
theorem kl_X8_219 : Cond.methodLink RX8 219 yX8_alertAt ∈ big := big_t6 185 (by decide +kernel)
set_option maxRecDepth 100000 in
theorem kc_X8_many : Cond.code yX8_many cX8_many 4 (some .int) ∈ big := big_t6 201 (by decide +kernel)
set_option maxRecDepth 100000 in
theorem kn_X8_many : Cond.instanceMethod yX8_many ∈ big := big_t6 200 (by decide +kernel)
set_option maxRecDepth 100000 in
theorem kv_X8_many : Cond.selects RX8 yX8_many yX8_many ∈ big := big_at 44 (by decide +kernel)
set_option maxRecDepth 100000 in
theorem my_X8_many : MyV z_X8_many yX8_many 1 := ⟨⟨kc_X8_many, ki_X8, ⟨by decide +kernel, by decide +kernel⟩, by decide +kernel⟩, rfl, kn_X8_many, kv_X8_many⟩
set_option maxRecDepth 100000 in
theorem kl_X8_225 : Cond.methodLink RX8 225 yX8_many ∈ big := big_t6 198 (by decide +kernel)
set_option maxRecDepth 100000 in
theorem kc_X8_isUnfit : Cond.code yX8_isUnfit cX8_isUnfit 3 (some .boolean) ∈ big := big_t6 217 (by decide +kernel)
set_option maxRecDepth 100000 in
theorem kn_X8_isUnfit : Cond.instanceMethod yX8_isUnfit ∈ big := big_t6 216 (by decide +kernel)
set_option maxRecDepth 100000 in
theorem kv_X8_isUnfit : Cond.selects RX8 yX8_isUnfit yX8_isUnfit ∈ big := big_at 45 (by decide +kernel)
set_option maxRecDepth 100000 in
theorem my_X8_isUnfit : MyV z_X8_isUnfit yX8_isUnfit 2 := ⟨⟨kc_X8_isUnfit, ki_X8, ⟨by decide +kernel, by decide +kernel⟩, by decide +kernel⟩, rfl, kn_X8_isUnfit, kv_X8_isUnfit⟩
set_option maxRecDepth 100000 in
theorem kl_X8_229 : Cond.methodLink RX8 229 yX8_isUnfit ∈ big := big_t6 214 (by decide +kernel)
set_option maxRecDepth 100000 in
theorem kc_X8_ring : Cond.code yX8_ring cX8_ring 5 (some .int) ∈ big := big_t6 213 (by decide +kernel)
set_option maxRecDepth 100000 in
theorem kn_X8_ring : Cond.instanceMethod yX8_ring ∈ big := big_t6 211 (by decide +kernel)
set_option maxRecDepth 100000 in
theorem kv_X8_ring : Cond.selects RX8 yX8_ring yX8_ring ∈ big := big_t6 212 (by decide +kernel)
set_option maxRecDepth 100000 in
theorem my_X8_ring : MyV z_X8_ring yX8_ring 2 := ⟨⟨kc_X8_ring, ki_X8, ⟨by decide +kernel, by decide +kernel⟩, by decide +kernel⟩, rfl, kn_X8_ring, kv_X8_ring⟩
set_option maxRecDepth 100000 in
theorem kl_X8_232 : Cond.methodLink RX8 232 yX8_ring ∈ big := big_t6 222 (by decide +kernel)
set_option maxRecDepth 100000 in
theorem kc_X8_decided : Cond.code yX8_decided cX8_decided 5 (some .int) ∈ big := big_t6 234 (by decide +kernel)
set_option maxRecDepth 100000 in
theorem kn_X8_decided : Cond.instanceMethod yX8_decided ∈ big := big_t6 233 (by decide +kernel)
set_option maxRecDepth 100000 in
theorem kv_X8_decided : Cond.selects RX8 yX8_decided yX8_decided ∈ big := big_at 46 (by decide +kernel)
set_option maxRecDepth 100000 in
theorem my_X8_decided : MyV z_X8_decided yX8_decided 2 := ⟨⟨kc_X8_decided, ki_X8, ⟨by decide +kernel, by decide +kernel⟩, by decide +kernel⟩, rfl, kn_X8_decided, kv_X8_decided⟩
set_option maxRecDepth 100000 in
theorem kl_X8_235 : Cond.methodLink RX8 235 yX8_decided ∈ big := big_t6 231 (by decide +kernel)
set_option maxRecDepth 100000 in
theorem kc_X8_bestThreshold : Cond.code yX8_bestThreshold cX8_bestThreshold 3 (some .int) ∈ big := big_t6 238 (by decide +kernel)
set_option maxRecDepth 100000 in
theorem kn_X8_bestThreshold : Cond.instanceMethod yX8_bestThreshold ∈ big := big_t6 236 (by decide +kernel)
set_option maxRecDepth 100000 in
theorem kv_X8_bestThreshold : Cond.selects RX8 yX8_bestThreshold yX8_bestThreshold ∈ big := big_t6 237 (by decide +kernel)
set_option maxRecDepth 100000 in
theorem my_X8_bestThreshold : MyV z_X8_bestThreshold yX8_bestThreshold 1 := ⟨⟨kc_X8_bestThreshold, ki_X8, ⟨by decide +kernel, by decide +kernel⟩, by decide +kernel⟩, rfl, kn_X8_bestThreshold, kv_X8_bestThreshold⟩
set_option maxRecDepth 100000 in
theorem kl_X8_239 : Cond.methodLink RX8 239 yX8_bestThreshold ∈ big := big_t7 3 (by decide +kernel)
