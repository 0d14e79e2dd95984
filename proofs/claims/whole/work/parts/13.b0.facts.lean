set_option maxRecDepth 100000 in
theorem kk_X7_41 : Cond.classLink RX7 41 "java/lang/IllegalArgumentException" ∈ big := big_t2 84 (by decide +kernel)
set_option maxRecDepth 100000 in
theorem ki_java_lang_IllegalArgumentException : Cond.initialized "java/lang/IllegalArgumentException" ∈ big := big_t1 13 (by decide +kernel)
set_option maxRecDepth 100000 in
theorem th_X7_41_45 : ThrF RX7 41 45 "java/lang/IllegalArgumentException" ["java/lang/RuntimeException", "java/lang/Exception"] := ⟨by decide +kernel, by decide +kernel, kk_X7_41, ki_java_lang_IllegalArgumentException, by decide +kernel, by decide +kernel⟩
set_option maxRecDepth 100000 in
theorem tx_43 : (RX7, 43, "no such country") ∈ texts := List.mem_of_getElem? (i := 0) rfl
set_option maxRecDepth 100000 in
theorem kf_X7_10 : Cond.fieldLink RX7 10 "FraudSieve" (TX7 0).2.1 (TX7 0).2.2.1 ∈ big := big_t2 0 (by decide +kernel)
set_option maxRecDepth 100000 in
theorem inb_X7 : ∀ w ∈ u_ws RX7 TX7 5, w ∈ big := fun w hw => List.mem_filter.mpr ⟨(goodIn_r (big := lw_tbl) (u_ws RX7 TX7 5) [292, 294, 296, 298, 300] (by decide +kernel) (by decide +kernel) w hw).1, by revert w; decide +kernel⟩
set_option maxRecDepth 100000 in
theorem fg_X7_10 : Fld none layC NC RX7 10 0 0 (some 1) := ⟨"FraudSieve", RX7, TX7, 5, 7, rfC0, ⟨kf_X7_10, inb_X7, rfl, by decide, rfl⟩, rfl, by decide, rfl⟩
set_option maxRecDepth 100000 in
theorem kf_X7_48 : Cond.fieldLinkNest RX7 48 "FraudSieve$Bank" (TX1 0).2.1 (TX1 0).2.2.1 "FraudSieve" ∈ lw_tbl := tbl_t1 (List.mem_of_getElem? (i := 114) (by decide +kernel))
set_option maxRecDepth 100000 in
theorem inb_X1 : ∀ w ∈ u_ws RX1 TX1 5, w ∈ big := fun w hw => List.mem_filter.mpr ⟨(goodIn_r (big := lw_tbl) (u_ws RX1 TX1 5) [169, 171, 173, 175, 177] (by decide +kernel) (by decide +kernel) w hw).1, by revert w; decide +kernel⟩
set_option maxRecDepth 100000 in
theorem fg_X7_48 : Fld (some "FraudSieve") layC NC RX7 48 1 0 (some 2) := ⟨"FraudSieve$Bank", RX1, TX1, 5, 1, rfC1, ⟨kf_X7_48, inb_X1, rfl, by decide, rfl⟩, rfl, by decide, rfl⟩
set_option maxRecDepth 100000 in
theorem kf_X7_52 : Cond.fieldLinkNest RX7 52 "FraudSieve$Accounts" (TX0 2).2.1 (TX0 2).2.2.1 "FraudSieve" ∈ lw_tbl := tbl_t1 (List.mem_of_getElem? (i := 49) (by decide +kernel))
set_option maxRecDepth 100000 in
theorem inb_X0 : ∀ w ∈ u_ws RX0 TX0 5, w ∈ big := fun w hw => List.mem_filter.mpr ⟨(goodIn_r (big := lw_tbl) (u_ws RX0 TX0 5) [101, 103, 105, 107, 109] (by decide +kernel) (by decide +kernel) w hw).1, by revert w; decide +kernel⟩
set_option maxRecDepth 100000 in
theorem fg_X7_52 : Fld (some "FraudSieve") layC NC RX7 52 2 2 none := ⟨"FraudSieve$Accounts", RX0, TX0, 5, 0, rfC2, ⟨kf_X7_52, inb_X0, rfl, by decide, rfl⟩, rfl, by decide, rfl⟩
set_option maxRecDepth 100000 in
theorem kf_X7_62 : Cond.fieldLinkNest RX7 62 "FraudSieve$Bank" (TX1 3).2.1 (TX1 3).2.2.1 "FraudSieve" ∈ lw_tbl := tbl_t1 (List.mem_of_getElem? (i := 118) (by decide +kernel))
set_option maxRecDepth 100000 in
theorem fg_X7_62 : Fld (some "FraudSieve") layC NC RX7 62 1 3 none := ⟨"FraudSieve$Bank", RX1, TX1, 5, 1, rfC1, ⟨kf_X7_62, inb_X1, rfl, by decide, rfl⟩, rfl, by decide, rfl⟩
set_option maxRecDepth 100000 in
theorem kf_X0_9 : Cond.fieldLink RX0 9 "FraudSieve$Accounts" (TX0 0).2.1 (TX0 0).2.2.1 ∈ big := big_t1 43 (by decide +kernel)
set_option maxRecDepth 100000 in
theorem fg_X0_9 : Fld none layC NC RX0 9 2 0 (some 3) := ⟨"FraudSieve$Accounts", RX0, TX0, 5, 0, rfC2, ⟨kf_X0_9, inb_X0, rfl, by decide, rfl⟩, rfl, by decide, rfl⟩
set_option maxRecDepth 100000 in
theorem kf_X0_19 : Cond.fieldLink RX0 19 "FraudSieve$Accounts" (TX0 2).2.1 (TX0 2).2.2.1 ∈ big := big_t1 48 (by decide +kernel)
set_option maxRecDepth 100000 in
theorem fg_X0_19 : Fld none layC NC RX0 19 2 2 none := ⟨"FraudSieve$Accounts", RX0, TX0, 5, 0, rfC2, ⟨kf_X0_19, inb_X0, rfl, by decide, rfl⟩, rfl, by decide, rfl⟩
set_option maxRecDepth 100000 in
theorem kf_X0_15 : Cond.fieldLink RX0 15 "FraudSieve$Accounts" (TX0 1).2.1 (TX0 1).2.2.1 ∈ big := big_t1 46 (by decide +kernel)
set_option maxRecDepth 100000 in
theorem fg_X0_15 : Fld none layC NC RX0 15 2 1 (some 4) := ⟨"FraudSieve$Accounts", RX0, TX0, 5, 0, rfC2, ⟨kf_X0_15, inb_X0, rfl, by decide, rfl⟩, rfl, by decide, rfl⟩
set_option maxRecDepth 100000 in
theorem fp_X0_19 : FldP none layC NC RX0 19 2 2 := ⟨"FraudSieve$Accounts", RX0, TX0, tyX0, 5, 0, rfC2, ⟨kf_X0_19, inb_X0, rfl, by decide, rfl⟩, rfl, by decide, rfl, rfl, rfl, tyX0_ok, nmX0⟩
set_option maxRecDepth 100000 in
theorem kc_X0_append : Cond.code yX0_append cX0_append 3 (some .int) ∈ big := big_t2 175 (by decide +kernel)
set_option maxRecDepth 100000 in
theorem ki_X0 : Cond.initialized RX0 ∈ big := big_t1 3 (by decide +kernel)
set_option maxRecDepth 100000 in
theorem kn_X0_append : Cond.instanceMethod yX0_append ∈ big := big_t2 173 (by decide +kernel)
set_option maxRecDepth 100000 in
theorem kv_X0_append : Cond.selects RX0 yX0_append yX0_append ∈ big := big_t2 174 (by decide +kernel)
set_option maxRecDepth 100000 in
theorem my_X0_append : MyV z_X0_append yX0_append 2 := ⟨⟨kc_X0_append, ki_X0, ⟨by decide +kernel, by decide +kernel⟩, by decide +kernel⟩, rfl, kn_X0_append, kv_X0_append⟩
set_option maxRecDepth 100000 in
theorem kl_X7_65 : Cond.methodLink RX7 65 yX0_append ∈ big := big_t2 172 (by decide +kernel)
set_option maxRecDepth 100000 in
theorem rc_X0 : RcC 2 RX0 := ⟨0, 5, TX0, rfC2, rfl, by decide, rfl⟩
set_option maxRecDepth 100000 in
theorem kk_X7_57 : Cond.classLink RX7 57 "java/lang/IllegalStateException" ∈ big := big_t2 156 (by decide +kernel)
set_option maxRecDepth 100000 in
theorem ki_java_lang_IllegalStateException : Cond.initialized "java/lang/IllegalStateException" ∈ big := big_t1 14 (by decide +kernel)
set_option maxRecDepth 100000 in
theorem th_X7_57_61 : ThrF RX7 57 61 "java/lang/IllegalStateException" ["java/lang/RuntimeException", "java/lang/Exception"] := ⟨by decide +kernel, by decide +kernel, kk_X7_57, ki_java_lang_IllegalStateException, by decide +kernel, by decide +kernel⟩
set_option maxRecDepth 100000 in
theorem tx_59 : (RX7, 59, "no more accounts") ∈ texts := List.mem_of_getElem? (i := 1) rfl
set_option maxRecDepth 100000 in
theorem kc_X7_open : Cond.code yX7_open cX7_open 2 (some .int) ∈ big := big_t2 83 (by decide +kernel)
set_option maxRecDepth 100000 in
theorem ki_X7 : Cond.initialized RX7 ∈ big := big_t1 1 (by decide +kernel)
set_option maxRecDepth 100000 in
theorem kn_X7_open : Cond.instanceMethod yX7_open ∈ big := big_t2 81 (by decide +kernel)
set_option maxRecDepth 100000 in
theorem kv_X7_open : Cond.selects RX7 yX7_open yX7_open ∈ big := big_t2 82 (by decide +kernel)
set_option maxRecDepth 100000 in
theorem my_X7_open : MyV z_X7_open yX7_open 1 := ⟨⟨kc_X7_open, ki_X7, ⟨by decide +kernel, by decide +kernel⟩, by decide +kernel⟩, rfl, kn_X7_open, kv_X7_open⟩
set_option maxRecDepth 100000 in
theorem kl_L_7 : Cond.methodLink RL 7 yX7_open ∈ big := big_t2 80 (by decide +kernel)
set_option maxRecDepth 100000 in
theorem rc_X7 : RcC 0 RX7 := ⟨7, 5, TX7, rfC0, rfl, by decide, rfl⟩
set_option maxRecDepth 100000 in
theorem kk_L_13 : Cond.classLink RL 13 "java/lang/IllegalArgumentException" ∈ big := big_t2 78 (by decide +kernel)
set_option maxRecDepth 100000 in
theorem kt_java_lang_IllegalArgumentException : Cond.castable "java/lang/IllegalArgumentException" "java/lang/IllegalArgumentException" ∈ lw_tbl := tbl_t2 (List.mem_of_getElem? (i := 86) (by decide +kernel))
set_option maxRecDepth 100000 in
theorem nc_9 : ("java/lang/IllegalStateException", "java/lang/IllegalArgumentException") ∈ ncl := List.mem_of_getElem? (i := 9) rfl
set_option maxRecDepth 100000 in
theorem kk_L_15 : Cond.classLink RL 15 "java/lang/IllegalStateException" ∈ big := big_t2 79 (by decide +kernel)
set_option maxRecDepth 100000 in
theorem kt_java_lang_IllegalStateException : Cond.castable "java/lang/IllegalStateException" "java/lang/IllegalStateException" ∈ lw_tbl := tbl_t2 (List.mem_of_getElem? (i := 158) (by decide +kernel))
set_option maxRecDepth 100000 in
theorem kk_X7_257 : Cond.classLink RX7 257 "java/lang/IndexOutOfBoundsException" ∈ big := big_t2 211 (by decide +kernel)
set_option maxRecDepth 100000 in
theorem ki_java_lang_IndexOutOfBoundsException : Cond.initialized "java/lang/IndexOutOfBoundsException" ∈ big := big_t1 15 (by decide +kernel)
set_option maxRecDepth 100000 in
theorem th_X7_257_261 : ThrF RX7 257 261 "java/lang/IndexOutOfBoundsException" ["java/lang/RuntimeException", "java/lang/Exception"] := ⟨by decide +kernel, by decide +kernel, kk_X7_257, ki_java_lang_IndexOutOfBoundsException, by decide +kernel, by decide +kernel⟩
set_option maxRecDepth 100000 in
theorem tx_332 : (RX7, 332, "no such account") ∈ texts := List.mem_of_getElem? (i := 2) rfl
set_option maxRecDepth 100000 in
theorem kc_X7_requireAccount : Cond.code yX7_requireAccount cX7_requireAccount 2 none ∈ big := big_t2 210 (by decide +kernel)
set_option maxRecDepth 100000 in
theorem kn_X7_requireAccount : Cond.instanceMethod yX7_requireAccount ∈ big := big_t2 209 (by decide +kernel)
set_option maxRecDepth 100000 in
theorem kv_X7_requireAccount : Cond.selects RX7 yX7_requireAccount yX7_requireAccount ∈ big := big_at 3 (by decide +kernel)
set_option maxRecDepth 100000 in
theorem my_X7_requireAccount : MyV z_X7_requireAccount yX7_requireAccount 1 := ⟨⟨kc_X7_requireAccount, ki_X7, ⟨by decide +kernel, by decide +kernel⟩, by decide +kernel⟩, rfl, kn_X7_requireAccount, kv_X7_requireAccount⟩
set_option maxRecDepth 100000 in
theorem kl_X7_69 : Cond.methodLink RX7 69 yX7_requireAccount ∈ big := big_t2 207 (by decide +kernel)
set_option maxRecDepth 100000 in
theorem kf_X7_73 : Cond.fieldLinkNest RX7 73 "FraudSieve$Accounts" (TX0 3).2.1 (TX0 3).2.2.1 "FraudSieve" ∈ lw_tbl := tbl_t1 (List.mem_of_getElem? (i := 51) (by decide +kernel))
set_option maxRecDepth 100000 in
theorem fg_X7_73 : Fld (some "FraudSieve") layC NC RX7 73 2 3 none := ⟨"FraudSieve$Accounts", RX0, TX0, 5, 0, rfC2, ⟨kf_X7_73, inb_X0, rfl, by decide, rfl⟩, rfl, by decide, rfl⟩
set_option maxRecDepth 100000 in
theorem kc_X7_hasBit : Cond.code yX7_hasBit cX7_hasBit 2 (some .boolean) ∈ big := big_t2 54 (by decide +kernel)
set_option maxRecDepth 100000 in
theorem ks_X7_hasBit : Cond.static yX7_hasBit ∈ big := big_t2 53 (by decide +kernel)
set_option maxRecDepth 100000 in
theorem my_X7_hasBit : MyS z_X7_hasBit yX7_hasBit 2 := ⟨⟨kc_X7_hasBit, ki_X7, ⟨by decide +kernel, by decide +kernel⟩, by decide +kernel⟩, rfl, ks_X7_hasBit⟩
set_option maxRecDepth 100000 in
theorem kl_X7_76 : Cond.methodLink RX7 76 yX7_hasBit ∈ big := big_t2 224 (by decide +kernel)
set_option maxRecDepth 100000 in
theorem kc_X7_withBit : Cond.code yX7_withBit cX7_withBit 3 (some .int) ∈ big := big_t2 227 (by decide +kernel)
set_option maxRecDepth 100000 in
theorem ks_X7_withBit : Cond.static yX7_withBit ∈ big := big_t2 226 (by decide +kernel)
set_option maxRecDepth 100000 in
theorem my_X7_withBit : MyS z_X7_withBit yX7_withBit 3 := ⟨⟨kc_X7_withBit, ki_X7, ⟨by decide +kernel, by decide +kernel⟩, by decide +kernel⟩, rfl, ks_X7_withBit⟩
set_option maxRecDepth 100000 in
theorem kl_X7_80 : Cond.methodLink RX7 80 yX7_withBit ∈ big := big_t2 225 (by decide +kernel)
set_option maxRecDepth 100000 in
theorem fp_X7_73 : FldP (some "FraudSieve") layC NC RX7 73 2 3 := ⟨"FraudSieve$Accounts", RX0, TX0, tyX0, 5, 0, rfC2, ⟨kf_X7_73, inb_X0, rfl, by decide, rfl⟩, rfl, by decide, rfl, rfl, rfl, tyX0_ok, nmX0⟩
set_option maxRecDepth 100000 in
theorem kc_X7_setMarked : Cond.code yX7_setMarked cX7_setMarked 4 (some .boolean) ∈ big := big_t2 206 (by decide +kernel)
set_option maxRecDepth 100000 in
theorem kn_X7_setMarked : Cond.instanceMethod yX7_setMarked ∈ big := big_t2 204 (by decide +kernel)
set_option maxRecDepth 100000 in
theorem kv_X7_setMarked : Cond.selects RX7 yX7_setMarked yX7_setMarked ∈ big := big_t2 205 (by decide +kernel)
set_option maxRecDepth 100000 in
theorem my_X7_setMarked : MyV z_X7_setMarked yX7_setMarked 2 := ⟨⟨kc_X7_setMarked, ki_X7, ⟨by decide +kernel, by decide +kernel⟩, by decide +kernel⟩, rfl, kn_X7_setMarked, kv_X7_setMarked⟩
set_option maxRecDepth 100000 in
theorem kl_L_17 : Cond.methodLink RL 17 yX7_setMarked ∈ big := big_t2 203 (by decide +kernel)
set_option maxRecDepth 100000 in
theorem kk_L_21 : Cond.classLink RL 21 "java/lang/IndexOutOfBoundsException" ∈ big := big_t2 179 (by decide +kernel)
set_option maxRecDepth 100000 in
theorem kt_java_lang_IndexOutOfBoundsException : Cond.castable "java/lang/IndexOutOfBoundsException" "java/lang/IndexOutOfBoundsException" ∈ lw_tbl := tbl_t2 (List.mem_of_getElem? (i := 213) (by decide +kernel))
set_option maxRecDepth 100000 in
theorem kf_X7_84 : Cond.fieldLinkNest RX7 84 "FraudSieve$Accounts" (TX0 4).2.1 (TX0 4).2.2.1 "FraudSieve" ∈ lw_tbl := tbl_t1 (List.mem_of_getElem? (i := 53) (by decide +kernel))
set_option maxRecDepth 100000 in
theorem fg_X7_84 : Fld (some "FraudSieve") layC NC RX7 84 2 4 none := ⟨"FraudSieve$Accounts", RX0, TX0, 5, 0, rfC2, ⟨kf_X7_84, inb_X0, rfl, by decide, rfl⟩, rfl, by decide, rfl⟩
set_option maxRecDepth 100000 in
theorem fp_X7_84 : FldP (some "FraudSieve") layC NC RX7 84 2 4 := ⟨"FraudSieve$Accounts", RX0, TX0, tyX0, 5, 0, rfC2, ⟨kf_X7_84, inb_X0, rfl, by decide, rfl⟩, rfl, by decide, rfl, rfl, rfl, tyX0_ok, nmX0⟩
set_option maxRecDepth 100000 in
theorem kc_X7_setBlocked : Cond.code yX7_setBlocked cX7_setBlocked 4 (some .boolean) ∈ big := big_t2 234 (by decide +kernel)
set_option maxRecDepth 100000 in
theorem kn_X7_setBlocked : Cond.instanceMethod yX7_setBlocked ∈ big := big_t2 232 (by decide +kernel)
set_option maxRecDepth 100000 in
theorem kv_X7_setBlocked : Cond.selects RX7 yX7_setBlocked yX7_setBlocked ∈ big := big_t2 233 (by decide +kernel)
set_option maxRecDepth 100000 in
theorem my_X7_setBlocked : MyV z_X7_setBlocked yX7_setBlocked 2 := ⟨⟨kc_X7_setBlocked, ki_X7, ⟨by decide +kernel, by decide +kernel⟩, by decide +kernel⟩, rfl, kn_X7_setBlocked, kv_X7_setBlocked⟩
set_option maxRecDepth 100000 in
theorem kl_L_23 : Cond.methodLink RL 23 yX7_setBlocked ∈ big := big_t2 231 (by decide +kernel)
set_option maxRecDepth 100000 in
theorem kc_X7_isMarked : Cond.code yX7_isMarked cX7_isMarked 2 (some .boolean) ∈ big := big_t3 1 (by decide +kernel)
set_option maxRecDepth 100000 in
theorem kn_X7_isMarked : Cond.instanceMethod yX7_isMarked ∈ big := big_t2 239 (by decide +kernel)
set_option maxRecDepth 100000 in
theorem kv_X7_isMarked : Cond.selects RX7 yX7_isMarked yX7_isMarked ∈ big := big_t3 0 (by decide +kernel)
set_option maxRecDepth 100000 in
theorem my_X7_isMarked : MyV z_X7_isMarked yX7_isMarked 1 := ⟨⟨kc_X7_isMarked, ki_X7, ⟨by decide +kernel, by decide +kernel⟩, by decide +kernel⟩, rfl, kn_X7_isMarked, kv_X7_isMarked⟩
set_option maxRecDepth 100000 in
theorem kl_L_26 : Cond.methodLink RL 26 yX7_isMarked ∈ big := big_t2 238 (by decide +kernel)
set_option maxRecDepth 100000 in
theorem kf_X7_87 : Cond.fieldLinkNest RX7 87 "FraudSieve$Accounts" (TX0 0).2.1 (TX0 0).2.2.1 "FraudSieve" ∈ lw_tbl := tbl_t1 (List.mem_of_getElem? (i := 44) (by decide +kernel))
set_option maxRecDepth 100000 in
theorem fg_X7_87 : Fld (some "FraudSieve") layC NC RX7 87 2 0 (some 3) := ⟨"FraudSieve$Accounts", RX0, TX0, 5, 0, rfC2, ⟨kf_X7_87, inb_X0, rfl, by decide, rfl⟩, rfl, by decide, rfl⟩
set_option maxRecDepth 100000 in
theorem kc_X7_countryOf : Cond.code yX7_countryOf cX7_countryOf 2 (some .char) ∈ big := big_t3 8 (by decide +kernel)
set_option maxRecDepth 100000 in
theorem kn_X7_countryOf : Cond.instanceMethod yX7_countryOf ∈ big := big_t3 6 (by decide +kernel)
set_option maxRecDepth 100000 in
theorem kv_X7_countryOf : Cond.selects RX7 yX7_countryOf yX7_countryOf ∈ big := big_t3 7 (by decide +kernel)
set_option maxRecDepth 100000 in
theorem my_X7_countryOf : MyV z_X7_countryOf yX7_countryOf 1 := ⟨⟨kc_X7_countryOf, ki_X7, ⟨by decide +kernel, by decide +kernel⟩, by decide +kernel⟩, rfl, kn_X7_countryOf, kv_X7_countryOf⟩
set_option maxRecDepth 100000 in
theorem kl_L_30 : Cond.methodLink RL 30 yX7_countryOf ∈ big := big_t3 5 (by decide +kernel)
set_option maxRecDepth 100000 in
theorem tx_91 : (RX7, 91, "minutes out of range") ∈ texts := List.mem_of_getElem? (i := 3) rfl
set_option maxRecDepth 100000 in
theorem kf_X1_36 : Cond.fieldLink RX1 36 "FraudSieve$Bank" (TX1 3).2.1 (TX1 3).2.2.1 ∈ big := big_t1 119 (by decide +kernel)
set_option maxRecDepth 100000 in
theorem fg_X1_36 : Fld none layC NC RX1 36 1 3 none := ⟨"FraudSieve$Bank", RX1, TX1, 5, 1, rfC1, ⟨kf_X1_36, inb_X1, rfl, by decide, rfl⟩, rfl, by decide, rfl⟩
set_option maxRecDepth 100000 in
theorem fp_X1_36 : FldP none layC NC RX1 36 1 3 := ⟨"FraudSieve$Bank", RX1, TX1, tyX1, 5, 1, rfC1, ⟨kf_X1_36, inb_X1, rfl, by decide, rfl⟩, rfl, by decide, rfl, rfl, rfl, tyX1_ok, nmX1⟩
set_option maxRecDepth 100000 in
theorem kf_X1_21 : Cond.fieldLink RX1 21 "FraudSieve$Bank" (TX1 1).2.1 (TX1 1).2.2.1 ∈ big := big_t1 115 (by decide +kernel)
set_option maxRecDepth 100000 in
theorem fg_X1_21 : Fld none layC NC RX1 21 1 1 (some 5) := ⟨"FraudSieve$Bank", RX1, TX1, 5, 1, rfC1, ⟨kf_X1_21, inb_X1, rfl, by decide, rfl⟩, rfl, by decide, rfl⟩
set_option maxRecDepth 100000 in
theorem kf_X1_40 : Cond.fieldLink RX1 40 "FraudSieve$Bank" (TX1 4).2.1 (TX1 4).2.2.1 ∈ big := big_t1 120 (by decide +kernel)
set_option maxRecDepth 100000 in
theorem fg_X1_40 : Fld none layC NC RX1 40 1 4 none := ⟨"FraudSieve$Bank", RX1, TX1, 5, 1, rfC1, ⟨kf_X1_40, inb_X1, rfl, by decide, rfl⟩, rfl, by decide, rfl⟩
set_option maxRecDepth 100000 in
theorem kf_X4_24 : Cond.fieldLink RX4 24 "FraudSieve$Ledger" (TX4 4).2.1 (TX4 4).2.2.1 ∈ big := big_t1 86 (by decide +kernel)
set_option maxRecDepth 100000 in
theorem inb_X4 : ∀ w ∈ u_ws RX4 TX4 5, w ∈ big := fun w hw => List.mem_filter.mpr ⟨(goodIn_r (big := lw_tbl) (u_ws RX4 TX4 5) [136, 138, 140, 142, 144] (by decide +kernel) (by decide +kernel) w hw).1, by revert w; decide +kernel⟩
set_option maxRecDepth 100000 in
theorem fg_X4_24 : Fld none layC NC RX4 24 5 4 none := ⟨"FraudSieve$Ledger", RX4, TX4, 5, 4, rfC5, ⟨kf_X4_24, inb_X4, rfl, by decide, rfl⟩, rfl, by decide, rfl⟩
set_option maxRecDepth 100000 in
theorem kf_X4_21 : Cond.fieldLink RX4 21 "FraudSieve$Ledger" (TX4 3).2.1 (TX4 3).2.2.1 ∈ big := big_t1 83 (by decide +kernel)
set_option maxRecDepth 100000 in
theorem fg_X4_21 : Fld none layC NC RX4 21 5 3 (some 9) := ⟨"FraudSieve$Ledger", RX4, TX4, 5, 4, rfC5, ⟨kf_X4_21, inb_X4, rfl, by decide, rfl⟩, rfl, by decide, rfl⟩
set_option maxRecDepth 100000 in
theorem kc_X4_firstAfter : Cond.code yX4_firstAfter cX4_firstAfter 4 (some .int) ∈ big := big_t2 66 (by decide +kernel)
set_option maxRecDepth 100000 in
theorem ki_X4 : Cond.initialized RX4 ∈ big := big_t1 4 (by decide +kernel)
set_option maxRecDepth 100000 in
theorem kn_X4_firstAfter : Cond.instanceMethod yX4_firstAfter ∈ big := big_t2 64 (by decide +kernel)
set_option maxRecDepth 100000 in
theorem kv_X4_firstAfter : Cond.selects RX4 yX4_firstAfter yX4_firstAfter ∈ big := big_t2 65 (by decide +kernel)
set_option maxRecDepth 100000 in
theorem my_X4_firstAfter : MyV z_X4_firstAfter yX4_firstAfter 2 := ⟨⟨kc_X4_firstAfter, ki_X4, ⟨by decide +kernel, by decide +kernel⟩, by decide +kernel⟩, rfl, kn_X4_firstAfter, kv_X4_firstAfter⟩
set_option maxRecDepth 100000 in
theorem kl_X1_43 : Cond.methodLink RX1 43 yX4_firstAfter ∈ big := big_t2 63 (by decide +kernel)
set_option maxRecDepth 100000 in
theorem rc_X4 : RcC 5 RX4 := ⟨4, 5, TX4, rfC5, rfl, by decide, rfl⟩
set_option maxRecDepth 100000 in
theorem fp_X1_40 : FldP none layC NC RX1 40 1 4 := ⟨"FraudSieve$Bank", RX1, TX1, tyX1, 5, 1, rfC1, ⟨kf_X1_40, inb_X1, rfl, by decide, rfl⟩, rfl, by decide, rfl, rfl, rfl, tyX1_ok, nmX1⟩
set_option maxRecDepth 100000 in
theorem kc_X1_advance : Cond.code yX1_advance cX1_advance 2 none ∈ big := big_t3 20 (by decide +kernel)
set_option maxRecDepth 100000 in
theorem ki_X1 : Cond.initialized RX1 ∈ big := big_t1 2 (by decide +kernel)
set_option maxRecDepth 100000 in
theorem kn_X1_advance : Cond.instanceMethod yX1_advance ∈ big := big_t3 18 (by decide +kernel)
set_option maxRecDepth 100000 in
theorem kv_X1_advance : Cond.selects RX1 yX1_advance yX1_advance ∈ big := big_t3 19 (by decide +kernel)
set_option maxRecDepth 100000 in
theorem my_X1_advance : MyV z_X1_advance yX1_advance 1 := ⟨⟨kc_X1_advance, ki_X1, ⟨by decide +kernel, by decide +kernel⟩, by decide +kernel⟩, rfl, kn_X1_advance, kv_X1_advance⟩
set_option maxRecDepth 100000 in
theorem kl_X7_93 : Cond.methodLink RX7 93 yX1_advance ∈ big := big_t3 17 (by decide +kernel)
set_option maxRecDepth 100000 in
theorem rc_X1 : RcC 1 RX1 := ⟨1, 5, TX1, rfC1, rfl, by decide, rfl⟩
set_option maxRecDepth 100000 in
theorem kc_X7_pass : Cond.code yX7_pass cX7_pass 2 (some .int) ∈ big := big_t3 15 (by decide +kernel)
set_option maxRecDepth 100000 in
theorem kn_X7_pass : Cond.instanceMethod yX7_pass ∈ big := big_t3 13 (by decide +kernel)
set_option maxRecDepth 100000 in
theorem kv_X7_pass : Cond.selects RX7 yX7_pass yX7_pass ∈ big := big_t3 14 (by decide +kernel)
set_option maxRecDepth 100000 in
theorem my_X7_pass : MyV z_X7_pass yX7_pass 1 := ⟨⟨kc_X7_pass, ki_X7, ⟨by decide +kernel, by decide +kernel⟩, by decide +kernel⟩, rfl, kn_X7_pass, kv_X7_pass⟩
set_option maxRecDepth 100000 in
theorem kl_L_34 : Cond.methodLink RL 34 yX7_pass ∈ big := big_t3 12 (by decide +kernel)
set_option maxRecDepth 100000 in
theorem tx_96 : (RX7, 96, "amount out of range") ∈ texts := List.mem_of_getElem? (i := 4) rfl
set_option maxRecDepth 100000 in
theorem tx_103 : (RX7, 103, "account is blocked") ∈ texts := List.mem_of_getElem? (i := 6) rfl
set_option maxRecDepth 100000 in
theorem kf_X7_105 : Cond.fieldLinkNest RX7 105 "FraudSieve$Bank" (TX1 1).2.1 (TX1 1).2.2.1 "FraudSieve" ∈ lw_tbl := tbl_t1 (List.mem_of_getElem? (i := 116) (by decide +kernel))
set_option maxRecDepth 100000 in
theorem fg_X7_105 : Fld (some "FraudSieve") layC NC RX7 105 1 1 (some 5) := ⟨"FraudSieve$Bank", RX1, TX1, 5, 1, rfC1, ⟨kf_X7_105, inb_X1, rfl, by decide, rfl⟩, rfl, by decide, rfl⟩
set_option maxRecDepth 100000 in
theorem kf_X7_109 : Cond.fieldLinkNest RX7 109 "FraudSieve$Ledger" (TX4 4).2.1 (TX4 4).2.2.1 "FraudSieve" ∈ lw_tbl := tbl_t1 (List.mem_of_getElem? (i := 88) (by decide +kernel))
set_option maxRecDepth 100000 in
theorem fg_X7_109 : Fld (some "FraudSieve") layC NC RX7 109 5 4 none := ⟨"FraudSieve$Ledger", RX4, TX4, 5, 4, rfC5, ⟨kf_X7_109, inb_X4, rfl, by decide, rfl⟩, rfl, by decide, rfl⟩
set_option maxRecDepth 100000 in
theorem kf_X4_9 : Cond.fieldLink RX4 9 "FraudSieve$Ledger" (TX4 0).2.1 (TX4 0).2.2.1 ∈ big := big_t1 73 (by decide +kernel)
set_option maxRecDepth 100000 in
theorem fg_X4_9 : Fld none layC NC RX4 9 5 0 (some 6) := ⟨"FraudSieve$Ledger", RX4, TX4, 5, 4, rfC5, ⟨kf_X4_9, inb_X4, rfl, by decide, rfl⟩, rfl, by decide, rfl⟩
set_option maxRecDepth 100000 in
theorem kf_X4_15 : Cond.fieldLink RX4 15 "FraudSieve$Ledger" (TX4 1).2.1 (TX4 1).2.2.1 ∈ big := big_t1 76 (by decide +kernel)
set_option maxRecDepth 100000 in
theorem fg_X4_15 : Fld none layC NC RX4 15 5 1 (some 7) := ⟨"FraudSieve$Ledger", RX4, TX4, 5, 4, rfC5, ⟨kf_X4_15, inb_X4, rfl, by decide, rfl⟩, rfl, by decide, rfl⟩
set_option maxRecDepth 100000 in
theorem kf_X4_18 : Cond.fieldLink RX4 18 "FraudSieve$Ledger" (TX4 2).2.1 (TX4 2).2.2.1 ∈ big := big_t1 80 (by decide +kernel)
set_option maxRecDepth 100000 in
theorem fg_X4_18 : Fld none layC NC RX4 18 5 2 (some 8) := ⟨"FraudSieve$Ledger", RX4, TX4, 5, 4, rfC5, ⟨kf_X4_18, inb_X4, rfl, by decide, rfl⟩, rfl, by decide, rfl⟩
set_option maxRecDepth 100000 in
theorem fp_X4_24 : FldP none layC NC RX4 24 5 4 := ⟨"FraudSieve$Ledger", RX4, TX4, tyX4, 5, 4, rfC5, ⟨kf_X4_24, inb_X4, rfl, by decide, rfl⟩, rfl, by decide, rfl, rfl, rfl, tyX4_ok, nmX4⟩
set_option maxRecDepth 100000 in
theorem kc_X4_append : Cond.code yX4_append cX4_append 5 (some .int) ∈ big := big_t3 51 (by decide +kernel)
set_option maxRecDepth 100000 in
theorem kn_X4_append : Cond.instanceMethod yX4_append ∈ big := big_t3 49 (by decide +kernel)
set_option maxRecDepth 100000 in
theorem kv_X4_append : Cond.selects RX4 yX4_append yX4_append ∈ big := big_t3 50 (by decide +kernel)
set_option maxRecDepth 100000 in
theorem my_X4_append : MyV z_X4_append yX4_append 4 := ⟨⟨kc_X4_append, ki_X4, ⟨by decide +kernel, by decide +kernel⟩, by decide +kernel⟩, rfl, kn_X4_append, kv_X4_append⟩
set_option maxRecDepth 100000 in
theorem kl_X7_114 : Cond.methodLink RX7 114 yX4_append ∈ big := big_t3 48 (by decide +kernel)
set_option maxRecDepth 100000 in
theorem kf_X7_19 : Cond.fieldLink RX7 19 "FraudSieve" (TX7 1).2.1 (TX7 1).2.2.1 ∈ big := big_t2 1 (by decide +kernel)
set_option maxRecDepth 100000 in
theorem fg_X7_19 : Fld none layC NC RX7 19 0 1 (some 13) := ⟨"FraudSieve", RX7, TX7, 5, 7, rfC0, ⟨kf_X7_19, inb_X7, rfl, by decide, rfl⟩, rfl, by decide, rfl⟩
set_option maxRecDepth 100000 in
theorem kf_X7_117 : Cond.fieldLinkNest RX7 117 "FraudSieve$Conditions" (TX3 12).2.1 (TX3 12).2.2.1 "FraudSieve" ∈ lw_tbl := tbl_t1 (List.mem_of_getElem? (i := 159) (by decide +kernel))
set_option maxRecDepth 100000 in
theorem inb_X3 : ∀ w ∈ u_ws RX3 TX3 13, w ∈ big := fun w hw => List.mem_filter.mpr ⟨(goodIn_r (big := lw_tbl) (u_ws RX3 TX3 13) [207, 209, 211, 213, 215, 217, 219, 221, 223, 225, 227, 229, 231] (by decide +kernel) (by decide +kernel) w hw).1, by revert w; decide +kernel⟩
set_option maxRecDepth 100000 in
theorem fg_X7_117 : Fld (some "FraudSieve") layC NC RX7 117 13 12 none := ⟨"FraudSieve$Conditions", RX3, TX3, 13, 3, rfC13, ⟨kf_X7_117, inb_X3, rfl, by decide, rfl⟩, rfl, by decide, rfl⟩
set_option maxRecDepth 100000 in
theorem kf_X3_44 : Cond.fieldLink RX3 44 "FraudSieve$Conditions" (TX3 10).2.1 (TX3 10).2.2.1 ∈ big := big_t1 151 (by decide +kernel)
set_option maxRecDepth 100000 in
theorem fg_X3_44 : Fld none layC NC RX3 44 13 10 (some 24) := ⟨"FraudSieve$Conditions", RX3, TX3, 13, 3, rfC13, ⟨kf_X3_44, inb_X3, rfl, by decide, rfl⟩, rfl, by decide, rfl⟩
set_option maxRecDepth 100000 in
theorem kf_X3_32 : Cond.fieldLink RX3 32 "FraudSieve$Conditions" (TX3 6).2.1 (TX3 6).2.2.1 ∈ big := big_t1 147 (by decide +kernel)
set_option maxRecDepth 100000 in
theorem fg_X3_32 : Fld none layC NC RX3 32 13 6 (some 20) := ⟨"FraudSieve$Conditions", RX3, TX3, 13, 3, rfC13, ⟨kf_X3_32, inb_X3, rfl, by decide, rfl⟩, rfl, by decide, rfl⟩
set_option maxRecDepth 100000 in
theorem kf_X3_35 : Cond.fieldLink RX3 35 "FraudSieve$Conditions" (TX3 7).2.1 (TX3 7).2.2.1 ∈ big := big_t1 148 (by decide +kernel)
set_option maxRecDepth 100000 in
theorem fg_X3_35 : Fld none layC NC RX3 35 13 7 (some 21) := ⟨"FraudSieve$Conditions", RX3, TX3, 13, 3, rfC13, ⟨kf_X3_35, inb_X3, rfl, by decide, rfl⟩, rfl, by decide, rfl⟩
set_option maxRecDepth 100000 in
theorem kf_X3_9 : Cond.fieldLink RX3 9 "FraudSieve$Conditions" (TX3 0).2.1 (TX3 0).2.2.1 ∈ big := big_t1 139 (by decide +kernel)
set_option maxRecDepth 100000 in
theorem fg_X3_9 : Fld none layC NC RX3 9 13 0 (some 14) := ⟨"FraudSieve$Conditions", RX3, TX3, 13, 3, rfC13, ⟨kf_X3_9, inb_X3, rfl, by decide, rfl⟩, rfl, by decide, rfl⟩
set_option maxRecDepth 100000 in
theorem kf_X3_18 : Cond.fieldLink RX3 18 "FraudSieve$Conditions" (TX3 2).2.1 (TX3 2).2.2.1 ∈ big := big_t1 142 (by decide +kernel)
set_option maxRecDepth 100000 in
theorem fg_X3_18 : Fld none layC NC RX3 18 13 2 (some 16) := ⟨"FraudSieve$Conditions", RX3, TX3, 13, 3, rfC13, ⟨kf_X3_18, inb_X3, rfl, by decide, rfl⟩, rfl, by decide, rfl⟩
set_option maxRecDepth 100000 in
theorem kf_X3_22 : Cond.fieldLink RX3 22 "FraudSieve$Conditions" (TX3 3).2.1 (TX3 3).2.2.1 ∈ big := big_t1 144 (by decide +kernel)
set_option maxRecDepth 100000 in
theorem fg_X3_22 : Fld none layC NC RX3 22 13 3 (some 17) := ⟨"FraudSieve$Conditions", RX3, TX3, 13, 3, rfC13, ⟨kf_X3_22, inb_X3, rfl, by decide, rfl⟩, rfl, by decide, rfl⟩
set_option maxRecDepth 100000 in
theorem kf_X1_47 : Cond.fieldLinkNest RX1 47 "FraudSieve$Ledger" (TX4 0).2.1 (TX4 0).2.2.1 "FraudSieve" ∈ lw_tbl := tbl_t1 (List.mem_of_getElem? (i := 75) (by decide +kernel))
set_option maxRecDepth 100000 in
theorem fg_X1_47 : Fld (some "FraudSieve") layC NC RX1 47 5 0 (some 6) := ⟨"FraudSieve$Ledger", RX4, TX4, 5, 4, rfC5, ⟨kf_X1_47, inb_X4, rfl, by decide, rfl⟩, rfl, by decide, rfl⟩
set_option maxRecDepth 100000 in
theorem kf_X1_72 : Cond.fieldLinkNest RX1 72 "FraudSieve$Ledger" (TX4 1).2.1 (TX4 1).2.2.1 "FraudSieve" ∈ lw_tbl := tbl_t1 (List.mem_of_getElem? (i := 78) (by decide +kernel))
set_option maxRecDepth 100000 in
theorem fg_X1_72 : Fld (some "FraudSieve") layC NC RX1 72 5 1 (some 7) := ⟨"FraudSieve$Ledger", RX4, TX4, 5, 4, rfC5, ⟨kf_X1_72, inb_X4, rfl, by decide, rfl⟩, rfl, by decide, rfl⟩
set_option maxRecDepth 100000 in
theorem kf_X1_58 : Cond.fieldLinkNest RX1 58 "FraudSieve$Ledger" (TX4 3).2.1 (TX4 3).2.2.1 "FraudSieve" ∈ lw_tbl := tbl_t1 (List.mem_of_getElem? (i := 84) (by decide +kernel))
set_option maxRecDepth 100000 in
theorem fg_X1_58 : Fld (some "FraudSieve") layC NC RX1 58 5 3 (some 9) := ⟨"FraudSieve$Ledger", RX4, TX4, 5, 4, rfC5, ⟨kf_X1_58, inb_X4, rfl, by decide, rfl⟩, rfl, by decide, rfl⟩
set_option maxRecDepth 100000 in
theorem kf_X1_28 : Cond.fieldLink RX1 28 "FraudSieve$Bank" (TX1 2).2.1 (TX1 2).2.2.1 ∈ big := big_t1 117 (by decide +kernel)
set_option maxRecDepth 100000 in
theorem fg_X1_28 : Fld none layC NC RX1 28 1 2 (some 10) := ⟨"FraudSieve$Bank", RX1, TX1, 5, 1, rfC1, ⟨kf_X1_28, inb_X1, rfl, by decide, rfl⟩, rfl, by decide, rfl⟩
set_option maxRecDepth 100000 in
theorem kf_X5_9 : Cond.fieldLink RX5 9 "FraudSieve$Network" (TX5 0).2.1 (TX5 0).2.2.1 ∈ big := big_t1 106 (by decide +kernel)
set_option maxRecDepth 100000 in
theorem inb_X5 : ∀ w ∈ u_ws RX5 TX5 2, w ∈ big := fun w hw => List.mem_filter.mpr ⟨(goodIn_r (big := lw_tbl) (u_ws RX5 TX5 2) [155, 157] (by decide +kernel) (by decide +kernel) w hw).1, by revert w; decide +kernel⟩
set_option maxRecDepth 100000 in
theorem fg_X5_9 : Fld none layC NC RX5 9 10 0 (some 11) := ⟨"FraudSieve$Network", RX5, TX5, 2, 5, rfC10, ⟨kf_X5_9, inb_X5, rfl, by decide, rfl⟩, rfl, by decide, rfl⟩
set_option maxRecDepth 100000 in
theorem kf_X5_15 : Cond.fieldLink RX5 15 "FraudSieve$Network" (TX5 1).2.1 (TX5 1).2.2.1 ∈ big := big_t1 107 (by decide +kernel)
set_option maxRecDepth 100000 in
theorem fg_X5_15 : Fld none layC NC RX5 15 10 1 (some 12) := ⟨"FraudSieve$Network", RX5, TX5, 2, 5, rfC10, ⟨kf_X5_15, inb_X5, rfl, by decide, rfl⟩, rfl, by decide, rfl⟩
set_option maxRecDepth 100000 in
theorem kf_X5_18 : Cond.fieldLinkNest RX5 18 "FraudSieve$Ledger" (TX4 0).2.1 (TX4 0).2.2.1 "FraudSieve" ∈ lw_tbl := tbl_t1 (List.mem_of_getElem? (i := 74) (by decide +kernel))
set_option maxRecDepth 100000 in
theorem fg_X5_18 : Fld (some "FraudSieve") layC NC RX5 18 5 0 (some 6) := ⟨"FraudSieve$Ledger", RX4, TX4, 5, 4, rfC5, ⟨kf_X5_18, inb_X4, rfl, by decide, rfl⟩, rfl, by decide, rfl⟩
set_option maxRecDepth 100000 in
theorem kf_X5_23 : Cond.fieldLinkNest RX5 23 "FraudSieve$Ledger" (TX4 1).2.1 (TX4 1).2.2.1 "FraudSieve" ∈ lw_tbl := tbl_t1 (List.mem_of_getElem? (i := 77) (by decide +kernel))
set_option maxRecDepth 100000 in
theorem fg_X5_23 : Fld (some "FraudSieve") layC NC RX5 23 5 1 (some 7) := ⟨"FraudSieve$Ledger", RX4, TX4, 5, 4, rfC5, ⟨kf_X5_23, inb_X4, rfl, by decide, rfl⟩, rfl, by decide, rfl⟩
set_option maxRecDepth 100000 in
theorem kl_X5_26 : Cond.methodLinkNest RX5 26 yX7_withBit "FraudSieve" ∈ lw_tbl := tbl_t3 (List.mem_of_getElem? (i := 106) (by decide +kernel))
set_option maxRecDepth 100000 in
theorem kc_X5_load : Cond.code yX5_load cX5_load 7 none ∈ big := big_t3 105 (by decide +kernel)
set_option maxRecDepth 100000 in
theorem ki_X5 : Cond.initialized RX5 ∈ big := big_t1 5 (by decide +kernel)
set_option maxRecDepth 100000 in
theorem kn_X5_load : Cond.instanceMethod yX5_load ∈ big := big_t3 103 (by decide +kernel)
set_option maxRecDepth 100000 in
theorem kv_X5_load : Cond.selects RX5 yX5_load yX5_load ∈ big := big_t3 104 (by decide +kernel)
set_option maxRecDepth 100000 in
theorem my_X5_load : MyV z_X5_load yX5_load 3 := ⟨⟨kc_X5_load, ki_X5, ⟨by decide +kernel, by decide +kernel⟩, by decide +kernel⟩, rfl, kn_X5_load, kv_X5_load⟩
set_option maxRecDepth 100000 in
theorem kl_X1_68 : Cond.methodLink RX1 68 yX5_load ∈ big := big_t3 102 (by decide +kernel)
set_option maxRecDepth 100000 in
theorem rc_X5 : RcC 10 RX5 := ⟨5, 2, TX5, rfC10, rfl, by decide, rfl⟩
set_option maxRecDepth 100000 in
theorem kc_X1_networkOf : Cond.code yX1_networkOf cX1_networkOf 3 (some (.object "FraudSieve$Network")) ∈ big := big_t3 101 (by decide +kernel)
set_option maxRecDepth 100000 in
theorem kn_X1_networkOf : Cond.instanceMethod yX1_networkOf ∈ big := big_t3 100 (by decide +kernel)
set_option maxRecDepth 100000 in
theorem kv_X1_networkOf : Cond.selects RX1 yX1_networkOf yX1_networkOf ∈ big := big_at 6 (by decide +kernel)
set_option maxRecDepth 100000 in
theorem my_X1_networkOf : MyV z_X1_networkOf yX1_networkOf 2 := ⟨⟨kc_X1_networkOf, ki_X1, ⟨by decide +kernel, by decide +kernel⟩, by decide +kernel⟩, rfl, kn_X1_networkOf, kv_X1_networkOf⟩
set_option maxRecDepth 100000 in
theorem kl_X1_64 : Cond.methodLink RX1 64 yX1_networkOf ∈ big := big_t3 98 (by decide +kernel)
set_option maxRecDepth 100000 in
theorem kl_X5_34 : Cond.methodLinkNest RX5 34 yX7_hasBit "FraudSieve" ∈ lw_tbl := tbl_t3 (List.mem_of_getElem? (i := 114) (by decide +kernel))
set_option maxRecDepth 100000 in
theorem kc_X5_step : Cond.code yX5_step cX5_step 4 (some .int) ∈ big := big_t3 113 (by decide +kernel)
set_option maxRecDepth 100000 in
theorem ks_X5_step : Cond.static yX5_step ∈ big := big_t3 112 (by decide +kernel)
set_option maxRecDepth 100000 in
theorem my_X5_step : MyS z_X5_step yX5_step 2 := ⟨⟨kc_X5_step, ki_X5, ⟨by decide +kernel, by decide +kernel⟩, by decide +kernel⟩, rfl, ks_X5_step⟩
set_option maxRecDepth 100000 in
theorem kl_X5_30 : Cond.methodLink RX5 30 yX5_step ∈ big := big_t3 111 (by decide +kernel)
set_option maxRecDepth 100000 in
theorem kc_X5_shortestWay : Cond.code yX5_shortestWay cX5_shortestWay 6 (some .int) ∈ big := big_t3 123 (by decide +kernel)
set_option maxRecDepth 100000 in
theorem kn_X5_shortestWay : Cond.instanceMethod yX5_shortestWay ∈ big := big_t3 121 (by decide +kernel)
set_option maxRecDepth 100000 in
theorem kv_X5_shortestWay : Cond.selects RX5 yX5_shortestWay yX5_shortestWay ∈ big := big_t3 122 (by decide +kernel)
set_option maxRecDepth 100000 in
theorem my_X5_shortestWay : MyV z_X5_shortestWay yX5_shortestWay 2 := ⟨⟨kc_X5_shortestWay, ki_X5, ⟨by decide +kernel, by decide +kernel⟩, by decide +kernel⟩, rfl, kn_X5_shortestWay, kv_X5_shortestWay⟩
set_option maxRecDepth 100000 in
theorem kl_X1_115 : Cond.methodLink RX1 115 yX5_shortestWay ∈ big := big_t3 120 (by decide +kernel)
set_option maxRecDepth 100000 in
theorem kf_X1_12 : Cond.fieldLink RX1 12 "FraudSieve$Bank" (TX1 0).2.1 (TX1 0).2.2.1 ∈ big := big_t1 113 (by decide +kernel)
set_option maxRecDepth 100000 in
theorem fg_X1_12 : Fld none layC NC RX1 12 1 0 (some 2) := ⟨"FraudSieve$Bank", RX1, TX1, 5, 1, rfC1, ⟨kf_X1_12, inb_X1, rfl, by decide, rfl⟩, rfl, by decide, rfl⟩
set_option maxRecDepth 100000 in
theorem kf_X1_103 : Cond.fieldLinkNest RX1 103 "FraudSieve$Accounts" (TX0 1).2.1 (TX0 1).2.2.1 "FraudSieve" ∈ lw_tbl := tbl_t1 (List.mem_of_getElem? (i := 47) (by decide +kernel))
set_option maxRecDepth 100000 in
theorem fg_X1_103 : Fld (some "FraudSieve") layC NC RX1 103 2 1 (some 4) := ⟨"FraudSieve$Accounts", RX0, TX0, 5, 0, rfC2, ⟨kf_X1_103, inb_X0, rfl, by decide, rfl⟩, rfl, by decide, rfl⟩
set_option maxRecDepth 100000 in
theorem kl_X4_28 : Cond.methodLinkNest RX4 28 yX7_withBit "FraudSieve" ∈ lw_tbl := tbl_t3 (List.mem_of_getElem? (i := 76) (by decide +kernel))
set_option maxRecDepth 100000 in
theorem kc_X4_receiversFrom : Cond.code yX4_receiversFrom cX4_receiversFrom 6 (some .int) ∈ big := big_t3 75 (by decide +kernel)
set_option maxRecDepth 100000 in
theorem kn_X4_receiversFrom : Cond.instanceMethod yX4_receiversFrom ∈ big := big_t3 73 (by decide +kernel)
set_option maxRecDepth 100000 in
theorem kv_X4_receiversFrom : Cond.selects RX4 yX4_receiversFrom yX4_receiversFrom ∈ big := big_t3 74 (by decide +kernel)
set_option maxRecDepth 100000 in
theorem my_X4_receiversFrom : MyV z_X4_receiversFrom yX4_receiversFrom 3 := ⟨⟨kc_X4_receiversFrom, ki_X4, ⟨by decide +kernel, by decide +kernel⟩, by decide +kernel⟩, rfl, kn_X4_receiversFrom, kv_X4_receiversFrom⟩
set_option maxRecDepth 100000 in
theorem kl_X1_83 : Cond.methodLink RX1 83 yX4_receiversFrom ∈ big := big_t3 72 (by decide +kernel)
set_option maxRecDepth 100000 in
theorem kf_X1_118 : Cond.fieldLinkNest RX1 118 "FraudSieve$Accounts" (TX0 2).2.1 (TX0 2).2.2.1 "FraudSieve" ∈ lw_tbl := tbl_t1 (List.mem_of_getElem? (i := 50) (by decide +kernel))
set_option maxRecDepth 100000 in
theorem fg_X1_118 : Fld (some "FraudSieve") layC NC RX1 118 2 2 none := ⟨"FraudSieve$Accounts", RX0, TX0, 5, 0, rfC2, ⟨kf_X1_118, inb_X0, rfl, by decide, rfl⟩, rfl, by decide, rfl⟩
set_option maxRecDepth 100000 in
theorem kq_J6_265 : Cond.constant RJ6 265 1431655765 ∈ big := big_t3 80 (by decide +kernel)
set_option maxRecDepth 100000 in
theorem kq_J6_266 : Cond.constant RJ6 266 858993459 ∈ big := big_t3 81 (by decide +kernel)
set_option maxRecDepth 100000 in
theorem kq_J6_267 : Cond.constant RJ6 267 252645135 ∈ big := big_t3 82 (by decide +kernel)
set_option maxRecDepth 100000 in
theorem kc_J6_bitCount_0f7a4 : Cond.code yJ6_bitCount_0f7a4 cJ6_bitCount_0f7a4 1 (some .int) ∈ big := big_t3 79 (by decide +kernel)
set_option maxRecDepth 100000 in
theorem ki_J6 : Cond.initialized RJ6 ∈ big := big_t1 19 (by decide +kernel)
set_option maxRecDepth 100000 in
theorem ks_J6_bitCount_0f7a4 : Cond.static yJ6_bitCount_0f7a4 ∈ big := big_t3 78 (by decide +kernel)
set_option maxRecDepth 100000 in
theorem my_J6_bitCount_0f7a4 : MyS z_J6_bitCount_0f7a4 yJ6_bitCount_0f7a4 1 := ⟨⟨kc_J6_bitCount_0f7a4, ki_J6, ⟨by decide +kernel, by decide +kernel⟩, by decide +kernel⟩, rfl, ks_J6_bitCount_0f7a4⟩
set_option maxRecDepth 100000 in
theorem kl_X1_86 : Cond.methodLink RX1 86 yJ6_bitCount_0f7a4 ∈ big := big_t3 77 (by decide +kernel)
set_option maxRecDepth 100000 in
theorem kl_X1_119 : Cond.methodLinkNest RX1 119 yX7_hasBit "FraudSieve" ∈ lw_tbl := tbl_t3 (List.mem_of_getElem? (i := 87) (by decide +kernel))
set_option maxRecDepth 100000 in
theorem kf_X1_123 : Cond.fieldLinkNest RX1 123 "FraudSieve$Accounts" (TX0 0).2.1 (TX0 0).2.2.1 "FraudSieve" ∈ lw_tbl := tbl_t1 (List.mem_of_getElem? (i := 45) (by decide +kernel))
set_option maxRecDepth 100000 in
theorem fg_X1_123 : Fld (some "FraudSieve") layC NC RX1 123 2 0 (some 3) := ⟨"FraudSieve$Accounts", RX0, TX0, 5, 0, rfC2, ⟨kf_X1_123, inb_X0, rfl, by decide, rfl⟩, rfl, by decide, rfl⟩
set_option maxRecDepth 100000 in
theorem kl_X1_126 : Cond.methodLinkNest RX1 126 yX7_withBit "FraudSieve" ∈ lw_tbl := tbl_t3 (List.mem_of_getElem? (i := 88) (by decide +kernel))
set_option maxRecDepth 100000 in
theorem kc_X1_countCountries : Cond.code yX1_countCountries cX1_countCountries 4 (some .int) ∈ big := big_t3 86 (by decide +kernel)
set_option maxRecDepth 100000 in
theorem kn_X1_countCountries : Cond.instanceMethod yX1_countCountries ∈ big := big_t3 85 (by decide +kernel)
set_option maxRecDepth 100000 in
theorem kv_X1_countCountries : Cond.selects RX1 yX1_countCountries yX1_countCountries ∈ big := big_at 5 (by decide +kernel)
set_option maxRecDepth 100000 in
theorem my_X1_countCountries : MyV z_X1_countCountries yX1_countCountries 1 := ⟨⟨kc_X1_countCountries, ki_X1, ⟨by decide +kernel, by decide +kernel⟩, by decide +kernel⟩, rfl, kn_X1_countCountries, kv_X1_countCountries⟩
set_option maxRecDepth 100000 in
theorem kl_X1_92 : Cond.methodLink RX1 92 yX1_countCountries ∈ big := big_t3 83 (by decide +kernel)
set_option maxRecDepth 100000 in
theorem kf_X1_109 : Cond.fieldLinkNest RX1 109 "FraudSieve$Accounts" (TX0 3).2.1 (TX0 3).2.2.1 "FraudSieve" ∈ lw_tbl := tbl_t1 (List.mem_of_getElem? (i := 52) (by decide +kernel))
set_option maxRecDepth 100000 in
theorem fg_X1_109 : Fld (some "FraudSieve") layC NC RX1 109 2 3 none := ⟨"FraudSieve$Accounts", RX0, TX0, 5, 0, rfC2, ⟨kf_X1_109, inb_X0, rfl, by decide, rfl⟩, rfl, by decide, rfl⟩
set_option maxRecDepth 100000 in
theorem kc_X5_leastLinks : Cond.code yX5_leastLinks cX5_leastLinks 6 (some .int) ∈ big := big_t3 119 (by decide +kernel)
set_option maxRecDepth 100000 in
theorem kn_X5_leastLinks : Cond.instanceMethod yX5_leastLinks ∈ big := big_t3 117 (by decide +kernel)
set_option maxRecDepth 100000 in
theorem kv_X5_leastLinks : Cond.selects RX5 yX5_leastLinks yX5_leastLinks ∈ big := big_t3 118 (by decide +kernel)
set_option maxRecDepth 100000 in
theorem my_X5_leastLinks : MyV z_X5_leastLinks yX5_leastLinks 3 := ⟨⟨kc_X5_leastLinks, ki_X5, ⟨by decide +kernel, by decide +kernel⟩, by decide +kernel⟩, rfl, kn_X5_leastLinks, kv_X5_leastLinks⟩
set_option maxRecDepth 100000 in
theorem kl_X1_112 : Cond.methodLink RX1 112 yX5_leastLinks ∈ big := big_t3 116 (by decide +kernel)
set_option maxRecDepth 100000 in
theorem kc_X4_isFirstOfPair : Cond.code yX4_isFirstOfPair cX4_isFirstOfPair 3 (some .boolean) ∈ big := big_t3 92 (by decide +kernel)
set_option maxRecDepth 100000 in
theorem kn_X4_isFirstOfPair : Cond.instanceMethod yX4_isFirstOfPair ∈ big := big_t3 90 (by decide +kernel)
set_option maxRecDepth 100000 in
theorem kv_X4_isFirstOfPair : Cond.selects RX4 yX4_isFirstOfPair yX4_isFirstOfPair ∈ big := big_t3 91 (by decide +kernel)
set_option maxRecDepth 100000 in
theorem my_X4_isFirstOfPair : MyV z_X4_isFirstOfPair yX4_isFirstOfPair 1 := ⟨⟨kc_X4_isFirstOfPair, ki_X4, ⟨by decide +kernel, by decide +kernel⟩, by decide +kernel⟩, rfl, kn_X4_isFirstOfPair, kv_X4_isFirstOfPair⟩
set_option maxRecDepth 100000 in
theorem kl_X1_95 : Cond.methodLink RX1 95 yX4_isFirstOfPair ∈ big := big_t3 89 (by decide +kernel)
set_option maxRecDepth 100000 in
theorem kl_X5_38 : Cond.methodLink RX5 38 yJ6_bitCount_0f7a4 ∈ big := big_t3 115 (by decide +kernel)
set_option maxRecDepth 100000 in
theorem kc_X5_groupSize : Cond.code yX5_groupSize cX5_groupSize 4 (some .int) ∈ big := big_t3 110 (by decide +kernel)
set_option maxRecDepth 100000 in
theorem kn_X5_groupSize : Cond.instanceMethod yX5_groupSize ∈ big := big_t3 108 (by decide +kernel)
set_option maxRecDepth 100000 in
theorem kv_X5_groupSize : Cond.selects RX5 yX5_groupSize yX5_groupSize ∈ big := big_t3 109 (by decide +kernel)
set_option maxRecDepth 100000 in
theorem my_X5_groupSize : MyV z_X5_groupSize yX5_groupSize 1 := ⟨⟨kc_X5_groupSize, ki_X5, ⟨by decide +kernel, by decide +kernel⟩, by decide +kernel⟩, rfl, kn_X5_groupSize, kv_X5_groupSize⟩
set_option maxRecDepth 100000 in
theorem kl_X1_106 : Cond.methodLink RX1 106 yX5_groupSize ∈ big := big_t3 107 (by decide +kernel)
set_option maxRecDepth 100000 in
theorem kc_X4_sumOf : Cond.code yX4_sumOf cX4_sumOf 7 (some .int) ∈ big := big_t2 70 (by decide +kernel)
set_option maxRecDepth 100000 in
theorem kn_X4_sumOf : Cond.instanceMethod yX4_sumOf ∈ big := big_t2 68 (by decide +kernel)
set_option maxRecDepth 100000 in
theorem kv_X4_sumOf : Cond.selects RX4 yX4_sumOf yX4_sumOf ∈ big := big_t2 69 (by decide +kernel)
set_option maxRecDepth 100000 in
theorem my_X4_sumOf : MyV z_X4_sumOf yX4_sumOf 4 := ⟨⟨kc_X4_sumOf, ki_X4, ⟨by decide +kernel, by decide +kernel⟩, by decide +kernel⟩, rfl, kn_X4_sumOf, kv_X4_sumOf⟩
set_option maxRecDepth 100000 in
theorem kl_X1_54 : Cond.methodLink RX1 54 yX4_sumOf ∈ big := big_t2 67 (by decide +kernel)
set_option maxRecDepth 100000 in
theorem kc_X4_countSent : Cond.code yX4_countSent cX4_countSent 9 (some .int) ∈ big := big_t3 67 (by decide +kernel)
set_option maxRecDepth 100000 in
theorem kn_X4_countSent : Cond.instanceMethod yX4_countSent ∈ big := big_t3 65 (by decide +kernel)
set_option maxRecDepth 100000 in
theorem kv_X4_countSent : Cond.selects RX4 yX4_countSent yX4_countSent ∈ big := big_t3 66 (by decide +kernel)
set_option maxRecDepth 100000 in
theorem my_X4_countSent : MyV z_X4_countSent yX4_countSent 5 := ⟨⟨kc_X4_countSent, ki_X4, ⟨by decide +kernel, by decide +kernel⟩, by decide +kernel⟩, rfl, kn_X4_countSent, kv_X4_countSent⟩
set_option maxRecDepth 100000 in
theorem kl_X1_75 : Cond.methodLink RX1 75 yX4_countSent ∈ big := big_t3 64 (by decide +kernel)
set_option maxRecDepth 100000 in
theorem kc_X4_greatestSent : Cond.code yX4_greatestSent cX4_greatestSent 6 (some .int) ∈ big := big_t3 71 (by decide +kernel)
set_option maxRecDepth 100000 in
theorem kn_X4_greatestSent : Cond.instanceMethod yX4_greatestSent ∈ big := big_t3 69 (by decide +kernel)
set_option maxRecDepth 100000 in
theorem kv_X4_greatestSent : Cond.selects RX4 yX4_greatestSent yX4_greatestSent ∈ big := big_t3 70 (by decide +kernel)
set_option maxRecDepth 100000 in
theorem my_X4_greatestSent : MyV z_X4_greatestSent yX4_greatestSent 3 := ⟨⟨kc_X4_greatestSent, ki_X4, ⟨by decide +kernel, by decide +kernel⟩, by decide +kernel⟩, rfl, kn_X4_greatestSent, kv_X4_greatestSent⟩
set_option maxRecDepth 100000 in
theorem kl_X1_79 : Cond.methodLink RX1 79 yX4_greatestSent ∈ big := big_t3 68 (by decide +kernel)
set_option maxRecDepth 100000 in
theorem kq_X1_99 : Cond.constant RX1 99 99999 ∈ big := big_t3 93 (by decide +kernel)
set_option maxRecDepth 100000 in
theorem kc_X4_minutesSinceLast : Cond.code yX4_minutesSinceLast cX4_minutesSinceLast 4 (some .int) ∈ big := big_t3 97 (by decide +kernel)
set_option maxRecDepth 100000 in
theorem kn_X4_minutesSinceLast : Cond.instanceMethod yX4_minutesSinceLast ∈ big := big_t3 95 (by decide +kernel)
set_option maxRecDepth 100000 in
theorem kv_X4_minutesSinceLast : Cond.selects RX4 yX4_minutesSinceLast yX4_minutesSinceLast ∈ big := big_t3 96 (by decide +kernel)
set_option maxRecDepth 100000 in
theorem my_X4_minutesSinceLast : MyV z_X4_minutesSinceLast yX4_minutesSinceLast 2 := ⟨⟨kc_X4_minutesSinceLast, ki_X4, ⟨by decide +kernel, by decide +kernel⟩, by decide +kernel⟩, rfl, kn_X4_minutesSinceLast, kv_X4_minutesSinceLast⟩
set_option maxRecDepth 100000 in
theorem kl_X1_100 : Cond.methodLink RX1 100 yX4_minutesSinceLast ∈ big := big_t3 94 (by decide +kernel)
set_option maxRecDepth 100000 in
theorem kc_X1_featureValue : Cond.code yX1_featureValue cX1_featureValue 9 (some .int) ∈ big := big_t3 63 (by decide +kernel)
set_option maxRecDepth 100000 in
theorem kn_X1_featureValue : Cond.instanceMethod yX1_featureValue ∈ big := big_t3 61 (by decide +kernel)
set_option maxRecDepth 100000 in
theorem kv_X1_featureValue : Cond.selects RX1 yX1_featureValue yX1_featureValue ∈ big := big_t3 62 (by decide +kernel)
set_option maxRecDepth 100000 in
theorem my_X1_featureValue : MyV z_X1_featureValue yX1_featureValue 3 := ⟨⟨kc_X1_featureValue, ki_X1, ⟨by decide +kernel, by decide +kernel⟩, by decide +kernel⟩, rfl, kn_X1_featureValue, kv_X1_featureValue⟩
set_option maxRecDepth 100000 in
theorem kl_X3_69 : Cond.methodLink RX3 69 yX1_featureValue ∈ big := big_t3 60 (by decide +kernel)
set_option maxRecDepth 100000 in
theorem kf_X3_47 : Cond.fieldLink RX3 47 "FraudSieve$Conditions" (TX3 11).2.1 (TX3 11).2.2.1 ∈ big := big_t1 155 (by decide +kernel)
set_option maxRecDepth 100000 in
theorem fg_X3_47 : Fld none layC NC RX3 47 13 11 (some 25) := ⟨"FraudSieve$Conditions", RX3, TX3, 13, 3, rfC13, ⟨kf_X3_47, inb_X3, rfl, by decide, rfl⟩, rfl, by decide, rfl⟩
set_option maxRecDepth 100000 in
theorem kf_X3_25 : Cond.fieldLink RX3 25 "FraudSieve$Conditions" (TX3 4).2.1 (TX3 4).2.2.1 ∈ big := big_t1 145 (by decide +kernel)
set_option maxRecDepth 100000 in
theorem fg_X3_25 : Fld none layC NC RX3 25 13 4 (some 18) := ⟨"FraudSieve$Conditions", RX3, TX3, 13, 3, rfC13, ⟨kf_X3_25, inb_X3, rfl, by decide, rfl⟩, rfl, by decide, rfl⟩
set_option maxRecDepth 100000 in
theorem kf_X3_29 : Cond.fieldLink RX3 29 "FraudSieve$Conditions" (TX3 5).2.1 (TX3 5).2.2.1 ∈ big := big_t1 146 (by decide +kernel)
set_option maxRecDepth 100000 in
theorem fg_X3_29 : Fld none layC NC RX3 29 13 5 (some 19) := ⟨"FraudSieve$Conditions", RX3, TX3, 13, 3, rfC13, ⟨kf_X3_29, inb_X3, rfl, by decide, rfl⟩, rfl, by decide, rfl⟩
set_option maxRecDepth 100000 in
theorem kc_X3_judgeTest : Cond.code yX3_judgeTest cX3_judgeTest 5 (some .boolean) ∈ big := big_t3 59 (by decide +kernel)
set_option maxRecDepth 100000 in
theorem ki_X3 : Cond.initialized RX3 ∈ big := big_t1 6 (by decide +kernel)
set_option maxRecDepth 100000 in
theorem kn_X3_judgeTest : Cond.instanceMethod yX3_judgeTest ∈ big := big_t3 58 (by decide +kernel)
set_option maxRecDepth 100000 in
theorem kv_X3_judgeTest : Cond.selects RX3 yX3_judgeTest yX3_judgeTest ∈ big := big_at 4 (by decide +kernel)
set_option maxRecDepth 100000 in
theorem my_X3_judgeTest : MyV z_X3_judgeTest yX3_judgeTest 3 := ⟨⟨kc_X3_judgeTest, ki_X3, ⟨by decide +kernel, by decide +kernel⟩, by decide +kernel⟩, rfl, kn_X3_judgeTest, kv_X3_judgeTest⟩
set_option maxRecDepth 100000 in
theorem kl_X3_65 : Cond.methodLink RX3 65 yX3_judgeTest ∈ big := big_t3 56 (by decide +kernel)
set_option maxRecDepth 100000 in
theorem rc_X3 : RcC 13 RX3 := ⟨3, 13, TX3, rfC13, rfl, by decide, rfl⟩
set_option maxRecDepth 100000 in
theorem kc_X3_judge : Cond.code yX3_judge cX3_judge 7 none ∈ big := big_t3 55 (by decide +kernel)
set_option maxRecDepth 100000 in
theorem kn_X3_judge : Cond.instanceMethod yX3_judge ∈ big := big_t3 53 (by decide +kernel)
set_option maxRecDepth 100000 in
theorem kv_X3_judge : Cond.selects RX3 yX3_judge yX3_judge ∈ big := big_t3 54 (by decide +kernel)
set_option maxRecDepth 100000 in
theorem my_X3_judge : MyV z_X3_judge yX3_judge 3 := ⟨⟨kc_X3_judge, ki_X3, ⟨by decide +kernel, by decide +kernel⟩, by decide +kernel⟩, rfl, kn_X3_judge, kv_X3_judge⟩
set_option maxRecDepth 100000 in
theorem kl_X7_118 : Cond.methodLink RX7 118 yX3_judge ∈ big := big_t3 52 (by decide +kernel)
set_option maxRecDepth 100000 in
theorem kf_X7_26 : Cond.fieldLink RX7 26 "FraudSieve" (TX7 2).2.1 (TX7 2).2.2.1 ∈ big := big_t2 2 (by decide +kernel)
set_option maxRecDepth 100000 in
theorem fg_X7_26 : Fld none layC NC RX7 26 0 2 (some 26) := ⟨"FraudSieve", RX7, TX7, 5, 7, rfC0, ⟨kf_X7_26, inb_X7, rfl, by decide, rfl⟩, rfl, by decide, rfl⟩
set_option maxRecDepth 100000 in
theorem kf_X6_18 : Cond.fieldLink RX6 18 "FraudSieve$Rules" (TX6 3).2.1 (TX6 3).2.2.1 ∈ big := big_t1 199 (by decide +kernel)
set_option maxRecDepth 100000 in
theorem inb_X6 : ∀ w ∈ u_ws RX6 TX6 4, w ∈ big := fun w hw => List.mem_filter.mpr ⟨(goodIn_r (big := lw_tbl) (u_ws RX6 TX6 4) [248, 250, 252, 254] (by decide +kernel) (by decide +kernel) w hw).1, by revert w; decide +kernel⟩
set_option maxRecDepth 100000 in
theorem fg_X6_18 : Fld none layC NC RX6 18 26 3 none := ⟨"FraudSieve$Rules", RX6, TX6, 4, 6, rfC26, ⟨kf_X6_18, inb_X6, rfl, by decide, rfl⟩, rfl, by decide, rfl⟩
set_option maxRecDepth 100000 in
theorem kf_X6_22 : Cond.fieldLink RX6 22 "FraudSieve$Rules" (TX6 2).2.1 (TX6 2).2.2.1 ∈ big := big_t1 197 (by decide +kernel)
set_option maxRecDepth 100000 in
theorem fg_X6_22 : Fld none layC NC RX6 22 26 2 none := ⟨"FraudSieve$Rules", RX6, TX6, 4, 6, rfC26, ⟨kf_X6_22, inb_X6, rfl, by decide, rfl⟩, rfl, by decide, rfl⟩
set_option maxRecDepth 100000 in
theorem kl_X6_29 : Cond.methodLinkNest RX6 29 yX7_hasBit "FraudSieve" ∈ lw_tbl := tbl_t2 (List.mem_of_getElem? (i := 52) (by decide +kernel))
set_option maxRecDepth 100000 in
theorem kf_X6_33 : Cond.fieldLinkNest RX6 33 "FraudSieve$Conditions" (TX3 10).2.1 (TX3 10).2.2.1 "FraudSieve" ∈ lw_tbl := tbl_t1 (List.mem_of_getElem? (i := 153) (by decide +kernel))
set_option maxRecDepth 100000 in
theorem fg_X6_33 : Fld (some "FraudSieve") layC NC RX6 33 13 10 (some 24) := ⟨"FraudSieve$Conditions", RX3, TX3, 13, 3, rfC13, ⟨kf_X6_33, inb_X3, rfl, by decide, rfl⟩, rfl, by decide, rfl⟩
set_option maxRecDepth 100000 in
theorem kf_X6_9 : Cond.fieldLink RX6 9 "FraudSieve$Rules" (TX6 0).2.1 (TX6 0).2.2.1 ∈ big := big_t1 194 (by decide +kernel)
set_option maxRecDepth 100000 in
theorem fg_X6_9 : Fld none layC NC RX6 9 26 0 (some 27) := ⟨"FraudSieve$Rules", RX6, TX6, 4, 6, rfC26, ⟨kf_X6_9, inb_X6, rfl, by decide, rfl⟩, rfl, by decide, rfl⟩
set_option maxRecDepth 100000 in
theorem kl_X6_25 : Cond.methodLinkNest RX6 25 yX7_withBit "FraudSieve" ∈ lw_tbl := tbl_t3 (List.mem_of_getElem? (i := 128) (by decide +kernel))
set_option maxRecDepth 100000 in
theorem kc_X6_findReasons : Cond.code yX6_findReasons cX6_findReasons 4 (some .int) ∈ big := big_t3 127 (by decide +kernel)
set_option maxRecDepth 100000 in
theorem ki_X6 : Cond.initialized RX6 ∈ big := big_t1 7 (by decide +kernel)
set_option maxRecDepth 100000 in
theorem kn_X6_findReasons : Cond.instanceMethod yX6_findReasons ∈ big := big_t3 125 (by decide +kernel)
set_option maxRecDepth 100000 in
theorem kv_X6_findReasons : Cond.selects RX6 yX6_findReasons yX6_findReasons ∈ big := big_t3 126 (by decide +kernel)
set_option maxRecDepth 100000 in
theorem my_X6_findReasons : MyV z_X6_findReasons yX6_findReasons 1 := ⟨⟨kc_X6_findReasons, ki_X6, ⟨by decide +kernel, by decide +kernel⟩, by decide +kernel⟩, rfl, kn_X6_findReasons, kv_X6_findReasons⟩
set_option maxRecDepth 100000 in
theorem kl_X7_122 : Cond.methodLink RX7 122 yX6_findReasons ∈ big := big_t3 124 (by decide +kernel)
set_option maxRecDepth 100000 in
theorem rc_X6 : RcC 26 RX6 := ⟨6, 4, TX6, rfC26, rfl, by decide, rfl⟩
set_option maxRecDepth 100000 in
theorem kf_X6_15 : Cond.fieldLink RX6 15 "FraudSieve$Rules" (TX6 1).2.1 (TX6 1).2.2.1 ∈ big := big_t1 196 (by decide +kernel)
set_option maxRecDepth 100000 in
theorem fg_X6_15 : Fld none layC NC RX6 15 26 1 (some 28) := ⟨"FraudSieve$Rules", RX6, TX6, 4, 6, rfC26, ⟨kf_X6_15, inb_X6, rfl, by decide, rfl⟩, rfl, by decide, rfl⟩
set_option maxRecDepth 100000 in
theorem kc_X6_weightOf : Cond.code yX6_weightOf cX6_weightOf 4 (some .int) ∈ big := big_t2 51 (by decide +kernel)
set_option maxRecDepth 100000 in
theorem kn_X6_weightOf : Cond.instanceMethod yX6_weightOf ∈ big := big_t2 49 (by decide +kernel)
set_option maxRecDepth 100000 in
theorem kv_X6_weightOf : Cond.selects RX6 yX6_weightOf yX6_weightOf ∈ big := big_t2 50 (by decide +kernel)
set_option maxRecDepth 100000 in
theorem my_X6_weightOf : MyV z_X6_weightOf yX6_weightOf 1 := ⟨⟨kc_X6_weightOf, ki_X6, ⟨by decide +kernel, by decide +kernel⟩, by decide +kernel⟩, rfl, kn_X6_weightOf, kv_X6_weightOf⟩
set_option maxRecDepth 100000 in
theorem kl_X7_126 : Cond.methodLink RX7 126 yX6_weightOf ∈ big := big_t2 48 (by decide +kernel)
set_option maxRecDepth 100000 in
theorem kf_X7_33 : Cond.fieldLink RX7 33 "FraudSieve" (TX7 3).2.1 (TX7 3).2.2.1 ∈ big := big_t2 3 (by decide +kernel)
set_option maxRecDepth 100000 in
theorem fg_X7_33 : Fld none layC NC RX7 33 0 3 (some 29) := ⟨"FraudSieve", RX7, TX7, 5, 7, rfC0, ⟨kf_X7_33, inb_X7, rfl, by decide, rfl⟩, rfl, by decide, rfl⟩
set_option maxRecDepth 100000 in
theorem kf_X2_28 : Cond.fieldLinkNest RX2 28 "FraudSieve$Conditions" (TX3 12).2.1 (TX3 12).2.2.1 "FraudSieve" ∈ lw_tbl := tbl_t1 (List.mem_of_getElem? (i := 158) (by decide +kernel))
set_option maxRecDepth 100000 in
theorem fg_X2_28 : Fld (some "FraudSieve") layC NC RX2 28 13 12 none := ⟨"FraudSieve$Conditions", RX3, TX3, 13, 3, rfC13, ⟨kf_X2_28, inb_X3, rfl, by decide, rfl⟩, rfl, by decide, rfl⟩
set_option maxRecDepth 100000 in
theorem kf_X2_34 : Cond.fieldLinkNest RX2 34 "FraudSieve$Conditions" (TX3 10).2.1 (TX3 10).2.2.1 "FraudSieve" ∈ lw_tbl := tbl_t1 (List.mem_of_getElem? (i := 152) (by decide +kernel))
set_option maxRecDepth 100000 in
theorem fg_X2_34 : Fld (some "FraudSieve") layC NC RX2 34 13 10 (some 24) := ⟨"FraudSieve$Conditions", RX3, TX3, 13, 3, rfC13, ⟨kf_X2_34, inb_X3, rfl, by decide, rfl⟩, rfl, by decide, rfl⟩
set_option maxRecDepth 100000 in
theorem kl_X2_38 : Cond.methodLinkNest RX2 38 yX7_withBit "FraudSieve" ∈ lw_tbl := tbl_t3 (List.mem_of_getElem? (i := 133) (by decide +kernel))
set_option maxRecDepth 100000 in
theorem kf_X2_25 : Cond.fieldLink RX2 25 "FraudSieve$Cases" (TX2 4).2.1 (TX2 4).2.2.1 ∈ big := big_t1 224 (by decide +kernel)
set_option maxRecDepth 100000 in
theorem inb_X2 : ∀ w ∈ u_ws RX2 TX2 6, w ∈ big := fun w hw => List.mem_filter.mpr ⟨(goodIn_r (big := lw_tbl) (u_ws RX2 TX2 6) [274, 276, 278, 280, 282, 284] (by decide +kernel) (by decide +kernel) w hw).1, by revert w; decide +kernel⟩
set_option maxRecDepth 100000 in
theorem fg_X2_25 : Fld none layC NC RX2 25 29 4 (some 34) := ⟨"FraudSieve$Cases", RX2, TX2, 6, 2, rfC29, ⟨kf_X2_25, inb_X2, rfl, by decide, rfl⟩, rfl, by decide, rfl⟩
set_option maxRecDepth 100000 in
theorem kf_X2_42 : Cond.fieldLinkNest RX2 42 "FraudSieve$Conditions" (TX3 11).2.1 (TX3 11).2.2.1 "FraudSieve" ∈ lw_tbl := tbl_t1 (List.mem_of_getElem? (i := 156) (by decide +kernel))
set_option maxRecDepth 100000 in
theorem fg_X2_42 : Fld (some "FraudSieve") layC NC RX2 42 13 11 (some 25) := ⟨"FraudSieve$Conditions", RX3, TX3, 13, 3, rfC13, ⟨kf_X2_42, inb_X3, rfl, by decide, rfl⟩, rfl, by decide, rfl⟩
set_option maxRecDepth 100000 in
theorem kf_X2_22 : Cond.fieldLink RX2 22 "FraudSieve$Cases" (TX2 3).2.1 (TX2 3).2.2.1 ∈ big := big_t1 222 (by decide +kernel)
set_option maxRecDepth 100000 in
theorem fg_X2_22 : Fld none layC NC RX2 22 29 3 (some 33) := ⟨"FraudSieve$Cases", RX2, TX2, 6, 2, rfC29, ⟨kf_X2_22, inb_X2, rfl, by decide, rfl⟩, rfl, by decide, rfl⟩
set_option maxRecDepth 100000 in
theorem kf_X2_19 : Cond.fieldLink RX2 19 "FraudSieve$Cases" (TX2 2).2.1 (TX2 2).2.2.1 ∈ big := big_t1 220 (by decide +kernel)
set_option maxRecDepth 100000 in
theorem fg_X2_19 : Fld none layC NC RX2 19 29 2 (some 32) := ⟨"FraudSieve$Cases", RX2, TX2, 6, 2, rfC29, ⟨kf_X2_19, inb_X2, rfl, by decide, rfl⟩, rfl, by decide, rfl⟩
set_option maxRecDepth 100000 in
theorem kf_X2_9 : Cond.fieldLink RX2 9 "FraudSieve$Cases" (TX2 0).2.1 (TX2 0).2.2.1 ∈ big := big_t1 216 (by decide +kernel)
set_option maxRecDepth 100000 in
theorem fg_X2_9 : Fld none layC NC RX2 9 29 0 (some 30) := ⟨"FraudSieve$Cases", RX2, TX2, 6, 2, rfC29, ⟨kf_X2_9, inb_X2, rfl, by decide, rfl⟩, rfl, by decide, rfl⟩
set_option maxRecDepth 100000 in
theorem kf_X2_15 : Cond.fieldLink RX2 15 "FraudSieve$Cases" (TX2 1).2.1 (TX2 1).2.2.1 ∈ big := big_t1 218 (by decide +kernel)
set_option maxRecDepth 100000 in
theorem fg_X2_15 : Fld none layC NC RX2 15 29 1 (some 31) := ⟨"FraudSieve$Cases", RX2, TX2, 6, 2, rfC29, ⟨kf_X2_15, inb_X2, rfl, by decide, rfl⟩, rfl, by decide, rfl⟩
set_option maxRecDepth 100000 in
theorem kc_X2_keep : Cond.code yX2_keep cX2_keep 7 none ∈ big := big_t3 132 (by decide +kernel)
set_option maxRecDepth 100000 in
theorem ki_X2 : Cond.initialized RX2 ∈ big := big_t1 8 (by decide +kernel)
set_option maxRecDepth 100000 in
theorem kn_X2_keep : Cond.instanceMethod yX2_keep ∈ big := big_t3 130 (by decide +kernel)
set_option maxRecDepth 100000 in
theorem kv_X2_keep : Cond.selects RX2 yX2_keep yX2_keep ∈ big := big_t3 131 (by decide +kernel)
set_option maxRecDepth 100000 in
theorem my_X2_keep : MyV z_X2_keep yX2_keep 4 := ⟨⟨kc_X2_keep, ki_X2, ⟨by decide +kernel, by decide +kernel⟩, by decide +kernel⟩, rfl, kn_X2_keep, kv_X2_keep⟩
set_option maxRecDepth 100000 in
theorem kl_X7_130 : Cond.methodLink RX7 130 yX2_keep ∈ big := big_t3 129 (by decide +kernel)
set_option maxRecDepth 100000 in
theorem rc_X2 : RcC 29 RX2 := ⟨2, 6, TX2, rfC29, rfl, by decide, rfl⟩
set_option maxRecDepth 100000 in
theorem kf_X7_37 : Cond.fieldLink RX7 37 "FraudSieve" (TX7 4).2.1 (TX7 4).2.2.1 ∈ big := big_t2 4 (by decide +kernel)
set_option maxRecDepth 100000 in
theorem fg_X7_37 : Fld none layC NC RX7 37 0 4 none := ⟨"FraudSieve", RX7, TX7, 5, 7, rfC0, ⟨kf_X7_37, inb_X7, rfl, by decide, rfl⟩, rfl, by decide, rfl⟩
set_option maxRecDepth 100000 in
theorem kf_X2_45 : Cond.fieldLink RX2 45 "FraudSieve$Cases" (TX2 5).2.1 (TX2 5).2.2.1 ∈ big := big_t1 225 (by decide +kernel)
set_option maxRecDepth 100000 in
theorem fg_X2_45 : Fld none layC NC RX2 45 29 5 none := ⟨"FraudSieve$Cases", RX2, TX2, 6, 2, rfC29, ⟨kf_X2_45, inb_X2, rfl, by decide, rfl⟩, rfl, by decide, rfl⟩
set_option maxRecDepth 100000 in
theorem fp_X2_45 : FldP none layC NC RX2 45 29 5 := ⟨"FraudSieve$Cases", RX2, TX2, tyX2, 6, 2, rfC29, ⟨kf_X2_45, inb_X2, rfl, by decide, rfl⟩, rfl, by decide, rfl, rfl, rfl, tyX2_ok, nmX2⟩
set_option maxRecDepth 100000 in
theorem kc_X2_raise : Cond.code yX2_raise cX2_raise 2 none ∈ big := big_t3 137 (by decide +kernel)
set_option maxRecDepth 100000 in
theorem kn_X2_raise : Cond.instanceMethod yX2_raise ∈ big := big_t3 135 (by decide +kernel)
set_option maxRecDepth 100000 in
theorem kv_X2_raise : Cond.selects RX2 yX2_raise yX2_raise ∈ big := big_t3 136 (by decide +kernel)
set_option maxRecDepth 100000 in
theorem my_X2_raise : MyV z_X2_raise yX2_raise 1 := ⟨⟨kc_X2_raise, ki_X2, ⟨by decide +kernel, by decide +kernel⟩, by decide +kernel⟩, rfl, kn_X2_raise, kv_X2_raise⟩
set_option maxRecDepth 100000 in
theorem kl_X7_134 : Cond.methodLink RX7 134 yX2_raise ∈ big := big_t3 134 (by decide +kernel)
set_option maxRecDepth 100000 in
theorem tx_112 : (RX7, 112, "no more payments") ∈ texts := List.mem_of_getElem? (i := 7) rfl
set_option maxRecDepth 100000 in
theorem kk_X7_98 : Cond.classLink RX7 98 "java/lang/UnsupportedOperationException" ∈ big := big_t3 30 (by decide +kernel)
set_option maxRecDepth 100000 in
theorem ki_java_lang_UnsupportedOperationException : Cond.initialized "java/lang/UnsupportedOperationException" ∈ big := big_t1 18 (by decide +kernel)
set_option maxRecDepth 100000 in
theorem th_X7_98_102 : ThrF RX7 98 102 "java/lang/UnsupportedOperationException" ["java/lang/RuntimeException", "java/lang/Exception"] := ⟨by decide +kernel, by decide +kernel, kk_X7_98, ki_java_lang_UnsupportedOperationException, by decide +kernel, by decide +kernel⟩
set_option maxRecDepth 100000 in
theorem tx_100 : (RX7, 100, "payer and receiver are the same") ∈ texts := List.mem_of_getElem? (i := 5) rfl
