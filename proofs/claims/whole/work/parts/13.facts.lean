abbrev z_X4_firstAfter : Zt := (RX4, cX4_firstAfter, 4, (some .int), { frames := 0, cells := 0, slots := 0, locals := 0 }, [], 0, 0)
abbrev z_X7_hasBit : Zt := (RX7, cX7_hasBit, 2, (some .boolean), { frames := 0, cells := 0, slots := 0, locals := 0 }, [], 0, 0)
abbrev z_X7_withBit : Zt := (RX7, cX7_withBit, 3, (some .int), { frames := 0, cells := 0, slots := 0, locals := 0 }, [], 0, 0)
abbrev z_X4_receiversFrom : Zt := (RX4, cX4_receiversFrom, 6, (some .int), { frames := 1, cells := 0, slots := 0, locals := 22 }, [], 0, 0)
abbrev z_X4_sumOf : Zt := (RX4, cX4_sumOf, 7, (some .int), { frames := 0, cells := 0, slots := 0, locals := 0 }, [], 0, 0)
abbrev z_X1_keptSum : Zt := (RX1, cX1_keptSum, 4, (some .int), { frames := 1, cells := 0, slots := 0, locals := 26 }, [], 0, 0)
abbrev z_X5_load : Zt := (RX5, cX5_load, 7, none, { frames := 1, cells := 0, slots := 0, locals := 22 }, [], 0, 0)
abbrev z_X1_networkOf : Zt := (RX1, cX1_networkOf, 3, (some (.object "FraudSieve$Network")), { frames := 2, cells := 0, slots := 0, locals := 48 }, [], 0, 0)
abbrev z_X7_requireAccount : Zt := (RX7, cX7_requireAccount, 2, none, { frames := 6, cells := 1, slots := 6, locals := 86 }, [], 0, 0)
abbrev z_X7_isMarked : Zt := (RX7, cX7_isMarked, 2, (some .boolean), { frames := 7, cells := 1, slots := 6, locals := 107 }, [], 0, 0)
abbrev z_X0_append : Zt := (RX0, cX0_append, 3, (some .int), { frames := 0, cells := 0, slots := 0, locals := 0 }, [], 0, 0)
abbrev z_X7_open : Zt := (RX7, cX7_open, 2, (some .int), { frames := 6, cells := 1, slots := 6, locals := 86 }, [], 0, 0)
abbrev z_X8_isBetween : Zt := (RX8, cX8_isBetween, 3, (some .boolean), { frames := 0, cells := 0, slots := 0, locals := 0 }, [], 0, 0)
abbrev z_X8_isAccount : Zt := (RX8, cX8_isAccount, 2, (some .boolean), { frames := 1, cells := 0, slots := 0, locals := 22 }, [], 0, 0)
abbrev z_X8_isIn : Zt := (RX8, cX8_isIn, 4, (some .boolean), { frames := 0, cells := 0, slots := 0, locals := 0 }, [], 0, 0)
abbrev z_X8_spreads : Zt := (RX8, cX8_spreads, 8, none, { frames := 1, cells := 0, slots := 0, locals := 23 }, [], 0, 0)
theorem cst_bipush100 : (Int8.ofInt 100).toInt32 = 100 := by decide
theorem cst_bipush20 : (Int8.ofInt 20).toInt32 = 20 := by decide
theorem cst_bipush97 : (Int8.ofInt 97).toInt32 = 97 := by decide
theorem cst_bipush99 : (Int8.ofInt 99).toInt32 = 99 := by decide
theorem cst_iconstn1 : Int32.ofInt (-1) = (-1) := by decide
theorem cst_iconst0 : Int32.ofInt 0 = 0 := by decide
theorem cst_iconst1 : Int32.ofInt 1 = 1 := by decide
set_option maxRecDepth 100000 in
theorem kf_X4_24 : Cond.fieldLink RX4 24 "FraudSieve$Ledger" (TX4 4).2.1 (TX4 4).2.2.1 ∈ big := big_at 133 (by decide +kernel)
set_option maxRecDepth 100000 in
theorem inb_X4 : ∀ w ∈ u_ws RX4 TX4 5, w ∈ big := fun w hw => List.mem_filter.mpr ⟨(goodIn_r (big := lw_tbl) (u_ws RX4 TX4 5) [136, 138, 140, 142, 144] (by decide +kernel) (by decide +kernel) w hw).1, by revert w; decide +kernel⟩
set_option maxRecDepth 100000 in
theorem fg_X4_24 : Fld none layC NC RX4 24 3 4 none := ⟨"FraudSieve$Ledger", RX4, TX4, 5, 4, rfC3, ⟨kf_X4_24, inb_X4, rfl, by decide, rfl⟩, rfl, by decide, rfl⟩
set_option maxRecDepth 100000 in
theorem kf_X4_21 : Cond.fieldLink RX4 21 "FraudSieve$Ledger" (TX4 3).2.1 (TX4 3).2.2.1 ∈ big := big_at 130 (by decide +kernel)
set_option maxRecDepth 100000 in
theorem fg_X4_21 : Fld none layC NC RX4 21 3 3 (some 13) := ⟨"FraudSieve$Ledger", RX4, TX4, 5, 4, rfC3, ⟨kf_X4_21, inb_X4, rfl, by decide, rfl⟩, rfl, by decide, rfl⟩
set_option maxRecDepth 100000 in
theorem kf_X4_9 : Cond.fieldLink RX4 9 "FraudSieve$Ledger" (TX4 0).2.1 (TX4 0).2.2.1 ∈ big := big_at 120 (by decide +kernel)
set_option maxRecDepth 100000 in
theorem fg_X4_9 : Fld none layC NC RX4 9 3 0 (some 10) := ⟨"FraudSieve$Ledger", RX4, TX4, 5, 4, rfC3, ⟨kf_X4_9, inb_X4, rfl, by decide, rfl⟩, rfl, by decide, rfl⟩
set_option maxRecDepth 100000 in
theorem kf_X4_15 : Cond.fieldLink RX4 15 "FraudSieve$Ledger" (TX4 1).2.1 (TX4 1).2.2.1 ∈ big := big_at 123 (by decide +kernel)
set_option maxRecDepth 100000 in
theorem fg_X4_15 : Fld none layC NC RX4 15 3 1 (some 11) := ⟨"FraudSieve$Ledger", RX4, TX4, 5, 4, rfC3, ⟨kf_X4_15, inb_X4, rfl, by decide, rfl⟩, rfl, by decide, rfl⟩
set_option maxRecDepth 100000 in
theorem kc_X7_withBit : Cond.code yX7_withBit cX7_withBit 3 (some .int) ∈ big := big_at 514 (by decide +kernel)
set_option maxRecDepth 100000 in
theorem ki_X7 : Cond.initialized RX7 ∈ big := big_at 48 (by decide +kernel)
set_option maxRecDepth 100000 in
theorem ks_X7_withBit : Cond.static yX7_withBit ∈ big := big_at 513 (by decide +kernel)
set_option maxRecDepth 100000 in
theorem my_X7_withBit : MyS z_X7_withBit yX7_withBit 3 := ⟨⟨kc_X7_withBit, ki_X7, ⟨by decide +kernel, by decide +kernel⟩, by decide +kernel⟩, rfl, ks_X7_withBit⟩
set_option maxRecDepth 100000 in
theorem kl_X4_28 : Cond.methodLinkNest RX4 28 yX7_withBit "FraudSieve" ∈ lw_tbl := List.mem_of_getElem? (i := 603) (by decide +kernel)
set_option maxRecDepth 100000 in
theorem kf_X1_21 : Cond.fieldLink RX1 21 "FraudSieve$Bank" (TX1 1).2.1 (TX1 1).2.2.1 ∈ big := big_at 162 (by decide +kernel)
set_option maxRecDepth 100000 in
theorem inb_X1 : ∀ w ∈ u_ws RX1 TX1 5, w ∈ big := fun w hw => List.mem_filter.mpr ⟨(goodIn_r (big := lw_tbl) (u_ws RX1 TX1 5) [169, 171, 173, 175, 177] (by decide +kernel) (by decide +kernel) w hw).1, by revert w; decide +kernel⟩
set_option maxRecDepth 100000 in
theorem fg_X1_21 : Fld none layC NC RX1 21 1 1 (some 3) := ⟨"FraudSieve$Bank", RX1, TX1, 5, 1, rfC1, ⟨kf_X1_21, inb_X1, rfl, by decide, rfl⟩, rfl, by decide, rfl⟩
set_option maxRecDepth 100000 in
theorem kf_X1_36 : Cond.fieldLink RX1 36 "FraudSieve$Bank" (TX1 3).2.1 (TX1 3).2.2.1 ∈ big := big_at 166 (by decide +kernel)
set_option maxRecDepth 100000 in
theorem fg_X1_36 : Fld none layC NC RX1 36 1 3 none := ⟨"FraudSieve$Bank", RX1, TX1, 5, 1, rfC1, ⟨kf_X1_36, inb_X1, rfl, by decide, rfl⟩, rfl, by decide, rfl⟩
set_option maxRecDepth 100000 in
theorem kf_X1_40 : Cond.fieldLink RX1 40 "FraudSieve$Bank" (TX1 4).2.1 (TX1 4).2.2.1 ∈ big := big_at 167 (by decide +kernel)
set_option maxRecDepth 100000 in
theorem fg_X1_40 : Fld none layC NC RX1 40 1 4 none := ⟨"FraudSieve$Bank", RX1, TX1, 5, 1, rfC1, ⟨kf_X1_40, inb_X1, rfl, by decide, rfl⟩, rfl, by decide, rfl⟩
set_option maxRecDepth 100000 in
theorem kc_X4_firstAfter : Cond.code yX4_firstAfter cX4_firstAfter 4 (some .int) ∈ big := big_at 353 (by decide +kernel)
set_option maxRecDepth 100000 in
theorem ki_X4 : Cond.initialized RX4 ∈ big := big_at 51 (by decide +kernel)
set_option maxRecDepth 100000 in
theorem kn_X4_firstAfter : Cond.instanceMethod yX4_firstAfter ∈ big := big_at 351 (by decide +kernel)
set_option maxRecDepth 100000 in
theorem kv_X4_firstAfter : Cond.selects RX4 yX4_firstAfter yX4_firstAfter ∈ big := big_at 352 (by decide +kernel)
set_option maxRecDepth 100000 in
theorem my_X4_firstAfter : MyV z_X4_firstAfter yX4_firstAfter 2 := ⟨⟨kc_X4_firstAfter, ki_X4, ⟨by decide +kernel, by decide +kernel⟩, by decide +kernel⟩, rfl, kn_X4_firstAfter, kv_X4_firstAfter⟩
set_option maxRecDepth 100000 in
theorem kl_X1_43 : Cond.methodLink RX1 43 yX4_firstAfter ∈ big := big_at 350 (by decide +kernel)
set_option maxRecDepth 100000 in
theorem rc_X4 : RcC 3 RX4 := ⟨4, 5, TX4, rfC3, rfl, by decide, rfl⟩
set_option maxRecDepth 100000 in
theorem kf_X1_47 : Cond.fieldLinkNest RX1 47 "FraudSieve$Ledger" (TX4 0).2.1 (TX4 0).2.2.1 "FraudSieve" ∈ lw_tbl := List.mem_of_getElem? (i := 122) (by decide +kernel)
set_option maxRecDepth 100000 in
theorem fg_X1_47 : Fld (some "FraudSieve") layC NC RX1 47 3 0 (some 10) := ⟨"FraudSieve$Ledger", RX4, TX4, 5, 4, rfC3, ⟨kf_X1_47, inb_X4, rfl, by decide, rfl⟩, rfl, by decide, rfl⟩
set_option maxRecDepth 100000 in
theorem kf_X1_51 : Cond.fieldLinkNest RX1 51 "FraudSieve$Ledger" (TX4 4).2.1 (TX4 4).2.2.1 "FraudSieve" ∈ lw_tbl := List.mem_of_getElem? (i := 134) (by decide +kernel)
set_option maxRecDepth 100000 in
theorem fg_X1_51 : Fld (some "FraudSieve") layC NC RX1 51 3 4 none := ⟨"FraudSieve$Ledger", RX4, TX4, 5, 4, rfC3, ⟨kf_X1_51, inb_X4, rfl, by decide, rfl⟩, rfl, by decide, rfl⟩
set_option maxRecDepth 100000 in
theorem kf_X4_18 : Cond.fieldLink RX4 18 "FraudSieve$Ledger" (TX4 2).2.1 (TX4 2).2.2.1 ∈ big := big_at 127 (by decide +kernel)
set_option maxRecDepth 100000 in
theorem fg_X4_18 : Fld none layC NC RX4 18 3 2 (some 12) := ⟨"FraudSieve$Ledger", RX4, TX4, 5, 4, rfC3, ⟨kf_X4_18, inb_X4, rfl, by decide, rfl⟩, rfl, by decide, rfl⟩
set_option maxRecDepth 100000 in
theorem kc_X4_sumOf : Cond.code yX4_sumOf cX4_sumOf 7 (some .int) ∈ big := big_at 357 (by decide +kernel)
set_option maxRecDepth 100000 in
theorem kn_X4_sumOf : Cond.instanceMethod yX4_sumOf ∈ big := big_at 355 (by decide +kernel)
set_option maxRecDepth 100000 in
theorem kv_X4_sumOf : Cond.selects RX4 yX4_sumOf yX4_sumOf ∈ big := big_at 356 (by decide +kernel)
set_option maxRecDepth 100000 in
theorem my_X4_sumOf : MyV z_X4_sumOf yX4_sumOf 4 := ⟨⟨kc_X4_sumOf, ki_X4, ⟨by decide +kernel, by decide +kernel⟩, by decide +kernel⟩, rfl, kn_X4_sumOf, kv_X4_sumOf⟩
set_option maxRecDepth 100000 in
theorem kl_X1_54 : Cond.methodLink RX1 54 yX4_sumOf ∈ big := big_at 354 (by decide +kernel)
set_option maxRecDepth 100000 in
theorem kf_X1_28 : Cond.fieldLink RX1 28 "FraudSieve$Bank" (TX1 2).2.1 (TX1 2).2.2.1 ∈ big := big_at 164 (by decide +kernel)
set_option maxRecDepth 100000 in
theorem fg_X1_28 : Fld none layC NC RX1 28 1 2 (some 4) := ⟨"FraudSieve$Bank", RX1, TX1, 5, 1, rfC1, ⟨kf_X1_28, inb_X1, rfl, by decide, rfl⟩, rfl, by decide, rfl⟩
set_option maxRecDepth 100000 in
theorem kf_X5_9 : Cond.fieldLink RX5 9 "FraudSieve$Network" (TX5 0).2.1 (TX5 0).2.2.1 ∈ big := big_at 153 (by decide +kernel)
set_option maxRecDepth 100000 in
theorem inb_X5 : ∀ w ∈ u_ws RX5 TX5 2, w ∈ big := fun w hw => List.mem_filter.mpr ⟨(goodIn_r (big := lw_tbl) (u_ws RX5 TX5 2) [155, 157] (by decide +kernel) (by decide +kernel) w hw).1, by revert w; decide +kernel⟩
set_option maxRecDepth 100000 in
theorem fg_X5_9 : Fld none layC NC RX5 9 4 0 (some 14) := ⟨"FraudSieve$Network", RX5, TX5, 2, 5, rfC4, ⟨kf_X5_9, inb_X5, rfl, by decide, rfl⟩, rfl, by decide, rfl⟩
set_option maxRecDepth 100000 in
theorem kf_X5_15 : Cond.fieldLink RX5 15 "FraudSieve$Network" (TX5 1).2.1 (TX5 1).2.2.1 ∈ big := big_at 154 (by decide +kernel)
set_option maxRecDepth 100000 in
theorem fg_X5_15 : Fld none layC NC RX5 15 4 1 (some 15) := ⟨"FraudSieve$Network", RX5, TX5, 2, 5, rfC4, ⟨kf_X5_15, inb_X5, rfl, by decide, rfl⟩, rfl, by decide, rfl⟩
set_option maxRecDepth 100000 in
theorem kf_X5_18 : Cond.fieldLinkNest RX5 18 "FraudSieve$Ledger" (TX4 0).2.1 (TX4 0).2.2.1 "FraudSieve" ∈ lw_tbl := List.mem_of_getElem? (i := 121) (by decide +kernel)
set_option maxRecDepth 100000 in
theorem fg_X5_18 : Fld (some "FraudSieve") layC NC RX5 18 3 0 (some 10) := ⟨"FraudSieve$Ledger", RX4, TX4, 5, 4, rfC3, ⟨kf_X5_18, inb_X4, rfl, by decide, rfl⟩, rfl, by decide, rfl⟩
set_option maxRecDepth 100000 in
theorem kf_X5_23 : Cond.fieldLinkNest RX5 23 "FraudSieve$Ledger" (TX4 1).2.1 (TX4 1).2.2.1 "FraudSieve" ∈ lw_tbl := List.mem_of_getElem? (i := 124) (by decide +kernel)
set_option maxRecDepth 100000 in
theorem fg_X5_23 : Fld (some "FraudSieve") layC NC RX5 23 3 1 (some 11) := ⟨"FraudSieve$Ledger", RX4, TX4, 5, 4, rfC3, ⟨kf_X5_23, inb_X4, rfl, by decide, rfl⟩, rfl, by decide, rfl⟩
set_option maxRecDepth 100000 in
theorem kl_X5_26 : Cond.methodLinkNest RX5 26 yX7_withBit "FraudSieve" ∈ lw_tbl := List.mem_of_getElem? (i := 633) (by decide +kernel)
set_option maxRecDepth 100000 in
theorem kc_X5_load : Cond.code yX5_load cX5_load 7 none ∈ big := big_at 632 (by decide +kernel)
set_option maxRecDepth 100000 in
theorem ki_X5 : Cond.initialized RX5 ∈ big := big_at 52 (by decide +kernel)
set_option maxRecDepth 100000 in
theorem kn_X5_load : Cond.instanceMethod yX5_load ∈ big := big_at 630 (by decide +kernel)
set_option maxRecDepth 100000 in
theorem kv_X5_load : Cond.selects RX5 yX5_load yX5_load ∈ big := big_at 631 (by decide +kernel)
set_option maxRecDepth 100000 in
theorem my_X5_load : MyV z_X5_load yX5_load 3 := ⟨⟨kc_X5_load, ki_X5, ⟨by decide +kernel, by decide +kernel⟩, by decide +kernel⟩, rfl, kn_X5_load, kv_X5_load⟩
set_option maxRecDepth 100000 in
theorem kl_X1_68 : Cond.methodLink RX1 68 yX5_load ∈ big := big_at 629 (by decide +kernel)
set_option maxRecDepth 100000 in
theorem rc_X5 : RcC 4 RX5 := ⟨5, 2, TX5, rfC4, rfl, by decide, rfl⟩
set_option maxRecDepth 100000 in
theorem kk_X7_257 : Cond.classLink RX7 257 "java/lang/IndexOutOfBoundsException" ∈ big := big_at 498 (by decide +kernel)
set_option maxRecDepth 100000 in
theorem ki_java_lang_IndexOutOfBoundsException : Cond.initialized "java/lang/IndexOutOfBoundsException" ∈ big := big_at 62 (by decide +kernel)
set_option maxRecDepth 100000 in
theorem th_X7_257_261 : ThrF RX7 257 261 "java/lang/IndexOutOfBoundsException" ["java/lang/RuntimeException", "java/lang/Exception"] := ⟨by decide +kernel, by decide +kernel, kk_X7_257, ki_java_lang_IndexOutOfBoundsException, by decide +kernel, by decide +kernel⟩
set_option maxRecDepth 100000 in
theorem tx_332 : (RX7, 332, "no such account") ∈ texts := List.mem_of_getElem? (i := 2) rfl
set_option maxRecDepth 100000 in
theorem kf_X7_10 : Cond.fieldLink RX7 10 "FraudSieve" (TX7 0).2.1 (TX7 0).2.2.1 ∈ big := big_at 287 (by decide +kernel)
set_option maxRecDepth 100000 in
theorem inb_X7 : ∀ w ∈ u_ws RX7 TX7 5, w ∈ big := fun w hw => List.mem_filter.mpr ⟨(goodIn_r (big := lw_tbl) (u_ws RX7 TX7 5) [292, 294, 296, 298, 300] (by decide +kernel) (by decide +kernel) w hw).1, by revert w; decide +kernel⟩
set_option maxRecDepth 100000 in
theorem fg_X7_10 : Fld none layC NC RX7 10 0 0 (some 1) := ⟨"FraudSieve", RX7, TX7, 5, 7, rfC0, ⟨kf_X7_10, inb_X7, rfl, by decide, rfl⟩, rfl, by decide, rfl⟩
set_option maxRecDepth 100000 in
theorem kf_X7_48 : Cond.fieldLinkNest RX7 48 "FraudSieve$Bank" (TX1 0).2.1 (TX1 0).2.2.1 "FraudSieve" ∈ lw_tbl := List.mem_of_getElem? (i := 161) (by decide +kernel)
set_option maxRecDepth 100000 in
theorem fg_X7_48 : Fld (some "FraudSieve") layC NC RX7 48 1 0 (some 2) := ⟨"FraudSieve$Bank", RX1, TX1, 5, 1, rfC1, ⟨kf_X7_48, inb_X1, rfl, by decide, rfl⟩, rfl, by decide, rfl⟩
set_option maxRecDepth 100000 in
theorem kf_X7_52 : Cond.fieldLinkNest RX7 52 "FraudSieve$Accounts" (TX0 2).2.1 (TX0 2).2.2.1 "FraudSieve" ∈ lw_tbl := List.mem_of_getElem? (i := 96) (by decide +kernel)
set_option maxRecDepth 100000 in
theorem inb_X0 : ∀ w ∈ u_ws RX0 TX0 5, w ∈ big := fun w hw => List.mem_filter.mpr ⟨(goodIn_r (big := lw_tbl) (u_ws RX0 TX0 5) [101, 103, 105, 107, 109] (by decide +kernel) (by decide +kernel) w hw).1, by revert w; decide +kernel⟩
set_option maxRecDepth 100000 in
theorem fg_X7_52 : Fld (some "FraudSieve") layC NC RX7 52 2 2 none := ⟨"FraudSieve$Accounts", RX0, TX0, 5, 0, rfC2, ⟨kf_X7_52, inb_X0, rfl, by decide, rfl⟩, rfl, by decide, rfl⟩
set_option maxRecDepth 100000 in
theorem kc_X7_requireAccount : Cond.code yX7_requireAccount cX7_requireAccount 2 none ∈ big := big_at 497 (by decide +kernel)
set_option maxRecDepth 100000 in
theorem kn_X7_requireAccount : Cond.instanceMethod yX7_requireAccount ∈ big := big_at 496 (by decide +kernel)
set_option maxRecDepth 100000 in
theorem kv_X7_requireAccount : Cond.selects RX7 yX7_requireAccount yX7_requireAccount ∈ big := big_at 3 (by decide +kernel)
set_option maxRecDepth 100000 in
theorem my_X7_requireAccount : MyV z_X7_requireAccount yX7_requireAccount 1 := ⟨⟨kc_X7_requireAccount, ki_X7, ⟨by decide +kernel, by decide +kernel⟩, by decide +kernel⟩, rfl, kn_X7_requireAccount, kv_X7_requireAccount⟩
set_option maxRecDepth 100000 in
theorem kl_X7_69 : Cond.methodLink RX7 69 yX7_requireAccount ∈ big := big_at 494 (by decide +kernel)
set_option maxRecDepth 100000 in
theorem rc_X7 : RcC 0 RX7 := ⟨7, 5, TX7, rfC0, rfl, by decide, rfl⟩
set_option maxRecDepth 100000 in
theorem kf_X7_73 : Cond.fieldLinkNest RX7 73 "FraudSieve$Accounts" (TX0 3).2.1 (TX0 3).2.2.1 "FraudSieve" ∈ lw_tbl := List.mem_of_getElem? (i := 98) (by decide +kernel)
set_option maxRecDepth 100000 in
theorem fg_X7_73 : Fld (some "FraudSieve") layC NC RX7 73 2 3 none := ⟨"FraudSieve$Accounts", RX0, TX0, 5, 0, rfC2, ⟨kf_X7_73, inb_X0, rfl, by decide, rfl⟩, rfl, by decide, rfl⟩
set_option maxRecDepth 100000 in
theorem kc_X7_hasBit : Cond.code yX7_hasBit cX7_hasBit 2 (some .boolean) ∈ big := big_at 341 (by decide +kernel)
set_option maxRecDepth 100000 in
theorem ks_X7_hasBit : Cond.static yX7_hasBit ∈ big := big_at 340 (by decide +kernel)
set_option maxRecDepth 100000 in
theorem my_X7_hasBit : MyS z_X7_hasBit yX7_hasBit 2 := ⟨⟨kc_X7_hasBit, ki_X7, ⟨by decide +kernel, by decide +kernel⟩, by decide +kernel⟩, rfl, ks_X7_hasBit⟩
set_option maxRecDepth 100000 in
theorem kl_X7_76 : Cond.methodLink RX7 76 yX7_hasBit ∈ big := big_at 511 (by decide +kernel)
set_option maxRecDepth 100000 in
theorem kk_X7_41 : Cond.classLink RX7 41 "java/lang/IllegalArgumentException" ∈ big := big_at 371 (by decide +kernel)
set_option maxRecDepth 100000 in
theorem ki_java_lang_IllegalArgumentException : Cond.initialized "java/lang/IllegalArgumentException" ∈ big := big_at 60 (by decide +kernel)
set_option maxRecDepth 100000 in
theorem th_X7_41_45 : ThrF RX7 41 45 "java/lang/IllegalArgumentException" ["java/lang/RuntimeException", "java/lang/Exception"] := ⟨by decide +kernel, by decide +kernel, kk_X7_41, ki_java_lang_IllegalArgumentException, by decide +kernel, by decide +kernel⟩
set_option maxRecDepth 100000 in
theorem tx_43 : (RX7, 43, "no such country") ∈ texts := List.mem_of_getElem? (i := 0) rfl
set_option maxRecDepth 100000 in
theorem kf_X7_62 : Cond.fieldLinkNest RX7 62 "FraudSieve$Bank" (TX1 3).2.1 (TX1 3).2.2.1 "FraudSieve" ∈ lw_tbl := List.mem_of_getElem? (i := 165) (by decide +kernel)
set_option maxRecDepth 100000 in
theorem fg_X7_62 : Fld (some "FraudSieve") layC NC RX7 62 1 3 none := ⟨"FraudSieve$Bank", RX1, TX1, 5, 1, rfC1, ⟨kf_X7_62, inb_X1, rfl, by decide, rfl⟩, rfl, by decide, rfl⟩
set_option maxRecDepth 100000 in
theorem kf_X0_9 : Cond.fieldLink RX0 9 "FraudSieve$Accounts" (TX0 0).2.1 (TX0 0).2.2.1 ∈ big := big_at 90 (by decide +kernel)
set_option maxRecDepth 100000 in
theorem fg_X0_9 : Fld none layC NC RX0 9 2 0 (some 8) := ⟨"FraudSieve$Accounts", RX0, TX0, 5, 0, rfC2, ⟨kf_X0_9, inb_X0, rfl, by decide, rfl⟩, rfl, by decide, rfl⟩
set_option maxRecDepth 100000 in
theorem kf_X0_19 : Cond.fieldLink RX0 19 "FraudSieve$Accounts" (TX0 2).2.1 (TX0 2).2.2.1 ∈ big := big_at 95 (by decide +kernel)
set_option maxRecDepth 100000 in
theorem fg_X0_19 : Fld none layC NC RX0 19 2 2 none := ⟨"FraudSieve$Accounts", RX0, TX0, 5, 0, rfC2, ⟨kf_X0_19, inb_X0, rfl, by decide, rfl⟩, rfl, by decide, rfl⟩
set_option maxRecDepth 100000 in
theorem kf_X0_15 : Cond.fieldLink RX0 15 "FraudSieve$Accounts" (TX0 1).2.1 (TX0 1).2.2.1 ∈ big := big_at 93 (by decide +kernel)
set_option maxRecDepth 100000 in
theorem fg_X0_15 : Fld none layC NC RX0 15 2 1 (some 9) := ⟨"FraudSieve$Accounts", RX0, TX0, 5, 0, rfC2, ⟨kf_X0_15, inb_X0, rfl, by decide, rfl⟩, rfl, by decide, rfl⟩
set_option maxRecDepth 100000 in
theorem fp_X0_19 : FldP none layC NC RX0 19 2 2 := ⟨"FraudSieve$Accounts", RX0, TX0, tyX0, 5, 0, rfC2, ⟨kf_X0_19, inb_X0, rfl, by decide, rfl⟩, rfl, by decide, rfl, rfl, rfl, tyX0_ok, nmX0⟩
set_option maxRecDepth 100000 in
theorem kc_X0_append : Cond.code yX0_append cX0_append 3 (some .int) ∈ big := big_at 462 (by decide +kernel)
set_option maxRecDepth 100000 in
theorem ki_X0 : Cond.initialized RX0 ∈ big := big_at 50 (by decide +kernel)
set_option maxRecDepth 100000 in
theorem kn_X0_append : Cond.instanceMethod yX0_append ∈ big := big_at 460 (by decide +kernel)
set_option maxRecDepth 100000 in
theorem kv_X0_append : Cond.selects RX0 yX0_append yX0_append ∈ big := big_at 461 (by decide +kernel)
set_option maxRecDepth 100000 in
theorem my_X0_append : MyV z_X0_append yX0_append 2 := ⟨⟨kc_X0_append, ki_X0, ⟨by decide +kernel, by decide +kernel⟩, by decide +kernel⟩, rfl, kn_X0_append, kv_X0_append⟩
set_option maxRecDepth 100000 in
theorem kl_X7_65 : Cond.methodLink RX7 65 yX0_append ∈ big := big_at 459 (by decide +kernel)
set_option maxRecDepth 100000 in
theorem rc_X0 : RcC 2 RX0 := ⟨0, 5, TX0, rfC2, rfl, by decide, rfl⟩
set_option maxRecDepth 100000 in
theorem kk_X7_57 : Cond.classLink RX7 57 "java/lang/IllegalStateException" ∈ big := big_at 443 (by decide +kernel)
set_option maxRecDepth 100000 in
theorem ki_java_lang_IllegalStateException : Cond.initialized "java/lang/IllegalStateException" ∈ big := big_at 61 (by decide +kernel)
set_option maxRecDepth 100000 in
theorem th_X7_57_61 : ThrF RX7 57 61 "java/lang/IllegalStateException" ["java/lang/RuntimeException", "java/lang/Exception"] := ⟨by decide +kernel, by decide +kernel, kk_X7_57, ki_java_lang_IllegalStateException, by decide +kernel, by decide +kernel⟩
set_option maxRecDepth 100000 in
theorem tx_59 : (RX7, 59, "no more accounts") ∈ texts := List.mem_of_getElem? (i := 1) rfl
set_option maxRecDepth 100000 in
theorem kf_X8_85 : Cond.fieldLink RX8 85 "FraudSieveModel" (TX8 3).2.1 (TX8 3).2.2.1 ∈ big := big_at 1088 (by decide +kernel)
set_option maxRecDepth 100000 in
theorem inb_X8 : ∀ w ∈ u_ws RX8 TX8 33, w ∈ big := fun w hw => List.mem_filter.mpr ⟨(goodIn_r (big := lw_tbl) (u_ws RX8 TX8 33) [1118, 1120, 1122, 1124, 1126, 1128, 1130, 1132, 1134, 1136, 1138, 1140, 1142, 1144, 1146, 1148, 1150, 1152, 1154, 1156, 1158, 1160, 1162, 1164, 1166, 1168, 1170, 1172, 1174, 1176, 1178, 1180, 1182] (by decide +kernel) (by decide +kernel) w hw).1, by revert w; decide +kernel⟩
set_option maxRecDepth 100000 in
theorem fg_X8_85 : Fld none layM NM RX8 85 0 3 none := ⟨"FraudSieveModel", RX8, TX8, 33, 8, rfM0, ⟨kf_X8_85, inb_X8, rfl, by decide, rfl⟩, rfl, by decide, rfl⟩
set_option maxRecDepth 100000 in
theorem kc_X8_isBetween : Cond.code yX8_isBetween cX8_isBetween 3 (some .boolean) ∈ big := big_at 1195 (by decide +kernel)
set_option maxRecDepth 100000 in
theorem ki_X8 : Cond.initialized RX8 ∈ big := big_at 56 (by decide +kernel)
set_option maxRecDepth 100000 in
theorem ks_X8_isBetween : Cond.static yX8_isBetween ∈ big := big_at 1194 (by decide +kernel)
set_option maxRecDepth 100000 in
theorem my_X8_isBetween : MyS z_X8_isBetween yX8_isBetween 3 := ⟨⟨kc_X8_isBetween, ki_X8, ⟨by decide +kernel, by decide +kernel⟩, by decide +kernel⟩, rfl, ks_X8_isBetween⟩
set_option maxRecDepth 100000 in
theorem kl_X8_88 : Cond.methodLink RX8 88 yX8_isBetween ∈ big := big_at 1193 (by decide +kernel)
set_option maxRecDepth 100000 in
theorem kf_X8_45 : Cond.fieldLink RX8 45 "FraudSieveModel" (TX8 17).2.1 (TX8 17).2.2.1 ∈ big := big_at 1102 (by decide +kernel)
set_option maxRecDepth 100000 in
theorem fg_X8_45 : Fld none layM NM RX8 45 0 17 (some 11) := ⟨"FraudSieveModel", RX8, TX8, 33, 8, rfM0, ⟨kf_X8_45, inb_X8, rfl, by decide, rfl⟩, rfl, by decide, rfl⟩
set_option maxRecDepth 100000 in
theorem kf_X8_26 : Cond.fieldLink RX8 26 "FraudSieveModel" (TX8 10).2.1 (TX8 10).2.2.1 ∈ big := big_at 1095 (by decide +kernel)
set_option maxRecDepth 100000 in
theorem fg_X8_26 : Fld none layM NM RX8 26 0 10 (some 6) := ⟨"FraudSieveModel", RX8, TX8, 33, 8, rfM0, ⟨kf_X8_26, inb_X8, rfl, by decide, rfl⟩, rfl, by decide, rfl⟩
set_option maxRecDepth 100000 in
theorem kc_X8_isIn : Cond.code yX8_isIn cX8_isIn 4 (some .boolean) ∈ big := big_at 1273 (by decide +kernel)
set_option maxRecDepth 100000 in
theorem kn_X8_isIn : Cond.instanceMethod yX8_isIn ∈ big := big_at 1272 (by decide +kernel)
set_option maxRecDepth 100000 in
theorem kv_X8_isIn : Cond.selects RX8 yX8_isIn yX8_isIn ∈ big := big_at 29 (by decide +kernel)
set_option maxRecDepth 100000 in
theorem my_X8_isIn : MyV z_X8_isIn yX8_isIn 3 := ⟨⟨kc_X8_isIn, ki_X8, ⟨by decide +kernel, by decide +kernel⟩, by decide +kernel⟩, rfl, kn_X8_isIn, kv_X8_isIn⟩
set_option maxRecDepth 100000 in
theorem kl_X8_136 : Cond.methodLink RX8 136 yX8_isIn ∈ big := big_at 1270 (by decide +kernel)
set_option maxRecDepth 100000 in
theorem rc_X8 : RcM 0 RX8 := ⟨8, 33, TX8, rfM0, rfl, by decide, rfl⟩
set_option maxRecDepth 100000 in
theorem kf_X8_17 : Cond.fieldLink RX8 17 "FraudSieveModel" (TX8 7).2.1 (TX8 7).2.2.1 ∈ big := big_at 1092 (by decide +kernel)
set_option maxRecDepth 100000 in
theorem fg_X8_17 : Fld none layM NM RX8 17 0 7 (some 3) := ⟨"FraudSieveModel", RX8, TX8, 33, 8, rfM0, ⟨kf_X8_17, inb_X8, rfl, by decide, rfl⟩, rfl, by decide, rfl⟩
set_option maxRecDepth 100000 in
theorem kf_X8_20 : Cond.fieldLink RX8 20 "FraudSieveModel" (TX8 8).2.1 (TX8 8).2.2.1 ∈ big := big_at 1093 (by decide +kernel)
set_option maxRecDepth 100000 in
theorem fg_X8_20 : Fld none layM NM RX8 20 0 8 (some 4) := ⟨"FraudSieveModel", RX8, TX8, 33, 8, rfM0, ⟨kf_X8_20, inb_X8, rfl, by decide, rfl⟩, rfl, by decide, rfl⟩
