theorem cst_bipush50 : (Int8.ofInt 50).toInt32 = 50 := by decide
theorem cst_sipush240 : (Int16.ofInt 240).toInt32 = 240 := by decide
theorem cst_sipush6000 : (Int16.ofInt 6000).toInt32 = 6000 := by decide
set_option maxRecDepth 100000 in
theorem kl_X0_3 : Cond.methodLink RX0 3 objectInit ∈ big := big_t1 42 (by decide +kernel)
set_option maxRecDepth 100000 in
theorem kn_objInit : Cond.instanceMethod objectInit ∈ big := big_t1 29 (by decide +kernel)
set_option maxRecDepth 100000 in
theorem kc_objInit : Cond.code objectInit ⟨#[0xb1]⟩ 1 none ∈ big := big_t1 30 (by decide +kernel)
set_option maxRecDepth 100000 in
theorem ka_char : Cond.arrayClass .char ∈ big := big_t1 65 (by decide +kernel)
set_option maxRecDepth 100000 in
theorem ka_int : Cond.arrayClass .int ∈ big := big_t1 66 (by decide +kernel)
set_option maxRecDepth 100000 in
theorem kc_X0_init : Cond.code yX0_init cX0_init 1 none ∈ big := big_t1 41 (by decide +kernel)
set_option maxRecDepth 100000 in
theorem kn_X0_init : Cond.instanceMethod yX0_init ∈ big := big_t1 40 (by decide +kernel)
set_option maxRecDepth 100000 in
theorem kl_X4_3 : Cond.methodLink RX4 3 objectInit ∈ big := big_t1 72 (by decide +kernel)
set_option maxRecDepth 100000 in
theorem kc_X4_init : Cond.code yX4_init cX4_init 1 none ∈ big := big_t1 71 (by decide +kernel)
set_option maxRecDepth 100000 in
theorem kn_X4_init : Cond.instanceMethod yX4_init ∈ big := big_t1 70 (by decide +kernel)
set_option maxRecDepth 100000 in
theorem kl_X5_3 : Cond.methodLink RX5 3 objectInit ∈ big := big_t1 105 (by decide +kernel)
set_option maxRecDepth 100000 in
theorem kc_X5_init : Cond.code yX5_init cX5_init 1 none ∈ big := big_t1 104 (by decide +kernel)
set_option maxRecDepth 100000 in
theorem kn_X5_init : Cond.instanceMethod yX5_init ∈ big := big_t1 103 (by decide +kernel)
set_option maxRecDepth 100000 in
theorem kl_X1_3 : Cond.methodLink RX1 3 objectInit ∈ big := big_t1 36 (by decide +kernel)
set_option maxRecDepth 100000 in
theorem kk_X1_9 : Cond.classLink RX1 9 RX0 ∈ big := big_t1 37 (by decide +kernel)
set_option maxRecDepth 100000 in
theorem kz_X0 : Cond.instantiable RX0 5 ∈ big := big_t1 38 (by decide +kernel)
set_option maxRecDepth 100000 in
theorem kl_X1_11 : Cond.methodLinkNest RX1 11 yX0_init "FraudSieve" ∈ lw_tbl := tbl_t1 (List.mem_of_getElem? (i := 39) (by decide +kernel))
set_option maxRecDepth 100000 in
theorem kk_X1_18 : Cond.classLink RX1 18 RX4 ∈ big := big_t1 67 (by decide +kernel)
set_option maxRecDepth 100000 in
theorem kz_X4 : Cond.instantiable RX4 5 ∈ big := big_t1 68 (by decide +kernel)
set_option maxRecDepth 100000 in
theorem kl_X1_20 : Cond.methodLinkNest RX1 20 yX4_init "FraudSieve" ∈ lw_tbl := tbl_t1 (List.mem_of_getElem? (i := 69) (by decide +kernel))
set_option maxRecDepth 100000 in
theorem kk_X1_25 : Cond.classLink RX1 25 RX5 ∈ big := big_t1 100 (by decide +kernel)
set_option maxRecDepth 100000 in
theorem kz_X5 : Cond.instantiable RX5 2 ∈ big := big_t1 101 (by decide +kernel)
set_option maxRecDepth 100000 in
theorem kl_X1_27 : Cond.methodLinkNest RX1 27 yX5_init "FraudSieve" ∈ lw_tbl := tbl_t1 (List.mem_of_getElem? (i := 102) (by decide +kernel))
set_option maxRecDepth 100000 in
theorem kc_X1_init : Cond.code yX1_init cX1_init 1 none ∈ big := big_t1 35 (by decide +kernel)
set_option maxRecDepth 100000 in
theorem kn_X1_init : Cond.instanceMethod yX1_init ∈ big := big_t1 34 (by decide +kernel)
set_option maxRecDepth 100000 in
theorem kl_X3_3 : Cond.methodLink RX3 3 objectInit ∈ big := big_t1 138 (by decide +kernel)
set_option maxRecDepth 100000 in
theorem ka_boolean : Cond.arrayClass .boolean ∈ big := big_t1 187 (by decide +kernel)
set_option maxRecDepth 100000 in
theorem kc_X3_init : Cond.code yX3_init cX3_init 1 none ∈ big := big_t1 137 (by decide +kernel)
set_option maxRecDepth 100000 in
theorem kn_X3_init : Cond.instanceMethod yX3_init ∈ big := big_t1 136 (by decide +kernel)
set_option maxRecDepth 100000 in
theorem kl_X6_3 : Cond.methodLink RX6 3 objectInit ∈ big := big_t1 193 (by decide +kernel)
set_option maxRecDepth 100000 in
theorem kc_X6_init : Cond.code yX6_init cX6_init 1 none ∈ big := big_t1 192 (by decide +kernel)
set_option maxRecDepth 100000 in
theorem kn_X6_init : Cond.instanceMethod yX6_init ∈ big := big_t1 191 (by decide +kernel)
set_option maxRecDepth 100000 in
theorem kl_X2_3 : Cond.methodLink RX2 3 objectInit ∈ big := big_t1 215 (by decide +kernel)
set_option maxRecDepth 100000 in
theorem kc_X2_init : Cond.code yX2_init cX2_init 1 none ∈ big := big_t1 214 (by decide +kernel)
set_option maxRecDepth 100000 in
theorem kn_X2_init : Cond.instanceMethod yX2_init ∈ big := big_t1 213 (by decide +kernel)
set_option maxRecDepth 100000 in
theorem kl_X7_1 : Cond.methodLink RX7 1 objectInit ∈ big := big_t1 28 (by decide +kernel)
set_option maxRecDepth 100000 in
theorem kk_X7_7 : Cond.classLink RX7 7 RX1 ∈ big := big_t1 31 (by decide +kernel)
set_option maxRecDepth 100000 in
theorem kz_X1 : Cond.instantiable RX1 5 ∈ big := big_t1 32 (by decide +kernel)
set_option maxRecDepth 100000 in
theorem kl_X7_9 : Cond.methodLinkNest RX7 9 yX1_init "FraudSieve" ∈ lw_tbl := tbl_t1 (List.mem_of_getElem? (i := 33) (by decide +kernel))
set_option maxRecDepth 100000 in
theorem kk_X7_16 : Cond.classLink RX7 16 RX3 ∈ big := big_t1 133 (by decide +kernel)
set_option maxRecDepth 100000 in
theorem kz_X3 : Cond.instantiable RX3 13 ∈ big := big_t1 134 (by decide +kernel)
set_option maxRecDepth 100000 in
theorem kl_X7_18 : Cond.methodLinkNest RX7 18 yX3_init "FraudSieve" ∈ lw_tbl := tbl_t1 (List.mem_of_getElem? (i := 135) (by decide +kernel))
set_option maxRecDepth 100000 in
theorem kk_X7_23 : Cond.classLink RX7 23 RX6 ∈ big := big_t1 188 (by decide +kernel)
set_option maxRecDepth 100000 in
theorem kz_X6 : Cond.instantiable RX6 4 ∈ big := big_t1 189 (by decide +kernel)
set_option maxRecDepth 100000 in
theorem kl_X7_25 : Cond.methodLinkNest RX7 25 yX6_init "FraudSieve" ∈ lw_tbl := tbl_t1 (List.mem_of_getElem? (i := 190) (by decide +kernel))
set_option maxRecDepth 100000 in
theorem kk_X7_30 : Cond.classLink RX7 30 RX2 ∈ big := big_t1 210 (by decide +kernel)
set_option maxRecDepth 100000 in
theorem kz_X2 : Cond.instantiable RX2 6 ∈ big := big_t1 211 (by decide +kernel)
set_option maxRecDepth 100000 in
theorem kl_X7_32 : Cond.methodLinkNest RX7 32 yX2_init "FraudSieve" ∈ lw_tbl := tbl_t1 (List.mem_of_getElem? (i := 212) (by decide +kernel))
set_option maxRecDepth 100000 in
theorem kc_X7_init : Cond.code yX7_init cX7_init 1 none ∈ big := big_t1 27 (by decide +kernel)
set_option maxRecDepth 100000 in
theorem kn_X7_init : Cond.instanceMethod yX7_init ∈ big := big_t1 26 (by decide +kernel)
set_option maxRecDepth 100000 in
theorem kl_X8_1 : Cond.methodLink RX8 1 objectInit ∈ big := big_t5 77 (by decide +kernel)
set_option maxRecDepth 100000 in
theorem kc_X8_init : Cond.code yX8_init cX8_init 1 none ∈ big := big_t5 76 (by decide +kernel)
set_option maxRecDepth 100000 in
theorem kn_X8_init : Cond.instanceMethod yX8_init ∈ big := big_t5 75 (by decide +kernel)
