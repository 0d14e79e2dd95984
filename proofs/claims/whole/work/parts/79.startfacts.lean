
set_option maxRecDepth 100000 in
theorem kz_X7 : Cond.instantiable RX7 5 ∈ big := big_t1 24 (by decide +kernel)
set_option maxRecDepth 100000 in
theorem kz_X8 : Cond.instantiable RX8 33 ∈ big := big_t5 73 (by decide +kernel)
set_option maxRecDepth 100000 in
theorem ka_long : Cond.arrayClass .long ∈ big := big_t7 20 (by decide +kernel)
set_option maxRecDepth 100000 in
theorem ka_double : Cond.arrayClass .double ∈ big := big_t7 21 (by decide +kernel)
set_option maxRecDepth 100000 in
theorem kl_L_153 : Cond.methodLink RL 153 yX7_init ∈ big := big_t1 25 (by decide +kernel)
set_option maxRecDepth 100000 in
theorem kl_L_156 : Cond.methodLink RL 156 yX8_init ∈ big := big_t5 74 (by decide +kernel)
set_option maxRecDepth 100000 in
theorem kk_L_8 : Cond.classLink RL 8 RX7 ∈ big := big_t1 23 (by decide +kernel)
set_option maxRecDepth 100000 in
theorem kk_L_154 : Cond.classLink RL 154 RX8 ∈ big := big_t5 72 (by decide +kernel)
