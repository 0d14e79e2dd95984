set_option maxRecDepth 100000 in
set_option maxHeartbeats 4000000 in
theorem c_X8_valueOf {l : Launch} {g : Gt} (hl : l.stackTraces = false) {a1 : Int32} {a2 : Int32} {a3 : Int32} {μ : Mm} {ν : Mm} {o : Nat → Int64} {dd : Nat → UInt64} {res : Int32 × Mm} (hf : f_X8_valueOf a1 a2 a3 ν = some res) : CM l g z_X8_valueOf yX8_valueOf [.ref (gaM g 0), .int a1, .int a2, .int a3] (μ, ν, o, dd) 0 (.inl (some (.int res.1))) (μ, res.2, o, dd) := by
  unfold f_X8_valueOf at hf
  refine CM_of_E rfl rfl (by decide +kernel) rfl (Nat.le_of_ble_eq_true rfl) hl ?_
  refine E_aload_n 1 0 dX8_valueOf_0 rfl rfl rfl ?_
  refine E_iconst 2 0 dX8_valueOf_1 cst_iconst0 rfl ?_
  refine E_putM 5 fp_X8_82 dX8_valueOf_2 rfl ?_
  refine E_aload_n 6 0 dX8_valueOf_5 rfl rfl rfl ?_
  refine E_iload_n 7 1 dX8_valueOf_6 rfl rfl rfl ?_
  obtain ⟨r1, hc2, hf⟩ := bnd hf
  refine E_callVM1 10 0 [] [.int r1] (c_X8_isPayment hl hc2) my_X8_isPayment rc_X8 kl_X8_130 rfl rfl (Nat.le_of_ble_eq_true rfl) (rmok rfl) dX8_valueOf_7 rfl rfl rfl ?_
  refine E_if_ne 19 13 dX8_valueOf_10 (by decide) rfl (fun c3 => ?_) (fun c3 => ?_)
  · have hf := ite_e c3 hf
    refine E_iload_n 20 2 dX8_valueOf_19 rfl rfl rfl ?_
    obtain ⟨r4, hc5, hf⟩ := bnd hf
    refine E_callS1 23 0 [] [.int r4] (c_X8_isFeature hl hc5) my_X8_isFeature kl_X8_169 rfl rfl (Nat.le_of_ble_eq_true rfl) (rmok rfl) dX8_valueOf_20 rfl rfl rfl ?_
    refine E_if_eq 33 26 dX8_valueOf_23 (by decide) rfl (fun c6 => ?_) (fun c6 => ?_)
    · have hf := ite_t c6 hf
      refine E_aload_n 34 0 dX8_valueOf_33 rfl rfl rfl ?_
      refine E_iconst 35 2 dX8_valueOf_34 cst_iconst2 rfl ?_
      obtain ⟨r7, hc8, hf⟩ := bnd hf
      refine E_callVM1 38 0 [] [.int r7.1] (c_X8_fails hl hc8) my_X8_fails rc_X8 kl_X8_92 rfl rfl (Nat.le_of_ble_eq_true rfl) (rmok rfl) dX8_valueOf_35 rfl rfl rfl ?_
      cases hf
      exact E_iret dX8_valueOf_38 rfl (Nat.le_of_ble_eq_true rfl) (Nat.le_of_ble_eq_true rfl)
    · have hf := ite_e c6 hf
      refine E_iload_n 27 3 dX8_valueOf_26 rfl rfl rfl ?_
      obtain ⟨r9, hc10, hf⟩ := bnd hf
      refine E_callS1 30 0 [] [.int r9] (c_X8_isWindow hl hc10) my_X8_isWindow kl_X8_133 rfl rfl (Nat.le_of_ble_eq_true rfl) (rmok rfl) dX8_valueOf_27 rfl rfl rfl ?_
      refine E_if_ne 39 33 dX8_valueOf_30 (by decide) rfl (fun c11 => ?_) (fun c11 => ?_)
      · have hf := ite_e c11 hf
        refine E_aload_n 40 0 dX8_valueOf_39 rfl rfl rfl ?_
        refine E_iload_n 41 1 dX8_valueOf_40 rfl rfl rfl ?_
        refine E_iload_n 42 2 dX8_valueOf_41 rfl rfl rfl ?_
        refine E_iload_n 43 3 dX8_valueOf_42 rfl rfl rfl ?_
        refine E_aload_n 44 0 dX8_valueOf_43 rfl rfl rfl ?_
        refine E_getM 47 fg_X8_106 dX8_valueOf_44 rfl ?_
        obtain ⟨r12, hc13, hf⟩ := bnd hf
        refine E_callVM1 50 0 [] [.int r12.1] (c_X8_valueBy hl hc13) my_X8_valueBy rc_X8 kl_X8_172 rfl rfl (Nat.le_of_ble_eq_true rfl) (rmok rfl) dX8_valueOf_47 rfl rfl rfl ?_
        cases hf
        exact E_iret dX8_valueOf_50 rfl (Nat.le_of_ble_eq_true rfl) (Nat.le_of_ble_eq_true rfl)
      · have hf := ite_t c11 hf
        refine E_aload_n 34 0 dX8_valueOf_33 rfl rfl rfl ?_
        refine E_iconst 35 2 dX8_valueOf_34 cst_iconst2 rfl ?_
        obtain ⟨r14, hc15, hf⟩ := bnd hf
        refine E_callVM1 38 0 [] [.int r14.1] (c_X8_fails hl hc15) my_X8_fails rc_X8 kl_X8_92 rfl rfl (Nat.le_of_ble_eq_true rfl) (rmok rfl) dX8_valueOf_35 rfl rfl rfl ?_
        cases hf
        exact E_iret dX8_valueOf_38 rfl (Nat.le_of_ble_eq_true rfl) (Nat.le_of_ble_eq_true rfl)
  · have hf := ite_t c3 hf
    refine E_aload_n 14 0 dX8_valueOf_13 rfl rfl rfl ?_
    refine E_iconst 15 1 dX8_valueOf_14 cst_iconst1 rfl ?_
    obtain ⟨r16, hc17, hf⟩ := bnd hf
    refine E_callVM1 18 0 [] [.int r16.1] (c_X8_fails hl hc17) my_X8_fails rc_X8 kl_X8_92 rfl rfl (Nat.le_of_ble_eq_true rfl) (rmok rfl) dX8_valueOf_15 rfl rfl rfl ?_
    cases hf
    exact E_iret dX8_valueOf_18 rfl (Nat.le_of_ble_eq_true rfl) (Nat.le_of_ble_eq_true rfl)
set_option maxRecDepth 100000 in
set_option maxHeartbeats 4000000 in
theorem c_X8_isCondition {l : Launch} {g : Gt} (hl : l.stackTraces = false) {a1 : Int32} {μ : Mm} {ν : Mm} {o : Nat → Int64} {dd : Nat → UInt64} {res : Int32} (hf : f_X8_isCondition a1 ν = some res) : CM l g z_X8_isCondition yX8_isCondition [.ref (gaM g 0), .int a1] (μ, ν, o, dd) 0 (.inl (some (.int res))) (μ, ν, o, dd) := by
  unfold f_X8_isCondition at hf
  refine CM_of_E rfl rfl (by decide +kernel) rfl (Nat.le_of_ble_eq_true rfl) hl ?_
  refine E_iload_n 1 1 dX8_isCondition_0 rfl rfl rfl ?_
  refine E_iconst 2 0 dX8_isCondition_1 cst_iconst0 rfl ?_
  refine E_aload_n 3 0 dX8_isCondition_2 rfl rfl rfl ?_
  refine E_getM 6 fg_X8_175 dX8_isCondition_3 rfl ?_
  refine E_iconst 7 1 dX8_isCondition_6 cst_iconst1 rfl ?_
  refine E_isub 8 dX8_isCondition_7 rfl ?_
  obtain ⟨r1, hc2, hf⟩ := bnd hf
  refine E_callS1 11 0 [] [.int r1] (c_X8_isBetween hl hc2) my_X8_isBetween kl_X8_88 rfl rfl (Nat.le_of_ble_eq_true rfl) (rmok rfl) dX8_isCondition_8 rfl rfl rfl ?_
  obtain ⟨h3, hf⟩ := gn_z hf
  cases hf
  exact E_zret h3 dX8_isCondition_11 rfl (Nat.le_of_ble_eq_true rfl) (Nat.le_of_ble_eq_true rfl)
set_option maxRecDepth 100000 in
set_option maxHeartbeats 4000000 in
theorem c_X8_addTest {l : Launch} {g : Gt} (hl : l.stackTraces = false) {a1 : Int32} {a2 : Int32} {a3 : Int32} {a4 : Int32} {μ : Mm} {ν : Mm} {o : Nat → Int64} {dd : Nat → UInt64} {res : Int32 × Mm} (hf : f_X8_addTest a1 a2 a3 a4 ν = some res) : CM l g z_X8_addTest yX8_addTest [.ref (gaM g 0), .int a1, .int a2, .int a3, .int a4] (μ, ν, o, dd) 0 (.inl (some (.int res.1))) (μ, res.2, o, dd) := by
  unfold f_X8_addTest at hf
  refine CM_of_E rfl rfl (by decide +kernel) rfl (Nat.le_of_ble_eq_true rfl) hl ?_
  refine E_aload_n 1 0 dX8_addTest_0 rfl rfl rfl ?_
  refine E_iconst 2 0 dX8_addTest_1 cst_iconst0 rfl ?_
  refine E_putM 5 fp_X8_82 dX8_addTest_2 rfl ?_
  refine E_iload_n 6 1 dX8_addTest_5 rfl rfl rfl ?_
  obtain ⟨r1, hc2, hf⟩ := bnd hf
  refine E_callS1 9 0 [] [.int r1] (c_X8_isFeature hl hc2) my_X8_isFeature kl_X8_169 rfl rfl (Nat.le_of_ble_eq_true rfl) (rmok rfl) dX8_addTest_6 rfl rfl rfl ?_
  refine E_if_eq 30 12 dX8_addTest_9 (by decide) rfl (fun c3 => ?_) (fun c3 => ?_)
  · have hf := ite_t c3 hf
    refine E_aload_n 31 0 dX8_addTest_30 rfl rfl rfl ?_
    refine E_iconst 32 1 dX8_addTest_31 cst_iconst1 rfl ?_
    obtain ⟨r4, hc5, hf⟩ := bnd hf
    refine E_callVM1 35 0 [] [.int r4.1] (c_X8_fails hl hc5) my_X8_fails rc_X8 kl_X8_92 rfl rfl (Nat.le_of_ble_eq_true rfl) (rmok rfl) dX8_addTest_32 rfl rfl rfl ?_
    cases hf
    exact E_iret dX8_addTest_35 rfl (Nat.le_of_ble_eq_true rfl) (Nat.le_of_ble_eq_true rfl)
  · have hf := ite_e c3 hf
    refine E_iload_n 13 2 dX8_addTest_12 rfl rfl rfl ?_
    obtain ⟨r6, hc7, hf⟩ := bnd hf
    refine E_callS1 16 0 [] [.int r6] (c_X8_isWindow hl hc7) my_X8_isWindow kl_X8_133 rfl rfl (Nat.le_of_ble_eq_true rfl) (rmok rfl) dX8_addTest_13 rfl rfl rfl ?_
    refine E_if_eq 30 19 dX8_addTest_16 (by decide) rfl (fun c8 => ?_) (fun c8 => ?_)
    · have hf := ite_t c8 hf
      refine E_aload_n 31 0 dX8_addTest_30 rfl rfl rfl ?_
      refine E_iconst 32 1 dX8_addTest_31 cst_iconst1 rfl ?_
      obtain ⟨r9, hc10, hf⟩ := bnd hf
      refine E_callVM1 35 0 [] [.int r9.1] (c_X8_fails hl hc10) my_X8_fails rc_X8 kl_X8_92 rfl rfl (Nat.le_of_ble_eq_true rfl) (rmok rfl) dX8_addTest_32 rfl rfl rfl ?_
      cases hf
      exact E_iret dX8_addTest_35 rfl (Nat.le_of_ble_eq_true rfl) (Nat.le_of_ble_eq_true rfl)
    · have hf := ite_e c8 hf
      refine E_iload 21 4 dX8_addTest_19 rfl rfl ?_
      refine E_iconst 22 0 dX8_addTest_21 cst_iconst0 rfl ?_
      refine E_ldc 24 kq_X8_168 dX8_addTest_22 rfl ?_
      obtain ⟨r11, hc12, hf⟩ := bnd hf
      refine E_callS1 27 0 [] [.int r11] (c_X8_isBetween hl hc12) my_X8_isBetween kl_X8_88 rfl rfl (Nat.le_of_ble_eq_true rfl) (rmok rfl) dX8_addTest_24 rfl rfl rfl ?_
      refine E_if_ne 36 30 dX8_addTest_27 (by decide) rfl (fun c13 => ?_) (fun c13 => ?_)
      · have hf := ite_e c13 hf
        refine E_aload_n 37 0 dX8_addTest_36 rfl rfl rfl ?_
        refine E_getM 40 fg_X8_175 dX8_addTest_37 rfl ?_
        refine E_bipush 42 30 dX8_addTest_40 cst_bipush30 rfl ?_
        refine E_icmp_ne 51 45 dX8_addTest_42 (by decide) rfl (fun c14 => ?_) (fun c14 => ?_)
        · have hf := ite_e c14 hf
          refine E_aload_n 52 0 dX8_addTest_51 rfl rfl rfl ?_
          refine E_getMr 55 fg_X8_48 dX8_addTest_52 rfl ?_
          refine E_aload_n 56 0 dX8_addTest_55 rfl rfl rfl ?_
          refine E_getM 59 fg_X8_175 dX8_addTest_56 rfl ?_
          refine E_iconst 60 0 dX8_addTest_59 cst_iconst0 rfl ?_
          obtain ⟨h15, hf⟩ := chk_some hf
          refine E_iastM 61 (k := 12) (n := 30) rfl (by decide) h15 dX8_addTest_60 rfl ?_
          refine E_aload_n 62 0 dX8_addTest_61 rfl rfl rfl ?_
          refine E_getMr 65 fg_X8_66 dX8_addTest_62 rfl ?_
          refine E_aload_n 66 0 dX8_addTest_65 rfl rfl rfl ?_
          refine E_getM 69 fg_X8_175 dX8_addTest_66 rfl ?_
          refine E_iload_n 70 1 dX8_addTest_69 rfl rfl rfl ?_
          obtain ⟨h16, hf⟩ := chk_some hf
          refine E_castM 71 (k := 18) (n := 30) rfl (by decide) h16 dX8_addTest_70 rfl ?_
          obtain ⟨mm17, emm17, hf⟩ := setm_some hf
          refine E_memM emm17 ?_
          refine E_aload_n 72 0 dX8_addTest_71 rfl rfl rfl ?_
          refine E_getMr 75 fg_X8_60 dX8_addTest_72 rfl ?_
          refine E_aload_n 76 0 dX8_addTest_75 rfl rfl rfl ?_
          refine E_getM 79 fg_X8_175 dX8_addTest_76 rfl ?_
          refine E_iload_n 80 2 dX8_addTest_79 rfl rfl rfl ?_
          obtain ⟨h18, hf⟩ := chk_some hf
          refine E_iastM 81 (k := 16) (n := 30) rfl (by decide) h18 dX8_addTest_80 rfl ?_
          refine E_aload_n 82 0 dX8_addTest_81 rfl rfl rfl ?_
          refine E_getMr 85 fg_X8_69 dX8_addTest_82 rfl ?_
          refine E_aload_n 86 0 dX8_addTest_85 rfl rfl rfl ?_
          refine E_getM 89 fg_X8_175 dX8_addTest_86 rfl ?_
          refine E_iload_n 90 3 dX8_addTest_89 rfl rfl rfl ?_
          obtain ⟨h19, hf⟩ := chk_some hf
          refine E_zastM 91 (k := 19) (n := 30) rfl (by decide) h19 dX8_addTest_90 rfl ?_
          refine E_aload_n 92 0 dX8_addTest_91 rfl rfl rfl ?_
          refine E_getMr 95 fg_X8_63 dX8_addTest_92 rfl ?_
          refine E_aload_n 96 0 dX8_addTest_95 rfl rfl rfl ?_
          refine E_getM 99 fg_X8_175 dX8_addTest_96 rfl ?_
          refine E_iload 101 4 dX8_addTest_99 rfl rfl ?_
          obtain ⟨h20, hf⟩ := chk_some hf
          refine E_iastM 102 (k := 17) (n := 30) rfl (by decide) h20 dX8_addTest_101 rfl ?_
          obtain ⟨mm21, emm21, hf⟩ := setm_some hf
          refine E_memM emm21 ?_
          refine E_aload_n 103 0 dX8_addTest_102 rfl rfl rfl ?_
          refine E_getMr 106 fg_X8_57 dX8_addTest_103 rfl ?_
          refine E_aload_n 107 0 dX8_addTest_106 rfl rfl rfl ?_
          refine E_getM 110 fg_X8_175 dX8_addTest_107 rfl ?_
          refine E_iconst 111 1 dX8_addTest_110 cst_iconst1 rfl ?_
          obtain ⟨h22, hf⟩ := chk_some hf
          refine E_iastM 112 (k := 15) (n := 30) rfl (by decide) h22 dX8_addTest_111 rfl ?_
          refine E_aload_n 113 0 dX8_addTest_112 rfl rfl rfl ?_
          refine E_dup 114 dX8_addTest_113 rfl rfl ?_
          refine E_getM 117 fg_X8_175 dX8_addTest_114 rfl ?_
          refine E_iconst 118 1 dX8_addTest_117 cst_iconst1 rfl ?_
          refine E_iadd 119 dX8_addTest_118 rfl ?_
          refine E_putM 122 fp_X8_175 dX8_addTest_119 rfl ?_
          refine E_aload_n 123 0 dX8_addTest_122 rfl rfl rfl ?_
          refine E_getM 126 fg_X8_175 dX8_addTest_123 rfl ?_
          refine E_iconst 127 1 dX8_addTest_126 cst_iconst1 rfl ?_
          refine E_isub 128 dX8_addTest_127 rfl ?_
          cases hf
          exact E_iret dX8_addTest_128 rfl (Nat.le_of_ble_eq_true rfl) (Nat.le_of_ble_eq_true rfl)
        · have hf := ite_t c14 hf
          refine E_aload_n 46 0 dX8_addTest_45 rfl rfl rfl ?_
          refine E_iconst 47 2 dX8_addTest_46 cst_iconst2 rfl ?_
          obtain ⟨r23, hc24, hf⟩ := bnd hf
          refine E_callVM1 50 0 [] [.int r23.1] (c_X8_fails hl hc24) my_X8_fails rc_X8 kl_X8_92 rfl rfl (Nat.le_of_ble_eq_true rfl) (rmok rfl) dX8_addTest_47 rfl rfl rfl ?_
          cases hf
          exact E_iret dX8_addTest_50 rfl (Nat.le_of_ble_eq_true rfl) (Nat.le_of_ble_eq_true rfl)
      · have hf := ite_t c13 hf
        refine E_aload_n 31 0 dX8_addTest_30 rfl rfl rfl ?_
        refine E_iconst 32 1 dX8_addTest_31 cst_iconst1 rfl ?_
        obtain ⟨r25, hc26, hf⟩ := bnd hf
        refine E_callVM1 35 0 [] [.int r25.1] (c_X8_fails hl hc26) my_X8_fails rc_X8 kl_X8_92 rfl rfl (Nat.le_of_ble_eq_true rfl) (rmok rfl) dX8_addTest_32 rfl rfl rfl ?_
        cases hf
        exact E_iret dX8_addTest_35 rfl (Nat.le_of_ble_eq_true rfl) (Nat.le_of_ble_eq_true rfl)
set_option maxRecDepth 100000 in
set_option maxHeartbeats 4000000 in
theorem j_X8_joins_J50 {l : Launch} {g : Gt} (hl : l.stackTraces = false) {μ : Mm} {ν : Mm} {o : Nat → Int64} {dd : Nat → UInt64}  {x1 : Int32} {x2 : Int32} {x3 : Int32} {s0 : Int32} {s1 : Int32} {res : Int32 × Mm} (hf : f_X8_joins_J50 x1 x2 x3 s0 s1 ν = some res) : E l g z_X8_joins 50 [(0, .ref (gaM g 0)), (1, .int x1), (2, .int x2), (3, .int x3)] [.int s0, .int s1] (μ, ν, o, dd) 0 (QM g (.inl (some (.int res.1))) (μ, res.2, o, dd) 0) := by
  unfold f_X8_joins_J50 at hf
  refine E_iadd 51 dX8_joins_50 rfl ?_
  refine E_istore 53 [(4, .int (s1 + s0)), (0, .ref (gaM g 0)), (1, .int x1), (2, .int x2), (3, .int x3)] dX8_joins_51 (by decide) rfl rfl ?_
  refine E_iload 55 0 dX8_joins_53 rfl rfl ?_
  refine E_bipush 57 15 dX8_joins_55 cst_bipush15 rfl ?_
  refine E_icmp_le 66 60 dX8_joins_57 (by decide) rfl (fun c12 => ?_) (fun c12 => ?_)
  · have hf := ite_t c12 hf
    refine E_aload_n 67 1 dX8_joins_66 rfl rfl rfl ?_
    refine E_getM 70 fg_X8_175 dX8_joins_67 rfl ?_
    refine E_bipush 72 30 dX8_joins_70 cst_bipush30 rfl ?_
    refine E_icmp_ne 81 75 dX8_joins_72 (by decide) rfl (fun c13 => ?_) (fun c13 => ?_)
    · have hf := ite_e c13 hf
      refine E_aload_n 82 1 dX8_joins_81 rfl rfl rfl ?_
      refine E_getMr 85 fg_X8_48 dX8_joins_82 rfl ?_
      refine E_aload_n 86 1 dX8_joins_85 rfl rfl rfl ?_
      refine E_getM 89 fg_X8_175 dX8_joins_86 rfl ?_
      refine E_iload_n 90 2 dX8_joins_89 rfl rfl rfl ?_
      obtain ⟨h14, hf⟩ := chk_some hf
      refine E_iastM 91 (k := 12) (n := 30) rfl (by decide) h14 dX8_joins_90 rfl ?_
      refine E_aload_n 92 1 dX8_joins_91 rfl rfl rfl ?_
      refine E_getMr 95 fg_X8_51 dX8_joins_92 rfl ?_
      refine E_aload_n 96 1 dX8_joins_95 rfl rfl rfl ?_
      refine E_getM 99 fg_X8_175 dX8_joins_96 rfl ?_
      refine E_iload_n 100 3 dX8_joins_99 rfl rfl rfl ?_
      obtain ⟨h15, hf⟩ := chk_some hf
      refine E_iastM 101 (k := 13) (n := 30) rfl (by decide) h15 dX8_joins_100 rfl ?_
      refine E_aload_n 102 1 dX8_joins_101 rfl rfl rfl ?_
      refine E_getMr 105 fg_X8_54 dX8_joins_102 rfl ?_
      refine E_aload_n 106 1 dX8_joins_105 rfl rfl rfl ?_
      refine E_getM 109 fg_X8_175 dX8_joins_106 rfl ?_
      refine E_iload_n 110 4 dX8_joins_109 rfl rfl rfl ?_
      obtain ⟨h16, hf⟩ := chk_some hf
      refine E_iastM 111 (k := 14) (n := 30) rfl (by decide) h16 dX8_joins_110 rfl ?_
      obtain ⟨mm17, emm17, hf⟩ := setm_some hf
      refine E_memM emm17 ?_
      refine E_aload_n 112 1 dX8_joins_111 rfl rfl rfl ?_
      refine E_getMr 115 fg_X8_57 dX8_joins_112 rfl ?_
      refine E_aload_n 116 1 dX8_joins_115 rfl rfl rfl ?_
      refine E_getM 119 fg_X8_175 dX8_joins_116 rfl ?_
      refine E_iload 121 0 dX8_joins_119 rfl rfl ?_
      obtain ⟨h18, hf⟩ := chk_some hf
      refine E_iastM 122 (k := 15) (n := 30) rfl (by decide) h18 dX8_joins_121 rfl ?_
      refine E_aload_n 123 1 dX8_joins_122 rfl rfl rfl ?_
      refine E_dup 124 dX8_joins_123 rfl rfl ?_
      refine E_getM 127 fg_X8_175 dX8_joins_124 rfl ?_
      refine E_iconst 128 1 dX8_joins_127 cst_iconst1 rfl ?_
      refine E_iadd 129 dX8_joins_128 rfl ?_
      refine E_putM 132 fp_X8_175 dX8_joins_129 rfl ?_
      refine E_aload_n 133 1 dX8_joins_132 rfl rfl rfl ?_
      refine E_getM 136 fg_X8_175 dX8_joins_133 rfl ?_
      refine E_iconst 137 1 dX8_joins_136 cst_iconst1 rfl ?_
      refine E_isub 138 dX8_joins_137 rfl ?_
      cases hf
      exact E_iret dX8_joins_138 rfl (Nat.le_of_ble_eq_true rfl) (Nat.le_of_ble_eq_true rfl)
    · have hf := ite_t c13 hf
      refine E_aload_n 76 1 dX8_joins_75 rfl rfl rfl ?_
      refine E_iconst 77 3 dX8_joins_76 cst_iconst3 rfl ?_
      obtain ⟨r19, hc20, hf⟩ := bnd hf
      refine E_callVM1 80 0 [] [.int r19.1] (c_X8_fails hl hc20) my_X8_fails rc_X8 kl_X8_92 rfl rfl (Nat.le_of_ble_eq_true rfl) (rmok rfl) dX8_joins_77 rfl rfl rfl ?_
      cases hf
      exact E_iret dX8_joins_80 rfl (Nat.le_of_ble_eq_true rfl) (Nat.le_of_ble_eq_true rfl)
  · have hf := ite_e c12 hf
    refine E_aload_n 61 1 dX8_joins_60 rfl rfl rfl ?_
    refine E_iconst 62 2 dX8_joins_61 cst_iconst2 rfl ?_
    obtain ⟨r21, hc22, hf⟩ := bnd hf
    refine E_callVM1 65 0 [] [.int r21.1] (c_X8_fails hl hc22) my_X8_fails rc_X8 kl_X8_92 rfl rfl (Nat.le_of_ble_eq_true rfl) (rmok rfl) dX8_joins_62 rfl rfl rfl ?_
    cases hf
    exact E_iret dX8_joins_65 rfl (Nat.le_of_ble_eq_true rfl) (Nat.le_of_ble_eq_true rfl)
set_option maxRecDepth 100000 in
set_option maxHeartbeats 4000000 in
theorem c_X8_joins {l : Launch} {g : Gt} (hl : l.stackTraces = false) {a1 : Int32} {a2 : Int32} {a3 : Int32} {μ : Mm} {ν : Mm} {o : Nat → Int64} {dd : Nat → UInt64} {res : Int32 × Mm} (hf : f_X8_joins a1 a2 a3 ν = some res) : CM l g z_X8_joins yX8_joins [.ref (gaM g 0), .int a1, .int a2, .int a3] (μ, ν, o, dd) 0 (.inl (some (.int res.1))) (μ, res.2, o, dd) := by
  unfold f_X8_joins at hf
  refine CM_of_E rfl rfl (by decide +kernel) rfl (Nat.le_of_ble_eq_true rfl) hl ?_
  refine E_aload_n 1 0 dX8_joins_0 rfl rfl rfl ?_
  refine E_iconst 2 0 dX8_joins_1 cst_iconst0 rfl ?_
  refine E_putM 5 fp_X8_82 dX8_joins_2 rfl ?_
  refine E_aload_n 6 0 dX8_joins_5 rfl rfl rfl ?_
  refine E_iload_n 7 2 dX8_joins_6 rfl rfl rfl ?_
  obtain ⟨r1, hc2, hf⟩ := bnd hf
  refine E_callVM1 10 0 [] [.int r1] (c_X8_isCondition hl hc2) my_X8_isCondition rc_X8 kl_X8_178 rfl rfl (Nat.le_of_ble_eq_true rfl) (rmok rfl) dX8_joins_7 rfl rfl rfl ?_
  refine E_if_eq 21 13 dX8_joins_10 (by decide) rfl (fun c3 => ?_) (fun c3 => ?_)
  · have hf := ite_t c3 hf
    refine E_aload_n 22 0 dX8_joins_21 rfl rfl rfl ?_
    refine E_iconst 23 1 dX8_joins_22 cst_iconst1 rfl ?_
    obtain ⟨r4, hc5, hf⟩ := bnd hf
    refine E_callVM1 26 0 [] [.int r4.1] (c_X8_fails hl hc5) my_X8_fails rc_X8 kl_X8_92 rfl rfl (Nat.le_of_ble_eq_true rfl) (rmok rfl) dX8_joins_23 rfl rfl rfl ?_
    cases hf
    exact E_iret dX8_joins_26 rfl (Nat.le_of_ble_eq_true rfl) (Nat.le_of_ble_eq_true rfl)
  · have hf := ite_e c3 hf
    refine E_aload_n 14 0 dX8_joins_13 rfl rfl rfl ?_
    refine E_iload_n 15 3 dX8_joins_14 rfl rfl rfl ?_
    obtain ⟨r6, hc7, hf⟩ := bnd hf
    refine E_callVM1 18 0 [] [.int r6] (c_X8_isCondition hl hc7) my_X8_isCondition rc_X8 kl_X8_178 rfl rfl (Nat.le_of_ble_eq_true rfl) (rmok rfl) dX8_joins_15 rfl rfl rfl ?_
    refine E_if_ne 27 21 dX8_joins_18 (by decide) rfl (fun c8 => ?_) (fun c8 => ?_)
    · have hf := ite_e c8 hf
      refine E_iconst 28 1 dX8_joins_27 cst_iconst1 rfl ?_
      refine E_aload_n 29 0 dX8_joins_28 rfl rfl rfl ?_
      refine E_getMr 32 fg_X8_57 dX8_joins_29 rfl ?_
      refine E_iload_n 33 2 dX8_joins_32 rfl rfl rfl ?_
      obtain ⟨h9, hf⟩ := chk_some hf
      refine E_ialdM 34 (k := 15) (n := 30) rfl (by decide) h9 dX8_joins_33 rfl ?_
      refine E_iadd 35 dX8_joins_34 rfl ?_
      refine E_iload_n 36 1 dX8_joins_35 rfl rfl rfl ?_
      refine E_iconst 37 3 dX8_joins_36 cst_iconst3 rfl ?_
      refine E_icmp_ne 44 40 dX8_joins_37 (by decide) rfl (fun c10 => ?_) (fun c10 => ?_)
      · have hf := ite_e c10 hf
        refine E_aload_n 45 0 dX8_joins_44 rfl rfl rfl ?_
        refine E_getMr 48 fg_X8_57 dX8_joins_45 rfl ?_
        refine E_iload_n 49 3 dX8_joins_48 rfl rfl rfl ?_
        obtain ⟨h11, hf⟩ := chk_some hf
        refine E_ialdM 50 (k := 15) (n := 30) rfl (by decide) h11 dX8_joins_49 rfl ?_
        refine E_sub [0, 1, 2, 3] rfl ?_
        exact j_X8_joins_J50 hl hf
      · have hf := ite_t c10 hf
        refine E_iconst 41 0 dX8_joins_40 cst_iconst0 rfl ?_
        refine E_goto 50 dX8_joins_41 (by decide) ?_
        refine E_sub [0, 1, 2, 3] rfl ?_
        exact j_X8_joins_J50 hl hf
    · have hf := ite_t c8 hf
      refine E_aload_n 22 0 dX8_joins_21 rfl rfl rfl ?_
      refine E_iconst 23 1 dX8_joins_22 cst_iconst1 rfl ?_
      obtain ⟨r23, hc24, hf⟩ := bnd hf
      refine E_callVM1 26 0 [] [.int r23.1] (c_X8_fails hl hc24) my_X8_fails rc_X8 kl_X8_92 rfl rfl (Nat.le_of_ble_eq_true rfl) (rmok rfl) dX8_joins_23 rfl rfl rfl ?_
      cases hf
      exact E_iret dX8_joins_26 rfl (Nat.le_of_ble_eq_true rfl) (Nat.le_of_ble_eq_true rfl)
set_option maxRecDepth 100000 in
set_option maxHeartbeats 4000000 in
theorem c_X8_addBoth {l : Launch} {g : Gt} (hl : l.stackTraces = false) {a1 : Int32} {a2 : Int32} {μ : Mm} {ν : Mm} {o : Nat → Int64} {dd : Nat → UInt64} {res : Int32 × Mm} (hf : f_X8_addBoth a1 a2 ν = some res) : CM l g z_X8_addBoth yX8_addBoth [.ref (gaM g 0), .int a1, .int a2] (μ, ν, o, dd) 0 (.inl (some (.int res.1))) (μ, res.2, o, dd) := by
  unfold f_X8_addBoth at hf
  refine CM_of_E rfl rfl (by decide +kernel) rfl (Nat.le_of_ble_eq_true rfl) hl ?_
  refine E_aload_n 1 0 dX8_addBoth_0 rfl rfl rfl ?_
  refine E_iconst 2 1 dX8_addBoth_1 cst_iconst1 rfl ?_
  refine E_iload_n 3 1 dX8_addBoth_2 rfl rfl rfl ?_
  refine E_iload_n 4 2 dX8_addBoth_3 rfl rfl rfl ?_
  obtain ⟨r1, hc2, hf⟩ := bnd hf
  refine E_callVM1 7 0 [] [.int r1.1] (c_X8_joins hl hc2) my_X8_joins rc_X8 kl_X8_181 rfl rfl (Nat.le_of_ble_eq_true rfl) (rmok rfl) dX8_addBoth_4 rfl rfl rfl ?_
  cases hf
  exact E_iret dX8_addBoth_7 rfl (Nat.le_of_ble_eq_true rfl) (Nat.le_of_ble_eq_true rfl)
set_option maxRecDepth 100000 in
set_option maxHeartbeats 4000000 in
theorem c_X8_addEither {l : Launch} {g : Gt} (hl : l.stackTraces = false) {a1 : Int32} {a2 : Int32} {μ : Mm} {ν : Mm} {o : Nat → Int64} {dd : Nat → UInt64} {res : Int32 × Mm} (hf : f_X8_addEither a1 a2 ν = some res) : CM l g z_X8_addEither yX8_addEither [.ref (gaM g 0), .int a1, .int a2] (μ, ν, o, dd) 0 (.inl (some (.int res.1))) (μ, res.2, o, dd) := by
  unfold f_X8_addEither at hf
  refine CM_of_E rfl rfl (by decide +kernel) rfl (Nat.le_of_ble_eq_true rfl) hl ?_
  refine E_aload_n 1 0 dX8_addEither_0 rfl rfl rfl ?_
  refine E_iconst 2 2 dX8_addEither_1 cst_iconst2 rfl ?_
  refine E_iload_n 3 1 dX8_addEither_2 rfl rfl rfl ?_
  refine E_iload_n 4 2 dX8_addEither_3 rfl rfl rfl ?_
  obtain ⟨r1, hc2, hf⟩ := bnd hf
  refine E_callVM1 7 0 [] [.int r1.1] (c_X8_joins hl hc2) my_X8_joins rc_X8 kl_X8_181 rfl rfl (Nat.le_of_ble_eq_true rfl) (rmok rfl) dX8_addEither_4 rfl rfl rfl ?_
  cases hf
  exact E_iret dX8_addEither_7 rfl (Nat.le_of_ble_eq_true rfl) (Nat.le_of_ble_eq_true rfl)
set_option maxRecDepth 100000 in
set_option maxHeartbeats 4000000 in
theorem c_X8_addNot {l : Launch} {g : Gt} (hl : l.stackTraces = false) {a1 : Int32} {μ : Mm} {ν : Mm} {o : Nat → Int64} {dd : Nat → UInt64} {res : Int32 × Mm} (hf : f_X8_addNot a1 ν = some res) : CM l g z_X8_addNot yX8_addNot [.ref (gaM g 0), .int a1] (μ, ν, o, dd) 0 (.inl (some (.int res.1))) (μ, res.2, o, dd) := by
  unfold f_X8_addNot at hf
  refine CM_of_E rfl rfl (by decide +kernel) rfl (Nat.le_of_ble_eq_true rfl) hl ?_
  refine E_aload_n 1 0 dX8_addNot_0 rfl rfl rfl ?_
  refine E_iconst 2 3 dX8_addNot_1 cst_iconst3 rfl ?_
  refine E_iload_n 3 1 dX8_addNot_2 rfl rfl rfl ?_
  refine E_iload_n 4 1 dX8_addNot_3 rfl rfl rfl ?_
  obtain ⟨r1, hc2, hf⟩ := bnd hf
  refine E_callVM1 7 0 [] [.int r1.1] (c_X8_joins hl hc2) my_X8_joins rc_X8 kl_X8_181 rfl rfl (Nat.le_of_ble_eq_true rfl) (rmok rfl) dX8_addNot_4 rfl rfl rfl ?_
  cases hf
  exact E_iret dX8_addNot_7 rfl (Nat.le_of_ble_eq_true rfl) (Nat.le_of_ble_eq_true rfl)
set_option maxRecDepth 100000 in
set_option maxHeartbeats 4000000 in
theorem c_X8_holds {l : Launch} {g : Gt} (hl : l.stackTraces = false) {a1 : Int32} {a2 : Int32} {μ : Mm} {ν : Mm} {o : Nat → Int64} {dd : Nat → UInt64} {res : Int32 × Mm} (hf : f_X8_holds a1 a2 ν = some res) : CM l g z_X8_holds yX8_holds [.ref (gaM g 0), .int a1, .int a2] (μ, ν, o, dd) 0 (.inl (some (.int res.1))) (μ, res.2, o, dd) := by
  unfold f_X8_holds at hf
  refine CM_of_E rfl rfl (by decide +kernel) rfl (Nat.le_of_ble_eq_true rfl) hl ?_
  refine E_aload_n 1 0 dX8_holds_0 rfl rfl rfl ?_
  refine E_iconst 2 0 dX8_holds_1 cst_iconst0 rfl ?_
  refine E_putM 5 fp_X8_82 dX8_holds_2 rfl ?_
  refine E_aload_n 6 0 dX8_holds_5 rfl rfl rfl ?_
  refine E_iload_n 7 1 dX8_holds_6 rfl rfl rfl ?_
  obtain ⟨r1, hc2, hf⟩ := bnd hf
  refine E_callVM1 10 0 [] [.int r1] (c_X8_isCondition hl hc2) my_X8_isCondition rc_X8 kl_X8_178 rfl rfl (Nat.le_of_ble_eq_true rfl) (rmok rfl) dX8_holds_7 rfl rfl rfl ?_
  refine E_if_ne 19 13 dX8_holds_10 (by decide) rfl (fun c3 => ?_) (fun c3 => ?_)
  · have hf := ite_e c3 hf
    refine E_aload_n 20 0 dX8_holds_19 rfl rfl rfl ?_
    refine E_iload_n 21 2 dX8_holds_20 rfl rfl rfl ?_
    obtain ⟨r4, hc5, hf⟩ := bnd hf
    refine E_callVM1 24 0 [] [.int r4] (c_X8_isPayment hl hc5) my_X8_isPayment rc_X8 kl_X8_130 rfl rfl (Nat.le_of_ble_eq_true rfl) (rmok rfl) dX8_holds_21 rfl rfl rfl ?_
    refine E_if_ne 33 27 dX8_holds_24 (by decide) rfl (fun c6 => ?_) (fun c6 => ?_)
    · have hf := ite_e c6 hf
      refine E_aload_n 34 0 dX8_holds_33 rfl rfl rfl ?_
      refine E_iload_n 35 1 dX8_holds_34 rfl rfl rfl ?_
      refine E_iload_n 36 2 dX8_holds_35 rfl rfl rfl ?_
      refine E_aload_n 37 0 dX8_holds_36 rfl rfl rfl ?_
      refine E_getM 40 fg_X8_106 dX8_holds_37 rfl ?_
      obtain ⟨r7, hc8, hf⟩ := bnd hf
      refine E_callVM1 43 0 [] [.int r7.1] (c_X8_isTrue hl 16 hc8) (my_X8_isTrue 16) rc_X8 kl_X8_184 rfl rfl (Nat.le_of_ble_eq_true rfl) (rmok rfl) dX8_holds_40 rfl rfl rfl ?_
      obtain ⟨h9, hf⟩ := gn_z hf
      cases hf
      exact E_zret h9 dX8_holds_43 rfl (Nat.le_of_ble_eq_true rfl) (Nat.le_of_ble_eq_true rfl)
    · have hf := ite_t c6 hf
      refine E_aload_n 28 0 dX8_holds_27 rfl rfl rfl ?_
      refine E_iconst 29 2 dX8_holds_28 cst_iconst2 rfl ?_
      obtain ⟨r10, hc11, hf⟩ := bnd hf
      refine E_callVM1 32 0 [] [.int r10.1] (c_X8_isWrong hl hc11) my_X8_isWrong rc_X8 kl_X8_103 rfl rfl (Nat.le_of_ble_eq_true rfl) (rmok rfl) dX8_holds_29 rfl rfl rfl ?_
      obtain ⟨h12, hf⟩ := gn_z hf
      cases hf
      exact E_zret h12 dX8_holds_32 rfl (Nat.le_of_ble_eq_true rfl) (Nat.le_of_ble_eq_true rfl)
  · have hf := ite_t c3 hf
    refine E_aload_n 14 0 dX8_holds_13 rfl rfl rfl ?_
    refine E_iconst 15 1 dX8_holds_14 cst_iconst1 rfl ?_
    obtain ⟨r13, hc14, hf⟩ := bnd hf
    refine E_callVM1 18 0 [] [.int r13.1] (c_X8_isWrong hl hc14) my_X8_isWrong rc_X8 kl_X8_103 rfl rfl (Nat.le_of_ble_eq_true rfl) (rmok rfl) dX8_holds_15 rfl rfl rfl ?_
    obtain ⟨h15, hf⟩ := gn_z hf
    cases hf
    exact E_zret h15 dX8_holds_18 rfl (Nat.le_of_ble_eq_true rfl) (Nat.le_of_ble_eq_true rfl)
set_option maxRecDepth 100000 in
set_option maxHeartbeats 4000000 in
theorem c_X8_sizeOf {l : Launch} {g : Gt} (hl : l.stackTraces = false) {a1 : Int32} {μ : Mm} {ν : Mm} {o : Nat → Int64} {dd : Nat → UInt64} {res : Int32 × Mm} (hf : f_X8_sizeOf a1 ν = some res) : CM l g z_X8_sizeOf yX8_sizeOf [.ref (gaM g 0), .int a1] (μ, ν, o, dd) 0 (.inl (some (.int res.1))) (μ, res.2, o, dd) := by
  unfold f_X8_sizeOf at hf
  refine CM_of_E rfl rfl (by decide +kernel) rfl (Nat.le_of_ble_eq_true rfl) hl ?_
  refine E_aload_n 1 0 dX8_sizeOf_0 rfl rfl rfl ?_
  refine E_iconst 2 0 dX8_sizeOf_1 cst_iconst0 rfl ?_
  refine E_putM 5 fp_X8_82 dX8_sizeOf_2 rfl ?_
  refine E_aload_n 6 0 dX8_sizeOf_5 rfl rfl rfl ?_
  refine E_iload_n 7 1 dX8_sizeOf_6 rfl rfl rfl ?_
  obtain ⟨r1, hc2, hf⟩ := bnd hf
  refine E_callVM1 10 0 [] [.int r1] (c_X8_isCondition hl hc2) my_X8_isCondition rc_X8 kl_X8_178 rfl rfl (Nat.le_of_ble_eq_true rfl) (rmok rfl) dX8_sizeOf_7 rfl rfl rfl ?_
  refine E_if_eq 22 13 dX8_sizeOf_10 (by decide) rfl (fun c3 => ?_) (fun c3 => ?_)
  · have hf := ite_t c3 hf
    refine E_aload_n 23 0 dX8_sizeOf_22 rfl rfl rfl ?_
    refine E_iconst 24 1 dX8_sizeOf_23 cst_iconst1 rfl ?_
    obtain ⟨r4, hc5, hf⟩ := bnd hf
    refine E_callVM1 27 0 [] [.int r4.1] (c_X8_fails hl hc5) my_X8_fails rc_X8 kl_X8_92 rfl rfl (Nat.le_of_ble_eq_true rfl) (rmok rfl) dX8_sizeOf_24 rfl rfl rfl ?_
    cases hf
    exact E_iret dX8_sizeOf_27 rfl (Nat.le_of_ble_eq_true rfl) (Nat.le_of_ble_eq_true rfl)
  · have hf := ite_e c3 hf
    refine E_aload_n 14 0 dX8_sizeOf_13 rfl rfl rfl ?_
    refine E_getMr 17 fg_X8_57 dX8_sizeOf_14 rfl ?_
    refine E_iload_n 18 1 dX8_sizeOf_17 rfl rfl rfl ?_
    obtain ⟨h6, hf⟩ := chk_some hf
    refine E_ialdM 19 (k := 15) (n := 30) rfl (by decide) h6 dX8_sizeOf_18 rfl ?_
    refine E_goto 27 dX8_sizeOf_19 (by decide) ?_
    cases hf
    exact E_iret dX8_sizeOf_27 rfl (Nat.le_of_ble_eq_true rfl) (Nat.le_of_ble_eq_true rfl)
set_option maxRecDepth 100000 in
set_option maxHeartbeats 4000000 in
theorem c_X8_isRule {l : Launch} {g : Gt} (hl : l.stackTraces = false) {a1 : Int32} {μ : Mm} {ν : Mm} {o : Nat → Int64} {dd : Nat → UInt64} {res : Int32} (hf : f_X8_isRule a1 ν = some res) : CM l g z_X8_isRule yX8_isRule [.ref (gaM g 0), .int a1] (μ, ν, o, dd) 0 (.inl (some (.int res))) (μ, ν, o, dd) := by
  unfold f_X8_isRule at hf
  refine CM_of_E rfl rfl (by decide +kernel) rfl (Nat.le_of_ble_eq_true rfl) hl ?_
  refine E_iload_n 1 1 dX8_isRule_0 rfl rfl rfl ?_
  refine E_iconst 2 0 dX8_isRule_1 cst_iconst0 rfl ?_
  refine E_aload_n 3 0 dX8_isRule_2 rfl rfl rfl ?_
  refine E_getM 6 fg_X8_187 dX8_isRule_3 rfl ?_
  refine E_iconst 7 1 dX8_isRule_6 cst_iconst1 rfl ?_
  refine E_isub 8 dX8_isRule_7 rfl ?_
  obtain ⟨r1, hc2, hf⟩ := bnd hf
  refine E_callS1 11 0 [] [.int r1] (c_X8_isBetween hl hc2) my_X8_isBetween kl_X8_88 rfl rfl (Nat.le_of_ble_eq_true rfl) (rmok rfl) dX8_isRule_8 rfl rfl rfl ?_
  obtain ⟨h3, hf⟩ := gn_z hf
  cases hf
  exact E_zret h3 dX8_isRule_11 rfl (Nat.le_of_ble_eq_true rfl) (Nat.le_of_ble_eq_true rfl)
set_option maxRecDepth 100000 in
set_option maxHeartbeats 4000000 in
theorem c_X8_addRule {l : Launch} {g : Gt} (hl : l.stackTraces = false) {a1 : Int32} {a2 : Int32} {μ : Mm} {ν : Mm} {o : Nat → Int64} {dd : Nat → UInt64} {res : Int32 × Mm} (hf : f_X8_addRule a1 a2 ν = some res) : CM l g z_X8_addRule yX8_addRule [.ref (gaM g 0), .int a1, .int a2] (μ, ν, o, dd) 0 (.inl (some (.int res.1))) (μ, res.2, o, dd) := by
  unfold f_X8_addRule at hf
  refine CM_of_E rfl rfl (by decide +kernel) rfl (Nat.le_of_ble_eq_true rfl) hl ?_
  refine E_aload_n 1 0 dX8_addRule_0 rfl rfl rfl ?_
  refine E_iconst 2 0 dX8_addRule_1 cst_iconst0 rfl ?_
  refine E_putM 5 fp_X8_82 dX8_addRule_2 rfl ?_
  refine E_aload_n 6 0 dX8_addRule_5 rfl rfl rfl ?_
  refine E_iload_n 7 1 dX8_addRule_6 rfl rfl rfl ?_
  obtain ⟨r1, hc2, hf⟩ := bnd hf
  refine E_callVM1 10 0 [] [.int r1] (c_X8_isCondition hl hc2) my_X8_isCondition rc_X8 kl_X8_178 rfl rfl (Nat.le_of_ble_eq_true rfl) (rmok rfl) dX8_addRule_7 rfl rfl rfl ?_
  refine E_if_ne 19 13 dX8_addRule_10 (by decide) rfl (fun c3 => ?_) (fun c3 => ?_)
  · have hf := ite_e c3 hf
    refine E_iload_n 20 2 dX8_addRule_19 rfl rfl rfl ?_
    refine E_iconst 21 1 dX8_addRule_20 cst_iconst1 rfl ?_
    refine E_bipush 23 100 dX8_addRule_21 cst_bipush100 rfl ?_
    obtain ⟨r4, hc5, hf⟩ := bnd hf
    refine E_callS1 26 0 [] [.int r4] (c_X8_isBetween hl hc5) my_X8_isBetween kl_X8_88 rfl rfl (Nat.le_of_ble_eq_true rfl) (rmok rfl) dX8_addRule_23 rfl rfl rfl ?_
    refine E_if_ne 35 29 dX8_addRule_26 (by decide) rfl (fun c6 => ?_) (fun c6 => ?_)
    · have hf := ite_e c6 hf
      refine E_aload_n 36 0 dX8_addRule_35 rfl rfl rfl ?_
      refine E_getM 39 fg_X8_187 dX8_addRule_36 rfl ?_
      refine E_bipush 41 12 dX8_addRule_39 cst_bipush12 rfl ?_
      refine E_icmp_ne 50 44 dX8_addRule_41 (by decide) rfl (fun c7 => ?_) (fun c7 => ?_)
      · have hf := ite_e c7 hf
        refine E_aload_n 51 0 dX8_addRule_50 rfl rfl rfl ?_
        refine E_getMr 54 fg_X8_73 dX8_addRule_51 rfl ?_
        refine E_aload_n 55 0 dX8_addRule_54 rfl rfl rfl ?_
        refine E_getM 58 fg_X8_187 dX8_addRule_55 rfl ?_
        refine E_iload_n 59 1 dX8_addRule_58 rfl rfl rfl ?_
        obtain ⟨h8, hf⟩ := chk_some hf
        refine E_iastM 60 (k := 20) (n := 12) rfl (by decide) h8 dX8_addRule_59 rfl ?_
        refine E_aload_n 61 0 dX8_addRule_60 rfl rfl rfl ?_
        refine E_getMr 64 fg_X8_76 dX8_addRule_61 rfl ?_
        refine E_aload_n 65 0 dX8_addRule_64 rfl rfl rfl ?_
        refine E_getM 68 fg_X8_187 dX8_addRule_65 rfl ?_
        refine E_iload_n 69 2 dX8_addRule_68 rfl rfl rfl ?_
        obtain ⟨h9, hf⟩ := chk_some hf
        refine E_iastM 70 (k := 21) (n := 12) rfl (by decide) h9 dX8_addRule_69 rfl ?_
        obtain ⟨mm10, emm10, hf⟩ := setm_some hf
        refine E_memM emm10 ?_
        refine E_aload_n 71 0 dX8_addRule_70 rfl rfl rfl ?_
        refine E_aload_n 72 0 dX8_addRule_71 rfl rfl rfl ?_
        refine E_getM 75 fg_X8_123 dX8_addRule_72 rfl ?_
        refine E_aload_n 76 0 dX8_addRule_75 rfl rfl rfl ?_
        refine E_getM 79 fg_X8_187 dX8_addRule_76 rfl ?_
        refine E_iconst 80 1 dX8_addRule_79 cst_iconst1 rfl ?_
        obtain ⟨r11, hc12, hf⟩ := bnd hf
        refine E_callS1 83 0 [.ref (gaM g 0)] [.int r11, .ref (gaM g 0)] (c_X8_with hl hc12) my_X8_with kl_X8_113 rfl rfl (Nat.le_of_ble_eq_true rfl) (rmok rfl) dX8_addRule_80 rfl rfl rfl ?_
        refine E_putM 86 fp_X8_123 dX8_addRule_83 rfl ?_
        refine E_aload_n 87 0 dX8_addRule_86 rfl rfl rfl ?_
        refine E_dup 88 dX8_addRule_87 rfl rfl ?_
        refine E_getM 91 fg_X8_187 dX8_addRule_88 rfl ?_
        refine E_iconst 92 1 dX8_addRule_91 cst_iconst1 rfl ?_
        refine E_iadd 93 dX8_addRule_92 rfl ?_
        refine E_putM 96 fp_X8_187 dX8_addRule_93 rfl ?_
        refine E_aload_n 97 0 dX8_addRule_96 rfl rfl rfl ?_
        refine E_getM 100 fg_X8_187 dX8_addRule_97 rfl ?_
        refine E_iconst 101 1 dX8_addRule_100 cst_iconst1 rfl ?_
        refine E_isub 102 dX8_addRule_101 rfl ?_
        cases hf
        exact E_iret dX8_addRule_102 rfl (Nat.le_of_ble_eq_true rfl) (Nat.le_of_ble_eq_true rfl)
      · have hf := ite_t c7 hf
        refine E_aload_n 45 0 dX8_addRule_44 rfl rfl rfl ?_
        refine E_iconst 46 3 dX8_addRule_45 cst_iconst3 rfl ?_
        obtain ⟨r13, hc14, hf⟩ := bnd hf
        refine E_callVM1 49 0 [] [.int r13.1] (c_X8_fails hl hc14) my_X8_fails rc_X8 kl_X8_92 rfl rfl (Nat.le_of_ble_eq_true rfl) (rmok rfl) dX8_addRule_46 rfl rfl rfl ?_
        cases hf
        exact E_iret dX8_addRule_49 rfl (Nat.le_of_ble_eq_true rfl) (Nat.le_of_ble_eq_true rfl)
    · have hf := ite_t c6 hf
      refine E_aload_n 30 0 dX8_addRule_29 rfl rfl rfl ?_
      refine E_iconst 31 2 dX8_addRule_30 cst_iconst2 rfl ?_
      obtain ⟨r15, hc16, hf⟩ := bnd hf
      refine E_callVM1 34 0 [] [.int r15.1] (c_X8_fails hl hc16) my_X8_fails rc_X8 kl_X8_92 rfl rfl (Nat.le_of_ble_eq_true rfl) (rmok rfl) dX8_addRule_31 rfl rfl rfl ?_
      cases hf
      exact E_iret dX8_addRule_34 rfl (Nat.le_of_ble_eq_true rfl) (Nat.le_of_ble_eq_true rfl)
  · have hf := ite_t c3 hf
    refine E_aload_n 14 0 dX8_addRule_13 rfl rfl rfl ?_
    refine E_iconst 15 1 dX8_addRule_14 cst_iconst1 rfl ?_
    obtain ⟨r17, hc18, hf⟩ := bnd hf
    refine E_callVM1 18 0 [] [.int r17.1] (c_X8_fails hl hc18) my_X8_fails rc_X8 kl_X8_92 rfl rfl (Nat.le_of_ble_eq_true rfl) (rmok rfl) dX8_addRule_15 rfl rfl rfl ?_
    cases hf
    exact E_iret dX8_addRule_18 rfl (Nat.le_of_ble_eq_true rfl) (Nat.le_of_ble_eq_true rfl)
set_option maxRecDepth 100000 in
set_option maxHeartbeats 4000000 in
theorem c_X8_setRule {l : Launch} {g : Gt} (hl : l.stackTraces = false) {a1 : Int32} {a2 : Int32} {μ : Mm} {ν : Mm} {o : Nat → Int64} {dd : Nat → UInt64} {res : Int32 × Mm} (hf : f_X8_setRule a1 a2 ν = some res) : CM l g z_X8_setRule yX8_setRule [.ref (gaM g 0), .int a1, .int a2] (μ, ν, o, dd) 0 (.inl (some (.int res.1))) (μ, res.2, o, dd) := by
  unfold f_X8_setRule at hf
  refine CM_of_E rfl rfl (by decide +kernel) rfl (Nat.le_of_ble_eq_true rfl) hl ?_
  refine E_aload_n 1 0 dX8_setRule_0 rfl rfl rfl ?_
  refine E_iconst 2 0 dX8_setRule_1 cst_iconst0 rfl ?_
  refine E_putM 5 fp_X8_82 dX8_setRule_2 rfl ?_
  refine E_aload_n 6 0 dX8_setRule_5 rfl rfl rfl ?_
  refine E_iload_n 7 1 dX8_setRule_6 rfl rfl rfl ?_
  obtain ⟨r1, hc2, hf⟩ := bnd hf
  refine E_callVM1 10 0 [] [.int r1] (c_X8_isRule hl hc2) my_X8_isRule rc_X8 kl_X8_190 rfl rfl (Nat.le_of_ble_eq_true rfl) (rmok rfl) dX8_setRule_7 rfl rfl rfl ?_
  refine E_if_ne 19 13 dX8_setRule_10 (by decide) rfl (fun c3 => ?_) (fun c3 => ?_)
  · have hf := ite_e c3 hf
    refine E_aload_n 20 0 dX8_setRule_19 rfl rfl rfl ?_
    refine E_getM 23 fg_X8_123 dX8_setRule_20 rfl ?_
    refine E_iload_n 24 1 dX8_setRule_23 rfl rfl rfl ?_
    obtain ⟨r4, hc5, hf⟩ := bnd hf
    refine E_callS1 27 0 [] [.int r4] (c_X8_has hl hc5) my_X8_has kl_X8_109 rfl rfl (Nat.le_of_ble_eq_true rfl) (rmok rfl) dX8_setRule_24 rfl rfl rfl ?_
    refine E_istore_n 28 [(3, .int r4), (0, .ref (gaM g 0)), (1, .int a1), (2, .int a2)] dX8_setRule_27 rfl (by decide) rfl rfl ?_
    refine E_aload_n 29 1 dX8_setRule_28 rfl rfl rfl ?_
    refine E_aload_n 30 1 dX8_setRule_29 rfl rfl rfl ?_
    refine E_getM 33 fg_X8_123 dX8_setRule_30 rfl ?_
    refine E_iload_n 34 2 dX8_setRule_33 rfl rfl rfl ?_
    refine E_iload_n 35 3 dX8_setRule_34 rfl rfl rfl ?_
    obtain ⟨r6, hc7, hf⟩ := bnd hf
    refine E_callS1 38 0 [.ref (gaM g 0)] [.int r6, .ref (gaM g 0)] (c_X8_with hl hc7) my_X8_with kl_X8_113 rfl rfl (Nat.le_of_ble_eq_true rfl) (rmok rfl) dX8_setRule_35 rfl rfl rfl ?_
    refine E_putM 41 fp_X8_123 dX8_setRule_38 rfl ?_
    refine E_iload_n 42 0 dX8_setRule_41 rfl rfl rfl ?_
    obtain ⟨h8, hf⟩ := gn_z hf
    cases hf
    exact E_zret h8 dX8_setRule_42 rfl (Nat.le_of_ble_eq_true rfl) (Nat.le_of_ble_eq_true rfl)
  · have hf := ite_t c3 hf
    refine E_aload_n 14 0 dX8_setRule_13 rfl rfl rfl ?_
    refine E_iconst 15 1 dX8_setRule_14 cst_iconst1 rfl ?_
    obtain ⟨r9, hc10, hf⟩ := bnd hf
    refine E_callVM1 18 0 [] [.int r9.1] (c_X8_isWrong hl hc10) my_X8_isWrong rc_X8 kl_X8_103 rfl rfl (Nat.le_of_ble_eq_true rfl) (rmok rfl) dX8_setRule_15 rfl rfl rfl ?_
    obtain ⟨h11, hf⟩ := gn_z hf
    cases hf
    exact E_zret h11 dX8_setRule_18 rfl (Nat.le_of_ble_eq_true rfl) (Nat.le_of_ble_eq_true rfl)
set_option maxRecDepth 100000 in
set_option maxHeartbeats 4000000 in
theorem c_X8_setThreshold {l : Launch} {g : Gt} (hl : l.stackTraces = false) {a1 : Int32} {μ : Mm} {ν : Mm} {o : Nat → Int64} {dd : Nat → UInt64} {res : Int32 × Mm} (hf : f_X8_setThreshold a1 ν = some res) : CM l g z_X8_setThreshold yX8_setThreshold [.ref (gaM g 0), .int a1] (μ, ν, o, dd) 0 (.inl (some (.int res.1))) (μ, res.2, o, dd) := by
  unfold f_X8_setThreshold at hf
  refine CM_of_E rfl rfl (by decide +kernel) rfl (Nat.le_of_ble_eq_true rfl) hl ?_
  refine E_aload_n 1 0 dX8_setThreshold_0 rfl rfl rfl ?_
  refine E_iconst 2 0 dX8_setThreshold_1 cst_iconst0 rfl ?_
  refine E_putM 5 fp_X8_82 dX8_setThreshold_2 rfl ?_
  refine E_iload_n 6 1 dX8_setThreshold_5 rfl rfl rfl ?_
  refine E_iconst 7 1 dX8_setThreshold_6 cst_iconst1 rfl ?_
  refine E_sipush 10 1201 dX8_setThreshold_7 cst_sipush1201 rfl ?_
  obtain ⟨r1, hc2, hf⟩ := bnd hf
  refine E_callS1 13 0 [] [.int r1] (c_X8_isBetween hl hc2) my_X8_isBetween kl_X8_88 rfl rfl (Nat.le_of_ble_eq_true rfl) (rmok rfl) dX8_setThreshold_10 rfl rfl rfl ?_
  refine E_if_ne 22 16 dX8_setThreshold_13 (by decide) rfl (fun c3 => ?_) (fun c3 => ?_)
  · have hf := ite_e c3 hf
    refine E_aload_n 23 0 dX8_setThreshold_22 rfl rfl rfl ?_
    refine E_getM 26 fg_X8_41 dX8_setThreshold_23 rfl ?_
    refine E_istore_n 27 [(2, .int ((up2 ν 0 0 0) 0 16)), (0, .ref (gaM g 0)), (1, .int a1)] dX8_setThreshold_26 rfl (by decide) rfl rfl ?_
    refine E_aload_n 28 1 dX8_setThreshold_27 rfl rfl rfl ?_
    refine E_iload_n 29 2 dX8_setThreshold_28 rfl rfl rfl ?_
    refine E_putM 32 fp_X8_41 dX8_setThreshold_29 rfl ?_
    refine E_iload_n 33 0 dX8_setThreshold_32 rfl rfl rfl ?_
    cases hf
    exact E_iret dX8_setThreshold_33 rfl (Nat.le_of_ble_eq_true rfl) (Nat.le_of_ble_eq_true rfl)
  · have hf := ite_t c3 hf
    refine E_aload_n 17 0 dX8_setThreshold_16 rfl rfl rfl ?_
    refine E_iconst 18 1 dX8_setThreshold_17 cst_iconst1 rfl ?_
    obtain ⟨r4, hc5, hf⟩ := bnd hf
    refine E_callVM1 21 0 [] [.int r4.1] (c_X8_fails hl hc5) my_X8_fails rc_X8 kl_X8_92 rfl rfl (Nat.le_of_ble_eq_true rfl) (rmok rfl) dX8_setThreshold_18 rfl rfl rfl ?_
    cases hf
    exact E_iret dX8_setThreshold_21 rfl (Nat.le_of_ble_eq_true rfl) (Nat.le_of_ble_eq_true rfl)
set_option maxRecDepth 100000 in
set_option maxHeartbeats 4000000 in
theorem c_X8_score {l : Launch} {g : Gt} (hl : l.stackTraces = false) {a1 : Int32} {μ : Mm} {ν : Mm} {o : Nat → Int64} {dd : Nat → UInt64} {res : Int32 × Mm} (hf : f_X8_score a1 ν = some res) : CM l g z_X8_score yX8_score [.ref (gaM g 0), .int a1] (μ, ν, o, dd) 0 (.inl (some (.int res.1))) (μ, res.2, o, dd) := by
  unfold f_X8_score at hf
  refine CM_of_E rfl rfl (by decide +kernel) rfl (Nat.le_of_ble_eq_true rfl) hl ?_
  refine E_aload_n 1 0 dX8_score_0 rfl rfl rfl ?_
  refine E_iconst 2 0 dX8_score_1 cst_iconst0 rfl ?_
  refine E_putM 5 fp_X8_82 dX8_score_2 rfl ?_
  refine E_aload_n 6 0 dX8_score_5 rfl rfl rfl ?_
  refine E_iload_n 7 1 dX8_score_6 rfl rfl rfl ?_
  obtain ⟨r1, hc2, hf⟩ := bnd hf
  refine E_callVM1 10 0 [] [.int r1] (c_X8_isPayment hl hc2) my_X8_isPayment rc_X8 kl_X8_130 rfl rfl (Nat.le_of_ble_eq_true rfl) (rmok rfl) dX8_score_7 rfl rfl rfl ?_
  refine E_if_eq 22 13 dX8_score_10 (by decide) rfl (fun c3 => ?_) (fun c3 => ?_)
  · have hf := ite_t c3 hf
    refine E_aload_n 23 0 dX8_score_22 rfl rfl rfl ?_
    refine E_iconst 24 1 dX8_score_23 cst_iconst1 rfl ?_
    obtain ⟨r4, hc5, hf⟩ := bnd hf
    refine E_callVM1 27 0 [] [.int r4.1] (c_X8_fails hl hc5) my_X8_fails rc_X8 kl_X8_92 rfl rfl (Nat.le_of_ble_eq_true rfl) (rmok rfl) dX8_score_24 rfl rfl rfl ?_
    cases hf
    exact E_iret dX8_score_27 rfl (Nat.le_of_ble_eq_true rfl) (Nat.le_of_ble_eq_true rfl)
  · have hf := ite_e c3 hf
    refine E_aload_n 14 0 dX8_score_13 rfl rfl rfl ?_
    refine E_getMr 17 fg_X8_35 dX8_score_14 rfl ?_
    refine E_iload_n 18 1 dX8_score_17 rfl rfl rfl ?_
    obtain ⟨h6, hf⟩ := chk_some hf
    refine E_ialdM 19 (k := 9) (n := 200) rfl (by decide) h6 dX8_score_18 rfl ?_
    refine E_goto 27 dX8_score_19 (by decide) ?_
    cases hf
    exact E_iret dX8_score_27 rfl (Nat.le_of_ble_eq_true rfl) (Nat.le_of_ble_eq_true rfl)
set_option maxRecDepth 100000 in
set_option maxHeartbeats 4000000 in
theorem c_X8_scoreNow {l : Launch} {g : Gt} (hl : l.stackTraces = false) {a1 : Int32} {μ : Mm} {ν : Mm} {o : Nat → Int64} {dd : Nat → UInt64} {res : Int32 × Mm} (hf : f_X8_scoreNow a1 ν = some res) : CM l g z_X8_scoreNow yX8_scoreNow [.ref (gaM g 0), .int a1] (μ, ν, o, dd) 0 (.inl (some (.int res.1))) (μ, res.2, o, dd) := by
  unfold f_X8_scoreNow at hf
  refine CM_of_E rfl rfl (by decide +kernel) rfl (Nat.le_of_ble_eq_true rfl) hl ?_
  refine E_aload_n 1 0 dX8_scoreNow_0 rfl rfl rfl ?_
  refine E_iconst 2 0 dX8_scoreNow_1 cst_iconst0 rfl ?_
  refine E_putM 5 fp_X8_82 dX8_scoreNow_2 rfl ?_
  refine E_aload_n 6 0 dX8_scoreNow_5 rfl rfl rfl ?_
  refine E_iload_n 7 1 dX8_scoreNow_6 rfl rfl rfl ?_
  obtain ⟨r1, hc2, hf⟩ := bnd hf
  refine E_callVM1 10 0 [] [.int r1] (c_X8_isPayment hl hc2) my_X8_isPayment rc_X8 kl_X8_130 rfl rfl (Nat.le_of_ble_eq_true rfl) (rmok rfl) dX8_scoreNow_7 rfl rfl rfl ?_
  refine E_if_eq 29 13 dX8_scoreNow_10 (by decide) rfl (fun c3 => ?_) (fun c3 => ?_)
  · have hf := ite_t c3 hf
    refine E_aload_n 30 0 dX8_scoreNow_29 rfl rfl rfl ?_
    refine E_iconst 31 1 dX8_scoreNow_30 cst_iconst1 rfl ?_
    obtain ⟨r4, hc5, hf⟩ := bnd hf
    refine E_callVM1 34 0 [] [.int r4.1] (c_X8_fails hl hc5) my_X8_fails rc_X8 kl_X8_92 rfl rfl (Nat.le_of_ble_eq_true rfl) (rmok rfl) dX8_scoreNow_31 rfl rfl rfl ?_
    cases hf
    exact E_iret dX8_scoreNow_34 rfl (Nat.le_of_ble_eq_true rfl) (Nat.le_of_ble_eq_true rfl)
  · have hf := ite_e c3 hf
    refine E_aload_n 14 0 dX8_scoreNow_13 rfl rfl rfl ?_
    refine E_iload_n 15 1 dX8_scoreNow_14 rfl rfl rfl ?_
    refine E_aload_n 16 0 dX8_scoreNow_15 rfl rfl rfl ?_
    refine E_getM 19 fg_X8_123 dX8_scoreNow_16 rfl ?_
    refine E_aload_n 20 0 dX8_scoreNow_19 rfl rfl rfl ?_
    refine E_getM 23 fg_X8_106 dX8_scoreNow_20 rfl ?_
    obtain ⟨r6, hc7, hf⟩ := bnd hf
    refine E_callVM1 26 0 [] [.int r6.1] (c_X8_scoreBy hl hc7) my_X8_scoreBy rc_X8 kl_X8_126 rfl rfl (Nat.le_of_ble_eq_true rfl) (rmok rfl) dX8_scoreNow_23 rfl rfl rfl ?_
    refine E_goto 34 dX8_scoreNow_26 (by decide) ?_
    cases hf
    exact E_iret dX8_scoreNow_34 rfl (Nat.le_of_ble_eq_true rfl) (Nat.le_of_ble_eq_true rfl)
set_option maxRecDepth 100000 in
set_option maxHeartbeats 4000000 in
theorem c_X8_wasReason {l : Launch} {g : Gt} (hl : l.stackTraces = false) {a1 : Int32} {a2 : Int32} {μ : Mm} {ν : Mm} {o : Nat → Int64} {dd : Nat → UInt64} {res : Int32 × Mm} (hf : f_X8_wasReason a1 a2 ν = some res) : CM l g z_X8_wasReason yX8_wasReason [.ref (gaM g 0), .int a1, .int a2] (μ, ν, o, dd) 0 (.inl (some (.int res.1))) (μ, res.2, o, dd) := by
  unfold f_X8_wasReason at hf
  refine CM_of_E rfl rfl (by decide +kernel) rfl (Nat.le_of_ble_eq_true rfl) hl ?_
  refine E_aload_n 1 0 dX8_wasReason_0 rfl rfl rfl ?_
  refine E_iload_n 2 1 dX8_wasReason_1 rfl rfl rfl ?_
  refine E_iload_n 3 2 dX8_wasReason_2 rfl rfl rfl ?_
  refine E_aload_n 4 0 dX8_wasReason_3 rfl rfl rfl ?_
  refine E_getMr 7 fg_X8_32 dX8_wasReason_4 rfl ?_
  refine E_iload_n 8 2 dX8_wasReason_7 rfl rfl rfl ?_
  obtain ⟨h1, hf⟩ := chk_some hf
  refine E_ialdM 9 (k := 8) (n := 200) rfl (by decide) h1 dX8_wasReason_8 rfl ?_
  refine E_aload_n 10 0 dX8_wasReason_9 rfl rfl rfl ?_
  refine E_getMr 13 fg_X8_29 dX8_wasReason_10 rfl ?_
  refine E_iload_n 14 2 dX8_wasReason_13 rfl rfl rfl ?_
  obtain ⟨h2, hf⟩ := chk_some hf
  refine E_ialdM 15 (k := 7) (n := 200) rfl (by decide) h2 dX8_wasReason_14 rfl ?_
  obtain ⟨r3, hc4, hf⟩ := bnd hf
  refine E_callVM1 18 0 [] [.int r3.1] (c_X8_isReason hl hc4) my_X8_isReason rc_X8 kl_X8_193 rfl rfl (Nat.le_of_ble_eq_true rfl) (rmok rfl) dX8_wasReason_15 rfl rfl rfl ?_
  obtain ⟨h5, hf⟩ := gn_z hf
  cases hf
  exact E_zret h5 dX8_wasReason_18 rfl (Nat.le_of_ble_eq_true rfl) (Nat.le_of_ble_eq_true rfl)
set_option maxRecDepth 100000 in
set_option maxHeartbeats 4000000 in
theorem l_X8_reasonMany_L4 {l : Launch} {g : Gt} (hl : l.stackTraces = false) {μ : Mm} {o : Nat → Int64} {dd : Nat → UInt64}  {x1 : Int32} {res : Int32 × Mm} : ∀ (n : Nat) (x2 : Int32) (x3 : Int32) (ν : Mm), f_X8_reasonMany_L4 x1 n x2 x3 ν = some res → E l g z_X8_reasonMany 4 [(0, .ref (gaM g 0)), (1, .int x1), (2, .int x2), (3, .int x3)] [] (μ, ν, o, dd) 0 (QM g (.inl (some (.int res.1))) (μ, res.2, o, dd) 0) := by
  intro n
  induction n with
  | zero => intro x2 x3 ν hf; cases hf
  | succ n ih =>
    intro x2 x3 ν hf
    refine E_iload_n 5 3 dX8_reasonMany_4 rfl rfl rfl ?_
    refine E_aload_n 6 0 dX8_reasonMany_5 rfl rfl rfl ?_
    refine E_getM 9 fg_X8_187 dX8_reasonMany_6 rfl ?_
    refine E_icmp_ge 35 12 dX8_reasonMany_9 (by decide) rfl (fun c1 => ?_) (fun c1 => ?_)
    · have hf := ite_t c1 hf
      refine E_iload_n 36 2 dX8_reasonMany_35 rfl rfl rfl ?_
      cases hf
      exact E_iret dX8_reasonMany_36 rfl (Nat.le_of_ble_eq_true rfl) (Nat.le_of_ble_eq_true rfl)
    · have hf := ite_e c1 hf
      refine E_iload_n 13 2 dX8_reasonMany_12 rfl rfl rfl ?_
      refine E_aload_n 14 0 dX8_reasonMany_13 rfl rfl rfl ?_
      refine E_iload_n 15 3 dX8_reasonMany_14 rfl rfl rfl ?_
      refine E_iload_n 16 1 dX8_reasonMany_15 rfl rfl rfl ?_
      obtain ⟨r2, hc3, hf⟩ := bnd hf
      refine E_callVM1 19 0 [.int x2] [.int r2.1, .int x2] (c_X8_wasReason hl hc3) my_X8_wasReason rc_X8 kl_X8_197 rfl rfl (Nat.le_of_ble_eq_true rfl) (rmok rfl) dX8_reasonMany_16 rfl rfl rfl ?_
      refine E_if_eq 26 22 dX8_reasonMany_19 (by decide) rfl (fun c4 => ?_) (fun c4 => ?_)
      · have hf := ite_t c4 hf
        refine E_iconst 27 0 dX8_reasonMany_26 cst_iconst0 rfl ?_
        refine E_iadd 28 dX8_reasonMany_27 rfl ?_
        refine E_istore_n 29 [(2, .int (x2 + 0)), (0, .ref (gaM g 0)), (1, .int x1), (3, .int x3)] dX8_reasonMany_28 rfl (by decide) rfl rfl ?_
        refine E_iinc 32 [(3, .int (x3 + 1)), (2, .int (x2 + 0)), (0, .ref (gaM g 0)), (1, .int x1)] 3 (v := x3 + 1) dX8_reasonMany_29 rfl (by rw [cst_iconst1]) (by decide) rfl rfl ?_
        refine E_goto 4 dX8_reasonMany_32 (by decide) ?_
        refine E_sub [2, 3, 1, 0] rfl ?_
        exact ih (x2 + 0) (x3 + 1) r2.2 hf
      · have hf := ite_e c4 hf
        refine E_iconst 23 1 dX8_reasonMany_22 cst_iconst1 rfl ?_
        refine E_goto 27 dX8_reasonMany_23 (by decide) ?_
        refine E_iadd 28 dX8_reasonMany_27 rfl ?_
        refine E_istore_n 29 [(2, .int (x2 + 1)), (0, .ref (gaM g 0)), (1, .int x1), (3, .int x3)] dX8_reasonMany_28 rfl (by decide) rfl rfl ?_
        refine E_iinc 32 [(3, .int (x3 + 1)), (2, .int (x2 + 1)), (0, .ref (gaM g 0)), (1, .int x1)] 3 (v := x3 + 1) dX8_reasonMany_29 rfl (by rw [cst_iconst1]) (by decide) rfl rfl ?_
        refine E_goto 4 dX8_reasonMany_32 (by decide) ?_
        refine E_sub [2, 3, 1, 0] rfl ?_
        exact ih (x2 + 1) (x3 + 1) r2.2 hf
set_option maxRecDepth 100000 in
set_option maxHeartbeats 4000000 in
theorem c_X8_reasonMany {l : Launch} {g : Gt} (hl : l.stackTraces = false) {a1 : Int32} {μ : Mm} {ν : Mm} {o : Nat → Int64} {dd : Nat → UInt64} {res : Int32 × Mm} (hf : f_X8_reasonMany a1 ν = some res) : CM l g z_X8_reasonMany yX8_reasonMany [.ref (gaM g 0), .int a1] (μ, ν, o, dd) 0 (.inl (some (.int res.1))) (μ, res.2, o, dd) := by
  unfold f_X8_reasonMany at hf
  refine CM_of_E rfl rfl (by decide +kernel) rfl (Nat.le_of_ble_eq_true rfl) hl ?_
  refine E_iconst 1 0 dX8_reasonMany_0 cst_iconst0 rfl ?_
  refine E_istore_n 2 [(2, .int 0), (0, .ref (gaM g 0)), (1, .int a1)] dX8_reasonMany_1 rfl (by decide) rfl rfl ?_
  refine E_iconst 3 0 dX8_reasonMany_2 cst_iconst0 rfl ?_
  refine E_istore_n 4 [(3, .int 0), (2, .int 0), (0, .ref (gaM g 0)), (1, .int a1)] dX8_reasonMany_3 rfl (by decide) rfl rfl ?_
  refine E_sub [2, 3, 1, 0] rfl ?_
  refine l_X8_reasonMany_L4 hl  _ _ _ _ hf
set_option maxRecDepth 100000 in
set_option maxHeartbeats 4000000 in
theorem c_X8_reasons {l : Launch} {g : Gt} (hl : l.stackTraces = false) {a1 : Int32} {μ : Mm} {ν : Mm} {o : Nat → Int64} {dd : Nat → UInt64} {res : Int32 × Mm} (hf : f_X8_reasons a1 ν = some res) : CM l g z_X8_reasons yX8_reasons [.ref (gaM g 0), .int a1] (μ, ν, o, dd) 0 (.inl (some (.int res.1))) (μ, res.2, o, dd) := by
  unfold f_X8_reasons at hf
  refine CM_of_E rfl rfl (by decide +kernel) rfl (Nat.le_of_ble_eq_true rfl) hl ?_
  refine E_aload_n 1 0 dX8_reasons_0 rfl rfl rfl ?_
  refine E_iconst 2 0 dX8_reasons_1 cst_iconst0 rfl ?_
  refine E_putM 5 fp_X8_82 dX8_reasons_2 rfl ?_
  refine E_aload_n 6 0 dX8_reasons_5 rfl rfl rfl ?_
  refine E_iload_n 7 1 dX8_reasons_6 rfl rfl rfl ?_
  obtain ⟨r1, hc2, hf⟩ := bnd hf
  refine E_callVM1 10 0 [] [.int r1] (c_X8_isPayment hl hc2) my_X8_isPayment rc_X8 kl_X8_130 rfl rfl (Nat.le_of_ble_eq_true rfl) (rmok rfl) dX8_reasons_7 rfl rfl rfl ?_
  refine E_if_eq 21 13 dX8_reasons_10 (by decide) rfl (fun c3 => ?_) (fun c3 => ?_)
  · have hf := ite_t c3 hf
    refine E_aload_n 22 0 dX8_reasons_21 rfl rfl rfl ?_
    refine E_iconst 23 1 dX8_reasons_22 cst_iconst1 rfl ?_
    obtain ⟨r4, hc5, hf⟩ := bnd hf
    refine E_callVM1 26 0 [] [.int r4.1] (c_X8_fails hl hc5) my_X8_fails rc_X8 kl_X8_92 rfl rfl (Nat.le_of_ble_eq_true rfl) (rmok rfl) dX8_reasons_23 rfl rfl rfl ?_
    cases hf
    exact E_iret dX8_reasons_26 rfl (Nat.le_of_ble_eq_true rfl) (Nat.le_of_ble_eq_true rfl)
  · have hf := ite_e c3 hf
    refine E_aload_n 14 0 dX8_reasons_13 rfl rfl rfl ?_
    refine E_iload_n 15 1 dX8_reasons_14 rfl rfl rfl ?_
    obtain ⟨r6, hc7, hf⟩ := bnd hf
    refine E_callVM1 18 0 [] [.int r6.1] (c_X8_reasonMany hl hc7) my_X8_reasonMany rc_X8 kl_X8_200 rfl rfl (Nat.le_of_ble_eq_true rfl) (rmok rfl) dX8_reasons_15 rfl rfl rfl ?_
    refine E_goto 26 dX8_reasons_18 (by decide) ?_
    cases hf
    exact E_iret dX8_reasons_26 rfl (Nat.le_of_ble_eq_true rfl) (Nat.le_of_ble_eq_true rfl)
set_option maxRecDepth 100000 in
set_option maxHeartbeats 4000000 in
theorem l_X8_ruleOf_L5 {l : Launch} {g : Gt} (hl : l.stackTraces = false) {μ : Mm} {o : Nat → Int64} {dd : Nat → UInt64}  {x1 : Int32} {res : Int32 × Mm} : ∀ (n : Nat) (x3 : Int32) (x4 : Int32) (ν : Mm), f_X8_ruleOf_L5 x1 n x3 x4 ν = some res → E l g z_X8_ruleOf 5 [(0, .ref (gaM g 0)), (1, .int x1), (3, .int x3), (4, .int x4)] [] (μ, ν, o, dd) 0 (QM g (.inl (some (.int res.1))) (μ, res.2, o, dd) 0) := by
  intro n
  induction n with
  | zero => intro x3 x4 ν hf; cases hf
  | succ n ih =>
    intro x3 x4 ν hf
    refine E_iload 7 3 dX8_ruleOf_5 rfl rfl ?_
    refine E_aload_n 8 0 dX8_ruleOf_7 rfl rfl rfl ?_
    refine E_getM 11 fg_X8_187 dX8_ruleOf_8 rfl ?_
    refine E_icmp_ge 43 14 dX8_ruleOf_11 (by decide) rfl (fun c1 => ?_) (fun c1 => ?_)
    · have hf := ite_t c1 hf
      refine E_iconst 44 (-1) dX8_ruleOf_43 cst_iconstn1 rfl ?_
      cases hf
      exact E_iret dX8_ruleOf_44 rfl (Nat.le_of_ble_eq_true rfl) (Nat.le_of_ble_eq_true rfl)
    · have hf := ite_e c1 hf
      refine E_aload_n 15 0 dX8_ruleOf_14 rfl rfl rfl ?_
      refine E_iload 17 3 dX8_ruleOf_15 rfl rfl ?_
      refine E_iload_n 18 1 dX8_ruleOf_17 rfl rfl rfl ?_
      obtain ⟨r2, hc3, hf⟩ := bnd hf
      refine E_callVM1 21 0 [] [.int r2.1] (c_X8_wasReason hl hc3) my_X8_wasReason rc_X8 kl_X8_197 rfl rfl (Nat.le_of_ble_eq_true rfl) (rmok rfl) dX8_ruleOf_18 rfl rfl rfl ?_
      refine E_if_ne 27 24 dX8_ruleOf_21 (by decide) rfl (fun c4 => ?_) (fun c4 => ?_)
      · have hf := ite_e c4 hf
        refine E_iload_n 28 2 dX8_ruleOf_27 rfl rfl rfl ?_
        refine E_if_ne 34 31 dX8_ruleOf_28 (by decide) rfl (fun c5 => ?_) (fun c5 => ?_)
        · have hf := ite_e c5 hf
          refine E_iinc 37 [(3, .int (x3 + (-1))), (0, .ref (gaM g 0)), (1, .int x1), (4, .int x4)] 2 (v := x3 + (-1)) dX8_ruleOf_34 rfl (by rw [cst_iconstn1]) (by decide) rfl rfl ?_
          refine E_iinc 40 [(4, .int (x4 + 1)), (3, .int (x3 + (-1))), (0, .ref (gaM g 0)), (1, .int x1)] 3 (v := x4 + 1) dX8_ruleOf_37 rfl (by rw [cst_iconst1]) (by decide) rfl rfl ?_
          refine E_goto 5 dX8_ruleOf_40 (by decide) ?_
          refine E_sub [2, 3, 1, 0] rfl ?_
          exact ih (x3 + (-1)) (x4 + 1) r2.2 hf
        · have hf := ite_t c5 hf
          refine E_iload 33 3 dX8_ruleOf_31 rfl rfl ?_
          cases hf
          exact E_iret dX8_ruleOf_33 rfl (Nat.le_of_ble_eq_true rfl) (Nat.le_of_ble_eq_true rfl)
      · have hf := ite_t c4 hf
        refine E_goto 37 dX8_ruleOf_24 (by decide) ?_
        refine E_iinc 40 [(4, .int (x4 + 1)), (0, .ref (gaM g 0)), (1, .int x1), (3, .int x3)] 3 (v := x4 + 1) dX8_ruleOf_37 rfl (by rw [cst_iconst1]) (by decide) rfl rfl ?_
        refine E_goto 5 dX8_ruleOf_40 (by decide) ?_
        refine E_sub [1, 2, 3, 0] rfl ?_
        exact ih x3 (x4 + 1) r2.2 hf
set_option maxRecDepth 100000 in
set_option maxHeartbeats 4000000 in
theorem c_X8_ruleOf {l : Launch} {g : Gt} (hl : l.stackTraces = false) {a1 : Int32} {a2 : Int32} {μ : Mm} {ν : Mm} {o : Nat → Int64} {dd : Nat → UInt64} {res : Int32 × Mm} (hf : f_X8_ruleOf a1 a2 ν = some res) : CM l g z_X8_ruleOf yX8_ruleOf [.ref (gaM g 0), .int a1, .int a2] (μ, ν, o, dd) 0 (.inl (some (.int res.1))) (μ, res.2, o, dd) := by
  unfold f_X8_ruleOf at hf
  refine CM_of_E rfl rfl (by decide +kernel) rfl (Nat.le_of_ble_eq_true rfl) hl ?_
  refine E_iload_n 1 2 dX8_ruleOf_0 rfl rfl rfl ?_
  refine E_istore_n 2 [(3, .int a2), (0, .ref (gaM g 0)), (1, .int a1), (2, .int a2)] dX8_ruleOf_1 rfl (by decide) rfl rfl ?_
  refine E_iconst 3 0 dX8_ruleOf_2 cst_iconst0 rfl ?_
  refine E_istore 5 [(4, .int 0), (3, .int a2), (0, .ref (gaM g 0)), (1, .int a1), (2, .int a2)] dX8_ruleOf_3 (by decide) rfl rfl ?_
  refine E_sub [2, 3, 1, 0] rfl ?_
  refine l_X8_ruleOf_L5 hl  _ _ _ _ hf
set_option maxRecDepth 100000 in
set_option maxHeartbeats 4000000 in
theorem c_X8_reasonRule {l : Launch} {g : Gt} (hl : l.stackTraces = false) {a1 : Int32} {a2 : Int32} {μ : Mm} {ν : Mm} {o : Nat → Int64} {dd : Nat → UInt64} {res : Int32 × Mm} (hf : f_X8_reasonRule a1 a2 ν = some res) : CM l g z_X8_reasonRule yX8_reasonRule [.ref (gaM g 0), .int a1, .int a2] (μ, ν, o, dd) 0 (.inl (some (.int res.1))) (μ, res.2, o, dd) := by
  unfold f_X8_reasonRule at hf
  refine CM_of_E rfl rfl (by decide +kernel) rfl (Nat.le_of_ble_eq_true rfl) hl ?_
  refine E_aload_n 1 0 dX8_reasonRule_0 rfl rfl rfl ?_
  refine E_iconst 2 0 dX8_reasonRule_1 cst_iconst0 rfl ?_
  refine E_putM 5 fp_X8_82 dX8_reasonRule_2 rfl ?_
  refine E_aload_n 6 0 dX8_reasonRule_5 rfl rfl rfl ?_
  refine E_iload_n 7 1 dX8_reasonRule_6 rfl rfl rfl ?_
  obtain ⟨r1, hc2, hf⟩ := bnd hf
  refine E_callVM1 10 0 [] [.int r1] (c_X8_isPayment hl hc2) my_X8_isPayment rc_X8 kl_X8_130 rfl rfl (Nat.le_of_ble_eq_true rfl) (rmok rfl) dX8_reasonRule_7 rfl rfl rfl ?_
  refine E_if_ne 19 13 dX8_reasonRule_10 (by decide) rfl (fun c3 => ?_) (fun c3 => ?_)
  · have hf := ite_e c3 hf
    refine E_aload_n 20 0 dX8_reasonRule_19 rfl rfl rfl ?_
    refine E_iload_n 21 1 dX8_reasonRule_20 rfl rfl rfl ?_
    refine E_iload_n 22 2 dX8_reasonRule_21 rfl rfl rfl ?_
    obtain ⟨r4, hc5, hf⟩ := bnd hf
    refine E_callVM1 25 0 [] [.int r4.1] (c_X8_ruleOf hl hc5) my_X8_ruleOf rc_X8 kl_X8_203 rfl rfl (Nat.le_of_ble_eq_true rfl) (rmok rfl) dX8_reasonRule_22 rfl rfl rfl ?_
    refine E_istore_n 26 [(3, .int r4.1), (0, .ref (gaM g 0)), (1, .int a1), (2, .int a2)] dX8_reasonRule_25 rfl (by decide) rfl rfl ?_
    refine E_iload_n 27 0 dX8_reasonRule_26 rfl rfl rfl ?_
    refine E_if_ge 38 30 dX8_reasonRule_27 (by decide) rfl (fun c6 => ?_) (fun c6 => ?_)
    · have hf := ite_t c6 hf
      refine E_iload_n 39 0 dX8_reasonRule_38 rfl rfl rfl ?_
      cases hf
      exact E_iret dX8_reasonRule_39 rfl (Nat.le_of_ble_eq_true rfl) (Nat.le_of_ble_eq_true rfl)
    · have hf := ite_e c6 hf
      refine E_aload_n 31 1 dX8_reasonRule_30 rfl rfl rfl ?_
      refine E_iconst 32 2 dX8_reasonRule_31 cst_iconst2 rfl ?_
      obtain ⟨r7, hc8, hf⟩ := bnd hf
      refine E_callVM1 35 0 [] [.int r7.1] (c_X8_fails hl hc8) my_X8_fails rc_X8 kl_X8_92 rfl rfl (Nat.le_of_ble_eq_true rfl) (rmok rfl) dX8_reasonRule_32 rfl rfl rfl ?_
      refine E_goto 39 dX8_reasonRule_35 (by decide) ?_
      cases hf
      exact E_iret dX8_reasonRule_39 rfl (Nat.le_of_ble_eq_true rfl) (Nat.le_of_ble_eq_true rfl)
  · have hf := ite_t c3 hf
    refine E_aload_n 14 0 dX8_reasonRule_13 rfl rfl rfl ?_
    refine E_iconst 15 1 dX8_reasonRule_14 cst_iconst1 rfl ?_
    obtain ⟨r9, hc10, hf⟩ := bnd hf
    refine E_callVM1 18 0 [] [.int r9.1] (c_X8_fails hl hc10) my_X8_fails rc_X8 kl_X8_92 rfl rfl (Nat.le_of_ble_eq_true rfl) (rmok rfl) dX8_reasonRule_15 rfl rfl rfl ?_
    cases hf
    exact E_iret dX8_reasonRule_18 rfl (Nat.le_of_ble_eq_true rfl) (Nat.le_of_ble_eq_true rfl)
set_option maxRecDepth 100000 in
set_option maxHeartbeats 4000000 in
theorem rmrec_X8_isTrue (d : Nat) : RmOk (z_X8_isTrue 16) (z_X8_gathers (d + 1)) 0 0 := ⟨rfl, rfl, (by show 20 + 1 ≤ 21 + (d + 1); omega), (by show 8 + (5 + 11) + 743 ≤ 767 + 40 * (d + 1); omega), Nat.le_refl _, Nat.le_refl _⟩
set_option maxRecDepth 100000 in
set_option maxHeartbeats 4000000 in
theorem rmrec_self_X8_gathers (d : Nat) : RmOk (z_X8_gathers d) (z_X8_gathers (d + 1)) 0 0 := ⟨rfl, rfl, (by show 21 + d + 1 ≤ 21 + (d + 1); omega), (by show 8 + (3 + 11) + (767 + 40 * d) ≤ 767 + 40 * (d + 1); omega), Nat.le_refl _, Nat.le_refl _⟩
set_option maxRecDepth 100000 in
set_option maxHeartbeats 4000000 in
theorem c_X8_gathers {l : Launch} {g : Gt} (hl : l.stackTraces = false) : ∀ (d : Nat) {a1 : Int32} {a2 : Int32} {μ : Mm} {ν : Mm} {o : Nat → Int64} {dd : Nat → UInt64} {res : Mm} (hf : f_X8_gathers d a1 a2 ν = some res), CM l g (z_X8_gathers d) yX8_gathers [.ref (gaM g 0), .int a1, .int a2] (μ, ν, o, dd) 0 (.inl none) (μ, res, o, dd) := by
  intro d
  induction d with
  | zero => intros; rename_i hf; cases hf
  | succ d ih0 =>
    intro a1 a2 μ ν o dd res hf
    unfold f_X8_gathers at hf
    refine CM_of_E rfl rfl (by decide +kernel) rfl (Nat.le_of_ble_eq_true rfl) hl ?_
    refine E_aload_n 1 0 dX8_gathers_0 rfl rfl rfl ?_
    refine E_getMr 4 fg_X8_48 dX8_gathers_1 rfl ?_
    refine E_iload_n 5 1 dX8_gathers_4 rfl rfl rfl ?_
    obtain ⟨h1, hf⟩ := chk_some hf
    refine E_ialdM 6 (k := 12) (n := 30) rfl (by decide) h1 dX8_gathers_5 rfl ?_
    refine E_iconst 7 3 dX8_gathers_6 cst_iconst3 rfl ?_
    refine E_icmp_ne 11 10 dX8_gathers_7 (by decide) rfl (fun c2 => ?_) (fun c2 => ?_)
    · have hf := ite_e c2 hf
      refine E_aload_n 12 0 dX8_gathers_11 rfl rfl rfl ?_
      refine E_getMr 15 fg_X8_48 dX8_gathers_12 rfl ?_
      refine E_iload_n 16 1 dX8_gathers_15 rfl rfl rfl ?_
      obtain ⟨h3, hf⟩ := chk_some hf
      refine E_ialdM 17 (k := 12) (n := 30) rfl (by decide) h3 dX8_gathers_16 rfl ?_
      refine E_iconst 18 1 dX8_gathers_17 cst_iconst1 rfl ?_
      refine E_icmp_eq 31 21 dX8_gathers_18 (by decide) rfl (fun c4 => ?_) (fun c4 => ?_)
      · have hf := ite_t c4 hf
        refine E_aload_n 32 0 dX8_gathers_31 rfl rfl rfl ?_
        refine E_aload_n 33 0 dX8_gathers_32 rfl rfl rfl ?_
        refine E_getMr 36 fg_X8_51 dX8_gathers_33 rfl ?_
        refine E_iload_n 37 1 dX8_gathers_36 rfl rfl rfl ?_
        obtain ⟨h5, hf⟩ := chk_some hf
        refine E_ialdM 38 (k := 13) (n := 30) rfl (by decide) h5 dX8_gathers_37 rfl ?_
        refine E_iload_n 39 2 dX8_gathers_38 rfl rfl rfl ?_
        obtain ⟨r6, hc7, hf⟩ := bnd hf
        refine E_callVM1 42 0 [] [] (ih0 hc7) (my_X8_gathers d) rc_X8 kl_X8_206 rfl rfl (Nat.le_of_ble_eq_true rfl) (rmrec_self_X8_gathers d) dX8_gathers_39 rfl rfl rfl ?_
        refine E_aload_n 43 0 dX8_gathers_42 rfl rfl rfl ?_
        refine E_aload_n 44 0 dX8_gathers_43 rfl rfl rfl ?_
        refine E_getMr 47 fg_X8_54 dX8_gathers_44 rfl ?_
        refine E_iload_n 48 1 dX8_gathers_47 rfl rfl rfl ?_
        obtain ⟨h8, hf⟩ := chk_some hf
        refine E_ialdM 49 (k := 14) (n := 30) rfl (by decide) h8 dX8_gathers_48 rfl ?_
        refine E_iload_n 50 2 dX8_gathers_49 rfl rfl rfl ?_
        obtain ⟨r9, hc10, hf⟩ := bnd hf
        refine E_callVM1 53 0 [] [] (ih0 hc10) (my_X8_gathers d) rc_X8 kl_X8_206 rfl rfl (Nat.le_of_ble_eq_true rfl) (rmrec_self_X8_gathers d) dX8_gathers_50 rfl rfl rfl ?_
        refine E_goto 91 dX8_gathers_53 (by decide) ?_
        cases hf
        exact E_vret dX8_gathers_91 rfl (Nat.le_of_ble_eq_true rfl) (Nat.le_of_ble_eq_true rfl)
      · have hf := ite_e c4 hf
        refine E_aload_n 22 0 dX8_gathers_21 rfl rfl rfl ?_
        refine E_getMr 25 fg_X8_48 dX8_gathers_22 rfl ?_
        refine E_iload_n 26 1 dX8_gathers_25 rfl rfl rfl ?_
        obtain ⟨h11, hf⟩ := chk_some hf
        refine E_ialdM 27 (k := 12) (n := 30) rfl (by decide) h11 dX8_gathers_26 rfl ?_
        refine E_iconst 28 2 dX8_gathers_27 cst_iconst2 rfl ?_
        refine E_icmp_ne 56 31 dX8_gathers_28 (by decide) rfl (fun c12 => ?_) (fun c12 => ?_)
        · have hf := ite_e c12 hf
          refine E_aload_n 57 0 dX8_gathers_56 rfl rfl rfl ?_
          refine E_iload_n 58 1 dX8_gathers_57 rfl rfl rfl ?_
          refine E_iload_n 59 2 dX8_gathers_58 rfl rfl rfl ?_
          refine E_aload_n 60 0 dX8_gathers_59 rfl rfl rfl ?_
          refine E_getMr 63 fg_X8_29 dX8_gathers_60 rfl ?_
          refine E_iload_n 64 2 dX8_gathers_63 rfl rfl rfl ?_
          obtain ⟨h13, hf⟩ := chk_some hf
          refine E_ialdM 65 (k := 7) (n := 200) rfl (by decide) h13 dX8_gathers_64 rfl ?_
          obtain ⟨r14, hc15, hf⟩ := bnd hf
          refine E_callVM1 68 0 [] [.int r14.1] (c_X8_isTrue hl 16 hc15) (my_X8_isTrue 16) rc_X8 kl_X8_184 rfl rfl (Nat.le_of_ble_eq_true rfl) (rmrec_X8_isTrue d) dX8_gathers_65 rfl rfl rfl ?_
          refine E_if_eq 91 71 dX8_gathers_68 (by decide) rfl (fun c16 => ?_) (fun c16 => ?_)
          · have hf := ite_t c16 hf
            cases hf
            exact E_vret dX8_gathers_91 rfl (Nat.le_of_ble_eq_true rfl) (Nat.le_of_ble_eq_true rfl)
          · have hf := ite_e c16 hf
            refine E_aload_n 72 0 dX8_gathers_71 rfl rfl rfl ?_
            refine E_getMr 75 fg_X8_79 dX8_gathers_72 rfl ?_
            refine E_aload_n 76 0 dX8_gathers_75 rfl rfl rfl ?_
            refine E_getM 79 fg_X8_210 dX8_gathers_76 rfl ?_
            refine E_iload_n 80 1 dX8_gathers_79 rfl rfl rfl ?_
            obtain ⟨h17, hf⟩ := chk_some hf
            refine E_iastM 81 (k := 22) (n := 16) rfl (by decide) h17 dX8_gathers_80 rfl ?_
            refine E_aload_n 82 0 dX8_gathers_81 rfl rfl rfl ?_
            refine E_dup 83 dX8_gathers_82 rfl rfl ?_
            refine E_getM 86 fg_X8_210 dX8_gathers_83 rfl ?_
            refine E_iconst 87 1 dX8_gathers_86 cst_iconst1 rfl ?_
            refine E_iadd 88 dX8_gathers_87 rfl ?_
            refine E_putM 91 fp_X8_210 dX8_gathers_88 rfl ?_
            cases hf
            exact E_vret dX8_gathers_91 rfl (Nat.le_of_ble_eq_true rfl) (Nat.le_of_ble_eq_true rfl)
        · have hf := ite_t c12 hf
          refine E_aload_n 32 0 dX8_gathers_31 rfl rfl rfl ?_
          refine E_aload_n 33 0 dX8_gathers_32 rfl rfl rfl ?_
          refine E_getMr 36 fg_X8_51 dX8_gathers_33 rfl ?_
          refine E_iload_n 37 1 dX8_gathers_36 rfl rfl rfl ?_
          obtain ⟨h18, hf⟩ := chk_some hf
          refine E_ialdM 38 (k := 13) (n := 30) rfl (by decide) h18 dX8_gathers_37 rfl ?_
          refine E_iload_n 39 2 dX8_gathers_38 rfl rfl rfl ?_
          obtain ⟨r19, hc20, hf⟩ := bnd hf
          refine E_callVM1 42 0 [] [] (ih0 hc20) (my_X8_gathers d) rc_X8 kl_X8_206 rfl rfl (Nat.le_of_ble_eq_true rfl) (rmrec_self_X8_gathers d) dX8_gathers_39 rfl rfl rfl ?_
          refine E_aload_n 43 0 dX8_gathers_42 rfl rfl rfl ?_
          refine E_aload_n 44 0 dX8_gathers_43 rfl rfl rfl ?_
          refine E_getMr 47 fg_X8_54 dX8_gathers_44 rfl ?_
          refine E_iload_n 48 1 dX8_gathers_47 rfl rfl rfl ?_
          obtain ⟨h21, hf⟩ := chk_some hf
          refine E_ialdM 49 (k := 14) (n := 30) rfl (by decide) h21 dX8_gathers_48 rfl ?_
          refine E_iload_n 50 2 dX8_gathers_49 rfl rfl rfl ?_
          obtain ⟨r22, hc23, hf⟩ := bnd hf
          refine E_callVM1 53 0 [] [] (ih0 hc23) (my_X8_gathers d) rc_X8 kl_X8_206 rfl rfl (Nat.le_of_ble_eq_true rfl) (rmrec_self_X8_gathers d) dX8_gathers_50 rfl rfl rfl ?_
          refine E_goto 91 dX8_gathers_53 (by decide) ?_
          cases hf
          exact E_vret dX8_gathers_91 rfl (Nat.le_of_ble_eq_true rfl) (Nat.le_of_ble_eq_true rfl)
    · have hf := ite_t c2 hf
      cases hf
      exact E_vret dX8_gathers_10 rfl (Nat.le_of_ble_eq_true rfl) (Nat.le_of_ble_eq_true rfl)
set_option maxRecDepth 100000 in
set_option maxHeartbeats 4000000 in
theorem c_X8_isNone {l : Launch} {g : Gt} (hl : l.stackTraces = false) {a1 : Int32} {a2 : Int32} {μ : Mm} {ν : Mm} {o : Nat → Int64} {dd : Nat → UInt64} {res : Int32 × Mm} (hf : f_X8_isNone a1 a2 ν = some res) : CM l g z_X8_isNone yX8_isNone [.ref (gaM g 0), .int a1, .int a2] (μ, ν, o, dd) 0 (.inl (some (.int res.1))) (μ, res.2, o, dd) := by
  unfold f_X8_isNone at hf
  refine CM_of_E rfl rfl (by decide +kernel) rfl (Nat.le_of_ble_eq_true rfl) hl ?_
  refine E_aload_n 1 0 dX8_isNone_0 rfl rfl rfl ?_
  refine E_iconst 2 0 dX8_isNone_1 cst_iconst0 rfl ?_
  refine E_putM 5 fp_X8_82 dX8_isNone_2 rfl ?_
  refine E_aload_n 6 0 dX8_isNone_5 rfl rfl rfl ?_
  refine E_iload_n 7 1 dX8_isNone_6 rfl rfl rfl ?_
  obtain ⟨r1, hc2, hf⟩ := bnd hf
  refine E_callVM1 10 0 [] [.int r1] (c_X8_isPayment hl hc2) my_X8_isPayment rc_X8 kl_X8_130 rfl rfl (Nat.le_of_ble_eq_true rfl) (rmok rfl) dX8_isNone_7 rfl rfl rfl ?_
  refine E_if_ne 21 13 dX8_isNone_10 (by decide) rfl (fun c3 => ?_) (fun c3 => ?_)
  · have hf := ite_e c3 hf
    refine E_aload_n 22 0 dX8_isNone_21 rfl rfl rfl ?_
    refine E_iload_n 23 1 dX8_isNone_22 rfl rfl rfl ?_
    refine E_iload_n 24 2 dX8_isNone_23 rfl rfl rfl ?_
    obtain ⟨r4, hc5, hf⟩ := bnd hf
    refine E_callVM1 27 0 [] [.int r4.1] (c_X8_ruleOf hl hc5) my_X8_ruleOf rc_X8 kl_X8_203 rfl rfl (Nat.le_of_ble_eq_true rfl) (rmok rfl) dX8_isNone_24 rfl rfl rfl ?_
    refine E_istore_n 28 [(3, .int r4.1), (0, .ref (gaM g 0)), (1, .int a1), (2, .int a2)] dX8_isNone_27 rfl (by decide) rfl rfl ?_
    refine E_aload_n 29 1 dX8_isNone_28 rfl rfl rfl ?_
    refine E_iconst 30 0 dX8_isNone_29 cst_iconst0 rfl ?_
    refine E_putM 33 fp_X8_210 dX8_isNone_30 rfl ?_
    refine E_iload_n 34 0 dX8_isNone_33 rfl rfl rfl ?_
    refine E_if_ge 46 37 dX8_isNone_34 (by decide) rfl (fun c6 => ?_) (fun c6 => ?_)
    · have hf := ite_t c6 hf
      refine E_aload_n 47 1 dX8_isNone_46 rfl rfl rfl ?_
      refine E_aload_n 48 1 dX8_isNone_47 rfl rfl rfl ?_
      refine E_getMr 51 fg_X8_73 dX8_isNone_48 rfl ?_
      refine E_iload_n 52 0 dX8_isNone_51 rfl rfl rfl ?_
      obtain ⟨h7, hf⟩ := chk_some hf
      refine E_ialdM 53 (k := 20) (n := 12) rfl (by decide) h7 dX8_isNone_52 rfl ?_
      refine E_iload_n 54 2 dX8_isNone_53 rfl rfl rfl ?_
      obtain ⟨r8, hc9, hf⟩ := bnd hf
      refine E_callVM1 57 0 [] [] (c_X8_gathers hl 16 hc9) (my_X8_gathers 16) rc_X8 kl_X8_206 rfl rfl (Nat.le_of_ble_eq_true rfl) (rmok rfl) dX8_isNone_54 rfl rfl rfl ?_
      refine E_aload_n 58 1 dX8_isNone_57 rfl rfl rfl ?_
      refine E_getM 61 fg_X8_82 dX8_isNone_58 rfl ?_
      refine E_if_le 68 64 dX8_isNone_61 (by decide) rfl (fun c10 => ?_) (fun c10 => ?_)
      · have hf := ite_t c10 hf
        refine E_iconst 69 0 dX8_isNone_68 cst_iconst0 rfl ?_
        cases hf
        exact E_zret (v := 0) rfl dX8_isNone_69 rfl (Nat.le_of_ble_eq_true rfl) (Nat.le_of_ble_eq_true rfl)
      · have hf := ite_e c10 hf
        refine E_iconst 65 1 dX8_isNone_64 cst_iconst1 rfl ?_
        refine E_goto 69 dX8_isNone_65 (by decide) ?_
        cases hf
        exact E_zret (v := 1) rfl dX8_isNone_69 rfl (Nat.le_of_ble_eq_true rfl) (Nat.le_of_ble_eq_true rfl)
    · have hf := ite_e c6 hf
      refine E_aload_n 38 1 dX8_isNone_37 rfl rfl rfl ?_
      refine E_iconst 39 2 dX8_isNone_38 cst_iconst2 rfl ?_
      obtain ⟨r11, hc12, hf⟩ := bnd hf
      refine E_callVM1 42 0 [] [.int r11.1] (c_X8_fails hl hc12) my_X8_fails rc_X8 kl_X8_92 rfl rfl (Nat.le_of_ble_eq_true rfl) (rmok rfl) dX8_isNone_39 rfl rfl rfl ?_
      refine E_pop 43 dX8_isNone_42 rfl rfl ?_
      refine E_goto 57 dX8_isNone_43 (by decide) ?_
      refine E_aload_n 58 1 dX8_isNone_57 rfl rfl rfl ?_
      refine E_getM 61 fg_X8_82 dX8_isNone_58 rfl ?_
      refine E_if_le 68 64 dX8_isNone_61 (by decide) rfl (fun c13 => ?_) (fun c13 => ?_)
      · have hf := ite_t c13 hf
        refine E_iconst 69 0 dX8_isNone_68 cst_iconst0 rfl ?_
        cases hf
        exact E_zret (v := 0) rfl dX8_isNone_69 rfl (Nat.le_of_ble_eq_true rfl) (Nat.le_of_ble_eq_true rfl)
      · have hf := ite_e c13 hf
        refine E_iconst 65 1 dX8_isNone_64 cst_iconst1 rfl ?_
        refine E_goto 69 dX8_isNone_65 (by decide) ?_
        cases hf
        exact E_zret (v := 1) rfl dX8_isNone_69 rfl (Nat.le_of_ble_eq_true rfl) (Nat.le_of_ble_eq_true rfl)
  · have hf := ite_t c3 hf
    refine E_aload_n 14 0 dX8_isNone_13 rfl rfl rfl ?_
    refine E_iconst 15 1 dX8_isNone_14 cst_iconst1 rfl ?_
    obtain ⟨r14, hc15, hf⟩ := bnd hf
    refine E_callVM1 18 0 [] [.int r14.1] (c_X8_fails hl hc15) my_X8_fails rc_X8 kl_X8_92 rfl rfl (Nat.le_of_ble_eq_true rfl) (rmok rfl) dX8_isNone_15 rfl rfl rfl ?_
    refine E_pop 19 dX8_isNone_18 rfl rfl ?_
    refine E_iconst 20 1 dX8_isNone_19 cst_iconst1 rfl ?_
    cases hf
    exact E_zret (v := 1) rfl dX8_isNone_20 rfl (Nat.le_of_ble_eq_true rfl) (Nat.le_of_ble_eq_true rfl)
set_option maxRecDepth 100000 in
set_option maxHeartbeats 4000000 in
theorem c_X8_reasonTests {l : Launch} {g : Gt} (hl : l.stackTraces = false) {a1 : Int32} {a2 : Int32} {μ : Mm} {ν : Mm} {o : Nat → Int64} {dd : Nat → UInt64} {res : Int32 × Mm} (hf : f_X8_reasonTests a1 a2 ν = some res) : CM l g z_X8_reasonTests yX8_reasonTests [.ref (gaM g 0), .int a1, .int a2] (μ, ν, o, dd) 0 (.inl (some (.int res.1))) (μ, res.2, o, dd) := by
  unfold f_X8_reasonTests at hf
  refine CM_of_E rfl rfl (by decide +kernel) rfl (Nat.le_of_ble_eq_true rfl) hl ?_
  refine E_aload_n 1 0 dX8_reasonTests_0 rfl rfl rfl ?_
  refine E_iload_n 2 1 dX8_reasonTests_1 rfl rfl rfl ?_
  refine E_iload_n 3 2 dX8_reasonTests_2 rfl rfl rfl ?_
  obtain ⟨r1, hc2, hf⟩ := bnd hf
  refine E_callVM1 6 0 [] [.int r1.1] (c_X8_isNone hl hc2) my_X8_isNone rc_X8 kl_X8_213 rfl rfl (Nat.le_of_ble_eq_true rfl) (rmok rfl) dX8_reasonTests_3 rfl rfl rfl ?_
  refine E_if_eq 13 9 dX8_reasonTests_6 (by decide) rfl (fun c3 => ?_) (fun c3 => ?_)
  · have hf := ite_t c3 hf
    refine E_aload_n 14 0 dX8_reasonTests_13 rfl rfl rfl ?_
    refine E_getM 17 fg_X8_210 dX8_reasonTests_14 rfl ?_
    cases hf
    exact E_iret dX8_reasonTests_17 rfl (Nat.le_of_ble_eq_true rfl) (Nat.le_of_ble_eq_true rfl)
  · have hf := ite_e c3 hf
    refine E_iconst 10 0 dX8_reasonTests_9 cst_iconst0 rfl ?_
    refine E_goto 17 dX8_reasonTests_10 (by decide) ?_
    cases hf
    exact E_iret dX8_reasonTests_17 rfl (Nat.le_of_ble_eq_true rfl) (Nat.le_of_ble_eq_true rfl)
set_option maxRecDepth 100000 in
set_option maxHeartbeats 4000000 in
theorem c_X8_isNoTest {l : Launch} {g : Gt} (hl : l.stackTraces = false) {a1 : Int32} {a2 : Int32} {a3 : Int32} {μ : Mm} {ν : Mm} {o : Nat → Int64} {dd : Nat → UInt64} {res : Int32 × Mm} (hf : f_X8_isNoTest a1 a2 a3 ν = some res) : CM l g z_X8_isNoTest yX8_isNoTest [.ref (gaM g 0), .int a1, .int a2, .int a3] (μ, ν, o, dd) 0 (.inl (some (.int res.1))) (μ, res.2, o, dd) := by
  unfold f_X8_isNoTest at hf
  refine CM_of_E rfl rfl (by decide +kernel) rfl (Nat.le_of_ble_eq_true rfl) hl ?_
  refine E_aload_n 1 0 dX8_isNoTest_0 rfl rfl rfl ?_
  refine E_iload_n 2 1 dX8_isNoTest_1 rfl rfl rfl ?_
  refine E_iload_n 3 2 dX8_isNoTest_2 rfl rfl rfl ?_
  obtain ⟨r1, hc2, hf⟩ := bnd hf
  refine E_callVM1 6 0 [] [.int r1.1] (c_X8_isNone hl hc2) my_X8_isNone rc_X8 kl_X8_213 rfl rfl (Nat.le_of_ble_eq_true rfl) (rmok rfl) dX8_isNoTest_3 rfl rfl rfl ?_
  refine E_if_ne 29 9 dX8_isNoTest_6 (by decide) rfl (fun c3 => ?_) (fun c3 => ?_)
  · have hf := ite_e c3 hf
    refine E_aload_n 30 0 dX8_isNoTest_29 rfl rfl rfl ?_
    refine E_getM 33 fg_X8_82 dX8_isNoTest_30 rfl ?_
    refine E_if_le 40 36 dX8_isNoTest_33 (by decide) rfl (fun c4 => ?_) (fun c4 => ?_)
    · have hf := ite_t c4 hf
      refine E_iconst 41 0 dX8_isNoTest_40 cst_iconst0 rfl ?_
      cases hf
      exact E_zret (v := 0) rfl dX8_isNoTest_41 rfl (Nat.le_of_ble_eq_true rfl) (Nat.le_of_ble_eq_true rfl)
    · have hf := ite_e c4 hf
      refine E_iconst 37 1 dX8_isNoTest_36 cst_iconst1 rfl ?_
      refine E_goto 41 dX8_isNoTest_37 (by decide) ?_
      cases hf
      exact E_zret (v := 1) rfl dX8_isNoTest_41 rfl (Nat.le_of_ble_eq_true rfl) (Nat.le_of_ble_eq_true rfl)
  · have hf := ite_t c3 hf
    refine E_iload_n 10 3 dX8_isNoTest_9 rfl rfl rfl ?_
    refine E_iconst 11 0 dX8_isNoTest_10 cst_iconst0 rfl ?_
    refine E_aload_n 12 0 dX8_isNoTest_11 rfl rfl rfl ?_
    refine E_getM 15 fg_X8_210 dX8_isNoTest_12 rfl ?_
    refine E_iconst 16 1 dX8_isNoTest_15 cst_iconst1 rfl ?_
    refine E_isub 17 dX8_isNoTest_16 rfl ?_
    obtain ⟨r5, hc6, hf⟩ := bnd hf
    refine E_callS1 20 0 [] [.int r5] (c_X8_isBetween hl hc6) my_X8_isBetween kl_X8_88 rfl rfl (Nat.le_of_ble_eq_true rfl) (rmok rfl) dX8_isNoTest_17 rfl rfl rfl ?_
    refine E_if_ne 29 23 dX8_isNoTest_20 (by decide) rfl (fun c7 => ?_) (fun c7 => ?_)
    · have hf := ite_e c7 hf
      refine E_aload_n 30 0 dX8_isNoTest_29 rfl rfl rfl ?_
      refine E_getM 33 fg_X8_82 dX8_isNoTest_30 rfl ?_
      refine E_if_le 40 36 dX8_isNoTest_33 (by decide) rfl (fun c8 => ?_) (fun c8 => ?_)
      · have hf := ite_t c8 hf
        refine E_iconst 41 0 dX8_isNoTest_40 cst_iconst0 rfl ?_
        cases hf
        exact E_zret (v := 0) rfl dX8_isNoTest_41 rfl (Nat.le_of_ble_eq_true rfl) (Nat.le_of_ble_eq_true rfl)
      · have hf := ite_e c8 hf
        refine E_iconst 37 1 dX8_isNoTest_36 cst_iconst1 rfl ?_
        refine E_goto 41 dX8_isNoTest_37 (by decide) ?_
        cases hf
        exact E_zret (v := 1) rfl dX8_isNoTest_41 rfl (Nat.le_of_ble_eq_true rfl) (Nat.le_of_ble_eq_true rfl)
    · have hf := ite_t c7 hf
      refine E_aload_n 24 0 dX8_isNoTest_23 rfl rfl rfl ?_
      refine E_iconst 25 2 dX8_isNoTest_24 cst_iconst2 rfl ?_
      obtain ⟨r9, hc10, hf⟩ := bnd hf
      refine E_callVM1 28 0 [] [.int r9.1] (c_X8_fails hl hc10) my_X8_fails rc_X8 kl_X8_92 rfl rfl (Nat.le_of_ble_eq_true rfl) (rmok rfl) dX8_isNoTest_25 rfl rfl rfl ?_
      refine E_pop 29 dX8_isNoTest_28 rfl rfl ?_
      refine E_aload_n 30 0 dX8_isNoTest_29 rfl rfl rfl ?_
      refine E_getM 33 fg_X8_82 dX8_isNoTest_30 rfl ?_
      refine E_if_le 40 36 dX8_isNoTest_33 (by decide) rfl (fun c11 => ?_) (fun c11 => ?_)
      · have hf := ite_t c11 hf
        refine E_iconst 41 0 dX8_isNoTest_40 cst_iconst0 rfl ?_
        cases hf
        exact E_zret (v := 0) rfl dX8_isNoTest_41 rfl (Nat.le_of_ble_eq_true rfl) (Nat.le_of_ble_eq_true rfl)
      · have hf := ite_e c11 hf
        refine E_iconst 37 1 dX8_isNoTest_36 cst_iconst1 rfl ?_
        refine E_goto 41 dX8_isNoTest_37 (by decide) ?_
        cases hf
        exact E_zret (v := 1) rfl dX8_isNoTest_41 rfl (Nat.le_of_ble_eq_true rfl) (Nat.le_of_ble_eq_true rfl)
set_option maxRecDepth 100000 in
set_option maxHeartbeats 4000000 in
theorem c_X8_reasonFeature {l : Launch} {g : Gt} (hl : l.stackTraces = false) {a1 : Int32} {a2 : Int32} {a3 : Int32} {μ : Mm} {ν : Mm} {o : Nat → Int64} {dd : Nat → UInt64} {res : Int32 × Mm} (hf : f_X8_reasonFeature a1 a2 a3 ν = some res) : CM l g z_X8_reasonFeature yX8_reasonFeature [.ref (gaM g 0), .int a1, .int a2, .int a3] (μ, ν, o, dd) 0 (.inl (some (.int res.1))) (μ, res.2, o, dd) := by
  unfold f_X8_reasonFeature at hf
  refine CM_of_E rfl rfl (by decide +kernel) rfl (Nat.le_of_ble_eq_true rfl) hl ?_
  refine E_aload_n 1 0 dX8_reasonFeature_0 rfl rfl rfl ?_
  refine E_iload_n 2 1 dX8_reasonFeature_1 rfl rfl rfl ?_
  refine E_iload_n 3 2 dX8_reasonFeature_2 rfl rfl rfl ?_
  refine E_iload_n 4 3 dX8_reasonFeature_3 rfl rfl rfl ?_
  obtain ⟨r1, hc2, hf⟩ := bnd hf
  refine E_callVM1 7 0 [] [.int r1.1] (c_X8_isNoTest hl hc2) my_X8_isNoTest rc_X8 kl_X8_216 rfl rfl (Nat.le_of_ble_eq_true rfl) (rmok rfl) dX8_reasonFeature_4 rfl rfl rfl ?_
  refine E_if_eq 14 10 dX8_reasonFeature_7 (by decide) rfl (fun c3 => ?_) (fun c3 => ?_)
  · have hf := ite_t c3 hf
    refine E_aload_n 15 0 dX8_reasonFeature_14 rfl rfl rfl ?_
    refine E_getMr 18 fg_X8_66 dX8_reasonFeature_15 rfl ?_
    refine E_aload_n 19 0 dX8_reasonFeature_18 rfl rfl rfl ?_
    refine E_getMr 22 fg_X8_79 dX8_reasonFeature_19 rfl ?_
    refine E_iload_n 23 3 dX8_reasonFeature_22 rfl rfl rfl ?_
    obtain ⟨h4, hf⟩ := chk_some hf
    refine E_ialdM 24 (k := 22) (n := 16) rfl (by decide) h4 dX8_reasonFeature_23 rfl ?_
    obtain ⟨h5, hf⟩ := chk_some hf
    refine E_caldM 25 (k := 18) (n := 30) rfl (by decide) h5 dX8_reasonFeature_24 rfl ?_
    obtain ⟨h6, hf⟩ := gn_c hf
    cases hf
    exact E_zret h6 dX8_reasonFeature_25 rfl (Nat.le_of_ble_eq_true rfl) (Nat.le_of_ble_eq_true rfl)
  · have hf := ite_e c3 hf
    refine E_iconst 11 0 dX8_reasonFeature_10 cst_iconst0 rfl ?_
    refine E_goto 25 dX8_reasonFeature_11 (by decide) ?_
    cases hf
    exact E_zret (v := 0) rfl dX8_reasonFeature_25 rfl (Nat.le_of_ble_eq_true rfl) (Nat.le_of_ble_eq_true rfl)
set_option maxRecDepth 100000 in
set_option maxHeartbeats 4000000 in
theorem c_X8_reasonValue {l : Launch} {g : Gt} (hl : l.stackTraces = false) {a1 : Int32} {a2 : Int32} {a3 : Int32} {μ : Mm} {ν : Mm} {o : Nat → Int64} {dd : Nat → UInt64} {res : Int32 × Mm} (hf : f_X8_reasonValue a1 a2 a3 ν = some res) : CM l g z_X8_reasonValue yX8_reasonValue [.ref (gaM g 0), .int a1, .int a2, .int a3] (μ, ν, o, dd) 0 (.inl (some (.int res.1))) (μ, res.2, o, dd) := by
  unfold f_X8_reasonValue at hf
  refine CM_of_E rfl rfl (by decide +kernel) rfl (Nat.le_of_ble_eq_true rfl) hl ?_
  refine E_aload_n 1 0 dX8_reasonValue_0 rfl rfl rfl ?_
  refine E_iload_n 2 1 dX8_reasonValue_1 rfl rfl rfl ?_
  refine E_iload_n 3 2 dX8_reasonValue_2 rfl rfl rfl ?_
  refine E_iload_n 4 3 dX8_reasonValue_3 rfl rfl rfl ?_
  obtain ⟨r1, hc2, hf⟩ := bnd hf
  refine E_callVM1 7 0 [] [.int r1.1] (c_X8_isNoTest hl hc2) my_X8_isNoTest rc_X8 kl_X8_216 rfl rfl (Nat.le_of_ble_eq_true rfl) (rmok rfl) dX8_reasonValue_4 rfl rfl rfl ?_
  refine E_if_eq 12 10 dX8_reasonValue_7 (by decide) rfl (fun c3 => ?_) (fun c3 => ?_)
  · have hf := ite_t c3 hf
    refine E_aload_n 13 0 dX8_reasonValue_12 rfl rfl rfl ?_
    refine E_iload_n 14 1 dX8_reasonValue_13 rfl rfl rfl ?_
    refine E_aload_n 15 0 dX8_reasonValue_14 rfl rfl rfl ?_
    refine E_getMr 18 fg_X8_66 dX8_reasonValue_15 rfl ?_
    refine E_aload_n 19 0 dX8_reasonValue_18 rfl rfl rfl ?_
    refine E_getMr 22 fg_X8_79 dX8_reasonValue_19 rfl ?_
    refine E_iload_n 23 3 dX8_reasonValue_22 rfl rfl rfl ?_
    obtain ⟨h4, hf⟩ := chk_some hf
    refine E_ialdM 24 (k := 22) (n := 16) rfl (by decide) h4 dX8_reasonValue_23 rfl ?_
    obtain ⟨h5, hf⟩ := chk_some hf
    refine E_caldM 25 (k := 18) (n := 30) rfl (by decide) h5 dX8_reasonValue_24 rfl ?_
    refine E_aload_n 26 0 dX8_reasonValue_25 rfl rfl rfl ?_
    refine E_getMr 29 fg_X8_60 dX8_reasonValue_26 rfl ?_
    refine E_aload_n 30 0 dX8_reasonValue_29 rfl rfl rfl ?_
    refine E_getMr 33 fg_X8_79 dX8_reasonValue_30 rfl ?_
    refine E_iload_n 34 3 dX8_reasonValue_33 rfl rfl rfl ?_
    obtain ⟨h6, hf⟩ := chk_some hf
    refine E_ialdM 35 (k := 22) (n := 16) rfl (by decide) h6 dX8_reasonValue_34 rfl ?_
    obtain ⟨h7, hf⟩ := chk_some hf
    refine E_ialdM 36 (k := 16) (n := 30) rfl (by decide) h7 dX8_reasonValue_35 rfl ?_
    refine E_aload_n 37 0 dX8_reasonValue_36 rfl rfl rfl ?_
    refine E_getMr 40 fg_X8_29 dX8_reasonValue_37 rfl ?_
    refine E_iload_n 41 1 dX8_reasonValue_40 rfl rfl rfl ?_
    obtain ⟨h8, hf⟩ := chk_some hf
    refine E_ialdM 42 (k := 7) (n := 200) rfl (by decide) h8 dX8_reasonValue_41 rfl ?_
    obtain ⟨r9, hc10, hf⟩ := bnd hf
    refine E_callVM1 45 0 [] [.int r9.1] (c_X8_valueBy hl hc10) my_X8_valueBy rc_X8 kl_X8_172 rfl rfl (Nat.le_of_ble_eq_true rfl) (rmok rfl) dX8_reasonValue_42 rfl rfl rfl ?_
    cases hf
    exact E_iret dX8_reasonValue_45 rfl (Nat.le_of_ble_eq_true rfl) (Nat.le_of_ble_eq_true rfl)
  · have hf := ite_e c3 hf
    refine E_iconst 11 0 dX8_reasonValue_10 cst_iconst0 rfl ?_
    cases hf
    exact E_iret dX8_reasonValue_11 rfl (Nat.le_of_ble_eq_true rfl) (Nat.le_of_ble_eq_true rfl)
set_option maxRecDepth 100000 in
set_option maxHeartbeats 4000000 in
theorem l_X8_many_L4 {l : Launch} {g : Gt} (hl : l.stackTraces = false) {μ : Mm} {ν : Mm} {o : Nat → Int64} {dd : Nat → UInt64}  {x1 : Int32} {res : Int32} : ∀ (n : Nat) (x2 : Int32) (x3 : Int32) , f_X8_many_L4 x1 ν n x2 x3 = some res → E l g z_X8_many 4 [(0, .ref (gaM g 0)), (1, .int x1), (2, .int x2), (3, .int x3)] [] (μ, ν, o, dd) 0 (QM g (.inl (some (.int res))) (μ, ν, o, dd) 0) := by
  intro n
  induction n with
  | zero => intro x2 x3 hf; cases hf
  | succ n ih =>
    intro x2 x3 hf
    refine E_iload_n 5 3 dX8_many_4 rfl rfl rfl ?_
    refine E_aload_n 6 0 dX8_many_5 rfl rfl rfl ?_
    refine E_getM 9 fg_X8_120 dX8_many_6 rfl ?_
    refine E_icmp_ge 36 12 dX8_many_9 (by decide) rfl (fun c1 => ?_) (fun c1 => ?_)
    · have hf := ite_t c1 hf
      refine E_iload_n 37 2 dX8_many_36 rfl rfl rfl ?_
      cases hf
      exact E_iret dX8_many_37 rfl (Nat.le_of_ble_eq_true rfl) (Nat.le_of_ble_eq_true rfl)
    · have hf := ite_e c1 hf
      refine E_iload_n 13 2 dX8_many_12 rfl rfl rfl ?_
      refine E_aload_n 14 0 dX8_many_13 rfl rfl rfl ?_
      refine E_getMr 17 fg_X8_38 dX8_many_14 rfl ?_
      refine E_iload_n 18 3 dX8_many_17 rfl rfl rfl ?_
      obtain ⟨h2, hf⟩ := chk_some hf
      refine E_caldM 19 (k := 10) (n := 200) rfl (by decide) h2 dX8_many_18 rfl ?_
      refine E_iload_n 20 1 dX8_many_19 rfl rfl rfl ?_
      refine E_icmp_ne 27 23 dX8_many_20 (by decide) rfl (fun c3 => ?_) (fun c3 => ?_)
      · have hf := ite_e c3 hf
        refine E_iconst 28 0 dX8_many_27 cst_iconst0 rfl ?_
        refine E_iadd 29 dX8_many_28 rfl ?_
        refine E_istore_n 30 [(2, .int (x2 + 0)), (0, .ref (gaM g 0)), (1, .int x1), (3, .int x3)] dX8_many_29 rfl (by decide) rfl rfl ?_
        refine E_iinc 33 [(3, .int (x3 + 1)), (2, .int (x2 + 0)), (0, .ref (gaM g 0)), (1, .int x1)] 3 (v := x3 + 1) dX8_many_30 rfl (by rw [cst_iconst1]) (by decide) rfl rfl ?_
        refine E_goto 4 dX8_many_33 (by decide) ?_
        refine E_sub [2, 3, 1, 0] rfl ?_
        exact ih (x2 + 0) (x3 + 1) hf
      · have hf := ite_t c3 hf
        refine E_iconst 24 1 dX8_many_23 cst_iconst1 rfl ?_
        refine E_goto 28 dX8_many_24 (by decide) ?_
        refine E_iadd 29 dX8_many_28 rfl ?_
        refine E_istore_n 30 [(2, .int (x2 + 1)), (0, .ref (gaM g 0)), (1, .int x1), (3, .int x3)] dX8_many_29 rfl (by decide) rfl rfl ?_
        refine E_iinc 33 [(3, .int (x3 + 1)), (2, .int (x2 + 1)), (0, .ref (gaM g 0)), (1, .int x1)] 3 (v := x3 + 1) dX8_many_30 rfl (by rw [cst_iconst1]) (by decide) rfl rfl ?_
        refine E_goto 4 dX8_many_33 (by decide) ?_
        refine E_sub [2, 3, 1, 0] rfl ?_
        exact ih (x2 + 1) (x3 + 1) hf
set_option maxRecDepth 100000 in
set_option maxHeartbeats 4000000 in
theorem c_X8_many {l : Launch} {g : Gt} (hl : l.stackTraces = false) {a1 : Int32} {μ : Mm} {ν : Mm} {o : Nat → Int64} {dd : Nat → UInt64} {res : Int32} (hf : f_X8_many a1 ν = some res) : CM l g z_X8_many yX8_many [.ref (gaM g 0), .int a1] (μ, ν, o, dd) 0 (.inl (some (.int res))) (μ, ν, o, dd) := by
  unfold f_X8_many at hf
  refine CM_of_E rfl rfl (by decide +kernel) rfl (Nat.le_of_ble_eq_true rfl) hl ?_
  refine E_iconst 1 0 dX8_many_0 cst_iconst0 rfl ?_
  refine E_istore_n 2 [(2, .int 0), (0, .ref (gaM g 0)), (1, .int a1)] dX8_many_1 rfl (by decide) rfl rfl ?_
  refine E_iconst 3 0 dX8_many_2 cst_iconst0 rfl ?_
  refine E_istore_n 4 [(3, .int 0), (2, .int 0), (0, .ref (gaM g 0)), (1, .int a1)] dX8_many_3 rfl (by decide) rfl rfl ?_
  refine E_sub [2, 3, 1, 0] rfl ?_
  refine l_X8_many_L4 hl  _ _ _ hf
set_option maxRecDepth 100000 in
set_option maxHeartbeats 4000000 in
theorem l_X8_ranked_L29 {l : Launch} {g : Gt} (hl : l.stackTraces = false) {μ : Mm} {ν : Mm} {o : Nat → Int64} {dd : Nat → UInt64} {kb2 : (Int32 → Option (Int32))} {kx102 : (Int32 → Option (Int32))} {x1 : Int32} {x2 : Int32} {res : Int32} (hb2 : ∀ (v2 : Int32), kb2 v2 = some res → E l g z_X8_ranked 2 [(0, .ref (gaM g 0)), (1, .int x1), (2, .int v2)] [] (μ, ν, o, dd) 0 (QM g (.inl (some (.int res))) (μ, ν, o, dd) 0)) (hx102 : ∀ (w3 : Int32), kx102 w3 = some res → E l g z_X8_ranked 102 [(0, .ref (gaM g 0)), (1, .int x1), (2, .int x2), (3, .int w3)] [] (μ, ν, o, dd) 0 (QM g (.inl (some (.int res))) (μ, ν, o, dd) 0)) : ∀ (n : Nat) (x3 : Int32) (x4 : Int32) , f_X8_ranked_L29 kb2 kx102 x1 x2 ν n x3 x4 = some res → E l g z_X8_ranked 29 [(0, .ref (gaM g 0)), (1, .int x1), (2, .int x2), (3, .int x3), (4, .int x4)] [] (μ, ν, o, dd) 0 (QM g (.inl (some (.int res))) (μ, ν, o, dd) 0) := by
  intro n
  induction n with
  | zero => intro x3 x4 hf; cases hf
  | succ n ih =>
    intro x3 x4 hf
    refine E_iload 31 4 dX8_ranked_29 rfl rfl ?_
    refine E_aload_n 32 0 dX8_ranked_31 rfl rfl rfl ?_
    refine E_getM 35 fg_X8_120 dX8_ranked_32 rfl ?_
    refine E_icmp_ge 102 38 dX8_ranked_35 (by decide) rfl (fun c4 => ?_) (fun c4 => ?_)
    · have hf := ite_t c4 hf
      refine E_sub [0, 1, 2, 3] rfl ?_
      exact hx102 x3 hf
    · have hf := ite_e c4 hf
      refine E_iload_n 39 3 dX8_ranked_38 rfl rfl rfl ?_
      refine E_aload_n 40 0 dX8_ranked_39 rfl rfl rfl ?_
      refine E_getMr 43 fg_X8_38 dX8_ranked_40 rfl ?_
      refine E_iload 45 4 dX8_ranked_43 rfl rfl ?_
      obtain ⟨h5, hf⟩ := chk_some hf
      refine E_caldM 46 (k := 10) (n := 200) rfl (by decide) h5 dX8_ranked_45 rfl ?_
      refine E_bipush 48 111 dX8_ranked_46 cst_bipush111 rfl ?_
      refine E_icmp_ne 93 51 dX8_ranked_48 (by decide) rfl (fun c6 => ?_) (fun c6 => ?_)
      · have hf := ite_e c6 hf
        refine E_iconst 94 0 dX8_ranked_93 cst_iconst0 rfl ?_
        refine E_iadd 95 dX8_ranked_94 rfl ?_
        refine E_istore_n 96 [(3, .int (x3 + 0)), (0, .ref (gaM g 0)), (1, .int x1), (2, .int x2), (4, .int x4)] dX8_ranked_95 rfl (by decide) rfl rfl ?_
        refine E_iinc 99 [(4, .int (x4 + 1)), (3, .int (x3 + 0)), (0, .ref (gaM g 0)), (1, .int x1), (2, .int x2)] 4 (v := x4 + 1) dX8_ranked_96 rfl (by rw [cst_iconst1]) (by decide) rfl rfl ?_
        refine E_goto 29 dX8_ranked_99 (by decide) ?_
        refine E_sub [2, 3, 4, 1, 0] rfl ?_
        exact ih (x3 + 0) (x4 + 1) hf
      · have hf := ite_t c6 hf
        refine E_aload_n 52 0 dX8_ranked_51 rfl rfl rfl ?_
        refine E_getMr 55 fg_X8_35 dX8_ranked_52 rfl ?_
        refine E_iload 57 4 dX8_ranked_55 rfl rfl ?_
        obtain ⟨h7, hf⟩ := chk_some hf
        refine E_ialdM 58 (k := 9) (n := 200) rfl (by decide) h7 dX8_ranked_57 rfl ?_
        refine E_aload_n 59 0 dX8_ranked_58 rfl rfl rfl ?_
        refine E_getMr 62 fg_X8_35 dX8_ranked_59 rfl ?_
        refine E_iload_n 63 2 dX8_ranked_62 rfl rfl rfl ?_
        obtain ⟨h8, hf⟩ := chk_some hf
        refine E_ialdM 64 (k := 9) (n := 200) rfl (by decide) h8 dX8_ranked_63 rfl ?_
        refine E_icmp_gt 89 67 dX8_ranked_64 (by decide) rfl (fun c9 => ?_) (fun c9 => ?_)
        · have hf := ite_t c9 hf
          refine E_iconst 90 1 dX8_ranked_89 cst_iconst1 rfl ?_
          refine E_goto 94 dX8_ranked_90 (by decide) ?_
          refine E_iadd 95 dX8_ranked_94 rfl ?_
          refine E_istore_n 96 [(3, .int (x3 + 1)), (0, .ref (gaM g 0)), (1, .int x1), (2, .int x2), (4, .int x4)] dX8_ranked_95 rfl (by decide) rfl rfl ?_
          refine E_iinc 99 [(4, .int (x4 + 1)), (3, .int (x3 + 1)), (0, .ref (gaM g 0)), (1, .int x1), (2, .int x2)] 4 (v := x4 + 1) dX8_ranked_96 rfl (by rw [cst_iconst1]) (by decide) rfl rfl ?_
          refine E_goto 29 dX8_ranked_99 (by decide) ?_
          refine E_sub [2, 3, 4, 1, 0] rfl ?_
          exact ih (x3 + 1) (x4 + 1) hf
        · have hf := ite_e c9 hf
          refine E_aload_n 68 0 dX8_ranked_67 rfl rfl rfl ?_
          refine E_getMr 71 fg_X8_35 dX8_ranked_68 rfl ?_
          refine E_iload 73 4 dX8_ranked_71 rfl rfl ?_
          obtain ⟨h10, hf⟩ := chk_some hf
          refine E_ialdM 74 (k := 9) (n := 200) rfl (by decide) h10 dX8_ranked_73 rfl ?_
          refine E_aload_n 75 0 dX8_ranked_74 rfl rfl rfl ?_
          refine E_getMr 78 fg_X8_35 dX8_ranked_75 rfl ?_
          refine E_iload_n 79 2 dX8_ranked_78 rfl rfl rfl ?_
          obtain ⟨h11, hf⟩ := chk_some hf
          refine E_ialdM 80 (k := 9) (n := 200) rfl (by decide) h11 dX8_ranked_79 rfl ?_
          refine E_icmp_ne 93 83 dX8_ranked_80 (by decide) rfl (fun c12 => ?_) (fun c12 => ?_)
          · have hf := ite_e c12 hf
            refine E_iconst 94 0 dX8_ranked_93 cst_iconst0 rfl ?_
            refine E_iadd 95 dX8_ranked_94 rfl ?_
            refine E_istore_n 96 [(3, .int (x3 + 0)), (0, .ref (gaM g 0)), (1, .int x1), (2, .int x2), (4, .int x4)] dX8_ranked_95 rfl (by decide) rfl rfl ?_
            refine E_iinc 99 [(4, .int (x4 + 1)), (3, .int (x3 + 0)), (0, .ref (gaM g 0)), (1, .int x1), (2, .int x2)] 4 (v := x4 + 1) dX8_ranked_96 rfl (by rw [cst_iconst1]) (by decide) rfl rfl ?_
            refine E_goto 29 dX8_ranked_99 (by decide) ?_
            refine E_sub [2, 3, 4, 1, 0] rfl ?_
            exact ih (x3 + 0) (x4 + 1) hf
          · have hf := ite_t c12 hf
            refine E_iload 85 4 dX8_ranked_83 rfl rfl ?_
            refine E_iload_n 86 2 dX8_ranked_85 rfl rfl rfl ?_
            refine E_icmp_ge 93 89 dX8_ranked_86 (by decide) rfl (fun c13 => ?_) (fun c13 => ?_)
            · have hf := ite_t c13 hf
              refine E_iconst 94 0 dX8_ranked_93 cst_iconst0 rfl ?_
              refine E_iadd 95 dX8_ranked_94 rfl ?_
              refine E_istore_n 96 [(3, .int (x3 + 0)), (0, .ref (gaM g 0)), (1, .int x1), (2, .int x2), (4, .int x4)] dX8_ranked_95 rfl (by decide) rfl rfl ?_
              refine E_iinc 99 [(4, .int (x4 + 1)), (3, .int (x3 + 0)), (0, .ref (gaM g 0)), (1, .int x1), (2, .int x2)] 4 (v := x4 + 1) dX8_ranked_96 rfl (by rw [cst_iconst1]) (by decide) rfl rfl ?_
              refine E_goto 29 dX8_ranked_99 (by decide) ?_
              refine E_sub [2, 3, 4, 1, 0] rfl ?_
              exact ih (x3 + 0) (x4 + 1) hf
            · have hf := ite_e c13 hf
              refine E_iconst 90 1 dX8_ranked_89 cst_iconst1 rfl ?_
              refine E_goto 94 dX8_ranked_90 (by decide) ?_
              refine E_iadd 95 dX8_ranked_94 rfl ?_
              refine E_istore_n 96 [(3, .int (x3 + 1)), (0, .ref (gaM g 0)), (1, .int x1), (2, .int x2), (4, .int x4)] dX8_ranked_95 rfl (by decide) rfl rfl ?_
              refine E_iinc 99 [(4, .int (x4 + 1)), (3, .int (x3 + 1)), (0, .ref (gaM g 0)), (1, .int x1), (2, .int x2)] 4 (v := x4 + 1) dX8_ranked_96 rfl (by rw [cst_iconst1]) (by decide) rfl rfl ?_
              refine E_goto 29 dX8_ranked_99 (by decide) ?_
              refine E_sub [2, 3, 4, 1, 0] rfl ?_
              exact ih (x3 + 1) (x4 + 1) hf
set_option maxRecDepth 100000 in
set_option maxHeartbeats 4000000 in
theorem l_X8_ranked_L2 {l : Launch} {g : Gt} (hl : l.stackTraces = false) {μ : Mm} {ν : Mm} {o : Nat → Int64} {dd : Nat → UInt64}  {x1 : Int32} {res : Int32} : ∀ (n : Nat) (x2 : Int32) , f_X8_ranked_L2 x1 ν n x2 = some res → E l g z_X8_ranked 2 [(0, .ref (gaM g 0)), (1, .int x1), (2, .int x2)] [] (μ, ν, o, dd) 0 (QM g (.inl (some (.int res))) (μ, ν, o, dd) 0) := by
  intro n
  induction n with
  | zero => intro x2 hf; cases hf
  | succ n ih =>
    intro x2 hf
    refine E_iload_n 3 2 dX8_ranked_2 rfl rfl rfl ?_
    refine E_aload_n 4 0 dX8_ranked_3 rfl rfl rfl ?_
    refine E_getM 7 fg_X8_120 dX8_ranked_4 rfl ?_
    refine E_icmp_ge 115 10 dX8_ranked_7 (by decide) rfl (fun c1 => ?_) (fun c1 => ?_)
    · have hf := ite_t c1 hf
      refine E_iconst 116 (-1) dX8_ranked_115 cst_iconstn1 rfl ?_
      cases hf
      exact E_iret dX8_ranked_116 rfl (Nat.le_of_ble_eq_true rfl) (Nat.le_of_ble_eq_true rfl)
    · have hf := ite_e c1 hf
      refine E_aload_n 11 0 dX8_ranked_10 rfl rfl rfl ?_
      refine E_getMr 14 fg_X8_38 dX8_ranked_11 rfl ?_
      refine E_iload_n 15 2 dX8_ranked_14 rfl rfl rfl ?_
      obtain ⟨h2, hf⟩ := chk_some hf
      refine E_caldM 16 (k := 10) (n := 200) rfl (by decide) h2 dX8_ranked_15 rfl ?_
      refine E_bipush 18 111 dX8_ranked_16 cst_bipush111 rfl ?_
      refine E_icmp_eq 24 21 dX8_ranked_18 (by decide) rfl (fun c3 => ?_) (fun c3 => ?_)
      · have hf := ite_t c3 hf
        refine E_iconst 25 0 dX8_ranked_24 cst_iconst0 rfl ?_
        refine E_istore_n 26 [(3, .int 0), (0, .ref (gaM g 0)), (1, .int x1), (2, .int x2)] dX8_ranked_25 rfl (by decide) rfl rfl ?_
        refine E_iconst 27 0 dX8_ranked_26 cst_iconst0 rfl ?_
        refine E_istore 29 [(4, .int 0), (3, .int 0), (0, .ref (gaM g 0)), (1, .int x1), (2, .int x2)] dX8_ranked_27 (by decide) rfl rfl ?_
        refine E_sub [2, 3, 4, 1, 0] rfl ?_
        refine l_X8_ranked_L29 hl ih (fun y14 hf => ?_) _ _ _ hf
        · refine E_iload_n 103 3 dX8_ranked_102 rfl rfl rfl ?_
          refine E_iload_n 104 1 dX8_ranked_103 rfl rfl rfl ?_
          refine E_icmp_ne 109 107 dX8_ranked_104 (by decide) rfl (fun c15 => ?_) (fun c15 => ?_)
          · have hf := ite_e c15 hf
            refine E_iinc 112 [(2, .int (x2 + 1)), (0, .ref (gaM g 0)), (1, .int x1), (3, .int y14)] 2 (v := x2 + 1) dX8_ranked_109 rfl (by rw [cst_iconst1]) (by decide) rfl rfl ?_
            refine E_goto 2 dX8_ranked_112 (by decide) ?_
            refine E_sub [1, 2, 0] rfl ?_
            exact ih (x2 + 1) hf
          · have hf := ite_t c15 hf
            refine E_iload_n 108 2 dX8_ranked_107 rfl rfl rfl ?_
            cases hf
            exact E_iret dX8_ranked_108 rfl (Nat.le_of_ble_eq_true rfl) (Nat.le_of_ble_eq_true rfl)
      · have hf := ite_e c3 hf
        refine E_goto 109 dX8_ranked_21 (by decide) ?_
        refine E_iinc 112 [(2, .int (x2 + 1)), (0, .ref (gaM g 0)), (1, .int x1)] 2 (v := x2 + 1) dX8_ranked_109 rfl (by rw [cst_iconst1]) (by decide) rfl rfl ?_
        refine E_goto 2 dX8_ranked_112 (by decide) ?_
        refine E_sub [1, 2, 0] rfl ?_
        exact ih (x2 + 1) hf
set_option maxRecDepth 100000 in
set_option maxHeartbeats 4000000 in
theorem c_X8_ranked {l : Launch} {g : Gt} (hl : l.stackTraces = false) {a1 : Int32} {μ : Mm} {ν : Mm} {o : Nat → Int64} {dd : Nat → UInt64} {res : Int32} (hf : f_X8_ranked a1 ν = some res) : CM l g z_X8_ranked yX8_ranked [.ref (gaM g 0), .int a1] (μ, ν, o, dd) 0 (.inl (some (.int res))) (μ, ν, o, dd) := by
  unfold f_X8_ranked at hf
  refine CM_of_E rfl rfl (by decide +kernel) rfl (Nat.le_of_ble_eq_true rfl) hl ?_
  refine E_iconst 1 0 dX8_ranked_0 cst_iconst0 rfl ?_
  refine E_istore_n 2 [(2, .int 0), (0, .ref (gaM g 0)), (1, .int a1)] dX8_ranked_1 rfl (by decide) rfl rfl ?_
  refine E_sub [1, 2, 0] rfl ?_
  refine l_X8_ranked_L2 hl  _ _ hf
set_option maxRecDepth 100000 in
set_option maxHeartbeats 4000000 in
theorem c_X8_alertAt {l : Launch} {g : Gt} (hl : l.stackTraces = false) {a1 : Int32} {μ : Mm} {ν : Mm} {o : Nat → Int64} {dd : Nat → UInt64} {res : Int32 × Mm} (hf : f_X8_alertAt a1 ν = some res) : CM l g z_X8_alertAt yX8_alertAt [.ref (gaM g 0), .int a1] (μ, ν, o, dd) 0 (.inl (some (.int res.1))) (μ, res.2, o, dd) := by
  unfold f_X8_alertAt at hf
  refine CM_of_E rfl rfl (by decide +kernel) rfl (Nat.le_of_ble_eq_true rfl) hl ?_
  refine E_aload_n 1 0 dX8_alertAt_0 rfl rfl rfl ?_
  refine E_iconst 2 0 dX8_alertAt_1 cst_iconst0 rfl ?_
  refine E_putM 5 fp_X8_82 dX8_alertAt_2 rfl ?_
  refine E_aload_n 6 0 dX8_alertAt_5 rfl rfl rfl ?_
  refine E_iload_n 7 1 dX8_alertAt_6 rfl rfl rfl ?_
  obtain ⟨r1, hc2, hf⟩ := bnd hf
  refine E_callVM1 10 0 [] [.int r1] (c_X8_ranked hl hc2) my_X8_ranked rc_X8 kl_X8_222 rfl rfl (Nat.le_of_ble_eq_true rfl) (rmok rfl) dX8_alertAt_7 rfl rfl rfl ?_
  refine E_istore_n 11 [(2, .int r1), (0, .ref (gaM g 0)), (1, .int a1)] dX8_alertAt_10 rfl (by decide) rfl rfl ?_
  refine E_iload_n 12 0 dX8_alertAt_11 rfl rfl rfl ?_
  refine E_if_ge 23 15 dX8_alertAt_12 (by decide) rfl (fun c3 => ?_) (fun c3 => ?_)
  · have hf := ite_t c3 hf
    refine E_iload_n 24 0 dX8_alertAt_23 rfl rfl rfl ?_
    cases hf
    exact E_iret dX8_alertAt_24 rfl (Nat.le_of_ble_eq_true rfl) (Nat.le_of_ble_eq_true rfl)
  · have hf := ite_e c3 hf
    refine E_aload_n 16 1 dX8_alertAt_15 rfl rfl rfl ?_
    refine E_iconst 17 1 dX8_alertAt_16 cst_iconst1 rfl ?_
    obtain ⟨r4, hc5, hf⟩ := bnd hf
    refine E_callVM1 20 0 [] [.int r4.1] (c_X8_fails hl hc5) my_X8_fails rc_X8 kl_X8_92 rfl rfl (Nat.le_of_ble_eq_true rfl) (rmok rfl) dX8_alertAt_17 rfl rfl rfl ?_
    refine E_goto 24 dX8_alertAt_20 (by decide) ?_
    cases hf
    exact E_iret dX8_alertAt_24 rfl (Nat.le_of_ble_eq_true rfl) (Nat.le_of_ble_eq_true rfl)
set_option maxRecDepth 100000 in
set_option maxHeartbeats 4000000 in
theorem c_X8_nextAlert {l : Launch} {g : Gt} (hl : l.stackTraces = false)  {μ : Mm} {ν : Mm} {o : Nat → Int64} {dd : Nat → UInt64} {res : Int32 × Mm} (hf : f_X8_nextAlert ν = some res) : CM l g z_X8_nextAlert yX8_nextAlert [.ref (gaM g 0)] (μ, ν, o, dd) 0 (.inl (some (.int res.1))) (μ, res.2, o, dd) := by
  unfold f_X8_nextAlert at hf
  refine CM_of_E rfl rfl (by decide +kernel) rfl (Nat.le_of_ble_eq_true rfl) hl ?_
  refine E_aload_n 1 0 dX8_nextAlert_0 rfl rfl rfl ?_
  refine E_iconst 2 0 dX8_nextAlert_1 cst_iconst0 rfl ?_
  obtain ⟨r1, hc2, hf⟩ := bnd hf
  refine E_callVM1 5 0 [] [.int r1.1] (c_X8_alertAt hl hc2) my_X8_alertAt rc_X8 kl_X8_219 rfl rfl (Nat.le_of_ble_eq_true rfl) (rmok rfl) dX8_nextAlert_2 rfl rfl rfl ?_
  cases hf
  exact E_iret dX8_nextAlert_5 rfl (Nat.le_of_ble_eq_true rfl) (Nat.le_of_ble_eq_true rfl)
set_option maxRecDepth 100000 in
set_option maxHeartbeats 4000000 in
theorem c_X8_openAlerts {l : Launch} {g : Gt} (hl : l.stackTraces = false)  {μ : Mm} {ν : Mm} {o : Nat → Int64} {dd : Nat → UInt64} {res : Int32 × Mm} (hf : f_X8_openAlerts ν = some res) : CM l g z_X8_openAlerts yX8_openAlerts [.ref (gaM g 0)] (μ, ν, o, dd) 0 (.inl (some (.int res.1))) (μ, res.2, o, dd) := by
  unfold f_X8_openAlerts at hf
  refine CM_of_E rfl rfl (by decide +kernel) rfl (Nat.le_of_ble_eq_true rfl) hl ?_
  refine E_aload_n 1 0 dX8_openAlerts_0 rfl rfl rfl ?_
  refine E_iconst 2 0 dX8_openAlerts_1 cst_iconst0 rfl ?_
  refine E_putM 5 fp_X8_82 dX8_openAlerts_2 rfl ?_
  refine E_aload_n 6 0 dX8_openAlerts_5 rfl rfl rfl ?_
  refine E_bipush 8 111 dX8_openAlerts_6 cst_bipush111 rfl ?_
  obtain ⟨r1, hc2, hf⟩ := bnd hf
  refine E_callVM1 11 0 [] [.int r1] (c_X8_many hl hc2) my_X8_many rc_X8 kl_X8_225 rfl rfl (Nat.le_of_ble_eq_true rfl) (rmok rfl) dX8_openAlerts_8 rfl rfl rfl ?_
  cases hf
  exact E_iret dX8_openAlerts_11 rfl (Nat.le_of_ble_eq_true rfl) (Nat.le_of_ble_eq_true rfl)
set_option maxRecDepth 100000 in
set_option maxHeartbeats 4000000 in
theorem j_X8_decide_J52 {l : Launch} {g : Gt} (hl : l.stackTraces = false) {μ : Mm} {ν : Mm} {o : Nat → Int64} {dd : Nat → UInt64}  {x1 : Int32} {x2 : Int32} {s0 : Int32} {s1 : Int32} {res : Int32 × Mm} (hf : f_X8_decide_J52 x1 x2 s0 s1 ν = some res) : E l g z_X8_decide 52 [(0, .ref (gaM g 0)), (1, .int x1), (2, .int x2)] [.int s0, .int s1, .ref (gaM g 10)] (μ, ν, o, dd) 0 (QM g (.inl (some (.int res.1))) (μ, res.2, o, dd) 0) := by
  unfold f_X8_decide_J52 at hf
  obtain ⟨h7, hf⟩ := chk_some hf
  refine E_castM 53 (k := 10) (n := 200) rfl (by decide) h7 dX8_decide_52 rfl ?_
  refine E_iload_n 54 2 dX8_decide_53 rfl rfl rfl ?_
  refine E_if_eq 75 57 dX8_decide_54 (by decide) rfl (fun c8 => ?_) (fun c8 => ?_)
  · have hf := ite_t c8 hf
    refine E_aload_n 76 0 dX8_decide_75 rfl rfl rfl ?_
    refine E_bipush 78 111 dX8_decide_76 cst_bipush111 rfl ?_
    obtain ⟨r9, hc10, hf⟩ := bnd hf
    refine E_callVM1 81 0 [] [.int r9] (c_X8_many hl hc10) my_X8_many rc_X8 kl_X8_225 rfl rfl (Nat.le_of_ble_eq_true rfl) (rmok rfl) dX8_decide_78 rfl rfl rfl ?_
    cases hf
    exact E_iret dX8_decide_81 rfl (Nat.le_of_ble_eq_true rfl) (Nat.le_of_ble_eq_true rfl)
  · have hf := ite_e c8 hf
    refine E_aload_n 58 0 dX8_decide_57 rfl rfl rfl ?_
    refine E_aload_n 59 0 dX8_decide_58 rfl rfl rfl ?_
    refine E_getM 62 fg_X8_106 dX8_decide_59 rfl ?_
    refine E_aload_n 63 0 dX8_decide_62 rfl rfl rfl ?_
    refine E_getMr 66 fg_X8_20 dX8_decide_63 rfl ?_
    refine E_iload_n 67 1 dX8_decide_66 rfl rfl rfl ?_
    obtain ⟨h11, hf⟩ := chk_some hf
    refine E_ialdM 68 (k := 4) (n := 200) rfl (by decide) h11 dX8_decide_67 rfl ?_
    refine E_iconst 69 1 dX8_decide_68 cst_iconst1 rfl ?_
    obtain ⟨r12, hc13, hf⟩ := bnd hf
    refine E_callS1 72 0 [.ref (gaM g 0)] [.int r12, .ref (gaM g 0)] (c_X8_with hl hc13) my_X8_with kl_X8_113 rfl rfl (Nat.le_of_ble_eq_true rfl) (rmok rfl) dX8_decide_69 rfl rfl rfl ?_
    refine E_putM 75 fp_X8_106 dX8_decide_72 rfl ?_
    refine E_aload_n 76 0 dX8_decide_75 rfl rfl rfl ?_
    refine E_bipush 78 111 dX8_decide_76 cst_bipush111 rfl ?_
    obtain ⟨r14, hc15, hf⟩ := bnd hf
    refine E_callVM1 81 0 [] [.int r14] (c_X8_many hl hc15) my_X8_many rc_X8 kl_X8_225 rfl rfl (Nat.le_of_ble_eq_true rfl) (rmok rfl) dX8_decide_78 rfl rfl rfl ?_
    cases hf
    exact E_iret dX8_decide_81 rfl (Nat.le_of_ble_eq_true rfl) (Nat.le_of_ble_eq_true rfl)
set_option maxRecDepth 100000 in
set_option maxHeartbeats 4000000 in
theorem c_X8_decide {l : Launch} {g : Gt} (hl : l.stackTraces = false) {a1 : Int32} {a2 : Int32} {μ : Mm} {ν : Mm} {o : Nat → Int64} {dd : Nat → UInt64} {res : Int32 × Mm} (hf : f_X8_decide a1 a2 ν = some res) : CM l g z_X8_decide yX8_decide [.ref (gaM g 0), .int a1, .int a2] (μ, ν, o, dd) 0 (.inl (some (.int res.1))) (μ, res.2, o, dd) := by
  unfold f_X8_decide at hf
  refine CM_of_E rfl rfl (by decide +kernel) rfl (Nat.le_of_ble_eq_true rfl) hl ?_
  refine E_aload_n 1 0 dX8_decide_0 rfl rfl rfl ?_
  refine E_iconst 2 0 dX8_decide_1 cst_iconst0 rfl ?_
  refine E_putM 5 fp_X8_82 dX8_decide_2 rfl ?_
  refine E_aload_n 6 0 dX8_decide_5 rfl rfl rfl ?_
  refine E_iload_n 7 1 dX8_decide_6 rfl rfl rfl ?_
  obtain ⟨r1, hc2, hf⟩ := bnd hf
  refine E_callVM1 10 0 [] [.int r1] (c_X8_isPayment hl hc2) my_X8_isPayment rc_X8 kl_X8_130 rfl rfl (Nat.le_of_ble_eq_true rfl) (rmok rfl) dX8_decide_7 rfl rfl rfl ?_
  refine E_if_ne 19 13 dX8_decide_10 (by decide) rfl (fun c3 => ?_) (fun c3 => ?_)
  · have hf := ite_e c3 hf
    refine E_aload_n 20 0 dX8_decide_19 rfl rfl rfl ?_
    refine E_getMr 23 fg_X8_38 dX8_decide_20 rfl ?_
    refine E_iload_n 24 1 dX8_decide_23 rfl rfl rfl ?_
    obtain ⟨h4, hf⟩ := chk_some hf
    refine E_caldM 25 (k := 10) (n := 200) rfl (by decide) h4 dX8_decide_24 rfl ?_
    refine E_bipush 27 111 dX8_decide_25 cst_bipush111 rfl ?_
    refine E_icmp_eq 36 30 dX8_decide_27 (by decide) rfl (fun c5 => ?_) (fun c5 => ?_)
    · have hf := ite_t c5 hf
      refine E_aload_n 37 0 dX8_decide_36 rfl rfl rfl ?_
      refine E_getMr 40 fg_X8_38 dX8_decide_37 rfl ?_
      refine E_iload_n 41 1 dX8_decide_40 rfl rfl rfl ?_
      refine E_iload_n 42 2 dX8_decide_41 rfl rfl rfl ?_
      refine E_if_eq 50 45 dX8_decide_42 (by decide) rfl (fun c6 => ?_) (fun c6 => ?_)
      · have hf := ite_t c6 hf
        refine E_bipush 52 99 dX8_decide_50 cst_bipush99 rfl ?_
        refine E_sub [0, 1, 2] rfl ?_
        exact j_X8_decide_J52 hl hf
      · have hf := ite_e c6 hf
        refine E_bipush 47 102 dX8_decide_45 cst_bipush102 rfl ?_
        refine E_goto 52 dX8_decide_47 (by decide) ?_
        refine E_sub [0, 1, 2] rfl ?_
        exact j_X8_decide_J52 hl hf
    · have hf := ite_e c5 hf
      refine E_aload_n 31 0 dX8_decide_30 rfl rfl rfl ?_
      refine E_iconst 32 2 dX8_decide_31 cst_iconst2 rfl ?_
      obtain ⟨r16, hc17, hf⟩ := bnd hf
      refine E_callVM1 35 0 [] [.int r16.1] (c_X8_fails hl hc17) my_X8_fails rc_X8 kl_X8_92 rfl rfl (Nat.le_of_ble_eq_true rfl) (rmok rfl) dX8_decide_32 rfl rfl rfl ?_
      cases hf
      exact E_iret dX8_decide_35 rfl (Nat.le_of_ble_eq_true rfl) (Nat.le_of_ble_eq_true rfl)
  · have hf := ite_t c3 hf
    refine E_aload_n 14 0 dX8_decide_13 rfl rfl rfl ?_
    refine E_iconst 15 1 dX8_decide_14 cst_iconst1 rfl ?_
    obtain ⟨r18, hc19, hf⟩ := bnd hf
    refine E_callVM1 18 0 [] [.int r18.1] (c_X8_fails hl hc19) my_X8_fails rc_X8 kl_X8_92 rfl rfl (Nat.le_of_ble_eq_true rfl) (rmok rfl) dX8_decide_15 rfl rfl rfl ?_
    cases hf
    exact E_iret dX8_decide_18 rfl (Nat.le_of_ble_eq_true rfl) (Nat.le_of_ble_eq_true rfl)
set_option maxRecDepth 100000 in
set_option maxHeartbeats 4000000 in
theorem c_X8_alertOf {l : Launch} {g : Gt} (hl : l.stackTraces = false) {a1 : Int32} {μ : Mm} {ν : Mm} {o : Nat → Int64} {dd : Nat → UInt64} {res : Int32 × Mm} (hf : f_X8_alertOf a1 ν = some res) : CM l g z_X8_alertOf yX8_alertOf [.ref (gaM g 0), .int a1] (μ, ν, o, dd) 0 (.inl (some (.int res.1))) (μ, res.2, o, dd) := by
  unfold f_X8_alertOf at hf
  refine CM_of_E rfl rfl (by decide +kernel) rfl (Nat.le_of_ble_eq_true rfl) hl ?_
  refine E_aload_n 1 0 dX8_alertOf_0 rfl rfl rfl ?_
  refine E_iconst 2 0 dX8_alertOf_1 cst_iconst0 rfl ?_
  refine E_putM 5 fp_X8_82 dX8_alertOf_2 rfl ?_
  refine E_aload_n 6 0 dX8_alertOf_5 rfl rfl rfl ?_
  refine E_iload_n 7 1 dX8_alertOf_6 rfl rfl rfl ?_
  obtain ⟨r1, hc2, hf⟩ := bnd hf
  refine E_callVM1 10 0 [] [.int r1] (c_X8_isPayment hl hc2) my_X8_isPayment rc_X8 kl_X8_130 rfl rfl (Nat.le_of_ble_eq_true rfl) (rmok rfl) dX8_alertOf_7 rfl rfl rfl ?_
  refine E_if_eq 22 13 dX8_alertOf_10 (by decide) rfl (fun c3 => ?_) (fun c3 => ?_)
  · have hf := ite_t c3 hf
    refine E_aload_n 23 0 dX8_alertOf_22 rfl rfl rfl ?_
    refine E_iconst 24 1 dX8_alertOf_23 cst_iconst1 rfl ?_
    obtain ⟨r4, hc5, hf⟩ := bnd hf
    refine E_callVM1 27 0 [] [.int r4.1] (c_X8_fails hl hc5) my_X8_fails rc_X8 kl_X8_92 rfl rfl (Nat.le_of_ble_eq_true rfl) (rmok rfl) dX8_alertOf_24 rfl rfl rfl ?_
    refine E_i2c 28 dX8_alertOf_27 rfl ?_
    obtain ⟨h6, hf⟩ := gn_c hf
    cases hf
    exact E_zret h6 dX8_alertOf_28 rfl (Nat.le_of_ble_eq_true rfl) (Nat.le_of_ble_eq_true rfl)
  · have hf := ite_e c3 hf
    refine E_aload_n 14 0 dX8_alertOf_13 rfl rfl rfl ?_
    refine E_getMr 17 fg_X8_38 dX8_alertOf_14 rfl ?_
    refine E_iload_n 18 1 dX8_alertOf_17 rfl rfl rfl ?_
    obtain ⟨h7, hf⟩ := chk_some hf
    refine E_caldM 19 (k := 10) (n := 200) rfl (by decide) h7 dX8_alertOf_18 rfl ?_
    refine E_goto 28 dX8_alertOf_19 (by decide) ?_
    obtain ⟨h8, hf⟩ := gn_c hf
    cases hf
    exact E_zret h8 dX8_alertOf_28 rfl (Nat.le_of_ble_eq_true rfl) (Nat.le_of_ble_eq_true rfl)
set_option maxRecDepth 100000 in
set_option maxHeartbeats 4000000 in
theorem c_X8_isUnfit {l : Launch} {g : Gt} (hl : l.stackTraces = false) {a1 : Int32} {a2 : Int32} {μ : Mm} {ν : Mm} {o : Nat → Int64} {dd : Nat → UInt64} {res : Int32 × Mm} (hf : f_X8_isUnfit a1 a2 ν = some res) : CM l g z_X8_isUnfit yX8_isUnfit [.ref (gaM g 0), .int a1, .int a2] (μ, ν, o, dd) 0 (.inl (some (.int res.1))) (μ, res.2, o, dd) := by
  unfold f_X8_isUnfit at hf
  refine CM_of_E rfl rfl (by decide +kernel) rfl (Nat.le_of_ble_eq_true rfl) hl ?_
  refine E_aload_n 1 0 dX8_isUnfit_0 rfl rfl rfl ?_
  refine E_iconst 2 0 dX8_isUnfit_1 cst_iconst0 rfl ?_
  refine E_putM 5 fp_X8_82 dX8_isUnfit_2 rfl ?_
  refine E_aload_n 6 0 dX8_isUnfit_5 rfl rfl rfl ?_
  refine E_iload_n 7 1 dX8_isUnfit_6 rfl rfl rfl ?_
  obtain ⟨r1, hc2, hf⟩ := bnd hf
  refine E_callVM1 10 0 [] [.int r1] (c_X8_isAccount hl hc2) my_X8_isAccount rc_X8 kl_X8_99 rfl rfl (Nat.le_of_ble_eq_true rfl) (rmok rfl) dX8_isUnfit_7 rfl rfl rfl ?_
  refine E_if_ne 22 13 dX8_isUnfit_10 (by decide) rfl (fun c3 => ?_) (fun c3 => ?_)
  · have hf := ite_e c3 hf
    refine E_iload_n 23 2 dX8_isUnfit_22 rfl rfl rfl ?_
    obtain ⟨r4, hc5, hf⟩ := bnd hf
    refine E_callS1 26 0 [] [.int r4] (c_X8_isWindow hl hc5) my_X8_isWindow kl_X8_133 rfl rfl (Nat.le_of_ble_eq_true rfl) (rmok rfl) dX8_isUnfit_23 rfl rfl rfl ?_
    refine E_if_ne 35 29 dX8_isUnfit_26 (by decide) rfl (fun c6 => ?_) (fun c6 => ?_)
    · have hf := ite_e c6 hf
      refine E_aload_n 36 0 dX8_isUnfit_35 rfl rfl rfl ?_
      refine E_getM 39 fg_X8_82 dX8_isUnfit_36 rfl ?_
      refine E_if_le 46 42 dX8_isUnfit_39 (by decide) rfl (fun c7 => ?_) (fun c7 => ?_)
      · have hf := ite_t c7 hf
        refine E_iconst 47 0 dX8_isUnfit_46 cst_iconst0 rfl ?_
        cases hf
        exact E_zret (v := 0) rfl dX8_isUnfit_47 rfl (Nat.le_of_ble_eq_true rfl) (Nat.le_of_ble_eq_true rfl)
      · have hf := ite_e c7 hf
        refine E_iconst 43 1 dX8_isUnfit_42 cst_iconst1 rfl ?_
        refine E_goto 47 dX8_isUnfit_43 (by decide) ?_
        cases hf
        exact E_zret (v := 1) rfl dX8_isUnfit_47 rfl (Nat.le_of_ble_eq_true rfl) (Nat.le_of_ble_eq_true rfl)
    · have hf := ite_t c6 hf
      refine E_aload_n 30 0 dX8_isUnfit_29 rfl rfl rfl ?_
      refine E_iconst 31 2 dX8_isUnfit_30 cst_iconst2 rfl ?_
      obtain ⟨r8, hc9, hf⟩ := bnd hf
      refine E_callVM1 34 0 [] [.int r8.1] (c_X8_fails hl hc9) my_X8_fails rc_X8 kl_X8_92 rfl rfl (Nat.le_of_ble_eq_true rfl) (rmok rfl) dX8_isUnfit_31 rfl rfl rfl ?_
      refine E_pop 35 dX8_isUnfit_34 rfl rfl ?_
      refine E_aload_n 36 0 dX8_isUnfit_35 rfl rfl rfl ?_
      refine E_getM 39 fg_X8_82 dX8_isUnfit_36 rfl ?_
      refine E_if_le 46 42 dX8_isUnfit_39 (by decide) rfl (fun c10 => ?_) (fun c10 => ?_)
      · have hf := ite_t c10 hf
        refine E_iconst 47 0 dX8_isUnfit_46 cst_iconst0 rfl ?_
        cases hf
        exact E_zret (v := 0) rfl dX8_isUnfit_47 rfl (Nat.le_of_ble_eq_true rfl) (Nat.le_of_ble_eq_true rfl)
      · have hf := ite_e c10 hf
        refine E_iconst 43 1 dX8_isUnfit_42 cst_iconst1 rfl ?_
        refine E_goto 47 dX8_isUnfit_43 (by decide) ?_
        cases hf
        exact E_zret (v := 1) rfl dX8_isUnfit_47 rfl (Nat.le_of_ble_eq_true rfl) (Nat.le_of_ble_eq_true rfl)
  · have hf := ite_t c3 hf
    refine E_aload_n 14 0 dX8_isUnfit_13 rfl rfl rfl ?_
    refine E_iconst 15 1 dX8_isUnfit_14 cst_iconst1 rfl ?_
    obtain ⟨r11, hc12, hf⟩ := bnd hf
    refine E_callVM1 18 0 [] [.int r11.1] (c_X8_fails hl hc12) my_X8_fails rc_X8 kl_X8_92 rfl rfl (Nat.le_of_ble_eq_true rfl) (rmok rfl) dX8_isUnfit_15 rfl rfl rfl ?_
    refine E_pop 19 dX8_isUnfit_18 rfl rfl ?_
    refine E_goto 35 dX8_isUnfit_19 (by decide) ?_
    refine E_aload_n 36 0 dX8_isUnfit_35 rfl rfl rfl ?_
    refine E_getM 39 fg_X8_82 dX8_isUnfit_36 rfl ?_
    refine E_if_le 46 42 dX8_isUnfit_39 (by decide) rfl (fun c13 => ?_) (fun c13 => ?_)
    · have hf := ite_t c13 hf
      refine E_iconst 47 0 dX8_isUnfit_46 cst_iconst0 rfl ?_
      cases hf
      exact E_zret (v := 0) rfl dX8_isUnfit_47 rfl (Nat.le_of_ble_eq_true rfl) (Nat.le_of_ble_eq_true rfl)
    · have hf := ite_e c13 hf
      refine E_iconst 43 1 dX8_isUnfit_42 cst_iconst1 rfl ?_
      refine E_goto 47 dX8_isUnfit_43 (by decide) ?_
      cases hf
      exact E_zret (v := 1) rfl dX8_isUnfit_47 rfl (Nat.le_of_ble_eq_true rfl) (Nat.le_of_ble_eq_true rfl)
set_option maxRecDepth 100000 in
set_option maxHeartbeats 4000000 in
theorem l_X8_ring_L34 {l : Launch} {g : Gt} (hl : l.stackTraces = false) {μ : Mm} {ν : Mm} {o : Nat → Int64} {dd : Nat → UInt64} {kx93 : (Int32 → Option (Int32 × Mm))} {x1 : Int32} {x2 : Int32} {res : Int32 × Mm} (hx93 : ∀ (w3 : Int32), kx93 w3 = some res → E l g z_X8_ring 93 [(0, .ref (gaM g 0)), (3, .int w3)] [] (μ, ν, o, dd) 0 (QM g (.inl (some (.int res.1))) (μ, res.2, o, dd) 0)) : ∀ (n : Nat) (x3 : Int32) (x4 : Int32) , f_X8_ring_L34 kx93 x1 x2 ν n x3 x4 = some res → E l g z_X8_ring 34 [(0, .ref (gaM g 0)), (1, .int x1), (2, .int x2), (3, .int x3), (4, .int x4)] [] (μ, ν, o, dd) 0 (QM g (.inl (some (.int res.1))) (μ, res.2, o, dd) 0) := by
  intro n
  induction n with
  | zero => intro x3 x4 hf; cases hf
  | succ n ih =>
    intro x3 x4 hf
    refine E_iload 36 4 dX8_ring_34 rfl rfl ?_
    refine E_aload_n 37 0 dX8_ring_36 rfl rfl rfl ?_
    refine E_getM 40 fg_X8_120 dX8_ring_37 rfl ?_
    refine E_icmp_ge 93 43 dX8_ring_40 (by decide) rfl (fun c6 => ?_) (fun c6 => ?_)
    · have hf := ite_t c6 hf
      refine E_sub [0, 3] rfl ?_
      exact hx93 x3 hf
    · have hf := ite_e c6 hf
      refine E_aload_n 44 0 dX8_ring_43 rfl rfl rfl ?_
      refine E_getMr 47 fg_X8_20 dX8_ring_44 rfl ?_
      refine E_iload 49 4 dX8_ring_47 rfl rfl ?_
      obtain ⟨h7, hf⟩ := chk_some hf
      refine E_ialdM 50 (k := 4) (n := 200) rfl (by decide) h7 dX8_ring_49 rfl ?_
      refine E_iload_n 51 1 dX8_ring_50 rfl rfl rfl ?_
      refine E_icmp_ne 87 54 dX8_ring_51 (by decide) rfl (fun c8 => ?_) (fun c8 => ?_)
      · have hf := ite_e c8 hf
        refine E_iinc 90 [(4, .int (x4 + 1)), (0, .ref (gaM g 0)), (1, .int x1), (2, .int x2), (3, .int x3)] 4 (v := x4 + 1) dX8_ring_87 rfl (by rw [cst_iconst1]) (by decide) rfl rfl ?_
        refine E_goto 34 dX8_ring_90 (by decide) ?_
        refine E_sub [1, 2, 3, 4, 0] rfl ?_
        exact ih x3 (x4 + 1) hf
      · have hf := ite_t c8 hf
        refine E_aload_n 55 0 dX8_ring_54 rfl rfl rfl ?_
        refine E_iload 57 4 dX8_ring_55 rfl rfl ?_
        refine E_iload_n 58 2 dX8_ring_57 rfl rfl rfl ?_
        refine E_aload_n 59 0 dX8_ring_58 rfl rfl rfl ?_
        refine E_getM 62 fg_X8_96 dX8_ring_59 rfl ?_
        obtain ⟨r9, hc10, hf⟩ := bnd hf
        refine E_callVM1 65 0 [] [.int r9] (c_X8_isIn hl hc10) my_X8_isIn rc_X8 kl_X8_136 rfl rfl (Nat.le_of_ble_eq_true rfl) (rmok rfl) dX8_ring_62 rfl rfl rfl ?_
        refine E_if_eq 87 68 dX8_ring_65 (by decide) rfl (fun c11 => ?_) (fun c11 => ?_)
        · have hf := ite_t c11 hf
          refine E_iinc 90 [(4, .int (x4 + 1)), (0, .ref (gaM g 0)), (1, .int x1), (2, .int x2), (3, .int x3)] 4 (v := x4 + 1) dX8_ring_87 rfl (by rw [cst_iconst1]) (by decide) rfl rfl ?_
          refine E_goto 34 dX8_ring_90 (by decide) ?_
          refine E_sub [1, 2, 3, 4, 0] rfl ?_
          exact ih x3 (x4 + 1) hf
        · have hf := ite_e c11 hf
          refine E_iload_n 69 3 dX8_ring_68 rfl rfl rfl ?_
          refine E_aload_n 70 0 dX8_ring_69 rfl rfl rfl ?_
          refine E_getMr 73 fg_X8_45 dX8_ring_70 rfl ?_
          refine E_aload_n 74 0 dX8_ring_73 rfl rfl rfl ?_
          refine E_getMr 77 fg_X8_17 dX8_ring_74 rfl ?_
          refine E_iload 79 4 dX8_ring_77 rfl rfl ?_
          obtain ⟨h12, hf⟩ := chk_some hf
          refine E_ialdM 80 (k := 3) (n := 200) rfl (by decide) h12 dX8_ring_79 rfl ?_
          obtain ⟨h13, hf⟩ := chk_some hf
          refine E_ialdM 81 (k := 11) (n := 20) rfl (by decide) h13 dX8_ring_80 rfl ?_
          refine E_iconst 82 1 dX8_ring_81 cst_iconst1 rfl ?_
          refine E_iadd 83 dX8_ring_82 rfl ?_
          refine E_mmin 86 mm_X8_min_147 (Nat.le_of_ble_eq_true rfl) (Nat.le_of_ble_eq_true rfl) (Nat.le_of_ble_eq_true rfl) (Nat.le_of_ble_eq_true rfl) dX8_ring_83 rfl ?_
          refine E_istore_n 87 [(3, .int ((if ((ν 11 (ν 3 x4.toNatClampNeg).toNatClampNeg) + 1 : Int32) < x3 then (ν 11 (ν 3 x4.toNatClampNeg).toNatClampNeg) + 1 else x3))), (0, .ref (gaM g 0)), (1, .int x1), (2, .int x2), (4, .int x4)] dX8_ring_86 rfl (by decide) rfl rfl ?_
          refine E_iinc 90 [(4, .int (x4 + 1)), (3, .int ((if ((ν 11 (ν 3 x4.toNatClampNeg).toNatClampNeg) + 1 : Int32) < x3 then (ν 11 (ν 3 x4.toNatClampNeg).toNatClampNeg) + 1 else x3))), (0, .ref (gaM g 0)), (1, .int x1), (2, .int x2)] 4 (v := x4 + 1) dX8_ring_87 rfl (by rw [cst_iconst1]) (by decide) rfl rfl ?_
          refine E_goto 34 dX8_ring_90 (by decide) ?_
          refine E_sub [2, 3, 4, 1, 0] rfl ?_
          exact ih (if ((ν 11 (ν 3 x4.toNatClampNeg).toNatClampNeg) + 1 : Int32) < x3 then (ν 11 (ν 3 x4.toNatClampNeg).toNatClampNeg) + 1 else x3) (x4 + 1) hf
set_option maxRecDepth 100000 in
set_option maxHeartbeats 4000000 in
theorem c_X8_ring {l : Launch} {g : Gt} (hl : l.stackTraces = false) {a1 : Int32} {a2 : Int32} {μ : Mm} {ν : Mm} {o : Nat → Int64} {dd : Nat → UInt64} {res : Int32 × Mm} (hf : f_X8_ring a1 a2 ν = some res) : CM l g z_X8_ring yX8_ring [.ref (gaM g 0), .int a1, .int a2] (μ, ν, o, dd) 0 (.inl (some (.int res.1))) (μ, res.2, o, dd) := by
  unfold f_X8_ring at hf
  refine CM_of_E rfl rfl (by decide +kernel) rfl (Nat.le_of_ble_eq_true rfl) hl ?_
  refine E_aload_n 1 0 dX8_ring_0 rfl rfl rfl ?_
  refine E_iload_n 2 1 dX8_ring_1 rfl rfl rfl ?_
  refine E_iload_n 3 2 dX8_ring_2 rfl rfl rfl ?_
  obtain ⟨r1, hc2, hf⟩ := bnd hf
  refine E_callVM1 6 0 [] [.int r1.1] (c_X8_isUnfit hl hc2) my_X8_isUnfit rc_X8 kl_X8_229 rfl rfl (Nat.le_of_ble_eq_true rfl) (rmok rfl) dX8_ring_3 rfl rfl rfl ?_
  refine E_if_eq 11 9 dX8_ring_6 (by decide) rfl (fun c3 => ?_) (fun c3 => ?_)
  · have hf := ite_t c3 hf
    refine E_aload_n 12 0 dX8_ring_11 rfl rfl rfl ?_
    refine E_iload_n 13 1 dX8_ring_12 rfl rfl rfl ?_
    refine E_aload_n 14 0 dX8_ring_13 rfl rfl rfl ?_
    refine E_getM 17 fg_X8_120 dX8_ring_14 rfl ?_
    refine E_iconst 18 1 dX8_ring_17 cst_iconst1 rfl ?_
    refine E_isub 19 dX8_ring_18 rfl ?_
    refine E_iload_n 20 2 dX8_ring_19 rfl rfl rfl ?_
    refine E_aload_n 21 0 dX8_ring_20 rfl rfl rfl ?_
    refine E_getM 24 fg_X8_96 dX8_ring_21 rfl ?_
    refine E_iconst 25 0 dX8_ring_24 cst_iconst0 rfl ?_
    obtain ⟨r4, hc5, hf⟩ := bnd hf
    refine E_callVM1 28 0 [] [] (c_X8_spreads hl hc5) my_X8_spreads rc_X8 kl_X8_143 rfl rfl (Nat.le_of_ble_eq_true rfl) (rmok rfl) dX8_ring_25 rfl rfl rfl ?_
    refine E_bipush 30 99 dX8_ring_28 cst_bipush99 rfl ?_
    refine E_istore_n 31 [(3, .int 99), (0, .ref (gaM g 0)), (1, .int a1), (2, .int a2)] dX8_ring_30 rfl (by decide) rfl rfl ?_
    refine E_iconst 32 0 dX8_ring_31 cst_iconst0 rfl ?_
    refine E_istore 34 [(4, .int 0), (3, .int 99), (0, .ref (gaM g 0)), (1, .int a1), (2, .int a2)] dX8_ring_32 (by decide) rfl rfl ?_
    refine E_sub [2, 3, 4, 1, 0] rfl ?_
    refine l_X8_ring_L34 hl (fun y14 hf => ?_) _ _ _ hf
    · refine E_iload_n 94 1 dX8_ring_93 rfl rfl rfl ?_
      refine E_bipush 96 99 dX8_ring_94 cst_bipush99 rfl ?_
      refine E_icmp_lt 107 99 dX8_ring_96 (by decide) rfl (fun c15 => ?_) (fun c15 => ?_)
      · have hf := ite_t c15 hf
        refine E_iload_n 108 1 dX8_ring_107 rfl rfl rfl ?_
        cases hf
        exact E_iret dX8_ring_108 rfl (Nat.le_of_ble_eq_true rfl) (Nat.le_of_ble_eq_true rfl)
      · have hf := ite_e c15 hf
        refine E_aload_n 100 0 dX8_ring_99 rfl rfl rfl ?_
        refine E_iconst 101 3 dX8_ring_100 cst_iconst3 rfl ?_
        obtain ⟨r16, hc17, hf⟩ := bnd hf
        refine E_callVM1 104 0 [] [.int r16.1] (c_X8_fails hl hc17) my_X8_fails rc_X8 kl_X8_92 rfl rfl (Nat.le_of_ble_eq_true rfl) (rmok rfl) dX8_ring_101 rfl rfl rfl ?_
        refine E_goto 108 dX8_ring_104 (by decide) ?_
        cases hf
        exact E_iret dX8_ring_108 rfl (Nat.le_of_ble_eq_true rfl) (Nat.le_of_ble_eq_true rfl)
  · have hf := ite_e c3 hf
    refine E_iconst 10 0 dX8_ring_9 cst_iconst0 rfl ?_
    cases hf
    exact E_iret dX8_ring_10 rfl (Nat.le_of_ble_eq_true rfl) (Nat.le_of_ble_eq_true rfl)
set_option maxRecDepth 100000 in
set_option maxHeartbeats 4000000 in
theorem c_X8_ringByTrying {l : Launch} {g : Gt} (hl : l.stackTraces = false) {a1 : Int32} {a2 : Int32} {μ : Mm} {ν : Mm} {o : Nat → Int64} {dd : Nat → UInt64} {res : Int32 × Mm} (hf : f_X8_ringByTrying a1 a2 ν = some res) : CM l g z_X8_ringByTrying yX8_ringByTrying [.ref (gaM g 0), .int a1, .int a2] (μ, ν, o, dd) 0 (.inl (some (.int res.1))) (μ, res.2, o, dd) := by
  unfold f_X8_ringByTrying at hf
  refine CM_of_E rfl rfl (by decide +kernel) rfl (Nat.le_of_ble_eq_true rfl) hl ?_
  refine E_aload_n 1 0 dX8_ringByTrying_0 rfl rfl rfl ?_
  refine E_iload_n 2 1 dX8_ringByTrying_1 rfl rfl rfl ?_
  refine E_iload_n 3 2 dX8_ringByTrying_2 rfl rfl rfl ?_
  obtain ⟨r1, hc2, hf⟩ := bnd hf
  refine E_callVM1 6 0 [] [.int r1.1] (c_X8_ring hl hc2) my_X8_ring rc_X8 kl_X8_232 rfl rfl (Nat.le_of_ble_eq_true rfl) (rmok rfl) dX8_ringByTrying_3 rfl rfl rfl ?_
  cases hf
  exact E_iret dX8_ringByTrying_6 rfl (Nat.le_of_ble_eq_true rfl) (Nat.le_of_ble_eq_true rfl)
set_option maxRecDepth 100000 in
set_option maxHeartbeats 4000000 in
theorem c_X8_group {l : Launch} {g : Gt} (hl : l.stackTraces = false) {a1 : Int32} {a2 : Int32} {μ : Mm} {ν : Mm} {o : Nat → Int64} {dd : Nat → UInt64} {res : Int32 × Mm} (hf : f_X8_group a1 a2 ν = some res) : CM l g z_X8_group yX8_group [.ref (gaM g 0), .int a1, .int a2] (μ, ν, o, dd) 0 (.inl (some (.int res.1))) (μ, res.2, o, dd) := by
  unfold f_X8_group at hf
  refine CM_of_E rfl rfl (by decide +kernel) rfl (Nat.le_of_ble_eq_true rfl) hl ?_
  refine E_aload_n 1 0 dX8_group_0 rfl rfl rfl ?_
  refine E_iload_n 2 1 dX8_group_1 rfl rfl rfl ?_
  refine E_iload_n 3 2 dX8_group_2 rfl rfl rfl ?_
  obtain ⟨r1, hc2, hf⟩ := bnd hf
  refine E_callVM1 6 0 [] [.int r1.1] (c_X8_isUnfit hl hc2) my_X8_isUnfit rc_X8 kl_X8_229 rfl rfl (Nat.le_of_ble_eq_true rfl) (rmok rfl) dX8_group_3 rfl rfl rfl ?_
  refine E_if_eq 13 9 dX8_group_6 (by decide) rfl (fun c3 => ?_) (fun c3 => ?_)
  · have hf := ite_t c3 hf
    refine E_aload_n 14 0 dX8_group_13 rfl rfl rfl ?_
    refine E_iload_n 15 1 dX8_group_14 rfl rfl rfl ?_
    refine E_aload_n 16 0 dX8_group_15 rfl rfl rfl ?_
    refine E_getM 19 fg_X8_120 dX8_group_16 rfl ?_
    refine E_iconst 20 1 dX8_group_19 cst_iconst1 rfl ?_
    refine E_isub 21 dX8_group_20 rfl ?_
    refine E_iload_n 22 2 dX8_group_21 rfl rfl rfl ?_
    refine E_aload_n 23 0 dX8_group_22 rfl rfl rfl ?_
    refine E_getM 26 fg_X8_96 dX8_group_23 rfl ?_
    obtain ⟨r4, hc5, hf⟩ := bnd hf
    refine E_callVM1 29 0 [] [.int r4.1] (c_X8_reached hl hc5) my_X8_reached rc_X8 kl_X8_155 rfl rfl (Nat.le_of_ble_eq_true rfl) (rmok rfl) dX8_group_26 rfl rfl rfl ?_
    cases hf
    exact E_iret dX8_group_29 rfl (Nat.le_of_ble_eq_true rfl) (Nat.le_of_ble_eq_true rfl)
  · have hf := ite_e c3 hf
    refine E_iconst 10 0 dX8_group_9 cst_iconst0 rfl ?_
    refine E_goto 29 dX8_group_10 (by decide) ?_
    cases hf
    exact E_iret dX8_group_29 rfl (Nat.le_of_ble_eq_true rfl) (Nat.le_of_ble_eq_true rfl)
set_option maxRecDepth 100000 in
set_option maxHeartbeats 4000000 in
theorem l_X8_decided_L5 {l : Launch} {g : Gt} (hl : l.stackTraces = false) {μ : Mm} {ν : Mm} {o : Nat → Int64} {dd : Nat → UInt64}  {x1 : Int32} {x2 : Int32} {res : Int32} : ∀ (n : Nat) (x3 : Int32) (x4 : Int32) , f_X8_decided_L5 x1 x2 ν n x3 x4 = some res → E l g z_X8_decided 5 [(0, .ref (gaM g 0)), (1, .int x1), (2, .int x2), (3, .int x3), (4, .int x4)] [] (μ, ν, o, dd) 0 (QM g (.inl (some (.int res))) (μ, ν, o, dd) 0) := by
  intro n
  induction n with
  | zero => intro x3 x4 hf; cases hf
  | succ n ih =>
    intro x3 x4 hf
    refine E_iload 7 4 dX8_decided_5 rfl rfl ?_
    refine E_aload_n 8 0 dX8_decided_7 rfl rfl rfl ?_
    refine E_getM 11 fg_X8_120 dX8_decided_8 rfl ?_
    refine E_icmp_ge 50 14 dX8_decided_11 (by decide) rfl (fun c1 => ?_) (fun c1 => ?_)
    · have hf := ite_t c1 hf
      refine E_iload_n 51 3 dX8_decided_50 rfl rfl rfl ?_
      cases hf
      exact E_iret dX8_decided_51 rfl (Nat.le_of_ble_eq_true rfl) (Nat.le_of_ble_eq_true rfl)
    · have hf := ite_e c1 hf
      refine E_iload_n 15 3 dX8_decided_14 rfl rfl rfl ?_
      refine E_aload_n 16 0 dX8_decided_15 rfl rfl rfl ?_
      refine E_getMr 19 fg_X8_38 dX8_decided_16 rfl ?_
      refine E_iload 21 4 dX8_decided_19 rfl rfl ?_
      obtain ⟨h2, hf⟩ := chk_some hf
      refine E_caldM 22 (k := 10) (n := 200) rfl (by decide) h2 dX8_decided_21 rfl ?_
      refine E_iload_n 23 1 dX8_decided_22 rfl rfl rfl ?_
      refine E_icmp_ne 41 26 dX8_decided_23 (by decide) rfl (fun c3 => ?_) (fun c3 => ?_)
      · have hf := ite_e c3 hf
        refine E_iconst 42 0 dX8_decided_41 cst_iconst0 rfl ?_
        refine E_iadd 43 dX8_decided_42 rfl ?_
        refine E_istore_n 44 [(3, .int (x3 + 0)), (0, .ref (gaM g 0)), (1, .int x1), (2, .int x2), (4, .int x4)] dX8_decided_43 rfl (by decide) rfl rfl ?_
        refine E_iinc 47 [(4, .int (x4 + 1)), (3, .int (x3 + 0)), (0, .ref (gaM g 0)), (1, .int x1), (2, .int x2)] 4 (v := x4 + 1) dX8_decided_44 rfl (by rw [cst_iconst1]) (by decide) rfl rfl ?_
        refine E_goto 5 dX8_decided_47 (by decide) ?_
        refine E_sub [2, 3, 4, 1, 0] rfl ?_
        exact ih (x3 + 0) (x4 + 1) hf
      · have hf := ite_t c3 hf
        refine E_aload_n 27 0 dX8_decided_26 rfl rfl rfl ?_
        refine E_getMr 30 fg_X8_35 dX8_decided_27 rfl ?_
        refine E_iload 32 4 dX8_decided_30 rfl rfl ?_
        obtain ⟨h4, hf⟩ := chk_some hf
        refine E_ialdM 33 (k := 9) (n := 200) rfl (by decide) h4 dX8_decided_32 rfl ?_
        refine E_iload_n 34 2 dX8_decided_33 rfl rfl rfl ?_
        refine E_icmp_lt 41 37 dX8_decided_34 (by decide) rfl (fun c5 => ?_) (fun c5 => ?_)
        · have hf := ite_t c5 hf
          refine E_iconst 42 0 dX8_decided_41 cst_iconst0 rfl ?_
          refine E_iadd 43 dX8_decided_42 rfl ?_
          refine E_istore_n 44 [(3, .int (x3 + 0)), (0, .ref (gaM g 0)), (1, .int x1), (2, .int x2), (4, .int x4)] dX8_decided_43 rfl (by decide) rfl rfl ?_
          refine E_iinc 47 [(4, .int (x4 + 1)), (3, .int (x3 + 0)), (0, .ref (gaM g 0)), (1, .int x1), (2, .int x2)] 4 (v := x4 + 1) dX8_decided_44 rfl (by rw [cst_iconst1]) (by decide) rfl rfl ?_
          refine E_goto 5 dX8_decided_47 (by decide) ?_
          refine E_sub [2, 3, 4, 1, 0] rfl ?_
          exact ih (x3 + 0) (x4 + 1) hf
        · have hf := ite_e c5 hf
          refine E_iconst 38 1 dX8_decided_37 cst_iconst1 rfl ?_
          refine E_goto 42 dX8_decided_38 (by decide) ?_
          refine E_iadd 43 dX8_decided_42 rfl ?_
          refine E_istore_n 44 [(3, .int (x3 + 1)), (0, .ref (gaM g 0)), (1, .int x1), (2, .int x2), (4, .int x4)] dX8_decided_43 rfl (by decide) rfl rfl ?_
          refine E_iinc 47 [(4, .int (x4 + 1)), (3, .int (x3 + 1)), (0, .ref (gaM g 0)), (1, .int x1), (2, .int x2)] 4 (v := x4 + 1) dX8_decided_44 rfl (by rw [cst_iconst1]) (by decide) rfl rfl ?_
          refine E_goto 5 dX8_decided_47 (by decide) ?_
          refine E_sub [2, 3, 4, 1, 0] rfl ?_
          exact ih (x3 + 1) (x4 + 1) hf
set_option maxRecDepth 100000 in
set_option maxHeartbeats 4000000 in
theorem c_X8_decided {l : Launch} {g : Gt} (hl : l.stackTraces = false) {a1 : Int32} {a2 : Int32} {μ : Mm} {ν : Mm} {o : Nat → Int64} {dd : Nat → UInt64} {res : Int32} (hf : f_X8_decided a1 a2 ν = some res) : CM l g z_X8_decided yX8_decided [.ref (gaM g 0), .int a1, .int a2] (μ, ν, o, dd) 0 (.inl (some (.int res))) (μ, ν, o, dd) := by
  unfold f_X8_decided at hf
  refine CM_of_E rfl rfl (by decide +kernel) rfl (Nat.le_of_ble_eq_true rfl) hl ?_
  refine E_iconst 1 0 dX8_decided_0 cst_iconst0 rfl ?_
  refine E_istore_n 2 [(3, .int 0), (0, .ref (gaM g 0)), (1, .int a1), (2, .int a2)] dX8_decided_1 rfl (by decide) rfl rfl ?_
  refine E_iconst 3 0 dX8_decided_2 cst_iconst0 rfl ?_
  refine E_istore 5 [(4, .int 0), (3, .int 0), (0, .ref (gaM g 0)), (1, .int a1), (2, .int a2)] dX8_decided_3 (by decide) rfl rfl ?_
  refine E_sub [2, 3, 4, 1, 0] rfl ?_
  refine l_X8_decided_L5 hl  _ _ _ hf
set_option maxRecDepth 100000 in
set_option maxHeartbeats 4000000 in
theorem c_X8_caught {l : Launch} {g : Gt} (hl : l.stackTraces = false) {a1 : Int32} {μ : Mm} {ν : Mm} {o : Nat → Int64} {dd : Nat → UInt64} {res : Int32 × Mm} (hf : f_X8_caught a1 ν = some res) : CM l g z_X8_caught yX8_caught [.ref (gaM g 0), .int a1] (μ, ν, o, dd) 0 (.inl (some (.int res.1))) (μ, res.2, o, dd) := by
  unfold f_X8_caught at hf
  refine CM_of_E rfl rfl (by decide +kernel) rfl (Nat.le_of_ble_eq_true rfl) hl ?_
  refine E_aload_n 1 0 dX8_caught_0 rfl rfl rfl ?_
  refine E_iconst 2 0 dX8_caught_1 cst_iconst0 rfl ?_
  refine E_putM 5 fp_X8_82 dX8_caught_2 rfl ?_
  refine E_iload_n 6 1 dX8_caught_5 rfl rfl rfl ?_
  refine E_iconst 7 1 dX8_caught_6 cst_iconst1 rfl ?_
  refine E_sipush 10 1201 dX8_caught_7 cst_sipush1201 rfl ?_
  obtain ⟨r1, hc2, hf⟩ := bnd hf
  refine E_callS1 13 0 [] [.int r1] (c_X8_isBetween hl hc2) my_X8_isBetween kl_X8_88 rfl rfl (Nat.le_of_ble_eq_true rfl) (rmok rfl) dX8_caught_10 rfl rfl rfl ?_
  refine E_if_eq 26 16 dX8_caught_13 (by decide) rfl (fun c3 => ?_) (fun c3 => ?_)
  · have hf := ite_t c3 hf
    refine E_aload_n 27 0 dX8_caught_26 rfl rfl rfl ?_
    refine E_iconst 28 1 dX8_caught_27 cst_iconst1 rfl ?_
    obtain ⟨r4, hc5, hf⟩ := bnd hf
    refine E_callVM1 31 0 [] [.int r4.1] (c_X8_fails hl hc5) my_X8_fails rc_X8 kl_X8_92 rfl rfl (Nat.le_of_ble_eq_true rfl) (rmok rfl) dX8_caught_28 rfl rfl rfl ?_
    cases hf
    exact E_iret dX8_caught_31 rfl (Nat.le_of_ble_eq_true rfl) (Nat.le_of_ble_eq_true rfl)
  · have hf := ite_e c3 hf
    refine E_aload_n 17 0 dX8_caught_16 rfl rfl rfl ?_
    refine E_bipush 19 102 dX8_caught_17 cst_bipush102 rfl ?_
    refine E_iload_n 20 1 dX8_caught_19 rfl rfl rfl ?_
    obtain ⟨r6, hc7, hf⟩ := bnd hf
    refine E_callVM1 23 0 [] [.int r6] (c_X8_decided hl hc7) my_X8_decided rc_X8 kl_X8_235 rfl rfl (Nat.le_of_ble_eq_true rfl) (rmok rfl) dX8_caught_20 rfl rfl rfl ?_
    refine E_goto 31 dX8_caught_23 (by decide) ?_
    cases hf
    exact E_iret dX8_caught_31 rfl (Nat.le_of_ble_eq_true rfl) (Nat.le_of_ble_eq_true rfl)
set_option maxRecDepth 100000 in
set_option maxHeartbeats 4000000 in
theorem l_X8_bestThreshold_L24 {l : Launch} {g : Gt} (hl : l.stackTraces = false) {μ : Mm} {ν : Mm} {o : Nat → Int64} {dd : Nat → UInt64}  {x1 : Int32} {res : Int32 × Mm} : ∀ (n : Nat) (x2 : Int32) , f_X8_bestThreshold_L24 x1 ν n x2 = some res → E l g z_X8_bestThreshold 24 [(0, .ref (gaM g 0)), (1, .int x1), (2, .int x2)] [] (μ, ν, o, dd) 0 (QM g (.inl (some (.int res.1))) (μ, res.2, o, dd) 0) := by
  intro n
  induction n with
  | zero => intro x2 hf; cases hf
  | succ n ih =>
    intro x2 hf
    refine E_aload_n 25 0 dX8_bestThreshold_24 rfl rfl rfl ?_
    refine E_bipush 27 99 dX8_bestThreshold_25 cst_bipush99 rfl ?_
    refine E_iload_n 28 2 dX8_bestThreshold_27 rfl rfl rfl ?_
    obtain ⟨r4, hc5, hf⟩ := bnd hf
    refine E_callVM1 31 0 [] [.int r4] (c_X8_decided hl hc5) my_X8_decided rc_X8 kl_X8_235 rfl rfl (Nat.le_of_ble_eq_true rfl) (rmok rfl) dX8_bestThreshold_28 rfl rfl rfl ?_
    refine E_iload_n 32 1 dX8_bestThreshold_31 rfl rfl rfl ?_
    refine E_icmp_le 41 35 dX8_bestThreshold_32 (by decide) rfl (fun c6 => ?_) (fun c6 => ?_)
    · have hf := ite_t c6 hf
      refine E_iload_n 42 2 dX8_bestThreshold_41 rfl rfl rfl ?_
      cases hf
      exact E_iret dX8_bestThreshold_42 rfl (Nat.le_of_ble_eq_true rfl) (Nat.le_of_ble_eq_true rfl)
    · have hf := ite_e c6 hf
      refine E_iinc 38 [(2, .int (x2 + 1)), (0, .ref (gaM g 0)), (1, .int x1)] 2 (v := x2 + 1) dX8_bestThreshold_35 rfl (by rw [cst_iconst1]) (by decide) rfl rfl ?_
      refine E_goto 24 dX8_bestThreshold_38 (by decide) ?_
      refine E_sub [1, 2, 0] rfl ?_
      exact ih (x2 + 1) hf
set_option maxRecDepth 100000 in
set_option maxHeartbeats 4000000 in
theorem c_X8_bestThreshold {l : Launch} {g : Gt} (hl : l.stackTraces = false) {a1 : Int32} {μ : Mm} {ν : Mm} {o : Nat → Int64} {dd : Nat → UInt64} {res : Int32 × Mm} (hf : f_X8_bestThreshold a1 ν = some res) : CM l g z_X8_bestThreshold yX8_bestThreshold [.ref (gaM g 0), .int a1] (μ, ν, o, dd) 0 (.inl (some (.int res.1))) (μ, res.2, o, dd) := by
  unfold f_X8_bestThreshold at hf
  refine CM_of_E rfl rfl (by decide +kernel) rfl (Nat.le_of_ble_eq_true rfl) hl ?_
  refine E_aload_n 1 0 dX8_bestThreshold_0 rfl rfl rfl ?_
  refine E_iconst 2 0 dX8_bestThreshold_1 cst_iconst0 rfl ?_
  refine E_putM 5 fp_X8_82 dX8_bestThreshold_2 rfl ?_
  refine E_iload_n 6 1 dX8_bestThreshold_5 rfl rfl rfl ?_
  refine E_iconst 7 0 dX8_bestThreshold_6 cst_iconst0 rfl ?_
  refine E_sipush 10 200 dX8_bestThreshold_7 cst_sipush200 rfl ?_
  obtain ⟨r1, hc2, hf⟩ := bnd hf
  refine E_callS1 13 0 [] [.int r1] (c_X8_isBetween hl hc2) my_X8_isBetween kl_X8_88 rfl rfl (Nat.le_of_ble_eq_true rfl) (rmok rfl) dX8_bestThreshold_10 rfl rfl rfl ?_
  refine E_if_ne 22 16 dX8_bestThreshold_13 (by decide) rfl (fun c3 => ?_) (fun c3 => ?_)
  · have hf := ite_e c3 hf
    refine E_iconst 23 1 dX8_bestThreshold_22 cst_iconst1 rfl ?_
    refine E_istore_n 24 [(2, .int 1), (0, .ref (gaM g 0)), (1, .int a1)] dX8_bestThreshold_23 rfl (by decide) rfl rfl ?_
    refine E_sub [1, 2, 0] rfl ?_
    refine l_X8_bestThreshold_L24 hl  _ _ hf
  · have hf := ite_t c3 hf
    refine E_aload_n 17 0 dX8_bestThreshold_16 rfl rfl rfl ?_
    refine E_iconst 18 1 dX8_bestThreshold_17 cst_iconst1 rfl ?_
    obtain ⟨r7, hc8, hf⟩ := bnd hf
    refine E_callVM1 21 0 [] [.int r7.1] (c_X8_fails hl hc8) my_X8_fails rc_X8 kl_X8_92 rfl rfl (Nat.le_of_ble_eq_true rfl) (rmok rfl) dX8_bestThreshold_18 rfl rfl rfl ?_
    cases hf
    exact E_iret dX8_bestThreshold_21 rfl (Nat.le_of_ble_eq_true rfl) (Nat.le_of_ble_eq_true rfl)
set_option maxRecDepth 100000 in
set_option maxHeartbeats 4000000 in
theorem c_X8_bestThresholdByTrying {l : Launch} {g : Gt} (hl : l.stackTraces = false) {a1 : Int32} {μ : Mm} {ν : Mm} {o : Nat → Int64} {dd : Nat → UInt64} {res : Int32 × Mm} (hf : f_X8_bestThresholdByTrying a1 ν = some res) : CM l g z_X8_bestThresholdByTrying yX8_bestThresholdByTrying [.ref (gaM g 0), .int a1] (μ, ν, o, dd) 0 (.inl (some (.int res.1))) (μ, res.2, o, dd) := by
  unfold f_X8_bestThresholdByTrying at hf
  refine CM_of_E rfl rfl (by decide +kernel) rfl (Nat.le_of_ble_eq_true rfl) hl ?_
  refine E_aload_n 1 0 dX8_bestThresholdByTrying_0 rfl rfl rfl ?_
  refine E_iload_n 2 1 dX8_bestThresholdByTrying_1 rfl rfl rfl ?_
  obtain ⟨r1, hc2, hf⟩ := bnd hf
  refine E_callVM1 5 0 [] [.int r1.1] (c_X8_bestThreshold hl hc2) my_X8_bestThreshold rc_X8 kl_X8_239 rfl rfl (Nat.le_of_ble_eq_true rfl) (rmok rfl) dX8_bestThresholdByTrying_2 rfl rfl rfl ?_
  cases hf
  exact E_iret dX8_bestThresholdByTrying_5 rfl (Nat.le_of_ble_eq_true rfl) (Nat.le_of_ble_eq_true rfl)
set_option maxRecDepth 100000 in
set_option maxHeartbeats 4000000 in
theorem j_X8_precision_J60 {l : Launch} {g : Gt} (hl : l.stackTraces = false) {μ : Mm} {ν : Mm} {o : Nat → Int64} {dd : Nat → UInt64} {kb27 : (Int32 → Int32 → Int32 → Mm → Option (UInt32 × Mm))} {kx102 : (Int32 → Int32 → Mm → Option (UInt32 × Mm))} {x1 : Int32} {x2 : Int32} {x3 : Int32} {x4 : Int32}  {res : UInt32 × Mm} (hb27 : ∀ (v2 : Int32) (v3 : Int32) (v4 : Int32) (ν' : Mm), kb27 v2 v3 v4 ν' = some res → E l g z_X8_precision 27 [(0, .ref (gaM g 0)), (1, .int x1), (2, .int v2), (3, .int v3), (4, .int v4)] [] (μ, ν', o, dd) 0 (QM g (.inl (some (.float res.1))) (μ, res.2, o, dd) 0)) (hx102 : ∀ (w2 : Int32) (w3 : Int32) (ν' : Mm), kx102 w2 w3 ν' = some res → E l g z_X8_precision 102 [(0, .ref (gaM g 0)), (2, .int w2), (3, .int w3)] [] (μ, ν', o, dd) 0 (QM g (.inl (some (.float res.1))) (μ, res.2, o, dd) 0)) (hf : f_X8_precision_J60 kb27 kx102 x1 x2 x3 x4 ν = some res) : E l g z_X8_precision 60 [(0, .ref (gaM g 0)), (1, .int x1), (2, .int x2), (3, .int x3), (4, .int x4)] [] (μ, ν, o, dd) 0 (QM g (.inl (some (.float res.1))) (μ, res.2, o, dd) 0) := by
  unfold f_X8_precision_J60 at hf
  refine E_aload_n 61 0 dX8_precision_60 rfl rfl rfl ?_
  refine E_iload_n 62 1 dX8_precision_61 rfl rfl rfl ?_
  refine E_iload 64 4 dX8_precision_62 rfl rfl ?_
  obtain ⟨r7, hc8, hf⟩ := bnd hf
  refine E_callVM1 67 0 [] [.int r7.1] (c_X8_wasReason hl hc8) my_X8_wasReason rc_X8 kl_X8_197 rfl rfl (Nat.le_of_ble_eq_true rfl) (rmok rfl) dX8_precision_64 rfl rfl rfl ?_
  refine E_if_ne 73 70 dX8_precision_67 (by decide) rfl (fun c9 => ?_) (fun c9 => ?_)
  · have hf := ite_e c9 hf
    refine E_iinc 76 [(3, .int (x3 + 1)), (0, .ref (gaM g 0)), (1, .int x1), (2, .int x2), (4, .int x4)] 3 (v := x3 + 1) dX8_precision_73 rfl (by rw [cst_iconst1]) (by decide) rfl rfl ?_
    refine E_iload_n 77 3 dX8_precision_76 rfl rfl rfl ?_
    refine E_aload_n 78 1 dX8_precision_77 rfl rfl rfl ?_
    refine E_getMr 81 fg_X8_38 dX8_precision_78 rfl ?_
    refine E_iload 83 4 dX8_precision_81 rfl rfl ?_
    obtain ⟨h10, hf⟩ := chk_some hf
    refine E_caldM 84 (k := 10) (n := 200) rfl (by decide) h10 dX8_precision_83 rfl ?_
    refine E_bipush 86 102 dX8_precision_84 cst_bipush102 rfl ?_
    refine E_icmp_ne 93 89 dX8_precision_86 (by decide) rfl (fun c11 => ?_) (fun c11 => ?_)
    · have hf := ite_e c11 hf
      refine E_iconst 94 0 dX8_precision_93 cst_iconst0 rfl ?_
      refine E_iadd 95 dX8_precision_94 rfl ?_
      refine E_istore_n 96 [(2, .int (x2 + 0)), (3, .int (x3 + 1)), (0, .ref (gaM g 0)), (1, .int x1), (4, .int x4)] dX8_precision_95 rfl (by decide) rfl rfl ?_
      refine E_iinc 99 [(4, .int (x4 + 1)), (2, .int (x2 + 0)), (3, .int (x3 + 1)), (0, .ref (gaM g 0)), (1, .int x1)] 4 (v := x4 + 1) dX8_precision_96 rfl (by rw [cst_iconst1]) (by decide) rfl rfl ?_
      refine E_goto 27 dX8_precision_99 (by decide) ?_
      refine E_sub [3, 4, 1, 2, 0] rfl ?_
      exact hb27 (x2 + 0) (x3 + 1) (x4 + 1) r7.2 hf
    · have hf := ite_t c11 hf
      refine E_iconst 90 1 dX8_precision_89 cst_iconst1 rfl ?_
      refine E_goto 94 dX8_precision_90 (by decide) ?_
      refine E_iadd 95 dX8_precision_94 rfl ?_
      refine E_istore_n 96 [(2, .int (x2 + 1)), (3, .int (x3 + 1)), (0, .ref (gaM g 0)), (1, .int x1), (4, .int x4)] dX8_precision_95 rfl (by decide) rfl rfl ?_
      refine E_iinc 99 [(4, .int (x4 + 1)), (2, .int (x2 + 1)), (3, .int (x3 + 1)), (0, .ref (gaM g 0)), (1, .int x1)] 4 (v := x4 + 1) dX8_precision_96 rfl (by rw [cst_iconst1]) (by decide) rfl rfl ?_
      refine E_goto 27 dX8_precision_99 (by decide) ?_
      refine E_sub [3, 4, 1, 2, 0] rfl ?_
      exact hb27 (x2 + 1) (x3 + 1) (x4 + 1) r7.2 hf
  · have hf := ite_t c9 hf
    refine E_goto 96 dX8_precision_70 (by decide) ?_
    refine E_iinc 99 [(4, .int (x4 + 1)), (0, .ref (gaM g 0)), (1, .int x1), (2, .int x2), (3, .int x3)] 4 (v := x4 + 1) dX8_precision_96 rfl (by rw [cst_iconst1]) (by decide) rfl rfl ?_
    refine E_goto 27 dX8_precision_99 (by decide) ?_
    refine E_sub [1, 2, 3, 4, 0] rfl ?_
    exact hb27 x2 x3 (x4 + 1) r7.2 hf
set_option maxRecDepth 100000 in
set_option maxHeartbeats 4000000 in
theorem l_X8_precision_L27 {l : Launch} {g : Gt} (hl : l.stackTraces = false) {μ : Mm} {o : Nat → Int64} {dd : Nat → UInt64} {kx102 : (Int32 → Int32 → Mm → Option (UInt32 × Mm))} {x1 : Int32} {res : UInt32 × Mm} (hx102 : ∀ (w2 : Int32) (w3 : Int32) (ν' : Mm), kx102 w2 w3 ν' = some res → E l g z_X8_precision 102 [(0, .ref (gaM g 0)), (2, .int w2), (3, .int w3)] [] (μ, ν', o, dd) 0 (QM g (.inl (some (.float res.1))) (μ, res.2, o, dd) 0)) : ∀ (n : Nat) (x2 : Int32) (x3 : Int32) (x4 : Int32) (ν : Mm), f_X8_precision_L27 kx102 x1 n x2 x3 x4 ν = some res → E l g z_X8_precision 27 [(0, .ref (gaM g 0)), (1, .int x1), (2, .int x2), (3, .int x3), (4, .int x4)] [] (μ, ν, o, dd) 0 (QM g (.inl (some (.float res.1))) (μ, res.2, o, dd) 0) := by
  intro n
  induction n with
  | zero => intro x2 x3 x4 ν hf; cases hf
  | succ n ih =>
    intro x2 x3 x4 ν hf
    refine E_iload 29 4 dX8_precision_27 rfl rfl ?_
    refine E_aload_n 30 0 dX8_precision_29 rfl rfl rfl ?_
    refine E_getM 33 fg_X8_120 dX8_precision_30 rfl ?_
    refine E_icmp_ge 102 36 dX8_precision_33 (by decide) rfl (fun c4 => ?_) (fun c4 => ?_)
    · have hf := ite_t c4 hf
      refine E_sub [0, 2, 3] rfl ?_
      exact hx102 x2 x3 ν hf
    · have hf := ite_e c4 hf
      refine E_aload_n 37 0 dX8_precision_36 rfl rfl rfl ?_
      refine E_getMr 40 fg_X8_38 dX8_precision_37 rfl ?_
      refine E_iload 42 4 dX8_precision_40 rfl rfl ?_
      obtain ⟨h5, hf⟩ := chk_some hf
      refine E_caldM 43 (k := 10) (n := 200) rfl (by decide) h5 dX8_precision_42 rfl ?_
      refine E_bipush 45 102 dX8_precision_43 cst_bipush102 rfl ?_
      refine E_icmp_eq 60 48 dX8_precision_45 (by decide) rfl (fun c6 => ?_) (fun c6 => ?_)
      · have hf := ite_t c6 hf
        refine E_sub [0, 1, 2, 3, 4] rfl ?_
        exact j_X8_precision_J60 hl ih hx102 hf
      · have hf := ite_e c6 hf
        refine E_aload_n 49 0 dX8_precision_48 rfl rfl rfl ?_
        refine E_getMr 52 fg_X8_38 dX8_precision_49 rfl ?_
        refine E_iload 54 4 dX8_precision_52 rfl rfl ?_
        obtain ⟨h12, hf⟩ := chk_some hf
        refine E_caldM 55 (k := 10) (n := 200) rfl (by decide) h12 dX8_precision_54 rfl ?_
        refine E_bipush 57 99 dX8_precision_55 cst_bipush99 rfl ?_
        refine E_icmp_ne 96 60 dX8_precision_57 (by decide) rfl (fun c13 => ?_) (fun c13 => ?_)
        · have hf := ite_e c13 hf
          refine E_iinc 99 [(4, .int (x4 + 1)), (0, .ref (gaM g 0)), (1, .int x1), (2, .int x2), (3, .int x3)] 4 (v := x4 + 1) dX8_precision_96 rfl (by rw [cst_iconst1]) (by decide) rfl rfl ?_
          refine E_goto 27 dX8_precision_99 (by decide) ?_
          refine E_sub [1, 2, 3, 4, 0] rfl ?_
          exact ih x2 x3 (x4 + 1) ν hf
        · have hf := ite_t c13 hf
          refine E_sub [0, 1, 2, 3, 4] rfl ?_
          exact j_X8_precision_J60 hl ih hx102 hf
set_option maxRecDepth 100000 in
set_option maxHeartbeats 4000000 in
theorem c_X8_precision {l : Launch} {g : Gt} (hl : l.stackTraces = false) {a1 : Int32} {μ : Mm} {ν : Mm} {o : Nat → Int64} {dd : Nat → UInt64} {res : UInt32 × Mm} (hf : f_X8_precision a1 ν = some res) : CM l g z_X8_precision yX8_precision [.ref (gaM g 0), .int a1] (μ, ν, o, dd) 0 (.inl (some (.float res.1))) (μ, res.2, o, dd) := by
  unfold f_X8_precision at hf
  refine CM_of_E rfl rfl (by decide +kernel) rfl (Nat.le_of_ble_eq_true rfl) hl ?_
  refine E_aload_n 1 0 dX8_precision_0 rfl rfl rfl ?_
  refine E_iconst 2 0 dX8_precision_1 cst_iconst0 rfl ?_
  refine E_putM 5 fp_X8_82 dX8_precision_2 rfl ?_
  refine E_aload_n 6 0 dX8_precision_5 rfl rfl rfl ?_
  refine E_iload_n 7 1 dX8_precision_6 rfl rfl rfl ?_
  obtain ⟨r1, hc2, hf⟩ := bnd hf
  refine E_callVM1 10 0 [] [.int r1] (c_X8_isRule hl hc2) my_X8_isRule rc_X8 kl_X8_190 rfl rfl (Nat.le_of_ble_eq_true rfl) (rmok rfl) dX8_precision_7 rfl rfl rfl ?_
  refine E_if_ne 20 13 dX8_precision_10 (by decide) rfl (fun c3 => ?_) (fun c3 => ?_)
  · have hf := ite_e c3 hf
    refine E_iconst 21 0 dX8_precision_20 cst_iconst0 rfl ?_
    refine E_istore_n 22 [(2, .int 0), (0, .ref (gaM g 0)), (1, .int a1)] dX8_precision_21 rfl (by decide) rfl rfl ?_
    refine E_iconst 23 0 dX8_precision_22 cst_iconst0 rfl ?_
    refine E_istore_n 24 [(3, .int 0), (2, .int 0), (0, .ref (gaM g 0)), (1, .int a1)] dX8_precision_23 rfl (by decide) rfl rfl ?_
    refine E_iconst 25 0 dX8_precision_24 cst_iconst0 rfl ?_
    refine E_istore 27 [(4, .int 0), (3, .int 0), (2, .int 0), (0, .ref (gaM g 0)), (1, .int a1)] dX8_precision_25 (by decide) rfl rfl ?_
    refine E_sub [3, 4, 2, 1, 0] rfl ?_
    refine l_X8_precision_L27 hl (fun y14 y15 m16 hf => ?_) _ _ _ _ _ hf
    · refine E_iload_n 103 2 dX8_precision_102 rfl rfl rfl ?_
      refine E_if_ne 115 106 dX8_precision_103 (by decide) rfl (fun c17 => ?_) (fun c17 => ?_)
      · have hf := ite_e c17 hf
        refine E_iload_n 116 1 dX8_precision_115 rfl rfl rfl ?_
        refine E_i2f 117 dX8_precision_116 rfl ?_
        refine E_iload_n 118 2 dX8_precision_117 rfl rfl rfl ?_
        refine E_i2f 119 dX8_precision_118 rfl ?_
        obtain ⟨h18, hf⟩ := gx32_some hf
        refine E_fdiv 120 dX8_precision_119 h18 rfl ?_
        cases hf
        exact E_fret dX8_precision_120 rfl (Nat.le_of_ble_eq_true rfl) (Nat.le_of_ble_eq_true rfl)
      · have hf := ite_t c17 hf
        refine E_aload_n 107 0 dX8_precision_106 rfl rfl rfl ?_
        refine E_iconst 108 2 dX8_precision_107 cst_iconst2 rfl ?_
        obtain ⟨r19, hc20, hf⟩ := bnd hf
        refine E_callVM1 111 0 [] [.int r19.1] (c_X8_fails hl hc20) my_X8_fails rc_X8 kl_X8_92 rfl rfl (Nat.le_of_ble_eq_true rfl) (rmok rfl) dX8_precision_108 rfl rfl rfl ?_
        refine E_i2f 112 dX8_precision_111 rfl ?_
        refine E_goto 120 dX8_precision_112 (by decide) ?_
        cases hf
        exact E_fret dX8_precision_120 rfl (Nat.le_of_ble_eq_true rfl) (Nat.le_of_ble_eq_true rfl)
  · have hf := ite_t c3 hf
    refine E_aload_n 14 0 dX8_precision_13 rfl rfl rfl ?_
    refine E_iconst 15 1 dX8_precision_14 cst_iconst1 rfl ?_
    obtain ⟨r21, hc22, hf⟩ := bnd hf
    refine E_callVM1 18 0 [] [.int r21.1] (c_X8_fails hl hc22) my_X8_fails rc_X8 kl_X8_92 rfl rfl (Nat.le_of_ble_eq_true rfl) (rmok rfl) dX8_precision_15 rfl rfl rfl ?_
    refine E_i2f 19 dX8_precision_18 rfl ?_
    cases hf
    exact E_fret dX8_precision_19 rfl (Nat.le_of_ble_eq_true rfl) (Nat.le_of_ble_eq_true rfl)
set_option maxRecDepth 100000 in
set_option maxHeartbeats 4000000 in
theorem l_X8_meanScore_L23 {l : Launch} {g : Gt} (hl : l.stackTraces = false) {μ : Mm} {ν : Mm} {o : Nat → Int64} {dd : Nat → UInt64}   {res : UInt64 × Mm} : ∀ (n : Nat) (x1 : Int32) (x2 : Int32) , f_X8_meanScore_L23 ν n x1 x2 = some res → E l g z_X8_meanScore 23 [(0, .ref (gaM g 0)), (1, .int x1), (2, .int x2)] [] (μ, ν, o, dd) 0 (QM g (.inl (some (.double res.1))) (μ, res.2, o, dd) 0) := by
  intro n
  induction n with
  | zero => intro x1 x2 hf; cases hf
  | succ n ih =>
    intro x1 x2 hf
    refine E_iload_n 24 2 dX8_meanScore_23 rfl rfl rfl ?_
    refine E_aload_n 25 0 dX8_meanScore_24 rfl rfl rfl ?_
    refine E_getM 28 fg_X8_120 dX8_meanScore_25 rfl ?_
    refine E_icmp_ge 46 31 dX8_meanScore_28 (by decide) rfl (fun c2 => ?_) (fun c2 => ?_)
    · have hf := ite_t c2 hf
      refine E_iload_n 47 1 dX8_meanScore_46 rfl rfl rfl ?_
      refine E_i2d 48 dX8_meanScore_47 rfl ?_
      refine E_aload_n 49 0 dX8_meanScore_48 rfl rfl rfl ?_
      refine E_getM 52 fg_X8_120 dX8_meanScore_49 rfl ?_
      refine E_i2d 53 dX8_meanScore_52 rfl ?_
      obtain ⟨h3, hf⟩ := gx64_some hf
      refine E_ddiv 54 dX8_meanScore_53 h3 rfl ?_
      cases hf
      exact E_dret dX8_meanScore_54 rfl (Nat.le_of_ble_eq_true rfl) (Nat.le_of_ble_eq_true rfl)
    · have hf := ite_e c2 hf
      refine E_iload_n 32 1 dX8_meanScore_31 rfl rfl rfl ?_
      refine E_aload_n 33 0 dX8_meanScore_32 rfl rfl rfl ?_
      refine E_getMr 36 fg_X8_35 dX8_meanScore_33 rfl ?_
      refine E_iload_n 37 2 dX8_meanScore_36 rfl rfl rfl ?_
      obtain ⟨h4, hf⟩ := chk_some hf
      refine E_ialdM 38 (k := 9) (n := 200) rfl (by decide) h4 dX8_meanScore_37 rfl ?_
      refine E_iadd 39 dX8_meanScore_38 rfl ?_
      refine E_istore_n 40 [(1, .int (x1 + (ν 9 x2.toNatClampNeg))), (0, .ref (gaM g 0)), (2, .int x2)] dX8_meanScore_39 rfl (by decide) rfl rfl ?_
      refine E_iinc 43 [(2, .int (x2 + 1)), (1, .int (x1 + (ν 9 x2.toNatClampNeg))), (0, .ref (gaM g 0))] 2 (v := x2 + 1) dX8_meanScore_40 rfl (by rw [cst_iconst1]) (by decide) rfl rfl ?_
      refine E_goto 23 dX8_meanScore_43 (by decide) ?_
      refine E_sub [2, 1, 0] rfl ?_
      exact ih (x1 + (ν 9 x2.toNatClampNeg)) (x2 + 1) hf
set_option maxRecDepth 100000 in
set_option maxHeartbeats 4000000 in
theorem c_X8_meanScore {l : Launch} {g : Gt} (hl : l.stackTraces = false)  {μ : Mm} {ν : Mm} {o : Nat → Int64} {dd : Nat → UInt64} {res : UInt64 × Mm} (hf : f_X8_meanScore ν = some res) : CM l g z_X8_meanScore yX8_meanScore [.ref (gaM g 0)] (μ, ν, o, dd) 0 (.inl (some (.double res.1))) (μ, res.2, o, dd) := by
  unfold f_X8_meanScore at hf
  refine CM_of_E rfl rfl (by decide +kernel) rfl (Nat.le_of_ble_eq_true rfl) hl ?_
  refine E_aload_n 1 0 dX8_meanScore_0 rfl rfl rfl ?_
  refine E_iconst 2 0 dX8_meanScore_1 cst_iconst0 rfl ?_
  refine E_putM 5 fp_X8_82 dX8_meanScore_2 rfl ?_
  refine E_aload_n 6 0 dX8_meanScore_5 rfl rfl rfl ?_
  refine E_getM 9 fg_X8_120 dX8_meanScore_6 rfl ?_
  refine E_if_ne 19 12 dX8_meanScore_9 (by decide) rfl (fun c1 => ?_) (fun c1 => ?_)
  · have hf := ite_e c1 hf
    refine E_iconst 20 0 dX8_meanScore_19 cst_iconst0 rfl ?_
    refine E_istore_n 21 [(1, .int 0), (0, .ref (gaM g 0))] dX8_meanScore_20 rfl (by decide) rfl rfl ?_
    refine E_iconst 22 0 dX8_meanScore_21 cst_iconst0 rfl ?_
    refine E_istore_n 23 [(2, .int 0), (1, .int 0), (0, .ref (gaM g 0))] dX8_meanScore_22 rfl (by decide) rfl rfl ?_
    refine E_sub [2, 1, 0] rfl ?_
    refine l_X8_meanScore_L23 hl  _ _ _ hf
  · have hf := ite_t c1 hf
    refine E_aload_n 13 0 dX8_meanScore_12 rfl rfl rfl ?_
    refine E_iconst 14 1 dX8_meanScore_13 cst_iconst1 rfl ?_
    obtain ⟨r5, hc6, hf⟩ := bnd hf
    refine E_callVM1 17 0 [] [.int r5.1] (c_X8_fails hl hc6) my_X8_fails rc_X8 kl_X8_92 rfl rfl (Nat.le_of_ble_eq_true rfl) (rmok rfl) dX8_meanScore_14 rfl rfl rfl ?_
    refine E_i2d 18 dX8_meanScore_17 rfl ?_
    cases hf
    exact E_dret dX8_meanScore_18 rfl (Nat.le_of_ble_eq_true rfl) (Nat.le_of_ble_eq_true rfl)
set_option maxRecDepth 100000 in
set_option maxHeartbeats 4000000 in
theorem l_X8_turnover_L9 {l : Launch} {g : Gt} (hl : l.stackTraces = false) {μ : Mm} {ν : Mm} {o : Nat → Int64} {dd : Nat → UInt64}   {res : Int64 × Mm} : ∀ (n : Nat) (x1 : Int64) (x3 : Int32) , f_X8_turnover_L9 ν n x1 x3 = some res → E l g z_X8_turnover 9 [(0, .ref (gaM g 0)), (1, .long x1), (3, .int x3)] [] (μ, ν, o, dd) 0 (QM g (.inl (some (.long res.1))) (μ, res.2, o, dd) 0) := by
  intro n
  induction n with
  | zero => intro x1 x3 hf; cases hf
  | succ n ih =>
    intro x1 x3 hf
    refine E_iload_n 10 2 dX8_turnover_9 rfl rfl rfl ?_
    refine E_aload_n 11 0 dX8_turnover_10 rfl rfl rfl ?_
    refine E_getM 14 fg_X8_120 dX8_turnover_11 rfl ?_
    refine E_icmp_ge 33 17 dX8_turnover_14 (by decide) rfl (fun c1 => ?_) (fun c1 => ?_)
    · have hf := ite_t c1 hf
      refine E_lload_n 34 1 dX8_turnover_33 rfl rfl rfl ?_
      cases hf
      exact E_lret dX8_turnover_34 rfl (Nat.le_of_ble_eq_true rfl) (Nat.le_of_ble_eq_true rfl)
    · have hf := ite_e c1 hf
      refine E_lload_n 18 1 dX8_turnover_17 rfl rfl rfl ?_
      refine E_aload_n 19 0 dX8_turnover_18 rfl rfl rfl ?_
      refine E_getMr 22 fg_X8_23 dX8_turnover_19 rfl ?_
      refine E_iload_n 23 2 dX8_turnover_22 rfl rfl rfl ?_
      obtain ⟨h2, hf⟩ := chk_some hf
      refine E_ialdM 24 (k := 5) (n := 200) rfl (by decide) h2 dX8_turnover_23 rfl ?_
      refine E_i2l 25 dX8_turnover_24 rfl ?_
      refine E_ladd 26 dX8_turnover_25 rfl ?_
      refine E_lstore_n 27 [(1, .long (x1 + (ν 5 x3.toNatClampNeg : Int32).toInt64)), (0, .ref (gaM g 0)), (3, .int x3)] dX8_turnover_26 rfl (by decide) rfl rfl ?_
      refine E_iinc 30 [(3, .int (x3 + 1)), (1, .long (x1 + (ν 5 x3.toNatClampNeg : Int32).toInt64)), (0, .ref (gaM g 0))] 2 (v := x3 + 1) dX8_turnover_27 rfl (by rw [cst_iconst1]) (by decide) rfl rfl ?_
      refine E_goto 9 dX8_turnover_30 (by decide) ?_
      refine E_sub [2, 1, 0] rfl ?_
      exact ih (x1 + (ν 5 x3.toNatClampNeg : Int32).toInt64) (x3 + 1) hf
set_option maxRecDepth 100000 in
set_option maxHeartbeats 4000000 in
theorem c_X8_turnover {l : Launch} {g : Gt} (hl : l.stackTraces = false)  {μ : Mm} {ν : Mm} {o : Nat → Int64} {dd : Nat → UInt64} {res : Int64 × Mm} (hf : f_X8_turnover ν = some res) : CM l g z_X8_turnover yX8_turnover [.ref (gaM g 0)] (μ, ν, o, dd) 0 (.inl (some (.long res.1))) (μ, res.2, o, dd) := by
  unfold f_X8_turnover at hf
  refine CM_of_E rfl rfl (by decide +kernel) rfl (Nat.le_of_ble_eq_true rfl) hl ?_
  refine E_aload_n 1 0 dX8_turnover_0 rfl rfl rfl ?_
  refine E_iconst 2 0 dX8_turnover_1 cst_iconst0 rfl ?_
  refine E_putM 5 fp_X8_82 dX8_turnover_2 rfl ?_
  refine E_lconst 6 0 dX8_turnover_5 (by decide) rfl ?_
  refine E_lstore_n 7 [(1, .long 0), (0, .ref (gaM g 0))] dX8_turnover_6 rfl (by decide) rfl rfl ?_
  refine E_iconst 8 0 dX8_turnover_7 cst_iconst0 rfl ?_
  refine E_istore_n 9 [(3, .int 0), (1, .long 0), (0, .ref (gaM g 0))] dX8_turnover_8 rfl (by decide) rfl rfl ?_
  refine E_sub [2, 1, 0] rfl ?_
  refine l_X8_turnover_L9 hl  _ _ _ hf
set_option maxRecDepth 100000 in
set_option maxHeartbeats 4000000 in
theorem c_X8_isSound {l : Launch} {g : Gt} (hl : l.stackTraces = false)  {μ : Mm} {ν : Mm} {o : Nat → Int64} {dd : Nat → UInt64} {res : Int32 × Mm} (hf : f_X8_isSound ν = some res) : CM l g z_X8_isSound yX8_isSound [.ref (gaM g 0)] (μ, ν, o, dd) 0 (.inl (some (.int res.1))) (μ, res.2, o, dd) := by
  unfold f_X8_isSound at hf
  refine CM_of_E rfl rfl (by decide +kernel) rfl (Nat.le_of_ble_eq_true rfl) hl ?_
  refine E_aload_n 1 0 dX8_isSound_0 rfl rfl rfl ?_
  refine E_iconst 2 0 dX8_isSound_1 cst_iconst0 rfl ?_
  refine E_putM 5 fp_X8_82 dX8_isSound_2 rfl ?_
  refine E_iconst 6 1 dX8_isSound_5 cst_iconst1 rfl ?_
  cases hf
  exact E_zret (v := 1) rfl dX8_isSound_6 rfl (Nat.le_of_ble_eq_true rfl) (Nat.le_of_ble_eq_true rfl)
