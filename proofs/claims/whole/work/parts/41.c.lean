set_option maxRecDepth 100000 in
set_option maxHeartbeats 4000000 in
theorem c_X6_findReasons_13 {l : Launch} {g : Gt} (hl : l.stackTraces = false)  {μ : Mm} {ν : Mm} {o : Nat → Int64} {dd : Nat → UInt64} {res : Int32} (hf : f_X6_findReasons_13 μ = some res) : CM l g z_X6_findReasons yX6_findReasons [.ref (gaC g 26), .ref (gaC g 13)] (μ, ν, o, dd) 0 (.inl (some (.int res))) (μ, ν, o, dd) := by
  unfold f_X6_findReasons_13 at hf
  refine CM_of_E rfl rfl (by decide +kernel) rfl (Nat.le_of_ble_eq_true rfl) hl ?_
  refine E_iconst 1 0 dX6_findReasons_0 cst_iconst0 rfl ?_
  refine E_istore_n 2 [(2, .int 0), (0, .ref (gaC g 26)), (1, .ref (gaC g 13))] dX6_findReasons_1 rfl (by decide) rfl rfl ?_
  refine E_iconst 3 0 dX6_findReasons_2 cst_iconst0 rfl ?_
  refine E_istore_n 4 [(3, .int 0), (2, .int 0), (0, .ref (gaC g 26)), (1, .ref (gaC g 13))] dX6_findReasons_3 rfl (by decide) rfl rfl ?_
  refine E_sub [2, 3, 1, 0] rfl ?_
  refine l_X6_findReasons_13_L4 hl  _ _ _ hf
set_option maxRecDepth 100000 in
set_option maxHeartbeats 4000000 in
theorem l_X6_weightOf_L4 {l : Launch} {g : Gt} (hl : l.stackTraces = false) {μ : Mm} {ν : Mm} {o : Nat → Int64} {dd : Nat → UInt64}  {x1 : Int32} {res : Int32} : ∀ (n : Nat) (x2 : Int32) (x3 : Int32) , f_X6_weightOf_L4 x1 μ n x2 x3 = some res → E l g z_X6_weightOf 4 [(0, .ref (gaC g 26)), (1, .int x1), (2, .int x2), (3, .int x3)] [] (μ, ν, o, dd) 0 (QM g (.inl (some (.int res))) (μ, ν, o, dd) 0) := by
  intro n
  induction n with
  | zero => intro x2 x3 hf; cases hf
  | succ n ih =>
    intro x2 x3 hf
    refine E_iload_n 5 3 dX6_weightOf_4 rfl rfl rfl ?_
    refine E_aload_n 6 0 dX6_weightOf_5 rfl rfl rfl ?_
    refine E_getC 9 fg_X6_18 dX6_weightOf_6 rfl ?_
    refine E_icmp_ge 35 12 dX6_weightOf_9 (by decide) rfl (fun c1 => ?_) (fun c1 => ?_)
    · have hf := ite_t c1 hf
      refine E_iload_n 36 2 dX6_weightOf_35 rfl rfl rfl ?_
      cases hf
      exact E_iret dX6_weightOf_36 rfl (Nat.le_of_ble_eq_true rfl) (Nat.le_of_ble_eq_true rfl)
    · have hf := ite_e c1 hf
      refine E_iload_n 13 1 dX6_weightOf_12 rfl rfl rfl ?_
      refine E_iload_n 14 3 dX6_weightOf_13 rfl rfl rfl ?_
      obtain ⟨r2, hc3, hf⟩ := bnd hf
      refine E_callSN1 17 0 [] [.int r2] (c_X7_hasBit hl hc3) my_X7_hasBit kl_X6_29 rfl rfl (Nat.le_of_ble_eq_true rfl) (rmok rfl) dX6_weightOf_14 rfl rfl rfl ?_
      refine E_if_eq 29 20 dX6_weightOf_17 (by decide) rfl (fun c4 => ?_) (fun c4 => ?_)
      · have hf := ite_t c4 hf
        refine E_iinc 32 [(3, .int (x3 + 1)), (0, .ref (gaC g 26)), (1, .int x1), (2, .int x2)] 3 (v := x3 + 1) dX6_weightOf_29 rfl (by rw [cst_iconst1]) (by decide) rfl rfl ?_
        refine E_goto 4 dX6_weightOf_32 (by decide) ?_
        refine E_sub [1, 2, 3, 0] rfl ?_
        exact ih x2 (x3 + 1) hf
      · have hf := ite_e c4 hf
        refine E_iload_n 21 2 dX6_weightOf_20 rfl rfl rfl ?_
        refine E_aload_n 22 0 dX6_weightOf_21 rfl rfl rfl ?_
        refine E_getCr 25 fg_X6_15 dX6_weightOf_22 rfl ?_
        refine E_iload_n 26 3 dX6_weightOf_25 rfl rfl rfl ?_
        obtain ⟨h5, hf⟩ := chk_some hf
        refine E_ialdC 27 (k := 28) (n := 12) rfl (by decide) h5 dX6_weightOf_26 rfl ?_
        refine E_iadd 28 dX6_weightOf_27 rfl ?_
        refine E_istore_n 29 [(2, .int (x2 + (μ 28 x3.toNatClampNeg))), (0, .ref (gaC g 26)), (1, .int x1), (3, .int x3)] dX6_weightOf_28 rfl (by decide) rfl rfl ?_
        refine E_iinc 32 [(3, .int (x3 + 1)), (2, .int (x2 + (μ 28 x3.toNatClampNeg))), (0, .ref (gaC g 26)), (1, .int x1)] 3 (v := x3 + 1) dX6_weightOf_29 rfl (by rw [cst_iconst1]) (by decide) rfl rfl ?_
        refine E_goto 4 dX6_weightOf_32 (by decide) ?_
        refine E_sub [2, 3, 1, 0] rfl ?_
        exact ih (x2 + (μ 28 x3.toNatClampNeg)) (x3 + 1) hf
set_option maxRecDepth 100000 in
set_option maxHeartbeats 4000000 in
theorem c_X6_weightOf {l : Launch} {g : Gt} (hl : l.stackTraces = false) {a1 : Int32} {μ : Mm} {ν : Mm} {o : Nat → Int64} {dd : Nat → UInt64} {res : Int32} (hf : f_X6_weightOf a1 μ = some res) : CM l g z_X6_weightOf yX6_weightOf [.ref (gaC g 26), .int a1] (μ, ν, o, dd) 0 (.inl (some (.int res))) (μ, ν, o, dd) := by
  unfold f_X6_weightOf at hf
  refine CM_of_E rfl rfl (by decide +kernel) rfl (Nat.le_of_ble_eq_true rfl) hl ?_
  refine E_iconst 1 0 dX6_weightOf_0 cst_iconst0 rfl ?_
  refine E_istore_n 2 [(2, .int 0), (0, .ref (gaC g 26)), (1, .int a1)] dX6_weightOf_1 rfl (by decide) rfl rfl ?_
  refine E_iconst 3 0 dX6_weightOf_2 cst_iconst0 rfl ?_
  refine E_istore_n 4 [(3, .int 0), (2, .int 0), (0, .ref (gaC g 26)), (1, .int a1)] dX6_weightOf_3 rfl (by decide) rfl rfl ?_
  refine E_sub [2, 3, 1, 0] rfl ?_
  refine l_X6_weightOf_L4 hl  _ _ _ hf
set_option maxRecDepth 100000 in
set_option maxHeartbeats 4000000 in
theorem l_X2_keep_13_L6 {l : Launch} {g : Gt} (hl : l.stackTraces = false) {ν : Mm} {o : Nat → Int64} {dd : Nat → UInt64} {kx59 : (Int32 → Mm → Option (Mm))} {x1 : Int32} {x2 : Int32} {x3 : Int32} {res : Mm} (hx59 : ∀ (w5 : Int32) (μ' : Mm), kx59 w5 μ' = some res → E l g z_X2_keep 59 [(0, .ref (gaC g 29)), (1, .int x1), (2, .int x2), (3, .int x3), (5, .int w5)] [] (μ', ν, o, dd) 0 (QM g (.inl none) (res, ν, o, dd) 0)) : ∀ (n : Nat) (x5 : Int32) (x6 : Int32) (μ : Mm), f_X2_keep_13_L6 kx59 x1 x2 x3 n x5 x6 μ = some res → E l g z_X2_keep 6 [(0, .ref (gaC g 29)), (1, .int x1), (2, .int x2), (3, .int x3), (4, .ref (gaC g 13)), (5, .int x5), (6, .int x6)] [] (μ, ν, o, dd) 0 (QM g (.inl none) (res, ν, o, dd) 0) := by
  intro n
  induction n with
  | zero => intro x5 x6 μ hf; cases hf
  | succ n ih =>
    intro x5 x6 μ hf
    refine E_iload 8 6 dX2_keep_6 rfl rfl ?_
    refine E_aload 10 4 dX2_keep_8 rfl rfl ?_
    refine E_getCN 13 fg_X2_28 dX2_keep_10 rfl ?_
    refine E_icmp_ge 59 16 dX2_keep_13 (by decide) rfl (fun c1 => ?_) (fun c1 => ?_)
    · have hf := ite_t c1 hf
      refine E_sub [0, 1, 2, 3, 5] rfl ?_
      exact hx59 x5 μ hf
    · have hf := ite_e c1 hf
      refine E_iload 18 5 dX2_keep_16 rfl rfl ?_
      refine E_iload 20 6 dX2_keep_18 rfl rfl ?_
      refine E_aload 22 4 dX2_keep_20 rfl rfl ?_
      refine E_getCrN 25 fg_X2_34 dX2_keep_22 rfl ?_
      refine E_iload 27 6 dX2_keep_25 rfl rfl ?_
      obtain ⟨h2, hf⟩ := chk_some hf
      refine E_zaldC 28 (k := 24) (n := 30) rfl (by decide) h2 dX2_keep_27 rfl ?_
      obtain ⟨r3, hc4, hf⟩ := bnd hf
      refine E_callSN1 31 0 [] [.int r3] (c_X7_withBit hl hc4) my_X7_withBit kl_X2_38 rfl rfl (Nat.le_of_ble_eq_true rfl) (rmok rfl) dX2_keep_28 rfl rfl rfl ?_
      refine E_istore 33 [(5, .int r3), (0, .ref (gaC g 29)), (1, .int x1), (2, .int x2), (3, .int x3), (4, .ref (gaC g 13)), (6, .int x6)] dX2_keep_31 (by decide) rfl rfl ?_
      refine E_aload_n 34 1 dX2_keep_33 rfl rfl rfl ?_
      refine E_getCr 37 fg_X2_25 dX2_keep_34 rfl ?_
      refine E_iload_n 38 2 dX2_keep_37 rfl rfl rfl ?_
      refine E_bipush 40 30 dX2_keep_38 cst_bipush30 rfl ?_
      refine E_imul 41 dX2_keep_40 rfl ?_
      refine E_iload 43 6 dX2_keep_41 rfl rfl ?_
      refine E_iadd 44 dX2_keep_43 rfl ?_
      refine E_aload 46 5 dX2_keep_44 rfl rfl ?_
      refine E_getCrN 49 fg_X2_42 dX2_keep_46 rfl ?_
      refine E_iload 51 6 dX2_keep_49 rfl rfl ?_
      obtain ⟨h5, hf⟩ := chk_some hf
      refine E_ialdC 52 (k := 25) (n := 30) rfl (by decide) h5 dX2_keep_51 rfl ?_
      obtain ⟨h6, hf⟩ := chk_some hf
      refine E_iastC 53 (k := 34) (n := 6000) rfl (by decide) h6 dX2_keep_52 rfl ?_
      refine E_iinc 56 [(6, .int (x6 + 1)), (5, .int r3), (0, .ref (gaC g 29)), (1, .int x1), (2, .int x2), (3, .int x3), (4, .ref (gaC g 13))] 6 (v := x6 + 1) dX2_keep_53 rfl (by rw [cst_iconst1]) (by decide) rfl rfl ?_
      refine E_goto 6 dX2_keep_56 (by decide) ?_
      refine E_sub [2, 3, 4, 5, 6, 1, 0] rfl ?_
      exact ih r3 (x6 + 1) (up2 μ 34 ((x1 * 30) + x6).toNatClampNeg (μ 25 x6.toNatClampNeg)) hf
set_option maxRecDepth 100000 in
set_option maxHeartbeats 4000000 in
theorem c_X2_keep_13 {l : Launch} {g : Gt} (hl : l.stackTraces = false) {a1 : Int32} {a2 : Int32} {a3 : Int32} {μ : Mm} {ν : Mm} {o : Nat → Int64} {dd : Nat → UInt64} {res : Mm} (hf : f_X2_keep_13 a1 a2 a3 μ = some res) : CM l g z_X2_keep yX2_keep [.ref (gaC g 29), .int a1, .int a2, .int a3, .ref (gaC g 13)] (μ, ν, o, dd) 0 (.inl none) (res, ν, o, dd) := by
  unfold f_X2_keep_13 at hf
  refine CM_of_E rfl rfl (by decide +kernel) rfl (Nat.le_of_ble_eq_true rfl) hl ?_
  refine E_iconst 1 0 dX2_keep_0 cst_iconst0 rfl ?_
  refine E_istore 3 [(5, .int 0), (0, .ref (gaC g 29)), (1, .int a1), (2, .int a2), (3, .int a3), (4, .ref (gaC g 13))] dX2_keep_1 (by decide) rfl rfl ?_
  refine E_iconst 4 0 dX2_keep_3 cst_iconst0 rfl ?_
  refine E_istore 6 [(6, .int 0), (5, .int 0), (0, .ref (gaC g 29)), (1, .int a1), (2, .int a2), (3, .int a3), (4, .ref (gaC g 13))] dX2_keep_4 (by decide) rfl rfl ?_
  refine E_sub [2, 3, 4, 5, 6, 1, 0] rfl ?_
  refine l_X2_keep_13_L6 hl (fun y7 m8 hf => ?_) _ _ _ _ hf
  · refine E_aload_n 60 0 dX2_keep_59 rfl rfl rfl ?_
    refine E_getCr 63 fg_X2_22 dX2_keep_60 rfl ?_
    refine E_iload_n 64 1 dX2_keep_63 rfl rfl rfl ?_
    refine E_iload 66 4 dX2_keep_64 rfl rfl ?_
    obtain ⟨h9, hf⟩ := chk_some hf
    refine E_iastC 67 (k := 33) (n := 200) rfl (by decide) h9 dX2_keep_66 rfl ?_
    refine E_aload_n 68 0 dX2_keep_67 rfl rfl rfl ?_
    refine E_getCr 71 fg_X2_19 dX2_keep_68 rfl ?_
    refine E_iload_n 72 1 dX2_keep_71 rfl rfl rfl ?_
    refine E_iload_n 73 2 dX2_keep_72 rfl rfl rfl ?_
    obtain ⟨h10, hf⟩ := chk_some hf
    refine E_iastC 74 (k := 32) (n := 200) rfl (by decide) h10 dX2_keep_73 rfl ?_
    refine E_aload_n 75 0 dX2_keep_74 rfl rfl rfl ?_
    refine E_getCr 78 fg_X2_9 dX2_keep_75 rfl ?_
    refine E_iload_n 79 1 dX2_keep_78 rfl rfl rfl ?_
    refine E_iload_n 80 3 dX2_keep_79 rfl rfl rfl ?_
    obtain ⟨h11, hf⟩ := chk_some hf
    refine E_iastC 81 (k := 30) (n := 200) rfl (by decide) h11 dX2_keep_80 rfl ?_
    refine E_aload_n 82 0 dX2_keep_81 rfl rfl rfl ?_
    refine E_getCr 85 fg_X2_15 dX2_keep_82 rfl ?_
    refine E_iload_n 86 1 dX2_keep_85 rfl rfl rfl ?_
    refine E_bipush 88 45 dX2_keep_86 cst_bipush45 rfl ?_
    obtain ⟨h12, hf⟩ := chk_some hf
    refine E_castC 89 (k := 31) (n := 200) rfl (by decide) h12 dX2_keep_88 rfl ?_
    cases hf
    exact E_vret dX2_keep_89 rfl (Nat.le_of_ble_eq_true rfl) (Nat.le_of_ble_eq_true rfl)
set_option maxRecDepth 100000 in
set_option maxHeartbeats 4000000 in
theorem c_X2_raise {l : Launch} {g : Gt} (hl : l.stackTraces = false) {a1 : Int32} {μ : Mm} {ν : Mm} {o : Nat → Int64} {dd : Nat → UInt64} {res : Mm} (hf : f_X2_raise a1 μ = some res) : CM l g z_X2_raise yX2_raise [.ref (gaC g 29), .int a1] (μ, ν, o, dd) 0 (.inl none) (res, ν, o, dd) := by
  unfold f_X2_raise at hf
  refine CM_of_E rfl rfl (by decide +kernel) rfl (Nat.le_of_ble_eq_true rfl) hl ?_
  refine E_aload_n 1 0 dX2_raise_0 rfl rfl rfl ?_
  refine E_getCr 4 fg_X2_15 dX2_raise_1 rfl ?_
  refine E_iload_n 5 1 dX2_raise_4 rfl rfl rfl ?_
  refine E_bipush 7 111 dX2_raise_5 cst_bipush111 rfl ?_
  obtain ⟨h1, hf⟩ := chk_some hf
  refine E_castC 8 (k := 31) (n := 200) rfl (by decide) h1 dX2_raise_7 rfl ?_
  refine E_aload_n 9 0 dX2_raise_8 rfl rfl rfl ?_
  refine E_dup 10 dX2_raise_9 rfl rfl ?_
  refine E_getC 13 fg_X2_45 dX2_raise_10 rfl ?_
  refine E_iconst 14 1 dX2_raise_13 cst_iconst1 rfl ?_
  refine E_iadd 15 dX2_raise_14 rfl ?_
  refine E_putC 18 fp_X2_45 dX2_raise_15 rfl ?_
  cases hf
  exact E_vret dX2_raise_18 rfl (Nat.le_of_ble_eq_true rfl) (Nat.le_of_ble_eq_true rfl)
set_option maxRecDepth 100000 in
set_option maxHeartbeats 4000000 in
theorem c_X7_pay {l : Launch} {g : Gt} (hl : l.stackTraces = false) {a1 : Int32} {a2 : Int32} {a3 : Int32} {μ : Mm} {ν : Mm} {o : Nat → Int64} {dd : Nat → UInt64} {res : Nat × Int32 × Mm} (hf : f_X7_pay a1 a2 a3 μ = some res) : CM l g z_X7_pay yX7_pay [.ref (gaC g 0), .int a1, .int a2, .int a3] (μ, ν, o, dd) 3 (oc3 res.1 (some (.int res.2.1))) (res.2.2, ν, o, dd) := by
  unfold f_X7_pay at hf
  refine CM_of_E rfl rfl (by decide +kernel) rfl (Nat.le_of_ble_eq_true rfl) hl ?_
  refine E_aload_n 1 0 dX7_pay_0 rfl rfl rfl ?_
  refine E_iload_n 2 1 dX7_pay_1 rfl rfl rfl ?_
  obtain ⟨r1, hc2, hf⟩ := bnd hf
  refine E_callVC2 5 1 [] [] (c_X7_requireAccount hl hc2) my_X7_requireAccount rc_X7 kl_X7_69 rfl rfl (Nat.le_of_ble_eq_true rfl) (rmok rfl) dX7_pay_2 rfl rfl rfl (fun z3 => ?_) (fun z3 => ?_)
  · have hf := ite_t z3 hf
    refine E_aload_n 6 0 dX7_pay_5 rfl rfl rfl ?_
    refine E_iload_n 7 2 dX7_pay_6 rfl rfl rfl ?_
    obtain ⟨r4, hc5, hf⟩ := bnd hf
    refine E_callVC2 10 2 [] [] (c_X7_requireAccount hl hc5) my_X7_requireAccount rc_X7 kl_X7_69 rfl rfl (Nat.le_of_ble_eq_true rfl) (rmok rfl) dX7_pay_7 rfl rfl rfl (fun z6 => ?_) (fun z6 => ?_)
    · have hf := ite_t z6 hf
      refine E_iload_n 11 3 dX7_pay_10 rfl rfl rfl ?_
      refine E_iconst 12 1 dX7_pay_11 cst_iconst1 rfl ?_
      refine E_icmp_lt 22 15 dX7_pay_12 (by decide) rfl (fun c7 => ?_) (fun c7 => ?_)
      · have hf := ite_t c7 hf
        cases hf
        exact E_throw th_X7_41_45 tx_96 rfl dX7_pay_22 dX7_pay_25 dX7_pay_26 dX7_pay_28 dX7_pay_31 (Nat.le_of_ble_eq_true rfl) (Nat.le_of_ble_eq_true rfl) (Nat.le_of_ble_eq_true rfl) (Nat.le_of_ble_eq_true rfl) (Nat.le_of_ble_eq_true rfl) (Nat.le_of_ble_eq_true rfl)
      · have hf := ite_e c7 hf
        refine E_iload_n 16 3 dX7_pay_15 rfl rfl rfl ?_
        refine E_sipush 19 9999 dX7_pay_16 cst_sipush9999 rfl ?_
        refine E_icmp_le 32 22 dX7_pay_19 (by decide) rfl (fun c8 => ?_) (fun c8 => ?_)
        · have hf := ite_t c8 hf
          refine E_iload_n 33 1 dX7_pay_32 rfl rfl rfl ?_
          refine E_iload_n 34 2 dX7_pay_33 rfl rfl rfl ?_
          refine E_icmp_ne 47 37 dX7_pay_34 (by decide) rfl (fun c9 => ?_) (fun c9 => ?_)
          · have hf := ite_e c9 hf
            refine E_aload_n 48 0 dX7_pay_47 rfl rfl rfl ?_
            refine E_getCr 51 fg_X7_10 dX7_pay_48 rfl ?_
            refine E_getCrN 54 fg_X7_48 dX7_pay_51 rfl ?_
            refine E_getCN 57 fg_X7_84 dX7_pay_54 rfl ?_
            refine E_istore 59 [(4, .int (μ 2 4)), (0, .ref (gaC g 0)), (1, .int a1), (2, .int a2), (3, .int a3)] dX7_pay_57 (by decide) rfl rfl ?_
            refine E_iload 61 0 dX7_pay_59 rfl rfl ?_
            refine E_iload_n 62 2 dX7_pay_61 rfl rfl rfl ?_
            obtain ⟨r10, hc11, hf⟩ := bnd hf
            refine E_callS1 65 2 [] [.int r10] (c_X7_hasBit hl hc11) my_X7_hasBit kl_X7_76 rfl rfl (Nat.le_of_ble_eq_true rfl) (rmok rfl) dX7_pay_62 rfl rfl rfl ?_
            refine E_if_ne 77 68 dX7_pay_65 (by decide) rfl (fun c12 => ?_) (fun c12 => ?_)
            · have hf := ite_e c12 hf
              cases hf
              exact E_throw th_X7_57_61 tx_103 rfl dX7_pay_77 dX7_pay_80 dX7_pay_81 dX7_pay_83 dX7_pay_86 (Nat.le_of_ble_eq_true rfl) (Nat.le_of_ble_eq_true rfl) (Nat.le_of_ble_eq_true rfl) (Nat.le_of_ble_eq_true rfl) (Nat.le_of_ble_eq_true rfl) (Nat.le_of_ble_eq_true rfl)
            · have hf := ite_t c12 hf
              refine E_iload 70 0 dX7_pay_68 rfl rfl ?_
              refine E_iload_n 71 3 dX7_pay_70 rfl rfl rfl ?_
              obtain ⟨r13, hc14, hf⟩ := bnd hf
              refine E_callS1 74 2 [] [.int r13] (c_X7_hasBit hl hc14) my_X7_hasBit kl_X7_76 rfl rfl (Nat.le_of_ble_eq_true rfl) (rmok rfl) dX7_pay_71 rfl rfl rfl ?_
              refine E_if_eq 87 77 dX7_pay_74 (by decide) rfl (fun c15 => ?_) (fun c15 => ?_)
              · have hf := ite_t c15 hf
                refine E_aload_n 88 1 dX7_pay_87 rfl rfl rfl ?_
                refine E_getCr 91 fg_X7_10 dX7_pay_88 rfl ?_
                refine E_getCrN 94 fg_X7_105 dX7_pay_91 rfl ?_
                refine E_getCN 97 fg_X7_109 dX7_pay_94 rfl ?_
                refine E_sipush 100 200 dX7_pay_97 cst_sipush200 rfl ?_
                refine E_icmp_lt 113 103 dX7_pay_100 (by decide) rfl (fun c16 => ?_) (fun c16 => ?_)
                · have hf := ite_t c16 hf
                  refine E_aload_n 114 1 dX7_pay_113 rfl rfl rfl ?_
                  refine E_getCr 117 fg_X7_10 dX7_pay_114 rfl ?_
                  refine E_getCrN 120 fg_X7_105 dX7_pay_117 rfl ?_
                  refine E_iload_n 121 2 dX7_pay_120 rfl rfl rfl ?_
                  refine E_iload_n 122 3 dX7_pay_121 rfl rfl rfl ?_
                  refine E_iload_n 123 4 dX7_pay_122 rfl rfl rfl ?_
                  refine E_aload_n 124 1 dX7_pay_123 rfl rfl rfl ?_
                  refine E_getCr 127 fg_X7_10 dX7_pay_124 rfl ?_
                  refine E_getCN 130 fg_X7_62 dX7_pay_127 rfl ?_
                  obtain ⟨r17, hc18, hf⟩ := bnd hf
                  refine E_callVC1 133 2 [] [.int r17.1] (c_X4_append hl hc18) my_X4_append rc_X4 kl_X7_114 rfl rfl (Nat.le_of_ble_eq_true rfl) (rmok rfl) dX7_pay_130 rfl rfl rfl ?_
                  refine E_istore 135 [(5, .int r17.1), (4, .int (μ 2 4)), (0, .ref (gaC g 0)), (1, .int a1), (2, .int a2), (3, .int a3)] dX7_pay_133 (by decide) rfl rfl ?_
                  refine E_aload_n 136 2 dX7_pay_135 rfl rfl rfl ?_
                  refine E_getCr 139 fg_X7_19 dX7_pay_136 rfl ?_
                  refine E_aload_n 140 2 dX7_pay_139 rfl rfl rfl ?_
                  refine E_getCr 143 fg_X7_10 dX7_pay_140 rfl ?_
                  refine E_iload 145 0 dX7_pay_143 rfl rfl ?_
                  refine E_aload_n 146 2 dX7_pay_145 rfl rfl rfl ?_
                  refine E_getCr 149 fg_X7_19 dX7_pay_146 rfl ?_
                  refine E_getCN 152 fg_X7_117 dX7_pay_149 rfl ?_
                  obtain ⟨r19, hc20, hf⟩ := bnd hf
                  refine E_callVC1 155 2 [] [] (c_X3_judge_1 hl hc20) my_X3_judge rc_X3 kl_X7_118 rfl rfl (Nat.le_of_ble_eq_true rfl) (rmok rfl) dX7_pay_152 rfl rfl rfl ?_
                  refine E_aload_n 156 2 dX7_pay_155 rfl rfl rfl ?_
                  refine E_getCr 159 fg_X7_26 dX7_pay_156 rfl ?_
                  refine E_aload_n 160 2 dX7_pay_159 rfl rfl rfl ?_
                  refine E_getCr 163 fg_X7_19 dX7_pay_160 rfl ?_
                  obtain ⟨r21, hc22, hf⟩ := bnd hf
                  refine E_callVC1 166 2 [] [.int r21] (c_X6_findReasons_13 hl hc22) my_X6_findReasons rc_X6 kl_X7_122 rfl rfl (Nat.le_of_ble_eq_true rfl) (rmok rfl) dX7_pay_163 rfl rfl rfl ?_
                  refine E_istore 168 [(6, .int r21), (5, .int r17.1), (4, .int (μ 2 4)), (0, .ref (gaC g 0)), (1, .int a1), (2, .int a2), (3, .int a3)] dX7_pay_166 (by decide) rfl rfl ?_
                  refine E_aload_n 169 3 dX7_pay_168 rfl rfl rfl ?_
                  refine E_getCr 172 fg_X7_26 dX7_pay_169 rfl ?_
                  refine E_iload 174 0 dX7_pay_172 rfl rfl ?_
                  obtain ⟨r23, hc24, hf⟩ := bnd hf
                  refine E_callVC1 177 2 [] [.int r23] (c_X6_weightOf hl hc24) my_X6_weightOf rc_X6 kl_X7_126 rfl rfl (Nat.le_of_ble_eq_true rfl) (rmok rfl) dX7_pay_174 rfl rfl rfl ?_
                  refine E_istore 179 [(7, .int r23), (6, .int r21), (5, .int r17.1), (4, .int (μ 2 4)), (0, .ref (gaC g 0)), (1, .int a1), (2, .int a2), (3, .int a3)] dX7_pay_177 (by decide) rfl rfl ?_
                  refine E_aload_n 180 4 dX7_pay_179 rfl rfl rfl ?_
                  refine E_getCr 183 fg_X7_33 dX7_pay_180 rfl ?_
                  refine E_iload 185 2 dX7_pay_183 rfl rfl ?_
                  refine E_iload 187 1 dX7_pay_185 rfl rfl ?_
                  refine E_iload 189 0 dX7_pay_187 rfl rfl ?_
                  refine E_aload_n 190 4 dX7_pay_189 rfl rfl rfl ?_
                  refine E_getCr 193 fg_X7_19 dX7_pay_190 rfl ?_
                  obtain ⟨r25, hc26, hf⟩ := bnd hf
                  refine E_callVC1 196 2 [] [] (c_X2_keep_13 hl hc26) my_X2_keep rc_X2 kl_X7_130 rfl rfl (Nat.le_of_ble_eq_true rfl) (rmok rfl) dX7_pay_193 rfl rfl rfl ?_
                  refine E_iload 198 0 dX7_pay_196 rfl rfl ?_
                  refine E_aload_n 199 4 dX7_pay_198 rfl rfl rfl ?_
                  refine E_getC 202 fg_X7_37 dX7_pay_199 rfl ?_
                  refine E_icmp_lt 214 205 dX7_pay_202 (by decide) rfl (fun c27 => ?_) (fun c27 => ?_)
                  · have hf := ite_t c27 hf
                    refine E_iload 216 2 dX7_pay_214 rfl rfl ?_
                    cases hf
                    exact E_iret dX7_pay_216 rfl (Nat.le_of_ble_eq_true rfl) (Nat.le_of_ble_eq_true rfl)
                  · have hf := ite_e c27 hf
                    refine E_aload_n 206 4 dX7_pay_205 rfl rfl rfl ?_
                    refine E_getCr 209 fg_X7_33 dX7_pay_206 rfl ?_
                    refine E_iload 211 2 dX7_pay_209 rfl rfl ?_
                    obtain ⟨r28, hc29, hf⟩ := bnd hf
                    refine E_callVC1 214 2 [] [] (c_X2_raise hl hc29) my_X2_raise rc_X2 kl_X7_134 rfl rfl (Nat.le_of_ble_eq_true rfl) (rmok rfl) dX7_pay_211 rfl rfl rfl ?_
                    refine E_iload 216 2 dX7_pay_214 rfl rfl ?_
                    cases hf
                    exact E_iret dX7_pay_216 rfl (Nat.le_of_ble_eq_true rfl) (Nat.le_of_ble_eq_true rfl)
                · have hf := ite_e c16 hf
                  cases hf
                  exact E_throw th_X7_57_61 tx_112 rfl dX7_pay_103 dX7_pay_106 dX7_pay_107 dX7_pay_109 dX7_pay_112 (Nat.le_of_ble_eq_true rfl) (Nat.le_of_ble_eq_true rfl) (Nat.le_of_ble_eq_true rfl) (Nat.le_of_ble_eq_true rfl) (Nat.le_of_ble_eq_true rfl) (Nat.le_of_ble_eq_true rfl)
              · have hf := ite_e c15 hf
                cases hf
                exact E_throw th_X7_57_61 tx_103 rfl dX7_pay_77 dX7_pay_80 dX7_pay_81 dX7_pay_83 dX7_pay_86 (Nat.le_of_ble_eq_true rfl) (Nat.le_of_ble_eq_true rfl) (Nat.le_of_ble_eq_true rfl) (Nat.le_of_ble_eq_true rfl) (Nat.le_of_ble_eq_true rfl) (Nat.le_of_ble_eq_true rfl)
          · have hf := ite_t c9 hf
            cases hf
            exact E_throw th_X7_98_102 tx_100 rfl dX7_pay_37 dX7_pay_40 dX7_pay_41 dX7_pay_43 dX7_pay_46 (Nat.le_of_ble_eq_true rfl) (Nat.le_of_ble_eq_true rfl) (Nat.le_of_ble_eq_true rfl) (Nat.le_of_ble_eq_true rfl) (Nat.le_of_ble_eq_true rfl) (Nat.le_of_ble_eq_true rfl)
        · have hf := ite_e c8 hf
          cases hf
          exact E_throw th_X7_41_45 tx_96 rfl dX7_pay_22 dX7_pay_25 dX7_pay_26 dX7_pay_28 dX7_pay_31 (Nat.le_of_ble_eq_true rfl) (Nat.le_of_ble_eq_true rfl) (Nat.le_of_ble_eq_true rfl) (Nat.le_of_ble_eq_true rfl) (Nat.le_of_ble_eq_true rfl) (Nat.le_of_ble_eq_true rfl)
    · have hf := ite_e z6 hf
      cases hf
      exact EX_outc rfl z6 (Nat.le_of_ble_eq_true rfl) (Nat.le_of_ble_eq_true rfl)
  · have hf := ite_e z3 hf
    cases hf
    exact EX_outc rfl z3 (Nat.le_of_ble_eq_true rfl) (Nat.le_of_ble_eq_true rfl)
set_option maxRecDepth 100000 in
set_option maxHeartbeats 4000000 in
theorem c_L_pay_0_o {l : Launch} {g : Gt} (hl : l.stackTraces = false) {a1 : Int32} {a2 : Int32} {a3 : Int32} {μ : Mm} {ν : Mm} {o : Nat → Int64} {dd : Nat → UInt64} {res : Int32 × Mm × (Nat → Int64)} (hf : f_L_pay_0_o a1 a2 a3 μ o = some res) : CM l g z_L_pay yL_pay [.ref (gaC g 0), .int a1, .int a2, .int a3, .ref (gao g 0)] (μ, ν, o, dd) 3 (.inl (some (.int res.1))) (res.2.1, ν, res.2.2, dd) := by
  unfold f_L_pay_0_o at hf
  refine CM_of_EH rfl rfl (by decide +kernel) rfl (Nat.le_of_ble_eq_true rfl) hl ?_
  refine E_aload 2 4 dL_pay_0 rfl rfl ?_
  refine E_iconst 3 0 dL_pay_2 cst_iconst0 rfl ?_
  refine E_aload_n 4 0 dL_pay_3 rfl rfl rfl ?_
  refine E_iload_n 5 1 dL_pay_4 rfl rfl rfl ?_
  refine E_iload_n 6 2 dL_pay_5 rfl rfl rfl ?_
  refine E_iload_n 7 3 dL_pay_6 rfl rfl rfl ?_
  obtain ⟨r1, hc2, hf⟩ := bnd hf
  refine E_callVC2 10 3 [.int 0, .ref (gao g 0)] [.int r1.2.1, .int 0, .ref (gao g 0)] (c_X7_pay hl hc2) my_X7_pay rc_X7 kl_L_38 rfl rfl (Nat.le_of_ble_eq_true rfl) (rmok rfl) dL_pay_7 rfl rfl rfl (fun z3 => ?_) (fun z3 => ?_)
  · have hf := ite_t z3 hf
    refine E_i2l 11 dL_pay_10 rfl ?_
    obtain ⟨h4, hf⟩ := chk_some hf
    refine E_last 12 h4 dL_pay_11 rfl ?_
    refine E_goto 31 dL_pay_12 (by decide) ?_
    refine E_iconst 32 0 dL_pay_31 cst_iconst0 rfl ?_
    cases hf
    exact E_iret dL_pay_32 rfl (Nat.le_of_ble_eq_true rfl) (Nat.le_of_ble_eq_true rfl)
  · have hf := ite_e z3 hf
    by_cases k5 : r1.1 = 1
    · rw [k5]
      have hf := ite_t k5 hf
      refine EX_catch (X := "java/lang/IndexOutOfBoundsException") [] [(0, 12, 19, 13), (0, 12, 23, 42), (0, 12, 27, 15)] 0 12 15 21 rfl (fun _ h => nomatch h) ⟨by decide, by decide⟩ (by decide) kk_L_21 kt_java_lang_IndexOutOfBoundsException (fun q => ?_)
      refine E_astore 17 [(5, .ref q), (0, .ref (gaC g 0)), (1, .int a1), (2, .int a2), (3, .int a3), (4, .ref (gao g 0))] dL_pay_15 (by decide) rfl rfl ?_
      refine E_iconst 18 1 dL_pay_17 cst_iconst1 rfl ?_
      cases hf
      exact E_iret dL_pay_18 rfl (Nat.le_of_ble_eq_true rfl) (Nat.le_of_ble_eq_true rfl)
    have hf := ite_e k5 hf
    by_cases k6 : r1.1 = 4
    · rw [k6]
      have hf := ite_t k6 hf
      refine EX_catch (X := "java/lang/IllegalArgumentException") [(0, 12, 15, 21)] [(0, 12, 23, 42), (0, 12, 27, 15)] 0 12 19 13 rfl (List.forall_mem_cons.mpr ⟨⟨_, kk_L_21, nc_39, by decide⟩, fun _ h => nomatch h⟩) ⟨by decide, by decide⟩ (by decide) kk_L_13 kt_java_lang_IllegalArgumentException (fun q => ?_)
      refine E_astore 21 [(5, .ref q), (0, .ref (gaC g 0)), (1, .int a1), (2, .int a2), (3, .int a3), (4, .ref (gao g 0))] dL_pay_19 (by decide) rfl rfl ?_
      refine E_iconst 22 2 dL_pay_21 cst_iconst2 rfl ?_
      cases hf
      exact E_iret dL_pay_22 rfl (Nat.le_of_ble_eq_true rfl) (Nat.le_of_ble_eq_true rfl)
    have hf := ite_e k6 hf
    by_cases k7 : r1.1 = 5
    · rw [k7]
      have hf := ite_t k7 hf
      refine EX_catch (X := "java/lang/UnsupportedOperationException") [(0, 12, 15, 21), (0, 12, 19, 13)] [(0, 12, 27, 15)] 0 12 23 42 rfl (List.forall_mem_cons.mpr ⟨⟨_, kk_L_21, nc_41, by decide⟩, List.forall_mem_cons.mpr ⟨⟨_, kk_L_13, nc_12, by decide⟩, fun _ h => nomatch h⟩⟩) ⟨by decide, by decide⟩ (by decide) kk_L_42 kt_java_lang_UnsupportedOperationException (fun q => ?_)
      refine E_astore 25 [(5, .ref q), (0, .ref (gaC g 0)), (1, .int a1), (2, .int a2), (3, .int a3), (4, .ref (gao g 0))] dL_pay_23 (by decide) rfl rfl ?_
      refine E_iconst 26 3 dL_pay_25 cst_iconst3 rfl ?_
      cases hf
      exact E_iret dL_pay_26 rfl (Nat.le_of_ble_eq_true rfl) (Nat.le_of_ble_eq_true rfl)
    have hf := ite_e k7 hf
    by_cases k8 : r1.1 = 3
    · rw [k8]
      have hf := ite_t k8 hf
      refine EX_catch (X := "java/lang/IllegalStateException") [(0, 12, 15, 21), (0, 12, 19, 13), (0, 12, 23, 42)] [] 0 12 27 15 rfl (List.forall_mem_cons.mpr ⟨⟨_, kk_L_21, nc_40, by decide⟩, List.forall_mem_cons.mpr ⟨⟨_, kk_L_13, nc_9, by decide⟩, List.forall_mem_cons.mpr ⟨⟨_, kk_L_42, nc_54, by decide⟩, fun _ h => nomatch h⟩⟩⟩) ⟨by decide, by decide⟩ (by decide) kk_L_15 kt_java_lang_IllegalStateException (fun q => ?_)
      refine E_astore 29 [(5, .ref q), (0, .ref (gaC g 0)), (1, .int a1), (2, .int a2), (3, .int a3), (4, .ref (gao g 0))] dL_pay_27 (by decide) rfl rfl ?_
      refine E_iconst 30 4 dL_pay_29 cst_iconst4 rfl ?_
      cases hf
      exact E_iret dL_pay_30 rfl (Nat.le_of_ble_eq_true rfl) (Nat.le_of_ble_eq_true rfl)
    have hf := ite_e k8 hf
    cases hf
set_option maxRecDepth 100000 in
set_option maxHeartbeats 4000000 in
theorem c_X7_requirePayment {l : Launch} {g : Gt} (hl : l.stackTraces = false) {a1 : Int32} {μ : Mm} {ν : Mm} {o : Nat → Int64} {dd : Nat → UInt64} {res : Nat} (hf : f_X7_requirePayment a1 μ = some res) : CM l g z_X7_requirePayment yX7_requirePayment [.ref (gaC g 0), .int a1] (μ, ν, o, dd) 1 (oc3 res none) (μ, ν, o, dd) := by
  unfold f_X7_requirePayment at hf
  refine CM_of_E rfl rfl (by decide +kernel) rfl (Nat.le_of_ble_eq_true rfl) hl ?_
  refine E_iload_n 1 1 dX7_requirePayment_0 rfl rfl rfl ?_
  refine E_if_lt 18 4 dX7_requirePayment_1 (by decide) rfl (fun c1 => ?_) (fun c1 => ?_)
  · have hf := ite_t c1 hf
    cases hf
    exact E_throwNW th_X7_249_253 tx_334 rfl dX7_requirePayment_18 dX7_requirePayment_21 dX7_requirePayment_22 dX7_requirePayment_25 dX7_requirePayment_28 (Nat.le_of_ble_eq_true rfl) (Nat.le_of_ble_eq_true rfl) (Nat.le_of_ble_eq_true rfl) (Nat.le_of_ble_eq_true rfl) (Nat.le_of_ble_eq_true rfl) (Nat.le_of_ble_eq_true rfl)
  · have hf := ite_e c1 hf
    refine E_iload_n 5 1 dX7_requirePayment_4 rfl rfl rfl ?_
    refine E_aload_n 6 0 dX7_requirePayment_5 rfl rfl rfl ?_
    refine E_getCr 9 fg_X7_10 dX7_requirePayment_6 rfl ?_
    refine E_getCrN 12 fg_X7_105 dX7_requirePayment_9 rfl ?_
    refine E_getCN 15 fg_X7_109 dX7_requirePayment_12 rfl ?_
    refine E_icmp_lt 29 18 dX7_requirePayment_15 (by decide) rfl (fun c2 => ?_) (fun c2 => ?_)
    · have hf := ite_t c2 hf
      cases hf
      exact E_vret dX7_requirePayment_29 rfl (Nat.le_of_ble_eq_true rfl) (Nat.le_of_ble_eq_true rfl)
    · have hf := ite_e c2 hf
      cases hf
      exact E_throwNW th_X7_249_253 tx_334 rfl dX7_requirePayment_18 dX7_requirePayment_21 dX7_requirePayment_22 dX7_requirePayment_25 dX7_requirePayment_28 (Nat.le_of_ble_eq_true rfl) (Nat.le_of_ble_eq_true rfl) (Nat.le_of_ble_eq_true rfl) (Nat.le_of_ble_eq_true rfl) (Nat.le_of_ble_eq_true rfl) (Nat.le_of_ble_eq_true rfl)
set_option maxRecDepth 100000 in
set_option maxHeartbeats 4000000 in
theorem c_X7_minuteOf {l : Launch} {g : Gt} (hl : l.stackTraces = false) {a1 : Int32} {μ : Mm} {ν : Mm} {o : Nat → Int64} {dd : Nat → UInt64} {res : Nat × Int32} (hf : f_X7_minuteOf a1 μ = some res) : CM l g z_X7_minuteOf yX7_minuteOf [.ref (gaC g 0), .int a1] (μ, ν, o, dd) 1 (oc3 res.1 (some (.int res.2))) (μ, ν, o, dd) := by
  unfold f_X7_minuteOf at hf
  refine CM_of_E rfl rfl (by decide +kernel) rfl (Nat.le_of_ble_eq_true rfl) hl ?_
  refine E_aload_n 1 0 dX7_minuteOf_0 rfl rfl rfl ?_
  refine E_iload_n 2 1 dX7_minuteOf_1 rfl rfl rfl ?_
  obtain ⟨r1, hc2, hf⟩ := bnd hf
  refine E_callVC2 5 1 [] [] (c_X7_requirePayment hl hc2) my_X7_requirePayment rc_X7 kl_X7_137 rfl rfl (Nat.le_of_ble_eq_true rfl) (rmok rfl) dX7_minuteOf_2 rfl rfl rfl (fun z3 => ?_) (fun z3 => ?_)
  · have hf := ite_t z3 hf
    refine E_aload_n 6 0 dX7_minuteOf_5 rfl rfl rfl ?_
    refine E_getCr 9 fg_X7_10 dX7_minuteOf_6 rfl ?_
    refine E_getCrN 12 fg_X7_105 dX7_minuteOf_9 rfl ?_
    refine E_getCrN 15 fg_X7_140 dX7_minuteOf_12 rfl ?_
    refine E_iload_n 16 1 dX7_minuteOf_15 rfl rfl rfl ?_
    obtain ⟨h4, hf⟩ := chk_some hf
    refine E_ialdC 17 (k := 9) (n := 200) rfl (by decide) h4 dX7_minuteOf_16 rfl ?_
    cases hf
    exact E_iret dX7_minuteOf_17 rfl (Nat.le_of_ble_eq_true rfl) (Nat.le_of_ble_eq_true rfl)
  · have hf := ite_e z3 hf
    cases hf
    exact EX_outc rfl z3 (Nat.le_of_ble_eq_true rfl) (Nat.le_of_ble_eq_true rfl)
set_option maxRecDepth 100000 in
set_option maxHeartbeats 4000000 in
theorem c_L_minuteOf_0_o {l : Launch} {g : Gt} (hl : l.stackTraces = false) {a1 : Int32} {μ : Mm} {ν : Mm} {o : Nat → Int64} {dd : Nat → UInt64} {res : Int32 × (Nat → Int64)} (hf : f_L_minuteOf_0_o a1 μ o = some res) : CM l g z_L_minuteOf yL_minuteOf [.ref (gaC g 0), .int a1, .ref (gao g 0)] (μ, ν, o, dd) 1 (.inl (some (.int res.1))) (μ, ν, res.2, dd) := by
  unfold f_L_minuteOf_0_o at hf
  refine CM_of_EH rfl rfl (by decide +kernel) rfl (Nat.le_of_ble_eq_true rfl) hl ?_
  refine E_aload_n 1 2 dL_minuteOf_0 rfl rfl rfl ?_
  refine E_iconst 2 0 dL_minuteOf_1 cst_iconst0 rfl ?_
  refine E_aload_n 3 0 dL_minuteOf_2 rfl rfl rfl ?_
  refine E_iload_n 4 1 dL_minuteOf_3 rfl rfl rfl ?_
  obtain ⟨r1, hc2, hf⟩ := bnd hf
  refine E_callVC2 7 1 [.int 0, .ref (gao g 0)] [.int r1.2, .int 0, .ref (gao g 0)] (c_X7_minuteOf hl hc2) my_X7_minuteOf rc_X7 kl_L_44 rfl rfl (Nat.le_of_ble_eq_true rfl) (rmok rfl) dL_minuteOf_4 rfl rfl rfl (fun z3 => ?_) (fun z3 => ?_)
  · have hf := ite_t z3 hf
    refine E_i2l 8 dL_minuteOf_7 rfl ?_
    obtain ⟨h4, hf⟩ := chk_some hf
    refine E_last 9 h4 dL_minuteOf_8 rfl ?_
    refine E_goto 15 dL_minuteOf_9 (by decide) ?_
    refine E_iconst 16 0 dL_minuteOf_15 cst_iconst0 rfl ?_
    cases hf
    exact E_iret dL_minuteOf_16 rfl (Nat.le_of_ble_eq_true rfl) (Nat.le_of_ble_eq_true rfl)
  · have hf := ite_e z3 hf
    by_cases k5 : r1.1 = 2
    · rw [k5]
      have hf := ite_t k5 hf
      refine EX_catch (X := "java/util/NoSuchElementException") [] [] 0 9 12 47 rfl (fun _ h => nomatch h) ⟨by decide, by decide⟩ (by decide) kk_L_47 kt_java_util_NoSuchElementException (fun q => ?_)
      refine E_astore_n 13 [(3, .ref q), (0, .ref (gaC g 0)), (1, .int a1), (2, .ref (gao g 0))] dL_minuteOf_12 rfl (by decide) rfl rfl ?_
      refine E_iconst 14 1 dL_minuteOf_13 cst_iconst1 rfl ?_
      cases hf
      exact E_iret dL_minuteOf_14 rfl (Nat.le_of_ble_eq_true rfl) (Nat.le_of_ble_eq_true rfl)
    have hf := ite_e k5 hf
    cases hf
set_option maxRecDepth 100000 in
set_option maxHeartbeats 4000000 in
theorem c_X7_requireWindow {l : Launch} {g : Gt} (hl : l.stackTraces = false) {a0 : Int32} {μ : Mm} {ν : Mm} {o : Nat → Int64} {dd : Nat → UInt64} {res : Nat} (hf : f_X7_requireWindow a0 = some res) : CM l g z_X7_requireWindow yX7_requireWindow [.int a0] (μ, ν, o, dd) 1 (oc3 res none) (μ, ν, o, dd) := by
  unfold f_X7_requireWindow at hf
  refine CM_of_E rfl rfl (by decide +kernel) rfl (Nat.le_of_ble_eq_true rfl) hl ?_
  refine E_iload_n 1 0 dX7_requireWindow_0 rfl rfl rfl ?_
  refine E_iconst 2 1 dX7_requireWindow_1 cst_iconst1 rfl ?_
  refine E_icmp_lt 12 5 dX7_requireWindow_2 (by decide) rfl (fun c1 => ?_) (fun c1 => ?_)
  · have hf := ite_t c1 hf
    cases hf
    exact E_throwW th_X7_41_45 tx_350 rfl dX7_requireWindow_12 dX7_requireWindow_15 dX7_requireWindow_16 dX7_requireWindow_19 dX7_requireWindow_22 (Nat.le_of_ble_eq_true rfl) (Nat.le_of_ble_eq_true rfl) (Nat.le_of_ble_eq_true rfl) (Nat.le_of_ble_eq_true rfl) (Nat.le_of_ble_eq_true rfl) (Nat.le_of_ble_eq_true rfl)
  · have hf := ite_e c1 hf
    refine E_iload_n 6 0 dX7_requireWindow_5 rfl rfl rfl ?_
    refine E_sipush 9 10080 dX7_requireWindow_6 cst_sipush10080 rfl ?_
    refine E_icmp_le 23 12 dX7_requireWindow_9 (by decide) rfl (fun c2 => ?_) (fun c2 => ?_)
    · have hf := ite_t c2 hf
      cases hf
      exact E_vret dX7_requireWindow_23 rfl (Nat.le_of_ble_eq_true rfl) (Nat.le_of_ble_eq_true rfl)
    · have hf := ite_e c2 hf
      cases hf
      exact E_throwW th_X7_41_45 tx_350 rfl dX7_requireWindow_12 dX7_requireWindow_15 dX7_requireWindow_16 dX7_requireWindow_19 dX7_requireWindow_22 (Nat.le_of_ble_eq_true rfl) (Nat.le_of_ble_eq_true rfl) (Nat.le_of_ble_eq_true rfl) (Nat.le_of_ble_eq_true rfl) (Nat.le_of_ble_eq_true rfl) (Nat.le_of_ble_eq_true rfl)
set_option maxRecDepth 100000 in
set_option maxHeartbeats 4000000 in
theorem c_X1_keptSum {l : Launch} {g : Gt} (hl : l.stackTraces = false) {a1 : Int32} {a2 : Int32} {μ : Mm} {ν : Mm} {o : Nat → Int64} {dd : Nat → UInt64} {res : Int32} (hf : f_X1_keptSum a1 a2 μ = some res) : CM l g z_X1_keptSum yX1_keptSum [.ref (gaC g 1), .int a1, .int a2] (μ, ν, o, dd) 0 (.inl (some (.int res))) (μ, ν, o, dd) := by
  unfold f_X1_keptSum at hf
  refine CM_of_E rfl rfl (by decide +kernel) rfl (Nat.le_of_ble_eq_true rfl) hl ?_
  refine E_aload_n 1 0 dX1_keptSum_0 rfl rfl rfl ?_
  refine E_getCr 4 fg_X1_21 dX1_keptSum_1 rfl ?_
  refine E_aload_n 5 0 dX1_keptSum_4 rfl rfl rfl ?_
  refine E_getC 8 fg_X1_36 dX1_keptSum_5 rfl ?_
  refine E_iload_n 9 2 dX1_keptSum_8 rfl rfl rfl ?_
  refine E_isub 10 dX1_keptSum_9 rfl ?_
  refine E_aload_n 11 0 dX1_keptSum_10 rfl rfl rfl ?_
  refine E_getC 14 fg_X1_40 dX1_keptSum_11 rfl ?_
  obtain ⟨r1, hc2, hf⟩ := bnd hf
  refine E_callVC1 17 0 [] [.int r1] (c_X4_firstAfter hl hc2) my_X4_firstAfter rc_X4 kl_X1_43 rfl rfl (Nat.le_of_ble_eq_true rfl) (rmok rfl) dX1_keptSum_14 rfl rfl rfl ?_
  refine E_istore_n 18 [(3, .int r1), (0, .ref (gaC g 1)), (1, .int a1), (2, .int a2)] dX1_keptSum_17 rfl (by decide) rfl rfl ?_
  refine E_aload_n 19 1 dX1_keptSum_18 rfl rfl rfl ?_
  refine E_getCr 22 fg_X1_21 dX1_keptSum_19 rfl ?_
  refine E_aload_n 23 1 dX1_keptSum_22 rfl rfl rfl ?_
  refine E_getCr 26 fg_X1_21 dX1_keptSum_23 rfl ?_
  refine E_getCrN 29 fg_X1_47 dX1_keptSum_26 rfl ?_
  refine E_iload_n 30 2 dX1_keptSum_29 rfl rfl rfl ?_
  refine E_iload_n 31 0 dX1_keptSum_30 rfl rfl rfl ?_
  refine E_aload_n 32 1 dX1_keptSum_31 rfl rfl rfl ?_
  refine E_getCr 35 fg_X1_21 dX1_keptSum_32 rfl ?_
  refine E_getCN 38 fg_X1_51 dX1_keptSum_35 rfl ?_
  obtain ⟨r3, hc4, hf⟩ := bnd hf
  refine E_callVC1 41 0 [] [.int r3] (c_X4_sumOf_6 hl hc4) my_X4_sumOf rc_X4 kl_X1_54 rfl rfl (Nat.le_of_ble_eq_true rfl) (rmok rfl) dX1_keptSum_38 rfl rfl rfl ?_
  cases hf
  exact E_iret dX1_keptSum_41 rfl (Nat.le_of_ble_eq_true rfl) (Nat.le_of_ble_eq_true rfl)
set_option maxRecDepth 100000 in
set_option maxHeartbeats 4000000 in
theorem c_X7_sentBy {l : Launch} {g : Gt} (hl : l.stackTraces = false) {a1 : Int32} {a2 : Int32} {μ : Mm} {ν : Mm} {o : Nat → Int64} {dd : Nat → UInt64} {res : Nat × Int32} (hf : f_X7_sentBy a1 a2 μ = some res) : CM l g z_X7_sentBy yX7_sentBy [.ref (gaC g 0), .int a1, .int a2] (μ, ν, o, dd) 2 (oc3 res.1 (some (.int res.2))) (μ, ν, o, dd) := by
  unfold f_X7_sentBy at hf
  refine CM_of_E rfl rfl (by decide +kernel) rfl (Nat.le_of_ble_eq_true rfl) hl ?_
  refine E_aload_n 1 0 dX7_sentBy_0 rfl rfl rfl ?_
  refine E_iload_n 2 1 dX7_sentBy_1 rfl rfl rfl ?_
  obtain ⟨r1, hc2, hf⟩ := bnd hf
  refine E_callVC2 5 1 [] [] (c_X7_requireAccount hl hc2) my_X7_requireAccount rc_X7 kl_X7_69 rfl rfl (Nat.le_of_ble_eq_true rfl) (rmok rfl) dX7_sentBy_2 rfl rfl rfl (fun z3 => ?_) (fun z3 => ?_)
  · have hf := ite_t z3 hf
    refine E_iload_n 6 2 dX7_sentBy_5 rfl rfl rfl ?_
    obtain ⟨r4, hc5, hf⟩ := bnd hf
    refine E_callS2 9 2 [] [] (c_X7_requireWindow hl hc5) my_X7_requireWindow kl_X7_144 rfl rfl (Nat.le_of_ble_eq_true rfl) (rmok rfl) dX7_sentBy_6 rfl rfl rfl (fun z6 => ?_) (fun z6 => ?_)
    · have hf := ite_t z6 hf
      refine E_aload_n 10 0 dX7_sentBy_9 rfl rfl rfl ?_
      refine E_getCr 13 fg_X7_10 dX7_sentBy_10 rfl ?_
      refine E_iload_n 14 1 dX7_sentBy_13 rfl rfl rfl ?_
      refine E_iload_n 15 2 dX7_sentBy_14 rfl rfl rfl ?_
      obtain ⟨r7, hc8, hf⟩ := bnd hf
      refine E_callVC1 18 2 [] [.int r7] (c_X1_keptSum hl hc8) my_X1_keptSum rc_X1 kl_X7_147 rfl rfl (Nat.le_of_ble_eq_true rfl) (rmok rfl) dX7_sentBy_15 rfl rfl rfl ?_
      cases hf
      exact E_iret dX7_sentBy_18 rfl (Nat.le_of_ble_eq_true rfl) (Nat.le_of_ble_eq_true rfl)
    · have hf := ite_e z6 hf
      cases hf
      exact EX_outc rfl z6 (Nat.le_of_ble_eq_true rfl) (Nat.le_of_ble_eq_true rfl)
  · have hf := ite_e z3 hf
    cases hf
    exact EX_outc rfl z3 (Nat.le_of_ble_eq_true rfl) (Nat.le_of_ble_eq_true rfl)
set_option maxRecDepth 100000 in
set_option maxHeartbeats 4000000 in
theorem c_L_sentBy_0_o {l : Launch} {g : Gt} (hl : l.stackTraces = false) {a1 : Int32} {a2 : Int32} {μ : Mm} {ν : Mm} {o : Nat → Int64} {dd : Nat → UInt64} {res : Int32 × (Nat → Int64)} (hf : f_L_sentBy_0_o a1 a2 μ o = some res) : CM l g z_L_sentBy yL_sentBy [.ref (gaC g 0), .int a1, .int a2, .ref (gao g 0)] (μ, ν, o, dd) 2 (.inl (some (.int res.1))) (μ, ν, res.2, dd) := by
  unfold f_L_sentBy_0_o at hf
  refine CM_of_EH rfl rfl (by decide +kernel) rfl (Nat.le_of_ble_eq_true rfl) hl ?_
  refine E_aload_n 1 3 dL_sentBy_0 rfl rfl rfl ?_
  refine E_iconst 2 0 dL_sentBy_1 cst_iconst0 rfl ?_
  refine E_aload_n 3 0 dL_sentBy_2 rfl rfl rfl ?_
  refine E_iload_n 4 1 dL_sentBy_3 rfl rfl rfl ?_
  refine E_iload_n 5 2 dL_sentBy_4 rfl rfl rfl ?_
  obtain ⟨r1, hc2, hf⟩ := bnd hf
  refine E_callVC2 8 2 [.int 0, .ref (gao g 0)] [.int r1.2, .int 0, .ref (gao g 0)] (c_X7_sentBy hl hc2) my_X7_sentBy rc_X7 kl_L_49 rfl rfl (Nat.le_of_ble_eq_true rfl) (rmok rfl) dL_sentBy_5 rfl rfl rfl (fun z3 => ?_) (fun z3 => ?_)
  · have hf := ite_t z3 hf
    refine E_i2l 9 dL_sentBy_8 rfl ?_
    obtain ⟨h4, hf⟩ := chk_some hf
    refine E_last 10 h4 dL_sentBy_9 rfl ?_
    refine E_goto 21 dL_sentBy_10 (by decide) ?_
    refine E_iconst 22 0 dL_sentBy_21 cst_iconst0 rfl ?_
    cases hf
    exact E_iret dL_sentBy_22 rfl (Nat.le_of_ble_eq_true rfl) (Nat.le_of_ble_eq_true rfl)
  · have hf := ite_e z3 hf
    by_cases k5 : r1.1 = 1
    · rw [k5]
      have hf := ite_t k5 hf
      refine EX_catch (X := "java/lang/IndexOutOfBoundsException") [] [(0, 10, 17, 13)] 0 10 13 21 rfl (fun _ h => nomatch h) ⟨by decide, by decide⟩ (by decide) kk_L_21 kt_java_lang_IndexOutOfBoundsException (fun q => ?_)
      refine E_astore 15 [(4, .ref q), (0, .ref (gaC g 0)), (1, .int a1), (2, .int a2), (3, .ref (gao g 0))] dL_sentBy_13 (by decide) rfl rfl ?_
      refine E_iconst 16 1 dL_sentBy_15 cst_iconst1 rfl ?_
      cases hf
      exact E_iret dL_sentBy_16 rfl (Nat.le_of_ble_eq_true rfl) (Nat.le_of_ble_eq_true rfl)
    have hf := ite_e k5 hf
    by_cases k6 : r1.1 = 4
    · rw [k6]
      have hf := ite_t k6 hf
      refine EX_catch (X := "java/lang/IllegalArgumentException") [(0, 10, 13, 21)] [] 0 10 17 13 rfl (List.forall_mem_cons.mpr ⟨⟨_, kk_L_21, nc_39, by decide⟩, fun _ h => nomatch h⟩) ⟨by decide, by decide⟩ (by decide) kk_L_13 kt_java_lang_IllegalArgumentException (fun q => ?_)
      refine E_astore 19 [(4, .ref q), (0, .ref (gaC g 0)), (1, .int a1), (2, .int a2), (3, .ref (gao g 0))] dL_sentBy_17 (by decide) rfl rfl ?_
      refine E_iconst 20 2 dL_sentBy_19 cst_iconst2 rfl ?_
      cases hf
      exact E_iret dL_sentBy_20 rfl (Nat.le_of_ble_eq_true rfl) (Nat.le_of_ble_eq_true rfl)
    have hf := ite_e k6 hf
    cases hf
set_option maxRecDepth 100000 in
set_option maxHeartbeats 4000000 in
theorem l_X1_sumAnew_L5 {l : Launch} {g : Gt} (hl : l.stackTraces = false) {μ : Mm} {ν : Mm} {o : Nat → Int64} {dd : Nat → UInt64}  {x1 : Int32} {x2 : Int32} {res : Int32} : ∀ (n : Nat) (x3 : Int32) (x4 : Int32) , f_X1_sumAnew_L5 x1 x2 μ n x3 x4 = some res → E l g z_X1_sumAnew 5 [(0, .ref (gaC g 1)), (1, .int x1), (2, .int x2), (3, .int x3), (4, .int x4)] [] (μ, ν, o, dd) 0 (QM g (.inl (some (.int res))) (μ, ν, o, dd) 0) := by
  intro n
  induction n with
  | zero => intro x3 x4 hf; cases hf
  | succ n ih =>
    intro x3 x4 hf
    refine E_iload 7 4 dX1_sumAnew_5 rfl rfl ?_
    refine E_aload_n 8 0 dX1_sumAnew_7 rfl rfl rfl ?_
    refine E_getCr 11 fg_X1_21 dX1_sumAnew_8 rfl ?_
    refine E_getCN 14 fg_X1_51 dX1_sumAnew_11 rfl ?_
    refine E_icmp_ge 69 17 dX1_sumAnew_14 (by decide) rfl (fun c1 => ?_) (fun c1 => ?_)
    · have hf := ite_t c1 hf
      refine E_iload_n 70 3 dX1_sumAnew_69 rfl rfl rfl ?_
      cases hf
      exact E_iret dX1_sumAnew_70 rfl (Nat.le_of_ble_eq_true rfl) (Nat.le_of_ble_eq_true rfl)
    · have hf := ite_e c1 hf
      refine E_aload_n 18 0 dX1_sumAnew_17 rfl rfl rfl ?_
      refine E_getCr 21 fg_X1_21 dX1_sumAnew_18 rfl ?_
      refine E_getCrN 24 fg_X1_47 dX1_sumAnew_21 rfl ?_
      refine E_iload 26 4 dX1_sumAnew_24 rfl rfl ?_
      obtain ⟨h2, hf⟩ := chk_some hf
      refine E_ialdC 27 (k := 6) (n := 200) rfl (by decide) h2 dX1_sumAnew_26 rfl ?_
      refine E_iload_n 28 1 dX1_sumAnew_27 rfl rfl rfl ?_
      refine E_icmp_ne 63 31 dX1_sumAnew_28 (by decide) rfl (fun c3 => ?_) (fun c3 => ?_)
      · have hf := ite_e c3 hf
        refine E_iinc 66 [(4, .int (x4 + 1)), (0, .ref (gaC g 1)), (1, .int x1), (2, .int x2), (3, .int x3)] 4 (v := x4 + 1) dX1_sumAnew_63 rfl (by rw [cst_iconst1]) (by decide) rfl rfl ?_
        refine E_goto 5 dX1_sumAnew_66 (by decide) ?_
        refine E_sub [1, 2, 3, 4, 0] rfl ?_
        exact ih x3 (x4 + 1) hf
      · have hf := ite_t c3 hf
        refine E_aload_n 32 0 dX1_sumAnew_31 rfl rfl rfl ?_
        refine E_getCr 35 fg_X1_21 dX1_sumAnew_32 rfl ?_
        refine E_getCrN 38 fg_X1_58 dX1_sumAnew_35 rfl ?_
        refine E_iload 40 4 dX1_sumAnew_38 rfl rfl ?_
        obtain ⟨h4, hf⟩ := chk_some hf
        refine E_ialdC 41 (k := 9) (n := 200) rfl (by decide) h4 dX1_sumAnew_40 rfl ?_
        refine E_aload_n 42 0 dX1_sumAnew_41 rfl rfl rfl ?_
        refine E_getC 45 fg_X1_36 dX1_sumAnew_42 rfl ?_
        refine E_iload_n 46 2 dX1_sumAnew_45 rfl rfl rfl ?_
        refine E_isub 47 dX1_sumAnew_46 rfl ?_
        refine E_icmp_le 63 50 dX1_sumAnew_47 (by decide) rfl (fun c5 => ?_) (fun c5 => ?_)
        · have hf := ite_t c5 hf
          refine E_iinc 66 [(4, .int (x4 + 1)), (0, .ref (gaC g 1)), (1, .int x1), (2, .int x2), (3, .int x3)] 4 (v := x4 + 1) dX1_sumAnew_63 rfl (by rw [cst_iconst1]) (by decide) rfl rfl ?_
          refine E_goto 5 dX1_sumAnew_66 (by decide) ?_
          refine E_sub [1, 2, 3, 4, 0] rfl ?_
          exact ih x3 (x4 + 1) hf
        · have hf := ite_e c5 hf
          refine E_iload_n 51 3 dX1_sumAnew_50 rfl rfl rfl ?_
          refine E_aload_n 52 0 dX1_sumAnew_51 rfl rfl rfl ?_
          refine E_getCr 55 fg_X1_21 dX1_sumAnew_52 rfl ?_
          refine E_getCrN 58 fg_X1_61 dX1_sumAnew_55 rfl ?_
          refine E_iload 60 4 dX1_sumAnew_58 rfl rfl ?_
          obtain ⟨h6, hf⟩ := chk_some hf
          refine E_ialdC 61 (k := 8) (n := 200) rfl (by decide) h6 dX1_sumAnew_60 rfl ?_
          refine E_iadd 62 dX1_sumAnew_61 rfl ?_
          refine E_istore_n 63 [(3, .int (x3 + (μ 8 x4.toNatClampNeg))), (0, .ref (gaC g 1)), (1, .int x1), (2, .int x2), (4, .int x4)] dX1_sumAnew_62 rfl (by decide) rfl rfl ?_
          refine E_iinc 66 [(4, .int (x4 + 1)), (3, .int (x3 + (μ 8 x4.toNatClampNeg))), (0, .ref (gaC g 1)), (1, .int x1), (2, .int x2)] 4 (v := x4 + 1) dX1_sumAnew_63 rfl (by rw [cst_iconst1]) (by decide) rfl rfl ?_
          refine E_goto 5 dX1_sumAnew_66 (by decide) ?_
          refine E_sub [2, 3, 4, 1, 0] rfl ?_
          exact ih (x3 + (μ 8 x4.toNatClampNeg)) (x4 + 1) hf
set_option maxRecDepth 100000 in
set_option maxHeartbeats 4000000 in
theorem c_X1_sumAnew {l : Launch} {g : Gt} (hl : l.stackTraces = false) {a1 : Int32} {a2 : Int32} {μ : Mm} {ν : Mm} {o : Nat → Int64} {dd : Nat → UInt64} {res : Int32} (hf : f_X1_sumAnew a1 a2 μ = some res) : CM l g z_X1_sumAnew yX1_sumAnew [.ref (gaC g 1), .int a1, .int a2] (μ, ν, o, dd) 0 (.inl (some (.int res))) (μ, ν, o, dd) := by
  unfold f_X1_sumAnew at hf
  refine CM_of_E rfl rfl (by decide +kernel) rfl (Nat.le_of_ble_eq_true rfl) hl ?_
  refine E_iconst 1 0 dX1_sumAnew_0 cst_iconst0 rfl ?_
  refine E_istore_n 2 [(3, .int 0), (0, .ref (gaC g 1)), (1, .int a1), (2, .int a2)] dX1_sumAnew_1 rfl (by decide) rfl rfl ?_
  refine E_iconst 3 0 dX1_sumAnew_2 cst_iconst0 rfl ?_
  refine E_istore 5 [(4, .int 0), (3, .int 0), (0, .ref (gaC g 1)), (1, .int a1), (2, .int a2)] dX1_sumAnew_3 (by decide) rfl rfl ?_
  refine E_sub [2, 3, 4, 1, 0] rfl ?_
  refine l_X1_sumAnew_L5 hl  _ _ _ hf
set_option maxRecDepth 100000 in
set_option maxHeartbeats 4000000 in
theorem c_X7_sentByAnew {l : Launch} {g : Gt} (hl : l.stackTraces = false) {a1 : Int32} {a2 : Int32} {μ : Mm} {ν : Mm} {o : Nat → Int64} {dd : Nat → UInt64} {res : Nat × Int32} (hf : f_X7_sentByAnew a1 a2 μ = some res) : CM l g z_X7_sentByAnew yX7_sentByAnew [.ref (gaC g 0), .int a1, .int a2] (μ, ν, o, dd) 2 (oc3 res.1 (some (.int res.2))) (μ, ν, o, dd) := by
  unfold f_X7_sentByAnew at hf
  refine CM_of_E rfl rfl (by decide +kernel) rfl (Nat.le_of_ble_eq_true rfl) hl ?_
  refine E_aload_n 1 0 dX7_sentByAnew_0 rfl rfl rfl ?_
  refine E_iload_n 2 1 dX7_sentByAnew_1 rfl rfl rfl ?_
  obtain ⟨r1, hc2, hf⟩ := bnd hf
  refine E_callVC2 5 1 [] [] (c_X7_requireAccount hl hc2) my_X7_requireAccount rc_X7 kl_X7_69 rfl rfl (Nat.le_of_ble_eq_true rfl) (rmok rfl) dX7_sentByAnew_2 rfl rfl rfl (fun z3 => ?_) (fun z3 => ?_)
  · have hf := ite_t z3 hf
    refine E_iload_n 6 2 dX7_sentByAnew_5 rfl rfl rfl ?_
    obtain ⟨r4, hc5, hf⟩ := bnd hf
    refine E_callS2 9 2 [] [] (c_X7_requireWindow hl hc5) my_X7_requireWindow kl_X7_144 rfl rfl (Nat.le_of_ble_eq_true rfl) (rmok rfl) dX7_sentByAnew_6 rfl rfl rfl (fun z6 => ?_) (fun z6 => ?_)
    · have hf := ite_t z6 hf
      refine E_aload_n 10 0 dX7_sentByAnew_9 rfl rfl rfl ?_
      refine E_getCr 13 fg_X7_10 dX7_sentByAnew_10 rfl ?_
      refine E_iload_n 14 1 dX7_sentByAnew_13 rfl rfl rfl ?_
      refine E_iload_n 15 2 dX7_sentByAnew_14 rfl rfl rfl ?_
      obtain ⟨r7, hc8, hf⟩ := bnd hf
      refine E_callVC1 18 2 [] [.int r7] (c_X1_sumAnew hl hc8) my_X1_sumAnew rc_X1 kl_X7_151 rfl rfl (Nat.le_of_ble_eq_true rfl) (rmok rfl) dX7_sentByAnew_15 rfl rfl rfl ?_
      cases hf
      exact E_iret dX7_sentByAnew_18 rfl (Nat.le_of_ble_eq_true rfl) (Nat.le_of_ble_eq_true rfl)
    · have hf := ite_e z6 hf
      cases hf
      exact EX_outc rfl z6 (Nat.le_of_ble_eq_true rfl) (Nat.le_of_ble_eq_true rfl)
  · have hf := ite_e z3 hf
    cases hf
    exact EX_outc rfl z3 (Nat.le_of_ble_eq_true rfl) (Nat.le_of_ble_eq_true rfl)
set_option maxRecDepth 100000 in
set_option maxHeartbeats 4000000 in
theorem c_L_sentByAnew_0_o {l : Launch} {g : Gt} (hl : l.stackTraces = false) {a1 : Int32} {a2 : Int32} {μ : Mm} {ν : Mm} {o : Nat → Int64} {dd : Nat → UInt64} {res : Int32 × (Nat → Int64)} (hf : f_L_sentByAnew_0_o a1 a2 μ o = some res) : CM l g z_L_sentByAnew yL_sentByAnew [.ref (gaC g 0), .int a1, .int a2, .ref (gao g 0)] (μ, ν, o, dd) 2 (.inl (some (.int res.1))) (μ, ν, res.2, dd) := by
  unfold f_L_sentByAnew_0_o at hf
  refine CM_of_EH rfl rfl (by decide +kernel) rfl (Nat.le_of_ble_eq_true rfl) hl ?_
  refine E_aload_n 1 3 dL_sentByAnew_0 rfl rfl rfl ?_
  refine E_iconst 2 0 dL_sentByAnew_1 cst_iconst0 rfl ?_
  refine E_aload_n 3 0 dL_sentByAnew_2 rfl rfl rfl ?_
  refine E_iload_n 4 1 dL_sentByAnew_3 rfl rfl rfl ?_
  refine E_iload_n 5 2 dL_sentByAnew_4 rfl rfl rfl ?_
  obtain ⟨r1, hc2, hf⟩ := bnd hf
  refine E_callVC2 8 2 [.int 0, .ref (gao g 0)] [.int r1.2, .int 0, .ref (gao g 0)] (c_X7_sentByAnew hl hc2) my_X7_sentByAnew rc_X7 kl_L_53 rfl rfl (Nat.le_of_ble_eq_true rfl) (rmok rfl) dL_sentByAnew_5 rfl rfl rfl (fun z3 => ?_) (fun z3 => ?_)
  · have hf := ite_t z3 hf
    refine E_i2l 9 dL_sentByAnew_8 rfl ?_
    obtain ⟨h4, hf⟩ := chk_some hf
    refine E_last 10 h4 dL_sentByAnew_9 rfl ?_
    refine E_goto 21 dL_sentByAnew_10 (by decide) ?_
    refine E_iconst 22 0 dL_sentByAnew_21 cst_iconst0 rfl ?_
    cases hf
    exact E_iret dL_sentByAnew_22 rfl (Nat.le_of_ble_eq_true rfl) (Nat.le_of_ble_eq_true rfl)
  · have hf := ite_e z3 hf
    by_cases k5 : r1.1 = 1
    · rw [k5]
      have hf := ite_t k5 hf
      refine EX_catch (X := "java/lang/IndexOutOfBoundsException") [] [(0, 10, 17, 13)] 0 10 13 21 rfl (fun _ h => nomatch h) ⟨by decide, by decide⟩ (by decide) kk_L_21 kt_java_lang_IndexOutOfBoundsException (fun q => ?_)
      refine E_astore 15 [(4, .ref q), (0, .ref (gaC g 0)), (1, .int a1), (2, .int a2), (3, .ref (gao g 0))] dL_sentByAnew_13 (by decide) rfl rfl ?_
      refine E_iconst 16 1 dL_sentByAnew_15 cst_iconst1 rfl ?_
      cases hf
      exact E_iret dL_sentByAnew_16 rfl (Nat.le_of_ble_eq_true rfl) (Nat.le_of_ble_eq_true rfl)
    have hf := ite_e k5 hf
    by_cases k6 : r1.1 = 4
    · rw [k6]
      have hf := ite_t k6 hf
      refine EX_catch (X := "java/lang/IllegalArgumentException") [(0, 10, 13, 21)] [] 0 10 17 13 rfl (List.forall_mem_cons.mpr ⟨⟨_, kk_L_21, nc_39, by decide⟩, fun _ h => nomatch h⟩) ⟨by decide, by decide⟩ (by decide) kk_L_13 kt_java_lang_IllegalArgumentException (fun q => ?_)
      refine E_astore 19 [(4, .ref q), (0, .ref (gaC g 0)), (1, .int a1), (2, .int a2), (3, .ref (gao g 0))] dL_sentByAnew_17 (by decide) rfl rfl ?_
      refine E_iconst 20 2 dL_sentByAnew_19 cst_iconst2 rfl ?_
      cases hf
      exact E_iret dL_sentByAnew_20 rfl (Nat.le_of_ble_eq_true rfl) (Nat.le_of_ble_eq_true rfl)
    have hf := ite_e k6 hf
    cases hf
set_option maxRecDepth 100000 in
set_option maxHeartbeats 4000000 in
theorem l_X1_hasFeature_L9 {l : Launch} {g : Gt} (hl : l.stackTraces = false) {μ : Mm} {ν : Mm} {o : Nat → Int64} {dd : Nat → UInt64}  {x0 : Int32} {x2 : Int32} {res : Int32} : ∀ (n : Nat) (x3 : Int32) , f_X1_hasFeature_L9 x0 x2 n x3 = some res → E l g z_X1_hasFeature 9 [(0, .int x0), (1, .ref (gtF g)), (2, .int x2), (3, .int x3)] [] (μ, ν, o, dd) 0 (QM g (.inl (some (.int res))) (μ, ν, o, dd) 0) := by
  intro n
  induction n with
  | zero => intro x3 hf; cases hf
  | succ n ih =>
    intro x3 hf
    refine E_iload_n 10 3 dX1_hasFeature_9 rfl rfl rfl ?_
    refine E_iload_n 11 2 dX1_hasFeature_10 rfl rfl rfl ?_
    refine E_icmp_ge 33 14 dX1_hasFeature_11 (by decide) rfl (fun c1 => ?_) (fun c1 => ?_)
    · have hf := ite_t c1 hf
      refine E_iconst 34 0 dX1_hasFeature_33 cst_iconst0 rfl ?_
      cases hf
      exact E_zret (v := 0) rfl dX1_hasFeature_34 rfl (Nat.le_of_ble_eq_true rfl) (Nat.le_of_ble_eq_true rfl)
    · have hf := ite_e c1 hf
      refine E_aload_n 15 1 dX1_hasFeature_14 rfl rfl rfl ?_
      refine E_iload_n 16 3 dX1_hasFeature_15 rfl rfl rfl ?_
      obtain ⟨h2, hf⟩ := chk_some hf
      refine E_caldF 17 h2 dX1_hasFeature_16 rfl ?_
      refine E_istore 19 [(4, .int ((featL.getD x3.toNatClampNeg 0))), (0, .int x0), (1, .ref (gtF g)), (2, .int x2), (3, .int x3)] dX1_hasFeature_17 (by decide) rfl rfl ?_
      refine E_iload 21 0 dX1_hasFeature_19 rfl rfl ?_
      refine E_iload_n 22 1 dX1_hasFeature_21 rfl rfl rfl ?_
      refine E_icmp_ne 27 25 dX1_hasFeature_22 (by decide) rfl (fun c3 => ?_) (fun c3 => ?_)
      · have hf := ite_e c3 hf
        refine E_iinc 30 [(3, .int (x3 + 1)), (4, .int ((featL.getD x3.toNatClampNeg 0))), (0, .int x0), (1, .ref (gtF g)), (2, .int x2)] 4 (v := x3 + 1) dX1_hasFeature_27 rfl (by rw [cst_iconst1]) (by decide) rfl rfl ?_
        refine E_goto 9 dX1_hasFeature_30 (by decide) ?_
        refine E_sub [2, 3, 4, 0] rfl ?_
        exact ih (x3 + 1) hf
      · have hf := ite_t c3 hf
        refine E_iconst 26 1 dX1_hasFeature_25 cst_iconst1 rfl ?_
        cases hf
        exact E_zret (v := 1) rfl dX1_hasFeature_26 rfl (Nat.le_of_ble_eq_true rfl) (Nat.le_of_ble_eq_true rfl)
set_option maxRecDepth 100000 in
set_option maxHeartbeats 4000000 in
theorem c_X1_hasFeature {l : Launch} {g : Gt} (hl : l.stackTraces = false) {a0 : Int32} {μ : Mm} {ν : Mm} {o : Nat → Int64} {dd : Nat → UInt64} {res : Int32} (hf : f_X1_hasFeature a0 = some res) : CM l g z_X1_hasFeature yX1_hasFeature [.int a0] (μ, ν, o, dd) 0 (.inl (some (.int res))) (μ, ν, o, dd) := by
  unfold f_X1_hasFeature at hf
  refine CM_of_E rfl rfl (by decide +kernel) rfl (Nat.le_of_ble_eq_true rfl) hl ?_
  refine E_getF 3 kf_X1_32 dX1_hasFeature_0 rfl ?_
  refine E_astore_n 4 [(1, .ref (gtF g)), (0, .int a0)] dX1_hasFeature_3 rfl (by decide) rfl rfl ?_
  refine E_aload_n 5 0 dX1_hasFeature_4 rfl rfl rfl ?_
  refine E_lenF 6 13 (by decide) dX1_hasFeature_5 rfl ?_
  refine E_istore_n 7 [(2, .int 13), (1, .ref (gtF g)), (0, .int a0)] dX1_hasFeature_6 rfl (by decide) rfl rfl ?_
  refine E_iconst 8 0 dX1_hasFeature_7 cst_iconst0 rfl ?_
  refine E_istore_n 9 [(3, .int 0), (2, .int 13), (1, .ref (gtF g)), (0, .int a0)] dX1_hasFeature_8 rfl (by decide) rfl rfl ?_
  refine E_sub [3, 2, 1, 0] rfl ?_
  refine l_X1_hasFeature_L9 hl  _ _ hf
set_option maxRecDepth 100000 in
set_option maxHeartbeats 4000000 in
theorem c_X7_requireFeature {l : Launch} {g : Gt} (hl : l.stackTraces = false) {a0 : Int32} {μ : Mm} {ν : Mm} {o : Nat → Int64} {dd : Nat → UInt64} {res : Nat} (hf : f_X7_requireFeature a0 = some res) : CM l g z_X7_requireFeature yX7_requireFeature [.int a0] (μ, ν, o, dd) 1 (oc3 res none) (μ, ν, o, dd) := by
  unfold f_X7_requireFeature at hf
  refine CM_of_E rfl rfl (by decide +kernel) rfl (Nat.le_of_ble_eq_true rfl) hl ?_
  refine E_iload_n 1 0 dX7_requireFeature_0 rfl rfl rfl ?_
  obtain ⟨r1, hc2, hf⟩ := bnd hf
  refine E_callS1 4 0 [] [.int r1] (c_X1_hasFeature hl hc2) my_X1_hasFeature kl_X7_344 rfl rfl (Nat.le_of_ble_eq_true rfl) (rmok rfl) dX7_requireFeature_1 rfl rfl rfl ?_
  refine E_if_ne 18 7 dX7_requireFeature_4 (by decide) rfl (fun c3 => ?_) (fun c3 => ?_)
  · have hf := ite_e c3 hf
    cases hf
    exact E_vret dX7_requireFeature_18 rfl (Nat.le_of_ble_eq_true rfl) (Nat.le_of_ble_eq_true rfl)
  · have hf := ite_t c3 hf
    cases hf
    exact E_throwW th_X7_41_45 tx_348 rfl dX7_requireFeature_7 dX7_requireFeature_10 dX7_requireFeature_11 dX7_requireFeature_14 dX7_requireFeature_17 (Nat.le_of_ble_eq_true rfl) (Nat.le_of_ble_eq_true rfl) (Nat.le_of_ble_eq_true rfl) (Nat.le_of_ble_eq_true rfl) (Nat.le_of_ble_eq_true rfl) (Nat.le_of_ble_eq_true rfl)
set_option maxRecDepth 100000 in
set_option maxHeartbeats 4000000 in
theorem c_X7_valueOf {l : Launch} {g : Gt} (hl : l.stackTraces = false) {a1 : Int32} {a2 : Int32} {a3 : Int32} {μ : Mm} {ν : Mm} {o : Nat → Int64} {dd : Nat → UInt64} {res : Nat × Int32 × Mm} (hf : f_X7_valueOf a1 a2 a3 μ = some res) : CM l g z_X7_valueOf yX7_valueOf [.ref (gaC g 0), .int a1, .int a2, .int a3] (μ, ν, o, dd) 3 (oc3 res.1 (some (.int res.2.1))) (res.2.2, ν, o, dd) := by
  unfold f_X7_valueOf at hf
  refine CM_of_E rfl rfl (by decide +kernel) rfl (Nat.le_of_ble_eq_true rfl) hl ?_
  refine E_aload_n 1 0 dX7_valueOf_0 rfl rfl rfl ?_
  refine E_iload_n 2 1 dX7_valueOf_1 rfl rfl rfl ?_
  obtain ⟨r1, hc2, hf⟩ := bnd hf
  refine E_callVC2 5 1 [] [] (c_X7_requirePayment hl hc2) my_X7_requirePayment rc_X7 kl_X7_137 rfl rfl (Nat.le_of_ble_eq_true rfl) (rmok rfl) dX7_valueOf_2 rfl rfl rfl (fun z3 => ?_) (fun z3 => ?_)
  · have hf := ite_t z3 hf
    refine E_iload_n 6 2 dX7_valueOf_5 rfl rfl rfl ?_
    obtain ⟨r4, hc5, hf⟩ := bnd hf
    refine E_callS2 9 2 [] [] (c_X7_requireFeature hl hc5) my_X7_requireFeature kl_X7_157 rfl rfl (Nat.le_of_ble_eq_true rfl) (rmok rfl) dX7_valueOf_6 rfl rfl rfl (fun z6 => ?_) (fun z6 => ?_)
    · have hf := ite_t z6 hf
      refine E_iload_n 10 3 dX7_valueOf_9 rfl rfl rfl ?_
      obtain ⟨r7, hc8, hf⟩ := bnd hf
      refine E_callS2 13 3 [] [] (c_X7_requireWindow hl hc8) my_X7_requireWindow kl_X7_144 rfl rfl (Nat.le_of_ble_eq_true rfl) (rmok rfl) dX7_valueOf_10 rfl rfl rfl (fun z9 => ?_) (fun z9 => ?_)
      · have hf := ite_t z9 hf
        refine E_aload_n 14 0 dX7_valueOf_13 rfl rfl rfl ?_
        refine E_getCr 17 fg_X7_10 dX7_valueOf_14 rfl ?_
        refine E_iload_n 18 1 dX7_valueOf_17 rfl rfl rfl ?_
        refine E_iload_n 19 2 dX7_valueOf_18 rfl rfl rfl ?_
        refine E_iload_n 20 3 dX7_valueOf_19 rfl rfl rfl ?_
        obtain ⟨r10, hc11, hf⟩ := bnd hf
        refine E_callVC1 23 3 [] [.int r10.1] (c_X1_featureValue hl hc11) my_X1_featureValue rc_X1 kl_X7_161 rfl rfl (Nat.le_of_ble_eq_true rfl) (rmok rfl) dX7_valueOf_20 rfl rfl rfl ?_
        cases hf
        exact E_iret dX7_valueOf_23 rfl (Nat.le_of_ble_eq_true rfl) (Nat.le_of_ble_eq_true rfl)
      · have hf := ite_e z9 hf
        cases hf
        exact EX_outc rfl z9 (Nat.le_of_ble_eq_true rfl) (Nat.le_of_ble_eq_true rfl)
    · have hf := ite_e z6 hf
      cases hf
      exact EX_outc rfl z6 (Nat.le_of_ble_eq_true rfl) (Nat.le_of_ble_eq_true rfl)
  · have hf := ite_e z3 hf
    cases hf
    exact EX_outc rfl z3 (Nat.le_of_ble_eq_true rfl) (Nat.le_of_ble_eq_true rfl)
set_option maxRecDepth 100000 in
set_option maxHeartbeats 4000000 in
theorem c_L_valueOf_0_o {l : Launch} {g : Gt} (hl : l.stackTraces = false) {a1 : Int32} {a2 : Int32} {a3 : Int32} {μ : Mm} {ν : Mm} {o : Nat → Int64} {dd : Nat → UInt64} {res : Int32 × Mm × (Nat → Int64)} (hf : f_L_valueOf_0_o a1 a2 a3 μ o = some res) : CM l g z_L_valueOf yL_valueOf [.ref (gaC g 0), .int a1, .int a2, .int a3, .ref (gao g 0)] (μ, ν, o, dd) 3 (.inl (some (.int res.1))) (res.2.1, ν, res.2.2, dd) := by
  unfold f_L_valueOf_0_o at hf
  refine CM_of_EH rfl rfl (by decide +kernel) rfl (Nat.le_of_ble_eq_true rfl) hl ?_
  refine E_aload 2 4 dL_valueOf_0 rfl rfl ?_
  refine E_iconst 3 0 dL_valueOf_2 cst_iconst0 rfl ?_
  refine E_aload_n 4 0 dL_valueOf_3 rfl rfl rfl ?_
  refine E_iload_n 5 1 dL_valueOf_4 rfl rfl rfl ?_
  refine E_iload_n 6 2 dL_valueOf_5 rfl rfl rfl ?_
  refine E_iload_n 7 3 dL_valueOf_6 rfl rfl rfl ?_
  obtain ⟨r1, hc2, hf⟩ := bnd hf
  refine E_callVC2 10 3 [.int 0, .ref (gao g 0)] [.int r1.2.1, .int 0, .ref (gao g 0)] (c_X7_valueOf hl hc2) my_X7_valueOf rc_X7 kl_L_56 rfl rfl (Nat.le_of_ble_eq_true rfl) (rmok rfl) dL_valueOf_7 rfl rfl rfl (fun z3 => ?_) (fun z3 => ?_)
  · have hf := ite_t z3 hf
    refine E_i2l 11 dL_valueOf_10 rfl ?_
    obtain ⟨h4, hf⟩ := chk_some hf
    refine E_last 12 h4 dL_valueOf_11 rfl ?_
    refine E_goto 23 dL_valueOf_12 (by decide) ?_
    refine E_iconst 24 0 dL_valueOf_23 cst_iconst0 rfl ?_
    cases hf
    exact E_iret dL_valueOf_24 rfl (Nat.le_of_ble_eq_true rfl) (Nat.le_of_ble_eq_true rfl)
  · have hf := ite_e z3 hf
    by_cases k5 : r1.1 = 2
    · rw [k5]
      have hf := ite_t k5 hf
      refine EX_catch (X := "java/util/NoSuchElementException") [] [(0, 12, 19, 13)] 0 12 15 47 rfl (fun _ h => nomatch h) ⟨by decide, by decide⟩ (by decide) kk_L_47 kt_java_util_NoSuchElementException (fun q => ?_)
      refine E_astore 17 [(5, .ref q), (0, .ref (gaC g 0)), (1, .int a1), (2, .int a2), (3, .int a3), (4, .ref (gao g 0))] dL_valueOf_15 (by decide) rfl rfl ?_
      refine E_iconst 18 1 dL_valueOf_17 cst_iconst1 rfl ?_
      cases hf
      exact E_iret dL_valueOf_18 rfl (Nat.le_of_ble_eq_true rfl) (Nat.le_of_ble_eq_true rfl)
    have hf := ite_e k5 hf
    by_cases k6 : r1.1 = 4
    · rw [k6]
      have hf := ite_t k6 hf
      refine EX_catch (X := "java/lang/IllegalArgumentException") [(0, 12, 15, 47)] [] 0 12 19 13 rfl (List.forall_mem_cons.mpr ⟨⟨_, kk_L_47, nc_68, by decide⟩, fun _ h => nomatch h⟩) ⟨by decide, by decide⟩ (by decide) kk_L_13 kt_java_lang_IllegalArgumentException (fun q => ?_)
      refine E_astore 21 [(5, .ref q), (0, .ref (gaC g 0)), (1, .int a1), (2, .int a2), (3, .int a3), (4, .ref (gao g 0))] dL_valueOf_19 (by decide) rfl rfl ?_
      refine E_iconst 22 2 dL_valueOf_21 cst_iconst2 rfl ?_
      cases hf
      exact E_iret dL_valueOf_22 rfl (Nat.le_of_ble_eq_true rfl) (Nat.le_of_ble_eq_true rfl)
    have hf := ite_e k6 hf
    cases hf
set_option maxRecDepth 100000 in
set_option maxHeartbeats 4000000 in
theorem c_X7_requireRoomForCondition {l : Launch} {g : Gt} (hl : l.stackTraces = false)  {μ : Mm} {ν : Mm} {o : Nat → Int64} {dd : Nat → UInt64} {res : Nat} (hf : f_X7_requireRoomForCondition μ = some res) : CM l g z_X7_requireRoomForCondition yX7_requireRoomForCondition [.ref (gaC g 0)] (μ, ν, o, dd) 1 (oc3 res none) (μ, ν, o, dd) := by
  unfold f_X7_requireRoomForCondition at hf
  refine CM_of_E rfl rfl (by decide +kernel) rfl (Nat.le_of_ble_eq_true rfl) hl ?_
  refine E_aload_n 1 0 dX7_requireRoomForCondition_0 rfl rfl rfl ?_
  refine E_getCr 4 fg_X7_19 dX7_requireRoomForCondition_1 rfl ?_
  refine E_getCN 7 fg_X7_117 dX7_requireRoomForCondition_4 rfl ?_
  refine E_bipush 9 30 dX7_requireRoomForCondition_7 cst_bipush30 rfl ?_
  refine E_icmp_lt 23 12 dX7_requireRoomForCondition_9 (by decide) rfl (fun c1 => ?_) (fun c1 => ?_)
  · have hf := ite_t c1 hf
    cases hf
    exact E_vret dX7_requireRoomForCondition_23 rfl (Nat.le_of_ble_eq_true rfl) (Nat.le_of_ble_eq_true rfl)
  · have hf := ite_e c1 hf
    cases hf
    exact E_throwW th_X7_57_61 tx_340 rfl dX7_requireRoomForCondition_12 dX7_requireRoomForCondition_15 dX7_requireRoomForCondition_16 dX7_requireRoomForCondition_19 dX7_requireRoomForCondition_22 (Nat.le_of_ble_eq_true rfl) (Nat.le_of_ble_eq_true rfl) (Nat.le_of_ble_eq_true rfl) (Nat.le_of_ble_eq_true rfl) (Nat.le_of_ble_eq_true rfl) (Nat.le_of_ble_eq_true rfl)
set_option maxRecDepth 100000 in
set_option maxHeartbeats 4000000 in
theorem c_X3_keepTest {l : Launch} {g : Gt} (hl : l.stackTraces = false) {a1 : Int32} {μ : Mm} {ν : Mm} {o : Nat → Int64} {dd : Nat → UInt64} {res : Mm} (hf : f_X3_keepTest a1 μ = some res) : CM l g z_X3_keepTest yX3_keepTest [.ref (gaC g 13), .int a1] (μ, ν, o, dd) 0 (.inl none) (res, ν, o, dd) := by
  unfold f_X3_keepTest at hf
  refine CM_of_E rfl rfl (by decide +kernel) rfl (Nat.le_of_ble_eq_true rfl) hl ?_
  refine E_aload_n 1 0 dX3_keepTest_0 rfl rfl rfl ?_
  refine E_getCr 4 fg_X3_38 dX3_keepTest_1 rfl ?_
  refine E_aload_n 5 0 dX3_keepTest_4 rfl rfl rfl ?_
  refine E_getC 8 fg_X3_50 dX3_keepTest_5 rfl ?_
  obtain ⟨h1, hf⟩ := chk_some hf
  refine E_ialdC 9 (k := 22) (n := 30) rfl (by decide) h1 dX3_keepTest_8 rfl ?_
  refine E_bipush 11 8 dX3_keepTest_9 cst_bipush8 rfl ?_
  refine E_icmp_ge 50 14 dX3_keepTest_11 (by decide) rfl (fun c2 => ?_) (fun c2 => ?_)
  · have hf := ite_t c2 hf
    cases hf
    exact E_vret dX3_keepTest_50 rfl (Nat.le_of_ble_eq_true rfl) (Nat.le_of_ble_eq_true rfl)
  · have hf := ite_e c2 hf
    refine E_aload_n 15 0 dX3_keepTest_14 rfl rfl rfl ?_
    refine E_getCr 18 fg_X3_41 dX3_keepTest_15 rfl ?_
    refine E_aload_n 19 0 dX3_keepTest_18 rfl rfl rfl ?_
    refine E_getC 22 fg_X3_50 dX3_keepTest_19 rfl ?_
    refine E_bipush 24 8 dX3_keepTest_22 cst_bipush8 rfl ?_
    refine E_imul 25 dX3_keepTest_24 rfl ?_
    refine E_aload_n 26 0 dX3_keepTest_25 rfl rfl rfl ?_
    refine E_getCr 29 fg_X3_38 dX3_keepTest_26 rfl ?_
    refine E_aload_n 30 0 dX3_keepTest_29 rfl rfl rfl ?_
    refine E_getC 33 fg_X3_50 dX3_keepTest_30 rfl ?_
    obtain ⟨h3, hf⟩ := chk_some hf
    refine E_ialdC 34 (k := 22) (n := 30) rfl (by decide) h3 dX3_keepTest_33 rfl ?_
    refine E_iadd 35 dX3_keepTest_34 rfl ?_
    refine E_iload_n 36 1 dX3_keepTest_35 rfl rfl rfl ?_
    obtain ⟨h4, hf⟩ := chk_some hf
    refine E_iastC 37 (k := 23) (n := 240) rfl (by decide) h4 dX3_keepTest_36 rfl ?_
    refine E_aload_n 38 0 dX3_keepTest_37 rfl rfl rfl ?_
    refine E_getCr 41 fg_X3_38 dX3_keepTest_38 rfl ?_
    refine E_aload_n 42 0 dX3_keepTest_41 rfl rfl rfl ?_
    refine E_getC 45 fg_X3_50 dX3_keepTest_42 rfl ?_
    refine E_dup2 46 dX3_keepTest_45 rfl rfl rfl ?_
    obtain ⟨h5, hf⟩ := chk_some hf
    refine E_ialdC 47 (k := 22) (n := 30) rfl (by decide) h5 dX3_keepTest_46 rfl ?_
    refine E_iconst 48 1 dX3_keepTest_47 cst_iconst1 rfl ?_
    refine E_iadd 49 dX3_keepTest_48 rfl ?_
    obtain ⟨h6, hf⟩ := chk_some hf
    refine E_iastC 50 (k := 22) (n := 30) rfl (by decide) h6 dX3_keepTest_49 rfl ?_
    obtain ⟨mm7, emm7, hf⟩ := setm_some hf
    refine E_memC emm7 ?_
    cases hf
    exact E_vret dX3_keepTest_50 rfl (Nat.le_of_ble_eq_true rfl) (Nat.le_of_ble_eq_true rfl)
set_option maxRecDepth 100000 in
set_option maxHeartbeats 4000000 in
theorem c_X3_finish {l : Launch} {g : Gt} (hl : l.stackTraces = false) {a1 : Int32} {a2 : Int32} {μ : Mm} {ν : Mm} {o : Nat → Int64} {dd : Nat → UInt64} {res : Int32 × Mm} (hf : f_X3_finish a1 a2 μ = some res) : CM l g z_X3_finish yX3_finish [.ref (gaC g 13), .int a1, .int a2] (μ, ν, o, dd) 0 (.inl (some (.int res.1))) (res.2, ν, o, dd) := by
  unfold f_X3_finish at hf
  refine CM_of_E rfl rfl (by decide +kernel) rfl (Nat.le_of_ble_eq_true rfl) hl ?_
  refine E_aload_n 1 0 dX3_finish_0 rfl rfl rfl ?_
  refine E_getCr 4 fg_X3_9 dX3_finish_1 rfl ?_
  refine E_aload_n 5 0 dX3_finish_4 rfl rfl rfl ?_
  refine E_getC 8 fg_X3_50 dX3_finish_5 rfl ?_
  refine E_iload_n 9 1 dX3_finish_8 rfl rfl rfl ?_
  obtain ⟨h1, hf⟩ := chk_some hf
  refine E_iastC 10 (k := 14) (n := 30) rfl (by decide) h1 dX3_finish_9 rfl ?_
  refine E_aload_n 11 0 dX3_finish_10 rfl rfl rfl ?_
  refine E_getCr 14 fg_X3_15 dX3_finish_11 rfl ?_
  refine E_aload_n 15 0 dX3_finish_14 rfl rfl rfl ?_
  refine E_getC 18 fg_X3_50 dX3_finish_15 rfl ?_
  refine E_iload_n 19 2 dX3_finish_18 rfl rfl rfl ?_
  obtain ⟨h2, hf⟩ := chk_some hf
  refine E_iastC 20 (k := 15) (n := 30) rfl (by decide) h2 dX3_finish_19 rfl ?_
  refine E_aload_n 21 0 dX3_finish_20 rfl rfl rfl ?_
  refine E_dup 22 dX3_finish_21 rfl rfl ?_
  refine E_getC 25 fg_X3_50 dX3_finish_22 rfl ?_
  refine E_dup_x1 26 dX3_finish_25 rfl rfl rfl ?_
  refine E_iconst 27 1 dX3_finish_26 cst_iconst1 rfl ?_
  refine E_iadd 28 dX3_finish_27 rfl ?_
  refine E_putC 31 fp_X3_50 dX3_finish_28 rfl ?_
  obtain ⟨mm3, emm3, hf⟩ := setm_some hf
  refine E_memC emm3 ?_
  cases hf
  exact E_iret dX3_finish_31 rfl (Nat.le_of_ble_eq_true rfl) (Nat.le_of_ble_eq_true rfl)
set_option maxRecDepth 100000 in
set_option maxHeartbeats 4000000 in
theorem c_X3_appendTest {l : Launch} {g : Gt} (hl : l.stackTraces = false) {a1 : Int32} {a2 : Int32} {a3 : Int32} {a4 : Int32} {μ : Mm} {ν : Mm} {o : Nat → Int64} {dd : Nat → UInt64} {res : Int32 × Mm} (hf : f_X3_appendTest a1 a2 a3 a4 μ = some res) : CM l g z_X3_appendTest yX3_appendTest [.ref (gaC g 13), .int a1, .int a2, .int a3, .int a4] (μ, ν, o, dd) 0 (.inl (some (.int res.1))) (res.2, ν, o, dd) := by
  unfold f_X3_appendTest at hf
  refine CM_of_E rfl rfl (by decide +kernel) rfl (Nat.le_of_ble_eq_true rfl) hl ?_
  refine E_aload_n 1 0 dX3_appendTest_0 rfl rfl rfl ?_
  refine E_getCr 4 fg_X3_18 dX3_appendTest_1 rfl ?_
  refine E_aload_n 5 0 dX3_appendTest_4 rfl rfl rfl ?_
  refine E_getC 8 fg_X3_50 dX3_appendTest_5 rfl ?_
  refine E_iload_n 9 1 dX3_appendTest_8 rfl rfl rfl ?_
  obtain ⟨h1, hf⟩ := chk_some hf
  refine E_castC 10 (k := 16) (n := 30) rfl (by decide) h1 dX3_appendTest_9 rfl ?_
  refine E_aload_n 11 0 dX3_appendTest_10 rfl rfl rfl ?_
  refine E_getCr 14 fg_X3_22 dX3_appendTest_11 rfl ?_
  refine E_aload_n 15 0 dX3_appendTest_14 rfl rfl rfl ?_
  refine E_getC 18 fg_X3_50 dX3_appendTest_15 rfl ?_
  refine E_iload_n 19 2 dX3_appendTest_18 rfl rfl rfl ?_
  obtain ⟨h2, hf⟩ := chk_some hf
  refine E_iastC 20 (k := 17) (n := 30) rfl (by decide) h2 dX3_appendTest_19 rfl ?_
  refine E_aload_n 21 0 dX3_appendTest_20 rfl rfl rfl ?_
  refine E_getCr 24 fg_X3_25 dX3_appendTest_21 rfl ?_
  refine E_aload_n 25 0 dX3_appendTest_24 rfl rfl rfl ?_
  refine E_getC 28 fg_X3_50 dX3_appendTest_25 rfl ?_
  refine E_iload_n 29 3 dX3_appendTest_28 rfl rfl rfl ?_
  obtain ⟨h3, hf⟩ := chk_some hf
  refine E_zastC 30 (k := 18) (n := 30) rfl (by decide) h3 dX3_appendTest_29 rfl ?_
  obtain ⟨mm4, emm4, hf⟩ := setm_some hf
  refine E_memC emm4 ?_
  refine E_aload_n 31 0 dX3_appendTest_30 rfl rfl rfl ?_
  refine E_getCr 34 fg_X3_29 dX3_appendTest_31 rfl ?_
  refine E_aload_n 35 0 dX3_appendTest_34 rfl rfl rfl ?_
  refine E_getC 38 fg_X3_50 dX3_appendTest_35 rfl ?_
  refine E_iload 40 4 dX3_appendTest_38 rfl rfl ?_
  obtain ⟨h5, hf⟩ := chk_some hf
  refine E_iastC 41 (k := 19) (n := 30) rfl (by decide) h5 dX3_appendTest_40 rfl ?_
  refine E_aload_n 42 0 dX3_appendTest_41 rfl rfl rfl ?_
  refine E_aload_n 43 0 dX3_appendTest_42 rfl rfl rfl ?_
  refine E_getC 46 fg_X3_50 dX3_appendTest_43 rfl ?_
  obtain ⟨r6, hc7, hf⟩ := bnd hf
  refine E_callVC1 49 0 [] [] (c_X3_keepTest hl hc7) my_X3_keepTest rc_X3 kl_X3_54 rfl rfl (Nat.le_of_ble_eq_true rfl) (rmok rfl) dX3_appendTest_46 rfl rfl rfl ?_
  refine E_aload_n 50 0 dX3_appendTest_49 rfl rfl rfl ?_
  refine E_iconst 51 0 dX3_appendTest_50 cst_iconst0 rfl ?_
  refine E_iconst 52 1 dX3_appendTest_51 cst_iconst1 rfl ?_
  obtain ⟨r8, hc9, hf⟩ := bnd hf
  refine E_callVC1 55 0 [] [.int r8.1] (c_X3_finish hl hc9) my_X3_finish rc_X3 kl_X3_58 rfl rfl (Nat.le_of_ble_eq_true rfl) (rmok rfl) dX3_appendTest_52 rfl rfl rfl ?_
  cases hf
  exact E_iret dX3_appendTest_55 rfl (Nat.le_of_ble_eq_true rfl) (Nat.le_of_ble_eq_true rfl)
set_option maxRecDepth 100000 in
set_option maxHeartbeats 4000000 in
theorem c_X7_addTest {l : Launch} {g : Gt} (hl : l.stackTraces = false) {a1 : Int32} {a2 : Int32} {a3 : Int32} {a4 : Int32} {μ : Mm} {ν : Mm} {o : Nat → Int64} {dd : Nat → UInt64} {res : Nat × Int32 × Mm} (hf : f_X7_addTest a1 a2 a3 a4 μ = some res) : CM l g z_X7_addTest yX7_addTest [.ref (gaC g 0), .int a1, .int a2, .int a3, .int a4] (μ, ν, o, dd) 3 (oc3 res.1 (some (.int res.2.1))) (res.2.2, ν, o, dd) := by
  unfold f_X7_addTest at hf
  refine CM_of_E rfl rfl (by decide +kernel) rfl (Nat.le_of_ble_eq_true rfl) hl ?_
  refine E_iload_n 1 1 dX7_addTest_0 rfl rfl rfl ?_
  obtain ⟨r1, hc2, hf⟩ := bnd hf
  refine E_callS2 4 1 [] [] (c_X7_requireFeature hl hc2) my_X7_requireFeature kl_X7_157 rfl rfl (Nat.le_of_ble_eq_true rfl) (rmok rfl) dX7_addTest_1 rfl rfl rfl (fun z3 => ?_) (fun z3 => ?_)
  · have hf := ite_t z3 hf
    refine E_iload_n 5 2 dX7_addTest_4 rfl rfl rfl ?_
    obtain ⟨r4, hc5, hf⟩ := bnd hf
    refine E_callS2 8 2 [] [] (c_X7_requireWindow hl hc5) my_X7_requireWindow kl_X7_144 rfl rfl (Nat.le_of_ble_eq_true rfl) (rmok rfl) dX7_addTest_5 rfl rfl rfl (fun z6 => ?_) (fun z6 => ?_)
    · have hf := ite_t z6 hf
      refine E_iload 10 4 dX7_addTest_8 rfl rfl ?_
      refine E_if_lt 20 13 dX7_addTest_10 (by decide) rfl (fun c7 => ?_) (fun c7 => ?_)
      · have hf := ite_t c7 hf
        cases hf
        exact E_throw th_X7_41_45 tx_166 rfl dX7_addTest_20 dX7_addTest_23 dX7_addTest_24 dX7_addTest_26 dX7_addTest_29 (Nat.le_of_ble_eq_true rfl) (Nat.le_of_ble_eq_true rfl) (Nat.le_of_ble_eq_true rfl) (Nat.le_of_ble_eq_true rfl) (Nat.le_of_ble_eq_true rfl) (Nat.le_of_ble_eq_true rfl)
      · have hf := ite_e c7 hf
        refine E_iload 15 4 dX7_addTest_13 rfl rfl ?_
        refine E_ldc 17 kq_X7_165 dX7_addTest_15 rfl ?_
        refine E_icmp_le 30 20 dX7_addTest_17 (by decide) rfl (fun c8 => ?_) (fun c8 => ?_)
        · have hf := ite_t c8 hf
          refine E_aload_n 31 0 dX7_addTest_30 rfl rfl rfl ?_
          obtain ⟨r9, hc10, hf⟩ := bnd hf
          refine E_callVC2 34 3 [] [] (c_X7_requireRoomForCondition hl hc10) my_X7_requireRoomForCondition rc_X7 kl_X7_168 rfl rfl (Nat.le_of_ble_eq_true rfl) (rmok rfl) dX7_addTest_31 rfl rfl rfl (fun z11 => ?_) (fun z11 => ?_)
          · have hf := ite_t z11 hf
            refine E_aload_n 35 0 dX7_addTest_34 rfl rfl rfl ?_
            refine E_getCr 38 fg_X7_19 dX7_addTest_35 rfl ?_
            refine E_iload_n 39 1 dX7_addTest_38 rfl rfl rfl ?_
            refine E_iload_n 40 2 dX7_addTest_39 rfl rfl rfl ?_
            refine E_iload_n 41 3 dX7_addTest_40 rfl rfl rfl ?_
            refine E_iload 43 4 dX7_addTest_41 rfl rfl ?_
            obtain ⟨r12, hc13, hf⟩ := bnd hf
            refine E_callVC1 46 3 [] [.int r12.1] (c_X3_appendTest hl hc13) my_X3_appendTest rc_X3 kl_X7_171 rfl rfl (Nat.le_of_ble_eq_true rfl) (rmok rfl) dX7_addTest_43 rfl rfl rfl ?_
            cases hf
            exact E_iret dX7_addTest_46 rfl (Nat.le_of_ble_eq_true rfl) (Nat.le_of_ble_eq_true rfl)
          · have hf := ite_e z11 hf
            cases hf
            exact EX_outc rfl z11 (Nat.le_of_ble_eq_true rfl) (Nat.le_of_ble_eq_true rfl)
        · have hf := ite_e c8 hf
          cases hf
          exact E_throw th_X7_41_45 tx_166 rfl dX7_addTest_20 dX7_addTest_23 dX7_addTest_24 dX7_addTest_26 dX7_addTest_29 (Nat.le_of_ble_eq_true rfl) (Nat.le_of_ble_eq_true rfl) (Nat.le_of_ble_eq_true rfl) (Nat.le_of_ble_eq_true rfl) (Nat.le_of_ble_eq_true rfl) (Nat.le_of_ble_eq_true rfl)
    · have hf := ite_e z6 hf
      cases hf
      exact EX_outc rfl z6 (Nat.le_of_ble_eq_true rfl) (Nat.le_of_ble_eq_true rfl)
  · have hf := ite_e z3 hf
    cases hf
    exact EX_outc rfl z3 (Nat.le_of_ble_eq_true rfl) (Nat.le_of_ble_eq_true rfl)
set_option maxRecDepth 100000 in
set_option maxHeartbeats 4000000 in
theorem c_L_addTest_0_o {l : Launch} {g : Gt} (hl : l.stackTraces = false) {a1 : Int32} {a2 : Int32} {a3 : Int32} {a4 : Int32} {μ : Mm} {ν : Mm} {o : Nat → Int64} {dd : Nat → UInt64} {res : Int32 × Mm × (Nat → Int64)} (hf : f_L_addTest_0_o a1 a2 a3 a4 μ o = some res) : CM l g z_L_addTest yL_addTest [.ref (gaC g 0), .int a1, .int a2, .int a3, .int a4, .ref (gao g 0)] (μ, ν, o, dd) 3 (.inl (some (.int res.1))) (res.2.1, ν, res.2.2, dd) := by
  unfold f_L_addTest_0_o at hf
  refine CM_of_EH rfl rfl (by decide +kernel) rfl (Nat.le_of_ble_eq_true rfl) hl ?_
  refine E_aload 2 5 dL_addTest_0 rfl rfl ?_
  refine E_iconst 3 0 dL_addTest_2 cst_iconst0 rfl ?_
  refine E_aload_n 4 0 dL_addTest_3 rfl rfl rfl ?_
  refine E_iload_n 5 1 dL_addTest_4 rfl rfl rfl ?_
  refine E_iload_n 6 2 dL_addTest_5 rfl rfl rfl ?_
  refine E_iload_n 7 3 dL_addTest_6 rfl rfl rfl ?_
  refine E_iload 9 4 dL_addTest_7 rfl rfl ?_
  obtain ⟨r1, hc2, hf⟩ := bnd hf
  refine E_callVC2 12 3 [.int 0, .ref (gao g 0)] [.int r1.2.1, .int 0, .ref (gao g 0)] (c_X7_addTest hl hc2) my_X7_addTest rc_X7 kl_L_60 rfl rfl (Nat.le_of_ble_eq_true rfl) (rmok rfl) dL_addTest_9 rfl rfl rfl (fun z3 => ?_) (fun z3 => ?_)
  · have hf := ite_t z3 hf
    refine E_i2l 13 dL_addTest_12 rfl ?_
    obtain ⟨h4, hf⟩ := chk_some hf
    refine E_last 14 h4 dL_addTest_13 rfl ?_
    refine E_goto 25 dL_addTest_14 (by decide) ?_
    refine E_iconst 26 0 dL_addTest_25 cst_iconst0 rfl ?_
    cases hf
    exact E_iret dL_addTest_26 rfl (Nat.le_of_ble_eq_true rfl) (Nat.le_of_ble_eq_true rfl)
  · have hf := ite_e z3 hf
    by_cases k5 : r1.1 = 4
    · rw [k5]
      have hf := ite_t k5 hf
      refine EX_catch (X := "java/lang/IllegalArgumentException") [] [(0, 14, 21, 15)] 0 14 17 13 rfl (fun _ h => nomatch h) ⟨by decide, by decide⟩ (by decide) kk_L_13 kt_java_lang_IllegalArgumentException (fun q => ?_)
      refine E_astore 19 [(6, .ref q), (0, .ref (gaC g 0)), (1, .int a1), (2, .int a2), (3, .int a3), (4, .int a4), (5, .ref (gao g 0))] dL_addTest_17 (by decide) rfl rfl ?_
      refine E_iconst 20 1 dL_addTest_19 cst_iconst1 rfl ?_
      cases hf
      exact E_iret dL_addTest_20 rfl (Nat.le_of_ble_eq_true rfl) (Nat.le_of_ble_eq_true rfl)
    have hf := ite_e k5 hf
    by_cases k6 : r1.1 = 3
    · rw [k6]
      have hf := ite_t k6 hf
      refine EX_catch (X := "java/lang/IllegalStateException") [(0, 14, 17, 13)] [] 0 14 21 15 rfl (List.forall_mem_cons.mpr ⟨⟨_, kk_L_13, nc_9, by decide⟩, fun _ h => nomatch h⟩) ⟨by decide, by decide⟩ (by decide) kk_L_15 kt_java_lang_IllegalStateException (fun q => ?_)
      refine E_astore 23 [(6, .ref q), (0, .ref (gaC g 0)), (1, .int a1), (2, .int a2), (3, .int a3), (4, .int a4), (5, .ref (gao g 0))] dL_addTest_21 (by decide) rfl rfl ?_
      refine E_iconst 24 2 dL_addTest_23 cst_iconst2 rfl ?_
      cases hf
      exact E_iret dL_addTest_24 rfl (Nat.le_of_ble_eq_true rfl) (Nat.le_of_ble_eq_true rfl)
    have hf := ite_e k6 hf
    cases hf
set_option maxRecDepth 100000 in
set_option maxHeartbeats 4000000 in
theorem c_X7_requireCondition {l : Launch} {g : Gt} (hl : l.stackTraces = false) {a1 : Int32} {μ : Mm} {ν : Mm} {o : Nat → Int64} {dd : Nat → UInt64} {res : Nat} (hf : f_X7_requireCondition a1 μ = some res) : CM l g z_X7_requireCondition yX7_requireCondition [.ref (gaC g 0), .int a1] (μ, ν, o, dd) 1 (oc3 res none) (μ, ν, o, dd) := by
  unfold f_X7_requireCondition at hf
  refine CM_of_E rfl rfl (by decide +kernel) rfl (Nat.le_of_ble_eq_true rfl) hl ?_
  refine E_iload_n 1 1 dX7_requireCondition_0 rfl rfl rfl ?_
  refine E_if_lt 15 4 dX7_requireCondition_1 (by decide) rfl (fun c1 => ?_) (fun c1 => ?_)
  · have hf := ite_t c1 hf
    cases hf
    exact E_throwW th_X7_257_261 tx_336 rfl dX7_requireCondition_15 dX7_requireCondition_18 dX7_requireCondition_19 dX7_requireCondition_22 dX7_requireCondition_25 (Nat.le_of_ble_eq_true rfl) (Nat.le_of_ble_eq_true rfl) (Nat.le_of_ble_eq_true rfl) (Nat.le_of_ble_eq_true rfl) (Nat.le_of_ble_eq_true rfl) (Nat.le_of_ble_eq_true rfl)
  · have hf := ite_e c1 hf
    refine E_iload_n 5 1 dX7_requireCondition_4 rfl rfl rfl ?_
    refine E_aload_n 6 0 dX7_requireCondition_5 rfl rfl rfl ?_
    refine E_getCr 9 fg_X7_19 dX7_requireCondition_6 rfl ?_
    refine E_getCN 12 fg_X7_117 dX7_requireCondition_9 rfl ?_
    refine E_icmp_lt 26 15 dX7_requireCondition_12 (by decide) rfl (fun c2 => ?_) (fun c2 => ?_)
    · have hf := ite_t c2 hf
      cases hf
      exact E_vret dX7_requireCondition_26 rfl (Nat.le_of_ble_eq_true rfl) (Nat.le_of_ble_eq_true rfl)
    · have hf := ite_e c2 hf
      cases hf
      exact E_throwW th_X7_257_261 tx_336 rfl dX7_requireCondition_15 dX7_requireCondition_18 dX7_requireCondition_19 dX7_requireCondition_22 dX7_requireCondition_25 (Nat.le_of_ble_eq_true rfl) (Nat.le_of_ble_eq_true rfl) (Nat.le_of_ble_eq_true rfl) (Nat.le_of_ble_eq_true rfl) (Nat.le_of_ble_eq_true rfl) (Nat.le_of_ble_eq_true rfl)
set_option maxRecDepth 100000 in
set_option maxHeartbeats 4000000 in
theorem c_X7_requireSize {l : Launch} {g : Gt} (hl : l.stackTraces = false) {a0 : Int32} {μ : Mm} {ν : Mm} {o : Nat → Int64} {dd : Nat → UInt64} {res : Nat} (hf : f_X7_requireSize a0 = some res) : CM l g z_X7_requireSize yX7_requireSize [.int a0] (μ, ν, o, dd) 1 (oc3 res none) (μ, ν, o, dd) := by
  unfold f_X7_requireSize at hf
  refine CM_of_E rfl rfl (by decide +kernel) rfl (Nat.le_of_ble_eq_true rfl) hl ?_
  refine E_iload_n 1 0 dX7_requireSize_0 rfl rfl rfl ?_
  refine E_bipush 3 15 dX7_requireSize_1 cst_bipush15 rfl ?_
  refine E_icmp_le 17 6 dX7_requireSize_3 (by decide) rfl (fun c1 => ?_) (fun c1 => ?_)
  · have hf := ite_t c1 hf
    cases hf
    exact E_vret dX7_requireSize_17 rfl (Nat.le_of_ble_eq_true rfl) (Nat.le_of_ble_eq_true rfl)
  · have hf := ite_e c1 hf
    cases hf
    exact E_throwW th_X7_98_102 tx_342 rfl dX7_requireSize_6 dX7_requireSize_9 dX7_requireSize_10 dX7_requireSize_13 dX7_requireSize_16 (Nat.le_of_ble_eq_true rfl) (Nat.le_of_ble_eq_true rfl) (Nat.le_of_ble_eq_true rfl) (Nat.le_of_ble_eq_true rfl) (Nat.le_of_ble_eq_true rfl) (Nat.le_of_ble_eq_true rfl)
set_option maxRecDepth 100000 in
set_option maxHeartbeats 4000000 in
theorem c_X7_requireJoinable {l : Launch} {g : Gt} (hl : l.stackTraces = false) {a1 : Int32} {a2 : Int32} {μ : Mm} {ν : Mm} {o : Nat → Int64} {dd : Nat → UInt64} {res : Nat} (hf : f_X7_requireJoinable a1 a2 μ = some res) : CM l g z_X7_requireJoinable yX7_requireJoinable [.ref (gaC g 0), .int a1, .int a2] (μ, ν, o, dd) 4 (oc3 res none) (μ, ν, o, dd) := by
  unfold f_X7_requireJoinable at hf
  refine CM_of_E rfl rfl (by decide +kernel) rfl (Nat.le_of_ble_eq_true rfl) hl ?_
  refine E_aload_n 1 0 dX7_requireJoinable_0 rfl rfl rfl ?_
  refine E_iload_n 2 1 dX7_requireJoinable_1 rfl rfl rfl ?_
  obtain ⟨r1, hc2, hf⟩ := bnd hf
  refine E_callVC2 5 1 [] [] (c_X7_requireCondition hl hc2) my_X7_requireCondition rc_X7 kl_X7_183 rfl rfl (Nat.le_of_ble_eq_true rfl) (rmok rfl) dX7_requireJoinable_2 rfl rfl rfl (fun z3 => ?_) (fun z3 => ?_)
  · have hf := ite_t z3 hf
    refine E_aload_n 6 0 dX7_requireJoinable_5 rfl rfl rfl ?_
    refine E_iload_n 7 2 dX7_requireJoinable_6 rfl rfl rfl ?_
    obtain ⟨r4, hc5, hf⟩ := bnd hf
    refine E_callVC2 10 2 [] [] (c_X7_requireCondition hl hc5) my_X7_requireCondition rc_X7 kl_X7_183 rfl rfl (Nat.le_of_ble_eq_true rfl) (rmok rfl) dX7_requireJoinable_7 rfl rfl rfl (fun z6 => ?_) (fun z6 => ?_)
    · have hf := ite_t z6 hf
      refine E_iconst 11 1 dX7_requireJoinable_10 cst_iconst1 rfl ?_
      refine E_aload_n 12 0 dX7_requireJoinable_11 rfl rfl rfl ?_
      refine E_getCr 15 fg_X7_19 dX7_requireJoinable_12 rfl ?_
      refine E_getCrN 18 fg_X7_186 dX7_requireJoinable_15 rfl ?_
      refine E_iload_n 19 1 dX7_requireJoinable_18 rfl rfl rfl ?_
      obtain ⟨h7, hf⟩ := chk_some hf
      refine E_ialdC 20 (k := 15) (n := 30) rfl (by decide) h7 dX7_requireJoinable_19 rfl ?_
      refine E_iadd 21 dX7_requireJoinable_20 rfl ?_
      refine E_aload_n 22 0 dX7_requireJoinable_21 rfl rfl rfl ?_
      refine E_getCr 25 fg_X7_19 dX7_requireJoinable_22 rfl ?_
      refine E_getCrN 28 fg_X7_186 dX7_requireJoinable_25 rfl ?_
      refine E_iload_n 29 2 dX7_requireJoinable_28 rfl rfl rfl ?_
      obtain ⟨h8, hf⟩ := chk_some hf
      refine E_ialdC 30 (k := 15) (n := 30) rfl (by decide) h8 dX7_requireJoinable_29 rfl ?_
      refine E_iadd 31 dX7_requireJoinable_30 rfl ?_
      obtain ⟨r9, hc10, hf⟩ := bnd hf
      refine E_callS2 34 3 [] [] (c_X7_requireSize hl hc10) my_X7_requireSize kl_X7_189 rfl rfl (Nat.le_of_ble_eq_true rfl) (rmok rfl) dX7_requireJoinable_31 rfl rfl rfl (fun z11 => ?_) (fun z11 => ?_)
      · have hf := ite_t z11 hf
        refine E_aload_n 35 0 dX7_requireJoinable_34 rfl rfl rfl ?_
        obtain ⟨r12, hc13, hf⟩ := bnd hf
        refine E_callVC2 38 4 [] [] (c_X7_requireRoomForCondition hl hc13) my_X7_requireRoomForCondition rc_X7 kl_X7_168 rfl rfl (Nat.le_of_ble_eq_true rfl) (rmok rfl) dX7_requireJoinable_35 rfl rfl rfl (fun z14 => ?_) (fun z14 => ?_)
        · have hf := ite_t z14 hf
          cases hf
          exact E_vret dX7_requireJoinable_38 rfl (Nat.le_of_ble_eq_true rfl) (Nat.le_of_ble_eq_true rfl)
        · have hf := ite_e z14 hf
          cases hf
          exact EX_outc rfl z14 (Nat.le_of_ble_eq_true rfl) (Nat.le_of_ble_eq_true rfl)
      · have hf := ite_e z11 hf
        cases hf
        exact EX_outc rfl z11 (Nat.le_of_ble_eq_true rfl) (Nat.le_of_ble_eq_true rfl)
    · have hf := ite_e z6 hf
      cases hf
      exact EX_outc rfl z6 (Nat.le_of_ble_eq_true rfl) (Nat.le_of_ble_eq_true rfl)
  · have hf := ite_e z3 hf
    cases hf
    exact EX_outc rfl z3 (Nat.le_of_ble_eq_true rfl) (Nat.le_of_ble_eq_true rfl)
set_option maxRecDepth 100000 in
set_option maxHeartbeats 4000000 in
theorem l_X3_keepTestsOf_L2 {l : Launch} {g : Gt} (hl : l.stackTraces = false) {ν : Mm} {o : Nat → Int64} {dd : Nat → UInt64}  {x1 : Int32} {res : Mm} : ∀ (n : Nat) (x2 : Int32) (μ : Mm), f_X3_keepTestsOf_L2 x1 n x2 μ = some res → E l g z_X3_keepTestsOf 2 [(0, .ref (gaC g 13)), (1, .int x1), (2, .int x2)] [] (μ, ν, o, dd) 0 (QM g (.inl none) (res, ν, o, dd) 0) := by
  intro n
  induction n with
  | zero => intro x2 μ hf; cases hf
  | succ n ih =>
    intro x2 μ hf
    refine E_iload_n 3 2 dX3_keepTestsOf_2 rfl rfl rfl ?_
    refine E_aload_n 4 0 dX3_keepTestsOf_3 rfl rfl rfl ?_
    refine E_getCr 7 fg_X3_38 dX3_keepTestsOf_4 rfl ?_
    refine E_iload_n 8 1 dX3_keepTestsOf_7 rfl rfl rfl ?_
    obtain ⟨h1, hf⟩ := chk_some hf
    refine E_ialdC 9 (k := 22) (n := 30) rfl (by decide) h1 dX3_keepTestsOf_8 rfl ?_
    refine E_icmp_ge 33 12 dX3_keepTestsOf_9 (by decide) rfl (fun c2 => ?_) (fun c2 => ?_)
    · have hf := ite_t c2 hf
      cases hf
      exact E_vret dX3_keepTestsOf_33 rfl (Nat.le_of_ble_eq_true rfl) (Nat.le_of_ble_eq_true rfl)
    · have hf := ite_e c2 hf
      refine E_aload_n 13 0 dX3_keepTestsOf_12 rfl rfl rfl ?_
      refine E_aload_n 14 0 dX3_keepTestsOf_13 rfl rfl rfl ?_
      refine E_getCr 17 fg_X3_41 dX3_keepTestsOf_14 rfl ?_
      refine E_iload_n 18 1 dX3_keepTestsOf_17 rfl rfl rfl ?_
      refine E_bipush 20 8 dX3_keepTestsOf_18 cst_bipush8 rfl ?_
      refine E_imul 21 dX3_keepTestsOf_20 rfl ?_
      refine E_iload_n 22 2 dX3_keepTestsOf_21 rfl rfl rfl ?_
      refine E_iadd 23 dX3_keepTestsOf_22 rfl ?_
      obtain ⟨h3, hf⟩ := chk_some hf
      refine E_ialdC 24 (k := 23) (n := 240) rfl (by decide) h3 dX3_keepTestsOf_23 rfl ?_
      obtain ⟨r4, hc5, hf⟩ := bnd hf
      refine E_callVC1 27 0 [] [] (c_X3_keepTest hl hc5) my_X3_keepTest rc_X3 kl_X3_54 rfl rfl (Nat.le_of_ble_eq_true rfl) (rmok rfl) dX3_keepTestsOf_24 rfl rfl rfl ?_
      refine E_iinc 30 [(2, .int (x2 + 1)), (0, .ref (gaC g 13)), (1, .int x1)] 2 (v := x2 + 1) dX3_keepTestsOf_27 rfl (by rw [cst_iconst1]) (by decide) rfl rfl ?_
      refine E_goto 2 dX3_keepTestsOf_30 (by decide) ?_
      refine E_sub [1, 2, 0] rfl ?_
      exact ih (x2 + 1) r4 hf
set_option maxRecDepth 100000 in
set_option maxHeartbeats 4000000 in
theorem c_X3_keepTestsOf {l : Launch} {g : Gt} (hl : l.stackTraces = false) {a1 : Int32} {μ : Mm} {ν : Mm} {o : Nat → Int64} {dd : Nat → UInt64} {res : Mm} (hf : f_X3_keepTestsOf a1 μ = some res) : CM l g z_X3_keepTestsOf yX3_keepTestsOf [.ref (gaC g 13), .int a1] (μ, ν, o, dd) 0 (.inl none) (res, ν, o, dd) := by
  unfold f_X3_keepTestsOf at hf
  refine CM_of_E rfl rfl (by decide +kernel) rfl (Nat.le_of_ble_eq_true rfl) hl ?_
  refine E_iconst 1 0 dX3_keepTestsOf_0 cst_iconst0 rfl ?_
  refine E_istore_n 2 [(2, .int 0), (0, .ref (gaC g 13)), (1, .int a1)] dX3_keepTestsOf_1 rfl (by decide) rfl rfl ?_
  refine E_sub [1, 2, 0] rfl ?_
  refine l_X3_keepTestsOf_L2 hl  _ _ _ hf
set_option maxRecDepth 100000 in
set_option maxHeartbeats 4000000 in
theorem c_X3_appendJoin {l : Launch} {g : Gt} (hl : l.stackTraces = false) {a1 : Int32} {a2 : Int32} {a3 : Int32} {μ : Mm} {ν : Mm} {o : Nat → Int64} {dd : Nat → UInt64} {res : Int32 × Mm} (hf : f_X3_appendJoin a1 a2 a3 μ = some res) : CM l g z_X3_appendJoin yX3_appendJoin [.ref (gaC g 13), .int a1, .int a2, .int a3] (μ, ν, o, dd) 0 (.inl (some (.int res.1))) (res.2, ν, o, dd) := by
  unfold f_X3_appendJoin at hf
  refine CM_of_E rfl rfl (by decide +kernel) rfl (Nat.le_of_ble_eq_true rfl) hl ?_
  refine E_aload_n 1 0 dX3_appendJoin_0 rfl rfl rfl ?_
  refine E_getCr 4 fg_X3_32 dX3_appendJoin_1 rfl ?_
  refine E_aload_n 5 0 dX3_appendJoin_4 rfl rfl rfl ?_
  refine E_getC 8 fg_X3_50 dX3_appendJoin_5 rfl ?_
  refine E_iload_n 9 2 dX3_appendJoin_8 rfl rfl rfl ?_
  obtain ⟨h1, hf⟩ := chk_some hf
  refine E_iastC 10 (k := 20) (n := 30) rfl (by decide) h1 dX3_appendJoin_9 rfl ?_
  refine E_aload_n 11 0 dX3_appendJoin_10 rfl rfl rfl ?_
  refine E_getCr 14 fg_X3_35 dX3_appendJoin_11 rfl ?_
  refine E_aload_n 15 0 dX3_appendJoin_14 rfl rfl rfl ?_
  refine E_getC 18 fg_X3_50 dX3_appendJoin_15 rfl ?_
  refine E_iload_n 19 3 dX3_appendJoin_18 rfl rfl rfl ?_
  obtain ⟨h2, hf⟩ := chk_some hf
  refine E_iastC 20 (k := 21) (n := 30) rfl (by decide) h2 dX3_appendJoin_19 rfl ?_
  refine E_aload_n 21 0 dX3_appendJoin_20 rfl rfl rfl ?_
  refine E_iload_n 22 2 dX3_appendJoin_21 rfl rfl rfl ?_
  obtain ⟨r3, hc4, hf⟩ := bnd hf
  refine E_callVC1 25 0 [] [] (c_X3_keepTestsOf hl hc4) my_X3_keepTestsOf rc_X3 kl_X3_62 rfl rfl (Nat.le_of_ble_eq_true rfl) (rmok rfl) dX3_appendJoin_22 rfl rfl rfl ?_
  refine E_aload_n 26 0 dX3_appendJoin_25 rfl rfl rfl ?_
  refine E_iload_n 27 3 dX3_appendJoin_26 rfl rfl rfl ?_
  obtain ⟨r5, hc6, hf⟩ := bnd hf
  refine E_callVC1 30 0 [] [] (c_X3_keepTestsOf hl hc6) my_X3_keepTestsOf rc_X3 kl_X3_62 rfl rfl (Nat.le_of_ble_eq_true rfl) (rmok rfl) dX3_appendJoin_27 rfl rfl rfl ?_
  refine E_aload_n 31 0 dX3_appendJoin_30 rfl rfl rfl ?_
  refine E_iload_n 32 1 dX3_appendJoin_31 rfl rfl rfl ?_
  refine E_iconst 33 1 dX3_appendJoin_32 cst_iconst1 rfl ?_
  refine E_aload_n 34 0 dX3_appendJoin_33 rfl rfl rfl ?_
  refine E_getCr 37 fg_X3_15 dX3_appendJoin_34 rfl ?_
  refine E_iload_n 38 2 dX3_appendJoin_37 rfl rfl rfl ?_
  obtain ⟨h7, hf⟩ := chk_some hf
  refine E_ialdC 39 (k := 15) (n := 30) rfl (by decide) h7 dX3_appendJoin_38 rfl ?_
  refine E_iadd 40 dX3_appendJoin_39 rfl ?_
  refine E_aload_n 41 0 dX3_appendJoin_40 rfl rfl rfl ?_
  refine E_getCr 44 fg_X3_15 dX3_appendJoin_41 rfl ?_
  refine E_iload_n 45 3 dX3_appendJoin_44 rfl rfl rfl ?_
  obtain ⟨h8, hf⟩ := chk_some hf
  refine E_ialdC 46 (k := 15) (n := 30) rfl (by decide) h8 dX3_appendJoin_45 rfl ?_
  refine E_iadd 47 dX3_appendJoin_46 rfl ?_
  obtain ⟨r9, hc10, hf⟩ := bnd hf
  refine E_callVC1 50 0 [] [.int r9.1] (c_X3_finish hl hc10) my_X3_finish rc_X3 kl_X3_58 rfl rfl (Nat.le_of_ble_eq_true rfl) (rmok rfl) dX3_appendJoin_47 rfl rfl rfl ?_
  cases hf
  exact E_iret dX3_appendJoin_50 rfl (Nat.le_of_ble_eq_true rfl) (Nat.le_of_ble_eq_true rfl)
set_option maxRecDepth 100000 in
set_option maxHeartbeats 4000000 in
theorem c_X7_addBoth {l : Launch} {g : Gt} (hl : l.stackTraces = false) {a1 : Int32} {a2 : Int32} {μ : Mm} {ν : Mm} {o : Nat → Int64} {dd : Nat → UInt64} {res : Nat × Int32 × Mm} (hf : f_X7_addBoth a1 a2 μ = some res) : CM l g z_X7_addBoth yX7_addBoth [.ref (gaC g 0), .int a1, .int a2] (μ, ν, o, dd) 4 (oc3 res.1 (some (.int res.2.1))) (res.2.2, ν, o, dd) := by
  unfold f_X7_addBoth at hf
  refine CM_of_E rfl rfl (by decide +kernel) rfl (Nat.le_of_ble_eq_true rfl) hl ?_
  refine E_aload_n 1 0 dX7_addBoth_0 rfl rfl rfl ?_
  refine E_iload_n 2 1 dX7_addBoth_1 rfl rfl rfl ?_
  refine E_iload_n 3 2 dX7_addBoth_2 rfl rfl rfl ?_
  obtain ⟨r1, hc2, hf⟩ := bnd hf
  refine E_callVC2 6 4 [] [] (c_X7_requireJoinable hl hc2) my_X7_requireJoinable rc_X7 kl_X7_175 rfl rfl (Nat.le_of_ble_eq_true rfl) (rmok rfl) dX7_addBoth_3 rfl rfl rfl (fun z3 => ?_) (fun z3 => ?_)
  · have hf := ite_t z3 hf
    refine E_aload_n 7 0 dX7_addBoth_6 rfl rfl rfl ?_
    refine E_getCr 10 fg_X7_19 dX7_addBoth_7 rfl ?_
    refine E_iconst 11 1 dX7_addBoth_10 cst_iconst1 rfl ?_
    refine E_iload_n 12 1 dX7_addBoth_11 rfl rfl rfl ?_
    refine E_iload_n 13 2 dX7_addBoth_12 rfl rfl rfl ?_
    obtain ⟨r4, hc5, hf⟩ := bnd hf
    refine E_callVC1 16 4 [] [.int r4.1] (c_X3_appendJoin hl hc5) my_X3_appendJoin rc_X3 kl_X7_179 rfl rfl (Nat.le_of_ble_eq_true rfl) (rmok rfl) dX7_addBoth_13 rfl rfl rfl ?_
    cases hf
    exact E_iret dX7_addBoth_16 rfl (Nat.le_of_ble_eq_true rfl) (Nat.le_of_ble_eq_true rfl)
  · have hf := ite_e z3 hf
    cases hf
    exact EX_outc rfl z3 (Nat.le_of_ble_eq_true rfl) (Nat.le_of_ble_eq_true rfl)
set_option maxRecDepth 100000 in
set_option maxHeartbeats 4000000 in
theorem c_L_addBoth_0_o {l : Launch} {g : Gt} (hl : l.stackTraces = false) {a1 : Int32} {a2 : Int32} {μ : Mm} {ν : Mm} {o : Nat → Int64} {dd : Nat → UInt64} {res : Int32 × Mm × (Nat → Int64)} (hf : f_L_addBoth_0_o a1 a2 μ o = some res) : CM l g z_L_addBoth yL_addBoth [.ref (gaC g 0), .int a1, .int a2, .ref (gao g 0)] (μ, ν, o, dd) 4 (.inl (some (.int res.1))) (res.2.1, ν, res.2.2, dd) := by
  unfold f_L_addBoth_0_o at hf
  refine CM_of_EH rfl rfl (by decide +kernel) rfl (Nat.le_of_ble_eq_true rfl) hl ?_
  refine E_aload_n 1 3 dL_addBoth_0 rfl rfl rfl ?_
  refine E_iconst 2 0 dL_addBoth_1 cst_iconst0 rfl ?_
  refine E_aload_n 3 0 dL_addBoth_2 rfl rfl rfl ?_
  refine E_iload_n 4 1 dL_addBoth_3 rfl rfl rfl ?_
  refine E_iload_n 5 2 dL_addBoth_4 rfl rfl rfl ?_
  obtain ⟨r1, hc2, hf⟩ := bnd hf
  refine E_callVC2 8 4 [.int 0, .ref (gao g 0)] [.int r1.2.1, .int 0, .ref (gao g 0)] (c_X7_addBoth hl hc2) my_X7_addBoth rc_X7 kl_L_64 rfl rfl (Nat.le_of_ble_eq_true rfl) (rmok rfl) dL_addBoth_5 rfl rfl rfl (fun z3 => ?_) (fun z3 => ?_)
  · have hf := ite_t z3 hf
    refine E_i2l 9 dL_addBoth_8 rfl ?_
    obtain ⟨h4, hf⟩ := chk_some hf
    refine E_last 10 h4 dL_addBoth_9 rfl ?_
    refine E_goto 25 dL_addBoth_10 (by decide) ?_
    refine E_iconst 26 0 dL_addBoth_25 cst_iconst0 rfl ?_
    cases hf
    exact E_iret dL_addBoth_26 rfl (Nat.le_of_ble_eq_true rfl) (Nat.le_of_ble_eq_true rfl)
  · have hf := ite_e z3 hf
    by_cases k5 : r1.1 = 1
    · rw [k5]
      have hf := ite_t k5 hf
      refine EX_catch (X := "java/lang/IndexOutOfBoundsException") [] [(0, 10, 17, 42), (0, 10, 21, 15)] 0 10 13 21 rfl (fun _ h => nomatch h) ⟨by decide, by decide⟩ (by decide) kk_L_21 kt_java_lang_IndexOutOfBoundsException (fun q => ?_)
      refine E_astore 15 [(4, .ref q), (0, .ref (gaC g 0)), (1, .int a1), (2, .int a2), (3, .ref (gao g 0))] dL_addBoth_13 (by decide) rfl rfl ?_
      refine E_iconst 16 1 dL_addBoth_15 cst_iconst1 rfl ?_
      cases hf
      exact E_iret dL_addBoth_16 rfl (Nat.le_of_ble_eq_true rfl) (Nat.le_of_ble_eq_true rfl)
    have hf := ite_e k5 hf
    by_cases k6 : r1.1 = 5
    · rw [k6]
      have hf := ite_t k6 hf
      refine EX_catch (X := "java/lang/UnsupportedOperationException") [(0, 10, 13, 21)] [(0, 10, 21, 15)] 0 10 17 42 rfl (List.forall_mem_cons.mpr ⟨⟨_, kk_L_21, nc_41, by decide⟩, fun _ h => nomatch h⟩) ⟨by decide, by decide⟩ (by decide) kk_L_42 kt_java_lang_UnsupportedOperationException (fun q => ?_)
      refine E_astore 19 [(4, .ref q), (0, .ref (gaC g 0)), (1, .int a1), (2, .int a2), (3, .ref (gao g 0))] dL_addBoth_17 (by decide) rfl rfl ?_
      refine E_iconst 20 2 dL_addBoth_19 cst_iconst2 rfl ?_
      cases hf
      exact E_iret dL_addBoth_20 rfl (Nat.le_of_ble_eq_true rfl) (Nat.le_of_ble_eq_true rfl)
    have hf := ite_e k6 hf
    by_cases k7 : r1.1 = 3
    · rw [k7]
      have hf := ite_t k7 hf
      refine EX_catch (X := "java/lang/IllegalStateException") [(0, 10, 13, 21), (0, 10, 17, 42)] [] 0 10 21 15 rfl (List.forall_mem_cons.mpr ⟨⟨_, kk_L_21, nc_40, by decide⟩, List.forall_mem_cons.mpr ⟨⟨_, kk_L_42, nc_54, by decide⟩, fun _ h => nomatch h⟩⟩) ⟨by decide, by decide⟩ (by decide) kk_L_15 kt_java_lang_IllegalStateException (fun q => ?_)
      refine E_astore 23 [(4, .ref q), (0, .ref (gaC g 0)), (1, .int a1), (2, .int a2), (3, .ref (gao g 0))] dL_addBoth_21 (by decide) rfl rfl ?_
      refine E_iconst 24 3 dL_addBoth_23 cst_iconst3 rfl ?_
      cases hf
      exact E_iret dL_addBoth_24 rfl (Nat.le_of_ble_eq_true rfl) (Nat.le_of_ble_eq_true rfl)
    have hf := ite_e k7 hf
    cases hf
set_option maxRecDepth 100000 in
set_option maxHeartbeats 4000000 in
theorem c_X7_addEither {l : Launch} {g : Gt} (hl : l.stackTraces = false) {a1 : Int32} {a2 : Int32} {μ : Mm} {ν : Mm} {o : Nat → Int64} {dd : Nat → UInt64} {res : Nat × Int32 × Mm} (hf : f_X7_addEither a1 a2 μ = some res) : CM l g z_X7_addEither yX7_addEither [.ref (gaC g 0), .int a1, .int a2] (μ, ν, o, dd) 4 (oc3 res.1 (some (.int res.2.1))) (res.2.2, ν, o, dd) := by
  unfold f_X7_addEither at hf
  refine CM_of_E rfl rfl (by decide +kernel) rfl (Nat.le_of_ble_eq_true rfl) hl ?_
  refine E_aload_n 1 0 dX7_addEither_0 rfl rfl rfl ?_
  refine E_iload_n 2 1 dX7_addEither_1 rfl rfl rfl ?_
  refine E_iload_n 3 2 dX7_addEither_2 rfl rfl rfl ?_
  obtain ⟨r1, hc2, hf⟩ := bnd hf
  refine E_callVC2 6 4 [] [] (c_X7_requireJoinable hl hc2) my_X7_requireJoinable rc_X7 kl_X7_175 rfl rfl (Nat.le_of_ble_eq_true rfl) (rmok rfl) dX7_addEither_3 rfl rfl rfl (fun z3 => ?_) (fun z3 => ?_)
  · have hf := ite_t z3 hf
    refine E_aload_n 7 0 dX7_addEither_6 rfl rfl rfl ?_
    refine E_getCr 10 fg_X7_19 dX7_addEither_7 rfl ?_
    refine E_iconst 11 2 dX7_addEither_10 cst_iconst2 rfl ?_
    refine E_iload_n 12 1 dX7_addEither_11 rfl rfl rfl ?_
    refine E_iload_n 13 2 dX7_addEither_12 rfl rfl rfl ?_
    obtain ⟨r4, hc5, hf⟩ := bnd hf
    refine E_callVC1 16 4 [] [.int r4.1] (c_X3_appendJoin hl hc5) my_X3_appendJoin rc_X3 kl_X7_179 rfl rfl (Nat.le_of_ble_eq_true rfl) (rmok rfl) dX7_addEither_13 rfl rfl rfl ?_
    cases hf
    exact E_iret dX7_addEither_16 rfl (Nat.le_of_ble_eq_true rfl) (Nat.le_of_ble_eq_true rfl)
  · have hf := ite_e z3 hf
    cases hf
    exact EX_outc rfl z3 (Nat.le_of_ble_eq_true rfl) (Nat.le_of_ble_eq_true rfl)
set_option maxRecDepth 100000 in
set_option maxHeartbeats 4000000 in
theorem c_L_addEither_0_o {l : Launch} {g : Gt} (hl : l.stackTraces = false) {a1 : Int32} {a2 : Int32} {μ : Mm} {ν : Mm} {o : Nat → Int64} {dd : Nat → UInt64} {res : Int32 × Mm × (Nat → Int64)} (hf : f_L_addEither_0_o a1 a2 μ o = some res) : CM l g z_L_addEither yL_addEither [.ref (gaC g 0), .int a1, .int a2, .ref (gao g 0)] (μ, ν, o, dd) 4 (.inl (some (.int res.1))) (res.2.1, ν, res.2.2, dd) := by
  unfold f_L_addEither_0_o at hf
  refine CM_of_EH rfl rfl (by decide +kernel) rfl (Nat.le_of_ble_eq_true rfl) hl ?_
  refine E_aload_n 1 3 dL_addEither_0 rfl rfl rfl ?_
  refine E_iconst 2 0 dL_addEither_1 cst_iconst0 rfl ?_
  refine E_aload_n 3 0 dL_addEither_2 rfl rfl rfl ?_
  refine E_iload_n 4 1 dL_addEither_3 rfl rfl rfl ?_
  refine E_iload_n 5 2 dL_addEither_4 rfl rfl rfl ?_
  obtain ⟨r1, hc2, hf⟩ := bnd hf
  refine E_callVC2 8 4 [.int 0, .ref (gao g 0)] [.int r1.2.1, .int 0, .ref (gao g 0)] (c_X7_addEither hl hc2) my_X7_addEither rc_X7 kl_L_67 rfl rfl (Nat.le_of_ble_eq_true rfl) (rmok rfl) dL_addEither_5 rfl rfl rfl (fun z3 => ?_) (fun z3 => ?_)
  · have hf := ite_t z3 hf
    refine E_i2l 9 dL_addEither_8 rfl ?_
    obtain ⟨h4, hf⟩ := chk_some hf
    refine E_last 10 h4 dL_addEither_9 rfl ?_
    refine E_goto 25 dL_addEither_10 (by decide) ?_
    refine E_iconst 26 0 dL_addEither_25 cst_iconst0 rfl ?_
    cases hf
    exact E_iret dL_addEither_26 rfl (Nat.le_of_ble_eq_true rfl) (Nat.le_of_ble_eq_true rfl)
  · have hf := ite_e z3 hf
    by_cases k5 : r1.1 = 1
    · rw [k5]
      have hf := ite_t k5 hf
      refine EX_catch (X := "java/lang/IndexOutOfBoundsException") [] [(0, 10, 17, 42), (0, 10, 21, 15)] 0 10 13 21 rfl (fun _ h => nomatch h) ⟨by decide, by decide⟩ (by decide) kk_L_21 kt_java_lang_IndexOutOfBoundsException (fun q => ?_)
      refine E_astore 15 [(4, .ref q), (0, .ref (gaC g 0)), (1, .int a1), (2, .int a2), (3, .ref (gao g 0))] dL_addEither_13 (by decide) rfl rfl ?_
      refine E_iconst 16 1 dL_addEither_15 cst_iconst1 rfl ?_
      cases hf
      exact E_iret dL_addEither_16 rfl (Nat.le_of_ble_eq_true rfl) (Nat.le_of_ble_eq_true rfl)
    have hf := ite_e k5 hf
    by_cases k6 : r1.1 = 5
    · rw [k6]
      have hf := ite_t k6 hf
      refine EX_catch (X := "java/lang/UnsupportedOperationException") [(0, 10, 13, 21)] [(0, 10, 21, 15)] 0 10 17 42 rfl (List.forall_mem_cons.mpr ⟨⟨_, kk_L_21, nc_41, by decide⟩, fun _ h => nomatch h⟩) ⟨by decide, by decide⟩ (by decide) kk_L_42 kt_java_lang_UnsupportedOperationException (fun q => ?_)
      refine E_astore 19 [(4, .ref q), (0, .ref (gaC g 0)), (1, .int a1), (2, .int a2), (3, .ref (gao g 0))] dL_addEither_17 (by decide) rfl rfl ?_
      refine E_iconst 20 2 dL_addEither_19 cst_iconst2 rfl ?_
      cases hf
      exact E_iret dL_addEither_20 rfl (Nat.le_of_ble_eq_true rfl) (Nat.le_of_ble_eq_true rfl)
    have hf := ite_e k6 hf
    by_cases k7 : r1.1 = 3
    · rw [k7]
      have hf := ite_t k7 hf
      refine EX_catch (X := "java/lang/IllegalStateException") [(0, 10, 13, 21), (0, 10, 17, 42)] [] 0 10 21 15 rfl (List.forall_mem_cons.mpr ⟨⟨_, kk_L_21, nc_40, by decide⟩, List.forall_mem_cons.mpr ⟨⟨_, kk_L_42, nc_54, by decide⟩, fun _ h => nomatch h⟩⟩) ⟨by decide, by decide⟩ (by decide) kk_L_15 kt_java_lang_IllegalStateException (fun q => ?_)
      refine E_astore 23 [(4, .ref q), (0, .ref (gaC g 0)), (1, .int a1), (2, .int a2), (3, .ref (gao g 0))] dL_addEither_21 (by decide) rfl rfl ?_
      refine E_iconst 24 3 dL_addEither_23 cst_iconst3 rfl ?_
      cases hf
      exact E_iret dL_addEither_24 rfl (Nat.le_of_ble_eq_true rfl) (Nat.le_of_ble_eq_true rfl)
    have hf := ite_e k7 hf
    cases hf
set_option maxRecDepth 100000 in
set_option maxHeartbeats 4000000 in
theorem c_X3_appendNot {l : Launch} {g : Gt} (hl : l.stackTraces = false) {a1 : Int32} {μ : Mm} {ν : Mm} {o : Nat → Int64} {dd : Nat → UInt64} {res : Int32 × Mm} (hf : f_X3_appendNot a1 μ = some res) : CM l g z_X3_appendNot yX3_appendNot [.ref (gaC g 13), .int a1] (μ, ν, o, dd) 0 (.inl (some (.int res.1))) (res.2, ν, o, dd) := by
  unfold f_X3_appendNot at hf
  refine CM_of_E rfl rfl (by decide +kernel) rfl (Nat.le_of_ble_eq_true rfl) hl ?_
  refine E_aload_n 1 0 dX3_appendNot_0 rfl rfl rfl ?_
  refine E_getCr 4 fg_X3_32 dX3_appendNot_1 rfl ?_
  refine E_aload_n 5 0 dX3_appendNot_4 rfl rfl rfl ?_
  refine E_getC 8 fg_X3_50 dX3_appendNot_5 rfl ?_
  refine E_iload_n 9 1 dX3_appendNot_8 rfl rfl rfl ?_
  obtain ⟨h1, hf⟩ := chk_some hf
  refine E_iastC 10 (k := 20) (n := 30) rfl (by decide) h1 dX3_appendNot_9 rfl ?_
  refine E_aload_n 11 0 dX3_appendNot_10 rfl rfl rfl ?_
  refine E_iconst 12 3 dX3_appendNot_11 cst_iconst3 rfl ?_
  refine E_iconst 13 1 dX3_appendNot_12 cst_iconst1 rfl ?_
  refine E_aload_n 14 0 dX3_appendNot_13 rfl rfl rfl ?_
  refine E_getCr 17 fg_X3_15 dX3_appendNot_14 rfl ?_
  refine E_iload_n 18 1 dX3_appendNot_17 rfl rfl rfl ?_
  obtain ⟨h2, hf⟩ := chk_some hf
  refine E_ialdC 19 (k := 15) (n := 30) rfl (by decide) h2 dX3_appendNot_18 rfl ?_
  refine E_iadd 20 dX3_appendNot_19 rfl ?_
  obtain ⟨r3, hc4, hf⟩ := bnd hf
  refine E_callVC1 23 0 [] [.int r3.1] (c_X3_finish hl hc4) my_X3_finish rc_X3 kl_X3_58 rfl rfl (Nat.le_of_ble_eq_true rfl) (rmok rfl) dX3_appendNot_20 rfl rfl rfl ?_
  cases hf
  exact E_iret dX3_appendNot_23 rfl (Nat.le_of_ble_eq_true rfl) (Nat.le_of_ble_eq_true rfl)
set_option maxRecDepth 100000 in
set_option maxHeartbeats 4000000 in
theorem c_X7_addNot {l : Launch} {g : Gt} (hl : l.stackTraces = false) {a1 : Int32} {μ : Mm} {ν : Mm} {o : Nat → Int64} {dd : Nat → UInt64} {res : Nat × Int32 × Mm} (hf : f_X7_addNot a1 μ = some res) : CM l g z_X7_addNot yX7_addNot [.ref (gaC g 0), .int a1] (μ, ν, o, dd) 3 (oc3 res.1 (some (.int res.2.1))) (res.2.2, ν, o, dd) := by
  unfold f_X7_addNot at hf
  refine CM_of_E rfl rfl (by decide +kernel) rfl (Nat.le_of_ble_eq_true rfl) hl ?_
  refine E_aload_n 1 0 dX7_addNot_0 rfl rfl rfl ?_
  refine E_iload_n 2 1 dX7_addNot_1 rfl rfl rfl ?_
  obtain ⟨r1, hc2, hf⟩ := bnd hf
  refine E_callVC2 5 1 [] [] (c_X7_requireCondition hl hc2) my_X7_requireCondition rc_X7 kl_X7_183 rfl rfl (Nat.le_of_ble_eq_true rfl) (rmok rfl) dX7_addNot_2 rfl rfl rfl (fun z3 => ?_) (fun z3 => ?_)
  · have hf := ite_t z3 hf
    refine E_iconst 6 1 dX7_addNot_5 cst_iconst1 rfl ?_
    refine E_aload_n 7 0 dX7_addNot_6 rfl rfl rfl ?_
    refine E_getCr 10 fg_X7_19 dX7_addNot_7 rfl ?_
    refine E_getCrN 13 fg_X7_186 dX7_addNot_10 rfl ?_
    refine E_iload_n 14 1 dX7_addNot_13 rfl rfl rfl ?_
    obtain ⟨h4, hf⟩ := chk_some hf
    refine E_ialdC 15 (k := 15) (n := 30) rfl (by decide) h4 dX7_addNot_14 rfl ?_
    refine E_iadd 16 dX7_addNot_15 rfl ?_
    obtain ⟨r5, hc6, hf⟩ := bnd hf
    refine E_callS2 19 2 [] [] (c_X7_requireSize hl hc6) my_X7_requireSize kl_X7_189 rfl rfl (Nat.le_of_ble_eq_true rfl) (rmok rfl) dX7_addNot_16 rfl rfl rfl (fun z7 => ?_) (fun z7 => ?_)
    · have hf := ite_t z7 hf
      refine E_aload_n 20 0 dX7_addNot_19 rfl rfl rfl ?_
      obtain ⟨r8, hc9, hf⟩ := bnd hf
      refine E_callVC2 23 3 [] [] (c_X7_requireRoomForCondition hl hc9) my_X7_requireRoomForCondition rc_X7 kl_X7_168 rfl rfl (Nat.le_of_ble_eq_true rfl) (rmok rfl) dX7_addNot_20 rfl rfl rfl (fun z10 => ?_) (fun z10 => ?_)
      · have hf := ite_t z10 hf
        refine E_aload_n 24 0 dX7_addNot_23 rfl rfl rfl ?_
        refine E_getCr 27 fg_X7_19 dX7_addNot_24 rfl ?_
        refine E_iload_n 28 1 dX7_addNot_27 rfl rfl rfl ?_
        obtain ⟨r11, hc12, hf⟩ := bnd hf
        refine E_callVC1 31 3 [] [.int r11.1] (c_X3_appendNot hl hc12) my_X3_appendNot rc_X3 kl_X7_192 rfl rfl (Nat.le_of_ble_eq_true rfl) (rmok rfl) dX7_addNot_28 rfl rfl rfl ?_
        cases hf
        exact E_iret dX7_addNot_31 rfl (Nat.le_of_ble_eq_true rfl) (Nat.le_of_ble_eq_true rfl)
      · have hf := ite_e z10 hf
        cases hf
        exact EX_outc rfl z10 (Nat.le_of_ble_eq_true rfl) (Nat.le_of_ble_eq_true rfl)
    · have hf := ite_e z7 hf
      cases hf
      exact EX_outc rfl z7 (Nat.le_of_ble_eq_true rfl) (Nat.le_of_ble_eq_true rfl)
  · have hf := ite_e z3 hf
    cases hf
    exact EX_outc rfl z3 (Nat.le_of_ble_eq_true rfl) (Nat.le_of_ble_eq_true rfl)
set_option maxRecDepth 100000 in
set_option maxHeartbeats 4000000 in
theorem c_L_addNot_0_o {l : Launch} {g : Gt} (hl : l.stackTraces = false) {a1 : Int32} {μ : Mm} {ν : Mm} {o : Nat → Int64} {dd : Nat → UInt64} {res : Int32 × Mm × (Nat → Int64)} (hf : f_L_addNot_0_o a1 μ o = some res) : CM l g z_L_addNot yL_addNot [.ref (gaC g 0), .int a1, .ref (gao g 0)] (μ, ν, o, dd) 3 (.inl (some (.int res.1))) (res.2.1, ν, res.2.2, dd) := by
  unfold f_L_addNot_0_o at hf
  refine CM_of_EH rfl rfl (by decide +kernel) rfl (Nat.le_of_ble_eq_true rfl) hl ?_
  refine E_aload_n 1 2 dL_addNot_0 rfl rfl rfl ?_
  refine E_iconst 2 0 dL_addNot_1 cst_iconst0 rfl ?_
  refine E_aload_n 3 0 dL_addNot_2 rfl rfl rfl ?_
  refine E_iload_n 4 1 dL_addNot_3 rfl rfl rfl ?_
  obtain ⟨r1, hc2, hf⟩ := bnd hf
  refine E_callVC2 7 3 [.int 0, .ref (gao g 0)] [.int r1.2.1, .int 0, .ref (gao g 0)] (c_X7_addNot hl hc2) my_X7_addNot rc_X7 kl_L_70 rfl rfl (Nat.le_of_ble_eq_true rfl) (rmok rfl) dL_addNot_4 rfl rfl rfl (fun z3 => ?_) (fun z3 => ?_)
  · have hf := ite_t z3 hf
    refine E_i2l 8 dL_addNot_7 rfl ?_
    obtain ⟨h4, hf⟩ := chk_some hf
    refine E_last 9 h4 dL_addNot_8 rfl ?_
    refine E_goto 21 dL_addNot_9 (by decide) ?_
    refine E_iconst 22 0 dL_addNot_21 cst_iconst0 rfl ?_
    cases hf
    exact E_iret dL_addNot_22 rfl (Nat.le_of_ble_eq_true rfl) (Nat.le_of_ble_eq_true rfl)
  · have hf := ite_e z3 hf
    by_cases k5 : r1.1 = 1
    · rw [k5]
      have hf := ite_t k5 hf
      refine EX_catch (X := "java/lang/IndexOutOfBoundsException") [] [(0, 9, 15, 42), (0, 9, 18, 15)] 0 9 12 21 rfl (fun _ h => nomatch h) ⟨by decide, by decide⟩ (by decide) kk_L_21 kt_java_lang_IndexOutOfBoundsException (fun q => ?_)
      refine E_astore_n 13 [(3, .ref q), (0, .ref (gaC g 0)), (1, .int a1), (2, .ref (gao g 0))] dL_addNot_12 rfl (by decide) rfl rfl ?_
      refine E_iconst 14 1 dL_addNot_13 cst_iconst1 rfl ?_
      cases hf
      exact E_iret dL_addNot_14 rfl (Nat.le_of_ble_eq_true rfl) (Nat.le_of_ble_eq_true rfl)
    have hf := ite_e k5 hf
    by_cases k6 : r1.1 = 5
    · rw [k6]
      have hf := ite_t k6 hf
      refine EX_catch (X := "java/lang/UnsupportedOperationException") [(0, 9, 12, 21)] [(0, 9, 18, 15)] 0 9 15 42 rfl (List.forall_mem_cons.mpr ⟨⟨_, kk_L_21, nc_41, by decide⟩, fun _ h => nomatch h⟩) ⟨by decide, by decide⟩ (by decide) kk_L_42 kt_java_lang_UnsupportedOperationException (fun q => ?_)
      refine E_astore_n 16 [(3, .ref q), (0, .ref (gaC g 0)), (1, .int a1), (2, .ref (gao g 0))] dL_addNot_15 rfl (by decide) rfl rfl ?_
      refine E_iconst 17 2 dL_addNot_16 cst_iconst2 rfl ?_
      cases hf
      exact E_iret dL_addNot_17 rfl (Nat.le_of_ble_eq_true rfl) (Nat.le_of_ble_eq_true rfl)
    have hf := ite_e k6 hf
    by_cases k7 : r1.1 = 3
    · rw [k7]
      have hf := ite_t k7 hf
      refine EX_catch (X := "java/lang/IllegalStateException") [(0, 9, 12, 21), (0, 9, 15, 42)] [] 0 9 18 15 rfl (List.forall_mem_cons.mpr ⟨⟨_, kk_L_21, nc_40, by decide⟩, List.forall_mem_cons.mpr ⟨⟨_, kk_L_42, nc_54, by decide⟩, fun _ h => nomatch h⟩⟩) ⟨by decide, by decide⟩ (by decide) kk_L_15 kt_java_lang_IllegalStateException (fun q => ?_)
      refine E_astore_n 19 [(3, .ref q), (0, .ref (gaC g 0)), (1, .int a1), (2, .ref (gao g 0))] dL_addNot_18 rfl (by decide) rfl rfl ?_
      refine E_iconst 20 3 dL_addNot_19 cst_iconst3 rfl ?_
      cases hf
      exact E_iret dL_addNot_20 rfl (Nat.le_of_ble_eq_true rfl) (Nat.le_of_ble_eq_true rfl)
    have hf := ite_e k7 hf
    cases hf
set_option maxRecDepth 100000 in
set_option maxHeartbeats 4000000 in
theorem c_X7_holds {l : Launch} {g : Gt} (hl : l.stackTraces = false) {a1 : Int32} {a2 : Int32} {μ : Mm} {ν : Mm} {o : Nat → Int64} {dd : Nat → UInt64} {res : Nat × Int32 × Mm} (hf : f_X7_holds a1 a2 μ = some res) : CM l g z_X7_holds yX7_holds [.ref (gaC g 0), .int a1, .int a2] (μ, ν, o, dd) 2 (oc3 res.1 (some (.int res.2.1))) (res.2.2, ν, o, dd) := by
  unfold f_X7_holds at hf
  refine CM_of_E rfl rfl (by decide +kernel) rfl (Nat.le_of_ble_eq_true rfl) hl ?_
  refine E_aload_n 1 0 dX7_holds_0 rfl rfl rfl ?_
  refine E_iload_n 2 1 dX7_holds_1 rfl rfl rfl ?_
  obtain ⟨r1, hc2, hf⟩ := bnd hf
  refine E_callVC2 5 1 [] [] (c_X7_requireCondition hl hc2) my_X7_requireCondition rc_X7 kl_X7_183 rfl rfl (Nat.le_of_ble_eq_true rfl) (rmok rfl) dX7_holds_2 rfl rfl rfl (fun z3 => ?_) (fun z3 => ?_)
  · have hf := ite_t z3 hf
    refine E_aload_n 6 0 dX7_holds_5 rfl rfl rfl ?_
    refine E_iload_n 7 2 dX7_holds_6 rfl rfl rfl ?_
    obtain ⟨r4, hc5, hf⟩ := bnd hf
    refine E_callVC2 10 2 [] [] (c_X7_requirePayment hl hc5) my_X7_requirePayment rc_X7 kl_X7_137 rfl rfl (Nat.le_of_ble_eq_true rfl) (rmok rfl) dX7_holds_7 rfl rfl rfl (fun z6 => ?_) (fun z6 => ?_)
    · have hf := ite_t z6 hf
      refine E_aload_n 11 0 dX7_holds_10 rfl rfl rfl ?_
      refine E_getCr 14 fg_X7_19 dX7_holds_11 rfl ?_
      refine E_aload_n 15 0 dX7_holds_14 rfl rfl rfl ?_
      refine E_getCr 18 fg_X7_10 dX7_holds_15 rfl ?_
      refine E_iload_n 19 2 dX7_holds_18 rfl rfl rfl ?_
      refine E_iload_n 20 1 dX7_holds_19 rfl rfl rfl ?_
      refine E_iconst 21 1 dX7_holds_20 cst_iconst1 rfl ?_
      refine E_iadd 22 dX7_holds_21 rfl ?_
      obtain ⟨r7, hc8, hf⟩ := bnd hf
      refine E_callVC1 25 2 [] [] (c_X3_judge_1 hl hc8) my_X3_judge rc_X3 kl_X7_118 rfl rfl (Nat.le_of_ble_eq_true rfl) (rmok rfl) dX7_holds_22 rfl rfl rfl ?_
      refine E_aload_n 26 0 dX7_holds_25 rfl rfl rfl ?_
      refine E_getCr 29 fg_X7_19 dX7_holds_26 rfl ?_
      refine E_getCrN 32 fg_X7_195 dX7_holds_29 rfl ?_
      refine E_iload_n 33 1 dX7_holds_32 rfl rfl rfl ?_
      obtain ⟨h9, hf⟩ := chk_some hf
      refine E_zaldC 34 (k := 24) (n := 30) rfl (by decide) h9 dX7_holds_33 rfl ?_
      obtain ⟨h10, hf⟩ := gn_z hf
      cases hf
      exact E_zret h10 dX7_holds_34 rfl (Nat.le_of_ble_eq_true rfl) (Nat.le_of_ble_eq_true rfl)
    · have hf := ite_e z6 hf
      cases hf
      exact EX_outc rfl z6 (Nat.le_of_ble_eq_true rfl) (Nat.le_of_ble_eq_true rfl)
  · have hf := ite_e z3 hf
    cases hf
    exact EX_outc rfl z3 (Nat.le_of_ble_eq_true rfl) (Nat.le_of_ble_eq_true rfl)
set_option maxRecDepth 100000 in
set_option maxHeartbeats 4000000 in
theorem c_L_holds_0_o {l : Launch} {g : Gt} (hl : l.stackTraces = false) {a1 : Int32} {a2 : Int32} {μ : Mm} {ν : Mm} {o : Nat → Int64} {dd : Nat → UInt64} {res : Int32 × Mm × (Nat → Int64)} (hf : f_L_holds_0_o a1 a2 μ o = some res) : CM l g z_L_holds yL_holds [.ref (gaC g 0), .int a1, .int a2, .ref (gao g 0)] (μ, ν, o, dd) 2 (.inl (some (.int res.1))) (res.2.1, ν, res.2.2, dd) := by
  unfold f_L_holds_0_o at hf
  refine CM_of_EH rfl rfl (by decide +kernel) rfl (Nat.le_of_ble_eq_true rfl) hl ?_
  refine E_aload_n 1 3 dL_holds_0 rfl rfl rfl ?_
  refine E_iconst 2 0 dL_holds_1 cst_iconst0 rfl ?_
  refine E_aload_n 3 0 dL_holds_2 rfl rfl rfl ?_
  refine E_iload_n 4 1 dL_holds_3 rfl rfl rfl ?_
  refine E_iload_n 5 2 dL_holds_4 rfl rfl rfl ?_
  obtain ⟨r1, hc2, hf⟩ := bnd hf
  refine E_callVC2 8 2 [.int 0, .ref (gao g 0)] [.int r1.2.1, .int 0, .ref (gao g 0)] (c_X7_holds hl hc2) my_X7_holds rc_X7 kl_L_73 rfl rfl (Nat.le_of_ble_eq_true rfl) (rmok rfl) dL_holds_5 rfl rfl rfl (fun z3 => ?_) (fun z3 => ?_)
  · have hf := ite_t z3 hf
    refine E_if_eq 15 11 dL_holds_8 (by decide) rfl (fun c4 => ?_) (fun c4 => ?_)
    · have hf := ite_t c4 hf
      refine E_lconst 16 0 dL_holds_15 (by decide) rfl ?_
      obtain ⟨h5, hf⟩ := chk_some hf
      refine E_last 17 h5 dL_holds_16 rfl ?_
      refine E_goto 28 dL_holds_17 (by decide) ?_
      refine E_iconst 29 0 dL_holds_28 cst_iconst0 rfl ?_
      cases hf
      exact E_iret dL_holds_29 rfl (Nat.le_of_ble_eq_true rfl) (Nat.le_of_ble_eq_true rfl)
    · have hf := ite_e c4 hf
      refine E_lconst 12 1 dL_holds_11 (by decide) rfl ?_
      refine E_goto 16 dL_holds_12 (by decide) ?_
      obtain ⟨h6, hf⟩ := chk_some hf
      refine E_last 17 h6 dL_holds_16 rfl ?_
      refine E_goto 28 dL_holds_17 (by decide) ?_
      refine E_iconst 29 0 dL_holds_28 cst_iconst0 rfl ?_
      cases hf
      exact E_iret dL_holds_29 rfl (Nat.le_of_ble_eq_true rfl) (Nat.le_of_ble_eq_true rfl)
  · have hf := ite_e z3 hf
    by_cases k7 : r1.1 = 1
    · rw [k7]
      have hf := ite_t k7 hf
      refine EX_catch (X := "java/lang/IndexOutOfBoundsException") [] [(0, 17, 24, 47)] 0 17 20 21 rfl (fun _ h => nomatch h) ⟨by decide, by decide⟩ (by decide) kk_L_21 kt_java_lang_IndexOutOfBoundsException (fun q => ?_)
      refine E_astore 22 [(4, .ref q), (0, .ref (gaC g 0)), (1, .int a1), (2, .int a2), (3, .ref (gao g 0))] dL_holds_20 (by decide) rfl rfl ?_
      refine E_iconst 23 1 dL_holds_22 cst_iconst1 rfl ?_
      cases hf
      exact E_iret dL_holds_23 rfl (Nat.le_of_ble_eq_true rfl) (Nat.le_of_ble_eq_true rfl)
    have hf := ite_e k7 hf
    by_cases k8 : r1.1 = 2
    · rw [k8]
      have hf := ite_t k8 hf
      refine EX_catch (X := "java/util/NoSuchElementException") [(0, 17, 20, 21)] [] 0 17 24 47 rfl (List.forall_mem_cons.mpr ⟨⟨_, kk_L_21, nc_42, by decide⟩, fun _ h => nomatch h⟩) ⟨by decide, by decide⟩ (by decide) kk_L_47 kt_java_util_NoSuchElementException (fun q => ?_)
      refine E_astore 26 [(4, .ref q), (0, .ref (gaC g 0)), (1, .int a1), (2, .int a2), (3, .ref (gao g 0))] dL_holds_24 (by decide) rfl rfl ?_
      refine E_iconst 27 2 dL_holds_26 cst_iconst2 rfl ?_
      cases hf
      exact E_iret dL_holds_27 rfl (Nat.le_of_ble_eq_true rfl) (Nat.le_of_ble_eq_true rfl)
    have hf := ite_e k8 hf
    cases hf
set_option maxRecDepth 100000 in
set_option maxHeartbeats 4000000 in
theorem c_X7_sizeOf {l : Launch} {g : Gt} (hl : l.stackTraces = false) {a1 : Int32} {μ : Mm} {ν : Mm} {o : Nat → Int64} {dd : Nat → UInt64} {res : Nat × Int32} (hf : f_X7_sizeOf a1 μ = some res) : CM l g z_X7_sizeOf yX7_sizeOf [.ref (gaC g 0), .int a1] (μ, ν, o, dd) 1 (oc3 res.1 (some (.int res.2))) (μ, ν, o, dd) := by
  unfold f_X7_sizeOf at hf
  refine CM_of_E rfl rfl (by decide +kernel) rfl (Nat.le_of_ble_eq_true rfl) hl ?_
  refine E_aload_n 1 0 dX7_sizeOf_0 rfl rfl rfl ?_
  refine E_iload_n 2 1 dX7_sizeOf_1 rfl rfl rfl ?_
  obtain ⟨r1, hc2, hf⟩ := bnd hf
  refine E_callVC2 5 1 [] [] (c_X7_requireCondition hl hc2) my_X7_requireCondition rc_X7 kl_X7_183 rfl rfl (Nat.le_of_ble_eq_true rfl) (rmok rfl) dX7_sizeOf_2 rfl rfl rfl (fun z3 => ?_) (fun z3 => ?_)
  · have hf := ite_t z3 hf
    refine E_aload_n 6 0 dX7_sizeOf_5 rfl rfl rfl ?_
    refine E_getCr 9 fg_X7_19 dX7_sizeOf_6 rfl ?_
    refine E_getCrN 12 fg_X7_186 dX7_sizeOf_9 rfl ?_
    refine E_iload_n 13 1 dX7_sizeOf_12 rfl rfl rfl ?_
    obtain ⟨h4, hf⟩ := chk_some hf
    refine E_ialdC 14 (k := 15) (n := 30) rfl (by decide) h4 dX7_sizeOf_13 rfl ?_
    cases hf
    exact E_iret dX7_sizeOf_14 rfl (Nat.le_of_ble_eq_true rfl) (Nat.le_of_ble_eq_true rfl)
  · have hf := ite_e z3 hf
    cases hf
    exact EX_outc rfl z3 (Nat.le_of_ble_eq_true rfl) (Nat.le_of_ble_eq_true rfl)
set_option maxRecDepth 100000 in
set_option maxHeartbeats 4000000 in
theorem c_L_sizeOf_0_o {l : Launch} {g : Gt} (hl : l.stackTraces = false) {a1 : Int32} {μ : Mm} {ν : Mm} {o : Nat → Int64} {dd : Nat → UInt64} {res : Int32 × (Nat → Int64)} (hf : f_L_sizeOf_0_o a1 μ o = some res) : CM l g z_L_sizeOf yL_sizeOf [.ref (gaC g 0), .int a1, .ref (gao g 0)] (μ, ν, o, dd) 1 (.inl (some (.int res.1))) (μ, ν, res.2, dd) := by
  unfold f_L_sizeOf_0_o at hf
  refine CM_of_EH rfl rfl (by decide +kernel) rfl (Nat.le_of_ble_eq_true rfl) hl ?_
  refine E_aload_n 1 2 dL_sizeOf_0 rfl rfl rfl ?_
  refine E_iconst 2 0 dL_sizeOf_1 cst_iconst0 rfl ?_
  refine E_aload_n 3 0 dL_sizeOf_2 rfl rfl rfl ?_
  refine E_iload_n 4 1 dL_sizeOf_3 rfl rfl rfl ?_
  obtain ⟨r1, hc2, hf⟩ := bnd hf
  refine E_callVC2 7 1 [.int 0, .ref (gao g 0)] [.int r1.2, .int 0, .ref (gao g 0)] (c_X7_sizeOf hl hc2) my_X7_sizeOf rc_X7 kl_L_77 rfl rfl (Nat.le_of_ble_eq_true rfl) (rmok rfl) dL_sizeOf_4 rfl rfl rfl (fun z3 => ?_) (fun z3 => ?_)
  · have hf := ite_t z3 hf
    refine E_i2l 8 dL_sizeOf_7 rfl ?_
    obtain ⟨h4, hf⟩ := chk_some hf
    refine E_last 9 h4 dL_sizeOf_8 rfl ?_
    refine E_goto 15 dL_sizeOf_9 (by decide) ?_
    refine E_iconst 16 0 dL_sizeOf_15 cst_iconst0 rfl ?_
    cases hf
    exact E_iret dL_sizeOf_16 rfl (Nat.le_of_ble_eq_true rfl) (Nat.le_of_ble_eq_true rfl)
  · have hf := ite_e z3 hf
    by_cases k5 : r1.1 = 1
    · rw [k5]
      have hf := ite_t k5 hf
      refine EX_catch (X := "java/lang/IndexOutOfBoundsException") [] [] 0 9 12 21 rfl (fun _ h => nomatch h) ⟨by decide, by decide⟩ (by decide) kk_L_21 kt_java_lang_IndexOutOfBoundsException (fun q => ?_)
      refine E_astore_n 13 [(3, .ref q), (0, .ref (gaC g 0)), (1, .int a1), (2, .ref (gao g 0))] dL_sizeOf_12 rfl (by decide) rfl rfl ?_
      refine E_iconst 14 1 dL_sizeOf_13 cst_iconst1 rfl ?_
      cases hf
      exact E_iret dL_sizeOf_14 rfl (Nat.le_of_ble_eq_true rfl) (Nat.le_of_ble_eq_true rfl)
    have hf := ite_e k5 hf
    cases hf
set_option maxRecDepth 100000 in
set_option maxHeartbeats 4000000 in
theorem c_X6_append {l : Launch} {g : Gt} (hl : l.stackTraces = false) {a1 : Int32} {a2 : Int32} {μ : Mm} {ν : Mm} {o : Nat → Int64} {dd : Nat → UInt64} {res : Int32 × Mm} (hf : f_X6_append a1 a2 μ = some res) : CM l g z_X6_append yX6_append [.ref (gaC g 26), .int a1, .int a2] (μ, ν, o, dd) 0 (.inl (some (.int res.1))) (res.2, ν, o, dd) := by
  unfold f_X6_append at hf
  refine CM_of_E rfl rfl (by decide +kernel) rfl (Nat.le_of_ble_eq_true rfl) hl ?_
  refine E_aload_n 1 0 dX6_append_0 rfl rfl rfl ?_
  refine E_getCr 4 fg_X6_9 dX6_append_1 rfl ?_
  refine E_aload_n 5 0 dX6_append_4 rfl rfl rfl ?_
  refine E_getC 8 fg_X6_18 dX6_append_5 rfl ?_
  refine E_iload_n 9 1 dX6_append_8 rfl rfl rfl ?_
  obtain ⟨h1, hf⟩ := chk_some hf
  refine E_iastC 10 (k := 27) (n := 12) rfl (by decide) h1 dX6_append_9 rfl ?_
  refine E_aload_n 11 0 dX6_append_10 rfl rfl rfl ?_
  refine E_getCr 14 fg_X6_15 dX6_append_11 rfl ?_
  refine E_aload_n 15 0 dX6_append_14 rfl rfl rfl ?_
  refine E_getC 18 fg_X6_18 dX6_append_15 rfl ?_
  refine E_iload_n 19 2 dX6_append_18 rfl rfl rfl ?_
  obtain ⟨h2, hf⟩ := chk_some hf
  refine E_iastC 20 (k := 28) (n := 12) rfl (by decide) h2 dX6_append_19 rfl ?_
  refine E_aload_n 21 0 dX6_append_20 rfl rfl rfl ?_
  refine E_aload_n 22 0 dX6_append_21 rfl rfl rfl ?_
  refine E_getC 25 fg_X6_22 dX6_append_22 rfl ?_
  refine E_aload_n 26 0 dX6_append_25 rfl rfl rfl ?_
  refine E_getC 29 fg_X6_18 dX6_append_26 rfl ?_
  refine E_iconst 30 1 dX6_append_29 cst_iconst1 rfl ?_
  obtain ⟨r3, hc4, hf⟩ := bnd hf
  refine E_callSN1 33 0 [.ref (gaC g 26)] [.int r3, .ref (gaC g 26)] (c_X7_withBit hl hc4) my_X7_withBit kl_X6_25 rfl rfl (Nat.le_of_ble_eq_true rfl) (rmok rfl) dX6_append_30 rfl rfl rfl ?_
  refine E_putC 36 fp_X6_22 dX6_append_33 rfl ?_
  refine E_aload_n 37 0 dX6_append_36 rfl rfl rfl ?_
  refine E_dup 38 dX6_append_37 rfl rfl ?_
  refine E_getC 41 fg_X6_18 dX6_append_38 rfl ?_
  refine E_dup_x1 42 dX6_append_41 rfl rfl rfl ?_
  refine E_iconst 43 1 dX6_append_42 cst_iconst1 rfl ?_
  refine E_iadd 44 dX6_append_43 rfl ?_
  refine E_putC 47 fp_X6_18 dX6_append_44 rfl ?_
  obtain ⟨mm5, emm5, hf⟩ := setm_some hf
  refine E_memC emm5 ?_
  cases hf
  exact E_iret dX6_append_47 rfl (Nat.le_of_ble_eq_true rfl) (Nat.le_of_ble_eq_true rfl)
set_option maxRecDepth 100000 in
set_option maxHeartbeats 4000000 in
theorem c_X7_addRule {l : Launch} {g : Gt} (hl : l.stackTraces = false) {a1 : Int32} {a2 : Int32} {μ : Mm} {ν : Mm} {o : Nat → Int64} {dd : Nat → UInt64} {res : Nat × Int32 × Mm} (hf : f_X7_addRule a1 a2 μ = some res) : CM l g z_X7_addRule yX7_addRule [.ref (gaC g 0), .int a1, .int a2] (μ, ν, o, dd) 2 (oc3 res.1 (some (.int res.2.1))) (res.2.2, ν, o, dd) := by
  unfold f_X7_addRule at hf
  refine CM_of_E rfl rfl (by decide +kernel) rfl (Nat.le_of_ble_eq_true rfl) hl ?_
  refine E_aload_n 1 0 dX7_addRule_0 rfl rfl rfl ?_
  refine E_iload_n 2 1 dX7_addRule_1 rfl rfl rfl ?_
  obtain ⟨r1, hc2, hf⟩ := bnd hf
  refine E_callVC2 5 1 [] [] (c_X7_requireCondition hl hc2) my_X7_requireCondition rc_X7 kl_X7_183 rfl rfl (Nat.le_of_ble_eq_true rfl) (rmok rfl) dX7_addRule_2 rfl rfl rfl (fun z3 => ?_) (fun z3 => ?_)
  · have hf := ite_t z3 hf
    refine E_iload_n 6 2 dX7_addRule_5 rfl rfl rfl ?_
    refine E_iconst 7 1 dX7_addRule_6 cst_iconst1 rfl ?_
    refine E_icmp_lt 16 10 dX7_addRule_7 (by decide) rfl (fun c4 => ?_) (fun c4 => ?_)
    · have hf := ite_t c4 hf
      cases hf
      exact E_throw th_X7_41_45 tx_199 rfl dX7_addRule_16 dX7_addRule_19 dX7_addRule_20 dX7_addRule_22 dX7_addRule_25 (Nat.le_of_ble_eq_true rfl) (Nat.le_of_ble_eq_true rfl) (Nat.le_of_ble_eq_true rfl) (Nat.le_of_ble_eq_true rfl) (Nat.le_of_ble_eq_true rfl) (Nat.le_of_ble_eq_true rfl)
    · have hf := ite_e c4 hf
      refine E_iload_n 11 2 dX7_addRule_10 rfl rfl rfl ?_
      refine E_bipush 13 100 dX7_addRule_11 cst_bipush100 rfl ?_
      refine E_icmp_le 26 16 dX7_addRule_13 (by decide) rfl (fun c5 => ?_) (fun c5 => ?_)
      · have hf := ite_t c5 hf
        refine E_aload_n 27 0 dX7_addRule_26 rfl rfl rfl ?_
        refine E_getCr 30 fg_X7_26 dX7_addRule_27 rfl ?_
        refine E_getCN 33 fg_X7_201 dX7_addRule_30 rfl ?_
        refine E_bipush 35 12 dX7_addRule_33 cst_bipush12 rfl ?_
        refine E_icmp_lt 48 38 dX7_addRule_35 (by decide) rfl (fun c6 => ?_) (fun c6 => ?_)
        · have hf := ite_t c6 hf
          refine E_aload_n 49 0 dX7_addRule_48 rfl rfl rfl ?_
          refine E_getCr 52 fg_X7_26 dX7_addRule_49 rfl ?_
          refine E_iload_n 53 1 dX7_addRule_52 rfl rfl rfl ?_
          refine E_iload_n 54 2 dX7_addRule_53 rfl rfl rfl ?_
          obtain ⟨r7, hc8, hf⟩ := bnd hf
          refine E_callVC1 57 1 [] [.int r7.1] (c_X6_append hl hc8) my_X6_append rc_X6 kl_X7_204 rfl rfl (Nat.le_of_ble_eq_true rfl) (rmok rfl) dX7_addRule_54 rfl rfl rfl ?_
          cases hf
          exact E_iret dX7_addRule_57 rfl (Nat.le_of_ble_eq_true rfl) (Nat.le_of_ble_eq_true rfl)
        · have hf := ite_e c6 hf
          cases hf
          exact E_throw th_X7_57_61 tx_202 rfl dX7_addRule_38 dX7_addRule_41 dX7_addRule_42 dX7_addRule_44 dX7_addRule_47 (Nat.le_of_ble_eq_true rfl) (Nat.le_of_ble_eq_true rfl) (Nat.le_of_ble_eq_true rfl) (Nat.le_of_ble_eq_true rfl) (Nat.le_of_ble_eq_true rfl) (Nat.le_of_ble_eq_true rfl)
      · have hf := ite_e c5 hf
        cases hf
        exact E_throw th_X7_41_45 tx_199 rfl dX7_addRule_16 dX7_addRule_19 dX7_addRule_20 dX7_addRule_22 dX7_addRule_25 (Nat.le_of_ble_eq_true rfl) (Nat.le_of_ble_eq_true rfl) (Nat.le_of_ble_eq_true rfl) (Nat.le_of_ble_eq_true rfl) (Nat.le_of_ble_eq_true rfl) (Nat.le_of_ble_eq_true rfl)
  · have hf := ite_e z3 hf
    cases hf
    exact EX_outc rfl z3 (Nat.le_of_ble_eq_true rfl) (Nat.le_of_ble_eq_true rfl)
set_option maxRecDepth 100000 in
set_option maxHeartbeats 4000000 in
theorem c_L_addRule_0_o {l : Launch} {g : Gt} (hl : l.stackTraces = false) {a1 : Int32} {a2 : Int32} {μ : Mm} {ν : Mm} {o : Nat → Int64} {dd : Nat → UInt64} {res : Int32 × Mm × (Nat → Int64)} (hf : f_L_addRule_0_o a1 a2 μ o = some res) : CM l g z_L_addRule yL_addRule [.ref (gaC g 0), .int a1, .int a2, .ref (gao g 0)] (μ, ν, o, dd) 2 (.inl (some (.int res.1))) (res.2.1, ν, res.2.2, dd) := by
  unfold f_L_addRule_0_o at hf
  refine CM_of_EH rfl rfl (by decide +kernel) rfl (Nat.le_of_ble_eq_true rfl) hl ?_
  refine E_aload_n 1 3 dL_addRule_0 rfl rfl rfl ?_
  refine E_iconst 2 0 dL_addRule_1 cst_iconst0 rfl ?_
  refine E_aload_n 3 0 dL_addRule_2 rfl rfl rfl ?_
  refine E_iload_n 4 1 dL_addRule_3 rfl rfl rfl ?_
  refine E_iload_n 5 2 dL_addRule_4 rfl rfl rfl ?_
  obtain ⟨r1, hc2, hf⟩ := bnd hf
  refine E_callVC2 8 2 [.int 0, .ref (gao g 0)] [.int r1.2.1, .int 0, .ref (gao g 0)] (c_X7_addRule hl hc2) my_X7_addRule rc_X7 kl_L_80 rfl rfl (Nat.le_of_ble_eq_true rfl) (rmok rfl) dL_addRule_5 rfl rfl rfl (fun z3 => ?_) (fun z3 => ?_)
  · have hf := ite_t z3 hf
    refine E_i2l 9 dL_addRule_8 rfl ?_
    obtain ⟨h4, hf⟩ := chk_some hf
    refine E_last 10 h4 dL_addRule_9 rfl ?_
    refine E_goto 25 dL_addRule_10 (by decide) ?_
    refine E_iconst 26 0 dL_addRule_25 cst_iconst0 rfl ?_
    cases hf
    exact E_iret dL_addRule_26 rfl (Nat.le_of_ble_eq_true rfl) (Nat.le_of_ble_eq_true rfl)
  · have hf := ite_e z3 hf
    by_cases k5 : r1.1 = 1
    · rw [k5]
      have hf := ite_t k5 hf
      refine EX_catch (X := "java/lang/IndexOutOfBoundsException") [] [(0, 10, 17, 13), (0, 10, 21, 15)] 0 10 13 21 rfl (fun _ h => nomatch h) ⟨by decide, by decide⟩ (by decide) kk_L_21 kt_java_lang_IndexOutOfBoundsException (fun q => ?_)
      refine E_astore 15 [(4, .ref q), (0, .ref (gaC g 0)), (1, .int a1), (2, .int a2), (3, .ref (gao g 0))] dL_addRule_13 (by decide) rfl rfl ?_
      refine E_iconst 16 1 dL_addRule_15 cst_iconst1 rfl ?_
      cases hf
      exact E_iret dL_addRule_16 rfl (Nat.le_of_ble_eq_true rfl) (Nat.le_of_ble_eq_true rfl)
    have hf := ite_e k5 hf
    by_cases k6 : r1.1 = 4
    · rw [k6]
      have hf := ite_t k6 hf
      refine EX_catch (X := "java/lang/IllegalArgumentException") [(0, 10, 13, 21)] [(0, 10, 21, 15)] 0 10 17 13 rfl (List.forall_mem_cons.mpr ⟨⟨_, kk_L_21, nc_39, by decide⟩, fun _ h => nomatch h⟩) ⟨by decide, by decide⟩ (by decide) kk_L_13 kt_java_lang_IllegalArgumentException (fun q => ?_)
      refine E_astore 19 [(4, .ref q), (0, .ref (gaC g 0)), (1, .int a1), (2, .int a2), (3, .ref (gao g 0))] dL_addRule_17 (by decide) rfl rfl ?_
      refine E_iconst 20 2 dL_addRule_19 cst_iconst2 rfl ?_
      cases hf
      exact E_iret dL_addRule_20 rfl (Nat.le_of_ble_eq_true rfl) (Nat.le_of_ble_eq_true rfl)
    have hf := ite_e k6 hf
    by_cases k7 : r1.1 = 3
    · rw [k7]
      have hf := ite_t k7 hf
      refine EX_catch (X := "java/lang/IllegalStateException") [(0, 10, 13, 21), (0, 10, 17, 13)] [] 0 10 21 15 rfl (List.forall_mem_cons.mpr ⟨⟨_, kk_L_21, nc_40, by decide⟩, List.forall_mem_cons.mpr ⟨⟨_, kk_L_13, nc_9, by decide⟩, fun _ h => nomatch h⟩⟩) ⟨by decide, by decide⟩ (by decide) kk_L_15 kt_java_lang_IllegalStateException (fun q => ?_)
      refine E_astore 23 [(4, .ref q), (0, .ref (gaC g 0)), (1, .int a1), (2, .int a2), (3, .ref (gao g 0))] dL_addRule_21 (by decide) rfl rfl ?_
      refine E_iconst 24 3 dL_addRule_23 cst_iconst3 rfl ?_
      cases hf
      exact E_iret dL_addRule_24 rfl (Nat.le_of_ble_eq_true rfl) (Nat.le_of_ble_eq_true rfl)
    have hf := ite_e k7 hf
    cases hf
set_option maxRecDepth 100000 in
set_option maxHeartbeats 4000000 in
theorem c_X7_requireRule {l : Launch} {g : Gt} (hl : l.stackTraces = false) {a1 : Int32} {μ : Mm} {ν : Mm} {o : Nat → Int64} {dd : Nat → UInt64} {res : Nat} (hf : f_X7_requireRule a1 μ = some res) : CM l g z_X7_requireRule yX7_requireRule [.ref (gaC g 0), .int a1] (μ, ν, o, dd) 1 (oc3 res none) (μ, ν, o, dd) := by
  unfold f_X7_requireRule at hf
  refine CM_of_E rfl rfl (by decide +kernel) rfl (Nat.le_of_ble_eq_true rfl) hl ?_
  refine E_iload_n 1 1 dX7_requireRule_0 rfl rfl rfl ?_
  refine E_if_lt 15 4 dX7_requireRule_1 (by decide) rfl (fun c1 => ?_) (fun c1 => ?_)
  · have hf := ite_t c1 hf
    cases hf
    exact E_throwW th_X7_257_261 tx_338 rfl dX7_requireRule_15 dX7_requireRule_18 dX7_requireRule_19 dX7_requireRule_22 dX7_requireRule_25 (Nat.le_of_ble_eq_true rfl) (Nat.le_of_ble_eq_true rfl) (Nat.le_of_ble_eq_true rfl) (Nat.le_of_ble_eq_true rfl) (Nat.le_of_ble_eq_true rfl) (Nat.le_of_ble_eq_true rfl)
  · have hf := ite_e c1 hf
    refine E_iload_n 5 1 dX7_requireRule_4 rfl rfl rfl ?_
    refine E_aload_n 6 0 dX7_requireRule_5 rfl rfl rfl ?_
    refine E_getCr 9 fg_X7_26 dX7_requireRule_6 rfl ?_
    refine E_getCN 12 fg_X7_201 dX7_requireRule_9 rfl ?_
    refine E_icmp_lt 26 15 dX7_requireRule_12 (by decide) rfl (fun c2 => ?_) (fun c2 => ?_)
    · have hf := ite_t c2 hf
      cases hf
      exact E_vret dX7_requireRule_26 rfl (Nat.le_of_ble_eq_true rfl) (Nat.le_of_ble_eq_true rfl)
    · have hf := ite_e c2 hf
      cases hf
      exact E_throwW th_X7_257_261 tx_338 rfl dX7_requireRule_15 dX7_requireRule_18 dX7_requireRule_19 dX7_requireRule_22 dX7_requireRule_25 (Nat.le_of_ble_eq_true rfl) (Nat.le_of_ble_eq_true rfl) (Nat.le_of_ble_eq_true rfl) (Nat.le_of_ble_eq_true rfl) (Nat.le_of_ble_eq_true rfl) (Nat.le_of_ble_eq_true rfl)
set_option maxRecDepth 100000 in
set_option maxHeartbeats 4000000 in
theorem c_X7_setRule {l : Launch} {g : Gt} (hl : l.stackTraces = false) {a1 : Int32} {a2 : Int32} {μ : Mm} {ν : Mm} {o : Nat → Int64} {dd : Nat → UInt64} {res : Nat × Int32 × Mm} (hf : f_X7_setRule a1 a2 μ = some res) : CM l g z_X7_setRule yX7_setRule [.ref (gaC g 0), .int a1, .int a2] (μ, ν, o, dd) 1 (oc3 res.1 (some (.int res.2.1))) (res.2.2, ν, o, dd) := by
  unfold f_X7_setRule at hf
  refine CM_of_E rfl rfl (by decide +kernel) rfl (Nat.le_of_ble_eq_true rfl) hl ?_
  refine E_aload_n 1 0 dX7_setRule_0 rfl rfl rfl ?_
  refine E_iload_n 2 1 dX7_setRule_1 rfl rfl rfl ?_
  obtain ⟨r1, hc2, hf⟩ := bnd hf
  refine E_callVC2 5 1 [] [] (c_X7_requireRule hl hc2) my_X7_requireRule rc_X7 kl_X7_206 rfl rfl (Nat.le_of_ble_eq_true rfl) (rmok rfl) dX7_setRule_2 rfl rfl rfl (fun z3 => ?_) (fun z3 => ?_)
  · have hf := ite_t z3 hf
    refine E_aload_n 6 0 dX7_setRule_5 rfl rfl rfl ?_
    refine E_getCr 9 fg_X7_26 dX7_setRule_6 rfl ?_
    refine E_getCN 12 fg_X7_209 dX7_setRule_9 rfl ?_
    refine E_iload_n 13 1 dX7_setRule_12 rfl rfl rfl ?_
    obtain ⟨r4, hc5, hf⟩ := bnd hf
    refine E_callS1 16 1 [] [.int r4] (c_X7_hasBit hl hc5) my_X7_hasBit kl_X7_76 rfl rfl (Nat.le_of_ble_eq_true rfl) (rmok rfl) dX7_setRule_13 rfl rfl rfl ?_
    refine E_istore_n 17 [(3, .int r4), (0, .ref (gaC g 0)), (1, .int a1), (2, .int a2)] dX7_setRule_16 rfl (by decide) rfl rfl ?_
    refine E_aload_n 18 1 dX7_setRule_17 rfl rfl rfl ?_
    refine E_getCr 21 fg_X7_26 dX7_setRule_18 rfl ?_
    refine E_aload_n 22 1 dX7_setRule_21 rfl rfl rfl ?_
    refine E_getCr 25 fg_X7_26 dX7_setRule_22 rfl ?_
    refine E_getCN 28 fg_X7_209 dX7_setRule_25 rfl ?_
    refine E_iload_n 29 2 dX7_setRule_28 rfl rfl rfl ?_
    refine E_iload_n 30 3 dX7_setRule_29 rfl rfl rfl ?_
    obtain ⟨r6, hc7, hf⟩ := bnd hf
    refine E_callS1 33 1 [.ref (gaC g 26)] [.int r6, .ref (gaC g 26)] (c_X7_withBit hl hc7) my_X7_withBit kl_X7_80 rfl rfl (Nat.le_of_ble_eq_true rfl) (rmok rfl) dX7_setRule_30 rfl rfl rfl ?_
    refine E_putCN 36 fp_X7_209 dX7_setRule_33 rfl ?_
    refine E_iload_n 37 0 dX7_setRule_36 rfl rfl rfl ?_
    obtain ⟨h8, hf⟩ := gn_z hf
    cases hf
    exact E_zret h8 dX7_setRule_37 rfl (Nat.le_of_ble_eq_true rfl) (Nat.le_of_ble_eq_true rfl)
  · have hf := ite_e z3 hf
    cases hf
    exact EX_outc rfl z3 (Nat.le_of_ble_eq_true rfl) (Nat.le_of_ble_eq_true rfl)
set_option maxRecDepth 100000 in
set_option maxHeartbeats 4000000 in
theorem c_L_setRule_0_o {l : Launch} {g : Gt} (hl : l.stackTraces = false) {a1 : Int32} {a2 : Int32} {μ : Mm} {ν : Mm} {o : Nat → Int64} {dd : Nat → UInt64} {res : Int32 × Mm × (Nat → Int64)} (hf : f_L_setRule_0_o a1 a2 μ o = some res) : CM l g z_L_setRule yL_setRule [.ref (gaC g 0), .int a1, .int a2, .ref (gao g 0)] (μ, ν, o, dd) 1 (.inl (some (.int res.1))) (res.2.1, ν, res.2.2, dd) := by
  unfold f_L_setRule_0_o at hf
  refine CM_of_EH rfl rfl (by decide +kernel) rfl (Nat.le_of_ble_eq_true rfl) hl ?_
  refine E_aload_n 1 3 dL_setRule_0 rfl rfl rfl ?_
  refine E_iconst 2 0 dL_setRule_1 cst_iconst0 rfl ?_
  refine E_aload_n 3 0 dL_setRule_2 rfl rfl rfl ?_
  refine E_iload_n 4 1 dL_setRule_3 rfl rfl rfl ?_
  refine E_iload_n 5 2 dL_setRule_4 rfl rfl rfl ?_
  obtain ⟨r1, hc2, hf⟩ := bnd hf
  refine E_callVC2 8 1 [.int 0, .ref (gao g 0)] [.int r1.2.1, .int 0, .ref (gao g 0)] (c_X7_setRule hl hc2) my_X7_setRule rc_X7 kl_L_83 rfl rfl (Nat.le_of_ble_eq_true rfl) (rmok rfl) dL_setRule_5 rfl rfl rfl (fun z3 => ?_) (fun z3 => ?_)
  · have hf := ite_t z3 hf
    refine E_if_eq 15 11 dL_setRule_8 (by decide) rfl (fun c4 => ?_) (fun c4 => ?_)
    · have hf := ite_t c4 hf
      refine E_lconst 16 0 dL_setRule_15 (by decide) rfl ?_
      obtain ⟨h5, hf⟩ := chk_some hf
      refine E_last 17 h5 dL_setRule_16 rfl ?_
      refine E_goto 24 dL_setRule_17 (by decide) ?_
      refine E_iconst 25 0 dL_setRule_24 cst_iconst0 rfl ?_
      cases hf
      exact E_iret dL_setRule_25 rfl (Nat.le_of_ble_eq_true rfl) (Nat.le_of_ble_eq_true rfl)
    · have hf := ite_e c4 hf
      refine E_lconst 12 1 dL_setRule_11 (by decide) rfl ?_
      refine E_goto 16 dL_setRule_12 (by decide) ?_
      obtain ⟨h6, hf⟩ := chk_some hf
      refine E_last 17 h6 dL_setRule_16 rfl ?_
      refine E_goto 24 dL_setRule_17 (by decide) ?_
      refine E_iconst 25 0 dL_setRule_24 cst_iconst0 rfl ?_
      cases hf
      exact E_iret dL_setRule_25 rfl (Nat.le_of_ble_eq_true rfl) (Nat.le_of_ble_eq_true rfl)
  · have hf := ite_e z3 hf
    by_cases k7 : r1.1 = 1
    · rw [k7]
      have hf := ite_t k7 hf
      refine EX_catch (X := "java/lang/IndexOutOfBoundsException") [] [] 0 17 20 21 rfl (fun _ h => nomatch h) ⟨by decide, by decide⟩ (by decide) kk_L_21 kt_java_lang_IndexOutOfBoundsException (fun q => ?_)
      refine E_astore 22 [(4, .ref q), (0, .ref (gaC g 0)), (1, .int a1), (2, .int a2), (3, .ref (gao g 0))] dL_setRule_20 (by decide) rfl rfl ?_
      refine E_iconst 23 1 dL_setRule_22 cst_iconst1 rfl ?_
      cases hf
      exact E_iret dL_setRule_23 rfl (Nat.le_of_ble_eq_true rfl) (Nat.le_of_ble_eq_true rfl)
    have hf := ite_e k7 hf
    cases hf
set_option maxRecDepth 100000 in
set_option maxHeartbeats 4000000 in
theorem c_X7_requireThreshold {l : Launch} {g : Gt} (hl : l.stackTraces = false) {a0 : Int32} {μ : Mm} {ν : Mm} {o : Nat → Int64} {dd : Nat → UInt64} {res : Nat} (hf : f_X7_requireThreshold a0 = some res) : CM l g z_X7_requireThreshold yX7_requireThreshold [.int a0] (μ, ν, o, dd) 1 (oc3 res none) (μ, ν, o, dd) := by
  unfold f_X7_requireThreshold at hf
  refine CM_of_E rfl rfl (by decide +kernel) rfl (Nat.le_of_ble_eq_true rfl) hl ?_
  refine E_iload_n 1 0 dX7_requireThreshold_0 rfl rfl rfl ?_
  refine E_iconst 2 1 dX7_requireThreshold_1 cst_iconst1 rfl ?_
  refine E_icmp_lt 12 5 dX7_requireThreshold_2 (by decide) rfl (fun c1 => ?_) (fun c1 => ?_)
  · have hf := ite_t c1 hf
    cases hf
    exact E_throwW th_X7_41_45 tx_352 rfl dX7_requireThreshold_12 dX7_requireThreshold_15 dX7_requireThreshold_16 dX7_requireThreshold_19 dX7_requireThreshold_22 (Nat.le_of_ble_eq_true rfl) (Nat.le_of_ble_eq_true rfl) (Nat.le_of_ble_eq_true rfl) (Nat.le_of_ble_eq_true rfl) (Nat.le_of_ble_eq_true rfl) (Nat.le_of_ble_eq_true rfl)
  · have hf := ite_e c1 hf
    refine E_iload_n 6 0 dX7_requireThreshold_5 rfl rfl rfl ?_
    refine E_sipush 9 1201 dX7_requireThreshold_6 cst_sipush1201 rfl ?_
    refine E_icmp_le 23 12 dX7_requireThreshold_9 (by decide) rfl (fun c2 => ?_) (fun c2 => ?_)
    · have hf := ite_t c2 hf
      cases hf
      exact E_vret dX7_requireThreshold_23 rfl (Nat.le_of_ble_eq_true rfl) (Nat.le_of_ble_eq_true rfl)
    · have hf := ite_e c2 hf
      cases hf
      exact E_throwW th_X7_41_45 tx_352 rfl dX7_requireThreshold_12 dX7_requireThreshold_15 dX7_requireThreshold_16 dX7_requireThreshold_19 dX7_requireThreshold_22 (Nat.le_of_ble_eq_true rfl) (Nat.le_of_ble_eq_true rfl) (Nat.le_of_ble_eq_true rfl) (Nat.le_of_ble_eq_true rfl) (Nat.le_of_ble_eq_true rfl) (Nat.le_of_ble_eq_true rfl)
set_option maxRecDepth 100000 in
set_option maxHeartbeats 4000000 in
theorem c_X7_setThreshold {l : Launch} {g : Gt} (hl : l.stackTraces = false) {a1 : Int32} {μ : Mm} {ν : Mm} {o : Nat → Int64} {dd : Nat → UInt64} {res : Nat × Int32 × Mm} (hf : f_X7_setThreshold a1 μ = some res) : CM l g z_X7_setThreshold yX7_setThreshold [.ref (gaC g 0), .int a1] (μ, ν, o, dd) 1 (oc3 res.1 (some (.int res.2.1))) (res.2.2, ν, o, dd) := by
  unfold f_X7_setThreshold at hf
  refine CM_of_E rfl rfl (by decide +kernel) rfl (Nat.le_of_ble_eq_true rfl) hl ?_
  refine E_iload_n 1 1 dX7_setThreshold_0 rfl rfl rfl ?_
  obtain ⟨r1, hc2, hf⟩ := bnd hf
  refine E_callS2 4 1 [] [] (c_X7_requireThreshold hl hc2) my_X7_requireThreshold kl_X7_212 rfl rfl (Nat.le_of_ble_eq_true rfl) (rmok rfl) dX7_setThreshold_1 rfl rfl rfl (fun z3 => ?_) (fun z3 => ?_)
  · have hf := ite_t z3 hf
    refine E_aload_n 5 0 dX7_setThreshold_4 rfl rfl rfl ?_
    refine E_getC 8 fg_X7_37 dX7_setThreshold_5 rfl ?_
    refine E_istore_n 9 [(2, .int (μ 0 4)), (0, .ref (gaC g 0)), (1, .int a1)] dX7_setThreshold_8 rfl (by decide) rfl rfl ?_
    refine E_aload_n 10 1 dX7_setThreshold_9 rfl rfl rfl ?_
    refine E_iload_n 11 2 dX7_setThreshold_10 rfl rfl rfl ?_
    refine E_putC 14 fp_X7_37 dX7_setThreshold_11 rfl ?_
    refine E_iload_n 15 0 dX7_setThreshold_14 rfl rfl rfl ?_
    cases hf
    exact E_iret dX7_setThreshold_15 rfl (Nat.le_of_ble_eq_true rfl) (Nat.le_of_ble_eq_true rfl)
  · have hf := ite_e z3 hf
    cases hf
    exact EX_outc rfl z3 (Nat.le_of_ble_eq_true rfl) (Nat.le_of_ble_eq_true rfl)
set_option maxRecDepth 100000 in
set_option maxHeartbeats 4000000 in
theorem c_L_setThreshold_0_o {l : Launch} {g : Gt} (hl : l.stackTraces = false) {a1 : Int32} {μ : Mm} {ν : Mm} {o : Nat → Int64} {dd : Nat → UInt64} {res : Int32 × Mm × (Nat → Int64)} (hf : f_L_setThreshold_0_o a1 μ o = some res) : CM l g z_L_setThreshold yL_setThreshold [.ref (gaC g 0), .int a1, .ref (gao g 0)] (μ, ν, o, dd) 1 (.inl (some (.int res.1))) (res.2.1, ν, res.2.2, dd) := by
  unfold f_L_setThreshold_0_o at hf
  refine CM_of_EH rfl rfl (by decide +kernel) rfl (Nat.le_of_ble_eq_true rfl) hl ?_
  refine E_aload_n 1 2 dL_setThreshold_0 rfl rfl rfl ?_
  refine E_iconst 2 0 dL_setThreshold_1 cst_iconst0 rfl ?_
  refine E_aload_n 3 0 dL_setThreshold_2 rfl rfl rfl ?_
  refine E_iload_n 4 1 dL_setThreshold_3 rfl rfl rfl ?_
  obtain ⟨r1, hc2, hf⟩ := bnd hf
  refine E_callVC2 7 1 [.int 0, .ref (gao g 0)] [.int r1.2.1, .int 0, .ref (gao g 0)] (c_X7_setThreshold hl hc2) my_X7_setThreshold rc_X7 kl_L_86 rfl rfl (Nat.le_of_ble_eq_true rfl) (rmok rfl) dL_setThreshold_4 rfl rfl rfl (fun z3 => ?_) (fun z3 => ?_)
  · have hf := ite_t z3 hf
    refine E_i2l 8 dL_setThreshold_7 rfl ?_
    obtain ⟨h4, hf⟩ := chk_some hf
    refine E_last 9 h4 dL_setThreshold_8 rfl ?_
    refine E_goto 15 dL_setThreshold_9 (by decide) ?_
    refine E_iconst 16 0 dL_setThreshold_15 cst_iconst0 rfl ?_
    cases hf
    exact E_iret dL_setThreshold_16 rfl (Nat.le_of_ble_eq_true rfl) (Nat.le_of_ble_eq_true rfl)
  · have hf := ite_e z3 hf
    by_cases k5 : r1.1 = 4
    · rw [k5]
      have hf := ite_t k5 hf
      refine EX_catch (X := "java/lang/IllegalArgumentException") [] [] 0 9 12 13 rfl (fun _ h => nomatch h) ⟨by decide, by decide⟩ (by decide) kk_L_13 kt_java_lang_IllegalArgumentException (fun q => ?_)
      refine E_astore_n 13 [(3, .ref q), (0, .ref (gaC g 0)), (1, .int a1), (2, .ref (gao g 0))] dL_setThreshold_12 rfl (by decide) rfl rfl ?_
      refine E_iconst 14 1 dL_setThreshold_13 cst_iconst1 rfl ?_
      cases hf
      exact E_iret dL_setThreshold_14 rfl (Nat.le_of_ble_eq_true rfl) (Nat.le_of_ble_eq_true rfl)
    have hf := ite_e k5 hf
    cases hf
set_option maxRecDepth 100000 in
set_option maxHeartbeats 4000000 in
theorem c_X7_score {l : Launch} {g : Gt} (hl : l.stackTraces = false) {a1 : Int32} {μ : Mm} {ν : Mm} {o : Nat → Int64} {dd : Nat → UInt64} {res : Nat × Int32} (hf : f_X7_score a1 μ = some res) : CM l g z_X7_score yX7_score [.ref (gaC g 0), .int a1] (μ, ν, o, dd) 1 (oc3 res.1 (some (.int res.2))) (μ, ν, o, dd) := by
  unfold f_X7_score at hf
  refine CM_of_E rfl rfl (by decide +kernel) rfl (Nat.le_of_ble_eq_true rfl) hl ?_
  refine E_aload_n 1 0 dX7_score_0 rfl rfl rfl ?_
  refine E_iload_n 2 1 dX7_score_1 rfl rfl rfl ?_
  obtain ⟨r1, hc2, hf⟩ := bnd hf
  refine E_callVC2 5 1 [] [] (c_X7_requirePayment hl hc2) my_X7_requirePayment rc_X7 kl_X7_137 rfl rfl (Nat.le_of_ble_eq_true rfl) (rmok rfl) dX7_score_2 rfl rfl rfl (fun z3 => ?_) (fun z3 => ?_)
  · have hf := ite_t z3 hf
    refine E_aload_n 6 0 dX7_score_5 rfl rfl rfl ?_
    refine E_getCr 9 fg_X7_33 dX7_score_6 rfl ?_
    refine E_getCrN 12 fg_X7_215 dX7_score_9 rfl ?_
    refine E_iload_n 13 1 dX7_score_12 rfl rfl rfl ?_
    obtain ⟨h4, hf⟩ := chk_some hf
    refine E_ialdC 14 (k := 30) (n := 200) rfl (by decide) h4 dX7_score_13 rfl ?_
    cases hf
    exact E_iret dX7_score_14 rfl (Nat.le_of_ble_eq_true rfl) (Nat.le_of_ble_eq_true rfl)
  · have hf := ite_e z3 hf
    cases hf
    exact EX_outc rfl z3 (Nat.le_of_ble_eq_true rfl) (Nat.le_of_ble_eq_true rfl)
set_option maxRecDepth 100000 in
set_option maxHeartbeats 4000000 in
theorem c_L_score_0_o {l : Launch} {g : Gt} (hl : l.stackTraces = false) {a1 : Int32} {μ : Mm} {ν : Mm} {o : Nat → Int64} {dd : Nat → UInt64} {res : Int32 × (Nat → Int64)} (hf : f_L_score_0_o a1 μ o = some res) : CM l g z_L_score yL_score [.ref (gaC g 0), .int a1, .ref (gao g 0)] (μ, ν, o, dd) 1 (.inl (some (.int res.1))) (μ, ν, res.2, dd) := by
  unfold f_L_score_0_o at hf
  refine CM_of_EH rfl rfl (by decide +kernel) rfl (Nat.le_of_ble_eq_true rfl) hl ?_
  refine E_aload_n 1 2 dL_score_0 rfl rfl rfl ?_
  refine E_iconst 2 0 dL_score_1 cst_iconst0 rfl ?_
  refine E_aload_n 3 0 dL_score_2 rfl rfl rfl ?_
  refine E_iload_n 4 1 dL_score_3 rfl rfl rfl ?_
  obtain ⟨r1, hc2, hf⟩ := bnd hf
  refine E_callVC2 7 1 [.int 0, .ref (gao g 0)] [.int r1.2, .int 0, .ref (gao g 0)] (c_X7_score hl hc2) my_X7_score rc_X7 kl_L_89 rfl rfl (Nat.le_of_ble_eq_true rfl) (rmok rfl) dL_score_4 rfl rfl rfl (fun z3 => ?_) (fun z3 => ?_)
  · have hf := ite_t z3 hf
    refine E_i2l 8 dL_score_7 rfl ?_
    obtain ⟨h4, hf⟩ := chk_some hf
    refine E_last 9 h4 dL_score_8 rfl ?_
    refine E_goto 15 dL_score_9 (by decide) ?_
    refine E_iconst 16 0 dL_score_15 cst_iconst0 rfl ?_
    cases hf
    exact E_iret dL_score_16 rfl (Nat.le_of_ble_eq_true rfl) (Nat.le_of_ble_eq_true rfl)
  · have hf := ite_e z3 hf
    by_cases k5 : r1.1 = 2
    · rw [k5]
      have hf := ite_t k5 hf
      refine EX_catch (X := "java/util/NoSuchElementException") [] [] 0 9 12 47 rfl (fun _ h => nomatch h) ⟨by decide, by decide⟩ (by decide) kk_L_47 kt_java_util_NoSuchElementException (fun q => ?_)
      refine E_astore_n 13 [(3, .ref q), (0, .ref (gaC g 0)), (1, .int a1), (2, .ref (gao g 0))] dL_score_12 rfl (by decide) rfl rfl ?_
      refine E_iconst 14 1 dL_score_13 cst_iconst1 rfl ?_
      cases hf
      exact E_iret dL_score_14 rfl (Nat.le_of_ble_eq_true rfl) (Nat.le_of_ble_eq_true rfl)
    have hf := ite_e k5 hf
    cases hf
set_option maxRecDepth 100000 in
set_option maxHeartbeats 4000000 in
theorem c_X7_scoreNow {l : Launch} {g : Gt} (hl : l.stackTraces = false) {a1 : Int32} {μ : Mm} {ν : Mm} {o : Nat → Int64} {dd : Nat → UInt64} {res : Nat × Int32 × Mm} (hf : f_X7_scoreNow a1 μ = some res) : CM l g z_X7_scoreNow yX7_scoreNow [.ref (gaC g 0), .int a1] (μ, ν, o, dd) 1 (oc3 res.1 (some (.int res.2.1))) (res.2.2, ν, o, dd) := by
  unfold f_X7_scoreNow at hf
  refine CM_of_E rfl rfl (by decide +kernel) rfl (Nat.le_of_ble_eq_true rfl) hl ?_
  refine E_aload_n 1 0 dX7_scoreNow_0 rfl rfl rfl ?_
  refine E_iload_n 2 1 dX7_scoreNow_1 rfl rfl rfl ?_
  obtain ⟨r1, hc2, hf⟩ := bnd hf
  refine E_callVC2 5 1 [] [] (c_X7_requirePayment hl hc2) my_X7_requirePayment rc_X7 kl_X7_137 rfl rfl (Nat.le_of_ble_eq_true rfl) (rmok rfl) dX7_scoreNow_2 rfl rfl rfl (fun z3 => ?_) (fun z3 => ?_)
  · have hf := ite_t z3 hf
    refine E_aload_n 6 0 dX7_scoreNow_5 rfl rfl rfl ?_
    refine E_getCr 9 fg_X7_19 dX7_scoreNow_6 rfl ?_
    refine E_aload_n 10 0 dX7_scoreNow_9 rfl rfl rfl ?_
    refine E_getCr 13 fg_X7_10 dX7_scoreNow_10 rfl ?_
    refine E_iload_n 14 1 dX7_scoreNow_13 rfl rfl rfl ?_
    refine E_aload_n 15 0 dX7_scoreNow_14 rfl rfl rfl ?_
    refine E_getCr 18 fg_X7_19 dX7_scoreNow_15 rfl ?_
    refine E_getCN 21 fg_X7_117 dX7_scoreNow_18 rfl ?_
    obtain ⟨r4, hc5, hf⟩ := bnd hf
    refine E_callVC1 24 1 [] [] (c_X3_judge_1 hl hc5) my_X3_judge rc_X3 kl_X7_118 rfl rfl (Nat.le_of_ble_eq_true rfl) (rmok rfl) dX7_scoreNow_21 rfl rfl rfl ?_
    refine E_aload_n 25 0 dX7_scoreNow_24 rfl rfl rfl ?_
    refine E_getCr 28 fg_X7_26 dX7_scoreNow_25 rfl ?_
    refine E_aload_n 29 0 dX7_scoreNow_28 rfl rfl rfl ?_
    refine E_getCr 32 fg_X7_26 dX7_scoreNow_29 rfl ?_
    refine E_aload_n 33 0 dX7_scoreNow_32 rfl rfl rfl ?_
    refine E_getCr 36 fg_X7_19 dX7_scoreNow_33 rfl ?_
    obtain ⟨r6, hc7, hf⟩ := bnd hf
    refine E_callVC1 39 1 [.ref (gaC g 26)] [.int r6, .ref (gaC g 26)] (c_X6_findReasons_13 hl hc7) my_X6_findReasons rc_X6 kl_X7_122 rfl rfl (Nat.le_of_ble_eq_true rfl) (rmok rfl) dX7_scoreNow_36 rfl rfl rfl ?_
    obtain ⟨r8, hc9, hf⟩ := bnd hf
    refine E_callVC1 42 1 [] [.int r8] (c_X6_weightOf hl hc9) my_X6_weightOf rc_X6 kl_X7_126 rfl rfl (Nat.le_of_ble_eq_true rfl) (rmok rfl) dX7_scoreNow_39 rfl rfl rfl ?_
    cases hf
    exact E_iret dX7_scoreNow_42 rfl (Nat.le_of_ble_eq_true rfl) (Nat.le_of_ble_eq_true rfl)
  · have hf := ite_e z3 hf
    cases hf
    exact EX_outc rfl z3 (Nat.le_of_ble_eq_true rfl) (Nat.le_of_ble_eq_true rfl)
set_option maxRecDepth 100000 in
set_option maxHeartbeats 4000000 in
theorem c_L_scoreNow_0_o {l : Launch} {g : Gt} (hl : l.stackTraces = false) {a1 : Int32} {μ : Mm} {ν : Mm} {o : Nat → Int64} {dd : Nat → UInt64} {res : Int32 × Mm × (Nat → Int64)} (hf : f_L_scoreNow_0_o a1 μ o = some res) : CM l g z_L_scoreNow yL_scoreNow [.ref (gaC g 0), .int a1, .ref (gao g 0)] (μ, ν, o, dd) 1 (.inl (some (.int res.1))) (res.2.1, ν, res.2.2, dd) := by
  unfold f_L_scoreNow_0_o at hf
  refine CM_of_EH rfl rfl (by decide +kernel) rfl (Nat.le_of_ble_eq_true rfl) hl ?_
  refine E_aload_n 1 2 dL_scoreNow_0 rfl rfl rfl ?_
  refine E_iconst 2 0 dL_scoreNow_1 cst_iconst0 rfl ?_
  refine E_aload_n 3 0 dL_scoreNow_2 rfl rfl rfl ?_
  refine E_iload_n 4 1 dL_scoreNow_3 rfl rfl rfl ?_
  obtain ⟨r1, hc2, hf⟩ := bnd hf
  refine E_callVC2 7 1 [.int 0, .ref (gao g 0)] [.int r1.2.1, .int 0, .ref (gao g 0)] (c_X7_scoreNow hl hc2) my_X7_scoreNow rc_X7 kl_L_92 rfl rfl (Nat.le_of_ble_eq_true rfl) (rmok rfl) dL_scoreNow_4 rfl rfl rfl (fun z3 => ?_) (fun z3 => ?_)
  · have hf := ite_t z3 hf
    refine E_i2l 8 dL_scoreNow_7 rfl ?_
    obtain ⟨h4, hf⟩ := chk_some hf
    refine E_last 9 h4 dL_scoreNow_8 rfl ?_
    refine E_goto 15 dL_scoreNow_9 (by decide) ?_
    refine E_iconst 16 0 dL_scoreNow_15 cst_iconst0 rfl ?_
    cases hf
    exact E_iret dL_scoreNow_16 rfl (Nat.le_of_ble_eq_true rfl) (Nat.le_of_ble_eq_true rfl)
  · have hf := ite_e z3 hf
    by_cases k5 : r1.1 = 2
    · rw [k5]
      have hf := ite_t k5 hf
      refine EX_catch (X := "java/util/NoSuchElementException") [] [] 0 9 12 47 rfl (fun _ h => nomatch h) ⟨by decide, by decide⟩ (by decide) kk_L_47 kt_java_util_NoSuchElementException (fun q => ?_)
      refine E_astore_n 13 [(3, .ref q), (0, .ref (gaC g 0)), (1, .int a1), (2, .ref (gao g 0))] dL_scoreNow_12 rfl (by decide) rfl rfl ?_
      refine E_iconst 14 1 dL_scoreNow_13 cst_iconst1 rfl ?_
      cases hf
      exact E_iret dL_scoreNow_14 rfl (Nat.le_of_ble_eq_true rfl) (Nat.le_of_ble_eq_true rfl)
    have hf := ite_e k5 hf
    cases hf
set_option maxRecDepth 100000 in
set_option maxHeartbeats 4000000 in
theorem c_X7_reasons {l : Launch} {g : Gt} (hl : l.stackTraces = false) {a1 : Int32} {μ : Mm} {ν : Mm} {o : Nat → Int64} {dd : Nat → UInt64} {res : Nat × Int32} (hf : f_X7_reasons a1 μ = some res) : CM l g z_X7_reasons yX7_reasons [.ref (gaC g 0), .int a1] (μ, ν, o, dd) 1 (oc3 res.1 (some (.int res.2))) (μ, ν, o, dd) := by
  unfold f_X7_reasons at hf
  refine CM_of_E rfl rfl (by decide +kernel) rfl (Nat.le_of_ble_eq_true rfl) hl ?_
  refine E_aload_n 1 0 dX7_reasons_0 rfl rfl rfl ?_
  refine E_iload_n 2 1 dX7_reasons_1 rfl rfl rfl ?_
  obtain ⟨r1, hc2, hf⟩ := bnd hf
  refine E_callVC2 5 1 [] [] (c_X7_requirePayment hl hc2) my_X7_requirePayment rc_X7 kl_X7_137 rfl rfl (Nat.le_of_ble_eq_true rfl) (rmok rfl) dX7_reasons_2 rfl rfl rfl (fun z3 => ?_) (fun z3 => ?_)
  · have hf := ite_t z3 hf
    refine E_aload_n 6 0 dX7_reasons_5 rfl rfl rfl ?_
    refine E_getCr 9 fg_X7_33 dX7_reasons_6 rfl ?_
    refine E_getCrN 12 fg_X7_218 dX7_reasons_9 rfl ?_
    refine E_iload_n 13 1 dX7_reasons_12 rfl rfl rfl ?_
    obtain ⟨h4, hf⟩ := chk_some hf
    refine E_ialdC 14 (k := 32) (n := 200) rfl (by decide) h4 dX7_reasons_13 rfl ?_
    obtain ⟨r5, hc6, hf⟩ := bnd hf
    refine E_callS1 17 1 [] [.int r5] (c_J6_bitCount_0f7a4 hl hc6) my_J6_bitCount_0f7a4 kl_X7_221 rfl rfl (Nat.le_of_ble_eq_true rfl) (rmok rfl) dX7_reasons_14 rfl rfl rfl ?_
    cases hf
    exact E_iret dX7_reasons_17 rfl (Nat.le_of_ble_eq_true rfl) (Nat.le_of_ble_eq_true rfl)
  · have hf := ite_e z3 hf
    cases hf
    exact EX_outc rfl z3 (Nat.le_of_ble_eq_true rfl) (Nat.le_of_ble_eq_true rfl)
set_option maxRecDepth 100000 in
set_option maxHeartbeats 4000000 in
theorem c_L_reasons_0_o {l : Launch} {g : Gt} (hl : l.stackTraces = false) {a1 : Int32} {μ : Mm} {ν : Mm} {o : Nat → Int64} {dd : Nat → UInt64} {res : Int32 × (Nat → Int64)} (hf : f_L_reasons_0_o a1 μ o = some res) : CM l g z_L_reasons yL_reasons [.ref (gaC g 0), .int a1, .ref (gao g 0)] (μ, ν, o, dd) 1 (.inl (some (.int res.1))) (μ, ν, res.2, dd) := by
  unfold f_L_reasons_0_o at hf
  refine CM_of_EH rfl rfl (by decide +kernel) rfl (Nat.le_of_ble_eq_true rfl) hl ?_
  refine E_aload_n 1 2 dL_reasons_0 rfl rfl rfl ?_
  refine E_iconst 2 0 dL_reasons_1 cst_iconst0 rfl ?_
  refine E_aload_n 3 0 dL_reasons_2 rfl rfl rfl ?_
  refine E_iload_n 4 1 dL_reasons_3 rfl rfl rfl ?_
  obtain ⟨r1, hc2, hf⟩ := bnd hf
  refine E_callVC2 7 1 [.int 0, .ref (gao g 0)] [.int r1.2, .int 0, .ref (gao g 0)] (c_X7_reasons hl hc2) my_X7_reasons rc_X7 kl_L_95 rfl rfl (Nat.le_of_ble_eq_true rfl) (rmok rfl) dL_reasons_4 rfl rfl rfl (fun z3 => ?_) (fun z3 => ?_)
  · have hf := ite_t z3 hf
    refine E_i2l 8 dL_reasons_7 rfl ?_
    obtain ⟨h4, hf⟩ := chk_some hf
    refine E_last 9 h4 dL_reasons_8 rfl ?_
    refine E_goto 15 dL_reasons_9 (by decide) ?_
    refine E_iconst 16 0 dL_reasons_15 cst_iconst0 rfl ?_
    cases hf
    exact E_iret dL_reasons_16 rfl (Nat.le_of_ble_eq_true rfl) (Nat.le_of_ble_eq_true rfl)
  · have hf := ite_e z3 hf
    by_cases k5 : r1.1 = 2
    · rw [k5]
      have hf := ite_t k5 hf
      refine EX_catch (X := "java/util/NoSuchElementException") [] [] 0 9 12 47 rfl (fun _ h => nomatch h) ⟨by decide, by decide⟩ (by decide) kk_L_47 kt_java_util_NoSuchElementException (fun q => ?_)
      refine E_astore_n 13 [(3, .ref q), (0, .ref (gaC g 0)), (1, .int a1), (2, .ref (gao g 0))] dL_reasons_12 rfl (by decide) rfl rfl ?_
      refine E_iconst 14 1 dL_reasons_13 cst_iconst1 rfl ?_
      cases hf
      exact E_iret dL_reasons_14 rfl (Nat.le_of_ble_eq_true rfl) (Nat.le_of_ble_eq_true rfl)
    have hf := ite_e k5 hf
    cases hf
set_option maxRecDepth 100000 in
set_option maxHeartbeats 4000000 in
theorem l_X6_ruleAtRank_L5 {l : Launch} {g : Gt} (hl : l.stackTraces = false) {μ : Mm} {ν : Mm} {o : Nat → Int64} {dd : Nat → UInt64}  {x1 : Int32} {x2 : Int32} {res : Int32} : ∀ (n : Nat) (x3 : Int32) (x4 : Int32) , f_X6_ruleAtRank_L5 x1 x2 μ n x3 x4 = some res → E l g z_X6_ruleAtRank 5 [(0, .ref (gaC g 26)), (1, .int x1), (2, .int x2), (3, .int x3), (4, .int x4)] [] (μ, ν, o, dd) 0 (QM g (.inl (some (.int res))) (μ, ν, o, dd) 0) := by
  intro n
  induction n with
  | zero => intro x3 x4 hf; cases hf
  | succ n ih =>
    intro x3 x4 hf
    refine E_iload 7 4 dX6_ruleAtRank_5 rfl rfl ?_
    refine E_aload_n 8 0 dX6_ruleAtRank_7 rfl rfl rfl ?_
    refine E_getC 11 fg_X6_18 dX6_ruleAtRank_8 rfl ?_
    refine E_icmp_ge 40 14 dX6_ruleAtRank_11 (by decide) rfl (fun c1 => ?_) (fun c1 => ?_)
    · have hf := ite_t c1 hf
      refine E_iconst 41 (-1) dX6_ruleAtRank_40 cst_iconstn1 rfl ?_
      cases hf
      exact E_iret dX6_ruleAtRank_41 rfl (Nat.le_of_ble_eq_true rfl) (Nat.le_of_ble_eq_true rfl)
    · have hf := ite_e c1 hf
      refine E_iload_n 15 1 dX6_ruleAtRank_14 rfl rfl rfl ?_
      refine E_iload 17 4 dX6_ruleAtRank_15 rfl rfl ?_
      obtain ⟨r2, hc3, hf⟩ := bnd hf
      refine E_callSN1 20 0 [] [.int r2] (c_X7_hasBit hl hc3) my_X7_hasBit kl_X6_29 rfl rfl (Nat.le_of_ble_eq_true rfl) (rmok rfl) dX6_ruleAtRank_17 rfl rfl rfl ?_
      refine E_if_eq 34 23 dX6_ruleAtRank_20 (by decide) rfl (fun c4 => ?_) (fun c4 => ?_)
      · have hf := ite_t c4 hf
        refine E_iinc 37 [(4, .int (x4 + 1)), (0, .ref (gaC g 26)), (1, .int x1), (2, .int x2), (3, .int x3)] 4 (v := x4 + 1) dX6_ruleAtRank_34 rfl (by rw [cst_iconst1]) (by decide) rfl rfl ?_
        refine E_goto 5 dX6_ruleAtRank_37 (by decide) ?_
        refine E_sub [1, 2, 3, 4, 0] rfl ?_
        exact ih x3 (x4 + 1) hf
      · have hf := ite_e c4 hf
        refine E_iload_n 24 3 dX6_ruleAtRank_23 rfl rfl rfl ?_
        refine E_iload_n 25 2 dX6_ruleAtRank_24 rfl rfl rfl ?_
        refine E_icmp_ne 31 28 dX6_ruleAtRank_25 (by decide) rfl (fun c5 => ?_) (fun c5 => ?_)
        · have hf := ite_e c5 hf
          refine E_iinc 34 [(3, .int (x3 + 1)), (0, .ref (gaC g 26)), (1, .int x1), (2, .int x2), (4, .int x4)] 3 (v := x3 + 1) dX6_ruleAtRank_31 rfl (by rw [cst_iconst1]) (by decide) rfl rfl ?_
          refine E_iinc 37 [(4, .int (x4 + 1)), (3, .int (x3 + 1)), (0, .ref (gaC g 26)), (1, .int x1), (2, .int x2)] 4 (v := x4 + 1) dX6_ruleAtRank_34 rfl (by rw [cst_iconst1]) (by decide) rfl rfl ?_
          refine E_goto 5 dX6_ruleAtRank_37 (by decide) ?_
          refine E_sub [2, 3, 4, 1, 0] rfl ?_
          exact ih (x3 + 1) (x4 + 1) hf
        · have hf := ite_t c5 hf
          refine E_iload 30 4 dX6_ruleAtRank_28 rfl rfl ?_
          cases hf
          exact E_iret dX6_ruleAtRank_30 rfl (Nat.le_of_ble_eq_true rfl) (Nat.le_of_ble_eq_true rfl)
