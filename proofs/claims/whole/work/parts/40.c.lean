set_option maxRecDepth 100000 in
set_option maxHeartbeats 4000000 in
theorem l_X4_firstAfter_L2 {l : Launch} {g : Gt} (hl : l.stackTraces = false) {μ : Mm} {ν : Mm} {o : Nat → Int64} {dd : Nat → UInt64} {kx26 : (Int32 → Option (Int32))} {x1 : Int32} {res : Int32} (hx26 : ∀ (w3 : Int32), kx26 w3 = some res → E l g z_X4_firstAfter 26 [(3, .int w3)] [] (μ, ν, o, dd) 0 (QM g (.inl (some (.int res))) (μ, ν, o, dd) 0)) : ∀ (n : Nat) (x3 : Int32) , f_X4_firstAfter_L2 kx26 x1 μ n x3 = some res → E l g z_X4_firstAfter 2 [(0, .ref (gaC g 3)), (1, .int x1), (3, .int x3)] [] (μ, ν, o, dd) 0 (QM g (.inl (some (.int res))) (μ, ν, o, dd) 0) := by
  intro n
  induction n with
  | zero => intro x3 hf; cases hf
  | succ n ih =>
    intro x3 hf
    refine E_iload_n 3 2 dX4_firstAfter_2 rfl rfl rfl ?_
    refine E_aload_n 4 0 dX4_firstAfter_3 rfl rfl rfl ?_
    refine E_getC 7 fg_X4_24 dX4_firstAfter_4 rfl ?_
    refine E_icmp_ge 26 10 dX4_firstAfter_7 (by decide) rfl (fun c1 => ?_) (fun c1 => ?_)
    · have hf := ite_t c1 hf
      refine E_sub [2] rfl ?_
      exact hx26 x3 hf
    · have hf := ite_e c1 hf
      refine E_aload_n 11 0 dX4_firstAfter_10 rfl rfl rfl ?_
      refine E_getCr 14 fg_X4_21 dX4_firstAfter_11 rfl ?_
      refine E_iload_n 15 2 dX4_firstAfter_14 rfl rfl rfl ?_
      obtain ⟨h2, hf⟩ := chk_some hf
      refine E_ialdC 16 (k := 13) (n := 200) rfl (by decide) h2 dX4_firstAfter_15 rfl ?_
      refine E_iload_n 17 1 dX4_firstAfter_16 rfl rfl rfl ?_
      refine E_icmp_gt 26 20 dX4_firstAfter_17 (by decide) rfl (fun c3 => ?_) (fun c3 => ?_)
      · have hf := ite_t c3 hf
        refine E_sub [2] rfl ?_
        exact hx26 x3 hf
      · have hf := ite_e c3 hf
        refine E_iinc 23 [(3, .int (x3 + 1)), (0, .ref (gaC g 3)), (1, .int x1)] 2 (v := x3 + 1) dX4_firstAfter_20 rfl (by rw [cst_iconst1]) (by decide) rfl rfl ?_
        refine E_goto 2 dX4_firstAfter_23 (by decide) ?_
        refine E_sub [1, 2, 0] rfl ?_
        exact ih (x3 + 1) hf
set_option maxRecDepth 100000 in
set_option maxHeartbeats 4000000 in
theorem c_X4_firstAfter {l : Launch} {g : Gt} (hl : l.stackTraces = false) {a1 : Int32} {a2 : Int32} {μ : Mm} {ν : Mm} {o : Nat → Int64} {dd : Nat → UInt64} {res : Int32} (hf : f_X4_firstAfter a1 a2 μ = some res) : CM l g z_X4_firstAfter yX4_firstAfter [.ref (gaC g 3), .int a1, .int a2] (μ, ν, o, dd) 0 (.inl (some (.int res))) (μ, ν, o, dd) := by
  unfold f_X4_firstAfter at hf
  refine CM_of_E rfl rfl (by decide +kernel) rfl (Nat.le_of_ble_eq_true rfl) hl ?_
  refine E_iload_n 1 2 dX4_firstAfter_0 rfl rfl rfl ?_
  refine E_istore_n 2 [(3, .int a2), (0, .ref (gaC g 3)), (1, .int a1), (2, .int a2)] dX4_firstAfter_1 rfl (by decide) rfl rfl ?_
  refine E_sub [1, 2, 0] rfl ?_
  refine l_X4_firstAfter_L2 hl (fun y4 hf => ?_) _ _ hf
  · refine E_iload_n 27 0 dX4_firstAfter_26 rfl rfl rfl ?_
    cases hf
    exact E_iret dX4_firstAfter_27 rfl (Nat.le_of_ble_eq_true rfl) (Nat.le_of_ble_eq_true rfl)
set_option maxRecDepth 100000 in
set_option maxHeartbeats 4000000 in
theorem c_X7_hasBit {l : Launch} {g : Gt} (hl : l.stackTraces = false) {a0 : Int32} {a1 : Int32} {μ : Mm} {ν : Mm} {o : Nat → Int64} {dd : Nat → UInt64} {res : Int32} (hf : f_X7_hasBit a0 a1 = some res) : CM l g z_X7_hasBit yX7_hasBit [.int a0, .int a1] (μ, ν, o, dd) 0 (.inl (some (.int res))) (μ, ν, o, dd) := by
  unfold f_X7_hasBit at hf
  refine CM_of_E rfl rfl (by decide +kernel) rfl (Nat.le_of_ble_eq_true rfl) hl ?_
  refine E_iload_n 1 0 dX7_hasBit_0 rfl rfl rfl ?_
  refine E_iload_n 2 1 dX7_hasBit_1 rfl rfl rfl ?_
  refine E_ishr 3 dX7_hasBit_2 rfl ?_
  refine E_iconst 4 1 dX7_hasBit_3 cst_iconst1 rfl ?_
  refine E_iand 5 dX7_hasBit_4 rfl ?_
  refine E_if_eq 12 8 dX7_hasBit_5 (by decide) rfl (fun c1 => ?_) (fun c1 => ?_)
  · have hf := ite_t c1 hf
    refine E_iconst 13 0 dX7_hasBit_12 cst_iconst0 rfl ?_
    cases hf
    exact E_zret (v := 0) rfl dX7_hasBit_13 rfl (Nat.le_of_ble_eq_true rfl) (Nat.le_of_ble_eq_true rfl)
  · have hf := ite_e c1 hf
    refine E_iconst 9 1 dX7_hasBit_8 cst_iconst1 rfl ?_
    refine E_goto 13 dX7_hasBit_9 (by decide) ?_
    cases hf
    exact E_zret (v := 1) rfl dX7_hasBit_13 rfl (Nat.le_of_ble_eq_true rfl) (Nat.le_of_ble_eq_true rfl)
set_option maxRecDepth 100000 in
set_option maxHeartbeats 4000000 in
theorem c_X7_withBit {l : Launch} {g : Gt} (hl : l.stackTraces = false) {a0 : Int32} {a1 : Int32} {a2 : Int32} {μ : Mm} {ν : Mm} {o : Nat → Int64} {dd : Nat → UInt64} {res : Int32} (hf : f_X7_withBit a0 a1 a2 = some res) : CM l g z_X7_withBit yX7_withBit [.int a0, .int a1, .int a2] (μ, ν, o, dd) 0 (.inl (some (.int res))) (μ, ν, o, dd) := by
  unfold f_X7_withBit at hf
  refine CM_of_E rfl rfl (by decide +kernel) rfl (Nat.le_of_ble_eq_true rfl) hl ?_
  refine E_iload_n 1 2 dX7_withBit_0 rfl rfl rfl ?_
  refine E_if_eq 12 4 dX7_withBit_1 (by decide) rfl (fun c1 => ?_) (fun c1 => ?_)
  · have hf := ite_t c1 hf
    refine E_iload_n 13 0 dX7_withBit_12 rfl rfl rfl ?_
    refine E_iconst 14 1 dX7_withBit_13 cst_iconst1 rfl ?_
    refine E_iload_n 15 1 dX7_withBit_14 rfl rfl rfl ?_
    refine E_ishl 16 dX7_withBit_15 rfl ?_
    refine E_iconst 17 (-1) dX7_withBit_16 cst_iconstn1 rfl ?_
    refine E_ixor 18 dX7_withBit_17 rfl ?_
    refine E_iand 19 dX7_withBit_18 rfl ?_
    cases hf
    exact E_iret dX7_withBit_19 rfl (Nat.le_of_ble_eq_true rfl) (Nat.le_of_ble_eq_true rfl)
  · have hf := ite_e c1 hf
    refine E_iload_n 5 0 dX7_withBit_4 rfl rfl rfl ?_
    refine E_iconst 6 1 dX7_withBit_5 cst_iconst1 rfl ?_
    refine E_iload_n 7 1 dX7_withBit_6 rfl rfl rfl ?_
    refine E_ishl 8 dX7_withBit_7 rfl ?_
    refine E_ior 9 dX7_withBit_8 rfl ?_
    refine E_goto 19 dX7_withBit_9 (by decide) ?_
    cases hf
    exact E_iret dX7_withBit_19 rfl (Nat.le_of_ble_eq_true rfl) (Nat.le_of_ble_eq_true rfl)
set_option maxRecDepth 100000 in
set_option maxHeartbeats 4000000 in
theorem l_X4_receiversFrom_L6 {l : Launch} {g : Gt} (hl : l.stackTraces = false) {μ : Mm} {ν : Mm} {o : Nat → Int64} {dd : Nat → UInt64}  {x1 : Int32} {x3 : Int32} {res : Int32} : ∀ (n : Nat) (x4 : Int32) (x5 : Int32) , f_X4_receiversFrom_L6 x1 x3 μ n x4 x5 = some res → E l g z_X4_receiversFrom 6 [(0, .ref (gaC g 3)), (1, .int x1), (3, .int x3), (4, .int x4), (5, .int x5)] [] (μ, ν, o, dd) 0 (QM g (.inl (some (.int res))) (μ, ν, o, dd) 0) := by
  intro n
  induction n with
  | zero => intro x4 x5 hf; cases hf
  | succ n ih =>
    intro x4 x5 hf
    refine E_iload 8 4 dX4_receiversFrom_6 rfl rfl ?_
    refine E_iload_n 9 2 dX4_receiversFrom_8 rfl rfl rfl ?_
    refine E_icmp_ge 44 12 dX4_receiversFrom_9 (by decide) rfl (fun c1 => ?_) (fun c1 => ?_)
    · have hf := ite_t c1 hf
      refine E_iload 46 3 dX4_receiversFrom_44 rfl rfl ?_
      cases hf
      exact E_iret dX4_receiversFrom_46 rfl (Nat.le_of_ble_eq_true rfl) (Nat.le_of_ble_eq_true rfl)
    · have hf := ite_e c1 hf
      refine E_aload_n 13 0 dX4_receiversFrom_12 rfl rfl rfl ?_
      refine E_getCr 16 fg_X4_9 dX4_receiversFrom_13 rfl ?_
      refine E_iload 18 4 dX4_receiversFrom_16 rfl rfl ?_
      obtain ⟨h2, hf⟩ := chk_some hf
      refine E_ialdC 19 (k := 10) (n := 200) rfl (by decide) h2 dX4_receiversFrom_18 rfl ?_
      refine E_iload_n 20 1 dX4_receiversFrom_19 rfl rfl rfl ?_
      refine E_icmp_ne 38 23 dX4_receiversFrom_20 (by decide) rfl (fun c3 => ?_) (fun c3 => ?_)
      · have hf := ite_e c3 hf
        refine E_iinc 41 [(5, .int (x5 + 1)), (0, .ref (gaC g 3)), (1, .int x1), (3, .int x3), (4, .int x4)] 4 (v := x5 + 1) dX4_receiversFrom_38 rfl (by rw [cst_iconst1]) (by decide) rfl rfl ?_
        refine E_goto 6 dX4_receiversFrom_41 (by decide) ?_
        refine E_sub [1, 2, 3, 4, 0] rfl ?_
        exact ih x4 (x5 + 1) hf
      · have hf := ite_t c3 hf
        refine E_iload 25 3 dX4_receiversFrom_23 rfl rfl ?_
        refine E_aload_n 26 0 dX4_receiversFrom_25 rfl rfl rfl ?_
        refine E_getCr 29 fg_X4_15 dX4_receiversFrom_26 rfl ?_
        refine E_iload 31 4 dX4_receiversFrom_29 rfl rfl ?_
        obtain ⟨h4, hf⟩ := chk_some hf
        refine E_ialdC 32 (k := 11) (n := 200) rfl (by decide) h4 dX4_receiversFrom_31 rfl ?_
        refine E_iconst 33 1 dX4_receiversFrom_32 cst_iconst1 rfl ?_
        obtain ⟨r5, hc6, hf⟩ := bnd hf
        refine E_callSN1 36 0 [] [.int r5] (c_X7_withBit hl hc6) my_X7_withBit kl_X4_28 rfl rfl (Nat.le_of_ble_eq_true rfl) (rmok rfl) dX4_receiversFrom_33 rfl rfl rfl ?_
        refine E_istore 38 [(4, .int r5), (0, .ref (gaC g 3)), (1, .int x1), (3, .int x3), (5, .int x5)] dX4_receiversFrom_36 (by decide) rfl rfl ?_
        refine E_iinc 41 [(5, .int (x5 + 1)), (4, .int r5), (0, .ref (gaC g 3)), (1, .int x1), (3, .int x3)] 4 (v := x5 + 1) dX4_receiversFrom_38 rfl (by rw [cst_iconst1]) (by decide) rfl rfl ?_
        refine E_goto 6 dX4_receiversFrom_41 (by decide) ?_
        refine E_sub [2, 3, 4, 1, 0] rfl ?_
        exact ih r5 (x5 + 1) hf
set_option maxRecDepth 100000 in
set_option maxHeartbeats 4000000 in
theorem c_X4_receiversFrom {l : Launch} {g : Gt} (hl : l.stackTraces = false) {a1 : Int32} {a2 : Int32} {a3 : Int32} {μ : Mm} {ν : Mm} {o : Nat → Int64} {dd : Nat → UInt64} {res : Int32} (hf : f_X4_receiversFrom a1 a2 a3 μ = some res) : CM l g z_X4_receiversFrom yX4_receiversFrom [.ref (gaC g 3), .int a1, .int a2, .int a3] (μ, ν, o, dd) 0 (.inl (some (.int res))) (μ, ν, o, dd) := by
  unfold f_X4_receiversFrom at hf
  refine CM_of_E rfl rfl (by decide +kernel) rfl (Nat.le_of_ble_eq_true rfl) hl ?_
  refine E_iconst 1 0 dX4_receiversFrom_0 cst_iconst0 rfl ?_
  refine E_istore 3 [(4, .int 0), (0, .ref (gaC g 3)), (1, .int a1), (2, .int a2), (3, .int a3)] dX4_receiversFrom_1 (by decide) rfl rfl ?_
  refine E_iload_n 4 3 dX4_receiversFrom_3 rfl rfl rfl ?_
  refine E_istore 6 [(5, .int a2), (4, .int 0), (0, .ref (gaC g 3)), (1, .int a1), (2, .int a2), (3, .int a3)] dX4_receiversFrom_4 (by decide) rfl rfl ?_
  refine E_sub [2, 3, 5, 1, 0] rfl ?_
  refine l_X4_receiversFrom_L6 hl  _ _ _ hf
set_option maxRecDepth 100000 in
set_option maxHeartbeats 4000000 in
theorem l_X4_sumOf_10_L6 {l : Launch} {g : Gt} (hl : l.stackTraces = false) {μ : Mm} {ν : Mm} {o : Nat → Int64} {dd : Nat → UInt64}  {x2 : Int32} {x4 : Int32} {res : Int32} : ∀ (n : Nat) (x5 : Int32) (x6 : Int32) , f_X4_sumOf_10_L6 x2 x4 μ n x5 x6 = some res → E l g z_X4_sumOf 6 [(0, .ref (gaC g 3)), (1, .ref (gaC g 10)), (2, .int x2), (4, .int x4), (5, .int x5), (6, .int x6)] [] (μ, ν, o, dd) 0 (QM g (.inl (some (.int res))) (μ, ν, o, dd) 0) := by
  intro n
  induction n with
  | zero => intro x5 x6 hf; cases hf
  | succ n ih =>
    intro x5 x6 hf
    refine E_iload 8 5 dX4_sumOf_6 rfl rfl ?_
    refine E_iload 10 3 dX4_sumOf_8 rfl rfl ?_
    refine E_icmp_ge 39 13 dX4_sumOf_10 (by decide) rfl (fun c1 => ?_) (fun c1 => ?_)
    · have hf := ite_t c1 hf
      refine E_iload 41 4 dX4_sumOf_39 rfl rfl ?_
      cases hf
      exact E_iret dX4_sumOf_41 rfl (Nat.le_of_ble_eq_true rfl) (Nat.le_of_ble_eq_true rfl)
    · have hf := ite_e c1 hf
      refine E_aload_n 14 1 dX4_sumOf_13 rfl rfl rfl ?_
      refine E_iload 16 5 dX4_sumOf_14 rfl rfl ?_
      obtain ⟨h2, hf⟩ := chk_some hf
      refine E_ialdC 17 (k := 10) (n := 200) rfl (by decide) h2 dX4_sumOf_16 rfl ?_
      refine E_iload_n 18 2 dX4_sumOf_17 rfl rfl rfl ?_
      refine E_icmp_ne 33 21 dX4_sumOf_18 (by decide) rfl (fun c3 => ?_) (fun c3 => ?_)
      · have hf := ite_e c3 hf
        refine E_iinc 36 [(6, .int (x6 + 1)), (0, .ref (gaC g 3)), (1, .ref (gaC g 10)), (2, .int x2), (4, .int x4), (5, .int x5)] 5 (v := x6 + 1) dX4_sumOf_33 rfl (by rw [cst_iconst1]) (by decide) rfl rfl ?_
        refine E_goto 6 dX4_sumOf_36 (by decide) ?_
        refine E_sub [1, 2, 3, 4, 5, 0] rfl ?_
        exact ih x5 (x6 + 1) hf
      · have hf := ite_t c3 hf
        refine E_iload 23 4 dX4_sumOf_21 rfl rfl ?_
        refine E_aload_n 24 0 dX4_sumOf_23 rfl rfl rfl ?_
        refine E_getCr 27 fg_X4_18 dX4_sumOf_24 rfl ?_
        refine E_iload 29 5 dX4_sumOf_27 rfl rfl ?_
        obtain ⟨h4, hf⟩ := chk_some hf
        refine E_ialdC 30 (k := 12) (n := 200) rfl (by decide) h4 dX4_sumOf_29 rfl ?_
        refine E_iadd 31 dX4_sumOf_30 rfl ?_
        refine E_istore 33 [(5, .int (x5 + (μ 12 x6.toNatClampNeg))), (0, .ref (gaC g 3)), (1, .ref (gaC g 10)), (2, .int x2), (4, .int x4), (6, .int x6)] dX4_sumOf_31 (by decide) rfl rfl ?_
        refine E_iinc 36 [(6, .int (x6 + 1)), (5, .int (x5 + (μ 12 x6.toNatClampNeg))), (0, .ref (gaC g 3)), (1, .ref (gaC g 10)), (2, .int x2), (4, .int x4)] 5 (v := x6 + 1) dX4_sumOf_33 rfl (by rw [cst_iconst1]) (by decide) rfl rfl ?_
        refine E_goto 6 dX4_sumOf_36 (by decide) ?_
        refine E_sub [2, 3, 4, 5, 1, 0] rfl ?_
        exact ih (x5 + (μ 12 x6.toNatClampNeg)) (x6 + 1) hf
set_option maxRecDepth 100000 in
set_option maxHeartbeats 4000000 in
theorem c_X4_sumOf_10 {l : Launch} {g : Gt} (hl : l.stackTraces = false) {a2 : Int32} {a3 : Int32} {a4 : Int32} {μ : Mm} {ν : Mm} {o : Nat → Int64} {dd : Nat → UInt64} {res : Int32} (hf : f_X4_sumOf_10 a2 a3 a4 μ = some res) : CM l g z_X4_sumOf yX4_sumOf [.ref (gaC g 3), .ref (gaC g 10), .int a2, .int a3, .int a4] (μ, ν, o, dd) 0 (.inl (some (.int res))) (μ, ν, o, dd) := by
  unfold f_X4_sumOf_10 at hf
  refine CM_of_E rfl rfl (by decide +kernel) rfl (Nat.le_of_ble_eq_true rfl) hl ?_
  refine E_iconst 1 0 dX4_sumOf_0 cst_iconst0 rfl ?_
  refine E_istore 3 [(5, .int 0), (0, .ref (gaC g 3)), (1, .ref (gaC g 10)), (2, .int a2), (3, .int a3), (4, .int a4)] dX4_sumOf_1 (by decide) rfl rfl ?_
  refine E_iload_n 4 4 dX4_sumOf_3 rfl rfl rfl ?_
  refine E_istore 6 [(6, .int a3), (5, .int 0), (0, .ref (gaC g 3)), (1, .ref (gaC g 10)), (2, .int a2), (3, .int a3), (4, .int a4)] dX4_sumOf_4 (by decide) rfl rfl ?_
  refine E_sub [2, 3, 4, 6, 1, 0] rfl ?_
  refine l_X4_sumOf_10_L6 hl  _ _ _ hf
set_option maxRecDepth 100000 in
set_option maxHeartbeats 4000000 in
theorem c_X1_keptSum {l : Launch} {g : Gt} (hl : l.stackTraces = false) {a1 : Int32} {a2 : Int32} {μ : Mm} {ν : Mm} {o : Nat → Int64} {dd : Nat → UInt64} {res : Int32} (hf : f_X1_keptSum a1 a2 μ = some res) : CM l g z_X1_keptSum yX1_keptSum [.ref (gaC g 1), .int a1, .int a2] (μ, ν, o, dd) 0 (.inl (some (.int res))) (μ, ν, o, dd) := by
  unfold f_X1_keptSum at hf
  refine CM_of_E rfl rfl (by decide +kernel) rfl (Nat.le_of_ble_eq_true rfl) hl ?_
  refine E_aload_n 1 0 dX1_keptSum_0 rfl rfl rfl ?_
  refine E_getCr 4 fg_X1_21 dX1_keptSum_1 rfl ?_
  refine E_aload_n 5 0 dX1_keptSum_4 rfl rfl rfl ?_
  refine E_getC 8 fg_X1_36 dX1_keptSum_5 rfl ?_
  refine E_iload_n 9 2 dX1_keptSum_8 rfl rfl rfl ?_
  refine E_isub 10 dX1_keptSum_9 rfl ?_
  refine E_aload_n 11 0 dX1_keptSum_10 rfl rfl rfl ?_
  refine E_getC 14 fg_X1_40 dX1_keptSum_11 rfl ?_
  obtain ⟨r1, hc2, hf⟩ := bnd hf
  refine E_callVC1 17 0 [] [.int r1] (c_X4_firstAfter hl hc2) my_X4_firstAfter rc_X4 kl_X1_43 rfl rfl (Nat.le_of_ble_eq_true rfl) (rmok rfl) dX1_keptSum_14 rfl rfl rfl ?_
  refine E_istore_n 18 [(3, .int r1), (0, .ref (gaC g 1)), (1, .int a1), (2, .int a2)] dX1_keptSum_17 rfl (by decide) rfl rfl ?_
  refine E_aload_n 19 1 dX1_keptSum_18 rfl rfl rfl ?_
  refine E_getCr 22 fg_X1_21 dX1_keptSum_19 rfl ?_
  refine E_aload_n 23 1 dX1_keptSum_22 rfl rfl rfl ?_
  refine E_getCr 26 fg_X1_21 dX1_keptSum_23 rfl ?_
  refine E_getCrN 29 fg_X1_47 dX1_keptSum_26 rfl ?_
  refine E_iload_n 30 2 dX1_keptSum_29 rfl rfl rfl ?_
  refine E_iload_n 31 0 dX1_keptSum_30 rfl rfl rfl ?_
  refine E_aload_n 32 1 dX1_keptSum_31 rfl rfl rfl ?_
  refine E_getCr 35 fg_X1_21 dX1_keptSum_32 rfl ?_
  refine E_getCN 38 fg_X1_51 dX1_keptSum_35 rfl ?_
  obtain ⟨r3, hc4, hf⟩ := bnd hf
  refine E_callVC1 41 0 [] [.int r3] (c_X4_sumOf_10 hl hc4) my_X4_sumOf rc_X4 kl_X1_54 rfl rfl (Nat.le_of_ble_eq_true rfl) (rmok rfl) dX1_keptSum_38 rfl rfl rfl ?_
  cases hf
  exact E_iret dX1_keptSum_41 rfl (Nat.le_of_ble_eq_true rfl) (Nat.le_of_ble_eq_true rfl)
set_option maxRecDepth 100000 in
set_option maxHeartbeats 4000000 in
theorem l_X5_load_3_L3 {l : Launch} {g : Gt} (hl : l.stackTraces = false) {ν : Mm} {o : Nat → Int64} {dd : Nat → UInt64} {kx32 : (Mm → Option (Mm))} {x2 : Int32} {x3 : Int32} {res : Mm} (hx32 : ∀  (μ' : Mm), kx32 μ' = some res → E l g z_X5_load 32 [(0, .ref (gaC g 4)), (1, .ref (gaC g 3)), (2, .int x2), (3, .int x3)] [] (μ', ν, o, dd) 0 (QM g (.inl none) (res, ν, o, dd) 0)) : ∀ (n : Nat) (x4 : Int32) (μ : Mm), f_X5_load_3_L3 kx32 x2 x3 n x4 μ = some res → E l g z_X5_load 3 [(0, .ref (gaC g 4)), (1, .ref (gaC g 3)), (2, .int x2), (3, .int x3), (4, .int x4)] [] (μ, ν, o, dd) 0 (QM g (.inl none) (res, ν, o, dd) 0) := by
  intro n
  induction n with
  | zero => intro x4 μ hf; cases hf
  | succ n ih =>
    intro x4 μ hf
    refine E_iload 5 4 dX5_load_3 rfl rfl ?_
    refine E_bipush 7 20 dX5_load_5 cst_bipush20 rfl ?_
    refine E_icmp_ge 32 10 dX5_load_7 (by decide) rfl (fun c1 => ?_) (fun c1 => ?_)
    · have hf := ite_t c1 hf
      refine E_sub [0, 1, 2, 3] rfl ?_
      exact hx32 μ hf
    · have hf := ite_e c1 hf
      refine E_aload_n 11 0 dX5_load_10 rfl rfl rfl ?_
      refine E_getCr 14 fg_X5_9 dX5_load_11 rfl ?_
      refine E_iload 16 4 dX5_load_14 rfl rfl ?_
      refine E_iconst 17 0 dX5_load_16 cst_iconst0 rfl ?_
      obtain ⟨h2, hf⟩ := chk_some hf
      refine E_iastC 18 (k := 14) (n := 20) rfl (by decide) h2 dX5_load_17 rfl ?_
      refine E_aload_n 19 0 dX5_load_18 rfl rfl rfl ?_
      refine E_getCr 22 fg_X5_15 dX5_load_19 rfl ?_
      refine E_iload 24 4 dX5_load_22 rfl rfl ?_
      refine E_iconst 25 0 dX5_load_24 cst_iconst0 rfl ?_
      obtain ⟨h3, hf⟩ := chk_some hf
      refine E_iastC 26 (k := 15) (n := 20) rfl (by decide) h3 dX5_load_25 rfl ?_
      refine E_iinc 29 [(4, .int (x4 + 1)), (0, .ref (gaC g 4)), (1, .ref (gaC g 3)), (2, .int x2), (3, .int x3)] 4 (v := x4 + 1) dX5_load_26 rfl (by rw [cst_iconst1]) (by decide) rfl rfl ?_
      refine E_goto 3 dX5_load_29 (by decide) ?_
      refine E_sub [1, 2, 3, 4, 0] rfl ?_
      exact ih (x4 + 1) (up2 (up2 μ 14 x4.toNatClampNeg 0) 15 x4.toNatClampNeg 0) hf
set_option maxRecDepth 100000 in
set_option maxHeartbeats 4000000 in
theorem l_X5_load_3_L35 {l : Launch} {g : Gt} (hl : l.stackTraces = false) {ν : Mm} {o : Nat → Int64} {dd : Nat → UInt64}  {x3 : Int32} {res : Mm} : ∀ (n : Nat) (x4 : Int32) (μ : Mm), f_X5_load_3_L35 x3 n x4 μ = some res → E l g z_X5_load 35 [(0, .ref (gaC g 4)), (1, .ref (gaC g 3)), (3, .int x3), (4, .int x4)] [] (μ, ν, o, dd) 0 (QM g (.inl none) (res, ν, o, dd) 0) := by
  intro n
  induction n with
  | zero => intro x4 μ hf; cases hf
  | succ n ih =>
    intro x4 μ hf
    refine E_iload 37 3 dX5_load_35 rfl rfl ?_
    refine E_iload_n 38 2 dX5_load_37 rfl rfl rfl ?_
    refine E_icmp_ge 125 41 dX5_load_38 (by decide) rfl (fun c5 => ?_) (fun c5 => ?_)
    · have hf := ite_t c5 hf
      cases hf
      exact E_vret dX5_load_125 rfl (Nat.le_of_ble_eq_true rfl) (Nat.le_of_ble_eq_true rfl)
    · have hf := ite_e c5 hf
      refine E_aload_n 42 1 dX5_load_41 rfl rfl rfl ?_
      refine E_getCrN 45 fg_X5_18 dX5_load_42 rfl ?_
      refine E_iload 47 3 dX5_load_45 rfl rfl ?_
      obtain ⟨h6, hf⟩ := chk_some hf
      refine E_ialdC 48 (k := 10) (n := 200) rfl (by decide) h6 dX5_load_47 rfl ?_
      refine E_istore 50 [(5, .int (μ 10 x4.toNatClampNeg)), (0, .ref (gaC g 4)), (1, .ref (gaC g 3)), (3, .int x3), (4, .int x4)] dX5_load_48 (by decide) rfl rfl ?_
      refine E_aload_n 51 2 dX5_load_50 rfl rfl rfl ?_
      refine E_getCrN 54 fg_X5_23 dX5_load_51 rfl ?_
      refine E_iload 56 4 dX5_load_54 rfl rfl ?_
      obtain ⟨h7, hf⟩ := chk_some hf
      refine E_ialdC 57 (k := 11) (n := 200) rfl (by decide) h7 dX5_load_56 rfl ?_
      refine E_istore 59 [(6, .int (μ 11 x4.toNatClampNeg)), (5, .int (μ 10 x4.toNatClampNeg)), (0, .ref (gaC g 4)), (1, .ref (gaC g 3)), (3, .int x3), (4, .int x4)] dX5_load_57 (by decide) rfl rfl ?_
      refine E_aload_n 60 2 dX5_load_59 rfl rfl rfl ?_
      refine E_getCr 63 fg_X5_9 dX5_load_60 rfl ?_
      refine E_iload 65 1 dX5_load_63 rfl rfl ?_
      refine E_aload_n 66 2 dX5_load_65 rfl rfl rfl ?_
      refine E_getCr 69 fg_X5_9 dX5_load_66 rfl ?_
      refine E_iload 71 1 dX5_load_69 rfl rfl ?_
      obtain ⟨h8, hf⟩ := chk_some hf
      refine E_ialdC 72 (k := 14) (n := 20) rfl (by decide) h8 dX5_load_71 rfl ?_
      refine E_iload 74 0 dX5_load_72 rfl rfl ?_
      refine E_iconst 75 1 dX5_load_74 cst_iconst1 rfl ?_
      obtain ⟨r9, hc10, hf⟩ := bnd hf
      refine E_callSN1 78 0 [.int (μ 10 x4.toNatClampNeg), .ref (gaC g 14)] [.int r9, .int (μ 10 x4.toNatClampNeg), .ref (gaC g 14)] (c_X7_withBit hl hc10) my_X7_withBit kl_X5_26 rfl rfl (Nat.le_of_ble_eq_true rfl) (rmok rfl) dX5_load_75 rfl rfl rfl ?_
      obtain ⟨h11, hf⟩ := chk_some hf
      refine E_iastC 79 (k := 14) (n := 20) rfl (by decide) h11 dX5_load_78 rfl ?_
      refine E_aload_n 80 2 dX5_load_79 rfl rfl rfl ?_
      refine E_getCr 83 fg_X5_15 dX5_load_80 rfl ?_
      refine E_iload 85 1 dX5_load_83 rfl rfl ?_
      refine E_aload_n 86 2 dX5_load_85 rfl rfl rfl ?_
      refine E_getCr 89 fg_X5_15 dX5_load_86 rfl ?_
      refine E_iload 91 1 dX5_load_89 rfl rfl ?_
      obtain ⟨h12, hf⟩ := chk_some hf
      refine E_ialdC 92 (k := 15) (n := 20) rfl (by decide) h12 dX5_load_91 rfl ?_
      refine E_iload 94 0 dX5_load_92 rfl rfl ?_
      refine E_iconst 95 1 dX5_load_94 cst_iconst1 rfl ?_
      obtain ⟨r13, hc14, hf⟩ := bnd hf
      refine E_callSN1 98 0 [.int (μ 10 x4.toNatClampNeg), .ref (gaC g 15)] [.int r13, .int (μ 10 x4.toNatClampNeg), .ref (gaC g 15)] (c_X7_withBit hl hc14) my_X7_withBit kl_X5_26 rfl rfl (Nat.le_of_ble_eq_true rfl) (rmok rfl) dX5_load_95 rfl rfl rfl ?_
      obtain ⟨h15, hf⟩ := chk_some hf
      refine E_iastC 99 (k := 15) (n := 20) rfl (by decide) h15 dX5_load_98 rfl ?_
      refine E_aload_n 100 2 dX5_load_99 rfl rfl rfl ?_
      refine E_getCr 103 fg_X5_15 dX5_load_100 rfl ?_
      refine E_iload 105 0 dX5_load_103 rfl rfl ?_
      refine E_aload_n 106 2 dX5_load_105 rfl rfl rfl ?_
      refine E_getCr 109 fg_X5_15 dX5_load_106 rfl ?_
      refine E_iload 111 0 dX5_load_109 rfl rfl ?_
      obtain ⟨h16, hf⟩ := chk_some hf
      refine E_ialdC 112 (k := 15) (n := 20) rfl (by decide) h16 dX5_load_111 rfl ?_
      refine E_iload 114 1 dX5_load_112 rfl rfl ?_
      refine E_iconst 115 1 dX5_load_114 cst_iconst1 rfl ?_
      obtain ⟨r17, hc18, hf⟩ := bnd hf
      refine E_callSN1 118 0 [.int (μ 11 x4.toNatClampNeg), .ref (gaC g 15)] [.int r17, .int (μ 11 x4.toNatClampNeg), .ref (gaC g 15)] (c_X7_withBit hl hc18) my_X7_withBit kl_X5_26 rfl rfl (Nat.le_of_ble_eq_true rfl) (rmok rfl) dX5_load_115 rfl rfl rfl ?_
      obtain ⟨h19, hf⟩ := chk_some hf
      refine E_iastC 119 (k := 15) (n := 20) rfl (by decide) h19 dX5_load_118 rfl ?_
      refine E_iinc 122 [(4, .int (x4 + 1)), (6, .int (μ 11 x4.toNatClampNeg)), (5, .int (μ 10 x4.toNatClampNeg)), (0, .ref (gaC g 4)), (1, .ref (gaC g 3)), (3, .int x3)] 5 (v := x4 + 1) dX5_load_119 rfl (by rw [cst_iconst1]) (by decide) rfl rfl ?_
      refine E_goto 35 dX5_load_122 (by decide) ?_
      refine E_sub [3, 4, 5, 0] rfl ?_
      exact ih (x4 + 1) (up2 (up2 (up2 μ 14 (μ 10 x4.toNatClampNeg).toNatClampNeg r9) 15 (μ 10 x4.toNatClampNeg).toNatClampNeg r13) 15 (μ 11 x4.toNatClampNeg).toNatClampNeg r17) hf
set_option maxRecDepth 100000 in
set_option maxHeartbeats 4000000 in
theorem c_X5_load_3 {l : Launch} {g : Gt} (hl : l.stackTraces = false) {a2 : Int32} {a3 : Int32} {μ : Mm} {ν : Mm} {o : Nat → Int64} {dd : Nat → UInt64} {res : Mm} (hf : f_X5_load_3 a2 a3 μ = some res) : CM l g z_X5_load yX5_load [.ref (gaC g 4), .ref (gaC g 3), .int a2, .int a3] (μ, ν, o, dd) 0 (.inl none) (res, ν, o, dd) := by
  unfold f_X5_load_3 at hf
  refine CM_of_E rfl rfl (by decide +kernel) rfl (Nat.le_of_ble_eq_true rfl) hl ?_
  refine E_iconst 1 0 dX5_load_0 cst_iconst0 rfl ?_
  refine E_istore 3 [(4, .int 0), (0, .ref (gaC g 4)), (1, .ref (gaC g 3)), (2, .int a2), (3, .int a3)] dX5_load_1 (by decide) rfl rfl ?_
  refine E_sub [1, 2, 3, 4, 0] rfl ?_
  refine l_X5_load_3_L3 hl (fun m4 hf => ?_) _ _ _ hf
  · refine E_iload_n 33 2 dX5_load_32 rfl rfl rfl ?_
    refine E_istore 35 [(4, .int a2), (0, .ref (gaC g 4)), (1, .ref (gaC g 3)), (2, .int a2), (3, .int a3)] dX5_load_33 (by decide) rfl rfl ?_
    refine E_sub [1, 2, 4, 0] rfl ?_
    refine l_X5_load_3_L35 hl  _ _ _ hf
set_option maxRecDepth 100000 in
set_option maxHeartbeats 4000000 in
theorem c_X1_networkOf {l : Launch} {g : Gt} (hl : l.stackTraces = false) {a1 : Int32} {a2 : Int32} {μ : Mm} {ν : Mm} {o : Nat → Int64} {dd : Nat → UInt64} {res : Mm} (hf : f_X1_networkOf a1 a2 μ = some res) : CM l g z_X1_networkOf yX1_networkOf [.ref (gaC g 1), .int a1, .int a2] (μ, ν, o, dd) 0 (.inl (some (.ref (gaC g 4)))) (res, ν, o, dd) := by
  unfold f_X1_networkOf at hf
  refine CM_of_E rfl rfl (by decide +kernel) rfl (Nat.le_of_ble_eq_true rfl) hl ?_
  refine E_aload_n 1 0 dX1_networkOf_0 rfl rfl rfl ?_
  refine E_getCr 4 fg_X1_28 dX1_networkOf_1 rfl ?_
  refine E_aload_n 5 0 dX1_networkOf_4 rfl rfl rfl ?_
  refine E_getCr 8 fg_X1_21 dX1_networkOf_5 rfl ?_
  refine E_iload_n 9 1 dX1_networkOf_8 rfl rfl rfl ?_
  refine E_iload_n 10 2 dX1_networkOf_9 rfl rfl rfl ?_
  obtain ⟨r1, hc2, hf⟩ := bnd hf
  refine E_callVC1 13 0 [] [] (c_X5_load_3 hl hc2) my_X5_load rc_X5 kl_X1_68 rfl rfl (Nat.le_of_ble_eq_true rfl) (rmok rfl) dX1_networkOf_10 rfl rfl rfl ?_
  refine E_aload_n 14 0 dX1_networkOf_13 rfl rfl rfl ?_
  refine E_getCr 17 fg_X1_28 dX1_networkOf_14 rfl ?_
  cases hf
  exact E_aret dX1_networkOf_17 rfl (Or.inl ⟨_, rfl⟩) (Nat.le_of_ble_eq_true rfl) (Nat.le_of_ble_eq_true rfl)
set_option maxRecDepth 100000 in
set_option maxHeartbeats 4000000 in
theorem c_X7_requireAccount {l : Launch} {g : Gt} (hl : l.stackTraces = false) {a1 : Int32} {μ : Mm} {ν : Mm} {o : Nat → Int64} {dd : Nat → UInt64} {res : Nat} (hf : f_X7_requireAccount a1 μ = some res) : CM l g z_X7_requireAccount yX7_requireAccount [.ref (gaC g 0), .int a1] (μ, ν, o, dd) 1 (oc3 res none) (μ, ν, o, dd) := by
  unfold f_X7_requireAccount at hf
  refine CM_of_E rfl rfl (by decide +kernel) rfl (Nat.le_of_ble_eq_true rfl) hl ?_
  refine E_iload_n 1 1 dX7_requireAccount_0 rfl rfl rfl ?_
  refine E_if_lt 18 4 dX7_requireAccount_1 (by decide) rfl (fun c1 => ?_) (fun c1 => ?_)
  · have hf := ite_t c1 hf
    cases hf
    exact E_throwW th_X7_257_261 tx_332 rfl dX7_requireAccount_18 dX7_requireAccount_21 dX7_requireAccount_22 dX7_requireAccount_25 dX7_requireAccount_28 (Nat.le_of_ble_eq_true rfl) (Nat.le_of_ble_eq_true rfl) (Nat.le_of_ble_eq_true rfl) (Nat.le_of_ble_eq_true rfl) (Nat.le_of_ble_eq_true rfl) (Nat.le_of_ble_eq_true rfl)
  · have hf := ite_e c1 hf
    refine E_iload_n 5 1 dX7_requireAccount_4 rfl rfl rfl ?_
    refine E_aload_n 6 0 dX7_requireAccount_5 rfl rfl rfl ?_
    refine E_getCr 9 fg_X7_10 dX7_requireAccount_6 rfl ?_
    refine E_getCrN 12 fg_X7_48 dX7_requireAccount_9 rfl ?_
    refine E_getCN 15 fg_X7_52 dX7_requireAccount_12 rfl ?_
    refine E_icmp_lt 29 18 dX7_requireAccount_15 (by decide) rfl (fun c2 => ?_) (fun c2 => ?_)
    · have hf := ite_t c2 hf
      cases hf
      exact E_vret dX7_requireAccount_29 rfl (Nat.le_of_ble_eq_true rfl) (Nat.le_of_ble_eq_true rfl)
    · have hf := ite_e c2 hf
      cases hf
      exact E_throwW th_X7_257_261 tx_332 rfl dX7_requireAccount_18 dX7_requireAccount_21 dX7_requireAccount_22 dX7_requireAccount_25 dX7_requireAccount_28 (Nat.le_of_ble_eq_true rfl) (Nat.le_of_ble_eq_true rfl) (Nat.le_of_ble_eq_true rfl) (Nat.le_of_ble_eq_true rfl) (Nat.le_of_ble_eq_true rfl) (Nat.le_of_ble_eq_true rfl)
set_option maxRecDepth 100000 in
set_option maxHeartbeats 4000000 in
theorem c_X7_isMarked {l : Launch} {g : Gt} (hl : l.stackTraces = false) {a1 : Int32} {μ : Mm} {ν : Mm} {o : Nat → Int64} {dd : Nat → UInt64} {res : Nat × Int32} (hf : f_X7_isMarked a1 μ = some res) : CM l g z_X7_isMarked yX7_isMarked [.ref (gaC g 0), .int a1] (μ, ν, o, dd) 1 (oc3 res.1 (some (.int res.2))) (μ, ν, o, dd) := by
  unfold f_X7_isMarked at hf
  refine CM_of_E rfl rfl (by decide +kernel) rfl (Nat.le_of_ble_eq_true rfl) hl ?_
  refine E_aload_n 1 0 dX7_isMarked_0 rfl rfl rfl ?_
  refine E_iload_n 2 1 dX7_isMarked_1 rfl rfl rfl ?_
  obtain ⟨r1, hc2, hf⟩ := bnd hf
  refine E_callVC2 5 1 [] [] (c_X7_requireAccount hl hc2) my_X7_requireAccount rc_X7 kl_X7_69 rfl rfl (Nat.le_of_ble_eq_true rfl) (rmok rfl) dX7_isMarked_2 rfl rfl rfl (fun z3 => ?_) (fun z3 => ?_)
  · have hf := ite_t z3 hf
    refine E_aload_n 6 0 dX7_isMarked_5 rfl rfl rfl ?_
    refine E_getCr 9 fg_X7_10 dX7_isMarked_6 rfl ?_
    refine E_getCrN 12 fg_X7_48 dX7_isMarked_9 rfl ?_
    refine E_getCN 15 fg_X7_73 dX7_isMarked_12 rfl ?_
    refine E_iload_n 16 1 dX7_isMarked_15 rfl rfl rfl ?_
    obtain ⟨r4, hc5, hf⟩ := bnd hf
    refine E_callS1 19 1 [] [.int r4] (c_X7_hasBit hl hc5) my_X7_hasBit kl_X7_76 rfl rfl (Nat.le_of_ble_eq_true rfl) (rmok rfl) dX7_isMarked_16 rfl rfl rfl ?_
    obtain ⟨h6, hf⟩ := gn_z hf
    cases hf
    exact E_zret h6 dX7_isMarked_19 rfl (Nat.le_of_ble_eq_true rfl) (Nat.le_of_ble_eq_true rfl)
  · have hf := ite_e z3 hf
    cases hf
    exact EX_outc rfl z3 (Nat.le_of_ble_eq_true rfl) (Nat.le_of_ble_eq_true rfl)
set_option maxRecDepth 100000 in
set_option maxHeartbeats 4000000 in
theorem c_X0_append {l : Launch} {g : Gt} (hl : l.stackTraces = false) {a1 : Int32} {a2 : Int32} {μ : Mm} {ν : Mm} {o : Nat → Int64} {dd : Nat → UInt64} {res : Int32 × Mm} (hf : f_X0_append a1 a2 μ = some res) : CM l g z_X0_append yX0_append [.ref (gaC g 2), .int a1, .int a2] (μ, ν, o, dd) 0 (.inl (some (.int res.1))) (res.2, ν, o, dd) := by
  unfold f_X0_append at hf
  refine CM_of_E rfl rfl (by decide +kernel) rfl (Nat.le_of_ble_eq_true rfl) hl ?_
  refine E_aload_n 1 0 dX0_append_0 rfl rfl rfl ?_
  refine E_getCr 4 fg_X0_9 dX0_append_1 rfl ?_
  refine E_aload_n 5 0 dX0_append_4 rfl rfl rfl ?_
  refine E_getC 8 fg_X0_19 dX0_append_5 rfl ?_
  refine E_iload_n 9 1 dX0_append_8 rfl rfl rfl ?_
  obtain ⟨h1, hf⟩ := chk_some hf
  refine E_castC 10 (k := 8) (n := 20) rfl (by decide) h1 dX0_append_9 rfl ?_
  refine E_aload_n 11 0 dX0_append_10 rfl rfl rfl ?_
  refine E_getCr 14 fg_X0_15 dX0_append_11 rfl ?_
  refine E_aload_n 15 0 dX0_append_14 rfl rfl rfl ?_
  refine E_getC 18 fg_X0_19 dX0_append_15 rfl ?_
  refine E_iload_n 19 2 dX0_append_18 rfl rfl rfl ?_
  obtain ⟨h2, hf⟩ := chk_some hf
  refine E_iastC 20 (k := 9) (n := 20) rfl (by decide) h2 dX0_append_19 rfl ?_
  refine E_aload_n 21 0 dX0_append_20 rfl rfl rfl ?_
  refine E_dup 22 dX0_append_21 rfl rfl ?_
  refine E_getC 25 fg_X0_19 dX0_append_22 rfl ?_
  refine E_dup_x1 26 dX0_append_25 rfl rfl rfl ?_
  refine E_iconst 27 1 dX0_append_26 cst_iconst1 rfl ?_
  refine E_iadd 28 dX0_append_27 rfl ?_
  refine E_putC 31 fp_X0_19 dX0_append_28 rfl ?_
  cases hf
  exact E_iret dX0_append_31 rfl (Nat.le_of_ble_eq_true rfl) (Nat.le_of_ble_eq_true rfl)
set_option maxRecDepth 100000 in
set_option maxHeartbeats 4000000 in
theorem c_X7_open {l : Launch} {g : Gt} (hl : l.stackTraces = false) {a1 : Int32} {μ : Mm} {ν : Mm} {o : Nat → Int64} {dd : Nat → UInt64} {res : Nat × Int32 × Mm} (hf : f_X7_open a1 μ = some res) : CM l g z_X7_open yX7_open [.ref (gaC g 0), .int a1] (μ, ν, o, dd) 1 (oc3 res.1 (some (.int res.2.1))) (res.2.2, ν, o, dd) := by
  unfold f_X7_open at hf
  refine CM_of_E rfl rfl (by decide +kernel) rfl (Nat.le_of_ble_eq_true rfl) hl ?_
  refine E_iload_n 1 1 dX7_open_0 rfl rfl rfl ?_
  refine E_bipush 3 97 dX7_open_1 cst_bipush97 rfl ?_
  refine E_icmp_lt 12 6 dX7_open_3 (by decide) rfl (fun c1 => ?_) (fun c1 => ?_)
  · have hf := ite_t c1 hf
    cases hf
    exact E_throw th_X7_41_45 tx_43 rfl dX7_open_12 dX7_open_15 dX7_open_16 dX7_open_18 dX7_open_21 (Nat.le_of_ble_eq_true rfl) (Nat.le_of_ble_eq_true rfl) (Nat.le_of_ble_eq_true rfl) (Nat.le_of_ble_eq_true rfl) (Nat.le_of_ble_eq_true rfl) (Nat.le_of_ble_eq_true rfl)
  · have hf := ite_e c1 hf
    refine E_iload_n 7 1 dX7_open_6 rfl rfl rfl ?_
    refine E_bipush 9 100 dX7_open_7 cst_bipush100 rfl ?_
    refine E_icmp_le 22 12 dX7_open_9 (by decide) rfl (fun c2 => ?_) (fun c2 => ?_)
    · have hf := ite_t c2 hf
      refine E_aload_n 23 0 dX7_open_22 rfl rfl rfl ?_
      refine E_getCr 26 fg_X7_10 dX7_open_23 rfl ?_
      refine E_getCrN 29 fg_X7_48 dX7_open_26 rfl ?_
      refine E_getCN 32 fg_X7_52 dX7_open_29 rfl ?_
      refine E_bipush 34 20 dX7_open_32 cst_bipush20 rfl ?_
      refine E_icmp_lt 47 37 dX7_open_34 (by decide) rfl (fun c3 => ?_) (fun c3 => ?_)
      · have hf := ite_t c3 hf
        refine E_aload_n 48 0 dX7_open_47 rfl rfl rfl ?_
        refine E_getCr 51 fg_X7_10 dX7_open_48 rfl ?_
        refine E_getCrN 54 fg_X7_48 dX7_open_51 rfl ?_
        refine E_iload_n 55 1 dX7_open_54 rfl rfl rfl ?_
        refine E_aload_n 56 0 dX7_open_55 rfl rfl rfl ?_
        refine E_getCr 59 fg_X7_10 dX7_open_56 rfl ?_
        refine E_getCN 62 fg_X7_62 dX7_open_59 rfl ?_
        obtain ⟨r4, hc5, hf⟩ := bnd hf
        refine E_callVC1 65 0 [] [.int r4.1] (c_X0_append hl hc5) my_X0_append rc_X0 kl_X7_65 rfl rfl (Nat.le_of_ble_eq_true rfl) (rmok rfl) dX7_open_62 rfl rfl rfl ?_
        cases hf
        exact E_iret dX7_open_65 rfl (Nat.le_of_ble_eq_true rfl) (Nat.le_of_ble_eq_true rfl)
      · have hf := ite_e c3 hf
        cases hf
        exact E_throw th_X7_57_61 tx_59 rfl dX7_open_37 dX7_open_40 dX7_open_41 dX7_open_43 dX7_open_46 (Nat.le_of_ble_eq_true rfl) (Nat.le_of_ble_eq_true rfl) (Nat.le_of_ble_eq_true rfl) (Nat.le_of_ble_eq_true rfl) (Nat.le_of_ble_eq_true rfl) (Nat.le_of_ble_eq_true rfl)
    · have hf := ite_e c2 hf
      cases hf
      exact E_throw th_X7_41_45 tx_43 rfl dX7_open_12 dX7_open_15 dX7_open_16 dX7_open_18 dX7_open_21 (Nat.le_of_ble_eq_true rfl) (Nat.le_of_ble_eq_true rfl) (Nat.le_of_ble_eq_true rfl) (Nat.le_of_ble_eq_true rfl) (Nat.le_of_ble_eq_true rfl) (Nat.le_of_ble_eq_true rfl)
set_option maxRecDepth 100000 in
set_option maxHeartbeats 4000000 in
theorem c_X8_isBetween {l : Launch} {g : Gt} (hl : l.stackTraces = false) {a0 : Int32} {a1 : Int32} {a2 : Int32} {μ : Mm} {ν : Mm} {o : Nat → Int64} {dd : Nat → UInt64} {res : Int32} (hf : f_X8_isBetween a0 a1 a2 = some res) : CM l g z_X8_isBetween yX8_isBetween [.int a0, .int a1, .int a2] (μ, ν, o, dd) 0 (.inl (some (.int res))) (μ, ν, o, dd) := by
  unfold f_X8_isBetween at hf
  refine CM_of_E rfl rfl (by decide +kernel) rfl (Nat.le_of_ble_eq_true rfl) hl ?_
  refine E_iload_n 1 1 dX8_isBetween_0 rfl rfl rfl ?_
  refine E_iload_n 2 0 dX8_isBetween_1 rfl rfl rfl ?_
  refine E_icmp_gt 14 5 dX8_isBetween_2 (by decide) rfl (fun c1 => ?_) (fun c1 => ?_)
  · have hf := ite_t c1 hf
    refine E_iconst 15 0 dX8_isBetween_14 cst_iconst0 rfl ?_
    cases hf
    exact E_zret (v := 0) rfl dX8_isBetween_15 rfl (Nat.le_of_ble_eq_true rfl) (Nat.le_of_ble_eq_true rfl)
  · have hf := ite_e c1 hf
    refine E_iload_n 6 0 dX8_isBetween_5 rfl rfl rfl ?_
    refine E_iload_n 7 2 dX8_isBetween_6 rfl rfl rfl ?_
    refine E_icmp_gt 14 10 dX8_isBetween_7 (by decide) rfl (fun c2 => ?_) (fun c2 => ?_)
    · have hf := ite_t c2 hf
      refine E_iconst 15 0 dX8_isBetween_14 cst_iconst0 rfl ?_
      cases hf
      exact E_zret (v := 0) rfl dX8_isBetween_15 rfl (Nat.le_of_ble_eq_true rfl) (Nat.le_of_ble_eq_true rfl)
    · have hf := ite_e c2 hf
      refine E_iconst 11 1 dX8_isBetween_10 cst_iconst1 rfl ?_
      refine E_goto 15 dX8_isBetween_11 (by decide) ?_
      cases hf
      exact E_zret (v := 1) rfl dX8_isBetween_15 rfl (Nat.le_of_ble_eq_true rfl) (Nat.le_of_ble_eq_true rfl)
set_option maxRecDepth 100000 in
set_option maxHeartbeats 4000000 in
theorem c_X8_isAccount {l : Launch} {g : Gt} (hl : l.stackTraces = false) {a1 : Int32} {μ : Mm} {ν : Mm} {o : Nat → Int64} {dd : Nat → UInt64} {res : Int32} (hf : f_X8_isAccount a1 ν = some res) : CM l g z_X8_isAccount yX8_isAccount [.ref (gaM g 0), .int a1] (μ, ν, o, dd) 0 (.inl (some (.int res))) (μ, ν, o, dd) := by
  unfold f_X8_isAccount at hf
  refine CM_of_E rfl rfl (by decide +kernel) rfl (Nat.le_of_ble_eq_true rfl) hl ?_
  refine E_iload_n 1 1 dX8_isAccount_0 rfl rfl rfl ?_
  refine E_iconst 2 0 dX8_isAccount_1 cst_iconst0 rfl ?_
  refine E_aload_n 3 0 dX8_isAccount_2 rfl rfl rfl ?_
  refine E_getM 6 fg_X8_85 dX8_isAccount_3 rfl ?_
  refine E_iconst 7 1 dX8_isAccount_6 cst_iconst1 rfl ?_
  refine E_isub 8 dX8_isAccount_7 rfl ?_
  obtain ⟨r1, hc2, hf⟩ := bnd hf
  refine E_callS1 11 0 [] [.int r1] (c_X8_isBetween hl hc2) my_X8_isBetween kl_X8_88 rfl rfl (Nat.le_of_ble_eq_true rfl) (rmok rfl) dX8_isAccount_8 rfl rfl rfl ?_
  obtain ⟨h3, hf⟩ := gn_z hf
  cases hf
  exact E_zret h3 dX8_isAccount_11 rfl (Nat.le_of_ble_eq_true rfl) (Nat.le_of_ble_eq_true rfl)
set_option maxRecDepth 100000 in
set_option maxHeartbeats 4000000 in
theorem c_X8_isIn {l : Launch} {g : Gt} (hl : l.stackTraces = false) {a1 : Int32} {a2 : Int32} {a3 : Int32} {μ : Mm} {ν : Mm} {o : Nat → Int64} {dd : Nat → UInt64} {res : Int32} (hf : f_X8_isIn a1 a2 a3 ν = some res) : CM l g z_X8_isIn yX8_isIn [.ref (gaM g 0), .int a1, .int a2, .int a3] (μ, ν, o, dd) 0 (.inl (some (.int res))) (μ, ν, o, dd) := by
  unfold f_X8_isIn at hf
  refine CM_of_E rfl rfl (by decide +kernel) rfl (Nat.le_of_ble_eq_true rfl) hl ?_
  refine E_aload_n 1 0 dX8_isIn_0 rfl rfl rfl ?_
  refine E_getMr 4 fg_X8_26 dX8_isIn_1 rfl ?_
  refine E_iload_n 5 1 dX8_isIn_4 rfl rfl rfl ?_
  obtain ⟨h1, hf⟩ := chk_some hf
  refine E_ialdM 6 (k := 6) (n := 200) rfl (by decide) h1 dX8_isIn_5 rfl ?_
  refine E_iload_n 7 3 dX8_isIn_6 rfl rfl rfl ?_
  refine E_iload_n 8 2 dX8_isIn_7 rfl rfl rfl ?_
  refine E_isub 9 dX8_isIn_8 rfl ?_
  refine E_icmp_le 26 12 dX8_isIn_9 (by decide) rfl (fun c2 => ?_) (fun c2 => ?_)
  · have hf := ite_t c2 hf
    refine E_iconst 27 0 dX8_isIn_26 cst_iconst0 rfl ?_
    cases hf
    exact E_zret (v := 0) rfl dX8_isIn_27 rfl (Nat.le_of_ble_eq_true rfl) (Nat.le_of_ble_eq_true rfl)
  · have hf := ite_e c2 hf
    refine E_aload_n 13 0 dX8_isIn_12 rfl rfl rfl ?_
    refine E_getMr 16 fg_X8_26 dX8_isIn_13 rfl ?_
    refine E_iload_n 17 1 dX8_isIn_16 rfl rfl rfl ?_
    obtain ⟨h3, hf⟩ := chk_some hf
    refine E_ialdM 18 (k := 6) (n := 200) rfl (by decide) h3 dX8_isIn_17 rfl ?_
    refine E_iload_n 19 3 dX8_isIn_18 rfl rfl rfl ?_
    refine E_icmp_gt 26 22 dX8_isIn_19 (by decide) rfl (fun c4 => ?_) (fun c4 => ?_)
    · have hf := ite_t c4 hf
      refine E_iconst 27 0 dX8_isIn_26 cst_iconst0 rfl ?_
      cases hf
      exact E_zret (v := 0) rfl dX8_isIn_27 rfl (Nat.le_of_ble_eq_true rfl) (Nat.le_of_ble_eq_true rfl)
    · have hf := ite_e c4 hf
      refine E_iconst 23 1 dX8_isIn_22 cst_iconst1 rfl ?_
      refine E_goto 27 dX8_isIn_23 (by decide) ?_
      cases hf
      exact E_zret (v := 1) rfl dX8_isIn_27 rfl (Nat.le_of_ble_eq_true rfl) (Nat.le_of_ble_eq_true rfl)
set_option maxRecDepth 100000 in
set_option maxHeartbeats 4000000 in
theorem l_X8_spreads_L3 {l : Launch} {g : Gt} (hl : l.stackTraces = false) {μ : Mm} {o : Nat → Int64} {dd : Nat → UInt64} {kx27 : (Mm → Option (Mm))} {x1 : Int32} {x2 : Int32} {x3 : Int32} {x4 : Int32} {x5 : Int32} {res : Mm} (hx27 : ∀  (ν' : Mm), kx27 ν' = some res → E l g z_X8_spreads 27 [(0, .ref (gaM g 0)), (1, .int x1), (2, .int x2), (3, .int x3), (4, .int x4), (5, .int x5)] [] (μ, ν', o, dd) 0 (QM g (.inl none) (μ, res, o, dd) 0)) : ∀ (n : Nat) (x6 : Int32) (ν : Mm), f_X8_spreads_L3 kx27 x1 x2 x3 x4 x5 n x6 ν = some res → E l g z_X8_spreads 3 [(0, .ref (gaM g 0)), (1, .int x1), (2, .int x2), (3, .int x3), (4, .int x4), (5, .int x5), (6, .int x6)] [] (μ, ν, o, dd) 0 (QM g (.inl none) (μ, res, o, dd) 0) := by
  intro n
  induction n with
  | zero => intro x6 ν hf; cases hf
  | succ n ih =>
    intro x6 ν hf
    refine E_iload 5 6 dX8_spreads_3 rfl rfl ?_
    refine E_aload_n 6 0 dX8_spreads_5 rfl rfl rfl ?_
    refine E_getM 9 fg_X8_85 dX8_spreads_6 rfl ?_
    refine E_icmp_ge 27 12 dX8_spreads_9 (by decide) rfl (fun c1 => ?_) (fun c1 => ?_)
    · have hf := ite_t c1 hf
      refine E_sub [0, 1, 2, 3, 4, 5] rfl ?_
      exact hx27 ν hf
    · have hf := ite_e c1 hf
      refine E_aload_n 13 0 dX8_spreads_12 rfl rfl rfl ?_
      refine E_getMr 16 fg_X8_45 dX8_spreads_13 rfl ?_
      refine E_iload 18 6 dX8_spreads_16 rfl rfl ?_
      refine E_bipush 20 99 dX8_spreads_18 cst_bipush99 rfl ?_
      obtain ⟨h2, hf⟩ := chk_some hf
      refine E_iastM 21 (k := 11) (n := 20) rfl (by decide) h2 dX8_spreads_20 rfl ?_
      refine E_iinc 24 [(6, .int (x6 + 1)), (0, .ref (gaM g 0)), (1, .int x1), (2, .int x2), (3, .int x3), (4, .int x4), (5, .int x5)] 6 (v := x6 + 1) dX8_spreads_21 rfl (by rw [cst_iconst1]) (by decide) rfl rfl ?_
      refine E_goto 3 dX8_spreads_24 (by decide) ?_
      refine E_sub [1, 2, 3, 4, 5, 6, 0] rfl ?_
      exact ih (x6 + 1) (up2 ν 11 x6.toNatClampNeg 99) hf
set_option maxRecDepth 100000 in
set_option maxHeartbeats 4000000 in
theorem j_X8_spreads_J120 {l : Launch} {g : Gt} (hl : l.stackTraces = false) {μ : Mm} {ν : Mm} {o : Nat → Int64} {dd : Nat → UInt64} {kb37 : (Int32 → Mm → Option (Mm))} {kb49 : (Int32 → Mm → Option (Mm))} {kx181 : (Mm → Option (Mm))} {x2 : Int32} {x3 : Int32} {x4 : Int32} {x5 : Int32} {x6 : Int32} {x7 : Int32}  {res : Mm} (hb37 : ∀ (v6 : Int32) (ν' : Mm), kb37 v6 ν' = some res → E l g z_X8_spreads 37 [(0, .ref (gaM g 0)), (2, .int x2), (3, .int x3), (4, .int x4), (5, .int x5), (6, .int v6)] [] (μ, ν', o, dd) 0 (QM g (.inl none) (μ, res, o, dd) 0)) (hb49 : ∀ (v7 : Int32) (ν' : Mm), kb49 v7 ν' = some res → E l g z_X8_spreads 49 [(0, .ref (gaM g 0)), (2, .int x2), (3, .int x3), (4, .int x4), (5, .int x5), (6, .int x6), (7, .int v7)] [] (μ, ν', o, dd) 0 (QM g (.inl none) (μ, res, o, dd) 0)) (hx181 : ∀  (ν' : Mm), kx181 ν' = some res → E l g z_X8_spreads 181 [(0, .ref (gaM g 0)), (2, .int x2), (3, .int x3), (4, .int x4), (5, .int x5), (6, .int x6)] [] (μ, ν', o, dd) 0 (QM g (.inl none) (μ, res, o, dd) 0)) (hf : f_X8_spreads_J120 kb37 kb49 kx181 x2 x3 x4 x5 x6 x7 ν = some res) : E l g z_X8_spreads 120 [(0, .ref (gaM g 0)), (2, .int x2), (3, .int x3), (4, .int x4), (5, .int x5), (6, .int x6), (7, .int x7)] [] (μ, ν, o, dd) 0 (QM g (.inl none) (μ, res, o, dd) 0) := by
  unfold f_X8_spreads_J120 at hf
  refine E_iload 122 4 dX8_spreads_120 rfl rfl ?_
  refine E_if_eq 175 125 dX8_spreads_122 (by decide) rfl (fun c13 => ?_) (fun c13 => ?_)
  · have hf := ite_t c13 hf
    refine E_iinc 178 [(7, .int (x7 + 1)), (0, .ref (gaM g 0)), (2, .int x2), (3, .int x3), (4, .int x4), (5, .int x5), (6, .int x6)] 6 (v := x7 + 1) dX8_spreads_175 rfl (by rw [cst_iconst1]) (by decide) rfl rfl ?_
    refine E_goto 49 dX8_spreads_178 (by decide) ?_
    refine E_sub [1, 2, 3, 4, 5, 6, 0] rfl ?_
    exact hb49 (x7 + 1) ν hf
  · have hf := ite_e c13 hf
    refine E_aload_n 126 0 dX8_spreads_125 rfl rfl rfl ?_
    refine E_getMr 129 fg_X8_45 dX8_spreads_126 rfl ?_
    refine E_aload_n 130 0 dX8_spreads_129 rfl rfl rfl ?_
    refine E_getMr 133 fg_X8_20 dX8_spreads_130 rfl ?_
    refine E_iload 135 6 dX8_spreads_133 rfl rfl ?_
    obtain ⟨h14, hf⟩ := chk_some hf
    refine E_ialdM 136 (k := 4) (n := 200) rfl (by decide) h14 dX8_spreads_135 rfl ?_
    obtain ⟨h15, hf⟩ := chk_some hf
    refine E_ialdM 137 (k := 11) (n := 20) rfl (by decide) h15 dX8_spreads_136 rfl ?_
    refine E_iload 139 5 dX8_spreads_137 rfl rfl ?_
    refine E_icmp_ne 175 142 dX8_spreads_139 (by decide) rfl (fun c16 => ?_) (fun c16 => ?_)
    · have hf := ite_e c16 hf
      refine E_iinc 178 [(7, .int (x7 + 1)), (0, .ref (gaM g 0)), (2, .int x2), (3, .int x3), (4, .int x4), (5, .int x5), (6, .int x6)] 6 (v := x7 + 1) dX8_spreads_175 rfl (by rw [cst_iconst1]) (by decide) rfl rfl ?_
      refine E_goto 49 dX8_spreads_178 (by decide) ?_
      refine E_sub [1, 2, 3, 4, 5, 6, 0] rfl ?_
      exact hb49 (x7 + 1) ν hf
    · have hf := ite_t c16 hf
      refine E_aload_n 143 0 dX8_spreads_142 rfl rfl rfl ?_
      refine E_getMr 146 fg_X8_45 dX8_spreads_143 rfl ?_
      refine E_aload_n 147 0 dX8_spreads_146 rfl rfl rfl ?_
      refine E_getMr 150 fg_X8_17 dX8_spreads_147 rfl ?_
      refine E_iload 152 6 dX8_spreads_150 rfl rfl ?_
      obtain ⟨h17, hf⟩ := chk_some hf
      refine E_ialdM 153 (k := 3) (n := 200) rfl (by decide) h17 dX8_spreads_152 rfl ?_
      obtain ⟨h18, hf⟩ := chk_some hf
      refine E_ialdM 154 (k := 11) (n := 20) rfl (by decide) h18 dX8_spreads_153 rfl ?_
      refine E_bipush 156 99 dX8_spreads_154 cst_bipush99 rfl ?_
      refine E_icmp_ne 175 159 dX8_spreads_156 (by decide) rfl (fun c19 => ?_) (fun c19 => ?_)
      · have hf := ite_e c19 hf
        refine E_iinc 178 [(7, .int (x7 + 1)), (0, .ref (gaM g 0)), (2, .int x2), (3, .int x3), (4, .int x4), (5, .int x5), (6, .int x6)] 6 (v := x7 + 1) dX8_spreads_175 rfl (by rw [cst_iconst1]) (by decide) rfl rfl ?_
        refine E_goto 49 dX8_spreads_178 (by decide) ?_
        refine E_sub [1, 2, 3, 4, 5, 6, 0] rfl ?_
        exact hb49 (x7 + 1) ν hf
      · have hf := ite_t c19 hf
        refine E_aload_n 160 0 dX8_spreads_159 rfl rfl rfl ?_
        refine E_getMr 163 fg_X8_45 dX8_spreads_160 rfl ?_
        refine E_aload_n 164 0 dX8_spreads_163 rfl rfl rfl ?_
        refine E_getMr 167 fg_X8_17 dX8_spreads_164 rfl ?_
        refine E_iload 169 6 dX8_spreads_167 rfl rfl ?_
        obtain ⟨h20, hf⟩ := chk_some hf
        refine E_ialdM 170 (k := 3) (n := 200) rfl (by decide) h20 dX8_spreads_169 rfl ?_
        refine E_iload 172 5 dX8_spreads_170 rfl rfl ?_
        refine E_iconst 173 1 dX8_spreads_172 cst_iconst1 rfl ?_
        refine E_iadd 174 dX8_spreads_173 rfl ?_
        obtain ⟨h21, hf⟩ := chk_some hf
        refine E_iastM 175 (k := 11) (n := 20) rfl (by decide) h21 dX8_spreads_174 rfl ?_
        refine E_iinc 178 [(7, .int (x7 + 1)), (0, .ref (gaM g 0)), (2, .int x2), (3, .int x3), (4, .int x4), (5, .int x5), (6, .int x6)] 6 (v := x7 + 1) dX8_spreads_175 rfl (by rw [cst_iconst1]) (by decide) rfl rfl ?_
        refine E_goto 49 dX8_spreads_178 (by decide) ?_
        refine E_sub [1, 2, 3, 4, 5, 6, 0] rfl ?_
        exact hb49 (x7 + 1) (up2 ν 11 (ν 3 x7.toNatClampNeg).toNatClampNeg (x6 + 1)) hf
set_option maxRecDepth 100000 in
set_option maxHeartbeats 4000000 in
theorem l_X8_spreads_L49 {l : Launch} {g : Gt} (hl : l.stackTraces = false) {μ : Mm} {o : Nat → Int64} {dd : Nat → UInt64} {kb37 : (Int32 → Mm → Option (Mm))} {kx181 : (Mm → Option (Mm))} {x2 : Int32} {x3 : Int32} {x4 : Int32} {x5 : Int32} {x6 : Int32} {res : Mm} (hb37 : ∀ (v6 : Int32) (ν' : Mm), kb37 v6 ν' = some res → E l g z_X8_spreads 37 [(0, .ref (gaM g 0)), (2, .int x2), (3, .int x3), (4, .int x4), (5, .int x5), (6, .int v6)] [] (μ, ν', o, dd) 0 (QM g (.inl none) (μ, res, o, dd) 0)) (hx181 : ∀  (ν' : Mm), kx181 ν' = some res → E l g z_X8_spreads 181 [(0, .ref (gaM g 0)), (2, .int x2), (3, .int x3), (4, .int x4), (5, .int x5), (6, .int x6)] [] (μ, ν', o, dd) 0 (QM g (.inl none) (μ, res, o, dd) 0)) : ∀ (n : Nat) (x7 : Int32) (ν : Mm), f_X8_spreads_L49 kb37 kx181 x2 x3 x4 x5 x6 n x7 ν = some res → E l g z_X8_spreads 49 [(0, .ref (gaM g 0)), (2, .int x2), (3, .int x3), (4, .int x4), (5, .int x5), (6, .int x6), (7, .int x7)] [] (μ, ν, o, dd) 0 (QM g (.inl none) (μ, res, o, dd) 0) := by
  intro n
  induction n with
  | zero => intro x7 ν hf; cases hf
  | succ n ih =>
    intro x7 ν hf
    refine E_iload 51 6 dX8_spreads_49 rfl rfl ?_
    refine E_iload_n 52 1 dX8_spreads_51 rfl rfl rfl ?_
    refine E_icmp_gt 181 55 dX8_spreads_52 (by decide) rfl (fun c6 => ?_) (fun c6 => ?_)
    · have hf := ite_t c6 hf
      refine E_sub [0, 1, 2, 3, 4, 5] rfl ?_
      exact hx181 ν hf
    · have hf := ite_e c6 hf
      refine E_aload_n 56 0 dX8_spreads_55 rfl rfl rfl ?_
      refine E_iload 58 6 dX8_spreads_56 rfl rfl ?_
      refine E_iload_n 59 2 dX8_spreads_58 rfl rfl rfl ?_
      refine E_iload 61 3 dX8_spreads_59 rfl rfl ?_
      obtain ⟨r7, hc8, hf⟩ := bnd hf
      refine E_callVM1 64 0 [] [.int r7] (c_X8_isIn hl hc8) my_X8_isIn rc_X8 kl_X8_136 rfl rfl (Nat.le_of_ble_eq_true rfl) (rmok rfl) dX8_spreads_61 rfl rfl rfl ?_
      refine E_if_ne 70 67 dX8_spreads_64 (by decide) rfl (fun c9 => ?_) (fun c9 => ?_)
      · have hf := ite_e c9 hf
        refine E_aload_n 71 0 dX8_spreads_70 rfl rfl rfl ?_
        refine E_getMr 74 fg_X8_45 dX8_spreads_71 rfl ?_
        refine E_aload_n 75 0 dX8_spreads_74 rfl rfl rfl ?_
        refine E_getMr 78 fg_X8_17 dX8_spreads_75 rfl ?_
        refine E_iload 80 6 dX8_spreads_78 rfl rfl ?_
        obtain ⟨h10, hf⟩ := chk_some hf
        refine E_ialdM 81 (k := 3) (n := 200) rfl (by decide) h10 dX8_spreads_80 rfl ?_
        obtain ⟨h11, hf⟩ := chk_some hf
        refine E_ialdM 82 (k := 11) (n := 20) rfl (by decide) h11 dX8_spreads_81 rfl ?_
        refine E_iload 84 5 dX8_spreads_82 rfl rfl ?_
        refine E_icmp_ne 120 87 dX8_spreads_84 (by decide) rfl (fun c12 => ?_) (fun c12 => ?_)
        · have hf := ite_e c12 hf
          refine E_sub [0, 1, 2, 3, 4, 5, 6] rfl ?_
          exact j_X8_spreads_J120 hl hb37 ih hx181 hf
        · have hf := ite_t c12 hf
          refine E_aload_n 88 0 dX8_spreads_87 rfl rfl rfl ?_
          refine E_getMr 91 fg_X8_45 dX8_spreads_88 rfl ?_
          refine E_aload_n 92 0 dX8_spreads_91 rfl rfl rfl ?_
          refine E_getMr 95 fg_X8_20 dX8_spreads_92 rfl ?_
          refine E_iload 97 6 dX8_spreads_95 rfl rfl ?_
          obtain ⟨h22, hf⟩ := chk_some hf
          refine E_ialdM 98 (k := 4) (n := 200) rfl (by decide) h22 dX8_spreads_97 rfl ?_
          obtain ⟨h23, hf⟩ := chk_some hf
          refine E_ialdM 99 (k := 11) (n := 20) rfl (by decide) h23 dX8_spreads_98 rfl ?_
          refine E_bipush 101 99 dX8_spreads_99 cst_bipush99 rfl ?_
          refine E_icmp_ne 120 104 dX8_spreads_101 (by decide) rfl (fun c24 => ?_) (fun c24 => ?_)
          · have hf := ite_e c24 hf
            refine E_sub [0, 1, 2, 3, 4, 5, 6] rfl ?_
            exact j_X8_spreads_J120 hl hb37 ih hx181 hf
          · have hf := ite_t c24 hf
            refine E_aload_n 105 0 dX8_spreads_104 rfl rfl rfl ?_
            refine E_getMr 108 fg_X8_45 dX8_spreads_105 rfl ?_
            refine E_aload_n 109 0 dX8_spreads_108 rfl rfl rfl ?_
            refine E_getMr 112 fg_X8_20 dX8_spreads_109 rfl ?_
            refine E_iload 114 6 dX8_spreads_112 rfl rfl ?_
            obtain ⟨h25, hf⟩ := chk_some hf
            refine E_ialdM 115 (k := 4) (n := 200) rfl (by decide) h25 dX8_spreads_114 rfl ?_
            refine E_iload 117 5 dX8_spreads_115 rfl rfl ?_
            refine E_iconst 118 1 dX8_spreads_117 cst_iconst1 rfl ?_
            refine E_iadd 119 dX8_spreads_118 rfl ?_
            obtain ⟨h26, hf⟩ := chk_some hf
            refine E_iastM 120 (k := 11) (n := 20) rfl (by decide) h26 dX8_spreads_119 rfl ?_
            refine E_sub [0, 1, 2, 3, 4, 5, 6] rfl ?_
            exact j_X8_spreads_J120 hl hb37 ih hx181 hf
      · have hf := ite_t c9 hf
        refine E_goto 175 dX8_spreads_67 (by decide) ?_
        refine E_iinc 178 [(7, .int (x7 + 1)), (0, .ref (gaM g 0)), (2, .int x2), (3, .int x3), (4, .int x4), (5, .int x5), (6, .int x6)] 6 (v := x7 + 1) dX8_spreads_175 rfl (by rw [cst_iconst1]) (by decide) rfl rfl ?_
        refine E_goto 49 dX8_spreads_178 (by decide) ?_
        refine E_sub [1, 2, 3, 4, 5, 6, 0] rfl ?_
        exact ih (x7 + 1) ν hf
set_option maxRecDepth 100000 in
set_option maxHeartbeats 4000000 in
theorem l_X8_spreads_L37 {l : Launch} {g : Gt} (hl : l.stackTraces = false) {μ : Mm} {o : Nat → Int64} {dd : Nat → UInt64}  {x2 : Int32} {x3 : Int32} {x4 : Int32} {x5 : Int32} {res : Mm} : ∀ (n : Nat) (x6 : Int32) (ν : Mm), f_X8_spreads_L37 x2 x3 x4 x5 n x6 ν = some res → E l g z_X8_spreads 37 [(0, .ref (gaM g 0)), (2, .int x2), (3, .int x3), (4, .int x4), (5, .int x5), (6, .int x6)] [] (μ, ν, o, dd) 0 (QM g (.inl none) (μ, res, o, dd) 0) := by
  intro n
  induction n with
  | zero => intro x6 ν hf; cases hf
  | succ n ih =>
    intro x6 ν hf
    refine E_iload 39 5 dX8_spreads_37 rfl rfl ?_
    refine E_aload_n 40 0 dX8_spreads_39 rfl rfl rfl ?_
    refine E_getM 43 fg_X8_85 dX8_spreads_40 rfl ?_
    refine E_icmp_ge 187 46 dX8_spreads_43 (by decide) rfl (fun c5 => ?_) (fun c5 => ?_)
    · have hf := ite_t c5 hf
      cases hf
      exact E_vret dX8_spreads_187 rfl (Nat.le_of_ble_eq_true rfl) (Nat.le_of_ble_eq_true rfl)
    · have hf := ite_e c5 hf
      refine E_iconst 47 0 dX8_spreads_46 cst_iconst0 rfl ?_
      refine E_istore 49 [(7, .int 0), (0, .ref (gaM g 0)), (2, .int x2), (3, .int x3), (4, .int x4), (5, .int x5), (6, .int x6)] dX8_spreads_47 (by decide) rfl rfl ?_
      refine E_sub [1, 2, 3, 4, 5, 6, 0] rfl ?_
      refine l_X8_spreads_L49 hl ih (fun m27 hf => ?_) _ _ _ hf
      · refine E_iinc 184 [(6, .int (x6 + 1)), (0, .ref (gaM g 0)), (2, .int x2), (3, .int x3), (4, .int x4), (5, .int x5)] 5 (v := x6 + 1) dX8_spreads_181 rfl (by rw [cst_iconst1]) (by decide) rfl rfl ?_
        refine E_goto 37 dX8_spreads_184 (by decide) ?_
        refine E_sub [1, 2, 3, 4, 5, 0] rfl ?_
        exact ih (x6 + 1) m27 hf
set_option maxRecDepth 100000 in
set_option maxHeartbeats 4000000 in
theorem c_X8_spreads {l : Launch} {g : Gt} (hl : l.stackTraces = false) {a1 : Int32} {a2 : Int32} {a3 : Int32} {a4 : Int32} {a5 : Int32} {μ : Mm} {ν : Mm} {o : Nat → Int64} {dd : Nat → UInt64} {res : Mm} (hf : f_X8_spreads a1 a2 a3 a4 a5 ν = some res) : CM l g z_X8_spreads yX8_spreads [.ref (gaM g 0), .int a1, .int a2, .int a3, .int a4, .int a5] (μ, ν, o, dd) 0 (.inl none) (μ, res, o, dd) := by
  unfold f_X8_spreads at hf
  refine CM_of_E rfl rfl (by decide +kernel) rfl (Nat.le_of_ble_eq_true rfl) hl ?_
  refine E_iconst 1 0 dX8_spreads_0 cst_iconst0 rfl ?_
  refine E_istore 3 [(6, .int 0), (0, .ref (gaM g 0)), (1, .int a1), (2, .int a2), (3, .int a3), (4, .int a4), (5, .int a5)] dX8_spreads_1 (by decide) rfl rfl ?_
  refine E_sub [1, 2, 3, 4, 5, 6, 0] rfl ?_
  refine l_X8_spreads_L3 hl (fun m3 hf => ?_) _ _ _ hf
  · refine E_aload_n 28 0 dX8_spreads_27 rfl rfl rfl ?_
    refine E_getMr 31 fg_X8_45 dX8_spreads_28 rfl ?_
    refine E_iload_n 32 1 dX8_spreads_31 rfl rfl rfl ?_
    refine E_iconst 33 0 dX8_spreads_32 cst_iconst0 rfl ?_
    obtain ⟨h4, hf⟩ := chk_some hf
    refine E_iastM 34 (k := 11) (n := 20) rfl (by decide) h4 dX8_spreads_33 rfl ?_
    refine E_iconst 35 0 dX8_spreads_34 cst_iconst0 rfl ?_
    refine E_istore 37 [(6, .int 0), (0, .ref (gaM g 0)), (1, .int a1), (2, .int a2), (3, .int a3), (4, .int a4), (5, .int a5)] dX8_spreads_35 (by decide) rfl rfl ?_
    refine E_sub [1, 3, 4, 5, 6, 0] rfl ?_
    refine l_X8_spreads_L37 hl  _ _ _ hf
