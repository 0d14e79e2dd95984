set_option maxRecDepth 100000 in
set_option maxHeartbeats 4000000 in
theorem c_X6_ruleAtRank {l : Launch} {g : Gt} (hl : l.stackTraces = false) {a1 : Int32} {a2 : Int32} {μ : Mm} {ν : Mm} {o : Nat → Int64} {dd : Nat → UInt64} {res : Int32} (hf : f_X6_ruleAtRank a1 a2 μ = some res) : CM l g z_X6_ruleAtRank yX6_ruleAtRank [.ref (gaC g 26), .int a1, .int a2] (μ, ν, o, dd) 0 (.inl (some (.int res))) (μ, ν, o, dd) := by
  unfold f_X6_ruleAtRank at hf
  refine CM_of_E rfl rfl (by decide +kernel) rfl (Nat.le_of_ble_eq_true rfl) hl ?_
  refine E_iconst 1 0 dX6_ruleAtRank_0 cst_iconst0 rfl ?_
  refine E_istore_n 2 [(3, .int 0), (0, .ref (gaC g 26)), (1, .int a1), (2, .int a2)] dX6_ruleAtRank_1 rfl (by decide) rfl rfl ?_
  refine E_iconst 3 0 dX6_ruleAtRank_2 cst_iconst0 rfl ?_
  refine E_istore 5 [(4, .int 0), (3, .int 0), (0, .ref (gaC g 26)), (1, .int a1), (2, .int a2)] dX6_ruleAtRank_3 (by decide) rfl rfl ?_
  refine E_sub [2, 3, 4, 1, 0] rfl ?_
  refine l_X6_ruleAtRank_L5 hl  _ _ _ hf
set_option maxRecDepth 100000 in
set_option maxHeartbeats 4000000 in
theorem c_X7_ruleOfReason {l : Launch} {g : Gt} (hl : l.stackTraces = false) {a1 : Int32} {a2 : Int32} {μ : Mm} {ν : Mm} {o : Nat → Int64} {dd : Nat → UInt64} {res : Nat × Int32} (hf : f_X7_ruleOfReason a1 a2 μ = some res) : CM l g z_X7_ruleOfReason yX7_ruleOfReason [.ref (gaC g 0), .int a1, .int a2] (μ, ν, o, dd) 1 (oc3 res.1 (some (.int res.2))) (μ, ν, o, dd) := by
  unfold f_X7_ruleOfReason at hf
  refine CM_of_E rfl rfl (by decide +kernel) rfl (Nat.le_of_ble_eq_true rfl) hl ?_
  refine E_aload_n 1 0 dX7_ruleOfReason_0 rfl rfl rfl ?_
  refine E_getCr 4 fg_X7_26 dX7_ruleOfReason_1 rfl ?_
  refine E_aload_n 5 0 dX7_ruleOfReason_4 rfl rfl rfl ?_
  refine E_getCr 8 fg_X7_33 dX7_ruleOfReason_5 rfl ?_
  refine E_getCrN 11 fg_X7_218 dX7_ruleOfReason_8 rfl ?_
  refine E_iload_n 12 1 dX7_ruleOfReason_11 rfl rfl rfl ?_
  obtain ⟨h1, hf⟩ := chk_some hf
  refine E_ialdC 13 (k := 32) (n := 200) rfl (by decide) h1 dX7_ruleOfReason_12 rfl ?_
  refine E_iload_n 14 2 dX7_ruleOfReason_13 rfl rfl rfl ?_
  obtain ⟨r2, hc3, hf⟩ := bnd hf
  refine E_callVC1 17 0 [] [.int r2] (c_X6_ruleAtRank hl hc3) my_X6_ruleAtRank rc_X6 kl_X7_322 rfl rfl (Nat.le_of_ble_eq_true rfl) (rmok rfl) dX7_ruleOfReason_14 rfl rfl rfl ?_
  refine E_istore_n 18 [(3, .int r2), (0, .ref (gaC g 0)), (1, .int a1), (2, .int a2)] dX7_ruleOfReason_17 rfl (by decide) rfl rfl ?_
  refine E_iload_n 19 0 dX7_ruleOfReason_18 rfl rfl rfl ?_
  refine E_iconst 20 (-1) dX7_ruleOfReason_19 cst_iconstn1 rfl ?_
  refine E_icmp_ne 34 23 dX7_ruleOfReason_20 (by decide) rfl (fun c4 => ?_) (fun c4 => ?_)
  · have hf := ite_e c4 hf
    refine E_iload_n 35 0 dX7_ruleOfReason_34 rfl rfl rfl ?_
    cases hf
    exact E_iret dX7_ruleOfReason_35 rfl (Nat.le_of_ble_eq_true rfl) (Nat.le_of_ble_eq_true rfl)
  · have hf := ite_t c4 hf
    cases hf
    exact E_throwW th_X7_257_261 tx_325 rfl dX7_ruleOfReason_23 dX7_ruleOfReason_26 dX7_ruleOfReason_27 dX7_ruleOfReason_30 dX7_ruleOfReason_33 (Nat.le_of_ble_eq_true rfl) (Nat.le_of_ble_eq_true rfl) (Nat.le_of_ble_eq_true rfl) (Nat.le_of_ble_eq_true rfl) (Nat.le_of_ble_eq_true rfl) (Nat.le_of_ble_eq_true rfl)
set_option maxRecDepth 100000 in
set_option maxHeartbeats 4000000 in
theorem c_X7_reasonRule {l : Launch} {g : Gt} (hl : l.stackTraces = false) {a1 : Int32} {a2 : Int32} {μ : Mm} {ν : Mm} {o : Nat → Int64} {dd : Nat → UInt64} {res : Nat × Int32} (hf : f_X7_reasonRule a1 a2 μ = some res) : CM l g z_X7_reasonRule yX7_reasonRule [.ref (gaC g 0), .int a1, .int a2] (μ, ν, o, dd) 2 (oc3 res.1 (some (.int res.2))) (μ, ν, o, dd) := by
  unfold f_X7_reasonRule at hf
  refine CM_of_E rfl rfl (by decide +kernel) rfl (Nat.le_of_ble_eq_true rfl) hl ?_
  refine E_aload_n 1 0 dX7_reasonRule_0 rfl rfl rfl ?_
  refine E_iload_n 2 1 dX7_reasonRule_1 rfl rfl rfl ?_
  obtain ⟨r1, hc2, hf⟩ := bnd hf
  refine E_callVC2 5 1 [] [] (c_X7_requirePayment hl hc2) my_X7_requirePayment rc_X7 kl_X7_137 rfl rfl (Nat.le_of_ble_eq_true rfl) (rmok rfl) dX7_reasonRule_2 rfl rfl rfl (fun z3 => ?_) (fun z3 => ?_)
  · have hf := ite_t z3 hf
    refine E_aload_n 6 0 dX7_reasonRule_5 rfl rfl rfl ?_
    refine E_iload_n 7 1 dX7_reasonRule_6 rfl rfl rfl ?_
    refine E_iload_n 8 2 dX7_reasonRule_7 rfl rfl rfl ?_
    obtain ⟨r4, hc5, hf⟩ := bnd hf
    refine E_callVC2 11 2 [] [.int r4.2] (c_X7_ruleOfReason hl hc5) my_X7_ruleOfReason rc_X7 kl_X7_226 rfl rfl (Nat.le_of_ble_eq_true rfl) (rmok rfl) dX7_reasonRule_8 rfl rfl rfl (fun z6 => ?_) (fun z6 => ?_)
    · have hf := ite_t z6 hf
      cases hf
      exact E_iret dX7_reasonRule_11 rfl (Nat.le_of_ble_eq_true rfl) (Nat.le_of_ble_eq_true rfl)
    · have hf := ite_e z6 hf
      cases hf
      exact EX_outc rfl z6 (Nat.le_of_ble_eq_true rfl) (Nat.le_of_ble_eq_true rfl)
  · have hf := ite_e z3 hf
    cases hf
    exact EX_outc rfl z3 (Nat.le_of_ble_eq_true rfl) (Nat.le_of_ble_eq_true rfl)
set_option maxRecDepth 100000 in
set_option maxHeartbeats 4000000 in
theorem c_L_reasonRule_0_o {l : Launch} {g : Gt} (hl : l.stackTraces = false) {a1 : Int32} {a2 : Int32} {μ : Mm} {ν : Mm} {o : Nat → Int64} {dd : Nat → UInt64} {res : Int32 × (Nat → Int64)} (hf : f_L_reasonRule_0_o a1 a2 μ o = some res) : CM l g z_L_reasonRule yL_reasonRule [.ref (gaC g 0), .int a1, .int a2, .ref (gao g 0)] (μ, ν, o, dd) 2 (.inl (some (.int res.1))) (μ, ν, res.2, dd) := by
  unfold f_L_reasonRule_0_o at hf
  refine CM_of_EH rfl rfl (by decide +kernel) rfl (Nat.le_of_ble_eq_true rfl) hl ?_
  refine E_aload_n 1 3 dL_reasonRule_0 rfl rfl rfl ?_
  refine E_iconst 2 0 dL_reasonRule_1 cst_iconst0 rfl ?_
  refine E_aload_n 3 0 dL_reasonRule_2 rfl rfl rfl ?_
  refine E_iload_n 4 1 dL_reasonRule_3 rfl rfl rfl ?_
  refine E_iload_n 5 2 dL_reasonRule_4 rfl rfl rfl ?_
  obtain ⟨r1, hc2, hf⟩ := bnd hf
  refine E_callVC2 8 2 [.int 0, .ref (gao g 0)] [.int r1.2, .int 0, .ref (gao g 0)] (c_X7_reasonRule hl hc2) my_X7_reasonRule rc_X7 kl_L_98 rfl rfl (Nat.le_of_ble_eq_true rfl) (rmok rfl) dL_reasonRule_5 rfl rfl rfl (fun z3 => ?_) (fun z3 => ?_)
  · have hf := ite_t z3 hf
    refine E_i2l 9 dL_reasonRule_8 rfl ?_
    obtain ⟨h4, hf⟩ := chk_some hf
    refine E_last 10 h4 dL_reasonRule_9 rfl ?_
    refine E_goto 21 dL_reasonRule_10 (by decide) ?_
    refine E_iconst 22 0 dL_reasonRule_21 cst_iconst0 rfl ?_
    cases hf
    exact E_iret dL_reasonRule_22 rfl (Nat.le_of_ble_eq_true rfl) (Nat.le_of_ble_eq_true rfl)
  · have hf := ite_e z3 hf
    by_cases k5 : r1.1 = 2
    · rw [k5]
      have hf := ite_t k5 hf
      refine EX_catch (X := "java/util/NoSuchElementException") [] [(0, 10, 17, 21)] 0 10 13 47 rfl (fun _ h => nomatch h) ⟨by decide, by decide⟩ (by decide) kk_L_47 kt_java_util_NoSuchElementException (fun q => ?_)
      refine E_astore 15 [(4, .ref q), (0, .ref (gaC g 0)), (1, .int a1), (2, .int a2), (3, .ref (gao g 0))] dL_reasonRule_13 (by decide) rfl rfl ?_
      refine E_iconst 16 1 dL_reasonRule_15 cst_iconst1 rfl ?_
      cases hf
      exact E_iret dL_reasonRule_16 rfl (Nat.le_of_ble_eq_true rfl) (Nat.le_of_ble_eq_true rfl)
    have hf := ite_e k5 hf
    by_cases k6 : r1.1 = 1
    · rw [k6]
      have hf := ite_t k6 hf
      refine EX_catch (X := "java/lang/IndexOutOfBoundsException") [(0, 10, 13, 47)] [] 0 10 17 21 rfl (List.forall_mem_cons.mpr ⟨⟨_, kk_L_47, nc_71, by decide⟩, fun _ h => nomatch h⟩) ⟨by decide, by decide⟩ (by decide) kk_L_21 kt_java_lang_IndexOutOfBoundsException (fun q => ?_)
      refine E_astore 19 [(4, .ref q), (0, .ref (gaC g 0)), (1, .int a1), (2, .int a2), (3, .ref (gao g 0))] dL_reasonRule_17 (by decide) rfl rfl ?_
      refine E_iconst 20 2 dL_reasonRule_19 cst_iconst2 rfl ?_
      cases hf
      exact E_iret dL_reasonRule_20 rfl (Nat.le_of_ble_eq_true rfl) (Nat.le_of_ble_eq_true rfl)
    have hf := ite_e k6 hf
    cases hf
set_option maxRecDepth 100000 in
set_option maxHeartbeats 4000000 in
theorem l_X3_countTests_L5 {l : Launch} {g : Gt} (hl : l.stackTraces = false) {μ : Mm} {ν : Mm} {o : Nat → Int64} {dd : Nat → UInt64}  {x1 : Int32} {x2 : Int32} {res : Int32} : ∀ (n : Nat) (x3 : Int32) (x4 : Int32) , f_X3_countTests_L5 x1 x2 μ n x3 x4 = some res → E l g z_X3_countTests 5 [(0, .ref (gaC g 13)), (1, .int x1), (2, .int x2), (3, .int x3), (4, .int x4)] [] (μ, ν, o, dd) 0 (QM g (.inl (some (.int res))) (μ, ν, o, dd) 0) := by
  intro n
  induction n with
  | zero => intro x3 x4 hf; cases hf
  | succ n ih =>
    intro x3 x4 hf
    refine E_iload 7 4 dX3_countTests_5 rfl rfl ?_
    refine E_aload_n 8 0 dX3_countTests_7 rfl rfl rfl ?_
    refine E_getCr 11 fg_X3_38 dX3_countTests_8 rfl ?_
    refine E_iload_n 12 1 dX3_countTests_11 rfl rfl rfl ?_
    obtain ⟨h1, hf⟩ := chk_some hf
    refine E_ialdC 13 (k := 22) (n := 30) rfl (by decide) h1 dX3_countTests_12 rfl ?_
    refine E_icmp_ge 44 16 dX3_countTests_13 (by decide) rfl (fun c2 => ?_) (fun c2 => ?_)
    · have hf := ite_t c2 hf
      refine E_iload_n 45 3 dX3_countTests_44 rfl rfl rfl ?_
      cases hf
      exact E_iret dX3_countTests_45 rfl (Nat.le_of_ble_eq_true rfl) (Nat.le_of_ble_eq_true rfl)
    · have hf := ite_e c2 hf
      refine E_iload_n 17 2 dX3_countTests_16 rfl rfl rfl ?_
      refine E_aload_n 18 0 dX3_countTests_17 rfl rfl rfl ?_
      refine E_getCr 21 fg_X3_41 dX3_countTests_18 rfl ?_
      refine E_iload_n 22 1 dX3_countTests_21 rfl rfl rfl ?_
      refine E_bipush 24 8 dX3_countTests_22 cst_bipush8 rfl ?_
      refine E_imul 25 dX3_countTests_24 rfl ?_
      refine E_iload 27 4 dX3_countTests_25 rfl rfl ?_
      refine E_iadd 28 dX3_countTests_27 rfl ?_
      obtain ⟨h3, hf⟩ := chk_some hf
      refine E_ialdC 29 (k := 23) (n := 240) rfl (by decide) h3 dX3_countTests_28 rfl ?_
      obtain ⟨r4, hc5, hf⟩ := bnd hf
      refine E_callSN1 32 0 [] [.int r4] (c_X7_hasBit hl hc5) my_X7_hasBit kl_X3_75 rfl rfl (Nat.le_of_ble_eq_true rfl) (rmok rfl) dX3_countTests_29 rfl rfl rfl ?_
      refine E_if_eq 38 35 dX3_countTests_32 (by decide) rfl (fun c6 => ?_) (fun c6 => ?_)
      · have hf := ite_t c6 hf
        refine E_iinc 41 [(4, .int (x4 + 1)), (0, .ref (gaC g 13)), (1, .int x1), (2, .int x2), (3, .int x3)] 4 (v := x4 + 1) dX3_countTests_38 rfl (by rw [cst_iconst1]) (by decide) rfl rfl ?_
        refine E_goto 5 dX3_countTests_41 (by decide) ?_
        refine E_sub [1, 2, 3, 4, 0] rfl ?_
        exact ih x3 (x4 + 1) hf
      · have hf := ite_e c6 hf
        refine E_iinc 38 [(3, .int (x3 + 1)), (0, .ref (gaC g 13)), (1, .int x1), (2, .int x2), (4, .int x4)] 3 (v := x3 + 1) dX3_countTests_35 rfl (by rw [cst_iconst1]) (by decide) rfl rfl ?_
        refine E_iinc 41 [(4, .int (x4 + 1)), (3, .int (x3 + 1)), (0, .ref (gaC g 13)), (1, .int x1), (2, .int x2)] 4 (v := x4 + 1) dX3_countTests_38 rfl (by rw [cst_iconst1]) (by decide) rfl rfl ?_
        refine E_goto 5 dX3_countTests_41 (by decide) ?_
        refine E_sub [2, 3, 4, 1, 0] rfl ?_
        exact ih (x3 + 1) (x4 + 1) hf
set_option maxRecDepth 100000 in
set_option maxHeartbeats 4000000 in
theorem c_X3_countTests {l : Launch} {g : Gt} (hl : l.stackTraces = false) {a1 : Int32} {a2 : Int32} {μ : Mm} {ν : Mm} {o : Nat → Int64} {dd : Nat → UInt64} {res : Int32} (hf : f_X3_countTests a1 a2 μ = some res) : CM l g z_X3_countTests yX3_countTests [.ref (gaC g 13), .int a1, .int a2] (μ, ν, o, dd) 0 (.inl (some (.int res))) (μ, ν, o, dd) := by
  unfold f_X3_countTests at hf
  refine CM_of_E rfl rfl (by decide +kernel) rfl (Nat.le_of_ble_eq_true rfl) hl ?_
  refine E_iconst 1 0 dX3_countTests_0 cst_iconst0 rfl ?_
  refine E_istore_n 2 [(3, .int 0), (0, .ref (gaC g 13)), (1, .int a1), (2, .int a2)] dX3_countTests_1 rfl (by decide) rfl rfl ?_
  refine E_iconst 3 0 dX3_countTests_2 cst_iconst0 rfl ?_
  refine E_istore 5 [(4, .int 0), (3, .int 0), (0, .ref (gaC g 13)), (1, .int a1), (2, .int a2)] dX3_countTests_3 (by decide) rfl rfl ?_
  refine E_sub [2, 3, 4, 1, 0] rfl ?_
  refine l_X3_countTests_L5 hl  _ _ _ hf
set_option maxRecDepth 100000 in
set_option maxHeartbeats 4000000 in
theorem c_X7_reasonTests {l : Launch} {g : Gt} (hl : l.stackTraces = false) {a1 : Int32} {a2 : Int32} {μ : Mm} {ν : Mm} {o : Nat → Int64} {dd : Nat → UInt64} {res : Nat × Int32} (hf : f_X7_reasonTests a1 a2 μ = some res) : CM l g z_X7_reasonTests yX7_reasonTests [.ref (gaC g 0), .int a1, .int a2] (μ, ν, o, dd) 2 (oc3 res.1 (some (.int res.2))) (μ, ν, o, dd) := by
  unfold f_X7_reasonTests at hf
  refine CM_of_E rfl rfl (by decide +kernel) rfl (Nat.le_of_ble_eq_true rfl) hl ?_
  refine E_aload_n 1 0 dX7_reasonTests_0 rfl rfl rfl ?_
  refine E_iload_n 2 1 dX7_reasonTests_1 rfl rfl rfl ?_
  obtain ⟨r1, hc2, hf⟩ := bnd hf
  refine E_callVC2 5 1 [] [] (c_X7_requirePayment hl hc2) my_X7_requirePayment rc_X7 kl_X7_137 rfl rfl (Nat.le_of_ble_eq_true rfl) (rmok rfl) dX7_reasonTests_2 rfl rfl rfl (fun z3 => ?_) (fun z3 => ?_)
  · have hf := ite_t z3 hf
    refine E_aload_n 6 0 dX7_reasonTests_5 rfl rfl rfl ?_
    refine E_getCr 9 fg_X7_26 dX7_reasonTests_6 rfl ?_
    refine E_getCrN 12 fg_X7_229 dX7_reasonTests_9 rfl ?_
    refine E_aload_n 13 0 dX7_reasonTests_12 rfl rfl rfl ?_
    refine E_iload_n 14 1 dX7_reasonTests_13 rfl rfl rfl ?_
    refine E_iload_n 15 2 dX7_reasonTests_14 rfl rfl rfl ?_
    obtain ⟨r4, hc5, hf⟩ := bnd hf
    refine E_callVC2 18 2 [.ref (gaC g 27)] [.int r4.2, .ref (gaC g 27)] (c_X7_ruleOfReason hl hc5) my_X7_ruleOfReason rc_X7 kl_X7_226 rfl rfl (Nat.le_of_ble_eq_true rfl) (rmok rfl) dX7_reasonTests_15 rfl rfl rfl (fun z6 => ?_) (fun z6 => ?_)
    · have hf := ite_t z6 hf
      obtain ⟨h7, hf⟩ := chk_some hf
      refine E_ialdC 19 (k := 27) (n := 12) rfl (by decide) h7 dX7_reasonTests_18 rfl ?_
      refine E_istore_n 20 [(3, .int (μ 27 r4.2.toNatClampNeg)), (0, .ref (gaC g 0)), (1, .int a1), (2, .int a2)] dX7_reasonTests_19 rfl (by decide) rfl rfl ?_
      refine E_aload_n 21 1 dX7_reasonTests_20 rfl rfl rfl ?_
      refine E_getCr 24 fg_X7_19 dX7_reasonTests_21 rfl ?_
      refine E_iload_n 25 0 dX7_reasonTests_24 rfl rfl rfl ?_
      refine E_aload_n 26 1 dX7_reasonTests_25 rfl rfl rfl ?_
      refine E_getCr 29 fg_X7_33 dX7_reasonTests_26 rfl ?_
      refine E_getCrN 32 fg_X7_231 dX7_reasonTests_29 rfl ?_
      refine E_iload_n 33 2 dX7_reasonTests_32 rfl rfl rfl ?_
      obtain ⟨h8, hf⟩ := chk_some hf
      refine E_ialdC 34 (k := 33) (n := 200) rfl (by decide) h8 dX7_reasonTests_33 rfl ?_
      obtain ⟨r9, hc10, hf⟩ := bnd hf
      refine E_callVC1 37 2 [] [.int r9] (c_X3_countTests hl hc10) my_X3_countTests rc_X3 kl_X7_234 rfl rfl (Nat.le_of_ble_eq_true rfl) (rmok rfl) dX7_reasonTests_34 rfl rfl rfl ?_
      cases hf
      exact E_iret dX7_reasonTests_37 rfl (Nat.le_of_ble_eq_true rfl) (Nat.le_of_ble_eq_true rfl)
    · have hf := ite_e z6 hf
      cases hf
      exact EX_outc rfl z6 (Nat.le_of_ble_eq_true rfl) (Nat.le_of_ble_eq_true rfl)
  · have hf := ite_e z3 hf
    cases hf
    exact EX_outc rfl z3 (Nat.le_of_ble_eq_true rfl) (Nat.le_of_ble_eq_true rfl)
set_option maxRecDepth 100000 in
set_option maxHeartbeats 4000000 in
theorem c_L_reasonTests_0_o {l : Launch} {g : Gt} (hl : l.stackTraces = false) {a1 : Int32} {a2 : Int32} {μ : Mm} {ν : Mm} {o : Nat → Int64} {dd : Nat → UInt64} {res : Int32 × (Nat → Int64)} (hf : f_L_reasonTests_0_o a1 a2 μ o = some res) : CM l g z_L_reasonTests yL_reasonTests [.ref (gaC g 0), .int a1, .int a2, .ref (gao g 0)] (μ, ν, o, dd) 2 (.inl (some (.int res.1))) (μ, ν, res.2, dd) := by
  unfold f_L_reasonTests_0_o at hf
  refine CM_of_EH rfl rfl (by decide +kernel) rfl (Nat.le_of_ble_eq_true rfl) hl ?_
  refine E_aload_n 1 3 dL_reasonTests_0 rfl rfl rfl ?_
  refine E_iconst 2 0 dL_reasonTests_1 cst_iconst0 rfl ?_
  refine E_aload_n 3 0 dL_reasonTests_2 rfl rfl rfl ?_
  refine E_iload_n 4 1 dL_reasonTests_3 rfl rfl rfl ?_
  refine E_iload_n 5 2 dL_reasonTests_4 rfl rfl rfl ?_
  obtain ⟨r1, hc2, hf⟩ := bnd hf
  refine E_callVC2 8 2 [.int 0, .ref (gao g 0)] [.int r1.2, .int 0, .ref (gao g 0)] (c_X7_reasonTests hl hc2) my_X7_reasonTests rc_X7 kl_L_101 rfl rfl (Nat.le_of_ble_eq_true rfl) (rmok rfl) dL_reasonTests_5 rfl rfl rfl (fun z3 => ?_) (fun z3 => ?_)
  · have hf := ite_t z3 hf
    refine E_i2l 9 dL_reasonTests_8 rfl ?_
    obtain ⟨h4, hf⟩ := chk_some hf
    refine E_last 10 h4 dL_reasonTests_9 rfl ?_
    refine E_goto 21 dL_reasonTests_10 (by decide) ?_
    refine E_iconst 22 0 dL_reasonTests_21 cst_iconst0 rfl ?_
    cases hf
    exact E_iret dL_reasonTests_22 rfl (Nat.le_of_ble_eq_true rfl) (Nat.le_of_ble_eq_true rfl)
  · have hf := ite_e z3 hf
    by_cases k5 : r1.1 = 2
    · rw [k5]
      have hf := ite_t k5 hf
      refine EX_catch (X := "java/util/NoSuchElementException") [] [(0, 10, 17, 21)] 0 10 13 47 rfl (fun _ h => nomatch h) ⟨by decide, by decide⟩ (by decide) kk_L_47 kt_java_util_NoSuchElementException (fun q => ?_)
      refine E_astore 15 [(4, .ref q), (0, .ref (gaC g 0)), (1, .int a1), (2, .int a2), (3, .ref (gao g 0))] dL_reasonTests_13 (by decide) rfl rfl ?_
      refine E_iconst 16 1 dL_reasonTests_15 cst_iconst1 rfl ?_
      cases hf
      exact E_iret dL_reasonTests_16 rfl (Nat.le_of_ble_eq_true rfl) (Nat.le_of_ble_eq_true rfl)
    have hf := ite_e k5 hf
    by_cases k6 : r1.1 = 1
    · rw [k6]
      have hf := ite_t k6 hf
      refine EX_catch (X := "java/lang/IndexOutOfBoundsException") [(0, 10, 13, 47)] [] 0 10 17 21 rfl (List.forall_mem_cons.mpr ⟨⟨_, kk_L_47, nc_71, by decide⟩, fun _ h => nomatch h⟩) ⟨by decide, by decide⟩ (by decide) kk_L_21 kt_java_lang_IndexOutOfBoundsException (fun q => ?_)
      refine E_astore 19 [(4, .ref q), (0, .ref (gaC g 0)), (1, .int a1), (2, .int a2), (3, .ref (gao g 0))] dL_reasonTests_17 (by decide) rfl rfl ?_
      refine E_iconst 20 2 dL_reasonTests_19 cst_iconst2 rfl ?_
      cases hf
      exact E_iret dL_reasonTests_20 rfl (Nat.le_of_ble_eq_true rfl) (Nat.le_of_ble_eq_true rfl)
    have hf := ite_e k6 hf
    cases hf
set_option maxRecDepth 100000 in
set_option maxHeartbeats 4000000 in
theorem l_X3_testAtRank_L6 {l : Launch} {g : Gt} (hl : l.stackTraces = false) {μ : Mm} {ν : Mm} {o : Nat → Int64} {dd : Nat → UInt64}  {x1 : Int32} {x2 : Int32} {x3 : Int32} {res : Int32} : ∀ (n : Nat) (x4 : Int32) (x5 : Int32) , f_X3_testAtRank_L6 x1 x2 x3 μ n x4 x5 = some res → E l g z_X3_testAtRank 6 [(0, .ref (gaC g 13)), (1, .int x1), (2, .int x2), (3, .int x3), (4, .int x4), (5, .int x5)] [] (μ, ν, o, dd) 0 (QM g (.inl (some (.int res))) (μ, ν, o, dd) 0) := by
  intro n
  induction n with
  | zero => intro x4 x5 hf; cases hf
  | succ n ih =>
    intro x4 x5 hf
    refine E_iload 8 5 dX3_testAtRank_6 rfl rfl ?_
    refine E_aload_n 9 0 dX3_testAtRank_8 rfl rfl rfl ?_
    refine E_getCr 12 fg_X3_38 dX3_testAtRank_9 rfl ?_
    refine E_iload_n 13 1 dX3_testAtRank_12 rfl rfl rfl ?_
    obtain ⟨h1, hf⟩ := chk_some hf
    refine E_ialdC 14 (k := 22) (n := 30) rfl (by decide) h1 dX3_testAtRank_13 rfl ?_
    refine E_icmp_ge 58 17 dX3_testAtRank_14 (by decide) rfl (fun c2 => ?_) (fun c2 => ?_)
    · have hf := ite_t c2 hf
      refine E_iconst 59 (-1) dX3_testAtRank_58 cst_iconstn1 rfl ?_
      cases hf
      exact E_iret dX3_testAtRank_59 rfl (Nat.le_of_ble_eq_true rfl) (Nat.le_of_ble_eq_true rfl)
    · have hf := ite_e c2 hf
      refine E_aload_n 18 0 dX3_testAtRank_17 rfl rfl rfl ?_
      refine E_getCr 21 fg_X3_41 dX3_testAtRank_18 rfl ?_
      refine E_iload_n 22 1 dX3_testAtRank_21 rfl rfl rfl ?_
      refine E_bipush 24 8 dX3_testAtRank_22 cst_bipush8 rfl ?_
      refine E_imul 25 dX3_testAtRank_24 rfl ?_
      refine E_iload 27 5 dX3_testAtRank_25 rfl rfl ?_
      refine E_iadd 28 dX3_testAtRank_27 rfl ?_
      obtain ⟨h3, hf⟩ := chk_some hf
      refine E_ialdC 29 (k := 23) (n := 240) rfl (by decide) h3 dX3_testAtRank_28 rfl ?_
      refine E_istore 31 [(6, .int (μ 23 ((x1 * 8) + x5).toNatClampNeg)), (0, .ref (gaC g 13)), (1, .int x1), (2, .int x2), (3, .int x3), (4, .int x4), (5, .int x5)] dX3_testAtRank_29 (by decide) rfl rfl ?_
      refine E_iload_n 32 3 dX3_testAtRank_31 rfl rfl rfl ?_
      refine E_iload 34 0 dX3_testAtRank_32 rfl rfl ?_
      obtain ⟨r4, hc5, hf⟩ := bnd hf
      refine E_callSN1 37 0 [] [.int r4] (c_X7_hasBit hl hc5) my_X7_hasBit kl_X3_75 rfl rfl (Nat.le_of_ble_eq_true rfl) (rmok rfl) dX3_testAtRank_34 rfl rfl rfl ?_
      refine E_if_eq 52 40 dX3_testAtRank_37 (by decide) rfl (fun c6 => ?_) (fun c6 => ?_)
      · have hf := ite_t c6 hf
        refine E_iinc 55 [(5, .int (x5 + 1)), (6, .int (μ 23 ((x1 * 8) + x5).toNatClampNeg)), (0, .ref (gaC g 13)), (1, .int x1), (2, .int x2), (3, .int x3), (4, .int x4)] 6 (v := x5 + 1) dX3_testAtRank_52 rfl (by rw [cst_iconst1]) (by decide) rfl rfl ?_
        refine E_goto 6 dX3_testAtRank_55 (by decide) ?_
        refine E_sub [2, 3, 4, 5, 6, 0] rfl ?_
        exact ih x4 (x5 + 1) hf
      · have hf := ite_e c6 hf
        refine E_iload 42 5 dX3_testAtRank_40 rfl rfl ?_
        refine E_iload_n 43 4 dX3_testAtRank_42 rfl rfl rfl ?_
        refine E_icmp_ne 49 46 dX3_testAtRank_43 (by decide) rfl (fun c7 => ?_) (fun c7 => ?_)
        · have hf := ite_e c7 hf
          refine E_iinc 52 [(4, .int (x4 + 1)), (6, .int (μ 23 ((x1 * 8) + x5).toNatClampNeg)), (0, .ref (gaC g 13)), (1, .int x1), (2, .int x2), (3, .int x3), (5, .int x5)] 5 (v := x4 + 1) dX3_testAtRank_49 rfl (by rw [cst_iconst1]) (by decide) rfl rfl ?_
          refine E_iinc 55 [(5, .int (x5 + 1)), (4, .int (x4 + 1)), (6, .int (μ 23 ((x1 * 8) + x5).toNatClampNeg)), (0, .ref (gaC g 13)), (1, .int x1), (2, .int x2), (3, .int x3)] 6 (v := x5 + 1) dX3_testAtRank_52 rfl (by rw [cst_iconst1]) (by decide) rfl rfl ?_
          refine E_goto 6 dX3_testAtRank_55 (by decide) ?_
          refine E_sub [3, 4, 5, 6, 1, 0] rfl ?_
          exact ih (x4 + 1) (x5 + 1) hf
        · have hf := ite_t c7 hf
          refine E_iload 48 0 dX3_testAtRank_46 rfl rfl ?_
          cases hf
          exact E_iret dX3_testAtRank_48 rfl (Nat.le_of_ble_eq_true rfl) (Nat.le_of_ble_eq_true rfl)
set_option maxRecDepth 100000 in
set_option maxHeartbeats 4000000 in
theorem c_X3_testAtRank {l : Launch} {g : Gt} (hl : l.stackTraces = false) {a1 : Int32} {a2 : Int32} {a3 : Int32} {μ : Mm} {ν : Mm} {o : Nat → Int64} {dd : Nat → UInt64} {res : Int32} (hf : f_X3_testAtRank a1 a2 a3 μ = some res) : CM l g z_X3_testAtRank yX3_testAtRank [.ref (gaC g 13), .int a1, .int a2, .int a3] (μ, ν, o, dd) 0 (.inl (some (.int res))) (μ, ν, o, dd) := by
  unfold f_X3_testAtRank at hf
  refine CM_of_E rfl rfl (by decide +kernel) rfl (Nat.le_of_ble_eq_true rfl) hl ?_
  refine E_iconst 1 0 dX3_testAtRank_0 cst_iconst0 rfl ?_
  refine E_istore 3 [(4, .int 0), (0, .ref (gaC g 13)), (1, .int a1), (2, .int a2), (3, .int a3)] dX3_testAtRank_1 (by decide) rfl rfl ?_
  refine E_iconst 4 0 dX3_testAtRank_3 cst_iconst0 rfl ?_
  refine E_istore 6 [(5, .int 0), (4, .int 0), (0, .ref (gaC g 13)), (1, .int a1), (2, .int a2), (3, .int a3)] dX3_testAtRank_4 (by decide) rfl rfl ?_
  refine E_sub [2, 3, 4, 5, 1, 0] rfl ?_
  refine l_X3_testAtRank_L6 hl  _ _ _ hf
set_option maxRecDepth 100000 in
set_option maxHeartbeats 4000000 in
theorem c_X7_testOfReason {l : Launch} {g : Gt} (hl : l.stackTraces = false) {a1 : Int32} {a2 : Int32} {a3 : Int32} {μ : Mm} {ν : Mm} {o : Nat → Int64} {dd : Nat → UInt64} {res : Nat × Int32} (hf : f_X7_testOfReason a1 a2 a3 μ = some res) : CM l g z_X7_testOfReason yX7_testOfReason [.ref (gaC g 0), .int a1, .int a2, .int a3] (μ, ν, o, dd) 2 (oc3 res.1 (some (.int res.2))) (μ, ν, o, dd) := by
  unfold f_X7_testOfReason at hf
  refine CM_of_E rfl rfl (by decide +kernel) rfl (Nat.le_of_ble_eq_true rfl) hl ?_
  refine E_aload_n 1 0 dX7_testOfReason_0 rfl rfl rfl ?_
  refine E_getCr 4 fg_X7_26 dX7_testOfReason_1 rfl ?_
  refine E_getCrN 7 fg_X7_229 dX7_testOfReason_4 rfl ?_
  refine E_aload_n 8 0 dX7_testOfReason_7 rfl rfl rfl ?_
  refine E_iload_n 9 1 dX7_testOfReason_8 rfl rfl rfl ?_
  refine E_iload_n 10 2 dX7_testOfReason_9 rfl rfl rfl ?_
  obtain ⟨r1, hc2, hf⟩ := bnd hf
  refine E_callVC2 13 1 [.ref (gaC g 27)] [.int r1.2, .ref (gaC g 27)] (c_X7_ruleOfReason hl hc2) my_X7_ruleOfReason rc_X7 kl_X7_226 rfl rfl (Nat.le_of_ble_eq_true rfl) (rmok rfl) dX7_testOfReason_10 rfl rfl rfl (fun z3 => ?_) (fun z3 => ?_)
  · have hf := ite_t z3 hf
    obtain ⟨h4, hf⟩ := chk_some hf
    refine E_ialdC 14 (k := 27) (n := 12) rfl (by decide) h4 dX7_testOfReason_13 rfl ?_
    refine E_istore 16 [(4, .int (μ 27 r1.2.toNatClampNeg)), (0, .ref (gaC g 0)), (1, .int a1), (2, .int a2), (3, .int a3)] dX7_testOfReason_14 (by decide) rfl rfl ?_
    refine E_aload_n 17 1 dX7_testOfReason_16 rfl rfl rfl ?_
    refine E_getCr 20 fg_X7_19 dX7_testOfReason_17 rfl ?_
    refine E_iload 22 0 dX7_testOfReason_20 rfl rfl ?_
    refine E_aload_n 23 1 dX7_testOfReason_22 rfl rfl rfl ?_
    refine E_getCr 26 fg_X7_33 dX7_testOfReason_23 rfl ?_
    refine E_getCrN 29 fg_X7_231 dX7_testOfReason_26 rfl ?_
    refine E_iload_n 30 2 dX7_testOfReason_29 rfl rfl rfl ?_
    obtain ⟨h5, hf⟩ := chk_some hf
    refine E_ialdC 31 (k := 33) (n := 200) rfl (by decide) h5 dX7_testOfReason_30 rfl ?_
    refine E_iload_n 32 4 dX7_testOfReason_31 rfl rfl rfl ?_
    obtain ⟨r6, hc7, hf⟩ := bnd hf
    refine E_callVC1 35 1 [] [.int r6] (c_X3_testAtRank hl hc7) my_X3_testAtRank rc_X3 kl_X7_327 rfl rfl (Nat.le_of_ble_eq_true rfl) (rmok rfl) dX7_testOfReason_32 rfl rfl rfl ?_
    refine E_istore 37 [(5, .int r6), (4, .int (μ 27 r1.2.toNatClampNeg)), (0, .ref (gaC g 0)), (1, .int a1), (2, .int a2), (3, .int a3)] dX7_testOfReason_35 (by decide) rfl rfl ?_
    refine E_iload 39 0 dX7_testOfReason_37 rfl rfl ?_
    refine E_iconst 40 (-1) dX7_testOfReason_39 cst_iconstn1 rfl ?_
    refine E_icmp_ne 54 43 dX7_testOfReason_40 (by decide) rfl (fun c8 => ?_) (fun c8 => ?_)
    · have hf := ite_e c8 hf
      refine E_iload 56 0 dX7_testOfReason_54 rfl rfl ?_
      cases hf
      exact E_iret dX7_testOfReason_56 rfl (Nat.le_of_ble_eq_true rfl) (Nat.le_of_ble_eq_true rfl)
    · have hf := ite_t c8 hf
      cases hf
      exact E_throwW th_X7_257_261 tx_330 rfl dX7_testOfReason_43 dX7_testOfReason_46 dX7_testOfReason_47 dX7_testOfReason_50 dX7_testOfReason_53 (Nat.le_of_ble_eq_true rfl) (Nat.le_of_ble_eq_true rfl) (Nat.le_of_ble_eq_true rfl) (Nat.le_of_ble_eq_true rfl) (Nat.le_of_ble_eq_true rfl) (Nat.le_of_ble_eq_true rfl)
  · have hf := ite_e z3 hf
    cases hf
    exact EX_outc rfl z3 (Nat.le_of_ble_eq_true rfl) (Nat.le_of_ble_eq_true rfl)
set_option maxRecDepth 100000 in
set_option maxHeartbeats 4000000 in
theorem c_X7_reasonFeature {l : Launch} {g : Gt} (hl : l.stackTraces = false) {a1 : Int32} {a2 : Int32} {a3 : Int32} {μ : Mm} {ν : Mm} {o : Nat → Int64} {dd : Nat → UInt64} {res : Nat × Int32} (hf : f_X7_reasonFeature a1 a2 a3 μ = some res) : CM l g z_X7_reasonFeature yX7_reasonFeature [.ref (gaC g 0), .int a1, .int a2, .int a3] (μ, ν, o, dd) 3 (oc3 res.1 (some (.int res.2))) (μ, ν, o, dd) := by
  unfold f_X7_reasonFeature at hf
  refine CM_of_E rfl rfl (by decide +kernel) rfl (Nat.le_of_ble_eq_true rfl) hl ?_
  refine E_aload_n 1 0 dX7_reasonFeature_0 rfl rfl rfl ?_
  refine E_iload_n 2 1 dX7_reasonFeature_1 rfl rfl rfl ?_
  obtain ⟨r1, hc2, hf⟩ := bnd hf
  refine E_callVC2 5 1 [] [] (c_X7_requirePayment hl hc2) my_X7_requirePayment rc_X7 kl_X7_137 rfl rfl (Nat.le_of_ble_eq_true rfl) (rmok rfl) dX7_reasonFeature_2 rfl rfl rfl (fun z3 => ?_) (fun z3 => ?_)
  · have hf := ite_t z3 hf
    refine E_aload_n 6 0 dX7_reasonFeature_5 rfl rfl rfl ?_
    refine E_getCr 9 fg_X7_19 dX7_reasonFeature_6 rfl ?_
    refine E_getCrN 12 fg_X7_237 dX7_reasonFeature_9 rfl ?_
    refine E_aload_n 13 0 dX7_reasonFeature_12 rfl rfl rfl ?_
    refine E_iload_n 14 1 dX7_reasonFeature_13 rfl rfl rfl ?_
    refine E_iload_n 15 2 dX7_reasonFeature_14 rfl rfl rfl ?_
    refine E_iload_n 16 3 dX7_reasonFeature_15 rfl rfl rfl ?_
    obtain ⟨r4, hc5, hf⟩ := bnd hf
    refine E_callVC2 19 3 [.ref (gaC g 16)] [.int r4.2, .ref (gaC g 16)] (c_X7_testOfReason hl hc5) my_X7_testOfReason rc_X7 kl_X7_240 rfl rfl (Nat.le_of_ble_eq_true rfl) (rmok rfl) dX7_reasonFeature_16 rfl rfl rfl (fun z6 => ?_) (fun z6 => ?_)
    · have hf := ite_t z6 hf
      obtain ⟨h7, hf⟩ := chk_some hf
      refine E_caldC 20 (k := 16) (n := 30) rfl (by decide) h7 dX7_reasonFeature_19 rfl ?_
      obtain ⟨h8, hf⟩ := gn_c hf
      cases hf
      exact E_zret h8 dX7_reasonFeature_20 rfl (Nat.le_of_ble_eq_true rfl) (Nat.le_of_ble_eq_true rfl)
    · have hf := ite_e z6 hf
      cases hf
      exact EX_outc rfl z6 (Nat.le_of_ble_eq_true rfl) (Nat.le_of_ble_eq_true rfl)
  · have hf := ite_e z3 hf
    cases hf
    exact EX_outc rfl z3 (Nat.le_of_ble_eq_true rfl) (Nat.le_of_ble_eq_true rfl)
set_option maxRecDepth 100000 in
set_option maxHeartbeats 4000000 in
theorem c_L_reasonFeature_0_o {l : Launch} {g : Gt} (hl : l.stackTraces = false) {a1 : Int32} {a2 : Int32} {a3 : Int32} {μ : Mm} {ν : Mm} {o : Nat → Int64} {dd : Nat → UInt64} {res : Int32 × (Nat → Int64)} (hf : f_L_reasonFeature_0_o a1 a2 a3 μ o = some res) : CM l g z_L_reasonFeature yL_reasonFeature [.ref (gaC g 0), .int a1, .int a2, .int a3, .ref (gao g 0)] (μ, ν, o, dd) 3 (.inl (some (.int res.1))) (μ, ν, res.2, dd) := by
  unfold f_L_reasonFeature_0_o at hf
  refine CM_of_EH rfl rfl (by decide +kernel) rfl (Nat.le_of_ble_eq_true rfl) hl ?_
  refine E_aload 2 4 dL_reasonFeature_0 rfl rfl ?_
  refine E_iconst 3 0 dL_reasonFeature_2 cst_iconst0 rfl ?_
  refine E_aload_n 4 0 dL_reasonFeature_3 rfl rfl rfl ?_
  refine E_iload_n 5 1 dL_reasonFeature_4 rfl rfl rfl ?_
  refine E_iload_n 6 2 dL_reasonFeature_5 rfl rfl rfl ?_
  refine E_iload_n 7 3 dL_reasonFeature_6 rfl rfl rfl ?_
  obtain ⟨r1, hc2, hf⟩ := bnd hf
  refine E_callVC2 10 3 [.int 0, .ref (gao g 0)] [.int r1.2, .int 0, .ref (gao g 0)] (c_X7_reasonFeature hl hc2) my_X7_reasonFeature rc_X7 kl_L_104 rfl rfl (Nat.le_of_ble_eq_true rfl) (rmok rfl) dL_reasonFeature_7 rfl rfl rfl (fun z3 => ?_) (fun z3 => ?_)
  · have hf := ite_t z3 hf
    refine E_i2l 11 dL_reasonFeature_10 rfl ?_
    obtain ⟨h4, hf⟩ := chk_some hf
    refine E_last 12 h4 dL_reasonFeature_11 rfl ?_
    refine E_goto 23 dL_reasonFeature_12 (by decide) ?_
    refine E_iconst 24 0 dL_reasonFeature_23 cst_iconst0 rfl ?_
    cases hf
    exact E_iret dL_reasonFeature_24 rfl (Nat.le_of_ble_eq_true rfl) (Nat.le_of_ble_eq_true rfl)
  · have hf := ite_e z3 hf
    by_cases k5 : r1.1 = 2
    · rw [k5]
      have hf := ite_t k5 hf
      refine EX_catch (X := "java/util/NoSuchElementException") [] [(0, 12, 19, 21)] 0 12 15 47 rfl (fun _ h => nomatch h) ⟨by decide, by decide⟩ (by decide) kk_L_47 kt_java_util_NoSuchElementException (fun q => ?_)
      refine E_astore 17 [(5, .ref q), (0, .ref (gaC g 0)), (1, .int a1), (2, .int a2), (3, .int a3), (4, .ref (gao g 0))] dL_reasonFeature_15 (by decide) rfl rfl ?_
      refine E_iconst 18 1 dL_reasonFeature_17 cst_iconst1 rfl ?_
      cases hf
      exact E_iret dL_reasonFeature_18 rfl (Nat.le_of_ble_eq_true rfl) (Nat.le_of_ble_eq_true rfl)
    have hf := ite_e k5 hf
    by_cases k6 : r1.1 = 1
    · rw [k6]
      have hf := ite_t k6 hf
      refine EX_catch (X := "java/lang/IndexOutOfBoundsException") [(0, 12, 15, 47)] [] 0 12 19 21 rfl (List.forall_mem_cons.mpr ⟨⟨_, kk_L_47, nc_71, by decide⟩, fun _ h => nomatch h⟩) ⟨by decide, by decide⟩ (by decide) kk_L_21 kt_java_lang_IndexOutOfBoundsException (fun q => ?_)
      refine E_astore 21 [(5, .ref q), (0, .ref (gaC g 0)), (1, .int a1), (2, .int a2), (3, .int a3), (4, .ref (gao g 0))] dL_reasonFeature_19 (by decide) rfl rfl ?_
      refine E_iconst 22 2 dL_reasonFeature_21 cst_iconst2 rfl ?_
      cases hf
      exact E_iret dL_reasonFeature_22 rfl (Nat.le_of_ble_eq_true rfl) (Nat.le_of_ble_eq_true rfl)
    have hf := ite_e k6 hf
    cases hf
set_option maxRecDepth 100000 in
set_option maxHeartbeats 4000000 in
theorem c_X2_foundValue {l : Launch} {g : Gt} (hl : l.stackTraces = false) {a1 : Int32} {a2 : Int32} {μ : Mm} {ν : Mm} {o : Nat → Int64} {dd : Nat → UInt64} {res : Int32} (hf : f_X2_foundValue a1 a2 μ = some res) : CM l g z_X2_foundValue yX2_foundValue [.ref (gaC g 29), .int a1, .int a2] (μ, ν, o, dd) 0 (.inl (some (.int res))) (μ, ν, o, dd) := by
  unfold f_X2_foundValue at hf
  refine CM_of_E rfl rfl (by decide +kernel) rfl (Nat.le_of_ble_eq_true rfl) hl ?_
  refine E_aload_n 1 0 dX2_foundValue_0 rfl rfl rfl ?_
  refine E_getCr 4 fg_X2_25 dX2_foundValue_1 rfl ?_
  refine E_iload_n 5 1 dX2_foundValue_4 rfl rfl rfl ?_
  refine E_bipush 7 30 dX2_foundValue_5 cst_bipush30 rfl ?_
  refine E_imul 8 dX2_foundValue_7 rfl ?_
  refine E_iload_n 9 2 dX2_foundValue_8 rfl rfl rfl ?_
  refine E_iadd 10 dX2_foundValue_9 rfl ?_
  obtain ⟨h1, hf⟩ := chk_some hf
  refine E_ialdC 11 (k := 34) (n := 6000) rfl (by decide) h1 dX2_foundValue_10 rfl ?_
  cases hf
  exact E_iret dX2_foundValue_11 rfl (Nat.le_of_ble_eq_true rfl) (Nat.le_of_ble_eq_true rfl)
set_option maxRecDepth 100000 in
set_option maxHeartbeats 4000000 in
theorem c_X7_reasonValue {l : Launch} {g : Gt} (hl : l.stackTraces = false) {a1 : Int32} {a2 : Int32} {a3 : Int32} {μ : Mm} {ν : Mm} {o : Nat → Int64} {dd : Nat → UInt64} {res : Nat × Int32} (hf : f_X7_reasonValue a1 a2 a3 μ = some res) : CM l g z_X7_reasonValue yX7_reasonValue [.ref (gaC g 0), .int a1, .int a2, .int a3] (μ, ν, o, dd) 3 (oc3 res.1 (some (.int res.2))) (μ, ν, o, dd) := by
  unfold f_X7_reasonValue at hf
  refine CM_of_E rfl rfl (by decide +kernel) rfl (Nat.le_of_ble_eq_true rfl) hl ?_
  refine E_aload_n 1 0 dX7_reasonValue_0 rfl rfl rfl ?_
  refine E_iload_n 2 1 dX7_reasonValue_1 rfl rfl rfl ?_
  obtain ⟨r1, hc2, hf⟩ := bnd hf
  refine E_callVC2 5 1 [] [] (c_X7_requirePayment hl hc2) my_X7_requirePayment rc_X7 kl_X7_137 rfl rfl (Nat.le_of_ble_eq_true rfl) (rmok rfl) dX7_reasonValue_2 rfl rfl rfl (fun z3 => ?_) (fun z3 => ?_)
  · have hf := ite_t z3 hf
    refine E_aload_n 6 0 dX7_reasonValue_5 rfl rfl rfl ?_
    refine E_getCr 9 fg_X7_33 dX7_reasonValue_6 rfl ?_
    refine E_iload_n 10 1 dX7_reasonValue_9 rfl rfl rfl ?_
    refine E_aload_n 11 0 dX7_reasonValue_10 rfl rfl rfl ?_
    refine E_iload_n 12 1 dX7_reasonValue_11 rfl rfl rfl ?_
    refine E_iload_n 13 2 dX7_reasonValue_12 rfl rfl rfl ?_
    refine E_iload_n 14 3 dX7_reasonValue_13 rfl rfl rfl ?_
    obtain ⟨r4, hc5, hf⟩ := bnd hf
    refine E_callVC2 17 3 [.int a1, .ref (gaC g 29)] [.int r4.2, .int a1, .ref (gaC g 29)] (c_X7_testOfReason hl hc5) my_X7_testOfReason rc_X7 kl_X7_240 rfl rfl (Nat.le_of_ble_eq_true rfl) (rmok rfl) dX7_reasonValue_14 rfl rfl rfl (fun z6 => ?_) (fun z6 => ?_)
    · have hf := ite_t z6 hf
      obtain ⟨r7, hc8, hf⟩ := bnd hf
      refine E_callVC1 20 3 [] [.int r7] (c_X2_foundValue hl hc8) my_X2_foundValue rc_X2 kl_X7_243 rfl rfl (Nat.le_of_ble_eq_true rfl) (rmok rfl) dX7_reasonValue_17 rfl rfl rfl ?_
      cases hf
      exact E_iret dX7_reasonValue_20 rfl (Nat.le_of_ble_eq_true rfl) (Nat.le_of_ble_eq_true rfl)
    · have hf := ite_e z6 hf
      cases hf
      exact EX_outc rfl z6 (Nat.le_of_ble_eq_true rfl) (Nat.le_of_ble_eq_true rfl)
  · have hf := ite_e z3 hf
    cases hf
    exact EX_outc rfl z3 (Nat.le_of_ble_eq_true rfl) (Nat.le_of_ble_eq_true rfl)
set_option maxRecDepth 100000 in
set_option maxHeartbeats 4000000 in
theorem c_L_reasonValue_0_o {l : Launch} {g : Gt} (hl : l.stackTraces = false) {a1 : Int32} {a2 : Int32} {a3 : Int32} {μ : Mm} {ν : Mm} {o : Nat → Int64} {dd : Nat → UInt64} {res : Int32 × (Nat → Int64)} (hf : f_L_reasonValue_0_o a1 a2 a3 μ o = some res) : CM l g z_L_reasonValue yL_reasonValue [.ref (gaC g 0), .int a1, .int a2, .int a3, .ref (gao g 0)] (μ, ν, o, dd) 3 (.inl (some (.int res.1))) (μ, ν, res.2, dd) := by
  unfold f_L_reasonValue_0_o at hf
  refine CM_of_EH rfl rfl (by decide +kernel) rfl (Nat.le_of_ble_eq_true rfl) hl ?_
  refine E_aload 2 4 dL_reasonValue_0 rfl rfl ?_
  refine E_iconst 3 0 dL_reasonValue_2 cst_iconst0 rfl ?_
  refine E_aload_n 4 0 dL_reasonValue_3 rfl rfl rfl ?_
  refine E_iload_n 5 1 dL_reasonValue_4 rfl rfl rfl ?_
  refine E_iload_n 6 2 dL_reasonValue_5 rfl rfl rfl ?_
  refine E_iload_n 7 3 dL_reasonValue_6 rfl rfl rfl ?_
  obtain ⟨r1, hc2, hf⟩ := bnd hf
  refine E_callVC2 10 3 [.int 0, .ref (gao g 0)] [.int r1.2, .int 0, .ref (gao g 0)] (c_X7_reasonValue hl hc2) my_X7_reasonValue rc_X7 kl_L_108 rfl rfl (Nat.le_of_ble_eq_true rfl) (rmok rfl) dL_reasonValue_7 rfl rfl rfl (fun z3 => ?_) (fun z3 => ?_)
  · have hf := ite_t z3 hf
    refine E_i2l 11 dL_reasonValue_10 rfl ?_
    obtain ⟨h4, hf⟩ := chk_some hf
    refine E_last 12 h4 dL_reasonValue_11 rfl ?_
    refine E_goto 23 dL_reasonValue_12 (by decide) ?_
    refine E_iconst 24 0 dL_reasonValue_23 cst_iconst0 rfl ?_
    cases hf
    exact E_iret dL_reasonValue_24 rfl (Nat.le_of_ble_eq_true rfl) (Nat.le_of_ble_eq_true rfl)
  · have hf := ite_e z3 hf
    by_cases k5 : r1.1 = 2
    · rw [k5]
      have hf := ite_t k5 hf
      refine EX_catch (X := "java/util/NoSuchElementException") [] [(0, 12, 19, 21)] 0 12 15 47 rfl (fun _ h => nomatch h) ⟨by decide, by decide⟩ (by decide) kk_L_47 kt_java_util_NoSuchElementException (fun q => ?_)
      refine E_astore 17 [(5, .ref q), (0, .ref (gaC g 0)), (1, .int a1), (2, .int a2), (3, .int a3), (4, .ref (gao g 0))] dL_reasonValue_15 (by decide) rfl rfl ?_
      refine E_iconst 18 1 dL_reasonValue_17 cst_iconst1 rfl ?_
      cases hf
      exact E_iret dL_reasonValue_18 rfl (Nat.le_of_ble_eq_true rfl) (Nat.le_of_ble_eq_true rfl)
    have hf := ite_e k5 hf
    by_cases k6 : r1.1 = 1
    · rw [k6]
      have hf := ite_t k6 hf
      refine EX_catch (X := "java/lang/IndexOutOfBoundsException") [(0, 12, 15, 47)] [] 0 12 19 21 rfl (List.forall_mem_cons.mpr ⟨⟨_, kk_L_47, nc_71, by decide⟩, fun _ h => nomatch h⟩) ⟨by decide, by decide⟩ (by decide) kk_L_21 kt_java_lang_IndexOutOfBoundsException (fun q => ?_)
      refine E_astore 21 [(5, .ref q), (0, .ref (gaC g 0)), (1, .int a1), (2, .int a2), (3, .int a3), (4, .ref (gao g 0))] dL_reasonValue_19 (by decide) rfl rfl ?_
      refine E_iconst 22 2 dL_reasonValue_21 cst_iconst2 rfl ?_
      cases hf
      exact E_iret dL_reasonValue_22 rfl (Nat.le_of_ble_eq_true rfl) (Nat.le_of_ble_eq_true rfl)
    have hf := ite_e k6 hf
    cases hf
set_option maxRecDepth 100000 in
set_option maxHeartbeats 4000000 in
theorem c_X2_isAhead {l : Launch} {g : Gt} (hl : l.stackTraces = false) {a1 : Int32} {a2 : Int32} {μ : Mm} {ν : Mm} {o : Nat → Int64} {dd : Nat → UInt64} {res : Int32} (hf : f_X2_isAhead a1 a2 μ = some res) : CM l g z_X2_isAhead yX2_isAhead [.ref (gaC g 29), .int a1, .int a2] (μ, ν, o, dd) 0 (.inl (some (.int res))) (μ, ν, o, dd) := by
  unfold f_X2_isAhead at hf
  refine CM_of_E rfl rfl (by decide +kernel) rfl (Nat.le_of_ble_eq_true rfl) hl ?_
  refine E_aload_n 1 0 dX2_isAhead_0 rfl rfl rfl ?_
  refine E_getCr 4 fg_X2_9 dX2_isAhead_1 rfl ?_
  refine E_iload_n 5 1 dX2_isAhead_4 rfl rfl rfl ?_
  obtain ⟨h1, hf⟩ := chk_some hf
  refine E_ialdC 6 (k := 30) (n := 200) rfl (by decide) h1 dX2_isAhead_5 rfl ?_
  refine E_aload_n 7 0 dX2_isAhead_6 rfl rfl rfl ?_
  refine E_getCr 10 fg_X2_9 dX2_isAhead_7 rfl ?_
  refine E_iload_n 11 2 dX2_isAhead_10 rfl rfl rfl ?_
  obtain ⟨h2, hf⟩ := chk_some hf
  refine E_ialdC 12 (k := 30) (n := 200) rfl (by decide) h2 dX2_isAhead_11 rfl ?_
  refine E_icmp_gt 35 15 dX2_isAhead_12 (by decide) rfl (fun c3 => ?_) (fun c3 => ?_)
  · have hf := ite_t c3 hf
    refine E_iconst 36 1 dX2_isAhead_35 cst_iconst1 rfl ?_
    refine E_goto 40 dX2_isAhead_36 (by decide) ?_
    cases hf
    exact E_zret (v := 1) rfl dX2_isAhead_40 rfl (Nat.le_of_ble_eq_true rfl) (Nat.le_of_ble_eq_true rfl)
  · have hf := ite_e c3 hf
    refine E_aload_n 16 0 dX2_isAhead_15 rfl rfl rfl ?_
    refine E_getCr 19 fg_X2_9 dX2_isAhead_16 rfl ?_
    refine E_iload_n 20 1 dX2_isAhead_19 rfl rfl rfl ?_
    obtain ⟨h4, hf⟩ := chk_some hf
    refine E_ialdC 21 (k := 30) (n := 200) rfl (by decide) h4 dX2_isAhead_20 rfl ?_
    refine E_aload_n 22 0 dX2_isAhead_21 rfl rfl rfl ?_
    refine E_getCr 25 fg_X2_9 dX2_isAhead_22 rfl ?_
    refine E_iload_n 26 2 dX2_isAhead_25 rfl rfl rfl ?_
    obtain ⟨h5, hf⟩ := chk_some hf
    refine E_ialdC 27 (k := 30) (n := 200) rfl (by decide) h5 dX2_isAhead_26 rfl ?_
    refine E_icmp_ne 39 30 dX2_isAhead_27 (by decide) rfl (fun c6 => ?_) (fun c6 => ?_)
    · have hf := ite_e c6 hf
      refine E_iconst 40 0 dX2_isAhead_39 cst_iconst0 rfl ?_
      cases hf
      exact E_zret (v := 0) rfl dX2_isAhead_40 rfl (Nat.le_of_ble_eq_true rfl) (Nat.le_of_ble_eq_true rfl)
    · have hf := ite_t c6 hf
      refine E_iload_n 31 1 dX2_isAhead_30 rfl rfl rfl ?_
      refine E_iload_n 32 2 dX2_isAhead_31 rfl rfl rfl ?_
      refine E_icmp_ge 39 35 dX2_isAhead_32 (by decide) rfl (fun c7 => ?_) (fun c7 => ?_)
      · have hf := ite_t c7 hf
        refine E_iconst 40 0 dX2_isAhead_39 cst_iconst0 rfl ?_
        cases hf
        exact E_zret (v := 0) rfl dX2_isAhead_40 rfl (Nat.le_of_ble_eq_true rfl) (Nat.le_of_ble_eq_true rfl)
      · have hf := ite_e c7 hf
        refine E_iconst 36 1 dX2_isAhead_35 cst_iconst1 rfl ?_
        refine E_goto 40 dX2_isAhead_36 (by decide) ?_
        cases hf
        exact E_zret (v := 1) rfl dX2_isAhead_40 rfl (Nat.le_of_ble_eq_true rfl) (Nat.le_of_ble_eq_true rfl)
set_option maxRecDepth 100000 in
set_option maxHeartbeats 4000000 in
theorem l_X2_firstOpen_L4 {l : Launch} {g : Gt} (hl : l.stackTraces = false) {μ : Mm} {ν : Mm} {o : Nat → Int64} {dd : Nat → UInt64}  {x1 : Int32} {res : Int32} : ∀ (n : Nat) (x2 : Int32) (x3 : Int32) , f_X2_firstOpen_L4 x1 μ n x2 x3 = some res → E l g z_X2_firstOpen 4 [(0, .ref (gaC g 29)), (1, .int x1), (2, .int x2), (3, .int x3)] [] (μ, ν, o, dd) 0 (QM g (.inl (some (.int res))) (μ, ν, o, dd) 0) := by
  intro n
  induction n with
  | zero => intro x2 x3 hf; cases hf
  | succ n ih =>
    intro x2 x3 hf
    refine E_iload_n 5 3 dX2_firstOpen_4 rfl rfl rfl ?_
    refine E_iload_n 6 1 dX2_firstOpen_5 rfl rfl rfl ?_
    refine E_icmp_ge 42 9 dX2_firstOpen_6 (by decide) rfl (fun c1 => ?_) (fun c1 => ?_)
    · have hf := ite_t c1 hf
      refine E_iload_n 43 2 dX2_firstOpen_42 rfl rfl rfl ?_
      cases hf
      exact E_iret dX2_firstOpen_43 rfl (Nat.le_of_ble_eq_true rfl) (Nat.le_of_ble_eq_true rfl)
    · have hf := ite_e c1 hf
      refine E_aload_n 10 0 dX2_firstOpen_9 rfl rfl rfl ?_
      refine E_getCr 13 fg_X2_15 dX2_firstOpen_10 rfl ?_
      refine E_iload_n 14 3 dX2_firstOpen_13 rfl rfl rfl ?_
      obtain ⟨h2, hf⟩ := chk_some hf
      refine E_caldC 15 (k := 31) (n := 200) rfl (by decide) h2 dX2_firstOpen_14 rfl ?_
      refine E_bipush 17 111 dX2_firstOpen_15 cst_bipush111 rfl ?_
      refine E_icmp_ne 36 20 dX2_firstOpen_17 (by decide) rfl (fun c3 => ?_) (fun c3 => ?_)
      · have hf := ite_e c3 hf
        refine E_iinc 39 [(3, .int (x3 + 1)), (0, .ref (gaC g 29)), (1, .int x1), (2, .int x2)] 3 (v := x3 + 1) dX2_firstOpen_36 rfl (by rw [cst_iconst1]) (by decide) rfl rfl ?_
        refine E_goto 4 dX2_firstOpen_39 (by decide) ?_
        refine E_sub [1, 2, 3, 0] rfl ?_
        exact ih x2 (x3 + 1) hf
      · have hf := ite_t c3 hf
        refine E_iload_n 21 2 dX2_firstOpen_20 rfl rfl rfl ?_
        refine E_iconst 22 (-1) dX2_firstOpen_21 cst_iconstn1 rfl ?_
        refine E_icmp_eq 34 25 dX2_firstOpen_22 (by decide) rfl (fun c4 => ?_) (fun c4 => ?_)
        · have hf := ite_t c4 hf
          refine E_iload_n 35 3 dX2_firstOpen_34 rfl rfl rfl ?_
          refine E_istore_n 36 [(2, .int x3), (0, .ref (gaC g 29)), (1, .int x1), (3, .int x3)] dX2_firstOpen_35 rfl (by decide) rfl rfl ?_
          refine E_iinc 39 [(3, .int (x3 + 1)), (2, .int x3), (0, .ref (gaC g 29)), (1, .int x1)] 3 (v := x3 + 1) dX2_firstOpen_36 rfl (by rw [cst_iconst1]) (by decide) rfl rfl ?_
          refine E_goto 4 dX2_firstOpen_39 (by decide) ?_
          refine E_sub [2, 3, 1, 0] rfl ?_
          exact ih x3 (x3 + 1) hf
        · have hf := ite_e c4 hf
          refine E_aload_n 26 0 dX2_firstOpen_25 rfl rfl rfl ?_
          refine E_iload_n 27 3 dX2_firstOpen_26 rfl rfl rfl ?_
          refine E_iload_n 28 2 dX2_firstOpen_27 rfl rfl rfl ?_
          obtain ⟨r5, hc6, hf⟩ := bnd hf
          refine E_callVC1 31 0 [] [.int r5] (c_X2_isAhead hl hc6) my_X2_isAhead rc_X2 kl_X2_48 rfl rfl (Nat.le_of_ble_eq_true rfl) (rmok rfl) dX2_firstOpen_28 rfl rfl rfl ?_
          refine E_if_eq 36 34 dX2_firstOpen_31 (by decide) rfl (fun c7 => ?_) (fun c7 => ?_)
          · have hf := ite_t c7 hf
            refine E_iinc 39 [(3, .int (x3 + 1)), (0, .ref (gaC g 29)), (1, .int x1), (2, .int x2)] 3 (v := x3 + 1) dX2_firstOpen_36 rfl (by rw [cst_iconst1]) (by decide) rfl rfl ?_
            refine E_goto 4 dX2_firstOpen_39 (by decide) ?_
            refine E_sub [1, 2, 3, 0] rfl ?_
            exact ih x2 (x3 + 1) hf
          · have hf := ite_e c7 hf
            refine E_iload_n 35 3 dX2_firstOpen_34 rfl rfl rfl ?_
            refine E_istore_n 36 [(2, .int x3), (0, .ref (gaC g 29)), (1, .int x1), (3, .int x3)] dX2_firstOpen_35 rfl (by decide) rfl rfl ?_
            refine E_iinc 39 [(3, .int (x3 + 1)), (2, .int x3), (0, .ref (gaC g 29)), (1, .int x1)] 3 (v := x3 + 1) dX2_firstOpen_36 rfl (by rw [cst_iconst1]) (by decide) rfl rfl ?_
            refine E_goto 4 dX2_firstOpen_39 (by decide) ?_
            refine E_sub [2, 3, 1, 0] rfl ?_
            exact ih x3 (x3 + 1) hf
set_option maxRecDepth 100000 in
set_option maxHeartbeats 4000000 in
theorem c_X2_firstOpen {l : Launch} {g : Gt} (hl : l.stackTraces = false) {a1 : Int32} {μ : Mm} {ν : Mm} {o : Nat → Int64} {dd : Nat → UInt64} {res : Int32} (hf : f_X2_firstOpen a1 μ = some res) : CM l g z_X2_firstOpen yX2_firstOpen [.ref (gaC g 29), .int a1] (μ, ν, o, dd) 0 (.inl (some (.int res))) (μ, ν, o, dd) := by
  unfold f_X2_firstOpen at hf
  refine CM_of_E rfl rfl (by decide +kernel) rfl (Nat.le_of_ble_eq_true rfl) hl ?_
  refine E_iconst 1 (-1) dX2_firstOpen_0 cst_iconstn1 rfl ?_
  refine E_istore_n 2 [(2, .int ((-1))), (0, .ref (gaC g 29)), (1, .int a1)] dX2_firstOpen_1 rfl (by decide) rfl rfl ?_
  refine E_iconst 3 0 dX2_firstOpen_2 cst_iconst0 rfl ?_
  refine E_istore_n 4 [(3, .int 0), (2, .int ((-1))), (0, .ref (gaC g 29)), (1, .int a1)] dX2_firstOpen_3 rfl (by decide) rfl rfl ?_
  refine E_sub [2, 3, 1, 0] rfl ?_
  refine l_X2_firstOpen_L4 hl  _ _ _ hf
set_option maxRecDepth 100000 in
set_option maxHeartbeats 4000000 in
theorem c_X7_nextAlert {l : Launch} {g : Gt} (hl : l.stackTraces = false)  {μ : Mm} {ν : Mm} {o : Nat → Int64} {dd : Nat → UInt64} {res : Nat × Int32} (hf : f_X7_nextAlert μ = some res) : CM l g z_X7_nextAlert yX7_nextAlert [.ref (gaC g 0)] (μ, ν, o, dd) 1 (oc3 res.1 (some (.int res.2))) (μ, ν, o, dd) := by
  unfold f_X7_nextAlert at hf
  refine CM_of_E rfl rfl (by decide +kernel) rfl (Nat.le_of_ble_eq_true rfl) hl ?_
  refine E_aload_n 1 0 dX7_nextAlert_0 rfl rfl rfl ?_
  refine E_getCr 4 fg_X7_33 dX7_nextAlert_1 rfl ?_
  refine E_aload_n 5 0 dX7_nextAlert_4 rfl rfl rfl ?_
  refine E_getCr 8 fg_X7_10 dX7_nextAlert_5 rfl ?_
  refine E_getCrN 11 fg_X7_105 dX7_nextAlert_8 rfl ?_
  refine E_getCN 14 fg_X7_109 dX7_nextAlert_11 rfl ?_
  obtain ⟨r1, hc2, hf⟩ := bnd hf
  refine E_callVC1 17 0 [] [.int r1] (c_X2_firstOpen hl hc2) my_X2_firstOpen rc_X2 kl_X7_246 rfl rfl (Nat.le_of_ble_eq_true rfl) (rmok rfl) dX7_nextAlert_14 rfl rfl rfl ?_
  refine E_istore_n 18 [(1, .int r1), (0, .ref (gaC g 0))] dX7_nextAlert_17 rfl (by decide) rfl rfl ?_
  refine E_iload_n 19 0 dX7_nextAlert_18 rfl rfl rfl ?_
  refine E_iconst 20 (-1) dX7_nextAlert_19 cst_iconstn1 rfl ?_
  refine E_icmp_ne 33 23 dX7_nextAlert_20 (by decide) rfl (fun c3 => ?_) (fun c3 => ?_)
  · have hf := ite_e c3 hf
    refine E_iload_n 34 0 dX7_nextAlert_33 rfl rfl rfl ?_
    cases hf
    exact E_iret dX7_nextAlert_34 rfl (Nat.le_of_ble_eq_true rfl) (Nat.le_of_ble_eq_true rfl)
  · have hf := ite_t c3 hf
    cases hf
    exact E_throwN th_X7_249_253 tx_251 rfl dX7_nextAlert_23 dX7_nextAlert_26 dX7_nextAlert_27 dX7_nextAlert_29 dX7_nextAlert_32 (Nat.le_of_ble_eq_true rfl) (Nat.le_of_ble_eq_true rfl) (Nat.le_of_ble_eq_true rfl) (Nat.le_of_ble_eq_true rfl) (Nat.le_of_ble_eq_true rfl) (Nat.le_of_ble_eq_true rfl)
set_option maxRecDepth 100000 in
set_option maxHeartbeats 4000000 in
theorem c_L_nextAlert_0_o {l : Launch} {g : Gt} (hl : l.stackTraces = false)  {μ : Mm} {ν : Mm} {o : Nat → Int64} {dd : Nat → UInt64} {res : Int32 × (Nat → Int64)} (hf : f_L_nextAlert_0_o μ o = some res) : CM l g z_L_nextAlert yL_nextAlert [.ref (gaC g 0), .ref (gao g 0)] (μ, ν, o, dd) 1 (.inl (some (.int res.1))) (μ, ν, res.2, dd) := by
  unfold f_L_nextAlert_0_o at hf
  refine CM_of_EH rfl rfl (by decide +kernel) rfl (Nat.le_of_ble_eq_true rfl) hl ?_
  refine E_aload_n 1 1 dL_nextAlert_0 rfl rfl rfl ?_
  refine E_iconst 2 0 dL_nextAlert_1 cst_iconst0 rfl ?_
  refine E_aload_n 3 0 dL_nextAlert_2 rfl rfl rfl ?_
  obtain ⟨r1, hc2, hf⟩ := bnd hf
  refine E_callVC2 6 1 [.int 0, .ref (gao g 0)] [.int r1.2, .int 0, .ref (gao g 0)] (c_X7_nextAlert hl hc2) my_X7_nextAlert rc_X7 kl_L_111 rfl rfl (Nat.le_of_ble_eq_true rfl) (rmok rfl) dL_nextAlert_3 rfl rfl rfl (fun z3 => ?_) (fun z3 => ?_)
  · have hf := ite_t z3 hf
    refine E_i2l 7 dL_nextAlert_6 rfl ?_
    obtain ⟨h4, hf⟩ := chk_some hf
    refine E_last 8 h4 dL_nextAlert_7 rfl ?_
    refine E_goto 14 dL_nextAlert_8 (by decide) ?_
    refine E_iconst 15 0 dL_nextAlert_14 cst_iconst0 rfl ?_
    cases hf
    exact E_iret dL_nextAlert_15 rfl (Nat.le_of_ble_eq_true rfl) (Nat.le_of_ble_eq_true rfl)
  · have hf := ite_e z3 hf
    by_cases k5 : r1.1 = 2
    · rw [k5]
      have hf := ite_t k5 hf
      refine EX_catch (X := "java/util/NoSuchElementException") [] [] 0 8 11 47 rfl (fun _ h => nomatch h) ⟨by decide, by decide⟩ (by decide) kk_L_47 kt_java_util_NoSuchElementException (fun q => ?_)
      refine E_astore_n 12 [(2, .ref q), (0, .ref (gaC g 0)), (1, .ref (gao g 0))] dL_nextAlert_11 rfl (by decide) rfl rfl ?_
      refine E_iconst 13 1 dL_nextAlert_12 cst_iconst1 rfl ?_
      cases hf
      exact E_iret dL_nextAlert_13 rfl (Nat.le_of_ble_eq_true rfl) (Nat.le_of_ble_eq_true rfl)
    have hf := ite_e k5 hf
    cases hf
set_option maxRecDepth 100000 in
set_option maxHeartbeats 4000000 in
theorem l_X2_countAhead_L5 {l : Launch} {g : Gt} (hl : l.stackTraces = false) {μ : Mm} {ν : Mm} {o : Nat → Int64} {dd : Nat → UInt64}  {x1 : Int32} {x2 : Int32} {res : Int32} : ∀ (n : Nat) (x3 : Int32) (x4 : Int32) , f_X2_countAhead_L5 x1 x2 μ n x3 x4 = some res → E l g z_X2_countAhead 5 [(0, .ref (gaC g 29)), (1, .int x1), (2, .int x2), (3, .int x3), (4, .int x4)] [] (μ, ν, o, dd) 0 (QM g (.inl (some (.int res))) (μ, ν, o, dd) 0) := by
  intro n
  induction n with
  | zero => intro x3 x4 hf; cases hf
  | succ n ih =>
    intro x3 x4 hf
    refine E_iload 7 4 dX2_countAhead_5 rfl rfl ?_
    refine E_iload_n 8 2 dX2_countAhead_7 rfl rfl rfl ?_
    refine E_icmp_ge 42 11 dX2_countAhead_8 (by decide) rfl (fun c1 => ?_) (fun c1 => ?_)
    · have hf := ite_t c1 hf
      refine E_iload_n 43 3 dX2_countAhead_42 rfl rfl rfl ?_
      cases hf
      exact E_iret dX2_countAhead_43 rfl (Nat.le_of_ble_eq_true rfl) (Nat.le_of_ble_eq_true rfl)
    · have hf := ite_e c1 hf
      refine E_aload_n 12 0 dX2_countAhead_11 rfl rfl rfl ?_
      refine E_getCr 15 fg_X2_15 dX2_countAhead_12 rfl ?_
      refine E_iload 17 4 dX2_countAhead_15 rfl rfl ?_
      obtain ⟨h2, hf⟩ := chk_some hf
      refine E_caldC 18 (k := 31) (n := 200) rfl (by decide) h2 dX2_countAhead_17 rfl ?_
      refine E_bipush 20 111 dX2_countAhead_18 cst_bipush111 rfl ?_
      refine E_icmp_ne 36 23 dX2_countAhead_20 (by decide) rfl (fun c3 => ?_) (fun c3 => ?_)
      · have hf := ite_e c3 hf
        refine E_iinc 39 [(4, .int (x4 + 1)), (0, .ref (gaC g 29)), (1, .int x1), (2, .int x2), (3, .int x3)] 4 (v := x4 + 1) dX2_countAhead_36 rfl (by rw [cst_iconst1]) (by decide) rfl rfl ?_
        refine E_goto 5 dX2_countAhead_39 (by decide) ?_
        refine E_sub [1, 2, 3, 4, 0] rfl ?_
        exact ih x3 (x4 + 1) hf
      · have hf := ite_t c3 hf
        refine E_aload_n 24 0 dX2_countAhead_23 rfl rfl rfl ?_
        refine E_iload 26 4 dX2_countAhead_24 rfl rfl ?_
        refine E_iload_n 27 1 dX2_countAhead_26 rfl rfl rfl ?_
        obtain ⟨r4, hc5, hf⟩ := bnd hf
        refine E_callVC1 30 0 [] [.int r4] (c_X2_isAhead hl hc5) my_X2_isAhead rc_X2 kl_X2_48 rfl rfl (Nat.le_of_ble_eq_true rfl) (rmok rfl) dX2_countAhead_27 rfl rfl rfl ?_
        refine E_if_eq 36 33 dX2_countAhead_30 (by decide) rfl (fun c6 => ?_) (fun c6 => ?_)
        · have hf := ite_t c6 hf
          refine E_iinc 39 [(4, .int (x4 + 1)), (0, .ref (gaC g 29)), (1, .int x1), (2, .int x2), (3, .int x3)] 4 (v := x4 + 1) dX2_countAhead_36 rfl (by rw [cst_iconst1]) (by decide) rfl rfl ?_
          refine E_goto 5 dX2_countAhead_39 (by decide) ?_
          refine E_sub [1, 2, 3, 4, 0] rfl ?_
          exact ih x3 (x4 + 1) hf
        · have hf := ite_e c6 hf
          refine E_iinc 36 [(3, .int (x3 + 1)), (0, .ref (gaC g 29)), (1, .int x1), (2, .int x2), (4, .int x4)] 3 (v := x3 + 1) dX2_countAhead_33 rfl (by rw [cst_iconst1]) (by decide) rfl rfl ?_
          refine E_iinc 39 [(4, .int (x4 + 1)), (3, .int (x3 + 1)), (0, .ref (gaC g 29)), (1, .int x1), (2, .int x2)] 4 (v := x4 + 1) dX2_countAhead_36 rfl (by rw [cst_iconst1]) (by decide) rfl rfl ?_
          refine E_goto 5 dX2_countAhead_39 (by decide) ?_
          refine E_sub [2, 3, 4, 1, 0] rfl ?_
          exact ih (x3 + 1) (x4 + 1) hf
set_option maxRecDepth 100000 in
set_option maxHeartbeats 4000000 in
theorem c_X2_countAhead {l : Launch} {g : Gt} (hl : l.stackTraces = false) {a1 : Int32} {a2 : Int32} {μ : Mm} {ν : Mm} {o : Nat → Int64} {dd : Nat → UInt64} {res : Int32} (hf : f_X2_countAhead a1 a2 μ = some res) : CM l g z_X2_countAhead yX2_countAhead [.ref (gaC g 29), .int a1, .int a2] (μ, ν, o, dd) 0 (.inl (some (.int res))) (μ, ν, o, dd) := by
  unfold f_X2_countAhead at hf
  refine CM_of_E rfl rfl (by decide +kernel) rfl (Nat.le_of_ble_eq_true rfl) hl ?_
  refine E_iconst 1 0 dX2_countAhead_0 cst_iconst0 rfl ?_
  refine E_istore_n 2 [(3, .int 0), (0, .ref (gaC g 29)), (1, .int a1), (2, .int a2)] dX2_countAhead_1 rfl (by decide) rfl rfl ?_
  refine E_iconst 3 0 dX2_countAhead_2 cst_iconst0 rfl ?_
  refine E_istore 5 [(4, .int 0), (3, .int 0), (0, .ref (gaC g 29)), (1, .int a1), (2, .int a2)] dX2_countAhead_3 (by decide) rfl rfl ?_
  refine E_sub [2, 3, 4, 1, 0] rfl ?_
  refine l_X2_countAhead_L5 hl  _ _ _ hf
set_option maxRecDepth 100000 in
set_option maxHeartbeats 4000000 in
theorem l_X2_openAtRank_L2 {l : Launch} {g : Gt} (hl : l.stackTraces = false) {μ : Mm} {ν : Mm} {o : Nat → Int64} {dd : Nat → UInt64}  {x1 : Int32} {x2 : Int32} {res : Int32} : ∀ (n : Nat) (x3 : Int32) , f_X2_openAtRank_L2 x1 x2 μ n x3 = some res → E l g z_X2_openAtRank 2 [(0, .ref (gaC g 29)), (1, .int x1), (2, .int x2), (3, .int x3)] [] (μ, ν, o, dd) 0 (QM g (.inl (some (.int res))) (μ, ν, o, dd) 0) := by
  intro n
  induction n with
  | zero => intro x3 hf; cases hf
  | succ n ih =>
    intro x3 hf
    refine E_iload_n 3 3 dX2_openAtRank_2 rfl rfl rfl ?_
    refine E_iload_n 4 2 dX2_openAtRank_3 rfl rfl rfl ?_
    refine E_icmp_ge 36 7 dX2_openAtRank_4 (by decide) rfl (fun c1 => ?_) (fun c1 => ?_)
    · have hf := ite_t c1 hf
      refine E_iconst 37 (-1) dX2_openAtRank_36 cst_iconstn1 rfl ?_
      cases hf
      exact E_iret dX2_openAtRank_37 rfl (Nat.le_of_ble_eq_true rfl) (Nat.le_of_ble_eq_true rfl)
    · have hf := ite_e c1 hf
      refine E_aload_n 8 0 dX2_openAtRank_7 rfl rfl rfl ?_
      refine E_getCr 11 fg_X2_15 dX2_openAtRank_8 rfl ?_
      refine E_iload_n 12 3 dX2_openAtRank_11 rfl rfl rfl ?_
      obtain ⟨h2, hf⟩ := chk_some hf
      refine E_caldC 13 (k := 31) (n := 200) rfl (by decide) h2 dX2_openAtRank_12 rfl ?_
      refine E_bipush 15 111 dX2_openAtRank_13 cst_bipush111 rfl ?_
      refine E_icmp_ne 30 18 dX2_openAtRank_15 (by decide) rfl (fun c3 => ?_) (fun c3 => ?_)
      · have hf := ite_e c3 hf
        refine E_iinc 33 [(3, .int (x3 + 1)), (0, .ref (gaC g 29)), (1, .int x1), (2, .int x2)] 3 (v := x3 + 1) dX2_openAtRank_30 rfl (by rw [cst_iconst1]) (by decide) rfl rfl ?_
        refine E_goto 2 dX2_openAtRank_33 (by decide) ?_
        refine E_sub [1, 2, 3, 0] rfl ?_
        exact ih (x3 + 1) hf
      · have hf := ite_t c3 hf
        refine E_aload_n 19 0 dX2_openAtRank_18 rfl rfl rfl ?_
        refine E_iload_n 20 3 dX2_openAtRank_19 rfl rfl rfl ?_
        refine E_iload_n 21 2 dX2_openAtRank_20 rfl rfl rfl ?_
        obtain ⟨r4, hc5, hf⟩ := bnd hf
        refine E_callVC1 24 0 [] [.int r4] (c_X2_countAhead hl hc5) my_X2_countAhead rc_X2 kl_X2_52 rfl rfl (Nat.le_of_ble_eq_true rfl) (rmok rfl) dX2_openAtRank_21 rfl rfl rfl ?_
        refine E_iload_n 25 1 dX2_openAtRank_24 rfl rfl rfl ?_
        refine E_icmp_ne 30 28 dX2_openAtRank_25 (by decide) rfl (fun c6 => ?_) (fun c6 => ?_)
        · have hf := ite_e c6 hf
          refine E_iinc 33 [(3, .int (x3 + 1)), (0, .ref (gaC g 29)), (1, .int x1), (2, .int x2)] 3 (v := x3 + 1) dX2_openAtRank_30 rfl (by rw [cst_iconst1]) (by decide) rfl rfl ?_
          refine E_goto 2 dX2_openAtRank_33 (by decide) ?_
          refine E_sub [1, 2, 3, 0] rfl ?_
          exact ih (x3 + 1) hf
        · have hf := ite_t c6 hf
          refine E_iload_n 29 3 dX2_openAtRank_28 rfl rfl rfl ?_
          cases hf
          exact E_iret dX2_openAtRank_29 rfl (Nat.le_of_ble_eq_true rfl) (Nat.le_of_ble_eq_true rfl)
set_option maxRecDepth 100000 in
set_option maxHeartbeats 4000000 in
theorem c_X2_openAtRank {l : Launch} {g : Gt} (hl : l.stackTraces = false) {a1 : Int32} {a2 : Int32} {μ : Mm} {ν : Mm} {o : Nat → Int64} {dd : Nat → UInt64} {res : Int32} (hf : f_X2_openAtRank a1 a2 μ = some res) : CM l g z_X2_openAtRank yX2_openAtRank [.ref (gaC g 29), .int a1, .int a2] (μ, ν, o, dd) 0 (.inl (some (.int res))) (μ, ν, o, dd) := by
  unfold f_X2_openAtRank at hf
  refine CM_of_E rfl rfl (by decide +kernel) rfl (Nat.le_of_ble_eq_true rfl) hl ?_
  refine E_iconst 1 0 dX2_openAtRank_0 cst_iconst0 rfl ?_
  refine E_istore_n 2 [(3, .int 0), (0, .ref (gaC g 29)), (1, .int a1), (2, .int a2)] dX2_openAtRank_1 rfl (by decide) rfl rfl ?_
  refine E_sub [1, 2, 3, 0] rfl ?_
  refine l_X2_openAtRank_L2 hl  _ _ hf
set_option maxRecDepth 100000 in
set_option maxHeartbeats 4000000 in
theorem c_X7_alertAt {l : Launch} {g : Gt} (hl : l.stackTraces = false) {a1 : Int32} {μ : Mm} {ν : Mm} {o : Nat → Int64} {dd : Nat → UInt64} {res : Nat × Int32} (hf : f_X7_alertAt a1 μ = some res) : CM l g z_X7_alertAt yX7_alertAt [.ref (gaC g 0), .int a1] (μ, ν, o, dd) 1 (oc3 res.1 (some (.int res.2))) (μ, ν, o, dd) := by
  unfold f_X7_alertAt at hf
  refine CM_of_E rfl rfl (by decide +kernel) rfl (Nat.le_of_ble_eq_true rfl) hl ?_
  refine E_aload_n 1 0 dX7_alertAt_0 rfl rfl rfl ?_
  refine E_getCr 4 fg_X7_33 dX7_alertAt_1 rfl ?_
  refine E_iload_n 5 1 dX7_alertAt_4 rfl rfl rfl ?_
  refine E_aload_n 6 0 dX7_alertAt_5 rfl rfl rfl ?_
  refine E_getCr 9 fg_X7_10 dX7_alertAt_6 rfl ?_
  refine E_getCrN 12 fg_X7_105 dX7_alertAt_9 rfl ?_
  refine E_getCN 15 fg_X7_109 dX7_alertAt_12 rfl ?_
  obtain ⟨r1, hc2, hf⟩ := bnd hf
  refine E_callVC1 18 0 [] [.int r1] (c_X2_openAtRank hl hc2) my_X2_openAtRank rc_X2 kl_X7_254 rfl rfl (Nat.le_of_ble_eq_true rfl) (rmok rfl) dX7_alertAt_15 rfl rfl rfl ?_
  refine E_istore_n 19 [(2, .int r1), (0, .ref (gaC g 0)), (1, .int a1)] dX7_alertAt_18 rfl (by decide) rfl rfl ?_
  refine E_iload_n 20 0 dX7_alertAt_19 rfl rfl rfl ?_
  refine E_iconst 21 (-1) dX7_alertAt_20 cst_iconstn1 rfl ?_
  refine E_icmp_ne 35 24 dX7_alertAt_21 (by decide) rfl (fun c3 => ?_) (fun c3 => ?_)
  · have hf := ite_e c3 hf
    refine E_iload_n 36 0 dX7_alertAt_35 rfl rfl rfl ?_
    cases hf
    exact E_iret dX7_alertAt_36 rfl (Nat.le_of_ble_eq_true rfl) (Nat.le_of_ble_eq_true rfl)
  · have hf := ite_t c3 hf
    cases hf
    exact E_throwW th_X7_257_261 tx_259 rfl dX7_alertAt_24 dX7_alertAt_27 dX7_alertAt_28 dX7_alertAt_31 dX7_alertAt_34 (Nat.le_of_ble_eq_true rfl) (Nat.le_of_ble_eq_true rfl) (Nat.le_of_ble_eq_true rfl) (Nat.le_of_ble_eq_true rfl) (Nat.le_of_ble_eq_true rfl) (Nat.le_of_ble_eq_true rfl)
set_option maxRecDepth 100000 in
set_option maxHeartbeats 4000000 in
theorem c_L_alertAt_0_o {l : Launch} {g : Gt} (hl : l.stackTraces = false) {a1 : Int32} {μ : Mm} {ν : Mm} {o : Nat → Int64} {dd : Nat → UInt64} {res : Int32 × (Nat → Int64)} (hf : f_L_alertAt_0_o a1 μ o = some res) : CM l g z_L_alertAt yL_alertAt [.ref (gaC g 0), .int a1, .ref (gao g 0)] (μ, ν, o, dd) 1 (.inl (some (.int res.1))) (μ, ν, res.2, dd) := by
  unfold f_L_alertAt_0_o at hf
  refine CM_of_EH rfl rfl (by decide +kernel) rfl (Nat.le_of_ble_eq_true rfl) hl ?_
  refine E_aload_n 1 2 dL_alertAt_0 rfl rfl rfl ?_
  refine E_iconst 2 0 dL_alertAt_1 cst_iconst0 rfl ?_
  refine E_aload_n 3 0 dL_alertAt_2 rfl rfl rfl ?_
  refine E_iload_n 4 1 dL_alertAt_3 rfl rfl rfl ?_
  obtain ⟨r1, hc2, hf⟩ := bnd hf
  refine E_callVC2 7 1 [.int 0, .ref (gao g 0)] [.int r1.2, .int 0, .ref (gao g 0)] (c_X7_alertAt hl hc2) my_X7_alertAt rc_X7 kl_L_115 rfl rfl (Nat.le_of_ble_eq_true rfl) (rmok rfl) dL_alertAt_4 rfl rfl rfl (fun z3 => ?_) (fun z3 => ?_)
  · have hf := ite_t z3 hf
    refine E_i2l 8 dL_alertAt_7 rfl ?_
    obtain ⟨h4, hf⟩ := chk_some hf
    refine E_last 9 h4 dL_alertAt_8 rfl ?_
    refine E_goto 15 dL_alertAt_9 (by decide) ?_
    refine E_iconst 16 0 dL_alertAt_15 cst_iconst0 rfl ?_
    cases hf
    exact E_iret dL_alertAt_16 rfl (Nat.le_of_ble_eq_true rfl) (Nat.le_of_ble_eq_true rfl)
  · have hf := ite_e z3 hf
    by_cases k5 : r1.1 = 1
    · rw [k5]
      have hf := ite_t k5 hf
      refine EX_catch (X := "java/lang/IndexOutOfBoundsException") [] [] 0 9 12 21 rfl (fun _ h => nomatch h) ⟨by decide, by decide⟩ (by decide) kk_L_21 kt_java_lang_IndexOutOfBoundsException (fun q => ?_)
      refine E_astore_n 13 [(3, .ref q), (0, .ref (gaC g 0)), (1, .int a1), (2, .ref (gao g 0))] dL_alertAt_12 rfl (by decide) rfl rfl ?_
      refine E_iconst 14 1 dL_alertAt_13 cst_iconst1 rfl ?_
      cases hf
      exact E_iret dL_alertAt_14 rfl (Nat.le_of_ble_eq_true rfl) (Nat.le_of_ble_eq_true rfl)
    have hf := ite_e k5 hf
    cases hf
set_option maxRecDepth 100000 in
set_option maxHeartbeats 4000000 in
theorem c_X2_close {l : Launch} {g : Gt} (hl : l.stackTraces = false) {a1 : Int32} {a2 : Int32} {μ : Mm} {ν : Mm} {o : Nat → Int64} {dd : Nat → UInt64} {res : Mm} (hf : f_X2_close a1 a2 μ = some res) : CM l g z_X2_close yX2_close [.ref (gaC g 29), .int a1, .int a2] (μ, ν, o, dd) 0 (.inl none) (res, ν, o, dd) := by
  unfold f_X2_close at hf
  refine CM_of_E rfl rfl (by decide +kernel) rfl (Nat.le_of_ble_eq_true rfl) hl ?_
  refine E_aload_n 1 0 dX2_close_0 rfl rfl rfl ?_
  refine E_getCr 4 fg_X2_15 dX2_close_1 rfl ?_
  refine E_iload_n 5 1 dX2_close_4 rfl rfl rfl ?_
  refine E_iload_n 6 2 dX2_close_5 rfl rfl rfl ?_
  obtain ⟨h1, hf⟩ := chk_some hf
  refine E_castC 7 (k := 31) (n := 200) rfl (by decide) h1 dX2_close_6 rfl ?_
  refine E_aload_n 8 0 dX2_close_7 rfl rfl rfl ?_
  refine E_dup 9 dX2_close_8 rfl rfl ?_
  refine E_getC 12 fg_X2_45 dX2_close_9 rfl ?_
  refine E_iconst 13 1 dX2_close_12 cst_iconst1 rfl ?_
  refine E_isub 14 dX2_close_13 rfl ?_
  refine E_putC 17 fp_X2_45 dX2_close_14 rfl ?_
  cases hf
  exact E_vret dX2_close_17 rfl (Nat.le_of_ble_eq_true rfl) (Nat.le_of_ble_eq_true rfl)
set_option maxRecDepth 100000 in
set_option maxHeartbeats 4000000 in
theorem j_X7_decide_J46 {l : Launch} {g : Gt} (hl : l.stackTraces = false) {μ : Mm} {ν : Mm} {o : Nat → Int64} {dd : Nat → UInt64}  {x1 : Int32} {x2 : Int32} {s0 : Int32} {s1 : Int32} {res : Nat × Int32 × Mm} (hf : f_X7_decide_J46 x1 x2 s0 s1 μ = some res) : E l g z_X7_decide 46 [(0, .ref (gaC g 0)), (1, .int x1), (2, .int x2)] [.int s0, .int s1, .ref (gaC g 29)] (μ, ν, o, dd) 1 (QM g (oc3 res.1 (some (.int res.2.1))) (res.2.2, ν, o, dd) 2) := by
  unfold f_X7_decide_J46 at hf
  obtain ⟨r7, hc8, hf⟩ := bnd hf
  refine E_callVC1 49 1 [] [] (c_X2_close hl hc8) my_X2_close rc_X2 kl_X7_270 rfl rfl (Nat.le_of_ble_eq_true rfl) (rmok rfl) dX7_decide_46 rfl rfl rfl ?_
  refine E_iload_n 50 2 dX7_decide_49 rfl rfl rfl ?_
  refine E_if_eq 91 53 dX7_decide_50 (by decide) rfl (fun c9 => ?_) (fun c9 => ?_)
  · have hf := ite_t c9 hf
    refine E_aload_n 92 0 dX7_decide_91 rfl rfl rfl ?_
    refine E_getCr 95 fg_X7_33 dX7_decide_92 rfl ?_
    refine E_getCN 98 fg_X7_262 dX7_decide_95 rfl ?_
    cases hf
    exact E_iret dX7_decide_98 rfl (Nat.le_of_ble_eq_true rfl) (Nat.le_of_ble_eq_true rfl)
  · have hf := ite_e c9 hf
    refine E_aload_n 54 0 dX7_decide_53 rfl rfl rfl ?_
    refine E_getCr 57 fg_X7_10 dX7_decide_54 rfl ?_
    refine E_getCrN 60 fg_X7_105 dX7_decide_57 rfl ?_
    refine E_getCrN 63 fg_X7_274 dX7_decide_60 rfl ?_
    refine E_iload_n 64 1 dX7_decide_63 rfl rfl rfl ?_
    obtain ⟨h10, hf⟩ := chk_some hf
    refine E_ialdC 65 (k := 7) (n := 200) rfl (by decide) h10 dX7_decide_64 rfl ?_
    refine E_istore_n 66 [(3, .int (r7 7 x1.toNatClampNeg)), (0, .ref (gaC g 0)), (1, .int x1), (2, .int x2)] dX7_decide_65 rfl (by decide) rfl rfl ?_
    refine E_aload_n 67 1 dX7_decide_66 rfl rfl rfl ?_
    refine E_getCr 70 fg_X7_10 dX7_decide_67 rfl ?_
    refine E_getCrN 73 fg_X7_48 dX7_decide_70 rfl ?_
    refine E_aload_n 74 1 dX7_decide_73 rfl rfl rfl ?_
    refine E_getCr 77 fg_X7_10 dX7_decide_74 rfl ?_
    refine E_getCrN 80 fg_X7_48 dX7_decide_77 rfl ?_
    refine E_getCN 83 fg_X7_73 dX7_decide_80 rfl ?_
    refine E_iload_n 84 0 dX7_decide_83 rfl rfl rfl ?_
    refine E_iconst 85 1 dX7_decide_84 cst_iconst1 rfl ?_
    obtain ⟨r11, hc12, hf⟩ := bnd hf
    refine E_callS1 88 1 [.ref (gaC g 2)] [.int r11, .ref (gaC g 2)] (c_X7_withBit hl hc12) my_X7_withBit kl_X7_80 rfl rfl (Nat.le_of_ble_eq_true rfl) (rmok rfl) dX7_decide_85 rfl rfl rfl ?_
    refine E_putCN 91 fp_X7_73 dX7_decide_88 rfl ?_
    refine E_aload_n 92 1 dX7_decide_91 rfl rfl rfl ?_
    refine E_getCr 95 fg_X7_33 dX7_decide_92 rfl ?_
    refine E_getCN 98 fg_X7_262 dX7_decide_95 rfl ?_
    cases hf
    exact E_iret dX7_decide_98 rfl (Nat.le_of_ble_eq_true rfl) (Nat.le_of_ble_eq_true rfl)
set_option maxRecDepth 100000 in
set_option maxHeartbeats 4000000 in
theorem c_X7_decide {l : Launch} {g : Gt} (hl : l.stackTraces = false) {a1 : Int32} {a2 : Int32} {μ : Mm} {ν : Mm} {o : Nat → Int64} {dd : Nat → UInt64} {res : Nat × Int32 × Mm} (hf : f_X7_decide a1 a2 μ = some res) : CM l g z_X7_decide yX7_decide [.ref (gaC g 0), .int a1, .int a2] (μ, ν, o, dd) 2 (oc3 res.1 (some (.int res.2.1))) (res.2.2, ν, o, dd) := by
  unfold f_X7_decide at hf
  refine CM_of_E rfl rfl (by decide +kernel) rfl (Nat.le_of_ble_eq_true rfl) hl ?_
  refine E_aload_n 1 0 dX7_decide_0 rfl rfl rfl ?_
  refine E_iload_n 2 1 dX7_decide_1 rfl rfl rfl ?_
  obtain ⟨r1, hc2, hf⟩ := bnd hf
  refine E_callVC2 5 1 [] [] (c_X7_requirePayment hl hc2) my_X7_requirePayment rc_X7 kl_X7_137 rfl rfl (Nat.le_of_ble_eq_true rfl) (rmok rfl) dX7_decide_2 rfl rfl rfl (fun z3 => ?_) (fun z3 => ?_)
  · have hf := ite_t z3 hf
    refine E_aload_n 6 0 dX7_decide_5 rfl rfl rfl ?_
    refine E_getCr 9 fg_X7_33 dX7_decide_6 rfl ?_
    refine E_getCrN 12 fg_X7_265 dX7_decide_9 rfl ?_
    refine E_iload_n 13 1 dX7_decide_12 rfl rfl rfl ?_
    obtain ⟨h4, hf⟩ := chk_some hf
    refine E_caldC 14 (k := 31) (n := 200) rfl (by decide) h4 dX7_decide_13 rfl ?_
    refine E_bipush 16 111 dX7_decide_14 cst_bipush111 rfl ?_
    refine E_icmp_eq 30 19 dX7_decide_16 (by decide) rfl (fun c5 => ?_) (fun c5 => ?_)
    · have hf := ite_t c5 hf
      refine E_aload_n 31 0 dX7_decide_30 rfl rfl rfl ?_
      refine E_getCr 34 fg_X7_33 dX7_decide_31 rfl ?_
      refine E_iload_n 35 1 dX7_decide_34 rfl rfl rfl ?_
      refine E_iload_n 36 2 dX7_decide_35 rfl rfl rfl ?_
      refine E_if_eq 44 39 dX7_decide_36 (by decide) rfl (fun c6 => ?_) (fun c6 => ?_)
      · have hf := ite_t c6 hf
        refine E_bipush 46 99 dX7_decide_44 cst_bipush99 rfl ?_
        refine E_sub [0, 1, 2] rfl ?_
        exact j_X7_decide_J46 hl hf
      · have hf := ite_e c6 hf
        refine E_bipush 41 102 dX7_decide_39 cst_bipush102 rfl ?_
        refine E_goto 46 dX7_decide_41 (by decide) ?_
        refine E_sub [0, 1, 2] rfl ?_
        exact j_X7_decide_J46 hl hf
    · have hf := ite_e c5 hf
      cases hf
      exact E_throwW th_X7_57_61 tx_268 rfl dX7_decide_19 dX7_decide_22 dX7_decide_23 dX7_decide_26 dX7_decide_29 (Nat.le_of_ble_eq_true rfl) (Nat.le_of_ble_eq_true rfl) (Nat.le_of_ble_eq_true rfl) (Nat.le_of_ble_eq_true rfl) (Nat.le_of_ble_eq_true rfl) (Nat.le_of_ble_eq_true rfl)
  · have hf := ite_e z3 hf
    cases hf
    exact EX_outc rfl z3 (Nat.le_of_ble_eq_true rfl) (Nat.le_of_ble_eq_true rfl)
set_option maxRecDepth 100000 in
set_option maxHeartbeats 4000000 in
theorem c_L_decide_0_o {l : Launch} {g : Gt} (hl : l.stackTraces = false) {a1 : Int32} {a2 : Int32} {μ : Mm} {ν : Mm} {o : Nat → Int64} {dd : Nat → UInt64} {res : Int32 × Mm × (Nat → Int64)} (hf : f_L_decide_0_o a1 a2 μ o = some res) : CM l g z_L_decide yL_decide [.ref (gaC g 0), .int a1, .int a2, .ref (gao g 0)] (μ, ν, o, dd) 2 (.inl (some (.int res.1))) (res.2.1, ν, res.2.2, dd) := by
  unfold f_L_decide_0_o at hf
  refine CM_of_EH rfl rfl (by decide +kernel) rfl (Nat.le_of_ble_eq_true rfl) hl ?_
  refine E_aload_n 1 3 dL_decide_0 rfl rfl rfl ?_
  refine E_iconst 2 0 dL_decide_1 cst_iconst0 rfl ?_
  refine E_aload_n 3 0 dL_decide_2 rfl rfl rfl ?_
  refine E_iload_n 4 1 dL_decide_3 rfl rfl rfl ?_
  refine E_iload_n 5 2 dL_decide_4 rfl rfl rfl ?_
  obtain ⟨r1, hc2, hf⟩ := bnd hf
  refine E_callVC2 8 2 [.int 0, .ref (gao g 0)] [.int r1.2.1, .int 0, .ref (gao g 0)] (c_X7_decide hl hc2) my_X7_decide rc_X7 kl_L_118 rfl rfl (Nat.le_of_ble_eq_true rfl) (rmok rfl) dL_decide_5 rfl rfl rfl (fun z3 => ?_) (fun z3 => ?_)
  · have hf := ite_t z3 hf
    refine E_i2l 9 dL_decide_8 rfl ?_
    obtain ⟨h4, hf⟩ := chk_some hf
    refine E_last 10 h4 dL_decide_9 rfl ?_
    refine E_goto 21 dL_decide_10 (by decide) ?_
    refine E_iconst 22 0 dL_decide_21 cst_iconst0 rfl ?_
    cases hf
    exact E_iret dL_decide_22 rfl (Nat.le_of_ble_eq_true rfl) (Nat.le_of_ble_eq_true rfl)
  · have hf := ite_e z3 hf
    by_cases k5 : r1.1 = 2
    · rw [k5]
      have hf := ite_t k5 hf
      refine EX_catch (X := "java/util/NoSuchElementException") [] [(0, 10, 17, 15)] 0 10 13 47 rfl (fun _ h => nomatch h) ⟨by decide, by decide⟩ (by decide) kk_L_47 kt_java_util_NoSuchElementException (fun q => ?_)
      refine E_astore 15 [(4, .ref q), (0, .ref (gaC g 0)), (1, .int a1), (2, .int a2), (3, .ref (gao g 0))] dL_decide_13 (by decide) rfl rfl ?_
      refine E_iconst 16 1 dL_decide_15 cst_iconst1 rfl ?_
      cases hf
      exact E_iret dL_decide_16 rfl (Nat.le_of_ble_eq_true rfl) (Nat.le_of_ble_eq_true rfl)
    have hf := ite_e k5 hf
    by_cases k6 : r1.1 = 3
    · rw [k6]
      have hf := ite_t k6 hf
      refine EX_catch (X := "java/lang/IllegalStateException") [(0, 10, 13, 47)] [] 0 10 17 15 rfl (List.forall_mem_cons.mpr ⟨⟨_, kk_L_47, nc_69, by decide⟩, fun _ h => nomatch h⟩) ⟨by decide, by decide⟩ (by decide) kk_L_15 kt_java_lang_IllegalStateException (fun q => ?_)
      refine E_astore 19 [(4, .ref q), (0, .ref (gaC g 0)), (1, .int a1), (2, .int a2), (3, .ref (gao g 0))] dL_decide_17 (by decide) rfl rfl ?_
      refine E_iconst 20 2 dL_decide_19 cst_iconst2 rfl ?_
      cases hf
      exact E_iret dL_decide_20 rfl (Nat.le_of_ble_eq_true rfl) (Nat.le_of_ble_eq_true rfl)
    have hf := ite_e k6 hf
    cases hf
set_option maxRecDepth 100000 in
set_option maxHeartbeats 4000000 in
theorem c_X7_alertOf {l : Launch} {g : Gt} (hl : l.stackTraces = false) {a1 : Int32} {μ : Mm} {ν : Mm} {o : Nat → Int64} {dd : Nat → UInt64} {res : Nat × Int32} (hf : f_X7_alertOf a1 μ = some res) : CM l g z_X7_alertOf yX7_alertOf [.ref (gaC g 0), .int a1] (μ, ν, o, dd) 1 (oc3 res.1 (some (.int res.2))) (μ, ν, o, dd) := by
  unfold f_X7_alertOf at hf
  refine CM_of_E rfl rfl (by decide +kernel) rfl (Nat.le_of_ble_eq_true rfl) hl ?_
  refine E_aload_n 1 0 dX7_alertOf_0 rfl rfl rfl ?_
  refine E_iload_n 2 1 dX7_alertOf_1 rfl rfl rfl ?_
  obtain ⟨r1, hc2, hf⟩ := bnd hf
  refine E_callVC2 5 1 [] [] (c_X7_requirePayment hl hc2) my_X7_requirePayment rc_X7 kl_X7_137 rfl rfl (Nat.le_of_ble_eq_true rfl) (rmok rfl) dX7_alertOf_2 rfl rfl rfl (fun z3 => ?_) (fun z3 => ?_)
  · have hf := ite_t z3 hf
    refine E_aload_n 6 0 dX7_alertOf_5 rfl rfl rfl ?_
    refine E_getCr 9 fg_X7_33 dX7_alertOf_6 rfl ?_
    refine E_getCrN 12 fg_X7_265 dX7_alertOf_9 rfl ?_
    refine E_iload_n 13 1 dX7_alertOf_12 rfl rfl rfl ?_
    obtain ⟨h4, hf⟩ := chk_some hf
    refine E_caldC 14 (k := 31) (n := 200) rfl (by decide) h4 dX7_alertOf_13 rfl ?_
    obtain ⟨h5, hf⟩ := gn_c hf
    cases hf
    exact E_zret h5 dX7_alertOf_14 rfl (Nat.le_of_ble_eq_true rfl) (Nat.le_of_ble_eq_true rfl)
  · have hf := ite_e z3 hf
    cases hf
    exact EX_outc rfl z3 (Nat.le_of_ble_eq_true rfl) (Nat.le_of_ble_eq_true rfl)
set_option maxRecDepth 100000 in
set_option maxHeartbeats 4000000 in
theorem c_L_alertOf_0_o {l : Launch} {g : Gt} (hl : l.stackTraces = false) {a1 : Int32} {μ : Mm} {ν : Mm} {o : Nat → Int64} {dd : Nat → UInt64} {res : Int32 × (Nat → Int64)} (hf : f_L_alertOf_0_o a1 μ o = some res) : CM l g z_L_alertOf yL_alertOf [.ref (gaC g 0), .int a1, .ref (gao g 0)] (μ, ν, o, dd) 1 (.inl (some (.int res.1))) (μ, ν, res.2, dd) := by
  unfold f_L_alertOf_0_o at hf
  refine CM_of_EH rfl rfl (by decide +kernel) rfl (Nat.le_of_ble_eq_true rfl) hl ?_
  refine E_aload_n 1 2 dL_alertOf_0 rfl rfl rfl ?_
  refine E_iconst 2 0 dL_alertOf_1 cst_iconst0 rfl ?_
  refine E_aload_n 3 0 dL_alertOf_2 rfl rfl rfl ?_
  refine E_iload_n 4 1 dL_alertOf_3 rfl rfl rfl ?_
  obtain ⟨r1, hc2, hf⟩ := bnd hf
  refine E_callVC2 7 1 [.int 0, .ref (gao g 0)] [.int r1.2, .int 0, .ref (gao g 0)] (c_X7_alertOf hl hc2) my_X7_alertOf rc_X7 kl_L_122 rfl rfl (Nat.le_of_ble_eq_true rfl) (rmok rfl) dL_alertOf_4 rfl rfl rfl (fun z3 => ?_) (fun z3 => ?_)
  · have hf := ite_t z3 hf
    refine E_i2l 8 dL_alertOf_7 rfl ?_
    obtain ⟨h4, hf⟩ := chk_some hf
    refine E_last 9 h4 dL_alertOf_8 rfl ?_
    refine E_goto 15 dL_alertOf_9 (by decide) ?_
    refine E_iconst 16 0 dL_alertOf_15 cst_iconst0 rfl ?_
    cases hf
    exact E_iret dL_alertOf_16 rfl (Nat.le_of_ble_eq_true rfl) (Nat.le_of_ble_eq_true rfl)
  · have hf := ite_e z3 hf
    by_cases k5 : r1.1 = 2
    · rw [k5]
      have hf := ite_t k5 hf
      refine EX_catch (X := "java/util/NoSuchElementException") [] [] 0 9 12 47 rfl (fun _ h => nomatch h) ⟨by decide, by decide⟩ (by decide) kk_L_47 kt_java_util_NoSuchElementException (fun q => ?_)
      refine E_astore_n 13 [(3, .ref q), (0, .ref (gaC g 0)), (1, .int a1), (2, .ref (gao g 0))] dL_alertOf_12 rfl (by decide) rfl rfl ?_
      refine E_iconst 14 1 dL_alertOf_13 cst_iconst1 rfl ?_
      cases hf
      exact E_iret dL_alertOf_14 rfl (Nat.le_of_ble_eq_true rfl) (Nat.le_of_ble_eq_true rfl)
    have hf := ite_e k5 hf
    cases hf
set_option maxRecDepth 100000 in
set_option maxHeartbeats 4000000 in
theorem c_X1_networkNow {l : Launch} {g : Gt} (hl : l.stackTraces = false) {a1 : Int32} {μ : Mm} {ν : Mm} {o : Nat → Int64} {dd : Nat → UInt64} {res : Mm} (hf : f_X1_networkNow a1 μ = some res) : CM l g z_X1_networkNow yX1_networkNow [.ref (gaC g 1), .int a1] (μ, ν, o, dd) 0 (.inl (some (.ref (gaC g 10)))) (res, ν, o, dd) := by
  unfold f_X1_networkNow at hf
  refine CM_of_E rfl rfl (by decide +kernel) rfl (Nat.le_of_ble_eq_true rfl) hl ?_
  refine E_aload_n 1 0 dX1_networkNow_0 rfl rfl rfl ?_
  refine E_aload_n 2 0 dX1_networkNow_1 rfl rfl rfl ?_
  refine E_getCr 5 fg_X1_21 dX1_networkNow_2 rfl ?_
  refine E_aload_n 6 0 dX1_networkNow_5 rfl rfl rfl ?_
  refine E_getC 9 fg_X1_36 dX1_networkNow_6 rfl ?_
  refine E_iload_n 10 1 dX1_networkNow_9 rfl rfl rfl ?_
  refine E_isub 11 dX1_networkNow_10 rfl ?_
  refine E_iconst 12 0 dX1_networkNow_11 cst_iconst0 rfl ?_
  obtain ⟨r1, hc2, hf⟩ := bnd hf
  refine E_callVC1 15 0 [.ref (gaC g 1)] [.int r1, .ref (gaC g 1)] (c_X4_firstAfter hl hc2) my_X4_firstAfter rc_X4 kl_X1_43 rfl rfl (Nat.le_of_ble_eq_true rfl) (rmok rfl) dX1_networkNow_12 rfl rfl rfl ?_
  refine E_aload_n 16 0 dX1_networkNow_15 rfl rfl rfl ?_
  refine E_getCr 19 fg_X1_21 dX1_networkNow_16 rfl ?_
  refine E_getCN 22 fg_X1_51 dX1_networkNow_19 rfl ?_
  obtain ⟨r3, hc4, hf⟩ := bnd hf
  refine E_callVC1 25 0 [] [.ref (gaC g 10)] (c_X1_networkOf hl hc4) my_X1_networkOf rc_X1 kl_X1_64 rfl rfl (Nat.le_of_ble_eq_true rfl) (rmok rfl) dX1_networkNow_22 rfl rfl rfl ?_
  cases hf
  exact E_aret dX1_networkNow_25 rfl (Or.inl ⟨_, rfl⟩) (Nat.le_of_ble_eq_true rfl) (Nat.le_of_ble_eq_true rfl)
set_option maxRecDepth 100000 in
set_option maxHeartbeats 4000000 in
theorem c_X7_requireWay {l : Launch} {g : Gt} (hl : l.stackTraces = false) {a0 : Int32} {μ : Mm} {ν : Mm} {o : Nat → Int64} {dd : Nat → UInt64} {res : Nat × Int32} (hf : f_X7_requireWay a0 = some res) : CM l g z_X7_requireWay yX7_requireWay [.int a0] (μ, ν, o, dd) 1 (oc3 res.1 (some (.int res.2))) (μ, ν, o, dd) := by
  unfold f_X7_requireWay at hf
  refine CM_of_E rfl rfl (by decide +kernel) rfl (Nat.le_of_ble_eq_true rfl) hl ?_
  refine E_iload_n 1 0 dX7_requireWay_0 rfl rfl rfl ?_
  refine E_iconst 2 (-1) dX7_requireWay_1 cst_iconstn1 rfl ?_
  refine E_icmp_ne 16 5 dX7_requireWay_2 (by decide) rfl (fun c1 => ?_) (fun c1 => ?_)
  · have hf := ite_e c1 hf
    refine E_iload_n 17 0 dX7_requireWay_16 rfl rfl rfl ?_
    cases hf
    exact E_iret dX7_requireWay_17 rfl (Nat.le_of_ble_eq_true rfl) (Nat.le_of_ble_eq_true rfl)
  · have hf := ite_t c1 hf
    cases hf
    exact E_throwNW th_X7_249_253 tx_356 rfl dX7_requireWay_5 dX7_requireWay_8 dX7_requireWay_9 dX7_requireWay_12 dX7_requireWay_15 (Nat.le_of_ble_eq_true rfl) (Nat.le_of_ble_eq_true rfl) (Nat.le_of_ble_eq_true rfl) (Nat.le_of_ble_eq_true rfl) (Nat.le_of_ble_eq_true rfl) (Nat.le_of_ble_eq_true rfl)
set_option maxRecDepth 100000 in
set_option maxHeartbeats 4000000 in
theorem c_X7_ring {l : Launch} {g : Gt} (hl : l.stackTraces = false) {a1 : Int32} {a2 : Int32} {μ : Mm} {ν : Mm} {o : Nat → Int64} {dd : Nat → UInt64} {res : Nat × Int32 × Mm} (hf : f_X7_ring a1 a2 μ = some res) : CM l g z_X7_ring yX7_ring [.ref (gaC g 0), .int a1, .int a2] (μ, ν, o, dd) 3 (oc3 res.1 (some (.int res.2.1))) (res.2.2, ν, o, dd) := by
  unfold f_X7_ring at hf
  refine CM_of_E rfl rfl (by decide +kernel) rfl (Nat.le_of_ble_eq_true rfl) hl ?_
  refine E_aload_n 1 0 dX7_ring_0 rfl rfl rfl ?_
  refine E_iload_n 2 1 dX7_ring_1 rfl rfl rfl ?_
  obtain ⟨r1, hc2, hf⟩ := bnd hf
  refine E_callVC2 5 1 [] [] (c_X7_requireAccount hl hc2) my_X7_requireAccount rc_X7 kl_X7_69 rfl rfl (Nat.le_of_ble_eq_true rfl) (rmok rfl) dX7_ring_2 rfl rfl rfl (fun z3 => ?_) (fun z3 => ?_)
  · have hf := ite_t z3 hf
    refine E_iload_n 6 2 dX7_ring_5 rfl rfl rfl ?_
    obtain ⟨r4, hc5, hf⟩ := bnd hf
    refine E_callS2 9 2 [] [] (c_X7_requireWindow hl hc5) my_X7_requireWindow kl_X7_144 rfl rfl (Nat.le_of_ble_eq_true rfl) (rmok rfl) dX7_ring_6 rfl rfl rfl (fun z6 => ?_) (fun z6 => ?_)
    · have hf := ite_t z6 hf
      refine E_aload_n 10 0 dX7_ring_9 rfl rfl rfl ?_
      refine E_getCr 13 fg_X7_10 dX7_ring_10 rfl ?_
      refine E_iload_n 14 2 dX7_ring_13 rfl rfl rfl ?_
      obtain ⟨r7, hc8, hf⟩ := bnd hf
      refine E_callVC1 17 2 [] [.ref (gaC g 10)] (c_X1_networkNow hl hc8) my_X1_networkNow rc_X1 kl_X7_277 rfl rfl (Nat.le_of_ble_eq_true rfl) (rmok rfl) dX7_ring_14 rfl rfl rfl ?_
      refine E_iload_n 18 1 dX7_ring_17 rfl rfl rfl ?_
      refine E_iload_n 19 1 dX7_ring_18 rfl rfl rfl ?_
      obtain ⟨r9, hc10, hf⟩ := bnd hf
      refine E_callVC1 22 2 [] [.int r9] (c_X5_shortestWay hl hc10) my_X5_shortestWay rc_X5 kl_X7_281 rfl rfl (Nat.le_of_ble_eq_true rfl) (rmok rfl) dX7_ring_19 rfl rfl rfl ?_
      obtain ⟨r11, hc12, hf⟩ := bnd hf
      refine E_callS2 25 3 [] [.int r11.2] (c_X7_requireWay hl hc12) my_X7_requireWay kl_X7_286 rfl rfl (Nat.le_of_ble_eq_true rfl) (rmok rfl) dX7_ring_22 rfl rfl rfl (fun z13 => ?_) (fun z13 => ?_)
      · have hf := ite_t z13 hf
        cases hf
        exact E_iret dX7_ring_25 rfl (Nat.le_of_ble_eq_true rfl) (Nat.le_of_ble_eq_true rfl)
      · have hf := ite_e z13 hf
        cases hf
        exact EX_outc rfl z13 (Nat.le_of_ble_eq_true rfl) (Nat.le_of_ble_eq_true rfl)
    · have hf := ite_e z6 hf
      cases hf
      exact EX_outc rfl z6 (Nat.le_of_ble_eq_true rfl) (Nat.le_of_ble_eq_true rfl)
  · have hf := ite_e z3 hf
    cases hf
    exact EX_outc rfl z3 (Nat.le_of_ble_eq_true rfl) (Nat.le_of_ble_eq_true rfl)
set_option maxRecDepth 100000 in
set_option maxHeartbeats 4000000 in
theorem c_L_ring_0_o {l : Launch} {g : Gt} (hl : l.stackTraces = false) {a1 : Int32} {a2 : Int32} {μ : Mm} {ν : Mm} {o : Nat → Int64} {dd : Nat → UInt64} {res : Int32 × Mm × (Nat → Int64)} (hf : f_L_ring_0_o a1 a2 μ o = some res) : CM l g z_L_ring yL_ring [.ref (gaC g 0), .int a1, .int a2, .ref (gao g 0)] (μ, ν, o, dd) 3 (.inl (some (.int res.1))) (res.2.1, ν, res.2.2, dd) := by
  unfold f_L_ring_0_o at hf
  refine CM_of_EH rfl rfl (by decide +kernel) rfl (Nat.le_of_ble_eq_true rfl) hl ?_
  refine E_aload_n 1 3 dL_ring_0 rfl rfl rfl ?_
  refine E_iconst 2 0 dL_ring_1 cst_iconst0 rfl ?_
  refine E_aload_n 3 0 dL_ring_2 rfl rfl rfl ?_
  refine E_iload_n 4 1 dL_ring_3 rfl rfl rfl ?_
  refine E_iload_n 5 2 dL_ring_4 rfl rfl rfl ?_
  obtain ⟨r1, hc2, hf⟩ := bnd hf
  refine E_callVC2 8 3 [.int 0, .ref (gao g 0)] [.int r1.2.1, .int 0, .ref (gao g 0)] (c_X7_ring hl hc2) my_X7_ring rc_X7 kl_L_125 rfl rfl (Nat.le_of_ble_eq_true rfl) (rmok rfl) dL_ring_5 rfl rfl rfl (fun z3 => ?_) (fun z3 => ?_)
  · have hf := ite_t z3 hf
    refine E_i2l 9 dL_ring_8 rfl ?_
    obtain ⟨h4, hf⟩ := chk_some hf
    refine E_last 10 h4 dL_ring_9 rfl ?_
    refine E_goto 25 dL_ring_10 (by decide) ?_
    refine E_iconst 26 0 dL_ring_25 cst_iconst0 rfl ?_
    cases hf
    exact E_iret dL_ring_26 rfl (Nat.le_of_ble_eq_true rfl) (Nat.le_of_ble_eq_true rfl)
  · have hf := ite_e z3 hf
    by_cases k5 : r1.1 = 1
    · rw [k5]
      have hf := ite_t k5 hf
      refine EX_catch (X := "java/lang/IndexOutOfBoundsException") [] [(0, 10, 17, 13), (0, 10, 21, 47)] 0 10 13 21 rfl (fun _ h => nomatch h) ⟨by decide, by decide⟩ (by decide) kk_L_21 kt_java_lang_IndexOutOfBoundsException (fun q => ?_)
      refine E_astore 15 [(4, .ref q), (0, .ref (gaC g 0)), (1, .int a1), (2, .int a2), (3, .ref (gao g 0))] dL_ring_13 (by decide) rfl rfl ?_
      refine E_iconst 16 1 dL_ring_15 cst_iconst1 rfl ?_
      cases hf
      exact E_iret dL_ring_16 rfl (Nat.le_of_ble_eq_true rfl) (Nat.le_of_ble_eq_true rfl)
    have hf := ite_e k5 hf
    by_cases k6 : r1.1 = 4
    · rw [k6]
      have hf := ite_t k6 hf
      refine EX_catch (X := "java/lang/IllegalArgumentException") [(0, 10, 13, 21)] [(0, 10, 21, 47)] 0 10 17 13 rfl (List.forall_mem_cons.mpr ⟨⟨_, kk_L_21, nc_39, by decide⟩, fun _ h => nomatch h⟩) ⟨by decide, by decide⟩ (by decide) kk_L_13 kt_java_lang_IllegalArgumentException (fun q => ?_)
      refine E_astore 19 [(4, .ref q), (0, .ref (gaC g 0)), (1, .int a1), (2, .int a2), (3, .ref (gao g 0))] dL_ring_17 (by decide) rfl rfl ?_
      refine E_iconst 20 2 dL_ring_19 cst_iconst2 rfl ?_
      cases hf
      exact E_iret dL_ring_20 rfl (Nat.le_of_ble_eq_true rfl) (Nat.le_of_ble_eq_true rfl)
    have hf := ite_e k6 hf
    by_cases k7 : r1.1 = 2
    · rw [k7]
      have hf := ite_t k7 hf
      refine EX_catch (X := "java/util/NoSuchElementException") [(0, 10, 13, 21), (0, 10, 17, 13)] [] 0 10 21 47 rfl (List.forall_mem_cons.mpr ⟨⟨_, kk_L_21, nc_42, by decide⟩, List.forall_mem_cons.mpr ⟨⟨_, kk_L_13, nc_13, by decide⟩, fun _ h => nomatch h⟩⟩) ⟨by decide, by decide⟩ (by decide) kk_L_47 kt_java_util_NoSuchElementException (fun q => ?_)
      refine E_astore 23 [(4, .ref q), (0, .ref (gaC g 0)), (1, .int a1), (2, .int a2), (3, .ref (gao g 0))] dL_ring_21 (by decide) rfl rfl ?_
      refine E_iconst 24 3 dL_ring_23 cst_iconst3 rfl ?_
      cases hf
      exact E_iret dL_ring_24 rfl (Nat.le_of_ble_eq_true rfl) (Nat.le_of_ble_eq_true rfl)
    have hf := ite_e k7 hf
    cases hf
set_option maxRecDepth 100000 in
set_option maxHeartbeats 4000000 in
theorem l_X5_shortestWayByTrying_L7 {l : Launch} {g : Gt} (hl : l.stackTraces = false) {μ : Mm} {ν : Mm} {o : Nat → Int64} {dd : Nat → UInt64}  {x2 : Int32} {res : Int32} : ∀ (n : Nat) (x3 : Int32) (x4 : Int32) , f_X5_shortestWayByTrying_L7 x2 μ n x3 x4 = some res → E l g z_X5_shortestWayByTrying 7 [(0, .ref (gaC g 10)), (2, .int x2), (3, .int x3), (4, .int x4)] [] (μ, ν, o, dd) 0 (QM g (.inl (some (.int res))) (μ, ν, o, dd) 0) := by
  intro n
  induction n with
  | zero => intro x3 x4 hf; cases hf
  | succ n ih =>
    intro x3 x4 hf
    refine E_iload 9 3 dX5_shortestWayByTrying_7 rfl rfl ?_
    refine E_bipush 11 20 dX5_shortestWayByTrying_9 cst_bipush20 rfl ?_
    refine E_icmp_gt 40 14 dX5_shortestWayByTrying_11 (by decide) rfl (fun c1 => ?_) (fun c1 => ?_)
    · have hf := ite_t c1 hf
      refine E_iconst 41 (-1) dX5_shortestWayByTrying_40 cst_iconstn1 rfl ?_
      cases hf
      exact E_iret dX5_shortestWayByTrying_41 rfl (Nat.le_of_ble_eq_true rfl) (Nat.le_of_ble_eq_true rfl)
    · have hf := ite_e c1 hf
      refine E_aload_n 15 0 dX5_shortestWayByTrying_14 rfl rfl rfl ?_
      refine E_getCr 18 fg_X5_9 dX5_shortestWayByTrying_15 rfl ?_
      refine E_iload_n 19 2 dX5_shortestWayByTrying_18 rfl rfl rfl ?_
      obtain ⟨r2, hc3, hf⟩ := bnd hf
      refine E_callS1 22 0 [] [.int r2] (c_X5_step_11 hl hc3) my_X5_step kl_X5_30 rfl rfl (Nat.le_of_ble_eq_true rfl) (rmok rfl) dX5_shortestWayByTrying_19 rfl rfl rfl ?_
      refine E_istore_n 23 [(3, .int r2), (0, .ref (gaC g 10)), (2, .int x2), (4, .int x4)] dX5_shortestWayByTrying_22 rfl (by decide) rfl rfl ?_
      refine E_iload_n 24 0 dX5_shortestWayByTrying_23 rfl rfl rfl ?_
      refine E_iload_n 25 2 dX5_shortestWayByTrying_24 rfl rfl rfl ?_
      obtain ⟨r4, hc5, hf⟩ := bnd hf
      refine E_callSN1 28 0 [] [.int r4] (c_X7_hasBit hl hc5) my_X7_hasBit kl_X5_34 rfl rfl (Nat.le_of_ble_eq_true rfl) (rmok rfl) dX5_shortestWayByTrying_25 rfl rfl rfl ?_
      refine E_if_eq 34 31 dX5_shortestWayByTrying_28 (by decide) rfl (fun c6 => ?_) (fun c6 => ?_)
      · have hf := ite_t c6 hf
        refine E_iinc 37 [(4, .int (x4 + 1)), (3, .int r2), (0, .ref (gaC g 10)), (2, .int x2)] 3 (v := x4 + 1) dX5_shortestWayByTrying_34 rfl (by rw [cst_iconst1]) (by decide) rfl rfl ?_
        refine E_goto 7 dX5_shortestWayByTrying_37 (by decide) ?_
        refine E_sub [2, 3, 1, 0] rfl ?_
        exact ih r2 (x4 + 1) hf
      · have hf := ite_e c6 hf
        refine E_iload 33 3 dX5_shortestWayByTrying_31 rfl rfl ?_
        cases hf
        exact E_iret dX5_shortestWayByTrying_33 rfl (Nat.le_of_ble_eq_true rfl) (Nat.le_of_ble_eq_true rfl)
set_option maxRecDepth 100000 in
set_option maxHeartbeats 4000000 in
theorem c_X5_shortestWayByTrying {l : Launch} {g : Gt} (hl : l.stackTraces = false) {a1 : Int32} {a2 : Int32} {μ : Mm} {ν : Mm} {o : Nat → Int64} {dd : Nat → UInt64} {res : Int32} (hf : f_X5_shortestWayByTrying a1 a2 μ = some res) : CM l g z_X5_shortestWayByTrying yX5_shortestWayByTrying [.ref (gaC g 10), .int a1, .int a2] (μ, ν, o, dd) 0 (.inl (some (.int res))) (μ, ν, o, dd) := by
  unfold f_X5_shortestWayByTrying at hf
  refine CM_of_E rfl rfl (by decide +kernel) rfl (Nat.le_of_ble_eq_true rfl) hl ?_
  refine E_iconst 1 1 dX5_shortestWayByTrying_0 cst_iconst1 rfl ?_
  refine E_iload_n 2 1 dX5_shortestWayByTrying_1 rfl rfl rfl ?_
  refine E_ishl 3 dX5_shortestWayByTrying_2 rfl ?_
  refine E_istore_n 4 [(3, .int (1 <<< (a1 &&& 31))), (0, .ref (gaC g 10)), (1, .int a1), (2, .int a2)] dX5_shortestWayByTrying_3 rfl (by decide) rfl rfl ?_
  refine E_iconst 5 1 dX5_shortestWayByTrying_4 cst_iconst1 rfl ?_
  refine E_istore 7 [(4, .int 1), (3, .int (1 <<< (a1 &&& 31))), (0, .ref (gaC g 10)), (1, .int a1), (2, .int a2)] dX5_shortestWayByTrying_5 (by decide) rfl rfl ?_
  refine E_sub [2, 4, 1, 0] rfl ?_
  refine l_X5_shortestWayByTrying_L7 hl  _ _ _ hf
set_option maxRecDepth 100000 in
set_option maxHeartbeats 4000000 in
theorem c_X7_ringByTrying {l : Launch} {g : Gt} (hl : l.stackTraces = false) {a1 : Int32} {a2 : Int32} {μ : Mm} {ν : Mm} {o : Nat → Int64} {dd : Nat → UInt64} {res : Nat × Int32 × Mm} (hf : f_X7_ringByTrying a1 a2 μ = some res) : CM l g z_X7_ringByTrying yX7_ringByTrying [.ref (gaC g 0), .int a1, .int a2] (μ, ν, o, dd) 3 (oc3 res.1 (some (.int res.2.1))) (res.2.2, ν, o, dd) := by
  unfold f_X7_ringByTrying at hf
  refine CM_of_E rfl rfl (by decide +kernel) rfl (Nat.le_of_ble_eq_true rfl) hl ?_
  refine E_aload_n 1 0 dX7_ringByTrying_0 rfl rfl rfl ?_
  refine E_iload_n 2 1 dX7_ringByTrying_1 rfl rfl rfl ?_
  obtain ⟨r1, hc2, hf⟩ := bnd hf
  refine E_callVC2 5 1 [] [] (c_X7_requireAccount hl hc2) my_X7_requireAccount rc_X7 kl_X7_69 rfl rfl (Nat.le_of_ble_eq_true rfl) (rmok rfl) dX7_ringByTrying_2 rfl rfl rfl (fun z3 => ?_) (fun z3 => ?_)
  · have hf := ite_t z3 hf
    refine E_iload_n 6 2 dX7_ringByTrying_5 rfl rfl rfl ?_
    obtain ⟨r4, hc5, hf⟩ := bnd hf
    refine E_callS2 9 2 [] [] (c_X7_requireWindow hl hc5) my_X7_requireWindow kl_X7_144 rfl rfl (Nat.le_of_ble_eq_true rfl) (rmok rfl) dX7_ringByTrying_6 rfl rfl rfl (fun z6 => ?_) (fun z6 => ?_)
    · have hf := ite_t z6 hf
      refine E_aload_n 10 0 dX7_ringByTrying_9 rfl rfl rfl ?_
      refine E_getCr 13 fg_X7_10 dX7_ringByTrying_10 rfl ?_
      refine E_iload_n 14 2 dX7_ringByTrying_13 rfl rfl rfl ?_
      obtain ⟨r7, hc8, hf⟩ := bnd hf
      refine E_callVC1 17 2 [] [.ref (gaC g 10)] (c_X1_networkNow hl hc8) my_X1_networkNow rc_X1 kl_X7_277 rfl rfl (Nat.le_of_ble_eq_true rfl) (rmok rfl) dX7_ringByTrying_14 rfl rfl rfl ?_
      refine E_iload_n 18 1 dX7_ringByTrying_17 rfl rfl rfl ?_
      refine E_iload_n 19 1 dX7_ringByTrying_18 rfl rfl rfl ?_
      obtain ⟨r9, hc10, hf⟩ := bnd hf
      refine E_callVC1 22 2 [] [.int r9] (c_X5_shortestWayByTrying hl hc10) my_X5_shortestWayByTrying rc_X5 kl_X7_289 rfl rfl (Nat.le_of_ble_eq_true rfl) (rmok rfl) dX7_ringByTrying_19 rfl rfl rfl ?_
      obtain ⟨r11, hc12, hf⟩ := bnd hf
      refine E_callS2 25 3 [] [.int r11.2] (c_X7_requireWay hl hc12) my_X7_requireWay kl_X7_286 rfl rfl (Nat.le_of_ble_eq_true rfl) (rmok rfl) dX7_ringByTrying_22 rfl rfl rfl (fun z13 => ?_) (fun z13 => ?_)
      · have hf := ite_t z13 hf
        cases hf
        exact E_iret dX7_ringByTrying_25 rfl (Nat.le_of_ble_eq_true rfl) (Nat.le_of_ble_eq_true rfl)
      · have hf := ite_e z13 hf
        cases hf
        exact EX_outc rfl z13 (Nat.le_of_ble_eq_true rfl) (Nat.le_of_ble_eq_true rfl)
    · have hf := ite_e z6 hf
      cases hf
      exact EX_outc rfl z6 (Nat.le_of_ble_eq_true rfl) (Nat.le_of_ble_eq_true rfl)
  · have hf := ite_e z3 hf
    cases hf
    exact EX_outc rfl z3 (Nat.le_of_ble_eq_true rfl) (Nat.le_of_ble_eq_true rfl)
set_option maxRecDepth 100000 in
set_option maxHeartbeats 4000000 in
theorem c_L_ringByTrying_0_o {l : Launch} {g : Gt} (hl : l.stackTraces = false) {a1 : Int32} {a2 : Int32} {μ : Mm} {ν : Mm} {o : Nat → Int64} {dd : Nat → UInt64} {res : Int32 × Mm × (Nat → Int64)} (hf : f_L_ringByTrying_0_o a1 a2 μ o = some res) : CM l g z_L_ringByTrying yL_ringByTrying [.ref (gaC g 0), .int a1, .int a2, .ref (gao g 0)] (μ, ν, o, dd) 3 (.inl (some (.int res.1))) (res.2.1, ν, res.2.2, dd) := by
  unfold f_L_ringByTrying_0_o at hf
  refine CM_of_EH rfl rfl (by decide +kernel) rfl (Nat.le_of_ble_eq_true rfl) hl ?_
  refine E_aload_n 1 3 dL_ringByTrying_0 rfl rfl rfl ?_
  refine E_iconst 2 0 dL_ringByTrying_1 cst_iconst0 rfl ?_
  refine E_aload_n 3 0 dL_ringByTrying_2 rfl rfl rfl ?_
  refine E_iload_n 4 1 dL_ringByTrying_3 rfl rfl rfl ?_
  refine E_iload_n 5 2 dL_ringByTrying_4 rfl rfl rfl ?_
  obtain ⟨r1, hc2, hf⟩ := bnd hf
  refine E_callVC2 8 3 [.int 0, .ref (gao g 0)] [.int r1.2.1, .int 0, .ref (gao g 0)] (c_X7_ringByTrying hl hc2) my_X7_ringByTrying rc_X7 kl_L_128 rfl rfl (Nat.le_of_ble_eq_true rfl) (rmok rfl) dL_ringByTrying_5 rfl rfl rfl (fun z3 => ?_) (fun z3 => ?_)
  · have hf := ite_t z3 hf
    refine E_i2l 9 dL_ringByTrying_8 rfl ?_
    obtain ⟨h4, hf⟩ := chk_some hf
    refine E_last 10 h4 dL_ringByTrying_9 rfl ?_
    refine E_goto 25 dL_ringByTrying_10 (by decide) ?_
    refine E_iconst 26 0 dL_ringByTrying_25 cst_iconst0 rfl ?_
    cases hf
    exact E_iret dL_ringByTrying_26 rfl (Nat.le_of_ble_eq_true rfl) (Nat.le_of_ble_eq_true rfl)
  · have hf := ite_e z3 hf
    by_cases k5 : r1.1 = 1
    · rw [k5]
      have hf := ite_t k5 hf
      refine EX_catch (X := "java/lang/IndexOutOfBoundsException") [] [(0, 10, 17, 13), (0, 10, 21, 47)] 0 10 13 21 rfl (fun _ h => nomatch h) ⟨by decide, by decide⟩ (by decide) kk_L_21 kt_java_lang_IndexOutOfBoundsException (fun q => ?_)
      refine E_astore 15 [(4, .ref q), (0, .ref (gaC g 0)), (1, .int a1), (2, .int a2), (3, .ref (gao g 0))] dL_ringByTrying_13 (by decide) rfl rfl ?_
      refine E_iconst 16 1 dL_ringByTrying_15 cst_iconst1 rfl ?_
      cases hf
      exact E_iret dL_ringByTrying_16 rfl (Nat.le_of_ble_eq_true rfl) (Nat.le_of_ble_eq_true rfl)
    have hf := ite_e k5 hf
    by_cases k6 : r1.1 = 4
    · rw [k6]
      have hf := ite_t k6 hf
      refine EX_catch (X := "java/lang/IllegalArgumentException") [(0, 10, 13, 21)] [(0, 10, 21, 47)] 0 10 17 13 rfl (List.forall_mem_cons.mpr ⟨⟨_, kk_L_21, nc_39, by decide⟩, fun _ h => nomatch h⟩) ⟨by decide, by decide⟩ (by decide) kk_L_13 kt_java_lang_IllegalArgumentException (fun q => ?_)
      refine E_astore 19 [(4, .ref q), (0, .ref (gaC g 0)), (1, .int a1), (2, .int a2), (3, .ref (gao g 0))] dL_ringByTrying_17 (by decide) rfl rfl ?_
      refine E_iconst 20 2 dL_ringByTrying_19 cst_iconst2 rfl ?_
      cases hf
      exact E_iret dL_ringByTrying_20 rfl (Nat.le_of_ble_eq_true rfl) (Nat.le_of_ble_eq_true rfl)
    have hf := ite_e k6 hf
    by_cases k7 : r1.1 = 2
    · rw [k7]
      have hf := ite_t k7 hf
      refine EX_catch (X := "java/util/NoSuchElementException") [(0, 10, 13, 21), (0, 10, 17, 13)] [] 0 10 21 47 rfl (List.forall_mem_cons.mpr ⟨⟨_, kk_L_21, nc_42, by decide⟩, List.forall_mem_cons.mpr ⟨⟨_, kk_L_13, nc_13, by decide⟩, fun _ h => nomatch h⟩⟩) ⟨by decide, by decide⟩ (by decide) kk_L_47 kt_java_util_NoSuchElementException (fun q => ?_)
      refine E_astore 23 [(4, .ref q), (0, .ref (gaC g 0)), (1, .int a1), (2, .int a2), (3, .ref (gao g 0))] dL_ringByTrying_21 (by decide) rfl rfl ?_
      refine E_iconst 24 3 dL_ringByTrying_23 cst_iconst3 rfl ?_
      cases hf
      exact E_iret dL_ringByTrying_24 rfl (Nat.le_of_ble_eq_true rfl) (Nat.le_of_ble_eq_true rfl)
    have hf := ite_e k7 hf
    cases hf
set_option maxRecDepth 100000 in
set_option maxHeartbeats 4000000 in
theorem c_X7_group {l : Launch} {g : Gt} (hl : l.stackTraces = false) {a1 : Int32} {a2 : Int32} {μ : Mm} {ν : Mm} {o : Nat → Int64} {dd : Nat → UInt64} {res : Nat × Int32 × Mm} (hf : f_X7_group a1 a2 μ = some res) : CM l g z_X7_group yX7_group [.ref (gaC g 0), .int a1, .int a2] (μ, ν, o, dd) 2 (oc3 res.1 (some (.int res.2.1))) (res.2.2, ν, o, dd) := by
  unfold f_X7_group at hf
  refine CM_of_E rfl rfl (by decide +kernel) rfl (Nat.le_of_ble_eq_true rfl) hl ?_
  refine E_aload_n 1 0 dX7_group_0 rfl rfl rfl ?_
  refine E_iload_n 2 1 dX7_group_1 rfl rfl rfl ?_
  obtain ⟨r1, hc2, hf⟩ := bnd hf
  refine E_callVC2 5 1 [] [] (c_X7_requireAccount hl hc2) my_X7_requireAccount rc_X7 kl_X7_69 rfl rfl (Nat.le_of_ble_eq_true rfl) (rmok rfl) dX7_group_2 rfl rfl rfl (fun z3 => ?_) (fun z3 => ?_)
  · have hf := ite_t z3 hf
    refine E_iload_n 6 2 dX7_group_5 rfl rfl rfl ?_
    obtain ⟨r4, hc5, hf⟩ := bnd hf
    refine E_callS2 9 2 [] [] (c_X7_requireWindow hl hc5) my_X7_requireWindow kl_X7_144 rfl rfl (Nat.le_of_ble_eq_true rfl) (rmok rfl) dX7_group_6 rfl rfl rfl (fun z6 => ?_) (fun z6 => ?_)
    · have hf := ite_t z6 hf
      refine E_aload_n 10 0 dX7_group_9 rfl rfl rfl ?_
      refine E_getCr 13 fg_X7_10 dX7_group_10 rfl ?_
      refine E_iload_n 14 2 dX7_group_13 rfl rfl rfl ?_
      obtain ⟨r7, hc8, hf⟩ := bnd hf
      refine E_callVC1 17 2 [] [.ref (gaC g 10)] (c_X1_networkNow hl hc8) my_X1_networkNow rc_X1 kl_X7_277 rfl rfl (Nat.le_of_ble_eq_true rfl) (rmok rfl) dX7_group_14 rfl rfl rfl ?_
      refine E_iload_n 18 1 dX7_group_17 rfl rfl rfl ?_
      obtain ⟨r9, hc10, hf⟩ := bnd hf
      refine E_callVC1 21 2 [] [.int r9] (c_X5_groupSize hl hc10) my_X5_groupSize rc_X5 kl_X7_292 rfl rfl (Nat.le_of_ble_eq_true rfl) (rmok rfl) dX7_group_18 rfl rfl rfl ?_
      cases hf
      exact E_iret dX7_group_21 rfl (Nat.le_of_ble_eq_true rfl) (Nat.le_of_ble_eq_true rfl)
    · have hf := ite_e z6 hf
      cases hf
      exact EX_outc rfl z6 (Nat.le_of_ble_eq_true rfl) (Nat.le_of_ble_eq_true rfl)
  · have hf := ite_e z3 hf
    cases hf
    exact EX_outc rfl z3 (Nat.le_of_ble_eq_true rfl) (Nat.le_of_ble_eq_true rfl)
set_option maxRecDepth 100000 in
set_option maxHeartbeats 4000000 in
theorem c_L_group_0_o {l : Launch} {g : Gt} (hl : l.stackTraces = false) {a1 : Int32} {a2 : Int32} {μ : Mm} {ν : Mm} {o : Nat → Int64} {dd : Nat → UInt64} {res : Int32 × Mm × (Nat → Int64)} (hf : f_L_group_0_o a1 a2 μ o = some res) : CM l g z_L_group yL_group [.ref (gaC g 0), .int a1, .int a2, .ref (gao g 0)] (μ, ν, o, dd) 2 (.inl (some (.int res.1))) (res.2.1, ν, res.2.2, dd) := by
  unfold f_L_group_0_o at hf
  refine CM_of_EH rfl rfl (by decide +kernel) rfl (Nat.le_of_ble_eq_true rfl) hl ?_
  refine E_aload_n 1 3 dL_group_0 rfl rfl rfl ?_
  refine E_iconst 2 0 dL_group_1 cst_iconst0 rfl ?_
  refine E_aload_n 3 0 dL_group_2 rfl rfl rfl ?_
  refine E_iload_n 4 1 dL_group_3 rfl rfl rfl ?_
  refine E_iload_n 5 2 dL_group_4 rfl rfl rfl ?_
  obtain ⟨r1, hc2, hf⟩ := bnd hf
  refine E_callVC2 8 2 [.int 0, .ref (gao g 0)] [.int r1.2.1, .int 0, .ref (gao g 0)] (c_X7_group hl hc2) my_X7_group rc_X7 kl_L_131 rfl rfl (Nat.le_of_ble_eq_true rfl) (rmok rfl) dL_group_5 rfl rfl rfl (fun z3 => ?_) (fun z3 => ?_)
  · have hf := ite_t z3 hf
    refine E_i2l 9 dL_group_8 rfl ?_
    obtain ⟨h4, hf⟩ := chk_some hf
    refine E_last 10 h4 dL_group_9 rfl ?_
    refine E_goto 21 dL_group_10 (by decide) ?_
    refine E_iconst 22 0 dL_group_21 cst_iconst0 rfl ?_
    cases hf
    exact E_iret dL_group_22 rfl (Nat.le_of_ble_eq_true rfl) (Nat.le_of_ble_eq_true rfl)
  · have hf := ite_e z3 hf
    by_cases k5 : r1.1 = 1
    · rw [k5]
      have hf := ite_t k5 hf
      refine EX_catch (X := "java/lang/IndexOutOfBoundsException") [] [(0, 10, 17, 13)] 0 10 13 21 rfl (fun _ h => nomatch h) ⟨by decide, by decide⟩ (by decide) kk_L_21 kt_java_lang_IndexOutOfBoundsException (fun q => ?_)
      refine E_astore 15 [(4, .ref q), (0, .ref (gaC g 0)), (1, .int a1), (2, .int a2), (3, .ref (gao g 0))] dL_group_13 (by decide) rfl rfl ?_
      refine E_iconst 16 1 dL_group_15 cst_iconst1 rfl ?_
      cases hf
      exact E_iret dL_group_16 rfl (Nat.le_of_ble_eq_true rfl) (Nat.le_of_ble_eq_true rfl)
    have hf := ite_e k5 hf
    by_cases k6 : r1.1 = 4
    · rw [k6]
      have hf := ite_t k6 hf
      refine EX_catch (X := "java/lang/IllegalArgumentException") [(0, 10, 13, 21)] [] 0 10 17 13 rfl (List.forall_mem_cons.mpr ⟨⟨_, kk_L_21, nc_39, by decide⟩, fun _ h => nomatch h⟩) ⟨by decide, by decide⟩ (by decide) kk_L_13 kt_java_lang_IllegalArgumentException (fun q => ?_)
      refine E_astore 19 [(4, .ref q), (0, .ref (gaC g 0)), (1, .int a1), (2, .int a2), (3, .ref (gao g 0))] dL_group_17 (by decide) rfl rfl ?_
      refine E_iconst 20 2 dL_group_19 cst_iconst2 rfl ?_
      cases hf
      exact E_iret dL_group_20 rfl (Nat.le_of_ble_eq_true rfl) (Nat.le_of_ble_eq_true rfl)
    have hf := ite_e k6 hf
    cases hf
set_option maxRecDepth 100000 in
set_option maxHeartbeats 4000000 in
theorem l_X7_countDecided_L5 {l : Launch} {g : Gt} (hl : l.stackTraces = false) {μ : Mm} {ν : Mm} {o : Nat → Int64} {dd : Nat → UInt64}  {x1 : Int32} {x2 : Int32} {res : Int32} : ∀ (n : Nat) (x3 : Int32) (x4 : Int32) , f_X7_countDecided_L5 x1 x2 μ n x3 x4 = some res → E l g z_X7_countDecided 5 [(0, .ref (gaC g 0)), (1, .int x1), (2, .int x2), (3, .int x3), (4, .int x4)] [] (μ, ν, o, dd) 0 (QM g (.inl (some (.int res))) (μ, ν, o, dd) 0) := by
  intro n
  induction n with
  | zero => intro x3 x4 hf; cases hf
  | succ n ih =>
    intro x3 x4 hf
    refine E_iload 7 4 dX7_countDecided_5 rfl rfl ?_
    refine E_aload_n 8 0 dX7_countDecided_7 rfl rfl rfl ?_
    refine E_getCr 11 fg_X7_10 dX7_countDecided_8 rfl ?_
    refine E_getCrN 14 fg_X7_105 dX7_countDecided_11 rfl ?_
    refine E_getCN 17 fg_X7_109 dX7_countDecided_14 rfl ?_
    refine E_icmp_ge 57 20 dX7_countDecided_17 (by decide) rfl (fun c1 => ?_) (fun c1 => ?_)
    · have hf := ite_t c1 hf
      refine E_iload_n 58 3 dX7_countDecided_57 rfl rfl rfl ?_
      cases hf
      exact E_iret dX7_countDecided_58 rfl (Nat.le_of_ble_eq_true rfl) (Nat.le_of_ble_eq_true rfl)
    · have hf := ite_e c1 hf
      refine E_aload_n 21 0 dX7_countDecided_20 rfl rfl rfl ?_
      refine E_getCr 24 fg_X7_33 dX7_countDecided_21 rfl ?_
      refine E_getCrN 27 fg_X7_265 dX7_countDecided_24 rfl ?_
      refine E_iload 29 4 dX7_countDecided_27 rfl rfl ?_
      obtain ⟨h2, hf⟩ := chk_some hf
      refine E_caldC 30 (k := 31) (n := 200) rfl (by decide) h2 dX7_countDecided_29 rfl ?_
      refine E_iload_n 31 1 dX7_countDecided_30 rfl rfl rfl ?_
      refine E_icmp_ne 51 34 dX7_countDecided_31 (by decide) rfl (fun c3 => ?_) (fun c3 => ?_)
      · have hf := ite_e c3 hf
        refine E_iinc 54 [(4, .int (x4 + 1)), (0, .ref (gaC g 0)), (1, .int x1), (2, .int x2), (3, .int x3)] 4 (v := x4 + 1) dX7_countDecided_51 rfl (by rw [cst_iconst1]) (by decide) rfl rfl ?_
        refine E_goto 5 dX7_countDecided_54 (by decide) ?_
        refine E_sub [1, 2, 3, 4, 0] rfl ?_
        exact ih x3 (x4 + 1) hf
      · have hf := ite_t c3 hf
        refine E_aload_n 35 0 dX7_countDecided_34 rfl rfl rfl ?_
        refine E_getCr 38 fg_X7_33 dX7_countDecided_35 rfl ?_
        refine E_getCrN 41 fg_X7_215 dX7_countDecided_38 rfl ?_
        refine E_iload 43 4 dX7_countDecided_41 rfl rfl ?_
        obtain ⟨h4, hf⟩ := chk_some hf
        refine E_ialdC 44 (k := 30) (n := 200) rfl (by decide) h4 dX7_countDecided_43 rfl ?_
        refine E_iload_n 45 2 dX7_countDecided_44 rfl rfl rfl ?_
        refine E_icmp_lt 51 48 dX7_countDecided_45 (by decide) rfl (fun c5 => ?_) (fun c5 => ?_)
        · have hf := ite_t c5 hf
          refine E_iinc 54 [(4, .int (x4 + 1)), (0, .ref (gaC g 0)), (1, .int x1), (2, .int x2), (3, .int x3)] 4 (v := x4 + 1) dX7_countDecided_51 rfl (by rw [cst_iconst1]) (by decide) rfl rfl ?_
          refine E_goto 5 dX7_countDecided_54 (by decide) ?_
          refine E_sub [1, 2, 3, 4, 0] rfl ?_
          exact ih x3 (x4 + 1) hf
        · have hf := ite_e c5 hf
          refine E_iinc 51 [(3, .int (x3 + 1)), (0, .ref (gaC g 0)), (1, .int x1), (2, .int x2), (4, .int x4)] 3 (v := x3 + 1) dX7_countDecided_48 rfl (by rw [cst_iconst1]) (by decide) rfl rfl ?_
          refine E_iinc 54 [(4, .int (x4 + 1)), (3, .int (x3 + 1)), (0, .ref (gaC g 0)), (1, .int x1), (2, .int x2)] 4 (v := x4 + 1) dX7_countDecided_51 rfl (by rw [cst_iconst1]) (by decide) rfl rfl ?_
          refine E_goto 5 dX7_countDecided_54 (by decide) ?_
          refine E_sub [2, 3, 4, 1, 0] rfl ?_
          exact ih (x3 + 1) (x4 + 1) hf
set_option maxRecDepth 100000 in
set_option maxHeartbeats 4000000 in
theorem c_X7_countDecided {l : Launch} {g : Gt} (hl : l.stackTraces = false) {a1 : Int32} {a2 : Int32} {μ : Mm} {ν : Mm} {o : Nat → Int64} {dd : Nat → UInt64} {res : Int32} (hf : f_X7_countDecided a1 a2 μ = some res) : CM l g z_X7_countDecided yX7_countDecided [.ref (gaC g 0), .int a1, .int a2] (μ, ν, o, dd) 0 (.inl (some (.int res))) (μ, ν, o, dd) := by
  unfold f_X7_countDecided at hf
  refine CM_of_E rfl rfl (by decide +kernel) rfl (Nat.le_of_ble_eq_true rfl) hl ?_
  refine E_iconst 1 0 dX7_countDecided_0 cst_iconst0 rfl ?_
  refine E_istore_n 2 [(3, .int 0), (0, .ref (gaC g 0)), (1, .int a1), (2, .int a2)] dX7_countDecided_1 rfl (by decide) rfl rfl ?_
  refine E_iconst 3 0 dX7_countDecided_2 cst_iconst0 rfl ?_
  refine E_istore 5 [(4, .int 0), (3, .int 0), (0, .ref (gaC g 0)), (1, .int a1), (2, .int a2)] dX7_countDecided_3 (by decide) rfl rfl ?_
  refine E_sub [2, 3, 4, 1, 0] rfl ?_
  refine l_X7_countDecided_L5 hl  _ _ _ hf
set_option maxRecDepth 100000 in
set_option maxHeartbeats 4000000 in
theorem c_X7_caught {l : Launch} {g : Gt} (hl : l.stackTraces = false) {a1 : Int32} {μ : Mm} {ν : Mm} {o : Nat → Int64} {dd : Nat → UInt64} {res : Nat × Int32} (hf : f_X7_caught a1 μ = some res) : CM l g z_X7_caught yX7_caught [.ref (gaC g 0), .int a1] (μ, ν, o, dd) 1 (oc3 res.1 (some (.int res.2))) (μ, ν, o, dd) := by
  unfold f_X7_caught at hf
  refine CM_of_E rfl rfl (by decide +kernel) rfl (Nat.le_of_ble_eq_true rfl) hl ?_
  refine E_iload_n 1 1 dX7_caught_0 rfl rfl rfl ?_
  obtain ⟨r1, hc2, hf⟩ := bnd hf
  refine E_callS2 4 1 [] [] (c_X7_requireThreshold hl hc2) my_X7_requireThreshold kl_X7_212 rfl rfl (Nat.le_of_ble_eq_true rfl) (rmok rfl) dX7_caught_1 rfl rfl rfl (fun z3 => ?_) (fun z3 => ?_)
  · have hf := ite_t z3 hf
    refine E_aload_n 5 0 dX7_caught_4 rfl rfl rfl ?_
    refine E_bipush 7 102 dX7_caught_5 cst_bipush102 rfl ?_
    refine E_iload_n 8 1 dX7_caught_7 rfl rfl rfl ?_
    obtain ⟨r4, hc5, hf⟩ := bnd hf
    refine E_callVC1 11 1 [] [.int r4] (c_X7_countDecided hl hc5) my_X7_countDecided rc_X7 kl_X7_295 rfl rfl (Nat.le_of_ble_eq_true rfl) (rmok rfl) dX7_caught_8 rfl rfl rfl ?_
    cases hf
    exact E_iret dX7_caught_11 rfl (Nat.le_of_ble_eq_true rfl) (Nat.le_of_ble_eq_true rfl)
  · have hf := ite_e z3 hf
    cases hf
    exact EX_outc rfl z3 (Nat.le_of_ble_eq_true rfl) (Nat.le_of_ble_eq_true rfl)
set_option maxRecDepth 100000 in
set_option maxHeartbeats 4000000 in
theorem c_L_caught_0_o {l : Launch} {g : Gt} (hl : l.stackTraces = false) {a1 : Int32} {μ : Mm} {ν : Mm} {o : Nat → Int64} {dd : Nat → UInt64} {res : Int32 × (Nat → Int64)} (hf : f_L_caught_0_o a1 μ o = some res) : CM l g z_L_caught yL_caught [.ref (gaC g 0), .int a1, .ref (gao g 0)] (μ, ν, o, dd) 1 (.inl (some (.int res.1))) (μ, ν, res.2, dd) := by
  unfold f_L_caught_0_o at hf
  refine CM_of_EH rfl rfl (by decide +kernel) rfl (Nat.le_of_ble_eq_true rfl) hl ?_
  refine E_aload_n 1 2 dL_caught_0 rfl rfl rfl ?_
  refine E_iconst 2 0 dL_caught_1 cst_iconst0 rfl ?_
  refine E_aload_n 3 0 dL_caught_2 rfl rfl rfl ?_
  refine E_iload_n 4 1 dL_caught_3 rfl rfl rfl ?_
  obtain ⟨r1, hc2, hf⟩ := bnd hf
  refine E_callVC2 7 1 [.int 0, .ref (gao g 0)] [.int r1.2, .int 0, .ref (gao g 0)] (c_X7_caught hl hc2) my_X7_caught rc_X7 kl_L_134 rfl rfl (Nat.le_of_ble_eq_true rfl) (rmok rfl) dL_caught_4 rfl rfl rfl (fun z3 => ?_) (fun z3 => ?_)
  · have hf := ite_t z3 hf
    refine E_i2l 8 dL_caught_7 rfl ?_
    obtain ⟨h4, hf⟩ := chk_some hf
    refine E_last 9 h4 dL_caught_8 rfl ?_
    refine E_goto 15 dL_caught_9 (by decide) ?_
    refine E_iconst 16 0 dL_caught_15 cst_iconst0 rfl ?_
    cases hf
    exact E_iret dL_caught_16 rfl (Nat.le_of_ble_eq_true rfl) (Nat.le_of_ble_eq_true rfl)
  · have hf := ite_e z3 hf
    by_cases k5 : r1.1 = 4
    · rw [k5]
      have hf := ite_t k5 hf
      refine EX_catch (X := "java/lang/IllegalArgumentException") [] [] 0 9 12 13 rfl (fun _ h => nomatch h) ⟨by decide, by decide⟩ (by decide) kk_L_13 kt_java_lang_IllegalArgumentException (fun q => ?_)
      refine E_astore_n 13 [(3, .ref q), (0, .ref (gaC g 0)), (1, .int a1), (2, .ref (gao g 0))] dL_caught_12 rfl (by decide) rfl rfl ?_
      refine E_iconst 14 1 dL_caught_13 cst_iconst1 rfl ?_
      cases hf
      exact E_iret dL_caught_14 rfl (Nat.le_of_ble_eq_true rfl) (Nat.le_of_ble_eq_true rfl)
    have hf := ite_e k5 hf
    cases hf
set_option maxRecDepth 100000 in
set_option maxHeartbeats 4000000 in
theorem c_X7_requireMost {l : Launch} {g : Gt} (hl : l.stackTraces = false) {a0 : Int32} {μ : Mm} {ν : Mm} {o : Nat → Int64} {dd : Nat → UInt64} {res : Nat} (hf : f_X7_requireMost a0 = some res) : CM l g z_X7_requireMost yX7_requireMost [.int a0] (μ, ν, o, dd) 1 (oc3 res none) (μ, ν, o, dd) := by
  unfold f_X7_requireMost at hf
  refine CM_of_E rfl rfl (by decide +kernel) rfl (Nat.le_of_ble_eq_true rfl) hl ?_
  refine E_iload_n 1 0 dX7_requireMost_0 rfl rfl rfl ?_
  refine E_if_lt 11 4 dX7_requireMost_1 (by decide) rfl (fun c1 => ?_) (fun c1 => ?_)
  · have hf := ite_t c1 hf
    cases hf
    exact E_throwW th_X7_41_45 tx_354 rfl dX7_requireMost_11 dX7_requireMost_14 dX7_requireMost_15 dX7_requireMost_18 dX7_requireMost_21 (Nat.le_of_ble_eq_true rfl) (Nat.le_of_ble_eq_true rfl) (Nat.le_of_ble_eq_true rfl) (Nat.le_of_ble_eq_true rfl) (Nat.le_of_ble_eq_true rfl) (Nat.le_of_ble_eq_true rfl)
  · have hf := ite_e c1 hf
    refine E_iload_n 5 0 dX7_requireMost_4 rfl rfl rfl ?_
    refine E_sipush 8 200 dX7_requireMost_5 cst_sipush200 rfl ?_
    refine E_icmp_le 22 11 dX7_requireMost_8 (by decide) rfl (fun c2 => ?_) (fun c2 => ?_)
    · have hf := ite_t c2 hf
      cases hf
      exact E_vret dX7_requireMost_22 rfl (Nat.le_of_ble_eq_true rfl) (Nat.le_of_ble_eq_true rfl)
    · have hf := ite_e c2 hf
      cases hf
      exact E_throwW th_X7_41_45 tx_354 rfl dX7_requireMost_11 dX7_requireMost_14 dX7_requireMost_15 dX7_requireMost_18 dX7_requireMost_21 (Nat.le_of_ble_eq_true rfl) (Nat.le_of_ble_eq_true rfl) (Nat.le_of_ble_eq_true rfl) (Nat.le_of_ble_eq_true rfl) (Nat.le_of_ble_eq_true rfl) (Nat.le_of_ble_eq_true rfl)
set_option maxRecDepth 100000 in
set_option maxHeartbeats 4000000 in
theorem l_X7_bestThreshold_L13 {l : Launch} {g : Gt} (hl : l.stackTraces = false) {μ : Mm} {ν : Mm} {o : Nat → Int64} {dd : Nat → UInt64} {kx62 : (Int32 → Option (Nat × Int32))} {x1 : Int32} {res : Nat × Int32} (hx62 : ∀ (w2 : Int32), kx62 w2 = some res → E l g z_X7_bestThreshold 62 [(2, .int w2)] [] (μ, ν, o, dd) 1 (QM g (oc3 res.1 (some (.int res.2))) (μ, ν, o, dd) 1)) : ∀ (n : Nat) (x2 : Int32) (x3 : Int32) (x4 : Int32) , f_X7_bestThreshold_L13 kx62 x1 μ n x2 x3 x4 = some res → E l g z_X7_bestThreshold 13 [(0, .ref (gaC g 0)), (1, .int x1), (2, .int x2), (3, .int x3), (4, .int x4)] [] (μ, ν, o, dd) 1 (QM g (oc3 res.1 (some (.int res.2))) (μ, ν, o, dd) 1) := by
  intro n
  induction n with
  | zero => intro x2 x3 x4 hf; cases hf
  | succ n ih =>
    intro x2 x3 x4 hf
    refine E_iload 15 4 dX7_bestThreshold_13 rfl rfl ?_
    refine E_sipush 18 1201 dX7_bestThreshold_15 cst_sipush1201 rfl ?_
    refine E_icmp_ge 62 21 dX7_bestThreshold_18 (by decide) rfl (fun c4 => ?_) (fun c4 => ?_)
    · have hf := ite_t c4 hf
      refine E_sub [2] rfl ?_
      exact hx62 x2 hf
    · have hf := ite_e c4 hf
      refine E_iload_n 22 2 dX7_bestThreshold_21 rfl rfl rfl ?_
      refine E_iload_n 23 3 dX7_bestThreshold_22 rfl rfl rfl ?_
      refine E_icmp_ge 62 26 dX7_bestThreshold_23 (by decide) rfl (fun c5 => ?_) (fun c5 => ?_)
      · have hf := ite_t c5 hf
        refine E_sub [2] rfl ?_
        exact hx62 x2 hf
      · have hf := ite_e c5 hf
        refine E_iload_n 27 2 dX7_bestThreshold_26 rfl rfl rfl ?_
        refine E_iload_n 28 3 dX7_bestThreshold_27 rfl rfl rfl ?_
        refine E_iadd 29 dX7_bestThreshold_28 rfl ?_
        refine E_iconst 30 2 dX7_bestThreshold_29 cst_iconst2 rfl ?_
        refine E_idiv 31 dX7_bestThreshold_30 (by decide) rfl ?_
        refine E_istore 33 [(5, .int ((x2 + x3) / 2)), (0, .ref (gaC g 0)), (1, .int x1), (2, .int x2), (3, .int x3), (4, .int x4)] dX7_bestThreshold_31 (by decide) rfl rfl ?_
        refine E_aload_n 34 1 dX7_bestThreshold_33 rfl rfl rfl ?_
        refine E_bipush 36 99 dX7_bestThreshold_34 cst_bipush99 rfl ?_
        refine E_iload 38 0 dX7_bestThreshold_36 rfl rfl ?_
        obtain ⟨r6, hc7, hf⟩ := bnd hf
        refine E_callVC1 41 1 [] [.int r6] (c_X7_countDecided hl hc7) my_X7_countDecided rc_X7 kl_X7_295 rfl rfl (Nat.le_of_ble_eq_true rfl) (rmok rfl) dX7_bestThreshold_38 rfl rfl rfl ?_
        refine E_iload_n 42 2 dX7_bestThreshold_41 rfl rfl rfl ?_
        refine E_icmp_gt 51 45 dX7_bestThreshold_42 (by decide) rfl (fun c8 => ?_) (fun c8 => ?_)
        · have hf := ite_t c8 hf
          refine E_iload 53 0 dX7_bestThreshold_51 rfl rfl ?_
          refine E_iconst 54 1 dX7_bestThreshold_53 cst_iconst1 rfl ?_
          refine E_iadd 55 dX7_bestThreshold_54 rfl ?_
          refine E_istore_n 56 [(2, .int (((x2 + x3) / 2) + 1)), (5, .int ((x2 + x3) / 2)), (0, .ref (gaC g 0)), (1, .int x1), (3, .int x3), (4, .int x4)] dX7_bestThreshold_55 rfl (by decide) rfl rfl ?_
          refine E_iinc 59 [(4, .int (x4 + 1)), (2, .int (((x2 + x3) / 2) + 1)), (5, .int ((x2 + x3) / 2)), (0, .ref (gaC g 0)), (1, .int x1), (3, .int x3)] 5 (v := x4 + 1) dX7_bestThreshold_56 rfl (by rw [cst_iconst1]) (by decide) rfl rfl ?_
          refine E_goto 13 dX7_bestThreshold_59 (by decide) ?_
          refine E_sub [3, 4, 1, 5, 0] rfl ?_
          exact ih (((x2 + x3) / 2) + 1) x3 (x4 + 1) hf
        · have hf := ite_e c8 hf
          refine E_iload 47 0 dX7_bestThreshold_45 rfl rfl ?_
          refine E_istore_n 48 [(3, .int ((x2 + x3) / 2)), (5, .int ((x2 + x3) / 2)), (0, .ref (gaC g 0)), (1, .int x1), (2, .int x2), (4, .int x4)] dX7_bestThreshold_47 rfl (by decide) rfl rfl ?_
          refine E_goto 56 dX7_bestThreshold_48 (by decide) ?_
          refine E_iinc 59 [(4, .int (x4 + 1)), (3, .int ((x2 + x3) / 2)), (5, .int ((x2 + x3) / 2)), (0, .ref (gaC g 0)), (1, .int x1), (2, .int x2)] 5 (v := x4 + 1) dX7_bestThreshold_56 rfl (by rw [cst_iconst1]) (by decide) rfl rfl ?_
          refine E_goto 13 dX7_bestThreshold_59 (by decide) ?_
          refine E_sub [3, 4, 5, 1, 0] rfl ?_
          exact ih x2 ((x2 + x3) / 2) (x4 + 1) hf
set_option maxRecDepth 100000 in
set_option maxHeartbeats 4000000 in
theorem c_X7_bestThreshold {l : Launch} {g : Gt} (hl : l.stackTraces = false) {a1 : Int32} {μ : Mm} {ν : Mm} {o : Nat → Int64} {dd : Nat → UInt64} {res : Nat × Int32} (hf : f_X7_bestThreshold a1 μ = some res) : CM l g z_X7_bestThreshold yX7_bestThreshold [.ref (gaC g 0), .int a1] (μ, ν, o, dd) 1 (oc3 res.1 (some (.int res.2))) (μ, ν, o, dd) := by
  unfold f_X7_bestThreshold at hf
  refine CM_of_E rfl rfl (by decide +kernel) rfl (Nat.le_of_ble_eq_true rfl) hl ?_
  refine E_iload_n 1 1 dX7_bestThreshold_0 rfl rfl rfl ?_
  obtain ⟨r1, hc2, hf⟩ := bnd hf
  refine E_callS2 4 1 [] [] (c_X7_requireMost hl hc2) my_X7_requireMost kl_X7_298 rfl rfl (Nat.le_of_ble_eq_true rfl) (rmok rfl) dX7_bestThreshold_1 rfl rfl rfl (fun z3 => ?_) (fun z3 => ?_)
  · have hf := ite_t z3 hf
    refine E_iconst 5 1 dX7_bestThreshold_4 cst_iconst1 rfl ?_
    refine E_istore_n 6 [(2, .int 1), (0, .ref (gaC g 0)), (1, .int a1)] dX7_bestThreshold_5 rfl (by decide) rfl rfl ?_
    refine E_sipush 9 1201 dX7_bestThreshold_6 cst_sipush1201 rfl ?_
    refine E_istore_n 10 [(3, .int 1201), (2, .int 1), (0, .ref (gaC g 0)), (1, .int a1)] dX7_bestThreshold_9 rfl (by decide) rfl rfl ?_
    refine E_iconst 11 0 dX7_bestThreshold_10 cst_iconst0 rfl ?_
    refine E_istore 13 [(4, .int 0), (3, .int 1201), (2, .int 1), (0, .ref (gaC g 0)), (1, .int a1)] dX7_bestThreshold_11 (by decide) rfl rfl ?_
    refine E_sub [3, 4, 2, 1, 0] rfl ?_
    refine l_X7_bestThreshold_L13 hl (fun y9 hf => ?_) _ _ _ _ hf
    · refine E_iload_n 63 0 dX7_bestThreshold_62 rfl rfl rfl ?_
      cases hf
      exact E_iret dX7_bestThreshold_63 rfl (Nat.le_of_ble_eq_true rfl) (Nat.le_of_ble_eq_true rfl)
  · have hf := ite_e z3 hf
    cases hf
    exact EX_outc rfl z3 (Nat.le_of_ble_eq_true rfl) (Nat.le_of_ble_eq_true rfl)
set_option maxRecDepth 100000 in
set_option maxHeartbeats 4000000 in
theorem c_L_bestThreshold_0_o {l : Launch} {g : Gt} (hl : l.stackTraces = false) {a1 : Int32} {μ : Mm} {ν : Mm} {o : Nat → Int64} {dd : Nat → UInt64} {res : Int32 × (Nat → Int64)} (hf : f_L_bestThreshold_0_o a1 μ o = some res) : CM l g z_L_bestThreshold yL_bestThreshold [.ref (gaC g 0), .int a1, .ref (gao g 0)] (μ, ν, o, dd) 1 (.inl (some (.int res.1))) (μ, ν, res.2, dd) := by
  unfold f_L_bestThreshold_0_o at hf
  refine CM_of_EH rfl rfl (by decide +kernel) rfl (Nat.le_of_ble_eq_true rfl) hl ?_
  refine E_aload_n 1 2 dL_bestThreshold_0 rfl rfl rfl ?_
  refine E_iconst 2 0 dL_bestThreshold_1 cst_iconst0 rfl ?_
  refine E_aload_n 3 0 dL_bestThreshold_2 rfl rfl rfl ?_
  refine E_iload_n 4 1 dL_bestThreshold_3 rfl rfl rfl ?_
  obtain ⟨r1, hc2, hf⟩ := bnd hf
  refine E_callVC2 7 1 [.int 0, .ref (gao g 0)] [.int r1.2, .int 0, .ref (gao g 0)] (c_X7_bestThreshold hl hc2) my_X7_bestThreshold rc_X7 kl_L_137 rfl rfl (Nat.le_of_ble_eq_true rfl) (rmok rfl) dL_bestThreshold_4 rfl rfl rfl (fun z3 => ?_) (fun z3 => ?_)
  · have hf := ite_t z3 hf
    refine E_i2l 8 dL_bestThreshold_7 rfl ?_
    obtain ⟨h4, hf⟩ := chk_some hf
    refine E_last 9 h4 dL_bestThreshold_8 rfl ?_
    refine E_goto 15 dL_bestThreshold_9 (by decide) ?_
    refine E_iconst 16 0 dL_bestThreshold_15 cst_iconst0 rfl ?_
    cases hf
    exact E_iret dL_bestThreshold_16 rfl (Nat.le_of_ble_eq_true rfl) (Nat.le_of_ble_eq_true rfl)
  · have hf := ite_e z3 hf
    by_cases k5 : r1.1 = 4
    · rw [k5]
      have hf := ite_t k5 hf
      refine EX_catch (X := "java/lang/IllegalArgumentException") [] [] 0 9 12 13 rfl (fun _ h => nomatch h) ⟨by decide, by decide⟩ (by decide) kk_L_13 kt_java_lang_IllegalArgumentException (fun q => ?_)
      refine E_astore_n 13 [(3, .ref q), (0, .ref (gaC g 0)), (1, .int a1), (2, .ref (gao g 0))] dL_bestThreshold_12 rfl (by decide) rfl rfl ?_
      refine E_iconst 14 1 dL_bestThreshold_13 cst_iconst1 rfl ?_
      cases hf
      exact E_iret dL_bestThreshold_14 rfl (Nat.le_of_ble_eq_true rfl) (Nat.le_of_ble_eq_true rfl)
    have hf := ite_e k5 hf
    cases hf
set_option maxRecDepth 100000 in
set_option maxHeartbeats 4000000 in
theorem l_X7_bestThresholdByTrying_L6 {l : Launch} {g : Gt} (hl : l.stackTraces = false) {μ : Mm} {ν : Mm} {o : Nat → Int64} {dd : Nat → UInt64} {kx30 : (Int32 → Option (Nat × Int32))} {x1 : Int32} {res : Nat × Int32} (hx30 : ∀ (w2 : Int32), kx30 w2 = some res → E l g z_X7_bestThresholdByTrying 30 [(2, .int w2)] [] (μ, ν, o, dd) 1 (QM g (oc3 res.1 (some (.int res.2))) (μ, ν, o, dd) 1)) : ∀ (n : Nat) (x2 : Int32) , f_X7_bestThresholdByTrying_L6 kx30 x1 μ n x2 = some res → E l g z_X7_bestThresholdByTrying 6 [(0, .ref (gaC g 0)), (1, .int x1), (2, .int x2)] [] (μ, ν, o, dd) 1 (QM g (oc3 res.1 (some (.int res.2))) (μ, ν, o, dd) 1) := by
  intro n
  induction n with
  | zero => intro x2 hf; cases hf
  | succ n ih =>
    intro x2 hf
    refine E_iload_n 7 2 dX7_bestThresholdByTrying_6 rfl rfl rfl ?_
    refine E_sipush 10 1201 dX7_bestThresholdByTrying_7 cst_sipush1201 rfl ?_
    refine E_icmp_ge 30 13 dX7_bestThresholdByTrying_10 (by decide) rfl (fun c4 => ?_) (fun c4 => ?_)
    · have hf := ite_t c4 hf
      refine E_sub [2] rfl ?_
      exact hx30 x2 hf
    · have hf := ite_e c4 hf
      refine E_aload_n 14 0 dX7_bestThresholdByTrying_13 rfl rfl rfl ?_
      refine E_bipush 16 99 dX7_bestThresholdByTrying_14 cst_bipush99 rfl ?_
      refine E_iload_n 17 2 dX7_bestThresholdByTrying_16 rfl rfl rfl ?_
      obtain ⟨r5, hc6, hf⟩ := bnd hf
      refine E_callVC1 20 1 [] [.int r5] (c_X7_countDecided hl hc6) my_X7_countDecided rc_X7 kl_X7_295 rfl rfl (Nat.le_of_ble_eq_true rfl) (rmok rfl) dX7_bestThresholdByTrying_17 rfl rfl rfl ?_
      refine E_iload_n 21 1 dX7_bestThresholdByTrying_20 rfl rfl rfl ?_
      refine E_icmp_le 30 24 dX7_bestThresholdByTrying_21 (by decide) rfl (fun c7 => ?_) (fun c7 => ?_)
      · have hf := ite_t c7 hf
        refine E_sub [2] rfl ?_
        exact hx30 x2 hf
      · have hf := ite_e c7 hf
        refine E_iinc 27 [(2, .int (x2 + 1)), (0, .ref (gaC g 0)), (1, .int x1)] 2 (v := x2 + 1) dX7_bestThresholdByTrying_24 rfl (by rw [cst_iconst1]) (by decide) rfl rfl ?_
        refine E_goto 6 dX7_bestThresholdByTrying_27 (by decide) ?_
        refine E_sub [1, 2, 0] rfl ?_
        exact ih (x2 + 1) hf
set_option maxRecDepth 100000 in
set_option maxHeartbeats 4000000 in
theorem c_X7_bestThresholdByTrying {l : Launch} {g : Gt} (hl : l.stackTraces = false) {a1 : Int32} {μ : Mm} {ν : Mm} {o : Nat → Int64} {dd : Nat → UInt64} {res : Nat × Int32} (hf : f_X7_bestThresholdByTrying a1 μ = some res) : CM l g z_X7_bestThresholdByTrying yX7_bestThresholdByTrying [.ref (gaC g 0), .int a1] (μ, ν, o, dd) 1 (oc3 res.1 (some (.int res.2))) (μ, ν, o, dd) := by
  unfold f_X7_bestThresholdByTrying at hf
  refine CM_of_E rfl rfl (by decide +kernel) rfl (Nat.le_of_ble_eq_true rfl) hl ?_
  refine E_iload_n 1 1 dX7_bestThresholdByTrying_0 rfl rfl rfl ?_
  obtain ⟨r1, hc2, hf⟩ := bnd hf
  refine E_callS2 4 1 [] [] (c_X7_requireMost hl hc2) my_X7_requireMost kl_X7_298 rfl rfl (Nat.le_of_ble_eq_true rfl) (rmok rfl) dX7_bestThresholdByTrying_1 rfl rfl rfl (fun z3 => ?_) (fun z3 => ?_)
  · have hf := ite_t z3 hf
    refine E_iconst 5 1 dX7_bestThresholdByTrying_4 cst_iconst1 rfl ?_
    refine E_istore_n 6 [(2, .int 1), (0, .ref (gaC g 0)), (1, .int a1)] dX7_bestThresholdByTrying_5 rfl (by decide) rfl rfl ?_
    refine E_sub [1, 2, 0] rfl ?_
    refine l_X7_bestThresholdByTrying_L6 hl (fun y8 hf => ?_) _ _ hf
    · refine E_iload_n 31 0 dX7_bestThresholdByTrying_30 rfl rfl rfl ?_
      cases hf
      exact E_iret dX7_bestThresholdByTrying_31 rfl (Nat.le_of_ble_eq_true rfl) (Nat.le_of_ble_eq_true rfl)
  · have hf := ite_e z3 hf
    cases hf
    exact EX_outc rfl z3 (Nat.le_of_ble_eq_true rfl) (Nat.le_of_ble_eq_true rfl)
set_option maxRecDepth 100000 in
set_option maxHeartbeats 4000000 in
theorem c_L_bestThresholdByTrying_0_o {l : Launch} {g : Gt} (hl : l.stackTraces = false) {a1 : Int32} {μ : Mm} {ν : Mm} {o : Nat → Int64} {dd : Nat → UInt64} {res : Int32 × (Nat → Int64)} (hf : f_L_bestThresholdByTrying_0_o a1 μ o = some res) : CM l g z_L_bestThresholdByTrying yL_bestThresholdByTrying [.ref (gaC g 0), .int a1, .ref (gao g 0)] (μ, ν, o, dd) 1 (.inl (some (.int res.1))) (μ, ν, res.2, dd) := by
  unfold f_L_bestThresholdByTrying_0_o at hf
  refine CM_of_EH rfl rfl (by decide +kernel) rfl (Nat.le_of_ble_eq_true rfl) hl ?_
  refine E_aload_n 1 2 dL_bestThresholdByTrying_0 rfl rfl rfl ?_
  refine E_iconst 2 0 dL_bestThresholdByTrying_1 cst_iconst0 rfl ?_
  refine E_aload_n 3 0 dL_bestThresholdByTrying_2 rfl rfl rfl ?_
  refine E_iload_n 4 1 dL_bestThresholdByTrying_3 rfl rfl rfl ?_
  obtain ⟨r1, hc2, hf⟩ := bnd hf
  refine E_callVC2 7 1 [.int 0, .ref (gao g 0)] [.int r1.2, .int 0, .ref (gao g 0)] (c_X7_bestThresholdByTrying hl hc2) my_X7_bestThresholdByTrying rc_X7 kl_L_140 rfl rfl (Nat.le_of_ble_eq_true rfl) (rmok rfl) dL_bestThresholdByTrying_4 rfl rfl rfl (fun z3 => ?_) (fun z3 => ?_)
  · have hf := ite_t z3 hf
    refine E_i2l 8 dL_bestThresholdByTrying_7 rfl ?_
    obtain ⟨h4, hf⟩ := chk_some hf
    refine E_last 9 h4 dL_bestThresholdByTrying_8 rfl ?_
    refine E_goto 15 dL_bestThresholdByTrying_9 (by decide) ?_
    refine E_iconst 16 0 dL_bestThresholdByTrying_15 cst_iconst0 rfl ?_
    cases hf
    exact E_iret dL_bestThresholdByTrying_16 rfl (Nat.le_of_ble_eq_true rfl) (Nat.le_of_ble_eq_true rfl)
  · have hf := ite_e z3 hf
    by_cases k5 : r1.1 = 4
    · rw [k5]
      have hf := ite_t k5 hf
      refine EX_catch (X := "java/lang/IllegalArgumentException") [] [] 0 9 12 13 rfl (fun _ h => nomatch h) ⟨by decide, by decide⟩ (by decide) kk_L_13 kt_java_lang_IllegalArgumentException (fun q => ?_)
      refine E_astore_n 13 [(3, .ref q), (0, .ref (gaC g 0)), (1, .int a1), (2, .ref (gao g 0))] dL_bestThresholdByTrying_12 rfl (by decide) rfl rfl ?_
      refine E_iconst 14 1 dL_bestThresholdByTrying_13 cst_iconst1 rfl ?_
      cases hf
      exact E_iret dL_bestThresholdByTrying_14 rfl (Nat.le_of_ble_eq_true rfl) (Nat.le_of_ble_eq_true rfl)
    have hf := ite_e k5 hf
    cases hf
set_option maxRecDepth 100000 in
set_option maxHeartbeats 4000000 in
theorem l_X2_countWithReason_L6 {l : Launch} {g : Gt} (hl : l.stackTraces = false) {μ : Mm} {ν : Mm} {o : Nat → Int64} {dd : Nat → UInt64}  {x1 : Int32} {x2 : Int32} {x3 : Int32} {res : Int32} : ∀ (n : Nat) (x4 : Int32) (x5 : Int32) , f_X2_countWithReason_L6 x1 x2 x3 μ n x4 x5 = some res → E l g z_X2_countWithReason 6 [(0, .ref (gaC g 29)), (1, .int x1), (2, .int x2), (3, .int x3), (4, .int x4), (5, .int x5)] [] (μ, ν, o, dd) 0 (QM g (.inl (some (.int res))) (μ, ν, o, dd) 0) := by
  intro n
  induction n with
  | zero => intro x4 x5 hf; cases hf
  | succ n ih =>
    intro x4 x5 hf
    refine E_iload 8 5 dX2_countWithReason_6 rfl rfl ?_
    refine E_iload_n 9 3 dX2_countWithReason_8 rfl rfl rfl ?_
    refine E_icmp_ge 46 12 dX2_countWithReason_9 (by decide) rfl (fun c1 => ?_) (fun c1 => ?_)
    · have hf := ite_t c1 hf
      refine E_iload 48 4 dX2_countWithReason_46 rfl rfl ?_
      cases hf
      exact E_iret dX2_countWithReason_48 rfl (Nat.le_of_ble_eq_true rfl) (Nat.le_of_ble_eq_true rfl)
    · have hf := ite_e c1 hf
      refine E_aload_n 13 0 dX2_countWithReason_12 rfl rfl rfl ?_
      refine E_getCr 16 fg_X2_15 dX2_countWithReason_13 rfl ?_
      refine E_iload 18 5 dX2_countWithReason_16 rfl rfl ?_
      obtain ⟨h2, hf⟩ := chk_some hf
      refine E_caldC 19 (k := 31) (n := 200) rfl (by decide) h2 dX2_countWithReason_18 rfl ?_
      refine E_iload_n 20 1 dX2_countWithReason_19 rfl rfl rfl ?_
      refine E_icmp_ne 40 23 dX2_countWithReason_20 (by decide) rfl (fun c3 => ?_) (fun c3 => ?_)
      · have hf := ite_e c3 hf
        refine E_iinc 43 [(5, .int (x5 + 1)), (0, .ref (gaC g 29)), (1, .int x1), (2, .int x2), (3, .int x3), (4, .int x4)] 5 (v := x5 + 1) dX2_countWithReason_40 rfl (by rw [cst_iconst1]) (by decide) rfl rfl ?_
        refine E_goto 6 dX2_countWithReason_43 (by decide) ?_
        refine E_sub [1, 2, 3, 4, 5, 0] rfl ?_
        exact ih x4 (x5 + 1) hf
      · have hf := ite_t c3 hf
        refine E_aload_n 24 0 dX2_countWithReason_23 rfl rfl rfl ?_
        refine E_getCr 27 fg_X2_19 dX2_countWithReason_24 rfl ?_
        refine E_iload 29 5 dX2_countWithReason_27 rfl rfl ?_
        obtain ⟨h4, hf⟩ := chk_some hf
        refine E_ialdC 30 (k := 32) (n := 200) rfl (by decide) h4 dX2_countWithReason_29 rfl ?_
        refine E_iload_n 31 2 dX2_countWithReason_30 rfl rfl rfl ?_
        obtain ⟨r5, hc6, hf⟩ := bnd hf
        refine E_callSN1 34 0 [] [.int r5] (c_X7_hasBit hl hc6) my_X7_hasBit kl_X2_56 rfl rfl (Nat.le_of_ble_eq_true rfl) (rmok rfl) dX2_countWithReason_31 rfl rfl rfl ?_
        refine E_if_eq 40 37 dX2_countWithReason_34 (by decide) rfl (fun c7 => ?_) (fun c7 => ?_)
        · have hf := ite_t c7 hf
          refine E_iinc 43 [(5, .int (x5 + 1)), (0, .ref (gaC g 29)), (1, .int x1), (2, .int x2), (3, .int x3), (4, .int x4)] 5 (v := x5 + 1) dX2_countWithReason_40 rfl (by rw [cst_iconst1]) (by decide) rfl rfl ?_
          refine E_goto 6 dX2_countWithReason_43 (by decide) ?_
          refine E_sub [1, 2, 3, 4, 5, 0] rfl ?_
          exact ih x4 (x5 + 1) hf
        · have hf := ite_e c7 hf
          refine E_iinc 40 [(4, .int (x4 + 1)), (0, .ref (gaC g 29)), (1, .int x1), (2, .int x2), (3, .int x3), (5, .int x5)] 4 (v := x4 + 1) dX2_countWithReason_37 rfl (by rw [cst_iconst1]) (by decide) rfl rfl ?_
          refine E_iinc 43 [(5, .int (x5 + 1)), (4, .int (x4 + 1)), (0, .ref (gaC g 29)), (1, .int x1), (2, .int x2), (3, .int x3)] 5 (v := x5 + 1) dX2_countWithReason_40 rfl (by rw [cst_iconst1]) (by decide) rfl rfl ?_
          refine E_goto 6 dX2_countWithReason_43 (by decide) ?_
          refine E_sub [2, 3, 4, 5, 1, 0] rfl ?_
          exact ih (x4 + 1) (x5 + 1) hf
set_option maxRecDepth 100000 in
set_option maxHeartbeats 4000000 in
theorem c_X2_countWithReason {l : Launch} {g : Gt} (hl : l.stackTraces = false) {a1 : Int32} {a2 : Int32} {a3 : Int32} {μ : Mm} {ν : Mm} {o : Nat → Int64} {dd : Nat → UInt64} {res : Int32} (hf : f_X2_countWithReason a1 a2 a3 μ = some res) : CM l g z_X2_countWithReason yX2_countWithReason [.ref (gaC g 29), .int a1, .int a2, .int a3] (μ, ν, o, dd) 0 (.inl (some (.int res))) (μ, ν, o, dd) := by
  unfold f_X2_countWithReason at hf
  refine CM_of_E rfl rfl (by decide +kernel) rfl (Nat.le_of_ble_eq_true rfl) hl ?_
  refine E_iconst 1 0 dX2_countWithReason_0 cst_iconst0 rfl ?_
  refine E_istore 3 [(4, .int 0), (0, .ref (gaC g 29)), (1, .int a1), (2, .int a2), (3, .int a3)] dX2_countWithReason_1 (by decide) rfl rfl ?_
  refine E_iconst 4 0 dX2_countWithReason_3 cst_iconst0 rfl ?_
  refine E_istore 6 [(5, .int 0), (4, .int 0), (0, .ref (gaC g 29)), (1, .int a1), (2, .int a2), (3, .int a3)] dX2_countWithReason_4 (by decide) rfl rfl ?_
  refine E_sub [2, 3, 4, 5, 1, 0] rfl ?_
  refine l_X2_countWithReason_L6 hl  _ _ _ hf
set_option maxRecDepth 100000 in
set_option maxHeartbeats 4000000 in
theorem c_X7_precision {l : Launch} {g : Gt} (hl : l.stackTraces = false) {a1 : Int32} {μ : Mm} {ν : Mm} {o : Nat → Int64} {dd : Nat → UInt64} {res : Nat × UInt32} (hf : f_X7_precision a1 μ = some res) : CM l g z_X7_precision yX7_precision [.ref (gaC g 0), .int a1] (μ, ν, o, dd) 2 (oc3 res.1 (some (.float res.2))) (μ, ν, o, dd) := by
  unfold f_X7_precision at hf
  refine CM_of_E rfl rfl (by decide +kernel) rfl (Nat.le_of_ble_eq_true rfl) hl ?_
  refine E_aload_n 1 0 dX7_precision_0 rfl rfl rfl ?_
  refine E_iload_n 2 1 dX7_precision_1 rfl rfl rfl ?_
  obtain ⟨r1, hc2, hf⟩ := bnd hf
  refine E_callVC2 5 1 [] [] (c_X7_requireRule hl hc2) my_X7_requireRule rc_X7 kl_X7_206 rfl rfl (Nat.le_of_ble_eq_true rfl) (rmok rfl) dX7_precision_2 rfl rfl rfl (fun z3 => ?_) (fun z3 => ?_)
  · have hf := ite_t z3 hf
    refine E_aload_n 6 0 dX7_precision_5 rfl rfl rfl ?_
    refine E_getCr 9 fg_X7_33 dX7_precision_6 rfl ?_
    refine E_bipush 11 102 dX7_precision_9 cst_bipush102 rfl ?_
    refine E_iload_n 12 1 dX7_precision_11 rfl rfl rfl ?_
    refine E_aload_n 13 0 dX7_precision_12 rfl rfl rfl ?_
    refine E_getCr 16 fg_X7_10 dX7_precision_13 rfl ?_
    refine E_getCrN 19 fg_X7_105 dX7_precision_16 rfl ?_
    refine E_getCN 22 fg_X7_109 dX7_precision_19 rfl ?_
    obtain ⟨r4, hc5, hf⟩ := bnd hf
    refine E_callVC1 25 1 [] [.int r4] (c_X2_countWithReason hl hc5) my_X2_countWithReason rc_X2 kl_X7_301 rfl rfl (Nat.le_of_ble_eq_true rfl) (rmok rfl) dX7_precision_22 rfl rfl rfl ?_
    refine E_istore_n 26 [(2, .int r4), (0, .ref (gaC g 0)), (1, .int a1)] dX7_precision_25 rfl (by decide) rfl rfl ?_
    refine E_iload_n 27 0 dX7_precision_26 rfl rfl rfl ?_
    refine E_aload_n 28 1 dX7_precision_27 rfl rfl rfl ?_
    refine E_getCr 31 fg_X7_33 dX7_precision_28 rfl ?_
    refine E_bipush 33 99 dX7_precision_31 cst_bipush99 rfl ?_
    refine E_iload_n 34 2 dX7_precision_33 rfl rfl rfl ?_
    refine E_aload_n 35 1 dX7_precision_34 rfl rfl rfl ?_
    refine E_getCr 38 fg_X7_10 dX7_precision_35 rfl ?_
    refine E_getCrN 41 fg_X7_105 dX7_precision_38 rfl ?_
    refine E_getCN 44 fg_X7_109 dX7_precision_41 rfl ?_
    obtain ⟨r6, hc7, hf⟩ := bnd hf
    refine E_callVC1 47 1 [.int r4] [.int r6, .int r4] (c_X2_countWithReason hl hc7) my_X2_countWithReason rc_X2 kl_X7_301 rfl rfl (Nat.le_of_ble_eq_true rfl) (rmok rfl) dX7_precision_44 rfl rfl rfl ?_
    refine E_iadd 48 dX7_precision_47 rfl ?_
    refine E_istore_n 49 [(3, .int (r4 + r6)), (2, .int r4), (0, .ref (gaC g 0)), (1, .int a1)] dX7_precision_48 rfl (by decide) rfl rfl ?_
    refine E_iload_n 50 0 dX7_precision_49 rfl rfl rfl ?_
    refine E_if_ne 64 53 dX7_precision_50 (by decide) rfl (fun c8 => ?_) (fun c8 => ?_)
    · have hf := ite_e c8 hf
      refine E_iload_n 65 1 dX7_precision_64 rfl rfl rfl ?_
      refine E_i2f 66 dX7_precision_65 rfl ?_
      refine E_iload_n 67 0 dX7_precision_66 rfl rfl rfl ?_
      refine E_i2f 68 dX7_precision_67 rfl ?_
      obtain ⟨h9, hf⟩ := gx32_some hf
      refine E_fdiv 69 dX7_precision_68 h9 rfl ?_
      cases hf
      exact E_fret dX7_precision_69 rfl (Nat.le_of_ble_eq_true rfl) (Nat.le_of_ble_eq_true rfl)
    · have hf := ite_t c8 hf
      cases hf
      exact E_throwW th_X7_305_309 tx_307 rfl dX7_precision_53 dX7_precision_56 dX7_precision_57 dX7_precision_60 dX7_precision_63 (Nat.le_of_ble_eq_true rfl) (Nat.le_of_ble_eq_true rfl) (Nat.le_of_ble_eq_true rfl) (Nat.le_of_ble_eq_true rfl) (Nat.le_of_ble_eq_true rfl) (Nat.le_of_ble_eq_true rfl)
  · have hf := ite_e z3 hf
    cases hf
    exact EX_outc rfl z3 (Nat.le_of_ble_eq_true rfl) (Nat.le_of_ble_eq_true rfl)
set_option maxRecDepth 100000 in
set_option maxHeartbeats 4000000 in
theorem c_L_precision_0_d {l : Launch} {g : Gt} (hl : l.stackTraces = false) {a1 : Int32} {μ : Mm} {ν : Mm} {o : Nat → Int64} {dd : Nat → UInt64} {res : Int32 × (Nat → UInt64)} (hf : f_L_precision_0_d a1 μ dd = some res) : CM l g z_L_precision yL_precision [.ref (gaC g 0), .int a1, .ref (gao g 1)] (μ, ν, o, dd) 2 (.inl (some (.int res.1))) (μ, ν, o, res.2) := by
  unfold f_L_precision_0_d at hf
  refine CM_of_EH rfl rfl (by decide +kernel) rfl (Nat.le_of_ble_eq_true rfl) hl ?_
  refine E_aload_n 1 2 dL_precision_0 rfl rfl rfl ?_
  refine E_iconst 2 0 dL_precision_1 cst_iconst0 rfl ?_
  refine E_aload_n 3 0 dL_precision_2 rfl rfl rfl ?_
  refine E_iload_n 4 1 dL_precision_3 rfl rfl rfl ?_
  obtain ⟨r1, hc2, hf⟩ := bnd hf
  refine E_callVC2 7 2 [.int 0, .ref (gao g 1)] [.float r1.2, .int 0, .ref (gao g 1)] (c_X7_precision hl hc2) my_X7_precision rc_X7 kl_L_143 rfl rfl (Nat.le_of_ble_eq_true rfl) (rmok rfl) dL_precision_4 rfl rfl rfl (fun z3 => ?_) (fun z3 => ?_)
  · have hf := ite_t z3 hf
    obtain ⟨h4, hf⟩ := gx64_some hf
    refine E_f2d 8 dL_precision_7 h4 rfl ?_
    obtain ⟨h5, hf⟩ := chk_some hf
    refine E_dast 9 h5 dL_precision_8 rfl ?_
    refine E_goto 18 dL_precision_9 (by decide) ?_
    refine E_iconst 19 0 dL_precision_18 cst_iconst0 rfl ?_
    cases hf
    exact E_iret dL_precision_19 rfl (Nat.le_of_ble_eq_true rfl) (Nat.le_of_ble_eq_true rfl)
  · have hf := ite_e z3 hf
    by_cases k6 : r1.1 = 1
    · rw [k6]
      have hf := ite_t k6 hf
      refine EX_catch (X := "java/lang/IndexOutOfBoundsException") [] [(0, 9, 15, 147)] 0 9 12 21 rfl (fun _ h => nomatch h) ⟨by decide, by decide⟩ (by decide) kk_L_21 kt_java_lang_IndexOutOfBoundsException (fun q => ?_)
      refine E_astore_n 13 [(3, .ref q), (0, .ref (gaC g 0)), (1, .int a1), (2, .ref (gao g 1))] dL_precision_12 rfl (by decide) rfl rfl ?_
      refine E_iconst 14 1 dL_precision_13 cst_iconst1 rfl ?_
      cases hf
      exact E_iret dL_precision_14 rfl (Nat.le_of_ble_eq_true rfl) (Nat.le_of_ble_eq_true rfl)
    have hf := ite_e k6 hf
    by_cases k7 : r1.1 = 6
    · rw [k7]
      have hf := ite_t k7 hf
      refine EX_catch (X := "java/lang/ArithmeticException") [(0, 9, 12, 21)] [] 0 9 15 147 rfl (List.forall_mem_cons.mpr ⟨⟨_, kk_L_21, nc_43, by decide⟩, fun _ h => nomatch h⟩) ⟨by decide, by decide⟩ (by decide) kk_L_147 kt_java_lang_ArithmeticException (fun q => ?_)
      refine E_astore_n 16 [(3, .ref q), (0, .ref (gaC g 0)), (1, .int a1), (2, .ref (gao g 1))] dL_precision_15 rfl (by decide) rfl rfl ?_
      refine E_iconst 17 2 dL_precision_16 cst_iconst2 rfl ?_
      cases hf
      exact E_iret dL_precision_17 rfl (Nat.le_of_ble_eq_true rfl) (Nat.le_of_ble_eq_true rfl)
    have hf := ite_e k7 hf
    cases hf
set_option maxRecDepth 100000 in
set_option maxHeartbeats 4000000 in
theorem l_X7_meanScore_L30 {l : Launch} {g : Gt} (hl : l.stackTraces = false) {μ : Mm} {ν : Mm} {o : Nat → Int64} {dd : Nat → UInt64}  {x1 : Int32} {res : Nat × UInt64} : ∀ (n : Nat) (x2 : Int32) (x3 : Int32) , f_X7_meanScore_L30 x1 μ n x2 x3 = some res → E l g z_X7_meanScore 30 [(0, .ref (gaC g 0)), (1, .int x1), (2, .int x2), (3, .int x3)] [] (μ, ν, o, dd) 0 (QM g (oc3 res.1 (some (.double res.2))) (μ, ν, o, dd) 1) := by
  intro n
  induction n with
  | zero => intro x2 x3 hf; cases hf
  | succ n ih =>
    intro x2 x3 hf
    refine E_iload_n 31 3 dX7_meanScore_30 rfl rfl rfl ?_
    refine E_iload_n 32 1 dX7_meanScore_31 rfl rfl rfl ?_
    refine E_icmp_ge 53 35 dX7_meanScore_32 (by decide) rfl (fun c2 => ?_) (fun c2 => ?_)
    · have hf := ite_t c2 hf
      refine E_iload_n 54 2 dX7_meanScore_53 rfl rfl rfl ?_
      refine E_i2d 55 dX7_meanScore_54 rfl ?_
      refine E_iload_n 56 1 dX7_meanScore_55 rfl rfl rfl ?_
      refine E_i2d 57 dX7_meanScore_56 rfl ?_
      obtain ⟨h3, hf⟩ := gx64_some hf
      refine E_ddiv 58 dX7_meanScore_57 h3 rfl ?_
      cases hf
      exact E_dret dX7_meanScore_58 rfl (Nat.le_of_ble_eq_true rfl) (Nat.le_of_ble_eq_true rfl)
    · have hf := ite_e c2 hf
      refine E_iload_n 36 2 dX7_meanScore_35 rfl rfl rfl ?_
      refine E_aload_n 37 0 dX7_meanScore_36 rfl rfl rfl ?_
      refine E_getCr 40 fg_X7_33 dX7_meanScore_37 rfl ?_
      refine E_getCrN 43 fg_X7_215 dX7_meanScore_40 rfl ?_
      refine E_iload_n 44 3 dX7_meanScore_43 rfl rfl rfl ?_
      obtain ⟨h4, hf⟩ := chk_some hf
      refine E_ialdC 45 (k := 30) (n := 200) rfl (by decide) h4 dX7_meanScore_44 rfl ?_
      refine E_iadd 46 dX7_meanScore_45 rfl ?_
      refine E_istore_n 47 [(2, .int (x2 + (μ 30 x3.toNatClampNeg))), (0, .ref (gaC g 0)), (1, .int x1), (3, .int x3)] dX7_meanScore_46 rfl (by decide) rfl rfl ?_
      refine E_iinc 50 [(3, .int (x3 + 1)), (2, .int (x2 + (μ 30 x3.toNatClampNeg))), (0, .ref (gaC g 0)), (1, .int x1)] 3 (v := x3 + 1) dX7_meanScore_47 rfl (by rw [cst_iconst1]) (by decide) rfl rfl ?_
      refine E_goto 30 dX7_meanScore_50 (by decide) ?_
      refine E_sub [2, 3, 1, 0] rfl ?_
      exact ih (x2 + (μ 30 x3.toNatClampNeg)) (x3 + 1) hf
set_option maxRecDepth 100000 in
set_option maxHeartbeats 4000000 in
theorem c_X7_meanScore {l : Launch} {g : Gt} (hl : l.stackTraces = false)  {μ : Mm} {ν : Mm} {o : Nat → Int64} {dd : Nat → UInt64} {res : Nat × UInt64} (hf : f_X7_meanScore μ = some res) : CM l g z_X7_meanScore yX7_meanScore [.ref (gaC g 0)] (μ, ν, o, dd) 1 (oc3 res.1 (some (.double res.2))) (μ, ν, o, dd) := by
  unfold f_X7_meanScore at hf
  refine CM_of_E rfl rfl (by decide +kernel) rfl (Nat.le_of_ble_eq_true rfl) hl ?_
  refine E_aload_n 1 0 dX7_meanScore_0 rfl rfl rfl ?_
  refine E_getCr 4 fg_X7_10 dX7_meanScore_1 rfl ?_
  refine E_getCrN 7 fg_X7_105 dX7_meanScore_4 rfl ?_
  refine E_getCN 10 fg_X7_109 dX7_meanScore_7 rfl ?_
  refine E_istore_n 11 [(1, .int (μ 5 4)), (0, .ref (gaC g 0))] dX7_meanScore_10 rfl (by decide) rfl rfl ?_
  refine E_iload_n 12 0 dX7_meanScore_11 rfl rfl rfl ?_
  refine E_if_ne 26 15 dX7_meanScore_12 (by decide) rfl (fun c1 => ?_) (fun c1 => ?_)
  · have hf := ite_e c1 hf
    refine E_iconst 27 0 dX7_meanScore_26 cst_iconst0 rfl ?_
    refine E_istore_n 28 [(2, .int 0), (1, .int (μ 5 4)), (0, .ref (gaC g 0))] dX7_meanScore_27 rfl (by decide) rfl rfl ?_
    refine E_iconst 29 0 dX7_meanScore_28 cst_iconst0 rfl ?_
    refine E_istore_n 30 [(3, .int 0), (2, .int 0), (1, .int (μ 5 4)), (0, .ref (gaC g 0))] dX7_meanScore_29 rfl (by decide) rfl rfl ?_
    refine E_sub [3, 2, 1, 0] rfl ?_
    refine l_X7_meanScore_L30 hl  _ _ _ hf
  · have hf := ite_t c1 hf
    cases hf
    exact E_throwW th_X7_305_309 tx_310 rfl dX7_meanScore_15 dX7_meanScore_18 dX7_meanScore_19 dX7_meanScore_22 dX7_meanScore_25 (Nat.le_of_ble_eq_true rfl) (Nat.le_of_ble_eq_true rfl) (Nat.le_of_ble_eq_true rfl) (Nat.le_of_ble_eq_true rfl) (Nat.le_of_ble_eq_true rfl) (Nat.le_of_ble_eq_true rfl)
set_option maxRecDepth 100000 in
set_option maxHeartbeats 4000000 in
theorem c_L_meanScore_0_d {l : Launch} {g : Gt} (hl : l.stackTraces = false)  {μ : Mm} {ν : Mm} {o : Nat → Int64} {dd : Nat → UInt64} {res : Int32 × (Nat → UInt64)} (hf : f_L_meanScore_0_d μ dd = some res) : CM l g z_L_meanScore yL_meanScore [.ref (gaC g 0), .ref (gao g 1)] (μ, ν, o, dd) 1 (.inl (some (.int res.1))) (μ, ν, o, res.2) := by
  unfold f_L_meanScore_0_d at hf
  refine CM_of_EH rfl rfl (by decide +kernel) rfl (Nat.le_of_ble_eq_true rfl) hl ?_
  refine E_aload_n 1 1 dL_meanScore_0 rfl rfl rfl ?_
  refine E_iconst 2 0 dL_meanScore_1 cst_iconst0 rfl ?_
  refine E_aload_n 3 0 dL_meanScore_2 rfl rfl rfl ?_
  obtain ⟨r1, hc2, hf⟩ := bnd hf
  refine E_callVC2 6 1 [.int 0, .ref (gao g 1)] [.double r1.2, .int 0, .ref (gao g 1)] (c_X7_meanScore hl hc2) my_X7_meanScore rc_X7 kl_L_149 rfl rfl (Nat.le_of_ble_eq_true rfl) (rmok rfl) dL_meanScore_3 rfl rfl rfl (fun z3 => ?_) (fun z3 => ?_)
  · have hf := ite_t z3 hf
    obtain ⟨h4, hf⟩ := chk_some hf
    refine E_dast 7 h4 dL_meanScore_6 rfl ?_
    refine E_goto 13 dL_meanScore_7 (by decide) ?_
    refine E_iconst 14 0 dL_meanScore_13 cst_iconst0 rfl ?_
    cases hf
    exact E_iret dL_meanScore_14 rfl (Nat.le_of_ble_eq_true rfl) (Nat.le_of_ble_eq_true rfl)
  · have hf := ite_e z3 hf
    by_cases k5 : r1.1 = 6
    · rw [k5]
      have hf := ite_t k5 hf
      refine EX_catch (X := "java/lang/ArithmeticException") [] [] 0 7 10 147 rfl (fun _ h => nomatch h) ⟨by decide, by decide⟩ (by decide) kk_L_147 kt_java_lang_ArithmeticException (fun q => ?_)
      refine E_astore_n 11 [(2, .ref q), (0, .ref (gaC g 0)), (1, .ref (gao g 1))] dL_meanScore_10 rfl (by decide) rfl rfl ?_
      refine E_iconst 12 1 dL_meanScore_11 cst_iconst1 rfl ?_
      cases hf
      exact E_iret dL_meanScore_12 rfl (Nat.le_of_ble_eq_true rfl) (Nat.le_of_ble_eq_true rfl)
    have hf := ite_e k5 hf
    cases hf
set_option maxRecDepth 100000 in
set_option maxHeartbeats 4000000 in
theorem c_X7_accounts {l : Launch} {g : Gt} (hl : l.stackTraces = false)  {μ : Mm} {ν : Mm} {o : Nat → Int64} {dd : Nat → UInt64} {res : Int32} (hf : f_X7_accounts μ = some res) : CM l g z_X7_accounts yX7_accounts [.ref (gaC g 0)] (μ, ν, o, dd) 0 (.inl (some (.int res))) (μ, ν, o, dd) := by
  unfold f_X7_accounts at hf
  refine CM_of_E rfl rfl (by decide +kernel) rfl (Nat.le_of_ble_eq_true rfl) hl ?_
  refine E_aload_n 1 0 dX7_accounts_0 rfl rfl rfl ?_
  refine E_getCr 4 fg_X7_10 dX7_accounts_1 rfl ?_
  refine E_getCrN 7 fg_X7_48 dX7_accounts_4 rfl ?_
  refine E_getCN 10 fg_X7_52 dX7_accounts_7 rfl ?_
  cases hf
  exact E_iret dX7_accounts_10 rfl (Nat.le_of_ble_eq_true rfl) (Nat.le_of_ble_eq_true rfl)
set_option maxRecDepth 100000 in
set_option maxHeartbeats 4000000 in
theorem c_X7_time {l : Launch} {g : Gt} (hl : l.stackTraces = false)  {μ : Mm} {ν : Mm} {o : Nat → Int64} {dd : Nat → UInt64} {res : Int32} (hf : f_X7_time μ = some res) : CM l g z_X7_time yX7_time [.ref (gaC g 0)] (μ, ν, o, dd) 0 (.inl (some (.int res))) (μ, ν, o, dd) := by
  unfold f_X7_time at hf
  refine CM_of_E rfl rfl (by decide +kernel) rfl (Nat.le_of_ble_eq_true rfl) hl ?_
  refine E_aload_n 1 0 dX7_time_0 rfl rfl rfl ?_
  refine E_getCr 4 fg_X7_10 dX7_time_1 rfl ?_
  refine E_getCN 7 fg_X7_62 dX7_time_4 rfl ?_
  cases hf
  exact E_iret dX7_time_7 rfl (Nat.le_of_ble_eq_true rfl) (Nat.le_of_ble_eq_true rfl)
set_option maxRecDepth 100000 in
set_option maxHeartbeats 4000000 in
theorem c_X7_payments {l : Launch} {g : Gt} (hl : l.stackTraces = false)  {μ : Mm} {ν : Mm} {o : Nat → Int64} {dd : Nat → UInt64} {res : Int32} (hf : f_X7_payments μ = some res) : CM l g z_X7_payments yX7_payments [.ref (gaC g 0)] (μ, ν, o, dd) 0 (.inl (some (.int res))) (μ, ν, o, dd) := by
  unfold f_X7_payments at hf
  refine CM_of_E rfl rfl (by decide +kernel) rfl (Nat.le_of_ble_eq_true rfl) hl ?_
  refine E_aload_n 1 0 dX7_payments_0 rfl rfl rfl ?_
  refine E_getCr 4 fg_X7_10 dX7_payments_1 rfl ?_
  refine E_getCrN 7 fg_X7_105 dX7_payments_4 rfl ?_
  refine E_getCN 10 fg_X7_109 dX7_payments_7 rfl ?_
  cases hf
  exact E_iret dX7_payments_10 rfl (Nat.le_of_ble_eq_true rfl) (Nat.le_of_ble_eq_true rfl)
set_option maxRecDepth 100000 in
set_option maxHeartbeats 4000000 in
theorem c_X7_kept {l : Launch} {g : Gt} (hl : l.stackTraces = false)  {μ : Mm} {ν : Mm} {o : Nat → Int64} {dd : Nat → UInt64} {res : Int32} (hf : f_X7_kept μ = some res) : CM l g z_X7_kept yX7_kept [.ref (gaC g 0)] (μ, ν, o, dd) 0 (.inl (some (.int res))) (μ, ν, o, dd) := by
  unfold f_X7_kept at hf
  refine CM_of_E rfl rfl (by decide +kernel) rfl (Nat.le_of_ble_eq_true rfl) hl ?_
  refine E_aload_n 1 0 dX7_kept_0 rfl rfl rfl ?_
  refine E_getCr 4 fg_X7_10 dX7_kept_1 rfl ?_
  refine E_getCrN 7 fg_X7_105 dX7_kept_4 rfl ?_
  refine E_getCN 10 fg_X7_109 dX7_kept_7 rfl ?_
  refine E_aload_n 11 0 dX7_kept_10 rfl rfl rfl ?_
  refine E_getCr 14 fg_X7_10 dX7_kept_11 rfl ?_
  refine E_getCN 17 fg_X7_154 dX7_kept_14 rfl ?_
  refine E_isub 18 dX7_kept_17 rfl ?_
  cases hf
  exact E_iret dX7_kept_18 rfl (Nat.le_of_ble_eq_true rfl) (Nat.le_of_ble_eq_true rfl)
set_option maxRecDepth 100000 in
set_option maxHeartbeats 4000000 in
theorem c_X7_openAlerts {l : Launch} {g : Gt} (hl : l.stackTraces = false)  {μ : Mm} {ν : Mm} {o : Nat → Int64} {dd : Nat → UInt64} {res : Int32} (hf : f_X7_openAlerts μ = some res) : CM l g z_X7_openAlerts yX7_openAlerts [.ref (gaC g 0)] (μ, ν, o, dd) 0 (.inl (some (.int res))) (μ, ν, o, dd) := by
  unfold f_X7_openAlerts at hf
  refine CM_of_E rfl rfl (by decide +kernel) rfl (Nat.le_of_ble_eq_true rfl) hl ?_
  refine E_aload_n 1 0 dX7_openAlerts_0 rfl rfl rfl ?_
  refine E_getCr 4 fg_X7_33 dX7_openAlerts_1 rfl ?_
  refine E_getCN 7 fg_X7_262 dX7_openAlerts_4 rfl ?_
  cases hf
  exact E_iret dX7_openAlerts_7 rfl (Nat.le_of_ble_eq_true rfl) (Nat.le_of_ble_eq_true rfl)
set_option maxRecDepth 100000 in
set_option maxHeartbeats 4000000 in
theorem l_X7_turnover_L4 {l : Launch} {g : Gt} (hl : l.stackTraces = false) {μ : Mm} {ν : Mm} {o : Nat → Int64} {dd : Nat → UInt64}   {res : Int64} : ∀ (n : Nat) (x1 : Int64) (x3 : Int32) , f_X7_turnover_L4 μ n x1 x3 = some res → E l g z_X7_turnover 4 [(0, .ref (gaC g 0)), (1, .long x1), (3, .int x3)] [] (μ, ν, o, dd) 0 (QM g (.inl (some (.long res))) (μ, ν, o, dd) 0) := by
  intro n
  induction n with
  | zero => intro x1 x3 hf; cases hf
  | succ n ih =>
    intro x1 x3 hf
    refine E_iload_n 5 2 dX7_turnover_4 rfl rfl rfl ?_
    refine E_aload_n 6 0 dX7_turnover_5 rfl rfl rfl ?_
    refine E_getCr 9 fg_X7_10 dX7_turnover_6 rfl ?_
    refine E_getCrN 12 fg_X7_105 dX7_turnover_9 rfl ?_
    refine E_getCN 15 fg_X7_109 dX7_turnover_12 rfl ?_
    refine E_icmp_ge 40 18 dX7_turnover_15 (by decide) rfl (fun c1 => ?_) (fun c1 => ?_)
    · have hf := ite_t c1 hf
      refine E_lload_n 41 1 dX7_turnover_40 rfl rfl rfl ?_
      cases hf
      exact E_lret dX7_turnover_41 rfl (Nat.le_of_ble_eq_true rfl) (Nat.le_of_ble_eq_true rfl)
    · have hf := ite_e c1 hf
      refine E_lload_n 19 1 dX7_turnover_18 rfl rfl rfl ?_
      refine E_aload_n 20 0 dX7_turnover_19 rfl rfl rfl ?_
      refine E_getCr 23 fg_X7_10 dX7_turnover_20 rfl ?_
      refine E_getCrN 26 fg_X7_105 dX7_turnover_23 rfl ?_
      refine E_getCrN 29 fg_X7_312 dX7_turnover_26 rfl ?_
      refine E_iload_n 30 2 dX7_turnover_29 rfl rfl rfl ?_
      obtain ⟨h2, hf⟩ := chk_some hf
      refine E_ialdC 31 (k := 8) (n := 200) rfl (by decide) h2 dX7_turnover_30 rfl ?_
      refine E_i2l 32 dX7_turnover_31 rfl ?_
      refine E_ladd 33 dX7_turnover_32 rfl ?_
      refine E_lstore_n 34 [(1, .long (x1 + (μ 8 x3.toNatClampNeg : Int32).toInt64)), (0, .ref (gaC g 0)), (3, .int x3)] dX7_turnover_33 rfl (by decide) rfl rfl ?_
      refine E_iinc 37 [(3, .int (x3 + 1)), (1, .long (x1 + (μ 8 x3.toNatClampNeg : Int32).toInt64)), (0, .ref (gaC g 0))] 2 (v := x3 + 1) dX7_turnover_34 rfl (by rw [cst_iconst1]) (by decide) rfl rfl ?_
      refine E_goto 4 dX7_turnover_37 (by decide) ?_
      refine E_sub [2, 1, 0] rfl ?_
      exact ih (x1 + (μ 8 x3.toNatClampNeg : Int32).toInt64) (x3 + 1) hf
set_option maxRecDepth 100000 in
set_option maxHeartbeats 4000000 in
theorem c_X7_turnover {l : Launch} {g : Gt} (hl : l.stackTraces = false)  {μ : Mm} {ν : Mm} {o : Nat → Int64} {dd : Nat → UInt64} {res : Int64} (hf : f_X7_turnover μ = some res) : CM l g z_X7_turnover yX7_turnover [.ref (gaC g 0)] (μ, ν, o, dd) 0 (.inl (some (.long res))) (μ, ν, o, dd) := by
  unfold f_X7_turnover at hf
  refine CM_of_E rfl rfl (by decide +kernel) rfl (Nat.le_of_ble_eq_true rfl) hl ?_
  refine E_lconst 1 0 dX7_turnover_0 (by decide) rfl ?_
  refine E_lstore_n 2 [(1, .long 0), (0, .ref (gaC g 0))] dX7_turnover_1 rfl (by decide) rfl rfl ?_
  refine E_iconst 3 0 dX7_turnover_2 cst_iconst0 rfl ?_
  refine E_istore_n 4 [(3, .int 0), (1, .long 0), (0, .ref (gaC g 0))] dX7_turnover_3 rfl (by decide) rfl rfl ?_
  refine E_sub [2, 1, 0] rfl ?_
  refine l_X7_turnover_L4 hl  _ _ _ hf
set_option maxRecDepth 100000 in
set_option maxHeartbeats 4000000 in
theorem l_X7_areScoresSound_L2 {l : Launch} {g : Gt} (hl : l.stackTraces = false) {μ : Mm} {ν : Mm} {o : Nat → Int64} {dd : Nat → UInt64}   {res : Int32} : ∀ (n : Nat) (x1 : Int32) , f_X7_areScoresSound_L2 μ n x1 = some res → E l g z_X7_areScoresSound 2 [(0, .ref (gaC g 0)), (1, .int x1)] [] (μ, ν, o, dd) 0 (QM g (.inl (some (.int res))) (μ, ν, o, dd) 0) := by
  intro n
  induction n with
  | zero => intro x1 hf; cases hf
  | succ n ih =>
    intro x1 hf
    refine E_iload_n 3 1 dX7_areScoresSound_2 rfl rfl rfl ?_
    refine E_aload_n 4 0 dX7_areScoresSound_3 rfl rfl rfl ?_
    refine E_getCr 7 fg_X7_10 dX7_areScoresSound_4 rfl ?_
    refine E_getCrN 10 fg_X7_105 dX7_areScoresSound_7 rfl ?_
    refine E_getCN 13 fg_X7_109 dX7_areScoresSound_10 rfl ?_
    refine E_icmp_ge 52 16 dX7_areScoresSound_13 (by decide) rfl (fun c1 => ?_) (fun c1 => ?_)
    · have hf := ite_t c1 hf
      refine E_iconst 53 1 dX7_areScoresSound_52 cst_iconst1 rfl ?_
      cases hf
      exact E_zret (v := 1) rfl dX7_areScoresSound_53 rfl (Nat.le_of_ble_eq_true rfl) (Nat.le_of_ble_eq_true rfl)
    · have hf := ite_e c1 hf
      refine E_aload_n 17 0 dX7_areScoresSound_16 rfl rfl rfl ?_
      refine E_getCr 20 fg_X7_33 dX7_areScoresSound_17 rfl ?_
      refine E_getCrN 23 fg_X7_215 dX7_areScoresSound_20 rfl ?_
      refine E_iload_n 24 1 dX7_areScoresSound_23 rfl rfl rfl ?_
      obtain ⟨h2, hf⟩ := chk_some hf
      refine E_ialdC 25 (k := 30) (n := 200) rfl (by decide) h2 dX7_areScoresSound_24 rfl ?_
      refine E_aload_n 26 0 dX7_areScoresSound_25 rfl rfl rfl ?_
      refine E_getCr 29 fg_X7_26 dX7_areScoresSound_26 rfl ?_
      refine E_aload_n 30 0 dX7_areScoresSound_29 rfl rfl rfl ?_
      refine E_getCr 33 fg_X7_33 dX7_areScoresSound_30 rfl ?_
      refine E_getCrN 36 fg_X7_218 dX7_areScoresSound_33 rfl ?_
      refine E_iload_n 37 1 dX7_areScoresSound_36 rfl rfl rfl ?_
      obtain ⟨h3, hf⟩ := chk_some hf
      refine E_ialdC 38 (k := 32) (n := 200) rfl (by decide) h3 dX7_areScoresSound_37 rfl ?_
      obtain ⟨r4, hc5, hf⟩ := bnd hf
      refine E_callVC1 41 0 [.int (μ 30 x1.toNatClampNeg)] [.int r4, .int (μ 30 x1.toNatClampNeg)] (c_X6_weightOf hl hc5) my_X6_weightOf rc_X6 kl_X7_126 rfl rfl (Nat.le_of_ble_eq_true rfl) (rmok rfl) dX7_areScoresSound_38 rfl rfl rfl ?_
      refine E_icmp_eq 46 44 dX7_areScoresSound_41 (by decide) rfl (fun c6 => ?_) (fun c6 => ?_)
      · have hf := ite_t c6 hf
        refine E_iinc 49 [(1, .int (x1 + 1)), (0, .ref (gaC g 0))] 1 (v := x1 + 1) dX7_areScoresSound_46 rfl (by rw [cst_iconst1]) (by decide) rfl rfl ?_
        refine E_goto 2 dX7_areScoresSound_49 (by decide) ?_
        refine E_sub [1, 0] rfl ?_
        exact ih (x1 + 1) hf
      · have hf := ite_e c6 hf
        refine E_iconst 45 0 dX7_areScoresSound_44 cst_iconst0 rfl ?_
        cases hf
        exact E_zret (v := 0) rfl dX7_areScoresSound_45 rfl (Nat.le_of_ble_eq_true rfl) (Nat.le_of_ble_eq_true rfl)
set_option maxRecDepth 100000 in
set_option maxHeartbeats 4000000 in
theorem c_X7_areScoresSound {l : Launch} {g : Gt} (hl : l.stackTraces = false)  {μ : Mm} {ν : Mm} {o : Nat → Int64} {dd : Nat → UInt64} {res : Int32} (hf : f_X7_areScoresSound μ = some res) : CM l g z_X7_areScoresSound yX7_areScoresSound [.ref (gaC g 0)] (μ, ν, o, dd) 0 (.inl (some (.int res))) (μ, ν, o, dd) := by
  unfold f_X7_areScoresSound at hf
  refine CM_of_E rfl rfl (by decide +kernel) rfl (Nat.le_of_ble_eq_true rfl) hl ?_
  refine E_iconst 1 0 dX7_areScoresSound_0 cst_iconst0 rfl ?_
  refine E_istore_n 2 [(1, .int 0), (0, .ref (gaC g 0))] dX7_areScoresSound_1 rfl (by decide) rfl rfl ?_
  refine E_sub [1, 0] rfl ?_
  refine l_X7_areScoresSound_L2 hl  _ _ hf
set_option maxRecDepth 100000 in
set_option maxHeartbeats 4000000 in
theorem l_X7_areSumsSound_L2 {l : Launch} {g : Gt} (hl : l.stackTraces = false) {μ : Mm} {ν : Mm} {o : Nat → Int64} {dd : Nat → UInt64}   {res : Int32} : ∀ (n : Nat) (x1 : Int32) , f_X7_areSumsSound_L2 μ n x1 = some res → E l g z_X7_areSumsSound 2 [(0, .ref (gaC g 0)), (1, .int x1)] [] (μ, ν, o, dd) 0 (QM g (.inl (some (.int res))) (μ, ν, o, dd) 0) := by
  intro n
  induction n with
  | zero => intro x1 hf; cases hf
  | succ n ih =>
    intro x1 hf
    refine E_iload_n 3 1 dX7_areSumsSound_2 rfl rfl rfl ?_
    refine E_aload_n 4 0 dX7_areSumsSound_3 rfl rfl rfl ?_
    refine E_getCr 7 fg_X7_10 dX7_areSumsSound_4 rfl ?_
    refine E_getCrN 10 fg_X7_48 dX7_areSumsSound_7 rfl ?_
    refine E_getCN 13 fg_X7_52 dX7_areSumsSound_10 rfl ?_
    refine E_icmp_ge 51 16 dX7_areSumsSound_13 (by decide) rfl (fun c1 => ?_) (fun c1 => ?_)
    · have hf := ite_t c1 hf
      refine E_iconst 52 1 dX7_areSumsSound_51 cst_iconst1 rfl ?_
      cases hf
      exact E_zret (v := 1) rfl dX7_areSumsSound_52 rfl (Nat.le_of_ble_eq_true rfl) (Nat.le_of_ble_eq_true rfl)
    · have hf := ite_e c1 hf
      refine E_aload_n 17 0 dX7_areSumsSound_16 rfl rfl rfl ?_
      refine E_getCr 20 fg_X7_10 dX7_areSumsSound_17 rfl ?_
      refine E_iload_n 21 1 dX7_areSumsSound_20 rfl rfl rfl ?_
      refine E_sipush 24 10080 dX7_areSumsSound_21 cst_sipush10080 rfl ?_
      obtain ⟨r2, hc3, hf⟩ := bnd hf
      refine E_callVC1 27 0 [] [.int r2] (c_X1_keptSum hl hc3) my_X1_keptSum rc_X1 kl_X7_147 rfl rfl (Nat.le_of_ble_eq_true rfl) (rmok rfl) dX7_areSumsSound_24 rfl rfl rfl ?_
      refine E_istore_n 28 [(2, .int r2), (0, .ref (gaC g 0)), (1, .int x1)] dX7_areSumsSound_27 rfl (by decide) rfl rfl ?_
      refine E_iload_n 29 0 dX7_areSumsSound_28 rfl rfl rfl ?_
      refine E_aload_n 30 1 dX7_areSumsSound_29 rfl rfl rfl ?_
      refine E_getCr 33 fg_X7_10 dX7_areSumsSound_30 rfl ?_
      refine E_iload_n 34 2 dX7_areSumsSound_33 rfl rfl rfl ?_
      refine E_sipush 37 10080 dX7_areSumsSound_34 cst_sipush10080 rfl ?_
      obtain ⟨r4, hc5, hf⟩ := bnd hf
      refine E_callVC1 40 0 [.int r2] [.int r4, .int r2] (c_X1_sumAnew hl hc5) my_X1_sumAnew rc_X1 kl_X7_151 rfl rfl (Nat.le_of_ble_eq_true rfl) (rmok rfl) dX7_areSumsSound_37 rfl rfl rfl ?_
      refine E_icmp_eq 45 43 dX7_areSumsSound_40 (by decide) rfl (fun c6 => ?_) (fun c6 => ?_)
      · have hf := ite_t c6 hf
        refine E_iinc 48 [(1, .int (x1 + 1)), (2, .int r2), (0, .ref (gaC g 0))] 2 (v := x1 + 1) dX7_areSumsSound_45 rfl (by rw [cst_iconst1]) (by decide) rfl rfl ?_
        refine E_goto 2 dX7_areSumsSound_48 (by decide) ?_
        refine E_sub [2, 0] rfl ?_
        exact ih (x1 + 1) hf
      · have hf := ite_e c6 hf
        refine E_iconst 44 0 dX7_areSumsSound_43 cst_iconst0 rfl ?_
        cases hf
        exact E_zret (v := 0) rfl dX7_areSumsSound_44 rfl (Nat.le_of_ble_eq_true rfl) (Nat.le_of_ble_eq_true rfl)
set_option maxRecDepth 100000 in
set_option maxHeartbeats 4000000 in
theorem c_X7_areSumsSound {l : Launch} {g : Gt} (hl : l.stackTraces = false)  {μ : Mm} {ν : Mm} {o : Nat → Int64} {dd : Nat → UInt64} {res : Int32} (hf : f_X7_areSumsSound μ = some res) : CM l g z_X7_areSumsSound yX7_areSumsSound [.ref (gaC g 0)] (μ, ν, o, dd) 0 (.inl (some (.int res))) (μ, ν, o, dd) := by
  unfold f_X7_areSumsSound at hf
  refine CM_of_E rfl rfl (by decide +kernel) rfl (Nat.le_of_ble_eq_true rfl) hl ?_
  refine E_iconst 1 0 dX7_areSumsSound_0 cst_iconst0 rfl ?_
  refine E_istore_n 2 [(1, .int 0), (0, .ref (gaC g 0))] dX7_areSumsSound_1 rfl (by decide) rfl rfl ?_
  refine E_sub [1, 0] rfl ?_
  refine l_X7_areSumsSound_L2 hl  _ _ hf
set_option maxRecDepth 100000 in
set_option maxHeartbeats 4000000 in
theorem c_X7_isSound {l : Launch} {g : Gt} (hl : l.stackTraces = false)  {μ : Mm} {ν : Mm} {o : Nat → Int64} {dd : Nat → UInt64} {res : Int32} (hf : f_X7_isSound μ = some res) : CM l g z_X7_isSound yX7_isSound [.ref (gaC g 0)] (μ, ν, o, dd) 0 (.inl (some (.int res))) (μ, ν, o, dd) := by
  unfold f_X7_isSound at hf
  refine CM_of_E rfl rfl (by decide +kernel) rfl (Nat.le_of_ble_eq_true rfl) hl ?_
  refine E_aload_n 1 0 dX7_isSound_0 rfl rfl rfl ?_
  obtain ⟨r1, hc2, hf⟩ := bnd hf
  refine E_callVC1 4 0 [] [.int r1] (c_X7_areScoresSound hl hc2) my_X7_areScoresSound rc_X7 kl_X7_315 rfl rfl (Nat.le_of_ble_eq_true rfl) (rmok rfl) dX7_isSound_1 rfl rfl rfl ?_
  refine E_if_eq 18 7 dX7_isSound_4 (by decide) rfl (fun c3 => ?_) (fun c3 => ?_)
  · have hf := ite_t c3 hf
    refine E_iconst 19 0 dX7_isSound_18 cst_iconst0 rfl ?_
    cases hf
    exact E_zret (v := 0) rfl dX7_isSound_19 rfl (Nat.le_of_ble_eq_true rfl) (Nat.le_of_ble_eq_true rfl)
  · have hf := ite_e c3 hf
    refine E_aload_n 8 0 dX7_isSound_7 rfl rfl rfl ?_
    obtain ⟨r4, hc5, hf⟩ := bnd hf
    refine E_callVC1 11 0 [] [.int r4] (c_X7_areSumsSound hl hc5) my_X7_areSumsSound rc_X7 kl_X7_319 rfl rfl (Nat.le_of_ble_eq_true rfl) (rmok rfl) dX7_isSound_8 rfl rfl rfl ?_
    refine E_if_eq 18 14 dX7_isSound_11 (by decide) rfl (fun c6 => ?_) (fun c6 => ?_)
    · have hf := ite_t c6 hf
      refine E_iconst 19 0 dX7_isSound_18 cst_iconst0 rfl ?_
      cases hf
      exact E_zret (v := 0) rfl dX7_isSound_19 rfl (Nat.le_of_ble_eq_true rfl) (Nat.le_of_ble_eq_true rfl)
    · have hf := ite_e c6 hf
      refine E_iconst 15 1 dX7_isSound_14 cst_iconst1 rfl ?_
      refine E_goto 19 dX7_isSound_15 (by decide) ?_
      cases hf
      exact E_zret (v := 1) rfl dX7_isSound_19 rfl (Nat.le_of_ble_eq_true rfl) (Nat.le_of_ble_eq_true rfl)
