set_option maxRecDepth 100000 in
set_option maxHeartbeats 4000000 in
theorem c_X8_thrown {l : Launch} {g : Gt} (hl : l.stackTraces = false)  {μ : Mm} {ν : Mm} {o : Nat → Int64} {dd : Nat → UInt64} {res : Int32} (hf : f_X8_thrown ν = some res) : CM l g z_X8_thrown yX8_thrown [.ref (gaM g 0)] (μ, ν, o, dd) 0 (.inl (some (.int res))) (μ, ν, o, dd) := by
  unfold f_X8_thrown at hf
  refine CM_of_E rfl rfl (by decide +kernel) rfl (Nat.le_of_ble_eq_true rfl) hl ?_
  refine E_aload_n 1 0 dX8_thrown_0 rfl rfl rfl ?_
  refine E_getM 4 fg_X8_82 dX8_thrown_1 rfl ?_
  cases hf
  exact E_iret dX8_thrown_4 rfl (Nat.le_of_ble_eq_true rfl) (Nat.le_of_ble_eq_true rfl)
set_option maxRecDepth 100000 in
set_option maxHeartbeats 4000000 in
theorem c_X8_fails {l : Launch} {g : Gt} (hl : l.stackTraces = false) {a1 : Int32} {μ : Mm} {ν : Mm} {o : Nat → Int64} {dd : Nat → UInt64} {res : Int32 × Mm} (hf : f_X8_fails a1 ν = some res) : CM l g z_X8_fails yX8_fails [.ref (gaM g 0), .int a1] (μ, ν, o, dd) 0 (.inl (some (.int res.1))) (μ, res.2, o, dd) := by
  unfold f_X8_fails at hf
  refine CM_of_E rfl rfl (by decide +kernel) rfl (Nat.le_of_ble_eq_true rfl) hl ?_
  refine E_aload_n 1 0 dX8_fails_0 rfl rfl rfl ?_
  refine E_iload_n 2 1 dX8_fails_1 rfl rfl rfl ?_
  refine E_putM 5 fp_X8_82 dX8_fails_2 rfl ?_
  refine E_iconst 6 0 dX8_fails_5 cst_iconst0 rfl ?_
  cases hf
  exact E_iret dX8_fails_6 rfl (Nat.le_of_ble_eq_true rfl) (Nat.le_of_ble_eq_true rfl)
set_option maxRecDepth 100000 in
set_option maxHeartbeats 4000000 in
theorem c_X8_isWrong {l : Launch} {g : Gt} (hl : l.stackTraces = false) {a1 : Int32} {μ : Mm} {ν : Mm} {o : Nat → Int64} {dd : Nat → UInt64} {res : Int32 × Mm} (hf : f_X8_isWrong a1 ν = some res) : CM l g z_X8_isWrong yX8_isWrong [.ref (gaM g 0), .int a1] (μ, ν, o, dd) 0 (.inl (some (.int res.1))) (μ, res.2, o, dd) := by
  unfold f_X8_isWrong at hf
  refine CM_of_E rfl rfl (by decide +kernel) rfl (Nat.le_of_ble_eq_true rfl) hl ?_
  refine E_aload_n 1 0 dX8_isWrong_0 rfl rfl rfl ?_
  refine E_iload_n 2 1 dX8_isWrong_1 rfl rfl rfl ?_
  refine E_putM 5 fp_X8_82 dX8_isWrong_2 rfl ?_
  refine E_iconst 6 0 dX8_isWrong_5 cst_iconst0 rfl ?_
  cases hf
  exact E_zret (v := 0) rfl dX8_isWrong_6 rfl (Nat.le_of_ble_eq_true rfl) (Nat.le_of_ble_eq_true rfl)
set_option maxRecDepth 100000 in
set_option maxHeartbeats 4000000 in
theorem c_X8_isBetween {l : Launch} {g : Gt} (hl : l.stackTraces = false) {a0 : Int32} {a1 : Int32} {a2 : Int32} {μ : Mm} {ν : Mm} {o : Nat → Int64} {dd : Nat → UInt64} {res : Int32} (hf : f_X8_isBetween a0 a1 a2 = some res) : CM l g z_X8_isBetween yX8_isBetween [.int a0, .int a1, .int a2] (μ, ν, o, dd) 0 (.inl (some (.int res))) (μ, ν, o, dd) := by
  unfold f_X8_isBetween at hf
  refine CM_of_E rfl rfl (by decide +kernel) rfl (Nat.le_of_ble_eq_true rfl) hl ?_
  refine E_iload_n 1 1 dX8_isBetween_0 rfl rfl rfl ?_
  refine E_iload_n 2 0 dX8_isBetween_1 rfl rfl rfl ?_
  refine E_icmp_gt 14 5 dX8_isBetween_2 (by decide) rfl (fun c1 => ?_) (fun c1 => ?_)
  · have hf := ite_t c1 hf
    refine E_iconst 15 0 dX8_isBetween_14 cst_iconst0 rfl ?_
    cases hf
    exact E_zret (v := 0) rfl dX8_isBetween_15 rfl (Nat.le_of_ble_eq_true rfl) (Nat.le_of_ble_eq_true rfl)
  · have hf := ite_e c1 hf
    refine E_iload_n 6 0 dX8_isBetween_5 rfl rfl rfl ?_
    refine E_iload_n 7 2 dX8_isBetween_6 rfl rfl rfl ?_
    refine E_icmp_gt 14 10 dX8_isBetween_7 (by decide) rfl (fun c2 => ?_) (fun c2 => ?_)
    · have hf := ite_t c2 hf
      refine E_iconst 15 0 dX8_isBetween_14 cst_iconst0 rfl ?_
      cases hf
      exact E_zret (v := 0) rfl dX8_isBetween_15 rfl (Nat.le_of_ble_eq_true rfl) (Nat.le_of_ble_eq_true rfl)
    · have hf := ite_e c2 hf
      refine E_iconst 11 1 dX8_isBetween_10 cst_iconst1 rfl ?_
      refine E_goto 15 dX8_isBetween_11 (by decide) ?_
      cases hf
      exact E_zret (v := 1) rfl dX8_isBetween_15 rfl (Nat.le_of_ble_eq_true rfl) (Nat.le_of_ble_eq_true rfl)
set_option maxRecDepth 100000 in
set_option maxHeartbeats 4000000 in
theorem c_X8_isAccount {l : Launch} {g : Gt} (hl : l.stackTraces = false) {a1 : Int32} {μ : Mm} {ν : Mm} {o : Nat → Int64} {dd : Nat → UInt64} {res : Int32} (hf : f_X8_isAccount a1 ν = some res) : CM l g z_X8_isAccount yX8_isAccount [.ref (gaM g 0), .int a1] (μ, ν, o, dd) 0 (.inl (some (.int res))) (μ, ν, o, dd) := by
  unfold f_X8_isAccount at hf
  refine CM_of_E rfl rfl (by decide +kernel) rfl (Nat.le_of_ble_eq_true rfl) hl ?_
  refine E_iload_n 1 1 dX8_isAccount_0 rfl rfl rfl ?_
  refine E_iconst 2 0 dX8_isAccount_1 cst_iconst0 rfl ?_
  refine E_aload_n 3 0 dX8_isAccount_2 rfl rfl rfl ?_
  refine E_getM 6 fg_X8_85 dX8_isAccount_3 rfl ?_
  refine E_iconst 7 1 dX8_isAccount_6 cst_iconst1 rfl ?_
  refine E_isub 8 dX8_isAccount_7 rfl ?_
  obtain ⟨r1, hc2, hf⟩ := bnd hf
  refine E_callS1 11 0 [] [.int r1] (c_X8_isBetween hl hc2) my_X8_isBetween kl_X8_88 rfl rfl (Nat.le_of_ble_eq_true rfl) (rmok rfl) dX8_isAccount_8 rfl rfl rfl ?_
  obtain ⟨h3, hf⟩ := gn_z hf
  cases hf
  exact E_zret h3 dX8_isAccount_11 rfl (Nat.le_of_ble_eq_true rfl) (Nat.le_of_ble_eq_true rfl)
set_option maxRecDepth 100000 in
set_option maxHeartbeats 4000000 in
theorem c_X8_has {l : Launch} {g : Gt} (hl : l.stackTraces = false) {a0 : Int32} {a1 : Int32} {μ : Mm} {ν : Mm} {o : Nat → Int64} {dd : Nat → UInt64} {res : Int32} (hf : f_X8_has a0 a1 = some res) : CM l g z_X8_has yX8_has [.int a0, .int a1] (μ, ν, o, dd) 0 (.inl (some (.int res))) (μ, ν, o, dd) := by
  unfold f_X8_has at hf
  refine CM_of_E rfl rfl (by decide +kernel) rfl (Nat.le_of_ble_eq_true rfl) hl ?_
  refine E_iload_n 1 0 dX8_has_0 rfl rfl rfl ?_
  refine E_iload_n 2 1 dX8_has_1 rfl rfl rfl ?_
  refine E_ishr 3 dX8_has_2 rfl ?_
  refine E_iconst 4 1 dX8_has_3 cst_iconst1 rfl ?_
  refine E_iand 5 dX8_has_4 rfl ?_
  refine E_iconst 6 1 dX8_has_5 cst_iconst1 rfl ?_
  refine E_icmp_ne 13 9 dX8_has_6 (by decide) rfl (fun c1 => ?_) (fun c1 => ?_)
  · have hf := ite_e c1 hf
    refine E_iconst 14 0 dX8_has_13 cst_iconst0 rfl ?_
    cases hf
    exact E_zret (v := 0) rfl dX8_has_14 rfl (Nat.le_of_ble_eq_true rfl) (Nat.le_of_ble_eq_true rfl)
  · have hf := ite_t c1 hf
    refine E_iconst 10 1 dX8_has_9 cst_iconst1 rfl ?_
    refine E_goto 14 dX8_has_10 (by decide) ?_
    cases hf
    exact E_zret (v := 1) rfl dX8_has_14 rfl (Nat.le_of_ble_eq_true rfl) (Nat.le_of_ble_eq_true rfl)
set_option maxRecDepth 100000 in
set_option maxHeartbeats 4000000 in
theorem c_X8_with {l : Launch} {g : Gt} (hl : l.stackTraces = false) {a0 : Int32} {a1 : Int32} {a2 : Int32} {μ : Mm} {ν : Mm} {o : Nat → Int64} {dd : Nat → UInt64} {res : Int32} (hf : f_X8_with a0 a1 a2 = some res) : CM l g z_X8_with yX8_with [.int a0, .int a1, .int a2] (μ, ν, o, dd) 0 (.inl (some (.int res))) (μ, ν, o, dd) := by
  unfold f_X8_with at hf
  refine CM_of_E rfl rfl (by decide +kernel) rfl (Nat.le_of_ble_eq_true rfl) hl ?_
  refine E_iload_n 1 2 dX8_with_0 rfl rfl rfl ?_
  refine E_if_eq 12 4 dX8_with_1 (by decide) rfl (fun c1 => ?_) (fun c1 => ?_)
  · have hf := ite_t c1 hf
    refine E_iload_n 13 0 dX8_with_12 rfl rfl rfl ?_
    refine E_iconst 14 1 dX8_with_13 cst_iconst1 rfl ?_
    refine E_iload_n 15 1 dX8_with_14 rfl rfl rfl ?_
    refine E_ishl 16 dX8_with_15 rfl ?_
    refine E_iconst 17 (-1) dX8_with_16 cst_iconstn1 rfl ?_
    refine E_ixor 18 dX8_with_17 rfl ?_
    refine E_iand 19 dX8_with_18 rfl ?_
    cases hf
    exact E_iret dX8_with_19 rfl (Nat.le_of_ble_eq_true rfl) (Nat.le_of_ble_eq_true rfl)
  · have hf := ite_e c1 hf
    refine E_iload_n 5 0 dX8_with_4 rfl rfl rfl ?_
    refine E_iconst 6 1 dX8_with_5 cst_iconst1 rfl ?_
    refine E_iload_n 7 1 dX8_with_6 rfl rfl rfl ?_
    refine E_ishl 8 dX8_with_7 rfl ?_
    refine E_ior 9 dX8_with_8 rfl ?_
    refine E_goto 19 dX8_with_9 (by decide) ?_
    cases hf
    exact E_iret dX8_with_19 rfl (Nat.le_of_ble_eq_true rfl) (Nat.le_of_ble_eq_true rfl)
set_option maxRecDepth 100000 in
set_option maxHeartbeats 4000000 in
theorem c_X8_open {l : Launch} {g : Gt} (hl : l.stackTraces = false) {a1 : Int32} {μ : Mm} {ν : Mm} {o : Nat → Int64} {dd : Nat → UInt64} {res : Int32 × Mm} (hf : f_X8_open a1 ν = some res) : CM l g z_X8_open yX8_open [.ref (gaM g 0), .int a1] (μ, ν, o, dd) 0 (.inl (some (.int res.1))) (μ, res.2, o, dd) := by
  unfold f_X8_open at hf
  refine CM_of_E rfl rfl (by decide +kernel) rfl (Nat.le_of_ble_eq_true rfl) hl ?_
  refine E_aload_n 1 0 dX8_open_0 rfl rfl rfl ?_
  refine E_iconst 2 0 dX8_open_1 cst_iconst0 rfl ?_
  refine E_putM 5 fp_X8_82 dX8_open_2 rfl ?_
  refine E_iload_n 6 1 dX8_open_5 rfl rfl rfl ?_
  refine E_bipush 8 97 dX8_open_6 cst_bipush97 rfl ?_
  refine E_bipush 10 100 dX8_open_8 cst_bipush100 rfl ?_
  obtain ⟨r1, hc2, hf⟩ := bnd hf
  refine E_callS1 13 0 [] [.int r1] (c_X8_isBetween hl hc2) my_X8_isBetween kl_X8_88 rfl rfl (Nat.le_of_ble_eq_true rfl) (rmok rfl) dX8_open_10 rfl rfl rfl ?_
  refine E_if_ne 22 16 dX8_open_13 (by decide) rfl (fun c3 => ?_) (fun c3 => ?_)
  · have hf := ite_e c3 hf
    refine E_aload_n 23 0 dX8_open_22 rfl rfl rfl ?_
    refine E_getM 26 fg_X8_85 dX8_open_23 rfl ?_
    refine E_bipush 28 20 dX8_open_26 cst_bipush20 rfl ?_
    refine E_icmp_ne 37 31 dX8_open_28 (by decide) rfl (fun c4 => ?_) (fun c4 => ?_)
    · have hf := ite_e c4 hf
      refine E_aload_n 38 0 dX8_open_37 rfl rfl rfl ?_
      refine E_getMr 41 fg_X8_9 dX8_open_38 rfl ?_
      refine E_aload_n 42 0 dX8_open_41 rfl rfl rfl ?_
      refine E_getM 45 fg_X8_85 dX8_open_42 rfl ?_
      refine E_iload_n 46 1 dX8_open_45 rfl rfl rfl ?_
      obtain ⟨h5, hf⟩ := chk_some hf
      refine E_castM 47 (k := 1) (n := 20) rfl (by decide) h5 dX8_open_46 rfl ?_
      refine E_aload_n 48 0 dX8_open_47 rfl rfl rfl ?_
      refine E_getMr 51 fg_X8_13 dX8_open_48 rfl ?_
      refine E_aload_n 52 0 dX8_open_51 rfl rfl rfl ?_
      refine E_getM 55 fg_X8_85 dX8_open_52 rfl ?_
      refine E_aload_n 56 0 dX8_open_55 rfl rfl rfl ?_
      refine E_getM 59 fg_X8_96 dX8_open_56 rfl ?_
      obtain ⟨h6, hf⟩ := chk_some hf
      refine E_iastM 60 (k := 2) (n := 20) rfl (by decide) h6 dX8_open_59 rfl ?_
      obtain ⟨mm7, emm7, hf⟩ := setm_some hf
      refine E_memM emm7 ?_
      refine E_aload_n 61 0 dX8_open_60 rfl rfl rfl ?_
      refine E_dup 62 dX8_open_61 rfl rfl ?_
      refine E_getM 65 fg_X8_85 dX8_open_62 rfl ?_
      refine E_iconst 66 1 dX8_open_65 cst_iconst1 rfl ?_
      refine E_iadd 67 dX8_open_66 rfl ?_
      refine E_putM 70 fp_X8_85 dX8_open_67 rfl ?_
      refine E_aload_n 71 0 dX8_open_70 rfl rfl rfl ?_
      refine E_getM 74 fg_X8_85 dX8_open_71 rfl ?_
      refine E_iconst 75 1 dX8_open_74 cst_iconst1 rfl ?_
      refine E_isub 76 dX8_open_75 rfl ?_
      cases hf
      exact E_iret dX8_open_76 rfl (Nat.le_of_ble_eq_true rfl) (Nat.le_of_ble_eq_true rfl)
    · have hf := ite_t c4 hf
      refine E_aload_n 32 0 dX8_open_31 rfl rfl rfl ?_
      refine E_iconst 33 2 dX8_open_32 cst_iconst2 rfl ?_
      obtain ⟨r8, hc9, hf⟩ := bnd hf
      refine E_callVM1 36 0 [] [.int r8.1] (c_X8_fails hl hc9) my_X8_fails rc_X8 kl_X8_92 rfl rfl (Nat.le_of_ble_eq_true rfl) (rmok rfl) dX8_open_33 rfl rfl rfl ?_
      cases hf
      exact E_iret dX8_open_36 rfl (Nat.le_of_ble_eq_true rfl) (Nat.le_of_ble_eq_true rfl)
  · have hf := ite_t c3 hf
    refine E_aload_n 17 0 dX8_open_16 rfl rfl rfl ?_
    refine E_iconst 18 1 dX8_open_17 cst_iconst1 rfl ?_
    obtain ⟨r10, hc11, hf⟩ := bnd hf
    refine E_callVM1 21 0 [] [.int r10.1] (c_X8_fails hl hc11) my_X8_fails rc_X8 kl_X8_92 rfl rfl (Nat.le_of_ble_eq_true rfl) (rmok rfl) dX8_open_18 rfl rfl rfl ?_
    cases hf
    exact E_iret dX8_open_21 rfl (Nat.le_of_ble_eq_true rfl) (Nat.le_of_ble_eq_true rfl)
set_option maxRecDepth 100000 in
set_option maxHeartbeats 4000000 in
theorem c_X8_setMarked {l : Launch} {g : Gt} (hl : l.stackTraces = false) {a1 : Int32} {a2 : Int32} {μ : Mm} {ν : Mm} {o : Nat → Int64} {dd : Nat → UInt64} {res : Int32 × Mm} (hf : f_X8_setMarked a1 a2 ν = some res) : CM l g z_X8_setMarked yX8_setMarked [.ref (gaM g 0), .int a1, .int a2] (μ, ν, o, dd) 0 (.inl (some (.int res.1))) (μ, res.2, o, dd) := by
  unfold f_X8_setMarked at hf
  refine CM_of_E rfl rfl (by decide +kernel) rfl (Nat.le_of_ble_eq_true rfl) hl ?_
  refine E_aload_n 1 0 dX8_setMarked_0 rfl rfl rfl ?_
  refine E_iconst 2 0 dX8_setMarked_1 cst_iconst0 rfl ?_
  refine E_putM 5 fp_X8_82 dX8_setMarked_2 rfl ?_
  refine E_aload_n 6 0 dX8_setMarked_5 rfl rfl rfl ?_
  refine E_iload_n 7 1 dX8_setMarked_6 rfl rfl rfl ?_
  obtain ⟨r1, hc2, hf⟩ := bnd hf
  refine E_callVM1 10 0 [] [.int r1] (c_X8_isAccount hl hc2) my_X8_isAccount rc_X8 kl_X8_99 rfl rfl (Nat.le_of_ble_eq_true rfl) (rmok rfl) dX8_setMarked_7 rfl rfl rfl ?_
  refine E_if_ne 19 13 dX8_setMarked_10 (by decide) rfl (fun c3 => ?_) (fun c3 => ?_)
  · have hf := ite_e c3 hf
    refine E_aload_n 20 0 dX8_setMarked_19 rfl rfl rfl ?_
    refine E_getM 23 fg_X8_106 dX8_setMarked_20 rfl ?_
    refine E_iload_n 24 1 dX8_setMarked_23 rfl rfl rfl ?_
    obtain ⟨r4, hc5, hf⟩ := bnd hf
    refine E_callS1 27 0 [] [.int r4] (c_X8_has hl hc5) my_X8_has kl_X8_109 rfl rfl (Nat.le_of_ble_eq_true rfl) (rmok rfl) dX8_setMarked_24 rfl rfl rfl ?_
    refine E_istore_n 28 [(3, .int r4), (0, .ref (gaM g 0)), (1, .int a1), (2, .int a2)] dX8_setMarked_27 rfl (by decide) rfl rfl ?_
    refine E_aload_n 29 1 dX8_setMarked_28 rfl rfl rfl ?_
    refine E_aload_n 30 1 dX8_setMarked_29 rfl rfl rfl ?_
    refine E_getM 33 fg_X8_106 dX8_setMarked_30 rfl ?_
    refine E_iload_n 34 2 dX8_setMarked_33 rfl rfl rfl ?_
    refine E_iload_n 35 3 dX8_setMarked_34 rfl rfl rfl ?_
    obtain ⟨r6, hc7, hf⟩ := bnd hf
    refine E_callS1 38 0 [.ref (gaM g 0)] [.int r6, .ref (gaM g 0)] (c_X8_with hl hc7) my_X8_with kl_X8_113 rfl rfl (Nat.le_of_ble_eq_true rfl) (rmok rfl) dX8_setMarked_35 rfl rfl rfl ?_
    refine E_putM 41 fp_X8_106 dX8_setMarked_38 rfl ?_
    refine E_iload_n 42 0 dX8_setMarked_41 rfl rfl rfl ?_
    obtain ⟨h8, hf⟩ := gn_z hf
    cases hf
    exact E_zret h8 dX8_setMarked_42 rfl (Nat.le_of_ble_eq_true rfl) (Nat.le_of_ble_eq_true rfl)
  · have hf := ite_t c3 hf
    refine E_aload_n 14 0 dX8_setMarked_13 rfl rfl rfl ?_
    refine E_iconst 15 1 dX8_setMarked_14 cst_iconst1 rfl ?_
    obtain ⟨r9, hc10, hf⟩ := bnd hf
    refine E_callVM1 18 0 [] [.int r9.1] (c_X8_isWrong hl hc10) my_X8_isWrong rc_X8 kl_X8_103 rfl rfl (Nat.le_of_ble_eq_true rfl) (rmok rfl) dX8_setMarked_15 rfl rfl rfl ?_
    obtain ⟨h11, hf⟩ := gn_z hf
    cases hf
    exact E_zret h11 dX8_setMarked_18 rfl (Nat.le_of_ble_eq_true rfl) (Nat.le_of_ble_eq_true rfl)
set_option maxRecDepth 100000 in
set_option maxHeartbeats 4000000 in
theorem c_X8_setBlocked {l : Launch} {g : Gt} (hl : l.stackTraces = false) {a1 : Int32} {a2 : Int32} {μ : Mm} {ν : Mm} {o : Nat → Int64} {dd : Nat → UInt64} {res : Int32 × Mm} (hf : f_X8_setBlocked a1 a2 ν = some res) : CM l g z_X8_setBlocked yX8_setBlocked [.ref (gaM g 0), .int a1, .int a2] (μ, ν, o, dd) 0 (.inl (some (.int res.1))) (μ, res.2, o, dd) := by
  unfold f_X8_setBlocked at hf
  refine CM_of_E rfl rfl (by decide +kernel) rfl (Nat.le_of_ble_eq_true rfl) hl ?_
  refine E_aload_n 1 0 dX8_setBlocked_0 rfl rfl rfl ?_
  refine E_iconst 2 0 dX8_setBlocked_1 cst_iconst0 rfl ?_
  refine E_putM 5 fp_X8_82 dX8_setBlocked_2 rfl ?_
  refine E_aload_n 6 0 dX8_setBlocked_5 rfl rfl rfl ?_
  refine E_iload_n 7 1 dX8_setBlocked_6 rfl rfl rfl ?_
  obtain ⟨r1, hc2, hf⟩ := bnd hf
  refine E_callVM1 10 0 [] [.int r1] (c_X8_isAccount hl hc2) my_X8_isAccount rc_X8 kl_X8_99 rfl rfl (Nat.le_of_ble_eq_true rfl) (rmok rfl) dX8_setBlocked_7 rfl rfl rfl ?_
  refine E_if_ne 19 13 dX8_setBlocked_10 (by decide) rfl (fun c3 => ?_) (fun c3 => ?_)
  · have hf := ite_e c3 hf
    refine E_aload_n 20 0 dX8_setBlocked_19 rfl rfl rfl ?_
    refine E_getM 23 fg_X8_117 dX8_setBlocked_20 rfl ?_
    refine E_iload_n 24 1 dX8_setBlocked_23 rfl rfl rfl ?_
    obtain ⟨r4, hc5, hf⟩ := bnd hf
    refine E_callS1 27 0 [] [.int r4] (c_X8_has hl hc5) my_X8_has kl_X8_109 rfl rfl (Nat.le_of_ble_eq_true rfl) (rmok rfl) dX8_setBlocked_24 rfl rfl rfl ?_
    refine E_istore_n 28 [(3, .int r4), (0, .ref (gaM g 0)), (1, .int a1), (2, .int a2)] dX8_setBlocked_27 rfl (by decide) rfl rfl ?_
    refine E_aload_n 29 1 dX8_setBlocked_28 rfl rfl rfl ?_
    refine E_aload_n 30 1 dX8_setBlocked_29 rfl rfl rfl ?_
    refine E_getM 33 fg_X8_117 dX8_setBlocked_30 rfl ?_
    refine E_iload_n 34 2 dX8_setBlocked_33 rfl rfl rfl ?_
    refine E_iload_n 35 3 dX8_setBlocked_34 rfl rfl rfl ?_
    obtain ⟨r6, hc7, hf⟩ := bnd hf
    refine E_callS1 38 0 [.ref (gaM g 0)] [.int r6, .ref (gaM g 0)] (c_X8_with hl hc7) my_X8_with kl_X8_113 rfl rfl (Nat.le_of_ble_eq_true rfl) (rmok rfl) dX8_setBlocked_35 rfl rfl rfl ?_
    refine E_putM 41 fp_X8_117 dX8_setBlocked_38 rfl ?_
    refine E_iload_n 42 0 dX8_setBlocked_41 rfl rfl rfl ?_
    obtain ⟨h8, hf⟩ := gn_z hf
    cases hf
    exact E_zret h8 dX8_setBlocked_42 rfl (Nat.le_of_ble_eq_true rfl) (Nat.le_of_ble_eq_true rfl)
  · have hf := ite_t c3 hf
    refine E_aload_n 14 0 dX8_setBlocked_13 rfl rfl rfl ?_
    refine E_iconst 15 1 dX8_setBlocked_14 cst_iconst1 rfl ?_
    obtain ⟨r9, hc10, hf⟩ := bnd hf
    refine E_callVM1 18 0 [] [.int r9.1] (c_X8_isWrong hl hc10) my_X8_isWrong rc_X8 kl_X8_103 rfl rfl (Nat.le_of_ble_eq_true rfl) (rmok rfl) dX8_setBlocked_15 rfl rfl rfl ?_
    obtain ⟨h11, hf⟩ := gn_z hf
    cases hf
    exact E_zret h11 dX8_setBlocked_18 rfl (Nat.le_of_ble_eq_true rfl) (Nat.le_of_ble_eq_true rfl)
set_option maxRecDepth 100000 in
set_option maxHeartbeats 4000000 in
theorem c_X8_isMarked {l : Launch} {g : Gt} (hl : l.stackTraces = false) {a1 : Int32} {μ : Mm} {ν : Mm} {o : Nat → Int64} {dd : Nat → UInt64} {res : Int32 × Mm} (hf : f_X8_isMarked a1 ν = some res) : CM l g z_X8_isMarked yX8_isMarked [.ref (gaM g 0), .int a1] (μ, ν, o, dd) 0 (.inl (some (.int res.1))) (μ, res.2, o, dd) := by
  unfold f_X8_isMarked at hf
  refine CM_of_E rfl rfl (by decide +kernel) rfl (Nat.le_of_ble_eq_true rfl) hl ?_
  refine E_aload_n 1 0 dX8_isMarked_0 rfl rfl rfl ?_
  refine E_iconst 2 0 dX8_isMarked_1 cst_iconst0 rfl ?_
  refine E_putM 5 fp_X8_82 dX8_isMarked_2 rfl ?_
  refine E_aload_n 6 0 dX8_isMarked_5 rfl rfl rfl ?_
  refine E_iload_n 7 1 dX8_isMarked_6 rfl rfl rfl ?_
  obtain ⟨r1, hc2, hf⟩ := bnd hf
  refine E_callVM1 10 0 [] [.int r1] (c_X8_isAccount hl hc2) my_X8_isAccount rc_X8 kl_X8_99 rfl rfl (Nat.le_of_ble_eq_true rfl) (rmok rfl) dX8_isMarked_7 rfl rfl rfl ?_
  refine E_if_eq 24 13 dX8_isMarked_10 (by decide) rfl (fun c3 => ?_) (fun c3 => ?_)
  · have hf := ite_t c3 hf
    refine E_aload_n 25 0 dX8_isMarked_24 rfl rfl rfl ?_
    refine E_iconst 26 1 dX8_isMarked_25 cst_iconst1 rfl ?_
    obtain ⟨r4, hc5, hf⟩ := bnd hf
    refine E_callVM1 29 0 [] [.int r4.1] (c_X8_isWrong hl hc5) my_X8_isWrong rc_X8 kl_X8_103 rfl rfl (Nat.le_of_ble_eq_true rfl) (rmok rfl) dX8_isMarked_26 rfl rfl rfl ?_
    obtain ⟨h6, hf⟩ := gn_z hf
    cases hf
    exact E_zret h6 dX8_isMarked_29 rfl (Nat.le_of_ble_eq_true rfl) (Nat.le_of_ble_eq_true rfl)
  · have hf := ite_e c3 hf
    refine E_aload_n 14 0 dX8_isMarked_13 rfl rfl rfl ?_
    refine E_getM 17 fg_X8_106 dX8_isMarked_14 rfl ?_
    refine E_iload_n 18 1 dX8_isMarked_17 rfl rfl rfl ?_
    obtain ⟨r7, hc8, hf⟩ := bnd hf
    refine E_callS1 21 0 [] [.int r7] (c_X8_has hl hc8) my_X8_has kl_X8_109 rfl rfl (Nat.le_of_ble_eq_true rfl) (rmok rfl) dX8_isMarked_18 rfl rfl rfl ?_
    refine E_goto 29 dX8_isMarked_21 (by decide) ?_
    obtain ⟨h9, hf⟩ := gn_z hf
    cases hf
    exact E_zret h9 dX8_isMarked_29 rfl (Nat.le_of_ble_eq_true rfl) (Nat.le_of_ble_eq_true rfl)
set_option maxRecDepth 100000 in
set_option maxHeartbeats 4000000 in
theorem c_X8_countryOf {l : Launch} {g : Gt} (hl : l.stackTraces = false) {a1 : Int32} {μ : Mm} {ν : Mm} {o : Nat → Int64} {dd : Nat → UInt64} {res : Int32 × Mm} (hf : f_X8_countryOf a1 ν = some res) : CM l g z_X8_countryOf yX8_countryOf [.ref (gaM g 0), .int a1] (μ, ν, o, dd) 0 (.inl (some (.int res.1))) (μ, res.2, o, dd) := by
  unfold f_X8_countryOf at hf
  refine CM_of_E rfl rfl (by decide +kernel) rfl (Nat.le_of_ble_eq_true rfl) hl ?_
  refine E_aload_n 1 0 dX8_countryOf_0 rfl rfl rfl ?_
  refine E_iconst 2 0 dX8_countryOf_1 cst_iconst0 rfl ?_
  refine E_putM 5 fp_X8_82 dX8_countryOf_2 rfl ?_
  refine E_aload_n 6 0 dX8_countryOf_5 rfl rfl rfl ?_
  refine E_iload_n 7 1 dX8_countryOf_6 rfl rfl rfl ?_
  obtain ⟨r1, hc2, hf⟩ := bnd hf
  refine E_callVM1 10 0 [] [.int r1] (c_X8_isAccount hl hc2) my_X8_isAccount rc_X8 kl_X8_99 rfl rfl (Nat.le_of_ble_eq_true rfl) (rmok rfl) dX8_countryOf_7 rfl rfl rfl ?_
  refine E_if_eq 22 13 dX8_countryOf_10 (by decide) rfl (fun c3 => ?_) (fun c3 => ?_)
  · have hf := ite_t c3 hf
    refine E_aload_n 23 0 dX8_countryOf_22 rfl rfl rfl ?_
    refine E_iconst 24 1 dX8_countryOf_23 cst_iconst1 rfl ?_
    obtain ⟨r4, hc5, hf⟩ := bnd hf
    refine E_callVM1 27 0 [] [.int r4.1] (c_X8_fails hl hc5) my_X8_fails rc_X8 kl_X8_92 rfl rfl (Nat.le_of_ble_eq_true rfl) (rmok rfl) dX8_countryOf_24 rfl rfl rfl ?_
    refine E_i2c 28 dX8_countryOf_27 rfl ?_
    obtain ⟨h6, hf⟩ := gn_c hf
    cases hf
    exact E_zret h6 dX8_countryOf_28 rfl (Nat.le_of_ble_eq_true rfl) (Nat.le_of_ble_eq_true rfl)
  · have hf := ite_e c3 hf
    refine E_aload_n 14 0 dX8_countryOf_13 rfl rfl rfl ?_
    refine E_getMr 17 fg_X8_9 dX8_countryOf_14 rfl ?_
    refine E_iload_n 18 1 dX8_countryOf_17 rfl rfl rfl ?_
    obtain ⟨h7, hf⟩ := chk_some hf
    refine E_caldM 19 (k := 1) (n := 20) rfl (by decide) h7 dX8_countryOf_18 rfl ?_
    refine E_goto 28 dX8_countryOf_19 (by decide) ?_
    obtain ⟨h8, hf⟩ := gn_c hf
    cases hf
    exact E_zret h8 dX8_countryOf_28 rfl (Nat.le_of_ble_eq_true rfl) (Nat.le_of_ble_eq_true rfl)
set_option maxRecDepth 100000 in
set_option maxHeartbeats 4000000 in
theorem c_X8_accounts {l : Launch} {g : Gt} (hl : l.stackTraces = false)  {μ : Mm} {ν : Mm} {o : Nat → Int64} {dd : Nat → UInt64} {res : Int32 × Mm} (hf : f_X8_accounts ν = some res) : CM l g z_X8_accounts yX8_accounts [.ref (gaM g 0)] (μ, ν, o, dd) 0 (.inl (some (.int res.1))) (μ, res.2, o, dd) := by
  unfold f_X8_accounts at hf
  refine CM_of_E rfl rfl (by decide +kernel) rfl (Nat.le_of_ble_eq_true rfl) hl ?_
  refine E_aload_n 1 0 dX8_accounts_0 rfl rfl rfl ?_
  refine E_iconst 2 0 dX8_accounts_1 cst_iconst0 rfl ?_
  refine E_putM 5 fp_X8_82 dX8_accounts_2 rfl ?_
  refine E_aload_n 6 0 dX8_accounts_5 rfl rfl rfl ?_
  refine E_getM 9 fg_X8_85 dX8_accounts_6 rfl ?_
  cases hf
  exact E_iret dX8_accounts_9 rfl (Nat.le_of_ble_eq_true rfl) (Nat.le_of_ble_eq_true rfl)
set_option maxRecDepth 100000 in
set_option maxHeartbeats 4000000 in
theorem c_X8_pass {l : Launch} {g : Gt} (hl : l.stackTraces = false) {a1 : Int32} {μ : Mm} {ν : Mm} {o : Nat → Int64} {dd : Nat → UInt64} {res : Int32 × Mm} (hf : f_X8_pass a1 ν = some res) : CM l g z_X8_pass yX8_pass [.ref (gaM g 0), .int a1] (μ, ν, o, dd) 0 (.inl (some (.int res.1))) (μ, res.2, o, dd) := by
  unfold f_X8_pass at hf
  refine CM_of_E rfl rfl (by decide +kernel) rfl (Nat.le_of_ble_eq_true rfl) hl ?_
  refine E_aload_n 1 0 dX8_pass_0 rfl rfl rfl ?_
  refine E_iconst 2 0 dX8_pass_1 cst_iconst0 rfl ?_
  refine E_putM 5 fp_X8_82 dX8_pass_2 rfl ?_
  refine E_iload_n 6 1 dX8_pass_5 rfl rfl rfl ?_
  refine E_iconst 7 1 dX8_pass_6 cst_iconst1 rfl ?_
  refine E_sipush 10 1440 dX8_pass_7 cst_sipush1440 rfl ?_
  obtain ⟨r1, hc2, hf⟩ := bnd hf
  refine E_callS1 13 0 [] [.int r1] (c_X8_isBetween hl hc2) my_X8_isBetween kl_X8_88 rfl rfl (Nat.le_of_ble_eq_true rfl) (rmok rfl) dX8_pass_10 rfl rfl rfl ?_
  refine E_if_ne 22 16 dX8_pass_13 (by decide) rfl (fun c3 => ?_) (fun c3 => ?_)
  · have hf := ite_e c3 hf
    refine E_aload_n 23 0 dX8_pass_22 rfl rfl rfl ?_
    refine E_dup 24 dX8_pass_23 rfl rfl ?_
    refine E_getM 27 fg_X8_96 dX8_pass_24 rfl ?_
    refine E_iload_n 28 1 dX8_pass_27 rfl rfl rfl ?_
    refine E_iadd 29 dX8_pass_28 rfl ?_
    refine E_putM 32 fp_X8_96 dX8_pass_29 rfl ?_
    refine E_aload_n 33 0 dX8_pass_32 rfl rfl rfl ?_
    refine E_getM 36 fg_X8_96 dX8_pass_33 rfl ?_
    cases hf
    exact E_iret dX8_pass_36 rfl (Nat.le_of_ble_eq_true rfl) (Nat.le_of_ble_eq_true rfl)
  · have hf := ite_t c3 hf
    refine E_aload_n 17 0 dX8_pass_16 rfl rfl rfl ?_
    refine E_iconst 18 1 dX8_pass_17 cst_iconst1 rfl ?_
    obtain ⟨r4, hc5, hf⟩ := bnd hf
    refine E_callVM1 21 0 [] [.int r4.1] (c_X8_fails hl hc5) my_X8_fails rc_X8 kl_X8_92 rfl rfl (Nat.le_of_ble_eq_true rfl) (rmok rfl) dX8_pass_18 rfl rfl rfl ?_
    cases hf
    exact E_iret dX8_pass_21 rfl (Nat.le_of_ble_eq_true rfl) (Nat.le_of_ble_eq_true rfl)
set_option maxRecDepth 100000 in
set_option maxHeartbeats 4000000 in
theorem c_X8_time {l : Launch} {g : Gt} (hl : l.stackTraces = false)  {μ : Mm} {ν : Mm} {o : Nat → Int64} {dd : Nat → UInt64} {res : Int32 × Mm} (hf : f_X8_time ν = some res) : CM l g z_X8_time yX8_time [.ref (gaM g 0)] (μ, ν, o, dd) 0 (.inl (some (.int res.1))) (μ, res.2, o, dd) := by
  unfold f_X8_time at hf
  refine CM_of_E rfl rfl (by decide +kernel) rfl (Nat.le_of_ble_eq_true rfl) hl ?_
  refine E_aload_n 1 0 dX8_time_0 rfl rfl rfl ?_
  refine E_iconst 2 0 dX8_time_1 cst_iconst0 rfl ?_
  refine E_putM 5 fp_X8_82 dX8_time_2 rfl ?_
  refine E_aload_n 6 0 dX8_time_5 rfl rfl rfl ?_
  refine E_getM 9 fg_X8_96 dX8_time_6 rfl ?_
  cases hf
  exact E_iret dX8_time_9 rfl (Nat.le_of_ble_eq_true rfl) (Nat.le_of_ble_eq_true rfl)
set_option maxRecDepth 100000 in
set_option maxHeartbeats 4000000 in
theorem c_X8_isPayment {l : Launch} {g : Gt} (hl : l.stackTraces = false) {a1 : Int32} {μ : Mm} {ν : Mm} {o : Nat → Int64} {dd : Nat → UInt64} {res : Int32} (hf : f_X8_isPayment a1 ν = some res) : CM l g z_X8_isPayment yX8_isPayment [.ref (gaM g 0), .int a1] (μ, ν, o, dd) 0 (.inl (some (.int res))) (μ, ν, o, dd) := by
  unfold f_X8_isPayment at hf
  refine CM_of_E rfl rfl (by decide +kernel) rfl (Nat.le_of_ble_eq_true rfl) hl ?_
  refine E_iload_n 1 1 dX8_isPayment_0 rfl rfl rfl ?_
  refine E_iconst 2 0 dX8_isPayment_1 cst_iconst0 rfl ?_
  refine E_aload_n 3 0 dX8_isPayment_2 rfl rfl rfl ?_
  refine E_getM 6 fg_X8_120 dX8_isPayment_3 rfl ?_
  refine E_iconst 7 1 dX8_isPayment_6 cst_iconst1 rfl ?_
  refine E_isub 8 dX8_isPayment_7 rfl ?_
  obtain ⟨r1, hc2, hf⟩ := bnd hf
  refine E_callS1 11 0 [] [.int r1] (c_X8_isBetween hl hc2) my_X8_isBetween kl_X8_88 rfl rfl (Nat.le_of_ble_eq_true rfl) (rmok rfl) dX8_isPayment_8 rfl rfl rfl ?_
  obtain ⟨h3, hf⟩ := gn_z hf
  cases hf
  exact E_zret h3 dX8_isPayment_11 rfl (Nat.le_of_ble_eq_true rfl) (Nat.le_of_ble_eq_true rfl)
set_option maxRecDepth 100000 in
set_option maxHeartbeats 4000000 in
theorem c_X8_isWindow {l : Launch} {g : Gt} (hl : l.stackTraces = false) {a0 : Int32} {μ : Mm} {ν : Mm} {o : Nat → Int64} {dd : Nat → UInt64} {res : Int32} (hf : f_X8_isWindow a0 = some res) : CM l g z_X8_isWindow yX8_isWindow [.int a0] (μ, ν, o, dd) 0 (.inl (some (.int res))) (μ, ν, o, dd) := by
  unfold f_X8_isWindow at hf
  refine CM_of_E rfl rfl (by decide +kernel) rfl (Nat.le_of_ble_eq_true rfl) hl ?_
  refine E_iload_n 1 0 dX8_isWindow_0 rfl rfl rfl ?_
  refine E_iconst 2 1 dX8_isWindow_1 cst_iconst1 rfl ?_
  refine E_sipush 5 10080 dX8_isWindow_2 cst_sipush10080 rfl ?_
  obtain ⟨r1, hc2, hf⟩ := bnd hf
  refine E_callS1 8 0 [] [.int r1] (c_X8_isBetween hl hc2) my_X8_isBetween kl_X8_88 rfl rfl (Nat.le_of_ble_eq_true rfl) (rmok rfl) dX8_isWindow_5 rfl rfl rfl ?_
  obtain ⟨h3, hf⟩ := gn_z hf
  cases hf
  exact E_zret h3 dX8_isWindow_8 rfl (Nat.le_of_ble_eq_true rfl) (Nat.le_of_ble_eq_true rfl)
set_option maxRecDepth 100000 in
set_option maxHeartbeats 4000000 in
theorem c_X8_isIn {l : Launch} {g : Gt} (hl : l.stackTraces = false) {a1 : Int32} {a2 : Int32} {a3 : Int32} {μ : Mm} {ν : Mm} {o : Nat → Int64} {dd : Nat → UInt64} {res : Int32} (hf : f_X8_isIn a1 a2 a3 ν = some res) : CM l g z_X8_isIn yX8_isIn [.ref (gaM g 0), .int a1, .int a2, .int a3] (μ, ν, o, dd) 0 (.inl (some (.int res))) (μ, ν, o, dd) := by
  unfold f_X8_isIn at hf
  refine CM_of_E rfl rfl (by decide +kernel) rfl (Nat.le_of_ble_eq_true rfl) hl ?_
  refine E_aload_n 1 0 dX8_isIn_0 rfl rfl rfl ?_
  refine E_getMr 4 fg_X8_26 dX8_isIn_1 rfl ?_
  refine E_iload_n 5 1 dX8_isIn_4 rfl rfl rfl ?_
  obtain ⟨h1, hf⟩ := chk_some hf
  refine E_ialdM 6 (k := 6) (n := 200) rfl (by decide) h1 dX8_isIn_5 rfl ?_
  refine E_iload_n 7 3 dX8_isIn_6 rfl rfl rfl ?_
  refine E_iload_n 8 2 dX8_isIn_7 rfl rfl rfl ?_
  refine E_isub 9 dX8_isIn_8 rfl ?_
  refine E_icmp_le 26 12 dX8_isIn_9 (by decide) rfl (fun c2 => ?_) (fun c2 => ?_)
  · have hf := ite_t c2 hf
    refine E_iconst 27 0 dX8_isIn_26 cst_iconst0 rfl ?_
    cases hf
    exact E_zret (v := 0) rfl dX8_isIn_27 rfl (Nat.le_of_ble_eq_true rfl) (Nat.le_of_ble_eq_true rfl)
  · have hf := ite_e c2 hf
    refine E_aload_n 13 0 dX8_isIn_12 rfl rfl rfl ?_
    refine E_getMr 16 fg_X8_26 dX8_isIn_13 rfl ?_
    refine E_iload_n 17 1 dX8_isIn_16 rfl rfl rfl ?_
    obtain ⟨h3, hf⟩ := chk_some hf
    refine E_ialdM 18 (k := 6) (n := 200) rfl (by decide) h3 dX8_isIn_17 rfl ?_
    refine E_iload_n 19 3 dX8_isIn_18 rfl rfl rfl ?_
    refine E_icmp_gt 26 22 dX8_isIn_19 (by decide) rfl (fun c4 => ?_) (fun c4 => ?_)
    · have hf := ite_t c4 hf
      refine E_iconst 27 0 dX8_isIn_26 cst_iconst0 rfl ?_
      cases hf
      exact E_zret (v := 0) rfl dX8_isIn_27 rfl (Nat.le_of_ble_eq_true rfl) (Nat.le_of_ble_eq_true rfl)
    · have hf := ite_e c4 hf
      refine E_iconst 23 1 dX8_isIn_22 cst_iconst1 rfl ?_
      refine E_goto 27 dX8_isIn_23 (by decide) ?_
      cases hf
      exact E_zret (v := 1) rfl dX8_isIn_27 rfl (Nat.le_of_ble_eq_true rfl) (Nat.le_of_ble_eq_true rfl)
set_option maxRecDepth 100000 in
set_option maxHeartbeats 4000000 in
theorem j_X8_gathered_J218 {l : Launch} {g : Gt} (hl : l.stackTraces = false) {μ : Mm} {ν : Mm} {o : Nat → Int64} {dd : Nat → UInt64} {kb9 : (Int32 → Int32 → Int32 → Option (Int32))} {x1 : Int32} {x2 : Int32} {x3 : Int32} {x4 : Int32} {x5 : Int32} {x6 : Int32} {x7 : Int32}  {res : Int32} (hb9 : ∀ (v4 : Int32) (v5 : Int32) (v6 : Int32), kb9 v4 v5 v6 = some res → E l g z_X8_gathered 9 [(0, .ref (gaM g 0)), (1, .int x1), (2, .int x2), (3, .int x3), (4, .int v4), (5, .int v5), (6, .int v6)] [] (μ, ν, o, dd) 0 (QM g (.inl (some (.int res))) (μ, ν, o, dd) 0)) (hf : f_X8_gathered_J218 kb9 x1 x2 x3 x4 x5 x6 x7 ν = some res) : E l g z_X8_gathered 218 [(0, .ref (gaM g 0)), (1, .int x1), (2, .int x2), (3, .int x3), (4, .int x4), (5, .int x5), (6, .int x6), (7, .int x7)] [] (μ, ν, o, dd) 0 (QM g (.inl (some (.int res))) (μ, ν, o, dd) 0) := by
  unfold f_X8_gathered_J218 at hf
  refine E_iload 220 4 dX8_gathered_218 rfl rfl ?_
  refine E_iload 222 5 dX8_gathered_220 rfl rfl ?_
  refine E_iload 224 7 dX8_gathered_222 rfl rfl ?_
  obtain ⟨r18, hc19, hf⟩ := bnd hf
  refine E_callS1 227 0 [.int x4] [.int r18, .int x4] (c_X8_has hl hc19) my_X8_has kl_X8_109 rfl rfl (Nat.le_of_ble_eq_true rfl) (rmok rfl) dX8_gathered_224 rfl rfl rfl ?_
  refine E_if_eq 234 230 dX8_gathered_227 (by decide) rfl (fun c20 => ?_) (fun c20 => ?_)
  · have hf := ite_t c20 hf
    refine E_iconst 235 1 dX8_gathered_234 cst_iconst1 rfl ?_
    refine E_iadd 236 dX8_gathered_235 rfl ?_
    refine E_istore 238 [(4, .int (x4 + 1)), (0, .ref (gaM g 0)), (1, .int x1), (2, .int x2), (3, .int x3), (5, .int x5), (6, .int x6), (7, .int x7)] dX8_gathered_236 (by decide) rfl rfl ?_
    refine E_iload 240 5 dX8_gathered_238 rfl rfl ?_
    refine E_iload 242 7 dX8_gathered_240 rfl rfl ?_
    refine E_iconst 243 1 dX8_gathered_242 cst_iconst1 rfl ?_
    obtain ⟨r21, hc22, hf⟩ := bnd hf
    refine E_callS1 246 0 [] [.int r21] (c_X8_with hl hc22) my_X8_with kl_X8_113 rfl rfl (Nat.le_of_ble_eq_true rfl) (rmok rfl) dX8_gathered_243 rfl rfl rfl ?_
    refine E_istore 248 [(5, .int r21), (4, .int (x4 + 1)), (0, .ref (gaM g 0)), (1, .int x1), (2, .int x2), (3, .int x3), (6, .int x6), (7, .int x7)] dX8_gathered_246 (by decide) rfl rfl ?_
    refine E_iinc 251 [(6, .int (x6 + 1)), (5, .int r21), (4, .int (x4 + 1)), (0, .ref (gaM g 0)), (1, .int x1), (2, .int x2), (3, .int x3), (7, .int x7)] 6 (v := x6 + 1) dX8_gathered_248 rfl (by rw [cst_iconst1]) (by decide) rfl rfl ?_
    refine E_goto 9 dX8_gathered_251 (by decide) ?_
    refine E_sub [3, 4, 5, 6, 2, 1, 0] rfl ?_
    exact hb9 (x4 + 1) r21 (x6 + 1) hf
  · have hf := ite_e c20 hf
    refine E_iconst 231 0 dX8_gathered_230 cst_iconst0 rfl ?_
    refine E_goto 235 dX8_gathered_231 (by decide) ?_
    refine E_iadd 236 dX8_gathered_235 rfl ?_
    refine E_istore 238 [(4, .int (x4 + 0)), (0, .ref (gaM g 0)), (1, .int x1), (2, .int x2), (3, .int x3), (5, .int x5), (6, .int x6), (7, .int x7)] dX8_gathered_236 (by decide) rfl rfl ?_
    refine E_iload 240 5 dX8_gathered_238 rfl rfl ?_
    refine E_iload 242 7 dX8_gathered_240 rfl rfl ?_
    refine E_iconst 243 1 dX8_gathered_242 cst_iconst1 rfl ?_
    obtain ⟨r23, hc24, hf⟩ := bnd hf
    refine E_callS1 246 0 [] [.int r23] (c_X8_with hl hc24) my_X8_with kl_X8_113 rfl rfl (Nat.le_of_ble_eq_true rfl) (rmok rfl) dX8_gathered_243 rfl rfl rfl ?_
    refine E_istore 248 [(5, .int r23), (4, .int (x4 + 0)), (0, .ref (gaM g 0)), (1, .int x1), (2, .int x2), (3, .int x3), (6, .int x6), (7, .int x7)] dX8_gathered_246 (by decide) rfl rfl ?_
    refine E_iinc 251 [(6, .int (x6 + 1)), (5, .int r23), (4, .int (x4 + 0)), (0, .ref (gaM g 0)), (1, .int x1), (2, .int x2), (3, .int x3), (7, .int x7)] 6 (v := x6 + 1) dX8_gathered_248 rfl (by rw [cst_iconst1]) (by decide) rfl rfl ?_
    refine E_goto 9 dX8_gathered_251 (by decide) ?_
    refine E_sub [3, 4, 5, 6, 2, 1, 0] rfl ?_
    exact hb9 (x4 + 0) r23 (x6 + 1) hf
set_option maxRecDepth 100000 in
set_option maxHeartbeats 4000000 in
theorem j_X8_gathered_J206 {l : Launch} {g : Gt} (hl : l.stackTraces = false) {μ : Mm} {ν : Mm} {o : Nat → Int64} {dd : Nat → UInt64} {kb9 : (Int32 → Int32 → Int32 → Option (Int32))} {x1 : Int32} {x2 : Int32} {x3 : Int32} {x4 : Int32} {x5 : Int32} {x6 : Int32} {x7 : Int32}  {res : Int32} (hb9 : ∀ (v4 : Int32) (v5 : Int32) (v6 : Int32), kb9 v4 v5 v6 = some res → E l g z_X8_gathered 9 [(0, .ref (gaM g 0)), (1, .int x1), (2, .int x2), (3, .int x3), (4, .int v4), (5, .int v5), (6, .int v6)] [] (μ, ν, o, dd) 0 (QM g (.inl (some (.int res))) (μ, ν, o, dd) 0)) (hf : f_X8_gathered_J206 kb9 x1 x2 x3 x4 x5 x6 x7 ν = some res) : E l g z_X8_gathered 206 [(0, .ref (gaM g 0)), (1, .int x1), (2, .int x2), (3, .int x3), (4, .int x4), (5, .int x5), (6, .int x6), (7, .int x7)] [] (μ, ν, o, dd) 0 (QM g (.inl (some (.int res))) (μ, ν, o, dd) 0) := by
  unfold f_X8_gathered_J206 at hf
  refine E_iload_n 207 2 dX8_gathered_206 rfl rfl rfl ?_
  refine E_bipush 209 114 dX8_gathered_207 cst_bipush114 rfl ?_
  refine E_icmp_eq 218 212 dX8_gathered_209 (by decide) rfl (fun c17 => ?_) (fun c17 => ?_)
  · have hf := ite_t c17 hf
    refine E_sub [0, 1, 2, 3, 4, 5, 6, 7] rfl ?_
    exact j_X8_gathered_J218 hl hb9 hf
  · have hf := ite_e c17 hf
    refine E_iload_n 213 2 dX8_gathered_212 rfl rfl rfl ?_
    refine E_bipush 215 99 dX8_gathered_213 cst_bipush99 rfl ?_
    refine E_icmp_ne 238 218 dX8_gathered_215 (by decide) rfl (fun c25 => ?_) (fun c25 => ?_)
    · have hf := ite_e c25 hf
      refine E_iload 240 5 dX8_gathered_238 rfl rfl ?_
      refine E_iload 242 7 dX8_gathered_240 rfl rfl ?_
      refine E_iconst 243 1 dX8_gathered_242 cst_iconst1 rfl ?_
      obtain ⟨r26, hc27, hf⟩ := bnd hf
      refine E_callS1 246 0 [] [.int r26] (c_X8_with hl hc27) my_X8_with kl_X8_113 rfl rfl (Nat.le_of_ble_eq_true rfl) (rmok rfl) dX8_gathered_243 rfl rfl rfl ?_
      refine E_istore 248 [(5, .int r26), (0, .ref (gaM g 0)), (1, .int x1), (2, .int x2), (3, .int x3), (4, .int x4), (6, .int x6), (7, .int x7)] dX8_gathered_246 (by decide) rfl rfl ?_
      refine E_iinc 251 [(6, .int (x6 + 1)), (5, .int r26), (0, .ref (gaM g 0)), (1, .int x1), (2, .int x2), (3, .int x3), (4, .int x4), (7, .int x7)] 6 (v := x6 + 1) dX8_gathered_248 rfl (by rw [cst_iconst1]) (by decide) rfl rfl ?_
      refine E_goto 9 dX8_gathered_251 (by decide) ?_
      refine E_sub [2, 3, 4, 5, 6, 1, 0] rfl ?_
      exact hb9 x4 r26 (x6 + 1) hf
    · have hf := ite_t c25 hf
      refine E_sub [0, 1, 2, 3, 4, 5, 6, 7] rfl ?_
      exact j_X8_gathered_J218 hl hb9 hf
set_option maxRecDepth 100000 in
set_option maxHeartbeats 4000000 in
theorem j_X8_gathered_J171 {l : Launch} {g : Gt} (hl : l.stackTraces = false) {μ : Mm} {ν : Mm} {o : Nat → Int64} {dd : Nat → UInt64} {kb9 : (Int32 → Int32 → Int32 → Option (Int32))} {x1 : Int32} {x2 : Int32} {x3 : Int32} {x4 : Int32} {x5 : Int32} {x6 : Int32} {x7 : Int32}  {res : Int32} (hb9 : ∀ (v4 : Int32) (v5 : Int32) (v6 : Int32), kb9 v4 v5 v6 = some res → E l g z_X8_gathered 9 [(0, .ref (gaM g 0)), (1, .int x1), (2, .int x2), (3, .int x3), (4, .int v4), (5, .int v5), (6, .int v6)] [] (μ, ν, o, dd) 0 (QM g (.inl (some (.int res))) (μ, ν, o, dd) 0)) (hf : f_X8_gathered_J171 kb9 x1 x2 x3 x4 x5 x6 x7 ν = some res) : E l g z_X8_gathered 171 [(0, .ref (gaM g 0)), (1, .int x1), (2, .int x2), (3, .int x3), (4, .int x4), (5, .int x5), (6, .int x6), (7, .int x7)] [] (μ, ν, o, dd) 0 (QM g (.inl (some (.int res))) (μ, ν, o, dd) 0) := by
  unfold f_X8_gathered_J171 at hf
  refine E_iload_n 172 2 dX8_gathered_171 rfl rfl rfl ?_
  refine E_bipush 174 108 dX8_gathered_172 cst_bipush108 rfl ?_
  refine E_icmp_ne 206 177 dX8_gathered_174 (by decide) rfl (fun c16 => ?_) (fun c16 => ?_)
  · have hf := ite_e c16 hf
    refine E_sub [0, 1, 2, 3, 4, 5, 6, 7] rfl ?_
    exact j_X8_gathered_J206 hl hb9 hf
  · have hf := ite_t c16 hf
    refine E_iload 179 4 dX8_gathered_177 rfl rfl ?_
    refine E_aload_n 180 0 dX8_gathered_179 rfl rfl rfl ?_
    refine E_getMr 183 fg_X8_23 dX8_gathered_180 rfl ?_
    refine E_iload 185 6 dX8_gathered_183 rfl rfl ?_
    obtain ⟨h28, hf⟩ := chk_some hf
    refine E_ialdM 186 (k := 5) (n := 200) rfl (by decide) h28 dX8_gathered_185 rfl ?_
    refine E_sipush 189 900 dX8_gathered_186 cst_sipush900 rfl ?_
    refine E_sipush 192 999 dX8_gathered_189 cst_sipush999 rfl ?_
    obtain ⟨r29, hc30, hf⟩ := bnd hf
    refine E_callS1 195 0 [.int x4] [.int r29, .int x4] (c_X8_isBetween hl hc30) my_X8_isBetween kl_X8_88 rfl rfl (Nat.le_of_ble_eq_true rfl) (rmok rfl) dX8_gathered_192 rfl rfl rfl ?_
    refine E_if_eq 202 198 dX8_gathered_195 (by decide) rfl (fun c31 => ?_) (fun c31 => ?_)
    · have hf := ite_t c31 hf
      refine E_iconst 203 0 dX8_gathered_202 cst_iconst0 rfl ?_
      refine E_iadd 204 dX8_gathered_203 rfl ?_
      refine E_istore 206 [(4, .int (x4 + 0)), (0, .ref (gaM g 0)), (1, .int x1), (2, .int x2), (3, .int x3), (5, .int x5), (6, .int x6), (7, .int x7)] dX8_gathered_204 (by decide) rfl rfl ?_
      refine E_sub [1, 2, 3, 4, 0, 5, 6, 7] rfl ?_
      exact j_X8_gathered_J206 hl hb9 hf
    · have hf := ite_e c31 hf
      refine E_iconst 199 1 dX8_gathered_198 cst_iconst1 rfl ?_
      refine E_goto 203 dX8_gathered_199 (by decide) ?_
      refine E_iadd 204 dX8_gathered_203 rfl ?_
      refine E_istore 206 [(4, .int (x4 + 1)), (0, .ref (gaM g 0)), (1, .int x1), (2, .int x2), (3, .int x3), (5, .int x5), (6, .int x6), (7, .int x7)] dX8_gathered_204 (by decide) rfl rfl ?_
      refine E_sub [1, 2, 3, 4, 0, 5, 6, 7] rfl ?_
      exact j_X8_gathered_J206 hl hb9 hf
set_option maxRecDepth 100000 in
set_option maxHeartbeats 4000000 in
theorem j_X8_gathered_J151 {l : Launch} {g : Gt} (hl : l.stackTraces = false) {μ : Mm} {ν : Mm} {o : Nat → Int64} {dd : Nat → UInt64} {kb9 : (Int32 → Int32 → Int32 → Option (Int32))} {x1 : Int32} {x2 : Int32} {x3 : Int32} {x4 : Int32} {x5 : Int32} {x6 : Int32} {x7 : Int32}  {res : Int32} (hb9 : ∀ (v4 : Int32) (v5 : Int32) (v6 : Int32), kb9 v4 v5 v6 = some res → E l g z_X8_gathered 9 [(0, .ref (gaM g 0)), (1, .int x1), (2, .int x2), (3, .int x3), (4, .int v4), (5, .int v5), (6, .int v6)] [] (μ, ν, o, dd) 0 (QM g (.inl (some (.int res))) (μ, ν, o, dd) 0)) (hf : f_X8_gathered_J151 kb9 x1 x2 x3 x4 x5 x6 x7 ν = some res) : E l g z_X8_gathered 151 [(0, .ref (gaM g 0)), (1, .int x1), (2, .int x2), (3, .int x3), (4, .int x4), (5, .int x5), (6, .int x6), (7, .int x7)] [] (μ, ν, o, dd) 0 (QM g (.inl (some (.int res))) (μ, ν, o, dd) 0) := by
  unfold f_X8_gathered_J151 at hf
  refine E_iload_n 152 2 dX8_gathered_151 rfl rfl rfl ?_
  refine E_bipush 154 109 dX8_gathered_152 cst_bipush109 rfl ?_
  refine E_icmp_ne 171 157 dX8_gathered_154 (by decide) rfl (fun c15 => ?_) (fun c15 => ?_)
  · have hf := ite_e c15 hf
    refine E_sub [0, 1, 2, 3, 4, 5, 6, 7] rfl ?_
    exact j_X8_gathered_J171 hl hb9 hf
  · have hf := ite_t c15 hf
    refine E_iload 159 4 dX8_gathered_157 rfl rfl ?_
    refine E_aload_n 160 0 dX8_gathered_159 rfl rfl rfl ?_
    refine E_getMr 163 fg_X8_23 dX8_gathered_160 rfl ?_
    refine E_iload 165 6 dX8_gathered_163 rfl rfl ?_
    obtain ⟨h32, hf⟩ := chk_some hf
    refine E_ialdM 166 (k := 5) (n := 200) rfl (by decide) h32 dX8_gathered_165 rfl ?_
    refine E_mmax 169 mm_X8_max_152 (Nat.le_of_ble_eq_true rfl) (Nat.le_of_ble_eq_true rfl) (Nat.le_of_ble_eq_true rfl) (Nat.le_of_ble_eq_true rfl) dX8_gathered_166 rfl ?_
    refine E_istore 171 [(4, .int ((if (x4 : Int32) < ν 5 x6.toNatClampNeg then ν 5 x6.toNatClampNeg else x4))), (0, .ref (gaM g 0)), (1, .int x1), (2, .int x2), (3, .int x3), (5, .int x5), (6, .int x6), (7, .int x7)] dX8_gathered_169 (by decide) rfl rfl ?_
    refine E_sub [1, 2, 3, 4, 0, 5, 6, 7] rfl ?_
    exact j_X8_gathered_J171 hl hb9 hf
set_option maxRecDepth 100000 in
set_option maxHeartbeats 4000000 in
theorem j_X8_gathered_J133 {l : Launch} {g : Gt} (hl : l.stackTraces = false) {μ : Mm} {ν : Mm} {o : Nat → Int64} {dd : Nat → UInt64} {kb9 : (Int32 → Int32 → Int32 → Option (Int32))} {x1 : Int32} {x2 : Int32} {x3 : Int32} {x4 : Int32} {x5 : Int32} {x6 : Int32} {x7 : Int32}  {res : Int32} (hb9 : ∀ (v4 : Int32) (v5 : Int32) (v6 : Int32), kb9 v4 v5 v6 = some res → E l g z_X8_gathered 9 [(0, .ref (gaM g 0)), (1, .int x1), (2, .int x2), (3, .int x3), (4, .int v4), (5, .int v5), (6, .int v6)] [] (μ, ν, o, dd) 0 (QM g (.inl (some (.int res))) (μ, ν, o, dd) 0)) (hf : f_X8_gathered_J133 kb9 x1 x2 x3 x4 x5 x6 x7 ν = some res) : E l g z_X8_gathered 133 [(0, .ref (gaM g 0)), (1, .int x1), (2, .int x2), (3, .int x3), (4, .int x4), (5, .int x5), (6, .int x6), (7, .int x7)] [] (μ, ν, o, dd) 0 (QM g (.inl (some (.int res))) (μ, ν, o, dd) 0) := by
  unfold f_X8_gathered_J133 at hf
  refine E_iload_n 134 2 dX8_gathered_133 rfl rfl rfl ?_
  refine E_bipush 136 115 dX8_gathered_134 cst_bipush115 rfl ?_
  refine E_icmp_ne 151 139 dX8_gathered_136 (by decide) rfl (fun c14 => ?_) (fun c14 => ?_)
  · have hf := ite_e c14 hf
    refine E_sub [0, 1, 2, 3, 4, 5, 6, 7] rfl ?_
    exact j_X8_gathered_J151 hl hb9 hf
  · have hf := ite_t c14 hf
    refine E_iload 141 4 dX8_gathered_139 rfl rfl ?_
    refine E_aload_n 142 0 dX8_gathered_141 rfl rfl rfl ?_
    refine E_getMr 145 fg_X8_23 dX8_gathered_142 rfl ?_
    refine E_iload 147 6 dX8_gathered_145 rfl rfl ?_
    obtain ⟨h33, hf⟩ := chk_some hf
    refine E_ialdM 148 (k := 5) (n := 200) rfl (by decide) h33 dX8_gathered_147 rfl ?_
    refine E_iadd 149 dX8_gathered_148 rfl ?_
    refine E_istore 151 [(4, .int (x4 + (ν 5 x6.toNatClampNeg))), (0, .ref (gaM g 0)), (1, .int x1), (2, .int x2), (3, .int x3), (5, .int x5), (6, .int x6), (7, .int x7)] dX8_gathered_149 (by decide) rfl rfl ?_
    refine E_sub [1, 2, 3, 4, 0, 5, 6, 7] rfl ?_
    exact j_X8_gathered_J151 hl hb9 hf
set_option maxRecDepth 100000 in
set_option maxHeartbeats 4000000 in
theorem j_X8_gathered_J72 {l : Launch} {g : Gt} (hl : l.stackTraces = false) {μ : Mm} {ν : Mm} {o : Nat → Int64} {dd : Nat → UInt64} {kb9 : (Int32 → Int32 → Int32 → Option (Int32))} {x1 : Int32} {x2 : Int32} {x3 : Int32} {x4 : Int32} {x5 : Int32} {x6 : Int32}  {res : Int32} (hb9 : ∀ (v4 : Int32) (v5 : Int32) (v6 : Int32), kb9 v4 v5 v6 = some res → E l g z_X8_gathered 9 [(0, .ref (gaM g 0)), (1, .int x1), (2, .int x2), (3, .int x3), (4, .int v4), (5, .int v5), (6, .int v6)] [] (μ, ν, o, dd) 0 (QM g (.inl (some (.int res))) (μ, ν, o, dd) 0)) (hf : f_X8_gathered_J72 kb9 x1 x2 x3 x4 x5 x6 ν = some res) : E l g z_X8_gathered 72 [(0, .ref (gaM g 0)), (1, .int x1), (2, .int x2), (3, .int x3), (4, .int x4), (5, .int x5), (6, .int x6)] [] (μ, ν, o, dd) 0 (QM g (.inl (some (.int res))) (μ, ν, o, dd) 0) := by
  unfold f_X8_gathered_J72 at hf
  refine E_aload_n 73 0 dX8_gathered_72 rfl rfl rfl ?_
  refine E_getMr 76 fg_X8_17 dX8_gathered_73 rfl ?_
  refine E_iload 78 6 dX8_gathered_76 rfl rfl ?_
  obtain ⟨h7, hf⟩ := chk_some hf
  refine E_ialdM 79 (k := 3) (n := 200) rfl (by decide) h7 dX8_gathered_78 rfl ?_
  refine E_aload_n 80 0 dX8_gathered_79 rfl rfl rfl ?_
  refine E_getMr 83 fg_X8_17 dX8_gathered_80 rfl ?_
  refine E_iload_n 84 1 dX8_gathered_83 rfl rfl rfl ?_
  obtain ⟨h8, hf⟩ := chk_some hf
  refine E_ialdM 85 (k := 3) (n := 200) rfl (by decide) h8 dX8_gathered_84 rfl ?_
  refine E_icmp_eq 91 88 dX8_gathered_85 (by decide) rfl (fun c9 => ?_) (fun c9 => ?_)
  · have hf := ite_t c9 hf
    refine E_iload_n 92 2 dX8_gathered_91 rfl rfl rfl ?_
    refine E_bipush 94 114 dX8_gathered_92 cst_bipush114 rfl ?_
    refine E_icmp_ne 107 97 dX8_gathered_94 (by decide) rfl (fun c10 => ?_) (fun c10 => ?_)
    · have hf := ite_e c10 hf
      refine E_aload_n 108 0 dX8_gathered_107 rfl rfl rfl ?_
      refine E_getMr 111 fg_X8_9 dX8_gathered_108 rfl ?_
      refine E_aload_n 112 0 dX8_gathered_111 rfl rfl rfl ?_
      refine E_getMr 115 fg_X8_20 dX8_gathered_112 rfl ?_
      refine E_iload 117 6 dX8_gathered_115 rfl rfl ?_
      obtain ⟨h11, hf⟩ := chk_some hf
      refine E_ialdM 118 (k := 4) (n := 200) rfl (by decide) h11 dX8_gathered_117 rfl ?_
      obtain ⟨h12, hf⟩ := chk_some hf
      refine E_caldM 119 (k := 1) (n := 20) rfl (by decide) h12 dX8_gathered_118 rfl ?_
      refine E_bipush 121 97 dX8_gathered_119 cst_bipush97 rfl ?_
      refine E_isub 122 dX8_gathered_121 rfl ?_
      refine E_istore 124 [(7, .int ((ν 1 (ν 4 x6.toNatClampNeg).toNatClampNeg) - 97)), (0, .ref (gaM g 0)), (1, .int x1), (2, .int x2), (3, .int x3), (4, .int x4), (5, .int x5), (6, .int x6)] dX8_gathered_122 (by decide) rfl rfl ?_
      refine E_iload_n 125 3 dX8_gathered_124 rfl rfl rfl ?_
      refine E_bipush 127 110 dX8_gathered_125 cst_bipush110 rfl ?_
      refine E_icmp_ne 133 130 dX8_gathered_127 (by decide) rfl (fun c13 => ?_) (fun c13 => ?_)
      · have hf := ite_e c13 hf
        refine E_sub [1, 2, 3, 4, 5, 6, 7, 0] rfl ?_
        exact j_X8_gathered_J133 hl hb9 hf
      · have hf := ite_t c13 hf
        refine E_iinc 133 [(4, .int (x4 + 1)), (7, .int ((ν 1 (ν 4 x6.toNatClampNeg).toNatClampNeg) - 97)), (0, .ref (gaM g 0)), (1, .int x1), (2, .int x2), (3, .int x3), (5, .int x5), (6, .int x6)] 5 (v := x4 + 1) dX8_gathered_130 rfl (by rw [cst_iconst1]) (by decide) rfl rfl ?_
        refine E_sub [2, 3, 4, 5, 0, 6, 7, 1] rfl ?_
        exact j_X8_gathered_J133 hl hb9 hf
    · have hf := ite_t c10 hf
      refine E_aload_n 98 0 dX8_gathered_97 rfl rfl rfl ?_
      refine E_getMr 101 fg_X8_20 dX8_gathered_98 rfl ?_
      refine E_iload 103 6 dX8_gathered_101 rfl rfl ?_
      obtain ⟨h34, hf⟩ := chk_some hf
      refine E_ialdM 104 (k := 4) (n := 200) rfl (by decide) h34 dX8_gathered_103 rfl ?_
      refine E_goto 122 dX8_gathered_104 (by decide) ?_
      refine E_istore 124 [(7, .int (ν 4 x6.toNatClampNeg)), (0, .ref (gaM g 0)), (1, .int x1), (2, .int x2), (3, .int x3), (4, .int x4), (5, .int x5), (6, .int x6)] dX8_gathered_122 (by decide) rfl rfl ?_
      refine E_iload_n 125 3 dX8_gathered_124 rfl rfl rfl ?_
      refine E_bipush 127 110 dX8_gathered_125 cst_bipush110 rfl ?_
      refine E_icmp_ne 133 130 dX8_gathered_127 (by decide) rfl (fun c35 => ?_) (fun c35 => ?_)
      · have hf := ite_e c35 hf
        refine E_sub [1, 2, 3, 4, 5, 6, 7, 0] rfl ?_
        exact j_X8_gathered_J133 hl hb9 hf
      · have hf := ite_t c35 hf
        refine E_iinc 133 [(4, .int (x4 + 1)), (7, .int (ν 4 x6.toNatClampNeg)), (0, .ref (gaM g 0)), (1, .int x1), (2, .int x2), (3, .int x3), (5, .int x5), (6, .int x6)] 5 (v := x4 + 1) dX8_gathered_130 rfl (by rw [cst_iconst1]) (by decide) rfl rfl ?_
        refine E_sub [2, 3, 4, 5, 0, 6, 7, 1] rfl ?_
        exact j_X8_gathered_J133 hl hb9 hf
  · have hf := ite_e c9 hf
    refine E_goto 248 dX8_gathered_88 (by decide) ?_
    refine E_iinc 251 [(6, .int (x6 + 1)), (0, .ref (gaM g 0)), (1, .int x1), (2, .int x2), (3, .int x3), (4, .int x4), (5, .int x5)] 6 (v := x6 + 1) dX8_gathered_248 rfl (by rw [cst_iconst1]) (by decide) rfl rfl ?_
    refine E_goto 9 dX8_gathered_251 (by decide) ?_
    refine E_sub [1, 2, 3, 4, 5, 6, 0] rfl ?_
    exact hb9 x4 x5 (x6 + 1) hf
set_option maxRecDepth 100000 in
set_option maxHeartbeats 4000000 in
theorem l_X8_gathered_L9 {l : Launch} {g : Gt} (hl : l.stackTraces = false) {μ : Mm} {ν : Mm} {o : Nat → Int64} {dd : Nat → UInt64}  {x1 : Int32} {x2 : Int32} {x3 : Int32} {res : Int32} : ∀ (n : Nat) (x4 : Int32) (x5 : Int32) (x6 : Int32) , f_X8_gathered_L9 x1 x2 x3 ν n x4 x5 x6 = some res → E l g z_X8_gathered 9 [(0, .ref (gaM g 0)), (1, .int x1), (2, .int x2), (3, .int x3), (4, .int x4), (5, .int x5), (6, .int x6)] [] (μ, ν, o, dd) 0 (QM g (.inl (some (.int res))) (μ, ν, o, dd) 0) := by
  intro n
  induction n with
  | zero => intro x4 x5 x6 hf; cases hf
  | succ n ih =>
    intro x4 x5 x6 hf
    refine E_iload 11 6 dX8_gathered_9 rfl rfl ?_
    refine E_iload_n 12 1 dX8_gathered_11 rfl rfl rfl ?_
    refine E_icmp_gt 254 15 dX8_gathered_12 (by decide) rfl (fun c1 => ?_) (fun c1 => ?_)
    · have hf := ite_t c1 hf
      refine E_iload 256 4 dX8_gathered_254 rfl rfl ?_
      cases hf
      exact E_iret dX8_gathered_256 rfl (Nat.le_of_ble_eq_true rfl) (Nat.le_of_ble_eq_true rfl)
    · have hf := ite_e c1 hf
      refine E_aload_n 16 0 dX8_gathered_15 rfl rfl rfl ?_
      refine E_iload 18 6 dX8_gathered_16 rfl rfl ?_
      refine E_iload_n 19 3 dX8_gathered_18 rfl rfl rfl ?_
      refine E_aload_n 20 0 dX8_gathered_19 rfl rfl rfl ?_
      refine E_getMr 23 fg_X8_26 dX8_gathered_20 rfl ?_
      refine E_iload_n 24 1 dX8_gathered_23 rfl rfl rfl ?_
      obtain ⟨h2, hf⟩ := chk_some hf
      refine E_ialdM 25 (k := 6) (n := 200) rfl (by decide) h2 dX8_gathered_24 rfl ?_
      obtain ⟨r3, hc4, hf⟩ := bnd hf
      refine E_callVM1 28 0 [] [.int r3] (c_X8_isIn hl hc4) my_X8_isIn rc_X8 kl_X8_136 rfl rfl (Nat.le_of_ble_eq_true rfl) (rmok rfl) dX8_gathered_25 rfl rfl rfl ?_
      refine E_if_ne 34 31 dX8_gathered_28 (by decide) rfl (fun c5 => ?_) (fun c5 => ?_)
      · have hf := ite_e c5 hf
        refine E_iload_n 35 2 dX8_gathered_34 rfl rfl rfl ?_
        refine E_bipush 37 105 dX8_gathered_35 cst_bipush105 rfl ?_
        refine E_icmp_ne 72 40 dX8_gathered_37 (by decide) rfl (fun c6 => ?_) (fun c6 => ?_)
        · have hf := ite_e c6 hf
          refine E_sub [0, 1, 2, 3, 4, 5, 6] rfl ?_
          exact j_X8_gathered_J72 hl ih hf
        · have hf := ite_t c6 hf
          refine E_iload 42 4 dX8_gathered_40 rfl rfl ?_
          refine E_aload_n 43 0 dX8_gathered_42 rfl rfl rfl ?_
          refine E_getMr 46 fg_X8_20 dX8_gathered_43 rfl ?_
          refine E_iload 48 6 dX8_gathered_46 rfl rfl ?_
          obtain ⟨h36, hf⟩ := chk_some hf
          refine E_ialdM 49 (k := 4) (n := 200) rfl (by decide) h36 dX8_gathered_48 rfl ?_
          refine E_aload_n 50 0 dX8_gathered_49 rfl rfl rfl ?_
          refine E_getMr 53 fg_X8_17 dX8_gathered_50 rfl ?_
          refine E_iload_n 54 1 dX8_gathered_53 rfl rfl rfl ?_
          obtain ⟨h37, hf⟩ := chk_some hf
          refine E_ialdM 55 (k := 3) (n := 200) rfl (by decide) h37 dX8_gathered_54 rfl ?_
          refine E_icmp_ne 68 58 dX8_gathered_55 (by decide) rfl (fun c38 => ?_) (fun c38 => ?_)
          · have hf := ite_e c38 hf
            refine E_iconst 69 0 dX8_gathered_68 cst_iconst0 rfl ?_
            refine E_iadd 70 dX8_gathered_69 rfl ?_
            refine E_istore 72 [(4, .int (x4 + 0)), (0, .ref (gaM g 0)), (1, .int x1), (2, .int x2), (3, .int x3), (5, .int x5), (6, .int x6)] dX8_gathered_70 (by decide) rfl rfl ?_
            refine E_sub [1, 2, 3, 4, 0, 5, 6] rfl ?_
            exact j_X8_gathered_J72 hl ih hf
          · have hf := ite_t c38 hf
            refine E_aload_n 59 0 dX8_gathered_58 rfl rfl rfl ?_
            refine E_getMr 62 fg_X8_23 dX8_gathered_59 rfl ?_
            refine E_iload 64 6 dX8_gathered_62 rfl rfl ?_
            obtain ⟨h39, hf⟩ := chk_some hf
            refine E_ialdM 65 (k := 5) (n := 200) rfl (by decide) h39 dX8_gathered_64 rfl ?_
            refine E_goto 69 dX8_gathered_65 (by decide) ?_
            refine E_iadd 70 dX8_gathered_69 rfl ?_
            refine E_istore 72 [(4, .int (x4 + (ν 5 x6.toNatClampNeg))), (0, .ref (gaM g 0)), (1, .int x1), (2, .int x2), (3, .int x3), (5, .int x5), (6, .int x6)] dX8_gathered_70 (by decide) rfl rfl ?_
            refine E_sub [1, 2, 3, 4, 0, 5, 6] rfl ?_
            exact j_X8_gathered_J72 hl ih hf
      · have hf := ite_t c5 hf
        refine E_goto 248 dX8_gathered_31 (by decide) ?_
        refine E_iinc 251 [(6, .int (x6 + 1)), (0, .ref (gaM g 0)), (1, .int x1), (2, .int x2), (3, .int x3), (4, .int x4), (5, .int x5)] 6 (v := x6 + 1) dX8_gathered_248 rfl (by rw [cst_iconst1]) (by decide) rfl rfl ?_
        refine E_goto 9 dX8_gathered_251 (by decide) ?_
        refine E_sub [1, 2, 3, 4, 5, 6, 0] rfl ?_
        exact ih x4 x5 (x6 + 1) hf
set_option maxRecDepth 100000 in
set_option maxHeartbeats 4000000 in
theorem c_X8_gathered {l : Launch} {g : Gt} (hl : l.stackTraces = false) {a1 : Int32} {a2 : Int32} {a3 : Int32} {μ : Mm} {ν : Mm} {o : Nat → Int64} {dd : Nat → UInt64} {res : Int32} (hf : f_X8_gathered a1 a2 a3 ν = some res) : CM l g z_X8_gathered yX8_gathered [.ref (gaM g 0), .int a1, .int a2, .int a3] (μ, ν, o, dd) 0 (.inl (some (.int res))) (μ, ν, o, dd) := by
  unfold f_X8_gathered at hf
  refine CM_of_E rfl rfl (by decide +kernel) rfl (Nat.le_of_ble_eq_true rfl) hl ?_
  refine E_iconst 1 0 dX8_gathered_0 cst_iconst0 rfl ?_
  refine E_istore 3 [(4, .int 0), (0, .ref (gaM g 0)), (1, .int a1), (2, .int a2), (3, .int a3)] dX8_gathered_1 (by decide) rfl rfl ?_
  refine E_iconst 4 0 dX8_gathered_3 cst_iconst0 rfl ?_
  refine E_istore 6 [(5, .int 0), (4, .int 0), (0, .ref (gaM g 0)), (1, .int a1), (2, .int a2), (3, .int a3)] dX8_gathered_4 (by decide) rfl rfl ?_
  refine E_iconst 7 0 dX8_gathered_6 cst_iconst0 rfl ?_
  refine E_istore 9 [(6, .int 0), (5, .int 0), (4, .int 0), (0, .ref (gaM g 0)), (1, .int a1), (2, .int a2), (3, .int a3)] dX8_gathered_7 (by decide) rfl rfl ?_
  refine E_sub [3, 4, 5, 6, 2, 1, 0] rfl ?_
  refine l_X8_gathered_L9 hl  _ _ _ _ hf
set_option maxRecDepth 100000 in
set_option maxHeartbeats 4000000 in
theorem l_X8_spreads_L3 {l : Launch} {g : Gt} (hl : l.stackTraces = false) {μ : Mm} {o : Nat → Int64} {dd : Nat → UInt64} {kx27 : (Mm → Option (Mm))} {x1 : Int32} {x2 : Int32} {x3 : Int32} {x4 : Int32} {x5 : Int32} {res : Mm} (hx27 : ∀  (ν' : Mm), kx27 ν' = some res → E l g z_X8_spreads 27 [(0, .ref (gaM g 0)), (1, .int x1), (2, .int x2), (3, .int x3), (4, .int x4), (5, .int x5)] [] (μ, ν', o, dd) 0 (QM g (.inl none) (μ, res, o, dd) 0)) : ∀ (n : Nat) (x6 : Int32) (ν : Mm), f_X8_spreads_L3 kx27 x1 x2 x3 x4 x5 n x6 ν = some res → E l g z_X8_spreads 3 [(0, .ref (gaM g 0)), (1, .int x1), (2, .int x2), (3, .int x3), (4, .int x4), (5, .int x5), (6, .int x6)] [] (μ, ν, o, dd) 0 (QM g (.inl none) (μ, res, o, dd) 0) := by
  intro n
  induction n with
  | zero => intro x6 ν hf; cases hf
  | succ n ih =>
    intro x6 ν hf
    refine E_iload 5 6 dX8_spreads_3 rfl rfl ?_
    refine E_aload_n 6 0 dX8_spreads_5 rfl rfl rfl ?_
    refine E_getM 9 fg_X8_85 dX8_spreads_6 rfl ?_
    refine E_icmp_ge 27 12 dX8_spreads_9 (by decide) rfl (fun c1 => ?_) (fun c1 => ?_)
    · have hf := ite_t c1 hf
      refine E_sub [0, 1, 2, 3, 4, 5] rfl ?_
      exact hx27 ν hf
    · have hf := ite_e c1 hf
      refine E_aload_n 13 0 dX8_spreads_12 rfl rfl rfl ?_
      refine E_getMr 16 fg_X8_45 dX8_spreads_13 rfl ?_
      refine E_iload 18 6 dX8_spreads_16 rfl rfl ?_
      refine E_bipush 20 99 dX8_spreads_18 cst_bipush99 rfl ?_
      obtain ⟨h2, hf⟩ := chk_some hf
      refine E_iastM 21 (k := 11) (n := 20) rfl (by decide) h2 dX8_spreads_20 rfl ?_
      refine E_iinc 24 [(6, .int (x6 + 1)), (0, .ref (gaM g 0)), (1, .int x1), (2, .int x2), (3, .int x3), (4, .int x4), (5, .int x5)] 6 (v := x6 + 1) dX8_spreads_21 rfl (by rw [cst_iconst1]) (by decide) rfl rfl ?_
      refine E_goto 3 dX8_spreads_24 (by decide) ?_
      refine E_sub [1, 2, 3, 4, 5, 6, 0] rfl ?_
      exact ih (x6 + 1) (up2 ν 11 x6.toNatClampNeg 99) hf
set_option maxRecDepth 100000 in
set_option maxHeartbeats 4000000 in
theorem j_X8_spreads_J120 {l : Launch} {g : Gt} (hl : l.stackTraces = false) {μ : Mm} {ν : Mm} {o : Nat → Int64} {dd : Nat → UInt64} {kb37 : (Int32 → Mm → Option (Mm))} {kb49 : (Int32 → Mm → Option (Mm))} {kx181 : (Mm → Option (Mm))} {x2 : Int32} {x3 : Int32} {x4 : Int32} {x5 : Int32} {x6 : Int32} {x7 : Int32}  {res : Mm} (hb37 : ∀ (v6 : Int32) (ν' : Mm), kb37 v6 ν' = some res → E l g z_X8_spreads 37 [(0, .ref (gaM g 0)), (2, .int x2), (3, .int x3), (4, .int x4), (5, .int x5), (6, .int v6)] [] (μ, ν', o, dd) 0 (QM g (.inl none) (μ, res, o, dd) 0)) (hb49 : ∀ (v7 : Int32) (ν' : Mm), kb49 v7 ν' = some res → E l g z_X8_spreads 49 [(0, .ref (gaM g 0)), (2, .int x2), (3, .int x3), (4, .int x4), (5, .int x5), (6, .int x6), (7, .int v7)] [] (μ, ν', o, dd) 0 (QM g (.inl none) (μ, res, o, dd) 0)) (hx181 : ∀  (ν' : Mm), kx181 ν' = some res → E l g z_X8_spreads 181 [(0, .ref (gaM g 0)), (2, .int x2), (3, .int x3), (4, .int x4), (5, .int x5), (6, .int x6)] [] (μ, ν', o, dd) 0 (QM g (.inl none) (μ, res, o, dd) 0)) (hf : f_X8_spreads_J120 kb37 kb49 kx181 x2 x3 x4 x5 x6 x7 ν = some res) : E l g z_X8_spreads 120 [(0, .ref (gaM g 0)), (2, .int x2), (3, .int x3), (4, .int x4), (5, .int x5), (6, .int x6), (7, .int x7)] [] (μ, ν, o, dd) 0 (QM g (.inl none) (μ, res, o, dd) 0) := by
  unfold f_X8_spreads_J120 at hf
  refine E_iload 122 4 dX8_spreads_120 rfl rfl ?_
  refine E_if_eq 175 125 dX8_spreads_122 (by decide) rfl (fun c13 => ?_) (fun c13 => ?_)
  · have hf := ite_t c13 hf
    refine E_iinc 178 [(7, .int (x7 + 1)), (0, .ref (gaM g 0)), (2, .int x2), (3, .int x3), (4, .int x4), (5, .int x5), (6, .int x6)] 6 (v := x7 + 1) dX8_spreads_175 rfl (by rw [cst_iconst1]) (by decide) rfl rfl ?_
    refine E_goto 49 dX8_spreads_178 (by decide) ?_
    refine E_sub [1, 2, 3, 4, 5, 6, 0] rfl ?_
    exact hb49 (x7 + 1) ν hf
  · have hf := ite_e c13 hf
    refine E_aload_n 126 0 dX8_spreads_125 rfl rfl rfl ?_
    refine E_getMr 129 fg_X8_45 dX8_spreads_126 rfl ?_
    refine E_aload_n 130 0 dX8_spreads_129 rfl rfl rfl ?_
    refine E_getMr 133 fg_X8_20 dX8_spreads_130 rfl ?_
    refine E_iload 135 6 dX8_spreads_133 rfl rfl ?_
    obtain ⟨h14, hf⟩ := chk_some hf
    refine E_ialdM 136 (k := 4) (n := 200) rfl (by decide) h14 dX8_spreads_135 rfl ?_
    obtain ⟨h15, hf⟩ := chk_some hf
    refine E_ialdM 137 (k := 11) (n := 20) rfl (by decide) h15 dX8_spreads_136 rfl ?_
    refine E_iload 139 5 dX8_spreads_137 rfl rfl ?_
    refine E_icmp_ne 175 142 dX8_spreads_139 (by decide) rfl (fun c16 => ?_) (fun c16 => ?_)
    · have hf := ite_e c16 hf
      refine E_iinc 178 [(7, .int (x7 + 1)), (0, .ref (gaM g 0)), (2, .int x2), (3, .int x3), (4, .int x4), (5, .int x5), (6, .int x6)] 6 (v := x7 + 1) dX8_spreads_175 rfl (by rw [cst_iconst1]) (by decide) rfl rfl ?_
      refine E_goto 49 dX8_spreads_178 (by decide) ?_
      refine E_sub [1, 2, 3, 4, 5, 6, 0] rfl ?_
      exact hb49 (x7 + 1) ν hf
    · have hf := ite_t c16 hf
      refine E_aload_n 143 0 dX8_spreads_142 rfl rfl rfl ?_
      refine E_getMr 146 fg_X8_45 dX8_spreads_143 rfl ?_
      refine E_aload_n 147 0 dX8_spreads_146 rfl rfl rfl ?_
      refine E_getMr 150 fg_X8_17 dX8_spreads_147 rfl ?_
      refine E_iload 152 6 dX8_spreads_150 rfl rfl ?_
      obtain ⟨h17, hf⟩ := chk_some hf
      refine E_ialdM 153 (k := 3) (n := 200) rfl (by decide) h17 dX8_spreads_152 rfl ?_
      obtain ⟨h18, hf⟩ := chk_some hf
      refine E_ialdM 154 (k := 11) (n := 20) rfl (by decide) h18 dX8_spreads_153 rfl ?_
      refine E_bipush 156 99 dX8_spreads_154 cst_bipush99 rfl ?_
      refine E_icmp_ne 175 159 dX8_spreads_156 (by decide) rfl (fun c19 => ?_) (fun c19 => ?_)
      · have hf := ite_e c19 hf
        refine E_iinc 178 [(7, .int (x7 + 1)), (0, .ref (gaM g 0)), (2, .int x2), (3, .int x3), (4, .int x4), (5, .int x5), (6, .int x6)] 6 (v := x7 + 1) dX8_spreads_175 rfl (by rw [cst_iconst1]) (by decide) rfl rfl ?_
        refine E_goto 49 dX8_spreads_178 (by decide) ?_
        refine E_sub [1, 2, 3, 4, 5, 6, 0] rfl ?_
        exact hb49 (x7 + 1) ν hf
      · have hf := ite_t c19 hf
        refine E_aload_n 160 0 dX8_spreads_159 rfl rfl rfl ?_
        refine E_getMr 163 fg_X8_45 dX8_spreads_160 rfl ?_
        refine E_aload_n 164 0 dX8_spreads_163 rfl rfl rfl ?_
        refine E_getMr 167 fg_X8_17 dX8_spreads_164 rfl ?_
        refine E_iload 169 6 dX8_spreads_167 rfl rfl ?_
        obtain ⟨h20, hf⟩ := chk_some hf
        refine E_ialdM 170 (k := 3) (n := 200) rfl (by decide) h20 dX8_spreads_169 rfl ?_
        refine E_iload 172 5 dX8_spreads_170 rfl rfl ?_
        refine E_iconst 173 1 dX8_spreads_172 cst_iconst1 rfl ?_
        refine E_iadd 174 dX8_spreads_173 rfl ?_
        obtain ⟨h21, hf⟩ := chk_some hf
        refine E_iastM 175 (k := 11) (n := 20) rfl (by decide) h21 dX8_spreads_174 rfl ?_
        refine E_iinc 178 [(7, .int (x7 + 1)), (0, .ref (gaM g 0)), (2, .int x2), (3, .int x3), (4, .int x4), (5, .int x5), (6, .int x6)] 6 (v := x7 + 1) dX8_spreads_175 rfl (by rw [cst_iconst1]) (by decide) rfl rfl ?_
        refine E_goto 49 dX8_spreads_178 (by decide) ?_
        refine E_sub [1, 2, 3, 4, 5, 6, 0] rfl ?_
        exact hb49 (x7 + 1) (up2 ν 11 (ν 3 x7.toNatClampNeg).toNatClampNeg (x6 + 1)) hf
set_option maxRecDepth 100000 in
set_option maxHeartbeats 4000000 in
theorem l_X8_spreads_L49 {l : Launch} {g : Gt} (hl : l.stackTraces = false) {μ : Mm} {o : Nat → Int64} {dd : Nat → UInt64} {kb37 : (Int32 → Mm → Option (Mm))} {kx181 : (Mm → Option (Mm))} {x2 : Int32} {x3 : Int32} {x4 : Int32} {x5 : Int32} {x6 : Int32} {res : Mm} (hb37 : ∀ (v6 : Int32) (ν' : Mm), kb37 v6 ν' = some res → E l g z_X8_spreads 37 [(0, .ref (gaM g 0)), (2, .int x2), (3, .int x3), (4, .int x4), (5, .int x5), (6, .int v6)] [] (μ, ν', o, dd) 0 (QM g (.inl none) (μ, res, o, dd) 0)) (hx181 : ∀  (ν' : Mm), kx181 ν' = some res → E l g z_X8_spreads 181 [(0, .ref (gaM g 0)), (2, .int x2), (3, .int x3), (4, .int x4), (5, .int x5), (6, .int x6)] [] (μ, ν', o, dd) 0 (QM g (.inl none) (μ, res, o, dd) 0)) : ∀ (n : Nat) (x7 : Int32) (ν : Mm), f_X8_spreads_L49 kb37 kx181 x2 x3 x4 x5 x6 n x7 ν = some res → E l g z_X8_spreads 49 [(0, .ref (gaM g 0)), (2, .int x2), (3, .int x3), (4, .int x4), (5, .int x5), (6, .int x6), (7, .int x7)] [] (μ, ν, o, dd) 0 (QM g (.inl none) (μ, res, o, dd) 0) := by
  intro n
  induction n with
  | zero => intro x7 ν hf; cases hf
  | succ n ih =>
    intro x7 ν hf
    refine E_iload 51 6 dX8_spreads_49 rfl rfl ?_
    refine E_iload_n 52 1 dX8_spreads_51 rfl rfl rfl ?_
    refine E_icmp_gt 181 55 dX8_spreads_52 (by decide) rfl (fun c6 => ?_) (fun c6 => ?_)
    · have hf := ite_t c6 hf
      refine E_sub [0, 1, 2, 3, 4, 5] rfl ?_
      exact hx181 ν hf
    · have hf := ite_e c6 hf
      refine E_aload_n 56 0 dX8_spreads_55 rfl rfl rfl ?_
      refine E_iload 58 6 dX8_spreads_56 rfl rfl ?_
      refine E_iload_n 59 2 dX8_spreads_58 rfl rfl rfl ?_
      refine E_iload 61 3 dX8_spreads_59 rfl rfl ?_
      obtain ⟨r7, hc8, hf⟩ := bnd hf
      refine E_callVM1 64 0 [] [.int r7] (c_X8_isIn hl hc8) my_X8_isIn rc_X8 kl_X8_136 rfl rfl (Nat.le_of_ble_eq_true rfl) (rmok rfl) dX8_spreads_61 rfl rfl rfl ?_
      refine E_if_ne 70 67 dX8_spreads_64 (by decide) rfl (fun c9 => ?_) (fun c9 => ?_)
      · have hf := ite_e c9 hf
        refine E_aload_n 71 0 dX8_spreads_70 rfl rfl rfl ?_
        refine E_getMr 74 fg_X8_45 dX8_spreads_71 rfl ?_
        refine E_aload_n 75 0 dX8_spreads_74 rfl rfl rfl ?_
        refine E_getMr 78 fg_X8_17 dX8_spreads_75 rfl ?_
        refine E_iload 80 6 dX8_spreads_78 rfl rfl ?_
        obtain ⟨h10, hf⟩ := chk_some hf
        refine E_ialdM 81 (k := 3) (n := 200) rfl (by decide) h10 dX8_spreads_80 rfl ?_
        obtain ⟨h11, hf⟩ := chk_some hf
        refine E_ialdM 82 (k := 11) (n := 20) rfl (by decide) h11 dX8_spreads_81 rfl ?_
        refine E_iload 84 5 dX8_spreads_82 rfl rfl ?_
        refine E_icmp_ne 120 87 dX8_spreads_84 (by decide) rfl (fun c12 => ?_) (fun c12 => ?_)
        · have hf := ite_e c12 hf
          refine E_sub [0, 1, 2, 3, 4, 5, 6] rfl ?_
          exact j_X8_spreads_J120 hl hb37 ih hx181 hf
        · have hf := ite_t c12 hf
          refine E_aload_n 88 0 dX8_spreads_87 rfl rfl rfl ?_
          refine E_getMr 91 fg_X8_45 dX8_spreads_88 rfl ?_
          refine E_aload_n 92 0 dX8_spreads_91 rfl rfl rfl ?_
          refine E_getMr 95 fg_X8_20 dX8_spreads_92 rfl ?_
          refine E_iload 97 6 dX8_spreads_95 rfl rfl ?_
          obtain ⟨h22, hf⟩ := chk_some hf
          refine E_ialdM 98 (k := 4) (n := 200) rfl (by decide) h22 dX8_spreads_97 rfl ?_
          obtain ⟨h23, hf⟩ := chk_some hf
          refine E_ialdM 99 (k := 11) (n := 20) rfl (by decide) h23 dX8_spreads_98 rfl ?_
          refine E_bipush 101 99 dX8_spreads_99 cst_bipush99 rfl ?_
          refine E_icmp_ne 120 104 dX8_spreads_101 (by decide) rfl (fun c24 => ?_) (fun c24 => ?_)
          · have hf := ite_e c24 hf
            refine E_sub [0, 1, 2, 3, 4, 5, 6] rfl ?_
            exact j_X8_spreads_J120 hl hb37 ih hx181 hf
          · have hf := ite_t c24 hf
            refine E_aload_n 105 0 dX8_spreads_104 rfl rfl rfl ?_
            refine E_getMr 108 fg_X8_45 dX8_spreads_105 rfl ?_
            refine E_aload_n 109 0 dX8_spreads_108 rfl rfl rfl ?_
            refine E_getMr 112 fg_X8_20 dX8_spreads_109 rfl ?_
            refine E_iload 114 6 dX8_spreads_112 rfl rfl ?_
            obtain ⟨h25, hf⟩ := chk_some hf
            refine E_ialdM 115 (k := 4) (n := 200) rfl (by decide) h25 dX8_spreads_114 rfl ?_
            refine E_iload 117 5 dX8_spreads_115 rfl rfl ?_
            refine E_iconst 118 1 dX8_spreads_117 cst_iconst1 rfl ?_
            refine E_iadd 119 dX8_spreads_118 rfl ?_
            obtain ⟨h26, hf⟩ := chk_some hf
            refine E_iastM 120 (k := 11) (n := 20) rfl (by decide) h26 dX8_spreads_119 rfl ?_
            refine E_sub [0, 1, 2, 3, 4, 5, 6] rfl ?_
            exact j_X8_spreads_J120 hl hb37 ih hx181 hf
      · have hf := ite_t c9 hf
        refine E_goto 175 dX8_spreads_67 (by decide) ?_
        refine E_iinc 178 [(7, .int (x7 + 1)), (0, .ref (gaM g 0)), (2, .int x2), (3, .int x3), (4, .int x4), (5, .int x5), (6, .int x6)] 6 (v := x7 + 1) dX8_spreads_175 rfl (by rw [cst_iconst1]) (by decide) rfl rfl ?_
        refine E_goto 49 dX8_spreads_178 (by decide) ?_
        refine E_sub [1, 2, 3, 4, 5, 6, 0] rfl ?_
        exact ih (x7 + 1) ν hf
set_option maxRecDepth 100000 in
set_option maxHeartbeats 4000000 in
theorem l_X8_spreads_L37 {l : Launch} {g : Gt} (hl : l.stackTraces = false) {μ : Mm} {o : Nat → Int64} {dd : Nat → UInt64}  {x2 : Int32} {x3 : Int32} {x4 : Int32} {x5 : Int32} {res : Mm} : ∀ (n : Nat) (x6 : Int32) (ν : Mm), f_X8_spreads_L37 x2 x3 x4 x5 n x6 ν = some res → E l g z_X8_spreads 37 [(0, .ref (gaM g 0)), (2, .int x2), (3, .int x3), (4, .int x4), (5, .int x5), (6, .int x6)] [] (μ, ν, o, dd) 0 (QM g (.inl none) (μ, res, o, dd) 0) := by
  intro n
  induction n with
  | zero => intro x6 ν hf; cases hf
  | succ n ih =>
    intro x6 ν hf
    refine E_iload 39 5 dX8_spreads_37 rfl rfl ?_
    refine E_aload_n 40 0 dX8_spreads_39 rfl rfl rfl ?_
    refine E_getM 43 fg_X8_85 dX8_spreads_40 rfl ?_
    refine E_icmp_ge 187 46 dX8_spreads_43 (by decide) rfl (fun c5 => ?_) (fun c5 => ?_)
    · have hf := ite_t c5 hf
      cases hf
      exact E_vret dX8_spreads_187 rfl (Nat.le_of_ble_eq_true rfl) (Nat.le_of_ble_eq_true rfl)
    · have hf := ite_e c5 hf
      refine E_iconst 47 0 dX8_spreads_46 cst_iconst0 rfl ?_
      refine E_istore 49 [(7, .int 0), (0, .ref (gaM g 0)), (2, .int x2), (3, .int x3), (4, .int x4), (5, .int x5), (6, .int x6)] dX8_spreads_47 (by decide) rfl rfl ?_
      refine E_sub [1, 2, 3, 4, 5, 6, 0] rfl ?_
      refine l_X8_spreads_L49 hl ih (fun m27 hf => ?_) _ _ _ hf
      · refine E_iinc 184 [(6, .int (x6 + 1)), (0, .ref (gaM g 0)), (2, .int x2), (3, .int x3), (4, .int x4), (5, .int x5)] 5 (v := x6 + 1) dX8_spreads_181 rfl (by rw [cst_iconst1]) (by decide) rfl rfl ?_
        refine E_goto 37 dX8_spreads_184 (by decide) ?_
        refine E_sub [1, 2, 3, 4, 5, 0] rfl ?_
        exact ih (x6 + 1) m27 hf
set_option maxRecDepth 100000 in
set_option maxHeartbeats 4000000 in
theorem c_X8_spreads {l : Launch} {g : Gt} (hl : l.stackTraces = false) {a1 : Int32} {a2 : Int32} {a3 : Int32} {a4 : Int32} {a5 : Int32} {μ : Mm} {ν : Mm} {o : Nat → Int64} {dd : Nat → UInt64} {res : Mm} (hf : f_X8_spreads a1 a2 a3 a4 a5 ν = some res) : CM l g z_X8_spreads yX8_spreads [.ref (gaM g 0), .int a1, .int a2, .int a3, .int a4, .int a5] (μ, ν, o, dd) 0 (.inl none) (μ, res, o, dd) := by
  unfold f_X8_spreads at hf
  refine CM_of_E rfl rfl (by decide +kernel) rfl (Nat.le_of_ble_eq_true rfl) hl ?_
  refine E_iconst 1 0 dX8_spreads_0 cst_iconst0 rfl ?_
  refine E_istore 3 [(6, .int 0), (0, .ref (gaM g 0)), (1, .int a1), (2, .int a2), (3, .int a3), (4, .int a4), (5, .int a5)] dX8_spreads_1 (by decide) rfl rfl ?_
  refine E_sub [1, 2, 3, 4, 5, 6, 0] rfl ?_
  refine l_X8_spreads_L3 hl (fun m3 hf => ?_) _ _ _ hf
  · refine E_aload_n 28 0 dX8_spreads_27 rfl rfl rfl ?_
    refine E_getMr 31 fg_X8_45 dX8_spreads_28 rfl ?_
    refine E_iload_n 32 1 dX8_spreads_31 rfl rfl rfl ?_
    refine E_iconst 33 0 dX8_spreads_32 cst_iconst0 rfl ?_
    obtain ⟨h4, hf⟩ := chk_some hf
    refine E_iastM 34 (k := 11) (n := 20) rfl (by decide) h4 dX8_spreads_33 rfl ?_
    refine E_iconst 35 0 dX8_spreads_34 cst_iconst0 rfl ?_
    refine E_istore 37 [(6, .int 0), (0, .ref (gaM g 0)), (1, .int a1), (2, .int a2), (3, .int a3), (4, .int a4), (5, .int a5)] dX8_spreads_35 (by decide) rfl rfl ?_
    refine E_sub [1, 3, 4, 5, 6, 0] rfl ?_
    refine l_X8_spreads_L37 hl  _ _ _ hf
set_option maxRecDepth 100000 in
set_option maxHeartbeats 4000000 in
theorem l_X8_toMarked_L26 {l : Launch} {g : Gt} (hl : l.stackTraces = false) {μ : Mm} {ν : Mm} {o : Nat → Int64} {dd : Nat → UInt64}  {x3 : Int32} {res : Int32 × Mm} : ∀ (n : Nat) (x4 : Int32) (x5 : Int32) , f_X8_toMarked_L26 x3 ν n x4 x5 = some res → E l g z_X8_toMarked 26 [(0, .ref (gaM g 0)), (3, .int x3), (4, .int x4), (5, .int x5)] [] (μ, ν, o, dd) 0 (QM g (.inl (some (.int res.1))) (μ, res.2, o, dd) 0) := by
  intro n
  induction n with
  | zero => intro x4 x5 hf; cases hf
  | succ n ih =>
    intro x4 x5 hf
    refine E_iload 28 3 dX8_toMarked_26 rfl rfl ?_
    refine E_aload_n 29 0 dX8_toMarked_28 rfl rfl rfl ?_
    refine E_getM 32 fg_X8_85 dX8_toMarked_29 rfl ?_
    refine E_icmp_ge 69 35 dX8_toMarked_32 (by decide) rfl (fun c5 => ?_) (fun c5 => ?_)
    · have hf := ite_t c5 hf
      refine E_iload 71 2 dX8_toMarked_69 rfl rfl ?_
      cases hf
      exact E_iret dX8_toMarked_71 rfl (Nat.le_of_ble_eq_true rfl) (Nat.le_of_ble_eq_true rfl)
    · have hf := ite_e c5 hf
      refine E_iload_n 36 1 dX8_toMarked_35 rfl rfl rfl ?_
      refine E_iload 38 3 dX8_toMarked_36 rfl rfl ?_
      obtain ⟨r6, hc7, hf⟩ := bnd hf
      refine E_callS1 41 0 [] [.int r6] (c_X8_has hl hc7) my_X8_has kl_X8_109 rfl rfl (Nat.le_of_ble_eq_true rfl) (rmok rfl) dX8_toMarked_38 rfl rfl rfl ?_
      refine E_if_eq 59 44 dX8_toMarked_41 (by decide) rfl (fun c8 => ?_) (fun c8 => ?_)
      · have hf := ite_t c8 hf
        refine E_iload 61 2 dX8_toMarked_59 rfl rfl ?_
        refine E_istore 63 [(4, .int x4), (0, .ref (gaM g 0)), (3, .int x3), (5, .int x5)] dX8_toMarked_61 (by decide) rfl rfl ?_
        refine E_iinc 66 [(5, .int (x5 + 1)), (4, .int x4), (0, .ref (gaM g 0)), (3, .int x3)] 3 (v := x5 + 1) dX8_toMarked_63 rfl (by rw [cst_iconst1]) (by decide) rfl rfl ?_
        refine E_goto 26 dX8_toMarked_66 (by decide) ?_
        refine E_sub [2, 3, 1, 0] rfl ?_
        exact ih x4 (x5 + 1) hf
      · have hf := ite_e c8 hf
        refine E_iload 46 2 dX8_toMarked_44 rfl rfl ?_
        refine E_aload_n 47 0 dX8_toMarked_46 rfl rfl rfl ?_
        refine E_getMr 50 fg_X8_45 dX8_toMarked_47 rfl ?_
        refine E_iload 52 3 dX8_toMarked_50 rfl rfl ?_
        obtain ⟨h9, hf⟩ := chk_some hf
        refine E_ialdM 53 (k := 11) (n := 20) rfl (by decide) h9 dX8_toMarked_52 rfl ?_
        refine E_mmin 56 mm_X8_min_147 (Nat.le_of_ble_eq_true rfl) (Nat.le_of_ble_eq_true rfl) (Nat.le_of_ble_eq_true rfl) (Nat.le_of_ble_eq_true rfl) dX8_toMarked_53 rfl ?_
        refine E_goto 61 dX8_toMarked_56 (by decide) ?_
        refine E_istore 63 [(4, .int ((if (ν 11 x5.toNatClampNeg : Int32) < x4 then ν 11 x5.toNatClampNeg else x4))), (0, .ref (gaM g 0)), (3, .int x3), (5, .int x5)] dX8_toMarked_61 (by decide) rfl rfl ?_
        refine E_iinc 66 [(5, .int (x5 + 1)), (4, .int ((if (ν 11 x5.toNatClampNeg : Int32) < x4 then ν 11 x5.toNatClampNeg else x4))), (0, .ref (gaM g 0)), (3, .int x3)] 3 (v := x5 + 1) dX8_toMarked_63 rfl (by rw [cst_iconst1]) (by decide) rfl rfl ?_
        refine E_goto 26 dX8_toMarked_66 (by decide) ?_
        refine E_sub [2, 3, 1, 0] rfl ?_
        exact ih (if (ν 11 x5.toNatClampNeg : Int32) < x4 then ν 11 x5.toNatClampNeg else x4) (x5 + 1) hf
set_option maxRecDepth 100000 in
set_option maxHeartbeats 4000000 in
theorem c_X8_toMarked {l : Launch} {g : Gt} (hl : l.stackTraces = false) {a1 : Int32} {a2 : Int32} {a3 : Int32} {μ : Mm} {ν : Mm} {o : Nat → Int64} {dd : Nat → UInt64} {res : Int32 × Mm} (hf : f_X8_toMarked a1 a2 a3 ν = some res) : CM l g z_X8_toMarked yX8_toMarked [.ref (gaM g 0), .int a1, .int a2, .int a3] (μ, ν, o, dd) 0 (.inl (some (.int res.1))) (μ, res.2, o, dd) := by
  unfold f_X8_toMarked at hf
  refine CM_of_E rfl rfl (by decide +kernel) rfl (Nat.le_of_ble_eq_true rfl) hl ?_
  refine E_aload_n 1 0 dX8_toMarked_0 rfl rfl rfl ?_
  refine E_aload_n 2 0 dX8_toMarked_1 rfl rfl rfl ?_
  refine E_getMr 5 fg_X8_20 dX8_toMarked_2 rfl ?_
  refine E_iload_n 6 1 dX8_toMarked_5 rfl rfl rfl ?_
  obtain ⟨h1, hf⟩ := chk_some hf
  refine E_ialdM 7 (k := 4) (n := 200) rfl (by decide) h1 dX8_toMarked_6 rfl ?_
  refine E_iload_n 8 1 dX8_toMarked_7 rfl rfl rfl ?_
  refine E_iload_n 9 2 dX8_toMarked_8 rfl rfl rfl ?_
  refine E_aload_n 10 0 dX8_toMarked_9 rfl rfl rfl ?_
  refine E_getMr 13 fg_X8_26 dX8_toMarked_10 rfl ?_
  refine E_iload_n 14 1 dX8_toMarked_13 rfl rfl rfl ?_
  obtain ⟨h2, hf⟩ := chk_some hf
  refine E_ialdM 15 (k := 6) (n := 200) rfl (by decide) h2 dX8_toMarked_14 rfl ?_
  refine E_iconst 16 1 dX8_toMarked_15 cst_iconst1 rfl ?_
  obtain ⟨r3, hc4, hf⟩ := bnd hf
  refine E_callVM1 19 0 [] [] (c_X8_spreads hl hc4) my_X8_spreads rc_X8 kl_X8_143 rfl rfl (Nat.le_of_ble_eq_true rfl) (rmok rfl) dX8_toMarked_16 rfl rfl rfl ?_
  refine E_bipush 21 99 dX8_toMarked_19 cst_bipush99 rfl ?_
  refine E_istore 23 [(4, .int 99), (0, .ref (gaM g 0)), (1, .int a1), (2, .int a2), (3, .int a3)] dX8_toMarked_21 (by decide) rfl rfl ?_
  refine E_iconst 24 0 dX8_toMarked_23 cst_iconst0 rfl ?_
  refine E_istore 26 [(5, .int 0), (4, .int 99), (0, .ref (gaM g 0)), (1, .int a1), (2, .int a2), (3, .int a3)] dX8_toMarked_24 (by decide) rfl rfl ?_
  refine E_sub [2, 5, 1, 0] rfl ?_
  refine l_X8_toMarked_L26 hl  _ _ _ hf
set_option maxRecDepth 100000 in
set_option maxHeartbeats 4000000 in
theorem c_X8_closing {l : Launch} {g : Gt} (hl : l.stackTraces = false) {a1 : Int32} {a2 : Int32} {μ : Mm} {ν : Mm} {o : Nat → Int64} {dd : Nat → UInt64} {res : Int32 × Mm} (hf : f_X8_closing a1 a2 ν = some res) : CM l g z_X8_closing yX8_closing [.ref (gaM g 0), .int a1, .int a2] (μ, ν, o, dd) 0 (.inl (some (.int res.1))) (μ, res.2, o, dd) := by
  unfold f_X8_closing at hf
  refine CM_of_E rfl rfl (by decide +kernel) rfl (Nat.le_of_ble_eq_true rfl) hl ?_
  refine E_aload_n 1 0 dX8_closing_0 rfl rfl rfl ?_
  refine E_aload_n 2 0 dX8_closing_1 rfl rfl rfl ?_
  refine E_getMr 5 fg_X8_20 dX8_closing_2 rfl ?_
  refine E_iload_n 6 1 dX8_closing_5 rfl rfl rfl ?_
  obtain ⟨h1, hf⟩ := chk_some hf
  refine E_ialdM 7 (k := 4) (n := 200) rfl (by decide) h1 dX8_closing_6 rfl ?_
  refine E_iload_n 8 1 dX8_closing_7 rfl rfl rfl ?_
  refine E_iload_n 9 2 dX8_closing_8 rfl rfl rfl ?_
  refine E_aload_n 10 0 dX8_closing_9 rfl rfl rfl ?_
  refine E_getMr 13 fg_X8_26 dX8_closing_10 rfl ?_
  refine E_iload_n 14 1 dX8_closing_13 rfl rfl rfl ?_
  obtain ⟨h2, hf⟩ := chk_some hf
  refine E_ialdM 15 (k := 6) (n := 200) rfl (by decide) h2 dX8_closing_14 rfl ?_
  refine E_iconst 16 0 dX8_closing_15 cst_iconst0 rfl ?_
  obtain ⟨r3, hc4, hf⟩ := bnd hf
  refine E_callVM1 19 0 [] [] (c_X8_spreads hl hc4) my_X8_spreads rc_X8 kl_X8_143 rfl rfl (Nat.le_of_ble_eq_true rfl) (rmok rfl) dX8_closing_16 rfl rfl rfl ?_
  refine E_aload_n 20 0 dX8_closing_19 rfl rfl rfl ?_
  refine E_getMr 23 fg_X8_45 dX8_closing_20 rfl ?_
  refine E_aload_n 24 0 dX8_closing_23 rfl rfl rfl ?_
  refine E_getMr 27 fg_X8_17 dX8_closing_24 rfl ?_
  refine E_iload_n 28 1 dX8_closing_27 rfl rfl rfl ?_
  obtain ⟨h5, hf⟩ := chk_some hf
  refine E_ialdM 29 (k := 3) (n := 200) rfl (by decide) h5 dX8_closing_28 rfl ?_
  obtain ⟨h6, hf⟩ := chk_some hf
  refine E_ialdM 30 (k := 11) (n := 20) rfl (by decide) h6 dX8_closing_29 rfl ?_
  refine E_bipush 32 99 dX8_closing_30 cst_bipush99 rfl ?_
  refine E_icmp_ne 39 35 dX8_closing_32 (by decide) rfl (fun c7 => ?_) (fun c7 => ?_)
  · have hf := ite_e c7 hf
    refine E_iconst 40 1 dX8_closing_39 cst_iconst1 rfl ?_
    refine E_aload_n 41 0 dX8_closing_40 rfl rfl rfl ?_
    refine E_getMr 44 fg_X8_45 dX8_closing_41 rfl ?_
    refine E_aload_n 45 0 dX8_closing_44 rfl rfl rfl ?_
    refine E_getMr 48 fg_X8_17 dX8_closing_45 rfl ?_
    refine E_iload_n 49 1 dX8_closing_48 rfl rfl rfl ?_
    obtain ⟨h8, hf⟩ := chk_some hf
    refine E_ialdM 50 (k := 3) (n := 200) rfl (by decide) h8 dX8_closing_49 rfl ?_
    obtain ⟨h9, hf⟩ := chk_some hf
    refine E_ialdM 51 (k := 11) (n := 20) rfl (by decide) h9 dX8_closing_50 rfl ?_
    refine E_iadd 52 dX8_closing_51 rfl ?_
    cases hf
    exact E_iret dX8_closing_52 rfl (Nat.le_of_ble_eq_true rfl) (Nat.le_of_ble_eq_true rfl)
  · have hf := ite_t c7 hf
    refine E_iconst 36 0 dX8_closing_35 cst_iconst0 rfl ?_
    refine E_goto 52 dX8_closing_36 (by decide) ?_
    cases hf
    exact E_iret dX8_closing_52 rfl (Nat.le_of_ble_eq_true rfl) (Nat.le_of_ble_eq_true rfl)
set_option maxRecDepth 100000 in
set_option maxHeartbeats 4000000 in
theorem l_X8_reached_L16 {l : Launch} {g : Gt} (hl : l.stackTraces = false) {μ : Mm} {ν : Mm} {o : Nat → Int64} {dd : Nat → UInt64}   {res : Int32 × Mm} : ∀ (n : Nat) (x5 : Int32) (x6 : Int32) , f_X8_reached_L16 ν n x5 x6 = some res → E l g z_X8_reached 16 [(0, .ref (gaM g 0)), (5, .int x5), (6, .int x6)] [] (μ, ν, o, dd) 0 (QM g (.inl (some (.int res.1))) (μ, res.2, o, dd) 0) := by
  intro n
  induction n with
  | zero => intro x5 x6 hf; cases hf
  | succ n ih =>
    intro x5 x6 hf
    refine E_iload 18 2 dX8_reached_16 rfl rfl ?_
    refine E_aload_n 19 0 dX8_reached_18 rfl rfl rfl ?_
    refine E_getM 22 fg_X8_85 dX8_reached_19 rfl ?_
    refine E_icmp_ge 53 25 dX8_reached_22 (by decide) rfl (fun c3 => ?_) (fun c3 => ?_)
    · have hf := ite_t c3 hf
      refine E_iload 55 1 dX8_reached_53 rfl rfl ?_
      cases hf
      exact E_iret dX8_reached_55 rfl (Nat.le_of_ble_eq_true rfl) (Nat.le_of_ble_eq_true rfl)
    · have hf := ite_e c3 hf
      refine E_iload 27 1 dX8_reached_25 rfl rfl ?_
      refine E_aload_n 28 0 dX8_reached_27 rfl rfl rfl ?_
      refine E_getMr 31 fg_X8_45 dX8_reached_28 rfl ?_
      refine E_iload 33 2 dX8_reached_31 rfl rfl ?_
      obtain ⟨h4, hf⟩ := chk_some hf
      refine E_ialdM 34 (k := 11) (n := 20) rfl (by decide) h4 dX8_reached_33 rfl ?_
      refine E_bipush 36 99 dX8_reached_34 cst_bipush99 rfl ?_
      refine E_icmp_ge 43 39 dX8_reached_36 (by decide) rfl (fun c5 => ?_) (fun c5 => ?_)
      · have hf := ite_t c5 hf
        refine E_iconst 44 0 dX8_reached_43 cst_iconst0 rfl ?_
        refine E_iadd 45 dX8_reached_44 rfl ?_
        refine E_istore 47 [(5, .int (x5 + 0)), (0, .ref (gaM g 0)), (6, .int x6)] dX8_reached_45 (by decide) rfl rfl ?_
        refine E_iinc 50 [(6, .int (x6 + 1)), (5, .int (x5 + 0)), (0, .ref (gaM g 0))] 2 (v := x6 + 1) dX8_reached_47 rfl (by rw [cst_iconst1]) (by decide) rfl rfl ?_
        refine E_goto 16 dX8_reached_50 (by decide) ?_
        refine E_sub [2, 1, 0] rfl ?_
        exact ih (x5 + 0) (x6 + 1) hf
      · have hf := ite_e c5 hf
        refine E_iconst 40 1 dX8_reached_39 cst_iconst1 rfl ?_
        refine E_goto 44 dX8_reached_40 (by decide) ?_
        refine E_iadd 45 dX8_reached_44 rfl ?_
        refine E_istore 47 [(5, .int (x5 + 1)), (0, .ref (gaM g 0)), (6, .int x6)] dX8_reached_45 (by decide) rfl rfl ?_
        refine E_iinc 50 [(6, .int (x6 + 1)), (5, .int (x5 + 1)), (0, .ref (gaM g 0))] 2 (v := x6 + 1) dX8_reached_47 rfl (by rw [cst_iconst1]) (by decide) rfl rfl ?_
        refine E_goto 16 dX8_reached_50 (by decide) ?_
        refine E_sub [2, 1, 0] rfl ?_
        exact ih (x5 + 1) (x6 + 1) hf
set_option maxRecDepth 100000 in
set_option maxHeartbeats 4000000 in
theorem c_X8_reached {l : Launch} {g : Gt} (hl : l.stackTraces = false) {a1 : Int32} {a2 : Int32} {a3 : Int32} {a4 : Int32} {μ : Mm} {ν : Mm} {o : Nat → Int64} {dd : Nat → UInt64} {res : Int32 × Mm} (hf : f_X8_reached a1 a2 a3 a4 ν = some res) : CM l g z_X8_reached yX8_reached [.ref (gaM g 0), .int a1, .int a2, .int a3, .int a4] (μ, ν, o, dd) 0 (.inl (some (.int res.1))) (μ, res.2, o, dd) := by
  unfold f_X8_reached at hf
  refine CM_of_E rfl rfl (by decide +kernel) rfl (Nat.le_of_ble_eq_true rfl) hl ?_
  refine E_aload_n 1 0 dX8_reached_0 rfl rfl rfl ?_
  refine E_iload_n 2 1 dX8_reached_1 rfl rfl rfl ?_
  refine E_iload_n 3 2 dX8_reached_2 rfl rfl rfl ?_
  refine E_iload_n 4 3 dX8_reached_3 rfl rfl rfl ?_
  refine E_iload 6 4 dX8_reached_4 rfl rfl ?_
  refine E_iconst 7 1 dX8_reached_6 cst_iconst1 rfl ?_
  obtain ⟨r1, hc2, hf⟩ := bnd hf
  refine E_callVM1 10 0 [] [] (c_X8_spreads hl hc2) my_X8_spreads rc_X8 kl_X8_143 rfl rfl (Nat.le_of_ble_eq_true rfl) (rmok rfl) dX8_reached_7 rfl rfl rfl ?_
  refine E_iconst 11 0 dX8_reached_10 cst_iconst0 rfl ?_
  refine E_istore 13 [(5, .int 0), (0, .ref (gaM g 0)), (1, .int a1), (2, .int a2), (3, .int a3), (4, .int a4)] dX8_reached_11 (by decide) rfl rfl ?_
  refine E_iconst 14 0 dX8_reached_13 cst_iconst0 rfl ?_
  refine E_istore 16 [(6, .int 0), (5, .int 0), (0, .ref (gaM g 0)), (1, .int a1), (2, .int a2), (3, .int a3), (4, .int a4)] dX8_reached_14 (by decide) rfl rfl ?_
  refine E_sub [2, 1, 0] rfl ?_
  refine l_X8_reached_L16 hl  _ _ _ hf
set_option maxRecDepth 100000 in
set_option maxHeartbeats 4000000 in
theorem l_X8_valueBy_L107 {l : Launch} {g : Gt} (hl : l.stackTraces = false) {μ : Mm} {ν : Mm} {o : Nat → Int64} {dd : Nat → UInt64} {kx168 : (Int32 → Int32 → Option (Int32 × Mm))} {x1 : Int32} {x2 : Int32} {res : Int32 × Mm} (hx168 : ∀ (w5 : Int32) (w6 : Int32), kx168 w5 w6 = some res → E l g z_X8_valueBy 168 [(0, .ref (gaM g 0)), (1, .int x1), (2, .int x2), (5, .int w5), (6, .int w6)] [] (μ, ν, o, dd) 0 (QM g (.inl (some (.int res.1))) (μ, res.2, o, dd) 0)) : ∀ (n : Nat) (x5 : Int32) (x6 : Int32) (x7 : Int32) , f_X8_valueBy_L107 kx168 x1 x2 ν n x5 x6 x7 = some res → E l g z_X8_valueBy 107 [(0, .ref (gaM g 0)), (1, .int x1), (2, .int x2), (5, .int x5), (6, .int x6), (7, .int x7)] [] (μ, ν, o, dd) 0 (QM g (.inl (some (.int res.1))) (μ, res.2, o, dd) 0) := by
  intro n
  induction n with
  | zero => intro x5 x6 x7 hf; cases hf
  | succ n ih =>
    intro x5 x6 x7 hf
    refine E_iload 109 5 dX8_valueBy_107 rfl rfl ?_
    refine E_iload_n 110 1 dX8_valueBy_109 rfl rfl rfl ?_
    refine E_icmp_ge 168 113 dX8_valueBy_110 (by decide) rfl (fun c6 => ?_) (fun c6 => ?_)
    · have hf := ite_t c6 hf
      refine E_sub [0, 1, 2, 3, 4] rfl ?_
      exact hx168 x5 x6 hf
    · have hf := ite_e c6 hf
      refine E_aload_n 114 0 dX8_valueBy_113 rfl rfl rfl ?_
      refine E_getMr 117 fg_X8_17 dX8_valueBy_114 rfl ?_
      refine E_iload 119 5 dX8_valueBy_117 rfl rfl ?_
      obtain ⟨h7, hf⟩ := chk_some hf
      refine E_ialdM 120 (k := 3) (n := 200) rfl (by decide) h7 dX8_valueBy_119 rfl ?_
      refine E_aload_n 121 0 dX8_valueBy_120 rfl rfl rfl ?_
      refine E_getMr 124 fg_X8_17 dX8_valueBy_121 rfl ?_
      refine E_iload_n 125 1 dX8_valueBy_124 rfl rfl rfl ?_
      obtain ⟨h8, hf⟩ := chk_some hf
      refine E_ialdM 126 (k := 3) (n := 200) rfl (by decide) h8 dX8_valueBy_125 rfl ?_
      refine E_icmp_eq 132 129 dX8_valueBy_126 (by decide) rfl (fun c9 => ?_) (fun c9 => ?_)
      · have hf := ite_t c9 hf
        refine E_iload 134 5 dX8_valueBy_132 rfl rfl ?_
        refine E_istore 136 [(5, .int x7), (0, .ref (gaM g 0)), (1, .int x1), (2, .int x2), (6, .int x6), (7, .int x7)] dX8_valueBy_134 (by decide) rfl rfl ?_
        refine E_iload 138 4 dX8_valueBy_136 rfl rfl ?_
        refine E_aload_n 139 1 dX8_valueBy_138 rfl rfl rfl ?_
        refine E_getMr 142 fg_X8_20 dX8_valueBy_139 rfl ?_
        refine E_iload 144 5 dX8_valueBy_142 rfl rfl ?_
        obtain ⟨h10, hf⟩ := chk_some hf
        refine E_ialdM 145 (k := 4) (n := 200) rfl (by decide) h10 dX8_valueBy_144 rfl ?_
        refine E_aload_n 146 1 dX8_valueBy_145 rfl rfl rfl ?_
        refine E_getMr 149 fg_X8_20 dX8_valueBy_146 rfl ?_
        refine E_iload_n 150 2 dX8_valueBy_149 rfl rfl rfl ?_
        obtain ⟨h11, hf⟩ := chk_some hf
        refine E_ialdM 151 (k := 4) (n := 200) rfl (by decide) h11 dX8_valueBy_150 rfl ?_
        refine E_icmp_eq 158 154 dX8_valueBy_151 (by decide) rfl (fun c12 => ?_) (fun c12 => ?_)
        · have hf := ite_t c12 hf
          refine E_iconst 159 0 dX8_valueBy_158 cst_iconst0 rfl ?_
          refine E_iand 160 dX8_valueBy_159 rfl ?_
          refine E_istore 162 [(6, .int (x6 &&& 0)), (5, .int x7), (0, .ref (gaM g 0)), (1, .int x1), (2, .int x2), (7, .int x7)] dX8_valueBy_160 (by decide) rfl rfl ?_
          refine E_iinc 165 [(7, .int (x7 + 1)), (6, .int (x6 &&& 0)), (5, .int x7), (0, .ref (gaM g 0)), (1, .int x1), (2, .int x2)] 5 (v := x7 + 1) dX8_valueBy_162 rfl (by rw [cst_iconst1]) (by decide) rfl rfl ?_
          refine E_goto 107 dX8_valueBy_165 (by decide) ?_
          refine E_sub [3, 4, 5, 2, 1, 0] rfl ?_
          exact ih x7 (x6 &&& 0) (x7 + 1) hf
        · have hf := ite_e c12 hf
          refine E_iconst 155 1 dX8_valueBy_154 cst_iconst1 rfl ?_
          refine E_goto 159 dX8_valueBy_155 (by decide) ?_
          refine E_iand 160 dX8_valueBy_159 rfl ?_
          refine E_istore 162 [(6, .int (x6 &&& 1)), (5, .int x7), (0, .ref (gaM g 0)), (1, .int x1), (2, .int x2), (7, .int x7)] dX8_valueBy_160 (by decide) rfl rfl ?_
          refine E_iinc 165 [(7, .int (x7 + 1)), (6, .int (x6 &&& 1)), (5, .int x7), (0, .ref (gaM g 0)), (1, .int x1), (2, .int x2)] 5 (v := x7 + 1) dX8_valueBy_162 rfl (by rw [cst_iconst1]) (by decide) rfl rfl ?_
          refine E_goto 107 dX8_valueBy_165 (by decide) ?_
          refine E_sub [3, 4, 5, 2, 1, 0] rfl ?_
          exact ih x7 (x6 &&& 1) (x7 + 1) hf
      · have hf := ite_e c9 hf
        refine E_goto 162 dX8_valueBy_129 (by decide) ?_
        refine E_iinc 165 [(7, .int (x7 + 1)), (0, .ref (gaM g 0)), (1, .int x1), (2, .int x2), (5, .int x5), (6, .int x6)] 5 (v := x7 + 1) dX8_valueBy_162 rfl (by rw [cst_iconst1]) (by decide) rfl rfl ?_
        refine E_goto 107 dX8_valueBy_165 (by decide) ?_
        refine E_sub [1, 2, 3, 4, 5, 0] rfl ?_
        exact ih x5 x6 (x7 + 1) hf
set_option maxRecDepth 100000 in
set_option maxHeartbeats 4000000 in
theorem c_X8_valueBy {l : Launch} {g : Gt} (hl : l.stackTraces = false) {a1 : Int32} {a2 : Int32} {a3 : Int32} {a4 : Int32} {μ : Mm} {ν : Mm} {o : Nat → Int64} {dd : Nat → UInt64} {res : Int32 × Mm} (hf : f_X8_valueBy a1 a2 a3 a4 ν = some res) : CM l g z_X8_valueBy yX8_valueBy [.ref (gaM g 0), .int a1, .int a2, .int a3, .int a4] (μ, ν, o, dd) 0 (.inl (some (.int res.1))) (μ, res.2, o, dd) := by
  unfold f_X8_valueBy at hf
  refine CM_of_E rfl rfl (by decide +kernel) rfl (Nat.le_of_ble_eq_true rfl) hl ?_
  refine E_iload_n 1 2 dX8_valueBy_0 rfl rfl rfl ?_
  refine E_bipush 3 103 dX8_valueBy_1 cst_bipush103 rfl ?_
  refine E_icmp_ne 25 6 dX8_valueBy_3 (by decide) rfl (fun c1 => ?_) (fun c1 => ?_)
  · have hf := ite_e c1 hf
    refine E_iload_n 26 2 dX8_valueBy_25 rfl rfl rfl ?_
    refine E_bipush 28 107 dX8_valueBy_26 cst_bipush107 rfl ?_
    refine E_icmp_ne 38 31 dX8_valueBy_28 (by decide) rfl (fun c2 => ?_) (fun c2 => ?_)
    · have hf := ite_e c2 hf
      refine E_iload_n 39 2 dX8_valueBy_38 rfl rfl rfl ?_
      refine E_bipush 41 100 dX8_valueBy_39 cst_bipush100 rfl ?_
      refine E_icmp_ne 53 44 dX8_valueBy_41 (by decide) rfl (fun c3 => ?_) (fun c3 => ?_)
      · have hf := ite_e c3 hf
        refine E_iload_n 54 2 dX8_valueBy_53 rfl rfl rfl ?_
        refine E_bipush 56 97 dX8_valueBy_54 cst_bipush97 rfl ?_
        refine E_icmp_ne 78 59 dX8_valueBy_56 (by decide) rfl (fun c4 => ?_) (fun c4 => ?_)
        · have hf := ite_e c4 hf
          refine E_iload_n 79 2 dX8_valueBy_78 rfl rfl rfl ?_
          refine E_bipush 81 102 dX8_valueBy_79 cst_bipush102 rfl ?_
          refine E_icmp_eq 98 84 dX8_valueBy_81 (by decide) rfl (fun c5 => ?_) (fun c5 => ?_)
          · have hf := ite_t c5 hf
            refine E_iconst 99 (-1) dX8_valueBy_98 cst_iconstn1 rfl ?_
            refine E_istore 101 [(5, .int ((-1))), (0, .ref (gaM g 0)), (1, .int a1), (2, .int a2), (3, .int a3), (4, .int a4)] dX8_valueBy_99 (by decide) rfl rfl ?_
            refine E_iconst 102 1 dX8_valueBy_101 cst_iconst1 rfl ?_
            refine E_istore 104 [(6, .int 1), (5, .int ((-1))), (0, .ref (gaM g 0)), (1, .int a1), (2, .int a2), (3, .int a3), (4, .int a4)] dX8_valueBy_102 (by decide) rfl rfl ?_
            refine E_iconst 105 0 dX8_valueBy_104 cst_iconst0 rfl ?_
            refine E_istore 107 [(7, .int 0), (6, .int 1), (5, .int ((-1))), (0, .ref (gaM g 0)), (1, .int a1), (2, .int a2), (3, .int a3), (4, .int a4)] dX8_valueBy_105 (by decide) rfl rfl ?_
            refine E_sub [3, 4, 5, 2, 1, 0] rfl ?_
            refine l_X8_valueBy_L107 hl (fun y13 y14 hf => ?_) _ _ _ _ hf
            · refine E_iload_n 169 2 dX8_valueBy_168 rfl rfl rfl ?_
              refine E_bipush 171 102 dX8_valueBy_169 cst_bipush102 rfl ?_
              refine E_icmp_ne 185 174 dX8_valueBy_171 (by decide) rfl (fun c15 => ?_) (fun c15 => ?_)
              · have hf := ite_e c15 hf
                refine E_iload 187 3 dX8_valueBy_185 rfl rfl ?_
                refine E_if_ge 195 190 dX8_valueBy_187 (by decide) rfl (fun c16 => ?_) (fun c16 => ?_)
                · have hf := ite_t c16 hf
                  refine E_aload_n 196 0 dX8_valueBy_195 rfl rfl rfl ?_
                  refine E_getMr 199 fg_X8_26 dX8_valueBy_196 rfl ?_
                  refine E_iload_n 200 1 dX8_valueBy_199 rfl rfl rfl ?_
                  obtain ⟨h17, hf⟩ := chk_some hf
                  refine E_ialdM 201 (k := 6) (n := 200) rfl (by decide) h17 dX8_valueBy_200 rfl ?_
                  refine E_aload_n 202 0 dX8_valueBy_201 rfl rfl rfl ?_
                  refine E_getMr 205 fg_X8_26 dX8_valueBy_202 rfl ?_
                  refine E_iload 207 3 dX8_valueBy_205 rfl rfl ?_
                  obtain ⟨h18, hf⟩ := chk_some hf
                  refine E_ialdM 208 (k := 6) (n := 200) rfl (by decide) h18 dX8_valueBy_207 rfl ?_
                  refine E_isub 209 dX8_valueBy_208 rfl ?_
                  cases hf
                  exact E_iret dX8_valueBy_209 rfl (Nat.le_of_ble_eq_true rfl) (Nat.le_of_ble_eq_true rfl)
                · have hf := ite_e c16 hf
                  refine E_ldc 192 kq_X8_168 dX8_valueBy_190 rfl ?_
                  refine E_goto 209 dX8_valueBy_192 (by decide) ?_
                  cases hf
                  exact E_iret dX8_valueBy_209 rfl (Nat.le_of_ble_eq_true rfl) (Nat.le_of_ble_eq_true rfl)
              · have hf := ite_t c15 hf
                refine E_iload 176 4 dX8_valueBy_174 rfl rfl ?_
                refine E_if_eq 183 179 dX8_valueBy_176 (by decide) rfl (fun c19 => ?_) (fun c19 => ?_)
                · have hf := ite_t c19 hf
                  refine E_iconst 184 0 dX8_valueBy_183 cst_iconst0 rfl ?_
                  cases hf
                  exact E_iret dX8_valueBy_184 rfl (Nat.le_of_ble_eq_true rfl) (Nat.le_of_ble_eq_true rfl)
                · have hf := ite_e c19 hf
                  refine E_iconst 180 1 dX8_valueBy_179 cst_iconst1 rfl ?_
                  refine E_goto 184 dX8_valueBy_180 (by decide) ?_
                  cases hf
                  exact E_iret dX8_valueBy_184 rfl (Nat.le_of_ble_eq_true rfl) (Nat.le_of_ble_eq_true rfl)
          · have hf := ite_e c5 hf
            refine E_iload_n 85 2 dX8_valueBy_84 rfl rfl rfl ?_
            refine E_bipush 87 113 dX8_valueBy_85 cst_bipush113 rfl ?_
            refine E_icmp_eq 98 90 dX8_valueBy_87 (by decide) rfl (fun c20 => ?_) (fun c20 => ?_)
            · have hf := ite_t c20 hf
              refine E_iconst 99 (-1) dX8_valueBy_98 cst_iconstn1 rfl ?_
              refine E_istore 101 [(5, .int ((-1))), (0, .ref (gaM g 0)), (1, .int a1), (2, .int a2), (3, .int a3), (4, .int a4)] dX8_valueBy_99 (by decide) rfl rfl ?_
              refine E_iconst 102 1 dX8_valueBy_101 cst_iconst1 rfl ?_
              refine E_istore 104 [(6, .int 1), (5, .int ((-1))), (0, .ref (gaM g 0)), (1, .int a1), (2, .int a2), (3, .int a3), (4, .int a4)] dX8_valueBy_102 (by decide) rfl rfl ?_
              refine E_iconst 105 0 dX8_valueBy_104 cst_iconst0 rfl ?_
              refine E_istore 107 [(7, .int 0), (6, .int 1), (5, .int ((-1))), (0, .ref (gaM g 0)), (1, .int a1), (2, .int a2), (3, .int a3), (4, .int a4)] dX8_valueBy_105 (by decide) rfl rfl ?_
              refine E_sub [3, 4, 5, 2, 1, 0] rfl ?_
              refine l_X8_valueBy_L107 hl (fun y21 y22 hf => ?_) _ _ _ _ hf
              · refine E_iload_n 169 2 dX8_valueBy_168 rfl rfl rfl ?_
                refine E_bipush 171 102 dX8_valueBy_169 cst_bipush102 rfl ?_
                refine E_icmp_ne 185 174 dX8_valueBy_171 (by decide) rfl (fun c23 => ?_) (fun c23 => ?_)
                · have hf := ite_e c23 hf
                  refine E_iload 187 3 dX8_valueBy_185 rfl rfl ?_
                  refine E_if_ge 195 190 dX8_valueBy_187 (by decide) rfl (fun c24 => ?_) (fun c24 => ?_)
                  · have hf := ite_t c24 hf
                    refine E_aload_n 196 0 dX8_valueBy_195 rfl rfl rfl ?_
                    refine E_getMr 199 fg_X8_26 dX8_valueBy_196 rfl ?_
                    refine E_iload_n 200 1 dX8_valueBy_199 rfl rfl rfl ?_
                    obtain ⟨h25, hf⟩ := chk_some hf
                    refine E_ialdM 201 (k := 6) (n := 200) rfl (by decide) h25 dX8_valueBy_200 rfl ?_
                    refine E_aload_n 202 0 dX8_valueBy_201 rfl rfl rfl ?_
                    refine E_getMr 205 fg_X8_26 dX8_valueBy_202 rfl ?_
                    refine E_iload 207 3 dX8_valueBy_205 rfl rfl ?_
                    obtain ⟨h26, hf⟩ := chk_some hf
                    refine E_ialdM 208 (k := 6) (n := 200) rfl (by decide) h26 dX8_valueBy_207 rfl ?_
                    refine E_isub 209 dX8_valueBy_208 rfl ?_
                    cases hf
                    exact E_iret dX8_valueBy_209 rfl (Nat.le_of_ble_eq_true rfl) (Nat.le_of_ble_eq_true rfl)
                  · have hf := ite_e c24 hf
                    refine E_ldc 192 kq_X8_168 dX8_valueBy_190 rfl ?_
                    refine E_goto 209 dX8_valueBy_192 (by decide) ?_
                    cases hf
                    exact E_iret dX8_valueBy_209 rfl (Nat.le_of_ble_eq_true rfl) (Nat.le_of_ble_eq_true rfl)
                · have hf := ite_t c23 hf
                  refine E_iload 176 4 dX8_valueBy_174 rfl rfl ?_
                  refine E_if_eq 183 179 dX8_valueBy_176 (by decide) rfl (fun c27 => ?_) (fun c27 => ?_)
                  · have hf := ite_t c27 hf
                    refine E_iconst 184 0 dX8_valueBy_183 cst_iconst0 rfl ?_
                    cases hf
                    exact E_iret dX8_valueBy_184 rfl (Nat.le_of_ble_eq_true rfl) (Nat.le_of_ble_eq_true rfl)
                  · have hf := ite_e c27 hf
                    refine E_iconst 180 1 dX8_valueBy_179 cst_iconst1 rfl ?_
                    refine E_goto 184 dX8_valueBy_180 (by decide) ?_
                    cases hf
                    exact E_iret dX8_valueBy_184 rfl (Nat.le_of_ble_eq_true rfl) (Nat.le_of_ble_eq_true rfl)
            · have hf := ite_e c20 hf
              refine E_aload_n 91 0 dX8_valueBy_90 rfl rfl rfl ?_
              refine E_iload_n 92 1 dX8_valueBy_91 rfl rfl rfl ?_
              refine E_iload_n 93 2 dX8_valueBy_92 rfl rfl rfl ?_
              refine E_iload_n 94 3 dX8_valueBy_93 rfl rfl rfl ?_
              obtain ⟨r28, hc29, hf⟩ := bnd hf
              refine E_callVM1 97 0 [] [.int r28] (c_X8_gathered hl hc29) my_X8_gathered rc_X8 kl_X8_165 rfl rfl (Nat.le_of_ble_eq_true rfl) (rmok rfl) dX8_valueBy_94 rfl rfl rfl ?_
              cases hf
              exact E_iret dX8_valueBy_97 rfl (Nat.le_of_ble_eq_true rfl) (Nat.le_of_ble_eq_true rfl)
        · have hf := ite_t c4 hf
          refine E_aload_n 60 0 dX8_valueBy_59 rfl rfl rfl ?_
          refine E_getMr 63 fg_X8_26 dX8_valueBy_60 rfl ?_
          refine E_iload_n 64 1 dX8_valueBy_63 rfl rfl rfl ?_
          obtain ⟨h30, hf⟩ := chk_some hf
          refine E_ialdM 65 (k := 6) (n := 200) rfl (by decide) h30 dX8_valueBy_64 rfl ?_
          refine E_aload_n 66 0 dX8_valueBy_65 rfl rfl rfl ?_
          refine E_getMr 69 fg_X8_13 dX8_valueBy_66 rfl ?_
          refine E_aload_n 70 0 dX8_valueBy_69 rfl rfl rfl ?_
          refine E_getMr 73 fg_X8_17 dX8_valueBy_70 rfl ?_
          refine E_iload_n 74 1 dX8_valueBy_73 rfl rfl rfl ?_
          obtain ⟨h31, hf⟩ := chk_some hf
          refine E_ialdM 75 (k := 3) (n := 200) rfl (by decide) h31 dX8_valueBy_74 rfl ?_
          obtain ⟨h32, hf⟩ := chk_some hf
          refine E_ialdM 76 (k := 2) (n := 20) rfl (by decide) h32 dX8_valueBy_75 rfl ?_
          refine E_isub 77 dX8_valueBy_76 rfl ?_
          cases hf
          exact E_iret dX8_valueBy_77 rfl (Nat.le_of_ble_eq_true rfl) (Nat.le_of_ble_eq_true rfl)
      · have hf := ite_t c3 hf
        refine E_aload_n 45 0 dX8_valueBy_44 rfl rfl rfl ?_
        refine E_iload_n 46 1 dX8_valueBy_45 rfl rfl rfl ?_
        refine E_iload_n 47 3 dX8_valueBy_46 rfl rfl rfl ?_
        refine E_iload 49 4 dX8_valueBy_47 rfl rfl ?_
        obtain ⟨r33, hc34, hf⟩ := bnd hf
        refine E_callVM1 52 0 [] [.int r33.1] (c_X8_toMarked hl hc34) my_X8_toMarked rc_X8 kl_X8_162 rfl rfl (Nat.le_of_ble_eq_true rfl) (rmok rfl) dX8_valueBy_49 rfl rfl rfl ?_
        cases hf
        exact E_iret dX8_valueBy_52 rfl (Nat.le_of_ble_eq_true rfl) (Nat.le_of_ble_eq_true rfl)
    · have hf := ite_t c2 hf
      refine E_aload_n 32 0 dX8_valueBy_31 rfl rfl rfl ?_
      refine E_iload_n 33 1 dX8_valueBy_32 rfl rfl rfl ?_
      refine E_iload_n 34 3 dX8_valueBy_33 rfl rfl rfl ?_
      obtain ⟨r35, hc36, hf⟩ := bnd hf
      refine E_callVM1 37 0 [] [.int r35.1] (c_X8_closing hl hc36) my_X8_closing rc_X8 kl_X8_159 rfl rfl (Nat.le_of_ble_eq_true rfl) (rmok rfl) dX8_valueBy_34 rfl rfl rfl ?_
      cases hf
      exact E_iret dX8_valueBy_37 rfl (Nat.le_of_ble_eq_true rfl) (Nat.le_of_ble_eq_true rfl)
  · have hf := ite_t c1 hf
    refine E_aload_n 7 0 dX8_valueBy_6 rfl rfl rfl ?_
    refine E_aload_n 8 0 dX8_valueBy_7 rfl rfl rfl ?_
    refine E_getMr 11 fg_X8_17 dX8_valueBy_8 rfl ?_
    refine E_iload_n 12 1 dX8_valueBy_11 rfl rfl rfl ?_
    obtain ⟨h37, hf⟩ := chk_some hf
    refine E_ialdM 13 (k := 3) (n := 200) rfl (by decide) h37 dX8_valueBy_12 rfl ?_
    refine E_iload_n 14 1 dX8_valueBy_13 rfl rfl rfl ?_
    refine E_iload_n 15 3 dX8_valueBy_14 rfl rfl rfl ?_
    refine E_aload_n 16 0 dX8_valueBy_15 rfl rfl rfl ?_
    refine E_getMr 19 fg_X8_26 dX8_valueBy_16 rfl ?_
    refine E_iload_n 20 1 dX8_valueBy_19 rfl rfl rfl ?_
    obtain ⟨h38, hf⟩ := chk_some hf
    refine E_ialdM 21 (k := 6) (n := 200) rfl (by decide) h38 dX8_valueBy_20 rfl ?_
    obtain ⟨r39, hc40, hf⟩ := bnd hf
    refine E_callVM1 24 0 [] [.int r39.1] (c_X8_reached hl hc40) my_X8_reached rc_X8 kl_X8_155 rfl rfl (Nat.le_of_ble_eq_true rfl) (rmok rfl) dX8_valueBy_21 rfl rfl rfl ?_
    cases hf
    exact E_iret dX8_valueBy_24 rfl (Nat.le_of_ble_eq_true rfl) (Nat.le_of_ble_eq_true rfl)
set_option maxRecDepth 100000 in
set_option maxHeartbeats 4000000 in
theorem rmrec_X8_valueBy (d : Nat) : RmOk z_X8_valueBy (z_X8_isTrue (d + 1)) 0 0 := ⟨rfl, rfl, (by show 3 + 1 ≤ 4 + (d + 1); omega), (by show 8 + (8 + 11) + 76 ≤ 103 + 40 * (d + 1); omega), Nat.le_refl _, Nat.le_refl _⟩
set_option maxRecDepth 100000 in
set_option maxHeartbeats 4000000 in
theorem rmrec_self_X8_isTrue (d : Nat) : RmOk (z_X8_isTrue d) (z_X8_isTrue (d + 1)) 0 0 := ⟨rfl, rfl, (by show 4 + d + 1 ≤ 4 + (d + 1); omega), (by show 8 + (5 + 11) + (103 + 40 * d) ≤ 103 + 40 * (d + 1); omega), Nat.le_refl _, Nat.le_refl _⟩
set_option maxRecDepth 100000 in
set_option maxHeartbeats 4000000 in
theorem c_X8_isTrue {l : Launch} {g : Gt} (hl : l.stackTraces = false) : ∀ (d : Nat) {a1 : Int32} {a2 : Int32} {a3 : Int32} {μ : Mm} {ν : Mm} {o : Nat → Int64} {dd : Nat → UInt64} {res : Int32 × Mm} (hf : f_X8_isTrue d a1 a2 a3 ν = some res), CM l g (z_X8_isTrue d) yX8_isTrue [.ref (gaM g 0), .int a1, .int a2, .int a3] (μ, ν, o, dd) 0 (.inl (some (.int res.1))) (μ, res.2, o, dd) := by
  intro d
  induction d with
  | zero => intros; rename_i hf; cases hf
  | succ d ih0 =>
    intro a1 a2 a3 μ ν o dd res hf
    unfold f_X8_isTrue at hf
    refine CM_of_E rfl rfl (by decide +kernel) rfl (Nat.le_of_ble_eq_true rfl) hl ?_
    refine E_aload_n 1 0 dX8_isTrue_0 rfl rfl rfl ?_
    refine E_getMr 4 fg_X8_48 dX8_isTrue_1 rfl ?_
    refine E_iload_n 5 1 dX8_isTrue_4 rfl rfl rfl ?_
    obtain ⟨h1, hf⟩ := chk_some hf
    refine E_ialdM 6 (k := 12) (n := 30) rfl (by decide) h1 dX8_isTrue_5 rfl ?_
    refine E_iconst 7 3 dX8_isTrue_6 cst_iconst3 rfl ?_
    refine E_icmp_ne 31 10 dX8_isTrue_7 (by decide) rfl (fun c2 => ?_) (fun c2 => ?_)
    · have hf := ite_e c2 hf
      refine E_aload_n 32 0 dX8_isTrue_31 rfl rfl rfl ?_
      refine E_getMr 35 fg_X8_48 dX8_isTrue_32 rfl ?_
      refine E_iload_n 36 1 dX8_isTrue_35 rfl rfl rfl ?_
      obtain ⟨h3, hf⟩ := chk_some hf
      refine E_ialdM 37 (k := 12) (n := 30) rfl (by decide) h3 dX8_isTrue_36 rfl ?_
      refine E_iconst 38 1 dX8_isTrue_37 cst_iconst1 rfl ?_
      refine E_icmp_ne 77 41 dX8_isTrue_38 (by decide) rfl (fun c4 => ?_) (fun c4 => ?_)
      · have hf := ite_e c4 hf
        refine E_aload_n 78 0 dX8_isTrue_77 rfl rfl rfl ?_
        refine E_getMr 81 fg_X8_48 dX8_isTrue_78 rfl ?_
        refine E_iload_n 82 1 dX8_isTrue_81 rfl rfl rfl ?_
        obtain ⟨h5, hf⟩ := chk_some hf
        refine E_ialdM 83 (k := 12) (n := 30) rfl (by decide) h5 dX8_isTrue_82 rfl ?_
        refine E_iconst 84 2 dX8_isTrue_83 cst_iconst2 rfl ?_
        refine E_icmp_ne 123 87 dX8_isTrue_84 (by decide) rfl (fun c6 => ?_) (fun c6 => ?_)
        · have hf := ite_e c6 hf
          refine E_aload_n 124 0 dX8_isTrue_123 rfl rfl rfl ?_
          refine E_iload_n 125 2 dX8_isTrue_124 rfl rfl rfl ?_
          refine E_aload_n 126 0 dX8_isTrue_125 rfl rfl rfl ?_
          refine E_getMr 129 fg_X8_66 dX8_isTrue_126 rfl ?_
          refine E_iload_n 130 1 dX8_isTrue_129 rfl rfl rfl ?_
          obtain ⟨h7, hf⟩ := chk_some hf
          refine E_caldM 131 (k := 18) (n := 30) rfl (by decide) h7 dX8_isTrue_130 rfl ?_
          refine E_aload_n 132 0 dX8_isTrue_131 rfl rfl rfl ?_
          refine E_getMr 135 fg_X8_60 dX8_isTrue_132 rfl ?_
          refine E_iload_n 136 1 dX8_isTrue_135 rfl rfl rfl ?_
          obtain ⟨h8, hf⟩ := chk_some hf
          refine E_ialdM 137 (k := 16) (n := 30) rfl (by decide) h8 dX8_isTrue_136 rfl ?_
          refine E_iload_n 138 3 dX8_isTrue_137 rfl rfl rfl ?_
          obtain ⟨r9, hc10, hf⟩ := bnd hf
          refine E_callVM1 141 0 [] [.int r9.1] (c_X8_valueBy hl hc10) my_X8_valueBy rc_X8 kl_X8_172 rfl rfl (Nat.le_of_ble_eq_true rfl) (rmrec_X8_valueBy d) dX8_isTrue_138 rfl rfl rfl ?_
          refine E_istore 143 [(4, .int r9.1), (0, .ref (gaM g 0)), (1, .int a1), (2, .int a2), (3, .int a3)] dX8_isTrue_141 (Nat.le_of_ble_eq_true rfl) rfl rfl ?_
          refine E_aload_n 144 1 dX8_isTrue_143 rfl rfl rfl ?_
          refine E_getMr 147 fg_X8_69 dX8_isTrue_144 rfl ?_
          refine E_iload_n 148 2 dX8_isTrue_147 rfl rfl rfl ?_
          obtain ⟨h11, hf⟩ := chk_some hf
          refine E_zaldM 149 (k := 19) (n := 30) rfl (by decide) h11 dX8_isTrue_148 rfl ?_
          refine E_if_eq 171 152 dX8_isTrue_149 (by decide) rfl (fun c12 => ?_) (fun c12 => ?_)
          · have hf := ite_t c12 hf
            refine E_iload 173 0 dX8_isTrue_171 rfl rfl ?_
            refine E_aload_n 174 1 dX8_isTrue_173 rfl rfl rfl ?_
            refine E_getMr 177 fg_X8_63 dX8_isTrue_174 rfl ?_
            refine E_iload_n 178 2 dX8_isTrue_177 rfl rfl rfl ?_
            obtain ⟨h13, hf⟩ := chk_some hf
            refine E_ialdM 179 (k := 17) (n := 30) rfl (by decide) h13 dX8_isTrue_178 rfl ?_
            refine E_icmp_gt 186 182 dX8_isTrue_179 (by decide) rfl (fun c14 => ?_) (fun c14 => ?_)
            · have hf := ite_t c14 hf
              refine E_iconst 187 0 dX8_isTrue_186 cst_iconst0 rfl ?_
              cases hf
              exact E_zret (v := 0) rfl dX8_isTrue_187 rfl (Nat.le_of_ble_eq_true rfl) (Nat.le_of_ble_eq_true rfl)
            · have hf := ite_e c14 hf
              refine E_iconst 183 1 dX8_isTrue_182 cst_iconst1 rfl ?_
              refine E_goto 187 dX8_isTrue_183 (by decide) ?_
              cases hf
              exact E_zret (v := 1) rfl dX8_isTrue_187 rfl (Nat.le_of_ble_eq_true rfl) (Nat.le_of_ble_eq_true rfl)
          · have hf := ite_e c12 hf
            refine E_iload 154 0 dX8_isTrue_152 rfl rfl ?_
            refine E_aload_n 155 1 dX8_isTrue_154 rfl rfl rfl ?_
            refine E_getMr 158 fg_X8_63 dX8_isTrue_155 rfl ?_
            refine E_iload_n 159 2 dX8_isTrue_158 rfl rfl rfl ?_
            obtain ⟨h15, hf⟩ := chk_some hf
            refine E_ialdM 160 (k := 17) (n := 30) rfl (by decide) h15 dX8_isTrue_159 rfl ?_
            refine E_icmp_lt 167 163 dX8_isTrue_160 (by decide) rfl (fun c16 => ?_) (fun c16 => ?_)
            · have hf := ite_t c16 hf
              refine E_iconst 168 0 dX8_isTrue_167 cst_iconst0 rfl ?_
              refine E_goto 187 dX8_isTrue_168 (by decide) ?_
              cases hf
              exact E_zret (v := 0) rfl dX8_isTrue_187 rfl (Nat.le_of_ble_eq_true rfl) (Nat.le_of_ble_eq_true rfl)
            · have hf := ite_e c16 hf
              refine E_iconst 164 1 dX8_isTrue_163 cst_iconst1 rfl ?_
              refine E_goto 187 dX8_isTrue_164 (by decide) ?_
              cases hf
              exact E_zret (v := 1) rfl dX8_isTrue_187 rfl (Nat.le_of_ble_eq_true rfl) (Nat.le_of_ble_eq_true rfl)
        · have hf := ite_t c6 hf
          refine E_aload_n 88 0 dX8_isTrue_87 rfl rfl rfl ?_
          refine E_aload_n 89 0 dX8_isTrue_88 rfl rfl rfl ?_
          refine E_getMr 92 fg_X8_51 dX8_isTrue_89 rfl ?_
          refine E_iload_n 93 1 dX8_isTrue_92 rfl rfl rfl ?_
          obtain ⟨h17, hf⟩ := chk_some hf
          refine E_ialdM 94 (k := 13) (n := 30) rfl (by decide) h17 dX8_isTrue_93 rfl ?_
          refine E_iload_n 95 2 dX8_isTrue_94 rfl rfl rfl ?_
          refine E_iload_n 96 3 dX8_isTrue_95 rfl rfl rfl ?_
          obtain ⟨r18, hc19, hf⟩ := bnd hf
          refine E_callVM1 99 0 [] [.int r18.1] (ih0 hc19) (my_X8_isTrue d) rc_X8 kl_X8_184 rfl rfl (Nat.le_of_ble_eq_true rfl) (rmrec_self_X8_isTrue d) dX8_isTrue_96 rfl rfl rfl ?_
          refine E_if_ne 117 102 dX8_isTrue_99 (by decide) rfl (fun c20 => ?_) (fun c20 => ?_)
          · have hf := ite_e c20 hf
            refine E_iconst 118 1 dX8_isTrue_117 cst_iconst1 rfl ?_
            refine E_goto 122 dX8_isTrue_118 (by decide) ?_
            cases hf
            exact E_zret (v := 1) rfl dX8_isTrue_122 rfl (Nat.le_of_ble_eq_true rfl) (Nat.le_of_ble_eq_true rfl)
          · have hf := ite_t c20 hf
            refine E_aload_n 103 0 dX8_isTrue_102 rfl rfl rfl ?_
            refine E_aload_n 104 0 dX8_isTrue_103 rfl rfl rfl ?_
            refine E_getMr 107 fg_X8_54 dX8_isTrue_104 rfl ?_
            refine E_iload_n 108 1 dX8_isTrue_107 rfl rfl rfl ?_
            obtain ⟨h21, hf⟩ := chk_some hf
            refine E_ialdM 109 (k := 14) (n := 30) rfl (by decide) h21 dX8_isTrue_108 rfl ?_
            refine E_iload_n 110 2 dX8_isTrue_109 rfl rfl rfl ?_
            refine E_iload_n 111 3 dX8_isTrue_110 rfl rfl rfl ?_
            obtain ⟨r22, hc23, hf⟩ := bnd hf
            refine E_callVM1 114 0 [] [.int r22.1] (ih0 hc23) (my_X8_isTrue d) rc_X8 kl_X8_184 rfl rfl (Nat.le_of_ble_eq_true rfl) (rmrec_self_X8_isTrue d) dX8_isTrue_111 rfl rfl rfl ?_
            refine E_if_eq 121 117 dX8_isTrue_114 (by decide) rfl (fun c24 => ?_) (fun c24 => ?_)
            · have hf := ite_t c24 hf
              refine E_iconst 122 0 dX8_isTrue_121 cst_iconst0 rfl ?_
              cases hf
              exact E_zret (v := 0) rfl dX8_isTrue_122 rfl (Nat.le_of_ble_eq_true rfl) (Nat.le_of_ble_eq_true rfl)
            · have hf := ite_e c24 hf
              refine E_iconst 118 1 dX8_isTrue_117 cst_iconst1 rfl ?_
              refine E_goto 122 dX8_isTrue_118 (by decide) ?_
              cases hf
              exact E_zret (v := 1) rfl dX8_isTrue_122 rfl (Nat.le_of_ble_eq_true rfl) (Nat.le_of_ble_eq_true rfl)
      · have hf := ite_t c4 hf
        refine E_aload_n 42 0 dX8_isTrue_41 rfl rfl rfl ?_
        refine E_aload_n 43 0 dX8_isTrue_42 rfl rfl rfl ?_
        refine E_getMr 46 fg_X8_51 dX8_isTrue_43 rfl ?_
        refine E_iload_n 47 1 dX8_isTrue_46 rfl rfl rfl ?_
        obtain ⟨h25, hf⟩ := chk_some hf
        refine E_ialdM 48 (k := 13) (n := 30) rfl (by decide) h25 dX8_isTrue_47 rfl ?_
        refine E_iload_n 49 2 dX8_isTrue_48 rfl rfl rfl ?_
        refine E_iload_n 50 3 dX8_isTrue_49 rfl rfl rfl ?_
        obtain ⟨r26, hc27, hf⟩ := bnd hf
        refine E_callVM1 53 0 [] [.int r26.1] (ih0 hc27) (my_X8_isTrue d) rc_X8 kl_X8_184 rfl rfl (Nat.le_of_ble_eq_true rfl) (rmrec_self_X8_isTrue d) dX8_isTrue_50 rfl rfl rfl ?_
        refine E_if_eq 75 56 dX8_isTrue_53 (by decide) rfl (fun c28 => ?_) (fun c28 => ?_)
        · have hf := ite_t c28 hf
          refine E_iconst 76 0 dX8_isTrue_75 cst_iconst0 rfl ?_
          cases hf
          exact E_zret (v := 0) rfl dX8_isTrue_76 rfl (Nat.le_of_ble_eq_true rfl) (Nat.le_of_ble_eq_true rfl)
        · have hf := ite_e c28 hf
          refine E_aload_n 57 0 dX8_isTrue_56 rfl rfl rfl ?_
          refine E_aload_n 58 0 dX8_isTrue_57 rfl rfl rfl ?_
          refine E_getMr 61 fg_X8_54 dX8_isTrue_58 rfl ?_
          refine E_iload_n 62 1 dX8_isTrue_61 rfl rfl rfl ?_
          obtain ⟨h29, hf⟩ := chk_some hf
          refine E_ialdM 63 (k := 14) (n := 30) rfl (by decide) h29 dX8_isTrue_62 rfl ?_
          refine E_iload_n 64 2 dX8_isTrue_63 rfl rfl rfl ?_
          refine E_iload_n 65 3 dX8_isTrue_64 rfl rfl rfl ?_
          obtain ⟨r30, hc31, hf⟩ := bnd hf
          refine E_callVM1 68 0 [] [.int r30.1] (ih0 hc31) (my_X8_isTrue d) rc_X8 kl_X8_184 rfl rfl (Nat.le_of_ble_eq_true rfl) (rmrec_self_X8_isTrue d) dX8_isTrue_65 rfl rfl rfl ?_
          refine E_if_eq 75 71 dX8_isTrue_68 (by decide) rfl (fun c32 => ?_) (fun c32 => ?_)
          · have hf := ite_t c32 hf
            refine E_iconst 76 0 dX8_isTrue_75 cst_iconst0 rfl ?_
            cases hf
            exact E_zret (v := 0) rfl dX8_isTrue_76 rfl (Nat.le_of_ble_eq_true rfl) (Nat.le_of_ble_eq_true rfl)
          · have hf := ite_e c32 hf
            refine E_iconst 72 1 dX8_isTrue_71 cst_iconst1 rfl ?_
            refine E_goto 76 dX8_isTrue_72 (by decide) ?_
            cases hf
            exact E_zret (v := 1) rfl dX8_isTrue_76 rfl (Nat.le_of_ble_eq_true rfl) (Nat.le_of_ble_eq_true rfl)
    · have hf := ite_t c2 hf
      refine E_aload_n 11 0 dX8_isTrue_10 rfl rfl rfl ?_
      refine E_aload_n 12 0 dX8_isTrue_11 rfl rfl rfl ?_
      refine E_getMr 15 fg_X8_51 dX8_isTrue_12 rfl ?_
      refine E_iload_n 16 1 dX8_isTrue_15 rfl rfl rfl ?_
      obtain ⟨h33, hf⟩ := chk_some hf
      refine E_ialdM 17 (k := 13) (n := 30) rfl (by decide) h33 dX8_isTrue_16 rfl ?_
      refine E_iload_n 18 2 dX8_isTrue_17 rfl rfl rfl ?_
      refine E_iload_n 19 3 dX8_isTrue_18 rfl rfl rfl ?_
      obtain ⟨r34, hc35, hf⟩ := bnd hf
      refine E_callVM1 22 0 [] [.int r34.1] (ih0 hc35) (my_X8_isTrue d) rc_X8 kl_X8_184 rfl rfl (Nat.le_of_ble_eq_true rfl) (rmrec_self_X8_isTrue d) dX8_isTrue_19 rfl rfl rfl ?_
      refine E_if_ne 29 25 dX8_isTrue_22 (by decide) rfl (fun c36 => ?_) (fun c36 => ?_)
      · have hf := ite_e c36 hf
        refine E_iconst 30 0 dX8_isTrue_29 cst_iconst0 rfl ?_
        cases hf
        exact E_zret (v := 0) rfl dX8_isTrue_30 rfl (Nat.le_of_ble_eq_true rfl) (Nat.le_of_ble_eq_true rfl)
      · have hf := ite_t c36 hf
        refine E_iconst 26 1 dX8_isTrue_25 cst_iconst1 rfl ?_
        refine E_goto 30 dX8_isTrue_26 (by decide) ?_
        cases hf
        exact E_zret (v := 1) rfl dX8_isTrue_30 rfl (Nat.le_of_ble_eq_true rfl) (Nat.le_of_ble_eq_true rfl)
set_option maxRecDepth 100000 in
set_option maxHeartbeats 4000000 in
theorem c_X8_isReason {l : Launch} {g : Gt} (hl : l.stackTraces = false) {a1 : Int32} {a2 : Int32} {a3 : Int32} {a4 : Int32} {μ : Mm} {ν : Mm} {o : Nat → Int64} {dd : Nat → UInt64} {res : Int32 × Mm} (hf : f_X8_isReason a1 a2 a3 a4 ν = some res) : CM l g z_X8_isReason yX8_isReason [.ref (gaM g 0), .int a1, .int a2, .int a3, .int a4] (μ, ν, o, dd) 0 (.inl (some (.int res.1))) (μ, res.2, o, dd) := by
  unfold f_X8_isReason at hf
  refine CM_of_E rfl rfl (by decide +kernel) rfl (Nat.le_of_ble_eq_true rfl) hl ?_
  refine E_iload_n 1 3 dX8_isReason_0 rfl rfl rfl ?_
  refine E_iload_n 2 1 dX8_isReason_1 rfl rfl rfl ?_
  obtain ⟨r1, hc2, hf⟩ := bnd hf
  refine E_callS1 5 0 [] [.int r1] (c_X8_has hl hc2) my_X8_has kl_X8_109 rfl rfl (Nat.le_of_ble_eq_true rfl) (rmok rfl) dX8_isReason_2 rfl rfl rfl ?_
  refine E_if_eq 28 8 dX8_isReason_5 (by decide) rfl (fun c3 => ?_) (fun c3 => ?_)
  · have hf := ite_t c3 hf
    refine E_iconst 29 0 dX8_isReason_28 cst_iconst0 rfl ?_
    cases hf
    exact E_zret (v := 0) rfl dX8_isReason_29 rfl (Nat.le_of_ble_eq_true rfl) (Nat.le_of_ble_eq_true rfl)
  · have hf := ite_e c3 hf
    refine E_aload_n 9 0 dX8_isReason_8 rfl rfl rfl ?_
    refine E_aload_n 10 0 dX8_isReason_9 rfl rfl rfl ?_
    refine E_getMr 13 fg_X8_73 dX8_isReason_10 rfl ?_
    refine E_iload_n 14 1 dX8_isReason_13 rfl rfl rfl ?_
    obtain ⟨h4, hf⟩ := chk_some hf
    refine E_ialdM 15 (k := 20) (n := 12) rfl (by decide) h4 dX8_isReason_14 rfl ?_
    refine E_iload_n 16 2 dX8_isReason_15 rfl rfl rfl ?_
    refine E_iload 18 4 dX8_isReason_16 rfl rfl ?_
    obtain ⟨r5, hc6, hf⟩ := bnd hf
    refine E_callVM1 21 0 [] [.int r5.1] (c_X8_isTrue hl 16 hc6) (my_X8_isTrue 16) rc_X8 kl_X8_184 rfl rfl (Nat.le_of_ble_eq_true rfl) (rmok rfl) dX8_isReason_18 rfl rfl rfl ?_
    refine E_if_eq 28 24 dX8_isReason_21 (by decide) rfl (fun c7 => ?_) (fun c7 => ?_)
    · have hf := ite_t c7 hf
      refine E_iconst 29 0 dX8_isReason_28 cst_iconst0 rfl ?_
      cases hf
      exact E_zret (v := 0) rfl dX8_isReason_29 rfl (Nat.le_of_ble_eq_true rfl) (Nat.le_of_ble_eq_true rfl)
    · have hf := ite_e c7 hf
      refine E_iconst 25 1 dX8_isReason_24 cst_iconst1 rfl ?_
      refine E_goto 29 dX8_isReason_25 (by decide) ?_
      cases hf
      exact E_zret (v := 1) rfl dX8_isReason_29 rfl (Nat.le_of_ble_eq_true rfl) (Nat.le_of_ble_eq_true rfl)
set_option maxRecDepth 100000 in
set_option maxHeartbeats 4000000 in
theorem l_X8_scoreBy_L6 {l : Launch} {g : Gt} (hl : l.stackTraces = false) {μ : Mm} {o : Nat → Int64} {dd : Nat → UInt64}  {x1 : Int32} {x2 : Int32} {x3 : Int32} {res : Int32 × Mm} : ∀ (n : Nat) (x4 : Int32) (x5 : Int32) (ν : Mm), f_X8_scoreBy_L6 x1 x2 x3 n x4 x5 ν = some res → E l g z_X8_scoreBy 6 [(0, .ref (gaM g 0)), (1, .int x1), (2, .int x2), (3, .int x3), (4, .int x4), (5, .int x5)] [] (μ, ν, o, dd) 0 (QM g (.inl (some (.int res.1))) (μ, res.2, o, dd) 0) := by
  intro n
  induction n with
  | zero => intro x4 x5 ν hf; cases hf
  | succ n ih =>
    intro x4 x5 ν hf
    refine E_iload 8 5 dX8_scoreBy_6 rfl rfl ?_
    refine E_aload_n 9 0 dX8_scoreBy_8 rfl rfl rfl ?_
    refine E_getM 12 fg_X8_187 dX8_scoreBy_9 rfl ?_
    refine E_icmp_ge 49 15 dX8_scoreBy_12 (by decide) rfl (fun c1 => ?_) (fun c1 => ?_)
    · have hf := ite_t c1 hf
      refine E_iload 51 4 dX8_scoreBy_49 rfl rfl ?_
      cases hf
      exact E_iret dX8_scoreBy_51 rfl (Nat.le_of_ble_eq_true rfl) (Nat.le_of_ble_eq_true rfl)
    · have hf := ite_e c1 hf
      refine E_iload 17 4 dX8_scoreBy_15 rfl rfl ?_
      refine E_aload_n 18 0 dX8_scoreBy_17 rfl rfl rfl ?_
      refine E_iload 20 5 dX8_scoreBy_18 rfl rfl ?_
      refine E_iload_n 21 1 dX8_scoreBy_20 rfl rfl rfl ?_
      refine E_iload_n 22 2 dX8_scoreBy_21 rfl rfl rfl ?_
      refine E_iload_n 23 3 dX8_scoreBy_22 rfl rfl rfl ?_
      obtain ⟨r2, hc3, hf⟩ := bnd hf
      refine E_callVM1 26 0 [.int x4] [.int r2.1, .int x4] (c_X8_isReason hl hc3) my_X8_isReason rc_X8 kl_X8_193 rfl rfl (Nat.le_of_ble_eq_true rfl) (rmok rfl) dX8_scoreBy_23 rfl rfl rfl ?_
      refine E_if_eq 39 29 dX8_scoreBy_26 (by decide) rfl (fun c4 => ?_) (fun c4 => ?_)
      · have hf := ite_t c4 hf
        refine E_iconst 40 0 dX8_scoreBy_39 cst_iconst0 rfl ?_
        refine E_iadd 41 dX8_scoreBy_40 rfl ?_
        refine E_istore 43 [(4, .int (x4 + 0)), (0, .ref (gaM g 0)), (1, .int x1), (2, .int x2), (3, .int x3), (5, .int x5)] dX8_scoreBy_41 (by decide) rfl rfl ?_
        refine E_iinc 46 [(5, .int (x5 + 1)), (4, .int (x4 + 0)), (0, .ref (gaM g 0)), (1, .int x1), (2, .int x2), (3, .int x3)] 5 (v := x5 + 1) dX8_scoreBy_43 rfl (by rw [cst_iconst1]) (by decide) rfl rfl ?_
        refine E_goto 6 dX8_scoreBy_46 (by decide) ?_
        refine E_sub [2, 3, 4, 5, 1, 0] rfl ?_
        exact ih (x4 + 0) (x5 + 1) r2.2 hf
      · have hf := ite_e c4 hf
        refine E_aload_n 30 0 dX8_scoreBy_29 rfl rfl rfl ?_
        refine E_getMr 33 fg_X8_76 dX8_scoreBy_30 rfl ?_
        refine E_iload 35 5 dX8_scoreBy_33 rfl rfl ?_
        obtain ⟨h5, hf⟩ := chk_some hf
        refine E_ialdM 36 (k := 21) (n := 12) rfl (by decide) h5 dX8_scoreBy_35 rfl ?_
        refine E_goto 40 dX8_scoreBy_36 (by decide) ?_
        refine E_iadd 41 dX8_scoreBy_40 rfl ?_
        refine E_istore 43 [(4, .int (x4 + (r2.2 21 x5.toNatClampNeg))), (0, .ref (gaM g 0)), (1, .int x1), (2, .int x2), (3, .int x3), (5, .int x5)] dX8_scoreBy_41 (by decide) rfl rfl ?_
        refine E_iinc 46 [(5, .int (x5 + 1)), (4, .int (x4 + (r2.2 21 x5.toNatClampNeg))), (0, .ref (gaM g 0)), (1, .int x1), (2, .int x2), (3, .int x3)] 5 (v := x5 + 1) dX8_scoreBy_43 rfl (by rw [cst_iconst1]) (by decide) rfl rfl ?_
        refine E_goto 6 dX8_scoreBy_46 (by decide) ?_
        refine E_sub [2, 3, 4, 5, 1, 0] rfl ?_
        exact ih (x4 + (r2.2 21 x5.toNatClampNeg)) (x5 + 1) r2.2 hf
set_option maxRecDepth 100000 in
set_option maxHeartbeats 4000000 in
theorem c_X8_scoreBy {l : Launch} {g : Gt} (hl : l.stackTraces = false) {a1 : Int32} {a2 : Int32} {a3 : Int32} {μ : Mm} {ν : Mm} {o : Nat → Int64} {dd : Nat → UInt64} {res : Int32 × Mm} (hf : f_X8_scoreBy a1 a2 a3 ν = some res) : CM l g z_X8_scoreBy yX8_scoreBy [.ref (gaM g 0), .int a1, .int a2, .int a3] (μ, ν, o, dd) 0 (.inl (some (.int res.1))) (μ, res.2, o, dd) := by
  unfold f_X8_scoreBy at hf
  refine CM_of_E rfl rfl (by decide +kernel) rfl (Nat.le_of_ble_eq_true rfl) hl ?_
  refine E_iconst 1 0 dX8_scoreBy_0 cst_iconst0 rfl ?_
  refine E_istore 3 [(4, .int 0), (0, .ref (gaM g 0)), (1, .int a1), (2, .int a2), (3, .int a3)] dX8_scoreBy_1 (by decide) rfl rfl ?_
  refine E_iconst 4 0 dX8_scoreBy_3 cst_iconst0 rfl ?_
  refine E_istore 6 [(5, .int 0), (4, .int 0), (0, .ref (gaM g 0)), (1, .int a1), (2, .int a2), (3, .int a3)] dX8_scoreBy_4 (by decide) rfl rfl ?_
  refine E_sub [2, 3, 4, 5, 1, 0] rfl ?_
  refine l_X8_scoreBy_L6 hl  _ _ _ _ hf
set_option maxRecDepth 100000 in
set_option maxHeartbeats 4000000 in
theorem c_X8_pay {l : Launch} {g : Gt} (hl : l.stackTraces = false) {a1 : Int32} {a2 : Int32} {a3 : Int32} {μ : Mm} {ν : Mm} {o : Nat → Int64} {dd : Nat → UInt64} {res : Int32 × Mm} (hf : f_X8_pay a1 a2 a3 ν = some res) : CM l g z_X8_pay yX8_pay [.ref (gaM g 0), .int a1, .int a2, .int a3] (μ, ν, o, dd) 0 (.inl (some (.int res.1))) (μ, res.2, o, dd) := by
  unfold f_X8_pay at hf
  refine CM_of_E rfl rfl (by decide +kernel) rfl (Nat.le_of_ble_eq_true rfl) hl ?_
  refine E_aload_n 1 0 dX8_pay_0 rfl rfl rfl ?_
  refine E_iconst 2 0 dX8_pay_1 cst_iconst0 rfl ?_
  refine E_putM 5 fp_X8_82 dX8_pay_2 rfl ?_
  refine E_aload_n 6 0 dX8_pay_5 rfl rfl rfl ?_
  refine E_iload_n 7 1 dX8_pay_6 rfl rfl rfl ?_
  obtain ⟨r1, hc2, hf⟩ := bnd hf
  refine E_callVM1 10 0 [] [.int r1] (c_X8_isAccount hl hc2) my_X8_isAccount rc_X8 kl_X8_99 rfl rfl (Nat.le_of_ble_eq_true rfl) (rmok rfl) dX8_pay_7 rfl rfl rfl ?_
  refine E_if_eq 21 13 dX8_pay_10 (by decide) rfl (fun c3 => ?_) (fun c3 => ?_)
  · have hf := ite_t c3 hf
    refine E_aload_n 22 0 dX8_pay_21 rfl rfl rfl ?_
    refine E_iconst 23 1 dX8_pay_22 cst_iconst1 rfl ?_
    obtain ⟨r4, hc5, hf⟩ := bnd hf
    refine E_callVM1 26 0 [] [.int r4.1] (c_X8_fails hl hc5) my_X8_fails rc_X8 kl_X8_92 rfl rfl (Nat.le_of_ble_eq_true rfl) (rmok rfl) dX8_pay_23 rfl rfl rfl ?_
    cases hf
    exact E_iret dX8_pay_26 rfl (Nat.le_of_ble_eq_true rfl) (Nat.le_of_ble_eq_true rfl)
  · have hf := ite_e c3 hf
    refine E_aload_n 14 0 dX8_pay_13 rfl rfl rfl ?_
    refine E_iload_n 15 2 dX8_pay_14 rfl rfl rfl ?_
    obtain ⟨r6, hc7, hf⟩ := bnd hf
    refine E_callVM1 18 0 [] [.int r6] (c_X8_isAccount hl hc7) my_X8_isAccount rc_X8 kl_X8_99 rfl rfl (Nat.le_of_ble_eq_true rfl) (rmok rfl) dX8_pay_15 rfl rfl rfl ?_
    refine E_if_ne 27 21 dX8_pay_18 (by decide) rfl (fun c8 => ?_) (fun c8 => ?_)
    · have hf := ite_e c8 hf
      refine E_iload_n 28 3 dX8_pay_27 rfl rfl rfl ?_
      refine E_iconst 29 1 dX8_pay_28 cst_iconst1 rfl ?_
      refine E_sipush 32 9999 dX8_pay_29 cst_sipush9999 rfl ?_
      obtain ⟨r9, hc10, hf⟩ := bnd hf
      refine E_callS1 35 0 [] [.int r9] (c_X8_isBetween hl hc10) my_X8_isBetween kl_X8_88 rfl rfl (Nat.le_of_ble_eq_true rfl) (rmok rfl) dX8_pay_32 rfl rfl rfl ?_
      refine E_if_ne 44 38 dX8_pay_35 (by decide) rfl (fun c11 => ?_) (fun c11 => ?_)
      · have hf := ite_e c11 hf
        refine E_iload_n 45 1 dX8_pay_44 rfl rfl rfl ?_
        refine E_iload_n 46 2 dX8_pay_45 rfl rfl rfl ?_
        refine E_icmp_ne 55 49 dX8_pay_46 (by decide) rfl (fun c12 => ?_) (fun c12 => ?_)
        · have hf := ite_e c12 hf
          refine E_aload_n 56 0 dX8_pay_55 rfl rfl rfl ?_
          refine E_getM 59 fg_X8_117 dX8_pay_56 rfl ?_
          refine E_iload_n 60 1 dX8_pay_59 rfl rfl rfl ?_
          obtain ⟨r13, hc14, hf⟩ := bnd hf
          refine E_callS1 63 0 [] [.int r13] (c_X8_has hl hc14) my_X8_has kl_X8_109 rfl rfl (Nat.le_of_ble_eq_true rfl) (rmok rfl) dX8_pay_60 rfl rfl rfl ?_
          refine E_if_ne 87 66 dX8_pay_63 (by decide) rfl (fun c15 => ?_) (fun c15 => ?_)
          · have hf := ite_e c15 hf
            refine E_aload_n 88 0 dX8_pay_87 rfl rfl rfl ?_
            refine E_iconst 89 4 dX8_pay_88 cst_iconst4 rfl ?_
            obtain ⟨r16, hc17, hf⟩ := bnd hf
            refine E_callVM1 92 0 [] [.int r16.1] (c_X8_fails hl hc17) my_X8_fails rc_X8 kl_X8_92 rfl rfl (Nat.le_of_ble_eq_true rfl) (rmok rfl) dX8_pay_89 rfl rfl rfl ?_
            cases hf
            exact E_iret dX8_pay_92 rfl (Nat.le_of_ble_eq_true rfl) (Nat.le_of_ble_eq_true rfl)
          · have hf := ite_t c15 hf
            refine E_aload_n 67 0 dX8_pay_66 rfl rfl rfl ?_
            refine E_getM 70 fg_X8_117 dX8_pay_67 rfl ?_
            refine E_iload_n 71 2 dX8_pay_70 rfl rfl rfl ?_
            obtain ⟨r18, hc19, hf⟩ := bnd hf
            refine E_callS1 74 0 [] [.int r18] (c_X8_has hl hc19) my_X8_has kl_X8_109 rfl rfl (Nat.le_of_ble_eq_true rfl) (rmok rfl) dX8_pay_71 rfl rfl rfl ?_
            refine E_if_ne 87 77 dX8_pay_74 (by decide) rfl (fun c20 => ?_) (fun c20 => ?_)
            · have hf := ite_e c20 hf
              refine E_aload_n 88 0 dX8_pay_87 rfl rfl rfl ?_
              refine E_iconst 89 4 dX8_pay_88 cst_iconst4 rfl ?_
              obtain ⟨r21, hc22, hf⟩ := bnd hf
              refine E_callVM1 92 0 [] [.int r21.1] (c_X8_fails hl hc22) my_X8_fails rc_X8 kl_X8_92 rfl rfl (Nat.le_of_ble_eq_true rfl) (rmok rfl) dX8_pay_89 rfl rfl rfl ?_
              cases hf
              exact E_iret dX8_pay_92 rfl (Nat.le_of_ble_eq_true rfl) (Nat.le_of_ble_eq_true rfl)
            · have hf := ite_t c20 hf
              refine E_aload_n 78 0 dX8_pay_77 rfl rfl rfl ?_
              refine E_getM 81 fg_X8_120 dX8_pay_78 rfl ?_
              refine E_sipush 84 200 dX8_pay_81 cst_sipush200 rfl ?_
              refine E_icmp_ne 93 87 dX8_pay_84 (by decide) rfl (fun c23 => ?_) (fun c23 => ?_)
              · have hf := ite_e c23 hf
                refine E_aload_n 94 0 dX8_pay_93 rfl rfl rfl ?_
                refine E_getMr 97 fg_X8_17 dX8_pay_94 rfl ?_
                refine E_aload_n 98 0 dX8_pay_97 rfl rfl rfl ?_
                refine E_getM 101 fg_X8_120 dX8_pay_98 rfl ?_
                refine E_iload_n 102 1 dX8_pay_101 rfl rfl rfl ?_
                obtain ⟨h24, hf⟩ := chk_some hf
                refine E_iastM 103 (k := 3) (n := 200) rfl (by decide) h24 dX8_pay_102 rfl ?_
                refine E_aload_n 104 0 dX8_pay_103 rfl rfl rfl ?_
                refine E_getMr 107 fg_X8_20 dX8_pay_104 rfl ?_
                refine E_aload_n 108 0 dX8_pay_107 rfl rfl rfl ?_
                refine E_getM 111 fg_X8_120 dX8_pay_108 rfl ?_
                refine E_iload_n 112 2 dX8_pay_111 rfl rfl rfl ?_
                obtain ⟨h25, hf⟩ := chk_some hf
                refine E_iastM 113 (k := 4) (n := 200) rfl (by decide) h25 dX8_pay_112 rfl ?_
                obtain ⟨mm26, emm26, hf⟩ := setm_some hf
                refine E_memM emm26 ?_
                refine E_aload_n 114 0 dX8_pay_113 rfl rfl rfl ?_
                refine E_getMr 117 fg_X8_23 dX8_pay_114 rfl ?_
                refine E_aload_n 118 0 dX8_pay_117 rfl rfl rfl ?_
                refine E_getM 121 fg_X8_120 dX8_pay_118 rfl ?_
                refine E_iload_n 122 3 dX8_pay_121 rfl rfl rfl ?_
                obtain ⟨h27, hf⟩ := chk_some hf
                refine E_iastM 123 (k := 5) (n := 200) rfl (by decide) h27 dX8_pay_122 rfl ?_
                refine E_aload_n 124 0 dX8_pay_123 rfl rfl rfl ?_
                refine E_getMr 127 fg_X8_26 dX8_pay_124 rfl ?_
                refine E_aload_n 128 0 dX8_pay_127 rfl rfl rfl ?_
                refine E_getM 131 fg_X8_120 dX8_pay_128 rfl ?_
                refine E_aload_n 132 0 dX8_pay_131 rfl rfl rfl ?_
                refine E_getM 135 fg_X8_96 dX8_pay_132 rfl ?_
                obtain ⟨h28, hf⟩ := chk_some hf
                refine E_iastM 136 (k := 6) (n := 200) rfl (by decide) h28 dX8_pay_135 rfl ?_
                obtain ⟨mm29, emm29, hf⟩ := setm_some hf
                refine E_memM emm29 ?_
                refine E_aload_n 137 0 dX8_pay_136 rfl rfl rfl ?_
                refine E_getMr 140 fg_X8_29 dX8_pay_137 rfl ?_
                refine E_aload_n 141 0 dX8_pay_140 rfl rfl rfl ?_
                refine E_getM 144 fg_X8_120 dX8_pay_141 rfl ?_
                refine E_aload_n 145 0 dX8_pay_144 rfl rfl rfl ?_
                refine E_getM 148 fg_X8_106 dX8_pay_145 rfl ?_
                obtain ⟨h30, hf⟩ := chk_some hf
                refine E_iastM 149 (k := 7) (n := 200) rfl (by decide) h30 dX8_pay_148 rfl ?_
                refine E_aload_n 150 0 dX8_pay_149 rfl rfl rfl ?_
                refine E_getMr 153 fg_X8_32 dX8_pay_150 rfl ?_
                refine E_aload_n 154 0 dX8_pay_153 rfl rfl rfl ?_
                refine E_getM 157 fg_X8_120 dX8_pay_154 rfl ?_
                refine E_aload_n 158 0 dX8_pay_157 rfl rfl rfl ?_
                refine E_getM 161 fg_X8_123 dX8_pay_158 rfl ?_
                obtain ⟨h31, hf⟩ := chk_some hf
                refine E_iastM 162 (k := 8) (n := 200) rfl (by decide) h31 dX8_pay_161 rfl ?_
                obtain ⟨mm32, emm32, hf⟩ := setm_some hf
                refine E_memM emm32 ?_
                refine E_aload_n 163 0 dX8_pay_162 rfl rfl rfl ?_
                refine E_dup 164 dX8_pay_163 rfl rfl ?_
                refine E_getM 167 fg_X8_120 dX8_pay_164 rfl ?_
                refine E_iconst 168 1 dX8_pay_167 cst_iconst1 rfl ?_
                refine E_iadd 169 dX8_pay_168 rfl ?_
                refine E_putM 172 fp_X8_120 dX8_pay_169 rfl ?_
                refine E_aload_n 173 0 dX8_pay_172 rfl rfl rfl ?_
                refine E_getMr 176 fg_X8_35 dX8_pay_173 rfl ?_
                refine E_aload_n 177 0 dX8_pay_176 rfl rfl rfl ?_
                refine E_getM 180 fg_X8_120 dX8_pay_177 rfl ?_
                refine E_iconst 181 1 dX8_pay_180 cst_iconst1 rfl ?_
                refine E_isub 182 dX8_pay_181 rfl ?_
                refine E_aload_n 183 0 dX8_pay_182 rfl rfl rfl ?_
                refine E_aload_n 184 0 dX8_pay_183 rfl rfl rfl ?_
                refine E_getM 187 fg_X8_120 dX8_pay_184 rfl ?_
                refine E_iconst 188 1 dX8_pay_187 cst_iconst1 rfl ?_
                refine E_isub 189 dX8_pay_188 rfl ?_
                refine E_aload_n 190 0 dX8_pay_189 rfl rfl rfl ?_
                refine E_getM 193 fg_X8_123 dX8_pay_190 rfl ?_
                refine E_aload_n 194 0 dX8_pay_193 rfl rfl rfl ?_
                refine E_getM 197 fg_X8_106 dX8_pay_194 rfl ?_
                obtain ⟨r33, hc34, hf⟩ := bnd hf
                refine E_callVM1 200 0 [.int (((up2 mm32 0 15 ((mm32 0 15) + 1)) 0 15) - 1), .ref (gaM g 9)] [.int r33.1, .int (((up2 mm32 0 15 ((mm32 0 15) + 1)) 0 15) - 1), .ref (gaM g 9)] (c_X8_scoreBy hl hc34) my_X8_scoreBy rc_X8 kl_X8_126 rfl rfl (Nat.le_of_ble_eq_true rfl) (rmok rfl) dX8_pay_197 rfl rfl rfl ?_
                obtain ⟨h35, hf⟩ := chk_some hf
                refine E_iastM 201 (k := 9) (n := 200) rfl (by decide) h35 dX8_pay_200 rfl ?_
                refine E_aload_n 202 0 dX8_pay_201 rfl rfl rfl ?_
                refine E_getMr 205 fg_X8_38 dX8_pay_202 rfl ?_
                refine E_aload_n 206 0 dX8_pay_205 rfl rfl rfl ?_
                refine E_getM 209 fg_X8_120 dX8_pay_206 rfl ?_
                refine E_iconst 210 1 dX8_pay_209 cst_iconst1 rfl ?_
                refine E_isub 211 dX8_pay_210 rfl ?_
                refine E_aload_n 212 0 dX8_pay_211 rfl rfl rfl ?_
                refine E_getMr 215 fg_X8_35 dX8_pay_212 rfl ?_
                refine E_aload_n 216 0 dX8_pay_215 rfl rfl rfl ?_
                refine E_getM 219 fg_X8_120 dX8_pay_216 rfl ?_
                refine E_iconst 220 1 dX8_pay_219 cst_iconst1 rfl ?_
                refine E_isub 221 dX8_pay_220 rfl ?_
                obtain ⟨h36, hf⟩ := chk_some hf
                refine E_ialdM 222 (k := 9) (n := 200) rfl (by decide) h36 dX8_pay_221 rfl ?_
                refine E_aload_n 223 0 dX8_pay_222 rfl rfl rfl ?_
                refine E_getM 226 fg_X8_41 dX8_pay_223 rfl ?_
                refine E_icmp_lt 234 229 dX8_pay_226 (by decide) rfl (fun c37 => ?_) (fun c37 => ?_)
                · have hf := ite_t c37 hf
                  refine E_bipush 236 45 dX8_pay_234 cst_bipush45 rfl ?_
                  obtain ⟨h38, hf⟩ := chk_some hf
                  refine E_castM 237 (k := 10) (n := 200) rfl (by decide) h38 dX8_pay_236 rfl ?_
                  obtain ⟨mm39, emm39, hf⟩ := setm_some hf
                  refine E_memM emm39 ?_
                  refine E_aload_n 238 0 dX8_pay_237 rfl rfl rfl ?_
                  refine E_getM 241 fg_X8_120 dX8_pay_238 rfl ?_
                  refine E_iconst 242 1 dX8_pay_241 cst_iconst1 rfl ?_
                  refine E_isub 243 dX8_pay_242 rfl ?_
                  cases hf
                  exact E_iret dX8_pay_243 rfl (Nat.le_of_ble_eq_true rfl) (Nat.le_of_ble_eq_true rfl)
                · have hf := ite_e c37 hf
                  refine E_bipush 231 111 dX8_pay_229 cst_bipush111 rfl ?_
                  refine E_goto 236 dX8_pay_231 (by decide) ?_
                  obtain ⟨h40, hf⟩ := chk_some hf
                  refine E_castM 237 (k := 10) (n := 200) rfl (by decide) h40 dX8_pay_236 rfl ?_
                  obtain ⟨mm41, emm41, hf⟩ := setm_some hf
                  refine E_memM emm41 ?_
                  refine E_aload_n 238 0 dX8_pay_237 rfl rfl rfl ?_
                  refine E_getM 241 fg_X8_120 dX8_pay_238 rfl ?_
                  refine E_iconst 242 1 dX8_pay_241 cst_iconst1 rfl ?_
                  refine E_isub 243 dX8_pay_242 rfl ?_
                  cases hf
                  exact E_iret dX8_pay_243 rfl (Nat.le_of_ble_eq_true rfl) (Nat.le_of_ble_eq_true rfl)
              · have hf := ite_t c23 hf
                refine E_aload_n 88 0 dX8_pay_87 rfl rfl rfl ?_
                refine E_iconst 89 4 dX8_pay_88 cst_iconst4 rfl ?_
                obtain ⟨r42, hc43, hf⟩ := bnd hf
                refine E_callVM1 92 0 [] [.int r42.1] (c_X8_fails hl hc43) my_X8_fails rc_X8 kl_X8_92 rfl rfl (Nat.le_of_ble_eq_true rfl) (rmok rfl) dX8_pay_89 rfl rfl rfl ?_
                cases hf
                exact E_iret dX8_pay_92 rfl (Nat.le_of_ble_eq_true rfl) (Nat.le_of_ble_eq_true rfl)
        · have hf := ite_t c12 hf
          refine E_aload_n 50 0 dX8_pay_49 rfl rfl rfl ?_
          refine E_iconst 51 3 dX8_pay_50 cst_iconst3 rfl ?_
          obtain ⟨r44, hc45, hf⟩ := bnd hf
          refine E_callVM1 54 0 [] [.int r44.1] (c_X8_fails hl hc45) my_X8_fails rc_X8 kl_X8_92 rfl rfl (Nat.le_of_ble_eq_true rfl) (rmok rfl) dX8_pay_51 rfl rfl rfl ?_
          cases hf
          exact E_iret dX8_pay_54 rfl (Nat.le_of_ble_eq_true rfl) (Nat.le_of_ble_eq_true rfl)
      · have hf := ite_t c11 hf
        refine E_aload_n 39 0 dX8_pay_38 rfl rfl rfl ?_
        refine E_iconst 40 2 dX8_pay_39 cst_iconst2 rfl ?_
        obtain ⟨r46, hc47, hf⟩ := bnd hf
        refine E_callVM1 43 0 [] [.int r46.1] (c_X8_fails hl hc47) my_X8_fails rc_X8 kl_X8_92 rfl rfl (Nat.le_of_ble_eq_true rfl) (rmok rfl) dX8_pay_40 rfl rfl rfl ?_
        cases hf
        exact E_iret dX8_pay_43 rfl (Nat.le_of_ble_eq_true rfl) (Nat.le_of_ble_eq_true rfl)
    · have hf := ite_t c8 hf
      refine E_aload_n 22 0 dX8_pay_21 rfl rfl rfl ?_
      refine E_iconst 23 1 dX8_pay_22 cst_iconst1 rfl ?_
      obtain ⟨r48, hc49, hf⟩ := bnd hf
      refine E_callVM1 26 0 [] [.int r48.1] (c_X8_fails hl hc49) my_X8_fails rc_X8 kl_X8_92 rfl rfl (Nat.le_of_ble_eq_true rfl) (rmok rfl) dX8_pay_23 rfl rfl rfl ?_
      cases hf
      exact E_iret dX8_pay_26 rfl (Nat.le_of_ble_eq_true rfl) (Nat.le_of_ble_eq_true rfl)
set_option maxRecDepth 100000 in
set_option maxHeartbeats 4000000 in
theorem c_X8_payments {l : Launch} {g : Gt} (hl : l.stackTraces = false)  {μ : Mm} {ν : Mm} {o : Nat → Int64} {dd : Nat → UInt64} {res : Int32 × Mm} (hf : f_X8_payments ν = some res) : CM l g z_X8_payments yX8_payments [.ref (gaM g 0)] (μ, ν, o, dd) 0 (.inl (some (.int res.1))) (μ, res.2, o, dd) := by
  unfold f_X8_payments at hf
  refine CM_of_E rfl rfl (by decide +kernel) rfl (Nat.le_of_ble_eq_true rfl) hl ?_
  refine E_aload_n 1 0 dX8_payments_0 rfl rfl rfl ?_
  refine E_iconst 2 0 dX8_payments_1 cst_iconst0 rfl ?_
  refine E_putM 5 fp_X8_82 dX8_payments_2 rfl ?_
  refine E_aload_n 6 0 dX8_payments_5 rfl rfl rfl ?_
  refine E_getM 9 fg_X8_120 dX8_payments_6 rfl ?_
  cases hf
  exact E_iret dX8_payments_9 rfl (Nat.le_of_ble_eq_true rfl) (Nat.le_of_ble_eq_true rfl)
set_option maxRecDepth 100000 in
set_option maxHeartbeats 4000000 in
theorem c_X8_minuteOf {l : Launch} {g : Gt} (hl : l.stackTraces = false) {a1 : Int32} {μ : Mm} {ν : Mm} {o : Nat → Int64} {dd : Nat → UInt64} {res : Int32 × Mm} (hf : f_X8_minuteOf a1 ν = some res) : CM l g z_X8_minuteOf yX8_minuteOf [.ref (gaM g 0), .int a1] (μ, ν, o, dd) 0 (.inl (some (.int res.1))) (μ, res.2, o, dd) := by
  unfold f_X8_minuteOf at hf
  refine CM_of_E rfl rfl (by decide +kernel) rfl (Nat.le_of_ble_eq_true rfl) hl ?_
  refine E_aload_n 1 0 dX8_minuteOf_0 rfl rfl rfl ?_
  refine E_iconst 2 0 dX8_minuteOf_1 cst_iconst0 rfl ?_
  refine E_putM 5 fp_X8_82 dX8_minuteOf_2 rfl ?_
  refine E_aload_n 6 0 dX8_minuteOf_5 rfl rfl rfl ?_
  refine E_iload_n 7 1 dX8_minuteOf_6 rfl rfl rfl ?_
  obtain ⟨r1, hc2, hf⟩ := bnd hf
  refine E_callVM1 10 0 [] [.int r1] (c_X8_isPayment hl hc2) my_X8_isPayment rc_X8 kl_X8_130 rfl rfl (Nat.le_of_ble_eq_true rfl) (rmok rfl) dX8_minuteOf_7 rfl rfl rfl ?_
  refine E_if_eq 22 13 dX8_minuteOf_10 (by decide) rfl (fun c3 => ?_) (fun c3 => ?_)
  · have hf := ite_t c3 hf
    refine E_aload_n 23 0 dX8_minuteOf_22 rfl rfl rfl ?_
    refine E_iconst 24 1 dX8_minuteOf_23 cst_iconst1 rfl ?_
    obtain ⟨r4, hc5, hf⟩ := bnd hf
    refine E_callVM1 27 0 [] [.int r4.1] (c_X8_fails hl hc5) my_X8_fails rc_X8 kl_X8_92 rfl rfl (Nat.le_of_ble_eq_true rfl) (rmok rfl) dX8_minuteOf_24 rfl rfl rfl ?_
    cases hf
    exact E_iret dX8_minuteOf_27 rfl (Nat.le_of_ble_eq_true rfl) (Nat.le_of_ble_eq_true rfl)
  · have hf := ite_e c3 hf
    refine E_aload_n 14 0 dX8_minuteOf_13 rfl rfl rfl ?_
    refine E_getMr 17 fg_X8_26 dX8_minuteOf_14 rfl ?_
    refine E_iload_n 18 1 dX8_minuteOf_17 rfl rfl rfl ?_
    obtain ⟨h6, hf⟩ := chk_some hf
    refine E_ialdM 19 (k := 6) (n := 200) rfl (by decide) h6 dX8_minuteOf_18 rfl ?_
    refine E_goto 27 dX8_minuteOf_19 (by decide) ?_
    cases hf
    exact E_iret dX8_minuteOf_27 rfl (Nat.le_of_ble_eq_true rfl) (Nat.le_of_ble_eq_true rfl)
set_option maxRecDepth 100000 in
set_option maxHeartbeats 4000000 in
theorem l_X8_sentBy_L37 {l : Launch} {g : Gt} (hl : l.stackTraces = false) {μ : Mm} {ν : Mm} {o : Nat → Int64} {dd : Nat → UInt64}  {x1 : Int32} {x2 : Int32} {res : Int32 × Mm} : ∀ (n : Nat) (x3 : Int32) (x4 : Int32) , f_X8_sentBy_L37 x1 x2 ν n x3 x4 = some res → E l g z_X8_sentBy 37 [(0, .ref (gaM g 0)), (1, .int x1), (2, .int x2), (3, .int x3), (4, .int x4)] [] (μ, ν, o, dd) 0 (QM g (.inl (some (.int res.1))) (μ, res.2, o, dd) 0) := by
  intro n
  induction n with
  | zero => intro x3 x4 hf; cases hf
  | succ n ih =>
    intro x3 x4 hf
    refine E_iload 39 4 dX8_sentBy_37 rfl rfl ?_
    refine E_aload_n 40 0 dX8_sentBy_39 rfl rfl rfl ?_
    refine E_getM 43 fg_X8_120 dX8_sentBy_40 rfl ?_
    refine E_icmp_ge 91 46 dX8_sentBy_43 (by decide) rfl (fun c7 => ?_) (fun c7 => ?_)
    · have hf := ite_t c7 hf
      refine E_iload_n 92 3 dX8_sentBy_91 rfl rfl rfl ?_
      cases hf
      exact E_iret dX8_sentBy_92 rfl (Nat.le_of_ble_eq_true rfl) (Nat.le_of_ble_eq_true rfl)
    · have hf := ite_e c7 hf
      refine E_iload_n 47 3 dX8_sentBy_46 rfl rfl rfl ?_
      refine E_aload_n 48 0 dX8_sentBy_47 rfl rfl rfl ?_
      refine E_getMr 51 fg_X8_17 dX8_sentBy_48 rfl ?_
      refine E_iload 53 4 dX8_sentBy_51 rfl rfl ?_
      obtain ⟨h8, hf⟩ := chk_some hf
      refine E_ialdM 54 (k := 3) (n := 200) rfl (by decide) h8 dX8_sentBy_53 rfl ?_
      refine E_iload_n 55 1 dX8_sentBy_54 rfl rfl rfl ?_
      refine E_icmp_ne 82 58 dX8_sentBy_55 (by decide) rfl (fun c9 => ?_) (fun c9 => ?_)
      · have hf := ite_e c9 hf
        refine E_iconst 83 0 dX8_sentBy_82 cst_iconst0 rfl ?_
        refine E_iadd 84 dX8_sentBy_83 rfl ?_
        refine E_istore_n 85 [(3, .int (x3 + 0)), (0, .ref (gaM g 0)), (1, .int x1), (2, .int x2), (4, .int x4)] dX8_sentBy_84 rfl (by decide) rfl rfl ?_
        refine E_iinc 88 [(4, .int (x4 + 1)), (3, .int (x3 + 0)), (0, .ref (gaM g 0)), (1, .int x1), (2, .int x2)] 4 (v := x4 + 1) dX8_sentBy_85 rfl (by rw [cst_iconst1]) (by decide) rfl rfl ?_
        refine E_goto 37 dX8_sentBy_88 (by decide) ?_
        refine E_sub [2, 3, 4, 1, 0] rfl ?_
        exact ih (x3 + 0) (x4 + 1) hf
      · have hf := ite_t c9 hf
        refine E_aload_n 59 0 dX8_sentBy_58 rfl rfl rfl ?_
        refine E_iload 61 4 dX8_sentBy_59 rfl rfl ?_
        refine E_iload_n 62 2 dX8_sentBy_61 rfl rfl rfl ?_
        refine E_aload_n 63 0 dX8_sentBy_62 rfl rfl rfl ?_
        refine E_getM 66 fg_X8_96 dX8_sentBy_63 rfl ?_
        obtain ⟨r10, hc11, hf⟩ := bnd hf
        refine E_callVM1 69 0 [.int x3] [.int r10, .int x3] (c_X8_isIn hl hc11) my_X8_isIn rc_X8 kl_X8_136 rfl rfl (Nat.le_of_ble_eq_true rfl) (rmok rfl) dX8_sentBy_66 rfl rfl rfl ?_
        refine E_if_eq 82 72 dX8_sentBy_69 (by decide) rfl (fun c12 => ?_) (fun c12 => ?_)
        · have hf := ite_t c12 hf
          refine E_iconst 83 0 dX8_sentBy_82 cst_iconst0 rfl ?_
          refine E_iadd 84 dX8_sentBy_83 rfl ?_
          refine E_istore_n 85 [(3, .int (x3 + 0)), (0, .ref (gaM g 0)), (1, .int x1), (2, .int x2), (4, .int x4)] dX8_sentBy_84 rfl (by decide) rfl rfl ?_
          refine E_iinc 88 [(4, .int (x4 + 1)), (3, .int (x3 + 0)), (0, .ref (gaM g 0)), (1, .int x1), (2, .int x2)] 4 (v := x4 + 1) dX8_sentBy_85 rfl (by rw [cst_iconst1]) (by decide) rfl rfl ?_
          refine E_goto 37 dX8_sentBy_88 (by decide) ?_
          refine E_sub [2, 3, 4, 1, 0] rfl ?_
          exact ih (x3 + 0) (x4 + 1) hf
        · have hf := ite_e c12 hf
          refine E_aload_n 73 0 dX8_sentBy_72 rfl rfl rfl ?_
          refine E_getMr 76 fg_X8_23 dX8_sentBy_73 rfl ?_
          refine E_iload 78 4 dX8_sentBy_76 rfl rfl ?_
          obtain ⟨h13, hf⟩ := chk_some hf
          refine E_ialdM 79 (k := 5) (n := 200) rfl (by decide) h13 dX8_sentBy_78 rfl ?_
          refine E_goto 83 dX8_sentBy_79 (by decide) ?_
          refine E_iadd 84 dX8_sentBy_83 rfl ?_
          refine E_istore_n 85 [(3, .int (x3 + (ν 5 x4.toNatClampNeg))), (0, .ref (gaM g 0)), (1, .int x1), (2, .int x2), (4, .int x4)] dX8_sentBy_84 rfl (by decide) rfl rfl ?_
          refine E_iinc 88 [(4, .int (x4 + 1)), (3, .int (x3 + (ν 5 x4.toNatClampNeg))), (0, .ref (gaM g 0)), (1, .int x1), (2, .int x2)] 4 (v := x4 + 1) dX8_sentBy_85 rfl (by rw [cst_iconst1]) (by decide) rfl rfl ?_
          refine E_goto 37 dX8_sentBy_88 (by decide) ?_
          refine E_sub [2, 3, 4, 1, 0] rfl ?_
          exact ih (x3 + (ν 5 x4.toNatClampNeg)) (x4 + 1) hf
set_option maxRecDepth 100000 in
set_option maxHeartbeats 4000000 in
theorem c_X8_sentBy {l : Launch} {g : Gt} (hl : l.stackTraces = false) {a1 : Int32} {a2 : Int32} {μ : Mm} {ν : Mm} {o : Nat → Int64} {dd : Nat → UInt64} {res : Int32 × Mm} (hf : f_X8_sentBy a1 a2 ν = some res) : CM l g z_X8_sentBy yX8_sentBy [.ref (gaM g 0), .int a1, .int a2] (μ, ν, o, dd) 0 (.inl (some (.int res.1))) (μ, res.2, o, dd) := by
  unfold f_X8_sentBy at hf
  refine CM_of_E rfl rfl (by decide +kernel) rfl (Nat.le_of_ble_eq_true rfl) hl ?_
  refine E_aload_n 1 0 dX8_sentBy_0 rfl rfl rfl ?_
  refine E_iconst 2 0 dX8_sentBy_1 cst_iconst0 rfl ?_
  refine E_putM 5 fp_X8_82 dX8_sentBy_2 rfl ?_
  refine E_aload_n 6 0 dX8_sentBy_5 rfl rfl rfl ?_
  refine E_iload_n 7 1 dX8_sentBy_6 rfl rfl rfl ?_
  obtain ⟨r1, hc2, hf⟩ := bnd hf
  refine E_callVM1 10 0 [] [.int r1] (c_X8_isAccount hl hc2) my_X8_isAccount rc_X8 kl_X8_99 rfl rfl (Nat.le_of_ble_eq_true rfl) (rmok rfl) dX8_sentBy_7 rfl rfl rfl ?_
  refine E_if_ne 19 13 dX8_sentBy_10 (by decide) rfl (fun c3 => ?_) (fun c3 => ?_)
  · have hf := ite_e c3 hf
    refine E_iload_n 20 2 dX8_sentBy_19 rfl rfl rfl ?_
    obtain ⟨r4, hc5, hf⟩ := bnd hf
    refine E_callS1 23 0 [] [.int r4] (c_X8_isWindow hl hc5) my_X8_isWindow kl_X8_133 rfl rfl (Nat.le_of_ble_eq_true rfl) (rmok rfl) dX8_sentBy_20 rfl rfl rfl ?_
    refine E_if_ne 32 26 dX8_sentBy_23 (by decide) rfl (fun c6 => ?_) (fun c6 => ?_)
    · have hf := ite_e c6 hf
      refine E_iconst 33 0 dX8_sentBy_32 cst_iconst0 rfl ?_
      refine E_istore_n 34 [(3, .int 0), (0, .ref (gaM g 0)), (1, .int a1), (2, .int a2)] dX8_sentBy_33 rfl (by decide) rfl rfl ?_
      refine E_iconst 35 0 dX8_sentBy_34 cst_iconst0 rfl ?_
      refine E_istore 37 [(4, .int 0), (3, .int 0), (0, .ref (gaM g 0)), (1, .int a1), (2, .int a2)] dX8_sentBy_35 (by decide) rfl rfl ?_
      refine E_sub [2, 3, 4, 1, 0] rfl ?_
      refine l_X8_sentBy_L37 hl  _ _ _ hf
    · have hf := ite_t c6 hf
      refine E_aload_n 27 0 dX8_sentBy_26 rfl rfl rfl ?_
      refine E_iconst 28 2 dX8_sentBy_27 cst_iconst2 rfl ?_
      obtain ⟨r14, hc15, hf⟩ := bnd hf
      refine E_callVM1 31 0 [] [.int r14.1] (c_X8_fails hl hc15) my_X8_fails rc_X8 kl_X8_92 rfl rfl (Nat.le_of_ble_eq_true rfl) (rmok rfl) dX8_sentBy_28 rfl rfl rfl ?_
      cases hf
      exact E_iret dX8_sentBy_31 rfl (Nat.le_of_ble_eq_true rfl) (Nat.le_of_ble_eq_true rfl)
  · have hf := ite_t c3 hf
    refine E_aload_n 14 0 dX8_sentBy_13 rfl rfl rfl ?_
    refine E_iconst 15 1 dX8_sentBy_14 cst_iconst1 rfl ?_
    obtain ⟨r16, hc17, hf⟩ := bnd hf
    refine E_callVM1 18 0 [] [.int r16.1] (c_X8_fails hl hc17) my_X8_fails rc_X8 kl_X8_92 rfl rfl (Nat.le_of_ble_eq_true rfl) (rmok rfl) dX8_sentBy_15 rfl rfl rfl ?_
    cases hf
    exact E_iret dX8_sentBy_18 rfl (Nat.le_of_ble_eq_true rfl) (Nat.le_of_ble_eq_true rfl)
set_option maxRecDepth 100000 in
set_option maxHeartbeats 4000000 in
theorem c_X8_sentByAnew {l : Launch} {g : Gt} (hl : l.stackTraces = false) {a1 : Int32} {a2 : Int32} {μ : Mm} {ν : Mm} {o : Nat → Int64} {dd : Nat → UInt64} {res : Int32 × Mm} (hf : f_X8_sentByAnew a1 a2 ν = some res) : CM l g z_X8_sentByAnew yX8_sentByAnew [.ref (gaM g 0), .int a1, .int a2] (μ, ν, o, dd) 0 (.inl (some (.int res.1))) (μ, res.2, o, dd) := by
  unfold f_X8_sentByAnew at hf
  refine CM_of_E rfl rfl (by decide +kernel) rfl (Nat.le_of_ble_eq_true rfl) hl ?_
  refine E_aload_n 1 0 dX8_sentByAnew_0 rfl rfl rfl ?_
  refine E_iload_n 2 1 dX8_sentByAnew_1 rfl rfl rfl ?_
  refine E_iload_n 3 2 dX8_sentByAnew_2 rfl rfl rfl ?_
  obtain ⟨r1, hc2, hf⟩ := bnd hf
  refine E_callVM1 6 0 [] [.int r1.1] (c_X8_sentBy hl hc2) my_X8_sentBy rc_X8 kl_X8_139 rfl rfl (Nat.le_of_ble_eq_true rfl) (rmok rfl) dX8_sentByAnew_3 rfl rfl rfl ?_
  cases hf
  exact E_iret dX8_sentByAnew_6 rfl (Nat.le_of_ble_eq_true rfl) (Nat.le_of_ble_eq_true rfl)
set_option maxRecDepth 100000 in
set_option maxHeartbeats 4000000 in
theorem l_X8_kept_L9 {l : Launch} {g : Gt} (hl : l.stackTraces = false) {μ : Mm} {ν : Mm} {o : Nat → Int64} {dd : Nat → UInt64}   {res : Int32 × Mm} : ∀ (n : Nat) (x1 : Int32) (x2 : Int32) , f_X8_kept_L9 ν n x1 x2 = some res → E l g z_X8_kept 9 [(0, .ref (gaM g 0)), (1, .int x1), (2, .int x2)] [] (μ, ν, o, dd) 0 (QM g (.inl (some (.int res.1))) (μ, res.2, o, dd) 0) := by
  intro n
  induction n with
  | zero => intro x1 x2 hf; cases hf
  | succ n ih =>
    intro x1 x2 hf
    refine E_iload_n 10 2 dX8_kept_9 rfl rfl rfl ?_
    refine E_aload_n 11 0 dX8_kept_10 rfl rfl rfl ?_
    refine E_getM 14 fg_X8_120 dX8_kept_11 rfl ?_
    refine E_icmp_ge 46 17 dX8_kept_14 (by decide) rfl (fun c1 => ?_) (fun c1 => ?_)
    · have hf := ite_t c1 hf
      refine E_iload_n 47 1 dX8_kept_46 rfl rfl rfl ?_
      cases hf
      exact E_iret dX8_kept_47 rfl (Nat.le_of_ble_eq_true rfl) (Nat.le_of_ble_eq_true rfl)
    · have hf := ite_e c1 hf
      refine E_iload_n 18 1 dX8_kept_17 rfl rfl rfl ?_
      refine E_aload_n 19 0 dX8_kept_18 rfl rfl rfl ?_
      refine E_iload_n 20 2 dX8_kept_19 rfl rfl rfl ?_
      refine E_sipush 23 10080 dX8_kept_20 cst_sipush10080 rfl ?_
      refine E_aload_n 24 0 dX8_kept_23 rfl rfl rfl ?_
      refine E_getM 27 fg_X8_96 dX8_kept_24 rfl ?_
      obtain ⟨r2, hc3, hf⟩ := bnd hf
      refine E_callVM1 30 0 [.int x1] [.int r2, .int x1] (c_X8_isIn hl hc3) my_X8_isIn rc_X8 kl_X8_136 rfl rfl (Nat.le_of_ble_eq_true rfl) (rmok rfl) dX8_kept_27 rfl rfl rfl ?_
      refine E_if_eq 37 33 dX8_kept_30 (by decide) rfl (fun c4 => ?_) (fun c4 => ?_)
      · have hf := ite_t c4 hf
        refine E_iconst 38 0 dX8_kept_37 cst_iconst0 rfl ?_
        refine E_iadd 39 dX8_kept_38 rfl ?_
        refine E_istore_n 40 [(1, .int (x1 + 0)), (0, .ref (gaM g 0)), (2, .int x2)] dX8_kept_39 rfl (by decide) rfl rfl ?_
        refine E_iinc 43 [(2, .int (x2 + 1)), (1, .int (x1 + 0)), (0, .ref (gaM g 0))] 2 (v := x2 + 1) dX8_kept_40 rfl (by rw [cst_iconst1]) (by decide) rfl rfl ?_
        refine E_goto 9 dX8_kept_43 (by decide) ?_
        refine E_sub [2, 1, 0] rfl ?_
        exact ih (x1 + 0) (x2 + 1) hf
      · have hf := ite_e c4 hf
        refine E_iconst 34 1 dX8_kept_33 cst_iconst1 rfl ?_
        refine E_goto 38 dX8_kept_34 (by decide) ?_
        refine E_iadd 39 dX8_kept_38 rfl ?_
        refine E_istore_n 40 [(1, .int (x1 + 1)), (0, .ref (gaM g 0)), (2, .int x2)] dX8_kept_39 rfl (by decide) rfl rfl ?_
        refine E_iinc 43 [(2, .int (x2 + 1)), (1, .int (x1 + 1)), (0, .ref (gaM g 0))] 2 (v := x2 + 1) dX8_kept_40 rfl (by rw [cst_iconst1]) (by decide) rfl rfl ?_
        refine E_goto 9 dX8_kept_43 (by decide) ?_
        refine E_sub [2, 1, 0] rfl ?_
        exact ih (x1 + 1) (x2 + 1) hf
set_option maxRecDepth 100000 in
set_option maxHeartbeats 4000000 in
theorem c_X8_kept {l : Launch} {g : Gt} (hl : l.stackTraces = false)  {μ : Mm} {ν : Mm} {o : Nat → Int64} {dd : Nat → UInt64} {res : Int32 × Mm} (hf : f_X8_kept ν = some res) : CM l g z_X8_kept yX8_kept [.ref (gaM g 0)] (μ, ν, o, dd) 0 (.inl (some (.int res.1))) (μ, res.2, o, dd) := by
  unfold f_X8_kept at hf
  refine CM_of_E rfl rfl (by decide +kernel) rfl (Nat.le_of_ble_eq_true rfl) hl ?_
  refine E_aload_n 1 0 dX8_kept_0 rfl rfl rfl ?_
  refine E_iconst 2 0 dX8_kept_1 cst_iconst0 rfl ?_
  refine E_putM 5 fp_X8_82 dX8_kept_2 rfl ?_
  refine E_iconst 6 0 dX8_kept_5 cst_iconst0 rfl ?_
  refine E_istore_n 7 [(1, .int 0), (0, .ref (gaM g 0))] dX8_kept_6 rfl (by decide) rfl rfl ?_
  refine E_iconst 8 0 dX8_kept_7 cst_iconst0 rfl ?_
  refine E_istore_n 9 [(2, .int 0), (1, .int 0), (0, .ref (gaM g 0))] dX8_kept_8 rfl (by decide) rfl rfl ?_
  refine E_sub [2, 1, 0] rfl ?_
  refine l_X8_kept_L9 hl  _ _ _ hf
set_option maxRecDepth 100000 in
set_option maxHeartbeats 4000000 in
theorem c_X8_isFeature {l : Launch} {g : Gt} (hl : l.stackTraces = false) {a0 : Int32} {μ : Mm} {ν : Mm} {o : Nat → Int64} {dd : Nat → UInt64} {res : Int32} (hf : f_X8_isFeature a0 = some res) : CM l g z_X8_isFeature yX8_isFeature [.int a0] (μ, ν, o, dd) 0 (.inl (some (.int res))) (μ, ν, o, dd) := by
  unfold f_X8_isFeature at hf
  refine CM_of_E rfl rfl (by decide +kernel) rfl (Nat.le_of_ble_eq_true rfl) hl ?_
  refine E_iload_n 1 0 dX8_isFeature_0 rfl rfl rfl ?_
  refine E_bipush 3 97 dX8_isFeature_1 cst_bipush97 rfl ?_
  refine E_bipush 5 122 dX8_isFeature_3 cst_bipush122 rfl ?_
  obtain ⟨r1, hc2, hf⟩ := bnd hf
  refine E_callS1 8 0 [] [.int r1] (c_X8_isBetween hl hc2) my_X8_isBetween kl_X8_88 rfl rfl (Nat.le_of_ble_eq_true rfl) (rmok rfl) dX8_isFeature_5 rfl rfl rfl ?_
  refine E_if_eq 57 11 dX8_isFeature_8 (by decide) rfl (fun c3 => ?_) (fun c3 => ?_)
  · have hf := ite_t c3 hf
    refine E_iconst 58 0 dX8_isFeature_57 cst_iconst0 rfl ?_
    cases hf
    exact E_zret (v := 0) rfl dX8_isFeature_58 rfl (Nat.le_of_ble_eq_true rfl) (Nat.le_of_ble_eq_true rfl)
  · have hf := ite_e c3 hf
    refine E_iload_n 12 0 dX8_isFeature_11 rfl rfl rfl ?_
    refine E_bipush 14 98 dX8_isFeature_12 cst_bipush98 rfl ?_
    refine E_icmp_eq 57 17 dX8_isFeature_14 (by decide) rfl (fun c4 => ?_) (fun c4 => ?_)
    · have hf := ite_t c4 hf
      refine E_iconst 58 0 dX8_isFeature_57 cst_iconst0 rfl ?_
      cases hf
      exact E_zret (v := 0) rfl dX8_isFeature_58 rfl (Nat.le_of_ble_eq_true rfl) (Nat.le_of_ble_eq_true rfl)
    · have hf := ite_e c4 hf
      refine E_iload_n 18 0 dX8_isFeature_17 rfl rfl rfl ?_
      refine E_bipush 20 101 dX8_isFeature_18 cst_bipush101 rfl ?_
      refine E_icmp_eq 57 23 dX8_isFeature_20 (by decide) rfl (fun c5 => ?_) (fun c5 => ?_)
      · have hf := ite_t c5 hf
        refine E_iconst 58 0 dX8_isFeature_57 cst_iconst0 rfl ?_
        cases hf
        exact E_zret (v := 0) rfl dX8_isFeature_58 rfl (Nat.le_of_ble_eq_true rfl) (Nat.le_of_ble_eq_true rfl)
      · have hf := ite_e c5 hf
        refine E_iload_n 24 0 dX8_isFeature_23 rfl rfl rfl ?_
        refine E_bipush 26 104 dX8_isFeature_24 cst_bipush104 rfl ?_
        refine E_icmp_eq 57 29 dX8_isFeature_26 (by decide) rfl (fun c6 => ?_) (fun c6 => ?_)
        · have hf := ite_t c6 hf
          refine E_iconst 58 0 dX8_isFeature_57 cst_iconst0 rfl ?_
          cases hf
          exact E_zret (v := 0) rfl dX8_isFeature_58 rfl (Nat.le_of_ble_eq_true rfl) (Nat.le_of_ble_eq_true rfl)
        · have hf := ite_e c6 hf
          refine E_iload_n 30 0 dX8_isFeature_29 rfl rfl rfl ?_
          refine E_bipush 32 106 dX8_isFeature_30 cst_bipush106 rfl ?_
          refine E_icmp_eq 57 35 dX8_isFeature_32 (by decide) rfl (fun c7 => ?_) (fun c7 => ?_)
          · have hf := ite_t c7 hf
            refine E_iconst 58 0 dX8_isFeature_57 cst_iconst0 rfl ?_
            cases hf
            exact E_zret (v := 0) rfl dX8_isFeature_58 rfl (Nat.le_of_ble_eq_true rfl) (Nat.le_of_ble_eq_true rfl)
          · have hf := ite_e c7 hf
            refine E_iload_n 36 0 dX8_isFeature_35 rfl rfl rfl ?_
            refine E_bipush 38 111 dX8_isFeature_36 cst_bipush111 rfl ?_
            refine E_icmp_eq 57 41 dX8_isFeature_38 (by decide) rfl (fun c8 => ?_) (fun c8 => ?_)
            · have hf := ite_t c8 hf
              refine E_iconst 58 0 dX8_isFeature_57 cst_iconst0 rfl ?_
              cases hf
              exact E_zret (v := 0) rfl dX8_isFeature_58 rfl (Nat.le_of_ble_eq_true rfl) (Nat.le_of_ble_eq_true rfl)
            · have hf := ite_e c8 hf
              refine E_iload_n 42 0 dX8_isFeature_41 rfl rfl rfl ?_
              refine E_bipush 44 112 dX8_isFeature_42 cst_bipush112 rfl ?_
              refine E_icmp_eq 57 47 dX8_isFeature_44 (by decide) rfl (fun c9 => ?_) (fun c9 => ?_)
              · have hf := ite_t c9 hf
                refine E_iconst 58 0 dX8_isFeature_57 cst_iconst0 rfl ?_
                cases hf
                exact E_zret (v := 0) rfl dX8_isFeature_58 rfl (Nat.le_of_ble_eq_true rfl) (Nat.le_of_ble_eq_true rfl)
              · have hf := ite_e c9 hf
                refine E_iload_n 48 0 dX8_isFeature_47 rfl rfl rfl ?_
                refine E_bipush 50 116 dX8_isFeature_48 cst_bipush116 rfl ?_
                refine E_icmp_ge 57 53 dX8_isFeature_50 (by decide) rfl (fun c10 => ?_) (fun c10 => ?_)
                · have hf := ite_t c10 hf
                  refine E_iconst 58 0 dX8_isFeature_57 cst_iconst0 rfl ?_
                  cases hf
                  exact E_zret (v := 0) rfl dX8_isFeature_58 rfl (Nat.le_of_ble_eq_true rfl) (Nat.le_of_ble_eq_true rfl)
                · have hf := ite_e c10 hf
                  refine E_iconst 54 1 dX8_isFeature_53 cst_iconst1 rfl ?_
                  refine E_goto 58 dX8_isFeature_54 (by decide) ?_
                  cases hf
                  exact E_zret (v := 1) rfl dX8_isFeature_58 rfl (Nat.le_of_ble_eq_true rfl) (Nat.le_of_ble_eq_true rfl)
