set_option maxRecDepth 100000 in
set_option maxHeartbeats 4000000 in
theorem c_X0_append {l : Launch} {g : Gt} (hl : l.stackTraces = false) {a1 : Int32} {a2 : Int32} {μ : Mm} {ν : Mm} {o : Nat → Int64} {dd : Nat → UInt64} {res : Int32 × Mm} (hf : f_X0_append a1 a2 μ = some res) : CM l g z_X0_append yX0_append [.ref (gaC g 2), .int a1, .int a2] (μ, ν, o, dd) 0 (.inl (some (.int res.1))) (res.2, ν, o, dd) := by
  unfold f_X0_append at hf
  refine CM_of_E rfl rfl (by decide +kernel) rfl (Nat.le_of_ble_eq_true rfl) hl ?_
  refine E_aload_n 1 0 dX0_append_0 rfl rfl rfl ?_
  refine E_getCr 4 fg_X0_9 dX0_append_1 rfl ?_
  refine E_aload_n 5 0 dX0_append_4 rfl rfl rfl ?_
  refine E_getC 8 fg_X0_19 dX0_append_5 rfl ?_
  refine E_iload_n 9 1 dX0_append_8 rfl rfl rfl ?_
  obtain ⟨h1, hf⟩ := chk_some hf
  refine E_castC 10 (k := 3) (n := 20) rfl (by decide) h1 dX0_append_9 rfl ?_
  refine E_aload_n 11 0 dX0_append_10 rfl rfl rfl ?_
  refine E_getCr 14 fg_X0_15 dX0_append_11 rfl ?_
  refine E_aload_n 15 0 dX0_append_14 rfl rfl rfl ?_
  refine E_getC 18 fg_X0_19 dX0_append_15 rfl ?_
  refine E_iload_n 19 2 dX0_append_18 rfl rfl rfl ?_
  obtain ⟨h2, hf⟩ := chk_some hf
  refine E_iastC 20 (k := 4) (n := 20) rfl (by decide) h2 dX0_append_19 rfl ?_
  refine E_aload_n 21 0 dX0_append_20 rfl rfl rfl ?_
  refine E_dup 22 dX0_append_21 rfl rfl ?_
  refine E_getC 25 fg_X0_19 dX0_append_22 rfl ?_
  refine E_dup_x1 26 dX0_append_25 rfl rfl rfl ?_
  refine E_iconst 27 1 dX0_append_26 cst_iconst1 rfl ?_
  refine E_iadd 28 dX0_append_27 rfl ?_
  refine E_putC 31 fp_X0_19 dX0_append_28 rfl ?_
  obtain ⟨mm3, emm3, hf⟩ := setm_some hf
  refine E_memC emm3 ?_
  cases hf
  exact E_iret dX0_append_31 rfl (Nat.le_of_ble_eq_true rfl) (Nat.le_of_ble_eq_true rfl)
set_option maxRecDepth 100000 in
set_option maxHeartbeats 4000000 in
theorem c_X7_open {l : Launch} {g : Gt} (hl : l.stackTraces = false) {a1 : Int32} {μ : Mm} {ν : Mm} {o : Nat → Int64} {dd : Nat → UInt64} {res : Nat × Int32 × Mm} (hf : f_X7_open a1 μ = some res) : CM l g z_X7_open yX7_open [.ref (gaC g 0), .int a1] (μ, ν, o, dd) 1 (oc3 res.1 (some (.int res.2.1))) (res.2.2, ν, o, dd) := by
  unfold f_X7_open at hf
  refine CM_of_E rfl rfl (by decide +kernel) rfl (Nat.le_of_ble_eq_true rfl) hl ?_
  refine E_iload_n 1 1 dX7_open_0 rfl rfl rfl ?_
  refine E_bipush 3 97 dX7_open_1 cst_bipush97 rfl ?_
  refine E_icmp_lt 12 6 dX7_open_3 (by decide) rfl (fun c1 => ?_) (fun c1 => ?_)
  · have hf := ite_t c1 hf
    cases hf
    exact E_throw th_X7_41_45 tx_43 rfl dX7_open_12 dX7_open_15 dX7_open_16 dX7_open_18 dX7_open_21 (Nat.le_of_ble_eq_true rfl) (Nat.le_of_ble_eq_true rfl) (Nat.le_of_ble_eq_true rfl) (Nat.le_of_ble_eq_true rfl) (Nat.le_of_ble_eq_true rfl) (Nat.le_of_ble_eq_true rfl)
  · have hf := ite_e c1 hf
    refine E_iload_n 7 1 dX7_open_6 rfl rfl rfl ?_
    refine E_bipush 9 100 dX7_open_7 cst_bipush100 rfl ?_
    refine E_icmp_le 22 12 dX7_open_9 (by decide) rfl (fun c2 => ?_) (fun c2 => ?_)
    · have hf := ite_t c2 hf
      refine E_aload_n 23 0 dX7_open_22 rfl rfl rfl ?_
      refine E_getCr 26 fg_X7_10 dX7_open_23 rfl ?_
      refine E_getCrN 29 fg_X7_48 dX7_open_26 rfl ?_
      refine E_getCN 32 fg_X7_52 dX7_open_29 rfl ?_
      refine E_bipush 34 20 dX7_open_32 cst_bipush20 rfl ?_
      refine E_icmp_lt 47 37 dX7_open_34 (by decide) rfl (fun c3 => ?_) (fun c3 => ?_)
      · have hf := ite_t c3 hf
        refine E_aload_n 48 0 dX7_open_47 rfl rfl rfl ?_
        refine E_getCr 51 fg_X7_10 dX7_open_48 rfl ?_
        refine E_getCrN 54 fg_X7_48 dX7_open_51 rfl ?_
        refine E_iload_n 55 1 dX7_open_54 rfl rfl rfl ?_
        refine E_aload_n 56 0 dX7_open_55 rfl rfl rfl ?_
        refine E_getCr 59 fg_X7_10 dX7_open_56 rfl ?_
        refine E_getCN 62 fg_X7_62 dX7_open_59 rfl ?_
        obtain ⟨r4, hc5, hf⟩ := bnd hf
        refine E_callVC1 65 0 [] [.int r4.1] (c_X0_append hl hc5) my_X0_append rc_X0 kl_X7_65 rfl rfl (Nat.le_of_ble_eq_true rfl) (rmok rfl) dX7_open_62 rfl rfl rfl ?_
        cases hf
        exact E_iret dX7_open_65 rfl (Nat.le_of_ble_eq_true rfl) (Nat.le_of_ble_eq_true rfl)
      · have hf := ite_e c3 hf
        cases hf
        exact E_throw th_X7_57_61 tx_59 rfl dX7_open_37 dX7_open_40 dX7_open_41 dX7_open_43 dX7_open_46 (Nat.le_of_ble_eq_true rfl) (Nat.le_of_ble_eq_true rfl) (Nat.le_of_ble_eq_true rfl) (Nat.le_of_ble_eq_true rfl) (Nat.le_of_ble_eq_true rfl) (Nat.le_of_ble_eq_true rfl)
    · have hf := ite_e c2 hf
      cases hf
      exact E_throw th_X7_41_45 tx_43 rfl dX7_open_12 dX7_open_15 dX7_open_16 dX7_open_18 dX7_open_21 (Nat.le_of_ble_eq_true rfl) (Nat.le_of_ble_eq_true rfl) (Nat.le_of_ble_eq_true rfl) (Nat.le_of_ble_eq_true rfl) (Nat.le_of_ble_eq_true rfl) (Nat.le_of_ble_eq_true rfl)
set_option maxRecDepth 100000 in
set_option maxHeartbeats 4000000 in
theorem c_L_open_0_o {l : Launch} {g : Gt} (hl : l.stackTraces = false) {a1 : Int32} {μ : Mm} {ν : Mm} {o : Nat → Int64} {dd : Nat → UInt64} {res : Int32 × Mm × (Nat → Int64)} (hf : f_L_open_0_o a1 μ o = some res) : CM l g z_L_open yL_open [.ref (gaC g 0), .int a1, .ref (gao g 0)] (μ, ν, o, dd) 1 (.inl (some (.int res.1))) (res.2.1, ν, res.2.2, dd) := by
  unfold f_L_open_0_o at hf
  refine CM_of_EH rfl rfl (by decide +kernel) rfl (Nat.le_of_ble_eq_true rfl) hl ?_
  refine E_aload_n 1 2 dL_open_0 rfl rfl rfl ?_
  refine E_iconst 2 0 dL_open_1 cst_iconst0 rfl ?_
  refine E_aload_n 3 0 dL_open_2 rfl rfl rfl ?_
  refine E_iload_n 4 1 dL_open_3 rfl rfl rfl ?_
  obtain ⟨r1, hc2, hf⟩ := bnd hf
  refine E_callVC2 7 1 [.int 0, .ref (gao g 0)] [.int r1.2.1, .int 0, .ref (gao g 0)] (c_X7_open hl hc2) my_X7_open rc_X7 kl_L_7 rfl rfl (Nat.le_of_ble_eq_true rfl) (rmok rfl) dL_open_4 rfl rfl rfl (fun z3 => ?_) (fun z3 => ?_)
  · have hf := ite_t z3 hf
    refine E_i2l 8 dL_open_7 rfl ?_
    obtain ⟨h4, hf⟩ := chk_some hf
    refine E_last 9 h4 dL_open_8 rfl ?_
    refine E_goto 18 dL_open_9 (by decide) ?_
    refine E_iconst 19 0 dL_open_18 cst_iconst0 rfl ?_
    cases hf
    exact E_iret dL_open_19 rfl (Nat.le_of_ble_eq_true rfl) (Nat.le_of_ble_eq_true rfl)
  · have hf := ite_e z3 hf
    by_cases k5 : r1.1 = 4
    · rw [k5]
      have hf := ite_t k5 hf
      refine EX_catch (X := "java/lang/IllegalArgumentException") [] [(0, 9, 15, 15)] 0 9 12 13 rfl (fun _ h => nomatch h) ⟨by decide, by decide⟩ (by decide) kk_L_13 kt_java_lang_IllegalArgumentException (fun q => ?_)
      refine E_astore_n 13 [(3, .ref q), (0, .ref (gaC g 0)), (1, .int a1), (2, .ref (gao g 0))] dL_open_12 rfl (by decide) rfl rfl ?_
      refine E_iconst 14 1 dL_open_13 cst_iconst1 rfl ?_
      cases hf
      exact E_iret dL_open_14 rfl (Nat.le_of_ble_eq_true rfl) (Nat.le_of_ble_eq_true rfl)
    have hf := ite_e k5 hf
    by_cases k6 : r1.1 = 3
    · rw [k6]
      have hf := ite_t k6 hf
      refine EX_catch (X := "java/lang/IllegalStateException") [(0, 9, 12, 13)] [] 0 9 15 15 rfl (List.forall_mem_cons.mpr ⟨⟨_, kk_L_13, nc_9, by decide⟩, fun _ h => nomatch h⟩) ⟨by decide, by decide⟩ (by decide) kk_L_15 kt_java_lang_IllegalStateException (fun q => ?_)
      refine E_astore_n 16 [(3, .ref q), (0, .ref (gaC g 0)), (1, .int a1), (2, .ref (gao g 0))] dL_open_15 rfl (by decide) rfl rfl ?_
      refine E_iconst 17 2 dL_open_16 cst_iconst2 rfl ?_
      cases hf
      exact E_iret dL_open_17 rfl (Nat.le_of_ble_eq_true rfl) (Nat.le_of_ble_eq_true rfl)
    have hf := ite_e k6 hf
    cases hf
set_option maxRecDepth 100000 in
set_option maxHeartbeats 4000000 in
theorem c_X7_requireAccount {l : Launch} {g : Gt} (hl : l.stackTraces = false) {a1 : Int32} {μ : Mm} {ν : Mm} {o : Nat → Int64} {dd : Nat → UInt64} {res : Nat} (hf : f_X7_requireAccount a1 μ = some res) : CM l g z_X7_requireAccount yX7_requireAccount [.ref (gaC g 0), .int a1] (μ, ν, o, dd) 1 (oc3 res none) (μ, ν, o, dd) := by
  unfold f_X7_requireAccount at hf
  refine CM_of_E rfl rfl (by decide +kernel) rfl (Nat.le_of_ble_eq_true rfl) hl ?_
  refine E_iload_n 1 1 dX7_requireAccount_0 rfl rfl rfl ?_
  refine E_if_lt 18 4 dX7_requireAccount_1 (by decide) rfl (fun c1 => ?_) (fun c1 => ?_)
  · have hf := ite_t c1 hf
    cases hf
    exact E_throwW th_X7_257_261 tx_332 rfl dX7_requireAccount_18 dX7_requireAccount_21 dX7_requireAccount_22 dX7_requireAccount_25 dX7_requireAccount_28 (Nat.le_of_ble_eq_true rfl) (Nat.le_of_ble_eq_true rfl) (Nat.le_of_ble_eq_true rfl) (Nat.le_of_ble_eq_true rfl) (Nat.le_of_ble_eq_true rfl) (Nat.le_of_ble_eq_true rfl)
  · have hf := ite_e c1 hf
    refine E_iload_n 5 1 dX7_requireAccount_4 rfl rfl rfl ?_
    refine E_aload_n 6 0 dX7_requireAccount_5 rfl rfl rfl ?_
    refine E_getCr 9 fg_X7_10 dX7_requireAccount_6 rfl ?_
    refine E_getCrN 12 fg_X7_48 dX7_requireAccount_9 rfl ?_
    refine E_getCN 15 fg_X7_52 dX7_requireAccount_12 rfl ?_
    refine E_icmp_lt 29 18 dX7_requireAccount_15 (by decide) rfl (fun c2 => ?_) (fun c2 => ?_)
    · have hf := ite_t c2 hf
      cases hf
      exact E_vret dX7_requireAccount_29 rfl (Nat.le_of_ble_eq_true rfl) (Nat.le_of_ble_eq_true rfl)
    · have hf := ite_e c2 hf
      cases hf
      exact E_throwW th_X7_257_261 tx_332 rfl dX7_requireAccount_18 dX7_requireAccount_21 dX7_requireAccount_22 dX7_requireAccount_25 dX7_requireAccount_28 (Nat.le_of_ble_eq_true rfl) (Nat.le_of_ble_eq_true rfl) (Nat.le_of_ble_eq_true rfl) (Nat.le_of_ble_eq_true rfl) (Nat.le_of_ble_eq_true rfl) (Nat.le_of_ble_eq_true rfl)
set_option maxRecDepth 100000 in
set_option maxHeartbeats 4000000 in
theorem c_X7_hasBit {l : Launch} {g : Gt} (hl : l.stackTraces = false) {a0 : Int32} {a1 : Int32} {μ : Mm} {ν : Mm} {o : Nat → Int64} {dd : Nat → UInt64} {res : Int32} (hf : f_X7_hasBit a0 a1 = some res) : CM l g z_X7_hasBit yX7_hasBit [.int a0, .int a1] (μ, ν, o, dd) 0 (.inl (some (.int res))) (μ, ν, o, dd) := by
  unfold f_X7_hasBit at hf
  refine CM_of_E rfl rfl (by decide +kernel) rfl (Nat.le_of_ble_eq_true rfl) hl ?_
  refine E_iload_n 1 0 dX7_hasBit_0 rfl rfl rfl ?_
  refine E_iload_n 2 1 dX7_hasBit_1 rfl rfl rfl ?_
  refine E_ishr 3 dX7_hasBit_2 rfl ?_
  refine E_iconst 4 1 dX7_hasBit_3 cst_iconst1 rfl ?_
  refine E_iand 5 dX7_hasBit_4 rfl ?_
  refine E_if_eq 12 8 dX7_hasBit_5 (by decide) rfl (fun c1 => ?_) (fun c1 => ?_)
  · have hf := ite_t c1 hf
    refine E_iconst 13 0 dX7_hasBit_12 cst_iconst0 rfl ?_
    cases hf
    exact E_zret (v := 0) rfl dX7_hasBit_13 rfl (Nat.le_of_ble_eq_true rfl) (Nat.le_of_ble_eq_true rfl)
  · have hf := ite_e c1 hf
    refine E_iconst 9 1 dX7_hasBit_8 cst_iconst1 rfl ?_
    refine E_goto 13 dX7_hasBit_9 (by decide) ?_
    cases hf
    exact E_zret (v := 1) rfl dX7_hasBit_13 rfl (Nat.le_of_ble_eq_true rfl) (Nat.le_of_ble_eq_true rfl)
set_option maxRecDepth 100000 in
set_option maxHeartbeats 4000000 in
theorem c_X7_withBit {l : Launch} {g : Gt} (hl : l.stackTraces = false) {a0 : Int32} {a1 : Int32} {a2 : Int32} {μ : Mm} {ν : Mm} {o : Nat → Int64} {dd : Nat → UInt64} {res : Int32} (hf : f_X7_withBit a0 a1 a2 = some res) : CM l g z_X7_withBit yX7_withBit [.int a0, .int a1, .int a2] (μ, ν, o, dd) 0 (.inl (some (.int res))) (μ, ν, o, dd) := by
  unfold f_X7_withBit at hf
  refine CM_of_E rfl rfl (by decide +kernel) rfl (Nat.le_of_ble_eq_true rfl) hl ?_
  refine E_iload_n 1 2 dX7_withBit_0 rfl rfl rfl ?_
  refine E_if_eq 12 4 dX7_withBit_1 (by decide) rfl (fun c1 => ?_) (fun c1 => ?_)
  · have hf := ite_t c1 hf
    refine E_iload_n 13 0 dX7_withBit_12 rfl rfl rfl ?_
    refine E_iconst 14 1 dX7_withBit_13 cst_iconst1 rfl ?_
    refine E_iload_n 15 1 dX7_withBit_14 rfl rfl rfl ?_
    refine E_ishl 16 dX7_withBit_15 rfl ?_
    refine E_iconst 17 (-1) dX7_withBit_16 cst_iconstn1 rfl ?_
    refine E_ixor 18 dX7_withBit_17 rfl ?_
    refine E_iand 19 dX7_withBit_18 rfl ?_
    cases hf
    exact E_iret dX7_withBit_19 rfl (Nat.le_of_ble_eq_true rfl) (Nat.le_of_ble_eq_true rfl)
  · have hf := ite_e c1 hf
    refine E_iload_n 5 0 dX7_withBit_4 rfl rfl rfl ?_
    refine E_iconst 6 1 dX7_withBit_5 cst_iconst1 rfl ?_
    refine E_iload_n 7 1 dX7_withBit_6 rfl rfl rfl ?_
    refine E_ishl 8 dX7_withBit_7 rfl ?_
    refine E_ior 9 dX7_withBit_8 rfl ?_
    refine E_goto 19 dX7_withBit_9 (by decide) ?_
    cases hf
    exact E_iret dX7_withBit_19 rfl (Nat.le_of_ble_eq_true rfl) (Nat.le_of_ble_eq_true rfl)
set_option maxRecDepth 100000 in
set_option maxHeartbeats 4000000 in
theorem c_X7_setMarked {l : Launch} {g : Gt} (hl : l.stackTraces = false) {a1 : Int32} {a2 : Int32} {μ : Mm} {ν : Mm} {o : Nat → Int64} {dd : Nat → UInt64} {res : Nat × Int32 × Mm} (hf : f_X7_setMarked a1 a2 μ = some res) : CM l g z_X7_setMarked yX7_setMarked [.ref (gaC g 0), .int a1, .int a2] (μ, ν, o, dd) 1 (oc3 res.1 (some (.int res.2.1))) (res.2.2, ν, o, dd) := by
  unfold f_X7_setMarked at hf
  refine CM_of_E rfl rfl (by decide +kernel) rfl (Nat.le_of_ble_eq_true rfl) hl ?_
  refine E_aload_n 1 0 dX7_setMarked_0 rfl rfl rfl ?_
  refine E_iload_n 2 1 dX7_setMarked_1 rfl rfl rfl ?_
  obtain ⟨r1, hc2, hf⟩ := bnd hf
  refine E_callVC2 5 1 [] [] (c_X7_requireAccount hl hc2) my_X7_requireAccount rc_X7 kl_X7_69 rfl rfl (Nat.le_of_ble_eq_true rfl) (rmok rfl) dX7_setMarked_2 rfl rfl rfl (fun z3 => ?_) (fun z3 => ?_)
  · have hf := ite_t z3 hf
    refine E_aload_n 6 0 dX7_setMarked_5 rfl rfl rfl ?_
    refine E_getCr 9 fg_X7_10 dX7_setMarked_6 rfl ?_
    refine E_getCrN 12 fg_X7_48 dX7_setMarked_9 rfl ?_
    refine E_getCN 15 fg_X7_73 dX7_setMarked_12 rfl ?_
    refine E_iload_n 16 1 dX7_setMarked_15 rfl rfl rfl ?_
    obtain ⟨r4, hc5, hf⟩ := bnd hf
    refine E_callS1 19 1 [] [.int r4] (c_X7_hasBit hl hc5) my_X7_hasBit kl_X7_76 rfl rfl (Nat.le_of_ble_eq_true rfl) (rmok rfl) dX7_setMarked_16 rfl rfl rfl ?_
    refine E_istore_n 20 [(3, .int r4), (0, .ref (gaC g 0)), (1, .int a1), (2, .int a2)] dX7_setMarked_19 rfl (by decide) rfl rfl ?_
    refine E_aload_n 21 1 dX7_setMarked_20 rfl rfl rfl ?_
    refine E_getCr 24 fg_X7_10 dX7_setMarked_21 rfl ?_
    refine E_getCrN 27 fg_X7_48 dX7_setMarked_24 rfl ?_
    refine E_aload_n 28 1 dX7_setMarked_27 rfl rfl rfl ?_
    refine E_getCr 31 fg_X7_10 dX7_setMarked_28 rfl ?_
    refine E_getCrN 34 fg_X7_48 dX7_setMarked_31 rfl ?_
    refine E_getCN 37 fg_X7_73 dX7_setMarked_34 rfl ?_
    refine E_iload_n 38 2 dX7_setMarked_37 rfl rfl rfl ?_
    refine E_iload_n 39 3 dX7_setMarked_38 rfl rfl rfl ?_
    obtain ⟨r6, hc7, hf⟩ := bnd hf
    refine E_callS1 42 1 [.ref (gaC g 2)] [.int r6, .ref (gaC g 2)] (c_X7_withBit hl hc7) my_X7_withBit kl_X7_80 rfl rfl (Nat.le_of_ble_eq_true rfl) (rmok rfl) dX7_setMarked_39 rfl rfl rfl ?_
    refine E_putCN 45 fp_X7_73 dX7_setMarked_42 rfl ?_
    refine E_iload_n 46 0 dX7_setMarked_45 rfl rfl rfl ?_
    obtain ⟨h8, hf⟩ := gn_z hf
    cases hf
    exact E_zret h8 dX7_setMarked_46 rfl (Nat.le_of_ble_eq_true rfl) (Nat.le_of_ble_eq_true rfl)
  · have hf := ite_e z3 hf
    cases hf
    exact EX_outc rfl z3 (Nat.le_of_ble_eq_true rfl) (Nat.le_of_ble_eq_true rfl)
set_option maxRecDepth 100000 in
set_option maxHeartbeats 4000000 in
theorem c_L_setMarked_0_o {l : Launch} {g : Gt} (hl : l.stackTraces = false) {a1 : Int32} {a2 : Int32} {μ : Mm} {ν : Mm} {o : Nat → Int64} {dd : Nat → UInt64} {res : Int32 × Mm × (Nat → Int64)} (hf : f_L_setMarked_0_o a1 a2 μ o = some res) : CM l g z_L_setMarked yL_setMarked [.ref (gaC g 0), .int a1, .int a2, .ref (gao g 0)] (μ, ν, o, dd) 1 (.inl (some (.int res.1))) (res.2.1, ν, res.2.2, dd) := by
  unfold f_L_setMarked_0_o at hf
  refine CM_of_EH rfl rfl (by decide +kernel) rfl (Nat.le_of_ble_eq_true rfl) hl ?_
  refine E_aload_n 1 3 dL_setMarked_0 rfl rfl rfl ?_
  refine E_iconst 2 0 dL_setMarked_1 cst_iconst0 rfl ?_
  refine E_aload_n 3 0 dL_setMarked_2 rfl rfl rfl ?_
  refine E_iload_n 4 1 dL_setMarked_3 rfl rfl rfl ?_
  refine E_iload_n 5 2 dL_setMarked_4 rfl rfl rfl ?_
  obtain ⟨r1, hc2, hf⟩ := bnd hf
  refine E_callVC2 8 1 [.int 0, .ref (gao g 0)] [.int r1.2.1, .int 0, .ref (gao g 0)] (c_X7_setMarked hl hc2) my_X7_setMarked rc_X7 kl_L_17 rfl rfl (Nat.le_of_ble_eq_true rfl) (rmok rfl) dL_setMarked_5 rfl rfl rfl (fun z3 => ?_) (fun z3 => ?_)
  · have hf := ite_t z3 hf
    refine E_if_eq 15 11 dL_setMarked_8 (by decide) rfl (fun c4 => ?_) (fun c4 => ?_)
    · have hf := ite_t c4 hf
      refine E_lconst 16 0 dL_setMarked_15 (by decide) rfl ?_
      obtain ⟨h5, hf⟩ := chk_some hf
      refine E_last 17 h5 dL_setMarked_16 rfl ?_
      refine E_goto 24 dL_setMarked_17 (by decide) ?_
      refine E_iconst 25 0 dL_setMarked_24 cst_iconst0 rfl ?_
      cases hf
      exact E_iret dL_setMarked_25 rfl (Nat.le_of_ble_eq_true rfl) (Nat.le_of_ble_eq_true rfl)
    · have hf := ite_e c4 hf
      refine E_lconst 12 1 dL_setMarked_11 (by decide) rfl ?_
      refine E_goto 16 dL_setMarked_12 (by decide) ?_
      obtain ⟨h6, hf⟩ := chk_some hf
      refine E_last 17 h6 dL_setMarked_16 rfl ?_
      refine E_goto 24 dL_setMarked_17 (by decide) ?_
      refine E_iconst 25 0 dL_setMarked_24 cst_iconst0 rfl ?_
      cases hf
      exact E_iret dL_setMarked_25 rfl (Nat.le_of_ble_eq_true rfl) (Nat.le_of_ble_eq_true rfl)
  · have hf := ite_e z3 hf
    by_cases k7 : r1.1 = 1
    · rw [k7]
      have hf := ite_t k7 hf
      refine EX_catch (X := "java/lang/IndexOutOfBoundsException") [] [] 0 17 20 21 rfl (fun _ h => nomatch h) ⟨by decide, by decide⟩ (by decide) kk_L_21 kt_java_lang_IndexOutOfBoundsException (fun q => ?_)
      refine E_astore 22 [(4, .ref q), (0, .ref (gaC g 0)), (1, .int a1), (2, .int a2), (3, .ref (gao g 0))] dL_setMarked_20 (by decide) rfl rfl ?_
      refine E_iconst 23 1 dL_setMarked_22 cst_iconst1 rfl ?_
      cases hf
      exact E_iret dL_setMarked_23 rfl (Nat.le_of_ble_eq_true rfl) (Nat.le_of_ble_eq_true rfl)
    have hf := ite_e k7 hf
    cases hf
set_option maxRecDepth 100000 in
set_option maxHeartbeats 4000000 in
theorem c_X7_setBlocked {l : Launch} {g : Gt} (hl : l.stackTraces = false) {a1 : Int32} {a2 : Int32} {μ : Mm} {ν : Mm} {o : Nat → Int64} {dd : Nat → UInt64} {res : Nat × Int32 × Mm} (hf : f_X7_setBlocked a1 a2 μ = some res) : CM l g z_X7_setBlocked yX7_setBlocked [.ref (gaC g 0), .int a1, .int a2] (μ, ν, o, dd) 1 (oc3 res.1 (some (.int res.2.1))) (res.2.2, ν, o, dd) := by
  unfold f_X7_setBlocked at hf
  refine CM_of_E rfl rfl (by decide +kernel) rfl (Nat.le_of_ble_eq_true rfl) hl ?_
  refine E_aload_n 1 0 dX7_setBlocked_0 rfl rfl rfl ?_
  refine E_iload_n 2 1 dX7_setBlocked_1 rfl rfl rfl ?_
  obtain ⟨r1, hc2, hf⟩ := bnd hf
  refine E_callVC2 5 1 [] [] (c_X7_requireAccount hl hc2) my_X7_requireAccount rc_X7 kl_X7_69 rfl rfl (Nat.le_of_ble_eq_true rfl) (rmok rfl) dX7_setBlocked_2 rfl rfl rfl (fun z3 => ?_) (fun z3 => ?_)
  · have hf := ite_t z3 hf
    refine E_aload_n 6 0 dX7_setBlocked_5 rfl rfl rfl ?_
    refine E_getCr 9 fg_X7_10 dX7_setBlocked_6 rfl ?_
    refine E_getCrN 12 fg_X7_48 dX7_setBlocked_9 rfl ?_
    refine E_getCN 15 fg_X7_84 dX7_setBlocked_12 rfl ?_
    refine E_iload_n 16 1 dX7_setBlocked_15 rfl rfl rfl ?_
    obtain ⟨r4, hc5, hf⟩ := bnd hf
    refine E_callS1 19 1 [] [.int r4] (c_X7_hasBit hl hc5) my_X7_hasBit kl_X7_76 rfl rfl (Nat.le_of_ble_eq_true rfl) (rmok rfl) dX7_setBlocked_16 rfl rfl rfl ?_
    refine E_istore_n 20 [(3, .int r4), (0, .ref (gaC g 0)), (1, .int a1), (2, .int a2)] dX7_setBlocked_19 rfl (by decide) rfl rfl ?_
    refine E_aload_n 21 1 dX7_setBlocked_20 rfl rfl rfl ?_
    refine E_getCr 24 fg_X7_10 dX7_setBlocked_21 rfl ?_
    refine E_getCrN 27 fg_X7_48 dX7_setBlocked_24 rfl ?_
    refine E_aload_n 28 1 dX7_setBlocked_27 rfl rfl rfl ?_
    refine E_getCr 31 fg_X7_10 dX7_setBlocked_28 rfl ?_
    refine E_getCrN 34 fg_X7_48 dX7_setBlocked_31 rfl ?_
    refine E_getCN 37 fg_X7_84 dX7_setBlocked_34 rfl ?_
    refine E_iload_n 38 2 dX7_setBlocked_37 rfl rfl rfl ?_
    refine E_iload_n 39 3 dX7_setBlocked_38 rfl rfl rfl ?_
    obtain ⟨r6, hc7, hf⟩ := bnd hf
    refine E_callS1 42 1 [.ref (gaC g 2)] [.int r6, .ref (gaC g 2)] (c_X7_withBit hl hc7) my_X7_withBit kl_X7_80 rfl rfl (Nat.le_of_ble_eq_true rfl) (rmok rfl) dX7_setBlocked_39 rfl rfl rfl ?_
    refine E_putCN 45 fp_X7_84 dX7_setBlocked_42 rfl ?_
    refine E_iload_n 46 0 dX7_setBlocked_45 rfl rfl rfl ?_
    obtain ⟨h8, hf⟩ := gn_z hf
    cases hf
    exact E_zret h8 dX7_setBlocked_46 rfl (Nat.le_of_ble_eq_true rfl) (Nat.le_of_ble_eq_true rfl)
  · have hf := ite_e z3 hf
    cases hf
    exact EX_outc rfl z3 (Nat.le_of_ble_eq_true rfl) (Nat.le_of_ble_eq_true rfl)
set_option maxRecDepth 100000 in
set_option maxHeartbeats 4000000 in
theorem c_L_setBlocked_0_o {l : Launch} {g : Gt} (hl : l.stackTraces = false) {a1 : Int32} {a2 : Int32} {μ : Mm} {ν : Mm} {o : Nat → Int64} {dd : Nat → UInt64} {res : Int32 × Mm × (Nat → Int64)} (hf : f_L_setBlocked_0_o a1 a2 μ o = some res) : CM l g z_L_setBlocked yL_setBlocked [.ref (gaC g 0), .int a1, .int a2, .ref (gao g 0)] (μ, ν, o, dd) 1 (.inl (some (.int res.1))) (res.2.1, ν, res.2.2, dd) := by
  unfold f_L_setBlocked_0_o at hf
  refine CM_of_EH rfl rfl (by decide +kernel) rfl (Nat.le_of_ble_eq_true rfl) hl ?_
  refine E_aload_n 1 3 dL_setBlocked_0 rfl rfl rfl ?_
  refine E_iconst 2 0 dL_setBlocked_1 cst_iconst0 rfl ?_
  refine E_aload_n 3 0 dL_setBlocked_2 rfl rfl rfl ?_
  refine E_iload_n 4 1 dL_setBlocked_3 rfl rfl rfl ?_
  refine E_iload_n 5 2 dL_setBlocked_4 rfl rfl rfl ?_
  obtain ⟨r1, hc2, hf⟩ := bnd hf
  refine E_callVC2 8 1 [.int 0, .ref (gao g 0)] [.int r1.2.1, .int 0, .ref (gao g 0)] (c_X7_setBlocked hl hc2) my_X7_setBlocked rc_X7 kl_L_23 rfl rfl (Nat.le_of_ble_eq_true rfl) (rmok rfl) dL_setBlocked_5 rfl rfl rfl (fun z3 => ?_) (fun z3 => ?_)
  · have hf := ite_t z3 hf
    refine E_if_eq 15 11 dL_setBlocked_8 (by decide) rfl (fun c4 => ?_) (fun c4 => ?_)
    · have hf := ite_t c4 hf
      refine E_lconst 16 0 dL_setBlocked_15 (by decide) rfl ?_
      obtain ⟨h5, hf⟩ := chk_some hf
      refine E_last 17 h5 dL_setBlocked_16 rfl ?_
      refine E_goto 24 dL_setBlocked_17 (by decide) ?_
      refine E_iconst 25 0 dL_setBlocked_24 cst_iconst0 rfl ?_
      cases hf
      exact E_iret dL_setBlocked_25 rfl (Nat.le_of_ble_eq_true rfl) (Nat.le_of_ble_eq_true rfl)
    · have hf := ite_e c4 hf
      refine E_lconst 12 1 dL_setBlocked_11 (by decide) rfl ?_
      refine E_goto 16 dL_setBlocked_12 (by decide) ?_
      obtain ⟨h6, hf⟩ := chk_some hf
      refine E_last 17 h6 dL_setBlocked_16 rfl ?_
      refine E_goto 24 dL_setBlocked_17 (by decide) ?_
      refine E_iconst 25 0 dL_setBlocked_24 cst_iconst0 rfl ?_
      cases hf
      exact E_iret dL_setBlocked_25 rfl (Nat.le_of_ble_eq_true rfl) (Nat.le_of_ble_eq_true rfl)
  · have hf := ite_e z3 hf
    by_cases k7 : r1.1 = 1
    · rw [k7]
      have hf := ite_t k7 hf
      refine EX_catch (X := "java/lang/IndexOutOfBoundsException") [] [] 0 17 20 21 rfl (fun _ h => nomatch h) ⟨by decide, by decide⟩ (by decide) kk_L_21 kt_java_lang_IndexOutOfBoundsException (fun q => ?_)
      refine E_astore 22 [(4, .ref q), (0, .ref (gaC g 0)), (1, .int a1), (2, .int a2), (3, .ref (gao g 0))] dL_setBlocked_20 (by decide) rfl rfl ?_
      refine E_iconst 23 1 dL_setBlocked_22 cst_iconst1 rfl ?_
      cases hf
      exact E_iret dL_setBlocked_23 rfl (Nat.le_of_ble_eq_true rfl) (Nat.le_of_ble_eq_true rfl)
    have hf := ite_e k7 hf
    cases hf
set_option maxRecDepth 100000 in
set_option maxHeartbeats 4000000 in
theorem c_X7_isMarked {l : Launch} {g : Gt} (hl : l.stackTraces = false) {a1 : Int32} {μ : Mm} {ν : Mm} {o : Nat → Int64} {dd : Nat → UInt64} {res : Nat × Int32} (hf : f_X7_isMarked a1 μ = some res) : CM l g z_X7_isMarked yX7_isMarked [.ref (gaC g 0), .int a1] (μ, ν, o, dd) 1 (oc3 res.1 (some (.int res.2))) (μ, ν, o, dd) := by
  unfold f_X7_isMarked at hf
  refine CM_of_E rfl rfl (by decide +kernel) rfl (Nat.le_of_ble_eq_true rfl) hl ?_
  refine E_aload_n 1 0 dX7_isMarked_0 rfl rfl rfl ?_
  refine E_iload_n 2 1 dX7_isMarked_1 rfl rfl rfl ?_
  obtain ⟨r1, hc2, hf⟩ := bnd hf
  refine E_callVC2 5 1 [] [] (c_X7_requireAccount hl hc2) my_X7_requireAccount rc_X7 kl_X7_69 rfl rfl (Nat.le_of_ble_eq_true rfl) (rmok rfl) dX7_isMarked_2 rfl rfl rfl (fun z3 => ?_) (fun z3 => ?_)
  · have hf := ite_t z3 hf
    refine E_aload_n 6 0 dX7_isMarked_5 rfl rfl rfl ?_
    refine E_getCr 9 fg_X7_10 dX7_isMarked_6 rfl ?_
    refine E_getCrN 12 fg_X7_48 dX7_isMarked_9 rfl ?_
    refine E_getCN 15 fg_X7_73 dX7_isMarked_12 rfl ?_
    refine E_iload_n 16 1 dX7_isMarked_15 rfl rfl rfl ?_
    obtain ⟨r4, hc5, hf⟩ := bnd hf
    refine E_callS1 19 1 [] [.int r4] (c_X7_hasBit hl hc5) my_X7_hasBit kl_X7_76 rfl rfl (Nat.le_of_ble_eq_true rfl) (rmok rfl) dX7_isMarked_16 rfl rfl rfl ?_
    obtain ⟨h6, hf⟩ := gn_z hf
    cases hf
    exact E_zret h6 dX7_isMarked_19 rfl (Nat.le_of_ble_eq_true rfl) (Nat.le_of_ble_eq_true rfl)
  · have hf := ite_e z3 hf
    cases hf
    exact EX_outc rfl z3 (Nat.le_of_ble_eq_true rfl) (Nat.le_of_ble_eq_true rfl)
set_option maxRecDepth 100000 in
set_option maxHeartbeats 4000000 in
theorem c_L_isMarked_0_o {l : Launch} {g : Gt} (hl : l.stackTraces = false) {a1 : Int32} {μ : Mm} {ν : Mm} {o : Nat → Int64} {dd : Nat → UInt64} {res : Int32 × (Nat → Int64)} (hf : f_L_isMarked_0_o a1 μ o = some res) : CM l g z_L_isMarked yL_isMarked [.ref (gaC g 0), .int a1, .ref (gao g 0)] (μ, ν, o, dd) 1 (.inl (some (.int res.1))) (μ, ν, res.2, dd) := by
  unfold f_L_isMarked_0_o at hf
  refine CM_of_EH rfl rfl (by decide +kernel) rfl (Nat.le_of_ble_eq_true rfl) hl ?_
  refine E_aload_n 1 2 dL_isMarked_0 rfl rfl rfl ?_
  refine E_iconst 2 0 dL_isMarked_1 cst_iconst0 rfl ?_
  refine E_aload_n 3 0 dL_isMarked_2 rfl rfl rfl ?_
  refine E_iload_n 4 1 dL_isMarked_3 rfl rfl rfl ?_
  obtain ⟨r1, hc2, hf⟩ := bnd hf
  refine E_callVC2 7 1 [.int 0, .ref (gao g 0)] [.int r1.2, .int 0, .ref (gao g 0)] (c_X7_isMarked hl hc2) my_X7_isMarked rc_X7 kl_L_26 rfl rfl (Nat.le_of_ble_eq_true rfl) (rmok rfl) dL_isMarked_4 rfl rfl rfl (fun z3 => ?_) (fun z3 => ?_)
  · have hf := ite_t z3 hf
    refine E_if_eq 14 10 dL_isMarked_7 (by decide) rfl (fun c4 => ?_) (fun c4 => ?_)
    · have hf := ite_t c4 hf
      refine E_lconst 15 0 dL_isMarked_14 (by decide) rfl ?_
      obtain ⟨h5, hf⟩ := chk_some hf
      refine E_last 16 h5 dL_isMarked_15 rfl ?_
      refine E_goto 22 dL_isMarked_16 (by decide) ?_
      refine E_iconst 23 0 dL_isMarked_22 cst_iconst0 rfl ?_
      cases hf
      exact E_iret dL_isMarked_23 rfl (Nat.le_of_ble_eq_true rfl) (Nat.le_of_ble_eq_true rfl)
    · have hf := ite_e c4 hf
      refine E_lconst 11 1 dL_isMarked_10 (by decide) rfl ?_
      refine E_goto 15 dL_isMarked_11 (by decide) ?_
      obtain ⟨h6, hf⟩ := chk_some hf
      refine E_last 16 h6 dL_isMarked_15 rfl ?_
      refine E_goto 22 dL_isMarked_16 (by decide) ?_
      refine E_iconst 23 0 dL_isMarked_22 cst_iconst0 rfl ?_
      cases hf
      exact E_iret dL_isMarked_23 rfl (Nat.le_of_ble_eq_true rfl) (Nat.le_of_ble_eq_true rfl)
  · have hf := ite_e z3 hf
    by_cases k7 : r1.1 = 1
    · rw [k7]
      have hf := ite_t k7 hf
      refine EX_catch (X := "java/lang/IndexOutOfBoundsException") [] [] 0 16 19 21 rfl (fun _ h => nomatch h) ⟨by decide, by decide⟩ (by decide) kk_L_21 kt_java_lang_IndexOutOfBoundsException (fun q => ?_)
      refine E_astore_n 20 [(3, .ref q), (0, .ref (gaC g 0)), (1, .int a1), (2, .ref (gao g 0))] dL_isMarked_19 rfl (by decide) rfl rfl ?_
      refine E_iconst 21 1 dL_isMarked_20 cst_iconst1 rfl ?_
      cases hf
      exact E_iret dL_isMarked_21 rfl (Nat.le_of_ble_eq_true rfl) (Nat.le_of_ble_eq_true rfl)
    have hf := ite_e k7 hf
    cases hf
set_option maxRecDepth 100000 in
set_option maxHeartbeats 4000000 in
theorem c_X7_countryOf {l : Launch} {g : Gt} (hl : l.stackTraces = false) {a1 : Int32} {μ : Mm} {ν : Mm} {o : Nat → Int64} {dd : Nat → UInt64} {res : Nat × Int32} (hf : f_X7_countryOf a1 μ = some res) : CM l g z_X7_countryOf yX7_countryOf [.ref (gaC g 0), .int a1] (μ, ν, o, dd) 1 (oc3 res.1 (some (.int res.2))) (μ, ν, o, dd) := by
  unfold f_X7_countryOf at hf
  refine CM_of_E rfl rfl (by decide +kernel) rfl (Nat.le_of_ble_eq_true rfl) hl ?_
  refine E_aload_n 1 0 dX7_countryOf_0 rfl rfl rfl ?_
  refine E_iload_n 2 1 dX7_countryOf_1 rfl rfl rfl ?_
  obtain ⟨r1, hc2, hf⟩ := bnd hf
  refine E_callVC2 5 1 [] [] (c_X7_requireAccount hl hc2) my_X7_requireAccount rc_X7 kl_X7_69 rfl rfl (Nat.le_of_ble_eq_true rfl) (rmok rfl) dX7_countryOf_2 rfl rfl rfl (fun z3 => ?_) (fun z3 => ?_)
  · have hf := ite_t z3 hf
    refine E_aload_n 6 0 dX7_countryOf_5 rfl rfl rfl ?_
    refine E_getCr 9 fg_X7_10 dX7_countryOf_6 rfl ?_
    refine E_getCrN 12 fg_X7_48 dX7_countryOf_9 rfl ?_
    refine E_getCrN 15 fg_X7_87 dX7_countryOf_12 rfl ?_
    refine E_iload_n 16 1 dX7_countryOf_15 rfl rfl rfl ?_
    obtain ⟨h4, hf⟩ := chk_some hf
    refine E_caldC 17 (k := 3) (n := 20) rfl (by decide) h4 dX7_countryOf_16 rfl ?_
    obtain ⟨h5, hf⟩ := gn_c hf
    cases hf
    exact E_zret h5 dX7_countryOf_17 rfl (Nat.le_of_ble_eq_true rfl) (Nat.le_of_ble_eq_true rfl)
  · have hf := ite_e z3 hf
    cases hf
    exact EX_outc rfl z3 (Nat.le_of_ble_eq_true rfl) (Nat.le_of_ble_eq_true rfl)
set_option maxRecDepth 100000 in
set_option maxHeartbeats 4000000 in
theorem c_L_countryOf_0_o {l : Launch} {g : Gt} (hl : l.stackTraces = false) {a1 : Int32} {μ : Mm} {ν : Mm} {o : Nat → Int64} {dd : Nat → UInt64} {res : Int32 × (Nat → Int64)} (hf : f_L_countryOf_0_o a1 μ o = some res) : CM l g z_L_countryOf yL_countryOf [.ref (gaC g 0), .int a1, .ref (gao g 0)] (μ, ν, o, dd) 1 (.inl (some (.int res.1))) (μ, ν, res.2, dd) := by
  unfold f_L_countryOf_0_o at hf
  refine CM_of_EH rfl rfl (by decide +kernel) rfl (Nat.le_of_ble_eq_true rfl) hl ?_
  refine E_aload_n 1 2 dL_countryOf_0 rfl rfl rfl ?_
  refine E_iconst 2 0 dL_countryOf_1 cst_iconst0 rfl ?_
  refine E_aload_n 3 0 dL_countryOf_2 rfl rfl rfl ?_
  refine E_iload_n 4 1 dL_countryOf_3 rfl rfl rfl ?_
  obtain ⟨r1, hc2, hf⟩ := bnd hf
  refine E_callVC2 7 1 [.int 0, .ref (gao g 0)] [.int r1.2, .int 0, .ref (gao g 0)] (c_X7_countryOf hl hc2) my_X7_countryOf rc_X7 kl_L_30 rfl rfl (Nat.le_of_ble_eq_true rfl) (rmok rfl) dL_countryOf_4 rfl rfl rfl (fun z3 => ?_) (fun z3 => ?_)
  · have hf := ite_t z3 hf
    refine E_i2l 8 dL_countryOf_7 rfl ?_
    obtain ⟨h4, hf⟩ := chk_some hf
    refine E_last 9 h4 dL_countryOf_8 rfl ?_
    refine E_goto 15 dL_countryOf_9 (by decide) ?_
    refine E_iconst 16 0 dL_countryOf_15 cst_iconst0 rfl ?_
    cases hf
    exact E_iret dL_countryOf_16 rfl (Nat.le_of_ble_eq_true rfl) (Nat.le_of_ble_eq_true rfl)
  · have hf := ite_e z3 hf
    by_cases k5 : r1.1 = 1
    · rw [k5]
      have hf := ite_t k5 hf
      refine EX_catch (X := "java/lang/IndexOutOfBoundsException") [] [] 0 9 12 21 rfl (fun _ h => nomatch h) ⟨by decide, by decide⟩ (by decide) kk_L_21 kt_java_lang_IndexOutOfBoundsException (fun q => ?_)
      refine E_astore_n 13 [(3, .ref q), (0, .ref (gaC g 0)), (1, .int a1), (2, .ref (gao g 0))] dL_countryOf_12 rfl (by decide) rfl rfl ?_
      refine E_iconst 14 1 dL_countryOf_13 cst_iconst1 rfl ?_
      cases hf
      exact E_iret dL_countryOf_14 rfl (Nat.le_of_ble_eq_true rfl) (Nat.le_of_ble_eq_true rfl)
    have hf := ite_e k5 hf
    cases hf
set_option maxRecDepth 100000 in
set_option maxHeartbeats 4000000 in
theorem l_X4_firstAfter_L2 {l : Launch} {g : Gt} (hl : l.stackTraces = false) {μ : Mm} {ν : Mm} {o : Nat → Int64} {dd : Nat → UInt64} {kx26 : (Int32 → Option (Int32))} {x1 : Int32} {res : Int32} (hx26 : ∀ (w3 : Int32), kx26 w3 = some res → E l g z_X4_firstAfter 26 [(3, .int w3)] [] (μ, ν, o, dd) 0 (QM g (.inl (some (.int res))) (μ, ν, o, dd) 0)) : ∀ (n : Nat) (x3 : Int32) , f_X4_firstAfter_L2 kx26 x1 μ n x3 = some res → E l g z_X4_firstAfter 2 [(0, .ref (gaC g 5)), (1, .int x1), (3, .int x3)] [] (μ, ν, o, dd) 0 (QM g (.inl (some (.int res))) (μ, ν, o, dd) 0) := by
  intro n
  induction n with
  | zero => intro x3 hf; cases hf
  | succ n ih =>
    intro x3 hf
    refine E_iload_n 3 2 dX4_firstAfter_2 rfl rfl rfl ?_
    refine E_aload_n 4 0 dX4_firstAfter_3 rfl rfl rfl ?_
    refine E_getC 7 fg_X4_24 dX4_firstAfter_4 rfl ?_
    refine E_icmp_ge 26 10 dX4_firstAfter_7 (by decide) rfl (fun c1 => ?_) (fun c1 => ?_)
    · have hf := ite_t c1 hf
      refine E_sub [2] rfl ?_
      exact hx26 x3 hf
    · have hf := ite_e c1 hf
      refine E_aload_n 11 0 dX4_firstAfter_10 rfl rfl rfl ?_
      refine E_getCr 14 fg_X4_21 dX4_firstAfter_11 rfl ?_
      refine E_iload_n 15 2 dX4_firstAfter_14 rfl rfl rfl ?_
      obtain ⟨h2, hf⟩ := chk_some hf
      refine E_ialdC 16 (k := 9) (n := 200) rfl (by decide) h2 dX4_firstAfter_15 rfl ?_
      refine E_iload_n 17 1 dX4_firstAfter_16 rfl rfl rfl ?_
      refine E_icmp_gt 26 20 dX4_firstAfter_17 (by decide) rfl (fun c3 => ?_) (fun c3 => ?_)
      · have hf := ite_t c3 hf
        refine E_sub [2] rfl ?_
        exact hx26 x3 hf
      · have hf := ite_e c3 hf
        refine E_iinc 23 [(3, .int (x3 + 1)), (0, .ref (gaC g 5)), (1, .int x1)] 2 (v := x3 + 1) dX4_firstAfter_20 rfl (by rw [cst_iconst1]) (by decide) rfl rfl ?_
        refine E_goto 2 dX4_firstAfter_23 (by decide) ?_
        refine E_sub [1, 2, 0] rfl ?_
        exact ih (x3 + 1) hf
set_option maxRecDepth 100000 in
set_option maxHeartbeats 4000000 in
theorem c_X4_firstAfter {l : Launch} {g : Gt} (hl : l.stackTraces = false) {a1 : Int32} {a2 : Int32} {μ : Mm} {ν : Mm} {o : Nat → Int64} {dd : Nat → UInt64} {res : Int32} (hf : f_X4_firstAfter a1 a2 μ = some res) : CM l g z_X4_firstAfter yX4_firstAfter [.ref (gaC g 5), .int a1, .int a2] (μ, ν, o, dd) 0 (.inl (some (.int res))) (μ, ν, o, dd) := by
  unfold f_X4_firstAfter at hf
  refine CM_of_E rfl rfl (by decide +kernel) rfl (Nat.le_of_ble_eq_true rfl) hl ?_
  refine E_iload_n 1 2 dX4_firstAfter_0 rfl rfl rfl ?_
  refine E_istore_n 2 [(3, .int a2), (0, .ref (gaC g 5)), (1, .int a1), (2, .int a2)] dX4_firstAfter_1 rfl (by decide) rfl rfl ?_
  refine E_sub [1, 2, 0] rfl ?_
  refine l_X4_firstAfter_L2 hl (fun y4 hf => ?_) _ _ hf
  · refine E_iload_n 27 0 dX4_firstAfter_26 rfl rfl rfl ?_
    cases hf
    exact E_iret dX4_firstAfter_27 rfl (Nat.le_of_ble_eq_true rfl) (Nat.le_of_ble_eq_true rfl)
set_option maxRecDepth 100000 in
set_option maxHeartbeats 4000000 in
theorem c_X1_advance {l : Launch} {g : Gt} (hl : l.stackTraces = false) {a1 : Int32} {μ : Mm} {ν : Mm} {o : Nat → Int64} {dd : Nat → UInt64} {res : Mm} (hf : f_X1_advance a1 μ = some res) : CM l g z_X1_advance yX1_advance [.ref (gaC g 1), .int a1] (μ, ν, o, dd) 0 (.inl none) (res, ν, o, dd) := by
  unfold f_X1_advance at hf
  refine CM_of_E rfl rfl (by decide +kernel) rfl (Nat.le_of_ble_eq_true rfl) hl ?_
  refine E_aload_n 1 0 dX1_advance_0 rfl rfl rfl ?_
  refine E_dup 2 dX1_advance_1 rfl rfl ?_
  refine E_getC 5 fg_X1_36 dX1_advance_2 rfl ?_
  refine E_iload_n 6 1 dX1_advance_5 rfl rfl rfl ?_
  refine E_iadd 7 dX1_advance_6 rfl ?_
  refine E_putC 10 fp_X1_36 dX1_advance_7 rfl ?_
  refine E_aload_n 11 0 dX1_advance_10 rfl rfl rfl ?_
  refine E_aload_n 12 0 dX1_advance_11 rfl rfl rfl ?_
  refine E_getCr 15 fg_X1_21 dX1_advance_12 rfl ?_
  refine E_aload_n 16 0 dX1_advance_15 rfl rfl rfl ?_
  refine E_getC 19 fg_X1_36 dX1_advance_16 rfl ?_
  refine E_sipush 22 10080 dX1_advance_19 cst_sipush10080 rfl ?_
  refine E_isub 23 dX1_advance_22 rfl ?_
  refine E_aload_n 24 0 dX1_advance_23 rfl rfl rfl ?_
  refine E_getC 27 fg_X1_40 dX1_advance_24 rfl ?_
  obtain ⟨r1, hc2, hf⟩ := bnd hf
  refine E_callVC1 30 0 [.ref (gaC g 1)] [.int r1, .ref (gaC g 1)] (c_X4_firstAfter hl hc2) my_X4_firstAfter rc_X4 kl_X1_43 rfl rfl (Nat.le_of_ble_eq_true rfl) (rmok rfl) dX1_advance_27 rfl rfl rfl ?_
  refine E_putC 33 fp_X1_40 dX1_advance_30 rfl ?_
  cases hf
  exact E_vret dX1_advance_33 rfl (Nat.le_of_ble_eq_true rfl) (Nat.le_of_ble_eq_true rfl)
set_option maxRecDepth 100000 in
set_option maxHeartbeats 4000000 in
theorem c_X7_pass {l : Launch} {g : Gt} (hl : l.stackTraces = false) {a1 : Int32} {μ : Mm} {ν : Mm} {o : Nat → Int64} {dd : Nat → UInt64} {res : Nat × Int32 × Mm} (hf : f_X7_pass a1 μ = some res) : CM l g z_X7_pass yX7_pass [.ref (gaC g 0), .int a1] (μ, ν, o, dd) 1 (oc3 res.1 (some (.int res.2.1))) (res.2.2, ν, o, dd) := by
  unfold f_X7_pass at hf
  refine CM_of_E rfl rfl (by decide +kernel) rfl (Nat.le_of_ble_eq_true rfl) hl ?_
  refine E_iload_n 1 1 dX7_pass_0 rfl rfl rfl ?_
  refine E_iconst 2 1 dX7_pass_1 cst_iconst1 rfl ?_
  refine E_icmp_lt 12 5 dX7_pass_2 (by decide) rfl (fun c1 => ?_) (fun c1 => ?_)
  · have hf := ite_t c1 hf
    cases hf
    exact E_throw th_X7_41_45 tx_91 rfl dX7_pass_12 dX7_pass_15 dX7_pass_16 dX7_pass_18 dX7_pass_21 (Nat.le_of_ble_eq_true rfl) (Nat.le_of_ble_eq_true rfl) (Nat.le_of_ble_eq_true rfl) (Nat.le_of_ble_eq_true rfl) (Nat.le_of_ble_eq_true rfl) (Nat.le_of_ble_eq_true rfl)
  · have hf := ite_e c1 hf
    refine E_iload_n 6 1 dX7_pass_5 rfl rfl rfl ?_
    refine E_sipush 9 1440 dX7_pass_6 cst_sipush1440 rfl ?_
    refine E_icmp_le 22 12 dX7_pass_9 (by decide) rfl (fun c2 => ?_) (fun c2 => ?_)
    · have hf := ite_t c2 hf
      refine E_aload_n 23 0 dX7_pass_22 rfl rfl rfl ?_
      refine E_getCr 26 fg_X7_10 dX7_pass_23 rfl ?_
      refine E_iload_n 27 1 dX7_pass_26 rfl rfl rfl ?_
      obtain ⟨r3, hc4, hf⟩ := bnd hf
      refine E_callVC1 30 0 [] [] (c_X1_advance hl hc4) my_X1_advance rc_X1 kl_X7_93 rfl rfl (Nat.le_of_ble_eq_true rfl) (rmok rfl) dX7_pass_27 rfl rfl rfl ?_
      refine E_aload_n 31 0 dX7_pass_30 rfl rfl rfl ?_
      refine E_getCr 34 fg_X7_10 dX7_pass_31 rfl ?_
      refine E_getCN 37 fg_X7_62 dX7_pass_34 rfl ?_
      cases hf
      exact E_iret dX7_pass_37 rfl (Nat.le_of_ble_eq_true rfl) (Nat.le_of_ble_eq_true rfl)
    · have hf := ite_e c2 hf
      cases hf
      exact E_throw th_X7_41_45 tx_91 rfl dX7_pass_12 dX7_pass_15 dX7_pass_16 dX7_pass_18 dX7_pass_21 (Nat.le_of_ble_eq_true rfl) (Nat.le_of_ble_eq_true rfl) (Nat.le_of_ble_eq_true rfl) (Nat.le_of_ble_eq_true rfl) (Nat.le_of_ble_eq_true rfl) (Nat.le_of_ble_eq_true rfl)
set_option maxRecDepth 100000 in
set_option maxHeartbeats 4000000 in
theorem c_L_pass_0_o {l : Launch} {g : Gt} (hl : l.stackTraces = false) {a1 : Int32} {μ : Mm} {ν : Mm} {o : Nat → Int64} {dd : Nat → UInt64} {res : Int32 × Mm × (Nat → Int64)} (hf : f_L_pass_0_o a1 μ o = some res) : CM l g z_L_pass yL_pass [.ref (gaC g 0), .int a1, .ref (gao g 0)] (μ, ν, o, dd) 1 (.inl (some (.int res.1))) (res.2.1, ν, res.2.2, dd) := by
  unfold f_L_pass_0_o at hf
  refine CM_of_EH rfl rfl (by decide +kernel) rfl (Nat.le_of_ble_eq_true rfl) hl ?_
  refine E_aload_n 1 2 dL_pass_0 rfl rfl rfl ?_
  refine E_iconst 2 0 dL_pass_1 cst_iconst0 rfl ?_
  refine E_aload_n 3 0 dL_pass_2 rfl rfl rfl ?_
  refine E_iload_n 4 1 dL_pass_3 rfl rfl rfl ?_
  obtain ⟨r1, hc2, hf⟩ := bnd hf
  refine E_callVC2 7 1 [.int 0, .ref (gao g 0)] [.int r1.2.1, .int 0, .ref (gao g 0)] (c_X7_pass hl hc2) my_X7_pass rc_X7 kl_L_34 rfl rfl (Nat.le_of_ble_eq_true rfl) (rmok rfl) dL_pass_4 rfl rfl rfl (fun z3 => ?_) (fun z3 => ?_)
  · have hf := ite_t z3 hf
    refine E_i2l 8 dL_pass_7 rfl ?_
    obtain ⟨h4, hf⟩ := chk_some hf
    refine E_last 9 h4 dL_pass_8 rfl ?_
    refine E_goto 15 dL_pass_9 (by decide) ?_
    refine E_iconst 16 0 dL_pass_15 cst_iconst0 rfl ?_
    cases hf
    exact E_iret dL_pass_16 rfl (Nat.le_of_ble_eq_true rfl) (Nat.le_of_ble_eq_true rfl)
  · have hf := ite_e z3 hf
    by_cases k5 : r1.1 = 4
    · rw [k5]
      have hf := ite_t k5 hf
      refine EX_catch (X := "java/lang/IllegalArgumentException") [] [] 0 9 12 13 rfl (fun _ h => nomatch h) ⟨by decide, by decide⟩ (by decide) kk_L_13 kt_java_lang_IllegalArgumentException (fun q => ?_)
      refine E_astore_n 13 [(3, .ref q), (0, .ref (gaC g 0)), (1, .int a1), (2, .ref (gao g 0))] dL_pass_12 rfl (by decide) rfl rfl ?_
      refine E_iconst 14 1 dL_pass_13 cst_iconst1 rfl ?_
      cases hf
      exact E_iret dL_pass_14 rfl (Nat.le_of_ble_eq_true rfl) (Nat.le_of_ble_eq_true rfl)
    have hf := ite_e k5 hf
    cases hf
set_option maxRecDepth 100000 in
set_option maxHeartbeats 4000000 in
theorem c_X4_append {l : Launch} {g : Gt} (hl : l.stackTraces = false) {a1 : Int32} {a2 : Int32} {a3 : Int32} {a4 : Int32} {μ : Mm} {ν : Mm} {o : Nat → Int64} {dd : Nat → UInt64} {res : Int32 × Mm} (hf : f_X4_append a1 a2 a3 a4 μ = some res) : CM l g z_X4_append yX4_append [.ref (gaC g 5), .int a1, .int a2, .int a3, .int a4] (μ, ν, o, dd) 0 (.inl (some (.int res.1))) (res.2, ν, o, dd) := by
  unfold f_X4_append at hf
  refine CM_of_E rfl rfl (by decide +kernel) rfl (Nat.le_of_ble_eq_true rfl) hl ?_
  refine E_aload_n 1 0 dX4_append_0 rfl rfl rfl ?_
  refine E_getCr 4 fg_X4_9 dX4_append_1 rfl ?_
  refine E_aload_n 5 0 dX4_append_4 rfl rfl rfl ?_
  refine E_getC 8 fg_X4_24 dX4_append_5 rfl ?_
  refine E_iload_n 9 1 dX4_append_8 rfl rfl rfl ?_
  obtain ⟨h1, hf⟩ := chk_some hf
  refine E_iastC 10 (k := 6) (n := 200) rfl (by decide) h1 dX4_append_9 rfl ?_
  refine E_aload_n 11 0 dX4_append_10 rfl rfl rfl ?_
  refine E_getCr 14 fg_X4_15 dX4_append_11 rfl ?_
  refine E_aload_n 15 0 dX4_append_14 rfl rfl rfl ?_
  refine E_getC 18 fg_X4_24 dX4_append_15 rfl ?_
  refine E_iload_n 19 2 dX4_append_18 rfl rfl rfl ?_
  obtain ⟨h2, hf⟩ := chk_some hf
  refine E_iastC 20 (k := 7) (n := 200) rfl (by decide) h2 dX4_append_19 rfl ?_
  refine E_aload_n 21 0 dX4_append_20 rfl rfl rfl ?_
  refine E_getCr 24 fg_X4_18 dX4_append_21 rfl ?_
  refine E_aload_n 25 0 dX4_append_24 rfl rfl rfl ?_
  refine E_getC 28 fg_X4_24 dX4_append_25 rfl ?_
  refine E_iload_n 29 3 dX4_append_28 rfl rfl rfl ?_
  obtain ⟨h3, hf⟩ := chk_some hf
  refine E_iastC 30 (k := 8) (n := 200) rfl (by decide) h3 dX4_append_29 rfl ?_
  obtain ⟨mm4, emm4, hf⟩ := setm_some hf
  refine E_memC emm4 ?_
  refine E_aload_n 31 0 dX4_append_30 rfl rfl rfl ?_
  refine E_getCr 34 fg_X4_21 dX4_append_31 rfl ?_
  refine E_aload_n 35 0 dX4_append_34 rfl rfl rfl ?_
  refine E_getC 38 fg_X4_24 dX4_append_35 rfl ?_
  refine E_iload 40 4 dX4_append_38 rfl rfl ?_
  obtain ⟨h5, hf⟩ := chk_some hf
  refine E_iastC 41 (k := 9) (n := 200) rfl (by decide) h5 dX4_append_40 rfl ?_
  refine E_aload_n 42 0 dX4_append_41 rfl rfl rfl ?_
  refine E_dup 43 dX4_append_42 rfl rfl ?_
  refine E_getC 46 fg_X4_24 dX4_append_43 rfl ?_
  refine E_dup_x1 47 dX4_append_46 rfl rfl rfl ?_
  refine E_iconst 48 1 dX4_append_47 cst_iconst1 rfl ?_
  refine E_iadd 49 dX4_append_48 rfl ?_
  refine E_putC 52 fp_X4_24 dX4_append_49 rfl ?_
  cases hf
  exact E_iret dX4_append_52 rfl (Nat.le_of_ble_eq_true rfl) (Nat.le_of_ble_eq_true rfl)
set_option maxRecDepth 100000 in
set_option maxHeartbeats 4000000 in
theorem l_X5_load_5_L3 {l : Launch} {g : Gt} (hl : l.stackTraces = false) {ν : Mm} {o : Nat → Int64} {dd : Nat → UInt64} {kx32 : (Mm → Option (Mm))} {x2 : Int32} {x3 : Int32} {res : Mm} (hx32 : ∀  (μ' : Mm), kx32 μ' = some res → E l g z_X5_load 32 [(0, .ref (gaC g 10)), (1, .ref (gaC g 5)), (2, .int x2), (3, .int x3)] [] (μ', ν, o, dd) 0 (QM g (.inl none) (res, ν, o, dd) 0)) : ∀ (n : Nat) (x4 : Int32) (μ : Mm), f_X5_load_5_L3 kx32 x2 x3 n x4 μ = some res → E l g z_X5_load 3 [(0, .ref (gaC g 10)), (1, .ref (gaC g 5)), (2, .int x2), (3, .int x3), (4, .int x4)] [] (μ, ν, o, dd) 0 (QM g (.inl none) (res, ν, o, dd) 0) := by
  intro n
  induction n with
  | zero => intro x4 μ hf; cases hf
  | succ n ih =>
    intro x4 μ hf
    refine E_iload 5 4 dX5_load_3 rfl rfl ?_
    refine E_bipush 7 20 dX5_load_5 cst_bipush20 rfl ?_
    refine E_icmp_ge 32 10 dX5_load_7 (by decide) rfl (fun c1 => ?_) (fun c1 => ?_)
    · have hf := ite_t c1 hf
      refine E_sub [0, 1, 2, 3] rfl ?_
      exact hx32 μ hf
    · have hf := ite_e c1 hf
      refine E_aload_n 11 0 dX5_load_10 rfl rfl rfl ?_
      refine E_getCr 14 fg_X5_9 dX5_load_11 rfl ?_
      refine E_iload 16 4 dX5_load_14 rfl rfl ?_
      refine E_iconst 17 0 dX5_load_16 cst_iconst0 rfl ?_
      obtain ⟨h2, hf⟩ := chk_some hf
      refine E_iastC 18 (k := 11) (n := 20) rfl (by decide) h2 dX5_load_17 rfl ?_
      refine E_aload_n 19 0 dX5_load_18 rfl rfl rfl ?_
      refine E_getCr 22 fg_X5_15 dX5_load_19 rfl ?_
      refine E_iload 24 4 dX5_load_22 rfl rfl ?_
      refine E_iconst 25 0 dX5_load_24 cst_iconst0 rfl ?_
      obtain ⟨h3, hf⟩ := chk_some hf
      refine E_iastC 26 (k := 12) (n := 20) rfl (by decide) h3 dX5_load_25 rfl ?_
      refine E_iinc 29 [(4, .int (x4 + 1)), (0, .ref (gaC g 10)), (1, .ref (gaC g 5)), (2, .int x2), (3, .int x3)] 4 (v := x4 + 1) dX5_load_26 rfl (by rw [cst_iconst1]) (by decide) rfl rfl ?_
      refine E_goto 3 dX5_load_29 (by decide) ?_
      refine E_sub [1, 2, 3, 4, 0] rfl ?_
      exact ih (x4 + 1) (up2 (up2 μ 11 x4.toNatClampNeg 0) 12 x4.toNatClampNeg 0) hf
set_option maxRecDepth 100000 in
set_option maxHeartbeats 4000000 in
theorem l_X5_load_5_L35 {l : Launch} {g : Gt} (hl : l.stackTraces = false) {ν : Mm} {o : Nat → Int64} {dd : Nat → UInt64}  {x3 : Int32} {res : Mm} : ∀ (n : Nat) (x4 : Int32) (μ : Mm), f_X5_load_5_L35 x3 n x4 μ = some res → E l g z_X5_load 35 [(0, .ref (gaC g 10)), (1, .ref (gaC g 5)), (3, .int x3), (4, .int x4)] [] (μ, ν, o, dd) 0 (QM g (.inl none) (res, ν, o, dd) 0) := by
  intro n
  induction n with
  | zero => intro x4 μ hf; cases hf
  | succ n ih =>
    intro x4 μ hf
    refine E_iload 37 3 dX5_load_35 rfl rfl ?_
    refine E_iload_n 38 2 dX5_load_37 rfl rfl rfl ?_
    refine E_icmp_ge 125 41 dX5_load_38 (by decide) rfl (fun c5 => ?_) (fun c5 => ?_)
    · have hf := ite_t c5 hf
      cases hf
      exact E_vret dX5_load_125 rfl (Nat.le_of_ble_eq_true rfl) (Nat.le_of_ble_eq_true rfl)
    · have hf := ite_e c5 hf
      refine E_aload_n 42 1 dX5_load_41 rfl rfl rfl ?_
      refine E_getCrN 45 fg_X5_18 dX5_load_42 rfl ?_
      refine E_iload 47 3 dX5_load_45 rfl rfl ?_
      obtain ⟨h6, hf⟩ := chk_some hf
      refine E_ialdC 48 (k := 6) (n := 200) rfl (by decide) h6 dX5_load_47 rfl ?_
      refine E_istore 50 [(5, .int (μ 6 x4.toNatClampNeg)), (0, .ref (gaC g 10)), (1, .ref (gaC g 5)), (3, .int x3), (4, .int x4)] dX5_load_48 (by decide) rfl rfl ?_
      refine E_aload_n 51 2 dX5_load_50 rfl rfl rfl ?_
      refine E_getCrN 54 fg_X5_23 dX5_load_51 rfl ?_
      refine E_iload 56 4 dX5_load_54 rfl rfl ?_
      obtain ⟨h7, hf⟩ := chk_some hf
      refine E_ialdC 57 (k := 7) (n := 200) rfl (by decide) h7 dX5_load_56 rfl ?_
      refine E_istore 59 [(6, .int (μ 7 x4.toNatClampNeg)), (5, .int (μ 6 x4.toNatClampNeg)), (0, .ref (gaC g 10)), (1, .ref (gaC g 5)), (3, .int x3), (4, .int x4)] dX5_load_57 (by decide) rfl rfl ?_
      refine E_aload_n 60 2 dX5_load_59 rfl rfl rfl ?_
      refine E_getCr 63 fg_X5_9 dX5_load_60 rfl ?_
      refine E_iload 65 1 dX5_load_63 rfl rfl ?_
      refine E_aload_n 66 2 dX5_load_65 rfl rfl rfl ?_
      refine E_getCr 69 fg_X5_9 dX5_load_66 rfl ?_
      refine E_iload 71 1 dX5_load_69 rfl rfl ?_
      obtain ⟨h8, hf⟩ := chk_some hf
      refine E_ialdC 72 (k := 11) (n := 20) rfl (by decide) h8 dX5_load_71 rfl ?_
      refine E_iload 74 0 dX5_load_72 rfl rfl ?_
      refine E_iconst 75 1 dX5_load_74 cst_iconst1 rfl ?_
      obtain ⟨r9, hc10, hf⟩ := bnd hf
      refine E_callSN1 78 0 [.int (μ 6 x4.toNatClampNeg), .ref (gaC g 11)] [.int r9, .int (μ 6 x4.toNatClampNeg), .ref (gaC g 11)] (c_X7_withBit hl hc10) my_X7_withBit kl_X5_26 rfl rfl (Nat.le_of_ble_eq_true rfl) (rmok rfl) dX5_load_75 rfl rfl rfl ?_
      obtain ⟨h11, hf⟩ := chk_some hf
      refine E_iastC 79 (k := 11) (n := 20) rfl (by decide) h11 dX5_load_78 rfl ?_
      refine E_aload_n 80 2 dX5_load_79 rfl rfl rfl ?_
      refine E_getCr 83 fg_X5_15 dX5_load_80 rfl ?_
      refine E_iload 85 1 dX5_load_83 rfl rfl ?_
      refine E_aload_n 86 2 dX5_load_85 rfl rfl rfl ?_
      refine E_getCr 89 fg_X5_15 dX5_load_86 rfl ?_
      refine E_iload 91 1 dX5_load_89 rfl rfl ?_
      obtain ⟨h12, hf⟩ := chk_some hf
      refine E_ialdC 92 (k := 12) (n := 20) rfl (by decide) h12 dX5_load_91 rfl ?_
      refine E_iload 94 0 dX5_load_92 rfl rfl ?_
      refine E_iconst 95 1 dX5_load_94 cst_iconst1 rfl ?_
      obtain ⟨r13, hc14, hf⟩ := bnd hf
      refine E_callSN1 98 0 [.int (μ 6 x4.toNatClampNeg), .ref (gaC g 12)] [.int r13, .int (μ 6 x4.toNatClampNeg), .ref (gaC g 12)] (c_X7_withBit hl hc14) my_X7_withBit kl_X5_26 rfl rfl (Nat.le_of_ble_eq_true rfl) (rmok rfl) dX5_load_95 rfl rfl rfl ?_
      obtain ⟨h15, hf⟩ := chk_some hf
      refine E_iastC 99 (k := 12) (n := 20) rfl (by decide) h15 dX5_load_98 rfl ?_
      refine E_aload_n 100 2 dX5_load_99 rfl rfl rfl ?_
      refine E_getCr 103 fg_X5_15 dX5_load_100 rfl ?_
      refine E_iload 105 0 dX5_load_103 rfl rfl ?_
      refine E_aload_n 106 2 dX5_load_105 rfl rfl rfl ?_
      refine E_getCr 109 fg_X5_15 dX5_load_106 rfl ?_
      refine E_iload 111 0 dX5_load_109 rfl rfl ?_
      obtain ⟨h16, hf⟩ := chk_some hf
      refine E_ialdC 112 (k := 12) (n := 20) rfl (by decide) h16 dX5_load_111 rfl ?_
      refine E_iload 114 1 dX5_load_112 rfl rfl ?_
      refine E_iconst 115 1 dX5_load_114 cst_iconst1 rfl ?_
      obtain ⟨r17, hc18, hf⟩ := bnd hf
      refine E_callSN1 118 0 [.int (μ 7 x4.toNatClampNeg), .ref (gaC g 12)] [.int r17, .int (μ 7 x4.toNatClampNeg), .ref (gaC g 12)] (c_X7_withBit hl hc18) my_X7_withBit kl_X5_26 rfl rfl (Nat.le_of_ble_eq_true rfl) (rmok rfl) dX5_load_115 rfl rfl rfl ?_
      obtain ⟨h19, hf⟩ := chk_some hf
      refine E_iastC 119 (k := 12) (n := 20) rfl (by decide) h19 dX5_load_118 rfl ?_
      obtain ⟨mm20, emm20, hf⟩ := setm_some hf
      refine E_memC emm20 ?_
      refine E_iinc 122 [(4, .int (x4 + 1)), (6, .int (μ 7 x4.toNatClampNeg)), (5, .int (μ 6 x4.toNatClampNeg)), (0, .ref (gaC g 10)), (1, .ref (gaC g 5)), (3, .int x3)] 5 (v := x4 + 1) dX5_load_119 rfl (by rw [cst_iconst1]) (by decide) rfl rfl ?_
      refine E_goto 35 dX5_load_122 (by decide) ?_
      refine E_sub [3, 4, 5, 0] rfl ?_
      exact ih (x4 + 1) mm20 hf
set_option maxRecDepth 100000 in
set_option maxHeartbeats 4000000 in
theorem c_X5_load_5 {l : Launch} {g : Gt} (hl : l.stackTraces = false) {a2 : Int32} {a3 : Int32} {μ : Mm} {ν : Mm} {o : Nat → Int64} {dd : Nat → UInt64} {res : Mm} (hf : f_X5_load_5 a2 a3 μ = some res) : CM l g z_X5_load yX5_load [.ref (gaC g 10), .ref (gaC g 5), .int a2, .int a3] (μ, ν, o, dd) 0 (.inl none) (res, ν, o, dd) := by
  unfold f_X5_load_5 at hf
  refine CM_of_E rfl rfl (by decide +kernel) rfl (Nat.le_of_ble_eq_true rfl) hl ?_
  refine E_iconst 1 0 dX5_load_0 cst_iconst0 rfl ?_
  refine E_istore 3 [(4, .int 0), (0, .ref (gaC g 10)), (1, .ref (gaC g 5)), (2, .int a2), (3, .int a3)] dX5_load_1 (by decide) rfl rfl ?_
  refine E_sub [1, 2, 3, 4, 0] rfl ?_
  refine l_X5_load_5_L3 hl (fun m4 hf => ?_) _ _ _ hf
  · refine E_iload_n 33 2 dX5_load_32 rfl rfl rfl ?_
    refine E_istore 35 [(4, .int a2), (0, .ref (gaC g 10)), (1, .ref (gaC g 5)), (2, .int a2), (3, .int a3)] dX5_load_33 (by decide) rfl rfl ?_
    refine E_sub [1, 2, 4, 0] rfl ?_
    refine l_X5_load_5_L35 hl  _ _ _ hf
set_option maxRecDepth 100000 in
set_option maxHeartbeats 4000000 in
theorem c_X1_networkOf {l : Launch} {g : Gt} (hl : l.stackTraces = false) {a1 : Int32} {a2 : Int32} {μ : Mm} {ν : Mm} {o : Nat → Int64} {dd : Nat → UInt64} {res : Mm} (hf : f_X1_networkOf a1 a2 μ = some res) : CM l g z_X1_networkOf yX1_networkOf [.ref (gaC g 1), .int a1, .int a2] (μ, ν, o, dd) 0 (.inl (some (.ref (gaC g 10)))) (res, ν, o, dd) := by
  unfold f_X1_networkOf at hf
  refine CM_of_E rfl rfl (by decide +kernel) rfl (Nat.le_of_ble_eq_true rfl) hl ?_
  refine E_aload_n 1 0 dX1_networkOf_0 rfl rfl rfl ?_
  refine E_getCr 4 fg_X1_28 dX1_networkOf_1 rfl ?_
  refine E_aload_n 5 0 dX1_networkOf_4 rfl rfl rfl ?_
  refine E_getCr 8 fg_X1_21 dX1_networkOf_5 rfl ?_
  refine E_iload_n 9 1 dX1_networkOf_8 rfl rfl rfl ?_
  refine E_iload_n 10 2 dX1_networkOf_9 rfl rfl rfl ?_
  obtain ⟨r1, hc2, hf⟩ := bnd hf
  refine E_callVC1 13 0 [] [] (c_X5_load_5 hl hc2) my_X5_load rc_X5 kl_X1_68 rfl rfl (Nat.le_of_ble_eq_true rfl) (rmok rfl) dX1_networkOf_10 rfl rfl rfl ?_
  refine E_aload_n 14 0 dX1_networkOf_13 rfl rfl rfl ?_
  refine E_getCr 17 fg_X1_28 dX1_networkOf_14 rfl ?_
  cases hf
  exact E_aret dX1_networkOf_17 rfl (Or.inl ⟨_, rfl⟩) (Nat.le_of_ble_eq_true rfl) (Nat.le_of_ble_eq_true rfl)
set_option maxRecDepth 100000 in
set_option maxHeartbeats 4000000 in
theorem l_X5_step_11_L4 {l : Launch} {g : Gt} (hl : l.stackTraces = false) {μ : Mm} {ν : Mm} {o : Nat → Int64} {dd : Nat → UInt64}  {x1 : Int32} {res : Int32} : ∀ (n : Nat) (x2 : Int32) (x3 : Int32) , f_X5_step_11_L4 x1 μ n x2 x3 = some res → E l g z_X5_step 4 [(0, .ref (gaC g 11)), (1, .int x1), (2, .int x2), (3, .int x3)] [] (μ, ν, o, dd) 0 (QM g (.inl (some (.int res))) (μ, ν, o, dd) 0) := by
  intro n
  induction n with
  | zero => intro x2 x3 hf; cases hf
  | succ n ih =>
    intro x2 x3 hf
    refine E_iload_n 5 3 dX5_step_4 rfl rfl rfl ?_
    refine E_aload_n 6 0 dX5_step_5 rfl rfl rfl ?_
    refine E_alenC 7 (k := 11) (n := 20) (t := 0) 20 rfl (by decide) (by decide) rfl dX5_step_6 rfl ?_
    refine E_icmp_ge 30 10 dX5_step_7 (by decide) rfl (fun c1 => ?_) (fun c1 => ?_)
    · have hf := ite_t c1 hf
      refine E_iload_n 31 2 dX5_step_30 rfl rfl rfl ?_
      cases hf
      exact E_iret dX5_step_31 rfl (Nat.le_of_ble_eq_true rfl) (Nat.le_of_ble_eq_true rfl)
    · have hf := ite_e c1 hf
      refine E_iload_n 11 1 dX5_step_10 rfl rfl rfl ?_
      refine E_iload_n 12 3 dX5_step_11 rfl rfl rfl ?_
      obtain ⟨r2, hc3, hf⟩ := bnd hf
      refine E_callSN1 15 0 [] [.int r2] (c_X7_hasBit hl hc3) my_X7_hasBit kl_X5_34 rfl rfl (Nat.le_of_ble_eq_true rfl) (rmok rfl) dX5_step_12 rfl rfl rfl ?_
      refine E_if_eq 24 18 dX5_step_15 (by decide) rfl (fun c4 => ?_) (fun c4 => ?_)
      · have hf := ite_t c4 hf
        refine E_iinc 27 [(3, .int (x3 + 1)), (0, .ref (gaC g 11)), (1, .int x1), (2, .int x2)] 3 (v := x3 + 1) dX5_step_24 rfl (by rw [cst_iconst1]) (by decide) rfl rfl ?_
        refine E_goto 4 dX5_step_27 (by decide) ?_
        refine E_sub [1, 2, 3, 0] rfl ?_
        exact ih x2 (x3 + 1) hf
      · have hf := ite_e c4 hf
        refine E_iload_n 19 2 dX5_step_18 rfl rfl rfl ?_
        refine E_aload_n 20 0 dX5_step_19 rfl rfl rfl ?_
        refine E_iload_n 21 3 dX5_step_20 rfl rfl rfl ?_
        obtain ⟨h5, hf⟩ := chk_some hf
        refine E_ialdC 22 (k := 11) (n := 20) rfl (by decide) h5 dX5_step_21 rfl ?_
        refine E_ior 23 dX5_step_22 rfl ?_
        refine E_istore_n 24 [(2, .int (x2 ||| (μ 11 x3.toNatClampNeg))), (0, .ref (gaC g 11)), (1, .int x1), (3, .int x3)] dX5_step_23 rfl (by decide) rfl rfl ?_
        refine E_iinc 27 [(3, .int (x3 + 1)), (2, .int (x2 ||| (μ 11 x3.toNatClampNeg))), (0, .ref (gaC g 11)), (1, .int x1)] 3 (v := x3 + 1) dX5_step_24 rfl (by rw [cst_iconst1]) (by decide) rfl rfl ?_
        refine E_goto 4 dX5_step_27 (by decide) ?_
        refine E_sub [2, 3, 1, 0] rfl ?_
        exact ih (x2 ||| (μ 11 x3.toNatClampNeg)) (x3 + 1) hf
set_option maxRecDepth 100000 in
set_option maxHeartbeats 4000000 in
theorem c_X5_step_11 {l : Launch} {g : Gt} (hl : l.stackTraces = false) {a1 : Int32} {μ : Mm} {ν : Mm} {o : Nat → Int64} {dd : Nat → UInt64} {res : Int32} (hf : f_X5_step_11 a1 μ = some res) : CM l g z_X5_step yX5_step [.ref (gaC g 11), .int a1] (μ, ν, o, dd) 0 (.inl (some (.int res))) (μ, ν, o, dd) := by
  unfold f_X5_step_11 at hf
  refine CM_of_E rfl rfl (by decide +kernel) rfl (Nat.le_of_ble_eq_true rfl) hl ?_
  refine E_iconst 1 0 dX5_step_0 cst_iconst0 rfl ?_
  refine E_istore_n 2 [(2, .int 0), (0, .ref (gaC g 11)), (1, .int a1)] dX5_step_1 rfl (by decide) rfl rfl ?_
  refine E_iconst 3 0 dX5_step_2 cst_iconst0 rfl ?_
  refine E_istore_n 4 [(3, .int 0), (2, .int 0), (0, .ref (gaC g 11)), (1, .int a1)] dX5_step_3 rfl (by decide) rfl rfl ?_
  refine E_sub [2, 3, 1, 0] rfl ?_
  refine l_X5_step_11_L4 hl  _ _ _ hf
set_option maxRecDepth 100000 in
set_option maxHeartbeats 4000000 in
theorem l_X5_shortestWay_L10 {l : Launch} {g : Gt} (hl : l.stackTraces = false) {μ : Mm} {ν : Mm} {o : Nat → Int64} {dd : Nat → UInt64}  {x2 : Int32} {res : Int32} : ∀ (n : Nat) (x3 : Int32) (x4 : Int32) (x5 : Int32) , f_X5_shortestWay_L10 x2 μ n x3 x4 x5 = some res → E l g z_X5_shortestWay 10 [(0, .ref (gaC g 10)), (2, .int x2), (3, .int x3), (4, .int x4), (5, .int x5)] [] (μ, ν, o, dd) 0 (QM g (.inl (some (.int res))) (μ, ν, o, dd) 0) := by
  intro n
  induction n with
  | zero => intro x3 x4 x5 hf; cases hf
  | succ n ih =>
    intro x3 x4 x5 hf
    refine E_iload 12 4 dX5_shortestWay_10 rfl rfl ?_
    refine E_bipush 14 20 dX5_shortestWay_12 cst_bipush20 rfl ?_
    refine E_icmp_gt 55 17 dX5_shortestWay_14 (by decide) rfl (fun c1 => ?_) (fun c1 => ?_)
    · have hf := ite_t c1 hf
      refine E_iconst 56 (-1) dX5_shortestWay_55 cst_iconstn1 rfl ?_
      cases hf
      exact E_iret dX5_shortestWay_56 rfl (Nat.le_of_ble_eq_true rfl) (Nat.le_of_ble_eq_true rfl)
    · have hf := ite_e c1 hf
      refine E_aload_n 18 0 dX5_shortestWay_17 rfl rfl rfl ?_
      refine E_getCr 21 fg_X5_9 dX5_shortestWay_18 rfl ?_
      refine E_iload 23 3 dX5_shortestWay_21 rfl rfl ?_
      obtain ⟨r2, hc3, hf⟩ := bnd hf
      refine E_callS1 26 0 [] [.int r2] (c_X5_step_11 hl hc3) my_X5_step kl_X5_30 rfl rfl (Nat.le_of_ble_eq_true rfl) (rmok rfl) dX5_shortestWay_23 rfl rfl rfl ?_
      refine E_iload_n 27 2 dX5_shortestWay_26 rfl rfl rfl ?_
      refine E_iconst 28 (-1) dX5_shortestWay_27 cst_iconstn1 rfl ?_
      refine E_ixor 29 dX5_shortestWay_28 rfl ?_
      refine E_iand 30 dX5_shortestWay_29 rfl ?_
      refine E_istore 32 [(4, .int (r2 &&& (x3 ^^^ (-1)))), (0, .ref (gaC g 10)), (2, .int x2), (3, .int x3), (5, .int x5)] dX5_shortestWay_30 (by decide) rfl rfl ?_
      refine E_iload 34 0 dX5_shortestWay_32 rfl rfl ?_
      refine E_iload_n 35 2 dX5_shortestWay_34 rfl rfl rfl ?_
      obtain ⟨r4, hc5, hf⟩ := bnd hf
      refine E_callSN1 38 0 [] [.int r4] (c_X7_hasBit hl hc5) my_X7_hasBit kl_X5_34 rfl rfl (Nat.le_of_ble_eq_true rfl) (rmok rfl) dX5_shortestWay_35 rfl rfl rfl ?_
      refine E_if_eq 44 41 dX5_shortestWay_38 (by decide) rfl (fun c6 => ?_) (fun c6 => ?_)
      · have hf := ite_t c6 hf
        refine E_iload_n 45 3 dX5_shortestWay_44 rfl rfl rfl ?_
        refine E_iload 47 0 dX5_shortestWay_45 rfl rfl ?_
        refine E_ior 48 dX5_shortestWay_47 rfl ?_
        refine E_istore_n 49 [(3, .int (x3 ||| (r2 &&& (x3 ^^^ (-1))))), (4, .int (r2 &&& (x3 ^^^ (-1)))), (0, .ref (gaC g 10)), (2, .int x2), (5, .int x5)] dX5_shortestWay_48 rfl (by decide) rfl rfl ?_
        refine E_iinc 52 [(5, .int (x5 + 1)), (3, .int (x3 ||| (r2 &&& (x3 ^^^ (-1))))), (4, .int (r2 &&& (x3 ^^^ (-1)))), (0, .ref (gaC g 10)), (2, .int x2)] 4 (v := x5 + 1) dX5_shortestWay_49 rfl (by rw [cst_iconst1]) (by decide) rfl rfl ?_
        refine E_goto 10 dX5_shortestWay_52 (by decide) ?_
        refine E_sub [3, 4, 1, 2, 0] rfl ?_
        exact ih (x3 ||| (r2 &&& (x3 ^^^ (-1)))) (r2 &&& (x3 ^^^ (-1))) (x5 + 1) hf
      · have hf := ite_e c6 hf
        refine E_iload 43 4 dX5_shortestWay_41 rfl rfl ?_
        cases hf
        exact E_iret dX5_shortestWay_43 rfl (Nat.le_of_ble_eq_true rfl) (Nat.le_of_ble_eq_true rfl)
set_option maxRecDepth 100000 in
set_option maxHeartbeats 4000000 in
theorem c_X5_shortestWay {l : Launch} {g : Gt} (hl : l.stackTraces = false) {a1 : Int32} {a2 : Int32} {μ : Mm} {ν : Mm} {o : Nat → Int64} {dd : Nat → UInt64} {res : Int32} (hf : f_X5_shortestWay a1 a2 μ = some res) : CM l g z_X5_shortestWay yX5_shortestWay [.ref (gaC g 10), .int a1, .int a2] (μ, ν, o, dd) 0 (.inl (some (.int res))) (μ, ν, o, dd) := by
  unfold f_X5_shortestWay at hf
  refine CM_of_E rfl rfl (by decide +kernel) rfl (Nat.le_of_ble_eq_true rfl) hl ?_
  refine E_iconst 1 0 dX5_shortestWay_0 cst_iconst0 rfl ?_
  refine E_istore_n 2 [(3, .int 0), (0, .ref (gaC g 10)), (1, .int a1), (2, .int a2)] dX5_shortestWay_1 rfl (by decide) rfl rfl ?_
  refine E_iconst 3 1 dX5_shortestWay_2 cst_iconst1 rfl ?_
  refine E_iload_n 4 2 dX5_shortestWay_3 rfl rfl rfl ?_
  refine E_ishl 5 dX5_shortestWay_4 rfl ?_
  refine E_istore 7 [(4, .int (1 <<< (a1 &&& 31))), (3, .int 0), (0, .ref (gaC g 10)), (1, .int a1), (2, .int a2)] dX5_shortestWay_5 (by decide) rfl rfl ?_
  refine E_iconst 8 1 dX5_shortestWay_7 cst_iconst1 rfl ?_
  refine E_istore 10 [(5, .int 1), (4, .int (1 <<< (a1 &&& 31))), (3, .int 0), (0, .ref (gaC g 10)), (1, .int a1), (2, .int a2)] dX5_shortestWay_8 (by decide) rfl rfl ?_
  refine E_sub [3, 5, 2, 1, 0] rfl ?_
  refine l_X5_shortestWay_L10 hl  _ _ _ _ hf
set_option maxRecDepth 100000 in
set_option maxHeartbeats 4000000 in
theorem l_X4_receiversFrom_L6 {l : Launch} {g : Gt} (hl : l.stackTraces = false) {μ : Mm} {ν : Mm} {o : Nat → Int64} {dd : Nat → UInt64}  {x1 : Int32} {x3 : Int32} {res : Int32} : ∀ (n : Nat) (x4 : Int32) (x5 : Int32) , f_X4_receiversFrom_L6 x1 x3 μ n x4 x5 = some res → E l g z_X4_receiversFrom 6 [(0, .ref (gaC g 5)), (1, .int x1), (3, .int x3), (4, .int x4), (5, .int x5)] [] (μ, ν, o, dd) 0 (QM g (.inl (some (.int res))) (μ, ν, o, dd) 0) := by
  intro n
  induction n with
  | zero => intro x4 x5 hf; cases hf
  | succ n ih =>
    intro x4 x5 hf
    refine E_iload 8 4 dX4_receiversFrom_6 rfl rfl ?_
    refine E_iload_n 9 2 dX4_receiversFrom_8 rfl rfl rfl ?_
    refine E_icmp_ge 44 12 dX4_receiversFrom_9 (by decide) rfl (fun c1 => ?_) (fun c1 => ?_)
    · have hf := ite_t c1 hf
      refine E_iload 46 3 dX4_receiversFrom_44 rfl rfl ?_
      cases hf
      exact E_iret dX4_receiversFrom_46 rfl (Nat.le_of_ble_eq_true rfl) (Nat.le_of_ble_eq_true rfl)
    · have hf := ite_e c1 hf
      refine E_aload_n 13 0 dX4_receiversFrom_12 rfl rfl rfl ?_
      refine E_getCr 16 fg_X4_9 dX4_receiversFrom_13 rfl ?_
      refine E_iload 18 4 dX4_receiversFrom_16 rfl rfl ?_
      obtain ⟨h2, hf⟩ := chk_some hf
      refine E_ialdC 19 (k := 6) (n := 200) rfl (by decide) h2 dX4_receiversFrom_18 rfl ?_
      refine E_iload_n 20 1 dX4_receiversFrom_19 rfl rfl rfl ?_
      refine E_icmp_ne 38 23 dX4_receiversFrom_20 (by decide) rfl (fun c3 => ?_) (fun c3 => ?_)
      · have hf := ite_e c3 hf
        refine E_iinc 41 [(5, .int (x5 + 1)), (0, .ref (gaC g 5)), (1, .int x1), (3, .int x3), (4, .int x4)] 4 (v := x5 + 1) dX4_receiversFrom_38 rfl (by rw [cst_iconst1]) (by decide) rfl rfl ?_
        refine E_goto 6 dX4_receiversFrom_41 (by decide) ?_
        refine E_sub [1, 2, 3, 4, 0] rfl ?_
        exact ih x4 (x5 + 1) hf
      · have hf := ite_t c3 hf
        refine E_iload 25 3 dX4_receiversFrom_23 rfl rfl ?_
        refine E_aload_n 26 0 dX4_receiversFrom_25 rfl rfl rfl ?_
        refine E_getCr 29 fg_X4_15 dX4_receiversFrom_26 rfl ?_
        refine E_iload 31 4 dX4_receiversFrom_29 rfl rfl ?_
        obtain ⟨h4, hf⟩ := chk_some hf
        refine E_ialdC 32 (k := 7) (n := 200) rfl (by decide) h4 dX4_receiversFrom_31 rfl ?_
        refine E_iconst 33 1 dX4_receiversFrom_32 cst_iconst1 rfl ?_
        obtain ⟨r5, hc6, hf⟩ := bnd hf
        refine E_callSN1 36 0 [] [.int r5] (c_X7_withBit hl hc6) my_X7_withBit kl_X4_28 rfl rfl (Nat.le_of_ble_eq_true rfl) (rmok rfl) dX4_receiversFrom_33 rfl rfl rfl ?_
        refine E_istore 38 [(4, .int r5), (0, .ref (gaC g 5)), (1, .int x1), (3, .int x3), (5, .int x5)] dX4_receiversFrom_36 (by decide) rfl rfl ?_
        refine E_iinc 41 [(5, .int (x5 + 1)), (4, .int r5), (0, .ref (gaC g 5)), (1, .int x1), (3, .int x3)] 4 (v := x5 + 1) dX4_receiversFrom_38 rfl (by rw [cst_iconst1]) (by decide) rfl rfl ?_
        refine E_goto 6 dX4_receiversFrom_41 (by decide) ?_
        refine E_sub [2, 3, 4, 1, 0] rfl ?_
        exact ih r5 (x5 + 1) hf
set_option maxRecDepth 100000 in
set_option maxHeartbeats 4000000 in
theorem c_X4_receiversFrom {l : Launch} {g : Gt} (hl : l.stackTraces = false) {a1 : Int32} {a2 : Int32} {a3 : Int32} {μ : Mm} {ν : Mm} {o : Nat → Int64} {dd : Nat → UInt64} {res : Int32} (hf : f_X4_receiversFrom a1 a2 a3 μ = some res) : CM l g z_X4_receiversFrom yX4_receiversFrom [.ref (gaC g 5), .int a1, .int a2, .int a3] (μ, ν, o, dd) 0 (.inl (some (.int res))) (μ, ν, o, dd) := by
  unfold f_X4_receiversFrom at hf
  refine CM_of_E rfl rfl (by decide +kernel) rfl (Nat.le_of_ble_eq_true rfl) hl ?_
  refine E_iconst 1 0 dX4_receiversFrom_0 cst_iconst0 rfl ?_
  refine E_istore 3 [(4, .int 0), (0, .ref (gaC g 5)), (1, .int a1), (2, .int a2), (3, .int a3)] dX4_receiversFrom_1 (by decide) rfl rfl ?_
  refine E_iload_n 4 3 dX4_receiversFrom_3 rfl rfl rfl ?_
  refine E_istore 6 [(5, .int a2), (4, .int 0), (0, .ref (gaC g 5)), (1, .int a1), (2, .int a2), (3, .int a3)] dX4_receiversFrom_4 (by decide) rfl rfl ?_
  refine E_sub [2, 3, 5, 1, 0] rfl ?_
  refine l_X4_receiversFrom_L6 hl  _ _ _ hf
set_option maxRecDepth 100000 in
set_option maxHeartbeats 4000000 in
theorem c_J6_bitCount_0f7a4 {l : Launch} {g : Gt} (hl : l.stackTraces = false) {a0 : Int32} {μ : Mm} {ν : Mm} {o : Nat → Int64} {dd : Nat → UInt64} {res : Int32} (hf : f_J6_bitCount_0f7a4 a0 = some res) : CM l g z_J6_bitCount_0f7a4 yJ6_bitCount_0f7a4 [.int a0] (μ, ν, o, dd) 0 (.inl (some (.int res))) (μ, ν, o, dd) := by
  unfold f_J6_bitCount_0f7a4 at hf
  refine CM_of_E rfl rfl (by decide +kernel) rfl (Nat.le_of_ble_eq_true rfl) hl ?_
  refine E_iload_n 1 0 dJ6_bitCount_0f7a4_0 rfl rfl rfl ?_
  refine E_iload_n 2 0 dJ6_bitCount_0f7a4_1 rfl rfl rfl ?_
  refine E_iconst 3 1 dJ6_bitCount_0f7a4_2 cst_iconst1 rfl ?_
  refine E_iushr 4 dJ6_bitCount_0f7a4_3 rfl ?_
  refine E_ldc_w 7 kq_J6_265 dJ6_bitCount_0f7a4_4 rfl ?_
  refine E_iand 8 dJ6_bitCount_0f7a4_7 rfl ?_
  refine E_isub 9 dJ6_bitCount_0f7a4_8 rfl ?_
  refine E_istore_n 10 [(0, .int (a0 - (((a0 : Int32).toUInt32 >>> ((1 : Int32).toUInt32 &&& Int32.toUInt32 31)).toInt32 &&& 1431655765)))] dJ6_bitCount_0f7a4_9 rfl (by decide) rfl rfl ?_
  refine E_iload_n 11 0 dJ6_bitCount_0f7a4_10 rfl rfl rfl ?_
  refine E_ldc_w 14 kq_J6_266 dJ6_bitCount_0f7a4_11 rfl ?_
  refine E_iand 15 dJ6_bitCount_0f7a4_14 rfl ?_
  refine E_iload_n 16 0 dJ6_bitCount_0f7a4_15 rfl rfl rfl ?_
  refine E_iconst 17 2 dJ6_bitCount_0f7a4_16 cst_iconst2 rfl ?_
  refine E_iushr 18 dJ6_bitCount_0f7a4_17 rfl ?_
  refine E_ldc_w 21 kq_J6_266 dJ6_bitCount_0f7a4_18 rfl ?_
  refine E_iand 22 dJ6_bitCount_0f7a4_21 rfl ?_
  refine E_iadd 23 dJ6_bitCount_0f7a4_22 rfl ?_
  refine E_istore_n 24 [(0, .int (((a0 - (((a0 : Int32).toUInt32 >>> ((1 : Int32).toUInt32 &&& Int32.toUInt32 31)).toInt32 &&& 1431655765)) &&& 858993459) + (((a0 - (((a0 : Int32).toUInt32 >>> ((1 : Int32).toUInt32 &&& Int32.toUInt32 31)).toInt32 &&& 1431655765) : Int32).toUInt32 >>> ((2 : Int32).toUInt32 &&& Int32.toUInt32 31)).toInt32 &&& 858993459)))] dJ6_bitCount_0f7a4_23 rfl (by decide) rfl rfl ?_
  refine E_iload_n 25 0 dJ6_bitCount_0f7a4_24 rfl rfl rfl ?_
  refine E_iload_n 26 0 dJ6_bitCount_0f7a4_25 rfl rfl rfl ?_
  refine E_iconst 27 4 dJ6_bitCount_0f7a4_26 cst_iconst4 rfl ?_
  refine E_iushr 28 dJ6_bitCount_0f7a4_27 rfl ?_
  refine E_iadd 29 dJ6_bitCount_0f7a4_28 rfl ?_
  refine E_ldc_w 32 kq_J6_267 dJ6_bitCount_0f7a4_29 rfl ?_
  refine E_iand 33 dJ6_bitCount_0f7a4_32 rfl ?_
  refine E_istore_n 34 [(0, .int (((((a0 - (((a0 : Int32).toUInt32 >>> ((1 : Int32).toUInt32 &&& Int32.toUInt32 31)).toInt32 &&& 1431655765)) &&& 858993459) + (((a0 - (((a0 : Int32).toUInt32 >>> ((1 : Int32).toUInt32 &&& Int32.toUInt32 31)).toInt32 &&& 1431655765) : Int32).toUInt32 >>> ((2 : Int32).toUInt32 &&& Int32.toUInt32 31)).toInt32 &&& 858993459)) + ((((a0 - (((a0 : Int32).toUInt32 >>> ((1 : Int32).toUInt32 &&& Int32.toUInt32 31)).toInt32 &&& 1431655765)) &&& 858993459) + (((a0 - (((a0 : Int32).toUInt32 >>> ((1 : Int32).toUInt32 &&& Int32.toUInt32 31)).toInt32 &&& 1431655765) : Int32).toUInt32 >>> ((2 : Int32).toUInt32 &&& Int32.toUInt32 31)).toInt32 &&& 858993459) : Int32).toUInt32 >>> ((4 : Int32).toUInt32 &&& Int32.toUInt32 31)).toInt32) &&& 252645135))] dJ6_bitCount_0f7a4_33 rfl (by decide) rfl rfl ?_
  refine E_iload_n 35 0 dJ6_bitCount_0f7a4_34 rfl rfl rfl ?_
  refine E_iload_n 36 0 dJ6_bitCount_0f7a4_35 rfl rfl rfl ?_
  refine E_bipush 38 8 dJ6_bitCount_0f7a4_36 cst_bipush8 rfl ?_
  refine E_iushr 39 dJ6_bitCount_0f7a4_38 rfl ?_
  refine E_iadd 40 dJ6_bitCount_0f7a4_39 rfl ?_
  refine E_istore_n 41 [(0, .int ((((((a0 - (((a0 : Int32).toUInt32 >>> ((1 : Int32).toUInt32 &&& Int32.toUInt32 31)).toInt32 &&& 1431655765)) &&& 858993459) + (((a0 - (((a0 : Int32).toUInt32 >>> ((1 : Int32).toUInt32 &&& Int32.toUInt32 31)).toInt32 &&& 1431655765) : Int32).toUInt32 >>> ((2 : Int32).toUInt32 &&& Int32.toUInt32 31)).toInt32 &&& 858993459)) + ((((a0 - (((a0 : Int32).toUInt32 >>> ((1 : Int32).toUInt32 &&& Int32.toUInt32 31)).toInt32 &&& 1431655765)) &&& 858993459) + (((a0 - (((a0 : Int32).toUInt32 >>> ((1 : Int32).toUInt32 &&& Int32.toUInt32 31)).toInt32 &&& 1431655765) : Int32).toUInt32 >>> ((2 : Int32).toUInt32 &&& Int32.toUInt32 31)).toInt32 &&& 858993459) : Int32).toUInt32 >>> ((4 : Int32).toUInt32 &&& Int32.toUInt32 31)).toInt32) &&& 252645135) + ((((((a0 - (((a0 : Int32).toUInt32 >>> ((1 : Int32).toUInt32 &&& Int32.toUInt32 31)).toInt32 &&& 1431655765)) &&& 858993459) + (((a0 - (((a0 : Int32).toUInt32 >>> ((1 : Int32).toUInt32 &&& Int32.toUInt32 31)).toInt32 &&& 1431655765) : Int32).toUInt32 >>> ((2 : Int32).toUInt32 &&& Int32.toUInt32 31)).toInt32 &&& 858993459)) + ((((a0 - (((a0 : Int32).toUInt32 >>> ((1 : Int32).toUInt32 &&& Int32.toUInt32 31)).toInt32 &&& 1431655765)) &&& 858993459) + (((a0 - (((a0 : Int32).toUInt32 >>> ((1 : Int32).toUInt32 &&& Int32.toUInt32 31)).toInt32 &&& 1431655765) : Int32).toUInt32 >>> ((2 : Int32).toUInt32 &&& Int32.toUInt32 31)).toInt32 &&& 858993459) : Int32).toUInt32 >>> ((4 : Int32).toUInt32 &&& Int32.toUInt32 31)).toInt32) &&& 252645135 : Int32).toUInt32 >>> ((8 : Int32).toUInt32 &&& Int32.toUInt32 31)).toInt32))] dJ6_bitCount_0f7a4_40 rfl (by decide) rfl rfl ?_
  refine E_iload_n 42 0 dJ6_bitCount_0f7a4_41 rfl rfl rfl ?_
  refine E_iload_n 43 0 dJ6_bitCount_0f7a4_42 rfl rfl rfl ?_
  refine E_bipush 45 16 dJ6_bitCount_0f7a4_43 cst_bipush16 rfl ?_
  refine E_iushr 46 dJ6_bitCount_0f7a4_45 rfl ?_
  refine E_iadd 47 dJ6_bitCount_0f7a4_46 rfl ?_
  refine E_istore_n 48 [(0, .int (((((((a0 - (((a0 : Int32).toUInt32 >>> ((1 : Int32).toUInt32 &&& Int32.toUInt32 31)).toInt32 &&& 1431655765)) &&& 858993459) + (((a0 - (((a0 : Int32).toUInt32 >>> ((1 : Int32).toUInt32 &&& Int32.toUInt32 31)).toInt32 &&& 1431655765) : Int32).toUInt32 >>> ((2 : Int32).toUInt32 &&& Int32.toUInt32 31)).toInt32 &&& 858993459)) + ((((a0 - (((a0 : Int32).toUInt32 >>> ((1 : Int32).toUInt32 &&& Int32.toUInt32 31)).toInt32 &&& 1431655765)) &&& 858993459) + (((a0 - (((a0 : Int32).toUInt32 >>> ((1 : Int32).toUInt32 &&& Int32.toUInt32 31)).toInt32 &&& 1431655765) : Int32).toUInt32 >>> ((2 : Int32).toUInt32 &&& Int32.toUInt32 31)).toInt32 &&& 858993459) : Int32).toUInt32 >>> ((4 : Int32).toUInt32 &&& Int32.toUInt32 31)).toInt32) &&& 252645135) + ((((((a0 - (((a0 : Int32).toUInt32 >>> ((1 : Int32).toUInt32 &&& Int32.toUInt32 31)).toInt32 &&& 1431655765)) &&& 858993459) + (((a0 - (((a0 : Int32).toUInt32 >>> ((1 : Int32).toUInt32 &&& Int32.toUInt32 31)).toInt32 &&& 1431655765) : Int32).toUInt32 >>> ((2 : Int32).toUInt32 &&& Int32.toUInt32 31)).toInt32 &&& 858993459)) + ((((a0 - (((a0 : Int32).toUInt32 >>> ((1 : Int32).toUInt32 &&& Int32.toUInt32 31)).toInt32 &&& 1431655765)) &&& 858993459) + (((a0 - (((a0 : Int32).toUInt32 >>> ((1 : Int32).toUInt32 &&& Int32.toUInt32 31)).toInt32 &&& 1431655765) : Int32).toUInt32 >>> ((2 : Int32).toUInt32 &&& Int32.toUInt32 31)).toInt32 &&& 858993459) : Int32).toUInt32 >>> ((4 : Int32).toUInt32 &&& Int32.toUInt32 31)).toInt32) &&& 252645135 : Int32).toUInt32 >>> ((8 : Int32).toUInt32 &&& Int32.toUInt32 31)).toInt32) + (((((((a0 - (((a0 : Int32).toUInt32 >>> ((1 : Int32).toUInt32 &&& Int32.toUInt32 31)).toInt32 &&& 1431655765)) &&& 858993459) + (((a0 - (((a0 : Int32).toUInt32 >>> ((1 : Int32).toUInt32 &&& Int32.toUInt32 31)).toInt32 &&& 1431655765) : Int32).toUInt32 >>> ((2 : Int32).toUInt32 &&& Int32.toUInt32 31)).toInt32 &&& 858993459)) + ((((a0 - (((a0 : Int32).toUInt32 >>> ((1 : Int32).toUInt32 &&& Int32.toUInt32 31)).toInt32 &&& 1431655765)) &&& 858993459) + (((a0 - (((a0 : Int32).toUInt32 >>> ((1 : Int32).toUInt32 &&& Int32.toUInt32 31)).toInt32 &&& 1431655765) : Int32).toUInt32 >>> ((2 : Int32).toUInt32 &&& Int32.toUInt32 31)).toInt32 &&& 858993459) : Int32).toUInt32 >>> ((4 : Int32).toUInt32 &&& Int32.toUInt32 31)).toInt32) &&& 252645135) + ((((((a0 - (((a0 : Int32).toUInt32 >>> ((1 : Int32).toUInt32 &&& Int32.toUInt32 31)).toInt32 &&& 1431655765)) &&& 858993459) + (((a0 - (((a0 : Int32).toUInt32 >>> ((1 : Int32).toUInt32 &&& Int32.toUInt32 31)).toInt32 &&& 1431655765) : Int32).toUInt32 >>> ((2 : Int32).toUInt32 &&& Int32.toUInt32 31)).toInt32 &&& 858993459)) + ((((a0 - (((a0 : Int32).toUInt32 >>> ((1 : Int32).toUInt32 &&& Int32.toUInt32 31)).toInt32 &&& 1431655765)) &&& 858993459) + (((a0 - (((a0 : Int32).toUInt32 >>> ((1 : Int32).toUInt32 &&& Int32.toUInt32 31)).toInt32 &&& 1431655765) : Int32).toUInt32 >>> ((2 : Int32).toUInt32 &&& Int32.toUInt32 31)).toInt32 &&& 858993459) : Int32).toUInt32 >>> ((4 : Int32).toUInt32 &&& Int32.toUInt32 31)).toInt32) &&& 252645135 : Int32).toUInt32 >>> ((8 : Int32).toUInt32 &&& Int32.toUInt32 31)).toInt32 : Int32).toUInt32 >>> ((16 : Int32).toUInt32 &&& Int32.toUInt32 31)).toInt32))] dJ6_bitCount_0f7a4_47 rfl (by decide) rfl rfl ?_
  refine E_iload_n 49 0 dJ6_bitCount_0f7a4_48 rfl rfl rfl ?_
  refine E_bipush 51 63 dJ6_bitCount_0f7a4_49 cst_bipush63 rfl ?_
  refine E_iand 52 dJ6_bitCount_0f7a4_51 rfl ?_
  cases hf
  exact E_iret dJ6_bitCount_0f7a4_52 rfl (Nat.le_of_ble_eq_true rfl) (Nat.le_of_ble_eq_true rfl)
set_option maxRecDepth 100000 in
set_option maxHeartbeats 4000000 in
theorem l_X1_countCountries_L4 {l : Launch} {g : Gt} (hl : l.stackTraces = false) {μ : Mm} {ν : Mm} {o : Nat → Int64} {dd : Nat → UInt64}  {x1 : Int32} {res : Int32} : ∀ (n : Nat) (x2 : Int32) (x3 : Int32) , f_X1_countCountries_L4 x1 μ n x2 x3 = some res → E l g z_X1_countCountries 4 [(0, .ref (gaC g 1)), (1, .int x1), (2, .int x2), (3, .int x3)] [] (μ, ν, o, dd) 0 (QM g (.inl (some (.int res))) (μ, ν, o, dd) 0) := by
  intro n
  induction n with
  | zero => intro x2 x3 hf; cases hf
  | succ n ih =>
    intro x2 x3 hf
    refine E_iload_n 5 3 dX1_countCountries_4 rfl rfl rfl ?_
    refine E_aload_n 6 0 dX1_countCountries_5 rfl rfl rfl ?_
    refine E_getCr 9 fg_X1_12 dX1_countCountries_6 rfl ?_
    refine E_getCN 12 fg_X1_118 dX1_countCountries_9 rfl ?_
    refine E_icmp_ge 47 15 dX1_countCountries_12 (by decide) rfl (fun c1 => ?_) (fun c1 => ?_)
    · have hf := ite_t c1 hf
      refine E_iload_n 48 2 dX1_countCountries_47 rfl rfl rfl ?_
      obtain ⟨r2, hc3, hf⟩ := bnd hf
      refine E_callS1 51 0 [] [.int r2] (c_J6_bitCount_0f7a4 hl hc3) my_J6_bitCount_0f7a4 kl_X1_86 rfl rfl (Nat.le_of_ble_eq_true rfl) (rmok rfl) dX1_countCountries_48 rfl rfl rfl ?_
      cases hf
      exact E_iret dX1_countCountries_51 rfl (Nat.le_of_ble_eq_true rfl) (Nat.le_of_ble_eq_true rfl)
    · have hf := ite_e c1 hf
      refine E_iload_n 16 1 dX1_countCountries_15 rfl rfl rfl ?_
      refine E_iload_n 17 3 dX1_countCountries_16 rfl rfl rfl ?_
      obtain ⟨r4, hc5, hf⟩ := bnd hf
      refine E_callSN1 20 0 [] [.int r4] (c_X7_hasBit hl hc5) my_X7_hasBit kl_X1_119 rfl rfl (Nat.le_of_ble_eq_true rfl) (rmok rfl) dX1_countCountries_17 rfl rfl rfl ?_
      refine E_if_eq 41 23 dX1_countCountries_20 (by decide) rfl (fun c6 => ?_) (fun c6 => ?_)
      · have hf := ite_t c6 hf
        refine E_iinc 44 [(3, .int (x3 + 1)), (0, .ref (gaC g 1)), (1, .int x1), (2, .int x2)] 3 (v := x3 + 1) dX1_countCountries_41 rfl (by rw [cst_iconst1]) (by decide) rfl rfl ?_
        refine E_goto 4 dX1_countCountries_44 (by decide) ?_
        refine E_sub [1, 2, 3, 0] rfl ?_
        exact ih x2 (x3 + 1) hf
      · have hf := ite_e c6 hf
        refine E_iload_n 24 2 dX1_countCountries_23 rfl rfl rfl ?_
        refine E_aload_n 25 0 dX1_countCountries_24 rfl rfl rfl ?_
        refine E_getCr 28 fg_X1_12 dX1_countCountries_25 rfl ?_
        refine E_getCrN 31 fg_X1_123 dX1_countCountries_28 rfl ?_
        refine E_iload_n 32 3 dX1_countCountries_31 rfl rfl rfl ?_
        obtain ⟨h7, hf⟩ := chk_some hf
        refine E_caldC 33 (k := 3) (n := 20) rfl (by decide) h7 dX1_countCountries_32 rfl ?_
        refine E_bipush 35 97 dX1_countCountries_33 cst_bipush97 rfl ?_
        refine E_isub 36 dX1_countCountries_35 rfl ?_
        refine E_iconst 37 1 dX1_countCountries_36 cst_iconst1 rfl ?_
        obtain ⟨r8, hc9, hf⟩ := bnd hf
        refine E_callSN1 40 0 [] [.int r8] (c_X7_withBit hl hc9) my_X7_withBit kl_X1_126 rfl rfl (Nat.le_of_ble_eq_true rfl) (rmok rfl) dX1_countCountries_37 rfl rfl rfl ?_
        refine E_istore_n 41 [(2, .int r8), (0, .ref (gaC g 1)), (1, .int x1), (3, .int x3)] dX1_countCountries_40 rfl (by decide) rfl rfl ?_
        refine E_iinc 44 [(3, .int (x3 + 1)), (2, .int r8), (0, .ref (gaC g 1)), (1, .int x1)] 3 (v := x3 + 1) dX1_countCountries_41 rfl (by rw [cst_iconst1]) (by decide) rfl rfl ?_
        refine E_goto 4 dX1_countCountries_44 (by decide) ?_
        refine E_sub [2, 3, 1, 0] rfl ?_
        exact ih r8 (x3 + 1) hf
set_option maxRecDepth 100000 in
set_option maxHeartbeats 4000000 in
theorem c_X1_countCountries {l : Launch} {g : Gt} (hl : l.stackTraces = false) {a1 : Int32} {μ : Mm} {ν : Mm} {o : Nat → Int64} {dd : Nat → UInt64} {res : Int32} (hf : f_X1_countCountries a1 μ = some res) : CM l g z_X1_countCountries yX1_countCountries [.ref (gaC g 1), .int a1] (μ, ν, o, dd) 0 (.inl (some (.int res))) (μ, ν, o, dd) := by
  unfold f_X1_countCountries at hf
  refine CM_of_E rfl rfl (by decide +kernel) rfl (Nat.le_of_ble_eq_true rfl) hl ?_
  refine E_iconst 1 0 dX1_countCountries_0 cst_iconst0 rfl ?_
  refine E_istore_n 2 [(2, .int 0), (0, .ref (gaC g 1)), (1, .int a1)] dX1_countCountries_1 rfl (by decide) rfl rfl ?_
  refine E_iconst 3 0 dX1_countCountries_2 cst_iconst0 rfl ?_
  refine E_istore_n 4 [(3, .int 0), (2, .int 0), (0, .ref (gaC g 1)), (1, .int a1)] dX1_countCountries_3 rfl (by decide) rfl rfl ?_
  refine E_sub [2, 3, 1, 0] rfl ?_
  refine l_X1_countCountries_L4 hl  _ _ _ hf
set_option maxRecDepth 100000 in
set_option maxHeartbeats 4000000 in
theorem l_X5_step_12_L4 {l : Launch} {g : Gt} (hl : l.stackTraces = false) {μ : Mm} {ν : Mm} {o : Nat → Int64} {dd : Nat → UInt64}  {x1 : Int32} {res : Int32} : ∀ (n : Nat) (x2 : Int32) (x3 : Int32) , f_X5_step_12_L4 x1 μ n x2 x3 = some res → E l g z_X5_step 4 [(0, .ref (gaC g 12)), (1, .int x1), (2, .int x2), (3, .int x3)] [] (μ, ν, o, dd) 0 (QM g (.inl (some (.int res))) (μ, ν, o, dd) 0) := by
  intro n
  induction n with
  | zero => intro x2 x3 hf; cases hf
  | succ n ih =>
    intro x2 x3 hf
    refine E_iload_n 5 3 dX5_step_4 rfl rfl rfl ?_
    refine E_aload_n 6 0 dX5_step_5 rfl rfl rfl ?_
    refine E_alenC 7 (k := 12) (n := 20) (t := 0) 20 rfl (by decide) (by decide) rfl dX5_step_6 rfl ?_
    refine E_icmp_ge 30 10 dX5_step_7 (by decide) rfl (fun c1 => ?_) (fun c1 => ?_)
    · have hf := ite_t c1 hf
      refine E_iload_n 31 2 dX5_step_30 rfl rfl rfl ?_
      cases hf
      exact E_iret dX5_step_31 rfl (Nat.le_of_ble_eq_true rfl) (Nat.le_of_ble_eq_true rfl)
    · have hf := ite_e c1 hf
      refine E_iload_n 11 1 dX5_step_10 rfl rfl rfl ?_
      refine E_iload_n 12 3 dX5_step_11 rfl rfl rfl ?_
      obtain ⟨r2, hc3, hf⟩ := bnd hf
      refine E_callSN1 15 0 [] [.int r2] (c_X7_hasBit hl hc3) my_X7_hasBit kl_X5_34 rfl rfl (Nat.le_of_ble_eq_true rfl) (rmok rfl) dX5_step_12 rfl rfl rfl ?_
      refine E_if_eq 24 18 dX5_step_15 (by decide) rfl (fun c4 => ?_) (fun c4 => ?_)
      · have hf := ite_t c4 hf
        refine E_iinc 27 [(3, .int (x3 + 1)), (0, .ref (gaC g 12)), (1, .int x1), (2, .int x2)] 3 (v := x3 + 1) dX5_step_24 rfl (by rw [cst_iconst1]) (by decide) rfl rfl ?_
        refine E_goto 4 dX5_step_27 (by decide) ?_
        refine E_sub [1, 2, 3, 0] rfl ?_
        exact ih x2 (x3 + 1) hf
      · have hf := ite_e c4 hf
        refine E_iload_n 19 2 dX5_step_18 rfl rfl rfl ?_
        refine E_aload_n 20 0 dX5_step_19 rfl rfl rfl ?_
        refine E_iload_n 21 3 dX5_step_20 rfl rfl rfl ?_
        obtain ⟨h5, hf⟩ := chk_some hf
        refine E_ialdC 22 (k := 12) (n := 20) rfl (by decide) h5 dX5_step_21 rfl ?_
        refine E_ior 23 dX5_step_22 rfl ?_
        refine E_istore_n 24 [(2, .int (x2 ||| (μ 12 x3.toNatClampNeg))), (0, .ref (gaC g 12)), (1, .int x1), (3, .int x3)] dX5_step_23 rfl (by decide) rfl rfl ?_
        refine E_iinc 27 [(3, .int (x3 + 1)), (2, .int (x2 ||| (μ 12 x3.toNatClampNeg))), (0, .ref (gaC g 12)), (1, .int x1)] 3 (v := x3 + 1) dX5_step_24 rfl (by rw [cst_iconst1]) (by decide) rfl rfl ?_
        refine E_goto 4 dX5_step_27 (by decide) ?_
        refine E_sub [2, 3, 1, 0] rfl ?_
        exact ih (x2 ||| (μ 12 x3.toNatClampNeg)) (x3 + 1) hf
set_option maxRecDepth 100000 in
set_option maxHeartbeats 4000000 in
theorem c_X5_step_12 {l : Launch} {g : Gt} (hl : l.stackTraces = false) {a1 : Int32} {μ : Mm} {ν : Mm} {o : Nat → Int64} {dd : Nat → UInt64} {res : Int32} (hf : f_X5_step_12 a1 μ = some res) : CM l g z_X5_step yX5_step [.ref (gaC g 12), .int a1] (μ, ν, o, dd) 0 (.inl (some (.int res))) (μ, ν, o, dd) := by
  unfold f_X5_step_12 at hf
  refine CM_of_E rfl rfl (by decide +kernel) rfl (Nat.le_of_ble_eq_true rfl) hl ?_
  refine E_iconst 1 0 dX5_step_0 cst_iconst0 rfl ?_
  refine E_istore_n 2 [(2, .int 0), (0, .ref (gaC g 12)), (1, .int a1)] dX5_step_1 rfl (by decide) rfl rfl ?_
  refine E_iconst 3 0 dX5_step_2 cst_iconst0 rfl ?_
  refine E_istore_n 4 [(3, .int 0), (2, .int 0), (0, .ref (gaC g 12)), (1, .int a1)] dX5_step_3 rfl (by decide) rfl rfl ?_
  refine E_sub [2, 3, 1, 0] rfl ?_
  refine l_X5_step_12_L4 hl  _ _ _ hf
set_option maxRecDepth 100000 in
set_option maxHeartbeats 4000000 in
theorem l_X5_leastLinks_L8 {l : Launch} {g : Gt} (hl : l.stackTraces = false) {μ : Mm} {ν : Mm} {o : Nat → Int64} {dd : Nat → UInt64}  {x2 : Int32} {x3 : Int32} {res : Int32} : ∀ (n : Nat) (x4 : Int32) (x5 : Int32) , f_X5_leastLinks_L8 x2 x3 μ n x4 x5 = some res → E l g z_X5_leastLinks 8 [(0, .ref (gaC g 10)), (2, .int x2), (3, .int x3), (4, .int x4), (5, .int x5)] [] (μ, ν, o, dd) 0 (QM g (.inl (some (.int res))) (μ, ν, o, dd) 0) := by
  intro n
  induction n with
  | zero => intro x4 x5 hf; cases hf
  | succ n ih =>
    intro x4 x5 hf
    refine E_iload 10 4 dX5_leastLinks_8 rfl rfl ?_
    refine E_bipush 12 20 dX5_leastLinks_10 cst_bipush20 rfl ?_
    refine E_icmp_ge 45 15 dX5_leastLinks_12 (by decide) rfl (fun c1 => ?_) (fun c1 => ?_)
    · have hf := ite_t c1 hf
      refine E_iload_n 46 2 dX5_leastLinks_45 rfl rfl rfl ?_
      cases hf
      exact E_iret dX5_leastLinks_46 rfl (Nat.le_of_ble_eq_true rfl) (Nat.le_of_ble_eq_true rfl)
    · have hf := ite_e c1 hf
      refine E_iload 17 3 dX5_leastLinks_15 rfl rfl ?_
      refine E_iload_n 18 1 dX5_leastLinks_17 rfl rfl rfl ?_
      refine E_iand 19 dX5_leastLinks_18 rfl ?_
      refine E_if_eq 25 22 dX5_leastLinks_19 (by decide) rfl (fun c2 => ?_) (fun c2 => ?_)
      · have hf := ite_t c2 hf
        refine E_iload 27 3 dX5_leastLinks_25 rfl rfl ?_
        refine E_aload_n 28 0 dX5_leastLinks_27 rfl rfl rfl ?_
        refine E_getCr 31 fg_X5_15 dX5_leastLinks_28 rfl ?_
        refine E_iload 33 3 dX5_leastLinks_31 rfl rfl ?_
        obtain ⟨r3, hc4, hf⟩ := bnd hf
        refine E_callS1 36 0 [.int x4] [.int r3, .int x4] (c_X5_step_12 hl hc4) my_X5_step kl_X5_30 rfl rfl (Nat.le_of_ble_eq_true rfl) (rmok rfl) dX5_leastLinks_33 rfl rfl rfl ?_
        refine E_ior 37 dX5_leastLinks_36 rfl ?_
        refine E_istore 39 [(4, .int (x4 ||| r3)), (0, .ref (gaC g 10)), (2, .int x2), (3, .int x3), (5, .int x5)] dX5_leastLinks_37 (by decide) rfl rfl ?_
        refine E_iinc 42 [(5, .int (x5 + 1)), (4, .int (x4 ||| r3)), (0, .ref (gaC g 10)), (2, .int x2), (3, .int x3)] 4 (v := x5 + 1) dX5_leastLinks_39 rfl (by rw [cst_iconst1]) (by decide) rfl rfl ?_
        refine E_goto 8 dX5_leastLinks_42 (by decide) ?_
        refine E_sub [2, 3, 4, 1, 0] rfl ?_
        exact ih (x4 ||| r3) (x5 + 1) hf
      · have hf := ite_e c2 hf
        refine E_iload 24 4 dX5_leastLinks_22 rfl rfl ?_
        cases hf
        exact E_iret dX5_leastLinks_24 rfl (Nat.le_of_ble_eq_true rfl) (Nat.le_of_ble_eq_true rfl)
set_option maxRecDepth 100000 in
set_option maxHeartbeats 4000000 in
theorem c_X5_leastLinks {l : Launch} {g : Gt} (hl : l.stackTraces = false) {a1 : Int32} {a2 : Int32} {a3 : Int32} {μ : Mm} {ν : Mm} {o : Nat → Int64} {dd : Nat → UInt64} {res : Int32} (hf : f_X5_leastLinks a1 a2 a3 μ = some res) : CM l g z_X5_leastLinks yX5_leastLinks [.ref (gaC g 10), .int a1, .int a2, .int a3] (μ, ν, o, dd) 0 (.inl (some (.int res))) (μ, ν, o, dd) := by
  unfold f_X5_leastLinks at hf
  refine CM_of_E rfl rfl (by decide +kernel) rfl (Nat.le_of_ble_eq_true rfl) hl ?_
  refine E_iconst 1 1 dX5_leastLinks_0 cst_iconst1 rfl ?_
  refine E_iload_n 2 1 dX5_leastLinks_1 rfl rfl rfl ?_
  refine E_ishl 3 dX5_leastLinks_2 rfl ?_
  refine E_istore 5 [(4, .int (1 <<< (a1 &&& 31))), (0, .ref (gaC g 10)), (1, .int a1), (2, .int a2), (3, .int a3)] dX5_leastLinks_3 (by decide) rfl rfl ?_
  refine E_iconst 6 0 dX5_leastLinks_5 cst_iconst0 rfl ?_
  refine E_istore 8 [(5, .int 0), (4, .int (1 <<< (a1 &&& 31))), (0, .ref (gaC g 10)), (1, .int a1), (2, .int a2), (3, .int a3)] dX5_leastLinks_6 (by decide) rfl rfl ?_
  refine E_sub [2, 4, 5, 1, 0] rfl ?_
  refine l_X5_leastLinks_L8 hl  _ _ _ hf
set_option maxRecDepth 100000 in
set_option maxHeartbeats 4000000 in
theorem l_X4_isFirstOfPair_L2 {l : Launch} {g : Gt} (hl : l.stackTraces = false) {μ : Mm} {ν : Mm} {o : Nat → Int64} {dd : Nat → UInt64}  {x1 : Int32} {res : Int32} : ∀ (n : Nat) (x2 : Int32) , f_X4_isFirstOfPair_L2 x1 μ n x2 = some res → E l g z_X4_isFirstOfPair 2 [(0, .ref (gaC g 5)), (1, .int x1), (2, .int x2)] [] (μ, ν, o, dd) 0 (QM g (.inl (some (.int res))) (μ, ν, o, dd) 0) := by
  intro n
  induction n with
  | zero => intro x2 hf; cases hf
  | succ n ih =>
    intro x2 hf
    refine E_iload_n 3 2 dX4_isFirstOfPair_2 rfl rfl rfl ?_
    refine E_iload_n 4 1 dX4_isFirstOfPair_3 rfl rfl rfl ?_
    refine E_icmp_ge 45 7 dX4_isFirstOfPair_4 (by decide) rfl (fun c1 => ?_) (fun c1 => ?_)
    · have hf := ite_t c1 hf
      refine E_iconst 46 1 dX4_isFirstOfPair_45 cst_iconst1 rfl ?_
      cases hf
      exact E_zret (v := 1) rfl dX4_isFirstOfPair_46 rfl (Nat.le_of_ble_eq_true rfl) (Nat.le_of_ble_eq_true rfl)
    · have hf := ite_e c1 hf
      refine E_aload_n 8 0 dX4_isFirstOfPair_7 rfl rfl rfl ?_
      refine E_getCr 11 fg_X4_9 dX4_isFirstOfPair_8 rfl ?_
      refine E_iload_n 12 2 dX4_isFirstOfPair_11 rfl rfl rfl ?_
      obtain ⟨h2, hf⟩ := chk_some hf
      refine E_ialdC 13 (k := 6) (n := 200) rfl (by decide) h2 dX4_isFirstOfPair_12 rfl ?_
      refine E_aload_n 14 0 dX4_isFirstOfPair_13 rfl rfl rfl ?_
      refine E_getCr 17 fg_X4_9 dX4_isFirstOfPair_14 rfl ?_
      refine E_iload_n 18 1 dX4_isFirstOfPair_17 rfl rfl rfl ?_
      obtain ⟨h3, hf⟩ := chk_some hf
      refine E_ialdC 19 (k := 6) (n := 200) rfl (by decide) h3 dX4_isFirstOfPair_18 rfl ?_
      refine E_icmp_ne 39 22 dX4_isFirstOfPair_19 (by decide) rfl (fun c4 => ?_) (fun c4 => ?_)
      · have hf := ite_e c4 hf
        refine E_iinc 42 [(2, .int (x2 + 1)), (0, .ref (gaC g 5)), (1, .int x1)] 2 (v := x2 + 1) dX4_isFirstOfPair_39 rfl (by rw [cst_iconst1]) (by decide) rfl rfl ?_
        refine E_goto 2 dX4_isFirstOfPair_42 (by decide) ?_
        refine E_sub [1, 2, 0] rfl ?_
        exact ih (x2 + 1) hf
      · have hf := ite_t c4 hf
        refine E_aload_n 23 0 dX4_isFirstOfPair_22 rfl rfl rfl ?_
        refine E_getCr 26 fg_X4_15 dX4_isFirstOfPair_23 rfl ?_
        refine E_iload_n 27 2 dX4_isFirstOfPair_26 rfl rfl rfl ?_
        obtain ⟨h5, hf⟩ := chk_some hf
        refine E_ialdC 28 (k := 7) (n := 200) rfl (by decide) h5 dX4_isFirstOfPair_27 rfl ?_
        refine E_aload_n 29 0 dX4_isFirstOfPair_28 rfl rfl rfl ?_
        refine E_getCr 32 fg_X4_15 dX4_isFirstOfPair_29 rfl ?_
        refine E_iload_n 33 1 dX4_isFirstOfPair_32 rfl rfl rfl ?_
        obtain ⟨h6, hf⟩ := chk_some hf
        refine E_ialdC 34 (k := 7) (n := 200) rfl (by decide) h6 dX4_isFirstOfPair_33 rfl ?_
        refine E_icmp_ne 39 37 dX4_isFirstOfPair_34 (by decide) rfl (fun c7 => ?_) (fun c7 => ?_)
        · have hf := ite_e c7 hf
          refine E_iinc 42 [(2, .int (x2 + 1)), (0, .ref (gaC g 5)), (1, .int x1)] 2 (v := x2 + 1) dX4_isFirstOfPair_39 rfl (by rw [cst_iconst1]) (by decide) rfl rfl ?_
          refine E_goto 2 dX4_isFirstOfPair_42 (by decide) ?_
          refine E_sub [1, 2, 0] rfl ?_
          exact ih (x2 + 1) hf
        · have hf := ite_t c7 hf
          refine E_iconst 38 0 dX4_isFirstOfPair_37 cst_iconst0 rfl ?_
          cases hf
          exact E_zret (v := 0) rfl dX4_isFirstOfPair_38 rfl (Nat.le_of_ble_eq_true rfl) (Nat.le_of_ble_eq_true rfl)
set_option maxRecDepth 100000 in
set_option maxHeartbeats 4000000 in
theorem c_X4_isFirstOfPair {l : Launch} {g : Gt} (hl : l.stackTraces = false) {a1 : Int32} {μ : Mm} {ν : Mm} {o : Nat → Int64} {dd : Nat → UInt64} {res : Int32} (hf : f_X4_isFirstOfPair a1 μ = some res) : CM l g z_X4_isFirstOfPair yX4_isFirstOfPair [.ref (gaC g 5), .int a1] (μ, ν, o, dd) 0 (.inl (some (.int res))) (μ, ν, o, dd) := by
  unfold f_X4_isFirstOfPair at hf
  refine CM_of_E rfl rfl (by decide +kernel) rfl (Nat.le_of_ble_eq_true rfl) hl ?_
  refine E_iconst 1 0 dX4_isFirstOfPair_0 cst_iconst0 rfl ?_
  refine E_istore_n 2 [(2, .int 0), (0, .ref (gaC g 5)), (1, .int a1)] dX4_isFirstOfPair_1 rfl (by decide) rfl rfl ?_
  refine E_sub [1, 2, 0] rfl ?_
  refine l_X4_isFirstOfPair_L2 hl  _ _ hf
set_option maxRecDepth 100000 in
set_option maxHeartbeats 4000000 in
theorem l_X5_groupSize_L6 {l : Launch} {g : Gt} (hl : l.stackTraces = false) {μ : Mm} {ν : Mm} {o : Nat → Int64} {dd : Nat → UInt64}   {res : Int32} : ∀ (n : Nat) (x2 : Int32) (x3 : Int32) , f_X5_groupSize_L6 μ n x2 x3 = some res → E l g z_X5_groupSize 6 [(0, .ref (gaC g 10)), (2, .int x2), (3, .int x3)] [] (μ, ν, o, dd) 0 (QM g (.inl (some (.int res))) (μ, ν, o, dd) 0) := by
  intro n
  induction n with
  | zero => intro x2 x3 hf; cases hf
  | succ n ih =>
    intro x2 x3 hf
    refine E_iload_n 7 2 dX5_groupSize_6 rfl rfl rfl ?_
    refine E_bipush 9 20 dX5_groupSize_7 cst_bipush20 rfl ?_
    refine E_icmp_ge 29 12 dX5_groupSize_9 (by decide) rfl (fun c1 => ?_) (fun c1 => ?_)
    · have hf := ite_t c1 hf
      refine E_iload_n 30 1 dX5_groupSize_29 rfl rfl rfl ?_
      obtain ⟨r2, hc3, hf⟩ := bnd hf
      refine E_callS1 33 0 [] [.int r2] (c_J6_bitCount_0f7a4 hl hc3) my_J6_bitCount_0f7a4 kl_X5_38 rfl rfl (Nat.le_of_ble_eq_true rfl) (rmok rfl) dX5_groupSize_30 rfl rfl rfl ?_
      cases hf
      exact E_iret dX5_groupSize_33 rfl (Nat.le_of_ble_eq_true rfl) (Nat.le_of_ble_eq_true rfl)
    · have hf := ite_e c1 hf
      refine E_iload_n 13 1 dX5_groupSize_12 rfl rfl rfl ?_
      refine E_aload_n 14 0 dX5_groupSize_13 rfl rfl rfl ?_
      refine E_getCr 17 fg_X5_15 dX5_groupSize_14 rfl ?_
      refine E_iload_n 18 1 dX5_groupSize_17 rfl rfl rfl ?_
      obtain ⟨r4, hc5, hf⟩ := bnd hf
      refine E_callS1 21 0 [.int x2] [.int r4, .int x2] (c_X5_step_12 hl hc5) my_X5_step kl_X5_30 rfl rfl (Nat.le_of_ble_eq_true rfl) (rmok rfl) dX5_groupSize_18 rfl rfl rfl ?_
      refine E_ior 22 dX5_groupSize_21 rfl ?_
      refine E_istore_n 23 [(2, .int (x2 ||| r4)), (0, .ref (gaC g 10)), (3, .int x3)] dX5_groupSize_22 rfl (by decide) rfl rfl ?_
      refine E_iinc 26 [(3, .int (x3 + 1)), (2, .int (x2 ||| r4)), (0, .ref (gaC g 10))] 2 (v := x3 + 1) dX5_groupSize_23 rfl (by rw [cst_iconst1]) (by decide) rfl rfl ?_
      refine E_goto 6 dX5_groupSize_26 (by decide) ?_
      refine E_sub [2, 1, 0] rfl ?_
      exact ih (x2 ||| r4) (x3 + 1) hf
set_option maxRecDepth 100000 in
set_option maxHeartbeats 4000000 in
theorem c_X5_groupSize {l : Launch} {g : Gt} (hl : l.stackTraces = false) {a1 : Int32} {μ : Mm} {ν : Mm} {o : Nat → Int64} {dd : Nat → UInt64} {res : Int32} (hf : f_X5_groupSize a1 μ = some res) : CM l g z_X5_groupSize yX5_groupSize [.ref (gaC g 10), .int a1] (μ, ν, o, dd) 0 (.inl (some (.int res))) (μ, ν, o, dd) := by
  unfold f_X5_groupSize at hf
  refine CM_of_E rfl rfl (by decide +kernel) rfl (Nat.le_of_ble_eq_true rfl) hl ?_
  refine E_iconst 1 1 dX5_groupSize_0 cst_iconst1 rfl ?_
  refine E_iload_n 2 1 dX5_groupSize_1 rfl rfl rfl ?_
  refine E_ishl 3 dX5_groupSize_2 rfl ?_
  refine E_istore_n 4 [(2, .int (1 <<< (a1 &&& 31))), (0, .ref (gaC g 10)), (1, .int a1)] dX5_groupSize_3 rfl (by decide) rfl rfl ?_
  refine E_iconst 5 1 dX5_groupSize_4 cst_iconst1 rfl ?_
  refine E_istore_n 6 [(3, .int 1), (2, .int (1 <<< (a1 &&& 31))), (0, .ref (gaC g 10)), (1, .int a1)] dX5_groupSize_5 rfl (by decide) rfl rfl ?_
  refine E_sub [2, 1, 0] rfl ?_
  refine l_X5_groupSize_L6 hl  _ _ _ hf
set_option maxRecDepth 100000 in
set_option maxHeartbeats 4000000 in
theorem l_X4_sumOf_7_L6 {l : Launch} {g : Gt} (hl : l.stackTraces = false) {μ : Mm} {ν : Mm} {o : Nat → Int64} {dd : Nat → UInt64}  {x2 : Int32} {x4 : Int32} {res : Int32} : ∀ (n : Nat) (x5 : Int32) (x6 : Int32) , f_X4_sumOf_7_L6 x2 x4 μ n x5 x6 = some res → E l g z_X4_sumOf 6 [(0, .ref (gaC g 5)), (1, .ref (gaC g 7)), (2, .int x2), (4, .int x4), (5, .int x5), (6, .int x6)] [] (μ, ν, o, dd) 0 (QM g (.inl (some (.int res))) (μ, ν, o, dd) 0) := by
  intro n
  induction n with
  | zero => intro x5 x6 hf; cases hf
  | succ n ih =>
    intro x5 x6 hf
    refine E_iload 8 5 dX4_sumOf_6 rfl rfl ?_
    refine E_iload 10 3 dX4_sumOf_8 rfl rfl ?_
    refine E_icmp_ge 39 13 dX4_sumOf_10 (by decide) rfl (fun c1 => ?_) (fun c1 => ?_)
    · have hf := ite_t c1 hf
      refine E_iload 41 4 dX4_sumOf_39 rfl rfl ?_
      cases hf
      exact E_iret dX4_sumOf_41 rfl (Nat.le_of_ble_eq_true rfl) (Nat.le_of_ble_eq_true rfl)
    · have hf := ite_e c1 hf
      refine E_aload_n 14 1 dX4_sumOf_13 rfl rfl rfl ?_
      refine E_iload 16 5 dX4_sumOf_14 rfl rfl ?_
      obtain ⟨h2, hf⟩ := chk_some hf
      refine E_ialdC 17 (k := 7) (n := 200) rfl (by decide) h2 dX4_sumOf_16 rfl ?_
      refine E_iload_n 18 2 dX4_sumOf_17 rfl rfl rfl ?_
      refine E_icmp_ne 33 21 dX4_sumOf_18 (by decide) rfl (fun c3 => ?_) (fun c3 => ?_)
      · have hf := ite_e c3 hf
        refine E_iinc 36 [(6, .int (x6 + 1)), (0, .ref (gaC g 5)), (1, .ref (gaC g 7)), (2, .int x2), (4, .int x4), (5, .int x5)] 5 (v := x6 + 1) dX4_sumOf_33 rfl (by rw [cst_iconst1]) (by decide) rfl rfl ?_
        refine E_goto 6 dX4_sumOf_36 (by decide) ?_
        refine E_sub [1, 2, 3, 4, 5, 0] rfl ?_
        exact ih x5 (x6 + 1) hf
      · have hf := ite_t c3 hf
        refine E_iload 23 4 dX4_sumOf_21 rfl rfl ?_
        refine E_aload_n 24 0 dX4_sumOf_23 rfl rfl rfl ?_
        refine E_getCr 27 fg_X4_18 dX4_sumOf_24 rfl ?_
        refine E_iload 29 5 dX4_sumOf_27 rfl rfl ?_
        obtain ⟨h4, hf⟩ := chk_some hf
        refine E_ialdC 30 (k := 8) (n := 200) rfl (by decide) h4 dX4_sumOf_29 rfl ?_
        refine E_iadd 31 dX4_sumOf_30 rfl ?_
        refine E_istore 33 [(5, .int (x5 + (μ 8 x6.toNatClampNeg))), (0, .ref (gaC g 5)), (1, .ref (gaC g 7)), (2, .int x2), (4, .int x4), (6, .int x6)] dX4_sumOf_31 (by decide) rfl rfl ?_
        refine E_iinc 36 [(6, .int (x6 + 1)), (5, .int (x5 + (μ 8 x6.toNatClampNeg))), (0, .ref (gaC g 5)), (1, .ref (gaC g 7)), (2, .int x2), (4, .int x4)] 5 (v := x6 + 1) dX4_sumOf_33 rfl (by rw [cst_iconst1]) (by decide) rfl rfl ?_
        refine E_goto 6 dX4_sumOf_36 (by decide) ?_
        refine E_sub [2, 3, 4, 5, 1, 0] rfl ?_
        exact ih (x5 + (μ 8 x6.toNatClampNeg)) (x6 + 1) hf
set_option maxRecDepth 100000 in
set_option maxHeartbeats 4000000 in
theorem c_X4_sumOf_7 {l : Launch} {g : Gt} (hl : l.stackTraces = false) {a2 : Int32} {a3 : Int32} {a4 : Int32} {μ : Mm} {ν : Mm} {o : Nat → Int64} {dd : Nat → UInt64} {res : Int32} (hf : f_X4_sumOf_7 a2 a3 a4 μ = some res) : CM l g z_X4_sumOf yX4_sumOf [.ref (gaC g 5), .ref (gaC g 7), .int a2, .int a3, .int a4] (μ, ν, o, dd) 0 (.inl (some (.int res))) (μ, ν, o, dd) := by
  unfold f_X4_sumOf_7 at hf
  refine CM_of_E rfl rfl (by decide +kernel) rfl (Nat.le_of_ble_eq_true rfl) hl ?_
  refine E_iconst 1 0 dX4_sumOf_0 cst_iconst0 rfl ?_
  refine E_istore 3 [(5, .int 0), (0, .ref (gaC g 5)), (1, .ref (gaC g 7)), (2, .int a2), (3, .int a3), (4, .int a4)] dX4_sumOf_1 (by decide) rfl rfl ?_
  refine E_iload_n 4 4 dX4_sumOf_3 rfl rfl rfl ?_
  refine E_istore 6 [(6, .int a3), (5, .int 0), (0, .ref (gaC g 5)), (1, .ref (gaC g 7)), (2, .int a2), (3, .int a3), (4, .int a4)] dX4_sumOf_4 (by decide) rfl rfl ?_
  refine E_sub [2, 3, 4, 6, 1, 0] rfl ?_
  refine l_X4_sumOf_7_L6 hl  _ _ _ hf
set_option maxRecDepth 100000 in
set_option maxHeartbeats 4000000 in
theorem l_X4_countSent_L6 {l : Launch} {g : Gt} (hl : l.stackTraces = false) {μ : Mm} {ν : Mm} {o : Nat → Int64} {dd : Nat → UInt64}  {x1 : Int32} {x3 : Int32} {x4 : Int32} {x5 : Int32} {res : Int32} : ∀ (n : Nat) (x6 : Int32) (x7 : Int32) , f_X4_countSent_L6 x1 x3 x4 x5 μ n x6 x7 = some res → E l g z_X4_countSent 6 [(0, .ref (gaC g 5)), (1, .int x1), (3, .int x3), (4, .int x4), (5, .int x5), (6, .int x6), (7, .int x7)] [] (μ, ν, o, dd) 0 (QM g (.inl (some (.int res))) (μ, ν, o, dd) 0) := by
  intro n
  induction n with
  | zero => intro x6 x7 hf; cases hf
  | succ n ih =>
    intro x6 x7 hf
    refine E_iload 8 6 dX4_countSent_6 rfl rfl ?_
    refine E_iload_n 9 2 dX4_countSent_8 rfl rfl rfl ?_
    refine E_icmp_ge 55 12 dX4_countSent_9 (by decide) rfl (fun c1 => ?_) (fun c1 => ?_)
    · have hf := ite_t c1 hf
      refine E_iload 57 5 dX4_countSent_55 rfl rfl ?_
      cases hf
      exact E_iret dX4_countSent_57 rfl (Nat.le_of_ble_eq_true rfl) (Nat.le_of_ble_eq_true rfl)
    · have hf := ite_e c1 hf
      refine E_aload_n 13 0 dX4_countSent_12 rfl rfl rfl ?_
      refine E_getCr 16 fg_X4_18 dX4_countSent_13 rfl ?_
      refine E_iload 18 6 dX4_countSent_16 rfl rfl ?_
      obtain ⟨h2, hf⟩ := chk_some hf
      refine E_ialdC 19 (k := 8) (n := 200) rfl (by decide) h2 dX4_countSent_18 rfl ?_
      refine E_istore 21 [(8, .int (μ 8 x7.toNatClampNeg)), (0, .ref (gaC g 5)), (1, .int x1), (3, .int x3), (4, .int x4), (5, .int x5), (6, .int x6), (7, .int x7)] dX4_countSent_19 (by decide) rfl rfl ?_
      refine E_aload_n 22 1 dX4_countSent_21 rfl rfl rfl ?_
      refine E_getCr 25 fg_X4_9 dX4_countSent_22 rfl ?_
      refine E_iload 27 7 dX4_countSent_25 rfl rfl ?_
      obtain ⟨h3, hf⟩ := chk_some hf
      refine E_ialdC 28 (k := 6) (n := 200) rfl (by decide) h3 dX4_countSent_27 rfl ?_
      refine E_iload_n 29 2 dX4_countSent_28 rfl rfl rfl ?_
      refine E_icmp_ne 49 32 dX4_countSent_29 (by decide) rfl (fun c4 => ?_) (fun c4 => ?_)
      · have hf := ite_e c4 hf
        refine E_iinc 52 [(7, .int (x7 + 1)), (8, .int (μ 8 x7.toNatClampNeg)), (0, .ref (gaC g 5)), (1, .int x1), (3, .int x3), (4, .int x4), (5, .int x5), (6, .int x6)] 7 (v := x7 + 1) dX4_countSent_49 rfl (by rw [cst_iconst1]) (by decide) rfl rfl ?_
        refine E_goto 6 dX4_countSent_52 (by decide) ?_
        refine E_sub [2, 3, 4, 5, 6, 7, 0] rfl ?_
        exact ih x6 (x7 + 1) hf
      · have hf := ite_t c4 hf
        refine E_iload 34 0 dX4_countSent_32 rfl rfl ?_
        refine E_iload 36 4 dX4_countSent_34 rfl rfl ?_
        refine E_icmp_lt 49 39 dX4_countSent_36 (by decide) rfl (fun c5 => ?_) (fun c5 => ?_)
        · have hf := ite_t c5 hf
          refine E_iinc 52 [(7, .int (x7 + 1)), (8, .int (μ 8 x7.toNatClampNeg)), (0, .ref (gaC g 5)), (1, .int x1), (3, .int x3), (4, .int x4), (5, .int x5), (6, .int x6)] 7 (v := x7 + 1) dX4_countSent_49 rfl (by rw [cst_iconst1]) (by decide) rfl rfl ?_
          refine E_goto 6 dX4_countSent_52 (by decide) ?_
          refine E_sub [2, 3, 4, 5, 6, 7, 0] rfl ?_
          exact ih x6 (x7 + 1) hf
        · have hf := ite_e c5 hf
          refine E_iload 41 0 dX4_countSent_39 rfl rfl ?_
          refine E_iload 43 5 dX4_countSent_41 rfl rfl ?_
          refine E_icmp_gt 49 46 dX4_countSent_43 (by decide) rfl (fun c6 => ?_) (fun c6 => ?_)
          · have hf := ite_t c6 hf
            refine E_iinc 52 [(7, .int (x7 + 1)), (8, .int (μ 8 x7.toNatClampNeg)), (0, .ref (gaC g 5)), (1, .int x1), (3, .int x3), (4, .int x4), (5, .int x5), (6, .int x6)] 7 (v := x7 + 1) dX4_countSent_49 rfl (by rw [cst_iconst1]) (by decide) rfl rfl ?_
            refine E_goto 6 dX4_countSent_52 (by decide) ?_
            refine E_sub [2, 3, 4, 5, 6, 7, 0] rfl ?_
            exact ih x6 (x7 + 1) hf
          · have hf := ite_e c6 hf
            refine E_iinc 49 [(6, .int (x6 + 1)), (8, .int (μ 8 x7.toNatClampNeg)), (0, .ref (gaC g 5)), (1, .int x1), (3, .int x3), (4, .int x4), (5, .int x5), (7, .int x7)] 6 (v := x6 + 1) dX4_countSent_46 rfl (by rw [cst_iconst1]) (by decide) rfl rfl ?_
            refine E_iinc 52 [(7, .int (x7 + 1)), (6, .int (x6 + 1)), (8, .int (μ 8 x7.toNatClampNeg)), (0, .ref (gaC g 5)), (1, .int x1), (3, .int x3), (4, .int x4), (5, .int x5)] 7 (v := x7 + 1) dX4_countSent_49 rfl (by rw [cst_iconst1]) (by decide) rfl rfl ?_
            refine E_goto 6 dX4_countSent_52 (by decide) ?_
            refine E_sub [3, 4, 5, 6, 7, 1, 0] rfl ?_
            exact ih (x6 + 1) (x7 + 1) hf
set_option maxRecDepth 100000 in
set_option maxHeartbeats 4000000 in
theorem c_X4_countSent {l : Launch} {g : Gt} (hl : l.stackTraces = false) {a1 : Int32} {a2 : Int32} {a3 : Int32} {a4 : Int32} {a5 : Int32} {μ : Mm} {ν : Mm} {o : Nat → Int64} {dd : Nat → UInt64} {res : Int32} (hf : f_X4_countSent a1 a2 a3 a4 a5 μ = some res) : CM l g z_X4_countSent yX4_countSent [.ref (gaC g 5), .int a1, .int a2, .int a3, .int a4, .int a5] (μ, ν, o, dd) 0 (.inl (some (.int res))) (μ, ν, o, dd) := by
  unfold f_X4_countSent at hf
  refine CM_of_E rfl rfl (by decide +kernel) rfl (Nat.le_of_ble_eq_true rfl) hl ?_
  refine E_iconst 1 0 dX4_countSent_0 cst_iconst0 rfl ?_
  refine E_istore 3 [(6, .int 0), (0, .ref (gaC g 5)), (1, .int a1), (2, .int a2), (3, .int a3), (4, .int a4), (5, .int a5)] dX4_countSent_1 (by decide) rfl rfl ?_
  refine E_iload_n 4 3 dX4_countSent_3 rfl rfl rfl ?_
  refine E_istore 6 [(7, .int a2), (6, .int 0), (0, .ref (gaC g 5)), (1, .int a1), (2, .int a2), (3, .int a3), (4, .int a4), (5, .int a5)] dX4_countSent_4 (by decide) rfl rfl ?_
  refine E_sub [2, 3, 5, 6, 7, 1, 0] rfl ?_
  refine l_X4_countSent_L6 hl  _ _ _ hf
set_option maxRecDepth 100000 in
set_option maxHeartbeats 4000000 in
theorem l_X4_greatestSent_L6 {l : Launch} {g : Gt} (hl : l.stackTraces = false) {μ : Mm} {ν : Mm} {o : Nat → Int64} {dd : Nat → UInt64}  {x1 : Int32} {x3 : Int32} {res : Int32} : ∀ (n : Nat) (x4 : Int32) (x5 : Int32) , f_X4_greatestSent_L6 x1 x3 μ n x4 x5 = some res → E l g z_X4_greatestSent 6 [(0, .ref (gaC g 5)), (1, .int x1), (3, .int x3), (4, .int x4), (5, .int x5)] [] (μ, ν, o, dd) 0 (QM g (.inl (some (.int res))) (μ, ν, o, dd) 0) := by
  intro n
  induction n with
  | zero => intro x4 x5 hf; cases hf
  | succ n ih =>
    intro x4 x5 hf
    refine E_iload 8 4 dX4_greatestSent_6 rfl rfl ?_
    refine E_iload_n 9 2 dX4_greatestSent_8 rfl rfl rfl ?_
    refine E_icmp_ge 50 12 dX4_greatestSent_9 (by decide) rfl (fun c1 => ?_) (fun c1 => ?_)
    · have hf := ite_t c1 hf
      refine E_iload 52 3 dX4_greatestSent_50 rfl rfl ?_
      cases hf
      exact E_iret dX4_greatestSent_52 rfl (Nat.le_of_ble_eq_true rfl) (Nat.le_of_ble_eq_true rfl)
    · have hf := ite_e c1 hf
      refine E_aload_n 13 0 dX4_greatestSent_12 rfl rfl rfl ?_
      refine E_getCr 16 fg_X4_9 dX4_greatestSent_13 rfl ?_
      refine E_iload 18 4 dX4_greatestSent_16 rfl rfl ?_
      obtain ⟨h2, hf⟩ := chk_some hf
      refine E_ialdC 19 (k := 6) (n := 200) rfl (by decide) h2 dX4_greatestSent_18 rfl ?_
      refine E_iload_n 20 1 dX4_greatestSent_19 rfl rfl rfl ?_
      refine E_icmp_ne 44 23 dX4_greatestSent_20 (by decide) rfl (fun c3 => ?_) (fun c3 => ?_)
      · have hf := ite_e c3 hf
        refine E_iinc 47 [(5, .int (x5 + 1)), (0, .ref (gaC g 5)), (1, .int x1), (3, .int x3), (4, .int x4)] 4 (v := x5 + 1) dX4_greatestSent_44 rfl (by rw [cst_iconst1]) (by decide) rfl rfl ?_
        refine E_goto 6 dX4_greatestSent_47 (by decide) ?_
        refine E_sub [1, 2, 3, 4, 0] rfl ?_
        exact ih x4 (x5 + 1) hf
      · have hf := ite_t c3 hf
        refine E_aload_n 24 0 dX4_greatestSent_23 rfl rfl rfl ?_
        refine E_getCr 27 fg_X4_18 dX4_greatestSent_24 rfl ?_
        refine E_iload 29 4 dX4_greatestSent_27 rfl rfl ?_
        obtain ⟨h4, hf⟩ := chk_some hf
        refine E_ialdC 30 (k := 8) (n := 200) rfl (by decide) h4 dX4_greatestSent_29 rfl ?_
        refine E_iload 32 3 dX4_greatestSent_30 rfl rfl ?_
        refine E_icmp_le 44 35 dX4_greatestSent_32 (by decide) rfl (fun c5 => ?_) (fun c5 => ?_)
        · have hf := ite_t c5 hf
          refine E_iinc 47 [(5, .int (x5 + 1)), (0, .ref (gaC g 5)), (1, .int x1), (3, .int x3), (4, .int x4)] 4 (v := x5 + 1) dX4_greatestSent_44 rfl (by rw [cst_iconst1]) (by decide) rfl rfl ?_
          refine E_goto 6 dX4_greatestSent_47 (by decide) ?_
          refine E_sub [1, 2, 3, 4, 0] rfl ?_
          exact ih x4 (x5 + 1) hf
        · have hf := ite_e c5 hf
          refine E_aload_n 36 0 dX4_greatestSent_35 rfl rfl rfl ?_
          refine E_getCr 39 fg_X4_18 dX4_greatestSent_36 rfl ?_
          refine E_iload 41 4 dX4_greatestSent_39 rfl rfl ?_
          obtain ⟨h6, hf⟩ := chk_some hf
          refine E_ialdC 42 (k := 8) (n := 200) rfl (by decide) h6 dX4_greatestSent_41 rfl ?_
          refine E_istore 44 [(4, .int (μ 8 x5.toNatClampNeg)), (0, .ref (gaC g 5)), (1, .int x1), (3, .int x3), (5, .int x5)] dX4_greatestSent_42 (by decide) rfl rfl ?_
          refine E_iinc 47 [(5, .int (x5 + 1)), (4, .int (μ 8 x5.toNatClampNeg)), (0, .ref (gaC g 5)), (1, .int x1), (3, .int x3)] 4 (v := x5 + 1) dX4_greatestSent_44 rfl (by rw [cst_iconst1]) (by decide) rfl rfl ?_
          refine E_goto 6 dX4_greatestSent_47 (by decide) ?_
          refine E_sub [2, 3, 4, 1, 0] rfl ?_
          exact ih (μ 8 x5.toNatClampNeg) (x5 + 1) hf
set_option maxRecDepth 100000 in
set_option maxHeartbeats 4000000 in
theorem c_X4_greatestSent {l : Launch} {g : Gt} (hl : l.stackTraces = false) {a1 : Int32} {a2 : Int32} {a3 : Int32} {μ : Mm} {ν : Mm} {o : Nat → Int64} {dd : Nat → UInt64} {res : Int32} (hf : f_X4_greatestSent a1 a2 a3 μ = some res) : CM l g z_X4_greatestSent yX4_greatestSent [.ref (gaC g 5), .int a1, .int a2, .int a3] (μ, ν, o, dd) 0 (.inl (some (.int res))) (μ, ν, o, dd) := by
  unfold f_X4_greatestSent at hf
  refine CM_of_E rfl rfl (by decide +kernel) rfl (Nat.le_of_ble_eq_true rfl) hl ?_
  refine E_iconst 1 0 dX4_greatestSent_0 cst_iconst0 rfl ?_
  refine E_istore 3 [(4, .int 0), (0, .ref (gaC g 5)), (1, .int a1), (2, .int a2), (3, .int a3)] dX4_greatestSent_1 (by decide) rfl rfl ?_
  refine E_iload_n 4 3 dX4_greatestSent_3 rfl rfl rfl ?_
  refine E_istore 6 [(5, .int a2), (4, .int 0), (0, .ref (gaC g 5)), (1, .int a1), (2, .int a2), (3, .int a3)] dX4_greatestSent_4 (by decide) rfl rfl ?_
  refine E_sub [2, 3, 5, 1, 0] rfl ?_
  refine l_X4_greatestSent_L6 hl  _ _ _ hf
set_option maxRecDepth 100000 in
set_option maxHeartbeats 4000000 in
theorem l_X4_minutesSinceLast_L4 {l : Launch} {g : Gt} (hl : l.stackTraces = false) {μ : Mm} {ν : Mm} {o : Nat → Int64} {dd : Nat → UInt64}  {x1 : Int32} {x2 : Int32} {res : Int32} : ∀ (n : Nat) (x3 : Int32) , f_X4_minutesSinceLast_L4 x1 x2 μ n x3 = some res → E l g z_X4_minutesSinceLast 4 [(0, .ref (gaC g 5)), (1, .int x1), (2, .int x2), (3, .int x3)] [] (μ, ν, o, dd) 0 (QM g (.inl (some (.int res))) (μ, ν, o, dd) 0) := by
  intro n
  induction n with
  | zero => intro x3 hf; cases hf
  | succ n ih =>
    intro x3 hf
    refine E_iload_n 5 3 dX4_minutesSinceLast_4 rfl rfl rfl ?_
    refine E_if_lt 43 8 dX4_minutesSinceLast_5 (by decide) rfl (fun c1 => ?_) (fun c1 => ?_)
    · have hf := ite_t c1 hf
      refine E_iload_n 44 2 dX4_minutesSinceLast_43 rfl rfl rfl ?_
      cases hf
      exact E_iret dX4_minutesSinceLast_44 rfl (Nat.le_of_ble_eq_true rfl) (Nat.le_of_ble_eq_true rfl)
    · have hf := ite_e c1 hf
      refine E_aload_n 9 0 dX4_minutesSinceLast_8 rfl rfl rfl ?_
      refine E_getCr 12 fg_X4_9 dX4_minutesSinceLast_9 rfl ?_
      refine E_iload_n 13 3 dX4_minutesSinceLast_12 rfl rfl rfl ?_
      obtain ⟨h2, hf⟩ := chk_some hf
      refine E_ialdC 14 (k := 6) (n := 200) rfl (by decide) h2 dX4_minutesSinceLast_13 rfl ?_
      refine E_aload_n 15 0 dX4_minutesSinceLast_14 rfl rfl rfl ?_
      refine E_getCr 18 fg_X4_9 dX4_minutesSinceLast_15 rfl ?_
      refine E_iload_n 19 1 dX4_minutesSinceLast_18 rfl rfl rfl ?_
      obtain ⟨h3, hf⟩ := chk_some hf
      refine E_ialdC 20 (k := 6) (n := 200) rfl (by decide) h3 dX4_minutesSinceLast_19 rfl ?_
      refine E_icmp_ne 37 23 dX4_minutesSinceLast_20 (by decide) rfl (fun c4 => ?_) (fun c4 => ?_)
      · have hf := ite_e c4 hf
        refine E_iinc 40 [(3, .int (x3 + (-1))), (0, .ref (gaC g 5)), (1, .int x1), (2, .int x2)] 3 (v := x3 + (-1)) dX4_minutesSinceLast_37 rfl (by rw [cst_iconstn1]) (by decide) rfl rfl ?_
        refine E_goto 4 dX4_minutesSinceLast_40 (by decide) ?_
        refine E_sub [1, 2, 3, 0] rfl ?_
        exact ih (x3 + (-1)) hf
      · have hf := ite_t c4 hf
        refine E_aload_n 24 0 dX4_minutesSinceLast_23 rfl rfl rfl ?_
        refine E_getCr 27 fg_X4_21 dX4_minutesSinceLast_24 rfl ?_
        refine E_iload_n 28 1 dX4_minutesSinceLast_27 rfl rfl rfl ?_
        obtain ⟨h5, hf⟩ := chk_some hf
        refine E_ialdC 29 (k := 9) (n := 200) rfl (by decide) h5 dX4_minutesSinceLast_28 rfl ?_
        refine E_aload_n 30 0 dX4_minutesSinceLast_29 rfl rfl rfl ?_
        refine E_getCr 33 fg_X4_21 dX4_minutesSinceLast_30 rfl ?_
        refine E_iload_n 34 3 dX4_minutesSinceLast_33 rfl rfl rfl ?_
        obtain ⟨h6, hf⟩ := chk_some hf
        refine E_ialdC 35 (k := 9) (n := 200) rfl (by decide) h6 dX4_minutesSinceLast_34 rfl ?_
        refine E_isub 36 dX4_minutesSinceLast_35 rfl ?_
        cases hf
        exact E_iret dX4_minutesSinceLast_36 rfl (Nat.le_of_ble_eq_true rfl) (Nat.le_of_ble_eq_true rfl)
set_option maxRecDepth 100000 in
set_option maxHeartbeats 4000000 in
theorem c_X4_minutesSinceLast {l : Launch} {g : Gt} (hl : l.stackTraces = false) {a1 : Int32} {a2 : Int32} {μ : Mm} {ν : Mm} {o : Nat → Int64} {dd : Nat → UInt64} {res : Int32} (hf : f_X4_minutesSinceLast a1 a2 μ = some res) : CM l g z_X4_minutesSinceLast yX4_minutesSinceLast [.ref (gaC g 5), .int a1, .int a2] (μ, ν, o, dd) 0 (.inl (some (.int res))) (μ, ν, o, dd) := by
  unfold f_X4_minutesSinceLast at hf
  refine CM_of_E rfl rfl (by decide +kernel) rfl (Nat.le_of_ble_eq_true rfl) hl ?_
  refine E_iload_n 1 1 dX4_minutesSinceLast_0 rfl rfl rfl ?_
  refine E_iconst 2 1 dX4_minutesSinceLast_1 cst_iconst1 rfl ?_
  refine E_isub 3 dX4_minutesSinceLast_2 rfl ?_
  refine E_istore_n 4 [(3, .int (a1 - 1)), (0, .ref (gaC g 5)), (1, .int a1), (2, .int a2)] dX4_minutesSinceLast_3 rfl (by decide) rfl rfl ?_
  refine E_sub [1, 2, 3, 0] rfl ?_
  refine l_X4_minutesSinceLast_L4 hl  _ _ hf
set_option maxRecDepth 100000 in
set_option maxHeartbeats 4000000 in
theorem l_X4_sumOf_6_L6 {l : Launch} {g : Gt} (hl : l.stackTraces = false) {μ : Mm} {ν : Mm} {o : Nat → Int64} {dd : Nat → UInt64}  {x2 : Int32} {x4 : Int32} {res : Int32} : ∀ (n : Nat) (x5 : Int32) (x6 : Int32) , f_X4_sumOf_6_L6 x2 x4 μ n x5 x6 = some res → E l g z_X4_sumOf 6 [(0, .ref (gaC g 5)), (1, .ref (gaC g 6)), (2, .int x2), (4, .int x4), (5, .int x5), (6, .int x6)] [] (μ, ν, o, dd) 0 (QM g (.inl (some (.int res))) (μ, ν, o, dd) 0) := by
  intro n
  induction n with
  | zero => intro x5 x6 hf; cases hf
  | succ n ih =>
    intro x5 x6 hf
    refine E_iload 8 5 dX4_sumOf_6 rfl rfl ?_
    refine E_iload 10 3 dX4_sumOf_8 rfl rfl ?_
    refine E_icmp_ge 39 13 dX4_sumOf_10 (by decide) rfl (fun c1 => ?_) (fun c1 => ?_)
    · have hf := ite_t c1 hf
      refine E_iload 41 4 dX4_sumOf_39 rfl rfl ?_
      cases hf
      exact E_iret dX4_sumOf_41 rfl (Nat.le_of_ble_eq_true rfl) (Nat.le_of_ble_eq_true rfl)
    · have hf := ite_e c1 hf
      refine E_aload_n 14 1 dX4_sumOf_13 rfl rfl rfl ?_
      refine E_iload 16 5 dX4_sumOf_14 rfl rfl ?_
      obtain ⟨h2, hf⟩ := chk_some hf
      refine E_ialdC 17 (k := 6) (n := 200) rfl (by decide) h2 dX4_sumOf_16 rfl ?_
      refine E_iload_n 18 2 dX4_sumOf_17 rfl rfl rfl ?_
      refine E_icmp_ne 33 21 dX4_sumOf_18 (by decide) rfl (fun c3 => ?_) (fun c3 => ?_)
      · have hf := ite_e c3 hf
        refine E_iinc 36 [(6, .int (x6 + 1)), (0, .ref (gaC g 5)), (1, .ref (gaC g 6)), (2, .int x2), (4, .int x4), (5, .int x5)] 5 (v := x6 + 1) dX4_sumOf_33 rfl (by rw [cst_iconst1]) (by decide) rfl rfl ?_
        refine E_goto 6 dX4_sumOf_36 (by decide) ?_
        refine E_sub [1, 2, 3, 4, 5, 0] rfl ?_
        exact ih x5 (x6 + 1) hf
      · have hf := ite_t c3 hf
        refine E_iload 23 4 dX4_sumOf_21 rfl rfl ?_
        refine E_aload_n 24 0 dX4_sumOf_23 rfl rfl rfl ?_
        refine E_getCr 27 fg_X4_18 dX4_sumOf_24 rfl ?_
        refine E_iload 29 5 dX4_sumOf_27 rfl rfl ?_
        obtain ⟨h4, hf⟩ := chk_some hf
        refine E_ialdC 30 (k := 8) (n := 200) rfl (by decide) h4 dX4_sumOf_29 rfl ?_
        refine E_iadd 31 dX4_sumOf_30 rfl ?_
        refine E_istore 33 [(5, .int (x5 + (μ 8 x6.toNatClampNeg))), (0, .ref (gaC g 5)), (1, .ref (gaC g 6)), (2, .int x2), (4, .int x4), (6, .int x6)] dX4_sumOf_31 (by decide) rfl rfl ?_
        refine E_iinc 36 [(6, .int (x6 + 1)), (5, .int (x5 + (μ 8 x6.toNatClampNeg))), (0, .ref (gaC g 5)), (1, .ref (gaC g 6)), (2, .int x2), (4, .int x4)] 5 (v := x6 + 1) dX4_sumOf_33 rfl (by rw [cst_iconst1]) (by decide) rfl rfl ?_
        refine E_goto 6 dX4_sumOf_36 (by decide) ?_
        refine E_sub [2, 3, 4, 5, 1, 0] rfl ?_
        exact ih (x5 + (μ 8 x6.toNatClampNeg)) (x6 + 1) hf
set_option maxRecDepth 100000 in
set_option maxHeartbeats 4000000 in
theorem c_X4_sumOf_6 {l : Launch} {g : Gt} (hl : l.stackTraces = false) {a2 : Int32} {a3 : Int32} {a4 : Int32} {μ : Mm} {ν : Mm} {o : Nat → Int64} {dd : Nat → UInt64} {res : Int32} (hf : f_X4_sumOf_6 a2 a3 a4 μ = some res) : CM l g z_X4_sumOf yX4_sumOf [.ref (gaC g 5), .ref (gaC g 6), .int a2, .int a3, .int a4] (μ, ν, o, dd) 0 (.inl (some (.int res))) (μ, ν, o, dd) := by
  unfold f_X4_sumOf_6 at hf
  refine CM_of_E rfl rfl (by decide +kernel) rfl (Nat.le_of_ble_eq_true rfl) hl ?_
  refine E_iconst 1 0 dX4_sumOf_0 cst_iconst0 rfl ?_
  refine E_istore 3 [(5, .int 0), (0, .ref (gaC g 5)), (1, .ref (gaC g 6)), (2, .int a2), (3, .int a3), (4, .int a4)] dX4_sumOf_1 (by decide) rfl rfl ?_
  refine E_iload_n 4 4 dX4_sumOf_3 rfl rfl rfl ?_
  refine E_istore 6 [(6, .int a3), (5, .int 0), (0, .ref (gaC g 5)), (1, .ref (gaC g 6)), (2, .int a2), (3, .int a3), (4, .int a4)] dX4_sumOf_4 (by decide) rfl rfl ?_
  refine E_sub [2, 3, 4, 6, 1, 0] rfl ?_
  refine l_X4_sumOf_6_L6 hl  _ _ _ hf
set_option maxRecDepth 100000 in
set_option maxHeartbeats 4000000 in
theorem c_X1_featureValue {l : Launch} {g : Gt} (hl : l.stackTraces = false) {a1 : Int32} {a2 : Int32} {a3 : Int32} {μ : Mm} {ν : Mm} {o : Nat → Int64} {dd : Nat → UInt64} {res : Int32 × Mm} (hf : f_X1_featureValue a1 a2 a3 μ = some res) : CM l g z_X1_featureValue yX1_featureValue [.ref (gaC g 1), .int a1, .int a2, .int a3] (μ, ν, o, dd) 0 (.inl (some (.int res.1))) (res.2, ν, o, dd) := by
  unfold f_X1_featureValue at hf
  refine CM_of_E rfl rfl (by decide +kernel) rfl (Nat.le_of_ble_eq_true rfl) hl ?_
  refine E_aload_n 1 0 dX1_featureValue_0 rfl rfl rfl ?_
  refine E_getCr 4 fg_X1_21 dX1_featureValue_1 rfl ?_
  refine E_getCrN 7 fg_X1_47 dX1_featureValue_4 rfl ?_
  refine E_iload_n 8 1 dX1_featureValue_7 rfl rfl rfl ?_
  obtain ⟨h1, hf⟩ := chk_some hf
  refine E_ialdC 9 (k := 6) (n := 200) rfl (by decide) h1 dX1_featureValue_8 rfl ?_
  refine E_istore 11 [(4, .int (μ 6 a1.toNatClampNeg)), (0, .ref (gaC g 1)), (1, .int a1), (2, .int a2), (3, .int a3)] dX1_featureValue_9 (by decide) rfl rfl ?_
  refine E_aload_n 12 1 dX1_featureValue_11 rfl rfl rfl ?_
  refine E_getCr 15 fg_X1_21 dX1_featureValue_12 rfl ?_
  refine E_getCrN 18 fg_X1_72 dX1_featureValue_15 rfl ?_
  refine E_iload_n 19 2 dX1_featureValue_18 rfl rfl rfl ?_
  obtain ⟨h2, hf⟩ := chk_some hf
  refine E_ialdC 20 (k := 7) (n := 200) rfl (by decide) h2 dX1_featureValue_19 rfl ?_
  refine E_istore 22 [(5, .int (μ 7 a1.toNatClampNeg)), (4, .int (μ 6 a1.toNatClampNeg)), (0, .ref (gaC g 1)), (1, .int a1), (2, .int a2), (3, .int a3)] dX1_featureValue_20 (by decide) rfl rfl ?_
  refine E_iload_n 23 3 dX1_featureValue_22 rfl rfl rfl ?_
  refine E_iconst 24 1 dX1_featureValue_23 cst_iconst1 rfl ?_
  refine E_iadd 25 dX1_featureValue_24 rfl ?_
  refine E_istore 27 [(6, .int (a1 + 1)), (5, .int (μ 7 a1.toNatClampNeg)), (4, .int (μ 6 a1.toNatClampNeg)), (0, .ref (gaC g 1)), (1, .int a1), (2, .int a2), (3, .int a3)] dX1_featureValue_25 (by decide) rfl rfl ?_
  refine E_aload_n 28 3 dX1_featureValue_27 rfl rfl rfl ?_
  refine E_getCr 31 fg_X1_21 dX1_featureValue_28 rfl ?_
  refine E_aload_n 32 3 dX1_featureValue_31 rfl rfl rfl ?_
  refine E_getCr 35 fg_X1_21 dX1_featureValue_32 rfl ?_
  refine E_getCrN 38 fg_X1_58 dX1_featureValue_35 rfl ?_
  refine E_iload_n 39 4 dX1_featureValue_38 rfl rfl rfl ?_
  obtain ⟨h3, hf⟩ := chk_some hf
  refine E_ialdC 40 (k := 9) (n := 200) rfl (by decide) h3 dX1_featureValue_39 rfl ?_
  refine E_iload_n 41 6 dX1_featureValue_40 rfl rfl rfl ?_
  refine E_isub 42 dX1_featureValue_41 rfl ?_
  refine E_iconst 43 0 dX1_featureValue_42 cst_iconst0 rfl ?_
  obtain ⟨r4, hc5, hf⟩ := bnd hf
  refine E_callVC1 46 0 [] [.int r4] (c_X4_firstAfter hl hc5) my_X4_firstAfter rc_X4 kl_X1_43 rfl rfl (Nat.le_of_ble_eq_true rfl) (rmok rfl) dX1_featureValue_43 rfl rfl rfl ?_
  refine E_istore 48 [(7, .int r4), (6, .int (a1 + 1)), (5, .int (μ 7 a1.toNatClampNeg)), (4, .int (μ 6 a1.toNatClampNeg)), (0, .ref (gaC g 1)), (1, .int a1), (2, .int a2), (3, .int a3)] dX1_featureValue_46 (by decide) rfl rfl ?_
  refine E_iload_n 49 6 dX1_featureValue_48 rfl rfl rfl ?_
  by_cases s45 : (a2 : Int32) = 97
  · have hf := ite_t s45 hf
    refine E_tableEq 297 dX1_featureValue_49 (v := 97) s45 (by decide) (by decide) (off := 248) (by decide) (by decide) ?_
    refine E_aload_n 298 4 dX1_featureValue_297 rfl rfl rfl ?_
    refine E_getCr 301 fg_X1_21 dX1_featureValue_298 rfl ?_
    refine E_getCrN 304 fg_X1_58 dX1_featureValue_301 rfl ?_
    refine E_iload_n 305 5 dX1_featureValue_304 rfl rfl rfl ?_
    obtain ⟨h12, hf⟩ := chk_some hf
    refine E_ialdC 306 (k := 9) (n := 200) rfl (by decide) h12 dX1_featureValue_305 rfl ?_
    refine E_aload_n 307 4 dX1_featureValue_306 rfl rfl rfl ?_
    refine E_getCr 310 fg_X1_12 dX1_featureValue_307 rfl ?_
    refine E_getCrN 313 fg_X1_103 dX1_featureValue_310 rfl ?_
    refine E_iload 315 3 dX1_featureValue_313 rfl rfl ?_
    obtain ⟨h13, hf⟩ := chk_some hf
    refine E_ialdC 316 (k := 4) (n := 20) rfl (by decide) h13 dX1_featureValue_315 rfl ?_
    refine E_isub 317 dX1_featureValue_316 rfl ?_
    cases hf
    exact E_iret dX1_featureValue_317 rfl (Nat.le_of_ble_eq_true rfl) (Nat.le_of_ble_eq_true rfl)
  have hf := ite_e s45 hf
  by_cases s46 : (a2 : Int32) = 99
  · have hf := ite_t s46 hf
    refine E_tableEq 230 dX1_featureValue_49 (v := 99) s46 (by decide) (by decide) (off := 181) (by decide) (by decide) ?_
    refine E_aload_n 231 4 dX1_featureValue_230 rfl rfl rfl ?_
    refine E_aload_n 232 4 dX1_featureValue_231 rfl rfl rfl ?_
    refine E_getCr 235 fg_X1_21 dX1_featureValue_232 rfl ?_
    refine E_iload 237 3 dX1_featureValue_235 rfl rfl ?_
    refine E_iload 239 0 dX1_featureValue_237 rfl rfl ?_
    refine E_iload 241 1 dX1_featureValue_239 rfl rfl ?_
    obtain ⟨r14, hc15, hf⟩ := bnd hf
    refine E_callVC1 244 0 [.ref (gaC g 1)] [.int r14, .ref (gaC g 1)] (c_X4_receiversFrom hl hc15) my_X4_receiversFrom rc_X4 kl_X1_83 rfl rfl (Nat.le_of_ble_eq_true rfl) (rmok rfl) dX1_featureValue_241 rfl rfl rfl ?_
    obtain ⟨r16, hc17, hf⟩ := bnd hf
    refine E_callVC1 247 0 [] [.int r16] (c_X1_countCountries hl hc17) my_X1_countCountries rc_X1 kl_X1_92 rfl rfl (Nat.le_of_ble_eq_true rfl) (rmok rfl) dX1_featureValue_244 rfl rfl rfl ?_
    cases hf
    exact E_iret dX1_featureValue_247 rfl (Nat.le_of_ble_eq_true rfl) (Nat.le_of_ble_eq_true rfl)
  have hf := ite_e s46 hf
  by_cases s47 : (a2 : Int32) = 100
  · have hf := ite_t s47 hf
    refine E_tableEq 332 dX1_featureValue_49 (v := 100) s47 (by decide) (by decide) (off := 283) (by decide) (by decide) ?_
    refine E_aload_n 333 4 dX1_featureValue_332 rfl rfl rfl ?_
    refine E_iload 335 0 dX1_featureValue_333 rfl rfl ?_
    refine E_iload 337 1 dX1_featureValue_335 rfl rfl ?_
    obtain ⟨r18, hc19, hf⟩ := bnd hf
    refine E_callVC1 340 0 [] [.ref (gaC g 10)] (c_X1_networkOf hl hc19) my_X1_networkOf rc_X1 kl_X1_64 rfl rfl (Nat.le_of_ble_eq_true rfl) (rmok rfl) dX1_featureValue_337 rfl rfl rfl ?_
    refine E_iload 342 2 dX1_featureValue_340 rfl rfl ?_
    refine E_aload_n 343 4 dX1_featureValue_342 rfl rfl rfl ?_
    refine E_getCr 346 fg_X1_12 dX1_featureValue_343 rfl ?_
    refine E_getCN 349 fg_X1_109 dX1_featureValue_346 rfl ?_
    refine E_bipush 351 99 dX1_featureValue_349 cst_bipush99 rfl ?_
    obtain ⟨r20, hc21, hf⟩ := bnd hf
    refine E_callVC1 354 0 [] [.int r20] (c_X5_leastLinks hl hc21) my_X5_leastLinks rc_X5 kl_X1_112 rfl rfl (Nat.le_of_ble_eq_true rfl) (rmok rfl) dX1_featureValue_351 rfl rfl rfl ?_
    cases hf
    exact E_iret dX1_featureValue_354 rfl (Nat.le_of_ble_eq_true rfl) (Nat.le_of_ble_eq_true rfl)
  have hf := ite_e s47 hf
  by_cases s48 : (a2 : Int32) = 102
  · have hf := ite_t s48 hf
    refine E_tableEq 269 dX1_featureValue_49 (v := 102) s48 (by decide) (by decide) (off := 220) (by decide) (by decide) ?_
    refine E_aload_n 270 4 dX1_featureValue_269 rfl rfl rfl ?_
    refine E_getCr 273 fg_X1_21 dX1_featureValue_270 rfl ?_
    refine E_iload_n 274 5 dX1_featureValue_273 rfl rfl rfl ?_
    obtain ⟨r22, hc23, hf⟩ := bnd hf
    refine E_callVC1 277 0 [] [.int r22] (c_X4_isFirstOfPair hl hc23) my_X4_isFirstOfPair rc_X4 kl_X1_95 rfl rfl (Nat.le_of_ble_eq_true rfl) (rmok rfl) dX1_featureValue_274 rfl rfl rfl ?_
    refine E_if_eq 284 280 dX1_featureValue_277 (by decide) rfl (fun c24 => ?_) (fun c24 => ?_)
    · have hf := ite_t c24 hf
      refine E_iconst 285 0 dX1_featureValue_284 cst_iconst0 rfl ?_
      cases hf
      exact E_iret dX1_featureValue_285 rfl (Nat.le_of_ble_eq_true rfl) (Nat.le_of_ble_eq_true rfl)
    · have hf := ite_e c24 hf
      refine E_iconst 281 1 dX1_featureValue_280 cst_iconst1 rfl ?_
      refine E_goto 285 dX1_featureValue_281 (by decide) ?_
      cases hf
      exact E_iret dX1_featureValue_285 rfl (Nat.le_of_ble_eq_true rfl) (Nat.le_of_ble_eq_true rfl)
  have hf := ite_e s48 hf
  by_cases s49 : (a2 : Int32) = 103
  · have hf := ite_t s49 hf
    refine E_tableEq 318 dX1_featureValue_49 (v := 103) s49 (by decide) (by decide) (off := 269) (by decide) (by decide) ?_
    refine E_aload_n 319 4 dX1_featureValue_318 rfl rfl rfl ?_
    refine E_iload 321 0 dX1_featureValue_319 rfl rfl ?_
    refine E_iload 323 1 dX1_featureValue_321 rfl rfl ?_
    obtain ⟨r25, hc26, hf⟩ := bnd hf
    refine E_callVC1 326 0 [] [.ref (gaC g 10)] (c_X1_networkOf hl hc26) my_X1_networkOf rc_X1 kl_X1_64 rfl rfl (Nat.le_of_ble_eq_true rfl) (rmok rfl) dX1_featureValue_323 rfl rfl rfl ?_
    refine E_iload 328 3 dX1_featureValue_326 rfl rfl ?_
    obtain ⟨r27, hc28, hf⟩ := bnd hf
    refine E_callVC1 331 0 [] [.int r27] (c_X5_groupSize hl hc28) my_X5_groupSize rc_X5 kl_X1_106 rfl rfl (Nat.le_of_ble_eq_true rfl) (rmok rfl) dX1_featureValue_328 rfl rfl rfl ?_
    cases hf
    exact E_iret dX1_featureValue_331 rfl (Nat.le_of_ble_eq_true rfl) (Nat.le_of_ble_eq_true rfl)
  have hf := ite_e s49 hf
  by_cases s50 : (a2 : Int32) = 105
  · have hf := ite_t s50 hf
    refine E_tableEq 248 dX1_featureValue_49 (v := 105) s50 (by decide) (by decide) (off := 199) (by decide) (by decide) ?_
    refine E_aload_n 249 4 dX1_featureValue_248 rfl rfl rfl ?_
    refine E_getCr 252 fg_X1_21 dX1_featureValue_249 rfl ?_
    refine E_aload_n 253 4 dX1_featureValue_252 rfl rfl rfl ?_
    refine E_getCr 256 fg_X1_21 dX1_featureValue_253 rfl ?_
    refine E_getCrN 259 fg_X1_72 dX1_featureValue_256 rfl ?_
    refine E_iload 261 3 dX1_featureValue_259 rfl rfl ?_
    refine E_iload 263 0 dX1_featureValue_261 rfl rfl ?_
    refine E_iload 265 1 dX1_featureValue_263 rfl rfl ?_
    obtain ⟨r29, hc30, hf⟩ := bnd hf
    refine E_callVC1 268 0 [] [.int r29] (c_X4_sumOf_7 hl hc30) my_X4_sumOf rc_X4 kl_X1_54 rfl rfl (Nat.le_of_ble_eq_true rfl) (rmok rfl) dX1_featureValue_265 rfl rfl rfl ?_
    cases hf
    exact E_iret dX1_featureValue_268 rfl (Nat.le_of_ble_eq_true rfl) (Nat.le_of_ble_eq_true rfl)
  have hf := ite_e s50 hf
  by_cases s51 : (a2 : Int32) = 108
  · have hf := ite_t s51 hf
    refine E_tableEq 193 dX1_featureValue_49 (v := 108) s51 (by decide) (by decide) (off := 144) (by decide) (by decide) ?_
    refine E_aload_n 194 4 dX1_featureValue_193 rfl rfl rfl ?_
    refine E_getCr 197 fg_X1_21 dX1_featureValue_194 rfl ?_
    refine E_iload 199 3 dX1_featureValue_197 rfl rfl ?_
    refine E_iload 201 0 dX1_featureValue_199 rfl rfl ?_
    refine E_iload 203 1 dX1_featureValue_201 rfl rfl ?_
    refine E_sipush 206 900 dX1_featureValue_203 cst_sipush900 rfl ?_
    refine E_sipush 209 999 dX1_featureValue_206 cst_sipush999 rfl ?_
    obtain ⟨r31, hc32, hf⟩ := bnd hf
    refine E_callVC1 212 0 [] [.int r31] (c_X4_countSent hl hc32) my_X4_countSent rc_X4 kl_X1_75 rfl rfl (Nat.le_of_ble_eq_true rfl) (rmok rfl) dX1_featureValue_209 rfl rfl rfl ?_
    cases hf
    exact E_iret dX1_featureValue_212 rfl (Nat.le_of_ble_eq_true rfl) (Nat.le_of_ble_eq_true rfl)
  have hf := ite_e s51 hf
  by_cases s52 : (a2 : Int32) = 109
  · have hf := ite_t s52 hf
    refine E_tableEq 179 dX1_featureValue_49 (v := 109) s52 (by decide) (by decide) (off := 130) (by decide) (by decide) ?_
    refine E_aload_n 180 4 dX1_featureValue_179 rfl rfl rfl ?_
    refine E_getCr 183 fg_X1_21 dX1_featureValue_180 rfl ?_
    refine E_iload 185 3 dX1_featureValue_183 rfl rfl ?_
    refine E_iload 187 0 dX1_featureValue_185 rfl rfl ?_
    refine E_iload 189 1 dX1_featureValue_187 rfl rfl ?_
    obtain ⟨r33, hc34, hf⟩ := bnd hf
    refine E_callVC1 192 0 [] [.int r33] (c_X4_greatestSent hl hc34) my_X4_greatestSent rc_X4 kl_X1_79 rfl rfl (Nat.le_of_ble_eq_true rfl) (rmok rfl) dX1_featureValue_189 rfl rfl rfl ?_
    cases hf
    exact E_iret dX1_featureValue_192 rfl (Nat.le_of_ble_eq_true rfl) (Nat.le_of_ble_eq_true rfl)
  have hf := ite_e s52 hf
  by_cases s53 : (a2 : Int32) = 110
  · have hf := ite_t s53 hf
    refine E_tableEq 140 dX1_featureValue_49 (v := 110) s53 (by decide) (by decide) (off := 91) (by decide) (by decide) ?_
    refine E_aload_n 141 4 dX1_featureValue_140 rfl rfl rfl ?_
    refine E_getCr 144 fg_X1_21 dX1_featureValue_141 rfl ?_
    refine E_iload 146 3 dX1_featureValue_144 rfl rfl ?_
    refine E_iload 148 0 dX1_featureValue_146 rfl rfl ?_
    refine E_iload 150 1 dX1_featureValue_148 rfl rfl ?_
    refine E_iconst 151 1 dX1_featureValue_150 cst_iconst1 rfl ?_
    refine E_sipush 154 9999 dX1_featureValue_151 cst_sipush9999 rfl ?_
    obtain ⟨r35, hc36, hf⟩ := bnd hf
    refine E_callVC1 157 0 [] [.int r35] (c_X4_countSent hl hc36) my_X4_countSent rc_X4 kl_X1_75 rfl rfl (Nat.le_of_ble_eq_true rfl) (rmok rfl) dX1_featureValue_154 rfl rfl rfl ?_
    cases hf
    exact E_iret dX1_featureValue_157 rfl (Nat.le_of_ble_eq_true rfl) (Nat.le_of_ble_eq_true rfl)
  have hf := ite_e s53 hf
  by_cases s54 : (a2 : Int32) = 113
  · have hf := ite_t s54 hf
    refine E_tableEq 286 dX1_featureValue_49 (v := 113) s54 (by decide) (by decide) (off := 237) (by decide) (by decide) ?_
    refine E_aload_n 287 4 dX1_featureValue_286 rfl rfl rfl ?_
    refine E_getCr 290 fg_X1_21 dX1_featureValue_287 rfl ?_
    refine E_iload_n 291 5 dX1_featureValue_290 rfl rfl rfl ?_
    refine E_ldc 293 kq_X1_99 dX1_featureValue_291 rfl ?_
    obtain ⟨r37, hc38, hf⟩ := bnd hf
    refine E_callVC1 296 0 [] [.int r37] (c_X4_minutesSinceLast hl hc38) my_X4_minutesSinceLast rc_X4 kl_X1_100 rfl rfl (Nat.le_of_ble_eq_true rfl) (rmok rfl) dX1_featureValue_293 rfl rfl rfl ?_
    cases hf
    exact E_iret dX1_featureValue_296 rfl (Nat.le_of_ble_eq_true rfl) (Nat.le_of_ble_eq_true rfl)
  have hf := ite_e s54 hf
  by_cases s55 : (a2 : Int32) = 114
  · have hf := ite_t s55 hf
    refine E_tableEq 213 dX1_featureValue_49 (v := 114) s55 (by decide) (by decide) (off := 164) (by decide) (by decide) ?_
    refine E_aload_n 214 4 dX1_featureValue_213 rfl rfl rfl ?_
    refine E_getCr 217 fg_X1_21 dX1_featureValue_214 rfl ?_
    refine E_iload 219 3 dX1_featureValue_217 rfl rfl ?_
    refine E_iload 221 0 dX1_featureValue_219 rfl rfl ?_
    refine E_iload 223 1 dX1_featureValue_221 rfl rfl ?_
    obtain ⟨r39, hc40, hf⟩ := bnd hf
    refine E_callVC1 226 0 [] [.int r39] (c_X4_receiversFrom hl hc40) my_X4_receiversFrom rc_X4 kl_X1_83 rfl rfl (Nat.le_of_ble_eq_true rfl) (rmok rfl) dX1_featureValue_223 rfl rfl rfl ?_
    obtain ⟨r41, hc42, hf⟩ := bnd hf
    refine E_callS1 229 0 [] [.int r41] (c_J6_bitCount_0f7a4 hl hc42) my_J6_bitCount_0f7a4 kl_X1_86 rfl rfl (Nat.le_of_ble_eq_true rfl) (rmok rfl) dX1_featureValue_226 rfl rfl rfl ?_
    cases hf
    exact E_iret dX1_featureValue_229 rfl (Nat.le_of_ble_eq_true rfl) (Nat.le_of_ble_eq_true rfl)
  have hf := ite_e s55 hf
  by_cases s56 : (a2 : Int32) = 115
  · have hf := ite_t s56 hf
    refine E_tableEq 158 dX1_featureValue_49 (v := 115) s56 (by decide) (by decide) (off := 109) (by decide) (by decide) ?_
    refine E_aload_n 159 4 dX1_featureValue_158 rfl rfl rfl ?_
    refine E_getCr 162 fg_X1_21 dX1_featureValue_159 rfl ?_
    refine E_aload_n 163 4 dX1_featureValue_162 rfl rfl rfl ?_
    refine E_getCr 166 fg_X1_21 dX1_featureValue_163 rfl ?_
    refine E_getCrN 169 fg_X1_47 dX1_featureValue_166 rfl ?_
    refine E_iload 171 3 dX1_featureValue_169 rfl rfl ?_
    refine E_iload 173 0 dX1_featureValue_171 rfl rfl ?_
    refine E_iload 175 1 dX1_featureValue_173 rfl rfl ?_
    obtain ⟨r43, hc44, hf⟩ := bnd hf
    refine E_callVC1 178 0 [] [.int r43] (c_X4_sumOf_6 hl hc44) my_X4_sumOf rc_X4 kl_X1_54 rfl rfl (Nat.le_of_ble_eq_true rfl) (rmok rfl) dX1_featureValue_175 rfl rfl rfl ?_
    cases hf
    exact E_iret dX1_featureValue_178 rfl (Nat.le_of_ble_eq_true rfl) (Nat.le_of_ble_eq_true rfl)
  have hf := ite_e s56 hf
  have hd57 : E l g z_X1_featureValue 355 [(7, .int r4), (6, .int (a1 + 1)), (5, .int (μ 7 a1.toNatClampNeg)), (4, .int (μ 6 a1.toNatClampNeg)), (0, .ref (gaC g 1)), (1, .int a1), (2, .int a2), (3, .int a3)] [] (μ, ν, o, dd) 0 (QM g (.inl (some (.int res.1))) (res.2, ν, o, dd) 0) := by
    refine E_aload_n 356 4 dX1_featureValue_355 rfl rfl rfl ?_
    refine E_iload 358 0 dX1_featureValue_356 rfl rfl ?_
    refine E_iload 360 1 dX1_featureValue_358 rfl rfl ?_
    obtain ⟨r6, hc7, hf⟩ := bnd hf
    refine E_callVC1 363 0 [] [.ref (gaC g 10)] (c_X1_networkOf hl hc7) my_X1_networkOf rc_X1 kl_X1_64 rfl rfl (Nat.le_of_ble_eq_true rfl) (rmok rfl) dX1_featureValue_360 rfl rfl rfl ?_
    refine E_iload 365 2 dX1_featureValue_363 rfl rfl ?_
    refine E_iload 367 3 dX1_featureValue_365 rfl rfl ?_
    obtain ⟨r8, hc9, hf⟩ := bnd hf
    refine E_callVC1 370 0 [] [.int r8] (c_X5_shortestWay hl hc9) my_X5_shortestWay rc_X5 kl_X1_115 rfl rfl (Nat.le_of_ble_eq_true rfl) (rmok rfl) dX1_featureValue_367 rfl rfl rfl ?_
    refine E_istore 372 [(8, .int r8), (7, .int r4), (6, .int (a1 + 1)), (5, .int (μ 7 a1.toNatClampNeg)), (4, .int (μ 6 a1.toNatClampNeg)), (0, .ref (gaC g 1)), (1, .int a1), (2, .int a2), (3, .int a3)] dX1_featureValue_370 (by decide) rfl rfl ?_
    refine E_iload 374 0 dX1_featureValue_372 rfl rfl ?_
    refine E_iconst 375 (-1) dX1_featureValue_374 cst_iconstn1 rfl ?_
    refine E_icmp_ne 382 378 dX1_featureValue_375 (by decide) rfl (fun c10 => ?_) (fun c10 => ?_)
    · have hf := ite_e c10 hf
      refine E_iconst 383 1 dX1_featureValue_382 cst_iconst1 rfl ?_
      refine E_iload 385 0 dX1_featureValue_383 rfl rfl ?_
      refine E_iadd 386 dX1_featureValue_385 rfl ?_
      cases hf
      exact E_iret dX1_featureValue_386 rfl (Nat.le_of_ble_eq_true rfl) (Nat.le_of_ble_eq_true rfl)
    · have hf := ite_t c10 hf
      refine E_iconst 379 0 dX1_featureValue_378 cst_iconst0 rfl ?_
      refine E_goto 386 dX1_featureValue_379 (by decide) ?_
      cases hf
      exact E_iret dX1_featureValue_386 rfl (Nat.le_of_ble_eq_true rfl) (Nat.le_of_ble_eq_true rfl)
  rcases sw_97_115 (a2) with ho | ho | ho | ho | ho | ho | ho | ho | ho | ho | ho | ho | ho | ho | ho | ho | ho | ho | ho | ho
  · exact E_tableOut 355 dX1_featureValue_49 ho (by decide) hd57
  · exact absurd ho s45
  · exact E_tableEq 355 dX1_featureValue_49 (v := 98) ho (by decide) (by decide) (off := 306) (by decide) (by decide) hd57
  · exact absurd ho s46
  · exact absurd ho s47
  · exact E_tableEq 355 dX1_featureValue_49 (v := 101) ho (by decide) (by decide) (off := 306) (by decide) (by decide) hd57
  · exact absurd ho s48
  · exact absurd ho s49
  · exact E_tableEq 355 dX1_featureValue_49 (v := 104) ho (by decide) (by decide) (off := 306) (by decide) (by decide) hd57
  · exact absurd ho s50
  · exact E_tableEq 355 dX1_featureValue_49 (v := 106) ho (by decide) (by decide) (off := 306) (by decide) (by decide) hd57
  · exact E_tableEq 355 dX1_featureValue_49 (v := 107) ho (by decide) (by decide) (off := 306) (by decide) (by decide) hd57
  · exact absurd ho s51
  · exact absurd ho s52
  · exact absurd ho s53
  · exact E_tableEq 355 dX1_featureValue_49 (v := 111) ho (by decide) (by decide) (off := 306) (by decide) (by decide) hd57
  · exact E_tableEq 355 dX1_featureValue_49 (v := 112) ho (by decide) (by decide) (off := 306) (by decide) (by decide) hd57
  · exact absurd ho s54
  · exact absurd ho s55
  · exact absurd ho s56
set_option maxRecDepth 100000 in
set_option maxHeartbeats 4000000 in
theorem c_X3_judgeTest_1 {l : Launch} {g : Gt} (hl : l.stackTraces = false) {a2 : Int32} {a3 : Int32} {μ : Mm} {ν : Mm} {o : Nat → Int64} {dd : Nat → UInt64} {res : Int32 × Mm} (hf : f_X3_judgeTest_1 a2 a3 μ = some res) : CM l g z_X3_judgeTest yX3_judgeTest [.ref (gaC g 13), .ref (gaC g 1), .int a2, .int a3] (μ, ν, o, dd) 0 (.inl (some (.int res.1))) (res.2, ν, o, dd) := by
  unfold f_X3_judgeTest_1 at hf
  refine CM_of_E rfl rfl (by decide +kernel) rfl (Nat.le_of_ble_eq_true rfl) hl ?_
  refine E_aload_n 1 1 dX3_judgeTest_0 rfl rfl rfl ?_
  refine E_iload_n 2 2 dX3_judgeTest_1 rfl rfl rfl ?_
  refine E_aload_n 3 0 dX3_judgeTest_2 rfl rfl rfl ?_
  refine E_getCr 6 fg_X3_18 dX3_judgeTest_3 rfl ?_
  refine E_iload_n 7 3 dX3_judgeTest_6 rfl rfl rfl ?_
  obtain ⟨h1, hf⟩ := chk_some hf
  refine E_caldC 8 (k := 16) (n := 30) rfl (by decide) h1 dX3_judgeTest_7 rfl ?_
  refine E_aload_n 9 0 dX3_judgeTest_8 rfl rfl rfl ?_
  refine E_getCr 12 fg_X3_22 dX3_judgeTest_9 rfl ?_
  refine E_iload_n 13 3 dX3_judgeTest_12 rfl rfl rfl ?_
  obtain ⟨h2, hf⟩ := chk_some hf
  refine E_ialdC 14 (k := 17) (n := 30) rfl (by decide) h2 dX3_judgeTest_13 rfl ?_
  obtain ⟨r3, hc4, hf⟩ := bnd hf
  refine E_callVC1 17 0 [] [.int r3.1] (c_X1_featureValue hl hc4) my_X1_featureValue rc_X1 kl_X3_69 rfl rfl (Nat.le_of_ble_eq_true rfl) (rmok rfl) dX3_judgeTest_14 rfl rfl rfl ?_
  refine E_istore 19 [(4, .int r3.1), (0, .ref (gaC g 13)), (1, .ref (gaC g 1)), (2, .int a2), (3, .int a3)] dX3_judgeTest_17 (by decide) rfl rfl ?_
  refine E_aload_n 20 1 dX3_judgeTest_19 rfl rfl rfl ?_
  refine E_getCr 23 fg_X3_47 dX3_judgeTest_20 rfl ?_
  refine E_iload_n 24 4 dX3_judgeTest_23 rfl rfl rfl ?_
  refine E_iload 26 0 dX3_judgeTest_24 rfl rfl ?_
  obtain ⟨h5, hf⟩ := chk_some hf
  refine E_iastC 27 (k := 25) (n := 30) rfl (by decide) h5 dX3_judgeTest_26 rfl ?_
  refine E_aload_n 28 1 dX3_judgeTest_27 rfl rfl rfl ?_
  refine E_getCr 31 fg_X3_25 dX3_judgeTest_28 rfl ?_
  refine E_iload_n 32 4 dX3_judgeTest_31 rfl rfl rfl ?_
  obtain ⟨h6, hf⟩ := chk_some hf
  refine E_zaldC 33 (k := 18) (n := 30) rfl (by decide) h6 dX3_judgeTest_32 rfl ?_
  refine E_if_eq 55 36 dX3_judgeTest_33 (by decide) rfl (fun c7 => ?_) (fun c7 => ?_)
  · have hf := ite_t c7 hf
    refine E_iload 57 0 dX3_judgeTest_55 rfl rfl ?_
    refine E_aload_n 58 1 dX3_judgeTest_57 rfl rfl rfl ?_
    refine E_getCr 61 fg_X3_29 dX3_judgeTest_58 rfl ?_
    refine E_iload_n 62 4 dX3_judgeTest_61 rfl rfl rfl ?_
    obtain ⟨h8, hf⟩ := chk_some hf
    refine E_ialdC 63 (k := 19) (n := 30) rfl (by decide) h8 dX3_judgeTest_62 rfl ?_
    refine E_icmp_gt 70 66 dX3_judgeTest_63 (by decide) rfl (fun c9 => ?_) (fun c9 => ?_)
    · have hf := ite_t c9 hf
      refine E_iconst 71 0 dX3_judgeTest_70 cst_iconst0 rfl ?_
      cases hf
      exact E_zret (v := 0) rfl dX3_judgeTest_71 rfl (Nat.le_of_ble_eq_true rfl) (Nat.le_of_ble_eq_true rfl)
    · have hf := ite_e c9 hf
      refine E_iconst 67 1 dX3_judgeTest_66 cst_iconst1 rfl ?_
      refine E_goto 71 dX3_judgeTest_67 (by decide) ?_
      cases hf
      exact E_zret (v := 1) rfl dX3_judgeTest_71 rfl (Nat.le_of_ble_eq_true rfl) (Nat.le_of_ble_eq_true rfl)
  · have hf := ite_e c7 hf
    refine E_iload 38 0 dX3_judgeTest_36 rfl rfl ?_
    refine E_aload_n 39 1 dX3_judgeTest_38 rfl rfl rfl ?_
    refine E_getCr 42 fg_X3_29 dX3_judgeTest_39 rfl ?_
    refine E_iload_n 43 4 dX3_judgeTest_42 rfl rfl rfl ?_
    obtain ⟨h10, hf⟩ := chk_some hf
    refine E_ialdC 44 (k := 19) (n := 30) rfl (by decide) h10 dX3_judgeTest_43 rfl ?_
    refine E_icmp_lt 51 47 dX3_judgeTest_44 (by decide) rfl (fun c11 => ?_) (fun c11 => ?_)
    · have hf := ite_t c11 hf
      refine E_iconst 52 0 dX3_judgeTest_51 cst_iconst0 rfl ?_
      refine E_goto 71 dX3_judgeTest_52 (by decide) ?_
      cases hf
      exact E_zret (v := 0) rfl dX3_judgeTest_71 rfl (Nat.le_of_ble_eq_true rfl) (Nat.le_of_ble_eq_true rfl)
    · have hf := ite_e c11 hf
      refine E_iconst 48 1 dX3_judgeTest_47 cst_iconst1 rfl ?_
      refine E_goto 71 dX3_judgeTest_48 (by decide) ?_
      cases hf
      exact E_zret (v := 1) rfl dX3_judgeTest_71 rfl (Nat.le_of_ble_eq_true rfl) (Nat.le_of_ble_eq_true rfl)
set_option maxRecDepth 100000 in
set_option maxHeartbeats 4000000 in
theorem l_X3_judge_1_L3 {l : Launch} {g : Gt} (hl : l.stackTraces = false) {ν : Mm} {o : Nat → Int64} {dd : Nat → UInt64}  {x2 : Int32} {x3 : Int32} {res : Mm} : ∀ (n : Nat) (x4 : Int32) (μ : Mm), f_X3_judge_1_L3 x2 x3 n x4 μ = some res → E l g z_X3_judge 3 [(0, .ref (gaC g 13)), (1, .ref (gaC g 1)), (2, .int x2), (3, .int x3), (4, .int x4)] [] (μ, ν, o, dd) 0 (QM g (.inl none) (res, ν, o, dd) 0) := by
  intro n
  induction n with
  | zero => intro x4 μ hf; cases hf
  | succ n ih =>
    intro x4 μ hf
    refine E_iload 5 4 dX3_judge_3 rfl rfl ?_
    refine E_iload_n 6 3 dX3_judge_5 rfl rfl rfl ?_
    refine E_icmp_ge 163 9 dX3_judge_6 (by decide) rfl (fun c1 => ?_) (fun c1 => ?_)
    · have hf := ite_t c1 hf
      cases hf
      exact E_vret dX3_judge_163 rfl (Nat.le_of_ble_eq_true rfl) (Nat.le_of_ble_eq_true rfl)
    · have hf := ite_e c1 hf
      refine E_aload_n 10 0 dX3_judge_9 rfl rfl rfl ?_
      refine E_getCr 13 fg_X3_44 dX3_judge_10 rfl ?_
      refine E_aload_n 14 0 dX3_judge_13 rfl rfl rfl ?_
      refine E_getCr 17 fg_X3_32 dX3_judge_14 rfl ?_
      refine E_iload 19 4 dX3_judge_17 rfl rfl ?_
      obtain ⟨h2, hf⟩ := chk_some hf
      refine E_ialdC 20 (k := 20) (n := 30) rfl (by decide) h2 dX3_judge_19 rfl ?_
      obtain ⟨h3, hf⟩ := chk_some hf
      refine E_zaldC 21 (k := 24) (n := 30) rfl (by decide) h3 dX3_judge_20 rfl ?_
      refine E_istore 23 [(5, .int (μ 24 (μ 20 x4.toNatClampNeg).toNatClampNeg)), (0, .ref (gaC g 13)), (1, .ref (gaC g 1)), (2, .int x2), (3, .int x3), (4, .int x4)] dX3_judge_21 (by decide) rfl rfl ?_
      refine E_aload_n 24 1 dX3_judge_23 rfl rfl rfl ?_
      refine E_getCr 27 fg_X3_44 dX3_judge_24 rfl ?_
      refine E_aload_n 28 1 dX3_judge_27 rfl rfl rfl ?_
      refine E_getCr 31 fg_X3_35 dX3_judge_28 rfl ?_
      refine E_iload 33 5 dX3_judge_31 rfl rfl ?_
      obtain ⟨h4, hf⟩ := chk_some hf
      refine E_ialdC 34 (k := 21) (n := 30) rfl (by decide) h4 dX3_judge_33 rfl ?_
      obtain ⟨h5, hf⟩ := chk_some hf
      refine E_zaldC 35 (k := 24) (n := 30) rfl (by decide) h5 dX3_judge_34 rfl ?_
      refine E_istore 37 [(6, .int (μ 24 (μ 21 x4.toNatClampNeg).toNatClampNeg)), (5, .int (μ 24 (μ 20 x4.toNatClampNeg).toNatClampNeg)), (0, .ref (gaC g 13)), (1, .ref (gaC g 1)), (2, .int x2), (3, .int x3), (4, .int x4)] dX3_judge_35 (by decide) rfl rfl ?_
      refine E_aload_n 38 2 dX3_judge_37 rfl rfl rfl ?_
      refine E_getCr 41 fg_X3_9 dX3_judge_38 rfl ?_
      refine E_iload 43 6 dX3_judge_41 rfl rfl ?_
      obtain ⟨h6, hf⟩ := chk_some hf
      refine E_ialdC 44 (k := 14) (n := 30) rfl (by decide) h6 dX3_judge_43 rfl ?_
      by_cases s24 : (μ 14 x4.toNatClampNeg : Int32) = 1
      · have hf := ite_t s24 hf
        refine E_tableEq 72 dX3_judge_44 (v := 1) s24 (by decide) (by decide) (off := 28) (by decide) (by decide) ?_
        refine E_aload_n 73 2 dX3_judge_72 rfl rfl rfl ?_
        refine E_getCr 76 fg_X3_44 dX3_judge_73 rfl ?_
        refine E_iload 78 6 dX3_judge_76 rfl rfl ?_
        refine E_iload 80 1 dX3_judge_78 rfl rfl ?_
        refine E_if_eq 92 83 dX3_judge_80 (by decide) rfl (fun c11 => ?_) (fun c11 => ?_)
        · have hf := ite_t c11 hf
          refine E_iconst 93 0 dX3_judge_92 cst_iconst0 rfl ?_
          obtain ⟨h12, hf⟩ := chk_some hf
          refine E_zastC 94 (k := 24) (n := 30) rfl (by decide) h12 dX3_judge_93 rfl ?_
          refine E_goto 157 dX3_judge_94 (by decide) ?_
          refine E_iinc 160 [(4, .int (x4 + 1)), (6, .int (μ 24 (μ 21 x4.toNatClampNeg).toNatClampNeg)), (5, .int (μ 24 (μ 20 x4.toNatClampNeg).toNatClampNeg)), (0, .ref (gaC g 13)), (1, .ref (gaC g 1)), (2, .int x2), (3, .int x3)] 6 (v := x4 + 1) dX3_judge_157 rfl (by rw [cst_iconst1]) (by decide) rfl rfl ?_
          refine E_goto 3 dX3_judge_160 (by decide) ?_
          refine E_sub [3, 4, 5, 6, 0] rfl ?_
          exact ih (x4 + 1) (up2 μ 24 x4.toNatClampNeg (vp_nar .boolean 0)) hf
        · have hf := ite_e c11 hf
          refine E_iload 85 0 dX3_judge_83 rfl rfl ?_
          refine E_if_eq 92 88 dX3_judge_85 (by decide) rfl (fun c13 => ?_) (fun c13 => ?_)
          · have hf := ite_t c13 hf
            refine E_iconst 93 0 dX3_judge_92 cst_iconst0 rfl ?_
            obtain ⟨h14, hf⟩ := chk_some hf
            refine E_zastC 94 (k := 24) (n := 30) rfl (by decide) h14 dX3_judge_93 rfl ?_
            refine E_goto 157 dX3_judge_94 (by decide) ?_
            refine E_iinc 160 [(4, .int (x4 + 1)), (6, .int (μ 24 (μ 21 x4.toNatClampNeg).toNatClampNeg)), (5, .int (μ 24 (μ 20 x4.toNatClampNeg).toNatClampNeg)), (0, .ref (gaC g 13)), (1, .ref (gaC g 1)), (2, .int x2), (3, .int x3)] 6 (v := x4 + 1) dX3_judge_157 rfl (by rw [cst_iconst1]) (by decide) rfl rfl ?_
            refine E_goto 3 dX3_judge_160 (by decide) ?_
            refine E_sub [3, 4, 5, 6, 0] rfl ?_
            exact ih (x4 + 1) (up2 μ 24 x4.toNatClampNeg (vp_nar .boolean 0)) hf
          · have hf := ite_e c13 hf
            refine E_iconst 89 1 dX3_judge_88 cst_iconst1 rfl ?_
            refine E_goto 93 dX3_judge_89 (by decide) ?_
            obtain ⟨h15, hf⟩ := chk_some hf
            refine E_zastC 94 (k := 24) (n := 30) rfl (by decide) h15 dX3_judge_93 rfl ?_
            refine E_goto 157 dX3_judge_94 (by decide) ?_
            refine E_iinc 160 [(4, .int (x4 + 1)), (6, .int (μ 24 (μ 21 x4.toNatClampNeg).toNatClampNeg)), (5, .int (μ 24 (μ 20 x4.toNatClampNeg).toNatClampNeg)), (0, .ref (gaC g 13)), (1, .ref (gaC g 1)), (2, .int x2), (3, .int x3)] 6 (v := x4 + 1) dX3_judge_157 rfl (by rw [cst_iconst1]) (by decide) rfl rfl ?_
            refine E_goto 3 dX3_judge_160 (by decide) ?_
            refine E_sub [3, 4, 5, 6, 0] rfl ?_
            exact ih (x4 + 1) (up2 μ 24 x4.toNatClampNeg (vp_nar .boolean 1)) hf
      have hf := ite_e s24 hf
      by_cases s25 : (μ 14 x4.toNatClampNeg : Int32) = 2
      · have hf := ite_t s25 hf
        refine E_tableEq 97 dX3_judge_44 (v := 2) s25 (by decide) (by decide) (off := 53) (by decide) (by decide) ?_
        refine E_aload_n 98 2 dX3_judge_97 rfl rfl rfl ?_
        refine E_getCr 101 fg_X3_44 dX3_judge_98 rfl ?_
        refine E_iload 103 6 dX3_judge_101 rfl rfl ?_
        refine E_iload 105 1 dX3_judge_103 rfl rfl ?_
        refine E_if_ne 113 108 dX3_judge_105 (by decide) rfl (fun c16 => ?_) (fun c16 => ?_)
        · have hf := ite_e c16 hf
          refine E_iconst 114 1 dX3_judge_113 cst_iconst1 rfl ?_
          refine E_goto 118 dX3_judge_114 (by decide) ?_
          obtain ⟨h17, hf⟩ := chk_some hf
          refine E_zastC 119 (k := 24) (n := 30) rfl (by decide) h17 dX3_judge_118 rfl ?_
          refine E_goto 157 dX3_judge_119 (by decide) ?_
          refine E_iinc 160 [(4, .int (x4 + 1)), (6, .int (μ 24 (μ 21 x4.toNatClampNeg).toNatClampNeg)), (5, .int (μ 24 (μ 20 x4.toNatClampNeg).toNatClampNeg)), (0, .ref (gaC g 13)), (1, .ref (gaC g 1)), (2, .int x2), (3, .int x3)] 6 (v := x4 + 1) dX3_judge_157 rfl (by rw [cst_iconst1]) (by decide) rfl rfl ?_
          refine E_goto 3 dX3_judge_160 (by decide) ?_
          refine E_sub [3, 4, 5, 6, 0] rfl ?_
          exact ih (x4 + 1) (up2 μ 24 x4.toNatClampNeg (vp_nar .boolean 1)) hf
        · have hf := ite_t c16 hf
          refine E_iload 110 0 dX3_judge_108 rfl rfl ?_
          refine E_if_eq 117 113 dX3_judge_110 (by decide) rfl (fun c18 => ?_) (fun c18 => ?_)
          · have hf := ite_t c18 hf
            refine E_iconst 118 0 dX3_judge_117 cst_iconst0 rfl ?_
            obtain ⟨h19, hf⟩ := chk_some hf
            refine E_zastC 119 (k := 24) (n := 30) rfl (by decide) h19 dX3_judge_118 rfl ?_
            refine E_goto 157 dX3_judge_119 (by decide) ?_
            refine E_iinc 160 [(4, .int (x4 + 1)), (6, .int (μ 24 (μ 21 x4.toNatClampNeg).toNatClampNeg)), (5, .int (μ 24 (μ 20 x4.toNatClampNeg).toNatClampNeg)), (0, .ref (gaC g 13)), (1, .ref (gaC g 1)), (2, .int x2), (3, .int x3)] 6 (v := x4 + 1) dX3_judge_157 rfl (by rw [cst_iconst1]) (by decide) rfl rfl ?_
            refine E_goto 3 dX3_judge_160 (by decide) ?_
            refine E_sub [3, 4, 5, 6, 0] rfl ?_
            exact ih (x4 + 1) (up2 μ 24 x4.toNatClampNeg (vp_nar .boolean 0)) hf
          · have hf := ite_e c18 hf
            refine E_iconst 114 1 dX3_judge_113 cst_iconst1 rfl ?_
            refine E_goto 118 dX3_judge_114 (by decide) ?_
            obtain ⟨h20, hf⟩ := chk_some hf
            refine E_zastC 119 (k := 24) (n := 30) rfl (by decide) h20 dX3_judge_118 rfl ?_
            refine E_goto 157 dX3_judge_119 (by decide) ?_
            refine E_iinc 160 [(4, .int (x4 + 1)), (6, .int (μ 24 (μ 21 x4.toNatClampNeg).toNatClampNeg)), (5, .int (μ 24 (μ 20 x4.toNatClampNeg).toNatClampNeg)), (0, .ref (gaC g 13)), (1, .ref (gaC g 1)), (2, .int x2), (3, .int x3)] 6 (v := x4 + 1) dX3_judge_157 rfl (by rw [cst_iconst1]) (by decide) rfl rfl ?_
            refine E_goto 3 dX3_judge_160 (by decide) ?_
            refine E_sub [3, 4, 5, 6, 0] rfl ?_
            exact ih (x4 + 1) (up2 μ 24 x4.toNatClampNeg (vp_nar .boolean 1)) hf
      have hf := ite_e s25 hf
      by_cases s26 : (μ 14 x4.toNatClampNeg : Int32) = 3
      · have hf := ite_t s26 hf
        refine E_tableEq 122 dX3_judge_44 (v := 3) s26 (by decide) (by decide) (off := 78) (by decide) (by decide) ?_
        refine E_aload_n 123 2 dX3_judge_122 rfl rfl rfl ?_
        refine E_getCr 126 fg_X3_44 dX3_judge_123 rfl ?_
        refine E_iload 128 6 dX3_judge_126 rfl rfl ?_
        refine E_iload 130 1 dX3_judge_128 rfl rfl ?_
        refine E_if_ne 137 133 dX3_judge_130 (by decide) rfl (fun c21 => ?_) (fun c21 => ?_)
        · have hf := ite_e c21 hf
          refine E_iconst 138 0 dX3_judge_137 cst_iconst0 rfl ?_
          obtain ⟨h22, hf⟩ := chk_some hf
          refine E_zastC 139 (k := 24) (n := 30) rfl (by decide) h22 dX3_judge_138 rfl ?_
          refine E_goto 157 dX3_judge_139 (by decide) ?_
          refine E_iinc 160 [(4, .int (x4 + 1)), (6, .int (μ 24 (μ 21 x4.toNatClampNeg).toNatClampNeg)), (5, .int (μ 24 (μ 20 x4.toNatClampNeg).toNatClampNeg)), (0, .ref (gaC g 13)), (1, .ref (gaC g 1)), (2, .int x2), (3, .int x3)] 6 (v := x4 + 1) dX3_judge_157 rfl (by rw [cst_iconst1]) (by decide) rfl rfl ?_
          refine E_goto 3 dX3_judge_160 (by decide) ?_
          refine E_sub [3, 4, 5, 6, 0] rfl ?_
          exact ih (x4 + 1) (up2 μ 24 x4.toNatClampNeg (vp_nar .boolean 0)) hf
        · have hf := ite_t c21 hf
          refine E_iconst 134 1 dX3_judge_133 cst_iconst1 rfl ?_
          refine E_goto 138 dX3_judge_134 (by decide) ?_
          obtain ⟨h23, hf⟩ := chk_some hf
          refine E_zastC 139 (k := 24) (n := 30) rfl (by decide) h23 dX3_judge_138 rfl ?_
          refine E_goto 157 dX3_judge_139 (by decide) ?_
          refine E_iinc 160 [(4, .int (x4 + 1)), (6, .int (μ 24 (μ 21 x4.toNatClampNeg).toNatClampNeg)), (5, .int (μ 24 (μ 20 x4.toNatClampNeg).toNatClampNeg)), (0, .ref (gaC g 13)), (1, .ref (gaC g 1)), (2, .int x2), (3, .int x3)] 6 (v := x4 + 1) dX3_judge_157 rfl (by rw [cst_iconst1]) (by decide) rfl rfl ?_
          refine E_goto 3 dX3_judge_160 (by decide) ?_
          refine E_sub [3, 4, 5, 6, 0] rfl ?_
          exact ih (x4 + 1) (up2 μ 24 x4.toNatClampNeg (vp_nar .boolean 1)) hf
      have hf := ite_e s26 hf
      have hd27 : E l g z_X3_judge 142 [(6, .int (μ 24 (μ 21 x4.toNatClampNeg).toNatClampNeg)), (5, .int (μ 24 (μ 20 x4.toNatClampNeg).toNatClampNeg)), (0, .ref (gaC g 13)), (1, .ref (gaC g 1)), (2, .int x2), (3, .int x3), (4, .int x4)] [] (μ, ν, o, dd) 0 (QM g (.inl none) (res, ν, o, dd) 0) := by
        refine E_aload_n 143 2 dX3_judge_142 rfl rfl rfl ?_
        refine E_getCr 146 fg_X3_44 dX3_judge_143 rfl ?_
        refine E_iload 148 6 dX3_judge_146 rfl rfl ?_
        refine E_aload_n 149 2 dX3_judge_148 rfl rfl rfl ?_
        refine E_aload_n 150 3 dX3_judge_149 rfl rfl rfl ?_
        refine E_iload_n 151 4 dX3_judge_150 rfl rfl rfl ?_
        refine E_iload 153 6 dX3_judge_151 rfl rfl ?_
        obtain ⟨r7, hc8, hf⟩ := bnd hf
        refine E_callVC1 156 0 [.int x4, .ref (gaC g 24)] [.int r7.1, .int x4, .ref (gaC g 24)] (c_X3_judgeTest_1 hl hc8) my_X3_judgeTest rc_X3 kl_X3_65 rfl rfl (Nat.le_of_ble_eq_true rfl) (rmok rfl) dX3_judge_153 rfl rfl rfl ?_
        obtain ⟨h9, hf⟩ := chk_some hf
        refine E_zastC 157 (k := 24) (n := 30) rfl (by decide) h9 dX3_judge_156 rfl ?_
        refine E_iinc 160 [(4, .int (x4 + 1)), (6, .int (μ 24 (μ 21 x4.toNatClampNeg).toNatClampNeg)), (5, .int (μ 24 (μ 20 x4.toNatClampNeg).toNatClampNeg)), (0, .ref (gaC g 13)), (1, .ref (gaC g 1)), (2, .int x2), (3, .int x3)] 6 (v := x4 + 1) dX3_judge_157 rfl (by rw [cst_iconst1]) (by decide) rfl rfl ?_
        refine E_goto 3 dX3_judge_160 (by decide) ?_
        refine E_sub [3, 4, 5, 6, 0] rfl ?_
        exact ih (x4 + 1) (up2 r7.2 24 x4.toNatClampNeg (vp_nar .boolean r7.1)) hf
      rcases sw_1_3 (μ 14 x4.toNatClampNeg) with ho | ho | ho | ho
      · exact E_tableOut 142 dX3_judge_44 ho (by decide) hd27
      · exact absurd ho s24
      · exact absurd ho s25
      · exact absurd ho s26
set_option maxRecDepth 100000 in
set_option maxHeartbeats 4000000 in
theorem c_X3_judge_1 {l : Launch} {g : Gt} (hl : l.stackTraces = false) {a2 : Int32} {a3 : Int32} {μ : Mm} {ν : Mm} {o : Nat → Int64} {dd : Nat → UInt64} {res : Mm} (hf : f_X3_judge_1 a2 a3 μ = some res) : CM l g z_X3_judge yX3_judge [.ref (gaC g 13), .ref (gaC g 1), .int a2, .int a3] (μ, ν, o, dd) 0 (.inl none) (res, ν, o, dd) := by
  unfold f_X3_judge_1 at hf
  refine CM_of_E rfl rfl (by decide +kernel) rfl (Nat.le_of_ble_eq_true rfl) hl ?_
  refine E_iconst 1 0 dX3_judge_0 cst_iconst0 rfl ?_
  refine E_istore 3 [(4, .int 0), (0, .ref (gaC g 13)), (1, .ref (gaC g 1)), (2, .int a2), (3, .int a3)] dX3_judge_1 (by decide) rfl rfl ?_
  refine E_sub [1, 2, 3, 4, 0] rfl ?_
  refine l_X3_judge_1_L3 hl  _ _ _ hf
set_option maxRecDepth 100000 in
set_option maxHeartbeats 4000000 in
theorem l_X6_findReasons_13_L4 {l : Launch} {g : Gt} (hl : l.stackTraces = false) {μ : Mm} {ν : Mm} {o : Nat → Int64} {dd : Nat → UInt64}   {res : Int32} : ∀ (n : Nat) (x2 : Int32) (x3 : Int32) , f_X6_findReasons_13_L4 μ n x2 x3 = some res → E l g z_X6_findReasons 4 [(0, .ref (gaC g 26)), (1, .ref (gaC g 13)), (2, .int x2), (3, .int x3)] [] (μ, ν, o, dd) 0 (QM g (.inl (some (.int res))) (μ, ν, o, dd) 0) := by
  intro n
  induction n with
  | zero => intro x2 x3 hf; cases hf
  | succ n ih =>
    intro x2 x3 hf
    refine E_iload_n 5 3 dX6_findReasons_4 rfl rfl rfl ?_
    refine E_aload_n 6 0 dX6_findReasons_5 rfl rfl rfl ?_
    refine E_getC 9 fg_X6_18 dX6_findReasons_6 rfl ?_
    refine E_icmp_ge 50 12 dX6_findReasons_9 (by decide) rfl (fun c1 => ?_) (fun c1 => ?_)
    · have hf := ite_t c1 hf
      refine E_iload_n 51 2 dX6_findReasons_50 rfl rfl rfl ?_
      cases hf
      exact E_iret dX6_findReasons_51 rfl (Nat.le_of_ble_eq_true rfl) (Nat.le_of_ble_eq_true rfl)
    · have hf := ite_e c1 hf
      refine E_aload_n 13 0 dX6_findReasons_12 rfl rfl rfl ?_
      refine E_getC 16 fg_X6_22 dX6_findReasons_13 rfl ?_
      refine E_iload_n 17 3 dX6_findReasons_16 rfl rfl rfl ?_
      obtain ⟨r2, hc3, hf⟩ := bnd hf
      refine E_callSN1 20 0 [] [.int r2] (c_X7_hasBit hl hc3) my_X7_hasBit kl_X6_29 rfl rfl (Nat.le_of_ble_eq_true rfl) (rmok rfl) dX6_findReasons_17 rfl rfl rfl ?_
      refine E_if_eq 44 23 dX6_findReasons_20 (by decide) rfl (fun c4 => ?_) (fun c4 => ?_)
      · have hf := ite_t c4 hf
        refine E_iinc 47 [(3, .int (x3 + 1)), (0, .ref (gaC g 26)), (1, .ref (gaC g 13)), (2, .int x2)] 3 (v := x3 + 1) dX6_findReasons_44 rfl (by rw [cst_iconst1]) (by decide) rfl rfl ?_
        refine E_goto 4 dX6_findReasons_47 (by decide) ?_
        refine E_sub [1, 2, 3, 0] rfl ?_
        exact ih x2 (x3 + 1) hf
      · have hf := ite_e c4 hf
        refine E_aload_n 24 1 dX6_findReasons_23 rfl rfl rfl ?_
        refine E_getCrN 27 fg_X6_33 dX6_findReasons_24 rfl ?_
        refine E_aload_n 28 0 dX6_findReasons_27 rfl rfl rfl ?_
        refine E_getCr 31 fg_X6_9 dX6_findReasons_28 rfl ?_
        refine E_iload_n 32 3 dX6_findReasons_31 rfl rfl rfl ?_
        obtain ⟨h5, hf⟩ := chk_some hf
        refine E_ialdC 33 (k := 27) (n := 12) rfl (by decide) h5 dX6_findReasons_32 rfl ?_
        obtain ⟨h6, hf⟩ := chk_some hf
        refine E_zaldC 34 (k := 24) (n := 30) rfl (by decide) h6 dX6_findReasons_33 rfl ?_
        refine E_if_eq 44 37 dX6_findReasons_34 (by decide) rfl (fun c7 => ?_) (fun c7 => ?_)
        · have hf := ite_t c7 hf
          refine E_iinc 47 [(3, .int (x3 + 1)), (0, .ref (gaC g 26)), (1, .ref (gaC g 13)), (2, .int x2)] 3 (v := x3 + 1) dX6_findReasons_44 rfl (by rw [cst_iconst1]) (by decide) rfl rfl ?_
          refine E_goto 4 dX6_findReasons_47 (by decide) ?_
          refine E_sub [1, 2, 3, 0] rfl ?_
          exact ih x2 (x3 + 1) hf
        · have hf := ite_e c7 hf
          refine E_iload_n 38 2 dX6_findReasons_37 rfl rfl rfl ?_
          refine E_iload_n 39 3 dX6_findReasons_38 rfl rfl rfl ?_
          refine E_iconst 40 1 dX6_findReasons_39 cst_iconst1 rfl ?_
          obtain ⟨r8, hc9, hf⟩ := bnd hf
          refine E_callSN1 43 0 [] [.int r8] (c_X7_withBit hl hc9) my_X7_withBit kl_X6_25 rfl rfl (Nat.le_of_ble_eq_true rfl) (rmok rfl) dX6_findReasons_40 rfl rfl rfl ?_
          refine E_istore_n 44 [(2, .int r8), (0, .ref (gaC g 26)), (1, .ref (gaC g 13)), (3, .int x3)] dX6_findReasons_43 rfl (by decide) rfl rfl ?_
          refine E_iinc 47 [(3, .int (x3 + 1)), (2, .int r8), (0, .ref (gaC g 26)), (1, .ref (gaC g 13))] 3 (v := x3 + 1) dX6_findReasons_44 rfl (by rw [cst_iconst1]) (by decide) rfl rfl ?_
          refine E_goto 4 dX6_findReasons_47 (by decide) ?_
          refine E_sub [2, 3, 1, 0] rfl ?_
          exact ih r8 (x3 + 1) hf
