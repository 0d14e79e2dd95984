/-! ===== L3: the doors, and the operations without loops ===== -/
theorem lt_I (a b : Int32) : (a < b) = (a.toInt < b.toInt) := propext Int32.lt_iff_toInt_lt
theorem le_I (a b : Int32) : (a ≤ b) = (a.toInt ≤ b.toInt) := propext Int32.le_iff_toInt_le
theorem btwI (a l h : Int32) : f_X8_isBetween a l h = some (b2 (decide (l.toInt ≤ a.toInt ∧ a.toInt ≤ h.toInt))) := by
  unfold f_X8_isBetween
  simp only [lt_I]
  by_cases h1 : a.toInt < l.toInt
  · rw [if_pos h1]; rw [show decide (l.toInt ≤ a.toInt ∧ a.toInt ≤ h.toInt) = false from by rw [decide_eq_false_iff_not]; omega]; rfl
  · rw [if_neg h1]
    by_cases h2 : h.toInt < a.toInt
    · rw [if_pos h2]; rw [show decide (l.toInt ≤ a.toInt ∧ a.toInt ≤ h.toInt) = false from by rw [decide_eq_false_iff_not]; omega]; rfl
    · rw [if_neg h2]; rw [show decide (l.toInt ≤ a.toInt ∧ a.toInt ≤ h.toInt) = true from by rw [decide_eq_true_eq]; omega]; rfl
theorem m1_int {A : Nat} (hA : A < 100000) : (nI A - 1 : Int32).toInt = (A : Int) - 1 := by
  rcases A with _ | A
  · rfl
  · rw [w_pred, w_int (by omega)]; omega
theorem btw_ok {j A : Nat} (hj : j < A) (hA : A < 100000) : f_X8_isBetween (nI j) 0 (nI A - 1) = some 1 := by
  rw [btwI, m1_int hA, w_int (by omega), show ((0 : Int32).toInt = 0) from rfl, decide_eq_true (by omega)]; rfl
theorem btw_bad {a : Int32} {A : Nat} (h : a.toInt < 0 ∨ (A : Int) ≤ a.toInt) (hA : A < 100000) : f_X8_isBetween a 0 (nI A - 1) = some 0 := by
  rw [btwI, m1_int hA, show ((0 : Int32).toInt = 0) from rfl, decide_eq_false (by omega)]; rfl
/-- a door of the component: below a count -/
theorem door_ok {j A : Nat} (hj : j < A) (hA : A < 100000) {α : Type} (x y z : α) : (if (nI j : Int32) < 0 then x else (if (nI j : Int32) < nI A then y else z)) = y := by
  rw [if_neg, if_pos]
  · rw [w_lt (by omega) (by omega)]; exact hj
  · rw [lt_I, w_int (by omega), show ((0 : Int32).toInt = 0) from rfl]; omega
theorem door_bad {a : Int32} {A : Nat} (h : a.toInt < 0 ∨ (A : Int) ≤ a.toInt) (hA : A < 100000) {α : Type} (x y : α) : (if (a : Int32) < 0 then x else (if (a : Int32) < nI A then y else x)) = x := by
  by_cases h1 : a < 0
  · rw [if_pos h1]
  · rw [if_neg h1, if_neg]
    rw [lt_I, show ((0 : Int32).toInt = 0) from rfl] at h1
    rw [lt_I, w_int (by omega)]; omega
theorem reqA_ok {A j : Nat} {μ : Mm} (hA : A ≤ 20) (e : μ 2 2 = nI A) (hj : j < A) : f_X7_requireAccount (nI j) μ = some 0 := by
  unfold f_X7_requireAccount; rw [e]; exact door_ok hj (by omega) _ _ _
theorem reqA_bad {A : Nat} {a : Int32} {μ : Mm} (hA : A ≤ 20) (e : μ 2 2 = nI A) (h : a.toInt < 0 ∨ (A : Int) ≤ a.toInt) : f_X7_requireAccount a μ = some 1 := by
  unfold f_X7_requireAccount; rw [e]; exact door_bad h (by omega) _ _
theorem reqP_ok {P j : Nat} {μ : Mm} (hP : P ≤ 200) (e : μ 5 4 = nI P) (hj : j < P) : f_X7_requirePayment (nI j) μ = some 0 := by
  unfold f_X7_requirePayment; rw [e]; exact door_ok hj (by omega) _ _ _
theorem reqP_bad {P : Nat} {a : Int32} {μ : Mm} (hP : P ≤ 200) (e : μ 5 4 = nI P) (h : a.toInt < 0 ∨ (P : Int) ≤ a.toInt) : f_X7_requirePayment a μ = some 2 := by
  unfold f_X7_requirePayment; rw [e]; exact door_bad h (by omega) _ _
theorem reqC_ok {C j : Nat} {μ : Mm} (hC : C ≤ 30) (e : μ 13 12 = nI C) (hj : j < C) : f_X7_requireCondition (nI j) μ = some 0 := by
  unfold f_X7_requireCondition; rw [e]; exact door_ok hj (by omega) _ _ _
theorem reqC_bad {C : Nat} {a : Int32} {μ : Mm} (hC : C ≤ 30) (e : μ 13 12 = nI C) (h : a.toInt < 0 ∨ (C : Int) ≤ a.toInt) : f_X7_requireCondition a μ = some 1 := by
  unfold f_X7_requireCondition; rw [e]; exact door_bad h (by omega) _ _
theorem reqN_ok {N j : Nat} {μ : Mm} (hN : N ≤ 12) (e : μ 26 3 = nI N) (hj : j < N) : f_X7_requireRule (nI j) μ = some 0 := by
  unfold f_X7_requireRule; rw [e]; exact door_ok hj (by omega) _ _ _
theorem reqN_bad {N : Nat} {a : Int32} {μ : Mm} (hN : N ≤ 12) (e : μ 26 3 = nI N) (h : a.toInt < 0 ∨ (N : Int) ≤ a.toInt) : f_X7_requireRule a μ = some 1 := by
  unfold f_X7_requireRule; rw [e]; exact door_bad h (by omega) _ _
theorem isA_ok {A j : Nat} {ν : Mm} (hA : A ≤ 20) (e : ν 0 3 = nI A) (hj : j < A) : f_X8_isAccount (nI j) ν = some 1 := by
  unfold f_X8_isAccount; rw [e, btw_ok hj (by omega), Option.bind_some, gnz1]
theorem isA_bad {A : Nat} {a : Int32} {ν : Mm} (hA : A ≤ 20) (e : ν 0 3 = nI A) (h : a.toInt < 0 ∨ (A : Int) ≤ a.toInt) : f_X8_isAccount a ν = some 0 := by
  unfold f_X8_isAccount; rw [e, btw_bad h (by omega), Option.bind_some, gnz0]
theorem isP_ok {P j : Nat} {ν : Mm} (hP : P ≤ 200) (e : ν 0 15 = nI P) (hj : j < P) : f_X8_isPayment (nI j) ν = some 1 := by
  unfold f_X8_isPayment; rw [e, btw_ok hj (by omega), Option.bind_some, gnz1]
theorem isP_bad {P : Nat} {a : Int32} {ν : Mm} (hP : P ≤ 200) (e : ν 0 15 = nI P) (h : a.toInt < 0 ∨ (P : Int) ≤ a.toInt) : f_X8_isPayment a ν = some 0 := by
  unfold f_X8_isPayment; rw [e, btw_bad h (by omega), Option.bind_some, gnz0]
theorem isC_ok {C j : Nat} {ν : Mm} (hC : C ≤ 30) (e : ν 0 26 = nI C) (hj : j < C) : f_X8_isCondition (nI j) ν = some 1 := by
  unfold f_X8_isCondition; rw [e, btw_ok hj (by omega), Option.bind_some, gnz1]
theorem isC_bad {C : Nat} {a : Int32} {ν : Mm} (hC : C ≤ 30) (e : ν 0 26 = nI C) (h : a.toInt < 0 ∨ (C : Int) ≤ a.toInt) : f_X8_isCondition a ν = some 0 := by
  unfold f_X8_isCondition; rw [e, btw_bad h (by omega), Option.bind_some, gnz0]
theorem isN_ok {N j : Nat} {ν : Mm} (hN : N ≤ 12) (e : ν 0 29 = nI N) (hj : j < N) : f_X8_isRule (nI j) ν = some 1 := by
  unfold f_X8_isRule; rw [e, btw_ok hj (by omega), Option.bind_some, gnz1]
theorem isN_bad {N : Nat} {a : Int32} {ν : Mm} (hN : N ≤ 12) (e : ν 0 29 = nI N) (h : a.toInt < 0 ∨ (N : Int) ≤ a.toInt) : f_X8_isRule a ν = some 0 := by
  unfold f_X8_isRule; rw [e, btw_bad h (by omega), Option.bind_some, gnz0]
/-- a span of numbers: both doors -/
theorem span_cases (a l h : Int32) (hlh : l.toInt ≤ h.toInt) : ((a < l) ∧ ¬ (l.toInt ≤ a.toInt ∧ a.toInt ≤ h.toInt)) ∨ (¬ a < l ∧ a ≤ h ∧ (l.toInt ≤ a.toInt ∧ a.toInt ≤ h.toInt)) ∨ (¬ a < l ∧ ¬ a ≤ h ∧ ¬ (l.toInt ≤ a.toInt ∧ a.toInt ≤ h.toInt)) := by
  simp only [lt_I, le_I]; omega
def win (w : Int32) : Prop := 1 ≤ w.toInt ∧ w.toInt ≤ 10080
theorem win_doors (w : Int32) : (win w ∧ f_X7_requireWindow w = some 0 ∧ f_X8_isWindow w = some 1) ∨ (¬ win w ∧ f_X7_requireWindow w = some 4 ∧ f_X8_isWindow w = some 0) := by
  unfold f_X7_requireWindow f_X8_isWindow win
  rw [btwI, Option.bind_some]
  rcases span_cases w 1 10080 (by decide) with ⟨h1, h2⟩ | ⟨h1, h2, h3⟩ | ⟨h1, h2, h3⟩
  · right; rw [if_pos h1, decide_eq_false h2]; exact ⟨h2, rfl, gnz0⟩
  · left; rw [if_neg h1, if_pos h2, decide_eq_true h3]; exact ⟨h3, rfl, gnz1⟩
  · right; rw [if_neg h1, if_neg h2, decide_eq_false h3]; exact ⟨h3, rfl, gnz0⟩
theorem thr_s (ν : Mm) (v : Int32) : (up2 ν 0 0 v) 0 0 = v := rfl
theorem thr_0 (ν : Mm) (v : Int32) {j : Nat} (h : j ≠ 0) : (up2 ν 0 0 v) 0 j = ν 0 j := by rw [up2_s]; unfold upd; rw [if_neg h]
theorem o_s (o : Nat → Int64) (v : Int64) : (vp_updL o (0 : Int32).toNatClampNeg v) 0 = v := rfl
theorem char_of (v : Int32) : ∃ c, c < 65536 ∧ (v.toUInt32 % 65536).toInt32 = nI c := by
  refine ⟨(v.toUInt32 % 65536).toNat, ?_, ?_⟩
  · rw [UInt32.toNat_mod]; exact Nat.mod_lt _ (by decide)
  · apply Int32.toBitVec_inj.mp
    apply BitVec.eq_of_toNat_eq
    show (v.toUInt32 % 65536).toBitVec.toNat = (BitVec.ofNat 32 (v.toUInt32 % 65536).toNat).toNat
    rw [BitVec.toNat_ofNat]
    show (v.toUInt32 % 65536).toNat = (v.toUInt32 % 65536).toNat % 2 ^ 32
    rw [Nat.mod_eq_of_lt (v.toUInt32 % 65536).toNat_lt]
theorem Jud_u {C N P : Nat} {μ ν μ' ν' : Mm} (hC : Con C μ ν) (hR : Rul C N μ ν) (hJ : ∀ p, p < P → Jud1 C N μ ν p)
    (e : ν' 1 = ν 1 ∧ ν' 2 = ν 2 ∧ ν' 3 = ν 3 ∧ ν' 4 = ν 4 ∧ ν' 5 = ν 5 ∧ ν' 6 = ν 6 ∧ ν' 7 = ν 7 ∧ ν' 8 = ν 8 ∧ ν' 12 = ν 12 ∧ ν' 13 = ν 13 ∧ ν' 14 = ν 14 ∧ ν' 16 = ν 16 ∧ ν' 17 = ν 17 ∧ ν' 18 = ν 18 ∧ ν' 19 = ν 19 ∧ ν' 20 = ν 20)
    (f : μ' 32 = μ 32 ∧ μ' 33 = μ 33 ∧ μ' 34 = μ 34) : ∀ p, p < P → Jud1 C N μ' ν' p := by
  obtain ⟨e1, e2, e3, e4, e5, e6, e7, e8, e12, e13, e14, e16, e17, e18, e19, e20⟩ := e
  obtain ⟨f1, f2, f3⟩ := f
  intro p hp
  refine Jud1_st hC.1 (Nat.le_refl C) hC.2.2.2.2.2 ⟨fun j _ => ?_, Sst_cut (fun q _ => ?_)⟩ (fun r hr => Rul_rc hC.1 hR hr) (fun r _ => by rw [e20]) (by rw [e7]) (by rw [e8]) (by rw [f1]) (by rw [f2]) (fun c _ => by rw [f3]) (hJ p hp)
  · rw [e12, e13, e14, e16, e17, e18, e19]; simp
  · rw [e1, e2, e3, e4, e5, e6]; simp
theorem b2_01 (b : Bool) : b2 b = 0 ∨ b2 b = 1 := by cases b <;> simp [b2]
theorem b2_w (o : Nat → Int64) (b : Bool) {μ : Mm} : (if (b2 b : Int32) = 0 then (chk 0 1 (some ((0 : Int32), μ, (vp_updL o (0 : Int32).toNatClampNeg 0)))) else (chk 0 1 (some (0, μ, (vp_updL o (0 : Int32).toNatClampNeg 1))))) = some (0, μ, vp_updL o (0 : Int32).toNatClampNeg (b2 b).toInt64) := by
  cases b <;> rfl
theorem b2_w' (o : Nat → Int64) (b : Bool) : (if (b2 b : Int32) = 0 then (chk 0 1 (some ((0 : Int32), (vp_updL o (0 : Int32).toNatClampNeg 0)))) else (chk 0 1 (some (0, (vp_updL o (0 : Int32).toNatClampNeg 1))))) = some (0, vp_updL o (0 : Int32).toNatClampNeg (b2 b).toInt64) := by
  cases b <;> rfl
theorem op_setMarked {t : Nat} {μ ν : Mm} (a v : Int32) (o : Nat → Int64) (h : R t μ ν) : ∃ c μ' o' w ν', f_L_setMarked_0_o a v μ o = some (c, μ', o') ∧ f_X8_setMarked a v ν = some (w, ν') ∧ (w = 0 ∨ w = 1) ∧ Res t c o' w μ' ν' := by
  have hz : R t μ (up2 ν 0 0 0) := R_thr 0 h
  unfold f_X8_setMarked f_L_setMarked_0_o f_X7_setMarked
  generalize e : up2 ν 0 0 0 = ν1 at hz ⊢
  have z : ν1 0 0 = 0 := by rw [← e]; rfl
  have hz2 := hz
  obtain ⟨ht, A, T, P, F, C, N, ⟨a1, a2, a3, a4, a5, a6⟩, hT, hL, hK, hC, hR, hc, hJ⟩ := hz
  rcases idx_cases a A with hb | ⟨j, hj, rfl⟩
  · rw [reqA_bad a1 a2 hb, isA_bad a1 a3 hb]
    refine ⟨1, μ, o, 0, up2 ν1 0 0 1, rfl, ?_, Or.inl rfl, rfl, fun h => absurd h (by decide), R_thr 1 hz2⟩
    simp [f_X8_isWrong, gnz0]
  · rw [reqA_ok a1 a2 hj, isA_ok a1 a3 hj]
    simp only [Option.bind_some, if_true]
    rw [hasBit_eq _ (show j < 32 by omega), has_eq _ (show j < 32 by omega), withBit_eq, with_eq, a4]
    simp only [Option.bind_some, gnb, show ¬ ((1 : Int32) = 0) by decide, if_false]
    refine ⟨0, up2 μ 2 3 (sb (ν1 0 5) j (decide (v ≠ 0))), vp_updL o (0 : Int32).toNatClampNeg (b2 (bt (ν1 0 5) j)).toInt64, b2 (bt (ν1 0 5) j), up2 ν1 0 5 (sb (ν1 0 5) j (decide (v ≠ 0))), b2_w o _, rfl, b2_01 _, z, fun _ => rfl, ?_⟩
    refine ⟨ht, A, T, P, F, C, N, ⟨a1, a2, a3, rfl, a5, a6⟩, hT, hL, hK, hC, hR, hc, ?_⟩
    exact Jud_u hC hR hJ ⟨rfl, rfl, rfl, rfl, rfl, rfl, rfl, rfl, rfl, rfl, rfl, rfl, rfl, rfl, rfl, rfl⟩ ⟨rfl, rfl, rfl⟩
theorem op_setBlocked {t : Nat} {μ ν : Mm} (a v : Int32) (o : Nat → Int64) (h : R t μ ν) : ∃ c μ' o' w ν', f_L_setBlocked_0_o a v μ o = some (c, μ', o') ∧ f_X8_setBlocked a v ν = some (w, ν') ∧ (w = 0 ∨ w = 1) ∧ Res t c o' w μ' ν' := by
  have hz : R t μ (up2 ν 0 0 0) := R_thr 0 h
  unfold f_X8_setBlocked f_L_setBlocked_0_o f_X7_setBlocked
  generalize e : up2 ν 0 0 0 = ν1 at hz ⊢
  have z : ν1 0 0 = 0 := by rw [← e]; rfl
  have hz2 := hz
  obtain ⟨ht, A, T, P, F, C, N, ⟨a1, a2, a3, a4, a5, a6⟩, hT, hL, hK, hC, hR, hc, hJ⟩ := hz
  rcases idx_cases a A with hb | ⟨j, hj, rfl⟩
  · rw [reqA_bad a1 a2 hb, isA_bad a1 a3 hb]
    refine ⟨1, μ, o, 0, up2 ν1 0 0 1, rfl, ?_, Or.inl rfl, rfl, fun h => absurd h (by decide), R_thr 1 hz2⟩
    simp [f_X8_isWrong, gnz0]
  · rw [reqA_ok a1 a2 hj, isA_ok a1 a3 hj]
    simp only [Option.bind_some, if_true]
    rw [hasBit_eq _ (show j < 32 by omega), has_eq _ (show j < 32 by omega), withBit_eq, with_eq, a5]
    simp only [Option.bind_some, gnb, show ¬ ((1 : Int32) = 0) by decide, if_false]
    refine ⟨0, up2 μ 2 4 (sb (ν1 0 6) j (decide (v ≠ 0))), vp_updL o (0 : Int32).toNatClampNeg (b2 (bt (ν1 0 6) j)).toInt64, b2 (bt (ν1 0 6) j), up2 ν1 0 6 (sb (ν1 0 6) j (decide (v ≠ 0))), b2_w o _, rfl, b2_01 _, z, fun _ => rfl, ?_⟩
    refine ⟨ht, A, T, P, F, C, N, ⟨a1, a2, a3, a4, rfl, a6⟩, hT, hL, hK, hC, hR, hc, ?_⟩
    exact Jud_u hC hR hJ ⟨rfl, rfl, rfl, rfl, rfl, rfl, rfl, rfl, rfl, rfl, rfl, rfl, rfl, rfl, rfl, rfl⟩ ⟨rfl, rfl, rfl⟩
theorem op_isMarked {t : Nat} {μ ν : Mm} (a : Int32) (o : Nat → Int64) (h : R t μ ν) : ∃ c o' w ν', f_L_isMarked_0_o a μ o = some (c, o') ∧ f_X8_isMarked a ν = some (w, ν') ∧ (w = 0 ∨ w = 1) ∧ Res t c o' w μ ν' := by
  have hz : R t μ (up2 ν 0 0 0) := R_thr 0 h
  unfold f_X8_isMarked f_L_isMarked_0_o f_X7_isMarked
  generalize e : up2 ν 0 0 0 = ν1 at hz ⊢
  have z : ν1 0 0 = 0 := by rw [← e]; rfl
  have hz2 := hz
  obtain ⟨ht, A, T, P, F, C, N, ⟨a1, a2, a3, a4, a5, a6⟩, hT, hL, hK, hC, hR, hc, hJ⟩ := hz
  rcases idx_cases a A with hb | ⟨j, hj, rfl⟩
  · rw [reqA_bad a1 a2 hb, isA_bad a1 a3 hb]
    refine ⟨1, o, 0, up2 ν1 0 0 1, rfl, ?_, Or.inl rfl, rfl, fun h => absurd h (by decide), R_thr 1 hz2⟩
    simp [f_X8_isWrong, gnz0]
  · rw [reqA_ok a1 a2 hj, isA_ok a1 a3 hj]
    simp only [Option.bind_some, if_true]
    rw [hasBit_eq _ (show j < 32 by omega), has_eq _ (show j < 32 by omega), a4]
    simp only [Option.bind_some, gnb, show ¬ ((1 : Int32) = 0) by decide, if_false]
    exact ⟨0, vp_updL o (0 : Int32).toNatClampNeg (b2 (bt (ν1 0 5) j)).toInt64, b2 (bt (ν1 0 5) j), ν1, b2_w' o _, rfl, b2_01 _, z, fun _ => rfl, hz2⟩
theorem op_countryOf {t : Nat} {μ ν : Mm} (a : Int32) (o : Nat → Int64) (h : R t μ ν) : ∃ c o' w ν', f_L_countryOf_0_o a μ o = some (c, o') ∧ f_X8_countryOf a ν = some (w, ν') ∧ Res t c o' w μ ν' := by
  have hz : R t μ (up2 ν 0 0 0) := R_thr 0 h
  unfold f_X8_countryOf f_L_countryOf_0_o f_X7_countryOf
  generalize e : up2 ν 0 0 0 = ν1 at hz ⊢
  have z : ν1 0 0 = 0 := by rw [← e]; rfl
  have hz2 := hz
  obtain ⟨ht, A, T, P, F, C, N, ⟨a1, a2, a3, a4, a5, a6⟩, hT, hL, hK, hC, hR, hc, hJ⟩ := hz
  rcases idx_cases a A with hb | ⟨j, hj, rfl⟩
  · rw [reqA_bad a1 a2 hb, isA_bad a1 a3 hb]
    refine ⟨1, o, 0, up2 ν1 0 0 1, rfl, ?_, rfl, fun h => absurd h (by decide), R_thr 1 hz2⟩
    simp only [f_X8_fails, Option.bind_some, if_true]
    exact gnc (c := 0) (by omega)
  · obtain ⟨c1, c2, cc, hc1, hc2, hc3⟩ := a6 j hj
    rw [reqA_ok a1 a2 hj, isA_ok a1 a3 hj]
    simp only [Option.bind_some, if_true]
    rw [chk_nI (show j < 20 by omega) (by omega), w_nat (by omega), c1, hc3, gnc (show cc < 65536 by omega)]
    simp only [Option.bind_some, gnb, show ¬ ((1 : Int32) = 0) by decide, if_false, if_true, chk_nI (show j < 20 by omega) (show 20 < 2147483648 by omega), gnc (show cc < 65536 by omega), chk0]
    exact ⟨_, _, _, ν1, rfl, rfl, z, fun _ => rfl, hz2⟩
theorem op_minuteOf {t : Nat} {μ ν : Mm} (a : Int32) (o : Nat → Int64) (h : R t μ ν) : ∃ c o' w ν', f_L_minuteOf_0_o a μ o = some (c, o') ∧ f_X8_minuteOf a ν = some (w, ν') ∧ Res t c o' w μ ν' := by
  have hz : R t μ (up2 ν 0 0 0) := R_thr 0 h
  unfold f_X8_minuteOf f_L_minuteOf_0_o f_X7_minuteOf
  generalize e : up2 ν 0 0 0 = ν1 at hz ⊢
  have z : ν1 0 0 = 0 := by rw [← e]; rfl
  have hz2 := hz
  obtain ⟨ht, A, T, P, F, C, N, hA, hT, hL, hK, hC, hR, hc, hJ⟩ := hz
  obtain ⟨b1, b2, b3, b4, b5⟩ := hL
  rcases idx_cases a P with hb | ⟨j, hj, rfl⟩
  · rw [reqP_bad b1 b2 hb, isP_bad b1 b3 hb]
    refine ⟨1, o, 0, up2 ν1 0 0 1, rfl, ?_, rfl, fun h => absurd h (by decide), R_thr 1 hz2⟩
    simp only [f_X8_fails, Option.bind_some, if_true]
  · have e1 : μ 9 j = ν1 6 j := (b4 j hj).2.2.2.1
    rw [reqP_ok b1 b2 hj, isP_ok b1 b3 hj]
    simp only [Option.bind_some, if_true]
    rw [chk_nI (show j < 200 by omega) (by omega), w_nat (by omega), e1]
    simp only [Option.bind_some, show ¬ ((1 : Int32) = 0) by decide, if_false, if_true, chk_nI (show j < 200 by omega) (show 200 < 2147483648 by omega), chk0]
    exact ⟨_, _, _, ν1, rfl, rfl, z, fun _ => rfl, hz2⟩
theorem op_score {t : Nat} {μ ν : Mm} (a : Int32) (o : Nat → Int64) (h : R t μ ν) : ∃ c o' w ν', f_L_score_0_o a μ o = some (c, o') ∧ f_X8_score a ν = some (w, ν') ∧ Res t c o' w μ ν' := by
  have hz : R t μ (up2 ν 0 0 0) := R_thr 0 h
  unfold f_X8_score f_L_score_0_o f_X7_score
  generalize e : up2 ν 0 0 0 = ν1 at hz ⊢
  have z : ν1 0 0 = 0 := by rw [← e]; rfl
  have hz2 := hz
  obtain ⟨ht, A, T, P, F, C, N, hA, hT, hL, hK, hC, hR, hc, hJ⟩ := hz
  obtain ⟨b1, b2, b3, b4, b5⟩ := hL
  rcases idx_cases a P with hb | ⟨j, hj, rfl⟩
  · rw [reqP_bad b1 b2 hb, isP_bad b1 b3 hb]
    refine ⟨1, o, 0, up2 ν1 0 0 1, rfl, ?_, rfl, fun h => absurd h (by decide), R_thr 1 hz2⟩
    simp only [f_X8_fails, Option.bind_some, if_true]
  · have e1 : μ 30 j = ν1 9 j := (hc.2 j hj).2.2.1
    rw [reqP_ok b1 b2 hj, isP_ok b1 b3 hj]
    simp only [Option.bind_some, if_true]
    rw [chk_nI (show j < 200 by omega) (by omega), w_nat (by omega), e1]
    simp only [Option.bind_some, show ¬ ((1 : Int32) = 0) by decide, if_false, if_true, chk_nI (show j < 200 by omega) (show 200 < 2147483648 by omega), chk0]
    exact ⟨_, _, _, ν1, rfl, rfl, z, fun _ => rfl, hz2⟩
theorem op_sizeOf {t : Nat} {μ ν : Mm} (a : Int32) (o : Nat → Int64) (h : R t μ ν) : ∃ c o' w ν', f_L_sizeOf_0_o a μ o = some (c, o') ∧ f_X8_sizeOf a ν = some (w, ν') ∧ Res t c o' w μ ν' := by
  have hz : R t μ (up2 ν 0 0 0) := R_thr 0 h
  unfold f_X8_sizeOf f_L_sizeOf_0_o f_X7_sizeOf
  generalize e : up2 ν 0 0 0 = ν1 at hz ⊢
  have z : ν1 0 0 = 0 := by rw [← e]; rfl
  have hz2 := hz
  obtain ⟨ht, A, T, P, F, C, N, hA, hT, hL, hK, hC, hR, hc, hJ⟩ := hz
  obtain ⟨b1, b2, b3, b4, b5, b6⟩ := hC
  rcases idx_cases a C with hb | ⟨j, hj, rfl⟩
  · rw [reqC_bad b1 b2 hb, isC_bad b1 b3 hb]
    refine ⟨1, o, 0, up2 ν1 0 0 1, rfl, ?_, rfl, fun h => absurd h (by decide), R_thr 1 hz2⟩
    simp only [f_X8_fails, Option.bind_some, if_true]
  · have e1 : μ 15 j = ν1 15 j := by obtain ⟨k, s, n, _, _, _, _, x1, x2, _⟩ := b6 j hj; rw [x1, x2]
    rw [reqC_ok b1 b2 hj, isC_ok b1 b3 hj]
    simp only [Option.bind_some, if_true]
    rw [chk_nI (show j < 30 by omega) (by omega), w_nat (by omega), e1]
    simp only [Option.bind_some, show ¬ ((1 : Int32) = 0) by decide, if_false, if_true, chk_nI (show j < 30 by omega) (show 30 < 2147483648 by omega), chk0]
    exact ⟨_, _, _, ν1, rfl, rfl, z, fun _ => rfl, hz2⟩
theorem isAl_c {v : Int32} (h : isAl v) : ∃ c, c < 65536 ∧ v = nI c := by
  rcases h with h | h | h | h
  · exact ⟨45, by omega, h⟩
  · exact ⟨111, by omega, h⟩
  · exact ⟨99, by omega, h⟩
  · exact ⟨102, by omega, h⟩
theorem op_alertOf {t : Nat} {μ ν : Mm} (a : Int32) (o : Nat → Int64) (h : R t μ ν) : ∃ c o' w ν', f_L_alertOf_0_o a μ o = some (c, o') ∧ f_X8_alertOf a ν = some (w, ν') ∧ Res t c o' w μ ν' := by
  have hz : R t μ (up2 ν 0 0 0) := R_thr 0 h
  unfold f_X8_alertOf f_L_alertOf_0_o f_X7_alertOf
  generalize e : up2 ν 0 0 0 = ν1 at hz ⊢
  have z : ν1 0 0 = 0 := by rw [← e]; rfl
  have hz2 := hz
  obtain ⟨ht, A, T, P, F, C, N, hA, hT, hL, hK, hC, hR, hc, hJ⟩ := hz
  obtain ⟨b1, b2, b3, b4, b5⟩ := hL
  rcases idx_cases a P with hb | ⟨j, hj, rfl⟩
  · rw [reqP_bad b1 b2 hb, isP_bad b1 b3 hb]
    refine ⟨1, o, 0, up2 ν1 0 0 1, rfl, ?_, rfl, fun h => absurd h (by decide), R_thr 1 hz2⟩
    simp only [f_X8_fails, Option.bind_some, if_true]
    exact gnc (c := 0) (by omega)
  · have e1 : μ 31 j = ν1 10 j := (hc.2 j hj).1
    obtain ⟨cc, h1, h2⟩ := isAl_c (hc.2 j hj).2.1
    rw [reqP_ok b1 b2 hj, isP_ok b1 b3 hj]
    simp only [Option.bind_some, if_true]
    rw [chk_nI (show j < 200 by omega) (by omega), w_nat (by omega), e1, h2, gnc h1]
    simp only [Option.bind_some, show ¬ ((1 : Int32) = 0) by decide, if_false, if_true, chk_nI (show j < 200 by omega) (show 200 < 2147483648 by omega), chk0, gnc h1]
    exact ⟨_, _, _, ν1, rfl, rfl, z, fun _ => rfl, hz2⟩
theorem op_setThreshold {t : Nat} {μ ν : Mm} (a : Int32) (o : Nat → Int64) (h : R t μ ν) : ∃ c μ' o' w ν', f_L_setThreshold_0_o a μ o = some (c, μ', o') ∧ f_X8_setThreshold a ν = some (w, ν') ∧ Res t c o' w μ' ν' := by
  have hz : R t μ (up2 ν 0 0 0) := R_thr 0 h
  unfold f_X8_setThreshold f_L_setThreshold_0_o f_X7_setThreshold f_X7_requireThreshold
  generalize e : up2 ν 0 0 0 = ν1 at hz ⊢
  have z : ν1 0 0 = 0 := by rw [← e]; rfl
  have hz2 := hz
  obtain ⟨ht, A, T, P, F, C, N, hA, hT, hL, hK, hC, hR, hc, hJ⟩ := hz
  rw [btwI]
  rcases span_cases a 1 1201 (by decide) with ⟨h1, h2⟩ | ⟨h1, h2, h3⟩ | ⟨h1, h2, h3⟩
  · rw [if_pos h1, decide_eq_false h2]
    refine ⟨1, μ, o, 0, up2 ν1 0 0 1, rfl, rfl, rfl, fun h => absurd h (by decide), R_thr 1 hz2⟩
  · rw [if_neg h1, if_pos h2, decide_eq_true h3]
    refine ⟨0, up2 μ 0 4 a, vp_updL o (0 : Int32).toNatClampNeg (μ 0 4).toInt64, ν1 0 16, up2 ν1 0 16 a, rfl, rfl, z, fun _ => by rw [hT.2.2.2]; rfl, ?_⟩
    refine ⟨ht, A, T, P, F, C, N, hA, ⟨hT.1, hT.2.1, hT.2.2.1, rfl⟩, hL, hK, hC, hR, hc, ?_⟩
    exact Jud_u hC hR hJ ⟨rfl, rfl, rfl, rfl, rfl, rfl, rfl, rfl, rfl, rfl, rfl, rfl, rfl, rfl, rfl, rfl⟩ ⟨rfl, rfl, rfl⟩
  · rw [if_neg h1, if_neg h2, decide_eq_false h3]
    refine ⟨1, μ, o, 0, up2 ν1 0 0 1, rfl, rfl, rfl, fun h => absurd h (by decide), R_thr 1 hz2⟩
theorem op_setRule {t : Nat} {μ ν : Mm} (a v : Int32) (o : Nat → Int64) (h : R t μ ν) : ∃ c μ' o' w ν', f_L_setRule_0_o a v μ o = some (c, μ', o') ∧ f_X8_setRule a v ν = some (w, ν') ∧ (w = 0 ∨ w = 1) ∧ Res t c o' w μ' ν' := by
  have hz : R t μ (up2 ν 0 0 0) := R_thr 0 h
  unfold f_X8_setRule f_L_setRule_0_o f_X7_setRule
  generalize e : up2 ν 0 0 0 = ν1 at hz ⊢
  have z : ν1 0 0 = 0 := by rw [← e]; rfl
  have hz2 := hz
  obtain ⟨ht, A, T, P, F, C, N, hA, hT, hL, hK, hC, hR, hc, hJ⟩ := hz
  obtain ⟨a1, a2, a3, a4, a5, a6⟩ := id hR
  rcases idx_cases a N with hb | ⟨j, hj, rfl⟩
  · rw [reqN_bad a1 a2 hb, isN_bad a1 a3 hb]
    refine ⟨1, μ, o, 0, up2 ν1 0 0 1, rfl, ?_, Or.inl rfl, rfl, fun h => absurd h (by decide), R_thr 1 hz2⟩
    simp [f_X8_isWrong, gnz0]
  · rw [reqN_ok a1 a2 hj, isN_ok a1 a3 hj]
    simp only [Option.bind_some, if_true]
    rw [hasBit_eq _ (show j < 32 by omega), has_eq _ (show j < 32 by omega), withBit_eq, with_eq, a4]
    simp only [Option.bind_some, gnb, show ¬ ((1 : Int32) = 0) by decide, if_false]
    refine ⟨0, up2 μ 26 2 (sb (ν1 0 30) j (decide (v ≠ 0))), vp_updL o (0 : Int32).toNatClampNeg (b2 (bt (ν1 0 30) j)).toInt64, b2 (bt (ν1 0 30) j), up2 ν1 0 30 (sb (ν1 0 30) j (decide (v ≠ 0))), b2_w o _, rfl, b2_01 _, z, fun _ => rfl, ?_⟩
    refine ⟨ht, A, T, P, F, C, N, hA, hT, hL, hK, hC, ⟨a1, a2, a3, rfl, ?_, a6⟩, hc, ?_⟩
    · intro i hi
      show bt (sb (ν1 0 30) j (decide (v ≠ 0))) i = false
      rcases Nat.lt_or_ge i 32 with h32 | h32
      · rw [bt_sb _ _ (by omega) h32, if_neg (by omega)]; exact a5 i hi
      · exact b_big h32
    · exact Jud_u hC hR hJ ⟨rfl, rfl, rfl, rfl, rfl, rfl, rfl, rfl, rfl, rfl, rfl, rfl, rfl, rfl, rfl, rfl⟩ ⟨rfl, rfl, rfl⟩
theorem op_accounts {t : Nat} {μ ν : Mm} (h : R t μ ν) : ∃ w ν', f_X7_accounts μ = some w ∧ f_X8_accounts ν = some (w, ν') ∧ R t μ ν' := by
  have hz : R t μ (up2 ν 0 0 0) := R_thr 0 h
  refine ⟨_, _, rfl, ?_, hz⟩
  obtain ⟨ht, A, T, P, F, C, N, hA, hT, hL, hK, hC, hR, hc, hJ⟩ := hz
  unfold f_X8_accounts
  rw [hA.2.1, hA.2.2.1]
theorem op_time {t : Nat} {μ ν : Mm} (h : R t μ ν) : ∃ w ν', f_X7_time μ = some w ∧ f_X8_time ν = some (w, ν') ∧ R t μ ν' := by
  have hz : R t μ (up2 ν 0 0 0) := R_thr 0 h
  refine ⟨_, _, rfl, ?_, hz⟩
  obtain ⟨ht, A, T, P, F, C, N, hA, hT, hL, hK, hC, hR, hc, hJ⟩ := hz
  unfold f_X8_time
  rw [hT.2.1, hT.2.2.1]
theorem op_payments {t : Nat} {μ ν : Mm} (h : R t μ ν) : ∃ w ν', f_X7_payments μ = some w ∧ f_X8_payments ν = some (w, ν') ∧ R t μ ν' := by
  have hz : R t μ (up2 ν 0 0 0) := R_thr 0 h
  refine ⟨_, _, rfl, ?_, hz⟩
  obtain ⟨ht, A, T, P, F, C, N, hA, hT, hL, hK, hC, hR, hc, hJ⟩ := hz
  unfold f_X8_payments
  rw [hL.2.1, hL.2.2.1]
