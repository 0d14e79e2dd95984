/-! ===== L3: thresholds, decisions, rules ===== -/
theorem half {a : Nat} (ha : a < 100000) : nI a / 2 = nI (a / 2) := by
  apply Int32.toInt_inj.mp
  rw [Int32.toInt_div, w_int (by omega), w_int (by omega), show ((2 : Int32).toInt = 2) from rfl]
  rw [Int.tdiv_eq_ediv_of_nonneg (by omega), fb_bmod (by omega) (by omega)]
  omega
theorem score_small {P N : Nat} {μ ν : Mm} {C : Nat} (hR : Rul C N μ ν) (h : Cas P N μ ν) {p : Nat} (hp : p < P) : ∃ s, s ≤ 1200 ∧ ν 9 p = nI s := by
  obtain ⟨_, _, e1, e2⟩ := h.2 p hp
  obtain ⟨n1, n2, n3, n4, n5, n6⟩ := hR
  rw [← e1, e2]
  have := fo_inv (g := wgS ν (μ 32 p)) (fun q s => ∃ n, n ≤ 100 * q ∧ s = nI n) N 0 0 ⟨0, by omega, rfl⟩ (by
    intro q b _ hq hI
    obtain ⟨n, hn, e⟩ := hI
    obtain ⟨c, w, _, hw1, hw2, _, _, _, e3⟩ := n6 q (by omega)
    unfold wgS
    by_cases hb : bt (μ 32 p) q = true
    · rw [if_pos hb, e, e3, w_add]; exact ⟨n + w, by omega, rfl⟩
    · rw [if_neg hb]; exact ⟨n, by omega, e⟩)
  obtain ⟨n, hn, e⟩ := this
  exact ⟨n, by omega, e⟩
/-- how many clear ones a threshold of b would have stopped -/
def cl (ν : Mm) (P b : Nat) : Nat := fb_ct (dcd ν 99 (nI b)) P
theorem cl_mono {C P N : Nat} {μ ν : Mm} (hR : Rul C N μ ν) (h : Cas P N μ ν) {a b : Nat} (hab : a ≤ b) (hb : b ≤ 5000) : cl ν P b ≤ cl ν P a := by
  apply fb_ct_sub
  intro k hk hd
  obtain ⟨s, hs, e⟩ := score_small hR h hk
  unfold dcd at hd ⊢
  rw [e] at hd ⊢
  simp only [Bool.and_eq_true, decide_eq_true_eq, Bool.not_eq_true', decide_eq_false_iff_not] at hd ⊢
  rw [w_lt (by omega) (by omega)] at hd ⊢
  exact ⟨hd.1, by omega⟩
theorem cl_top {C P N : Nat} {μ ν : Mm} (hR : Rul C N μ ν) (h : Cas P N μ ν) : cl ν P 1201 = 0 := by
  apply fb_ct_zero.mpr
  intro k hk
  obtain ⟨s, hs, e⟩ := score_small hR h hk
  unfold dcd
  rw [e, decide_eq_true (show nI s < nI 1201 from (w_lt (by omega) (by omega)).mpr (by omega))]
  simp
theorem cl_le (ν : Mm) (P b : Nat) : cl ν P b ≤ P := fb_ct_le _ _
def bst (ν : Mm) (P x : Nat) : Nat := fst1 (fun b => decide (cl ν P b ≤ x)) 1 1200
theorem bst_ok {C P N : Nat} {μ ν : Mm} (hR : Rul C N μ ν) (h : Cas P N μ ν) (x : Nat) : 1 ≤ bst ν P x ∧ bst ν P x ≤ 1201 ∧ (∀ b, 1 ≤ b → b < bst ν P x → x < cl ν P b) ∧ cl ν P (bst ν P x) ≤ x := by
  refine ⟨fst1_ge _ _, fst1_le _ _, fun b h1 h2 => ?_, ?_⟩
  · have := fst1_no _ _ b h1 h2
    simpa using this
  · rcases Nat.lt_or_ge (bst ν P x) 1201 with h1 | h1
    · have := fst1_yes (p := fun b => decide (cl ν P b ≤ x)) 1200 1 h1
      exact of_decide_eq_true this
    · have h2 : bst ν P x = 1201 := by have := fst1_le (p := fun b => decide (cl ν P b ≤ x)) 1200 1; unfold bst at h1 ⊢; omega
      rw [h2, cl_top hR h]; omega
theorem try_eq {C P N x : Nat} {μ ν : Mm} (hP : P ≤ 200) (e : μ 5 4 = nI P) (hR : Rul C N μ ν) (h : Cas P N μ ν) (hx : x ≤ 200) (K : Int32 → Option (Nat × Int32)) : f_X7_bestThresholdByTrying_L6 K (nI x) μ fuel (nI 1) = K (nI (bst ν P x)) := by
  refine find_loop (fun n y => f_X7_bestThresholdByTrying_L6 K (nI x) μ n y) 1201 (fun q => K (nI q)) (fun b => decide (cl ν P b ≤ x)) ?_ ?_ 1200 fuel 1 (by omega) (by unfold fuel; omega)
  · intro n
    show f_X7_bestThresholdByTrying_L6 K (nI x) μ (n + 1) (nI 1201) = _
    unfold f_X7_bestThresholdByTrying_L6
    rw [if_pos (show (1201 : Int32) ≤ nI 1201 from by decide)]
  · intro n q hq
    show f_X7_bestThresholdByTrying_L6 K (nI x) μ (n + 1) (nI q) = _
    conv => lhs; unfold f_X7_bestThresholdByTrying_L6
    rw [if_neg (show ¬ (1201 : Int32) ≤ nI q from by rw [show (1201 : Int32) = nI 1201 from rfl, w_le (by omega) (by omega)]; omega), countD_eq hP e (Cas_e h), Option.bind_some, w_succ]
    have := cl_le ν P q
    show (if nI (cl ν P q) ≤ nI x then _ else _) = _
    by_cases h2 : cl ν P q ≤ x
    · rw [if_pos ((w_le (by omega) (by omega)).mpr h2), if_pos (by simpa using h2)]
    · rw [if_neg (by rw [w_le (by omega) (by omega)]; exact h2), if_neg (by simpa using h2)]
theorem mBest_eq {C P N x : Nat} {μ ν : Mm} (hP : P ≤ 200) (e : ν 0 15 = nI P) (hR : Rul C N μ ν) (h : Cas P N μ ν) (hx : x ≤ 200) : f_X8_bestThreshold_L24 (nI x) ν fuel 1 = some (nI (bst ν P x), ν) := by
  have step : ∀ n q, q ≤ 1201 → f_X8_bestThreshold_L24 (nI x) ν (n + 1) (nI q) = if cl ν P q ≤ x then some (nI q, ν) else f_X8_bestThreshold_L24 (nI x) ν n (nI (q + 1)) := by
    intro n q hq
    conv => lhs; unfold f_X8_bestThreshold_L24
    rw [decided_eq hP e, Option.bind_some, w_succ]
    have := cl_le ν P q
    show (if nI (cl ν P q) ≤ nI x then _ else _) = _
    by_cases h2 : cl ν P q ≤ x
    · rw [if_pos ((w_le (by omega) (by omega)).mpr h2), if_pos h2]
    · rw [if_neg (by rw [w_le (by omega) (by omega)]; exact h2), if_neg h2]
  refine find_loop (fun n y => f_X8_bestThreshold_L24 (nI x) ν n y) 1201 (fun q => some (nI q, ν)) (fun b => decide (cl ν P b ≤ x)) ?_ ?_ 1200 fuel 1 (by omega) (by unfold fuel; omega)
  · intro n
    show f_X8_bestThreshold_L24 (nI x) ν (n + 1) (nI 1201) = _
    rw [step n 1201 (by omega), cl_top hR h, if_pos (by omega)]
  · intro n q hq
    show f_X8_bestThreshold_L24 (nI x) ν (n + 1) (nI q) = _
    rw [step n q (by omega)]
    simp only [decide_eq_true_eq]
theorem bin_eq {C P N x : Nat} {μ ν : Mm} (hP : P ≤ 200) (e : μ 5 4 = nI P) (hR : Rul C N μ ν) (h : Cas P N μ ν) (hx : x ≤ 200) (K : Int32 → Option (Nat × Int32)) :
    ∀ (n l u k : Nat), 1 ≤ l → l ≤ bst ν P x → bst ν P x ≤ u → u ≤ 1201 → (u - l) + k ≤ 1200 → u - l < n → f_X7_bestThreshold_L13 K (nI x) μ n (nI l) (nI u) (nI k) = K (nI (bst ν P x))
  | 0, _, _, _, _, _, _, _, _, h => by omega
  | n + 1, l, u, k, h1, h2, h3, h4, h5, h6 => by
    obtain ⟨b1, b2, b3, b4⟩ := bst_ok hR h x
    unfold f_X7_bestThreshold_L13
    rw [if_neg (show ¬ (1201 : Int32) ≤ nI k from by rw [show (1201 : Int32) = nI 1201 from rfl, w_le (by omega) (by omega)]; omega)]
    by_cases hul : u ≤ l
    · rw [if_pos ((w_le (by omega) (by omega)).mpr hul)]
      have : l = bst ν P x := by omega
      rw [this]
    · rw [if_neg (by rw [w_le (by omega) (by omega)]; exact hul), w_add, half (by omega), countD_eq hP e (Cas_e h), Option.bind_some, w_succ, w_succ]
      have hc := cl_le ν P ((l + u) / 2)
      show (if nI x < nI (cl ν P ((l + u) / 2)) then _ else _) = _
      by_cases hm : x < cl ν P ((l + u) / 2)
      · rw [if_pos ((w_lt (by omega) (by omega)).mpr hm)]
        refine bin_eq hP e hR h hx K n _ u (k + 1) (by omega) ?_ h3 h4 (by omega) (by omega)
        apply Nat.lt_of_not_le
        intro hle
        have := cl_mono hR h hle (by omega)
        omega
      · rw [if_neg (by rw [w_lt (by omega) (by omega)]; exact hm)]
        refine bin_eq hP e hR h hx K n l _ (k + 1) h1 h2 ?_ (by omega) (by omega) (by omega)
        apply Nat.le_of_not_lt
        intro hlt
        have := b3 _ (by omega) hlt
        omega
theorem op_bestThresholdByTrying {t : Nat} {μ ν : Mm} (a : Int32) (o : Nat → Int64) (h : R t μ ν) : ∃ c o' w ν', f_L_bestThresholdByTrying_0_o a μ o = some (c, o') ∧ f_X8_bestThresholdByTrying a ν = some (w, ν') ∧ Res t c o' w μ ν' := by
  have hz : R t μ (up2 ν 0 0 0) := R_thr 0 h
  unfold f_X8_bestThresholdByTrying f_X8_bestThreshold f_L_bestThresholdByTrying_0_o f_X7_bestThresholdByTrying f_X7_requireMost
  generalize e : up2 ν 0 0 0 = ν1 at hz ⊢
  have z : ν1 0 0 = 0 := by rw [← e]; rfl
  have hz2 := hz
  obtain ⟨ht, A, T, P, F, C, N, hA, hT, hL, hK, hC, hR, hc, hJ⟩ := hz
  rw [btwI]
  rcases span_cases a 0 200 (by decide) with ⟨h1, h2⟩ | ⟨h1, h2, h3⟩ | ⟨h1, h2, h3⟩
  · rw [if_pos h1, decide_eq_false h2]
    exact ⟨1, o, 0, up2 ν1 0 0 1, rfl, rfl, rfl, fun h => absurd h (by decide), R_thr 1 hz2⟩
  · rw [if_neg h1, if_pos h2, decide_eq_true h3]
    rw [show ((0 : Int32).toInt = 0) from rfl, show ((200 : Int32).toInt = 200) from rfl] at h3
    obtain ⟨n, hn2, rfl⟩ : ∃ n, n ≤ 200 ∧ a = nI n := ⟨a.toInt.toNat, by omega, w_inj (by omega)⟩
    rw [Option.bind_some, Option.bind_some, if_pos rfl, b2_t, if_neg (by decide)]
    rw [show (1 : Int32) = nI 1 from rfl, try_eq hL.1 hL.2.1 hR hc hn2, show nI 1 = (1 : Int32) from rfl, mBest_eq hL.1 hL.2.2.1 hR hc hn2]
    generalize bst ν1 P n = r
    exact ⟨0, _, _, ν1, rfl, rfl, z, fun _ => rfl, hz2⟩
  · rw [if_neg h1, if_neg h2, decide_eq_false h3]
    exact ⟨1, o, 0, up2 ν1 0 0 1, rfl, rfl, rfl, fun h => absurd h (by decide), R_thr 1 hz2⟩
theorem op_bestThreshold {t : Nat} {μ ν : Mm} (a : Int32) (o : Nat → Int64) (h : R t μ ν) : ∃ c o' w ν', f_L_bestThreshold_0_o a μ o = some (c, o') ∧ f_X8_bestThreshold a ν = some (w, ν') ∧ Res t c o' w μ ν' := by
  have hz : R t μ (up2 ν 0 0 0) := R_thr 0 h
  unfold f_X8_bestThreshold f_L_bestThreshold_0_o f_X7_bestThreshold f_X7_requireMost
  generalize e : up2 ν 0 0 0 = ν1 at hz ⊢
  have z : ν1 0 0 = 0 := by rw [← e]; rfl
  have hz2 := hz
  obtain ⟨ht, A, T, P, F, C, N, hA, hT, hL, hK, hC, hR, hc, hJ⟩ := hz
  rw [btwI]
  rcases span_cases a 0 200 (by decide) with ⟨h1, h2⟩ | ⟨h1, h2, h3⟩ | ⟨h1, h2, h3⟩
  · rw [if_pos h1, decide_eq_false h2]
    exact ⟨1, o, 0, up2 ν1 0 0 1, rfl, rfl, rfl, fun h => absurd h (by decide), R_thr 1 hz2⟩
  · rw [if_neg h1, if_pos h2, decide_eq_true h3]
    rw [show ((0 : Int32).toInt = 0) from rfl, show ((200 : Int32).toInt = 200) from rfl] at h3
    obtain ⟨n, hn2, rfl⟩ : ∃ n, n ≤ 200 ∧ a = nI n := ⟨a.toInt.toNat, by omega, w_inj (by omega)⟩
    obtain ⟨b1, b2, b3, b4⟩ := bst_ok hR hc n
    rw [Option.bind_some, Option.bind_some, if_pos rfl, b2_t, if_neg (by decide)]
    rw [mBest_eq hL.1 hL.2.2.1 hR hc hn2, show (1 : Int32) = nI 1 from rfl, show (1201 : Int32) = nI 1201 from rfl, show (0 : Int32) = nI 0 from rfl, bin_eq hL.1 hL.2.1 hR hc hn2 _ fuel 1 1201 0 (by omega) b1 b2 (by omega) (by omega) (by unfold fuel; omega)]
    generalize bst ν1 P n = r
    exact ⟨0, _, _, ν1, rfl, rfl, z, fun _ => rfl, hz2⟩
  · rw [if_neg h1, if_neg h2, decide_eq_false h3]
    exact ⟨1, o, 0, up2 ν1 0 0 1, rfl, rfl, rfl, fun h => absurd h (by decide), R_thr 1 hz2⟩
theorem Cas_close {P N j : Nat} {v : Int32} {μ ν : Mm} (hN : N ≤ 12) (h : Cas P N μ ν) (hj : j < P) (h111 : ν 10 j = 111) (hv : isAl v) (hv2 : v ≠ 111) : (nI (fb_ct (fun p => decide (ν 10 p = 111)) P) - 1 = nI (fb_ct (fun p => decide ((up2 ν 10 j v) 10 p = 111)) P)) ∧ Cas P N (up2 (up2 μ 31 j v) 29 5 (nI (fb_ct (fun p => decide (ν 10 p = 111)) P) - 1)) (up2 ν 10 j v) := by
  obtain ⟨c1, c2⟩ := h
  have e1 : fb_ct (fun p => decide ((up2 ν 10 j v) 10 p = 111)) P + 1 = fb_ct (fun p => decide (ν 10 p = 111)) P := by
    have := fb_ct_upd (fun p => decide (ν 10 p = 111)) false hj
    have e2 : (fun k => if k = j then false else (fun p => decide (ν 10 p = 111)) k) = (fun p => decide ((up2 ν 10 j v) 10 p = 111)) := by
      funext k
      show _ = decide ((if k = j then v else ν 10 k) = 111)
      by_cases hk : k = j
      · rw [if_pos hk, if_pos hk, decide_eq_false hv2]
      · rw [if_neg hk, if_neg hk]
    rw [e2] at this
    simp only [h111, decide_true, if_true] at this
    simpa using this
  have e2 : nI (fb_ct (fun p => decide (ν 10 p = 111)) P) - 1 = nI (fb_ct (fun p => decide ((up2 ν 10 j v) 10 p = 111)) P) := by
    rw [← e1, w_pred]
  refine ⟨e2, e2, fun p hp => ?_⟩
  obtain ⟨d1, d2, d3, d4⟩ := c2 p hp
  refine ⟨?_, ?_, d3, d4⟩
  · show (if p = j then v else μ 31 p) = (if p = j then v else ν 10 p)
    rw [d1]
  · show isAl (if p = j then v else ν 10 p)
    by_cases hk : p = j
    · rw [if_pos hk]; exact hv
    · rw [if_neg hk]; exact d2
theorem op_decide {t : Nat} {μ ν : Mm} (a x : Int32) (o : Nat → Int64) (h : R t μ ν) : ∃ c μ' o' w ν', f_L_decide_0_o a x μ o = some (c, μ', o') ∧ f_X8_decide a x ν = some (w, ν') ∧ Res t c o' w μ' ν' := by
  have hz : R t μ (up2 ν 0 0 0) := R_thr 0 h
  unfold f_X8_decide f_L_decide_0_o f_X7_decide
  generalize e : up2 ν 0 0 0 = ν1 at hz ⊢
  have z : ν1 0 0 = 0 := by rw [← e]; rfl
  have hz2 := hz
  obtain ⟨ht, A, T, P, F, C, N, hA, hT, hL, hK, hC, hR, hc, hJ⟩ := hz
  have hP := hL.1
  rcases idx_cases a P with hb | ⟨j, hj, rfl⟩
  · rw [reqP_bad hL.1 hL.2.1 hb, isP_bad hL.1 hL.2.2.1 hb]
    exact ⟨1, μ, o, 0, up2 ν1 0 0 1, rfl, rfl, rfl, fun h => absurd h (by decide), R_thr 1 hz2⟩
  · rw [reqP_ok hL.1 hL.2.1 hj, isP_ok hL.1 hL.2.2.1 hj]
    simp only [Option.bind_some, show ¬ ((1 : Int32) = 0) by decide, if_false, if_true]
    rw [chk_nI (show j < 200 by omega) (by omega), w_nat (by omega), (hc.2 j hj).1, chk_nI (show j < 200 by omega) (by omega)]
    by_cases h111 : ν1 10 j = 111
    · rw [if_pos h111, if_pos h111]
      unfold f_X7_decide_J46 f_X8_decide_J52 f_X2_close
      simp only [chk_nI (show j < 200 by omega) (show 200 < 2147483648 by omega), w_nat (show j < 2147483648 by omega), Option.bind_some]
      by_cases hx : x = 0
      · rw [if_pos hx, if_pos hx]
        obtain ⟨g1, g2⟩ := Cas_close (v := 99) hR.1 hc hj h111 (Or.inr (Or.inr (Or.inl rfl))) (by decide)
        have n99 : vp_nar .char 99 = 99 := narc (c := 99) (by omega)
        simp only [n99, hx, if_true, Option.bind_some]
        rw [many_eq (ν := up2 ν1 10 j 99) hL.1 hL.2.2.1]
        have e29 : (up2 μ 31 j 99) 29 5 = nI (fb_ct (fun p => decide (ν1 10 p = 111)) P) := hc.1
        rw [e29]
        refine ⟨0, _, _, _, _, rfl, rfl, z, fun _ => ?_, ?_⟩
        · rw [← g1]; rfl
        · refine ⟨ht, A, T, P, F, C, N, hA, hT, hL, hK, hC, hR, g2, ?_⟩
          exact Jud_u hC hR hJ ⟨rfl, rfl, rfl, rfl, rfl, rfl, rfl, rfl, rfl, rfl, rfl, rfl, rfl, rfl, rfl, rfl⟩ ⟨rfl, rfl, rfl⟩
      · rw [if_neg hx, if_neg hx]
        obtain ⟨g1, g2⟩ := Cas_close (v := 102) hR.1 hc hj h111 (Or.inr (Or.inr (Or.inr rfl))) (by decide)
        have n99 : vp_nar .char 102 = 102 := narc (c := 102) (by omega)
        have e29 : (up2 μ 31 j 102) 29 5 = nI (fb_ct (fun p => decide (ν1 10 p = 111)) P) := hc.1
        simp only [n99, hx, if_false, Option.bind_some]
        rw [e29]
        generalize hμ : up2 (up2 μ 31 j 102) 29 5 (nI (fb_ct (fun p => decide (ν1 10 p = 111)) P) - 1) = μ2 at g2 ⊢
        generalize hν : up2 ν1 10 j 102 = ν2 at g1 g2 ⊢
        have m7 : μ2 7 j = ν1 4 j := by rw [← hμ]; exact (hL.2.2.2.1 j hj).2.1
        have m4 : ν2 4 j = ν1 4 j := by rw [← hν]; rfl
        have m3 : μ2 2 3 = ν2 0 5 := by rw [← hμ, ← hν]; exact hA.2.2.2.1
        obtain ⟨pa, pb, pc, pm, y1, y2, y3, y4, y5, y6, y7, y8, y9⟩ := (hL.2.2.2.1 j hj).2.2.2.2
        rw [m7, m4, m3, y7, withBit1, with1]
        simp only [Option.bind_some]
        rw [many_eq (ν := up2 ν2 0 5 (sb (ν2 0 5) pb true)) hL.1 (by rw [← hν]; exact hL.2.2.1)]
        have e30 : (up2 μ2 2 3 (sb (ν2 0 5) pb true)) 29 5 = nI (fb_ct (fun p => decide (ν2 10 p = 111)) P) := by rw [← g1, ← hμ]; rfl
        rw [e30]
        refine ⟨0, _, _, _, _, rfl, rfl, by rw [← hν]; exact z, fun _ => rfl, ?_⟩
        subst hμ hν
        refine ⟨ht, A, T, P, F, C, N, ⟨hA.1, hA.2.1, hA.2.2.1, rfl, hA.2.2.2.2⟩, hT, hL, hK, hC, hR, g2, ?_⟩
        exact Jud_u hC hR hJ ⟨rfl, rfl, rfl, rfl, rfl, rfl, rfl, rfl, rfl, rfl, rfl, rfl, rfl, rfl, rfl, rfl⟩ ⟨rfl, rfl, rfl⟩
    · rw [if_neg h111, if_neg h111]
      exact ⟨2, μ, o, 0, up2 ν1 0 0 2, rfl, rfl, rfl, fun h => absurd h (by decide), R_thr 2 hz2⟩
