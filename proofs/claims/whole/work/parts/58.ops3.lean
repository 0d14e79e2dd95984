/-! ===== L3: time and windows ===== -/
theorem subI {a b : Nat} (ha : a < 1000000) (hb : b < 1000000) : (nI a - nI b).toInt = (a : Int) - b := by
  rw [fb_subI] <;> rw [w_int (by omega), w_int (by omega)] <;> omega
theorem win_nI {w : Int32} (h : win w) : ∃ n, 1 ≤ n ∧ n ≤ 10080 ∧ w = nI n := ⟨w.toInt.toNat, by have := h.1; omega, by have := h.2; omega, w_inj (by have := h.1; omega)⟩
theorem isIn_eq {q : Nat} {w a3 : Int32} {ν : Mm} (hq : q < 200) : f_X8_isIn (nI q) w a3 ν = some (b2 (decide (a3 - w < ν 6 q) && decide (ν 6 q ≤ a3))) := by
  unfold f_X8_isIn
  rw [chk_nI hq (by omega), chk_nI hq (by omega), w_nat (by omega)]
  by_cases h : ν 6 q ≤ a3 - w
  · rw [if_pos h]
    have h1 : ¬ (a3 - w < ν 6 q) := by rw [lt_I]; rw [le_I] at h; omega
    rw [decide_eq_false h1]; rfl
  · rw [if_neg h]
    have h1 : (a3 - w < ν 6 q) := by rw [lt_I]; rw [le_I] at h; omega
    rw [decide_eq_true h1]
    by_cases h2 : a3 < ν 6 q
    · rw [if_pos h2]
      have h3 : ¬ (ν 6 q ≤ a3) := by rw [le_I]; rw [lt_I] at h2; omega
      rw [decide_eq_false h3]; rfl
    · rw [if_neg h2]
      have h3 : (ν 6 q ≤ a3) := by rw [le_I]; rw [lt_I] at h2; omega
      rw [decide_eq_true h3]; rfl
theorem Led_min {A T P : Nat} {μ ν : Mm} (h : Led A T P μ ν) {q : Nat} (hq : q < P) : ∃ m, m ≤ T ∧ ν 6 q = nI m := by
  obtain ⟨_, _, _, _, _, _, _, m, _, _, _, _, hm, _, _, _, e⟩ := h.2.2.2.1 q hq
  exact ⟨m, hm, e⟩
/-- the first payment of [i, P) after a time cuts [i, P) in two -/
theorem fst_cut {A T P i : Nat} {μ ν : Mm} {x : Int32} (h : Led A T P μ ν) (hi : i ≤ P) {q : Nat} (hq : q < P) :
    (i ≤ q → q < fst1 (fun q => decide (x < ν 6 q)) i (P - i) → ¬ x < ν 6 q) ∧ (fst1 (fun q => decide (x < ν 6 q)) i (P - i) ≤ q → x < ν 6 q) := by
  refine ⟨fun h1 h2 => ?_, fun h1 => ?_⟩
  · have := fst1_no (p := fun q => decide (x < ν 6 q)) (P - i) i q h1 h2
    simpa using this
  · have h2 := fst1_yes (p := fun q => decide (x < ν 6 q)) (P - i) i (by omega)
    have h3 : x < ν 6 (fst1 (fun q => decide (x < ν 6 q)) i (P - i)) := by simpa using h2
    have h4 := h.2.2.2.2 _ q h1 hq
    rw [lt_I] at h3 ⊢
    omega
theorem fst1_congr {p q : Nat → Bool} : ∀ (m i : Nat), (∀ k, i ≤ k → k < i + m → p k = q k) → fst1 p i m = fst1 q i m
  | 0, _, _ => rfl
  | m + 1, i, h => by
    unfold fst1
    rw [h i (by omega) (by omega), fst1_congr m (i + 1) (fun k h1 h2 => h k (by omega) (by omega))]
theorem first_led {A T P i : Nat} {x1 : Int32} {μ ν : Mm} (h : Led A T P μ ν) (hi : i ≤ P) : f_X4_firstAfter x1 (nI i) μ = some (nI (fst1 (fun q => decide (x1 < ν 6 q)) i (P - i))) := by
  rw [first_eq h.1 h.2.1 hi]
  congr 2
  apply fst1_congr
  intro k h1 h2
  rw [(h.2.2.2.1 k (by omega)).2.2.2.1]
theorem op_pass {t : Nat} {μ ν : Mm} (a : Int32) (o : Nat → Int64) (h : R t μ ν) (ht2 : t + 1440 ≤ 800000) : ∃ c μ' o' w ν', f_L_pass_0_o a μ o = some (c, μ', o') ∧ f_X8_pass a ν = some (w, ν') ∧ Res (t + 1440) c o' w μ' ν' := by
  have hz : R t μ (up2 ν 0 0 0) := R_thr 0 h
  unfold f_X8_pass f_L_pass_0_o f_X7_pass
  generalize e : up2 ν 0 0 0 = ν1 at hz ⊢
  have z : ν1 0 0 = 0 := by rw [← e]; rfl
  have hz2 := R_more hz (show t ≤ t + 1440 by omega) ht2
  obtain ⟨ht, A, T, P, F, C, N, hA, hT, hL, hK, hC, hR, hc, hJ⟩ := hz
  rw [btwI]
  rcases span_cases a 1 1440 (by decide) with ⟨h1, h2⟩ | ⟨h1, h2, h3⟩ | ⟨h1, h2, h3⟩
  · rw [if_pos h1, decide_eq_false h2]
    exact ⟨1, μ, o, 0, up2 ν1 0 0 1, rfl, rfl, rfl, fun h => absurd h (by decide), R_thr 1 hz2⟩
  · rw [if_neg h1, if_pos h2, decide_eq_true h3]
    rw [show ((1 : Int32).toInt = 1) from rfl, show ((1440 : Int32).toInt = 1440) from rfl] at h3
    obtain ⟨n, hn1, hn2, rfl⟩ : ∃ n, 1 ≤ n ∧ n ≤ 1440 ∧ a = nI n := ⟨a.toInt.toNat, by omega, by omega, w_inj (by omega)⟩
    obtain ⟨k1, k2, k3, k4⟩ := hK
    have hT1 := hT.1
    have hL2 : Led A (T + n) P (up2 μ 1 3 (nI (T + n))) ν1 := by
      obtain ⟨b1, b2, b3, b4, b5⟩ := hL
      refine ⟨b1, b2, b3, fun j hj => ?_, b5⟩
      obtain ⟨x1, x2, x3, x4, p, q, r, m, y1, y2, y3, y4, y5, y6⟩ := b4 j hj
      exact ⟨x1, x2, x3, x4, p, q, r, m, y1, y2, y3, y4, by omega, y6⟩
    unfold f_X1_advance
    simp only [hT.2.1, w_add]
    have q1 : (up2 μ 1 3 (nI (T + n))) 1 3 = nI (T + n) := rfl
    have q2 : (up2 μ 1 3 (nI (T + n))) 1 4 = nI F := k2
    rw [q1, q2, first_led hL2 k1]
    simp only [Option.bind_some, b2_t, show ¬ ((1 : Int32) = 0) by decide, if_false, if_true, chk0]
    generalize hF : fst1 (fun q => decide (nI (T + n) - 10080 < ν1 6 q)) F (P - F) = F'
    refine ⟨0, up2 (up2 μ 1 3 (nI (T + n))) 1 4 (nI F'), vp_updL o (0 : Int32).toNatClampNeg (nI (T + n)).toInt64, nI (T + n), up2 ν1 0 4 (nI (T + n)), rfl, ?_, z, fun _ => rfl, ?_⟩
    · rw [hT.2.2.1, w_add]; rfl
    · refine ⟨ht2, A, T + n, P, F', C, N, hA, ⟨by omega, rfl, rfl, hT.2.2.2⟩, hL2, ?_, hC, hR, hc, ?_⟩
      · refine ⟨?_, rfl, ?_, ?_⟩
        · rw [← hF]; have := fst1_le (p := (fun q => decide (nI (T + n) - 10080 < ν1 6 q))) (P - F) F; omega
        · intro j hj
          show (ν1 6 j).toInt + 10080 ≤ ((T + n : Nat) : Int)
          rcases Nat.lt_or_ge j F with h | h
          · have := k3 j h; omega
          · have hjP : j < P := by rw [← hF] at hj; have := fst1_le (p := (fun q => decide (nI (T + n) - 10080 < ν1 6 q))) (P - F) F; omega
            have := (fst_cut (x := nI (T + n) - 10080) hL2 k1 hjP).1 h (by rw [hF]; exact hj)
            rw [lt_I, show (nI (T + n) - 10080).toInt = ((T + n : Nat) : Int) - 10080 from subI (a := T + n) (b := 10080) (by omega) (by omega)] at this
            omega
        · intro j h1 hjP
          show ((T + n : Nat) : Int) < (ν1 6 j).toInt + 10080
          have := (fst_cut (x := nI (T + n) - 10080) hL2 k1 hjP).2 (by rw [hF]; exact h1)
          rw [lt_I, show (nI (T + n) - 10080).toInt = ((T + n : Nat) : Int) - 10080 from subI (a := T + n) (b := 10080) (by omega) (by omega)] at this
          omega
      · exact Jud_u hC hR hJ ⟨rfl, rfl, rfl, rfl, rfl, rfl, rfl, rfl, rfl, rfl, rfl, rfl, rfl, rfl, rfl, rfl⟩ ⟨rfl, rfl, rfl⟩
  · rw [if_neg h1, if_neg h2, decide_eq_false h3]
    exact ⟨1, μ, o, 0, up2 ν1 0 0 1, rfl, rfl, rfl, fun h => absurd h (by decide), R_thr 1 hz2⟩
/-- what a sent within the window -/
def sw (T : Nat) (ν : Mm) (a w : Int32) (q : Nat) (s : Int32) : Int32 := if ν 3 q = a then (if nI T - w < ν 6 q then s + ν 5 q else s) else s
theorem fo_cut {α : Type} {g h : Nat → α → α} {i P : Nat} (hi : i ≤ P) (s : α) (h1 : ∀ q, q < i → ∀ b, g q b = b) (h2 : ∀ q, i ≤ q → q < P → ∀ b, g q b = h q b) : fo g 0 P s = fo h i (P - i) s := by
  have e : P = i + (P - i) := by omega
  conv => lhs; rw [e]
  rw [fo_add, fo_id i 0 s (fun q _ hq b => h1 q (by omega) b), Nat.zero_add]
  exact fo_congr (P - i) i s (fun q a b c => h2 q a (by omega) c)
theorem keptSum_eq {t A T P F : Nat} {μ ν : Mm} {a w : Int32} (hT : Tim t T μ ν) (ht : t ≤ 800000) (hL : Led A T P μ ν) (hK : Kep T P F μ ν) (hw : win w) : f_X1_keptSum a w μ = some (fo (sw T ν a w) 0 P 0) := by
  obtain ⟨k1, k2, k3, k4⟩ := hK
  obtain ⟨n, hn1, hn2, rfl⟩ := win_nI hw
  have hP := hL.1
  have hT1 := hT.1
  unfold f_X1_keptSum
  rw [hT.2.1, k2, first_led hL k1, Option.bind_some, hL.2.1]
  generalize hF : fst1 (fun q => decide (nI T - nI n < ν 6 q)) F (P - F) = F'
  have hF' : F' ≤ P := by rw [← hF]; have := fst1_le (p := (fun q => decide (nI T - nI n < ν 6 q))) (P - F) F; omega
  have c1 : ∀ q, q < F' → ¬ (nI T - nI n < ν 6 q) := by
    intro q hq
    rcases Nat.lt_or_ge q F with h | h
    · have := k3 q h
      rw [lt_I, subI (by omega) (by omega)]; omega
    · exact (fst_cut (x := nI T - nI n) hL k1 (by omega)).1 h (by rw [hF]; exact hq)
  have c2 : ∀ q, F' ≤ q → q < P → nI T - nI n < ν 6 q := fun q h1 h2 => (fst_cut (x := nI T - nI n) hL k1 h2).2 (by rw [hF]; exact h1)
  rw [fo_cut (h := fun q s => if μ 6 q = a then s + μ 8 q else s) hF' 0 (fun q hq b => by unfold sw; rw [if_neg (c1 q hq)]; simp) (fun q h1 h2 b => by
    obtain ⟨x1, x2, x3, _⟩ := hL.2.2.2.1 q h2
    unfold sw; rw [if_pos (c2 q h1 h2), x1, x3])]
  have := up_loop' (fun n x s => f_X4_sumOf_6_L6 a (nI P) μ n s x) P (fun s => some s) (fun q s => if μ 6 q = a then s + μ 8 q else s) ?_ ?_ (P - F') fuel F' 0 (by omega) (by unfold fuel; omega)
  · show (f_X4_sumOf_6_L6 a (nI P) μ fuel 0 (nI F')).bind _ = _
    rw [this]; rfl
  · intro n s
    show f_X4_sumOf_6_L6 a (nI P) μ (n + 1) s (nI P) = _
    unfold f_X4_sumOf_6_L6
    rw [if_pos (by rw [w_le (by omega) (by omega)]; omega)]
  · intro n q s hq
    show f_X4_sumOf_6_L6 a (nI P) μ (n + 1) s (nI q) = _
    conv => lhs; unfold f_X4_sumOf_6_L6
    rw [if_neg (by rw [w_le (by omega) (by omega)]; omega), chk_nI (show q < 200 by omega) (by omega), w_nat (by omega), w_succ, chk_nI (show q < 200 by omega) (by omega)]
    by_cases h : μ 6 q = a
    · rw [if_pos h, if_pos h]
    · rw [if_neg h, if_neg h]
theorem sumAnew_eq {t A T P : Nat} {μ ν : Mm} {a w : Int32} (hT : Tim t T μ ν) (hL : Led A T P μ ν) : f_X1_sumAnew a w μ = some (fo (sw T ν a w) 0 P 0) := by
  have hP := hL.1
  unfold f_X1_sumAnew
  refine up_loop' (fun n x s => f_X1_sumAnew_L5 a w μ n s x) P (fun s => some s) _ ?_ ?_ P fuel 0 0 (by omega) (by unfold fuel; omega)
  · intro n s
    show f_X1_sumAnew_L5 a w μ (n + 1) s (nI P) = _
    unfold f_X1_sumAnew_L5
    rw [hL.2.1, if_pos (by rw [w_le (by omega) (by omega)]; omega)]
  · intro n q s hq
    show f_X1_sumAnew_L5 a w μ (n + 1) s (nI q) = _
    conv => lhs; unfold f_X1_sumAnew_L5
    obtain ⟨x1, x2, x3, x4, _⟩ := hL.2.2.2.1 q hq
    rw [hL.2.1, if_neg (by rw [w_le (by omega) (by omega)]; omega), chk_nI (show q < 200 by omega) (by omega), w_nat (by omega), w_succ, chk_nI (show q < 200 by omega) (by omega), chk_nI (show q < 200 by omega) (by omega), x1, x3, x4, hT.2.1]
    unfold sw
    by_cases h : ν 3 q = a
    · rw [if_pos h, if_pos h]
      by_cases h2 : ν 6 q ≤ nI T - w
      · rw [if_pos h2, if_neg (by rw [lt_I]; rw [le_I] at h2; omega)]
      · rw [if_neg h2, if_pos (by rw [lt_I]; rw [le_I] at h2; omega)]
    · rw [if_neg h, if_neg h]
theorem mSent_eq {t A T P : Nat} {μ ν : Mm} {a w : Int32} (ht : t ≤ 800000) (hT : Tim t T μ ν) (hL : Led A T P μ ν) : f_X8_sentBy_L37 a w ν fuel 0 0 = some (fo (sw T ν a w) 0 P 0, ν) := by
  have hP := hL.1
  have hT1 := hT.1
  refine up_loop' (fun n x s => f_X8_sentBy_L37 a w ν n s x) P (fun s => some (s, ν)) _ ?_ ?_ P fuel 0 0 (by omega) (by unfold fuel; omega)
  · intro n s
    show f_X8_sentBy_L37 a w ν (n + 1) s (nI P) = _
    unfold f_X8_sentBy_L37
    rw [hL.2.2.1, if_pos (by rw [w_le (by omega) (by omega)]; omega)]
  · intro n q s hq
    show f_X8_sentBy_L37 a w ν (n + 1) s (nI q) = _
    conv => lhs; unfold f_X8_sentBy_L37
    obtain ⟨m, hm, em⟩ := Led_min hL hq
    have hle : ν 6 q ≤ nI T := by rw [em, w_le (by omega) (by omega)]; exact hm
    rw [hL.2.2.1, if_neg (by rw [w_le (by omega) (by omega)]; omega), chk_nI (show q < 200 by omega) (by omega), w_nat (by omega), w_succ, isIn_eq (by omega), hT.2.2.1, decide_eq_true hle, Bool.and_true, Option.bind_some, chk_nI (show q < 200 by omega) (by omega), Int32.add_zero]
    unfold sw
    by_cases h : ν 3 q = a
    · rw [if_pos h, if_pos h]
      by_cases h2 : nI T - w < ν 6 q
      · rw [if_pos h2, decide_eq_true h2]; rfl
      · rw [if_neg h2, decide_eq_false h2]; rfl
    · rw [if_neg h, if_neg h]
theorem op_sentBy {t : Nat} {μ ν : Mm} (a w : Int32) (o : Nat → Int64) (h : R t μ ν) : ∃ c o' x ν', f_L_sentBy_0_o a w μ o = some (c, o') ∧ f_X8_sentBy a w ν = some (x, ν') ∧ Res t c o' x μ ν' := by
  have hz : R t μ (up2 ν 0 0 0) := R_thr 0 h
  unfold f_X8_sentBy f_L_sentBy_0_o f_X7_sentBy
  generalize e : up2 ν 0 0 0 = ν1 at hz ⊢
  have z : ν1 0 0 = 0 := by rw [← e]; rfl
  have hz2 := hz
  obtain ⟨ht, A, T, P, F, C, N, ⟨a1, a2, a3, a4, a5, a6⟩, hT, hL, hK, hC, hR, hc, hJ⟩ := hz
  rcases idx_cases a A with hb | ⟨j, hj, rfl⟩
  · rw [reqA_bad a1 a2 hb, isA_bad a1 a3 hb]
    exact ⟨1, o, 0, up2 ν1 0 0 1, rfl, rfl, rfl, fun h => absurd h (by decide), R_thr 1 hz2⟩
  · rw [reqA_ok a1 a2 hj, isA_ok a1 a3 hj]
    rcases win_doors w with ⟨w1, w2, w3⟩ | ⟨w1, w2, w3⟩
    · rw [w2, w3, keptSum_eq hT ht hL hK w1, mSent_eq ht hT hL]
      exact ⟨0, _, _, ν1, rfl, rfl, z, fun _ => rfl, hz2⟩
    · rw [w2, w3]
      exact ⟨2, o, 0, up2 ν1 0 0 2, rfl, rfl, rfl, fun h => absurd h (by decide), R_thr 2 hz2⟩
theorem op_sentByAnew {t : Nat} {μ ν : Mm} (a w : Int32) (o : Nat → Int64) (h : R t μ ν) : ∃ c o' x ν', f_L_sentByAnew_0_o a w μ o = some (c, o') ∧ f_X8_sentByAnew a w ν = some (x, ν') ∧ Res t c o' x μ ν' := by
  have hz : R t μ (up2 ν 0 0 0) := R_thr 0 h
  unfold f_X8_sentByAnew f_X8_sentBy f_L_sentByAnew_0_o f_X7_sentByAnew
  generalize e : up2 ν 0 0 0 = ν1 at hz ⊢
  have z : ν1 0 0 = 0 := by rw [← e]; rfl
  have hz2 := hz
  obtain ⟨ht, A, T, P, F, C, N, ⟨a1, a2, a3, a4, a5, a6⟩, hT, hL, hK, hC, hR, hc, hJ⟩ := hz
  rcases idx_cases a A with hb | ⟨j, hj, rfl⟩
  · rw [reqA_bad a1 a2 hb, isA_bad a1 a3 hb]
    exact ⟨1, o, 0, up2 ν1 0 0 1, rfl, rfl, rfl, fun h => absurd h (by decide), R_thr 1 hz2⟩
  · rw [reqA_ok a1 a2 hj, isA_ok a1 a3 hj]
    rcases win_doors w with ⟨w1, w2, w3⟩ | ⟨w1, w2, w3⟩
    · rw [w2, w3, sumAnew_eq hT hL, mSent_eq ht hT hL]
      exact ⟨0, _, _, ν1, rfl, rfl, z, fun _ => rfl, hz2⟩
    · rw [w2, w3]
      exact ⟨2, o, 0, up2 ν1 0 0 2, rfl, rfl, rfl, fun h => absurd h (by decide), R_thr 2 hz2⟩
theorem fo_one : ∀ (m i : Nat) (s : Nat), fo (fun _ (s : Int32) => s + 1) i m (nI s) = nI (s + m)
  | 0, _, _ => rfl
  | m + 1, i, s => by
    show fo (fun _ (s : Int32) => s + 1) (i + 1) m (nI s + 1) = _
    rw [w_succ, fo_one m (i + 1) (s + 1)]
    congr 1; omega
theorem op_kept {t : Nat} {μ ν : Mm} (h : R t μ ν) : ∃ w ν', f_X7_kept μ = some w ∧ f_X8_kept ν = some (w, ν') ∧ R t μ ν' := by
  have hz : R t μ (up2 ν 0 0 0) := R_thr 0 h
  unfold f_X7_kept f_X8_kept
  generalize e : up2 ν 0 0 0 = ν1 at hz ⊢
  have hz2 := hz
  obtain ⟨ht, A, T, P, F, C, N, hA, hT, hL, ⟨k1, k2, k3, k4⟩, hC, hR, hc, hJ⟩ := hz
  have hP := hL.1
  have hT1 := hT.1
  refine ⟨nI (P - F), ν1, ?_, ?_, hz2⟩
  · rw [hL.2.1, k2, w_sub k1]
  · have e1 := up_loop' (fun n x s => f_X8_kept_L9 ν1 n s x) P (fun s => some (s, ν1)) (fun q s => if nI T - 10080 < ν1 6 q then s + 1 else s) ?_ ?_ P fuel 0 0 (by omega) (by unfold fuel; omega)
    · show f_X8_kept_L9 ν1 fuel 0 0 = _
      have : (0 : Int32) = nI 0 := rfl
      rw [show f_X8_kept_L9 ν1 fuel 0 0 = f_X8_kept_L9 ν1 fuel 0 (nI 0) from rfl, e1]
      rw [fo_cut (h := fun _ s => s + 1) k1 0 (fun q hq b => ?_) (fun q h1 h2 b => ?_)]
      · rw [show (0 : Int32) = nI 0 from rfl, fo_one, Nat.zero_add]
      · rw [if_neg]
        have := k3 q hq
        rw [lt_I, show (nI T - 10080).toInt = (T : Int) - 10080 from subI (a := T) (b := 10080) (by omega) (by omega)]; omega
      · rw [if_pos]
        have := k4 q h1 h2
        rw [lt_I, show (nI T - 10080).toInt = (T : Int) - 10080 from subI (a := T) (b := 10080) (by omega) (by omega)]; omega
    · intro n s
      show f_X8_kept_L9 ν1 (n + 1) s (nI P) = _
      unfold f_X8_kept_L9
      rw [hL.2.2.1, if_pos (by rw [w_le (by omega) (by omega)]; omega)]
    · intro n q s hq
      show f_X8_kept_L9 ν1 (n + 1) s (nI q) = _
      conv => lhs; unfold f_X8_kept_L9
      obtain ⟨m, hm, em⟩ := Led_min hL hq
      have hle : ν1 6 q ≤ nI T := by rw [em, w_le (by omega) (by omega)]; exact hm
      rw [hL.2.2.1, if_neg (by rw [w_le (by omega) (by omega)]; omega), isIn_eq (by omega), hT.2.2.1, decide_eq_true hle, Bool.and_true, Option.bind_some, w_succ, Int32.add_zero]
      by_cases h2 : nI T - 10080 < ν1 6 q
      · rw [if_pos h2, decide_eq_true h2]; rfl
      · rw [if_neg h2, decide_eq_false h2]; rfl
