/-! ===== L3: the component's features ===== -/
theorem fst1_uniq {p : Nat → Bool} {i m r : Nat} (h1 : i ≤ r) (h2 : r < i + m) (hr : p r = true) (hn : ∀ q, i ≤ q → q < r → p q = false) : fst1 p i m = r := by
  have a1 : fst1 p i m ≤ r := by
    apply Nat.le_of_not_lt
    intro hlt
    have := fst1_no m i r h1 hlt
    rw [hr] at this; cases this
  have a2 : p (fst1 p i m) = true := fst1_yes m i (by omega)
  have a3 := fst1_ge (p := p) m i
  apply Nat.le_antisymm a1
  apply Nat.le_of_not_lt
  intro hlt
  have := hn _ a3 hlt
  rw [a2] at this; cases this
theorem cut_le {ν : Mm} {p q k : Nat} (h : q ≤ p) : cut ν p k q = dat ν k q := by unfold cut; rw [if_pos h]
theorem lo_le {A T P p : Nat} {μ ν : Mm} {w : Int32} (hT : T ≤ 800000) (hL : Led A T P μ ν) (hp : p < P) (hw : win w) : lo (cut ν p) w p ≤ p ∧ inW (cut ν p) w p p = true := by
  obtain ⟨n, hn1, hn2, rfl⟩ := win_nI hw
  obtain ⟨m, hm, em⟩ := Led_min hL hp
  have h1 : inW (cut ν p) (nI n) p p = true := by
    unfold inW
    rw [decide_eq_true_eq, cut_le (Nat.le_refl p)]
    show ν 6 p - nI n < ν 6 p
    rw [em, lt_I, subI (by omega) (by omega), w_int (by omega)]
    omega
  refine ⟨?_, h1⟩
  apply Nat.le_of_not_lt
  intro hlt
  have := fst1_no (p := inW (cut ν p) (nI n) p) (p + 1) 0 p (by omega) hlt
  rw [h1] at this; cases this
theorem lo_eq {A T P p : Nat} {μ ν : Mm} {w : Int32} (hT : T ≤ 800000) (hL : Led A T P μ ν) (hp : p < P) (hw : win w) : fst1 (fun q => decide (ν 6 p - w < ν 6 q)) 0 P = lo (cut ν p) w p := by
  obtain ⟨h1, h2⟩ := lo_le hT hL hp hw
  have e : ∀ q, q ≤ p → inW (cut ν p) w p q = decide (ν 6 p - w < ν 6 q) := by
    intro q hq
    unfold inW
    rw [cut_le (Nat.le_refl p), cut_le hq]
    rfl
  apply fst1_uniq (by omega) (by omega)
  · have := fst1_yes (p := inW (cut ν p) w p) (p + 1) 0 (by unfold lo at h1; omega)
    rw [← e _ h1]; exact this
  · intro q _ hq
    rw [← e q (by omega)]
    exact fst1_no (p := inW (cut ν p) w p) (p + 1) 0 q (by omega) hq
/-- which payments lie in the window: those from lo on -/
theorem lo_in {A T P p q : Nat} {μ ν : Mm} {w : Int32} (hL : Led A T P μ ν) (hp : p < P) (hq : q ≤ p) : (decide (ν 6 p - w < ν 6 q) && decide (ν 6 q ≤ ν 6 p)) = decide (lo (cut ν p) w p ≤ q) := by
  have e : ∀ q, q ≤ p → inW (cut ν p) w p q = decide (ν 6 p - w < ν 6 q) := by
    intro q hq
    unfold inW
    rw [cut_le (Nat.le_refl p), cut_le hq]
    rfl
  have hle : ν 6 q ≤ ν 6 p := by rw [le_I]; exact hL.2.2.2.2 q p hq hp
  rw [decide_eq_true hle, Bool.and_true, ← e q hq]
  rcases Nat.lt_or_ge q (lo (cut ν p) w p) with h | h
  · rw [decide_eq_false (by omega)]
    exact fst1_no (p := inW (cut ν p) w p) (p + 1) 0 q (by omega) h
  · rw [decide_eq_true h]
    have hy := fst1_yes (p := inW (cut ν p) w p) (p + 1) 0 (by unfold lo at h; omega)
    have hlop : lo (cut ν p) w p ≤ p := by omega
    have hy2 : inW (cut ν p) w p (lo (cut ν p) w p) = true := hy
    rw [e _ hlop, decide_eq_true_eq] at hy2
    rw [e q hq, decide_eq_true_eq]
    have := hL.2.2.2.2 _ q h (by omega)
    rw [lt_I] at hy2 ⊢
    omega
theorem sum6_eq {a : Int32} {i hi : Nat} {μ : Mm} (h : i ≤ hi) (hh : hi ≤ 200) : f_X4_sumOf_6 a (nI i) (nI hi) μ = some (fo (fun q s => if μ 6 q = a then s + μ 8 q else s) i (hi - i) 0) := by
  unfold f_X4_sumOf_6
  refine up_loop' (fun n x s => f_X4_sumOf_6_L6 a (nI hi) μ n s x) hi (fun s => some s) _ ?_ ?_ (hi - i) fuel i 0 (by omega) (by unfold fuel; omega)
  · intro n s
    show f_X4_sumOf_6_L6 a (nI hi) μ (n + 1) s (nI hi) = _
    unfold f_X4_sumOf_6_L6
    rw [if_pos (by rw [w_le (by omega) (by omega)]; omega)]
  · intro n q s hq
    show f_X4_sumOf_6_L6 a (nI hi) μ (n + 1) s (nI q) = _
    conv => lhs; unfold f_X4_sumOf_6_L6
    rw [if_neg (by rw [w_le (by omega) (by omega)]; omega), chk_nI (show q < 200 by omega) (by omega), w_nat (by omega), w_succ, chk_nI (show q < 200 by omega) (by omega)]
    by_cases h2 : μ 6 q = a
    · rw [if_pos h2, if_pos h2]
    · rw [if_neg h2, if_neg h2]
theorem sum7_eq {a : Int32} {i hi : Nat} {μ : Mm} (h : i ≤ hi) (hh : hi ≤ 200) : f_X4_sumOf_7 a (nI i) (nI hi) μ = some (fo (fun q s => if μ 7 q = a then s + μ 8 q else s) i (hi - i) 0) := by
  unfold f_X4_sumOf_7
  refine up_loop' (fun n x s => f_X4_sumOf_7_L6 a (nI hi) μ n s x) hi (fun s => some s) _ ?_ ?_ (hi - i) fuel i 0 (by omega) (by unfold fuel; omega)
  · intro n s
    show f_X4_sumOf_7_L6 a (nI hi) μ (n + 1) s (nI hi) = _
    unfold f_X4_sumOf_7_L6
    rw [if_pos (by rw [w_le (by omega) (by omega)]; omega)]
  · intro n q s hq
    show f_X4_sumOf_7_L6 a (nI hi) μ (n + 1) s (nI q) = _
    conv => lhs; unfold f_X4_sumOf_7_L6
    rw [if_neg (by rw [w_le (by omega) (by omega)]; omega), chk_nI (show q < 200 by omega) (by omega), w_nat (by omega), w_succ, chk_nI (show q < 200 by omega) (by omega)]
    by_cases h2 : μ 7 q = a
    · rw [if_pos h2, if_pos h2]
    · rw [if_neg h2, if_neg h2]
theorem cnt_eq {a l u : Int32} {i hi : Nat} {μ : Mm} (h : i ≤ hi) (hh : hi ≤ 200) : f_X4_countSent a (nI i) (nI hi) l u μ = some (fo (fun q s => if μ 6 q = a then (if μ 8 q < l then s else if u < μ 8 q then s else s + 1) else s) i (hi - i) 0) := by
  unfold f_X4_countSent
  refine up_loop' (fun n x s => f_X4_countSent_L6 a (nI hi) l u μ n s x) hi (fun s => some s) _ ?_ ?_ (hi - i) fuel i 0 (by omega) (by unfold fuel; omega)
  · intro n s
    show f_X4_countSent_L6 a (nI hi) l u μ (n + 1) s (nI hi) = _
    unfold f_X4_countSent_L6
    rw [if_pos (by rw [w_le (by omega) (by omega)]; omega)]
  · intro n q s hq
    show f_X4_countSent_L6 a (nI hi) l u μ (n + 1) s (nI q) = _
    conv => lhs; unfold f_X4_countSent_L6
    rw [if_neg (by rw [w_le (by omega) (by omega)]; omega), chk_nI (show q < 200 by omega) (by omega), w_nat (by omega), w_succ, chk_nI (show q < 200 by omega) (by omega)]
    by_cases h2 : μ 6 q = a
    · rw [if_pos h2, if_pos h2]
      by_cases h3 : μ 8 q < l
      · rw [if_pos h3, if_pos h3]
      · rw [if_neg h3, if_neg h3]
        by_cases h4 : u < μ 8 q
        · rw [if_pos h4, if_pos h4]
        · rw [if_neg h4, if_neg h4]
    · rw [if_neg h2, if_neg h2]
theorem max_eq {a : Int32} {i hi : Nat} {μ : Mm} (h : i ≤ hi) (hh : hi ≤ 200) : f_X4_greatestSent a (nI i) (nI hi) μ = some (fo (fun q s => if μ 6 q = a then (if μ 8 q ≤ s then s else μ 8 q) else s) i (hi - i) 0) := by
  unfold f_X4_greatestSent
  refine up_loop' (fun n x s => f_X4_greatestSent_L6 a (nI hi) μ n s x) hi (fun s => some s) _ ?_ ?_ (hi - i) fuel i 0 (by omega) (by unfold fuel; omega)
  · intro n s
    show f_X4_greatestSent_L6 a (nI hi) μ (n + 1) s (nI hi) = _
    unfold f_X4_greatestSent_L6
    rw [if_pos (by rw [w_le (by omega) (by omega)]; omega)]
  · intro n q s hq
    show f_X4_greatestSent_L6 a (nI hi) μ (n + 1) s (nI q) = _
    conv => lhs; unfold f_X4_greatestSent_L6
    rw [if_neg (by rw [w_le (by omega) (by omega)]; omega), chk_nI (show q < 200 by omega) (by omega), w_nat (by omega), w_succ, chk_nI (show q < 200 by omega) (by omega), chk_nI (show q < 200 by omega) (by omega)]
    by_cases h2 : μ 6 q = a
    · rw [if_pos h2, if_pos h2]
      by_cases h3 : μ 8 q ≤ s
      · rw [if_pos h3, if_pos h3]
      · rw [if_neg h3, if_neg h3]
    · rw [if_neg h2, if_neg h2]
theorem pair_eq {p : Nat} {μ : Mm} (hh : p < 200) : f_X4_isFirstOfPair (nI p) μ = some (if fst1 (fun q => decide (μ 6 q = μ 6 p) && decide (μ 7 q = μ 7 p)) 0 p = p then 1 else 0) := by
  unfold f_X4_isFirstOfPair
  refine find_loop (fun n x => f_X4_isFirstOfPair_L2 (nI p) μ n x) p (fun q => some (if q = p then 1 else 0)) _ ?_ ?_ p fuel 0 (by omega) (by unfold fuel; omega)
  · intro n
    show f_X4_isFirstOfPair_L2 (nI p) μ (n + 1) (nI p) = _
    unfold f_X4_isFirstOfPair_L2
    rw [if_pos (by rw [w_le (by omega) (by omega)]; omega), if_pos rfl]
  · intro n q hq
    show f_X4_isFirstOfPair_L2 (nI p) μ (n + 1) (nI q) = _
    conv => lhs; unfold f_X4_isFirstOfPair_L2
    rw [if_neg (by rw [w_le (by omega) (by omega)]; omega), chk_nI (show q < 200 by omega) (by omega), chk_nI (show p < 200 by omega) (by omega), chk_nI (show q < 200 by omega) (by omega), chk_nI (show p < 200 by omega) (by omega), w_nat (by omega), w_nat (by omega), w_succ, if_neg (show ¬ q = p by omega)]
    by_cases h2 : μ 6 q = μ 6 p
    · rw [if_pos h2, decide_eq_true h2, Bool.true_and]
      by_cases h3 : μ 7 q = μ 7 p
      · rw [if_pos h3, decide_eq_true h3, if_pos rfl]
      · rw [if_neg h3, decide_eq_false h3, if_neg (by simp)]
    · rw [if_neg h2, decide_eq_false h2, Bool.false_and, if_neg (by simp)]
theorem last_eq {p : Nat} {μ : Mm} {x : Nat → Nat → Int32} (hh : p < 200) (h0 : ∀ q, q ≤ p → x 0 q = μ 6 q ∧ x 3 q = μ 9 q) : ∀ (m n : Nat), m ≤ p → m < n → f_X4_minutesSinceLast_L4 (nI p) 99999 μ n (nI m - 1) = some (lastM x p m)
  | _, 0, _, h => by omega
  | 0, n + 1, _, _ => by
    unfold f_X4_minutesSinceLast_L4 lastM
    rw [if_pos (by decide)]
  | m + 1, n + 1, hm, hn => by
    rw [w_pred]
    unfold f_X4_minutesSinceLast_L4 lastM
    rw [if_neg (by rw [lt_I, w_int (by omega), show ((0 : Int32).toInt = 0) from rfl]; omega), chk_nI (show m < 200 by omega) (by omega), chk_nI (show p < 200 by omega) (by omega), chk_nI (show p < 200 by omega) (by omega), chk_nI (show m < 200 by omega) (by omega), w_nat (by omega), w_nat (by omega), (h0 m (by omega)).1, (h0 p (by omega)).1, (h0 m (by omega)).2, (h0 p (by omega)).2]
    by_cases h : μ 6 m = μ 6 p
    · rw [if_pos h, if_pos h]
    · rw [if_neg h, if_neg h, show nI m + (-1) = nI m - 1 from (Int32.sub_eq_add_neg (nI m) 1).symm]
      exact last_eq hh h0 m n (by omega) (by omega)
