/-! ===== L3: the order of the open alerts ===== -/
def opn (ν : Mm) (p : Nat) : Bool := decide (ν 10 p = 111)
def ahd (ν : Mm) (a b : Nat) : Bool := decide (ν 9 b < ν 9 a) || (decide (ν 9 a = ν 9 b) && decide (a < b))
def rk (ν : Mm) (P q : Nat) : Nat := fb_ct (fun x => opn ν x && ahd ν x q) P
theorem isAhead_eq {P a b : Nat} {μ ν : Mm} (hP : P ≤ 200) (hc : ∀ p, p < P → μ 31 p = ν 10 p ∧ μ 30 p = ν 9 p) (ha : a < P) (hb : b < P) : f_X2_isAhead (nI a) (nI b) μ = some (b2 (ahd ν a b)) := by
  unfold f_X2_isAhead ahd
  simp only [chk_nI (show a < 200 by omega) (show 200 < 2147483648 by omega), chk_nI (show b < 200 by omega) (show 200 < 2147483648 by omega), w_nat (show a < 2147483648 by omega), w_nat (show b < 2147483648 by omega), (hc a ha).2, (hc b hb).2]
  by_cases h1 : ν 9 b < ν 9 a
  · rw [if_pos h1, decide_eq_true h1]; rfl
  · rw [if_neg h1, decide_eq_false h1]
    by_cases h2 : ν 9 a = ν 9 b
    · rw [if_pos h2, decide_eq_true h2]
      by_cases h3 : b ≤ a
      · rw [if_pos ((w_le (by omega) (by omega)).mpr h3), decide_eq_false (show ¬ a < b by omega)]; rfl
      · rw [if_neg (by rw [w_le (by omega) (by omega)]; exact h3), decide_eq_true (show a < b by omega)]; rfl
    · rw [if_neg h2, decide_eq_false h2]; rfl
theorem countAhead_eq {P q : Nat} {μ ν : Mm} (hP : P ≤ 200) (hc : ∀ p, p < P → μ 31 p = ν 10 p ∧ μ 30 p = ν 9 p) (hq : q < P) : f_X2_countAhead (nI q) (nI P) μ = some (nI (rk ν P q)) := by
  unfold f_X2_countAhead rk
  rw [← fo_ct]
  refine up_loop' (fun n x s => f_X2_countAhead_L5 (nI q) (nI P) μ n s x) P (fun s => some s) _ ?_ ?_ P fuel 0 0 (by omega) (by unfold fuel; omega)
  · intro n s
    show f_X2_countAhead_L5 (nI q) (nI P) μ (n + 1) s (nI P) = _
    unfold f_X2_countAhead_L5
    rw [if_pos (by rw [w_le (by omega) (by omega)]; omega)]
  · intro n i s hi
    show f_X2_countAhead_L5 (nI q) (nI P) μ (n + 1) s (nI i) = _
    conv => lhs; unfold f_X2_countAhead_L5
    rw [if_neg (by rw [w_le (by omega) (by omega)]; omega), chk_nI (show i < 200 by omega) (by omega), w_nat (by omega), w_succ, (hc i hi).1, isAhead_eq hP hc hi hq, Option.bind_some]
    unfold opn
    by_cases h : ν 10 i = 111
    · rw [if_pos h, decide_eq_true h, Bool.true_and]
      cases h2 : ahd ν i q
      · rw [b2_f, if_pos rfl, if_neg (by simp)]
      · rw [b2_t, if_neg (by decide), if_pos rfl]
    · rw [if_neg h, decide_eq_false h, Bool.false_and, if_neg (by simp)]
def rkP (ν : Mm) (P : Nat) (a : Int32) (q : Nat) : Bool := opn ν q && decide (nI (rk ν P q) = a)
theorem openAt_eq {P : Nat} {a : Int32} {μ ν : Mm} (hP : P ≤ 200) (hc : ∀ p, p < P → μ 31 p = ν 10 p ∧ μ 30 p = ν 9 p) : f_X2_openAtRank a (nI P) μ = some (if fst1 (rkP ν P a) 0 P = P then -1 else nI (fst1 (rkP ν P a) 0 P)) := by
  unfold f_X2_openAtRank
  refine find_loop (fun n x => f_X2_openAtRank_L2 a (nI P) μ n x) P (fun q => some (if q = P then -1 else nI q)) (rkP ν P a) ?_ ?_ P fuel 0 (by omega) (by unfold fuel; omega)
  · intro n
    show f_X2_openAtRank_L2 a (nI P) μ (n + 1) (nI P) = _
    unfold f_X2_openAtRank_L2
    rw [if_pos (by rw [w_le (by omega) (by omega)]; omega), if_pos rfl]
  · intro n i hi
    show f_X2_openAtRank_L2 a (nI P) μ (n + 1) (nI i) = _
    conv => lhs; unfold f_X2_openAtRank_L2
    rw [if_neg (by rw [w_le (by omega) (by omega)]; omega), chk_nI (show i < 200 by omega) (by omega), w_nat (by omega), w_succ, (hc i hi).1, countAhead_eq hP hc hi, Option.bind_some, if_neg (show ¬ i = P by omega)]
    unfold rkP opn
    by_cases h : ν 10 i = 111
    · rw [if_pos h, decide_eq_true h, Bool.true_and]
      by_cases h2 : nI (rk ν P i) = a
      · rw [if_pos h2, if_pos (decide_eq_true h2)]
      · rw [if_neg h2, if_neg (by simpa using h2)]
    · rw [if_neg h, decide_eq_false h, Bool.false_and, if_neg (by simp)]
theorem ranked_eq {P : Nat} {a : Int32} {ν : Mm} (hP : P ≤ 200) (e : ν 0 15 = nI P) : f_X8_ranked a ν = some (if fst1 (rkP ν P a) 0 P = P then -1 else nI (fst1 (rkP ν P a) 0 P)) := by
  unfold f_X8_ranked
  refine find_loop (fun n x => f_X8_ranked_L2 a ν n x) P (fun q => some (if q = P then -1 else nI q)) (rkP ν P a) ?_ ?_ P fuel 0 (by omega) (by unfold fuel; omega)
  · intro n
    show f_X8_ranked_L2 a ν (n + 1) (nI P) = _
    unfold f_X8_ranked_L2
    rw [e, if_pos (by rw [w_le (by omega) (by omega)]; omega), if_pos rfl]
  · intro n i hi
    show f_X8_ranked_L2 a ν (n + 1) (nI i) = _
    conv => lhs; unfold f_X8_ranked_L2
    rw [e, if_neg (by rw [w_le (by omega) (by omega)]; omega), chk_nI (show i < 200 by omega) (by omega), w_nat (by omega), w_succ, if_neg (show ¬ i = P by omega)]
    have inner : ∀ (kb : Int32 → Option Int32) (kx : Int32 → Option Int32), f_X8_ranked_L29 kb kx a (nI i) ν fuel 0 0 = kx (nI (rk ν P i)) := by
      intro kb kx
      unfold rk
      rw [← fo_ct]
      refine up_loop' (fun n x s => f_X8_ranked_L29 kb kx a (nI i) ν n s x) P kx _ ?_ ?_ P fuel 0 0 (by omega) (by unfold fuel; omega)
      · intro n s
        show f_X8_ranked_L29 kb kx a (nI i) ν (n + 1) s (nI P) = _
        unfold f_X8_ranked_L29
        rw [e, if_pos (by rw [w_le (by omega) (by omega)]; omega)]
      · intro n j s hj
        show f_X8_ranked_L29 kb kx a (nI i) ν (n + 1) s (nI j) = _
        conv => lhs; unfold f_X8_ranked_L29
        rw [e, if_neg (by rw [w_le (by omega) (by omega)]; omega), Int32.add_zero]
        simp only [chk_nI (show j < 200 by omega) (show 200 < 2147483648 by omega), chk_nI (show i < 200 by omega) (show 200 < 2147483648 by omega), w_nat (show j < 2147483648 by omega), w_nat (show i < 2147483648 by omega), w_succ]
        unfold opn ahd
        by_cases h : ν 10 j = 111
        · rw [if_pos h, decide_eq_true h, Bool.true_and]
          by_cases h1 : ν 9 i < ν 9 j
          · rw [if_pos h1, decide_eq_true h1, Bool.true_or, if_pos rfl]
          · rw [if_neg h1, decide_eq_false h1, Bool.false_or]
            by_cases h2 : ν 9 j = ν 9 i
            · rw [if_pos h2, decide_eq_true h2, Bool.true_and]
              by_cases h3 : i ≤ j
              · rw [if_pos ((w_le (by omega) (by omega)).mpr h3), decide_eq_false (show ¬ j < i by omega), if_neg (by simp)]
              · rw [if_neg (by rw [w_le (by omega) (by omega)]; exact h3), decide_eq_true (show j < i by omega), if_pos rfl]
            · rw [if_neg h2, decide_eq_false h2, Bool.false_and, if_neg (by simp)]
        · rw [if_neg h, decide_eq_false h, Bool.false_and, if_neg (by simp)]
    rw [inner]
    unfold rkP opn
    by_cases h : ν 10 i = 111
    · rw [if_pos h, decide_eq_true h, Bool.true_and]
      by_cases h2 : nI (rk ν P i) = a
      · rw [if_pos h2, if_pos (decide_eq_true h2)]
      · rw [if_neg h2, if_neg (by simpa using h2)]
    · rw [if_neg h, decide_eq_false h, Bool.false_and, if_neg (by simp)]
theorem m1_ne {q : Nat} (h : q < 100000) : ¬ (nI q = -1) := by
  intro h2
  have := congrArg Int32.toInt h2
  rw [w_int (by omega), show ((-1 : Int32).toInt = -1) from rfl] at this
  omega
theorem nn_nI {q : Nat} (h : q < 100000) : (0 : Int32) ≤ nI q := by
  rw [le_I, w_int (by omega), show ((0 : Int32).toInt = 0) from rfl]; omega
theorem op_alertAt {t : Nat} {μ ν : Mm} (a : Int32) (o : Nat → Int64) (h : R t μ ν) : ∃ c o' w ν', f_L_alertAt_0_o a μ o = some (c, o') ∧ f_X8_alertAt a ν = some (w, ν') ∧ Res t c o' w μ ν' := by
  have hz : R t μ (up2 ν 0 0 0) := R_thr 0 h
  unfold f_X8_alertAt f_L_alertAt_0_o f_X7_alertAt
  generalize e : up2 ν 0 0 0 = ν1 at hz ⊢
  have z : ν1 0 0 = 0 := by rw [← e]; rfl
  have hz2 := hz
  obtain ⟨ht, A, T, P, F, C, N, hA, hT, hL, hK, hC, hR, hc, hJ⟩ := hz
  have hP := hL.1
  rw [hL.2.1, openAt_eq hL.1 (Cas_e hc), ranked_eq hL.1 hL.2.2.1, Option.bind_some, Option.bind_some]
  have hle := fst1_le (p := rkP ν1 P a) P 0
  generalize fst1 (rkP ν1 P a) 0 P = q at hle ⊢
  by_cases hq : q = P
  · rw [if_pos hq]
    exact ⟨1, o, 0, up2 ν1 0 0 1, rfl, rfl, rfl, fun h => absurd h (by decide), R_thr 1 hz2⟩
  · rw [if_neg hq, if_neg (m1_ne (by omega)), if_pos (nn_nI (by omega))]
    exact ⟨0, _, _, ν1, rfl, rfl, z, fun _ => rfl, hz2⟩
/-- the component's fold for the first alert -/
def fstS (ν : Mm) (q : Nat) (b : Int32) : Int32 := if opn ν q = true then (if b = -1 then nI q else (if ahd ν q b.toNatClampNeg = true then nI q else b)) else b
theorem firstOpen_eq {P : Nat} {μ ν : Mm} (hP : P ≤ 200) (hc : ∀ p, p < P → μ 31 p = ν 10 p ∧ μ 30 p = ν 9 p) : f_X2_firstOpen (nI P) μ = some (fo (fstS ν) 0 P (-1)) := by
  unfold f_X2_firstOpen
  refine (up_loop (fun n x s => f_X2_firstOpen_L4 (nI P) μ n s x) P (fun s => some s) (fstS ν) (fun i b => b = -1 ∨ ∃ k, k < i ∧ b = nI k) ?_ ?_ P fuel 0 (-1) (by omega) (by unfold fuel; omega) (Or.inl rfl)).1
  · intro n s _
    show f_X2_firstOpen_L4 (nI P) μ (n + 1) s (nI P) = _
    unfold f_X2_firstOpen_L4
    rw [if_pos (by rw [w_le (by omega) (by omega)]; omega)]
  · intro n i s hi hI
    constructor
    · show f_X2_firstOpen_L4 (nI P) μ (n + 1) s (nI i) = _
      conv => lhs; unfold f_X2_firstOpen_L4
      rw [if_neg (by rw [w_le (by omega) (by omega)]; omega), chk_nI (show i < 200 by omega) (by omega), w_nat (by omega), w_succ, (hc i hi).1]
      unfold fstS
      by_cases h : ν 10 i = 111
      · have ho : opn ν i = true := decide_eq_true h
        rw [if_pos h, if_pos ho]
        by_cases hs : s = -1
        · rw [if_pos hs, if_pos hs]
        · rw [if_neg hs, if_neg hs]
          rcases hI with hI | ⟨k, hk, hI⟩
          · exact absurd hI hs
          · rw [hI, isAhead_eq hP hc hi (by omega), Option.bind_some, w_nat (by omega)]
            cases ahd ν i k
            · rw [b2_f, if_pos rfl, if_neg (by simp)]
            · rw [b2_t, if_neg (by decide), if_pos rfl]
      · have ho : ¬ opn ν i = true := by unfold opn; simpa using h
        rw [if_neg h, if_neg ho]
    · unfold fstS
      have hw : s = -1 ∨ ∃ k, k < i + 1 ∧ s = nI k := by
        rcases hI with hI | ⟨k, hk, hI⟩
        · exact Or.inl hI
        · exact Or.inr ⟨k, by omega, hI⟩
      have hq : nI i = -1 ∨ ∃ k, k < i + 1 ∧ nI i = nI k := Or.inr ⟨i, by omega, rfl⟩
      split
      · split
        · exact hq
        · split
          · exact hq
          · exact hw
      · exact hw
theorem ahd_tot (ν : Mm) {a b : Nat} (h : a ≠ b) : ahd ν a b = true ∨ ahd ν b a = true := by
  unfold ahd
  simp only [Bool.or_eq_true, Bool.and_eq_true, decide_eq_true_eq, lt_I]
  have e : ν 9 a = ν 9 b ↔ (ν 9 a).toInt = (ν 9 b).toInt := Int32.toInt_inj.symm
  have e2 : ν 9 b = ν 9 a ↔ (ν 9 b).toInt = (ν 9 a).toInt := Int32.toInt_inj.symm
  rw [e, e2]
  omega
theorem ahd_trans (ν : Mm) {a b c : Nat} (h1 : ahd ν a b = true) (h2 : ahd ν c b = false) : ahd ν c a = false := by
  unfold ahd at *
  simp only [Bool.or_eq_true, Bool.and_eq_true, decide_eq_true_eq, lt_I, Bool.or_eq_false_iff, Bool.and_eq_false_iff, decide_eq_false_iff_not] at *
  have e : ∀ x y, ν 9 x = ν 9 y ↔ (ν 9 x).toInt = (ν 9 y).toInt := fun x y => Int32.toInt_inj.symm
  simp only [e] at *
  omega
theorem ahd_irr (ν : Mm) (a : Nat) : ahd ν a a = false := by
  unfold ahd
  simp only [Bool.or_eq_false_iff, Bool.and_eq_false_iff, decide_eq_false_iff_not, lt_I]
  omega
theorem fstS_inv (ν : Mm) (P : Nat) (hP : P ≤ 200) : (fo (fstS ν) 0 P (-1) = -1 ∧ ∀ x, x < P → opn ν x = false) ∨ ∃ k, k < P ∧ fo (fstS ν) 0 P (-1) = nI k ∧ opn ν k = true ∧ ∀ x, x < P → opn ν x = true → ahd ν x k = false := by
  have := fo_inv (g := fstS ν) (fun i b => i ≤ 200 → (b = -1 ∧ ∀ x, x < i → opn ν x = false) ∨ ∃ k, k < i ∧ b = nI k ∧ opn ν k = true ∧ ∀ x, x < i → opn ν x = true → ahd ν x k = false) P 0 (-1) (fun _ => Or.inl ⟨rfl, fun x hx => by omega⟩) (by
    intro q b _ hq hI hle
    have hI2 := hI (by omega)
    unfold fstS
    by_cases ho : opn ν q = true
    · rw [if_pos ho]
      rcases hI2 with ⟨hb, hn⟩ | ⟨k, hk, hb, hk2, hk3⟩
      · rw [if_pos hb]
        refine Or.inr ⟨q, by omega, rfl, ho, fun x hx hox => ?_⟩
        rcases Nat.lt_or_ge x q with h | h
        · rw [hn x h] at hox; cases hox
        · have : x = q := by omega
          subst this; exact ahd_irr ν x
      · rw [if_neg (by rw [hb]; exact m1_ne (by omega)), hb, w_nat (by omega)]
        by_cases ha : ahd ν q k = true
        · rw [if_pos ha]
          refine Or.inr ⟨q, by omega, rfl, ho, fun x hx hox => ?_⟩
          rcases Nat.lt_or_ge x q with h | h
          · exact ahd_trans ν ha (hk3 x h hox)
          · have : x = q := by omega
            subst this; exact ahd_irr ν x
        · rw [if_neg ha]
          refine Or.inr ⟨k, by omega, rfl, hk2, fun x hx hox => ?_⟩
          rcases Nat.lt_or_ge x q with h | h
          · exact hk3 x h hox
          · have : x = q := by omega
            subst this; simpa using ha
    · rw [if_neg ho]
      rcases hI2 with ⟨hb, hn⟩ | ⟨k, hk, hb, hk2, hk3⟩
      · refine Or.inl ⟨hb, fun x hx => ?_⟩
        rcases Nat.lt_or_ge x q with h | h
        · exact hn x h
        · have : x = q := by omega
          subst this; simpa using ho
      · refine Or.inr ⟨k, by omega, hb, hk2, fun x hx hox => ?_⟩
        rcases Nat.lt_or_ge x q with h | h
        · exact hk3 x h hox
        · have : x = q := by omega
          subst this; exact absurd hox ho)
  have h2 := this (by omega)
  rw [Nat.zero_add] at h2
  exact h2
theorem op_nextAlert {t : Nat} {μ ν : Mm} (o : Nat → Int64) (h : R t μ ν) : ∃ c o' w ν', f_L_nextAlert_0_o μ o = some (c, o') ∧ f_X8_nextAlert ν = some (w, ν') ∧ (ν' 0 0 = (if c = 1 then 1 else c)) ∧ Res t c o' w μ ν' := by
  have hz : R t μ (up2 ν 0 0 0) := R_thr 0 h
  unfold f_X8_nextAlert f_X8_alertAt f_L_nextAlert_0_o f_X7_nextAlert
  generalize e : up2 ν 0 0 0 = ν1 at hz ⊢
  have z : ν1 0 0 = 0 := by rw [← e]; rfl
  have hz2 := hz
  obtain ⟨ht, A, T, P, F, C, N, hA, hT, hL, hK, hC, hR, hc, hJ⟩ := hz
  have hP := hL.1
  rw [hL.2.1, firstOpen_eq hL.1 (Cas_e hc), ranked_eq hL.1 hL.2.2.1, Option.bind_some, Option.bind_some]
  rcases fstS_inv ν1 P hL.1 with ⟨e1, hn⟩ | ⟨k, hk, e1, hk2, hk3⟩
  · have hq : fst1 (rkP ν1 P 0) 0 P = P := by
      rcases Nat.lt_or_ge (fst1 (rkP ν1 P 0) 0 P) P with h | h
      · have := fst1_yes (p := rkP ν1 P 0) P 0 (by omega)
        unfold rkP at this
        rw [Bool.and_eq_true] at this
        have h2 := hn _ h
        unfold rkP at h2
        rw [h2] at this
        cases this.1
      · have := fst1_le (p := rkP ν1 P 0) P 0; omega
    rw [e1, hq, if_pos rfl, if_pos rfl]
    exact ⟨1, o, 0, up2 ν1 0 0 1, rfl, rfl, rfl, rfl, fun h => absurd h (by decide), R_thr 1 hz2⟩
  · have hz0 : ∀ x, x < P → opn ν1 x = true → (rk ν1 P x = 0 ↔ x = k) := by
      intro x hx hox
      constructor
      · intro h0
        apply Classical.byContradiction
        intro hne
        have h1 := fb_ct_zero.mp h0 k hk
        rw [hk2, Bool.true_and] at h1
        rcases ahd_tot ν1 hne with h3 | h3
        · rw [hk3 x hx hox] at h3; cases h3
        · rw [h1] at h3; cases h3
      · intro hxk
        subst hxk
        apply fb_ct_zero.mpr
        intro y hy
        cases hoy : opn ν1 y
        · rfl
        · rw [hk3 y hy hoy]; rfl
    have hrk : ∀ x, nI (rk ν1 P x) = 0 ↔ rk ν1 P x = 0 := by
      intro x
      have : rk ν1 P x ≤ P := fb_ct_le _ _
      exact w_eq (b := 0) (by omega) (by omega)
    have hq : fst1 (rkP ν1 P 0) 0 P = k := by
      have hkP : rkP ν1 P 0 k = true := by
        unfold rkP
        rw [hk2, Bool.true_and, decide_eq_true ((hrk k).mpr ((hz0 k hk hk2).mpr rfl))]
      have hle : fst1 (rkP ν1 P 0) 0 P ≤ k := by
        apply Nat.le_of_not_lt
        intro hlt
        have := fst1_no (p := rkP ν1 P 0) P 0 k (by omega) hlt
        rw [hkP] at this; cases this
      have hy := fst1_yes (p := rkP ν1 P 0) P 0 (by omega)
      generalize hg : fst1 (rkP ν1 P 0) 0 P = q at hle hy ⊢
      unfold rkP at hy
      rw [Bool.and_eq_true, decide_eq_true_eq] at hy
      exact (hz0 q (by omega) hy.1).mp ((hrk q).mp hy.2)
    rw [e1, hq, if_neg (show ¬ k = P by omega), if_neg (m1_ne (by omega)), if_pos (nn_nI (by omega))]
    exact ⟨0, _, _, ν1, rfl, rfl, z, z, fun _ => rfl, hz2⟩
