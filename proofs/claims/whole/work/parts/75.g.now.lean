/-! ===== L3: ring, ringByTrying, group ===== -/
def lw (ν : Mm) (T P : Nat) (w : Int32) : Nat := fst1 (fun q => decide (nI T - w < ν 6 q)) 0 P
theorem now_in {A T P q : Nat} {μ ν : Mm} {w : Int32} (hL : Led A T P μ ν) (hT : T ≤ 800000) (hq : q < P) : (decide (nI T - w < ν 6 q) && decide (ν 6 q ≤ nI T)) = decide (lw ν T P w ≤ q) := by
  obtain ⟨m, hm, em⟩ := Led_min hL hq
  have hle : ν 6 q ≤ nI T := by rw [em, w_le (by omega) (by omega)]; exact hm
  rw [decide_eq_true hle, Bool.and_true]
  rcases Nat.lt_or_ge q (lw ν T P w) with h | h
  · rw [decide_eq_false (show ¬ lw ν T P w ≤ q by omega)]
    exact fst1_no (p := fun q => decide (nI T - w < ν 6 q)) P 0 q (by omega) h
  · rw [decide_eq_true h]
    have hy := fst1_yes (p := fun q => decide (nI T - w < ν 6 q)) P 0 (by unfold lw at h; omega)
    have hy2 : decide (nI T - w < ν 6 (lw ν T P w)) = true := hy
    rw [decide_eq_true_eq] at hy2
    rw [decide_eq_true_eq]
    have := hL.2.2.2.2 _ q h hq
    rw [lt_I] at hy2 ⊢
    omega
theorem lw_le (ν : Mm) (T P : Nat) (w : Int32) : lw ν T P w ≤ P := by
  have : lw ν T P w ≤ 0 + P := fst1_le P 0
  omega
theorem net_now {t A T P : Nat} {w : Int32} {μ ν : Mm} (hA : Acc A μ ν) (hTi : Tim t T μ ν) (hL : Led A T P μ ν) : ∃ μ', f_X1_networkNow w μ = some μ' ∧ (∀ k, k ≠ 11 → k ≠ 12 → μ' k = μ k) ∧ Net (Ed false (fun q => decide (lw ν T P w ≤ q)) (pA ν) (pB ν) P) (μ' 11) ∧ Net (Ed true (fun q => decide (lw ν T P w ≤ q)) (pA ν) (pB ν) P) (μ' 12) := by
  have hP := hL.1
  have hA20 := hA.1
  have B : ∀ q, q < P → pA ν q < 20 ∧ pB ν q < 20 ∧ ν 3 q = nI (pA ν q) ∧ ν 4 q = nI (pB ν q) := fun q hq => by
    obtain ⟨h1, h2, h3, h4, _⟩ := Led_ab hA.1 hL hq
    exact ⟨by omega, by omega, h3, h4⟩
  obtain ⟨μ', e1, e2, e3⟩ := load_eq (A := A) (w := w) (μ := μ) (x := dat ν) (lw_le ν T P w) hP (fun q hq => by
    obtain ⟨u1, u2, _⟩ := hL.2.2.2.1 q hq
    obtain ⟨b1, b2, b3, b4⟩ := B q hq
    exact ⟨u1.symm, u2.symm, _, _, b1, b2, u1.trans b3, u2.trans b4⟩)
  obtain ⟨n1, n2⟩ := nt_Net (x := dat ν) (lw_le ν T P w) B
  refine ⟨μ', ?_, e2, ⟨fun a ha b hb => ?_, n1.2⟩, ⟨fun a ha b hb => ?_, n2.2⟩⟩
  · unfold f_X1_networkNow f_X1_networkOf
    rw [hTi.2.1, show (0 : Int32) = nI 0 from rfl, first_led hL (Nat.zero_le P), Nat.sub_zero, Option.bind_some, hL.2.1]
    show ((f_X5_load_5 (nI (lw ν T P w)) (nI P) μ).bind _).bind _ = _
    rw [e1]; rfl
  · rw [(e3 a ha).1]; exact n1.1 a ha b hb
  · rw [(e3 a ha).2]; exact n2.1 a ha b hb
theorem spreadN {t A T P s : Nat} {w : Int32} {μ ν : Mm} (both : Bool) (hA : Acc A μ ν) (hTi : Tim t T μ ν) (hT : T ≤ 800000) (hL : Led A T P μ ν) (hs : s < A) :
    ∃ ν', f_X8_spreads (nI s) (ν 0 15 - 1) w (ν 0 4) (b2 both) ν = some ν' ∧ (∀ k, k ≠ 11 → ν' k = ν k) ∧ ∀ b, b < A → Far (Ed both (fun q => decide (lw ν T P w ≤ q)) (pA ν) (pB ν) P) A s b (ν' 11 b) := by
  have hP := hL.1
  rw [hL.2.2.1, hTi.2.2.1]
  refine spread_ok hA.1 hA.2.2.1 hs hP (fun i hi => ?_) (fun q hq => ?_) (fun q hq => ?_)
  · rw [lt_I, m1_int (by omega), w_int (by omega)]; omega
  · rw [isIn_eq (by omega), now_in hL hT hq]
  · obtain ⟨h1, h2, h3, h4, _⟩ := Led_ab hA.1 hL hq
    exact ⟨h1, h2, h3, h4⟩
theorem EdN {A T P : Nat} {both : Bool} {W : Nat → Bool} {μ ν : Mm} (hA : Acc A μ ν) (hL : Led A T P μ ν) : ∀ a b, Ed both W (pA ν) (pB ν) P a b → b < A := by
  intro a b h
  exact (Ed_lt (fun q hq => by
    obtain ⟨h1, h2, _⟩ := Led_ab hA.1 hL hq
    exact ⟨h1, h2⟩) h).2
theorem unfit_ok {A j : Nat} {w : Int32} {ν : Mm} (hA : A ≤ 20) (e : ν 0 3 = nI A) (hj : j < A) (hw : f_X8_isWindow w = some 1) : f_X8_isUnfit (nI j) w ν = some (0, up2 ν 0 0 0) := by
  unfold f_X8_isUnfit
  rw [isA_ok hA (by rw [thr_0 ν 0 (by omega)]; exact e) hj, hw]
  rfl
theorem unfit_w {A j : Nat} {w : Int32} {ν : Mm} (hA : A ≤ 20) (e : ν 0 3 = nI A) (hj : j < A) (hw : f_X8_isWindow w = some 0) : f_X8_isUnfit (nI j) w ν = some (1, up2 (up2 ν 0 0 0) 0 0 2) := by
  unfold f_X8_isUnfit
  rw [isA_ok hA (by rw [thr_0 ν 0 (by omega)]; exact e) hj, hw]
  rfl
theorem unfit_a {A : Nat} {a w : Int32} {ν : Mm} (hA : A ≤ 20) (e : ν 0 3 = nI A) (h : a.toInt < 0 ∨ (A : Int) ≤ a.toInt) : f_X8_isUnfit a w ν = some (1, up2 (up2 ν 0 0 0) 0 0 1) := by
  unfold f_X8_isUnfit
  rw [isA_bad hA (by rw [thr_0 ν 0 (by omega)]; exact e) h]
  rfl
theorem op_group {t : Nat} {μ ν : Mm} (a w : Int32) (o : Nat → Int64) (h : R t μ ν) : ∃ c μ' o' x ν', f_L_group_0_o a w μ o = some (c, μ', o') ∧ f_X8_group a w ν = some (x, ν') ∧ Res t c o' x μ' ν' := by
  have hz : R t μ (up2 ν 0 0 0) := R_thr 0 h
  have hz2 := hz
  have e3 : ∀ A, (up2 ν 0 0 0) 0 3 = nI A → ν 0 3 = nI A := fun A h => by rw [thr_0 ν 0 (by omega)] at h; exact h
  unfold f_X8_group f_L_group_0_o f_X7_group
  obtain ⟨ht, A, T, P, F, C, N, hA, hT, hL, hK, hC, hR, hc, hJ⟩ := hz
  have hA20 := hA.1
  have hTm : T ≤ 800000 := Nat.le_trans hT.1 ht
  rcases idx_cases a A with hb | ⟨j, hj, rfl⟩
  · rw [reqA_bad hA20 hA.2.1 hb, unfit_a hA20 (e3 A hA.2.2.1) hb]
    exact ⟨1, μ, o, 0, up2 (up2 ν 0 0 0) 0 0 1, rfl, rfl, rfl, fun h => absurd h (by decide), R_thr 1 hz2⟩
  · rw [reqA_ok hA20 hA.2.1 hj]
    rcases win_doors w with ⟨w1, w2, w3⟩ | ⟨w1, w2, w3⟩
    · rw [w2, unfit_ok hA20 (e3 A hA.2.2.1) hj w3]
      have z : (up2 ν 0 0 0) 0 0 = 0 := rfl
      generalize up2 ν 0 0 0 = ν1 at hA hT hL hK hC hR hc hJ hz2 z ⊢
      obtain ⟨μ', n1, n2, n3, n4⟩ := net_now (w := w) hA hT hL
      obtain ⟨y, g1, g2⟩ := group_val n4 (show j < 20 by omega)
      obtain ⟨ν', s1, s2, s3⟩ := spreadN (w := w) true hA hT hTm hL hj
      refine ⟨0, μ', vp_updL o (0 : Int32).toNatClampNeg (nI (pop y)).toInt64, nI (pop y), ν', ?_, ?_, by rw [s2 0 (by omega)]; exact z, fun _ => rfl, R_f11 (fun k h1 h2 _ _ => n2 k h1 h2) s2 hz2⟩
      · rw [Option.bind_some, if_pos rfl, Option.bind_some, if_pos rfl, n1, Option.bind_some, g2, Option.bind_some, Option.bind_some, if_pos rfl, chk0]
      · rw [Option.bind_some, if_pos rfl]
        unfold f_X8_reached
        have s1' : f_X8_spreads (nI j) (ν1 0 15 - 1) w (ν1 0 4) 1 ν1 = some ν' := s1
        show ((f_X8_spreads (nI j) (ν1 0 15 - 1) w (ν1 0 4) 1 ν1).bind (fun r1 => f_X8_reached_L16 r1 fuel 0 0)).bind (fun r4 => some (r4.1, r4.2)) = _
        rw [s1', Option.bind_some, reached_far hA20 (by rw [s2 0 (by omega)]; exact hA.2.2.1) s3, Option.bind_some, pop_lv hA20 (EdN hA hL) hj g1]
    · rw [w2, unfit_w hA20 (e3 A hA.2.2.1) hj w3]
      exact ⟨2, μ, o, 0, up2 (up2 ν 0 0 0) 0 0 2, rfl, rfl, rfl, fun h => absurd h (by decide), R_thr 2 hz2⟩
/-- the model's least ring by the payments below i -/
def Tr (W : Nat → Bool) (pa pb : Nat → Nat) (E : Nat → Nat → Prop) (s i : Nat) (y : Int32) : Prop := (y = 99 ∧ ∀ q, q < i → W q = true → pb q = s → ∀ k, ¬ Wk E s k (pa q)) ∨ ∃ d, d < 20 ∧ y = nI (d + 1) ∧ (∃ q, q < i ∧ W q = true ∧ pb q = s ∧ Wk E s d (pa q)) ∧ ∀ q, q < i → W q = true → pb q = s → ∀ j, j < d → ¬ Wk E s j (pa q)
theorem Tr_Sw {W : Nat → Bool} {pa pb : Nat → Nat} {s P : Nat} {y : Int32} (h : Tr W pa pb (Ed false W pa pb P) s P y) : (y = 99 ∧ Sw (Ed false W pa pb P) s s (-1)) ∨ ∃ k, 1 ≤ k ∧ k ≤ 20 ∧ y = nI k ∧ Sw (Ed false W pa pb P) s s (nI k) := by
  have back : ∀ i, 1 ≤ i → Wk (Ed false W pa pb P) s i s → ∃ j q, i = j + 1 ∧ q < P ∧ W q = true ∧ pb q = s ∧ Wk (Ed false W pa pb P) s j (pa q) := by
    intro i hi hw
    obtain ⟨j, rfl⟩ : ∃ j, i = j + 1 := ⟨i - 1, by omega⟩
    obtain ⟨a, h1, q, h2, h3, ⟨h4, h5⟩ | ⟨h4, _⟩⟩ := hw
    · rw [← h4] at h1
      exact ⟨j, q, rfl, h2, h3, h5, h1⟩
    · cases h4
  rcases h with ⟨h1, h2⟩ | ⟨d, h1, h2, ⟨q, h3, h4, h5, h6⟩, h7⟩
  · left
    refine ⟨h1, Or.inl ⟨rfl, fun i i1 _ hw => ?_⟩⟩
    obtain ⟨j, q, _, g1, g2, g3, g4⟩ := back i i1 hw
    exact h2 q g1 g2 g3 j g4
  · right
    refine ⟨d + 1, by omega, by omega, h2, Or.inr ⟨d + 1, by omega, by omega, rfl, ⟨pa q, h6, q, h3, h4, Or.inl ⟨rfl, h5⟩⟩, fun i i1 i2 hw => ?_⟩⟩
    obtain ⟨j, q, g0, g1, g2, g3, g4⟩ := back i i1 hw
    exact h7 q g1 g2 g3 j (by omega) g4
theorem ring_far {A P s : Nat} {x2 : Int32} {W : Nat → Bool} {pa pb : Nat → Nat} {E : Nat → Nat → Prop} {m : Mm} (K : Int32 → Option (Int32 × Mm)) (hA : A ≤ 20) (hP : P ≤ 200) (hs : s < A) (e15 : m 0 15 = nI P) (hW : ∀ q, q < P → f_X8_isIn (nI q) x2 (m 0 4) m = some (b2 (W q))) (hp : ∀ q, q < P → pa q < A ∧ pb q < A ∧ m 3 q = nI (pa q) ∧ m 4 q = nI (pb q))
    (hF : ∀ b, b < A → Far E A s b (m 11 b)) : ∃ y, f_X8_ring_L34 K (nI s) x2 m fuel 99 0 = K y ∧ Tr W pa pb E s P y := by
  refine up_loopR (fun f y (v : Int32) => f_X8_ring_L34 K (nI s) x2 m f v y) P K (Tr W pa pb E s) (by
    intro f v _
    show f_X8_ring_L34 K (nI s) x2 m (f + 1) v (nI P) = _
    unfold f_X8_ring_L34
    rw [e15, if_pos (by rw [w_le (by omega) (by omega)]; omega)]) ?_ P fuel 0 99 (by omega) (by unfold fuel; omega) (Or.inl ⟨rfl, fun q hq => by omega⟩)
  intro f i v hi hv
  obtain ⟨p1, p2, p3, p4⟩ := hp i hi
  show ∃ s', f_X8_ring_L34 K (nI s) x2 m (f + 1) v (nI i) = f_X8_ring_L34 K (nI s) x2 m f s' (nI (i + 1)) ∧ _
  conv => enter [1, s', 1, 1]; unfold f_X8_ring_L34
  rw [e15, if_neg (by rw [w_le (by omega) (by omega)]; omega), chk_nI (show i < 200 by omega) (by omega), hW i hi, chk_nI (show i < 200 by omega) (by omega), w_nat (show i < 2147483648 by omega), p3, p4, chk_nI (show pa i < 20 by omega) (by omega), w_nat (show pa i < 2147483648 by omega), w_succ]
  have skip : (∀ q, q < i + 1 → W q = true → pb q = s → q < i) → Tr W pa pb E s (i + 1) v := by
    intro ex
    rcases hv with ⟨h1, h2⟩ | ⟨d, h1, h2, ⟨q, h3, h4⟩, h6⟩
    · exact Or.inl ⟨h1, fun q q1 q2 q3 => h2 q (ex q q1 q2 q3) q2 q3⟩
    · exact Or.inr ⟨d, h1, h2, ⟨q, by omega, h4⟩, fun q q1 q2 q3 => h6 q (ex q q1 q2 q3) q2 q3⟩
  by_cases hb : pb i = s
  · rw [if_pos (by rw [hb]), Option.bind_some]
    cases hw : W i
    · rw [b2_f, if_pos rfl]
      refine ⟨v, rfl, skip (fun q q1 q2 q3 => ?_)⟩
      by_cases hqi : q = i
      · rw [hqi, hw] at q2; cases q2
      · omega
    · rw [b2_t, if_neg (by decide)]
      rcases hF (pa i) p1 with ⟨g1, g2⟩ | ⟨e, g1, g2, g3⟩
      · rw [g1]
        refine ⟨v, ?_, ?_⟩
        · rw [if_neg]
          show ¬ (nI 100 < v)
          rcases hv with ⟨h1, _⟩ | ⟨d, h1, h2, _⟩
          · rw [h1]; decide
          · rw [h2, w_lt (by omega) (by omega)]; omega
        · rcases hv with ⟨h1, h2⟩ | ⟨d, h1, h2, ⟨q, h3, h4⟩, h6⟩
          · refine Or.inl ⟨h1, fun q q1 q2 q3 => ?_⟩
            by_cases hqi : q = i
            · rw [hqi]; exact g2
            · exact h2 q (by omega) q2 q3
          · refine Or.inr ⟨d, h1, h2, ⟨q, by omega, h4⟩, fun q q1 q2 q3 => ?_⟩
            by_cases hqi : q = i
            · rw [hqi]; exact fun j _ => g2 j
            · exact h6 q (by omega) q2 q3
      · rw [g2, w_succ]
        rcases hv with ⟨h1, h2⟩ | ⟨d, h1, h2, ⟨q, h3, h4⟩, h6⟩
        · refine ⟨nI (e + 1), ?_, Or.inr ⟨e, by omega, rfl, ⟨i, by omega, hw, hb, g3.1⟩, fun q q1 q2 q3 => ?_⟩⟩
          · rw [h1, if_pos]; rw [e99, w_lt (by omega) (by omega)]; omega
          · by_cases hqi : q = i
            · rw [hqi]; exact g3.2
            · exact fun j _ => h2 q (by omega) q2 q3 j
        · by_cases hde : e < d
          · refine ⟨nI (e + 1), ?_, Or.inr ⟨e, by omega, rfl, ⟨i, by omega, hw, hb, g3.1⟩, fun q q1 q2 q3 => ?_⟩⟩
            · rw [h2, if_pos]; rw [w_lt (by omega) (by omega)]; omega
            · by_cases hqi : q = i
              · rw [hqi]; exact g3.2
              · exact fun j hj => h6 q (by omega) q2 q3 j (by omega)
          · refine ⟨nI (d + 1), ?_, Or.inr ⟨d, h1, rfl, ⟨q, by omega, h4⟩, fun q q1 q2 q3 => ?_⟩⟩
            · rw [h2, if_neg]; rw [w_lt (by omega) (by omega)]; omega
            · by_cases hqi : q = i
              · rw [hqi]; exact fun j hj => g3.2 j (by omega)
              · exact h6 q (by omega) q2 q3
  · rw [if_neg (by rw [w_eq (by omega) (by omega)]; exact hb)]
    refine ⟨v, rfl, skip (fun q q1 q2 q3 => ?_)⟩
    by_cases hqi : q = i
    · rw [hqi] at q3; exact absurd q3 hb
    · omega
theorem mRing {t A T P s : Nat} {w : Int32} {μ ν : Mm} (hA : Acc A μ ν) (hTi : Tim t T μ ν) (hT : T ≤ 800000) (hL : Led A T P μ ν) (hs : s < A) :
    ∃ ν', (∀ k, k ≠ 11 → ν' k = ν k) ∧ ∃ y, ((f_X8_spreads (nI s) (ν 0 15 - 1) w (ν 0 4) 0 ν).bind (fun r4 => f_X8_ring_L34 (fun (y14 : Int32) => (if (y14 : Int32) < 99 then some (y14, r4) else ((f_X8_fails 3 r4).bind (fun r16 => some (r16.1, r16.2))))) (nI s) w r4 fuel 99 0)) = (if y < 99 then some (y, ν') else some (0, up2 ν' 0 0 3)) ∧
      ((y = 99 ∧ Sw (Ed false (fun q => decide (lw ν T P w ≤ q)) (pA ν) (pB ν) P) s s (-1)) ∨ ∃ k, 1 ≤ k ∧ k ≤ 20 ∧ y = nI k ∧ Sw (Ed false (fun q => decide (lw ν T P w ≤ q)) (pA ν) (pB ν) P) s s (nI k)) := by
  have hP := hL.1
  obtain ⟨ν', s1, s2, s3⟩ := spreadN (w := w) false hA hTi hT hL hs
  have s1' : f_X8_spreads (nI s) (ν 0 15 - 1) w (ν 0 4) 0 ν = some ν' := s1
  obtain ⟨y, r1, r2⟩ := ring_far (x2 := w) (W := fun q => decide (lw ν T P w ≤ q)) (pa := pA ν) (pb := pB ν) (fun (y14 : Int32) => (if (y14 : Int32) < 99 then some (y14, ν') else ((f_X8_fails 3 ν').bind (fun r16 => some (r16.1, r16.2))))) hA.1 hP hs (by rw [s2 0 (by omega)]; exact hL.2.2.1) (fun q hq => by
    rw [isIn_cg (s2 6 (by omega)), s2 0 (by omega), hTi.2.2.1, isIn_eq (by omega), now_in hL hT hq]) (fun q hq => by
    obtain ⟨h1, h2, h3, h4, _⟩ := Led_ab hA.1 hL hq
    rw [s2 3 (by omega), s2 4 (by omega)]
    exact ⟨h1, h2, h3, h4⟩) s3
  refine ⟨ν', s2, y, ?_, Tr_Sw r2⟩
  rw [s1', Option.bind_some, r1]
  rfl
theorem op_ring {t : Nat} {μ ν : Mm} (a w : Int32) (o : Nat → Int64) (h : R t μ ν) : ∃ c μ' o' x ν', f_L_ring_0_o a w μ o = some (c, μ', o') ∧ f_X8_ring a w ν = some (x, ν') ∧ Res t c o' x μ' ν' := by
  have hz : R t μ (up2 ν 0 0 0) := R_thr 0 h
  have hz2 := hz
  have e3 : ∀ A, (up2 ν 0 0 0) 0 3 = nI A → ν 0 3 = nI A := fun A h => by rw [thr_0 ν 0 (by omega)] at h; exact h
  unfold f_X8_ring f_L_ring_0_o f_X7_ring
  obtain ⟨ht, A, T, P, F, C, N, hA, hT, hL, hK, hC, hR, hc, hJ⟩ := hz
  have hA20 := hA.1
  have hTm : T ≤ 800000 := Nat.le_trans hT.1 ht
  rcases idx_cases a A with hb | ⟨j, hj, rfl⟩
  · rw [reqA_bad hA20 hA.2.1 hb, unfit_a hA20 (e3 A hA.2.2.1) hb]
    exact ⟨1, μ, o, 0, up2 (up2 ν 0 0 0) 0 0 1, rfl, rfl, rfl, fun h => absurd h (by decide), R_thr 1 hz2⟩
  · rw [reqA_ok hA20 hA.2.1 hj]
    rcases win_doors w with ⟨w1, w2, w3⟩ | ⟨w1, w2, w3⟩
    · rw [w2, unfit_ok hA20 (e3 A hA.2.2.1) hj w3]
      have z : (up2 ν 0 0 0) 0 0 = 0 := rfl
      generalize up2 ν 0 0 0 = ν1 at hA hT hL hK hC hR hc hJ hz2 z ⊢
      obtain ⟨μ', n1, n2, n3, n4⟩ := net_now (w := w) hA hT hL
      obtain ⟨r, g2, g1⟩ := way_val n3 (show j < 20 by omega) (show j < 32 by omega)
      obtain ⟨ν', s2, y, s1, s3⟩ := mRing (w := w) hA hT hTm hL hj
      have hz3 : R t μ' ν' := R_f11 (fun k h1 h2 _ _ => n2 k h1 h2) s2 hz2
      rw [Option.bind_some, if_pos rfl, Option.bind_some, if_pos rfl, n1, Option.bind_some, g2, Option.bind_some, Option.bind_some, if_pos rfl, s1]
      unfold f_X7_requireWay
      rcases s3 with ⟨y1, y2⟩ | ⟨k, k1, k2, y1, y2⟩
      · rw [Sw_uniq g1 y2, y1]
        exact ⟨3, μ', o, 0, up2 ν' 0 0 3, rfl, rfl, rfl, fun h => absurd h (by decide), R_thr 3 hz3⟩
      · rw [Sw_uniq g1 y2, y1, if_neg (m1_ne (by omega)), if_pos (by rw [e99, w_lt (by omega) (by omega)]; omega)]
        exact ⟨0, μ', vp_updL o (0 : Int32).toNatClampNeg (nI k).toInt64, nI k, ν', rfl, rfl, by rw [s2 0 (by omega)]; exact z, fun _ => rfl, hz3⟩
    · rw [w2, unfit_w hA20 (e3 A hA.2.2.1) hj w3]
      exact ⟨2, μ, o, 0, up2 (up2 ν 0 0 0) 0 0 2, rfl, rfl, rfl, fun h => absurd h (by decide), R_thr 2 hz2⟩
theorem op_ringByTrying {t : Nat} {μ ν : Mm} (a w : Int32) (o : Nat → Int64) (h : R t μ ν) : ∃ c μ' o' x ν', f_L_ringByTrying_0_o a w μ o = some (c, μ', o') ∧ f_X8_ringByTrying a w ν = some (x, ν') ∧ Res t c o' x μ' ν' := by
  have hz : R t μ (up2 ν 0 0 0) := R_thr 0 h
  have hz2 := hz
  have e3 : ∀ A, (up2 ν 0 0 0) 0 3 = nI A → ν 0 3 = nI A := fun A h => by rw [thr_0 ν 0 (by omega)] at h; exact h
  unfold f_X8_ringByTrying f_X8_ring f_L_ringByTrying_0_o f_X7_ringByTrying
  obtain ⟨ht, A, T, P, F, C, N, hA, hT, hL, hK, hC, hR, hc, hJ⟩ := hz
  have hA20 := hA.1
  have hTm : T ≤ 800000 := Nat.le_trans hT.1 ht
  rcases idx_cases a A with hb | ⟨j, hj, rfl⟩
  · rw [reqA_bad hA20 hA.2.1 hb, unfit_a hA20 (e3 A hA.2.2.1) hb]
    exact ⟨1, μ, o, 0, up2 (up2 ν 0 0 0) 0 0 1, rfl, rfl, rfl, fun h => absurd h (by decide), R_thr 1 hz2⟩
  · rw [reqA_ok hA20 hA.2.1 hj]
    rcases win_doors w with ⟨w1, w2, w3⟩ | ⟨w1, w2, w3⟩
    · rw [w2, unfit_ok hA20 (e3 A hA.2.2.1) hj w3]
      have z : (up2 ν 0 0 0) 0 0 = 0 := rfl
      generalize up2 ν 0 0 0 = ν1 at hA hT hL hK hC hR hc hJ hz2 z ⊢
      obtain ⟨μ', n1, n2, n3, n4⟩ := net_now (w := w) hA hT hL
      obtain ⟨r, g2, g1⟩ := try_val n3 (show j < 20 by omega) (show j < 32 by omega)
      obtain ⟨ν', s2, y, s1, s3⟩ := mRing (w := w) hA hT hTm hL hj
      have hz3 : R t μ' ν' := R_f11 (fun k h1 h2 _ _ => n2 k h1 h2) s2 hz2
      rw [Option.bind_some, if_pos rfl, Option.bind_some, if_pos rfl, n1, Option.bind_some, g2, Option.bind_some, Option.bind_some, if_pos rfl, s1]
      unfold f_X7_requireWay
      rcases s3 with ⟨y1, y2⟩ | ⟨k, k1, k2, y1, y2⟩
      · rw [Sw_uniq g1 y2, y1]
        exact ⟨3, μ', o, 0, up2 ν' 0 0 3, rfl, rfl, rfl, fun h => absurd h (by decide), R_thr 3 hz3⟩
      · rw [Sw_uniq g1 y2, y1, if_neg (m1_ne (by omega)), if_pos (by rw [e99, w_lt (by omega) (by omega)]; omega)]
        exact ⟨0, μ', vp_updL o (0 : Int32).toNatClampNeg (nI k).toInt64, nI k, ν', rfl, rfl, by rw [s2 0 (by omega)]; exact z, fun _ => rfl, hz3⟩
    · rw [w2, unfit_w hA20 (e3 A hA.2.2.1) hj w3]
      exact ⟨2, μ, o, 0, up2 (up2 ν 0 0 0) 0 0 2, rfl, rfl, rfl, fun h => absurd h (by decide), R_thr 2 hz2⟩
