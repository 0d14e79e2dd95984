/-! ===== L3: conditions are joined ===== -/
theorem mJoin_eq {C : Nat} {x1 x2 x3 z : Int32} {ν : Mm} (hC : C < 30) (e : ν 0 26 = nI C) :
    (chk (nI C) 30 ((chk ((up2 ν 12 (nI C).toNatClampNeg x1) 0 26) 30 ((chk ((up2 (up2 ν 12 (nI C).toNatClampNeg x1) 13 ((up2 ν 12 (nI C).toNatClampNeg x1) 0 26).toNatClampNeg x2) 0 26) 30 ((setm (up2 (up2 (up2 ν 12 (nI C).toNatClampNeg x1) 13 ((up2 ν 12 (nI C).toNatClampNeg x1) 0 26).toNatClampNeg x2) 14 ((up2 (up2 ν 12 (nI C).toNatClampNeg x1) 13 ((up2 ν 12 (nI C).toNatClampNeg x1) 0 26).toNatClampNeg x2) 0 26).toNatClampNeg x3) (fun mm17 => (chk (mm17 0 26) 30 (some (((up2 (up2 mm17 15 (mm17 0 26).toNatClampNeg z) 0 26 (((up2 mm17 15 (mm17 0 26).toNatClampNeg z) 0 26) + 1)) 0 26) - 1, (up2 (up2 mm17 15 (mm17 0 26).toNatClampNeg z) 0 26 (((up2 mm17 15 (mm17 0 26).toNatClampNeg z) 0 26) + 1))))))))))))) =
    some (nI C, up2 (up2 (up2 (up2 (up2 ν 12 C x1) 13 C x2) 14 C x3) 15 C z) 0 26 (nI (C + 1))) := by
  unfold setm
  have eC : (nI C).toNatClampNeg = C := w_nat (by omega)
  have ck : ∀ {α : Type} (k : Option α), chk (nI C) 30 k = k := fun k => chk_nI hC (by omega)
  have rd : ∀ (m : Mm) (v : Int32), (up2 m 0 26 v) 0 26 = v := fun m v => rfl
  simp only [up2_n (k := 12) (a := 0) (by omega), up2_n (k := 13) (a := 0) (by omega), up2_n (k := 14) (a := 0) (by omega), up2_n (k := 15) (a := 0) (by omega), e, eC, ck, rd, w_succ, w_pred]
def jnM (μ : Mm) (C k a b na nb z : Nat) : Mm := up2 (up2 (up2 (kt (kt (up2 (up2 μ 20 C (nI a)) 21 C (nI b)) C 0 a na) C (0 + na) b nb) 14 C (nI k)) 15 C (nI z)) 13 12 (nI (C + 1))
theorem appendJoin_eq {C k a b na nb sa sb : Nat} {μ : Mm} (hC : C < 30) (e : μ 13 12 = nI C) (e2 : μ 22 C = 0) (ha : a < C) (hb : b < C) (ea : μ 22 a = nI na) (eb : μ 22 b = nI nb) (sa' : μ 15 a = nI sa) (sb' : μ 15 b = nI sb) (hn : na + nb ≤ 8) :
    f_X3_appendJoin (nI k) (nI a) (nI b) μ = some (nI C, jnM μ C k a b na nb (1 + sa + sb)) := by
  unfold f_X3_appendJoin
  have eC : (nI C).toNatClampNeg = C := w_nat (by omega)
  have ck : ∀ {α : Type} (k : Option α), chk (nI C) 30 k = k := fun k => chk_nI hC (by omega)
  simp only [up2_n (k := 20) (a := 13) (by omega), up2_n (k := 21) (a := 13) (by omega), e, eC, ck]
  have g1 : (kt (up2 (up2 μ 20 C (nI a)) 21 C (nI b)) C 0 a na) 22 C = nI (0 + na) := by
    show (if C = C then nI (0 + na) else μ 22 C) = _; rw [if_pos rfl]
  have g2 : (kt (up2 (up2 μ 20 C (nI a)) 21 C (nI b)) C 0 a na) 22 b = nI nb := by
    show (if b = C then nI (0 + na) else μ 22 b) = _; rw [if_neg (by omega), eb]
  rw [keepOf_eq (μ := up2 (up2 μ 20 C (nI a)) 21 C (nI b)) (n := 0) (m := na) hC ha e e2 ea (by omega), Option.bind_some,
    keepOf_eq (μ := kt (up2 (up2 μ 20 C (nI a)) 21 C (nI b)) C 0 a na) (n := 0 + na) (m := nb) hC hb e g1 g2 (by omega), Option.bind_some,
    chk_nI (show a < 30 by omega) (by omega), chk_nI (show b < 30 by omega) (by omega), w_nat (show a < 2147483648 by omega), w_nat (show b < 2147483648 by omega)]
  have f1 : (kt (kt (up2 (up2 μ 20 C (nI a)) 21 C (nI b)) C 0 a na) C (0 + na) b nb) 15 a = nI sa := sa'
  have f2 : (kt (kt (up2 (up2 μ 20 C (nI a)) 21 C (nI b)) C 0 a na) C (0 + na) b nb) 15 b = nI sb := sb'
  rw [f1, f2, finish_eq (μ := kt (kt (up2 (up2 μ 20 C (nI a)) 21 C (nI b)) C 0 a na) C (0 + na) b nb) hC e, Option.bind_some]
  rw [show (1 : Int32) = nI 1 from rfl, w_add, w_add]
  rfl
theorem jnM_lst {C k a b na nb z : Nat} {μ : Mm} (hC : C < 30) (ha : a < C) (hb : b < C) (ea : μ 22 a = nI na) (eb : μ 22 b = nI nb) (hn : na + nb ≤ 8) : lst (jnM μ C k a b na nb z) C = lst μ a ++ lst μ b := by
  have e1 : (jnM μ C k a b na nb z) 22 C = nI (na + nb) := by
    show (if C = C then nI (0 + na + nb) else _) = _; rw [if_pos rfl, Nat.zero_add]
  unfold lst
  rw [e1, ea, eb, w_nat (by omega), w_nat (by omega), w_nat (by omega), List.range_add, List.map_append, List.map_map]
  congr 1
  · apply List.map_congr_left
    intro i hi
    rw [List.mem_range] at hi
    show (if 8 * C + (0 + na) ≤ 8 * C + i ∧ 8 * C + i < 8 * C + (0 + na) + nb then _ else (if 8 * C + 0 ≤ 8 * C + i ∧ 8 * C + i < 8 * C + 0 + na then μ 23 (8 * a + (8 * C + i - (8 * C + 0))) else μ 23 (8 * C + i))) = μ 23 (8 * a + i)
    rw [if_neg (by omega), if_pos (by omega)]
    congr 1; omega
  · apply List.map_congr_left
    intro i hi
    rw [List.mem_range] at hi
    show (if 8 * C + (0 + na) ≤ 8 * C + (na + i) ∧ 8 * C + (na + i) < 8 * C + (0 + na) + nb then (if 8 * C + 0 ≤ 8 * b + (8 * C + (na + i) - (8 * C + (0 + na))) ∧ 8 * b + (8 * C + (na + i) - (8 * C + (0 + na))) < 8 * C + 0 + na then _ else μ 23 (8 * b + (8 * C + (na + i) - (8 * C + (0 + na))))) else _) = μ 23 (8 * b + i)
    rw [if_pos (by omega), if_neg (by omega)]
    congr 1; omega
theorem kt_o {μ : Mm} {C n f m a j : Nat} (hj : j ≠ C) (ha : a ≠ 23) : kt μ C n f m a j = μ a j := by
  unfold kt
  rw [if_neg ha]
  by_cases h : a = 22
  · rw [if_pos h, h]
    show (if j = C then _ else μ 22 j) = _
    rw [if_neg hj]
  · rw [if_neg h]
theorem Cnd_n {μ ν : Mm} {j : Nat} (h : Cnd μ ν j) : ∃ s n, s ≤ 15 ∧ μ 15 j = nI s ∧ ν 15 j = nI s ∧ μ 22 j = nI n ∧ 2 * n ≤ s + 1 := by
  obtain ⟨k, s, n, _, hs, _, _, e3, e4, e5, e6, _⟩ := h
  exact ⟨s, n, hs, e4, e3, e5, e6⟩
theorem lq15 {n : Nat} (h : n ≤ 15) : nI n ≤ 15 := (w_le (b := 15) (by omega) (by omega)).mpr h
theorem lr15 {n : Nat} (hn : n < 1000) (h : ¬ n ≤ 15) : ¬ nI n ≤ 15 := fun h2 => h ((w_le (b := 15) (by omega) (by omega)).mp h2)
theorem op_addBoth {t : Nat} {μ ν : Mm} (x y : Int32) (o : Nat → Int64) (h : R t μ ν) : ∃ c μ' o' w ν', f_L_addBoth_0_o x y μ o = some (c, μ', o') ∧ f_X8_addBoth x y ν = some (w, ν') ∧ Res t c o' w μ' ν' := by
  have hz : R t μ (up2 ν 0 0 0) := R_thr 0 h
  unfold f_X8_addBoth f_X8_joins f_L_addBoth_0_o f_X7_addBoth f_X7_requireJoinable
  generalize e : up2 ν 0 0 0 = ν1 at hz ⊢
  have z : ν1 0 0 = 0 := by rw [← e]; rfl
  have hz2 := hz
  obtain ⟨ht, A, T, P, F, C, N, hx⟩ := hz
  have hx2 := hx
  obtain ⟨hA, hT, hL, hK, hC, hR, hc, hJ⟩ := hx
  obtain ⟨q1, q2, q3, q4, q5, q6⟩ := id hC
  rcases idx_cases x C with hb | ⟨a, ha, rfl⟩
  · rw [reqC_bad q1 q2 hb, isC_bad q1 q3 hb]
    exact ⟨1, μ, o, 0, up2 ν1 0 0 1, rfl, rfl, rfl, fun h => absurd h (by decide), R_thr 1 hz2⟩
  rcases idx_cases y C with hb | ⟨b, hb, rfl⟩
  · rw [reqC_ok q1 q2 ha, isC_ok q1 q3 ha, reqC_bad q1 q2 hb, isC_bad q1 q3 hb]
    exact ⟨1, μ, o, 0, up2 ν1 0 0 1, rfl, rfl, rfl, fun h => absurd h (by decide), R_thr 1 hz2⟩
  obtain ⟨sa, na, a1, a2, a3, a4, a5⟩ := Cnd_n (q6 a ha)
  obtain ⟨sb, nb, b1, b2, b3, b4, b5⟩ := Cnd_n (q6 b hb)
  rw [reqC_ok q1 q2 ha, isC_ok q1 q3 ha, reqC_ok q1 q2 hb, isC_ok q1 q3 hb]
  rw [Option.bind_some, Option.bind_some, if_pos rfl, if_pos rfl, Option.bind_some, Option.bind_some, if_neg (show ¬ (1 : Int32) = 0 by decide), if_neg (show ¬ (1 : Int32) = 0 by decide), if_neg (show ¬ (1 : Int32) = 3 by decide)]
  rw [chk_nI (show a < 30 by omega) (by omega), chk_nI (show b < 30 by omega) (by omega), chk_nI (show a < 30 by omega) (by omega), chk_nI (show b < 30 by omega) (by omega), w_nat (show a < 2147483648 by omega), w_nat (show b < 2147483648 by omega), a2, a3, b2, b3]
  unfold f_X8_joins_J50 f_X7_requireSize f_X7_requireRoomForCondition
  have es : (1 : Int32) + nI sa + nI sb = nI (1 + sa + sb) := by rw [show (1 : Int32) = nI 1 from rfl, w_add, w_add]
  rw [es, q2, q3]
  by_cases hs : 1 + sa + sb ≤ 15
  · rw [if_pos (lq15 hs), if_pos (lq15 hs), Option.bind_some, if_pos rfl]
    by_cases hfull : C < 30
    · rw [if_pos (show nI C < 30 from (w_lt (b := 30) (by omega) (by omega)).mpr hfull), if_neg (show ¬ nI C = 30 from fun hh => by rw [show (30 : Int32) = nI 30 from rfl, w_eq (by omega) (by omega)] at hh; omega), Option.bind_some, if_pos rfl, Option.bind_some, if_pos rfl]
      rw [show f_X3_appendJoin 1 (nI a) (nI b) μ = f_X3_appendJoin (nI 1) (nI a) (nI b) μ from rfl, appendJoin_eq (k := 1) hfull q2 (q5 C (Nat.le_refl C)) ha hb a4 b4 a2 b2 (by omega), mJoin_eq hfull q3]
      refine ⟨0, jnM μ C 1 a b na nb (1 + sa + sb), vp_updL o (0 : Int32).toNatClampNeg (nI C).toInt64, nI C, up2 (up2 (up2 (up2 (up2 ν1 12 C 1) 13 C (nI a)) 14 C (nI b)) 15 C (nI (1 + sa + sb))) 0 26 (nI (C + 1)), rfl, rfl, z, fun _ => rfl, ht, A, T, P, F, C + 1, N, ?_⟩
      have hmm : ∀ k j, 14 ≤ k → k ≤ 22 → j ≠ C → jnM μ C 1 a b na nb (1 + sa + sb) k j = μ k j := by
        intro k j hk1 hk2 hj
        unfold jnM
        simp only [up2_o hj, up2_n (show k ≠ 13 by omega), kt_o hj (show k ≠ 23 by omega)]
      have h23 : ∀ s, s < 8 * C → jnM μ C 1 a b na nb (1 + sa + sb) 23 s = μ 23 s := by
        intro s hs
        show (if 8 * C + (0 + na) ≤ s ∧ s < 8 * C + (0 + na) + nb then _ else (if 8 * C + 0 ≤ s ∧ s < 8 * C + 0 + na then _ else μ 23 s)) = _
        rw [if_neg (by omega), if_neg (by omega)]
      refine R_addC hx2 hfull ?_ ?_ ?_ rfl rfl hmm ?_ h23 ?_ ?_
      · intro k hk
        unfold jnM kt
        simp only [up2_n (show k ≠ 13 by omega), up2_n (show k ≠ 14 by omega), up2_n (show k ≠ 15 by omega), if_neg (show ¬ k = 23 by omega), if_neg (show ¬ k = 22 by omega), up2_n (show k ≠ 20 by omega), up2_n (show k ≠ 21 by omega)]
      · intro k hk
        simp only [up2_n (show k ≠ 0 by omega), up2_n (show k ≠ 12 by omega), up2_n (show k ≠ 13 by omega), up2_n (show k ≠ 14 by omega), up2_n (show k ≠ 15 by omega)]
      · intro j hj
        show (if j = 26 then _ else ν1 0 j) = _
        rw [if_neg hj]
      · intro k j hk1 hk2 hj
        simp only [up2_o hj, up2_n (show k ≠ 0 by omega)]
      · refine ⟨a, b, by omega, by omega, ?_, ?_⟩
        · show (if C = C then _ else _) = _; rw [if_pos rfl]
        · show (if C = C then _ else _) = _; rw [if_pos rfl]
      · refine ⟨1, 1 + sa + sb, na + nb, by omega, hs, ?_, ?_, ?_, ?_, ?_, by omega, fun h => by omega, fun h => by omega, fun _ => ⟨a, b, sa, sb, ha, hb, ?_, ?_, ?_, ?_, ?_, ?_, rfl, ?_⟩⟩
        · show (if C = C then _ else _) = _; rw [if_pos rfl]; rfl
        · show (if C = C then _ else _) = _; rw [if_pos rfl]
        · show (if C = C then _ else _) = _; rw [if_pos rfl]
        · show (if C = C then _ else _) = _; rw [if_pos rfl]
        · show (if C = C then nI (0 + na + nb) else _) = _; rw [if_pos rfl, Nat.zero_add]
        · show (if C = C then _ else _) = _; rw [if_pos rfl]
        · show (if C = C then _ else _) = _; rw [if_pos rfl]
        · show (if C = C then _ else _) = _; rw [if_pos rfl]
        · show (if C = C then _ else _) = _; rw [if_pos rfl]
        · show (if a = C then _ else ν1 15 a) = _; rw [if_neg (by omega), a3]
        · show (if b = C then _ else ν1 15 b) = _; rw [if_neg (by omega), b3]
        · rw [jnM_lst hfull ha hb a4 b4 (by omega), lst_st ha (by omega) a4 (by omega) (hmm 22 a (by omega) (by omega) (by omega)) h23, lst_st hb (by omega) b4 (by omega) (hmm 22 b (by omega) (by omega) (by omega)) h23]
    · have hC30 : C = 30 := by omega
      subst hC30
      exact ⟨3, μ, o, 0, up2 ν1 0 0 3, rfl, rfl, rfl, fun h => absurd h (by decide), R_thr 3 hz2⟩
  · rw [if_neg (lr15 (by omega) hs), if_neg (lr15 (by omega) hs)]
    exact ⟨2, μ, o, 0, up2 ν1 0 0 2, rfl, rfl, rfl, fun h => absurd h (by decide), R_thr 2 hz2⟩
theorem op_addEither {t : Nat} {μ ν : Mm} (x y : Int32) (o : Nat → Int64) (h : R t μ ν) : ∃ c μ' o' w ν', f_L_addEither_0_o x y μ o = some (c, μ', o') ∧ f_X8_addEither x y ν = some (w, ν') ∧ Res t c o' w μ' ν' := by
  have hz : R t μ (up2 ν 0 0 0) := R_thr 0 h
  unfold f_X8_addEither f_X8_joins f_L_addEither_0_o f_X7_addEither f_X7_requireJoinable
  generalize e : up2 ν 0 0 0 = ν1 at hz ⊢
  have z : ν1 0 0 = 0 := by rw [← e]; rfl
  have hz2 := hz
  obtain ⟨ht, A, T, P, F, C, N, hx⟩ := hz
  have hx2 := hx
  obtain ⟨hA, hT, hL, hK, hC, hR, hc, hJ⟩ := hx
  obtain ⟨q1, q2, q3, q4, q5, q6⟩ := id hC
  rcases idx_cases x C with hb | ⟨a, ha, rfl⟩
  · rw [reqC_bad q1 q2 hb, isC_bad q1 q3 hb]
    exact ⟨1, μ, o, 0, up2 ν1 0 0 1, rfl, rfl, rfl, fun h => absurd h (by decide), R_thr 1 hz2⟩
  rcases idx_cases y C with hb | ⟨b, hb, rfl⟩
  · rw [reqC_ok q1 q2 ha, isC_ok q1 q3 ha, reqC_bad q1 q2 hb, isC_bad q1 q3 hb]
    exact ⟨1, μ, o, 0, up2 ν1 0 0 1, rfl, rfl, rfl, fun h => absurd h (by decide), R_thr 1 hz2⟩
  obtain ⟨sa, na, a1, a2, a3, a4, a5⟩ := Cnd_n (q6 a ha)
  obtain ⟨sb, nb, b1, b2, b3, b4, b5⟩ := Cnd_n (q6 b hb)
  rw [reqC_ok q1 q2 ha, isC_ok q1 q3 ha, reqC_ok q1 q2 hb, isC_ok q1 q3 hb]
  rw [Option.bind_some, Option.bind_some, if_pos rfl, if_pos rfl, Option.bind_some, Option.bind_some, if_neg (show ¬ (1 : Int32) = 0 by decide), if_neg (show ¬ (1 : Int32) = 0 by decide), if_neg (show ¬ (2 : Int32) = 3 by decide)]
  rw [chk_nI (show a < 30 by omega) (by omega), chk_nI (show b < 30 by omega) (by omega), chk_nI (show a < 30 by omega) (by omega), chk_nI (show b < 30 by omega) (by omega), w_nat (show a < 2147483648 by omega), w_nat (show b < 2147483648 by omega), a2, a3, b2, b3]
  unfold f_X8_joins_J50 f_X7_requireSize f_X7_requireRoomForCondition
  have es : (1 : Int32) + nI sa + nI sb = nI (1 + sa + sb) := by rw [show (1 : Int32) = nI 1 from rfl, w_add, w_add]
  rw [es, q2, q3]
  by_cases hs : 1 + sa + sb ≤ 15
  · rw [if_pos (lq15 hs), if_pos (lq15 hs), Option.bind_some, if_pos rfl]
    by_cases hfull : C < 30
    · rw [if_pos (show nI C < 30 from (w_lt (b := 30) (by omega) (by omega)).mpr hfull), if_neg (show ¬ nI C = 30 from fun hh => by rw [show (30 : Int32) = nI 30 from rfl, w_eq (by omega) (by omega)] at hh; omega), Option.bind_some, if_pos rfl, Option.bind_some, if_pos rfl]
      rw [show f_X3_appendJoin 2 (nI a) (nI b) μ = f_X3_appendJoin (nI 2) (nI a) (nI b) μ from rfl, appendJoin_eq (k := 2) hfull q2 (q5 C (Nat.le_refl C)) ha hb a4 b4 a2 b2 (by omega), mJoin_eq hfull q3]
      refine ⟨0, jnM μ C 2 a b na nb (1 + sa + sb), vp_updL o (0 : Int32).toNatClampNeg (nI C).toInt64, nI C, up2 (up2 (up2 (up2 (up2 ν1 12 C 2) 13 C (nI a)) 14 C (nI b)) 15 C (nI (1 + sa + sb))) 0 26 (nI (C + 1)), rfl, rfl, z, fun _ => rfl, ht, A, T, P, F, C + 1, N, ?_⟩
      have hmm : ∀ k j, 14 ≤ k → k ≤ 22 → j ≠ C → jnM μ C 2 a b na nb (1 + sa + sb) k j = μ k j := by
        intro k j hk1 hk2 hj
        unfold jnM
        simp only [up2_o hj, up2_n (show k ≠ 13 by omega), kt_o hj (show k ≠ 23 by omega)]
      have h23 : ∀ s, s < 8 * C → jnM μ C 2 a b na nb (1 + sa + sb) 23 s = μ 23 s := by
        intro s hs
        show (if 8 * C + (0 + na) ≤ s ∧ s < 8 * C + (0 + na) + nb then _ else (if 8 * C + 0 ≤ s ∧ s < 8 * C + 0 + na then _ else μ 23 s)) = _
        rw [if_neg (by omega), if_neg (by omega)]
      refine R_addC hx2 hfull ?_ ?_ ?_ rfl rfl hmm ?_ h23 ?_ ?_
      · intro k hk
        unfold jnM kt
        simp only [up2_n (show k ≠ 13 by omega), up2_n (show k ≠ 14 by omega), up2_n (show k ≠ 15 by omega), if_neg (show ¬ k = 23 by omega), if_neg (show ¬ k = 22 by omega), up2_n (show k ≠ 20 by omega), up2_n (show k ≠ 21 by omega)]
      · intro k hk
        simp only [up2_n (show k ≠ 0 by omega), up2_n (show k ≠ 12 by omega), up2_n (show k ≠ 13 by omega), up2_n (show k ≠ 14 by omega), up2_n (show k ≠ 15 by omega)]
      · intro j hj
        show (if j = 26 then _ else ν1 0 j) = _
        rw [if_neg hj]
      · intro k j hk1 hk2 hj
        simp only [up2_o hj, up2_n (show k ≠ 0 by omega)]
      · refine ⟨a, b, by omega, by omega, ?_, ?_⟩
        · show (if C = C then _ else _) = _; rw [if_pos rfl]
        · show (if C = C then _ else _) = _; rw [if_pos rfl]
      · refine ⟨2, 1 + sa + sb, na + nb, by omega, hs, ?_, ?_, ?_, ?_, ?_, by omega, fun h => by omega, fun h => by omega, fun _ => ⟨a, b, sa, sb, ha, hb, ?_, ?_, ?_, ?_, ?_, ?_, rfl, ?_⟩⟩
        · show (if C = C then _ else _) = _; rw [if_pos rfl]; rfl
        · show (if C = C then _ else _) = _; rw [if_pos rfl]
        · show (if C = C then _ else _) = _; rw [if_pos rfl]
        · show (if C = C then _ else _) = _; rw [if_pos rfl]
        · show (if C = C then nI (0 + na + nb) else _) = _; rw [if_pos rfl, Nat.zero_add]
        · show (if C = C then _ else _) = _; rw [if_pos rfl]
        · show (if C = C then _ else _) = _; rw [if_pos rfl]
        · show (if C = C then _ else _) = _; rw [if_pos rfl]
        · show (if C = C then _ else _) = _; rw [if_pos rfl]
        · show (if a = C then _ else ν1 15 a) = _; rw [if_neg (by omega), a3]
        · show (if b = C then _ else ν1 15 b) = _; rw [if_neg (by omega), b3]
        · rw [jnM_lst hfull ha hb a4 b4 (by omega), lst_st ha (by omega) a4 (by omega) (hmm 22 a (by omega) (by omega) (by omega)) h23, lst_st hb (by omega) b4 (by omega) (hmm 22 b (by omega) (by omega) (by omega)) h23]
    · have hC30 : C = 30 := by omega
      subst hC30
      exact ⟨3, μ, o, 0, up2 ν1 0 0 3, rfl, rfl, rfl, fun h => absurd h (by decide), R_thr 3 hz2⟩
  · rw [if_neg (lr15 (by omega) hs), if_neg (lr15 (by omega) hs)]
    exact ⟨2, μ, o, 0, up2 ν1 0 0 2, rfl, rfl, rfl, fun h => absurd h (by decide), R_thr 2 hz2⟩
def ntM (μ : Mm) (C a z : Nat) : Mm := up2 (up2 (up2 (up2 μ 20 C (nI a)) 14 C (nI 3)) 15 C (nI z)) 13 12 (nI (C + 1))
theorem op_addNot {t : Nat} {μ ν : Mm} (x : Int32) (o : Nat → Int64) (h : R t μ ν) : ∃ c μ' o' w ν', f_L_addNot_0_o x μ o = some (c, μ', o') ∧ f_X8_addNot x ν = some (w, ν') ∧ Res t c o' w μ' ν' := by
  have hz : R t μ (up2 ν 0 0 0) := R_thr 0 h
  unfold f_X8_addNot f_X8_joins f_L_addNot_0_o f_X7_addNot
  generalize e : up2 ν 0 0 0 = ν1 at hz ⊢
  have z : ν1 0 0 = 0 := by rw [← e]; rfl
  have hz2 := hz
  obtain ⟨ht, A, T, P, F, C, N, hx⟩ := hz
  have hx2 := hx
  obtain ⟨hA, hT, hL, hK, hC, hR, hc, hJ⟩ := hx
  obtain ⟨q1, q2, q3, q4, q5, q6⟩ := id hC
  rcases idx_cases x C with hb | ⟨a, ha, rfl⟩
  · rw [reqC_bad q1 q2 hb, isC_bad q1 q3 hb]
    exact ⟨1, μ, o, 0, up2 ν1 0 0 1, rfl, rfl, rfl, fun h => absurd h (by decide), R_thr 1 hz2⟩
  obtain ⟨sa, na, a1, a2, a3, a4, a5⟩ := Cnd_n (q6 a ha)
  rw [reqC_ok q1 q2 ha, isC_ok q1 q3 ha]
  rw [Option.bind_some, Option.bind_some, if_pos rfl, Option.bind_some, if_neg (show ¬ (1 : Int32) = 0 by decide), if_neg (show ¬ (1 : Int32) = 0 by decide), if_pos rfl]
  rw [chk_nI (show a < 30 by omega) (by omega), chk_nI (show a < 30 by omega) (by omega), w_nat (show a < 2147483648 by omega), a2, a3]
  unfold f_X8_joins_J50 f_X7_requireSize f_X7_requireRoomForCondition
  have es : (1 : Int32) + nI sa = nI (1 + sa) := by rw [show (1 : Int32) = nI 1 from rfl, w_add]
  rw [es, Int32.add_zero, q2, q3]
  by_cases hs : 1 + sa ≤ 15
  · rw [if_pos (lq15 hs), if_pos (lq15 hs), Option.bind_some, if_pos rfl]
    by_cases hfull : C < 30
    · rw [if_pos (show nI C < 30 from (w_lt (b := 30) (by omega) (by omega)).mpr hfull), if_neg (show ¬ nI C = 30 from fun hh => by rw [show (30 : Int32) = nI 30 from rfl, w_eq (by omega) (by omega)] at hh; omega), Option.bind_some, if_pos rfl]
      have ap : f_X3_appendNot (nI a) μ = some (nI C, ntM μ C a (1 + sa)) := by
        unfold f_X3_appendNot
        have eC : (nI C).toNatClampNeg = C := w_nat (by omega)
        have f1 : (up2 μ 20 C (nI a)) 15 a = nI sa := a2
        rw [q2, chk_nI hfull (by omega), chk_nI (show a < 30 by omega) (by omega), eC, w_nat (show a < 2147483648 by omega), f1, finish_eq (μ := up2 μ 20 C (nI a)) hfull q2, Option.bind_some, es]
        rfl
      rw [ap, mJoin_eq hfull q3]
      refine ⟨0, ntM μ C a (1 + sa), vp_updL o (0 : Int32).toNatClampNeg (nI C).toInt64, nI C, up2 (up2 (up2 (up2 (up2 ν1 12 C 3) 13 C (nI a)) 14 C (nI a)) 15 C (nI (1 + sa))) 0 26 (nI (C + 1)), rfl, rfl, z, fun _ => rfl, ht, A, T, P, F, C + 1, N, ?_⟩
      have hmm : ∀ k j, 14 ≤ k → k ≤ 22 → j ≠ C → ntM μ C a (1 + sa) k j = μ k j := by
        intro k j hk1 hk2 hj
        unfold ntM
        simp only [up2_o hj, up2_n (show k ≠ 13 by omega)]
      refine R_addC hx2 hfull ?_ ?_ ?_ rfl rfl hmm ?_ (fun s _ => rfl) ?_ ?_
      · intro k hk
        unfold ntM
        simp only [up2_n (show k ≠ 13 by omega), up2_n (show k ≠ 14 by omega), up2_n (show k ≠ 15 by omega), up2_n (show k ≠ 20 by omega)]
      · intro k hk
        simp only [up2_n (show k ≠ 0 by omega), up2_n (show k ≠ 12 by omega), up2_n (show k ≠ 13 by omega), up2_n (show k ≠ 14 by omega), up2_n (show k ≠ 15 by omega)]
      · intro j hj
        show (if j = 26 then _ else ν1 0 j) = _
        rw [if_neg hj]
      · intro k j hk1 hk2 hj
        simp only [up2_o hj, up2_n (show k ≠ 0 by omega)]
      · obtain ⟨_, b, _, hb, _, e21⟩ := q4 C hfull
        refine ⟨a, b, by omega, hb, ?_, e21⟩
        show (if C = C then _ else _) = _; rw [if_pos rfl]
      · have e22 : (ntM μ C a (1 + sa)) 22 C = nI 0 := q5 C (Nat.le_refl C)
        refine ⟨3, 1 + sa, 0, by omega, hs, ?_, ?_, ?_, ?_, e22, by omega, fun h => by omega, fun _ => ⟨?_, a, sa, ha, ?_, ?_, ?_, rfl⟩, fun h => by omega⟩
        · show (if C = C then _ else _) = _; rw [if_pos rfl]; rfl
        · show (if C = C then _ else _) = _; rw [if_pos rfl]
        · show (if C = C then _ else _) = _; rw [if_pos rfl]
        · show (if C = C then _ else _) = _; rw [if_pos rfl]
        · unfold lst; rw [e22]; rfl
        · show (if C = C then _ else _) = _; rw [if_pos rfl]
        · show (if C = C then _ else _) = _; rw [if_pos rfl]
        · show (if a = C then _ else ν1 15 a) = _; rw [if_neg (by omega), a3]
    · have hC30 : C = 30 := by omega
      subst hC30
      exact ⟨3, μ, o, 0, up2 ν1 0 0 3, rfl, rfl, rfl, fun h => absurd h (by decide), R_thr 3 hz2⟩
  · rw [if_neg (lr15 (by omega) hs), if_neg (lr15 (by omega) hs)]
    exact ⟨2, μ, o, 0, up2 ν1 0 0 2, rfl, rfl, rfl, fun h => absurd h (by decide), R_thr 2 hz2⟩
