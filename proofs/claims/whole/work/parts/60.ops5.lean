/-! ===== L3: rules, conditions ===== -/
theorem Jud1_N {C N p : Nat} {μ ν μ' ν' : Mm} (hC30 : C ≤ 30) (hc : ∀ j, j < C → Cnd μ ν j) (hs : Sst C p ν ν') (hN : ∀ r, r < N → rcN ν r < C) (hr : ∀ r, r < N → ν' 20 r = ν 20 r)
    (h7 : ν' 7 p = ν 7 p) (h8 : ν' 8 p = ν 8 p) (h32 : μ' 32 p = μ 32 p) (h33 : μ' 33 p = μ 33 p) (h34 : ∀ c, c < 30 → μ' 34 (30 * p + c) = μ 34 (30 * p + c)) (h : Jud1 C N μ ν p) : Jud1 C (N + 1) μ' ν' p := by
  obtain ⟨k, hk, j1, j2, j3, j4⟩ := Jud1_st hC30 (Nat.le_refl C) hc hs hN hr h7 h8 h32 h33 h34 h
  refine ⟨k, hk, fun i hi => j1 i (by omega), ?_, ?_, j4⟩
  · intro r hr2
    rcases Nat.lt_or_ge r N with h | h
    · exact j2 r h
    · obtain ⟨d1, d2⟩ := j1 r h
      rw [d1, d2]; rfl
  · intro r hr2
    rcases Nat.lt_or_ge r N with h | h
    · exact j3 r h
    · rw [(j1 r h).2]; intro h2; cases h2
theorem op_addRule {t : Nat} {μ ν : Mm} (a x : Int32) (o : Nat → Int64) (h : R t μ ν) : ∃ c μ' o' w ν', f_L_addRule_0_o a x μ o = some (c, μ', o') ∧ f_X8_addRule a x ν = some (w, ν') ∧ Res t c o' w μ' ν' := by
  have hz : R t μ (up2 ν 0 0 0) := R_thr 0 h
  unfold f_X8_addRule f_L_addRule_0_o f_X7_addRule
  generalize e : up2 ν 0 0 0 = ν1 at hz ⊢
  have z : ν1 0 0 = 0 := by rw [← e]; rfl
  have hz2 := hz
  obtain ⟨ht, A, T, P, F, C, N, hA, hT, hL, hK, hC, hR, hc, hJ⟩ := hz
  rcases idx_cases a C with hb | ⟨j, hj, rfl⟩
  · rw [reqC_bad hC.1 hC.2.1 hb, isC_bad hC.1 hC.2.2.1 hb]
    exact ⟨1, μ, o, 0, up2 ν1 0 0 1, rfl, rfl, rfl, fun h => absurd h (by decide), R_thr 1 hz2⟩
  rw [reqC_ok hC.1 hC.2.1 hj, isC_ok hC.1 hC.2.2.1 hj, btwI]
  simp only [Option.bind_some, show ¬ ((1 : Int32) = 0) by decide, if_false, if_true]
  rcases span_cases x 1 100 (by decide) with ⟨h1, h2⟩ | ⟨h1, h2, h3⟩ | ⟨h1, h2, h3⟩
  · rw [if_pos h1, decide_eq_false h2]
    exact ⟨2, μ, o, 0, up2 ν1 0 0 2, rfl, rfl, rfl, fun h => absurd h (by decide), R_thr 2 hz2⟩
  · rw [if_neg h1, if_pos h2, decide_eq_true h3]
    rw [show ((1 : Int32).toInt = 1) from rfl, show ((100 : Int32).toInt = 100) from rfl] at h3
    obtain ⟨n, hn1, hn2, rfl⟩ : ∃ n, 1 ≤ n ∧ n ≤ 100 ∧ x = nI n := ⟨x.toInt.toNat, by omega, by omega, w_inj (by omega)⟩
    obtain ⟨n1, n2, n3, n4, n5, n6⟩ := id hR
    simp only [Option.bind_some, b2_t, show ¬ ((1 : Int32) = 0) by decide, if_false, n2, n3]
    by_cases hf : N < 12
    · rw [if_pos (show nI N < 12 from (w_lt (b := 12) (by omega) (by omega)).mpr hf), if_neg (show ¬ nI N = 12 from fun hh => by rw [show (12 : Int32) = nI 12 from rfl, w_eq (by omega) (by omega)] at hh; omega)]
      unfold f_X6_append setm
      have eN : (nI N).toNatClampNeg = N := w_nat (by omega)
      simp only [n2, n3, eN, show (up2 μ 27 N (nI j)) 26 3 = μ 26 3 from rfl, show (up2 ν1 20 N (nI j)) 0 29 = ν1 0 29 from rfl, show (up2 (up2 μ 27 N (nI j)) 28 N (nI n)) 26 3 = μ 26 3 from rfl, show (up2 (up2 μ 27 N (nI j)) 28 N (nI n)) 26 2 = μ 26 2 from rfl, show (up2 (up2 ν1 20 N (nI j)) 21 N (nI n)) 0 30 = ν1 0 30 from rfl, show (up2 (up2 ν1 20 N (nI j)) 21 N (nI n)) 0 29 = ν1 0 29 from rfl, chk_nI hf (show 12 < 2147483648 by omega), n4, withBit1, with1, Option.bind_some]
      refine ⟨0, up2 (up2 (up2 (up2 μ 27 N (nI j)) 28 N (nI n)) 26 2 (sb (ν1 0 30) N true)) 26 3 (nI N + 1), vp_updL o (0 : Int32).toNatClampNeg (nI N).toInt64, nI N, up2 (up2 (up2 (up2 ν1 20 N (nI j)) 21 N (nI n)) 0 30 (sb (ν1 0 30) N true)) 0 29 (nI N + 1), ?_, ?_, z, fun _ => rfl, ?_⟩
      · have e3 : (up2 (up2 (up2 μ 27 N (nI j)) 28 N (nI n)) 26 2 (sb (ν1 0 30) N true)) 26 3 = nI N := n2
        rw [e3]; rfl
      · have e3 : (up2 (up2 (up2 ν1 20 N (nI j)) 21 N (nI n)) 0 30 (sb (ν1 0 30) N true)) 0 29 = nI N := n3
        rw [e3]
        show some (nI N + 1 - 1, _) = _
        rw [w_succ, w_pred]
      · have er : ∀ r, r < N → (up2 (up2 (up2 (up2 ν1 20 N (nI j)) 21 N (nI n)) 0 30 (sb (ν1 0 30) N true)) 0 29 (nI N + 1)) 20 r = ν1 20 r := by
          intro r hr
          show (if r = N then nI j else ν1 20 r) = _
          rw [if_neg (by omega)]
        refine ⟨ht, A, T, P, F, C, N + 1, hA, hT, hL, hK, hC, ⟨by omega, w_succ N, w_succ N, rfl, ?_, ?_⟩, ?_, ?_⟩
        · intro i hi
          show bt (sb (ν1 0 30) N true) i = false
          rcases Nat.lt_or_ge i 32 with h32 | h32
          · rw [bt_sb _ _ (by omega) h32, if_neg (by omega)]; exact n5 i (by omega)
          · exact b_big h32
        · intro r hr
          show ∃ c w, c < C ∧ 1 ≤ w ∧ w ≤ 100 ∧ (if r = N then nI j else μ 27 r) = nI c ∧ (if r = N then nI j else ν1 20 r) = nI c ∧ (if r = N then nI n else μ 28 r) = nI w ∧ (if r = N then nI n else ν1 21 r) = nI w
          by_cases hrn : r = N
          · simp only [if_pos hrn]
            exact ⟨j, n, hj, hn1, hn2, rfl, rfl, rfl, rfl⟩
          · simp only [if_neg hrn]
            exact n6 r (by omega)
        · refine ⟨hc.1, fun p hp => ?_⟩
          obtain ⟨d1, d2, d3, d4⟩ := hc.2 p hp
          refine ⟨d1, d2, d3, ?_⟩
          show μ 30 p = fo _ 0 (N + 1) 0
          rw [fo_succ, d4, Nat.zero_add]
          obtain ⟨_, _, j1, _⟩ := hJ p hp
          show _ = (if bt (μ 32 p) N = true then _ else _)
          rw [if_neg (by rw [(j1 N (Nat.le_refl N)).2]; simp)]
          apply fo_congr
          intro q _ hq s
          show wgS ν1 (μ 32 p) q s = (if bt (μ 32 p) q = true then s + (if q = N then nI n else ν1 21 q) else s)
          rw [if_neg (show ¬ q = N by omega)]; rfl
        · intro p hp
          exact Jud1_N hC.1 hC.2.2.2.2.2 ⟨fun j _ => ⟨rfl, rfl, rfl, rfl, rfl, rfl, rfl⟩, Sst_cut (fun q _ => ⟨rfl, rfl, rfl, rfl, rfl, rfl⟩)⟩ (fun r hr => Rul_rc hC.1 hR hr) er rfl rfl rfl rfl (fun c _ => rfl) (hJ p hp)
    · have hN12 : N = 12 := by omega
      subst hN12
      exact ⟨3, μ, o, 0, up2 ν1 0 0 3, rfl, rfl, rfl, fun h => absurd h (by decide), R_thr 3 hz2⟩
  · rw [if_neg h1, if_neg h2, decide_eq_false h3]
    exact ⟨2, μ, o, 0, up2 ν1 0 0 2, rfl, rfl, rfl, fun h => absurd h (by decide), R_thr 2 hz2⟩
