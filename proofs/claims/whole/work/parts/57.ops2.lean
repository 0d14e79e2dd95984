/-! ===== L3: loops that find and count; open, pass, decide, addRule ===== -/
theorem first_eq {P i : Nat} {x1 : Int32} {μ : Mm} (hP : P ≤ 200) (e : μ 5 4 = nI P) (hi : i ≤ P) : f_X4_firstAfter x1 (nI i) μ = some (nI (fst1 (fun q => decide (x1 < μ 9 q)) i (P - i))) := by
  unfold f_X4_firstAfter
  refine find_loop (fun n x => f_X4_firstAfter_L2 (fun (y4 : Int32) => some y4) x1 μ n x) P (fun q => some (nI q)) (fun q => decide (x1 < μ 9 q)) ?_ ?_ (P - i) fuel i (by omega) (by unfold fuel; omega)
  · intro n
    show f_X4_firstAfter_L2 _ x1 μ (n + 1) (nI P) = _
    unfold f_X4_firstAfter_L2
    rw [e, if_pos (by rw [w_le (by omega) (by omega)]; omega)]
  · intro n q hq
    show f_X4_firstAfter_L2 _ x1 μ (n + 1) (nI q) = _
    conv => lhs; unfold f_X4_firstAfter_L2
    rw [e, if_neg (by rw [w_le (by omega) (by omega)]; omega), chk_nI (show q < 200 by omega) (by omega), w_nat (by omega), w_succ]
    simp only [decide_eq_true_eq]
theorem fo_ct (p : Nat → Bool) : ∀ (m : Nat), fo (fun q (s : Int32) => if p q = true then s + 1 else s) 0 m 0 = nI (fb_ct p m)
  | 0 => rfl
  | m + 1 => by
    rw [fo_succ, fo_ct p m, fb_ct_succ, Nat.zero_add]
    cases p m
    · rfl
    · simp [w_succ]
theorem many_eq {P : Nat} {v : Int32} {ν : Mm} (hP : P ≤ 200) (e : ν 0 15 = nI P) : f_X8_many v ν = some (nI (fb_ct (fun p => decide (ν 10 p = v)) P)) := by
  unfold f_X8_many
  rw [← fo_ct]
  refine up_loop' (fun n x s => f_X8_many_L4 v ν n s x) P (fun s => some s) _ ?_ ?_ P fuel 0 0 (by omega) (by unfold fuel; omega)
  · intro n s
    show f_X8_many_L4 v ν (n + 1) s (nI P) = _
    unfold f_X8_many_L4
    rw [e, if_pos (by rw [w_le (by omega) (by omega)]; omega)]
  · intro n q s hq
    show f_X8_many_L4 v ν (n + 1) s (nI q) = _
    conv => lhs; unfold f_X8_many_L4
    rw [e, if_neg (by rw [w_le (by omega) (by omega)]; omega), chk_nI (show q < 200 by omega) (by omega), w_nat (by omega), w_succ]
    by_cases h : ν 10 q = v
    · rw [if_pos h, if_pos (by simpa using h)]
    · rw [if_neg h, if_neg (by simpa using h), Int32.add_zero]
theorem op_openAlerts {t : Nat} {μ ν : Mm} (h : R t μ ν) : ∃ w ν', f_X7_openAlerts μ = some w ∧ f_X8_openAlerts ν = some (w, ν') ∧ R t μ ν' := by
  have hz : R t μ (up2 ν 0 0 0) := R_thr 0 h
  unfold f_X7_openAlerts f_X8_openAlerts
  generalize e : up2 ν 0 0 0 = ν1 at hz ⊢
  have hz2 := hz
  obtain ⟨ht, A, T, P, F, C, N, hA, hT, hL, hK, hC, hR, hc, hJ⟩ := hz
  exact ⟨_, ν1, rfl, by rw [many_eq hL.1 hL.2.2.1, hc.1]; rfl, hz2⟩
theorem op_turnover {t : Nat} {μ ν : Mm} (h : R t μ ν) : ∃ w ν', f_X7_turnover μ = some w ∧ f_X8_turnover ν = some (w, ν') ∧ R t μ ν' := by
  have hz : R t μ (up2 ν 0 0 0) := R_thr 0 h
  unfold f_X7_turnover f_X8_turnover
  generalize e : up2 ν 0 0 0 = ν1 at hz ⊢
  have hz2 := hz
  obtain ⟨ht, A, T, P, F, C, N, hA, hT, ⟨b1, b2, b3, b4, b5⟩, hK, hC, hR, hc, hJ⟩ := hz
  refine ⟨fo (fun q s => s + (μ 8 q).toInt64) 0 P 0, ν1, ?_, ?_, hz2⟩
  · refine up_loop' (fun n x s => f_X7_turnover_L4 μ n s x) P (fun s => some s) _ ?_ ?_ P fuel 0 0 (by omega) (by unfold fuel; omega)
    · intro n s
      show f_X7_turnover_L4 μ (n + 1) s (nI P) = _
      unfold f_X7_turnover_L4
      rw [b2, if_pos (by rw [w_le (by omega) (by omega)]; omega)]
    · intro n q s hq
      show f_X7_turnover_L4 μ (n + 1) s (nI q) = _
      conv => lhs; unfold f_X7_turnover_L4
      rw [b2, if_neg (by rw [w_le (by omega) (by omega)]; omega), chk_nI (show q < 200 by omega) (by omega), w_nat (by omega), w_succ]
  · rw [fo_congr (h := fun q s => s + (ν1 5 q).toInt64) P 0 0 (fun q _ hq b => by rw [(b4 q (by omega)).2.2.1])]
    refine up_loop' (fun n x s => f_X8_turnover_L9 ν1 n s x) P (fun s => some (s, ν1)) _ ?_ ?_ P fuel 0 0 (by omega) (by unfold fuel; omega)
    · intro n s
      show f_X8_turnover_L9 ν1 (n + 1) s (nI P) = _
      unfold f_X8_turnover_L9
      rw [b3, if_pos (by rw [w_le (by omega) (by omega)]; omega)]
    · intro n q s hq
      show f_X8_turnover_L9 ν1 (n + 1) s (nI q) = _
      conv => lhs; unfold f_X8_turnover_L9
      rw [b3, if_neg (by rw [w_le (by omega) (by omega)]; omega), chk_nI (show q < 200 by omega) (by omega), w_nat (by omega), w_succ]
/-- the payments decided as v with a score of at least b -/
def dcd (ν : Mm) (v b : Int32) (q : Nat) : Bool := decide (ν 10 q = v) && !decide (ν 9 q < b)
theorem decided_eq {P : Nat} {v b : Int32} {ν : Mm} (hP : P ≤ 200) (e : ν 0 15 = nI P) : f_X8_decided v b ν = some (nI (fb_ct (dcd ν v b) P)) := by
  unfold f_X8_decided
  rw [← fo_ct]
  refine up_loop' (fun n x s => f_X8_decided_L5 v b ν n s x) P (fun s => some s) _ ?_ ?_ P fuel 0 0 (by omega) (by unfold fuel; omega)
  · intro n s
    show f_X8_decided_L5 v b ν (n + 1) s (nI P) = _
    unfold f_X8_decided_L5
    rw [e, if_pos (by rw [w_le (by omega) (by omega)]; omega)]
  · intro n q s hq
    show f_X8_decided_L5 v b ν (n + 1) s (nI q) = _
    conv => lhs; unfold f_X8_decided_L5
    rw [e, if_neg (by rw [w_le (by omega) (by omega)]; omega), chk_nI (show q < 200 by omega) (by omega), w_nat (by omega), w_succ]
    unfold dcd
    by_cases h : ν 10 q = v
    · rw [if_pos h, chk_nI (show q < 200 by omega) (by omega)]
      by_cases h2 : ν 9 q < b
      · rw [if_pos h2, if_neg (by simp [h2]), Int32.add_zero]
      · rw [if_neg h2, if_pos (by simp [h, h2])]
    · rw [if_neg h, if_neg (by simp [h]), Int32.add_zero]
theorem countD_eq {P : Nat} {v b : Int32} {μ ν : Mm} (hP : P ≤ 200) (e : μ 5 4 = nI P) (hc : ∀ p, p < P → μ 31 p = ν 10 p ∧ μ 30 p = ν 9 p) : f_X7_countDecided v b μ = some (nI (fb_ct (dcd ν v b) P)) := by
  unfold f_X7_countDecided
  rw [← fo_ct]
  refine up_loop' (fun n x s => f_X7_countDecided_L5 v b μ n s x) P (fun s => some s) _ ?_ ?_ P fuel 0 0 (by omega) (by unfold fuel; omega)
  · intro n s
    show f_X7_countDecided_L5 v b μ (n + 1) s (nI P) = _
    unfold f_X7_countDecided_L5
    rw [e, if_pos (by rw [w_le (by omega) (by omega)]; omega)]
  · intro n q s hq
    show f_X7_countDecided_L5 v b μ (n + 1) s (nI q) = _
    conv => lhs; unfold f_X7_countDecided_L5
    obtain ⟨c1, c2⟩ := hc q hq
    rw [e, if_neg (by rw [w_le (by omega) (by omega)]; omega), chk_nI (show q < 200 by omega) (by omega), w_nat (by omega), w_succ, c1, c2]
    unfold dcd
    by_cases h : ν 10 q = v
    · rw [if_pos h, chk_nI (show q < 200 by omega) (by omega)]
      by_cases h2 : ν 9 q < b
      · rw [if_pos h2, if_neg (by simp [h2])]
      · rw [if_neg h2, if_pos (by simp [h, h2])]
    · rw [if_neg h, if_neg (by simp [h])]
theorem Cas_e {P N : Nat} {μ ν : Mm} (h : Cas P N μ ν) : ∀ p, p < P → μ 31 p = ν 10 p ∧ μ 30 p = ν 9 p := fun p hp => ⟨(h.2 p hp).1, (h.2 p hp).2.2.1⟩
theorem op_caught {t : Nat} {μ ν : Mm} (a : Int32) (o : Nat → Int64) (h : R t μ ν) : ∃ c o' w ν', f_L_caught_0_o a μ o = some (c, o') ∧ f_X8_caught a ν = some (w, ν') ∧ Res t c o' w μ ν' := by
  have hz : R t μ (up2 ν 0 0 0) := R_thr 0 h
  unfold f_X8_caught f_L_caught_0_o f_X7_caught f_X7_requireThreshold
  generalize e : up2 ν 0 0 0 = ν1 at hz ⊢
  have z : ν1 0 0 = 0 := by rw [← e]; rfl
  have hz2 := hz
  obtain ⟨ht, A, T, P, F, C, N, hA, hT, hL, hK, hC, hR, hc, hJ⟩ := hz
  rw [btwI]
  rcases span_cases a 1 1201 (by decide) with ⟨h1, h2⟩ | ⟨h1, h2, h3⟩ | ⟨h1, h2, h3⟩
  · rw [if_pos h1, decide_eq_false h2]
    exact ⟨1, o, 0, up2 ν1 0 0 1, rfl, rfl, rfl, fun h => absurd h (by decide), R_thr 1 hz2⟩
  · rw [if_neg h1, if_pos h2, decide_eq_true h3, countD_eq hL.1 hL.2.1 (Cas_e hc), decided_eq hL.1 hL.2.2.1]
    exact ⟨0, _, _, ν1, rfl, rfl, z, fun _ => rfl, hz2⟩
  · rw [if_neg h1, if_neg h2, decide_eq_false h3]
    exact ⟨1, o, 0, up2 ν1 0 0 1, rfl, rfl, rfl, fun h => absurd h (by decide), R_thr 1 hz2⟩
theorem op_open {t : Nat} {μ ν : Mm} (a : Int32) (ha : ∃ c, c < 65536 ∧ a = nI c) (o : Nat → Int64) (h : R t μ ν) : ∃ c μ' o' w ν', f_L_open_0_o a μ o = some (c, μ', o') ∧ f_X8_open a ν = some (w, ν') ∧ Res t c o' w μ' ν' := by
  have hz : R t μ (up2 ν 0 0 0) := R_thr 0 h
  unfold f_X8_open f_L_open_0_o f_X7_open
  generalize e : up2 ν 0 0 0 = ν1 at hz ⊢
  have z : ν1 0 0 = 0 := by rw [← e]; rfl
  have hz2 := hz
  obtain ⟨ht, A, T, P, F, C, N, ⟨a1, a2, a3, a4, a5, a6⟩, hT, hL, hK, hC, hR, hc, hJ⟩ := hz
  obtain ⟨cc, hcc, rfl⟩ := ha
  rw [btwI]
  rcases span_cases (nI cc) 97 100 (by decide) with ⟨h1, h2⟩ | ⟨h1, h2, h3⟩ | ⟨h1, h2, h3⟩
  · rw [if_pos h1, decide_eq_false h2]
    exact ⟨1, μ, o, 0, up2 ν1 0 0 1, rfl, rfl, rfl, fun h => absurd h (by decide), R_thr 1 hz2⟩
  · rw [if_neg h1, if_pos h2, decide_eq_true h3, a2]
    simp only [Option.bind_some, b2_t, show ¬ ((1 : Int32) = 0) by decide, if_false, a3]
    rw [w_int (by omega)] at h3
    by_cases hf : A < 20
    · rw [if_pos (show nI A < 20 from (w_lt (b := 20) (by omega) (by omega)).mpr hf), if_neg (show ¬ nI A = 20 from fun hh => by rw [show (20 : Int32) = nI 20 from rfl, w_eq (by omega) (by omega)] at hh; omega)]
      unfold f_X0_append setm
      have eA : (nI A).toNatClampNeg = A := w_nat (by omega)
      simp only [a2, a3, narc hcc, eA, show (up2 μ 3 A (nI cc)) 2 2 = μ 2 2 from rfl, show (up2 ν1 1 A (nI cc)) 0 3 = ν1 0 3 from rfl, chk_nI hf (show 20 < 2147483648 by omega), Option.bind_some]
      refine ⟨0, up2 (up2 (up2 μ 3 A (nI cc)) 4 A (μ 1 3)) 2 2 (nI A + 1), vp_updL o (0 : Int32).toNatClampNeg (nI A).toInt64, nI A, up2 (up2 (up2 ν1 1 A (nI cc)) 2 A (ν1 0 4)) 0 3 (nI A + 1), ?_, ?_, z, fun _ => rfl, ?_⟩
      · rw [show (up2 (up2 μ 3 A (nI cc)) 4 A (μ 1 3)) 2 2 = nI A from a2]; rfl
      · have e3 : (up2 (up2 ν1 1 A (nI cc)) 2 A ((up2 ν1 1 A (nI cc)) 0 4)) 0 3 = nI A := a3
        rw [e3]
        show some (nI A + 1 - 1, _) = _
        rw [w_succ, w_pred]
        rfl
      · refine ⟨ht, A + 1, T, P, F, C, N, ⟨by omega, ?_, ?_, a4, a5, ?_⟩, hT, ?_, hK, hC, hR, hc, ?_⟩
        · exact w_succ A
        · exact w_succ A
        · intro j hj
          show (if j = A then nI cc else μ 3 j) = (if j = A then nI cc else ν1 1 j) ∧ (if j = A then μ 1 3 else μ 4 j) = (if j = A then ν1 0 4 else ν1 2 j) ∧ ∃ c, 97 ≤ c ∧ c ≤ 100 ∧ (if j = A then nI cc else ν1 1 j) = nI c
          by_cases hj2 : j = A
          · subst hj2
            simp only [if_true]
            refine ⟨trivial, by rw [hT.2.1, hT.2.2.1], cc, ?_, ?_, rfl⟩
            · have := h3.1; rw [show ((97 : Int32).toInt = 97) from rfl] at this; omega
            · have := h3.2; rw [show ((100 : Int32).toInt = 100) from rfl] at this; omega
          · rw [if_neg hj2, if_neg hj2, if_neg hj2, if_neg hj2]
            exact a6 j (by omega)
        · obtain ⟨b1, b2, b3, b4, b5⟩ := hL
          refine ⟨b1, b2, b3, fun j hj => ?_, b5⟩
          obtain ⟨x1, x2, x3, x4, p, q, r, m, y1, y2, y3⟩ := b4 j hj
          exact ⟨x1, x2, x3, x4, p, q, r, m, by omega, by omega, y3⟩
        · intro p hp
          refine Jud1_st hC.1 (Nat.le_refl C) hC.2.2.2.2.2 ⟨fun j _ => ⟨rfl, rfl, rfl, rfl, rfl, rfl, rfl⟩, Sst_cut (fun q hq => ?_)⟩ (fun r hr => Rul_rc hC.1 hR hr) (fun r _ => rfl) rfl rfl rfl rfl (fun c _ => rfl) (hJ p hp)
          obtain ⟨x1, x2, x3, x4, p', q', r, m, y1, y2, y3, y4, y5, y6, y7, y8, y9⟩ := hL.2.2.2.1 q (by omega)
          refine ⟨rfl, rfl, rfl, rfl, ?_, ?_⟩
          · show (if (ν1 4 q).toNatClampNeg = A then nI cc else ν1 1 (ν1 4 q).toNatClampNeg) = _
            rw [if_neg]; rw [y7, w_nat (by omega)]; omega
          · show (if (ν1 3 q).toNatClampNeg = A then ν1 0 4 else ν1 2 (ν1 3 q).toNatClampNeg) = _
            rw [if_neg]; rw [y6, w_nat (by omega)]; omega
    · have hA20 : A = 20 := by omega
      subst hA20
      exact ⟨2, μ, o, 0, up2 ν1 0 0 2, rfl, rfl, rfl, fun h => absurd h (by decide), R_thr 2 hz2⟩
  · rw [if_neg h1, if_neg h2, decide_eq_false h3]
    exact ⟨1, μ, o, 0, up2 ν1 0 0 1, rfl, rfl, rfl, fun h => absurd h (by decide), R_thr 1 hz2⟩
