/-! ===== L3: weights, soundness ===== -/
theorem weightOf_eq {C N : Nat} {x : Int32} {μ ν : Mm} (hR : Rul C N μ ν) : f_X6_weightOf x μ = some (fo (wgS ν x) 0 N 0) := by
  obtain ⟨n1, n2, n3, n4, n5, n6⟩ := hR
  unfold f_X6_weightOf
  refine up_loop' (fun n i s => f_X6_weightOf_L4 x μ n s i) N (fun s => some s) _ ?_ ?_ N fuel 0 0 (by omega) (by unfold fuel; omega)
  · intro n s
    show f_X6_weightOf_L4 x μ (n + 1) s (nI N) = _
    unfold f_X6_weightOf_L4
    rw [n2, if_pos (by rw [w_le (by omega) (by omega)]; omega)]
  · intro n q s hq
    show f_X6_weightOf_L4 x μ (n + 1) s (nI q) = _
    conv => lhs; unfold f_X6_weightOf_L4
    obtain ⟨c, w, _, _, _, _, _, e1, e2⟩ := n6 q hq
    rw [n2, if_neg (by rw [w_le (by omega) (by omega)]; omega), hasBit_eq _ (show q < 32 by omega), Option.bind_some, chk_nI (show q < 12 by omega) (by omega), w_nat (by omega), w_succ, e1]
    unfold wgS
    rw [e2]
    cases bt x q
    · rw [b2_f, if_pos rfl, if_neg (by simp)]
    · rw [b2_t, if_neg (by decide), if_pos rfl]
theorem op_isSound {t : Nat} {μ ν : Mm} (h : R t μ ν) : ∃ w ν', f_X7_isSound μ = some w ∧ f_X8_isSound ν = some (w, ν') ∧ R t μ ν' := by
  have hz : R t μ (up2 ν 0 0 0) := R_thr 0 h
  unfold f_X7_isSound f_X8_isSound f_X7_areScoresSound f_X7_areSumsSound
  refine ⟨1, up2 ν 0 0 0, ?_, rfl, hz⟩
  obtain ⟨ht, A, T, P, F, C, N, hA, hT, hL, hK, hC, hR, hc, hJ⟩ := h
  have hP := hL.1
  have hA1 := hA.1
  have e1 : f_X7_areScoresSound_L2 μ fuel 0 = some 1 := by
    refine (up_loop' (fun n i (_ : Unit) => f_X7_areScoresSound_L2 μ n i) P (fun _ => some 1) (fun _ s => s) ?_ ?_ P fuel 0 () (by omega) (by unfold fuel; omega))
    · intro n s
      show f_X7_areScoresSound_L2 μ (n + 1) (nI P) = _
      unfold f_X7_areScoresSound_L2
      rw [hL.2.1, if_pos (by rw [w_le (by omega) (by omega)]; omega)]
    · intro n q s hq
      show f_X7_areScoresSound_L2 μ (n + 1) (nI q) = _
      conv => lhs; unfold f_X7_areScoresSound_L2
      rw [hL.2.1, if_neg (by rw [w_le (by omega) (by omega)]; omega), chk_nI (show q < 200 by omega) (by omega), chk_nI (show q < 200 by omega) (by omega), w_nat (by omega), weightOf_eq hR, Option.bind_some, (hc.2 q hq).2.2.2, if_pos rfl, w_succ]
  have e2 : f_X7_areSumsSound_L2 μ fuel 0 = some 1 := by
    refine (up_loop' (fun n i (_ : Unit) => f_X7_areSumsSound_L2 μ n i) A (fun _ => some 1) (fun _ s => s) ?_ ?_ A fuel 0 () (by omega) (by unfold fuel; omega))
    · intro n s
      show f_X7_areSumsSound_L2 μ (n + 1) (nI A) = _
      unfold f_X7_areSumsSound_L2
      rw [hA.2.1, if_pos (by rw [w_le (by omega) (by omega)]; omega)]
    · intro n q s hq
      show f_X7_areSumsSound_L2 μ (n + 1) (nI q) = _
      conv => lhs; unfold f_X7_areSumsSound_L2
      rw [hA.2.1, if_neg (by rw [w_le (by omega) (by omega)]; omega), keptSum_eq hT ht hL hK (show win 10080 from ⟨by decide, by decide⟩), sumAnew_eq hT hL, Option.bind_some, Option.bind_some, if_pos rfl, w_succ]
  rw [e1, e2]
  rfl
