/-! ===== L3: the mean ===== -/
theorem gx64_ok {α : Type} {x : UInt64} {k : Option α} (h : vf_n64 x) : gx64 x k = k := by
  unfold gx64; rw [if_pos h]
theorem op_meanScore {t : Nat} {μ ν : Mm} (dd : Nat → UInt64) (h : R t μ ν) : ∃ c d' w ν', f_L_meanScore_0_d μ dd = some (c, d') ∧ f_X8_meanScore ν = some (w, ν') ∧ ν' 0 0 = c ∧ (c = 0 → d' 0 = w ∧ Op.cmpValue (FP.dcmp w w) .l = 0) ∧ R t μ ν' := by
  have hz : R t μ (up2 ν 0 0 0) := R_thr 0 h
  unfold f_X8_meanScore f_L_meanScore_0_d f_X7_meanScore
  generalize e : up2 ν 0 0 0 = ν1 at hz ⊢
  have z : ν1 0 0 = 0 := by rw [← e]; rfl
  have hz2 := hz
  obtain ⟨ht, A, T, P, F, C, N, hA, hT, hL, hK, hC, hR, hc, hJ⟩ := hz
  have hP := hL.1
  rw [hL.2.1, hL.2.2.1]
  by_cases h0 : P = 0
  · have h1 : nI P = 0 := by rw [h0]; rfl
    rw [if_pos h1, if_pos h1]
    exact ⟨1, dd, _, up2 ν1 0 0 1, rfl, rfl, rfl, fun h => absurd h (by decide), R_thr 1 hz2⟩
  · have h1 : ¬ nI P = 0 := fun h => h0 ((w_eq (b := 0) (by omega) (by omega)).mp h)
    rw [if_neg h1, if_neg h1]
    have hn : ∀ s : Int32, FP.Core.dIsNaN (FP.ddiv (FP.i2d s) (FP.i2d (nI P))) = false := fun s => mean_n h1
    have e1 : f_X7_meanScore_L30 (nI P) μ fuel 0 0 = some (0, FP.ddiv (FP.i2d (fo (fun q s => s + ν1 9 q) 0 P 0)) (FP.i2d (nI P))) := by
      refine up_loop' (fun n x s => f_X7_meanScore_L30 (nI P) μ n s x) P (fun s => some (0, FP.ddiv (FP.i2d s) (FP.i2d (nI P)))) _ ?_ ?_ P fuel 0 0 (by omega) (by unfold fuel; omega)
      · intro n s
        show f_X7_meanScore_L30 (nI P) μ (n + 1) s (nI P) = _
        unfold f_X7_meanScore_L30
        rw [if_pos (by rw [w_le (by omega) (by omega)]; omega), gx64_ok (n64_ok (hn s))]
      · intro n q s hq
        show f_X7_meanScore_L30 (nI P) μ (n + 1) s (nI q) = _
        conv => lhs; unfold f_X7_meanScore_L30
        rw [if_neg (by rw [w_le (by omega) (by omega)]; omega), chk_nI (show q < 200 by omega) (by omega), w_nat (by omega), w_succ, (Cas_e hc q hq).2]
    have e2 : f_X8_meanScore_L23 ν1 fuel 0 0 = some (FP.ddiv (FP.i2d (fo (fun q s => s + ν1 9 q) 0 P 0)) (FP.i2d (nI P)), ν1) := by
      refine up_loop' (fun n x s => f_X8_meanScore_L23 ν1 n s x) P (fun s => some (FP.ddiv (FP.i2d s) (FP.i2d (nI P)), ν1)) _ ?_ ?_ P fuel 0 0 (by omega) (by unfold fuel; omega)
      · intro n s
        show f_X8_meanScore_L23 ν1 (n + 1) s (nI P) = _
        unfold f_X8_meanScore_L23
        rw [hL.2.2.1, if_pos (by rw [w_le (by omega) (by omega)]; omega), gx64_ok (n64_ok (hn s))]
      · intro n q s hq
        show f_X8_meanScore_L23 ν1 (n + 1) s (nI q) = _
        conv => lhs; unfold f_X8_meanScore_L23
        rw [hL.2.2.1, if_neg (by rw [w_le (by omega) (by omega)]; omega), chk_nI (show q < 200 by omega) (by omega), w_nat (by omega), w_succ]
    rw [e1, e2]
    have hnn := hn (fo (fun q s => s + ν1 9 q) 0 P 0)
    generalize FP.ddiv (FP.i2d (fo (fun q s => s + ν1 9 q) 0 P 0)) (FP.i2d (nI P)) = r at hnn ⊢
    rw [Option.bind_some, if_pos rfl, chk0]
    exact ⟨0, _, r, ν1, rfl, rfl, z, fun _ => ⟨rfl, cmp_d hnn⟩, hz2⟩
