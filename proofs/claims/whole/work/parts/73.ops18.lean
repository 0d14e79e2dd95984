/-! ===== L3: the model's values without a window ===== -/
theorem mV_small {A T P p f : Nat} {w mk : Int32} {μ ν : Mm} (hL : Led A T P μ ν) (hA : A ≤ 20) (hp : p < P) (hf : f = 97 ∨ f = 102 ∨ f = 113) : f_X8_valueBy (nI p) (nI f) w mk ν = some (V (cut ν p) (nI f) w mk p, ν) := by
  have hP := hL.1
  obtain ⟨y1, y2, y3, y4, a, b, c, m, z1, z2, z3, z4, z5, z6, z7, z8, z9⟩ := hL.2.2.2.1 p hp
  have X0 : ∀ q, q ≤ p → cut ν p 0 q = ν 3 q ∧ cut ν p 3 q = ν 6 q := fun q hq => ⟨by rw [cut_le hq]; rfl, by rw [cut_le hq]; rfl⟩
  have X1 : ∀ q, q ≤ p → cut ν p 1 q = ν 4 q := fun q hq => by rw [cut_le hq]; rfl
  have cp : ∀ {α : Type} (k : Option α), chk (nI p) 200 k = k := fun k => chk_nI (by omega) (by omega)
  have v97 : V (cut ν p) (nI 97) w mk p = cut ν p 3 p - cut ν p 5 p := by unfold V; rw [if_pos (by decide)]
  have v102 : V (cut ν p) (nI 102) w mk p = (if fst1 (sameP (cut ν p) p) 0 p = p then 1 else 0) := by unfold V; rw [if_neg (by decide), if_neg (by decide), if_neg (by decide), if_pos (by decide)]
  have v113 : V (cut ν p) (nI 113) w mk p = lastM (cut ν p) p p := by unfold V; rw [if_neg (by decide), if_neg (by decide), if_neg (by decide), if_neg (by decide), if_neg (by decide), if_neg (by decide), if_neg (by decide), if_neg (by decide), if_neg (by decide), if_pos (by decide)]
  unfold f_X8_valueBy
  rcases hf with rfl | rfl | rfl
  · rw [if_neg (by decide), if_neg (by decide), if_neg (by decide), if_pos (by decide), v97, cp, cp, w_nat (show p < 2147483648 by omega), z6, chk_nI (show a < 20 by omega) (by omega), w_nat (show a < 2147483648 by omega), (X0 p (Nat.le_refl p)).2, cut_le (Nat.le_refl p)]
    show some (ν 6 p - ν 2 a, ν) = some (ν 6 p - ν 2 (ν 3 p).toNatClampNeg, ν)
    rw [z6, w_nat (by omega)]
  · rw [if_neg (by decide), if_neg (by decide), if_neg (by decide), if_neg (by decide), if_pos (by decide), m107_eq (by omega)]
    rw [if_pos (show nI 102 = 102 from rfl), l107_2]
    rw [v102]
    have e : fst1 (sameP (cut ν p) p) 0 p = fst1 (fun q => decide (ν 3 q = ν 3 p) && decide (ν 4 q = ν 4 p)) 0 p := by
      apply fst1_congr
      intro q _ hq
      unfold sameP
      rw [(X0 q (by omega)).1, (X0 p (Nat.le_refl p)).1, X1 q (by omega), X1 p (Nat.le_refl p)]
    rw [e]
    by_cases h : fst1 (fun q => decide (ν 3 q = ν 3 p) && decide (ν 4 q = ν 4 p)) 0 p = p
    · rw [if_pos h, if_neg (by decide)]
    · rw [if_neg h, if_pos rfl]
  · rw [if_neg (by decide), if_neg (by decide), if_neg (by decide), if_neg (by decide), if_neg (by decide), if_pos (by decide), m107_eq (by omega)]
    rw [if_neg (show ¬ nI 113 = 102 by decide), v113]
    rcases l107_1 (cut ν p) X0 p (Nat.le_refl p) (by omega) with ⟨h1, h2⟩ | ⟨q, hq, h1, h2⟩
    · rw [h1, h2, if_neg (by decide)]
    · rw [h1, h2, if_pos (nn_nI (by omega)), cp, chk_nI (show q < 200 by omega) (by omega), w_nat (show p < 2147483648 by omega), w_nat (show q < 2147483648 by omega)]
