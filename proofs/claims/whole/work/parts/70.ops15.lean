/-! ===== L3: the component's value is V ===== -/
theorem recS_bits {x : Nat → Nat → Int32} {a : Int32} {p : Nat} (hb : ∀ q, q ≤ p → ∃ b, b < 20 ∧ x 1 q = nI b) {i m : Nat} (h : i + m ≤ p + 1) : ∀ j, 20 ≤ j → j < 32 → bt (fo (recS x a) i m 0) j = false := by
  intro j h1 h2
  exact fo_inv (g := recS x a) (fun _ s => bt s j = false) m i 0 (b_0 j) (fun q b _ hq hI => by
    unfold recS
    obtain ⟨c, hc, e⟩ := hb q (by omega)
    by_cases hx : x 0 q = a
    · rw [if_pos hx, e, w_nat (by omega), bt_sb _ _ (by omega) h2, if_neg (by omega)]; exact hI
    · rw [if_neg hx]; exact hI)
theorem compV {A T P p f : Nat} {w : Int32} {μ ν : Mm} (hA : Acc A μ ν) (hL : Led A T P μ ν) (hT : T ≤ 800000) (hp : p < P) (hw : win w) (hf : isF f) :
    ∃ μ', f_X1_featureValue (nI p) (nI f) w μ = some (V (cut ν p) (nI f) w (μ 2 3) p, μ') ∧ ∀ k, k ≠ 11 → k ≠ 12 → μ' k = μ k := by
  have hP := hL.1
  obtain ⟨a1, a2, a3, a4, a5, a6⟩ := hA
  obtain ⟨l1, l2⟩ := lo_le hT hL hp hw
  obtain ⟨y1, y2, y3, y4, a, b, c, m, z1, z2, z3, z4, z5, z6, z7, z8, z9⟩ := hL.2.2.2.1 p hp
  have X0 : ∀ q, q ≤ p → cut ν p 0 q = μ 6 q := fun q hq => by rw [cut_le hq]; exact (hL.2.2.2.1 q (by omega)).1.symm
  have X1 : ∀ q, q ≤ p → cut ν p 1 q = μ 7 q := fun q hq => by rw [cut_le hq]; exact (hL.2.2.2.1 q (by omega)).2.1.symm
  have X2 : ∀ q, q ≤ p → cut ν p 2 q = μ 8 q := fun q hq => by rw [cut_le hq]; exact (hL.2.2.2.1 q (by omega)).2.2.1.symm
  have X3 : ∀ q, q ≤ p → cut ν p 3 q = μ 9 q := fun q hq => by rw [cut_le hq]; exact (hL.2.2.2.1 q (by omega)).2.2.2.1.symm
  have B : ∀ q, q ≤ p → ∃ a b, a < A ∧ b < A ∧ μ 6 q = nI a ∧ μ 7 q = nI b := by
    intro q hq
    obtain ⟨u1, u2, _, _, a, b, _, _, v1, v2, _, _, _, v6, v7, _⟩ := hL.2.2.2.1 q (by omega)
    exact ⟨a, b, v1, v2, u1.trans v6, u2.trans v7⟩
  have B7 : ∀ q, q < p + 1 → ∃ b, b < 20 ∧ μ 7 q = nI b := fun q hq => by
    obtain ⟨_, b, _, h2, _, h4⟩ := B q (by omega)
    exact ⟨b, by omega, h4⟩
  have m6 : μ 6 p = nI a := y1.trans z6
  have m7 : μ 7 p = nI b := y2.trans z7
  have c0 : cut ν p 0 p = nI a := (X0 p (Nat.le_refl p)).trans m6
  have c1 : cut ν p 1 p = nI b := (X1 p (Nat.le_refl p)).trans m7
  unfold f_X1_featureValue
  rw [chk_nI (show p < 200 by omega) (by omega), chk_nI (show p < 200 by omega) (by omega), chk_nI (show p < 200 by omega) (by omega), w_nat (show p < 2147483648 by omega), y4, show (0 : Int32) = nI 0 from rfl, first_led hL (Nat.zero_le P), Nat.sub_zero, lo_eq hT hL hp hw, Option.bind_some, w_succ, show nI 0 = (0 : Int32) from rfl, m6, m7]
  have VI : ∀ f, V (cut ν p) f w (μ 2 3) p = V (cut ν p) f w (μ 2 3) p := fun _ => rfl
  have net : ∃ μ', f_X1_networkOf (nI (lo (cut ν p) w p)) (nI (p + 1)) μ = some μ' ∧ (∀ k, k ≠ 11 → k ≠ 12 → μ' k = μ k) ∧ ∀ j, j < 20 → μ' 11 j = nt (cut ν p) (lo (cut ν p) w p) (p + 1 - lo (cut ν p) w p) 11 j ∧ μ' 12 j = nt (cut ν p) (lo (cut ν p) w p) (p + 1 - lo (cut ν p) w p) 12 j := by
    obtain ⟨μ', e1, e2, e3⟩ := load_eq (A := A) (w := w) (μ := μ) (x := cut ν p) (show lo (cut ν p) w p ≤ p + 1 by omega) (by omega) (fun q hq => by
      obtain ⟨a, b, h1, h2, h3, h4⟩ := B q (by omega)
      exact ⟨X0 q (by omega), X1 q (by omega), a, b, by omega, by omega, h3, h4⟩)
    exact ⟨μ', by unfold f_X1_networkOf; rw [e1]; rfl, e2, e3⟩
  rcases hf with rfl | rfl | rfl | rfl | rfl | rfl | rfl | rfl | rfl | rfl | rfl | rfl | rfl
  · unfold V
    rw [if_pos (by decide), if_pos (by decide)]
    rw [chk_nI (show p < 200 by omega) (by omega), chk_nI (show a < 20 by omega) (by omega), w_nat (by omega)]
    refine ⟨μ, ?_, fun _ _ _ => rfl⟩
    have e5 : cut ν p 5 p = μ 4 a := by
      rw [cut_le (Nat.le_refl p)]
      show ν 2 (ν 3 p).toNatClampNeg = _
      rw [z6, w_nat (by omega)]; exact (a6 a z1).2.1.symm
    rw [e5, X3 p (Nat.le_refl p), y4]
  · unfold V
    rw [if_neg (by decide), if_pos (by decide), if_neg (by decide), if_pos (by decide)]
    rw [recv_eq (show lo (cut ν p) w p ≤ p + 1 by omega) (by omega) B7, Option.bind_some, ctry_eq a1 a2 (fun j hj => by
      obtain ⟨u1, _, c, u2, u3, u4⟩ := a6 j hj
      exact ⟨c, u2, u3, u1.trans u4⟩), Option.bind_some]
    refine ⟨μ, ?_, fun _ _ _ => rfl⟩
    have CT : ∀ q, q ≤ p → ∃ r c, r < A ∧ μ 7 q = nI r ∧ 97 ≤ c ∧ c ≤ 100 ∧ cut ν p 4 q = nI c ∧ μ 3 r = nI c := by
      intro q hq
      obtain ⟨_, r, _, h2, _, h4⟩ := B q hq
      obtain ⟨u1, _, c, u2, u3, u4⟩ := a6 r h2
      refine ⟨r, c, h2, h4, u2, u3, ?_, u1.trans u4⟩
      rw [cut_le hq]
      show ν 1 (ν 4 q).toNatClampNeg = _
      rw [← (hL.2.2.2.1 q (by omega)).2.1, h4, w_nat (by omega)]; exact u4
    have e : fo (cnyS (cut ν p) (cut ν p 0 p)) (lo (cut ν p) w p) (p + 1 - lo (cut ν p) w p) 0 = fo (fun q s => if (fun q => decide (μ 6 q = nI a)) q = true then sb s ((fun q => ((cut ν p 4 q).toNatClampNeg - 97) % 4) q) true else s) (lo (cut ν p) w p) (p + 1 - lo (cut ν p) w p) 0 := by
      apply fo_congr
      intro q _ hq s
      unfold cnyS
      obtain ⟨r, c, _, _, g1, g2, g3, _⟩ := CT q (by omega)
      show _ = (if decide (μ 6 q = nI a) = true then sb s (((cut ν p 4 q).toNatClampNeg - 97) % 4) true else s)
      rw [X0 q (by omega), c0, g3, w_nat (by omega), Nat.mod_eq_of_lt (show c - 97 < 4 by omega)]
      by_cases h : μ 6 q = nI a
      · rw [if_pos h, if_pos (decide_eq_true h)]
      · rw [if_neg h, if_neg (by simpa using h)]
    have key : fo (fun q s => if bt (fo (fun q s => if decide (μ 6 q = nI a) = true then sb s ((μ 7 q).toNatClampNeg % 32) true else s) (lo (cut ν p) w p) (p + 1 - lo (cut ν p) w p) 0) q = true then sb s (((μ 3 q).toNatClampNeg - 97) % 4) true else s) 0 A 0 = fo (cnyS (cut ν p) (cut ν p 0 p)) (lo (cut ν p) w p) (p + 1 - lo (cut ν p) w p) 0 := by
      rw [e]
      apply b_ext
      intro j hj
      apply Bool.eq_iff_iff.mpr
      have k1 := fo_set (c := fun q => bt (fo (fun q s => if decide (μ 6 q = nI a) = true then sb s ((μ 7 q).toNatClampNeg % 32) true else s) (lo (cut ν p) w p) (p + 1 - lo (cut ν p) w p) 0) q) (f := fun q => ((μ 3 q).toNatClampNeg - 97) % 4) (fun q => by show _ % 4 < 32; omega) hj A 0 0
      have k2 := fo_set (c := fun q => decide (μ 6 q = nI a)) (f := fun q => ((cut ν p 4 q).toNatClampNeg - 97) % 4) (fun q => by show _ % 4 < 32; omega) hj (p + 1 - lo (cut ν p) w p) (lo (cut ν p) w p) 0
      refine k1.trans (Iff.trans ?_ k2.symm)
      rw [b_0]
      constructor
      · rintro (h | ⟨r, h1, h2, h3, h4⟩)
        · cases h
        · have k3 := (fo_set (c := fun q => decide (μ 6 q = nI a)) (f := fun q => (μ 7 q).toNatClampNeg % 32) (fun q => by show _ % 32 < 32; omega) (show r < 32 by omega) (p + 1 - lo (cut ν p) w p) (lo (cut ν p) w p) 0).mp h3
          rw [b_0] at k3
          rcases k3 with h | ⟨q, i1, i2, i3, i4⟩
          · cases h
          · obtain ⟨r', c, g0, g1, _, _, g3, g4⟩ := CT q (by omega)
            refine Or.inr ⟨q, i1, i2, i3, ?_⟩
            have i5 : (μ 7 q).toNatClampNeg % 32 = r := i4
            rw [g1, w_nat (by omega), Nat.mod_eq_of_lt (by omega)] at i5
            show ((cut ν p 4 q).toNatClampNeg - 97) % 4 = j
            rw [g3, ← g4, i5]; exact h4
      · rintro (h | ⟨q, i1, i2, i3, i4⟩)
        · cases h
        · obtain ⟨r, c, g0, g1, _, _, g3, g4⟩ := CT q (by omega)
          refine Or.inr ⟨r, by omega, by omega, ?_, ?_⟩
          · refine (fo_set (c := fun q => decide (μ 6 q = nI a)) (f := fun q => (μ 7 q).toNatClampNeg % 32) (fun q => by show _ % 32 < 32; omega) (show r < 32 by omega) (p + 1 - lo (cut ν p) w p) (lo (cut ν p) w p) 0).mpr (Or.inr ⟨q, i1, i2, i3, ?_⟩)
            show (μ 7 q).toNatClampNeg % 32 = r
            rw [g1, w_nat (by omega), Nat.mod_eq_of_lt (by omega)]
          · show ((μ 3 r).toNatClampNeg - 97) % 4 = j
            rw [g4, ← g3]; exact i4
    rw [key]
  · unfold V
    rw [if_neg (by decide), if_neg (by decide), if_pos (by decide), if_neg (by decide), if_neg (by decide), if_pos (by decide)]
    obtain ⟨μ', e1, e2, e3⟩ := net
    obtain ⟨r, hr⟩ := ll_some (x2 := μ 2 3) (x3 := 99) (μ := nt (cut ν p) (lo (cut ν p) w p) (p + 1 - lo (cut ν p) w p)) 20 fuel 0 (1 <<< (nI b &&& 31)) (by omega) (by unfold fuel; omega)
    have hr2 : f_X5_leastLinks (nI b) (μ 2 3) 99 (nt (cut ν p) (lo (cut ν p) w p) (p + 1 - lo (cut ν p) w p)) = some r := hr
    rw [e1, Option.bind_some, e2 2 (by omega) (by omega), leastLinks_cg (fun j hj => (e3 j hj).2), hr2, Option.bind_some, c1, hr2]
    exact ⟨μ', rfl, e2⟩
  · unfold V
    rw [if_neg (by decide), if_neg (by decide), if_neg (by decide), if_pos (by decide), if_neg (by decide), if_neg (by decide), if_neg (by decide), if_pos (by decide)]
    rw [pair_eq (by omega), Option.bind_some]
    refine ⟨μ, ?_, fun _ _ _ => rfl⟩
    have e : fst1 (sameP (cut ν p) p) 0 p = fst1 (fun q => decide (μ 6 q = μ 6 p) && decide (μ 7 q = μ 7 p)) 0 p := by
      apply fst1_congr
      intro q _ hq
      unfold sameP
      rw [X0 q (by omega), X0 p (Nat.le_refl p), X1 q (by omega), X1 p (Nat.le_refl p)]
    rw [e]
    by_cases h : fst1 (fun q => decide (μ 6 q = μ 6 p) && decide (μ 7 q = μ 7 p)) 0 p = p
    · rw [if_pos h, if_neg (by decide)]
    · rw [if_neg h, if_pos rfl]
  · unfold V
    rw [if_neg (by decide), if_neg (by decide), if_neg (by decide), if_neg (by decide), if_pos (by decide), if_neg (by decide), if_neg (by decide), if_neg (by decide), if_neg (by decide), if_pos (by decide)]
    obtain ⟨μ', e1, e2, e3⟩ := net
    have hbits : ∀ j, j < 20 → ∀ i, 20 ≤ i → i < 32 → bt (nt (cut ν p) (lo (cut ν p) w p) (p + 1 - lo (cut ν p) w p) 12 j) i = false := by
      intro j hj i h1 h2
      exact fo_inv (g := ntS (cut ν p)) (fun _ (s : Mm) => ∀ j, j < 20 → bt (s 12 j) i = false) (p + 1 - lo (cut ν p) w p) (lo (cut ν p) w p) (fun _ _ => 0) (fun j _ => b_0 i) (fun q s _ hq hI j hj => by
        obtain ⟨qa, qb, h3, h4, h5, h6⟩ := B q (by omega)
        unfold ntS
        simp only [X0 q (by omega), X1 q (by omega), h5, h6, w_nat (show qa < 2147483648 by omega), w_nat (show qb < 2147483648 by omega)]
        simp only [up2, upd, show ¬ ((12 : Nat) = 11) by omega, if_true, if_false]
        by_cases e1 : j = qb
        · rw [if_pos e1, bt_sb _ _ (by omega) h2, if_neg (by omega)]
          by_cases e2 : qb = qa
          · rw [if_pos e2, bt_sb _ _ (by omega) h2, if_neg (by omega)]; exact hI qa (by omega)
          · rw [if_neg e2]; exact hI qb (by omega)
        · rw [if_neg e1]
          by_cases e2 : j = qa
          · rw [if_pos e2, bt_sb _ _ (by omega) h2, if_neg (by omega)]; exact hI qa (by omega)
          · rw [if_neg e2]; exact hI j hj) j hj
    obtain ⟨r, hr⟩ := gs_some (A := A) (μ := nt (cut ν p) (lo (cut ν p) w p) (p + 1 - lo (cut ν p) w p)) a1 hbits 19 fuel 1 (1 <<< (nI a &&& 31)) (fun i h1 h2 => by rw [b_one (by omega) h2, decide_eq_false (by omega)]) (by omega) (by unfold fuel; omega)
    have hr2 : f_X5_groupSize (nI a) (nt (cut ν p) (lo (cut ν p) w p) (p + 1 - lo (cut ν p) w p)) = some r := hr
    rw [e1, Option.bind_some, groupSize_cg (fun j hj => (e3 j hj).2), hr2, Option.bind_some, c0, hr2]
    exact ⟨μ', rfl, e2⟩
  · unfold V
    rw [if_neg (by decide), if_neg (by decide), if_neg (by decide), if_neg (by decide), if_neg (by decide), if_pos (by decide), if_neg (by decide), if_neg (by decide), if_neg (by decide), if_neg (by decide), if_neg (by decide), if_pos (by decide)]
    rw [sum7_eq (show lo (cut ν p) w p ≤ p + 1 by omega) (by omega), Option.bind_some]
    refine ⟨μ, ?_, fun _ _ _ => rfl⟩
    congr 2
    apply fo_congr
    intro q _ hq s
    unfold sumS
    rw [X1 q (by omega), X2 q (by omega), c0]
  · unfold V
    rw [if_neg (by decide), if_neg (by decide), if_neg (by decide), if_neg (by decide), if_neg (by decide), if_neg (by decide), if_neg (by decide), if_neg (by decide), if_neg (by decide), if_neg (by decide), if_neg (by decide), if_neg (by decide), if_neg (by decide), if_neg (by decide), if_neg (by decide), if_neg (by decide), if_neg (by decide), if_neg (by decide), if_neg (by decide), if_neg (by decide), if_neg (by decide), if_neg (by decide), if_neg (by decide), if_neg (by decide)]
    obtain ⟨μ', e1, e2, e3⟩ := net
    obtain ⟨r, hr⟩ := sw_some (x2 := a) (μ := nt (cut ν p) (lo (cut ν p) w p) (p + 1 - lo (cut ν p) w p)) (by omega) 20 fuel 1 0 (1 <<< (nI b &&& 31)) (by omega) (by unfold fuel; omega)
    have hr2 : f_X5_shortestWay (nI b) (nI a) (nt (cut ν p) (lo (cut ν p) w p) (p + 1 - lo (cut ν p) w p)) = some r := hr
    rw [e1, Option.bind_some, shortestWay_cg (fun j hj => (e3 j hj).1), hr2, Option.bind_some, c0, c1, hr2]
    by_cases h : r = -1
    · rw [if_pos h]; exact ⟨μ', by show some (0, μ') = some ((if r = -1 then 0 else 1 + r), μ'); rw [if_pos h], e2⟩
    · rw [if_neg h]; exact ⟨μ', by show some (1 + r, μ') = some ((if r = -1 then 0 else 1 + r), μ'); rw [if_neg h], e2⟩
  · unfold V
    rw [if_neg (by decide), if_neg (by decide), if_neg (by decide), if_neg (by decide), if_neg (by decide), if_neg (by decide), if_pos (by decide), if_neg (by decide), if_neg (by decide), if_neg (by decide), if_neg (by decide), if_neg (by decide), if_neg (by decide), if_pos (by decide)]
    rw [cnt_eq (show lo (cut ν p) w p ≤ p + 1 by omega) (by omega), Option.bind_some]
    refine ⟨μ, ?_, fun _ _ _ => rfl⟩
    congr 2
    apply fo_congr
    intro q _ hq s
    unfold cntS
    rw [X0 q (by omega), X2 q (by omega), c0]
  · unfold V
    rw [if_neg (by decide), if_neg (by decide), if_neg (by decide), if_neg (by decide), if_neg (by decide), if_neg (by decide), if_neg (by decide), if_pos (by decide), if_neg (by decide), if_neg (by decide), if_neg (by decide), if_neg (by decide), if_neg (by decide), if_neg (by decide), if_neg (by decide), if_pos (by decide)]
    rw [max_eq (show lo (cut ν p) w p ≤ p + 1 by omega) (by omega), Option.bind_some]
    refine ⟨μ, ?_, fun _ _ _ => rfl⟩
    congr 2
    apply fo_congr
    intro q _ hq s
    unfold maxS
    rw [X0 q (by omega), X2 q (by omega), c0]
  · unfold V
    rw [if_neg (by decide), if_neg (by decide), if_neg (by decide), if_neg (by decide), if_neg (by decide), if_neg (by decide), if_neg (by decide), if_neg (by decide), if_pos (by decide), if_neg (by decide), if_neg (by decide), if_neg (by decide), if_neg (by decide), if_neg (by decide), if_neg (by decide), if_neg (by decide), if_neg (by decide), if_pos (by decide)]
    rw [cnt_eq (show lo (cut ν p) w p ≤ p + 1 by omega) (by omega), Option.bind_some]
    refine ⟨μ, ?_, fun _ _ _ => rfl⟩
    congr 2
    apply fo_congr
    intro q _ hq s
    unfold cntS
    rw [X0 q (by omega), X2 q (by omega), c0]
  · unfold V
    rw [if_neg (by decide), if_neg (by decide), if_neg (by decide), if_neg (by decide), if_neg (by decide), if_neg (by decide), if_neg (by decide), if_neg (by decide), if_neg (by decide), if_pos (by decide), if_neg (by decide), if_neg (by decide), if_neg (by decide), if_neg (by decide), if_neg (by decide), if_neg (by decide), if_neg (by decide), if_neg (by decide), if_neg (by decide), if_pos (by decide)]
    unfold f_X4_minutesSinceLast
    rw [last_eq (x := cut ν p) (by omega) (fun q hq => ⟨X0 q hq, X3 q hq⟩) p fuel (Nat.le_refl p) (by unfold fuel; omega), Option.bind_some]
    exact ⟨μ, rfl, fun _ _ _ => rfl⟩
  · unfold V
    rw [if_neg (by decide), if_neg (by decide), if_neg (by decide), if_neg (by decide), if_neg (by decide), if_neg (by decide), if_neg (by decide), if_neg (by decide), if_neg (by decide), if_neg (by decide), if_pos (by decide), if_neg (by decide), if_neg (by decide), if_neg (by decide), if_neg (by decide), if_neg (by decide), if_neg (by decide), if_neg (by decide), if_neg (by decide), if_neg (by decide), if_neg (by decide), if_pos (by decide)]
    have e : fo (fun q s => if decide (μ 6 q = nI a) = true then sb s ((μ 7 q).toNatClampNeg % 32) true else s) (lo (cut ν p) w p) (p + 1 - lo (cut ν p) w p) 0 = fo (recS (cut ν p) (cut ν p 0 p)) (lo (cut ν p) w p) (p + 1 - lo (cut ν p) w p) 0 := by
      apply fo_congr
      intro q _ hq s
      unfold recS
      obtain ⟨qa, qb, h3, h4, h5, h6⟩ := B q (by omega)
      rw [X0 q (by omega), X1 q (by omega), c0, h6, w_nat (by omega), Nat.mod_eq_of_lt (show qb < 32 by omega)]
      by_cases h : μ 6 q = nI a
      · rw [if_pos h, if_pos (decide_eq_true h)]
      · rw [if_neg h, if_neg (by simpa using h)]
    rw [recv_eq (show lo (cut ν p) w p ≤ p + 1 by omega) (by omega) B7, Option.bind_some, e, bc_set (recS_bits (p := p) (fun q hq => by
      obtain ⟨b, hb, e⟩ := B7 q (by omega)
      exact ⟨b, hb, (X1 q hq).trans e⟩) (by omega)), Option.bind_some]
    exact ⟨μ, rfl, fun _ _ _ => rfl⟩
  · unfold V
    rw [if_neg (by decide), if_neg (by decide), if_neg (by decide), if_neg (by decide), if_neg (by decide), if_neg (by decide), if_neg (by decide), if_neg (by decide), if_neg (by decide), if_neg (by decide), if_neg (by decide), if_pos (by decide), if_neg (by decide), if_neg (by decide), if_neg (by decide), if_neg (by decide), if_neg (by decide), if_neg (by decide), if_neg (by decide), if_neg (by decide), if_neg (by decide), if_neg (by decide), if_neg (by decide), if_pos (by decide)]
    rw [sum6_eq (show lo (cut ν p) w p ≤ p + 1 by omega) (by omega), Option.bind_some]
    refine ⟨μ, ?_, fun _ _ _ => rfl⟩
    congr 2
    apply fo_congr
    intro q _ hq s
    unfold sumS
    rw [X0 q (by omega), X2 q (by omega), c0]
