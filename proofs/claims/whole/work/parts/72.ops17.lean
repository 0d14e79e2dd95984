/-! ===== L3: the model's values ===== -/
/-- the model's loop over the payments before p by the same payer: the last of them, and whether all went to another receiver -/
def l107 (ν : Mm) (p : Nat) (q : Nat) (s : Int32 × Int32) : Int32 × Int32 := if ν 3 q = ν 3 p then (nI q, if ν 4 q = ν 4 p then s.2 &&& 0 else s.2 &&& 1) else s
theorem m107_eq {p : Nat} {x2 : Int32} {ν : Mm} (hp : p < 200) (K : Int32 → Int32 → Option (Int32 × Mm)) : f_X8_valueBy_L107 K (nI p) x2 ν fuel (-1) 1 0 = K (fo (l107 ν p) 0 p (-1, 1)).1 (fo (l107 ν p) 0 p (-1, 1)).2 := by
  refine up_loop' (fun n x (s : Int32 × Int32) => f_X8_valueBy_L107 K (nI p) x2 ν n s.1 s.2 x) p (fun s => K s.1 s.2) (l107 ν p) ?_ ?_ p fuel 0 (-1, 1) (by omega) (by unfold fuel; omega)
  · intro n s
    show f_X8_valueBy_L107 K (nI p) x2 ν (n + 1) s.1 s.2 (nI p) = _
    unfold f_X8_valueBy_L107
    rw [if_pos (by rw [w_le (by omega) (by omega)]; omega)]
  · intro n q s hq
    show f_X8_valueBy_L107 K (nI p) x2 ν (n + 1) s.1 s.2 (nI q) = _
    conv => lhs; unfold f_X8_valueBy_L107
    rw [if_neg (by rw [w_le (by omega) (by omega)]; omega), chk_nI (show q < 200 by omega) (by omega), chk_nI (show p < 200 by omega) (by omega), chk_nI (show q < 200 by omega) (by omega), chk_nI (show p < 200 by omega) (by omega), w_nat (by omega), w_nat (by omega), w_succ]
    unfold l107
    by_cases h : ν 3 q = ν 3 p
    · rw [if_pos h, if_pos h]
      by_cases h2 : ν 4 q = ν 4 p
      · rw [if_pos h2, if_pos h2]
      · rw [if_neg h2, if_neg h2]
    · rw [if_neg h, if_neg h]
theorem l107_1 {ν : Mm} {p : Nat} (x : Nat → Nat → Int32) (hx : ∀ q, q ≤ p → x 0 q = ν 3 q ∧ x 3 q = ν 6 q) : ∀ m, m ≤ p → m ≤ 200 → ((fo (l107 ν p) 0 m (-1, 1)).1 = -1 ∧ lastM x p m = 99999) ∨ ∃ q, q < m ∧ (fo (l107 ν p) 0 m (-1, 1)).1 = nI q ∧ lastM x p m = ν 6 p - ν 6 q
  | 0, _, _ => Or.inl ⟨rfl, rfl⟩
  | m + 1, hm, h2 => by
    rw [fo_succ, Nat.zero_add]
    unfold lastM
    rw [(hx m (by omega)).1, (hx p (Nat.le_refl p)).1, (hx m (by omega)).2, (hx p (Nat.le_refl p)).2]
    by_cases h : ν 3 m = ν 3 p
    · rw [if_pos h]
      refine Or.inr ⟨m, by omega, ?_, rfl⟩
      show (if ν 3 m = ν 3 p then (nI m, _) else _ : Int32 × Int32).1 = _
      rw [if_pos h]
    · rw [if_neg h]
      have e : l107 ν p m (fo (l107 ν p) 0 m (-1, 1)) = fo (l107 ν p) 0 m (-1, 1) := by
        show (if ν 3 m = ν 3 p then _ else _ : Int32 × Int32) = _
        rw [if_neg h]
      rw [e]
      rcases l107_1 x hx m (by omega) (by omega) with h3 | ⟨q, h3, h4, h5⟩
      · exact Or.inl h3
      · exact Or.inr ⟨q, by omega, h4, h5⟩
theorem l107_2 {ν : Mm} {p : Nat} : ∀ m, (fo (l107 ν p) 0 m (-1, 1)).2 = if fst1 (fun q => decide (ν 3 q = ν 3 p) && decide (ν 4 q = ν 4 p)) 0 m = m then 1 else 0
  | 0 => rfl
  | m + 1 => by
    rw [fo_succ, Nat.zero_add]
    have ih := l107_2 (ν := ν) (p := p) m
    have hle := fst1_le (p := fun q => decide (ν 3 q = ν 3 p) && decide (ν 4 q = ν 4 p)) m 0
    rw [Nat.zero_add] at hle
    generalize fo (l107 ν p) 0 m (-1, 1) = s at ih ⊢
    by_cases hh : fst1 (fun q => decide (ν 3 q = ν 3 p) && decide (ν 4 q = ν 4 p)) 0 m = m
    · rw [if_pos hh] at ih
      have hno : ∀ q, q < m → (decide (ν 3 q = ν 3 p) && decide (ν 4 q = ν 4 p)) = false := fun q hq => fst1_no (p := fun q => decide (ν 3 q = ν 3 p) && decide (ν 4 q = ν 4 p)) m 0 q (by omega) (by rw [hh]; exact hq)
      unfold l107
      by_cases h1 : ν 3 m = ν 3 p
      · rw [if_pos h1, ih]
        by_cases h2 : ν 4 m = ν 4 p
        · rw [if_pos h2, fst1_uniq (r := m) (by omega) (by omega) (by rw [decide_eq_true h1, decide_eq_true h2]; rfl) (fun q _ hq => hno q hq), if_neg (by omega)]; rfl
        · rw [if_neg h2, if_pos]; · rfl
          apply Nat.le_antisymm
          · have := fst1_le (p := fun q => decide (ν 3 q = ν 3 p) && decide (ν 4 q = ν 4 p)) (m + 1) 0; omega
          · apply Nat.le_of_not_lt
            intro hlt
            have hy := fst1_yes (p := fun q => decide (ν 3 q = ν 3 p) && decide (ν 4 q = ν 4 p)) (m + 1) 0 (by omega)
            generalize fst1 (fun q => decide (ν 3 q = ν 3 p) && decide (ν 4 q = ν 4 p)) 0 (m + 1) = z at hlt hy
            by_cases hz : z = m
            · subst hz; simp [h2] at hy
            · have := hno z (by omega)
              rw [this] at hy; cases hy
      · rw [if_neg h1, ih, if_pos]
        apply Nat.le_antisymm
        · have := fst1_le (p := fun q => decide (ν 3 q = ν 3 p) && decide (ν 4 q = ν 4 p)) (m + 1) 0; omega
        · apply Nat.le_of_not_lt
          intro hlt
          have hy := fst1_yes (p := fun q => decide (ν 3 q = ν 3 p) && decide (ν 4 q = ν 4 p)) (m + 1) 0 (by omega)
          generalize fst1 (fun q => decide (ν 3 q = ν 3 p) && decide (ν 4 q = ν 4 p)) 0 (m + 1) = z at hlt hy
          by_cases hz : z = m
          · subst hz; simp [h1] at hy
          · have := hno z (by omega)
            rw [this] at hy; cases hy
    · rw [if_neg hh] at ih
      have hlt : fst1 (fun q => decide (ν 3 q = ν 3 p) && decide (ν 4 q = ν 4 p)) 0 m < m := by omega
      have hy := fst1_yes (p := fun q => decide (ν 3 q = ν 3 p) && decide (ν 4 q = ν 4 p)) m 0 (by omega)
      have e : fst1 (fun q => decide (ν 3 q = ν 3 p) && decide (ν 4 q = ν 4 p)) 0 (m + 1) = fst1 (fun q => decide (ν 3 q = ν 3 p) && decide (ν 4 q = ν 4 p)) 0 m := fst1_uniq (by omega) (by omega) hy (fun q h1 h2 => fst1_no m 0 q h1 h2)
      rw [e, if_neg (by omega)]
      unfold l107
      by_cases h1 : ν 3 m = ν 3 p
      · rw [if_pos h1, ih]
        by_cases h2 : ν 4 m = ν 4 p
        · rw [if_pos h2]; rfl
        · rw [if_neg h2]; rfl
      · rw [if_neg h1, ih]
