/-! ===== L3: the component's walks over the links ===== -/
theorem step12_eq {x : Int32} {μ : Mm} : f_X5_step_12 x μ = some (fo (fun q s => if bt x q = true then s ||| μ 12 q else s) 0 20 0) := by
  unfold f_X5_step_12
  refine up_loop' (fun n y s => f_X5_step_12_L4 x μ n s y) 20 (fun s => some s) _ ?_ ?_ 20 fuel 0 0 (by omega) (by unfold fuel; omega)
  · intro n s
    show f_X5_step_12_L4 x μ (n + 1) s (nI 20) = _
    unfold f_X5_step_12_L4
    rw [if_pos (by decide)]
  · intro n q s hq
    show f_X5_step_12_L4 x μ (n + 1) s (nI q) = _
    conv => lhs; unfold f_X5_step_12_L4
    rw [if_neg (show ¬ (20 : Int32) ≤ nI q from by rw [show (20 : Int32) = nI 20 from rfl, w_le (by omega) (by omega)]; omega), hasBit_eq _ (show q < 32 by omega), Option.bind_some, chk_nI hq (by omega), w_nat (by omega), w_succ]
    cases bt x q
    · rw [b2_f, if_pos rfl, if_neg (by simp)]
    · rw [b2_t, if_neg (by decide), if_pos rfl]
theorem step11_eq {x : Int32} {μ : Mm} : f_X5_step_11 x μ = some (fo (fun q s => if bt x q = true then s ||| μ 11 q else s) 0 20 0) := by
  unfold f_X5_step_11
  refine up_loop' (fun n y s => f_X5_step_11_L4 x μ n s y) 20 (fun s => some s) _ ?_ ?_ 20 fuel 0 0 (by omega) (by unfold fuel; omega)
  · intro n s
    show f_X5_step_11_L4 x μ (n + 1) s (nI 20) = _
    unfold f_X5_step_11_L4
    rw [if_pos (by decide)]
  · intro n q s hq
    show f_X5_step_11_L4 x μ (n + 1) s (nI q) = _
    conv => lhs; unfold f_X5_step_11_L4
    rw [if_neg (show ¬ (20 : Int32) ≤ nI q from by rw [show (20 : Int32) = nI 20 from rfl, w_le (by omega) (by omega)]; omega), hasBit_eq _ (show q < 32 by omega), Option.bind_some, chk_nI hq (by omega), w_nat (by omega), w_succ]
    cases bt x q
    · rw [b2_f, if_pos rfl, if_neg (by simp)]
    · rw [b2_t, if_neg (by decide), if_pos rfl]
theorem step12_cg {x : Int32} {μ ν : Mm} (h : ∀ j, j < 20 → μ 12 j = ν 12 j) : f_X5_step_12 x μ = f_X5_step_12 x ν := by
  rw [step12_eq, step12_eq]
  congr 1
  exact fo_congr 20 0 0 (fun q _ hq b => by rw [h q (by omega)])
theorem step11_cg {x : Int32} {μ ν : Mm} (h : ∀ j, j < 20 → μ 11 j = ν 11 j) : f_X5_step_11 x μ = f_X5_step_11 x ν := by
  rw [step11_eq, step11_eq]
  congr 1
  exact fo_congr 20 0 0 (fun q _ hq b => by rw [h q (by omega)])
theorem ll_cg {x2 x3 : Int32} {μ ν : Mm} (h : ∀ j, j < 20 → μ 12 j = ν 12 j) : ∀ (n : Nat) (x4 x5 : Int32), f_X5_leastLinks_L8 x2 x3 μ n x4 x5 = f_X5_leastLinks_L8 x2 x3 ν n x4 x5
  | 0, _, _ => rfl
  | n + 1, x4, x5 => by
    unfold f_X5_leastLinks_L8
    rw [step12_cg h]
    have := fun r => ll_cg (x2 := x2) (x3 := x3) h n (x4 ||| r) (x5 + 1)
    simp only [this]
theorem gs_cg {μ ν : Mm} (h : ∀ j, j < 20 → μ 12 j = ν 12 j) : ∀ (n : Nat) (x4 x5 : Int32), f_X5_groupSize_L6 μ n x4 x5 = f_X5_groupSize_L6 ν n x4 x5
  | 0, _, _ => rfl
  | n + 1, x4, x5 => by
    unfold f_X5_groupSize_L6
    rw [step12_cg h]
    have := fun r => gs_cg h n (x4 ||| r) (x5 + 1)
    simp only [this]
theorem sw_cg {x2 : Int32} {μ ν : Mm} (h : ∀ j, j < 20 → μ 11 j = ν 11 j) : ∀ (n : Nat) (x3 x4 x5 : Int32), f_X5_shortestWay_L10 x2 μ n x3 x4 x5 = f_X5_shortestWay_L10 x2 ν n x3 x4 x5
  | 0, _, _, _ => rfl
  | n + 1, x3, x4, x5 => by
    unfold f_X5_shortestWay_L10
    rw [step11_cg h]
    have := fun a b => sw_cg (x2 := x2) h n a b (x5 + 1)
    simp only [this]
theorem leastLinks_cg {a b c : Int32} {μ ν : Mm} (h : ∀ j, j < 20 → μ 12 j = ν 12 j) : f_X5_leastLinks a b c μ = f_X5_leastLinks a b c ν := ll_cg h _ _ _
theorem groupSize_cg {a : Int32} {μ ν : Mm} (h : ∀ j, j < 20 → μ 12 j = ν 12 j) : f_X5_groupSize a μ = f_X5_groupSize a ν := gs_cg h _ _ _
theorem shortestWay_cg {a b : Int32} {μ ν : Mm} (h : ∀ j, j < 20 → μ 11 j = ν 11 j) : f_X5_shortestWay a b μ = f_X5_shortestWay a b ν := sw_cg h _ _ _ _
theorem ll_some {x2 x3 : Int32} {μ : Mm} : ∀ (m n k : Nat) (x4 : Int32), k + m = 20 → m < n → ∃ r, f_X5_leastLinks_L8 x2 x3 μ n x4 (nI k) = some r
  | _, 0, _, _, _, h => by omega
  | 0, n + 1, k, x4, he, _ => by
    have : k = 20 := by omega
    subst this
    exact ⟨x3, by unfold f_X5_leastLinks_L8; rw [if_pos (by decide)]⟩
  | m + 1, n + 1, k, x4, he, hn => by
    unfold f_X5_leastLinks_L8
    rw [if_neg (show ¬ (20 : Int32) ≤ nI k from by rw [show (20 : Int32) = nI 20 from rfl, w_le (by omega) (by omega)]; omega), step12_eq, Option.bind_some, w_succ]
    by_cases h : x4 &&& x2 = 0
    · rw [if_pos h]; exact ll_some m n (k + 1) _ (by omega) (by omega)
    · rw [if_neg h]; exact ⟨_, rfl⟩
theorem gs_some {A : Nat} {μ : Mm} (hA : A ≤ 20) (hl : ∀ j, j < 20 → ∀ i, 20 ≤ i → i < 32 → bt (μ 12 j) i = false) : ∀ (m n k : Nat) (x4 : Int32), (∀ i, 20 ≤ i → i < 32 → bt x4 i = false) → k + m = 20 → m < n → ∃ r, f_X5_groupSize_L6 μ n x4 (nI k) = some r
  | _, 0, _, _, _, _, h => by omega
  | 0, n + 1, k, x4, hx, he, _ => by
    have : k = 20 := by omega
    subst this
    exact ⟨_, by unfold f_X5_groupSize_L6; rw [if_pos (by decide), bc_set hx]; rfl⟩
  | m + 1, n + 1, k, x4, hx, he, hn => by
    unfold f_X5_groupSize_L6
    rw [if_neg (show ¬ (20 : Int32) ≤ nI k from by rw [show (20 : Int32) = nI 20 from rfl, w_le (by omega) (by omega)]; omega), step12_eq, Option.bind_some, w_succ]
    refine gs_some hA hl m n (k + 1) _ ?_ (by omega) (by omega)
    intro i h1 h2
    rw [b_or, hx i h1 h2, Bool.false_or]
    exact fo_inv (g := fun q s => if bt x4 q = true then s ||| μ 12 q else s) (fun _ s => bt s i = false) 20 0 0 (b_0 i) (fun q b _ hq hI => by
      show bt (if bt x4 q = true then b ||| μ 12 q else b) i = false
      by_cases hb : bt x4 q = true
      · rw [if_pos hb, b_or, hI, hl q (by omega) i h1 h2]; rfl
      · rw [if_neg hb]; exact hI)
theorem sw_some {x2 : Nat} {μ : Mm} (h2 : x2 < 32) : ∀ (m n k : Nat) (x3 x4 : Int32), k + m = 21 → m < n → ∃ r, f_X5_shortestWay_L10 (nI x2) μ n x3 x4 (nI k) = some r
  | _, 0, _, _, _, _, h => by omega
  | 0, n + 1, k, x3, x4, he, _ => by
    have : k = 21 := by omega
    subst this
    exact ⟨-1, by unfold f_X5_shortestWay_L10; rw [if_pos (by decide)]⟩
  | m + 1, n + 1, k, x3, x4, he, hn => by
    unfold f_X5_shortestWay_L10
    rw [if_neg (show ¬ (20 : Int32) < nI k from by rw [show (20 : Int32) = nI 20 from rfl, w_lt (by omega) (by omega)]; omega), step11_eq, Option.bind_some, hasBit_eq _ h2, Option.bind_some, w_succ]
    generalize b2 (bt _ x2) = z
    by_cases h : z = 0
    · rw [if_pos h]; exact sw_some h2 m n (k + 1) _ _ (by omega) (by omega)
    · rw [if_neg h]; exact ⟨_, rfl⟩
