/-! ===== L3: sets, and the links ===== -/
theorem fo_set {c : Nat → Bool} {f : Nat → Nat} (hf : ∀ q, f q < 32) {j : Nat} (hj : j < 32) : ∀ (m i : Nat) (s : Int32), bt (fo (fun q s => if c q = true then sb s (f q) true else s) i m s) j = true ↔ bt s j = true ∨ ∃ q, i ≤ q ∧ q < i + m ∧ c q = true ∧ f q = j
  | 0, i, s => by
    constructor
    · intro h; exact Or.inl h
    · rintro (h | ⟨q, h1, h2, _⟩)
      · exact h
      · omega
  | m + 1, i, s => by
    show bt (fo _ (i + 1) m (if c i = true then sb s (f i) true else s)) j = true ↔ _
    rw [fo_set hf hj m (i + 1)]
    constructor
    · rintro (h | ⟨q, h1, h2, h3, h4⟩)
      · by_cases hc : c i = true
        · rw [if_pos hc, bt_sb _ _ (hf i) hj] at h
          by_cases hji : j = f i
          · exact Or.inr ⟨i, by omega, by omega, hc, hji.symm⟩
          · rw [if_neg hji] at h; exact Or.inl h
        · rw [if_neg hc] at h; exact Or.inl h
      · exact Or.inr ⟨q, by omega, by omega, h3, h4⟩
    · rintro (h | ⟨q, h1, h2, h3, h4⟩)
      · left
        by_cases hc : c i = true
        · rw [if_pos hc, bt_sb _ _ (hf i) hj]
          by_cases hji : j = f i
          · rw [if_pos hji]
          · rw [if_neg hji]; exact h
        · rw [if_neg hc]; exact h
      · by_cases hq : q = i
        · subst hq
          left
          rw [if_pos h3, bt_sb _ _ (hf q) hj, if_pos h4.symm]
        · exact Or.inr ⟨q, by omega, by omega, h3, h4⟩
theorem small_of {x : Int32} {k : Nat} (hk : k ≤ 31) (h : ∀ j, k ≤ j → j < 32 → bt x j = false) : ∃ n, n < 2 ^ k ∧ x = nI n := by
  refine ⟨x.toBitVec.toNat, ?_, ?_⟩
  · apply Nat.lt_pow_two_of_testBit
    intro i hi
    rcases Nat.lt_or_ge i 32 with h2 | h2
    · have := h i hi h2
      unfold bt at this
      rw [BitVec.testBit_toNat]; exact this
    · rw [BitVec.testBit_toNat]; exact BitVec.getLsbD_of_ge _ _ h2
  · apply Int32.toBitVec_inj.mp
    show _ = BitVec.ofNat 32 _
    simp
theorem bc_set {x : Int32} (h : ∀ j, 20 ≤ j → j < 32 → bt x j = false) : f_J6_bitCount_0f7a4 x = some (nI (pop x)) := by
  obtain ⟨n, hn, rfl⟩ := small_of (by omega) h
  exact bc_eq (by rw [show (2 : Nat) ^ 20 = 1048576 from rfl] at hn; exact hn)
theorem recv_eq {a : Int32} {i hi : Nat} {μ : Mm} (h : i ≤ hi) (hh : hi ≤ 200) (hb : ∀ q, q < hi → ∃ b, b < 20 ∧ μ 7 q = nI b) : f_X4_receiversFrom a (nI i) (nI hi) μ = some (fo (fun q s => if decide (μ 6 q = a) = true then sb s ((μ 7 q).toNatClampNeg % 32) true else s) i (hi - i) 0) := by
  unfold f_X4_receiversFrom
  refine up_loop' (fun n x s => f_X4_receiversFrom_L6 a (nI hi) μ n s x) hi (fun s => some s) _ ?_ ?_ (hi - i) fuel i 0 (by omega) (by unfold fuel; omega)
  · intro n s
    show f_X4_receiversFrom_L6 a (nI hi) μ (n + 1) s (nI hi) = _
    unfold f_X4_receiversFrom_L6
    rw [if_pos (by rw [w_le (by omega) (by omega)]; omega)]
  · intro n q s hq
    show f_X4_receiversFrom_L6 a (nI hi) μ (n + 1) s (nI q) = _
    conv => lhs; unfold f_X4_receiversFrom_L6
    obtain ⟨b, hb1, hb2⟩ := hb q hq
    rw [if_neg (by rw [w_le (by omega) (by omega)]; omega), chk_nI (show q < 200 by omega) (by omega), w_nat (by omega), w_succ, chk_nI (show q < 200 by omega) (by omega), hb2, w_nat (by omega), withBit1, Option.bind_some, Nat.mod_eq_of_lt (by omega)]
    by_cases h2 : μ 6 q = a
    · rw [if_pos h2, if_pos (decide_eq_true h2)]
    · rw [if_neg h2, if_neg (by simpa using h2)]
theorem ctry_eq {A : Nat} {x : Int32} {μ : Mm} (hA : A ≤ 20) (e : μ 2 2 = nI A) (hc : ∀ j, j < A → ∃ c, 97 ≤ c ∧ c ≤ 100 ∧ μ 3 j = nI c) : f_X1_countCountries x μ = some (nI (pop (fo (fun q s => if bt x q = true then sb s (((μ 3 q).toNatClampNeg - 97) % 4) true else s) 0 A 0))) := by
  unfold f_X1_countCountries
  refine (up_loop (fun n y s => f_X1_countCountries_L4 x μ n s y) A (fun s => some (nI (pop s))) (fun q s => if bt x q = true then sb s (((μ 3 q).toNatClampNeg - 97) % 4) true else s) (fun _ s => ∀ j, 4 ≤ j → j < 32 → bt s j = false) ?_ ?_ A fuel 0 0 (by omega) (by unfold fuel; omega) (fun j _ _ => b_0 j)).1
  · intro n s hs
    show f_X1_countCountries_L4 x μ (n + 1) s (nI A) = _
    unfold f_X1_countCountries_L4
    rw [e, if_pos (by rw [w_le (by omega) (by omega)]; omega), bc_set (fun j h1 h2 => hs j (by omega) h2)]
    rfl
  · intro n q s hq hs
    constructor
    · show f_X1_countCountries_L4 x μ (n + 1) s (nI q) = _
      conv => lhs; unfold f_X1_countCountries_L4
      obtain ⟨c, hc1, hc2, hc3⟩ := hc q hq
      have e97 : nI c - 97 = nI (c - 97) := w_sub (b := 97) hc1
      rw [e, if_neg (by rw [w_le (by omega) (by omega)]; omega), hasBit_eq _ (show q < 32 by omega), Option.bind_some, chk_nI (show q < 20 by omega) (by omega), w_nat (by omega), w_succ, hc3, e97, withBit1, Option.bind_some, w_nat (by omega), Nat.mod_eq_of_lt (show c - 97 < 4 by omega)]
      cases bt x q
      · rw [b2_f, if_pos rfl, if_neg (by simp)]
      · rw [b2_t, if_neg (by decide), if_pos rfl]
    · intro j h1 h2
      by_cases hb : bt x q = true
      · rw [if_pos hb, bt_sb _ _ (by omega) h2, if_neg (by omega)]; exact hs j h1 h2
      · rw [if_neg hb]; exact hs j h1 h2
/-- the component's links are those of nt -/
theorem load_eq {A i hi : Nat} {w : Int32} {μ : Mm} {x : Nat → Nat → Int32} (h : i ≤ hi) (hh : hi ≤ 200) (hb : ∀ q, q < hi → x 0 q = μ 6 q ∧ x 1 q = μ 7 q ∧ ∃ a b, a < 20 ∧ b < 20 ∧ μ 6 q = nI a ∧ μ 7 q = nI b) :
    ∃ μ', f_X5_load_5 (nI i) (nI hi) μ = some μ' ∧ (∀ k, k ≠ 11 → k ≠ 12 → μ' k = μ k) ∧ ∀ j, j < 20 → μ' 11 j = nt x i (hi - i) 11 j ∧ μ' 12 j = nt x i (hi - i) 12 j := by
  have l1 := up_loop (fun n y (m : Mm) => f_X5_load_5_L3 (fun (m4 : Mm) => f_X5_load_5_L35 (nI hi) fuel (nI i) m4) (nI i) (nI hi) n y m) 20 (fun m => f_X5_load_5_L35 (nI hi) fuel (nI i) m) (fun q m => up2 (up2 m 11 q 0) 12 q 0) (fun k m => (∀ c, c ≠ 11 → c ≠ 12 → m c = μ c) ∧ ∀ j, j < k → m 11 j = 0 ∧ m 12 j = 0) ?_ ?_ 20 fuel 0 μ (by omega) (by unfold fuel; omega) ⟨fun c _ _ => rfl, fun j hj => by omega⟩
  · obtain ⟨e1, z1, z2⟩ := l1
    generalize fo (fun q (m : Mm) => up2 (up2 m 11 q 0) 12 q 0) 0 20 μ = μ0 at e1 z1 z2
    have l2 := up_loop (fun n y (m : Mm) => f_X5_load_5_L35 (nI hi) n y m) hi (fun m => some m) (ntS x) (fun _ m => ∀ c, c ≠ 11 → c ≠ 12 → m c = μ c) ?_ ?_ (hi - i) fuel i μ0 (by omega) (by unfold fuel; omega) z1
    · obtain ⟨e2, k2⟩ := l2
      refine ⟨_, ?_, k2, ?_⟩
      · unfold f_X5_load_5
        exact e1.trans e2
      · intro j hj
        unfold nt
        have := fo_rel (g := ntS x) (h := ntS x) (fun _ (a b : Mm) => ∀ j, j < 20 → a 11 j = b 11 j ∧ a 12 j = b 12 j) (hi - i) i μ0 (fun _ _ => 0) z2 (by
          intro q a b hq1 hq2 hab j hj
          unfold ntS
          obtain ⟨x1, x2, pa, pb, ha, hb', e6, e7⟩ := hb q (by omega)
          simp only [x1, x2, e6, e7, w_nat (show pa < 2147483648 by omega), w_nat (show pb < 2147483648 by omega)]
          simp only [up2, upd, show ¬ ((11 : Nat) = 12) by omega, show ¬ ((12 : Nat) = 11) by omega, if_true, if_false, (hab pa ha).1, (hab pa ha).2, (hab pb hb').1, (hab pb hb').2, (hab j hj).1, (hab j hj).2]
          exact ⟨trivial, trivial⟩)
        exact this j hj
    · intro n m _
      show f_X5_load_5_L35 (nI hi) (n + 1) (nI hi) m = _
      unfold f_X5_load_5_L35
      rw [if_pos (by rw [w_le (by omega) (by omega)]; omega)]
    · intro n q m hq hm
      obtain ⟨x1, x2, pa, pb, ha, hb', e6, e7⟩ := hb q (by omega)
      constructor
      · show f_X5_load_5_L35 (nI hi) (n + 1) (nI q) m = _
        conv => lhs; unfold f_X5_load_5_L35
        have m6 : m 6 q = nI pa := by rw [hm 6 (by omega) (by omega)]; exact e6
        have m7 : m 7 q = nI pb := by rw [hm 7 (by omega) (by omega)]; exact e7
        rw [if_neg (by rw [w_le (by omega) (by omega)]; omega)]
        simp only [chk_nI (show q < 200 by omega) (show 200 < 2147483648 by omega), w_nat (show q < 2147483648 by omega), m6, m7, chk_nI ha (show 20 < 2147483648 by omega), chk_nI hb' (show 20 < 2147483648 by omega), w_nat (show pa < 2147483648 by omega), w_nat (show pb < 2147483648 by omega), withBit1, Option.bind_some, setm, w_succ]
        unfold ntS
        simp only [x1, x2, e6, e7, w_nat (show pa < 2147483648 by omega), w_nat (show pb < 2147483648 by omega)]
      · intro c h1 h2
        unfold ntS
        simp only [up2_n h1, up2_n h2]
        exact hm c h1 h2
  · intro n m _
    show f_X5_load_5_L3 _ (nI i) (nI hi) (n + 1) (nI 20) m = _
    unfold f_X5_load_5_L3
    rw [if_pos (by decide)]
  · intro n q m hq hm
    constructor
    · show f_X5_load_5_L3 _ (nI i) (nI hi) (n + 1) (nI q) m = _
      conv => lhs; unfold f_X5_load_5_L3
      rw [if_neg (show ¬ (20 : Int32) ≤ nI q from by rw [show (20 : Int32) = nI 20 from rfl, w_le (by omega) (by omega)]; omega), chk_nI hq (by omega), chk_nI hq (by omega), w_nat (by omega), w_succ]
    · refine ⟨fun c h1 h2 => by rw [up2_n h2, up2_n h1]; exact hm.1 c h1 h2, fun j hj => ?_⟩
      show (if j = q then (0 : Int32) else m 11 j) = 0 ∧ (if j = q then (0 : Int32) else m 12 j) = 0
      by_cases hjq : j = q
      · rw [if_pos hjq, if_pos hjq]; exact ⟨rfl, rfl⟩
      · rw [if_neg hjq, if_neg hjq]; exact hm.2 j (by omega)
