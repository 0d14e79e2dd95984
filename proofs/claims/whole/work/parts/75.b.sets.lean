/-! ===== L3: the component's sets are walks ===== -/
def SB (x : Int32) (S : Nat → Prop) : Prop := ∀ b, b < 32 → (bt x b = true ↔ S b)
theorem fo_or {c : Nat → Bool} {g : Nat → Int32} {j : Nat} : ∀ (m i : Nat) (s : Int32), bt (fo (fun q s => if c q = true then s ||| g q else s) i m s) j = true ↔ bt s j = true ∨ ∃ q, i ≤ q ∧ q < i + m ∧ c q = true ∧ bt (g q) j = true
  | 0, i, s => by
    constructor
    · intro h; exact Or.inl h
    · rintro (h | ⟨q, h1, h2, _⟩)
      · exact h
      · omega
  | m + 1, i, s => by
    show bt (fo _ (i + 1) m (if c i = true then s ||| g i else s)) j = true ↔ _
    rw [fo_or m (i + 1)]
    constructor
    · rintro (h | ⟨q, h1, h2, h3, h4⟩)
      · by_cases hc : c i = true
        · rw [if_pos hc, b_or, Bool.or_eq_true] at h
          rcases h with h | h
          · exact Or.inl h
          · exact Or.inr ⟨i, by omega, by omega, hc, h⟩
        · rw [if_neg hc] at h; exact Or.inl h
      · exact Or.inr ⟨q, by omega, by omega, h3, h4⟩
    · rintro (h | ⟨q, h1, h2, h3, h4⟩)
      · left
        by_cases hc : c i = true
        · rw [if_pos hc, b_or, h]; rfl
        · rw [if_neg hc]; exact h
      · by_cases hq : q = i
        · subst hq
          left
          rw [if_pos h3, b_or, h4, Bool.or_true]
        · exact Or.inr ⟨q, by omega, by omega, h3, h4⟩
/-- the cells n 0 .. n 19 hold the links E -/
def Net (E : Nat → Nat → Prop) (n : Nat → Int32) : Prop := (∀ a, a < 20 → SB (n a) (E a)) ∧ ∀ a b, E a b → a < 20 ∧ b < 20
theorem Net_step {E : Nat → Nat → Prop} {n : Nat → Int32} {x : Int32} {S : Nat → Prop} (hN : Net E n) (hS : SB x S) : SB (fo (fun q s => if bt x q = true then s ||| n q else s) 0 20 0) (fun b => ∃ a, S a ∧ E a b) := by
  intro b hb
  rw [fo_or (c := fun q => bt x q) (g := n) 20 0 0, b_0]
  constructor
  · rintro (h | ⟨q, _, h2, h3, h4⟩)
    · cases h
    · exact ⟨q, (hS q (by omega)).mp h3, (hN.1 q (by omega) b hb).mp h4⟩
  · rintro ⟨a, h1, h2⟩
    have ha := (hN.2 a b h2).1
    exact Or.inr ⟨a, by omega, by omega, (hS a (by omega)).mpr h1, (hN.1 a ha b hb).mpr h2⟩
theorem SB_or {x y : Int32} {S T U : Nat → Prop} (h1 : SB x S) (h2 : SB y T) (h : ∀ b, b < 32 → (U b ↔ S b ∨ T b)) : SB (x ||| y) U := by
  intro b hb
  rw [b_or, Bool.or_eq_true, h b hb, h1 b hb, h2 b hb]
theorem SB_c {x : Int32} {S T : Nat → Prop} (h1 : SB x S) (h : ∀ b, b < 32 → (T b ↔ S b)) : SB x T := by
  intro b hb
  rw [h b hb, h1 b hb]
theorem SB_one {s : Nat} (hs : s < 32) : SB ((1 : Int32) <<< (nI s &&& 31)) (fun b => b = s) := by
  intro b hb
  rw [b_one hs hb, decide_eq_true_iff]
theorem gs_val {E : Nat → Nat → Prop} {s : Nat} {μ : Mm} (hN : Net E (μ 12)) (hs : s < 20) : ∀ (m n j : Nat) (x4 : Int32), SB x4 (Lv E s j) → j + 1 + m = 20 → m < n → ∃ y, SB y (Lv E s 19) ∧ f_X5_groupSize_L6 μ n x4 (nI (j + 1)) = some (nI (pop y))
  | _, 0, _, _, _, _, h => by omega
  | 0, n + 1, j, x4, hx, he, _ => by
    have : j = 19 := by omega
    subst this
    refine ⟨x4, hx, ?_⟩
    unfold f_X5_groupSize_L6
    rw [if_pos (by decide), bc_set]
    · rfl
    · intro i h1 h2
      cases hb : bt x4 i
      · rfl
      · obtain ⟨k, _, hw⟩ := (hx i h2).mp hb
        have := Wk_lt (A := 20) (fun a b h => (hN.2 a b h).2) hs k i hw
        omega
  | m + 1, n + 1, j, x4, hx, he, hn => by
    unfold f_X5_groupSize_L6
    rw [if_neg (show ¬ (20 : Int32) ≤ nI (j + 1) from by rw [show (20 : Int32) = nI 20 from rfl, w_le (by omega) (by omega)]; omega), step12_eq, Option.bind_some, w_succ]
    exact gs_val hN hs m n (j + 1) _ (SB_or hx (Net_step hN hx) (fun b _ => Lv_succ)) (by omega) (by omega)
theorem group_val {E : Nat → Nat → Prop} {s : Nat} {μ : Mm} (hN : Net E (μ 12)) (hs : s < 20) : ∃ y, SB y (Lv E s 19) ∧ f_X5_groupSize (nI s) μ = some (nI (pop y)) :=
  gs_val hN hs 19 fuel 0 _ (SB_c (SB_one (show s < 32 by omega)) (fun b _ => Lv_0)) (by omega) (by unfold fuel; omega)
theorem and_0 {x y : Int32} : x &&& y = 0 ↔ ∀ b, b < 32 → ¬ (bt x b = true ∧ bt y b = true) := by
  constructor
  · intro h b hb ⟨h1, h2⟩
    have : bt (x &&& y) b = true := by rw [b_and, h1, h2]; rfl
    rw [h, b_0] at this; cases this
  · intro h
    apply b_ext
    intro i hi
    rw [b_and, b_0]
    cases h1 : bt x i
    · rfl
    · cases h2 : bt y i
      · rfl
      · exact absurd ⟨h1, h2⟩ (h i hi)
/-- the least number of links to one of g -/
def Ll (E : Nat → Nat → Prop) (s : Nat) (g : Nat → Prop) (r : Int32) : Prop := (r = 99 ∧ ∀ j, j < 20 → ∀ b, b < 32 → ¬ (Lv E s j b ∧ g b)) ∨ ∃ k, k < 20 ∧ r = nI k ∧ (∃ b, b < 32 ∧ Lv E s k b ∧ g b) ∧ ∀ j, j < k → ∀ b, b < 32 → ¬ (Lv E s j b ∧ g b)
theorem ll_val {E : Nat → Nat → Prop} {s : Nat} {x2 : Int32} {μ : Mm} (hN : Net E (μ 12)) : ∀ (m n k : Nat) (x4 : Int32), SB x4 (Lv E s k) → k + m = 20 → m < n → (∀ j, j < k → ∀ b, b < 32 → ¬ (Lv E s j b ∧ bt x2 b = true)) → ∃ r, f_X5_leastLinks_L8 x2 99 μ n x4 (nI k) = some r ∧ Ll E s (fun b => bt x2 b = true) r
  | _, 0, _, _, _, _, h, _ => by omega
  | 0, n + 1, k, x4, hx, he, _, hno => by
    have : k = 20 := by omega
    subst this
    refine ⟨99, ?_, Or.inl ⟨rfl, hno⟩⟩
    unfold f_X5_leastLinks_L8
    rw [if_pos (by decide)]
  | m + 1, n + 1, k, x4, hx, he, hn, hno => by
    unfold f_X5_leastLinks_L8
    rw [if_neg (show ¬ (20 : Int32) ≤ nI k from by rw [show (20 : Int32) = nI 20 from rfl, w_le (by omega) (by omega)]; omega)]
    by_cases h : x4 &&& x2 = 0
    · rw [if_pos h, step12_eq, Option.bind_some, w_succ]
      refine ll_val hN m n (k + 1) _ (SB_or hx (Net_step hN hx) (fun b _ => Lv_succ)) (by omega) (by omega) ?_
      intro j hj b hb ⟨h1, h2⟩
      by_cases hjk : j = k
      · subst hjk
        exact and_0.mp h b hb ⟨(hx b hb).mpr h1, h2⟩
      · exact hno j (by omega) b hb ⟨h1, h2⟩
    · rw [if_neg h]
      refine ⟨nI k, rfl, Or.inr ⟨k, by omega, rfl, ?_, hno⟩⟩
      apply Classical.byContradiction
      intro hc
      exact h (and_0.mpr (fun b hb ⟨h1, h2⟩ => hc ⟨b, hb, (hx b hb).mp h1, h2⟩))
theorem links_val {E : Nat → Nat → Prop} {s : Nat} {x2 : Int32} {μ : Mm} (hN : Net E (μ 12)) (hs : s < 20) : ∃ r, f_X5_leastLinks (nI s) x2 99 μ = some r ∧ Ll E s (fun b => bt x2 b = true) r :=
  ll_val hN 20 fuel 0 _ (SB_c (SB_one (show s < 32 by omega)) (fun b _ => Lv_0)) (by omega) (by unfold fuel; omega) (fun j hj => by omega)
/-- the length of the shortest way from s to t with at least one payment -/
def Sw (E : Nat → Nat → Prop) (s t : Nat) (r : Int32) : Prop := (r = -1 ∧ ∀ i, 1 ≤ i → i ≤ 20 → ¬ Wk E s i t) ∨ ∃ k, 1 ≤ k ∧ k ≤ 20 ∧ r = nI k ∧ Wk E s k t ∧ ∀ i, 1 ≤ i → i < k → ¬ Wk E s i t
theorem Sw_uniq {E : Nat → Nat → Prop} {s t : Nat} {r r' : Int32} (h1 : Sw E s t r) (h2 : Sw E s t r') : r = r' := by
  rcases h1 with ⟨a1, a2⟩ | ⟨k, a1, a2, a3, a4, a5⟩ <;> rcases h2 with ⟨b1, b2⟩ | ⟨l, b1, b2, b3, b4, b5⟩
  · rw [a1, b1]
  · exact absurd b4 (a2 l b1 b2)
  · exact absurd a4 (b2 k a1 a2)
  · rw [a3, b3]
    rcases Nat.lt_trichotomy k l with h | h | h
    · exact absurd a4 (b5 k a1 h)
    · rw [h]
    · exact absurd b4 (a5 l b1 h)
def Fr (E : Nat → Nat → Prop) (s k b : Nat) : Prop := Wk E s k b ∧ ∀ i, 1 ≤ i → i < k → ¬ Wk E s i b
theorem Fr_succ {E : Nat → Nat → Prop} {s k b : Nat} : Fr E s (k + 1) b ↔ (∃ a, Fr E s k a ∧ E a b) ∧ ¬ ∃ i, 1 ≤ i ∧ i ≤ k ∧ Wk E s i b := by
  constructor
  · rintro ⟨⟨a, h1, h2⟩, h3⟩
    have hno : ¬ ∃ i, 1 ≤ i ∧ i ≤ k ∧ Wk E s i b := fun ⟨i, g1, g2, g3⟩ => h3 i g1 (by omega) g3
    refine ⟨⟨a, ⟨h1, fun i g1 g2 g3 => ?_⟩, h2⟩, hno⟩
    exact hno ⟨i + 1, by omega, by omega, a, g3, h2⟩
  · rintro ⟨⟨a, h1, h2⟩, h3⟩
    exact ⟨⟨a, h1.1, h2⟩, fun i g1 g2 g3 => h3 ⟨i, g1, by omega, g3⟩⟩
theorem sw_val {E : Nat → Nat → Prop} {s t : Nat} {μ : Mm} (hN : Net E (μ 11)) (ht : t < 32) : ∀ (m n j : Nat) (x3 x4 : Int32), SB x4 (Fr E s j) → SB x3 (fun b => ∃ i, 1 ≤ i ∧ i ≤ j ∧ Wk E s i b) → j + 1 + m = 21 → m < n → (∀ i, 1 ≤ i → i ≤ j → ¬ Wk E s i t) → ∃ r, f_X5_shortestWay_L10 (nI t) μ n x3 x4 (nI (j + 1)) = some r ∧ Sw E s t r
  | _, 0, _, _, _, _, _, _, h, _ => by omega
  | 0, n + 1, j, x3, x4, hx, hy, he, _, hno => by
    have : j = 20 := by omega
    subst this
    refine ⟨-1, ?_, Or.inl ⟨rfl, hno⟩⟩
    unfold f_X5_shortestWay_L10
    rw [if_pos (by decide)]
  | m + 1, n + 1, j, x3, x4, hx, hy, he, hn, hno => by
    unfold f_X5_shortestWay_L10
    rw [if_neg (show ¬ (20 : Int32) < nI (j + 1) from by rw [show (20 : Int32) = nI 20 from rfl, w_lt (by omega) (by omega)]; omega), step11_eq, Option.bind_some]
    have hz : SB (fo (fun q s => if bt x4 q = true then s ||| μ 11 q else s) 0 20 0 &&& (x3 ^^^ (-1))) (Fr E s (j + 1)) := by
      intro b hb
      have h1 := Net_step hN hx b hb
      have h2 := hy b hb
      rw [b_and, b_xor, b_m1 b hb, Fr_succ, Bool.and_eq_true, h1]
      have e : ((bt x3 b) ^^ true) = true ↔ ¬ (bt x3 b = true) := by cases bt x3 b <;> simp
      rw [e, h2]
    generalize fo (fun q s => if bt x4 q = true then s ||| μ 11 q else s) 0 20 0 &&& (x3 ^^^ (-1)) = z at hz ⊢
    rw [hasBit_eq _ ht, Option.bind_some, w_succ]
    cases hzt : bt z t
    · rw [b2_f, if_pos rfl]
      have hnt : ¬ Fr E s (j + 1) t := fun h => by
        have := (hz t ht).mpr h
        rw [hzt] at this; cases this
      refine sw_val hN ht m n (j + 1) _ _ hz (SB_or hy hz (fun b _ => ?_)) (by omega) (by omega) ?_
      · constructor
        · rintro ⟨i, h1, h2, h3⟩
          by_cases hi : i ≤ j
          · exact Or.inl ⟨i, h1, hi, h3⟩
          · have : i = j + 1 := by omega
            subst this
            rcases Classical.em (∃ i, 1 ≤ i ∧ i ≤ j ∧ Wk E s i b) with g | g
            · exact Or.inl g
            · exact Or.inr ⟨h3, fun i g1 g2 g3 => g ⟨i, g1, by omega, g3⟩⟩
        · rintro (⟨i, h1, h2, h3⟩ | h)
          · exact ⟨i, h1, by omega, h3⟩
          · exact ⟨j + 1, by omega, by omega, h.1⟩
      · intro i h1 h2 h3
        by_cases hi : i ≤ j
        · exact hno i h1 hi h3
        · have : i = j + 1 := by omega
          subst this
          exact hnt ⟨h3, fun i g1 g2 => hno i g1 (by omega)⟩
    · rw [b2_t, if_neg (by decide)]
      obtain ⟨g1, g2⟩ := (hz t ht).mp hzt
      exact ⟨nI (j + 1), rfl, Or.inr ⟨j + 1, by omega, by omega, rfl, g1, g2⟩⟩
theorem way_val {E : Nat → Nat → Prop} {s t : Nat} {μ : Mm} (hN : Net E (μ 11)) (hs : s < 20) (ht : t < 32) : ∃ r, f_X5_shortestWay (nI s) (nI t) μ = some r ∧ Sw E s t r :=
  sw_val hN ht 20 fuel 0 0 _ (SB_c (SB_one (show s < 32 by omega)) (fun b _ => ⟨fun h => h.1, fun h => ⟨h, fun i h1 h2 => by omega⟩⟩)) (fun b _ => by rw [b_0]; exact ⟨fun h => (by cases h), fun ⟨i, h1, h2, _⟩ => by omega⟩) (by omega) (by unfold fuel; omega) (fun i h1 h2 => by omega)
theorem st_val {E : Nat → Nat → Prop} {s t : Nat} {μ : Mm} (hN : Net E (μ 11)) (ht : t < 32) : ∀ (m n j : Nat) (x3 : Int32), SB x3 (Wk E s j) → j + 1 + m = 21 → m < n → (∀ i, 1 ≤ i → i ≤ j → ¬ Wk E s i t) → ∃ r, f_X5_shortestWayByTrying_L7 (nI t) μ n x3 (nI (j + 1)) = some r ∧ Sw E s t r
  | _, 0, _, _, _, _, h, _ => by omega
  | 0, n + 1, j, x3, hx, he, _, hno => by
    have : j = 20 := by omega
    subst this
    refine ⟨-1, ?_, Or.inl ⟨rfl, hno⟩⟩
    unfold f_X5_shortestWayByTrying_L7
    rw [if_pos (by decide)]
  | m + 1, n + 1, j, x3, hx, he, hn, hno => by
    unfold f_X5_shortestWayByTrying_L7
    rw [if_neg (show ¬ (20 : Int32) < nI (j + 1) from by rw [show (20 : Int32) = nI 20 from rfl, w_lt (by omega) (by omega)]; omega), step11_eq, Option.bind_some]
    have hz : SB (fo (fun q s => if bt x3 q = true then s ||| μ 11 q else s) 0 20 0) (Wk E s (j + 1)) := Net_step hN hx
    generalize fo (fun q s => if bt x3 q = true then s ||| μ 11 q else s) 0 20 0 = z at hz ⊢
    rw [hasBit_eq _ ht, Option.bind_some, w_succ]
    cases hzt : bt z t
    · rw [b2_f, if_pos rfl]
      refine st_val hN ht m n (j + 1) _ hz (by omega) (by omega) ?_
      intro i h1 h2 h3
      by_cases hi : i ≤ j
      · exact hno i h1 hi h3
      · have : i = j + 1 := by omega
        subst this
        have := (hz t ht).mpr h3
        rw [hzt] at this; cases this
    · rw [b2_t, if_neg (by decide)]
      exact ⟨nI (j + 1), rfl, Or.inr ⟨j + 1, by omega, by omega, rfl, (hz t ht).mp hzt, fun i g1 g2 => hno i g1 (by omega)⟩⟩
theorem try_val {E : Nat → Nat → Prop} {s t : Nat} {μ : Mm} (hN : Net E (μ 11)) (hs : s < 20) (ht : t < 32) : ∃ r, f_X5_shortestWayByTrying (nI s) (nI t) μ = some r ∧ Sw E s t r :=
  st_val hN ht 20 fuel 0 _ (SB_one (show s < 32 by omega)) (by omega) (by unfold fuel; omega) (fun i h1 h2 => by omega)
theorem Ed_succ {both : Bool} {W : Nat → Bool} {pa pb : Nat → Nat} {q a b : Nat} : Ed both W pa pb (q + 1) a b ↔ Ed both W pa pb q a b ∨ (W q = true ∧ ((pa q = a ∧ pb q = b) ∨ (both = true ∧ pb q = a ∧ pa q = b))) := by
  constructor
  · rintro ⟨x, h1, h2, h3⟩
    by_cases hx : x = q
    · subst hx; exact Or.inr ⟨h2, h3⟩
    · exact Or.inl ⟨x, by omega, h2, h3⟩
  · rintro (⟨x, h1, h2, h3⟩ | ⟨h2, h3⟩)
    · exact ⟨x, by omega, h2, h3⟩
    · exact ⟨q, by omega, h2, h3⟩
theorem nt_bits {x : Nat → Nat → Int32} {pa pb : Nat → Nat} {i m : Nat} (hp : ∀ q, i ≤ q → q < i + m → pa q < 20 ∧ pb q < 20 ∧ x 0 q = nI (pa q) ∧ x 1 q = nI (pb q)) :
    ∀ a b, a < 20 → b < 32 → (bt (nt x i m 11 a) b = true ↔ Ed false (fun q => decide (i ≤ q)) pa pb (i + m) a b) ∧ (bt (nt x i m 12 a) b = true ↔ Ed true (fun q => decide (i ≤ q)) pa pb (i + m) a b) := by
  unfold nt
  refine fo_inv (g := ntS x) (fun k (s : Mm) => ∀ a b, a < 20 → b < 32 → (bt (s 11 a) b = true ↔ Ed false (fun q => decide (i ≤ q)) pa pb k a b) ∧ (bt (s 12 a) b = true ↔ Ed true (fun q => decide (i ≤ q)) pa pb k a b)) m i (fun _ _ => 0) ?_ ?_
  · intro a b ha hb
    have no : ∀ both, ¬ Ed both (fun q => decide (i ≤ q)) pa pb i a b := by
      rintro both ⟨y, h1, h2, _⟩
      have := of_decide_eq_true h2
      omega
    constructor
    · exact ⟨fun h => (by rw [b_0] at h; cases h), fun h => absurd h (no _)⟩
    · exact ⟨fun h => (by rw [b_0] at h; cases h), fun h => absurd h (no _)⟩
  · intro q s h1 h2 hI a b ha hb
    obtain ⟨p1, p2, p3, p4⟩ := hp q h1 h2
    obtain ⟨i1, i2⟩ := hI a b ha hb
    have hw : (fun q => decide (i ≤ q)) q = true := decide_eq_true h1
    rw [Ed_succ, Ed_succ]
    unfold ntS
    simp only [p3, p4, w_nat (show pa q < 2147483648 by omega), w_nat (show pb q < 2147483648 by omega)]
    simp only [up2, upd, show ¬ ((11 : Nat) = 12) by omega, show ¬ ((12 : Nat) = 11) by omega, if_true, if_false]
    constructor
    · by_cases c1 : a = pa q
      · subst c1
        rw [if_pos rfl, bt_sb _ _ (by omega) hb]
        by_cases c2 : b = pb q
        · subst c2
          rw [if_pos rfl]
          exact ⟨fun _ => Or.inr ⟨hw, Or.inl ⟨rfl, rfl⟩⟩, fun _ => rfl⟩
        · rw [if_neg c2, i1]
          refine ⟨Or.inl, ?_⟩
          rintro (h | ⟨_, ⟨_, h⟩ | ⟨h, _⟩⟩)
          · exact h
          · exact absurd h.symm c2
          · cases h
      · rw [if_neg c1, i1]
        refine ⟨Or.inl, ?_⟩
        rintro (h | ⟨_, ⟨h, _⟩ | ⟨h, _⟩⟩)
        · exact h
        · exact absurd h.symm c1
        · cases h
    · obtain ⟨_, j2⟩ := hI (pa q) b p1 hb
      obtain ⟨_, j3⟩ := hI (pb q) b p2 hb
      have key : bt (if a = pb q then sb (if pb q = pa q then sb (s 12 (pa q)) (pb q) true else s 12 (pb q)) (pa q) true else if a = pa q then sb (s 12 (pa q)) (pb q) true else s 12 a) b = true ↔ bt (s 12 a) b = true ∨ (pa q = a ∧ pb q = b) ∨ (pb q = a ∧ pa q = b) := by
        by_cases c1 : a = pb q
        · subst c1
          rw [if_pos rfl, bt_sb _ _ (by omega) hb]
          by_cases c2 : b = pa q
          · rw [if_pos c2]
            exact ⟨fun _ => Or.inr (Or.inr ⟨rfl, c2.symm⟩), fun _ => rfl⟩
          · rw [if_neg c2]
            by_cases c3 : pb q = pa q
            · rw [if_pos c3, bt_sb _ _ (by omega) hb, if_neg (by rw [c3]; exact c2), c3]
              refine ⟨Or.inl, ?_⟩
              rintro (h | ⟨_, h⟩ | ⟨_, h⟩)
              · exact h
              · exact absurd h.symm c2
              · exact absurd h.symm c2
            · rw [if_neg c3]
              refine ⟨Or.inl, ?_⟩
              rintro (h | ⟨h, _⟩ | ⟨_, h⟩)
              · exact h
              · exact absurd h.symm c3
              · exact absurd h.symm c2
        · rw [if_neg c1]
          by_cases c3 : a = pa q
          · subst c3
            rw [if_pos rfl, bt_sb _ _ (by omega) hb]
            by_cases c2 : b = pb q
            · rw [if_pos c2]
              exact ⟨fun _ => Or.inr (Or.inl ⟨rfl, c2.symm⟩), fun _ => rfl⟩
            · rw [if_neg c2]
              refine ⟨Or.inl, ?_⟩
              rintro (h | ⟨_, h⟩ | ⟨h, _⟩)
              · exact h
              · exact absurd h.symm c2
              · exact absurd h.symm c1
          · rw [if_neg c3]
            refine ⟨Or.inl, ?_⟩
            rintro (h | ⟨h, _⟩ | ⟨h, _⟩)
            · exact h
            · exact absurd h.symm c3
            · exact absurd h.symm c1
      rw [key, i2]
      constructor
      · rintro (h | h | h)
        · exact Or.inl h
        · exact Or.inr ⟨hw, Or.inl h⟩
        · exact Or.inr ⟨hw, Or.inr ⟨trivial, h⟩⟩
      · rintro (h | ⟨_, h | ⟨_, h⟩⟩)
        · exact Or.inl h
        · exact Or.inr (Or.inl h)
        · exact Or.inr (Or.inr h)
theorem Ed_lt {both : Bool} {W : Nat → Bool} {pa pb : Nat → Nat} {A M : Nat} (hp : ∀ q, q < M → pa q < A ∧ pb q < A) {a b : Nat} (h : Ed both W pa pb M a b) : a < A ∧ b < A := by
  obtain ⟨x, hx, _, ⟨c1, c2⟩ | ⟨_, c1, c2⟩⟩ := h
  · rw [← c1, ← c2]; exact hp x hx
  · rw [← c1, ← c2]; exact ⟨(hp x hx).2, (hp x hx).1⟩
theorem nt_Net {x : Nat → Nat → Int32} {pa pb : Nat → Nat} {i M : Nat} (hi : i ≤ M) (hp : ∀ q, q < M → pa q < 20 ∧ pb q < 20 ∧ x 0 q = nI (pa q) ∧ x 1 q = nI (pb q)) :
    Net (Ed false (fun q => decide (i ≤ q)) pa pb M) (nt x i (M - i) 11) ∧ Net (Ed true (fun q => decide (i ≤ q)) pa pb M) (nt x i (M - i) 12) := by
  have hb := nt_bits (x := x) (pa := pa) (pb := pb) (i := i) (m := M - i) (fun q h1 h2 => hp q (by omega))
  rw [show i + (M - i) = M by omega] at hb
  have hl : ∀ q, q < M → pa q < 20 ∧ pb q < 20 := fun q hq => ⟨(hp q hq).1, (hp q hq).2.1⟩
  exact ⟨⟨fun a ha b hb' => (hb a b ha hb').1, fun a b h => Ed_lt hl h⟩, ⟨fun a ha b hb' => (hb a b ha hb').2, fun a b h => Ed_lt hl h⟩⟩
