/-! ===== L3: numbers, loops ===== -/
theorem w_int {n : Nat} (h : n < 2147483648) : (nI n).toInt = n := Int32.toInt_ofNat_of_lt h
theorem w_nat {n : Nat} (h : n < 2147483648) : (nI n).toNatClampNeg = n := Int32.toNatClampNeg_ofNat_of_lt h
theorem w_lt {a b : Nat} (ha : a < 2147483648) (hb : b < 2147483648) : (nI a < nI b) ↔ a < b := by
  rw [Int32.lt_iff_toInt_lt, w_int ha, w_int hb]; omega
theorem w_le {a b : Nat} (ha : a < 2147483648) (hb : b < 2147483648) : (nI a ≤ nI b) ↔ a ≤ b := by
  rw [Int32.le_iff_toInt_le, w_int ha, w_int hb]; omega
theorem w_eq {a b : Nat} (ha : a < 2147483648) (hb : b < 2147483648) : (nI a = nI b) ↔ a = b := by
  constructor
  · intro h
    have := congrArg Int32.toInt h
    rw [w_int ha, w_int hb] at this; omega
  · intro h; rw [h]
theorem w_add (a b : Nat) : nI a + nI b = nI (a + b) := (Int32.ofNat_add a b).symm
theorem w_succ (a : Nat) : nI a + 1 = nI (a + 1) := w_add a 1
theorem w_mul (a b : Nat) : nI a * nI b = nI (a * b) := (Int32.ofNat_mul a b).symm
theorem w_sub {a b : Nat} (h : b ≤ a) : nI a - nI b = nI (a - b) := by
  have h2 : nI (a - b) + nI b = nI a := by rw [w_add]; congr 1; omega
  rw [← h2]; exact Int32.add_sub_cancel _ _
theorem w_pred (a : Nat) : nI (a + 1) - 1 = nI a := by
  have := w_sub (a := a + 1) (b := 1) (by omega); exact this
theorem w_inj {x : Int32} (h0 : 0 ≤ x.toInt) : x = nI x.toInt.toNat := by
  apply Int32.toInt_inj.mp
  have h1 : x.toInt < 2147483648 := Int32.toInt_lt x
  rw [w_int (by omega)]; omega
theorem chk_nI {α : Type} {i n : Nat} {k : Option α} (h : i < n) (hn : n < 2147483648) : chk (nI i) n k = k := by
  unfold chk inb
  rw [w_int (by omega)]
  rw [if_pos]
  simp only [Bool.and_eq_true, decide_eq_true_eq]; omega
theorem chk0 {α : Type} {k : Option α} : chk 0 1 k = k := chk_nI (i := 0) (n := 1) (by omega) (by omega)
theorem idx_cases (a : Int32) (A : Nat) : (a.toInt < 0 ∨ (A : Int) ≤ a.toInt) ∨ ∃ j, j < A ∧ a = nI j := by
  rcases Int.lt_or_le a.toInt 0 with h | h
  · exact Or.inl (Or.inl h)
  rcases Int.lt_or_le a.toInt A with h2 | h2
  · exact Or.inr ⟨a.toInt.toNat, by omega, w_inj h⟩
  · exact Or.inl (Or.inr h2)
theorem gnz0 {α : Type} {k : Option α} : gn .boolean 0 k = k := by
  unfold gn; rw [if_pos]; rfl
theorem gnz1 {α : Type} {k : Option α} : gn .boolean 1 k = k := by
  unfold gn; rw [if_pos]; rfl
theorem narc {c : Nat} (h : c < 65536) : vp_nar .char (nI c) = nI c := by
  show ((nI c).toUInt32 % 65536).toInt32 = nI c
  apply Int32.toBitVec_inj.mp
  apply BitVec.eq_of_toNat_eq
  have e : (nI c).toBitVec.toNat = c := by
    show (BitVec.ofNat 32 c).toNat = c
    rw [BitVec.toNat_ofNat]; omega
  show (((nI c).toBitVec % 65536#32)).toNat = _
  rw [BitVec.toNat_umod, e]
  simp; omega
theorem gnc {α : Type} {c : Nat} {k : Option α} (h : c < 65536) : gn .char (nI c) k = k := by
  unfold gn; rw [if_pos (narc h)]
/-- a fold over [i, i+m) -/
def fo {α : Type} (g : Nat → α → α) : Nat → Nat → α → α
  | _, 0, a => a
  | i, m + 1, a => fo g (i + 1) m (g i a)
theorem fo_congr {α : Type} {g h : Nat → α → α} : ∀ (m i : Nat) (a : α), (∀ q, i ≤ q → q < i + m → ∀ b, g q b = h q b) → fo g i m a = fo h i m a
  | 0, _, _, _ => rfl
  | m + 1, i, a, hh => by
    unfold fo
    rw [hh i (by omega) (by omega)]
    exact fo_congr m (i + 1) _ (fun q h1 h2 b => hh q (by omega) (by omega) b)
theorem fo_id {α : Type} {g : Nat → α → α} : ∀ (m i : Nat) (a : α), (∀ q, i ≤ q → q < i + m → ∀ b, g q b = b) → fo g i m a = a
  | 0, _, _, _ => rfl
  | m + 1, i, a, hh => by
    unfold fo
    rw [hh i (by omega) (by omega)]
    exact fo_id m (i + 1) _ (fun q h1 h2 b => hh q (by omega) (by omega) b)
theorem fo_add {α : Type} {g : Nat → α → α} : ∀ (m n i : Nat) (a : α), fo g i (m + n) a = fo g (i + m) n (fo g i m a)
  | 0, n, i, a => by simp [fo]
  | m + 1, n, i, a => by
    have e : m + 1 + n = (m + n) + 1 := by omega
    rw [e]
    show fo g (i + 1) (m + n) (g i a) = _
    rw [fo_add m n (i + 1)]
    have e2 : i + 1 + m = i + (m + 1) := by omega
    rw [e2]
    rfl
theorem fo_succ {α : Type} {g : Nat → α → α} (m i : Nat) (a : α) : fo g i (m + 1) a = g (i + m) (fo g i m a) := by
  rw [fo_add m 1]; rfl
/-- an invariant of a fold -/
theorem fo_inv {α : Type} {g : Nat → α → α} (I : Nat → α → Prop) : ∀ (m i : Nat) (a : α), I i a → (∀ q b, i ≤ q → q < i + m → I q b → I (q + 1) (g q b)) → I (i + m) (fo g i m a)
  | 0, i, a, h, _ => h
  | m + 1, i, a, h, hs => by
    have e : i + (m + 1) = (i + 1) + m := by omega
    rw [e]
    exact fo_inv I m (i + 1) _ (hs i a (by omega) (by omega) h) (fun q b h1 h2 => hs q b (by omega) (by omega))
/-- a relation of two folds -/
theorem fo_rel {α β : Type} {g : Nat → α → α} {h : Nat → β → β} (I : Nat → α → β → Prop) : ∀ (m i : Nat) (a : α) (b : β), I i a b → (∀ q a b, i ≤ q → q < i + m → I q a b → I (q + 1) (g q a) (h q b)) → I (i + m) (fo g i m a) (fo h i m b)
  | 0, i, a, b, hI, _ => hI
  | m + 1, i, a, b, hI, hs => by
    have e : i + (m + 1) = (i + 1) + m := by omega
    rw [e]
    exact fo_rel I m (i + 1) _ _ (hs i a b (by omega) (by omega) hI) (fun q a b h1 h2 => hs q a b (by omega) (by omega))
/-- a loop that counts up and never leaves early -/
theorem up_loop {σ ρ : Type} (F : Nat → Int32 → σ → Option ρ) (P : Nat) (K : σ → Option ρ) (g : Nat → σ → σ) (I : Nat → σ → Prop)
    (h0 : ∀ n s, I P s → F (n + 1) (nI P) s = K s)
    (h1 : ∀ n i s, i < P → I i s → F (n + 1) (nI i) s = F n (nI (i + 1)) (g i s) ∧ I (i + 1) (g i s)) :
    ∀ (m n i : Nat) (s : σ), i + m = P → m < n → I i s → F n (nI i) s = K (fo g i m s) ∧ I P (fo g i m s)
  | 0, 0, _, _, _, h, _ => by omega
  | 0, n + 1, i, s, he, _, hI => by
    have : i = P := by omega
    subst this
    exact ⟨h0 n s hI, hI⟩
  | m + 1, 0, _, _, _, h, _ => by omega
  | m + 1, n + 1, i, s, he, hn, hI => by
    obtain ⟨e, hI2⟩ := h1 n i s (by omega) hI
    rw [e]
    exact up_loop F P K g I h0 h1 m n (i + 1) (g i s) (by omega) (by omega) hI2
theorem up_loop' {σ ρ : Type} (F : Nat → Int32 → σ → Option ρ) (P : Nat) (K : σ → Option ρ) (g : Nat → σ → σ)
    (h0 : ∀ n s, F (n + 1) (nI P) s = K s)
    (h1 : ∀ n i s, i < P → F (n + 1) (nI i) s = F n (nI (i + 1)) (g i s))
    (m n i : Nat) (s : σ) (he : i + m = P) (hn : m < n) : F n (nI i) s = K (fo g i m s) :=
  (up_loop F P K g (fun _ _ => True) (fun n s _ => h0 n s) (fun n i s hi _ => ⟨h1 n i s hi, trivial⟩) m n i s he hn trivial).1
/-- the first of [i, P) that has p, or P -/
def fst1 (p : Nat → Bool) : Nat → Nat → Nat
  | i, 0 => i
  | i, m + 1 => if p i = true then i else fst1 p (i + 1) m
theorem fst1_ge {p : Nat → Bool} : ∀ (m i : Nat), i ≤ fst1 p i m
  | 0, i => Nat.le_refl i
  | m + 1, i => by
    unfold fst1
    by_cases h : p i = true
    · rw [if_pos h]; exact Nat.le_refl i
    · rw [if_neg h]; exact Nat.le_trans (by omega) (fst1_ge m (i + 1))
theorem fst1_le {p : Nat → Bool} : ∀ (m i : Nat), fst1 p i m ≤ i + m
  | 0, i => Nat.le_refl i
  | m + 1, i => by
    unfold fst1
    by_cases h : p i = true
    · rw [if_pos h]; omega
    · rw [if_neg h]; have := fst1_le (p := p) m (i + 1); omega
theorem fst1_no {p : Nat → Bool} : ∀ (m i q : Nat), i ≤ q → q < fst1 p i m → p q = false
  | 0, i, q, h1, h2 => by simp only [fst1] at h2; omega
  | m + 1, i, q, h1, h2 => by
    unfold fst1 at h2
    by_cases h : p i = true
    · rw [if_pos h] at h2; omega
    · rw [if_neg h] at h2
      rcases Nat.eq_or_lt_of_le h1 with e | e
      · subst e; simpa using h
      · exact fst1_no m (i + 1) q (by omega) h2
theorem fst1_yes {p : Nat → Bool} : ∀ (m i : Nat), fst1 p i m < i + m → p (fst1 p i m) = true
  | 0, i, h => by simp only [fst1] at h; omega
  | m + 1, i, h => by
    unfold fst1 at h ⊢
    by_cases h2 : p i = true
    · rw [if_pos h2]; exact h2
    · rw [if_neg h2] at h ⊢
      exact fst1_yes m (i + 1) (by omega)
/-- a loop that counts up and leaves at the first hit -/
theorem find_loop {ρ : Type} (F : Nat → Int32 → Option ρ) (P : Nat) (K : Nat → Option ρ) (p : Nat → Bool)
    (h0 : ∀ n, F (n + 1) (nI P) = K P)
    (h1 : ∀ n i, i < P → F (n + 1) (nI i) = if p i = true then K i else F n (nI (i + 1))) :
    ∀ (m n i : Nat), i + m = P → m < n → F n (nI i) = K (fst1 p i m)
  | 0, 0, _, _, h => by omega
  | 0, n + 1, i, he, _ => by
    have : i = P := by omega
    subst this
    exact h0 n
  | m + 1, 0, _, _, h => by omega
  | m + 1, n + 1, i, he, hn => by
    rw [h1 n i (by omega)]
    unfold fst1
    by_cases h : p i = true
    · rw [if_pos h, if_pos h]
    · rw [if_neg h, if_neg h]
      exact find_loop F P K p h0 h1 m n (i + 1) (by omega) (by omega)
