/-! ===== L3: what a value is, what a condition says: words over the payments up to p ===== -/
/-- payer, receiver, amount, minute, receiver's country, payer's opening -/
def dat (ν : Mm) : Nat → Nat → Int32
  | 0, q => ν 3 q
  | 1, q => ν 4 q
  | 2, q => ν 5 q
  | 3, q => ν 6 q
  | 4, q => ν 1 (ν 4 q).toNatClampNeg
  | 5, q => ν 2 (ν 3 q).toNatClampNeg
  | _, _ => 0
def cut (ν : Mm) (p : Nat) : Nat → Nat → Int32 := fun k q => if q ≤ p then dat ν k q else 0
def inW (x : Nat → Nat → Int32) (w : Int32) (p q : Nat) : Bool := decide (x 3 p - w < x 3 q)
def lo (x : Nat → Nat → Int32) (w : Int32) (p : Nat) : Nat := fst1 (inW x w p) 0 (p + 1)
def ntS (x : Nat → Nat → Int32) (q : Nat) (s : Mm) : Mm :=
  let a := (x 0 q).toNatClampNeg
  let b := (x 1 q).toNatClampNeg
  let s1 := up2 s 11 a (sb (s 11 a) b true)
  let s2 := up2 s1 12 a (sb (s1 12 a) b true)
  up2 s2 12 b (sb (s2 12 b) a true)
/-- who paid whom, who is linked to whom, by the payments of [i, i+m) -/
def nt (x : Nat → Nat → Int32) (i m : Nat) : Mm := fo (ntS x) i m (fun _ _ => 0)
def pop (x : Int32) : Nat := fb_ct (fun i => bt x i) 32
def recS (x : Nat → Nat → Int32) (a : Int32) (q : Nat) (s : Int32) : Int32 := if x 0 q = a then sb s (x 1 q).toNatClampNeg true else s
def cnyS (x : Nat → Nat → Int32) (a : Int32) (q : Nat) (s : Int32) : Int32 := if x 0 q = a then sb s ((x 4 q).toNatClampNeg - 97) true else s
def sumS (x : Nat → Nat → Int32) (k : Nat) (a : Int32) (q : Nat) (s : Int32) : Int32 := if x k q = a then s + x 2 q else s
def cntS (x : Nat → Nat → Int32) (a l h : Int32) (q : Nat) (s : Int32) : Int32 := if x 0 q = a then (if x 2 q < l then s else if h < x 2 q then s else s + 1) else s
def maxS (x : Nat → Nat → Int32) (a : Int32) (q : Nat) (s : Int32) : Int32 := if x 0 q = a then (if x 2 q ≤ s then s else x 2 q) else s
def sameP (x : Nat → Nat → Int32) (p q : Nat) : Bool := decide (x 0 q = x 0 p) && decide (x 1 q = x 1 p)
/-- the last of [0, p) that x 0 has in common with p, or 99999 -/
def lastM (x : Nat → Nat → Int32) (p : Nat) : Nat → Int32
  | 0 => 99999
  | m + 1 => if x 0 m = x 0 p then x 3 p - x 3 m else lastM x p m
def V (x : Nat → Nat → Int32) (f w : Int32) (mk : Int32) (p : Nat) : Int32 :=
  let i := lo x w p
  let m := p + 1 - i
  if f = 97 then x 3 p - x 5 p
  else if f = 99 then nI (pop (fo (cnyS x (x 0 p)) i m 0))
  else if f = 100 then (f_X5_leastLinks (x 1 p) mk 99 (nt x i m)).getD 0
  else if f = 102 then (if fst1 (sameP x p) 0 p = p then 1 else 0)
  else if f = 103 then (f_X5_groupSize (x 0 p) (nt x i m)).getD 0
  else if f = 105 then fo (sumS x 1 (x 0 p)) i m 0
  else if f = 108 then fo (cntS x (x 0 p) 900 999) i m 0
  else if f = 109 then fo (maxS x (x 0 p)) i m 0
  else if f = 110 then fo (cntS x (x 0 p) 1 9999) i m 0
  else if f = 113 then lastM x p p
  else if f = 114 then nI (pop (fo (recS x (x 0 p)) i m 0))
  else if f = 115 then fo (sumS x 0 (x 0 p)) i m 0
  else (match f_X5_shortestWay (x 1 p) (x 0 p) (nt x i m) with
    | some r => if r = -1 then 0 else 1 + r
    | none => 0)
def tst (ν : Mm) (c : Nat) (v : Int32) : Bool := if ν 19 c = 0 then !decide (ν 17 c < v) else !decide (v < ν 17 c)
def VC (ν : Mm) (mk : Int32) (p c : Nat) : Int32 := V (cut ν p) (ν 18 c) (ν 16 c) mk p
def sem (ν : Mm) (mk : Int32) (p : Nat) : Nat → Nat → Bool
  | 0, _ => false
  | d + 1, c => if ν 12 c = 3 then !sem ν mk p d (ν 13 c).toNatClampNeg
    else if ν 12 c = 1 then sem ν mk p d (ν 13 c).toNatClampNeg && sem ν mk p d (ν 14 c).toNatClampNeg
    else if ν 12 c = 2 then sem ν mk p d (ν 13 c).toNatClampNeg || sem ν mk p d (ν 14 c).toNatClampNeg
    else tst ν c (VC ν mk p c)
/-! ===== the relation of the two memories ===== -/
def Acc (A : Nat) (μ ν : Mm) : Prop := A ≤ 20 ∧ μ 2 2 = nI A ∧ ν 0 3 = nI A ∧ μ 2 3 = ν 0 5 ∧ μ 2 4 = ν 0 6 ∧ ∀ j, j < A → μ 3 j = ν 1 j ∧ μ 4 j = ν 2 j ∧ ∃ c, 97 ≤ c ∧ c ≤ 100 ∧ ν 1 j = nI c
def Tim (t T : Nat) (μ ν : Mm) : Prop := T ≤ t ∧ μ 1 3 = nI T ∧ ν 0 4 = nI T ∧ μ 0 4 = ν 0 16
def Led (A T P : Nat) (μ ν : Mm) : Prop := P ≤ 200 ∧ μ 5 4 = nI P ∧ ν 0 15 = nI P ∧ (∀ j, j < P → μ 6 j = ν 3 j ∧ μ 7 j = ν 4 j ∧ μ 8 j = ν 5 j ∧ μ 9 j = ν 6 j ∧ ∃ a b c m, a < A ∧ b < A ∧ (1 ≤ c ∧ a ≠ b) ∧ c ≤ 9999 ∧ m ≤ T ∧ ν 3 j = nI a ∧ ν 4 j = nI b ∧ ν 5 j = nI c ∧ ν 6 j = nI m) ∧ ∀ i j, i ≤ j → j < P → (ν 6 i).toInt ≤ (ν 6 j).toInt
def Kep (T P F : Nat) (μ ν : Mm) : Prop := F ≤ P ∧ μ 1 4 = nI F ∧ (∀ j, j < F → (ν 6 j).toInt + 10080 ≤ T) ∧ ∀ j, F ≤ j → j < P → (T : Int) < (ν 6 j).toInt + 10080
def isF (f : Nat) : Prop := f = 97 ∨ f = 99 ∨ f = 100 ∨ f = 102 ∨ f = 103 ∨ f = 105 ∨ f = 107 ∨ f = 108 ∨ f = 109 ∨ f = 110 ∨ f = 113 ∨ f = 114 ∨ f = 115
/-- condition j's tests, as the component keeps them -/
def lst (μ : Mm) (j : Nat) : List Int32 := (List.range (μ 22 j).toNatClampNeg).map (fun i => μ 23 (8 * j + i))
def Cnd (μ ν : Mm) (j : Nat) : Prop := ∃ k s n, k ≤ 3 ∧ s ≤ 15 ∧ ν 12 j = nI k ∧ μ 14 j = nI k ∧ ν 15 j = nI s ∧ μ 15 j = nI s ∧ μ 22 j = nI n ∧ 2 * n ≤ s + 1 ∧
  (k = 0 → μ 16 j = ν 18 j ∧ μ 17 j = ν 16 j ∧ μ 18 j = ν 19 j ∧ μ 19 j = ν 17 j ∧ s = 1 ∧ lst μ j = [nI j] ∧ ∃ f w, isF f ∧ 1 ≤ w ∧ w ≤ 10080 ∧ ν 18 j = nI f ∧ ν 16 j = nI w) ∧
  (k = 3 → lst μ j = [] ∧ ∃ a s1, a < j ∧ ν 13 j = nI a ∧ μ 20 j = nI a ∧ ν 15 a = nI s1 ∧ s = 1 + s1) ∧
  (k = 1 ∨ k = 2 → ∃ a b s1 s2, a < j ∧ b < j ∧ ν 13 j = nI a ∧ μ 20 j = nI a ∧ ν 14 j = nI b ∧ μ 21 j = nI b ∧ ν 15 a = nI s1 ∧ ν 15 b = nI s2 ∧ s = 1 + s1 + s2 ∧ lst μ j = lst μ a ++ lst μ b)
def Con (C : Nat) (μ ν : Mm) : Prop := C ≤ 30 ∧ μ 13 12 = nI C ∧ ν 0 26 = nI C ∧ (∀ j, j < 30 → ∃ a b, a < 30 ∧ b < 30 ∧ μ 20 j = nI a ∧ μ 21 j = nI b) ∧ (∀ j, C ≤ j → μ 22 j = 0) ∧ ∀ j, j < C → Cnd μ ν j
def Rul (C N : Nat) (μ ν : Mm) : Prop := N ≤ 12 ∧ μ 26 3 = nI N ∧ ν 0 29 = nI N ∧ μ 26 2 = ν 0 30 ∧ (∀ i, N ≤ i → bt (ν 0 30) i = false) ∧ ∀ j, j < N → ∃ c w, c < C ∧ 1 ≤ w ∧ w ≤ 100 ∧ μ 27 j = nI c ∧ ν 20 j = nI c ∧ μ 28 j = nI w ∧ ν 21 j = nI w
def isAl (v : Int32) : Prop := v = 45 ∨ v = 111 ∨ v = 99 ∨ v = 102
def wgS (ν : Mm) (x : Int32) (r : Nat) (s : Int32) : Int32 := if bt x r = true then s + ν 21 r else s
def Cas (P N : Nat) (μ ν : Mm) : Prop := μ 29 5 = nI (fb_ct (fun p => decide (ν 10 p = 111)) P) ∧ ∀ p, p < P → μ 31 p = ν 10 p ∧ isAl (ν 10 p) ∧ μ 30 p = ν 9 p ∧ μ 30 p = fo (wgS ν (μ 32 p)) 0 N 0
def rcN (ν : Mm) (r : Nat) : Nat := (ν 20 r).toNatClampNeg
/-- what was found when payment p was made -/
def Jud1 (C N : Nat) (μ ν : Mm) (p : Nat) : Prop := ∃ k, k ≤ C ∧ (∀ i, N ≤ i → bt (ν 8 p) i = false ∧ bt (μ 32 p) i = false) ∧
  (∀ r, r < N → bt (μ 32 p) r = (bt (ν 8 p) r && sem ν (ν 7 p) p 16 (rcN ν r))) ∧
  (∀ r, r < N → bt (μ 32 p) r = true → rcN ν r < k) ∧
  (∀ c, c < k → bt (μ 33 p) c = sem ν (ν 7 p) p 16 c ∧ (ν 12 c = 0 → μ 34 (30 * p + c) = VC ν (ν 7 p) p c))
def Rx (t A T P F C N : Nat) (μ ν : Mm) : Prop := Acc A μ ν ∧ Tim t T μ ν ∧ Led A T P μ ν ∧ Kep T P F μ ν ∧ Con C μ ν ∧ Rul C N μ ν ∧ Cas P N μ ν ∧ ∀ p, p < P → Jud1 C N μ ν p
def R (t : Nat) (μ ν : Mm) : Prop := t ≤ 800000 ∧ ∃ A T P F C N, Rx t A T P F C N μ ν
theorem R_start : R 0 mu0 nu0 := by
  refine ⟨by omega, 0, 0, 0, 0, 0, 0, ⟨by omega, rfl, rfl, rfl, rfl, fun j hj => by omega⟩, ⟨by omega, rfl, rfl, rfl⟩, ⟨by omega, rfl, rfl, fun j hj => by omega, fun i j _ hj => by omega⟩,
    ⟨by omega, rfl, fun j hj => by omega, fun j _ hj => by omega⟩, ⟨by omega, rfl, rfl, fun j _ => ⟨0, 0, by omega, by omega, rfl, rfl⟩, fun j _ => rfl, fun j hj => by omega⟩,
    ⟨by omega, rfl, rfl, rfl, fun i _ => b_0 i, fun j hj => by omega⟩, ⟨rfl, fun p hp => by omega⟩, fun p hp => by omega⟩
def Res (t : Nat) (c : Int32) (o : Nat → Int64) (w : Int32) (μ ν : Mm) : Prop := ν 0 0 = c ∧ (c = 0 → o 0 = w.toInt64) ∧ R t μ ν
theorem cmp_self (a : Int64) : lg_cmp a a = 0 := by
  unfold lg_cmp
  rw [if_neg (by simp), if_pos rfl]
theorem tail_ok {t : Nat} {c : Int32} {o : Nat → Int64} {w : Int32} {μ ν : Mm} {K : Option Unit} (h : Res t c o w μ ν) (hK : K = some ()) :
    (f_X8_thrown ν).bind (fun r => if r = c then (if c = 0 then (chk 0 1 (if lg_cmp (o (0 : Int32).toNatClampNeg) w.toInt64 = 0 then K else none)) else K) else none) = some () := by
  obtain ⟨h1, h2, _⟩ := h
  unfold f_X8_thrown
  rw [Option.bind_some, if_pos h1]
  by_cases hc : c = 0
  · rw [if_pos hc, chk0]
    have e : o (0 : Int32).toNatClampNeg = w.toInt64 := h2 hc
    rw [e, cmp_self, if_pos rfl, hK]
  · rw [if_neg hc, hK]
theorem tail_okb {t : Nat} {c : Int32} {o : Nat → Int64} {w : Int32} {μ ν : Mm} {K : Option Unit} (h : Res t c o w μ ν) (hw : w = 0 ∨ w = 1) (hK : K = some ()) :
    (f_X8_thrown ν).bind (fun r => if r = c then (if c = 0 then (chk 0 1 (if w = 0 then (if lg_cmp (o (0 : Int32).toNatClampNeg) 0 = 0 then K else none) else (if lg_cmp (o (0 : Int32).toNatClampNeg) 1 = 0 then K else none))) else K) else none) = some () := by
  obtain ⟨h1, h2, _⟩ := h
  unfold f_X8_thrown
  rw [Option.bind_some, if_pos h1]
  by_cases hc : c = 0
  · rw [if_pos hc, chk0]
    have e : o (0 : Int32).toNatClampNeg = w.toInt64 := h2 hc
    rw [e]
    rcases hw with hw | hw
    · subst hw; rw [if_pos rfl, show ((0 : Int32).toInt64 = 0) from rfl, cmp_self, if_pos rfl, hK]
    · subst hw; rw [if_neg (by decide), show ((1 : Int32).toInt64 = 1) from rfl, cmp_self, if_pos rfl, hK]
  · rw [if_neg hc, hK]
