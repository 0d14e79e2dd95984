/-! ===== L3: the model's gathered values ===== -/
theorem isIn_lo {A T P p q : Nat} {w : Int32} {μ ν : Mm} (hL : Led A T P μ ν) (hp : p < P) (hq : q ≤ p) : f_X8_isIn (nI q) w (ν 6 p) ν = some (b2 (decide (lo (cut ν p) w p ≤ q))) := by
  have hP := hL.1
  rw [isIn_eq (by omega), lo_in hL hp hq]
def ga115 (ν : Mm) (p l q : Nat) (s : Int32 × Int32) : Int32 × Int32 := if l ≤ q then (if ν 3 q = ν 3 p then (s.1 + ν 5 q, sb s.2 ((ν 1 (ν 4 q).toNatClampNeg).toNatClampNeg - 97) true) else s) else s
theorem gat115 {A T P p : Nat} {w : Int32} {μ ν : Mm} (hA : Acc A μ ν) (hL : Led A T P μ ν) (hp : p < P) : f_X8_gathered (nI p) 115 w ν = some (fo (ga115 ν p (lo (cut ν p) w p)) 0 (p + 1) (0, 0)).1 := by
  have hP := hL.1
  obtain ⟨a1, a2, a3, a4, a5, a6⟩ := hA
  unfold f_X8_gathered
  refine up_loop' (fun n x (s : Int32 × Int32) => f_X8_gathered_L9 (nI p) 115 w ν n s.1 s.2 x) (p + 1) (fun s => some s.1) (ga115 ν p (lo (cut ν p) w p)) ?_ ?_ (p + 1) fuel 0 (0, 0) (by omega) (by unfold fuel; omega)
  · intro n s
    show f_X8_gathered_L9 (nI p) 115 w ν (n + 1) s.1 s.2 (nI (p + 1)) = _
    unfold f_X8_gathered_L9
    rw [if_pos (by rw [w_lt (by omega) (by omega)]; omega)]
  · intro n q s hq
    show f_X8_gathered_L9 (nI p) 115 w ν (n + 1) s.1 s.2 (nI q) = f_X8_gathered_L9 (nI p) 115 w ν n (ga115 ν p (lo (cut ν p) w p) q s).1 (ga115 ν p (lo (cut ν p) w p) q s).2 (nI (q + 1))
    conv => lhs; unfold f_X8_gathered_L9
    obtain ⟨_, _, _, _, a, b, c, m, z1, z2, z3, z4, z5, z6, z7, z8, z9⟩ := hL.2.2.2.1 q (by omega)
    obtain ⟨_, _, cc, u1, u2, u3⟩ := a6 b z2
    have cp : ∀ {α : Type} (k : Option α), chk (nI p) 200 k = k := fun k => chk_nI (by omega) (by omega)
    have cq : ∀ {α : Type} (k : Option α), chk (nI q) 200 k = k := fun k => chk_nI (by omega) (by omega)
    rw [if_neg (by rw [w_lt (by omega) (by omega)]; omega), cp, w_nat (show p < 2147483648 by omega), isIn_lo hL hp (by omega), Option.bind_some]
    unfold ga115
    by_cases hl : lo (cut ν p) w p ≤ q
    · rw [decide_eq_true hl, b2_t, if_neg (by decide), if_pos hl, if_neg (show ¬ (115 : Int32) = 105 by decide)]
      unfold f_X8_gathered_J72
      rw [cq, cp, w_nat (show q < 2147483648 by omega), w_nat (show p < 2147483648 by omega)]
      by_cases h3 : ν 3 q = ν 3 p
      · rw [if_pos h3, if_pos h3, if_neg (show ¬ (115 : Int32) = 114 by decide), cq, z7, chk_nI (show b < 20 by omega) (by omega), if_neg (show ¬ (115 : Int32) = 110 by decide), w_nat (show b < 2147483648 by omega), u3, show nI cc - 97 = nI (cc - 97) from w_sub (b := 97) u1, w_nat (show cc < 2147483648 by omega)]
        unfold f_X8_gathered_J133
        rw [if_pos rfl]
        rw [cq, w_nat (show q < 2147483648 by omega)]
        unfold f_X8_gathered_J151
        rw [if_neg (show ¬ (115 : Int32) = 109 by decide)]
        unfold f_X8_gathered_J171
        rw [if_neg (show ¬ (115 : Int32) = 108 by decide)]
        unfold f_X8_gathered_J206
        rw [if_neg (show ¬ (115 : Int32) = 114 by decide), if_neg (show ¬ (115 : Int32) = 99 by decide), with1, Option.bind_some, w_succ]
      · rw [if_neg h3, if_neg h3, w_succ]
    · rw [decide_eq_false hl, b2_f, if_pos rfl, if_neg hl, w_succ]
def ga110 (ν : Mm) (p l q : Nat) (s : Int32 × Int32) : Int32 × Int32 := if l ≤ q then (if ν 3 q = ν 3 p then (s.1 + 1, sb s.2 ((ν 1 (ν 4 q).toNatClampNeg).toNatClampNeg - 97) true) else s) else s
theorem gat110 {A T P p : Nat} {w : Int32} {μ ν : Mm} (hA : Acc A μ ν) (hL : Led A T P μ ν) (hp : p < P) : f_X8_gathered (nI p) 110 w ν = some (fo (ga110 ν p (lo (cut ν p) w p)) 0 (p + 1) (0, 0)).1 := by
  have hP := hL.1
  obtain ⟨a1, a2, a3, a4, a5, a6⟩ := hA
  unfold f_X8_gathered
  refine up_loop' (fun n x (s : Int32 × Int32) => f_X8_gathered_L9 (nI p) 110 w ν n s.1 s.2 x) (p + 1) (fun s => some s.1) (ga110 ν p (lo (cut ν p) w p)) ?_ ?_ (p + 1) fuel 0 (0, 0) (by omega) (by unfold fuel; omega)
  · intro n s
    show f_X8_gathered_L9 (nI p) 110 w ν (n + 1) s.1 s.2 (nI (p + 1)) = _
    unfold f_X8_gathered_L9
    rw [if_pos (by rw [w_lt (by omega) (by omega)]; omega)]
  · intro n q s hq
    show f_X8_gathered_L9 (nI p) 110 w ν (n + 1) s.1 s.2 (nI q) = f_X8_gathered_L9 (nI p) 110 w ν n (ga110 ν p (lo (cut ν p) w p) q s).1 (ga110 ν p (lo (cut ν p) w p) q s).2 (nI (q + 1))
    conv => lhs; unfold f_X8_gathered_L9
    obtain ⟨_, _, _, _, a, b, c, m, z1, z2, z3, z4, z5, z6, z7, z8, z9⟩ := hL.2.2.2.1 q (by omega)
    obtain ⟨_, _, cc, u1, u2, u3⟩ := a6 b z2
    have cp : ∀ {α : Type} (k : Option α), chk (nI p) 200 k = k := fun k => chk_nI (by omega) (by omega)
    have cq : ∀ {α : Type} (k : Option α), chk (nI q) 200 k = k := fun k => chk_nI (by omega) (by omega)
    rw [if_neg (by rw [w_lt (by omega) (by omega)]; omega), cp, w_nat (show p < 2147483648 by omega), isIn_lo hL hp (by omega), Option.bind_some]
    unfold ga110
    by_cases hl : lo (cut ν p) w p ≤ q
    · rw [decide_eq_true hl, b2_t, if_neg (by decide), if_pos hl, if_neg (show ¬ (110 : Int32) = 105 by decide)]
      unfold f_X8_gathered_J72
      rw [cq, cp, w_nat (show q < 2147483648 by omega), w_nat (show p < 2147483648 by omega)]
      by_cases h3 : ν 3 q = ν 3 p
      · rw [if_pos h3, if_pos h3, if_neg (show ¬ (110 : Int32) = 114 by decide), cq, z7, chk_nI (show b < 20 by omega) (by omega), if_pos (show (110 : Int32) = 110 from rfl), w_nat (show b < 2147483648 by omega), u3, show nI cc - 97 = nI (cc - 97) from w_sub (b := 97) u1, w_nat (show cc < 2147483648 by omega)]
        unfold f_X8_gathered_J133
        rw [if_neg (show ¬ (110 : Int32) = 115 by decide)]
        skip
        unfold f_X8_gathered_J151
        rw [if_neg (show ¬ (110 : Int32) = 109 by decide)]
        unfold f_X8_gathered_J171
        rw [if_neg (show ¬ (110 : Int32) = 108 by decide)]
        unfold f_X8_gathered_J206
        rw [if_neg (show ¬ (110 : Int32) = 114 by decide), if_neg (show ¬ (110 : Int32) = 99 by decide), with1, Option.bind_some, w_succ]
      · rw [if_neg h3, if_neg h3, w_succ]
    · rw [decide_eq_false hl, b2_f, if_pos rfl, if_neg hl, w_succ]
def ga109 (ν : Mm) (p l q : Nat) (s : Int32 × Int32) : Int32 × Int32 := if l ≤ q then (if ν 3 q = ν 3 p then ((if s.1 < ν 5 q then ν 5 q else s.1), sb s.2 ((ν 1 (ν 4 q).toNatClampNeg).toNatClampNeg - 97) true) else s) else s
theorem gat109 {A T P p : Nat} {w : Int32} {μ ν : Mm} (hA : Acc A μ ν) (hL : Led A T P μ ν) (hp : p < P) : f_X8_gathered (nI p) 109 w ν = some (fo (ga109 ν p (lo (cut ν p) w p)) 0 (p + 1) (0, 0)).1 := by
  have hP := hL.1
  obtain ⟨a1, a2, a3, a4, a5, a6⟩ := hA
  unfold f_X8_gathered
  refine up_loop' (fun n x (s : Int32 × Int32) => f_X8_gathered_L9 (nI p) 109 w ν n s.1 s.2 x) (p + 1) (fun s => some s.1) (ga109 ν p (lo (cut ν p) w p)) ?_ ?_ (p + 1) fuel 0 (0, 0) (by omega) (by unfold fuel; omega)
  · intro n s
    show f_X8_gathered_L9 (nI p) 109 w ν (n + 1) s.1 s.2 (nI (p + 1)) = _
    unfold f_X8_gathered_L9
    rw [if_pos (by rw [w_lt (by omega) (by omega)]; omega)]
  · intro n q s hq
    show f_X8_gathered_L9 (nI p) 109 w ν (n + 1) s.1 s.2 (nI q) = f_X8_gathered_L9 (nI p) 109 w ν n (ga109 ν p (lo (cut ν p) w p) q s).1 (ga109 ν p (lo (cut ν p) w p) q s).2 (nI (q + 1))
    conv => lhs; unfold f_X8_gathered_L9
    obtain ⟨_, _, _, _, a, b, c, m, z1, z2, z3, z4, z5, z6, z7, z8, z9⟩ := hL.2.2.2.1 q (by omega)
    obtain ⟨_, _, cc, u1, u2, u3⟩ := a6 b z2
    have cp : ∀ {α : Type} (k : Option α), chk (nI p) 200 k = k := fun k => chk_nI (by omega) (by omega)
    have cq : ∀ {α : Type} (k : Option α), chk (nI q) 200 k = k := fun k => chk_nI (by omega) (by omega)
    rw [if_neg (by rw [w_lt (by omega) (by omega)]; omega), cp, w_nat (show p < 2147483648 by omega), isIn_lo hL hp (by omega), Option.bind_some]
    unfold ga109
    by_cases hl : lo (cut ν p) w p ≤ q
    · rw [decide_eq_true hl, b2_t, if_neg (by decide), if_pos hl, if_neg (show ¬ (109 : Int32) = 105 by decide)]
      unfold f_X8_gathered_J72
      rw [cq, cp, w_nat (show q < 2147483648 by omega), w_nat (show p < 2147483648 by omega)]
      by_cases h3 : ν 3 q = ν 3 p
      · rw [if_pos h3, if_pos h3, if_neg (show ¬ (109 : Int32) = 114 by decide), cq, z7, chk_nI (show b < 20 by omega) (by omega), if_neg (show ¬ (109 : Int32) = 110 by decide), w_nat (show b < 2147483648 by omega), u3, show nI cc - 97 = nI (cc - 97) from w_sub (b := 97) u1, w_nat (show cc < 2147483648 by omega)]
        unfold f_X8_gathered_J133
        rw [if_neg (show ¬ (109 : Int32) = 115 by decide)]
        skip
        unfold f_X8_gathered_J151
        rw [if_pos (show (109 : Int32) = 109 from rfl), cq, w_nat (show q < 2147483648 by omega)]
        unfold f_X8_gathered_J171
        rw [if_neg (show ¬ (109 : Int32) = 108 by decide)]
        unfold f_X8_gathered_J206
        rw [if_neg (show ¬ (109 : Int32) = 114 by decide), if_neg (show ¬ (109 : Int32) = 99 by decide), with1, Option.bind_some, w_succ]
      · rw [if_neg h3, if_neg h3, w_succ]
    · rw [decide_eq_false hl, b2_f, if_pos rfl, if_neg hl, w_succ]
theorem fo_fst {g : Nat → Int32 × Int32 → Int32 × Int32} {h : Nat → Int32 → Int32} {l P : Nat} (hl : l ≤ P) (h1 : ∀ q, q < l → ∀ s, g q s = s) (h2 : ∀ q, l ≤ q → q < P → ∀ s, (g q s).1 = h q s.1) : (fo g 0 P (0, 0)).1 = fo h l (P - l) 0 := by
  have e : P = l + (P - l) := by omega
  conv => lhs; rw [e]
  rw [fo_add, fo_id l 0 _ (fun q _ hq s => h1 q (by omega) s), Nat.zero_add]
  exact fo_rel (g := g) (h := h) (fun _ a b => a.1 = b) (P - l) l (0, 0) 0 rfl (fun q a b q1 q2 hab => by rw [h2 q q1 (by omega), hab])
theorem mV115 {A T P p : Nat} {w mk : Int32} {μ ν : Mm} (hA : Acc A μ ν) (hL : Led A T P μ ν) (hT : T ≤ 800000) (hp : p < P) (hw : win w) : f_X8_valueBy (nI p) (nI 115) w mk ν = some (V (cut ν p) (nI 115) w mk p, ν) := by
  have v : V (cut ν p) (nI 115) w mk p = fo (sumS (cut ν p) 0 (cut ν p 0 p)) (lo (cut ν p) w p) (p + 1 - lo (cut ν p) w p) 0 := by unfold V; rw [if_neg (by decide), if_neg (by decide), if_neg (by decide), if_neg (by decide), if_neg (by decide), if_neg (by decide), if_neg (by decide), if_neg (by decide), if_neg (by decide), if_neg (by decide), if_neg (by decide), if_pos (by decide)]
  have hl := (lo_le hT hL hp hw).1
  unfold f_X8_valueBy
  rw [if_neg (by decide), if_neg (by decide), if_neg (by decide), if_neg (by decide), if_neg (by decide), if_neg (by decide), v, show nI 115 = (115 : Int32) from rfl, gat115 hA hL hp, Option.bind_some]
  rw [fo_fst (h := sumS (cut ν p) 0 (cut ν p 0 p)) (show lo (cut ν p) w p ≤ p + 1 by omega)]
  · intro q hq s
    unfold ga115
    rw [if_neg (by omega)]
  · intro q h1 h2 s
    unfold ga115 sumS
    rw [if_pos h1, cut_le (show q ≤ p by omega), cut_le (Nat.le_refl p), cut_le (show q ≤ p by omega)]
    show (if ν 3 q = ν 3 p then _ else _ : Int32 × Int32).1 = if ν 3 q = ν 3 p then _ else _
    by_cases h3 : ν 3 q = ν 3 p
    · rw [if_pos h3, if_pos h3]
      rfl
    · rw [if_neg h3, if_neg h3]
theorem mV110 {A T P p : Nat} {w mk : Int32} {μ ν : Mm} (hA : Acc A μ ν) (hL : Led A T P μ ν) (hT : T ≤ 800000) (hp : p < P) (hw : win w) : f_X8_valueBy (nI p) (nI 110) w mk ν = some (V (cut ν p) (nI 110) w mk p, ν) := by
  have v : V (cut ν p) (nI 110) w mk p = fo (cntS (cut ν p) (cut ν p 0 p) 1 9999) (lo (cut ν p) w p) (p + 1 - lo (cut ν p) w p) 0 := by unfold V; rw [if_neg (by decide), if_neg (by decide), if_neg (by decide), if_neg (by decide), if_neg (by decide), if_neg (by decide), if_neg (by decide), if_neg (by decide), if_pos (by decide)]
  have hl := (lo_le hT hL hp hw).1
  unfold f_X8_valueBy
  rw [if_neg (by decide), if_neg (by decide), if_neg (by decide), if_neg (by decide), if_neg (by decide), if_neg (by decide), v, show nI 110 = (110 : Int32) from rfl, gat110 hA hL hp, Option.bind_some]
  rw [fo_fst (h := cntS (cut ν p) (cut ν p 0 p) 1 9999) (show lo (cut ν p) w p ≤ p + 1 by omega)]
  · intro q hq s
    unfold ga110
    rw [if_neg (by omega)]
  · intro q h1 h2 s
    unfold ga110 cntS
    rw [if_pos h1, cut_le (show q ≤ p by omega), cut_le (Nat.le_refl p), cut_le (show q ≤ p by omega)]
    show (if ν 3 q = ν 3 p then _ else _ : Int32 × Int32).1 = if ν 3 q = ν 3 p then _ else _
    by_cases h3 : ν 3 q = ν 3 p
    · obtain ⟨_, _, _, _, a, b, c, m, z1, z2, z3, z4, z5, z6, z7, z8, z9⟩ := hL.2.2.2.1 q (by omega)
      rw [if_pos h3, if_pos h3]
      show s.1 + 1 = (if ν 5 q < 1 then s.1 else if (9999 : Int32) < ν 5 q then s.1 else s.1 + 1)
      rw [z8, if_neg (show ¬ nI c < 1 from by rw [show (1 : Int32) = nI 1 from rfl, w_lt (by omega) (by omega)]; omega), if_neg (show ¬ (9999 : Int32) < nI c from by rw [show (9999 : Int32) = nI 9999 from rfl, w_lt (by omega) (by omega)]; omega)]
    · rw [if_neg h3, if_neg h3]
theorem mV109 {A T P p : Nat} {w mk : Int32} {μ ν : Mm} (hA : Acc A μ ν) (hL : Led A T P μ ν) (hT : T ≤ 800000) (hp : p < P) (hw : win w) : f_X8_valueBy (nI p) (nI 109) w mk ν = some (V (cut ν p) (nI 109) w mk p, ν) := by
  have v : V (cut ν p) (nI 109) w mk p = fo (maxS (cut ν p) (cut ν p 0 p)) (lo (cut ν p) w p) (p + 1 - lo (cut ν p) w p) 0 := by unfold V; rw [if_neg (by decide), if_neg (by decide), if_neg (by decide), if_neg (by decide), if_neg (by decide), if_neg (by decide), if_neg (by decide), if_pos (by decide)]
  have hl := (lo_le hT hL hp hw).1
  unfold f_X8_valueBy
  rw [if_neg (by decide), if_neg (by decide), if_neg (by decide), if_neg (by decide), if_neg (by decide), if_neg (by decide), v, show nI 109 = (109 : Int32) from rfl, gat109 hA hL hp, Option.bind_some]
  rw [fo_fst (h := maxS (cut ν p) (cut ν p 0 p)) (show lo (cut ν p) w p ≤ p + 1 by omega)]
  · intro q hq s
    unfold ga109
    rw [if_neg (by omega)]
  · intro q h1 h2 s
    unfold ga109 maxS
    rw [if_pos h1, cut_le (show q ≤ p by omega), cut_le (Nat.le_refl p), cut_le (show q ≤ p by omega)]
    show (if ν 3 q = ν 3 p then _ else _ : Int32 × Int32).1 = if ν 3 q = ν 3 p then _ else _
    by_cases h3 : ν 3 q = ν 3 p
    · rw [if_pos h3, if_pos h3]
      show (if s.1 < ν 5 q then ν 5 q else s.1) = (if ν 5 q ≤ s.1 then s.1 else ν 5 q)
      by_cases h4 : ν 5 q ≤ s.1
      · rw [if_pos h4, if_neg (by rw [lt_I]; rw [le_I] at h4; omega)]
      · rw [if_neg h4, if_pos (by rw [lt_I]; rw [le_I] at h4; omega)]
    · rw [if_neg h3, if_neg h3]
