/-! ===== L3: the model's gathered values: 108, 105, 114, 99 ===== -/
theorem pop_sb {x : Int32} {i : Nat} (hi : i < 32) : pop (sb x i true) = pop x + (if bt x i = true then 0 else 1) := by
  unfold pop
  have e : fb_ct (fun j => bt (sb x i true) j) 32 = fb_ct (fun j => if j = i then true else bt x j) 32 := by
    apply fb_ct_cong
    intro k hk
    exact bt_sb x true hi hk
  rw [e]
  have u := fb_ct_upd (fun j => bt x j) true hi
  have u2 : fb_ct (fun j => if j = i then true else bt x j) 32 + (if bt x i = true then 1 else 0) = fb_ct (fun j => bt x j) 32 + 1 := u
  cases hb : bt x i
  · rw [hb] at u2
    rw [if_neg (by simp)] at u2 ⊢
    omega
  · rw [hb] at u2
    rw [if_pos rfl] at u2 ⊢
    omega
theorem pop_0 : pop 0 = 0 := by
  unfold pop
  rw [fb_ct_zero]
  intro k _
  exact b_0 k
theorem fo_pop {g : Nat → Int32 × Int32 → Int32 × Int32} {h : Nat → Int32 → Int32} {l P : Nat} (hl : l ≤ P) (h1 : ∀ q, q < l → ∀ s, g q s = s) (h2 : ∀ q, l ≤ q → q < P → ∀ s, s.1 = nI (pop s.2) → (g q s).1 = nI (pop (g q s).2) ∧ (g q s).2 = h q s.2) : (fo g 0 P (0, 0)).1 = nI (pop (fo h l (P - l) 0)) := by
  have e : P = l + (P - l) := by omega
  conv => lhs; rw [e]
  rw [fo_add, fo_id l 0 _ (fun q _ hq s => h1 q (by omega) s), Nat.zero_add]
  have k := fo_rel (g := g) (h := h) (fun _ a b => a.1 = nI (pop a.2) ∧ a.2 = b) (P - l) l (0, 0) 0 ⟨by rw [pop_0]; rfl, rfl⟩ (fun q a b q1 q2 hab => by
    obtain ⟨k1, k2⟩ := h2 q q1 (by omega) a hab.1
    exact ⟨k1, by rw [k2, hab.2]⟩)
  rw [k.1, k.2]
def ga108 (ν : Mm) (p l q : Nat) (s : Int32 × Int32) : Int32 × Int32 := if l ≤ q then (if ν 3 q = ν 3 p then ((if ν 5 q < 900 then s.1 else if (999 : Int32) < ν 5 q then s.1 else s.1 + 1), sb s.2 ((ν 1 (ν 4 q).toNatClampNeg).toNatClampNeg - 97) true) else s) else s
theorem gat108 {A T P p : Nat} {w : Int32} {μ ν : Mm} (hA : Acc A μ ν) (hL : Led A T P μ ν) (hp : p < P) : f_X8_gathered (nI p) 108 w ν = some (fo (ga108 ν p (lo (cut ν p) w p)) 0 (p + 1) (0, 0)).1 := by
  have hP := hL.1
  obtain ⟨a1, a2, a3, a4, a5, a6⟩ := hA
  unfold f_X8_gathered
  refine up_loop' (fun n x (s : Int32 × Int32) => f_X8_gathered_L9 (nI p) 108 w ν n s.1 s.2 x) (p + 1) (fun s => some s.1) (ga108 ν p (lo (cut ν p) w p)) ?_ ?_ (p + 1) fuel 0 (0, 0) (by omega) (by unfold fuel; omega)
  · intro n s
    show f_X8_gathered_L9 (nI p) 108 w ν (n + 1) s.1 s.2 (nI (p + 1)) = _
    unfold f_X8_gathered_L9
    rw [if_pos (by rw [w_lt (by omega) (by omega)]; omega)]
  · intro n q s hq
    show f_X8_gathered_L9 (nI p) 108 w ν (n + 1) s.1 s.2 (nI q) = f_X8_gathered_L9 (nI p) 108 w ν n (ga108 ν p (lo (cut ν p) w p) q s).1 (ga108 ν p (lo (cut ν p) w p) q s).2 (nI (q + 1))
    conv => lhs; unfold f_X8_gathered_L9
    obtain ⟨_, _, _, _, a, b, c, m, z1, z2, z3, z4, z5, z6, z7, z8, z9⟩ := hL.2.2.2.1 q (by omega)
    obtain ⟨_, _, cc, u1, u2, u3⟩ := a6 b z2
    have cp : ∀ {α : Type} (k : Option α), chk (nI p) 200 k = k := fun k => chk_nI (by omega) (by omega)
    have cq : ∀ {α : Type} (k : Option α), chk (nI q) 200 k = k := fun k => chk_nI (by omega) (by omega)
    rw [if_neg (by rw [w_lt (by omega) (by omega)]; omega), cp, w_nat (show p < 2147483648 by omega), isIn_lo hL hp (by omega), Option.bind_some]
    unfold ga108
    by_cases hl : lo (cut ν p) w p ≤ q
    · rw [decide_eq_true hl, b2_t, if_neg (show ¬ (1 : Int32) = 0 by decide), if_pos hl, if_neg (show ¬ (108 : Int32) = 105 by decide)]
      unfold f_X8_gathered_J72
      rw [cq, cp, w_nat (show q < 2147483648 by omega), w_nat (show p < 2147483648 by omega)]
      by_cases h3 : ν 3 q = ν 3 p
      · rw [if_pos h3]
        rw [if_pos h3, if_neg (show ¬ (108 : Int32) = 114 by decide), cq, z7, chk_nI (show b < 20 by omega) (by omega), if_neg (show ¬ (108 : Int32) = 110 by decide), w_nat (show b < 2147483648 by omega), u3, show nI cc - 97 = nI (cc - 97) from w_sub (b := 97) u1, w_nat (show cc < 2147483648 by omega)]
        unfold f_X8_gathered_J133
        rw [if_neg (show ¬ (108 : Int32) = 115 by decide)]
        unfold f_X8_gathered_J151
        rw [if_neg (show ¬ (108 : Int32) = 109 by decide)]
        unfold f_X8_gathered_J171
        rw [if_pos (show (108 : Int32) = 108 from rfl), cq, w_nat (show q < 2147483648 by omega), z8, btwI, Option.bind_some, w_int (show c < 2147483648 by omega), show ((900 : Int32).toInt = 900) from rfl, show ((999 : Int32).toInt = 999) from rfl]
        by_cases g1 : c < 900
        · rw [decide_eq_false (by omega), b2_f, if_pos rfl, if_pos (show nI c < 900 from by rw [show (900 : Int32) = nI 900 from rfl, w_lt (by omega) (by omega)]; exact g1), show s.1 + 0 = s.1 from Int32.add_zero _]
          unfold f_X8_gathered_J206
          rw [if_neg (show ¬ (108 : Int32) = 114 by decide), if_neg (show ¬ (108 : Int32) = 99 by decide), with1, Option.bind_some, w_succ]
        · rw [if_neg (show ¬ nI c < 900 from by rw [show (900 : Int32) = nI 900 from rfl, w_lt (by omega) (by omega)]; exact g1)]
          by_cases g2 : 999 < c
          · rw [decide_eq_false (by omega), b2_f, if_pos rfl, if_pos (show (999 : Int32) < nI c from by rw [show (999 : Int32) = nI 999 from rfl, w_lt (by omega) (by omega)]; exact g2), show s.1 + 0 = s.1 from Int32.add_zero _]
            unfold f_X8_gathered_J206
            rw [if_neg (show ¬ (108 : Int32) = 114 by decide), if_neg (show ¬ (108 : Int32) = 99 by decide), with1, Option.bind_some, w_succ]
          · rw [decide_eq_true (by omega), b2_t, if_neg (show ¬ (1 : Int32) = 0 by decide), if_neg (show ¬ (999 : Int32) < nI c from by rw [show (999 : Int32) = nI 999 from rfl, w_lt (by omega) (by omega)]; exact g2)]
            unfold f_X8_gathered_J206
            rw [if_neg (show ¬ (108 : Int32) = 114 by decide), if_neg (show ¬ (108 : Int32) = 99 by decide), with1, Option.bind_some, w_succ]
      · rw [if_neg h3, if_neg h3, w_succ]
    · rw [decide_eq_false hl, b2_f, if_pos rfl, if_neg hl, w_succ]
def ga105 (ν : Mm) (p l q : Nat) (s : Int32 × Int32) : Int32 × Int32 := if l ≤ q then ((if ν 4 q = ν 3 p then s.1 + ν 5 q else s.1), (if ν 3 q = ν 3 p then sb s.2 ((ν 1 (ν 4 q).toNatClampNeg).toNatClampNeg - 97) true else s.2)) else s
theorem gat105 {A T P p : Nat} {w : Int32} {μ ν : Mm} (hA : Acc A μ ν) (hL : Led A T P μ ν) (hp : p < P) : f_X8_gathered (nI p) 105 w ν = some (fo (ga105 ν p (lo (cut ν p) w p)) 0 (p + 1) (0, 0)).1 := by
  have hP := hL.1
  obtain ⟨a1, a2, a3, a4, a5, a6⟩ := hA
  unfold f_X8_gathered
  refine up_loop' (fun n x (s : Int32 × Int32) => f_X8_gathered_L9 (nI p) 105 w ν n s.1 s.2 x) (p + 1) (fun s => some s.1) (ga105 ν p (lo (cut ν p) w p)) ?_ ?_ (p + 1) fuel 0 (0, 0) (by omega) (by unfold fuel; omega)
  · intro n s
    show f_X8_gathered_L9 (nI p) 105 w ν (n + 1) s.1 s.2 (nI (p + 1)) = _
    unfold f_X8_gathered_L9
    rw [if_pos (by rw [w_lt (by omega) (by omega)]; omega)]
  · intro n q s hq
    show f_X8_gathered_L9 (nI p) 105 w ν (n + 1) s.1 s.2 (nI q) = f_X8_gathered_L9 (nI p) 105 w ν n (ga105 ν p (lo (cut ν p) w p) q s).1 (ga105 ν p (lo (cut ν p) w p) q s).2 (nI (q + 1))
    conv => lhs; unfold f_X8_gathered_L9
    obtain ⟨_, _, _, _, a, b, c, m, z1, z2, z3, z4, z5, z6, z7, z8, z9⟩ := hL.2.2.2.1 q (by omega)
    obtain ⟨_, _, cc, u1, u2, u3⟩ := a6 b z2
    have cp : ∀ {α : Type} (k : Option α), chk (nI p) 200 k = k := fun k => chk_nI (by omega) (by omega)
    have cq : ∀ {α : Type} (k : Option α), chk (nI q) 200 k = k := fun k => chk_nI (by omega) (by omega)
    rw [if_neg (by rw [w_lt (by omega) (by omega)]; omega), cp, w_nat (show p < 2147483648 by omega), isIn_lo hL hp (by omega), Option.bind_some]
    unfold ga105
    by_cases hl : lo (cut ν p) w p ≤ q
    · rw [decide_eq_true hl, b2_t, if_neg (show ¬ (1 : Int32) = 0 by decide), if_pos hl, if_pos (show (105 : Int32) = 105 from rfl), cq, cp, w_nat (show q < 2147483648 by omega)]
      have J : ∀ v : Int32, f_X8_gathered_J72 (f_X8_gathered_L9 (nI p) 105 w ν n) (nI p) 105 w v s.2 (nI q) ν = f_X8_gathered_L9 (nI p) 105 w ν n v (if ν 3 q = ν 3 p then sb s.2 ((ν 1 (ν 4 q).toNatClampNeg).toNatClampNeg - 97) true else s.2) (nI (q + 1)) := by
        intro v
        unfold f_X8_gathered_J72
        rw [cq, cp, w_nat (show q < 2147483648 by omega), w_nat (show p < 2147483648 by omega)]
        by_cases h3 : ν 3 q = ν 3 p
        · rw [if_pos h3]
          rw [if_pos h3, if_neg (show ¬ (105 : Int32) = 114 by decide), cq, z7, chk_nI (show b < 20 by omega) (by omega), if_neg (show ¬ (105 : Int32) = 110 by decide), w_nat (show b < 2147483648 by omega), u3, show nI cc - 97 = nI (cc - 97) from w_sub (b := 97) u1, w_nat (show cc < 2147483648 by omega)]
          unfold f_X8_gathered_J133
          rw [if_neg (show ¬ (105 : Int32) = 115 by decide)]
          unfold f_X8_gathered_J151
          rw [if_neg (show ¬ (105 : Int32) = 109 by decide)]
          unfold f_X8_gathered_J171
          rw [if_neg (show ¬ (105 : Int32) = 108 by decide)]
          unfold f_X8_gathered_J206
          rw [if_neg (show ¬ (105 : Int32) = 114 by decide), if_neg (show ¬ (105 : Int32) = 99 by decide), with1, Option.bind_some, w_succ]
        · rw [if_neg h3, if_neg h3, w_succ]
      by_cases h4 : ν 4 q = ν 3 p
      · rw [if_pos h4, cq, J, if_pos h4]
      · rw [if_neg h4, J, if_neg h4, show s.1 + 0 = s.1 from Int32.add_zero _]
    · rw [decide_eq_false hl, b2_f, if_pos rfl, if_neg hl, w_succ]
def ga114 (ν : Mm) (p l q : Nat) (s : Int32 × Int32) : Int32 × Int32 := if l ≤ q then (if ν 3 q = ν 3 p then ((if bt s.2 (ν 4 q).toNatClampNeg = true then s.1 else s.1 + 1), sb s.2 (ν 4 q).toNatClampNeg true) else s) else s
theorem gat114 {A T P p : Nat} {w : Int32} {μ ν : Mm} (hA : Acc A μ ν) (hL : Led A T P μ ν) (hp : p < P) : f_X8_gathered (nI p) 114 w ν = some (fo (ga114 ν p (lo (cut ν p) w p)) 0 (p + 1) (0, 0)).1 := by
  have hP := hL.1
  obtain ⟨a1, a2, a3, a4, a5, a6⟩ := hA
  unfold f_X8_gathered
  refine up_loop' (fun n x (s : Int32 × Int32) => f_X8_gathered_L9 (nI p) 114 w ν n s.1 s.2 x) (p + 1) (fun s => some s.1) (ga114 ν p (lo (cut ν p) w p)) ?_ ?_ (p + 1) fuel 0 (0, 0) (by omega) (by unfold fuel; omega)
  · intro n s
    show f_X8_gathered_L9 (nI p) 114 w ν (n + 1) s.1 s.2 (nI (p + 1)) = _
    unfold f_X8_gathered_L9
    rw [if_pos (by rw [w_lt (by omega) (by omega)]; omega)]
  · intro n q s hq
    show f_X8_gathered_L9 (nI p) 114 w ν (n + 1) s.1 s.2 (nI q) = f_X8_gathered_L9 (nI p) 114 w ν n (ga114 ν p (lo (cut ν p) w p) q s).1 (ga114 ν p (lo (cut ν p) w p) q s).2 (nI (q + 1))
    conv => lhs; unfold f_X8_gathered_L9
    obtain ⟨_, _, _, _, a, b, c, m, z1, z2, z3, z4, z5, z6, z7, z8, z9⟩ := hL.2.2.2.1 q (by omega)
    obtain ⟨_, _, cc, u1, u2, u3⟩ := a6 b z2
    have cp : ∀ {α : Type} (k : Option α), chk (nI p) 200 k = k := fun k => chk_nI (by omega) (by omega)
    have cq : ∀ {α : Type} (k : Option α), chk (nI q) 200 k = k := fun k => chk_nI (by omega) (by omega)
    rw [if_neg (by rw [w_lt (by omega) (by omega)]; omega), cp, w_nat (show p < 2147483648 by omega), isIn_lo hL hp (by omega), Option.bind_some]
    unfold ga114
    by_cases hl : lo (cut ν p) w p ≤ q
    · rw [decide_eq_true hl, b2_t, if_neg (show ¬ (1 : Int32) = 0 by decide), if_pos hl, if_neg (show ¬ (114 : Int32) = 105 by decide)]
      unfold f_X8_gathered_J72
      rw [cq, cp, w_nat (show q < 2147483648 by omega), w_nat (show p < 2147483648 by omega)]
      by_cases h3 : ν 3 q = ν 3 p
      · rw [if_pos h3]
        rw [if_pos h3, if_pos (show (114 : Int32) = 114 from rfl), cq, if_neg (show ¬ (114 : Int32) = 110 by decide), z7, w_nat (show b < 2147483648 by omega)]
        unfold f_X8_gathered_J133
        rw [if_neg (show ¬ (114 : Int32) = 115 by decide)]
        unfold f_X8_gathered_J151
        rw [if_neg (show ¬ (114 : Int32) = 109 by decide)]
        unfold f_X8_gathered_J171
        rw [if_neg (show ¬ (114 : Int32) = 108 by decide)]
        unfold f_X8_gathered_J206
        rw [if_pos (show (114 : Int32) = 114 from rfl)]
        unfold f_X8_gathered_J218
        rw [has_eq _ (show b < 32 by omega), Option.bind_some]
        cases hbb : bt s.2 b
        · rw [b2_f, if_pos rfl, if_neg (show ¬ (false = true) by simp), with1, Option.bind_some, w_succ]
        · rw [b2_t, if_neg (show ¬ (1 : Int32) = 0 by decide), if_pos rfl, with1, Option.bind_some, w_succ, show s.1 + 0 = s.1 from Int32.add_zero _]
      · rw [if_neg h3, if_neg h3, w_succ]
    · rw [decide_eq_false hl, b2_f, if_pos rfl, if_neg hl, w_succ]
def ga99 (ν : Mm) (p l q : Nat) (s : Int32 × Int32) : Int32 × Int32 := if l ≤ q then (if ν 3 q = ν 3 p then ((if bt s.2 ((ν 1 (ν 4 q).toNatClampNeg).toNatClampNeg - 97) = true then s.1 else s.1 + 1), sb s.2 ((ν 1 (ν 4 q).toNatClampNeg).toNatClampNeg - 97) true) else s) else s
theorem gat99 {A T P p : Nat} {w : Int32} {μ ν : Mm} (hA : Acc A μ ν) (hL : Led A T P μ ν) (hp : p < P) : f_X8_gathered (nI p) 99 w ν = some (fo (ga99 ν p (lo (cut ν p) w p)) 0 (p + 1) (0, 0)).1 := by
  have hP := hL.1
  obtain ⟨a1, a2, a3, a4, a5, a6⟩ := hA
  unfold f_X8_gathered
  refine up_loop' (fun n x (s : Int32 × Int32) => f_X8_gathered_L9 (nI p) 99 w ν n s.1 s.2 x) (p + 1) (fun s => some s.1) (ga99 ν p (lo (cut ν p) w p)) ?_ ?_ (p + 1) fuel 0 (0, 0) (by omega) (by unfold fuel; omega)
  · intro n s
    show f_X8_gathered_L9 (nI p) 99 w ν (n + 1) s.1 s.2 (nI (p + 1)) = _
    unfold f_X8_gathered_L9
    rw [if_pos (by rw [w_lt (by omega) (by omega)]; omega)]
  · intro n q s hq
    show f_X8_gathered_L9 (nI p) 99 w ν (n + 1) s.1 s.2 (nI q) = f_X8_gathered_L9 (nI p) 99 w ν n (ga99 ν p (lo (cut ν p) w p) q s).1 (ga99 ν p (lo (cut ν p) w p) q s).2 (nI (q + 1))
    conv => lhs; unfold f_X8_gathered_L9
    obtain ⟨_, _, _, _, a, b, c, m, z1, z2, z3, z4, z5, z6, z7, z8, z9⟩ := hL.2.2.2.1 q (by omega)
    obtain ⟨_, _, cc, u1, u2, u3⟩ := a6 b z2
    have cp : ∀ {α : Type} (k : Option α), chk (nI p) 200 k = k := fun k => chk_nI (by omega) (by omega)
    have cq : ∀ {α : Type} (k : Option α), chk (nI q) 200 k = k := fun k => chk_nI (by omega) (by omega)
    rw [if_neg (by rw [w_lt (by omega) (by omega)]; omega), cp, w_nat (show p < 2147483648 by omega), isIn_lo hL hp (by omega), Option.bind_some]
    unfold ga99
    by_cases hl : lo (cut ν p) w p ≤ q
    · rw [decide_eq_true hl, b2_t, if_neg (show ¬ (1 : Int32) = 0 by decide), if_pos hl, if_neg (show ¬ (99 : Int32) = 105 by decide)]
      unfold f_X8_gathered_J72
      rw [cq, cp, w_nat (show q < 2147483648 by omega), w_nat (show p < 2147483648 by omega)]
      by_cases h3 : ν 3 q = ν 3 p
      · rw [if_pos h3]
        rw [if_pos h3, if_neg (show ¬ (99 : Int32) = 114 by decide), cq, z7, chk_nI (show b < 20 by omega) (by omega), if_neg (show ¬ (99 : Int32) = 110 by decide), w_nat (show b < 2147483648 by omega), u3, show nI cc - 97 = nI (cc - 97) from w_sub (b := 97) u1, w_nat (show cc < 2147483648 by omega)]
        unfold f_X8_gathered_J133
        rw [if_neg (show ¬ (99 : Int32) = 115 by decide)]
        unfold f_X8_gathered_J151
        rw [if_neg (show ¬ (99 : Int32) = 109 by decide)]
        unfold f_X8_gathered_J171
        rw [if_neg (show ¬ (99 : Int32) = 108 by decide)]
        unfold f_X8_gathered_J206
        rw [if_neg (show ¬ (99 : Int32) = 114 by decide), if_pos (show (99 : Int32) = 99 from rfl)]
        unfold f_X8_gathered_J218
        rw [has_eq _ (show (cc - 97) < 32 by omega), Option.bind_some]
        cases hbb : bt s.2 (cc - 97)
        · rw [b2_f, if_pos rfl, if_neg (show ¬ (false = true) by simp), with1, Option.bind_some, w_succ]
        · rw [b2_t, if_neg (show ¬ (1 : Int32) = 0 by decide), if_pos rfl, with1, Option.bind_some, w_succ, show s.1 + 0 = s.1 from Int32.add_zero _]
      · rw [if_neg h3, if_neg h3, w_succ]
    · rw [decide_eq_false hl, b2_f, if_pos rfl, if_neg hl, w_succ]
theorem mV108 {A T P p : Nat} {w mk : Int32} {μ ν : Mm} (hA : Acc A μ ν) (hL : Led A T P μ ν) (hT : T ≤ 800000) (hp : p < P) (hw : win w) : f_X8_valueBy (nI p) (nI 108) w mk ν = some (V (cut ν p) (nI 108) w mk p, ν) := by
  have v : V (cut ν p) (nI 108) w mk p = fo (cntS (cut ν p) (cut ν p 0 p) 900 999) (lo (cut ν p) w p) (p + 1 - lo (cut ν p) w p) 0 := by unfold V; rw [if_neg (by decide), if_neg (by decide), if_neg (by decide), if_neg (by decide), if_neg (by decide), if_neg (by decide), if_pos (by decide)]
  have hl := (lo_le hT hL hp hw).1
  unfold f_X8_valueBy
  rw [if_neg (by decide), if_neg (by decide), if_neg (by decide), if_neg (by decide), if_neg (by decide), if_neg (by decide), v, show nI 108 = (108 : Int32) from rfl, gat108 hA hL hp, Option.bind_some]
  rw [fo_fst (h := cntS (cut ν p) (cut ν p 0 p) 900 999) (show lo (cut ν p) w p ≤ p + 1 by omega)]
  · intro q hq s
    unfold ga108
    rw [if_neg (by omega)]
  · intro q h1 h2 s
    unfold ga108 cntS
    rw [if_pos h1, cut_le (show q ≤ p by omega), cut_le (Nat.le_refl p), cut_le (show q ≤ p by omega)]
    show (if ν 3 q = ν 3 p then _ else _ : Int32 × Int32).1 = if ν 3 q = ν 3 p then _ else _
    by_cases h3 : ν 3 q = ν 3 p
    · rw [if_pos h3, if_pos h3]
      rfl
    · rw [if_neg h3, if_neg h3]
theorem mV105 {A T P p : Nat} {w mk : Int32} {μ ν : Mm} (hA : Acc A μ ν) (hL : Led A T P μ ν) (hT : T ≤ 800000) (hp : p < P) (hw : win w) : f_X8_valueBy (nI p) (nI 105) w mk ν = some (V (cut ν p) (nI 105) w mk p, ν) := by
  have v : V (cut ν p) (nI 105) w mk p = fo (sumS (cut ν p) 1 (cut ν p 0 p)) (lo (cut ν p) w p) (p + 1 - lo (cut ν p) w p) 0 := by unfold V; rw [if_neg (by decide), if_neg (by decide), if_neg (by decide), if_neg (by decide), if_neg (by decide), if_pos (by decide)]
  have hl := (lo_le hT hL hp hw).1
  unfold f_X8_valueBy
  rw [if_neg (by decide), if_neg (by decide), if_neg (by decide), if_neg (by decide), if_neg (by decide), if_neg (by decide), v, show nI 105 = (105 : Int32) from rfl, gat105 hA hL hp, Option.bind_some]
  rw [fo_fst (h := sumS (cut ν p) 1 (cut ν p 0 p)) (show lo (cut ν p) w p ≤ p + 1 by omega)]
  · intro q hq s
    unfold ga105
    rw [if_neg (by omega)]
  · intro q h1 h2 s
    unfold ga105 sumS
    rw [if_pos h1, cut_le (show q ≤ p by omega), cut_le (Nat.le_refl p), cut_le (show q ≤ p by omega)]
    rfl
theorem mV114 {A T P p : Nat} {w mk : Int32} {μ ν : Mm} (hA : Acc A μ ν) (hL : Led A T P μ ν) (hT : T ≤ 800000) (hp : p < P) (hw : win w) : f_X8_valueBy (nI p) (nI 114) w mk ν = some (V (cut ν p) (nI 114) w mk p, ν) := by
  have v : V (cut ν p) (nI 114) w mk p = nI (pop (fo (recS (cut ν p) (cut ν p 0 p)) (lo (cut ν p) w p) (p + 1 - lo (cut ν p) w p) 0)) := by unfold V; rw [if_neg (by decide), if_neg (by decide), if_neg (by decide), if_neg (by decide), if_neg (by decide), if_neg (by decide), if_neg (by decide), if_neg (by decide), if_neg (by decide), if_neg (by decide), if_pos (by decide)]
  have hl := (lo_le hT hL hp hw).1
  unfold f_X8_valueBy
  rw [if_neg (by decide), if_neg (by decide), if_neg (by decide), if_neg (by decide), if_neg (by decide), if_neg (by decide), v, show nI 114 = (114 : Int32) from rfl, gat114 hA hL hp, Option.bind_some]
  rw [fo_pop (h := recS (cut ν p) (cut ν p 0 p)) (show lo (cut ν p) w p ≤ p + 1 by omega)]
  · intro q hq s
    unfold ga114
    rw [if_neg (by omega)]
  · intro q h1 h2 s hs
    obtain ⟨_, _, _, _, a, b, c, m, z1, z2, z3, z4, z5, z6, z7, z8, z9⟩ := hL.2.2.2.1 q (by have := hL.1; omega)
    have hA20 := hA.1
    unfold ga114 recS
    rw [if_pos h1, cut_le (show q ≤ p by omega), cut_le (Nat.le_refl p), cut_le (show q ≤ p by omega)]
    show _ ∧ _ = if ν 3 q = ν 3 p then sb s.2 (ν 4 q).toNatClampNeg true else s.2
    by_cases h3 : ν 3 q = ν 3 p
    · rw [if_pos h3, if_pos h3, z7, w_nat (by omega)]
      refine ⟨?_, rfl⟩
      show (if bt s.2 b = true then s.1 else s.1 + 1) = nI (pop (sb s.2 b true))
      rw [pop_sb (by omega), hs]
      by_cases hb : bt s.2 b = true
      · rw [if_pos hb, if_pos hb]; rfl
      · rw [if_neg hb, if_neg hb, w_succ]
    · rw [if_neg h3, if_neg h3]
      exact ⟨hs, rfl⟩
theorem mV99 {A T P p : Nat} {w mk : Int32} {μ ν : Mm} (hA : Acc A μ ν) (hL : Led A T P μ ν) (hT : T ≤ 800000) (hp : p < P) (hw : win w) : f_X8_valueBy (nI p) (nI 99) w mk ν = some (V (cut ν p) (nI 99) w mk p, ν) := by
  have v : V (cut ν p) (nI 99) w mk p = nI (pop (fo (cnyS (cut ν p) (cut ν p 0 p)) (lo (cut ν p) w p) (p + 1 - lo (cut ν p) w p) 0)) := by unfold V; rw [if_neg (by decide), if_pos (by decide)]
  have hl := (lo_le hT hL hp hw).1
  unfold f_X8_valueBy
  rw [if_neg (by decide), if_neg (by decide), if_neg (by decide), if_neg (by decide), if_neg (by decide), if_neg (by decide), v, show nI 99 = (99 : Int32) from rfl, gat99 hA hL hp, Option.bind_some]
  rw [fo_pop (h := cnyS (cut ν p) (cut ν p 0 p)) (show lo (cut ν p) w p ≤ p + 1 by omega)]
  · intro q hq s
    unfold ga99
    rw [if_neg (by omega)]
  · intro q h1 h2 s hs
    obtain ⟨_, _, _, _, a, b, c, m, z1, z2, z3, z4, z5, z6, z7, z8, z9⟩ := hL.2.2.2.1 q (by have := hL.1; omega)
    obtain ⟨_, _, cc, u1, u2, u3⟩ := hA.2.2.2.2.2 b z2
    have hA20 := hA.1
    unfold ga99 cnyS
    rw [if_pos h1, cut_le (show q ≤ p by omega), cut_le (Nat.le_refl p), cut_le (show q ≤ p by omega)]
    show _ ∧ _ = if ν 3 q = ν 3 p then sb s.2 ((ν 1 (ν 4 q).toNatClampNeg).toNatClampNeg - 97) true else s.2
    by_cases h3 : ν 3 q = ν 3 p
    · rw [if_pos h3, if_pos h3, z7, w_nat (show b < 2147483648 by omega), u3, w_nat (show cc < 2147483648 by omega)]
      refine ⟨?_, rfl⟩
      show (if bt s.2 (cc - 97) = true then s.1 else s.1 + 1) = nI (pop (sb s.2 (cc - 97) true))
      rw [pop_sb (by omega), hs]
      by_cases hb : bt s.2 (cc - 97) = true
      · rw [if_pos hb, if_pos hb]; rfl
      · rw [if_neg hb, if_neg hb, w_succ]
    · rw [if_neg h3, if_neg h3]
      exact ⟨hs, rfl⟩
