/-! ===== L3: the model's values and conditions ===== -/
theorem mV {A T P p f : Nat} {w mk : Int32} {μ ν : Mm} (hA : Acc A μ ν) (hL : Led A T P μ ν) (hT : T ≤ 800000) (hp : p < P) (hw : win w) (hf : isF f) : ∃ ν', f_X8_valueBy (nI p) (nI f) w mk ν = some (V (cut ν p) (nI f) w mk p, ν') ∧ ∀ k, k ≠ 11 → ν' k = ν k := by
  have z : ∀ {r : Option (Int32 × Mm)} {v : Int32}, r = some (v, ν) → ∃ ν', r = some (v, ν') ∧ ∀ k, k ≠ 11 → ν' k = ν k := fun h => ⟨ν, h, fun _ _ => rfl⟩
  rcases hf with rfl | rfl | rfl | rfl | rfl | rfl | rfl | rfl | rfl | rfl | rfl | rfl | rfl
  · exact z (mV_small hL hA.1 hp (by omega))
  · exact z (mV99 hA hL hT hp hw)
  · exact mV100 hA hL hT hp hw
  · exact z (mV_small hL hA.1 hp (by omega))
  · exact mV103 hA hL hT hp hw
  · exact z (mV105 hA hL hT hp hw)
  · exact mV107 hA hL hT hp hw
  · exact z (mV108 hA hL hT hp hw)
  · exact z (mV109 hA hL hT hp hw)
  · exact z (mV110 hA hL hT hp hw)
  · exact z (mV_small hL hA.1 hp (by omega))
  · exact z (mV114 hA hL hT hp hw)
  · exact z (mV115 hA hL hT hp hw)
theorem Acc_f {A : Nat} {μ ν m : Mm} (h : Acc A μ ν) (hm : ∀ k, k ≠ 11 → m k = ν k) : Acc A μ m := by
  unfold Acc at h ⊢
  rw [hm 0 (by omega), hm 1 (by omega), hm 2 (by omega)]
  exact h
theorem Led_f {A T P : Nat} {μ ν m : Mm} (h : Led A T P μ ν) (hm : ∀ k, k ≠ 11 → m k = ν k) : Led A T P μ m := by
  unfold Led at h ⊢
  rw [hm 0 (by omega), hm 3 (by omega), hm 4 (by omega), hm 5 (by omega), hm 6 (by omega)]
  exact h
theorem cut_f {ν m : Mm} (hm : ∀ k, k ≠ 11 → m k = ν k) (p : Nat) : cut m p = cut ν p := by
  apply Sst_cut
  intro q _
  rw [hm 1 (by omega), hm 2 (by omega), hm 3 (by omega), hm 4 (by omega), hm 5 (by omega), hm 6 (by omega)]
  simp
theorem isTrue_eq {A T P C p : Nat} {mk : Int32} {μ ν : Mm} (hA : Acc A μ ν) (hL : Led A T P μ ν) (hC : Con C μ ν) (hT : T ≤ 800000) (hp : p < P) : ∀ (d c s : Nat), c < C → ν 15 c = nI s → s ≤ d → s ≤ 15 → ∀ m : Mm, (∀ k, k ≠ 11 → m k = ν k) → ∃ m', f_X8_isTrue d (nI c) (nI p) mk m = some (b2 (sem ν mk p d c), m') ∧ ∀ k, k ≠ 11 → m' k = ν k
  | 0, c, s, hc, hs, h, _, m, hm => by
    exfalso
    obtain ⟨k, s', n, hk, hs', e1, e2, e3, e4, e5, e6, h0, h3, h12⟩ := hC.2.2.2.2.2 c hc
    have hss : s' = s := (w_eq (by omega) (by omega)).mp (e3.symm.trans hs)
    have hk4 : k = 0 ∨ k = 3 ∨ (k = 1 ∨ k = 2) := by omega
    rcases hk4 with hk | hk | hk
    · have := (h0 hk).2.2.2.2.1; omega
    · obtain ⟨_, a, s1, _, _, _, _, e⟩ := h3 hk; omega
    · obtain ⟨a, b, s1, s2, _, _, _, _, _, _, _, _, e, _⟩ := h12 hk; omega
  | d + 1, c, s, hc, hs, h, h15, m, hm => by
    have hC30 := hC.1
    obtain ⟨k, s', n, hk, hs', e1, e2, e3, e4, e5, e6, h0, h3, h12⟩ := hC.2.2.2.2.2 c hc
    have hss : s' = s := (w_eq (by omega) (by omega)).mp (e3.symm.trans hs)
    have cc : ∀ {α : Type} (k : Option α), chk (nI c) 30 k = k := fun k => chk_nI (by omega) (by omega)
    have wc : (nI c).toNatClampNeg = c := w_nat (by omega)
    have hk4 : k = 0 ∨ k = 1 ∨ k = 2 ∨ k = 3 := by omega
    unfold f_X8_isTrue sem
    rw [cc, wc, hm 12 (by omega), e1]
    rcases hk4 with rfl | rfl | rfl | rfl
    · obtain ⟨f1, f2, f3, f4, f5, f6, f, w, g1, g2, g3, g4, g5⟩ := h0 rfl
      rw [if_neg (show ¬ nI 0 = 3 by decide), if_neg (show ¬ nI 0 = 3 by decide), cc, if_neg (show ¬ nI 0 = 1 by decide), if_neg (show ¬ nI 0 = 1 by decide), cc, if_neg (show ¬ nI 0 = 2 by decide), if_neg (show ¬ nI 0 = 2 by decide), cc, cc, hm 18 (by omega), hm 16 (by omega), g4, g5]
      obtain ⟨m2, v1, v2⟩ := mV (w := nI w) (mk := mk) (Acc_f hA hm) (Led_f hL hm) hT hp (show win (nI w) from ⟨by rw [w_int (by omega)]; omega, by rw [w_int (by omega)]; omega⟩) g1
      have M : ∀ k, k ≠ 11 → m2 k = ν k := fun k hk => (v2 k hk).trans (hm k hk)
      rw [v1, Option.bind_some, cc]
      refine ⟨m2, ?_, M⟩
      show (if m2 19 c = 0 then chk (nI c) 30 (if m2 17 c < V (cut m p) (nI f) (nI w) mk p then some ((0 : Int32), m2) else some (1, m2)) else chk (nI c) 30 (if V (cut m p) (nI f) (nI w) mk p < m2 17 c then some (0, m2) else some (1, m2))) = _
      rw [M 19 (by omega), M 17 (by omega), cc, cc, cut_f hm p]
      have hVC : VC ν mk p c = V (cut ν p) (nI f) (nI w) mk p := by unfold VC; rw [g4, g5]
      rw [hVC]
      unfold tst
      generalize V (cut ν p) (nI f) (nI w) mk p = v
      by_cases ha : ν 19 c = 0
      · rw [if_pos ha, if_pos ha]
        by_cases hb : ν 17 c < v
        · rw [if_pos hb, decide_eq_true hb]; rfl
        · rw [if_neg hb, decide_eq_false hb]; rfl
      · rw [if_neg ha, if_neg ha]
        by_cases hb : v < ν 17 c
        · rw [if_pos hb, decide_eq_true hb]; rfl
        · rw [if_neg hb, decide_eq_false hb]; rfl
    · obtain ⟨a, b, s1, s2, ha, hb, g1, g20, g2, g21, g3, g4, e, _⟩ := h12 (Or.inl rfl)
      rw [if_neg (show ¬ nI 1 = 3 by decide), if_neg (show ¬ nI 1 = 3 by decide), cc, if_pos (show nI 1 = 1 from rfl), if_pos (show nI 1 = 1 from rfl), cc, hm 13 (by omega), g1, g2, w_nat (show a < 2147483648 by omega), w_nat (show b < 2147483648 by omega)]
      obtain ⟨m1, u1, u2⟩ := isTrue_eq (mk := mk) hA hL hC hT hp d a s1 (by omega) g3 (by omega) (by omega) m hm
      obtain ⟨m2, v1, v2⟩ := isTrue_eq (mk := mk) hA hL hC hT hp d b s2 (by omega) g4 (by omega) (by omega) m1 u2
      rw [u1, Option.bind_some]
      cases sem ν mk p d a
      · exact ⟨m1, rfl, u2⟩
      · refine ⟨m2, ?_, v2⟩
        rw [b2_t, if_neg (show ¬ (1 : Int32) = 0 by decide), cc]
        dsimp only
        rw [u2 14 (by omega), g2, v1, Option.bind_some]
        cases sem ν mk p d b <;> rfl
    · obtain ⟨a, b, s1, s2, ha, hb, g1, g20, g2, g21, g3, g4, e, _⟩ := h12 (Or.inr rfl)
      rw [if_neg (show ¬ nI 2 = 3 by decide), if_neg (show ¬ nI 2 = 3 by decide), cc, if_neg (show ¬ nI 2 = 1 by decide), if_neg (show ¬ nI 2 = 1 by decide), cc, if_pos (show nI 2 = 2 from rfl), if_pos (show nI 2 = 2 from rfl), cc, hm 13 (by omega), g1, g2, w_nat (show a < 2147483648 by omega), w_nat (show b < 2147483648 by omega)]
      obtain ⟨m1, u1, u2⟩ := isTrue_eq (mk := mk) hA hL hC hT hp d a s1 (by omega) g3 (by omega) (by omega) m hm
      obtain ⟨m2, v1, v2⟩ := isTrue_eq (mk := mk) hA hL hC hT hp d b s2 (by omega) g4 (by omega) (by omega) m1 u2
      rw [u1, Option.bind_some]
      cases sem ν mk p d a
      · refine ⟨m2, ?_, v2⟩
        rw [b2_f, if_pos rfl, cc]
        dsimp only
        rw [u2 14 (by omega), g2, v1, Option.bind_some]
        cases sem ν mk p d b <;> rfl
      · exact ⟨m1, rfl, u2⟩
    · obtain ⟨_, a, s1, ha, g1, g20, g3, e⟩ := h3 rfl
      rw [if_pos (show nI 3 = 3 from rfl), if_pos (show nI 3 = 3 from rfl), cc, hm 13 (by omega), g1, w_nat (show a < 2147483648 by omega)]
      obtain ⟨m1, u1, u2⟩ := isTrue_eq (mk := mk) hA hL hC hT hp d a s1 (by omega) g3 (by omega) (by omega) m hm
      rw [u1, Option.bind_some]
      refine ⟨m1, ?_, u2⟩
      cases sem ν mk p d a <;> rfl
theorem Con_size {C c : Nat} {μ ν : Mm} (hC : Con C μ ν) (hc : c < C) : ∃ s, s ≤ 15 ∧ ν 15 c = nI s := by
  obtain ⟨k, s', n, hk, hs', e1, e2, e3, _⟩ := hC.2.2.2.2.2 c hc
  exact ⟨s', hs', e3⟩
theorem true16 {A T P C p c : Nat} {mk : Int32} {μ ν m : Mm} (hA : Acc A μ ν) (hL : Led A T P μ ν) (hC : Con C μ ν) (hT : T ≤ 800000) (hp : p < P) (hc : c < C) (hm : ∀ k, k ≠ 11 → m k = ν k) : ∃ m', f_X8_isTrue 16 (nI c) (nI p) mk m = some (b2 (sem ν mk p 16 c), m') ∧ ∀ k, k ≠ 11 → m' k = ν k := by
  obtain ⟨s, h1, h2⟩ := Con_size hC hc
  exact isTrue_eq hA hL hC hT hp 16 c s hc h2 (by omega) h1 m hm
/-- rule r is a reason -/
def rsn (ν : Mm) (x mk : Int32) (p r : Nat) : Bool := bt x r && sem ν mk p 16 (rcN ν r)
theorem isReason_eq {A T P C N p r : Nat} {x mk : Int32} {μ ν m : Mm} (hA : Acc A μ ν) (hL : Led A T P μ ν) (hC : Con C μ ν) (hR : Rul C N μ ν) (hT : T ≤ 800000) (hp : p < P) (hr : r < N) (hm : ∀ k, k ≠ 11 → m k = ν k) : ∃ m', f_X8_isReason (nI r) (nI p) x mk m = some (b2 (rsn ν x mk p r), m') ∧ ∀ k, k ≠ 11 → m' k = ν k := by
  have hN := hR.1
  have hC30 := hC.1
  obtain ⟨c, w, h1, h2, h3, h4, h5, h6, h7⟩ := hR.2.2.2.2.2 r hr
  unfold f_X8_isReason rsn rcN
  rw [has_eq _ (show r < 32 by omega), Option.bind_some, h5, w_nat (show c < 2147483648 by omega)]
  cases bt x r
  · exact ⟨m, rfl, hm⟩
  · obtain ⟨m', v1, v2⟩ := true16 (mk := mk) hA hL hC hT hp h1 hm
    rw [b2_t, if_neg (show ¬ (1 : Int32) = 0 by decide), chk_nI (show r < 12 by omega) (by omega), hm 20 (by omega), w_nat (show r < 2147483648 by omega), h5, v1, Option.bind_some]
    refine ⟨m', ?_, v2⟩
    cases sem ν mk p 16 c <;> rfl
theorem scoreBy_eq {A T P C N p : Nat} {x mk : Int32} {μ ν m : Mm} (hA : Acc A μ ν) (hL : Led A T P μ ν) (hC : Con C μ ν) (hR : Rul C N μ ν) (hT : T ≤ 800000) (hp : p < P) (hm : ∀ k, k ≠ 11 → m k = ν k) : ∃ m', f_X8_scoreBy (nI p) x mk m = some (fo (fun r s => if rsn ν x mk p r = true then s + ν 21 r else s) 0 N 0, m') ∧ ∀ k, k ≠ 11 → m' k = ν k := by
  have hN := hR.1
  unfold f_X8_scoreBy
  have hh := up_loopR (fun f y (s : Int32 × Mm) => f_X8_scoreBy_L6 (nI p) x mk f s.1 y s.2) N (fun s => some (s.1, s.2)) (fun i s => s.1 = fo (fun r s => if rsn ν x mk p r = true then s + ν 21 r else s) 0 i 0 ∧ ∀ k, k ≠ 11 → s.2 k = ν k) ?_ ?_ N fuel 0 (0, m) (by omega) (by unfold fuel; omega) ⟨rfl, hm⟩
  · obtain ⟨s, e1, e2, e3⟩ := hh
    exact ⟨s.2, by rw [← e2]; exact e1, e3⟩
  · intro f s hs
    show f_X8_scoreBy_L6 (nI p) x mk (f + 1) s.1 (nI N) s.2 = _
    unfold f_X8_scoreBy_L6
    rw [hs.2 0 (by omega), hR.2.2.1, if_pos (by rw [w_le (by omega) (by omega)]; omega)]
  · intro f i s hi hs
    obtain ⟨m', v1, v2⟩ := isReason_eq (x := x) (mk := mk) hA hL hC hR hT hp hi hs.2
    refine ⟨(fo (fun r s => if rsn ν x mk p r = true then s + ν 21 r else s) 0 (i + 1) 0, m'), ?_, rfl, v2⟩
    show f_X8_scoreBy_L6 (nI p) x mk (f + 1) s.1 (nI i) s.2 = f_X8_scoreBy_L6 (nI p) x mk f (fo (fun r s => if rsn ν x mk p r = true then s + ν 21 r else s) 0 (i + 1) 0) (nI (i + 1)) m'
    conv => lhs; unfold f_X8_scoreBy_L6
    rw [hs.2 0 (by omega), hR.2.2.1, if_neg (by rw [w_le (by omega) (by omega)]; omega), v1, Option.bind_some, fo_succ, Nat.zero_add, ← hs.1, w_succ]
    cases rsn ν x mk p i
    · rw [b2_f, if_pos rfl, if_neg (show ¬ (false = true) by simp), show s.1 + 0 = s.1 from Int32.add_zero _]
    · rw [b2_t, if_neg (show ¬ (1 : Int32) = 0 by decide), if_pos rfl, chk_nI (show i < 12 by omega) (by omega)]
      dsimp only
      rw [v2 21 (by omega), w_nat (show i < 2147483648 by omega)]
theorem wasReason_eq {A T P C N p r : Nat} {μ ν m : Mm} (hA : Acc A μ ν) (hL : Led A T P μ ν) (hC : Con C μ ν) (hR : Rul C N μ ν) (hT : T ≤ 800000) (hp : p < P) (hr : r < N) (hJ : Jud1 C N μ ν p) (hm : ∀ k, k ≠ 11 → m k = ν k) : ∃ m', f_X8_wasReason (nI r) (nI p) m = some (b2 (bt (μ 32 p) r), m') ∧ ∀ k, k ≠ 11 → m' k = ν k := by
  have hP := hL.1
  obtain ⟨k, _, _, j2, _⟩ := hJ
  obtain ⟨m', v1, v2⟩ := isReason_eq (x := ν 8 p) (mk := ν 7 p) hA hL hC hR hT hp hr hm
  unfold f_X8_wasReason
  refine ⟨m', ?_, v2⟩
  rw [chk_nI (show p < 200 by omega) (by omega), chk_nI (show p < 200 by omega) (by omega), w_nat (show p < 2147483648 by omega), hm 8 (by omega), hm 7 (by omega), v1, Option.bind_some, gnb, j2 r hr]
  rfl
/-- the component's set of reasons -/
theorem find_eq {C N p : Nat} {m μ ν : Mm} (hC : Con C μ ν) (hR : Rul C N μ ν) (hI : JI μ ν p C m) : ∃ x, f_X6_findReasons_13 m = some x ∧ ∀ r, r < 32 → bt x r = (decide (r < N) && rsn ν (ν 0 30) (μ 2 3) p r) := by
  have hN := hR.1
  have hC30 := hC.1
  unfold f_X6_findReasons_13
  refine up_loopR (fun f y (s : Int32) => f_X6_findReasons_13_L4 m f s y) N (fun s => some s) (fun i s => ∀ r, r < 32 → bt s r = (decide (r < i) && rsn ν (ν 0 30) (μ 2 3) p r)) ?_ ?_ N fuel 0 0 (by omega) (by unfold fuel; omega) (fun r _ => by rw [b_0, decide_eq_false (by omega)]; rfl)
  · intro f s _
    show f_X6_findReasons_13_L4 m (f + 1) s (nI N) = _
    unfold f_X6_findReasons_13_L4
    rw [hI.1 26 (by omega) (by omega) (by omega) (by omega), hR.2.1, if_pos (by rw [w_le (by omega) (by omega)]; omega)]
  · intro f i s hi hs
    obtain ⟨c, w, h1, h2, h3, h4, h5, h6, h7⟩ := hR.2.2.2.2.2 i hi
    show ∃ s', f_X6_findReasons_13_L4 m (f + 1) s (nI i) = f_X6_findReasons_13_L4 m f s' (nI (i + 1)) ∧ _
    conv => enter [1, s', 1, 1]; unfold f_X6_findReasons_13_L4
    rw [hI.1 26 (by omega) (by omega) (by omega) (by omega), hI.1 27 (by omega) (by omega) (by omega) (by omega), hR.2.1, if_neg (by rw [w_le (by omega) (by omega)]; omega), hasBit_eq _ (show i < 32 by omega), Option.bind_some, w_nat (show i < 2147483648 by omega), chk_nI (show i < 12 by omega) (by omega), h4, chk_nI (show c < 30 by omega) (by omega), w_nat (show c < 2147483648 by omega), (hI.2 c h1).1, hR.2.2.2.1, w_succ]
    have hrc : rcN ν i = c := by unfold rcN; rw [h5, w_nat (by omega)]
    have ex : ∀ (b : Bool), b = rsn ν (ν 0 30) (μ 2 3) p i → ∀ r, r < 32 → (if r = i then b else bt s r) = (decide (r < i + 1) && rsn ν (ν 0 30) (μ 2 3) p r) := by
      intro b hb r hr
      by_cases hri : r = i
      · rw [if_pos hri, hri, decide_eq_true (by omega), hb]; rfl
      · rw [if_neg hri, hs r hr]
        by_cases h : r < i
        · rw [decide_eq_true h, decide_eq_true (by omega)]
        · rw [decide_eq_false h, decide_eq_false (by omega)]
    have exs : rsn ν (ν 0 30) (μ 2 3) p i = false → ∀ r, r < 32 → bt s r = (decide (r < i + 1) && rsn ν (ν 0 30) (μ 2 3) p r) := by
      intro hb r hr
      rw [← ex false hb.symm r hr]
      by_cases hri : r = i
      · rw [if_pos hri, hri, hs i (by omega), hb, Bool.and_false]
      · rw [if_neg hri]
    have hrs : rsn ν (ν 0 30) (μ 2 3) p i = (bt (ν 0 30) i && sem ν (μ 2 3) p 16 c) := by unfold rsn; rw [hrc]
    cases h8 : bt (ν 0 30) i
    · refine ⟨s, ?_, exs (by rw [hrs, h8]; rfl)⟩
      rw [b2_f, if_pos rfl]
    · rw [b2_t, if_neg (show ¬ (1 : Int32) = 0 by decide)]
      cases h9 : sem ν (μ 2 3) p 16 c
      · refine ⟨s, ?_, exs (by rw [hrs, h9, Bool.and_false])⟩
        rw [b2_f, if_pos rfl]
      · rw [b2_t, if_neg (show ¬ (1 : Int32) = 0 by decide), withBit1, Option.bind_some]
        refine ⟨_, rfl, fun r hr => ?_⟩
        rw [bt_sb _ _ (by omega) hr]
        exact ex true (by rw [hrs, h8, h9]; rfl) r hr
