/-! ===== L3: the component's judgement is sem ===== -/
theorem up_loopR {σ ρ : Type} (F : Nat → Int32 → σ → Option ρ) (P : Nat) (K : σ → Option ρ) (I : Nat → σ → Prop)
    (h0 : ∀ n s, I P s → F (n + 1) (nI P) s = K s)
    (h1 : ∀ n i s, i < P → I i s → ∃ s', F (n + 1) (nI i) s = F n (nI (i + 1)) s' ∧ I (i + 1) s') :
    ∀ (m n i : Nat) (s : σ), i + m = P → m < n → I i s → ∃ s', F n (nI i) s = K s' ∧ I P s'
  | 0, 0, _, _, _, h, _ => by omega
  | 0, n + 1, i, s, he, _, hI => by
    have : i = P := by omega
    subst this
    exact ⟨s, h0 n s hI, hI⟩
  | m + 1, 0, _, _, _, h, _ => by omega
  | m + 1, n + 1, i, s, he, hn, hI => by
    obtain ⟨s', e, hI2⟩ := h1 n i s (by omega) hI
    obtain ⟨s2, e2, hI3⟩ := up_loopR F P K I h0 h1 m n (i + 1) s' (by omega) (by omega) hI2
    exact ⟨s2, e.trans e2, hI3⟩
theorem sem_fuel {C p : Nat} {μ ν : Mm} {mk : Int32} (hC : C ≤ 30) (hall : ∀ j, j < C → Cnd μ ν j) : ∀ (d c s : Nat), c < C → ν 15 c = nI s → s ≤ d → s ≤ 15 → sem ν mk p (d + 1) c = sem ν mk p d c
  | 0, c, s, hc, hs, h, _ => by
    exfalso
    obtain ⟨k, s', n, hk, hs', e1, e2, e3, e4, e5, e6, h0, h3, h12⟩ := hall c hc
    have hss : s' = s := (w_eq (by omega) (by omega)).mp (e3.symm.trans hs)
    have hk4 : k = 0 ∨ k = 3 ∨ (k = 1 ∨ k = 2) := by omega
    rcases hk4 with hk | hk | hk
    · have := (h0 hk).2.2.2.2.1; omega
    · obtain ⟨_, a, s1, _, _, _, _, e⟩ := h3 hk; omega
    · obtain ⟨a, b, s1, s2, _, _, _, _, _, _, _, _, e, _⟩ := h12 hk; omega
  | d + 1, c, s, hc, hs, h, h15 => by
    obtain ⟨k, s', n, hk, hs', e1, e2, e3, e4, e5, e6, h0, h3, h12⟩ := hall c hc
    have hss : s' = s := (w_eq (by omega) (by omega)).mp (e3.symm.trans hs)
    have hk4 : k = 0 ∨ k = 1 ∨ k = 2 ∨ k = 3 := by omega
    unfold sem
    rcases hk4 with rfl | rfl | rfl | rfl
    · rw [e1, if_neg (by decide), if_neg (by decide), if_neg (by decide), if_neg (by decide), if_neg (by decide), if_neg (by decide)]
    · obtain ⟨a, b, s1, s2, ha, hb, g1, _, g2, _, g3, g4, e, _⟩ := h12 (Or.inl rfl)
      rw [e1, if_neg (by decide), if_pos (by decide), if_neg (by decide), if_pos (by decide), g1, g2, w_nat (by omega), w_nat (by omega), sem_fuel hC hall d a s1 (by omega) g3 (by omega) (by omega), sem_fuel hC hall d b s2 (by omega) g4 (by omega) (by omega)]
    · obtain ⟨a, b, s1, s2, ha, hb, g1, _, g2, _, g3, g4, e, _⟩ := h12 (Or.inr rfl)
      rw [e1, if_neg (by decide), if_neg (by decide), if_pos (by decide), if_neg (by decide), if_neg (by decide), if_pos (by decide), g1, g2, w_nat (by omega), w_nat (by omega), sem_fuel hC hall d a s1 (by omega) g3 (by omega) (by omega), sem_fuel hC hall d b s2 (by omega) g4 (by omega) (by omega)]
    · obtain ⟨_, a, s1, ha, g1, _, g3, e⟩ := h3 rfl
      rw [e1, if_pos (by decide), if_pos (by decide), g1, w_nat (by omega), sem_fuel hC hall d a s1 (by omega) g3 (by omega) (by omega)]
theorem narb (b : Bool) : vp_nar .boolean (b2 b) = b2 b := by cases b <;> rfl
/-- what judge leaves after k conditions -/
def JI (μ ν : Mm) (p k : Nat) (m : Mm) : Prop := (∀ c, c ≠ 11 → c ≠ 12 → c ≠ 24 → c ≠ 25 → m c = μ c) ∧ ∀ c, c < k → m 24 c = b2 (sem ν (μ 2 3) p 16 c) ∧ (ν 12 c = 0 → m 25 c = VC ν (μ 2 3) p c)
theorem JI_set {μ ν m : Mm} {p k : Nat} {b : Bool} (h : JI μ ν p k m) (hb : b = sem ν (μ 2 3) p 16 k) (hv : ν 12 k ≠ 0) : JI μ ν p (k + 1) (up2 m 24 k (b2 b)) := by
  refine ⟨fun c h1 h2 h3 h4 => by rw [up2_n h3]; exact h.1 c h1 h2 h3 h4, fun c hc => ?_⟩
  by_cases hck : c = k
  · subst hck
    refine ⟨?_, fun h0 => absurd h0 hv⟩
    show (if c = c then b2 b else _) = _
    rw [if_pos rfl, hb]
  · obtain ⟨g1, g2⟩ := h.2 c (by omega)
    refine ⟨?_, fun h0 => g2 h0⟩
    show (if c = k then b2 b else m 24 c) = _
    rw [if_neg hck, g1]
theorem judge_eq {A T P C p k : Nat} {μ ν : Mm} (hA : Acc A μ ν) (hL : Led A T P μ ν) (hC : Con C μ ν) (hT : T ≤ 800000) (hp : p < P) (hk : k ≤ C) : ∃ μ', f_X3_judge_1 (nI p) (nI k) μ = some μ' ∧ JI μ ν p k μ' := by
  obtain ⟨q1, q2, q3, q4, q5, q6⟩ := id hC
  unfold f_X3_judge_1
  refine up_loopR (fun n y (m : Mm) => f_X3_judge_1_L3 (nI p) (nI k) n y m) k (fun m => some m) (JI μ ν p) ?_ ?_ k fuel 0 μ (by omega) (by unfold fuel; omega) ⟨fun c _ _ _ _ => rfl, fun c hc => by omega⟩
  · intro n m _
    show f_X3_judge_1_L3 (nI p) (nI k) (n + 1) (nI k) m = _
    unfold f_X3_judge_1_L3
    rw [if_pos (by rw [w_le (by omega) (by omega)]; omega)]
  · intro n i m hi hI
    obtain ⟨kk, s, nn, hk3, hs, e1, e2, e3, e4, e5, e6, h0, h3, h12⟩ := q6 i (by omega)
    obtain ⟨fa, fb, hfa, hfb, efa, efb⟩ := q4 i (by omega)
    have M : ∀ c, c ≠ 11 → c ≠ 12 → c ≠ 24 → c ≠ 25 → m c = μ c := hI.1
    show ∃ s', f_X3_judge_1_L3 (nI p) (nI k) (n + 1) (nI i) m = f_X3_judge_1_L3 (nI p) (nI k) n (nI (i + 1)) s' ∧ JI μ ν p (i + 1) s'
    conv => enter [1, s', 1, 1]; unfold f_X3_judge_1_L3
    rw [if_neg (by rw [w_le (by omega) (by omega)]; omega), M 20 (by omega) (by omega) (by omega) (by omega), M 21 (by omega) (by omega) (by omega) (by omega), M 14 (by omega) (by omega) (by omega) (by omega), w_nat (show i < 2147483648 by omega), efa, efb, e2, w_succ]
    have ci : ∀ {α : Type} (k : Option α), chk (nI i) 30 k = k := fun k => chk_nI (by omega) (by omega)
    rw [ci, chk_nI hfa (by omega), ci, chk_nI hfb (by omega), ci, w_nat (show fa < 2147483648 by omega), w_nat (show fb < 2147483648 by omega)]
    have n0 : vp_nar .boolean 0 = b2 false := narb false
    have n1 : vp_nar .boolean 1 = b2 true := narb true
    have S : ∀ a s1, a < i → ν 15 a = nI s1 → s1 ≤ 14 → sem ν (μ 2 3) p 15 a = sem ν (μ 2 3) p 16 a := fun a s1 ha h1 h2 => (sem_fuel q1 q6 15 a s1 (by omega) h1 (by omega) (by omega)).symm
    have hk4 : kk = 0 ∨ kk = 1 ∨ kk = 2 ∨ kk = 3 := by omega
    rcases hk4 with rfl | rfl | rfl | rfl
    · obtain ⟨f1, f2, f3, f4, f5, f6, f, w, g1, g2, g3, g4, g5⟩ := h0 rfl
      rw [if_neg (by decide), if_neg (by decide), if_neg (by decide)]
      have hAm : Acc A m ν := by
        unfold Acc at hA ⊢
        rw [M 2 (by omega) (by omega) (by omega) (by omega), M 3 (by omega) (by omega) (by omega) (by omega), M 4 (by omega) (by omega) (by omega) (by omega)]
        exact hA
      have hLm : Led A T P m ν := by
        unfold Led at hL ⊢
        rw [M 5 (by omega) (by omega) (by omega) (by omega), M 6 (by omega) (by omega) (by omega) (by omega), M 7 (by omega) (by omega) (by omega) (by omega), M 8 (by omega) (by omega) (by omega) (by omega), M 9 (by omega) (by omega) (by omega) (by omega)]
        exact hL
      obtain ⟨m2, v1, v2⟩ := compV (w := nI w) hAm hLm hT hp (show win (nI w) from ⟨by rw [w_int (by omega)]; omega, by rw [w_int (by omega)]; omega⟩) g1
      rw [M 2 (by omega) (by omega) (by omega) (by omega)] at v1
      have hsem : sem ν (μ 2 3) p 16 i = tst ν i (VC ν (μ 2 3) p i) := by
        show sem ν (μ 2 3) p (15 + 1) i = _
        unfold sem
        rw [e1, if_neg (by decide), if_neg (by decide), if_neg (by decide)]
      have hVC : VC ν (μ 2 3) p i = V (cut ν p) (nI f) (nI w) (μ 2 3) p := by unfold VC; rw [g4, g5]
      have K : ∀ c, c ≠ 11 → c ≠ 12 → c ≠ 24 → c ≠ 25 → m2 c = μ c := fun c h1 h2 h3 h4 => (v2 c h1 h2).trans (M c h1 h2 h3 h4)
      have jt : f_X3_judgeTest_1 (nI p) (nI i) m = some (b2 (sem ν (μ 2 3) p 16 i), up2 m2 25 i (VC ν (μ 2 3) p i)) := by
        unfold f_X3_judgeTest_1
        have ci2 : ∀ {α : Type} (k : Option α), chk (nI i) 30 k = k := fun k => chk_nI (by omega) (by omega)
        rw [ci2, ci2, w_nat (show i < 2147483648 by omega), M 16 (by omega) (by omega) (by omega) (by omega), M 17 (by omega) (by omega) (by omega) (by omega), f1, f2, g4, g5, v1, Option.bind_some, ci2, ci2]
        simp only [up2_n (k := 25) (a := 18) (by omega), up2_n (k := 25) (a := 19) (by omega)]
        rw [K 18 (by omega) (by omega) (by omega) (by omega), K 19 (by omega) (by omega) (by omega) (by omega), f3, f4, ci2, ci2, hsem, hVC]
        unfold tst
        generalize V (cut ν p) (nI f) (nI w) (μ 2 3) p = v
        by_cases ha : ν 19 i = 0
        · rw [if_pos ha, if_pos ha]
          by_cases hb : ν 17 i < v
          · rw [if_pos hb, decide_eq_true hb]; rfl
          · rw [if_neg hb, decide_eq_false hb]; rfl
        · rw [if_neg ha, if_neg ha]
          by_cases hb : v < ν 17 i
          · rw [if_pos hb, decide_eq_true hb]; rfl
          · rw [if_neg hb, decide_eq_false hb]; rfl
      rw [jt, Option.bind_some, ci]
      refine ⟨up2 (up2 m2 25 i (VC ν (μ 2 3) p i)) 24 i (vp_nar .boolean (b2 (sem ν (μ 2 3) p 16 i))), rfl, fun c h1 h2 h3 h4 => ?_, fun c hc => ?_⟩
      · rw [up2_n h3, up2_n h4]; exact K c h1 h2 h3 h4
      · by_cases hci : c = i
        · subst hci
          refine ⟨?_, fun _ => ?_⟩
          · show (if c = c then vp_nar .boolean _ else _) = _
            rw [if_pos rfl, narb]
          · show (if c = c then _ else _) = _
            rw [if_pos rfl]
        · obtain ⟨j1, j2⟩ := hI.2 c (by omega)
          refine ⟨?_, fun h => ?_⟩
          · show (if c = i then _ else m2 24 c) = _
            rw [if_neg hci, v2 24 (by omega) (by omega), j1]
          · show (if c = i then _ else m2 25 c) = _
            rw [if_neg hci, v2 25 (by omega) (by omega), j2 h]
    · obtain ⟨a, b, s1, s2, ha, hb, g1, g20, g2, g21, g3, g4, e, _⟩ := h12 (Or.inl rfl)
      have hfa' : fa = a := (w_eq (by omega) (by omega)).mp (efa.symm.trans g20)
      have hfb' : fb = b := (w_eq (by omega) (by omega)).mp (efb.symm.trans g21)
      refine ⟨up2 m 24 i (b2 (sem ν (μ 2 3) p 16 i)), ?_, JI_set hI rfl (by rw [e1]; decide)⟩
      have hsem : sem ν (μ 2 3) p 16 i = (sem ν (μ 2 3) p 16 a && sem ν (μ 2 3) p 16 b) := by
        rw [← S a s1 ha g3 (by omega), ← S b s2 hb g4 (by omega)]
        show sem ν (μ 2 3) p (15 + 1) i = _
        conv => lhs; unfold sem
        rw [e1, if_neg (by decide), if_pos (by decide), g1, g2, w_nat (by omega), w_nat (by omega)]
      rw [if_pos (show nI 1 = 1 from rfl), hfa', hfb', (hI.2 a (by omega)).1, (hI.2 b (by omega)).1]
      simp only [ci]
      rw [n0, n1, hsem]
      cases sem ν (μ 2 3) p 16 a <;> cases sem ν (μ 2 3) p 16 b <;> rfl
    · obtain ⟨a, b, s1, s2, ha, hb, g1, g20, g2, g21, g3, g4, e, _⟩ := h12 (Or.inr rfl)
      have hfa' : fa = a := (w_eq (by omega) (by omega)).mp (efa.symm.trans g20)
      have hfb' : fb = b := (w_eq (by omega) (by omega)).mp (efb.symm.trans g21)
      refine ⟨up2 m 24 i (b2 (sem ν (μ 2 3) p 16 i)), ?_, JI_set hI rfl (by rw [e1]; decide)⟩
      have hsem : sem ν (μ 2 3) p 16 i = (sem ν (μ 2 3) p 16 a || sem ν (μ 2 3) p 16 b) := by
        rw [← S a s1 ha g3 (by omega), ← S b s2 hb g4 (by omega)]
        show sem ν (μ 2 3) p (15 + 1) i = _
        conv => lhs; unfold sem
        rw [e1, if_neg (by decide), if_neg (by decide), if_pos (by decide), g1, g2, w_nat (by omega), w_nat (by omega)]
      rw [if_neg (show ¬ nI 2 = 1 by decide), if_pos (show nI 2 = 2 from rfl), hfa', hfb', (hI.2 a (by omega)).1, (hI.2 b (by omega)).1]
      simp only [ci]
      rw [n0, n1, hsem]
      cases sem ν (μ 2 3) p 16 a <;> cases sem ν (μ 2 3) p 16 b <;> rfl
    · obtain ⟨_, a, s1, ha, g1, g20, g3, e⟩ := h3 rfl
      have hfa' : fa = a := (w_eq (by omega) (by omega)).mp (efa.symm.trans g20)
      refine ⟨up2 m 24 i (b2 (sem ν (μ 2 3) p 16 i)), ?_, JI_set hI rfl (by rw [e1]; decide)⟩
      have hsem : sem ν (μ 2 3) p 16 i = !(sem ν (μ 2 3) p 16 a) := by
        rw [← S a s1 ha g3 (by omega)]
        show sem ν (μ 2 3) p (15 + 1) i = _
        conv => lhs; unfold sem
        rw [e1, if_pos (by decide), g1, w_nat (by omega)]
      rw [if_neg (show ¬ nI 3 = 1 by decide), if_neg (show ¬ nI 3 = 2 by decide), if_pos (show nI 3 = 3 from rfl), hfa', (hI.2 a (by omega)).1]
      simp only [ci]
      rw [n0, n1, hsem]
      cases sem ν (μ 2 3) p 16 a <;> rfl
