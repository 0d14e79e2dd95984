/-! ===== L3: precision ===== -/
theorem gx32_ok {α : Type} {x : UInt32} {k : Option α} (h : vf_n32 x) : gx32 x k = k := by
  unfold gx32; rw [if_pos h]
def ctR (μ ν : Mm) (al : Int32) (r P : Nat) : Nat := fb_ct (fun p => decide (ν 10 p = al) && bt (μ 32 p) r) P
theorem ctR_eq {P r : Nat} {al : Int32} {μ ν : Mm} (hP : P ≤ 200) (hr : r < 12) (hc : ∀ p, p < P → μ 31 p = ν 10 p) : f_X2_countWithReason al (nI r) (nI P) μ = some (nI (ctR μ ν al r P)) := by
  unfold f_X2_countWithReason
  obtain ⟨s, e1, e2⟩ := up_loopR (fun f y (s : Int32) => f_X2_countWithReason_L6 al (nI r) (nI P) μ f s y) P (fun s => some s) (fun i s => s = nI (ctR μ ν al r i)) (by
    intro f s _
    show f_X2_countWithReason_L6 al (nI r) (nI P) μ (f + 1) s (nI P) = _
    unfold f_X2_countWithReason_L6
    rw [if_pos (by rw [w_le (by omega) (by omega)]; omega)]) (by
    intro f i s hi hs
    refine ⟨nI (ctR μ ν al r (i + 1)), ?_, rfl⟩
    show f_X2_countWithReason_L6 al (nI r) (nI P) μ (f + 1) s (nI i) = f_X2_countWithReason_L6 al (nI r) (nI P) μ f (nI (ctR μ ν al r (i + 1))) (nI (i + 1))
    conv => lhs; unfold f_X2_countWithReason_L6
    have e9 : ctR μ ν al r (i + 1) = ctR μ ν al r i + (if (decide (ν 10 i = al) && bt (μ 32 i) r) = true then 1 else 0) := rfl
    rw [if_neg (by rw [w_le (by omega) (by omega)]; omega), chk_nI (show i < 200 by omega) (by omega), chk_nI (show i < 200 by omega) (by omega), w_nat (show i < 2147483648 by omega), hc i hi, hasBit_eq _ (show r < 32 by omega), Option.bind_some, hs, e9, w_succ, w_succ]
    by_cases h : ν 10 i = al
    · rw [if_pos h, decide_eq_true h, Bool.true_and]
      cases bt (μ 32 i) r
      · rw [b2_f, if_pos rfl, if_neg (by simp)]; rfl
      · rw [b2_t, if_neg (show ¬ (1 : Int32) = 0 by decide), if_pos rfl]
    · rw [if_neg h, decide_eq_false h, Bool.false_and, if_neg (by simp)]; rfl) P fuel 0 0 (by omega) (by unfold fuel; omega) rfl
  have e1' : f_X2_countWithReason_L6 al (nI r) (nI P) μ fuel 0 0 = some s := e1
  rw [e1', e2]
theorem precL {A T P C N r : Nat} {μ ν : Mm} (K : Int32 → Int32 → Mm → Option (UInt32 × Mm)) (hA : Acc A μ ν) (hL : Led A T P μ ν) (hC : Con C μ ν) (hR : Rul C N μ ν) (hT : T ≤ 800000) (hr : r < N) (hJ : ∀ p, p < P → Jud1 C N μ ν p) :
    ∃ m, f_X8_precision_L27 K (nI r) fuel 0 0 0 ν = K (nI (ctR μ ν 102 r P)) (nI (ctR μ ν 102 r P + ctR μ ν 99 r P)) m ∧ ∀ k, k ≠ 11 → m k = ν k := by
  have hP := hL.1
  have hN := hR.1
  have hh := up_loopR (fun f y (s : Int32 × Int32 × Mm) => f_X8_precision_L27 K (nI r) f s.1 s.2.1 y s.2.2) P (fun s => K s.1 s.2.1 s.2.2) (fun i s => s.1 = nI (ctR μ ν 102 r i) ∧ s.2.1 = nI (ctR μ ν 102 r i + ctR μ ν 99 r i) ∧ ∀ k, k ≠ 11 → s.2.2 k = ν k) ?_ ?_ P fuel 0 (0, 0, ν) (by omega) (by unfold fuel; omega) ⟨rfl, rfl, fun _ _ => rfl⟩
  · obtain ⟨s, e1, e2, e3, e4⟩ := hh
    refine ⟨s.2.2, ?_, e4⟩
    rw [← e2, ← e3]; exact e1
  · intro f s hs
    show f_X8_precision_L27 K (nI r) (f + 1) s.1 s.2.1 (nI P) s.2.2 = _
    unfold f_X8_precision_L27
    rw [hs.2.2 0 (by omega), hL.2.2.1, if_pos (by rw [w_le (by omega) (by omega)]; omega)]
  · intro f i s hi hs
    have J : ∃ m', f_X8_precision_J60 (f_X8_precision_L27 K (nI r) f) K (nI r) s.1 s.2.1 (nI i) s.2.2 = (if bt (μ 32 i) r = true then (if ν 10 i = 102 then f_X8_precision_L27 K (nI r) f (s.1 + 1) (s.2.1 + 1) (nI (i + 1)) m' else f_X8_precision_L27 K (nI r) f s.1 (s.2.1 + 1) (nI (i + 1)) m') else f_X8_precision_L27 K (nI r) f s.1 s.2.1 (nI (i + 1)) m') ∧ ∀ k, k ≠ 11 → m' k = ν k := by
      obtain ⟨m', v1, v2⟩ := wasReason_eq hA hL hC hR hT hi hr (hJ i hi) hs.2.2
      refine ⟨m', ?_, v2⟩
      unfold f_X8_precision_J60
      rw [v1, Option.bind_some, w_succ]
      cases bt (μ 32 i) r
      · rw [b2_f, if_pos rfl, if_neg (by simp)]
      · rw [b2_t, if_neg (show ¬ (1 : Int32) = 0 by decide), if_pos rfl, chk_nI (show i < 200 by omega) (by omega)]
        show (if m' 10 (nI i).toNatClampNeg = 102 then f_X8_precision_L27 K (nI r) f (s.1 + 1) (s.2.1 + 1) (nI (i + 1)) m' else f_X8_precision_L27 K (nI r) f (s.1 + 0) (s.2.1 + 1) (nI (i + 1)) m') = _
        rw [v2 10 (by omega), w_nat (show i < 2147483648 by omega), Int32.add_zero]
    obtain ⟨m', j1, j2⟩ := J
    have e2 : ctR μ ν 102 r (i + 1) = ctR μ ν 102 r i + (if (decide (ν 10 i = 102) && bt (μ 32 i) r) = true then 1 else 0) := rfl
    have e9 : ctR μ ν 99 r (i + 1) = ctR μ ν 99 r i + (if (decide (ν 10 i = 99) && bt (μ 32 i) r) = true then 1 else 0) := rfl
    show ∃ s' : Int32 × Int32 × Mm, f_X8_precision_L27 K (nI r) (f + 1) s.1 s.2.1 (nI i) s.2.2 = f_X8_precision_L27 K (nI r) f s'.1 s'.2.1 (nI (i + 1)) s'.2.2 ∧ s'.1 = nI (ctR μ ν 102 r (i + 1)) ∧ s'.2.1 = nI (ctR μ ν 102 r (i + 1) + ctR μ ν 99 r (i + 1)) ∧ ∀ k, k ≠ 11 → s'.2.2 k = ν k
    conv => enter [1, s', 1, 1]; unfold f_X8_precision_L27
    rw [hs.2.2 0 (by omega), hL.2.2.1, if_neg (by rw [w_le (by omega) (by omega)]; omega), chk_nI (show i < 200 by omega) (by omega), chk_nI (show i < 200 by omega) (by omega), hs.2.2 10 (by omega), w_nat (show i < 2147483648 by omega), j1, w_succ, e2, e9]
    by_cases h1 : ν 10 i = 102
    · have h2 : ¬ ν 10 i = 99 := by rw [h1]; decide
      rw [if_pos h1, if_pos h1, decide_eq_true h1, decide_eq_false h2, Bool.true_and, Bool.false_and, if_neg (show ¬ (false = true) by simp), Nat.add_zero]
      cases bt (μ 32 i) r
      · rw [if_neg (show ¬ (false = true) by simp), Nat.add_zero]
        exact ⟨(s.1, s.2.1, m'), rfl, hs.1, hs.2.1, j2⟩
      · rw [if_pos rfl]
        refine ⟨(s.1 + 1, s.2.1 + 1, m'), rfl, ?_, ?_, j2⟩
        · show s.1 + 1 = _
          rw [hs.1, w_succ]; rfl
        · show s.2.1 + 1 = _
          rw [hs.2.1, w_succ]; congr 1; simp only [if_pos]; omega
    · rw [if_neg h1, if_neg h1, decide_eq_false h1, Bool.false_and, if_neg (show ¬ (false = true) by simp), Nat.add_zero]
      by_cases h2 : ν 10 i = 99
      · rw [if_pos h2, decide_eq_true h2, Bool.true_and]
        cases bt (μ 32 i) r
        · rw [if_neg (show ¬ (false = true) by simp), if_neg (show ¬ (false = true) by simp), Nat.add_zero]
          exact ⟨(s.1, s.2.1, m'), rfl, hs.1, hs.2.1, j2⟩
        · rw [if_pos rfl, if_pos rfl]
          refine ⟨(s.1, s.2.1 + 1, m'), rfl, hs.1, ?_, j2⟩
          show s.2.1 + 1 = _
          rw [hs.2.1, w_succ]; congr 1
      · rw [if_neg h2, decide_eq_false h2, Bool.false_and, if_neg (show ¬ (false = true) by simp), Nat.add_zero]
        exact ⟨(s.1, s.2.1, s.2.2), rfl, hs.1, hs.2.1, hs.2.2⟩
theorem op_precision {t : Nat} {μ ν : Mm} (a : Int32) (dd : Nat → UInt64) (h : R t μ ν) : ∃ c d' w ν', f_L_precision_0_d a μ dd = some (c, d') ∧ f_X8_precision a ν = some (w, ν') ∧ ν' 0 0 = c ∧ (c = 0 → vf_n64 (FP.f2d w) ∧ d' 0 = FP.f2d w ∧ Op.cmpValue (FP.dcmp (FP.f2d w) (FP.f2d w)) .l = 0) ∧ R t μ ν' := by
  have hz : R t μ (up2 ν 0 0 0) := R_thr 0 h
  unfold f_X8_precision f_L_precision_0_d f_X7_precision
  generalize e : up2 ν 0 0 0 = ν1 at hz ⊢
  have z : ν1 0 0 = 0 := by rw [← e]; rfl
  have hz2 := hz
  obtain ⟨ht, A, T, P, F, C, N, hA, hT, hL, hK, hC, hR, hc, hJ⟩ := hz
  have hP := hL.1
  have hN := hR.1
  rcases idx_cases a N with hb | ⟨r, hr, rfl⟩
  · rw [reqN_bad hN hR.2.1 hb, isN_bad hN hR.2.2.1 hb]
    exact ⟨1, dd, _, up2 ν1 0 0 1, rfl, rfl, rfl, fun h => absurd h (by decide), R_thr 1 hz2⟩
  · rw [reqN_ok hN hR.2.1 hr, isN_ok hN hR.2.2.1 hr, hL.2.1, ctR_eq hP (by omega) (fun p hp => (hc.2 p hp).1), ctR_eq hP (by omega) (fun p hp => (hc.2 p hp).1), Option.bind_some, if_pos rfl, Option.bind_some, Option.bind_some, Option.bind_some, if_neg (show ¬ (1 : Int32) = 0 by decide)]
    obtain ⟨m, l1, l2⟩ := precL (r := r) (fun (y14 : Int32) (y15 : Int32) (m16 : Mm) => (if (y15 : Int32) = 0 then ((f_X8_fails 2 m16).bind (fun r19 => some (FP.i2f r19.1, r19.2))) else (gx32 (FP.fdiv (FP.i2f y14) (FP.i2f y15)) (some (FP.fdiv (FP.i2f y14) (FP.i2f y15), m16))))) hA hL hC hR (Nat.le_trans hT.1 ht) hr hJ
    rw [l1, w_add]
    have hz3 : R t μ m := R_f11 (fun _ _ _ _ _ => rfl) l2 hz2
    by_cases h0 : nI (ctR μ ν1 102 r P + ctR μ ν1 99 r P) = 0
    · rw [if_pos h0, if_pos h0]
      exact ⟨2, dd, _, up2 m 0 0 2, rfl, rfl, rfl, fun h => absurd h (by decide), R_thr 2 hz3⟩
    · rw [if_neg h0, if_neg h0]
      have hn := prec_n (a := nI (ctR μ ν1 102 r P)) h0
      generalize FP.fdiv (FP.i2f (nI (ctR μ ν1 102 r P))) (FP.i2f (nI (ctR μ ν1 102 r P + ctR μ ν1 99 r P))) = w at hn ⊢
      have hd := f2d_n hn
      rw [gx32_ok (n32_ok hn), gx32_ok (n32_ok hn), Option.bind_some, if_pos rfl, gx64_ok (n64_ok hd), chk0]
      exact ⟨0, _, w, m, rfl, rfl, by rw [l2 0 (by omega)]; exact z, fun _ => ⟨n64_ok hd, rfl, cmp_d hd⟩, hz3⟩
