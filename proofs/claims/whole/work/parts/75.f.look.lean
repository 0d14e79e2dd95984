/-! ===== L3: valueOf, holds, scoreNow, reasons, reasonRule ===== -/
theorem R_f11 {t : Nat} {μ ν μ' ν' : Mm} (hμ : ∀ k, k ≠ 11 → k ≠ 12 → k ≠ 24 → k ≠ 25 → μ' k = μ k) (hν : ∀ k, k ≠ 11 → ν' k = ν k) (h : R t μ ν) : R t μ' ν' :=
  R_fr hμ (fun k _ h2 _ => hν k h2) (fun j _ _ => by rw [hν 0 (by omega)]) h
theorem op_valueOf {t : Nat} {μ ν : Mm} (a f : Int32) (hf : ∃ c, c < 65536 ∧ f = nI c) (w : Int32) (o : Nat → Int64) (h : R t μ ν) : ∃ c μ' o' x ν', f_L_valueOf_0_o a f w μ o = some (c, μ', o') ∧ f_X8_valueOf a f w ν = some (x, ν') ∧ Res t c o' x μ' ν' := by
  obtain ⟨fc, hfc, rfl⟩ := hf
  have hz : R t μ (up2 ν 0 0 0) := R_thr 0 h
  unfold f_X8_valueOf f_L_valueOf_0_o f_X7_valueOf
  generalize e : up2 ν 0 0 0 = ν1 at hz ⊢
  have z : ν1 0 0 = 0 := by rw [← e]; rfl
  have hz2 := hz
  obtain ⟨ht, A, T, P, F, C, N, hA, hT, hL, hK, hC, hR, hc, hJ⟩ := hz
  have hP := hL.1
  rcases idx_cases a P with hb | ⟨p, hp, rfl⟩
  · rw [reqP_bad hP hL.2.1 hb, isP_bad hP hL.2.2.1 hb]
    exact ⟨1, μ, o, 0, up2 ν1 0 0 1, rfl, rfl, rfl, fun h => absurd h (by decide), R_thr 1 hz2⟩
  · rw [reqP_ok hP hL.2.1 hp, isP_ok hP hL.2.2.1 hp, feat_c hfc, feat_m hfc]
    cases hfb : isFb fc
    · exact ⟨2, μ, o, 0, up2 ν1 0 0 2, rfl, rfl, rfl, fun h => absurd h (by decide), R_thr 2 hz2⟩
    · rcases win_doors w with ⟨hw, hw1, hw2⟩ | ⟨hw, hw1, hw2⟩
      · rw [hw1, hw2]
        obtain ⟨μ', c1, c2⟩ := compV hA hL (Nat.le_trans hT.1 ht) hp hw (isFb_isF hfb)
        obtain ⟨ν', v1, v2⟩ := mV (mk := μ 2 3) hA hL (Nat.le_trans hT.1 ht) hp hw (isFb_isF hfb)
        rw [c1, ← hA.2.2.2.1, v1]
        refine ⟨0, μ', vp_updL o (0 : Int32).toNatClampNeg (V (cut ν1 p) (nI fc) w (μ 2 3) p).toInt64, V (cut ν1 p) (nI fc) w (μ 2 3) p, ν', rfl, rfl, by rw [v2 0 (by omega)]; exact z, fun _ => rfl, R_f11 (fun k h1 h2 _ _ => c2 k h1 h2) v2 hz2⟩
      · rw [hw1, hw2]
        exact ⟨2, μ, o, 0, up2 ν1 0 0 2, rfl, rfl, rfl, fun h => absurd h (by decide), R_thr 2 hz2⟩
theorem op_holds {t : Nat} {μ ν : Mm} (a b : Int32) (o : Nat → Int64) (h : R t μ ν) : ∃ c μ' o' w ν', f_L_holds_0_o a b μ o = some (c, μ', o') ∧ f_X8_holds a b ν = some (w, ν') ∧ (w = 0 ∨ w = 1) ∧ Res t c o' w μ' ν' := by
  have hz : R t μ (up2 ν 0 0 0) := R_thr 0 h
  unfold f_X8_holds f_L_holds_0_o f_X7_holds
  generalize e : up2 ν 0 0 0 = ν1 at hz ⊢
  have z : ν1 0 0 = 0 := by rw [← e]; rfl
  have hz2 := hz
  obtain ⟨ht, A, T, P, F, C, N, hA, hT, hL, hK, hC, hR, hc, hJ⟩ := hz
  have hP := hL.1
  have hC30 := hC.1
  rcases idx_cases a C with hb | ⟨j, hj, rfl⟩
  · rw [reqC_bad hC30 hC.2.1 hb, isC_bad hC30 hC.2.2.1 hb]
    refine ⟨1, μ, o, 0, up2 ν1 0 0 1, rfl, ?_, Or.inl rfl, rfl, fun h => absurd h (by decide), R_thr 1 hz2⟩
    simp [f_X8_isWrong, gnz0]
  · rw [reqC_ok hC30 hC.2.1 hj, isC_ok hC30 hC.2.2.1 hj]
    rcases idx_cases b P with hb | ⟨p, hp, rfl⟩
    · rw [reqP_bad hP hL.2.1 hb, isP_bad hP hL.2.2.1 hb]
      refine ⟨2, μ, o, 0, up2 ν1 0 0 2, rfl, ?_, Or.inl rfl, rfl, fun h => absurd h (by decide), R_thr 2 hz2⟩
      simp [f_X8_isWrong, gnz0]
    · rw [reqP_ok hP hL.2.1 hp, isP_ok hP hL.2.2.1 hp, ← hA.2.2.2.1]
      obtain ⟨μ', c1, c2, c3⟩ := judge_eq (k := j + 1) hA hL hC (Nat.le_trans hT.1 ht) hp (by omega)
      obtain ⟨ν', v1, v2⟩ := true16 (mk := μ 2 3) hA hL hC (Nat.le_trans hT.1 ht) hp hj (m := ν1) (fun _ _ => rfl)
      refine ⟨0, μ', vp_updL o (0 : Int32).toNatClampNeg (b2 (sem ν1 (μ 2 3) p 16 j)).toInt64, b2 (sem ν1 (μ 2 3) p 16 j), ν', ?_, ?_, b2_01 _, by rw [v2 0 (by omega)]; exact z, fun _ => rfl, R_f11 c2 v2 hz2⟩
      · rw [Option.bind_some, if_pos rfl, Option.bind_some, if_pos rfl, w_succ, c1, Option.bind_some, chk_nI (show j < 30 by omega) (by omega), w_nat (show j < 2147483648 by omega), (c3 j (by omega)).1, gnb, Option.bind_some, if_pos rfl]
        exact b2_w o _
      · rw [Option.bind_some, if_neg (by decide), Option.bind_some, if_neg (by decide), v1, Option.bind_some, gnb]
theorem Rul_f {C N : Nat} {μ ν m : Mm} (h : Rul C N μ ν) (hm : ∀ k, k ≠ 11 → k ≠ 12 → k ≠ 24 → k ≠ 25 → m k = μ k) : Rul C N m ν := by
  unfold Rul at h ⊢
  rw [hm 26 (by omega) (by omega) (by omega) (by omega), hm 27 (by omega) (by omega) (by omega) (by omega), hm 28 (by omega) (by omega) (by omega) (by omega)]
  exact h
theorem wg_eq {ν : Mm} {x y mk : Int32} {p N : Nat} (hN : N ≤ 12) (hx : ∀ r, r < 32 → bt x r = (decide (r < N) && rsn ν y mk p r)) : fo (wgS ν x) 0 N 0 = fo (fun r s => if rsn ν y mk p r = true then s + ν 21 r else s) 0 N 0 := by
  apply fo_congr
  intro r _ hr s
  unfold wgS
  rw [hx r (by omega), decide_eq_true (show r < N by omega), Bool.true_and]
theorem op_scoreNow {t : Nat} {μ ν : Mm} (a : Int32) (o : Nat → Int64) (h : R t μ ν) : ∃ c μ' o' w ν', f_L_scoreNow_0_o a μ o = some (c, μ', o') ∧ f_X8_scoreNow a ν = some (w, ν') ∧ Res t c o' w μ' ν' := by
  have hz : R t μ (up2 ν 0 0 0) := R_thr 0 h
  unfold f_X8_scoreNow f_L_scoreNow_0_o f_X7_scoreNow
  generalize e : up2 ν 0 0 0 = ν1 at hz ⊢
  have z : ν1 0 0 = 0 := by rw [← e]; rfl
  have hz2 := hz
  obtain ⟨ht, A, T, P, F, C, N, hA, hT, hL, hK, hC, hR, hc, hJ⟩ := hz
  have hP := hL.1
  rcases idx_cases a P with hb | ⟨p, hp, rfl⟩
  · rw [reqP_bad hP hL.2.1 hb, isP_bad hP hL.2.2.1 hb]
    exact ⟨1, μ, o, 0, up2 ν1 0 0 1, rfl, rfl, rfl, fun h => absurd h (by decide), R_thr 1 hz2⟩
  · rw [reqP_ok hP hL.2.1 hp, isP_ok hP hL.2.2.1 hp, ← hA.2.2.2.1, hC.2.1]
    obtain ⟨μ', c1, c2⟩ := judge_eq (k := C) hA hL hC (Nat.le_trans hT.1 ht) hp (Nat.le_refl C)
    obtain ⟨x, f1, f2⟩ := find_eq hC hR c2
    obtain ⟨ν', v1, v2⟩ := scoreBy_eq (x := ν1 0 30) (mk := μ 2 3) hA hL hC hR (Nat.le_trans hT.1 ht) hp (m := ν1) (fun _ _ => rfl)
    have e5 := weightOf_eq (x := x) (Rul_f hR c2.1)
    rw [wg_eq hR.1 f2] at e5
    refine ⟨0, μ', vp_updL o (0 : Int32).toNatClampNeg (fo (fun r s => if rsn ν1 (ν1 0 30) (μ 2 3) p r = true then s + ν1 21 r else s) 0 N 0).toInt64, fo (fun r s => if rsn ν1 (ν1 0 30) (μ 2 3) p r = true then s + ν1 21 r else s) 0 N 0, ν', ?_, ?_, by rw [v2 0 (by omega)]; exact z, fun _ => rfl, R_f11 c2.1 v2 hz2⟩
    · rw [Option.bind_some, if_pos rfl, c1, Option.bind_some, f1, Option.bind_some, e5, Option.bind_some, Option.bind_some, if_pos rfl, chk0]
    · rw [Option.bind_some, if_neg (by decide), v1, Option.bind_some]
theorem set_ct {N : Nat} {x : Int32} (hN : N ≤ 12) (hx : ∀ i, N ≤ i → bt x i = false) : pop x = fb_ct (fun i => bt x i) N := by
  unfold pop
  rw [show (32 : Nat) = N + (32 - N) by omega, fb_ct_split]
  have e2 : fb_ct (fun k => bt x (N + k)) (32 - N) = 0 := by
    rw [fb_ct_zero]
    intro k hk
    exact hx _ (by omega)
  rw [e2]; rfl
theorem op_reasons {t : Nat} {μ ν : Mm} (a : Int32) (o : Nat → Int64) (h : R t μ ν) : ∃ c o' w ν', f_L_reasons_0_o a μ o = some (c, o') ∧ f_X8_reasons a ν = some (w, ν') ∧ Res t c o' w μ ν' := by
  have hz : R t μ (up2 ν 0 0 0) := R_thr 0 h
  unfold f_X8_reasons f_L_reasons_0_o f_X7_reasons
  generalize e : up2 ν 0 0 0 = ν1 at hz ⊢
  have z : ν1 0 0 = 0 := by rw [← e]; rfl
  have hz2 := hz
  obtain ⟨ht, A, T, P, F, C, N, hA, hT, hL, hK, hC, hR, hc, hJ⟩ := hz
  have hP := hL.1
  have hN := hR.1
  rcases idx_cases a P with hb | ⟨p, hp, rfl⟩
  · rw [reqP_bad hP hL.2.1 hb, isP_bad hP hL.2.2.1 hb]
    exact ⟨1, o, 0, up2 ν1 0 0 1, rfl, rfl, rfl, fun h => absurd h (by decide), R_thr 1 hz2⟩
  · rw [reqP_ok hP hL.2.1 hp, isP_ok hP hL.2.2.1 hp]
    have hJp := hJ p hp
    obtain ⟨k, _, j1, _⟩ := hJp
    have hx : ∀ i, N ≤ i → bt (μ 32 p) i = false := fun i hi => (j1 i hi).2
    have e1 : f_J6_bitCount_0f7a4 (μ 32 p) = some (nI (fb_ct (fun i => bt (μ 32 p) i) N)) := by
      rw [bc_set (fun j h1 _ => hx j (by omega)), set_ct hN hx]
    have e2 : ∃ ν', f_X8_reasonMany (nI p) ν1 = some (nI (fb_ct (fun i => bt (μ 32 p) i) N), ν') ∧ ∀ k, k ≠ 11 → ν' k = ν1 k := by
      unfold f_X8_reasonMany
      have hh := up_loopR (fun f y (s : Int32 × Mm) => f_X8_reasonMany_L4 (nI p) f s.1 y s.2) N (fun s => some (s.1, s.2)) (fun i s => s.1 = nI (fb_ct (fun i => bt (μ 32 p) i) i) ∧ ∀ k, k ≠ 11 → s.2 k = ν1 k) ?_ ?_ N fuel 0 (0, ν1) (by omega) (by unfold fuel; omega) ⟨rfl, fun _ _ => rfl⟩
      · obtain ⟨s, e1, e2, e3⟩ := hh
        exact ⟨s.2, by rw [← e2]; exact e1, e3⟩
      · intro f s hs
        show f_X8_reasonMany_L4 (nI p) (f + 1) s.1 (nI N) s.2 = _
        unfold f_X8_reasonMany_L4
        rw [hs.2 0 (by omega), hR.2.2.1, if_pos (by rw [w_le (by omega) (by omega)]; omega)]
      · intro f i s hi hs
        obtain ⟨m', v1, v2⟩ := wasReason_eq hA hL hC hR (Nat.le_trans hT.1 ht) hp hi (hJ p hp) hs.2
        refine ⟨(nI (fb_ct (fun i => bt (μ 32 p) i) (i + 1)), m'), ?_, rfl, v2⟩
        show f_X8_reasonMany_L4 (nI p) (f + 1) s.1 (nI i) s.2 = f_X8_reasonMany_L4 (nI p) f (nI (fb_ct (fun i => bt (μ 32 p) i) (i + 1))) (nI (i + 1)) m'
        conv => lhs; unfold f_X8_reasonMany_L4
        rw [hs.2 0 (by omega), hR.2.2.1, if_neg (by rw [w_le (by omega) (by omega)]; omega), v1, Option.bind_some, fb_ct_succ, hs.1, w_succ]
        cases bt (μ 32 p) i
        · rw [b2_f, if_pos rfl]
          show f_X8_reasonMany_L4 (nI p) f (nI _ + nI 0) _ _ = _
          rw [w_add]; rfl
        · rw [b2_t, if_neg (show ¬ (1 : Int32) = 0 by decide), w_succ]; rfl
    obtain ⟨ν', v1, v2⟩ := e2
    refine ⟨0, vp_updL o (0 : Int32).toNatClampNeg (nI (fb_ct (fun i => bt (μ 32 p) i) N)).toInt64, nI (fb_ct (fun i => bt (μ 32 p) i) N), ν', ?_, ?_, by rw [v2 0 (by omega)]; exact z, fun _ => rfl, R_f11 (fun k _ _ _ _ => rfl) v2 hz2⟩
    · rw [Option.bind_some, if_pos rfl, chk_nI (show p < 200 by omega) (by omega), w_nat (show p < 2147483648 by omega), e1, Option.bind_some, Option.bind_some, if_pos rfl, chk0]
    · rw [Option.bind_some, if_neg (by decide), v1, Option.bind_some]
/-- a loop that counts up with a state and leaves at the first hit -/
theorem find_loopR {σ ρ : Type} (F : Nat → Int32 → σ → Option ρ) (P : Nat) (K : Nat → σ → Option ρ) (p : Nat → Bool) (I : Nat → σ → Prop) (J : σ → Prop)
    (h0 : ∀ n s, I P s → F (n + 1) (nI P) s = K P s ∧ J s)
    (h1 : ∀ n i s, i < P → I i s → ∃ s', (p i = true → F (n + 1) (nI i) s = K i s' ∧ J s') ∧ (p i = false → F (n + 1) (nI i) s = F n (nI (i + 1)) s' ∧ I (i + 1) s')) :
    ∀ (m n i : Nat) (s : σ), i + m = P → m < n → I i s → ∃ s', F n (nI i) s = K (fst1 p i m) s' ∧ J s'
  | 0, 0, _, _, _, h, _ => by omega
  | 0, n + 1, i, s, he, _, hI => by
    have : i = P := by omega
    subst this
    exact ⟨s, h0 n s hI⟩
  | m + 1, 0, _, _, _, h, _ => by omega
  | m + 1, n + 1, i, s, he, hn, hI => by
    obtain ⟨s', e1, e2⟩ := h1 n i s (by omega) hI
    unfold fst1
    cases hp : p i
    · rw [if_neg (by simp)]
      obtain ⟨e3, e4⟩ := e2 hp
      rw [e3]
      exact find_loopR F P K p I J h0 h1 m n (i + 1) s' (by omega) (by omega) e4
    · rw [if_pos rfl]
      exact ⟨s', e1 hp⟩
/-- the rule at a rank -/
def rrP (x a : Int32) (r : Nat) : Bool := bt x r && decide (nI (fb_ct (fun i => bt x i) r) = a)
def rr (x a : Int32) (N : Nat) : Nat := fst1 (rrP x a) 0 N
def rrI (x a : Int32) (N : Nat) : Int32 := if rr x a N = N then -1 else nI (rr x a N)
theorem atRank_eq {N : Nat} {x a : Int32} {μ : Mm} (hN : N ≤ 12) (e : μ 26 3 = nI N) : f_X6_ruleAtRank x a μ = some (rrI x a N) := by
  unfold f_X6_ruleAtRank rrI rr
  obtain ⟨s', e1, _⟩ := find_loopR (fun f y (s : Int32) => f_X6_ruleAtRank_L5 x a μ f s y) N (fun i _ => some (if i = N then -1 else nI i)) (rrP x a) (fun i s => s = nI (fb_ct (fun i => bt x i) i)) (fun _ => True) (by
    intro f s _
    refine ⟨?_, trivial⟩
    show f_X6_ruleAtRank_L5 x a μ (f + 1) s (nI N) = _
    unfold f_X6_ruleAtRank_L5
    rw [e, if_pos (by rw [w_le (by omega) (by omega)]; omega), if_pos rfl]) (by
    intro f i s hi hs
    refine ⟨nI (fb_ct (fun i => bt x i) (i + 1)), fun hp => ⟨?_, trivial⟩, fun hp => ⟨?_, rfl⟩⟩
    · show f_X6_ruleAtRank_L5 x a μ (f + 1) s (nI i) = _
      unfold f_X6_ruleAtRank_L5
      unfold rrP at hp
      rw [Bool.and_eq_true, decide_eq_true_eq] at hp
      rw [e, if_neg (by rw [w_le (by omega) (by omega)]; omega), hasBit_eq _ (show i < 32 by omega), Option.bind_some, hp.1, b2_t, if_neg (by decide), hs, if_pos hp.2, if_neg (by omega)]
    · show f_X6_ruleAtRank_L5 x a μ (f + 1) s (nI i) = f_X6_ruleAtRank_L5 x a μ f (nI (fb_ct (fun i => bt x i) (i + 1))) (nI (i + 1))
      conv => lhs; unfold f_X6_ruleAtRank_L5
      unfold rrP at hp
      rw [e, if_neg (by rw [w_le (by omega) (by omega)]; omega), hasBit_eq _ (show i < 32 by omega), Option.bind_some, fb_ct_succ, w_succ, hs]
      cases hb : bt x i
      · rw [b2_f, if_pos rfl]; rfl
      · rw [hb, Bool.true_and, decide_eq_false_iff_not] at hp
        rw [b2_t, if_neg (by decide), if_neg hp, w_succ]; rfl) N fuel 0 0 (by omega) (by unfold fuel; omega) rfl
  exact e1
theorem neg1 (a : Int32) {n : Nat} : a - nI n + (-1) = a - nI (n + 1) := by
  rw [← w_succ]
  apply Int32.toBitVec_inj.mp
  rw [Int32.toBitVec_add, Int32.toBitVec_sub, Int32.toBitVec_sub, Int32.toBitVec_add]
  generalize a.toBitVec = u
  generalize (nI n).toBitVec = v
  show u - v + (-1 : Int32).toBitVec = u - (v + (1 : Int32).toBitVec)
  rw [show (-1 : Int32).toBitVec = -(1 : BitVec 32) from rfl, show (1 : Int32).toBitVec = (1 : BitVec 32) from rfl]
  bv_omega
theorem sub0 (a b : Int32) : a - b = 0 ↔ b = a := by
  constructor
  · intro h
    have := congrArg (fun z => z + b) h
    simp only [Int32.sub_add_cancel, Int32.zero_add] at this
    exact this.symm
  · intro h; rw [h]; exact Int32.sub_self a
theorem ruleOf_eq {A T P C N p : Nat} {a : Int32} {μ ν m : Mm} (hA : Acc A μ ν) (hL : Led A T P μ ν) (hC : Con C μ ν) (hR : Rul C N μ ν) (hT : T ≤ 800000) (hp : p < P) (hJ : Jud1 C N μ ν p) (hm : ∀ k, k ≠ 11 → m k = ν k) : ∃ m', f_X8_ruleOf (nI p) a m = some (rrI (μ 32 p) a N, m') ∧ ∀ k, k ≠ 11 → m' k = ν k := by
  have hN := hR.1
  unfold f_X8_ruleOf rrI rr
  obtain ⟨s', e1, e2⟩ := find_loopR (fun f y (s : Int32 × Mm) => f_X8_ruleOf_L5 (nI p) f s.1 y s.2) N (fun i s => some (if i = N then -1 else nI i, s.2)) (rrP (μ 32 p) a) (fun i s => s.1 = a - nI (fb_ct (fun i => bt (μ 32 p) i) i) ∧ ∀ k, k ≠ 11 → s.2 k = ν k) (fun s => ∀ k, k ≠ 11 → s.2 k = ν k) (by
    intro f s hs
    refine ⟨?_, hs.2⟩
    show f_X8_ruleOf_L5 (nI p) (f + 1) s.1 (nI N) s.2 = _
    unfold f_X8_ruleOf_L5
    rw [hs.2 0 (by omega), hR.2.2.1, if_pos (by rw [w_le (by omega) (by omega)]; omega), if_pos rfl]) (by
    intro f i s hi hs
    obtain ⟨m', v1, v2⟩ := wasReason_eq hA hL hC hR hT hp hi hJ hs.2
    refine ⟨(a - nI (fb_ct (fun i => bt (μ 32 p) i) (i + 1)), m'), fun hp => ⟨?_, v2⟩, fun hp => ⟨?_, rfl, v2⟩⟩
    · show f_X8_ruleOf_L5 (nI p) (f + 1) s.1 (nI i) s.2 = _
      unfold f_X8_ruleOf_L5
      unfold rrP at hp
      rw [Bool.and_eq_true, decide_eq_true_eq] at hp
      rw [hs.2 0 (by omega), hR.2.2.1, if_neg (by rw [w_le (by omega) (by omega)]; omega), v1, Option.bind_some, hp.1, b2_t, if_neg (show ¬ (1 : Int32) = 0 by decide), hs.1, if_pos ((sub0 _ _).mpr hp.2), if_neg (by omega)]
    · show f_X8_ruleOf_L5 (nI p) (f + 1) s.1 (nI i) s.2 = f_X8_ruleOf_L5 (nI p) f (a - nI (fb_ct (fun i => bt (μ 32 p) i) (i + 1))) (nI (i + 1)) m'
      conv => lhs; unfold f_X8_ruleOf_L5
      unfold rrP at hp
      rw [hs.2 0 (by omega), hR.2.2.1, if_neg (by rw [w_le (by omega) (by omega)]; omega), v1, Option.bind_some, fb_ct_succ, w_succ, hs.1]
      cases hb : bt (μ 32 p) i
      · rw [b2_f, if_pos rfl]; rfl
      · rw [hb, Bool.true_and, decide_eq_false_iff_not] at hp
        rw [b2_t, if_neg (show ¬ (1 : Int32) = 0 by decide), if_neg (fun h => hp ((sub0 _ _).mp h)), neg1]; rfl) N fuel 0 (a, m) (by omega) (by unfold fuel; omega) ⟨by show a = a - nI 0; exact (Int32.sub_zero a).symm, hm⟩
  exact ⟨s'.2, e1, e2⟩
theorem rrI_cases {x a : Int32} {N : Nat} (hN : N ≤ 12) : rrI x a N = -1 ∨ ∃ r, r < N ∧ rrI x a N = nI r ∧ bt x r = true := by
  unfold rrI
  by_cases h : rr x a N = N
  · rw [if_pos h]; exact Or.inl rfl
  · rw [if_neg h]
    have h1 : rr x a N ≤ 0 + N := fst1_le N 0
    have h2 := fst1_yes (p := rrP x a) N 0 (show rr x a N < 0 + N by omega)
    refine Or.inr ⟨rr x a N, by omega, rfl, ?_⟩
    have h3 : rrP x a (rr x a N) = true := h2
    unfold rrP at h3
    rw [Bool.and_eq_true] at h3
    exact h3.1
theorem op_reasonRule {t : Nat} {μ ν : Mm} (a b : Int32) (o : Nat → Int64) (h : R t μ ν) : ∃ c o' w ν', f_L_reasonRule_0_o a b μ o = some (c, o') ∧ f_X8_reasonRule a b ν = some (w, ν') ∧ Res t c o' w μ ν' := by
  have hz : R t μ (up2 ν 0 0 0) := R_thr 0 h
  unfold f_X8_reasonRule f_L_reasonRule_0_o f_X7_reasonRule f_X7_ruleOfReason
  generalize e : up2 ν 0 0 0 = ν1 at hz ⊢
  have z : ν1 0 0 = 0 := by rw [← e]; rfl
  have hz2 := hz
  obtain ⟨ht, A, T, P, F, C, N, hA, hT, hL, hK, hC, hR, hc, hJ⟩ := hz
  have hP := hL.1
  have hN := hR.1
  rcases idx_cases a P with hb | ⟨p, hp, rfl⟩
  · rw [reqP_bad hP hL.2.1 hb, isP_bad hP hL.2.2.1 hb]
    exact ⟨1, o, 0, up2 ν1 0 0 1, rfl, rfl, rfl, fun h => absurd h (by decide), R_thr 1 hz2⟩
  · obtain ⟨ν', v1, v2⟩ := ruleOf_eq (a := b) hA hL hC hR (Nat.le_trans hT.1 ht) hp (hJ p hp) (m := ν1) (fun _ _ => rfl)
    rw [reqP_ok hP hL.2.1 hp, isP_ok hP hL.2.2.1 hp, chk_nI (show p < 200 by omega) (by omega), w_nat (show p < 2147483648 by omega), atRank_eq hN hR.2.1, v1]
    have hz3 : R t μ ν' := R_f11 (fun k _ _ _ _ => rfl) v2 hz2
    rcases rrI_cases (x := μ 32 p) (a := b) hN with h1 | ⟨r, h1, h2, _⟩
    · rw [h1]
      exact ⟨2, o, 0, up2 ν' 0 0 2, rfl, rfl, rfl, fun h => absurd h (by decide), R_thr 2 hz3⟩
    · rw [h2]
      refine ⟨0, vp_updL o (0 : Int32).toNatClampNeg (nI r).toInt64, nI r, ν', ?_, ?_, by rw [v2 0 (by omega)]; exact z, fun _ => rfl, hz3⟩
      · rw [Option.bind_some, if_pos rfl, Option.bind_some, if_neg (m1_ne (by omega)), Option.bind_some, if_pos rfl, Option.bind_some, if_pos rfl, chk0]
      · rw [Option.bind_some, if_neg (by decide), Option.bind_some, if_pos (nn_nI (by omega))]
