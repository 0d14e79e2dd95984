/-! ===== L3: conditions are added ===== -/
theorem lst_st {μ μ' : Mm} {C j n : Nat} (hj : j < C) (hC : C ≤ 30) (e : μ 22 j = nI n) (hn : n ≤ 8) (h22 : μ' 22 j = μ 22 j) (h23 : ∀ s, s < 8 * C → μ' 23 s = μ 23 s) : lst μ' j = lst μ j := by
  unfold lst
  rw [h22, e, w_nat (by omega)]
  apply List.map_congr_left
  intro i hi
  rw [List.mem_range] at hi
  exact h23 _ (by omega)
theorem Cnd_st {μ ν μ' ν' : Mm} {C : Nat} (hC : C ≤ 30) (hm : ∀ k j, 14 ≤ k → k ≤ 22 → j ≠ C → μ' k j = μ k j) (hn : ∀ k j, 12 ≤ k → k ≤ 19 → j ≠ C → ν' k j = ν k j) (h23 : ∀ s, s < 8 * C → μ' 23 s = μ 23 s)
    (hall : ∀ j, j < C → Cnd μ ν j) {j : Nat} (hj : j < C) : Cnd μ' ν' j := by
  have hl : ∀ i, i < C → lst μ' i = lst μ i := by
    intro i hi
    obtain ⟨k, s, n, hk, hs, e1, e2, e3, e4, e5, e6, _⟩ := hall i hi
    exact lst_st hi hC e5 (by omega) (hm 22 i (by omega) (by omega) (by omega)) h23
  obtain ⟨k, s, n, hk, hs, e1, e2, e3, e4, e5, e6, h0, h3, h12⟩ := hall j hj
  have M : ∀ k, 14 ≤ k → k ≤ 22 → μ' k j = μ k j := fun k h1 h2 => hm k j h1 h2 (by omega)
  have W : ∀ k, 12 ≤ k → k ≤ 19 → ν' k j = ν k j := fun k h1 h2 => hn k j h1 h2 (by omega)
  refine ⟨k, s, n, hk, hs, by rw [W 12 (by omega) (by omega)]; exact e1, by rw [M 14 (by omega) (by omega)]; exact e2, by rw [W 15 (by omega) (by omega)]; exact e3, by rw [M 15 (by omega) (by omega)]; exact e4, by rw [M 22 (by omega) (by omega)]; exact e5, e6, ?_, ?_, ?_⟩
  · intro h
    rw [M 16 (by omega) (by omega), M 17 (by omega) (by omega), M 18 (by omega) (by omega), M 19 (by omega) (by omega), W 16 (by omega) (by omega), W 17 (by omega) (by omega), W 18 (by omega) (by omega), W 19 (by omega) (by omega), hl j hj]
    exact h0 h
  · intro h
    rw [M 20 (by omega) (by omega), W 13 (by omega) (by omega), hl j hj]
    obtain ⟨g1, a, s1, ha, g2⟩ := h3 h
    refine ⟨g1, a, s1, ha, ?_⟩
    rw [hn 15 a (by omega) (by omega) (by omega)]
    exact g2
  · intro h
    rw [M 20 (by omega) (by omega), M 21 (by omega) (by omega), W 13 (by omega) (by omega), W 14 (by omega) (by omega), hl j hj]
    obtain ⟨a, b, s1, s2, ha, hb, g2⟩ := h12 h
    refine ⟨a, b, s1, s2, ha, hb, ?_⟩
    rw [hn 15 a (by omega) (by omega) (by omega), hn 15 b (by omega) (by omega) (by omega), hl a (by omega), hl b (by omega)]
    exact g2
theorem R_addC {t A T P F C N : Nat} {μ ν μ' ν' : Mm} (h : Rx t A T P F C N μ ν) (hC : C < 30)
    (hμ : ∀ k, k < 13 ∨ 23 < k → μ' k = μ k) (hν : ∀ k, 0 < k ∧ k < 12 ∨ 19 < k → ν' k = ν k) (hν0 : ∀ j, j ≠ 26 → ν' 0 j = ν 0 j) (c1 : μ' 13 12 = nI (C + 1)) (c2 : ν' 0 26 = nI (C + 1))
    (hm : ∀ k j, 14 ≤ k → k ≤ 22 → j ≠ C → μ' k j = μ k j) (hn : ∀ k j, 12 ≤ k → k ≤ 19 → j ≠ C → ν' k j = ν k j) (h23 : ∀ s, s < 8 * C → μ' 23 s = μ 23 s)
    (h20 : ∃ a b, a < 30 ∧ b < 30 ∧ μ' 20 C = nI a ∧ μ' 21 C = nI b) (hnew : Cnd μ' ν' C) : Rx t A T P F (C + 1) N μ' ν' := by
  obtain ⟨hA, hT, hL, hK, hCn, hR, hc, hJ⟩ := h
  have m := hμ
  have n := hν
  refine ⟨?_, ?_, ?_, ?_, ?_, ?_, ?_, ?_⟩
  · unfold Acc at hA ⊢
    rw [m 2 (by omega), m 3 (by omega), m 4 (by omega), hν0 3 (by omega), hν0 5 (by omega), hν0 6 (by omega), n 1 (by omega), n 2 (by omega)]
    exact hA
  · unfold Tim at hT ⊢
    rw [m 1 (by omega), m 0 (by omega), hν0 4 (by omega), hν0 16 (by omega)]
    exact hT
  · unfold Led at hL ⊢
    rw [m 5 (by omega), m 6 (by omega), m 7 (by omega), m 8 (by omega), m 9 (by omega), hν0 15 (by omega), n 3 (by omega), n 4 (by omega), n 5 (by omega), n 6 (by omega)]
    exact hL
  · unfold Kep at hK ⊢
    rw [m 1 (by omega), n 6 (by omega)]
    exact hK
  · obtain ⟨_, _, _, q4, q5, q6⟩ := hCn
    refine ⟨by omega, c1, c2, fun j hj => ?_, fun j hj => ?_, fun j hj => ?_⟩
    · by_cases hjC : j = C
      · subst hjC; exact h20
      · rw [hm 20 j (by omega) (by omega) hjC, hm 21 j (by omega) (by omega) hjC]; exact q4 j hj
    · rw [hm 22 j (by omega) (by omega) (by omega)]; exact q5 j (by omega)
    · by_cases hjC : j = C
      · subst hjC; exact hnew
      · exact Cnd_st (by omega) hm hn h23 q6 (by omega)
  · unfold Rul at hR ⊢
    rw [m 26 (by omega), m 27 (by omega), m 28 (by omega), hν0 29 (by omega), hν0 30 (by omega), n 20 (by omega), n 21 (by omega)]
    obtain ⟨r1, r2, r3, r4, r5, r6⟩ := hR
    refine ⟨r1, r2, r3, r4, r5, fun j hj => ?_⟩
    obtain ⟨c, w, hc1, g⟩ := r6 j hj
    exact ⟨c, w, by omega, g⟩
  · refine Cas_st hR.1 (by rw [m 29 (by omega)]) (fun p _ => ?_) (fun r _ => by rw [n 21 (by omega)]) hc
    rw [m 30 (by omega), m 31 (by omega), m 32 (by omega), n 9 (by omega), n 10 (by omega)]
    simp
  · intro p hp
    refine Jud1_st hCn.1 (by omega) hCn.2.2.2.2.2 ⟨fun j hj => ?_, Sst_cut (fun q _ => ?_)⟩ (fun r hr => Rul_rc hCn.1 hR hr) (fun r _ => by rw [n 20 (by omega)]) (by rw [n 7 (by omega)]) (by rw [n 8 (by omega)]) (by rw [m 32 (by omega)]) (by rw [m 33 (by omega)]) (fun c _ => by rw [m 34 (by omega)]) (hJ p hp)
    · rw [hn 12 j (by omega) (by omega) (by omega), hn 13 j (by omega) (by omega) (by omega), hn 14 j (by omega) (by omega) (by omega), hn 16 j (by omega) (by omega) (by omega), hn 17 j (by omega) (by omega) (by omega), hn 18 j (by omega) (by omega) (by omega), hn 19 j (by omega) (by omega) (by omega)]; simp
    · rw [n 1 (by omega), n 2 (by omega), n 3 (by omega), n 4 (by omega), n 5 (by omega), n 6 (by omega)]; simp
theorem up2_o {μ : Mm} {k i a j : Nat} {v : Int32} (h : j ≠ i) : up2 μ k i v a j = μ a j := by
  unfold up2 upd
  by_cases e : a = k
  · rw [if_pos e, if_neg h, e]
  · rw [if_neg e]
/-! features -/
def isFb (f : Nat) : Bool := f == 97 || f == 99 || f == 100 || f == 102 || f == 103 || f == 105 || f == 107 || f == 108 || f == 109 || f == 110 || f == 113 || f == 114 || f == 115
theorem isFb_isF {f : Nat} (h : isFb f = true) : isF f := by
  unfold isFb at h
  unfold isF
  simp only [Bool.or_eq_true, beq_iff_eq] at h
  omega
theorem feat_m0 : ∀ c, c < 123 → f_X8_isFeature (nI c) = some (b2 (isFb c)) := by decide +kernel
theorem feat_m {c : Nat} (hc : c < 65536) : f_X8_isFeature (nI c) = some (b2 (isFb c)) := by
  rcases Nat.lt_or_ge c 123 with h | h
  · exact feat_m0 c h
  · unfold f_X8_isFeature
    rw [btwI, w_int (by omega), show ((122 : Int32).toInt = 122) from rfl, decide_eq_false (by omega), Option.bind_some, b2_f, if_pos rfl]
    have : isFb c = false := by
      cases hb : isFb c
      · rfl
      · have := isFb_isF hb; unfold isF at this; omega
    rw [this]; rfl
theorem feat_c1 {c : Nat} (hc : c < 65536) : f_X1_hasFeature (nI c) = some (if fst1 (fun i => decide (featL.getD i 0 = nI c)) 0 13 = 13 then 0 else 1) := by
  unfold f_X1_hasFeature
  refine find_loop (fun n x => f_X1_hasFeature_L9 (nI c) 13 n x) 13 (fun q => some (if q = 13 then 0 else 1)) (fun i => decide (featL.getD i 0 = nI c)) ?_ ?_ 13 fuel 0 (by omega) (by unfold fuel; omega)
  · intro n
    show f_X1_hasFeature_L9 (nI c) 13 (n + 1) (nI 13) = _
    unfold f_X1_hasFeature_L9
    rw [if_pos (by decide), if_pos rfl]
  · intro n i hi
    show f_X1_hasFeature_L9 (nI c) 13 (n + 1) (nI i) = _
    conv => lhs; unfold f_X1_hasFeature_L9
    rw [if_neg (show ¬ (13 : Int32) ≤ nI i from by rw [show (13 : Int32) = nI 13 from rfl, w_le (by omega) (by omega)]; omega), chk_nI hi (by omega), w_nat (by omega), w_succ, if_neg (show ¬ i = 13 by omega)]
    simp only [decide_eq_true_eq]
theorem feat_c0 : ∀ c, c < 123 → (if fst1 (fun i => decide (featL.getD i 0 = nI c)) 0 13 = 13 then (0 : Int32) else 1) = b2 (isFb c) := by decide +kernel
theorem feat_c {c : Nat} (hc : c < 65536) : f_X7_requireFeature (nI c) = some (if isFb c = true then 0 else 4) := by
  unfold f_X7_requireFeature
  rw [feat_c1 hc, Option.bind_some]
  rcases Nat.lt_or_ge c 123 with h | h
  · rw [feat_c0 c h]
    cases isFb c <;> rfl
  · have e : fst1 (fun i => decide (featL.getD i 0 = nI c)) 0 13 = 13 := by
      rcases Nat.lt_or_ge (fst1 (fun i => decide (featL.getD i 0 = nI c)) 0 13) 13 with h1 | h1
      · have h2 := fst1_yes (p := fun i => decide (featL.getD i 0 = nI c)) 13 0 h1
        generalize fst1 (fun i => decide (featL.getD i 0 = nI c)) 0 13 = q at h1 h2
        have h3 : featL.getD q 0 = nI c := of_decide_eq_true h2
        have h4 : ∀ q, q < 13 → (featL.getD q 0).toInt < 123 := by decide +kernel
        have h5 := h4 q h1
        rw [h3, w_int (by omega)] at h5
        omega
      · have := fst1_le (p := fun i => decide (featL.getD i 0 = nI c)) 13 0; omega
    have : isFb c = false := by
      cases hb : isFb c
      · rfl
      · have := isFb_isF hb; unfold isF at this; omega
    rw [e, if_pos rfl, this]; rfl
/-! tests kept -/
theorem keep_eq {C n : Nat} {x : Int32} {μ : Mm} (hC : C < 30) (e : μ 13 12 = nI C) (e2 : μ 22 C = nI n) (hn : n < 8) : f_X3_keepTest x μ = some (up2 (up2 μ 23 (8 * C + n) x) 22 C (nI (n + 1))) := by
  unfold f_X3_keepTest setm
  have eC : (nI C).toNatClampNeg = C := w_nat (by omega)
  have e8 : nI C * 8 + nI n = nI (8 * C + n) := by
    rw [show (8 : Int32) = nI 8 from rfl, w_mul, w_add, Nat.mul_comm]
  have q1 : ∀ v, (up2 μ 23 (8 * C + n) v) 13 12 = nI C := fun v => e
  have q2 : ∀ v, (up2 μ 23 (8 * C + n) v) 22 C = nI n := fun v => e2
  rw [e, eC, e2, chk_nI hC (by omega), if_neg (show ¬ (8 : Int32) ≤ nI n from by rw [show (8 : Int32) = nI 8 from rfl, w_le (by omega) (by omega)]; omega), e8, w_nat (show 8 * C + n < 2147483648 by omega), q1, chk_nI hC (by omega), chk_nI (show 8 * C + n < 240 by omega) (by omega), chk_nI hC (by omega), chk_nI hC (by omega), eC, q2, w_succ]
/-- m tests of f put behind the n of C -/
def kt (μ : Mm) (C n f m : Nat) : Mm := fun a => if a = 23 then (fun s => if 8 * C + n ≤ s ∧ s < 8 * C + n + m then μ 23 (8 * f + (s - (8 * C + n))) else μ 23 s) else if a = 22 then (fun j => if j = C then nI (n + m) else μ 22 j) else μ a
theorem kt_0 {μ : Mm} {C n f : Nat} (e : μ 22 C = nI n) : kt μ C n f 0 = μ := by
  funext a
  unfold kt
  by_cases h : a = 23
  · rw [if_pos h, h]; funext s; rw [if_neg (by omega)]
  · rw [if_neg h]
    by_cases h2 : a = 22
    · rw [if_pos h2, h2]; funext j
      by_cases h3 : j = C
      · rw [if_pos h3, h3, e]; rfl
      · rw [if_neg h3]
    · rw [if_neg h2]
theorem kt_s {μ : Mm} {C n f m : Nat} (hf : f < C) (hm : m < 8) : up2 (up2 (kt μ C n f m) 23 (8 * C + (n + m)) (μ 23 (8 * f + m))) 22 C (nI (n + m + 1)) = kt μ C n f (m + 1) := by
  funext a
  unfold up2 kt upd
  by_cases h : a = 23
  · subst h
    simp only [show ¬ (23 = 22) by omega, if_false, if_true]
    funext s
    by_cases h2 : s = 8 * C + (n + m)
    · rw [if_pos h2, if_pos (by omega), h2]
      congr 1; omega
    · rw [if_neg h2]
      by_cases h3 : 8 * C + n ≤ s ∧ s < 8 * C + n + m
      · rw [if_pos h3, if_pos (by omega)]
      · rw [if_neg h3, if_neg (by omega)]
  · by_cases h2 : a = 22
    · subst h2
      simp only [show ¬ (22 = 23) by omega, if_false, if_true]
      funext j
      by_cases h3 : j = C
      · rw [if_pos h3, if_pos h3]; congr 1
      · rw [if_neg h3, if_neg h3, if_neg h3]
    · simp only [if_neg h, if_neg h2]
theorem keepOf_eq {C n f m : Nat} {μ : Mm} (hC : C < 30) (hf : f < C) (e : μ 13 12 = nI C) (e2 : μ 22 C = nI n) (ef : μ 22 f = nI m) (hn : n + m ≤ 8) : f_X3_keepTestsOf (nI f) μ = some (kt μ C n f m) := by
  unfold f_X3_keepTestsOf
  have := up_loop (fun n x s => f_X3_keepTestsOf_L2 (nI f) n x s) m (fun s => some s) (fun i _ => kt μ C n f (i + 1)) (fun i s => s = kt μ C n f i) ?_ ?_ m fuel 0 μ (by omega) (by unfold fuel; omega) (kt_0 e2).symm
  · obtain ⟨h1, h2⟩ := this
    rw [h2] at h1
    exact h1
  · intro k s hs
    show f_X3_keepTestsOf_L2 (nI f) (k + 1) (nI m) s = _
    unfold f_X3_keepTestsOf_L2
    have e3 : s 22 f = nI m := by rw [hs]; show (if f = C then _ else μ 22 f) = _; rw [if_neg (by omega), ef]
    rw [chk_nI (show f < 30 by omega) (by omega), w_nat (by omega), e3, if_pos (by rw [w_le (by omega) (by omega)]; omega)]
  · intro k i s hi hs
    refine ⟨?_, rfl⟩
    show f_X3_keepTestsOf_L2 (nI f) (k + 1) (nI i) s = _
    conv => lhs; unfold f_X3_keepTestsOf_L2
    have e3 : s 22 f = nI m := by rw [hs]; show (if f = C then _ else μ 22 f) = _; rw [if_neg (by omega), ef]
    have e4 : s 22 C = nI (n + i) := by rw [hs]; show (if C = C then nI (n + i) else μ 22 C) = _; rw [if_pos rfl]
    have e5 : s 13 12 = nI C := by rw [hs]; exact e
    have e8 : nI f * 8 + nI i = nI (8 * f + i) := by rw [show (8 : Int32) = nI 8 from rfl, w_mul, w_add, Nat.mul_comm]
    have e6 : s 23 (8 * f + i) = μ 23 (8 * f + i) := by
      rw [hs]; show (if 8 * C + n ≤ 8 * f + i ∧ 8 * f + i < 8 * C + n + i then _ else μ 23 (8 * f + i)) = _
      rw [if_neg (by omega)]
    rw [chk_nI (show f < 30 by omega) (by omega), w_nat (by omega), e3, if_neg (by rw [w_le (by omega) (by omega)]; omega), e8, chk_nI (show 8 * f + i < 240 by omega) (by omega), w_nat (by omega), e6, keep_eq hC e5 e4 (by omega), Option.bind_some, w_succ]
    show f_X3_keepTestsOf_L2 (nI f) k (nI (i + 1)) _ = _
    rw [hs, kt_s hf (by omega)]


theorem finish_eq {C : Nat} {k z : Int32} {μ : Mm} (hC : C < 30) (e : μ 13 12 = nI C) : f_X3_finish k z μ = some (nI C, up2 (up2 (up2 μ 14 C k) 15 C z) 13 12 (nI (C + 1))) := by
  unfold f_X3_finish setm
  have eC : (nI C).toNatClampNeg = C := w_nat (by omega)
  have ck : ∀ {α : Type} (k : Option α), chk (nI C) 30 k = k := fun k => chk_nI hC (by omega)
  simp only [up2_n (k := 14) (a := 13) (by omega), up2_n (k := 15) (a := 13) (by omega), up2_n (k := 16) (a := 13) (by omega), up2_n (k := 17) (a := 13) (by omega), up2_n (k := 18) (a := 13) (by omega), up2_n (k := 19) (a := 13) (by omega), up2_n (k := 20) (a := 13) (by omega), up2_n (k := 21) (a := 13) (by omega), up2_n (k := 22) (a := 13) (by omega), up2_n (k := 23) (a := 13) (by omega), e, eC, ck, w_succ]
theorem appendTest_eq {C cc : Nat} {w v b : Int32} {μ : Mm} (hC : C < 30) (hcc : cc < 65536) (e : μ 13 12 = nI C) (e2 : μ 22 C = 0) :
    f_X3_appendTest (nI cc) w v b μ = some (nI C, up2 (up2 (up2 (up2 (up2 (up2 (up2 (up2 (up2 μ 16 C (nI cc)) 17 C w) 18 C (vp_nar .boolean v)) 19 C b) 23 (8 * C + 0) (nI C)) 22 C (nI (0 + 1))) 14 C 0) 15 C 1) 13 12 (nI (C + 1))) := by
  unfold f_X3_appendTest setm
  have eC : (nI C).toNatClampNeg = C := w_nat (by omega)
  have ck : ∀ {α : Type} (k : Option α), chk (nI C) 30 k = k := fun k => chk_nI hC (by omega)
  simp only [up2_n (k := 14) (a := 13) (by omega), up2_n (k := 15) (a := 13) (by omega), up2_n (k := 16) (a := 13) (by omega), up2_n (k := 17) (a := 13) (by omega), up2_n (k := 18) (a := 13) (by omega), up2_n (k := 19) (a := 13) (by omega), up2_n (k := 20) (a := 13) (by omega), up2_n (k := 21) (a := 13) (by omega), up2_n (k := 22) (a := 13) (by omega), up2_n (k := 23) (a := 13) (by omega), e, eC, ck, narc hcc]
  rw [keep_eq (μ := up2 (up2 (up2 (up2 μ 16 C (nI cc)) 17 C w) 18 C (vp_nar .boolean v)) 19 C b) (n := 0) hC e e2 (by omega), Option.bind_some, finish_eq (μ := up2 (up2 (up2 (up2 (up2 (up2 μ 16 C (nI cc)) 17 C w) 18 C (vp_nar .boolean v)) 19 C b) 23 (8 * C + 0) (nI C)) 22 C (nI (0 + 1))) hC e, Option.bind_some]
theorem mTest_eq {C cc : Nat} {w v b : Int32} {ν : Mm} (hC : C < 30) (hcc : cc < 65536) (e : ν 0 26 = nI C) :
    (chk (nI C) 30 ((chk ((up2 ν 12 (nI C).toNatClampNeg 0) 0 26) 30 ((setm (up2 (up2 ν 12 (nI C).toNatClampNeg 0) 18 ((up2 ν 12 (nI C).toNatClampNeg 0) 0 26).toNatClampNeg (vp_nar .char (nI cc))) (fun mm17 => (chk (mm17 0 26) 30 ((chk ((up2 mm17 16 (mm17 0 26).toNatClampNeg w) 0 26) 30 ((chk ((up2 (up2 mm17 16 (mm17 0 26).toNatClampNeg w) 19 ((up2 mm17 16 (mm17 0 26).toNatClampNeg w) 0 26).toNatClampNeg (vp_nar .boolean v)) 0 26) 30 ((setm (up2 (up2 (up2 mm17 16 (mm17 0 26).toNatClampNeg w) 19 ((up2 mm17 16 (mm17 0 26).toNatClampNeg w) 0 26).toNatClampNeg (vp_nar .boolean v)) 17 ((up2 (up2 mm17 16 (mm17 0 26).toNatClampNeg w) 19 ((up2 mm17 16 (mm17 0 26).toNatClampNeg w) 0 26).toNatClampNeg (vp_nar .boolean v)) 0 26).toNatClampNeg b) (fun mm21 => (chk (mm21 0 26) 30 (some (((up2 (up2 mm21 15 (mm21 0 26).toNatClampNeg 1) 0 26 (((up2 mm21 15 (mm21 0 26).toNatClampNeg 1) 0 26) + 1)) 0 26) - 1, (up2 (up2 mm21 15 (mm21 0 26).toNatClampNeg 1) 0 26 (((up2 mm21 15 (mm21 0 26).toNatClampNeg 1) 0 26) + 1))))))))))))))))))) =
    some (nI C, up2 (up2 (up2 (up2 (up2 (up2 (up2 ν 12 C 0) 18 C (nI cc)) 16 C w) 19 C (vp_nar .boolean v)) 17 C b) 15 C 1) 0 26 (nI (C + 1))) := by
  unfold setm
  have eC : (nI C).toNatClampNeg = C := w_nat (by omega)
  have ck : ∀ {α : Type} (k : Option α), chk (nI C) 30 k = k := fun k => chk_nI hC (by omega)
  have rd : ∀ (m : Mm) (v : Int32), (up2 m 0 26 v) 0 26 = v := fun m v => rfl
  simp only [up2_n (k := 12) (a := 0) (by omega), up2_n (k := 13) (a := 0) (by omega), up2_n (k := 14) (a := 0) (by omega), up2_n (k := 15) (a := 0) (by omega), up2_n (k := 16) (a := 0) (by omega), up2_n (k := 17) (a := 0) (by omega), up2_n (k := 18) (a := 0) (by omega), up2_n (k := 19) (a := 0) (by omega), e, eC, ck, narc hcc, rd, w_succ, w_pred]
theorem op_addTest {t : Nat} {μ ν : Mm} (a w v b : Int32) (ha : ∃ c, c < 65536 ∧ a = nI c) (o : Nat → Int64) (h : R t μ ν) : ∃ c μ' o' x ν', f_L_addTest_0_o a w v b μ o = some (c, μ', o') ∧ f_X8_addTest a w v b ν = some (x, ν') ∧ Res t c o' x μ' ν' := by
  have hz : R t μ (up2 ν 0 0 0) := R_thr 0 h
  unfold f_X8_addTest f_L_addTest_0_o f_X7_addTest
  generalize e : up2 ν 0 0 0 = ν1 at hz ⊢
  have z : ν1 0 0 = 0 := by rw [← e]; rfl
  have hz2 := hz
  obtain ⟨ht, A, T, P, F, C, N, hx⟩ := hz
  have hx2 := hx
  obtain ⟨hA, hT, hL, hK, hC, hR, hc, hJ⟩ := hx
  obtain ⟨cc, hcc, rfl⟩ := ha
  rw [feat_m hcc, feat_c hcc]
  cases hf : isFb cc
  · exact ⟨1, μ, o, 0, up2 ν1 0 0 1, rfl, rfl, rfl, fun h => absurd h (by decide), R_thr 1 hz2⟩
  rw [b2_t, if_pos rfl, Option.bind_some, Option.bind_some, if_pos rfl, if_neg (show ¬ (1 : Int32) = 0 by decide)]
  rcases win_doors w with ⟨w1, w2, w3⟩ | ⟨w1, w2, w3⟩
  · rw [w2, w3, Option.bind_some, Option.bind_some, if_pos rfl, if_neg (show ¬ (1 : Int32) = 0 by decide), btwI]
    rcases span_cases b 0 99999 (by decide) with ⟨h1, h2⟩ | ⟨h1, h2, h3⟩ | ⟨h1, h2, h3⟩
    · rw [if_pos h1, decide_eq_false h2]
      exact ⟨1, μ, o, 0, up2 ν1 0 0 1, rfl, rfl, rfl, fun h => absurd h (by decide), R_thr 1 hz2⟩
    · rw [if_neg h1, if_pos h2, decide_eq_true h3, b2_t, Option.bind_some, if_neg (show ¬ (1 : Int32) = 0 by decide)]
      obtain ⟨q1, q2, q3, q4, q5, q6⟩ := id hC
      unfold f_X7_requireRoomForCondition
      rw [q2, q3]
      by_cases hfull : C < 30
      · rw [if_pos (show nI C < 30 from (w_lt (b := 30) (by omega) (by omega)).mpr hfull), if_neg (show ¬ nI C = 30 from fun hh => by rw [show (30 : Int32) = nI 30 from rfl, w_eq (by omega) (by omega)] at hh; omega), Option.bind_some, if_pos rfl]
        obtain ⟨wn, hw1, hw2, rfl⟩ := win_nI w1
        rw [appendTest_eq hfull hcc q2 (q5 C (Nat.le_refl C)), mTest_eq hfull hcc q3]
        generalize hnb : vp_nar .boolean v = vb
        refine ⟨0, up2 (up2 (up2 (up2 (up2 (up2 (up2 (up2 (up2 μ 16 C (nI cc)) 17 C (nI wn)) 18 C vb) 19 C b) 23 (8 * C + 0) (nI C)) 22 C (nI (0 + 1))) 14 C 0) 15 C 1) 13 12 (nI (C + 1)), vp_updL o (0 : Int32).toNatClampNeg (nI C).toInt64, nI C, _, rfl, rfl, z, fun _ => rfl, ht, A, T, P, F, C + 1, N, ?_⟩
        refine R_addC hx2 hfull ?_ ?_ ?_ rfl rfl ?_ ?_ ?_ ?_ ?_
        · intro k hk
          simp only [up2_n (show k ≠ 13 by omega), up2_n (show k ≠ 14 by omega), up2_n (show k ≠ 15 by omega), up2_n (show k ≠ 16 by omega), up2_n (show k ≠ 17 by omega), up2_n (show k ≠ 18 by omega), up2_n (show k ≠ 19 by omega), up2_n (show k ≠ 22 by omega), up2_n (show k ≠ 23 by omega)]
        · intro k hk
          simp only [up2_n (show k ≠ 0 by omega), up2_n (show k ≠ 12 by omega), up2_n (show k ≠ 18 by omega), up2_n (show k ≠ 16 by omega), up2_n (show k ≠ 19 by omega), up2_n (show k ≠ 17 by omega), up2_n (show k ≠ 15 by omega)]
        · intro j hj
          show (if j = 26 then _ else ν1 0 j) = _
          rw [if_neg hj]
        · intro k j hk1 hk2 hj
          simp only [up2_o hj, up2_n (show k ≠ 13 by omega), up2_n (show k ≠ 23 by omega)]
        · intro k j hk1 hk2 hj
          simp only [up2_o hj, up2_n (show k ≠ 0 by omega)]
        · intro s hs
          show (if s = 8 * C + 0 then _ else μ 23 s) = _
          rw [if_neg (by omega)]
        · exact q4 C hfull
        · refine ⟨0, 1, 1, by omega, by omega, ?_, ?_, ?_, ?_, ?_, by omega, fun _ => ?_, fun h => by omega, fun h => by omega⟩
          · show (if C = C then _ else _) = _; rw [if_pos rfl]; rfl
          · show (if C = C then _ else _) = _; rw [if_pos rfl]; rfl
          · show (if C = C then _ else _) = _; rw [if_pos rfl]; rfl
          · show (if C = C then _ else _) = _; rw [if_pos rfl]; rfl
          · show (if C = C then _ else _) = _; rw [if_pos rfl]
          · refine ⟨?_, ?_, ?_, ?_, rfl, ?_, cc, wn, isFb_isF hf, hw1, hw2, ?_, ?_⟩
            · show (if C = C then _ else _) = (if C = C then _ else _); rw [if_pos rfl, if_pos rfl]
            · show (if C = C then _ else _) = (if C = C then _ else _); rw [if_pos rfl, if_pos rfl]
            · show (if C = C then _ else _) = (if C = C then _ else _); rw [if_pos rfl, if_pos rfl]
            · show (if C = C then _ else _) = (if C = C then _ else _); rw [if_pos rfl, if_pos rfl]
            · unfold lst
              have e1 : (up2 (up2 (up2 (up2 (up2 (up2 (up2 (up2 (up2 μ 16 C (nI cc)) 17 C (nI wn)) 18 C vb) 19 C b) 23 (8 * C + 0) (nI C)) 22 C (nI (0 + 1))) 14 C 0) 15 C 1) 13 12 (nI (C + 1))) 22 C = nI 1 := by
                show (if C = C then _ else _) = _; rw [if_pos rfl]
              rw [e1]
              show [if 8 * C + 0 = 8 * C + 0 then nI C else _] = _
              rw [if_pos rfl]
            · show (if C = C then _ else _) = _; rw [if_pos rfl]
            · show (if C = C then _ else _) = _; rw [if_pos rfl]
      · have hC30 : C = 30 := by omega
        subst hC30
        exact ⟨2, μ, o, 0, up2 ν1 0 0 2, rfl, rfl, rfl, fun h => absurd h (by decide), R_thr 2 hz2⟩
    · rw [if_neg h1, if_neg h2, decide_eq_false h3]
      exact ⟨1, μ, o, 0, up2 ν1 0 0 1, rfl, rfl, rfl, fun h => absurd h (by decide), R_thr 1 hz2⟩
  · rw [w2, w3]
    exact ⟨1, μ, o, 0, up2 ν1 0 0 1, rfl, rfl, rfl, fun h => absurd h (by decide), R_thr 1 hz2⟩
