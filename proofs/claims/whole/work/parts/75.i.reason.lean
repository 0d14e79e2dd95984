/-! ===== L3: reasonTests, reasonFeature, reasonValue: the operations ===== -/
/-- the tests of the reason r of p that held -/
def hl (μ ν : Mm) (p r : Nat) : List Int32 := (lst μ (rcN ν r)).filter (hd (μ 33 p))
theorem hl_tru {C N p r : Nat} {μ ν : Mm} (hC : Con C μ ν) (hR : Rul C N μ ν) (hr : r < N) (hJ : Jud1 C N μ ν p) (hb : bt (μ 32 p) r = true) : hl μ ν p r = (lst μ (rcN ν r)).filter (tru ν p) := by
  have hC30 := hC.1
  obtain ⟨k, hk, _, _, j3, j4⟩ := hJ
  have h1 := j3 r hr hb
  unfold hl
  apply List.filter_congr
  intro x hx
  obtain ⟨j, g1, g2, _⟩ := lst_ok hC30 hC.2.2.2.2.2 (rcN ν r + 1) (rcN ν r) (by omega) (Rul_rc hC30 hR hr) x hx
  unfold hd tru
  rw [g2, w_nat (by omega)]
  exact (j4 j (by omega)).1
theorem Rg {t : Nat} {μ ν m : Mm} (h : R t μ ν) (hm : Gf m ν) : R t μ m :=
  R_fr (fun k _ _ _ _ => rfl) hm.1 (fun j _ hj => hm.2 j hj) h
theorem none_bad {P : Nat} {a b : Int32} {ν : Mm} (hP : P ≤ 200) (e : ν 0 15 = nI P) (h : a.toInt < 0 ∨ (P : Int) ≤ a.toInt) : f_X8_isNone a b ν = some (1, up2 (up2 ν 0 0 0) 0 0 1) := by
  unfold f_X8_isNone
  rw [isP_bad hP (by rw [thr_0 ν 0 (by omega)]; exact e) h]
  rfl
theorem none_eq {A T P C N p : Nat} {b : Int32} {μ ν : Mm} (z : ν 0 0 = 0) (hA : Acc A μ ν) (hL : Led A T P μ ν) (hC : Con C μ ν) (hR : Rul C N μ ν) (hT : T ≤ 800000) (hp : p < P) (hJ : Jud1 C N μ ν p) :
    (rrI (μ 32 p) b N = -1 ∧ ∃ m', (((f_X8_isPayment (nI p) ν).bind (fun r1 => (if (r1 : Int32) = 0 then ((f_X8_fails 1 ν).bind (fun r14 => some ((1 : Int32), r14.2))) else ((f_X8_ruleOf (nI p) b ν).bind (fun r4 => (if 0 ≤ (r4.1 : Int32) then (chk r4.1 12 (((f_X8_gathers 16 ((up2 r4.2 0 32 0) 20 r4.1.toNatClampNeg) (nI p) (up2 r4.2 0 32 0)).bind (fun r8 => (if (r8 0 0 : Int32) ≤ 0 then some (0, r8) else some (1, r8)))))) else ((f_X8_fails 2 (up2 r4.2 0 32 0)).bind (fun r11 => (if (r11.2 0 0 : Int32) ≤ 0 then some (0, r11.2) else some (1, r11.2))))))))))) = some (1, up2 m' 0 0 2) ∧ Gf m' ν) ∨
    ∃ r m', r < N ∧ rrI (μ 32 p) b N = nI r ∧ (((f_X8_isPayment (nI p) ν).bind (fun r1 => (if (r1 : Int32) = 0 then ((f_X8_fails 1 ν).bind (fun r14 => some ((1 : Int32), r14.2))) else ((f_X8_ruleOf (nI p) b ν).bind (fun r4 => (if 0 ≤ (r4.1 : Int32) then (chk r4.1 12 (((f_X8_gathers 16 ((up2 r4.2 0 32 0) 20 r4.1.toNatClampNeg) (nI p) (up2 r4.2 0 32 0)).bind (fun r8 => (if (r8 0 0 : Int32) ≤ 0 then some (0, r8) else some (1, r8)))))) else ((f_X8_fails 2 (up2 r4.2 0 32 0)).bind (fun r11 => (if (r11.2 0 0 : Int32) ≤ 0 then some (0, r11.2) else some (1, r11.2))))))))))) = some (0, m') ∧ Gf m' ν ∧ m' 0 32 = nI (hl μ ν p r).length ∧ (hl μ ν p r).length ≤ 8 ∧ ∀ i v, (hl μ ν p r)[i]? = some v → m' 22 i = v := by
  have hP := hL.1
  have hN := hR.1
  have hC30 := hC.1
  obtain ⟨m1, v1, v2⟩ := ruleOf_eq (a := b) hA hL hC hR hT hp hJ (m := ν) (fun _ _ => rfl)
  rw [isP_ok hP hL.2.2.1 hp, Option.bind_some, if_neg (by decide), v1, Option.bind_some]
  have hG0 : Gf (up2 m1 0 32 0) ν := ⟨fun k h1 h2 h3 => by rw [up2_n h1]; exact v2 k h2, fun j hj => by rw [up2_o hj]; rw [v2 0 (by omega)]⟩
  rcases rrI_cases (x := μ 32 p) (a := b) hN with h1 | ⟨r, hr, h2, hb⟩
  · left
    rw [h1]
    exact ⟨rfl, up2 m1 0 32 0, rfl, hG0⟩
  · right
    rw [h2]
    have hrc := Rul_rc hC30 hR hr
    obtain ⟨s, s1, s2⟩ := Con_size hC hrc
    obtain ⟨n, n1, n2, n3, n4⟩ := lst_len hC.2.2.2.2.2 hrc
    obtain ⟨m', g1, g2, g3, g4, g5⟩ := gathers_eq hA hL hC hT hp 16 (rcN ν r) s hrc s2 (by omega) s1 (up2 m1 0 32 0) 0 hG0 rfl (by omega)
    rw [← hl_tru hC hR hr hJ hb] at g3 g5
    have e20 : up2 m1 0 32 0 20 r = nI (rcN ν r) := by
      rw [hG0.1 20 (by omega) (by omega) (by omega)]
      obtain ⟨c, w, _, _, _, _, h5, _⟩ := hR.2.2.2.2.2 r hr
      unfold rcN
      rw [h5, w_nat (by omega)]
    have hlen : (hl μ ν p r).length ≤ 8 := by
      have : (hl μ ν p r).length ≤ (lst μ (rcN ν r)).length := List.length_filter_le _ _
      omega
    refine ⟨r, m', hr, rfl, ?_, g2, ?_, hlen, ?_⟩
    · rw [if_pos (nn_nI (by omega)), chk_nI (show r < 12 by omega) (by omega), w_nat (show r < 2147483648 by omega), e20, g1, Option.bind_some, if_pos]
      rw [g2.2 0 (by omega), z]; decide
    · rw [g3, Nat.zero_add]
    · intro i v hv
      have := g5 i v hv
      rw [Nat.zero_add] at this
      exact this
theorem hl_mem {C N p r : Nat} {x : Int32} {μ ν : Mm} (hC : Con C μ ν) (hR : Rul C N μ ν) (hr : r < N) (hx : x ∈ hl μ ν p r) : ∃ j, j ≤ rcN ν r ∧ j < C ∧ x = nI j ∧ ν 12 j = 0 := by
  have hC30 := hC.1
  have hrc := Rul_rc hC30 hR hr
  obtain ⟨j, g1, g2, g3⟩ := lst_ok hC30 hC.2.2.2.2.2 (rcN ν r + 1) (rcN ν r) (by omega) hrc x (List.mem_filter.mp hx).1
  exact ⟨j, g1, by omega, g2, g3⟩
theorem rc27 {C N r : Nat} {μ ν : Mm} (hC : C ≤ 30) (hR : Rul C N μ ν) (hr : r < N) : μ 27 r = nI (rcN ν r) := by
  obtain ⟨c, w, h1, _, _, h4, h5, _⟩ := hR.2.2.2.2.2 r hr
  unfold rcN
  rw [h5, w_nat (by omega)]; exact h4
theorem op_reasonTests {t : Nat} {μ ν : Mm} (a b : Int32) (o : Nat → Int64) (h : R t μ ν) : ∃ c o' w ν', f_L_reasonTests_0_o a b μ o = some (c, o') ∧ f_X8_reasonTests a b ν = some (w, ν') ∧ Res t c o' w μ ν' := by
  have hz : R t μ (up2 ν 0 0 0) := R_thr 0 h
  have hz2 := hz
  have e15 : ∀ A, (up2 ν 0 0 0) 0 15 = nI A → ν 0 15 = nI A := fun A h => by rw [thr_0 ν 0 (by omega)] at h; exact h
  unfold f_X8_reasonTests f_L_reasonTests_0_o f_X7_reasonTests f_X7_ruleOfReason
  obtain ⟨ht, A, T, P, F, C, N, hA, hT, hL, hK, hC, hR, hc, hJ⟩ := hz
  have hP := hL.1
  have hN := hR.1
  have hC30 := hC.1
  rcases idx_cases a P with hb | ⟨p, hp, rfl⟩
  · rw [reqP_bad hP hL.2.1 hb, none_bad hP (e15 P hL.2.2.1) hb]
    exact ⟨1, o, 0, up2 (up2 ν 0 0 0) 0 0 1, rfl, rfl, rfl, fun h => absurd h (by decide), R_thr 1 hz2⟩
  · rw [reqP_ok hP hL.2.1 hp, Option.bind_some, if_pos rfl, chk_nI (show p < 200 by omega) (by omega), w_nat (show p < 2147483648 by omega), atRank_eq hN hR.2.1]
    unfold f_X8_isNone
    have z : (up2 ν 0 0 0) 0 0 = 0 := rfl
    generalize up2 ν 0 0 0 = ν1 at hA hT hL hK hC hR hc hJ hz2 z ⊢
    rcases none_eq (b := b) z hA hL hC hR (Nat.le_trans hT.1 ht) hp (hJ p hp) with ⟨h1, m', h2, h3⟩ | ⟨r, m', hr, h1, h2, h3, h4, h5, h6⟩
    · rw [h1, h2]
      exact ⟨2, o, 0, up2 m' 0 0 2, rfl, rfl, rfl, fun h => absurd h (by decide), R_thr 2 (Rg hz2 h3)⟩
    · rw [h1, h2, Option.bind_some, if_neg (m1_ne (by omega)), Option.bind_some, if_pos rfl]
      show ∃ c o' w ν', (((chk (nI r) 12 (chk (nI p) 200 ((f_X3_countTests (μ 27 (nI r).toNatClampNeg) (μ 33 p) μ).bind (fun r9 => some (0, r9)))) : Option (Nat × Int32)).bind _) = some (c, o') ∧ _ ∧ _)
      rw [chk_nI (show r < 12 by omega) (by omega), chk_nI (show p < 200 by omega) (by omega), w_nat (show r < 2147483648 by omega), rc27 hC30 hR hr, count_eq hC30 hC.2.2.2.2.2 (Rul_rc hC30 hR hr), Option.bind_some, Option.bind_some, if_pos rfl, chk0, Option.bind_some, if_pos rfl]
      exact ⟨0, _, nI (hl μ ν1 p r).length, m', rfl, by show some (m' 0 32, m') = _; rw [h4], by rw [h3.2 0 (by omega)]; exact z, fun _ => rfl, Rg hz2 h3⟩
/-- which test a rank names -/
theorem tst_cases {L : List Int32} {a : Int32} (hL : L.length ≤ 8) : ((a.toInt < 0 ∨ (L.length : Int) ≤ a.toInt) ∧ tAt L 0 a = -1) ∨ ∃ j v, j < L.length ∧ a = nI j ∧ L[j]? = some v ∧ tAt L 0 a = v := by
  rcases tAt_get L 0 a with ⟨j, v, h1, h2, h3⟩ | ⟨h1, h2⟩
  · right
    refine ⟨j, v, ?_, by rw [h2, Nat.zero_add], h1, h3⟩
    exact (List.getElem?_eq_some_iff.mp h1).1
  · left
    refine ⟨?_, h2⟩
    rcases idx_cases a L.length with h | ⟨j, hj, e⟩
    · exact h
    · exact absurd (by rw [e, Nat.zero_add]) (h1 j hj)
theorem op_reasonFeature {t : Nat} {μ ν : Mm} (a b d : Int32) (o : Nat → Int64) (h : R t μ ν) : ∃ c o' w ν', f_L_reasonFeature_0_o a b d μ o = some (c, o') ∧ f_X8_reasonFeature a b d ν = some (w, ν') ∧ Res t c o' w μ ν' := by
  have hz : R t μ (up2 ν 0 0 0) := R_thr 0 h
  have hz2 := hz
  have e15 : ∀ A, (up2 ν 0 0 0) 0 15 = nI A → ν 0 15 = nI A := fun A h => by rw [thr_0 ν 0 (by omega)] at h; exact h
  unfold f_X8_reasonFeature f_X8_isNoTest f_L_reasonFeature_0_o f_X7_reasonFeature f_X7_testOfReason f_X7_ruleOfReason
  obtain ⟨ht, A, T, P, F, C, N, hA, hT, hL, hK, hC, hR, hc, hJ⟩ := hz
  have hP := hL.1
  have hN := hR.1
  have hC30 := hC.1
  rcases idx_cases a P with hb | ⟨p, hp, rfl⟩
  · rw [reqP_bad hP hL.2.1 hb, none_bad hP (e15 P hL.2.2.1) hb]
    exact ⟨1, o, 0, up2 (up2 ν 0 0 0) 0 0 1, rfl, rfl, rfl, fun h => absurd h (by decide), R_thr 1 hz2⟩
  · rw [reqP_ok hP hL.2.1 hp, Option.bind_some, if_pos rfl, chk_nI (show p < 200 by omega) (by omega), w_nat (show p < 2147483648 by omega), atRank_eq hN hR.2.1]
    unfold f_X8_isNone
    have z : (up2 ν 0 0 0) 0 0 = 0 := rfl
    generalize up2 ν 0 0 0 = ν1 at hA hT hL hK hC hR hc hJ hz2 z ⊢
    rcases none_eq (b := b) z hA hL hC hR (Nat.le_trans hT.1 ht) hp (hJ p hp) with ⟨h1, m', h2, h3⟩ | ⟨r, m', hr, h1, h2, h3, h4, h5, h6⟩
    · rw [h1, h2]
      exact ⟨2, o, 0, up2 m' 0 0 2, rfl, rfl, rfl, fun h => absurd h (by decide), R_thr 2 (Rg hz2 h3)⟩
    · rw [h1, h2, Option.bind_some, if_neg (m1_ne (by omega)), Option.bind_some, if_pos rfl, Option.bind_some]
      have eL : (lst μ (rcN ν1 r)).filter (hd (μ 33 p)) = hl μ ν1 p r := rfl
      dsimp only
      rw [chk_nI (show r < 12 by omega) (by omega), chk_nI (show p < 200 by omega) (by omega), w_nat (show r < 2147483648 by omega), rc27 hC30 hR hr, testAt_eq hC30 hC.2.2.2.2.2 (Rul_rc hC30 hR hr), eL, h4, if_pos rfl, Option.bind_some]
      rcases tst_cases (a := d) h5 with ⟨t1, t2⟩ | ⟨j, v, t1, t2, t3, t4⟩
      · rw [t2, btw_bad t1 (by omega)]
        exact ⟨2, o, 0, up2 m' 0 0 2, rfl, rfl, rfl, fun h => absurd h (by decide), R_thr 2 (Rg hz2 h3)⟩
      · obtain ⟨q, q1, q2, q3, q4⟩ := hl_mem hC hR hr (List.mem_of_getElem? t3)
        have m22 := h6 j v t3
        have m00 : m' 0 0 = 0 := by rw [h3.2 0 (by omega)]; exact z
        obtain ⟨k', s', n', _, _, i1, i2, _, _, _, _, i0, _, _⟩ := hC.2.2.2.2.2 q q2
        have hk0 : k' = 0 := (w_eq (b := 0) (by omega) (by omega)).mp (i1.symm.trans q4)
        obtain ⟨f1, f2, f3, f4, f5, f6, f, w, g1, g2, g3, g4, g5⟩ := i0 hk0
        have hf : f < 65536 := by
          rcases g1 with rfl | rfl | rfl | rfl | rfl | rfl | rfl | rfl | rfl | rfl | rfl | rfl | rfl <;> omega
        refine ⟨0, vp_updL o (0 : Int32).toNatClampNeg (nI f).toInt64, nI f, m', ?_, ?_, m00, fun _ => rfl, Rg hz2 h3⟩
        · rw [t4, q3, if_neg (m1_ne (by omega)), Option.bind_some]
          show ((chk (nI q) 30 (gn .char (μ 16 (nI q).toNatClampNeg) (some (0, μ 16 (nI q).toNatClampNeg))) : Option (Nat × Int32)).bind _) = _
          rw [chk_nI (show q < 30 by omega) (by omega), w_nat (show q < 2147483648 by omega), f1, g4, gnc hf, Option.bind_some, if_pos rfl, chk0]
        · rw [t2, btw_ok t1 (by omega), Option.bind_some, if_neg (by decide), if_pos (show m' 0 0 ≤ 0 from by rw [m00]; decide), Option.bind_some]
          show (if (0 : Int32) = 0 then chk (nI j) 16 (chk (m' 22 (nI j).toNatClampNeg) 30 (gn .char (m' 18 (m' 22 (nI j).toNatClampNeg).toNatClampNeg) (some (m' 18 (m' 22 (nI j).toNatClampNeg).toNatClampNeg, m')))) else _) = _
          rw [if_pos rfl, chk_nI (show j < 16 by omega) (by omega), w_nat (show j < 2147483648 by omega), m22, q3, chk_nI (show q < 30 by omega) (by omega), w_nat (show q < 2147483648 by omega), h3.1 18 (by omega) (by omega) (by omega), g4, gnc hf]
theorem op_reasonValue {t : Nat} {μ ν : Mm} (a b d : Int32) (o : Nat → Int64) (h : R t μ ν) : ∃ c o' w ν', f_L_reasonValue_0_o a b d μ o = some (c, o') ∧ f_X8_reasonValue a b d ν = some (w, ν') ∧ Res t c o' w μ ν' := by
  have hz : R t μ (up2 ν 0 0 0) := R_thr 0 h
  have hz2 := hz
  have e15 : ∀ A, (up2 ν 0 0 0) 0 15 = nI A → ν 0 15 = nI A := fun A h => by rw [thr_0 ν 0 (by omega)] at h; exact h
  unfold f_X8_reasonValue f_X8_isNoTest f_L_reasonValue_0_o f_X7_reasonValue f_X7_testOfReason f_X7_ruleOfReason
  obtain ⟨ht, A, T, P, F, C, N, hA, hT, hL, hK, hC, hR, hc, hJ⟩ := hz
  have hP := hL.1
  have hN := hR.1
  have hC30 := hC.1
  rcases idx_cases a P with hb | ⟨p, hp, rfl⟩
  · rw [reqP_bad hP hL.2.1 hb, none_bad hP (e15 P hL.2.2.1) hb]
    exact ⟨1, o, 0, up2 (up2 ν 0 0 0) 0 0 1, rfl, rfl, rfl, fun h => absurd h (by decide), R_thr 1 hz2⟩
  · rw [reqP_ok hP hL.2.1 hp, Option.bind_some, if_pos rfl, chk_nI (show p < 200 by omega) (by omega), w_nat (show p < 2147483648 by omega), atRank_eq hN hR.2.1]
    unfold f_X8_isNone
    have z : (up2 ν 0 0 0) 0 0 = 0 := rfl
    generalize up2 ν 0 0 0 = ν1 at hA hT hL hK hC hR hc hJ hz2 z ⊢
    rcases none_eq (b := b) z hA hL hC hR (Nat.le_trans hT.1 ht) hp (hJ p hp) with ⟨h1, m', h2, h3⟩ | ⟨r, m', hr, h1, h2, h3, h4, h5, h6⟩
    · rw [h1, h2]
      exact ⟨2, o, 0, up2 m' 0 0 2, rfl, rfl, rfl, fun h => absurd h (by decide), R_thr 2 (Rg hz2 h3)⟩
    · rw [h1, h2, Option.bind_some, if_neg (m1_ne (by omega)), Option.bind_some, if_pos rfl, Option.bind_some]
      have eL : (lst μ (rcN ν1 r)).filter (hd (μ 33 p)) = hl μ ν1 p r := rfl
      dsimp only
      rw [chk_nI (show r < 12 by omega) (by omega), chk_nI (show p < 200 by omega) (by omega), w_nat (show r < 2147483648 by omega), rc27 hC30 hR hr, testAt_eq hC30 hC.2.2.2.2.2 (Rul_rc hC30 hR hr), eL, h4, if_pos rfl, Option.bind_some]
      rcases tst_cases (a := d) h5 with ⟨t1, t2⟩ | ⟨j, v, t1, t2, t3, t4⟩
      · rw [t2, btw_bad t1 (by omega)]
        exact ⟨2, o, 0, up2 m' 0 0 2, rfl, rfl, rfl, fun h => absurd h (by decide), R_thr 2 (Rg hz2 h3)⟩
      · obtain ⟨q, q1, q2, q3, q4⟩ := hl_mem hC hR hr (List.mem_of_getElem? t3)
        have m22 := h6 j v t3
        have m00 : m' 0 0 = 0 := by rw [h3.2 0 (by omega)]; exact z
        obtain ⟨k', s', n', _, _, i1, i2, _, _, _, _, i0, _, _⟩ := hC.2.2.2.2.2 q q2
        have hk0 : k' = 0 := (w_eq (b := 0) (by omega) (by omega)).mp (i1.symm.trans q4)
        obtain ⟨f1, f2, f3, f4, f5, f6, f, w, g1, g2, g3, g4, g5⟩ := i0 hk0
        have hbr : bt (μ 32 p) r = true := by
          rcases rrI_cases (x := μ 32 p) (a := b) hN with x1 | ⟨r', x1, x2, x3⟩
          · rw [h1] at x1; exact absurd x1 (m1_ne (by omega))
          · have : r = r' := (w_eq (by omega) (by omega)).mp (h1.symm.trans x2)
            rw [this]; exact x3
        have hval : μ 34 (30 * p + q) = VC ν1 (ν1 7 p) p q := by
          obtain ⟨k, hk, _, _, j3, j4⟩ := hJ p hp
          have := j3 r hr hbr
          exact (j4 q (by omega)).2 q4
        obtain ⟨m2, v1, v2⟩ := mV (w := nI w) (mk := ν1 7 p) (Acc_g hA h3) (Led_g hL h3) (Nat.le_trans hT.1 ht) hp (show win (nI w) from ⟨by rw [w_int (by omega)]; omega, by rw [w_int (by omega)]; omega⟩) g1
        have ec : cut m' p = cut ν1 p := (Sst_g (C := C) (p := p) h3).2
        have eV : V (cut m' p) (nI f) (nI w) (ν1 7 p) p = VC ν1 (ν1 7 p) p q := by unfold VC; rw [g4, g5, ec]
        refine ⟨0, vp_updL o (0 : Int32).toNatClampNeg (VC ν1 (ν1 7 p) p q).toInt64, VC ν1 (ν1 7 p) p q, m2, ?_, ?_, by rw [v2 0 (by omega)]; exact m00, fun _ => rfl, Rg hz2 (Gf_11 h3 v2)⟩
        · rw [t4, q3, if_neg (m1_ne (by omega)), Option.bind_some]
          unfold f_X2_foundValue
          show (((chk (nI p * 30 + nI q) 6000 (some (μ 34 (nI p * 30 + nI q).toNatClampNeg))).bind (fun r7 => some ((0 : Nat), r7))).bind _) = _
          rw [show (nI p * 30 + nI q : Int32) = nI (30 * p + q) from by rw [show (30 : Int32) = nI 30 from rfl, w_mul, w_add, Nat.mul_comm], chk_nI (show 30 * p + q < 6000 by omega) (by omega), w_nat (show 30 * p + q < 2147483648 by omega), hval, Option.bind_some, Option.bind_some, if_pos rfl, chk0]
        · rw [t2, btw_ok t1 (by omega), Option.bind_some, if_neg (by decide), if_pos (show m' 0 0 ≤ 0 from by rw [m00]; decide), Option.bind_some]
          show (if (0 : Int32) = 0 then chk (nI j) 16 (chk (m' 22 (nI j).toNatClampNeg) 30 (chk (nI j) 16 (chk (m' 22 (nI j).toNatClampNeg) 30 (chk (nI p) 200 ((f_X8_valueBy (nI p) (m' 18 (m' 22 (nI j).toNatClampNeg).toNatClampNeg) (m' 16 (m' 22 (nI j).toNatClampNeg).toNatClampNeg) (m' 7 p) m').bind (fun r9 => some (r9.1, r9.2))))))) else _) = _
          rw [if_pos rfl, chk_nI (show j < 16 by omega) (by omega), w_nat (show j < 2147483648 by omega), m22, q3, chk_nI (show q < 30 by omega) (by omega), chk_nI (show j < 16 by omega) (by omega), chk_nI (show q < 30 by omega) (by omega), chk_nI (show p < 200 by omega) (by omega), w_nat (show q < 2147483648 by omega), h3.1 18 (by omega) (by omega) (by omega), h3.1 16 (by omega) (by omega) (by omega), h3.1 7 (by omega) (by omega) (by omega), g4, g5, v1, Option.bind_some, eV]
