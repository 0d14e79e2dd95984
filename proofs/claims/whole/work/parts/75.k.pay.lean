/-! ===== L3: pay: the operation ===== -/
theorem Led_pay {A T P a b v : Nat} {μ ν μ' ν' : Mm} (hL : Led A T P μ ν) (hT8 : T ≤ 800000) (hP : P < 200) (ha : a < A) (hb : b < A) (hab : a ≠ b) (hv1 : 1 ≤ v) (hv2 : v ≤ 9999) (m5 : μ' 5 4 = nI (P + 1)) (m6 : ∀ k j, 6 ≤ k → k ≤ 9 → j ≠ P → μ' k j = μ k j)
    (p6 : μ' 6 P = nI a) (p7 : μ' 7 P = nI b) (p8 : μ' 8 P = nI v) (p9 : μ' 9 P = nI T) (n15 : ν' 0 15 = nI (P + 1)) (n3 : ∀ k j, 3 ≤ k → k ≤ 6 → j ≠ P → ν' k j = ν k j) (q3 : ν' 3 P = nI a) (q4 : ν' 4 P = nI b) (q5 : ν' 5 P = nI v) (q6 : ν' 6 P = nI T) : Led A T (P + 1) μ' ν' := by
  refine ⟨by omega, m5, n15, fun j hj => ?_, fun i j hij hj => ?_⟩
  · by_cases hjP : j = P
    · subst hjP
      rw [p6, p7, p8, p9, q3, q4, q5, q6]
      exact ⟨rfl, rfl, rfl, rfl, a, b, v, T, ha, hb, ⟨hv1, hab⟩, hv2, Nat.le_refl T, rfl, rfl, rfl, rfl⟩
    · rw [m6 6 j (by omega) (by omega) hjP, m6 7 j (by omega) (by omega) hjP, m6 8 j (by omega) (by omega) hjP, m6 9 j (by omega) (by omega) hjP, n3 3 j (by omega) (by omega) hjP, n3 4 j (by omega) (by omega) hjP, n3 5 j (by omega) (by omega) hjP, n3 6 j (by omega) (by omega) hjP]
      exact hL.2.2.2.1 j (by omega)
  · by_cases hjP : j = P
    · subst hjP
      rw [q6, w_int (show T < 2147483648 by omega)]
      by_cases hiP : i = j
      · rw [hiP, q6, w_int (show T < 2147483648 by omega)]; omega
      · rw [n3 6 i (by omega) (by omega) hiP]
        obtain ⟨u, hu, eu⟩ := Led_min hL (show i < j by omega)
        rw [eu, w_int (show u < 2147483648 by omega)]; omega
    · rw [n3 6 i (by omega) (by omega) (by omega), n3 6 j (by omega) (by omega) hjP]
      exact hL.2.2.2.2 i j hij (by omega)
theorem up2_w (μ : Mm) (k j : Nat) (v : Int32) : up2 μ k j v k j = v := by rw [up2_s]; unfold upd; rw [if_pos rfl]
theorem pay_main {t A T P F C N a b v : Nat} {μ ν : Mm} (h : Rx t A T P F C N μ ν) (ht : t ≤ 800000) (hP : P < 200) (ha : a < A) (hb : b < A) (hab : a ≠ b) (hv1 : 1 ≤ v) (hv2 : v ≤ 9999) :
    ∃ S μ2 x μ3 ν3, f_X3_judge_1 (nI P) (nI C) (pcM μ P (nI a) (nI b) (nI v) (nI T)) = some μ2 ∧ f_X6_findReasons_13 μ2 = some x ∧ f_X6_weightOf x μ2 = some S ∧ f_X2_keep_13 (nI P) x S μ2 = some μ3 ∧ f_X8_scoreBy (nI P) (ν 0 30) (ν 0 5) (pmM ν P (nI a) (nI b) (nI v)) = some (S, ν3) ∧ μ3 0 4 = ν 0 16 ∧ ν3 0 15 = nI (P + 1) ∧ ν3 0 16 = ν 0 16 ∧ ν3 0 0 = ν 0 0 ∧
      Rx t A T (P + 1) F C N μ3 (up2 (up2 ν3 9 P S) 10 P 45) ∧ Rx t A T (P + 1) F C N (up2 (up2 μ3 31 P 111) 29 5 (μ3 29 5 + 1)) (up2 (up2 ν3 9 P S) 10 P 111) := by
  have h0 := h
  obtain ⟨hA, hT, hL, hK, hC, hR, hc, hJ⟩ := h
  have hT8 : T ≤ 800000 := Nat.le_trans hT.1 ht
  have hC30 := hC.1
  have hN := hR.1
  have F1 : ∀ k, k < 5 ∨ 9 < k → pcM μ P (nI a) (nI b) (nI v) (nI T) k = μ k := fun k hk => by
    unfold pcM
    rw [up2_n (by omega), up2_n (by omega), up2_n (by omega), up2_n (by omega), up2_n (by omega)]
  have F1j : ∀ k j, 6 ≤ k → k ≤ 9 → j ≠ P → pcM μ P (nI a) (nI b) (nI v) (nI T) k j = μ k j := fun k j h1 h2 hj => by
    unfold pcM
    rw [up2_n (by omega), up2_o hj, up2_o hj, up2_o hj, up2_o hj]
  have G1 : ∀ k, k = 1 ∨ k = 2 ∨ 8 < k → pmM ν P (nI a) (nI b) (nI v) k = ν k := fun k hk => by
    unfold pmM
    rw [up2_n (by omega), up2_n (by omega), up2_n (by omega), up2_n (by omega), up2_n (by omega), up2_n (by omega), up2_n (by omega)]
  have G1j : ∀ k j, 3 ≤ k → k ≤ 8 → j ≠ P → pmM ν P (nI a) (nI b) (nI v) k j = ν k j := fun k j h1 h2 hj => by
    unfold pmM
    rw [up2_n (by omega), up2_o hj, up2_o hj, up2_o hj, up2_o hj, up2_o hj, up2_o hj]
  have G10 : ∀ j, j ≠ 15 → pmM ν P (nI a) (nI b) (nI v) 0 j = ν 0 j := fun j hj => by
    unfold pmM
    rw [up2_o hj, up2_n (by omega), up2_n (by omega), up2_n (by omega), up2_n (by omega), up2_n (by omega), up2_n (by omega)]
  have c5 : pcM μ P (nI a) (nI b) (nI v) (nI T) 5 4 = nI (P + 1) := rfl
  have c6 : pcM μ P (nI a) (nI b) (nI v) (nI T) 6 P = nI a := by
    unfold pcM; rw [up2_n (by omega), up2_n (by omega), up2_n (by omega), up2_n (by omega), up2_w]
  have c7 : pcM μ P (nI a) (nI b) (nI v) (nI T) 7 P = nI b := by
    unfold pcM; rw [up2_n (by omega), up2_n (by omega), up2_n (by omega), up2_w]
  have c8 : pcM μ P (nI a) (nI b) (nI v) (nI T) 8 P = nI v := by
    unfold pcM; rw [up2_n (by omega), up2_n (by omega), up2_w]
  have c9 : pcM μ P (nI a) (nI b) (nI v) (nI T) 9 P = nI T := by
    unfold pcM; rw [up2_n (by omega), up2_w]
  have d15 : pmM ν P (nI a) (nI b) (nI v) 0 15 = nI (P + 1) := rfl
  have d3 : pmM ν P (nI a) (nI b) (nI v) 3 P = nI a := by
    unfold pmM; rw [up2_n (by omega), up2_n (by omega), up2_n (by omega), up2_n (by omega), up2_n (by omega), up2_n (by omega), up2_w]
  have d4 : pmM ν P (nI a) (nI b) (nI v) 4 P = nI b := by
    unfold pmM; rw [up2_n (by omega), up2_n (by omega), up2_n (by omega), up2_n (by omega), up2_n (by omega), up2_w]
  have d5 : pmM ν P (nI a) (nI b) (nI v) 5 P = nI v := by
    unfold pmM; rw [up2_n (by omega), up2_n (by omega), up2_n (by omega), up2_n (by omega), up2_w]
  have d6 : pmM ν P (nI a) (nI b) (nI v) 6 P = nI T := by
    unfold pmM; rw [up2_n (by omega), up2_n (by omega), up2_n (by omega), up2_w]; exact hT.2.2.1
  have d7 : pmM ν P (nI a) (nI b) (nI v) 7 P = ν 0 5 := by
    unfold pmM; rw [up2_n (by omega), up2_n (by omega), up2_w]
  have d8 : pmM ν P (nI a) (nI b) (nI v) 8 P = ν 0 30 := by
    unfold pmM; rw [up2_n (by omega), up2_w]
  generalize hμ1 : pcM μ P (nI a) (nI b) (nI v) (nI T) = μ1 at F1 F1j c5 c6 c7 c8 c9 ⊢
  generalize hν2 : pmM ν P (nI a) (nI b) (nI v) = ν2 at G1 G1j G10 d15 d3 d4 d5 d6 d7 d8 ⊢
  have hA1 : Acc A μ1 ν2 := by
    unfold Acc at hA ⊢
    rw [F1 2 (by omega), F1 3 (by omega), F1 4 (by omega), G10 3 (by omega), G10 5 (by omega), G10 6 (by omega), G1 1 (by omega), G1 2 (by omega)]
    exact hA
  have hL1 : Led A T (P + 1) μ1 ν2 := Led_pay hL hT8 hP ha hb hab hv1 hv2 c5 F1j c6 c7 c8 c9 d15 (fun k j h1 h2 hj => G1j k j h1 (by omega) hj) d3 d4 d5 d6
  have hC1 : Con C μ1 ν2 := by
    unfold Con Cnd lst at hC ⊢
    rw [F1 13 (by omega), F1 14 (by omega), F1 15 (by omega), F1 16 (by omega), F1 17 (by omega), F1 18 (by omega), F1 19 (by omega), F1 20 (by omega), F1 21 (by omega), F1 22 (by omega), F1 23 (by omega), G10 26 (by omega), G1 12 (by omega), G1 13 (by omega), G1 14 (by omega), G1 15 (by omega), G1 16 (by omega), G1 17 (by omega), G1 18 (by omega), G1 19 (by omega)]
    exact hC
  have hR1 : Rul C N μ1 ν2 := by
    unfold Rul at hR ⊢
    rw [F1 26 (by omega), F1 27 (by omega), F1 28 (by omega), G10 29 (by omega), G10 30 (by omega), G1 20 (by omega), G1 21 (by omega)]
    exact hR
  have emk : μ1 2 3 = ν 0 5 := by rw [F1 2 (by omega)]; exact hA.2.2.2.1
  obtain ⟨μ2, j1, j2, j3⟩ := judge_eq (p := P) (k := C) hA1 hL1 hC1 hT8 (by omega) (Nat.le_refl C)
  obtain ⟨x, f1, f2⟩ := find_eq hC1 hR1 ⟨j2, j3⟩
  have e5 := weightOf_eq (x := x) (Rul_f hR1 j2)
  obtain ⟨ν3, s1, s2⟩ := scoreBy_eq (p := P) (x := ν2 0 30) (mk := μ1 2 3) hA1 hL1 hC1 hR1 hT8 (by omega) (m := ν2) (fun _ _ => rfl)
  have hwg := wg_eq hN f2
  rw [← hwg, emk, G10 30 (by omega)] at s1
  rw [emk, G10 30 (by omega)] at f2
  have hSw : fo (wgS ν2 x) 0 N 0 = fo (wgS ν x) 0 N 0 := fo_congr N 0 0 (fun q _ _ s => by unfold wgS; rw [G1 21 (by omega)])
  generalize hS : fo (wgS ν2 x) 0 N 0 = S at e5 s1 hSw
  have M2 : ∀ k, k < 5 ∨ 9 < k → k ≠ 11 → k ≠ 12 → k ≠ 24 → k ≠ 25 → μ2 k = μ k := fun k hk h1 h2 h3 h4 => (j2 k h1 h2 h3 h4).trans (F1 k hk)
  obtain ⟨μ3, k1, k2, k3, k4, k5, k6, k7, k8⟩ := keepC_eq (x := x) (wt := S) (μ := μ2) (P := P) (fun c => sem ν2 (μ1 2 3) P 16 c) hC30 hP (by rw [M2 13 (by omega) (by omega) (by omega) (by omega) (by omega)]; exact hC.2.1) (fun c hc' => (j3 c hc').1)
  have M3 : ∀ k, k < 5 ∨ (9 < k ∧ k < 30) → k ≠ 11 → k ≠ 12 → k ≠ 24 → k ≠ 25 → μ3 k = μ k := fun k hk h1 h2 h3 h4 => (k2 k (by omega)).trans (M2 k (by omega) h1 h2 h3 h4)
  have M3j : ∀ k j, (6 ≤ k ∧ k ≤ 9) ∨ (30 ≤ k ∧ k ≤ 33) → j ≠ P → μ3 k j = μ k j := fun k j hk hj => by
    rcases hk with hk | hk
    · rw [k2 k (by omega), j2 k (by omega) (by omega) (by omega) (by omega)]; exact F1j k j (by omega) (by omega) hj
    · rw [k3 k j (by omega) (by omega) hj, M2 k (by omega) (by omega) (by omega) (by omega) (by omega)]
  have M5 : ∀ k, 5 ≤ k → k ≤ 9 → μ3 k = μ1 k := fun k h1 h2 => by rw [k2 k (by omega), j2 k (by omega) (by omega) (by omega) (by omega)]
  have M34 : ∀ j, j < 30 * P → μ3 34 j = μ 34 j := fun j hj => by rw [k4 j hj, M2 34 (by omega) (by omega) (by omega) (by omega) (by omega)]
  have N4 : ∀ al, ∀ k, k ≠ 9 → k ≠ 10 → k ≠ 11 → (up2 (up2 ν3 9 P S) 10 P al) k = ν2 k := fun al k h1 h2 h3 => by rw [up2_n h2, up2_n h1]; exact s2 k h3
  have Sst4 : ∀ al, Sst C P ν2 (up2 (up2 ν3 9 P S) 10 P al) := fun al => ⟨fun j _ => by rw [N4 al 12 (by omega) (by omega) (by omega), N4 al 13 (by omega) (by omega) (by omega), N4 al 14 (by omega) (by omega) (by omega), N4 al 16 (by omega) (by omega) (by omega), N4 al 17 (by omega) (by omega) (by omega), N4 al 18 (by omega) (by omega) (by omega), N4 al 19 (by omega) (by omega) (by omega)]; simp,
    Sst_cut (fun q _ => by rw [N4 al 1 (by omega) (by omega) (by omega), N4 al 2 (by omega) (by omega) (by omega), N4 al 3 (by omega) (by omega) (by omega), N4 al 4 (by omega) (by omega) (by omega), N4 al 5 (by omega) (by omega) (by omega), N4 al 6 (by omega) (by omega) (by omega)]; simp)⟩
  have new : ∀ (al : Int32) (m : Mm), m 32 P = x → m 33 = μ3 33 → m 34 = μ3 34 → Jud1 C N m (up2 (up2 ν3 9 P S) 10 P al) P := by
    intro al m e32 e33 e34
    have e8 : (up2 (up2 ν3 9 P S) 10 P al) 8 P = ν 0 30 := by rw [N4 al 8 (by omega) (by omega) (by omega)]; exact d8
    have e7 : (up2 (up2 ν3 9 P S) 10 P al) 7 P = ν 0 5 := by rw [N4 al 7 (by omega) (by omega) (by omega)]; exact d7
    have erc : ∀ r, rcN (up2 (up2 ν3 9 P S) 10 P al) r = rcN ν2 r := fun r => by unfold rcN; rw [N4 al 20 (by omega) (by omega) (by omega)]
    have hrcC : ∀ r, r < N → rcN ν2 r < C := fun r hr => Rul_rc hC30 hR1 hr
    refine ⟨C, Nat.le_refl C, fun i hi => ⟨?_, ?_⟩, fun r hr => ?_, fun r hr _ => ?_, fun c hc' => ⟨?_, fun h12 => ?_⟩⟩
    · rw [e8]; exact hR.2.2.2.2.1 i hi
    · rw [e32]
      rcases Nat.lt_or_ge i 32 with h32 | h32
      · rw [f2 i h32, decide_eq_false (by omega)]; rfl
      · exact b_big h32
    · rw [e32, e8, e7, f2 r (by omega), decide_eq_true hr, Bool.true_and, erc, sem_st hC30 hC1.2.2.2.2.2 (Sst4 al) (ν 0 5) 16 (rcN ν2 r) (hrcC r hr)]
      rfl
    · rw [erc]; exact hrcC r hr
    · rw [e33, e7, sem_st hC30 hC1.2.2.2.2.2 (Sst4 al) (ν 0 5) 16 c hc', (k8 c hc').1, emk]
    · rw [N4 al 12 (by omega) (by omega) (by omega)] at h12
      rw [e34, e7, VC_st (Sst4 al) hc' (ν 0 5), (k8 c hc').2, (j3 c hc').2 h12, emk]
  refine ⟨S, μ2, x, μ3, ν3, j1, f1, e5, k1, s1, by rw [M3 0 (by omega) (by omega) (by omega) (by omega) (by omega)]; exact hT.2.2.2, by rw [s2 0 (by omega)]; exact d15, by rw [s2 0 (by omega)]; exact G10 16 (by omega), by rw [s2 0 (by omega)]; exact G10 0 (by omega), ?_, ?_⟩
  · refine pay_R (a := a) (b := b) (v := v) (S := S) (al := 45) (x := x) h0 ht hP ha hb hab hv1 hv2 (fun k hk => M3 k (by omega) (by omega) (by omega) (by omega) (by omega)) (by rw [M5 5 (by omega) (by omega)]; exact c5) M3j M34
      (by rw [M5 6 (by omega) (by omega)]; exact c6) (by rw [M5 7 (by omega) (by omega)]; exact c7) (by rw [M5 8 (by omega) (by omega)]; exact c8) (by rw [M5 9 (by omega) (by omega)]; exact c9) (by rw [if_neg (by decide), M3 29 (by omega) (by omega) (by omega) (by omega) (by omega)]) k5 k6 k7
      (fun k hk => by rw [N4 45 k (by omega) (by omega) (by omega)]; exact G1 k (by omega)) (fun j hj => by rw [N4 45 0 (by omega) (by omega) (by omega)]; exact G10 j hj) (by rw [N4 45 0 (by omega) (by omega) (by omega)]; exact d15) (fun k j h1 h2 hj => ?_)
      (by rw [N4 45 3 (by omega) (by omega) (by omega)]; exact d3) (by rw [N4 45 4 (by omega) (by omega) (by omega)]; exact d4) (by rw [N4 45 5 (by omega) (by omega) (by omega)]; exact d5) (by rw [N4 45 6 (by omega) (by omega) (by omega)]; exact d6) (by rw [up2_n (by omega), up2_w]) (up2_w _ _ _ _) (Or.inl rfl) hSw (new 45 μ3 k7 rfl rfl)
    rw [up2_o hj, up2_o hj, s2 k (by omega)]
    by_cases hk8 : k ≤ 8
    · exact G1j k j h1 hk8 hj
    · rw [G1 k (by omega)]
  · have U : ∀ k, k ≠ 29 → k ≠ 31 → (up2 (up2 μ3 31 P 111) 29 5 (μ3 29 5 + 1)) k = μ3 k := fun k h1 h2 => by rw [up2_n h1, up2_n h2]
    refine pay_R (a := a) (b := b) (v := v) (S := S) (al := 111) (x := x) h0 ht hP ha hb hab hv1 hv2 (fun k hk => by rw [U k (by omega) (by omega)]; exact M3 k (by omega) (by omega) (by omega) (by omega) (by omega)) (by rw [U 5 (by omega) (by omega), M5 5 (by omega) (by omega)]; exact c5) (fun k j hk hj => by rw [up2_n (by omega), up2_o hj]; exact M3j k j hk hj) (fun j hj => by rw [U 34 (by omega) (by omega)]; exact M34 j hj)
      (by rw [U 6 (by omega) (by omega), M5 6 (by omega) (by omega)]; exact c6) (by rw [U 7 (by omega) (by omega), M5 7 (by omega) (by omega)]; exact c7) (by rw [U 8 (by omega) (by omega), M5 8 (by omega) (by omega)]; exact c8) (by rw [U 9 (by omega) (by omega), M5 9 (by omega) (by omega)]; exact c9) (by rw [if_pos rfl, up2_w, M3 29 (by omega) (by omega) (by omega) (by omega) (by omega)]) (by rw [U 30 (by omega) (by omega)]; exact k5) (by rw [up2_n (by omega), up2_w]) (by rw [U 32 (by omega) (by omega)]; exact k7)
      (fun k hk => by rw [N4 111 k (by omega) (by omega) (by omega)]; exact G1 k (by omega)) (fun j hj => by rw [N4 111 0 (by omega) (by omega) (by omega)]; exact G10 j hj) (by rw [N4 111 0 (by omega) (by omega) (by omega)]; exact d15) (fun k j h1 h2 hj => ?_)
      (by rw [N4 111 3 (by omega) (by omega) (by omega)]; exact d3) (by rw [N4 111 4 (by omega) (by omega) (by omega)]; exact d4) (by rw [N4 111 5 (by omega) (by omega) (by omega)]; exact d5) (by rw [N4 111 6 (by omega) (by omega) (by omega)]; exact d6) (by rw [up2_n (by omega), up2_w]) (up2_w _ _ _ _) (Or.inr rfl) hSw (new 111 _ (by rw [U 32 (by omega) (by omega)]; exact k7) (U 33 (by omega) (by omega)) (U 34 (by omega) (by omega)))
    rw [up2_o hj, up2_o hj, s2 k (by omega)]
    by_cases hk8 : k ≤ 8
    · exact G1j k j h1 hk8 hj
    · rw [G1 k (by omega)]
theorem op_pay {t : Nat} {μ ν : Mm} (x y w : Int32) (o : Nat → Int64) (h : R t μ ν) : ∃ c μ' o' r ν', f_L_pay_0_o x y w μ o = some (c, μ', o') ∧ f_X8_pay x y w ν = some (r, ν') ∧ Res t c o' r μ' ν' := by
  have hz : R t μ (up2 ν 0 0 0) := R_thr 0 h
  unfold f_X8_pay f_L_pay_0_o f_X7_pay
  generalize e : up2 ν 0 0 0 = ν1 at hz ⊢
  have z : ν1 0 0 = 0 := by rw [← e]; rfl
  have hz2 := hz
  obtain ⟨ht, A, T, P, F, C, N, hx⟩ := hz
  have hx2 := hx
  obtain ⟨hA, hT, hL, hK, hC, hR, hc, hJ⟩ := hx
  have hA20 := hA.1
  have hPP := hL.1
  rcases idx_cases x A with hb | ⟨a, ha, rfl⟩
  · rw [reqA_bad hA20 hA.2.1 hb, isA_bad hA20 hA.2.2.1 hb]
    exact ⟨1, μ, o, 0, up2 ν1 0 0 1, rfl, rfl, rfl, fun h => absurd h (by decide), R_thr 1 hz2⟩
  rw [reqA_ok hA20 hA.2.1 ha, isA_ok hA20 hA.2.2.1 ha, Option.bind_some, Option.bind_some, if_pos rfl, if_neg (show ¬ (1 : Int32) = 0 by decide)]
  rcases idx_cases y A with hb | ⟨b, hb, rfl⟩
  · rw [reqA_bad hA20 hA.2.1 hb, isA_bad hA20 hA.2.2.1 hb]
    exact ⟨1, μ, o, 0, up2 ν1 0 0 1, rfl, rfl, rfl, fun h => absurd h (by decide), R_thr 1 hz2⟩
  rw [reqA_ok hA20 hA.2.1 hb, isA_ok hA20 hA.2.2.1 hb, Option.bind_some, Option.bind_some, if_pos rfl, if_neg (show ¬ (1 : Int32) = 0 by decide), btwI]
  rcases span_cases w 1 9999 (by decide) with ⟨h1, h2⟩ | ⟨h1, h2, h3⟩ | ⟨h1, h2, h3⟩
  · rw [if_pos h1, decide_eq_false h2]
    exact ⟨2, μ, o, 0, up2 ν1 0 0 2, rfl, rfl, rfl, fun h => absurd h (by decide), R_thr 2 hz2⟩
  rotate_left
  · rw [if_neg h1, if_neg h2, decide_eq_false h3]
    exact ⟨2, μ, o, 0, up2 ν1 0 0 2, rfl, rfl, rfl, fun h => absurd h (by decide), R_thr 2 hz2⟩
  rw [if_neg h1, if_pos h2, decide_eq_true h3, b2_t, Option.bind_some, if_neg (show ¬ (1 : Int32) = 0 by decide)]
  rw [show ((1 : Int32).toInt = 1) from rfl, show ((9999 : Int32).toInt = 9999) from rfl] at h3
  obtain ⟨v, hv1, hv2, rfl⟩ : ∃ v, 1 ≤ v ∧ v ≤ 9999 ∧ w = nI v := ⟨w.toInt.toNat, by omega, by omega, w_inj (by omega)⟩
  by_cases hab : a = b
  · have e1 : nI a = nI b := by rw [hab]
    rw [if_pos e1, if_pos e1]
    exact ⟨3, μ, o, 0, up2 ν1 0 0 3, rfl, rfl, rfl, fun h => absurd h (by decide), R_thr 3 hz2⟩
  have e1 : ¬ nI a = nI b := fun h => hab ((w_eq (by omega) (by omega)).mp h)
  rw [if_neg e1, if_neg e1, hA.2.2.2.2.1, hasBit_eq _ (show a < 32 by omega), has_eq _ (show a < 32 by omega)]
  cases hba : bt (ν1 0 6) a
  rotate_left
  · exact ⟨4, μ, o, 0, up2 ν1 0 0 4, rfl, rfl, rfl, fun h => absurd h (by decide), R_thr 4 hz2⟩
  rw [b2_f, Option.bind_some, Option.bind_some, if_pos rfl, if_pos rfl, hasBit_eq _ (show b < 32 by omega), has_eq _ (show b < 32 by omega)]
  cases hbb : bt (ν1 0 6) b
  rotate_left
  · exact ⟨4, μ, o, 0, up2 ν1 0 0 4, rfl, rfl, rfl, fun h => absurd h (by decide), R_thr 4 hz2⟩
  rw [b2_f, Option.bind_some, Option.bind_some, if_pos rfl, if_pos rfl]
  by_cases hP : P < 200
  · obtain ⟨S, μ2, xx, μ3, ν3, m1, m2, m3, m4, m5, m6, m7, m8, m9, m10, m11⟩ := pay_main hx2 ht hP ha hb hab hv1 hv2
    have r17 : (pcM μ P (nI a) (nI b) (nI v) (nI T)) 13 12 = nI C := hC.2.1
    rw [mPay_eq hP hL.2.2.1 m5 m7 m8, if_neg (show ¬ ν1 0 15 = 200 from by rw [hL.2.2.1, show (200 : Int32) = nI 200 from rfl, w_eq (by omega) (by omega)]; omega), if_pos (show μ 5 4 < 200 from by rw [hL.2.1, show (200 : Int32) = nI 200 from rfl, w_lt (by omega) (by omega)]; exact hP), appendP_eq hP hL.2.1, hT.2.1, Option.bind_some]
    dsimp only
    rw [r17, m1, Option.bind_some, m2, Option.bind_some, m3, Option.bind_some, m4, Option.bind_some, m6]
    by_cases hs : S < ν1 0 16
    · rw [if_pos hs, if_pos hs, Option.bind_some, if_pos rfl, chk0]
      exact ⟨0, μ3, vp_updL o (0 : Int32).toNatClampNeg (nI P).toInt64, nI P, _, rfl, rfl, m9.trans z, fun _ => rfl, ht, A, T, P + 1, F, C, N, m10⟩
    · rw [if_neg hs, if_neg hs]
      unfold f_X2_raise
      rw [chk_nI hP (by omega), w_nat (show P < 2147483648 by omega), n111, Option.bind_some, Option.bind_some, if_pos rfl, chk0]
      exact ⟨0, _, vp_updL o (0 : Int32).toNatClampNeg (nI P).toInt64, nI P, _, rfl, rfl, m9.trans z, fun _ => rfl, ht, A, T, P + 1, F, C, N, m11⟩
  · have hP2 : P = 200 := by omega
    rw [if_pos (show ν1 0 15 = 200 from by rw [hL.2.2.1, hP2]; rfl), if_neg (show ¬ μ 5 4 < 200 from by rw [hL.2.1, show (200 : Int32) = nI 200 from rfl, w_lt (by omega) (by omega)]; exact hP)]
    exact ⟨4, μ, o, 0, up2 ν1 0 0 4, rfl, rfl, rfl, fun h => absurd h (by decide), R_thr 4 hz2⟩
