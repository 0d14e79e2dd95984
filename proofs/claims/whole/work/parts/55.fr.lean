/-! ===== L3: what stays ===== -/
/-- ν' has what conditions below C say, and the payments up to p -/
def Sst (C p : Nat) (ν ν' : Mm) : Prop := (∀ j, j < C → ν' 12 j = ν 12 j ∧ ν' 13 j = ν 13 j ∧ ν' 14 j = ν 14 j ∧ ν' 16 j = ν 16 j ∧ ν' 17 j = ν 17 j ∧ ν' 18 j = ν 18 j ∧ ν' 19 j = ν 19 j) ∧ cut ν' p = cut ν p
theorem Sst_cut {p : Nat} {ν ν' : Mm} (h : ∀ q, q ≤ p → ν' 3 q = ν 3 q ∧ ν' 4 q = ν 4 q ∧ ν' 5 q = ν 5 q ∧ ν' 6 q = ν 6 q ∧ ν' 1 (ν 4 q).toNatClampNeg = ν 1 (ν 4 q).toNatClampNeg ∧ ν' 2 (ν 3 q).toNatClampNeg = ν 2 (ν 3 q).toNatClampNeg) : cut ν' p = cut ν p := by
  funext k q
  unfold cut
  by_cases hq : q ≤ p
  · rw [if_pos hq, if_pos hq]
    obtain ⟨h3, h4, h5, h6, h1, h2⟩ := h q hq
    unfold dat
    split
    · exact h3
    · exact h4
    · exact h5
    · exact h6
    · rw [h4]; exact h1
    · rw [h3]; exact h2
    · rfl
  · rw [if_neg hq, if_neg hq]
theorem VC_st {C p : Nat} {ν ν' : Mm} (h : Sst C p ν ν') {c : Nat} (hc : c < C) (mk : Int32) : VC ν' mk p c = VC ν mk p c := by
  obtain ⟨_, _, _, h16, _, h18, _⟩ := h.1 c hc
  unfold VC
  rw [h.2, h16, h18]
theorem cnd_kids {μ ν : Mm} {j : Nat} (hj : j < 30) (h : Cnd μ ν j) : (ν 12 j ≠ 0 → (ν 13 j).toNatClampNeg < j) ∧ (ν 12 j = 1 ∨ ν 12 j = 2 → (ν 14 j).toNatClampNeg < j) := by
  obtain ⟨k, s, n, hk, hs, e1, e2, e3, e4, e5, e6, h0, h3, h12⟩ := h
  have hk4 : k = 0 ∨ k = 1 ∨ k = 2 ∨ k = 3 := by omega
  rw [e1]
  rcases hk4 with rfl | rfl | rfl | rfl
  · exact ⟨fun h => absurd rfl h, fun h => absurd h (by decide)⟩
  · obtain ⟨a, b, s1, s2, ha, hb, f1, _, f2, _⟩ := h12 (Or.inl rfl)
    rw [f1, f2, w_nat (by omega), w_nat (by omega)]
    exact ⟨fun _ => ha, fun _ => hb⟩
  · obtain ⟨a, b, s1, s2, ha, hb, f1, _, f2, _⟩ := h12 (Or.inr rfl)
    rw [f1, f2, w_nat (by omega), w_nat (by omega)]
    exact ⟨fun _ => ha, fun _ => hb⟩
  · obtain ⟨_, a, s1, ha, f1, _⟩ := h3 rfl
    rw [f1, w_nat (by omega)]
    exact ⟨fun _ => ha, fun h => absurd h (by decide)⟩
theorem sem_st {C p : Nat} {μ ν ν' : Mm} (hC : C ≤ 30) (hk : ∀ j, j < C → Cnd μ ν j) (h : Sst C p ν ν') (mk : Int32) : ∀ (d c : Nat), c < C → sem ν' mk p d c = sem ν mk p d c
  | 0, _, _ => rfl
  | d + 1, c, hc => by
    obtain ⟨h12, h13, h14, h16, h17, h18, h19⟩ := h.1 c hc
    obtain ⟨k1, k2⟩ := cnd_kids (by omega) (hk c hc)
    unfold sem
    rw [h12, h13, h14]
    by_cases e3 : ν 12 c = 3
    · rw [if_pos e3, if_pos e3, sem_st hC hk h mk d _ (by have := k1 (by rw [e3]; decide); omega)]
    rw [if_neg e3, if_neg e3]
    by_cases e1 : ν 12 c = 1
    · rw [if_pos e1, if_pos e1, sem_st hC hk h mk d _ (by have := k1 (by rw [e1]; decide); omega), sem_st hC hk h mk d _ (by have := k2 (Or.inl e1); omega)]
    rw [if_neg e1, if_neg e1]
    by_cases e2 : ν 12 c = 2
    · rw [if_pos e2, if_pos e2, sem_st hC hk h mk d _ (by have := k1 (by rw [e2]; decide); omega), sem_st hC hk h mk d _ (by have := k2 (Or.inr e2); omega)]
    rw [if_neg e2, if_neg e2, VC_st h hc]
    unfold tst
    rw [h17, h19]
theorem Jud1_st {C C' N p : Nat} {μ ν μ' ν' : Mm} (hC30 : C ≤ 30) (hC : C ≤ C') (hc : ∀ j, j < C → Cnd μ ν j) (hs : Sst C p ν ν') (hN : ∀ r, r < N → rcN ν r < C) (hr : ∀ r, r < N → ν' 20 r = ν 20 r)
    (h7 : ν' 7 p = ν 7 p) (h8 : ν' 8 p = ν 8 p) (h32 : μ' 32 p = μ 32 p) (h33 : μ' 33 p = μ 33 p) (h34 : ∀ c, c < 30 → μ' 34 (30 * p + c) = μ 34 (30 * p + c)) (h : Jud1 C N μ ν p) : Jud1 C' N μ' ν' p := by
  obtain ⟨k, hk, j1, j2, j3, j4⟩ := h
  have er : ∀ r, r < N → rcN ν' r = rcN ν r := fun r hr' => by unfold rcN; rw [hr r hr']
  refine ⟨k, by omega, ?_, ?_, ?_, ?_⟩
  · intro i hi; rw [h8, h32]; exact j1 i hi
  · intro r hr'; rw [h8, h32, h7, er r hr', sem_st hC30 hc hs _ _ _ (hN r hr')]; exact j2 r hr'
  · intro r hr'; rw [h32, er r hr']; exact j3 r hr'
  · intro c hc'
    obtain ⟨a1, a2⟩ := j4 c hc'
    rw [h33, h7, sem_st hC30 hc hs _ _ _ (by omega), (hs.1 c (by omega)).1, h34 c (by omega), VC_st hs (by omega)]
    exact ⟨a1, a2⟩
theorem Rul_rc {C N : Nat} {μ ν : Mm} (hC : C ≤ 30) (h : Rul C N μ ν) {r : Nat} (hr : r < N) : rcN ν r < C := by
  obtain ⟨_, _, _, _, _, h6⟩ := h
  obtain ⟨c, w, hc, _, _, _, e, _⟩ := h6 r hr
  unfold rcN
  rw [e, w_nat (by omega)]; exact hc
theorem Cas_st {P N : Nat} {μ ν μ' ν' : Mm} (hN : N ≤ 12) (h29 : μ' 29 5 = μ 29 5) (h10 : ∀ p, p < P → ν' 10 p = ν 10 p ∧ ν' 9 p = ν 9 p ∧ μ' 31 p = μ 31 p ∧ μ' 30 p = μ 30 p ∧ μ' 32 p = μ 32 p) (h21 : ∀ r, r < N → ν' 21 r = ν 21 r) (h : Cas P N μ ν) : Cas P N μ' ν' := by
  obtain ⟨h1, h2⟩ := h
  refine ⟨?_, ?_⟩
  · rw [h29, h1]
    congr 1
    apply fb_ct_cong
    intro k hk
    rw [(h10 k hk).1]
  · intro p hp
    obtain ⟨a1, a2, a3, a4, a5⟩ := h10 p hp
    obtain ⟨b1, b2, b3, b4⟩ := h2 p hp
    rw [a1, a2, a3, a4, a5]
    refine ⟨b1, b2, b3, ?_⟩
    rw [b4]
    apply fo_congr
    intro q _ hq s
    unfold wgS
    rw [h21 q (by omega)]
/-- what the relation doesn't speak of may change: the component's 11, 12, 24, 25, the model's 11, 22 and the object's 0, 32 -/
theorem R_fr {t : Nat} {μ ν μ' ν' : Mm} (hμ : ∀ k, k ≠ 11 → k ≠ 12 → k ≠ 24 → k ≠ 25 → μ' k = μ k) (hν : ∀ k, k ≠ 0 → k ≠ 11 → k ≠ 22 → ν' k = ν k) (h0 : ∀ j, j ≠ 0 → j ≠ 32 → ν' 0 j = ν 0 j) (h : R t μ ν) : R t μ' ν' := by
  obtain ⟨ht, A, T, P, F, C, N, hA, hT, hL, hK, hC, hR, hc, hJ⟩ := h
  have m : ∀ k, k = 0 ∨ k = 1 ∨ k = 2 ∨ k = 3 ∨ k = 4 ∨ k = 5 ∨ k = 6 ∨ k = 7 ∨ k = 8 ∨ k = 9 ∨ k = 13 ∨ k = 14 ∨ k = 15 ∨ k = 16 ∨ k = 17 ∨ k = 18 ∨ k = 19 ∨ k = 20 ∨ k = 21 ∨ k = 22 ∨ k = 23 ∨ k = 26 ∨ k = 27 ∨ k = 28 ∨ k = 29 ∨ k = 30 ∨ k = 31 ∨ k = 32 ∨ k = 33 ∨ k = 34 → μ' k = μ k := fun k hk => hμ k (by omega) (by omega) (by omega) (by omega)
  have n : ∀ k, k ≠ 0 → k ≠ 11 → k ≠ 22 → ν' k = ν k := hν
  have hs : ∀ p, Sst C p ν ν' := fun p => ⟨fun j _ => by rw [n 12 (by omega) (by omega) (by omega), n 13 (by omega) (by omega) (by omega), n 14 (by omega) (by omega) (by omega), n 16 (by omega) (by omega) (by omega), n 17 (by omega) (by omega) (by omega), n 18 (by omega) (by omega) (by omega), n 19 (by omega) (by omega) (by omega)]; simp,
    Sst_cut (fun q _ => by rw [n 1 (by omega) (by omega) (by omega), n 2 (by omega) (by omega) (by omega), n 3 (by omega) (by omega) (by omega), n 4 (by omega) (by omega) (by omega), n 5 (by omega) (by omega) (by omega), n 6 (by omega) (by omega) (by omega)]; simp)⟩
  refine ⟨ht, A, T, P, F, C, N, ?_, ?_, ?_, ?_, ?_, ?_, ?_, ?_⟩
  · unfold Acc at hA ⊢
    rw [m 2 (by omega), m 3 (by omega), m 4 (by omega), h0 3 (by omega) (by omega), h0 5 (by omega) (by omega), h0 6 (by omega) (by omega), n 1 (by omega) (by omega) (by omega), n 2 (by omega) (by omega) (by omega)]
    exact hA
  · unfold Tim at hT ⊢
    rw [m 1 (by omega), m 0 (by omega), h0 4 (by omega) (by omega), h0 16 (by omega) (by omega)]
    exact hT
  · unfold Led at hL ⊢
    rw [m 5 (by omega), m 6 (by omega), m 7 (by omega), m 8 (by omega), m 9 (by omega), h0 15 (by omega) (by omega), n 3 (by omega) (by omega) (by omega), n 4 (by omega) (by omega) (by omega), n 5 (by omega) (by omega) (by omega), n 6 (by omega) (by omega) (by omega)]
    exact hL
  · unfold Kep at hK ⊢
    rw [m 1 (by omega), n 6 (by omega) (by omega) (by omega)]
    exact hK
  · unfold Con Cnd lst at hC ⊢
    rw [m 13 (by omega), m 14 (by omega), m 15 (by omega), m 16 (by omega), m 17 (by omega), m 18 (by omega), m 19 (by omega), m 20 (by omega), m 21 (by omega), m 22 (by omega), m 23 (by omega), h0 26 (by omega) (by omega), n 12 (by omega) (by omega) (by omega), n 13 (by omega) (by omega) (by omega), n 14 (by omega) (by omega) (by omega), n 15 (by omega) (by omega) (by omega), n 16 (by omega) (by omega) (by omega), n 17 (by omega) (by omega) (by omega), n 18 (by omega) (by omega) (by omega), n 19 (by omega) (by omega) (by omega)]
    exact hC
  · unfold Rul at hR ⊢
    rw [m 26 (by omega), m 27 (by omega), m 28 (by omega), h0 29 (by omega) (by omega), h0 30 (by omega) (by omega), n 20 (by omega) (by omega) (by omega), n 21 (by omega) (by omega) (by omega)]
    exact hR
  · refine Cas_st hR.1 (by rw [m 29 (by omega)]) (fun p _ => ?_) (fun r _ => by rw [n 21 (by omega) (by omega) (by omega)]) hc
    rw [m 30 (by omega), m 31 (by omega), m 32 (by omega), n 9 (by omega) (by omega) (by omega), n 10 (by omega) (by omega) (by omega)]
    simp
  · intro p hp
    refine Jud1_st hC.1 (Nat.le_refl C) hC.2.2.2.2.2 (hs p) (fun r hr => Rul_rc hC.1 hR hr) (fun r _ => by rw [n 20 (by omega) (by omega) (by omega)]) (by rw [n 7 (by omega) (by omega) (by omega)]) (by rw [n 8 (by omega) (by omega) (by omega)]) (by rw [m 32 (by omega)]) (by rw [m 33 (by omega)]) (fun c _ => by rw [m 34 (by omega)]) (hJ p hp)
theorem R_thr {t : Nat} {μ ν : Mm} (v : Int32) (h : R t μ ν) : R t μ (up2 ν 0 0 v) :=
  R_fr (fun k _ _ _ _ => rfl) (fun k h0 _ _ => up2_n h0) (fun j h0 _ => by rw [up2_s]; unfold upd; rw [if_neg h0]) h
theorem R_more {t t' : Nat} {μ ν : Mm} (h : R t μ ν) (h1 : t ≤ t') (h2 : t' ≤ 800000) : R t' μ ν := by
  obtain ⟨ht, A, T, P, F, C, N, hA, hT, h3⟩ := h
  exact ⟨h2, A, T, P, F, C, N, hA, ⟨Nat.le_trans hT.1 h1, hT.2⟩, h3⟩
