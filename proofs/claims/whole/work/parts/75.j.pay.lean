/-! ===== L3: pay ===== -/
theorem pay_R {t A T P F C N a b v : Nat} {S al x : Int32} {μ ν μ' ν' : Mm} (h : Rx t A T P F C N μ ν) (ht : t ≤ 800000) (hP : P < 200) (ha : a < A) (hb : b < A) (hab : a ≠ b) (hv1 : 1 ≤ v) (hv2 : v ≤ 9999)
    (m : ∀ k, k < 5 ∨ k = 13 ∨ (14 ≤ k ∧ k ≤ 23) ∨ (26 ≤ k ∧ k ≤ 28) → μ' k = μ k) (m5 : μ' 5 4 = nI (P + 1)) (m6 : ∀ k j, (6 ≤ k ∧ k ≤ 9) ∨ (30 ≤ k ∧ k ≤ 33) → j ≠ P → μ' k j = μ k j) (m34 : ∀ j, j < 30 * P → μ' 34 j = μ 34 j)
    (p6 : μ' 6 P = nI a) (p7 : μ' 7 P = nI b) (p8 : μ' 8 P = nI v) (p9 : μ' 9 P = nI T) (p29 : μ' 29 5 = if al = 111 then μ 29 5 + 1 else μ 29 5) (p30 : μ' 30 P = S) (p31 : μ' 31 P = al) (p32 : μ' 32 P = x)
    (n : ∀ k, k = 1 ∨ k = 2 ∨ (12 ≤ k ∧ k ≤ 21) → ν' k = ν k) (n0 : ∀ j, j ≠ 15 → ν' 0 j = ν 0 j) (n15 : ν' 0 15 = nI (P + 1)) (n3 : ∀ k j, 3 ≤ k → k ≤ 10 → j ≠ P → ν' k j = ν k j)
    (q3 : ν' 3 P = nI a) (q4 : ν' 4 P = nI b) (q5 : ν' 5 P = nI v) (q6 : ν' 6 P = nI T) (q9 : ν' 9 P = S) (q10 : ν' 10 P = al) (hal : al = 45 ∨ al = 111) (hS : S = fo (wgS ν x) 0 N 0) (hnew : Jud1 C N μ' ν' P) : Rx t A T (P + 1) F C N μ' ν' := by
  obtain ⟨hA, hT, hL, hK, hC, hR, hc, hJ⟩ := h
  have hT8 : T ≤ 800000 := Nat.le_trans hT.1 ht
  refine ⟨?_, ?_, ?_, ?_, ?_, ?_, ?_, ?_⟩
  · unfold Acc at hA ⊢
    rw [m 2 (by omega), m 3 (by omega), m 4 (by omega), n0 3 (by omega), n0 5 (by omega), n0 6 (by omega), n 1 (by omega), n 2 (by omega)]
    exact hA
  · unfold Tim at hT ⊢
    rw [m 1 (by omega), m 0 (by omega), n0 4 (by omega), n0 16 (by omega)]
    exact hT
  · refine ⟨by omega, m5, n15, fun j hj => ?_, fun i j hij hj => ?_⟩
    · by_cases hjP : j = P
      · subst hjP
        rw [p6, p7, p8, p9, q3, q4, q5, q6]
        exact ⟨rfl, rfl, rfl, rfl, a, b, v, T, ha, hb, ⟨hv1, hab⟩, hv2, Nat.le_refl T, rfl, rfl, rfl, rfl⟩
      · rw [m6 6 j (by omega) hjP, m6 7 j (by omega) hjP, m6 8 j (by omega) hjP, m6 9 j (by omega) hjP, n3 3 j (by omega) (by omega) hjP, n3 4 j (by omega) (by omega) hjP, n3 5 j (by omega) (by omega) hjP, n3 6 j (by omega) (by omega) hjP]
        exact hL.2.2.2.1 j (by omega)
    · by_cases hjP : j = P
      · subst hjP
        rw [q6, w_int (show T < 2147483648 by omega)]
        by_cases hiP : i = j
        · rw [hiP, q6, w_int (show T < 2147483648 by omega)]; omega
        · rw [n3 6 i (by omega) (by omega) hiP]
          obtain ⟨u, hu, eu⟩ := Led_min hL (show i < j by omega)
          rw [eu, w_int (show u < 2147483648 by omega)]; omega
      · rw [n3 6 i (by omega) (by omega) (by omega), n3 6 j (by omega) (by omega) hjP]
        exact hL.2.2.2.2 i j hij (by omega)
  · obtain ⟨k1, k2, k3, k4⟩ := hK
    refine ⟨by omega, by rw [m 1 (by omega)]; exact k2, fun j hj => ?_, fun j hj1 hj2 => ?_⟩
    · rw [n3 6 j (by omega) (by omega) (by omega)]; exact k3 j hj
    · by_cases hjP : j = P
      · rw [hjP, q6, w_int (show T < 2147483648 by omega)]; omega
      · rw [n3 6 j (by omega) (by omega) hjP]; exact k4 j hj1 (by omega)
  · unfold Con Cnd lst at hC ⊢
    rw [m 13 (by omega), m 14 (by omega), m 15 (by omega), m 16 (by omega), m 17 (by omega), m 18 (by omega), m 19 (by omega), m 20 (by omega), m 21 (by omega), m 22 (by omega), m 23 (by omega), n0 26 (by omega), n 12 (by omega), n 13 (by omega), n 14 (by omega), n 15 (by omega), n 16 (by omega), n 17 (by omega), n 18 (by omega), n 19 (by omega)]
    exact hC
  · unfold Rul at hR ⊢
    rw [m 26 (by omega), m 27 (by omega), m 28 (by omega), n0 29 (by omega), n0 30 (by omega), n 20 (by omega), n 21 (by omega)]
    exact hR
  · have ew : ∀ y, fo (wgS ν' y) 0 N 0 = fo (wgS ν y) 0 N 0 := fun y => fo_congr N 0 0 (fun q _ _ s => by unfold wgS; rw [n 21 (by omega)])
    refine ⟨?_, fun p hp => ?_⟩
    · rw [p29, hc.1, fb_ct_succ]
      have e1 : fb_ct (fun p => decide (ν' 10 p = 111)) P = fb_ct (fun p => decide (ν 10 p = 111)) P := by
        apply fb_ct_cong
        intro k hk
        rw [n3 10 k (by omega) (by omega) (by omega)]
      rw [e1]
      show _ = nI (_ + if decide (ν' 10 P = 111) = true then 1 else 0)
      rw [q10]
      by_cases hal2 : al = 111
      · rw [if_pos hal2, if_pos (decide_eq_true hal2), w_succ]
      · rw [if_neg hal2, if_neg (by rw [decide_eq_true_eq]; exact hal2)]; rfl
    · by_cases hpP : p = P
      · subst hpP
        rw [p31, q10, p30, q9, p32, ew]
        refine ⟨rfl, ?_, rfl, hS⟩
        rcases hal with h | h
        · exact Or.inl h
        · exact Or.inr (Or.inl h)
      · rw [m6 31 p (by omega) hpP, m6 30 p (by omega) hpP, m6 32 p (by omega) hpP, n3 10 p (by omega) (by omega) hpP, n3 9 p (by omega) (by omega) hpP, ew]
        exact hc.2 p (by omega)
  · intro p hp
    by_cases hpP : p = P
    · rw [hpP]; exact hnew
    · refine Jud1_st hC.1 (Nat.le_refl C) hC.2.2.2.2.2 ⟨fun j _ => ?_, Sst_cut (fun q hq => ?_)⟩ (fun r hr => Rul_rc hC.1 hR hr) (fun r _ => by rw [n 20 (by omega)]) (n3 7 p (by omega) (by omega) hpP) (n3 8 p (by omega) (by omega) hpP) (m6 32 p (by omega) hpP) (m6 33 p (by omega) hpP) (fun c hc30 => m34 _ (by omega)) (hJ p (by omega))
      · rw [n 12 (by omega), n 13 (by omega), n 14 (by omega), n 16 (by omega), n 17 (by omega), n 18 (by omega), n 19 (by omega)]; simp
      · rw [n 1 (by omega), n 2 (by omega), n3 3 q (by omega) (by omega) (by omega), n3 4 q (by omega) (by omega) (by omega), n3 5 q (by omega) (by omega) (by omega), n3 6 q (by omega) (by omega) (by omega)]; simp
theorem cell30 {p c : Nat} : (nI p * 30 + nI c : Int32) = nI (30 * p + c) := by
  rw [show (30 : Int32) = nI 30 from rfl, w_mul, w_add, Nat.mul_comm]
theorem n45 : vp_nar .char 45 = 45 := narc (c := 45) (by omega)
theorem n111 : vp_nar .char 111 = 111 := narc (c := 111) (by omega)
theorem keepC_eq {C P : Nat} {x wt : Int32} {μ : Mm} (f : Nat → Bool) (hC : C ≤ 30) (hP : P < 200) (e13 : μ 13 12 = nI C) (h24 : ∀ c, c < C → μ 24 c = b2 (f c)) : ∃ μ', f_X2_keep_13 (nI P) x wt μ = some μ' ∧ (∀ k, k < 30 ∨ 34 < k → μ' k = μ k) ∧ (∀ k j, 30 ≤ k → k ≤ 33 → j ≠ P → μ' k j = μ k j) ∧ (∀ j, j < 30 * P → μ' 34 j = μ 34 j) ∧ μ' 30 P = wt ∧ μ' 31 P = 45 ∧ μ' 32 P = x ∧ ∀ c, c < C → bt (μ' 33 P) c = f c ∧ μ' 34 (30 * P + c) = μ 25 c := by
  unfold f_X2_keep_13
  have hh := up_loopR (fun n y (s : Int32 × Mm) => f_X2_keep_13_L6 (fun (y7 : Int32) (m8 : Mm) => (chk (nI P) 200 ((chk (nI P) 200 ((chk (nI P) 200 ((chk (nI P) 200 (some (up2 (up2 (up2 (up2 m8 33 (nI P).toNatClampNeg y7) 32 (nI P).toNatClampNeg x) 30 (nI P).toNatClampNeg wt) 31 (nI P).toNatClampNeg (vp_nar .char 45))))))))))) (nI P) x wt n s.1 y s.2) C (fun s => some (up2 (up2 (up2 (up2 s.2 33 P s.1) 32 P x) 30 P wt) 31 P 45)) (fun i s => (∀ k, k ≠ 34 → s.2 k = μ k) ∧ (∀ j, j < 30 * P → s.2 34 j = μ 34 j) ∧ ∀ c, c < i → bt s.1 c = f c ∧ s.2 34 (30 * P + c) = μ 25 c) ?_ ?_ C fuel 0 (0, μ) (by omega) (by unfold fuel; omega) ⟨fun _ _ => rfl, fun _ _ => rfl, fun c hc => by omega⟩
  · obtain ⟨s, e1, s1, s2, s3⟩ := hh
    refine ⟨_, e1, fun k hk => ?_, fun k j h1 h2 hj => ?_, fun j hj => ?_, ?_, ?_, ?_, fun c hc => ?_⟩
    · rw [up2_n (by omega), up2_n (by omega), up2_n (by omega), up2_n (by omega)]; exact s1 k (by omega)
    · rw [up2_o hj, up2_o hj, up2_o hj, up2_o hj, s1 k (by omega)]
    · rw [up2_n (by omega), up2_n (by omega), up2_n (by omega), up2_n (by omega)]; exact s2 j hj
    · rw [up2_n (by omega), up2_s]; unfold upd; rw [if_pos rfl]
    · rw [up2_s]; unfold upd; rw [if_pos rfl]
    · rw [up2_n (by omega), up2_n (by omega), up2_s]; unfold upd; rw [if_pos rfl]
    · refine ⟨?_, ?_⟩
      · rw [up2_n (by omega), up2_n (by omega), up2_n (by omega), up2_s]; unfold upd; rw [if_pos rfl]; exact (s3 c hc).1
      · rw [up2_n (by omega), up2_n (by omega), up2_n (by omega), up2_n (by omega)]; exact (s3 c hc).2
  · intro n s hs
    show f_X2_keep_13_L6 _ (nI P) x wt (n + 1) s.1 (nI C) s.2 = _
    unfold f_X2_keep_13_L6
    rw [hs.1 13 (by omega), e13, if_pos (by rw [w_le (by omega) (by omega)]; omega), chk_nI hP (by omega), chk_nI hP (by omega), chk_nI hP (by omega), chk_nI hP (by omega), w_nat (show P < 2147483648 by omega), n45]
  · intro n i s hi hs
    refine ⟨(sb s.1 i (f i), up2 s.2 34 (30 * P + i) (μ 25 i)), ?_, fun k hk => by show up2 s.2 34 (30 * P + i) (μ 25 i) k = _; rw [up2_n hk]; exact hs.1 k hk, fun j hj => ?_, fun c hc => ?_⟩
    · show f_X2_keep_13_L6 _ (nI P) x wt (n + 1) s.1 (nI i) s.2 = f_X2_keep_13_L6 _ (nI P) x wt n (sb s.1 i (f i)) (nI (i + 1)) (up2 s.2 34 (30 * P + i) (μ 25 i))
      conv => lhs; unfold f_X2_keep_13_L6
      have ed : decide (b2 (f i) ≠ 0) = f i := by cases f i <;> rfl
      rw [hs.1 13 (by omega), hs.1 24 (by omega), hs.1 25 (by omega), e13, if_neg (by rw [w_le (by omega) (by omega)]; omega), chk_nI (show i < 30 by omega) (by omega), w_nat (show i < 2147483648 by omega), h24 i hi, withBit_eq, Option.bind_some, chk_nI (show i < 30 by omega) (by omega), cell30, chk_nI (show 30 * P + i < 6000 by omega) (by omega), w_nat (show 30 * P + i < 2147483648 by omega), w_succ, ed]
    · show up2 s.2 34 (30 * P + i) (μ 25 i) 34 j = _
      rw [up2_o (by omega)]; exact hs.2.1 j hj
    · by_cases hci : c = i
      · subst hci
        refine ⟨?_, ?_⟩
        · show bt (sb s.1 c (f c)) c = f c
          rw [bt_sb _ _ (by omega) (by omega), if_pos rfl]
        · show up2 s.2 34 (30 * P + c) (μ 25 c) 34 (30 * P + c) = μ 25 c
          rw [up2_s]; unfold upd; rw [if_pos rfl]
      · obtain ⟨g1, g2⟩ := hs.2.2 c (by omega)
        refine ⟨?_, ?_⟩
        · show bt (sb s.1 i (f i)) c = f c
          rw [bt_sb _ _ (by omega) (by omega), if_neg hci]; exact g1
        · show up2 s.2 34 (30 * P + i) (μ 25 i) 34 (30 * P + c) = μ 25 c
          rw [up2_o (by omega)]; exact g2
/-- the component's memory behind append -/
def pcM (μ : Mm) (P : Nat) (a b v T : Int32) : Mm := up2 (up2 (up2 (up2 (up2 μ 6 P a) 7 P b) 8 P v) 9 P T) 5 4 (nI (P + 1))
theorem appendP_eq {P : Nat} {a b v T : Int32} {μ : Mm} (hP : P < 200) (e : μ 5 4 = nI P) : f_X4_append a b v T μ = some (nI P, pcM μ P a b v T) := by
  unfold f_X4_append setm pcM
  have eP : (nI P).toNatClampNeg = P := w_nat (by omega)
  have ck : ∀ {α : Type} (k : Option α), chk (nI P) 200 k = k := fun k => chk_nI hP (by omega)
  simp only [up2_n (k := 6) (a := 5) (by omega), up2_n (k := 7) (a := 5) (by omega), up2_n (k := 8) (a := 5) (by omega), up2_n (k := 9) (a := 5) (by omega), e, eP, ck, w_succ]
/-- the model's memory when the payment is made -/
def pmM (ν : Mm) (P : Nat) (a b v : Int32) : Mm := up2 (up2 (up2 (up2 (up2 (up2 (up2 ν 3 P a) 4 P b) 5 P v) 6 P (ν 0 4)) 7 P (ν 0 5)) 8 P (ν 0 30)) 0 15 (nI (P + 1))
theorem mPay_eq {P : Nat} {a1 a2 a3 S th : Int32} {ν ν3 : Mm} (hP : P < 200) (e : ν 0 15 = nI P) (eS : f_X8_scoreBy (nI P) (ν 0 30) (ν 0 5) (pmM ν P a1 a2 a3) = some (S, ν3)) (e15 : ν3 0 15 = nI (P + 1)) (e16 : ν3 0 16 = th) :
    (chk (ν 0 15) 200 ((chk ((up2 ν 3 (ν 0 15).toNatClampNeg a1) 0 15) 200 ((setm (up2 (up2 ν 3 (ν 0 15).toNatClampNeg a1) 4 ((up2 ν 3 (ν 0 15).toNatClampNeg a1) 0 15).toNatClampNeg a2) (fun mm26 => (chk (mm26 0 15) 200 ((chk ((up2 mm26 5 (mm26 0 15).toNatClampNeg a3) 0 15) 200 ((setm (up2 (up2 mm26 5 (mm26 0 15).toNatClampNeg a3) 6 ((up2 mm26 5 (mm26 0 15).toNatClampNeg a3) 0 15).toNatClampNeg ((up2 mm26 5 (mm26 0 15).toNatClampNeg a3) 0 4)) (fun mm29 => (chk (mm29 0 15) 200 ((chk ((up2 mm29 7 (mm29 0 15).toNatClampNeg (mm29 0 5)) 0 15) 200 ((setm (up2 (up2 mm29 7 (mm29 0 15).toNatClampNeg (mm29 0 5)) 8 ((up2 mm29 7 (mm29 0 15).toNatClampNeg (mm29 0 5)) 0 15).toNatClampNeg ((up2 mm29 7 (mm29 0 15).toNatClampNeg (mm29 0 5)) 0 30)) (fun mm32 => ((f_X8_scoreBy (((up2 mm32 0 15 ((mm32 0 15) + 1)) 0 15) - 1) ((up2 mm32 0 15 ((mm32 0 15) + 1)) 0 30) ((up2 mm32 0 15 ((mm32 0 15) + 1)) 0 5) (up2 mm32 0 15 ((mm32 0 15) + 1))).bind (fun r33 => (chk (((up2 mm32 0 15 ((mm32 0 15) + 1)) 0 15) - 1) 200 ((chk (((up2 r33.2 9 (((up2 mm32 0 15 ((mm32 0 15) + 1)) 0 15) - 1).toNatClampNeg r33.1) 0 15) - 1) 200 ((if ((up2 r33.2 9 (((up2 mm32 0 15 ((mm32 0 15) + 1)) 0 15) - 1).toNatClampNeg r33.1) 9 (((up2 r33.2 9 (((up2 mm32 0 15 ((mm32 0 15) + 1)) 0 15) - 1).toNatClampNeg r33.1) 0 15) - 1).toNatClampNeg : Int32) < (up2 r33.2 9 (((up2 mm32 0 15 ((mm32 0 15) + 1)) 0 15) - 1).toNatClampNeg r33.1) 0 16 then (chk (((up2 r33.2 9 (((up2 mm32 0 15 ((mm32 0 15) + 1)) 0 15) - 1).toNatClampNeg r33.1) 0 15) - 1) 200 ((setm (up2 (up2 r33.2 9 (((up2 mm32 0 15 ((mm32 0 15) + 1)) 0 15) - 1).toNatClampNeg r33.1) 10 (((up2 r33.2 9 (((up2 mm32 0 15 ((mm32 0 15) + 1)) 0 15) - 1).toNatClampNeg r33.1) 0 15) - 1).toNatClampNeg (vp_nar .char 45)) (fun mm39 => some ((mm39 0 15) - 1, mm39))))) else (chk (((up2 r33.2 9 (((up2 mm32 0 15 ((mm32 0 15) + 1)) 0 15) - 1).toNatClampNeg r33.1) 0 15) - 1) 200 ((setm (up2 (up2 r33.2 9 (((up2 mm32 0 15 ((mm32 0 15) + 1)) 0 15) - 1).toNatClampNeg r33.1) 10 (((up2 r33.2 9 (((up2 mm32 0 15 ((mm32 0 15) + 1)) 0 15) - 1).toNatClampNeg r33.1) 0 15) - 1).toNatClampNeg (vp_nar .char 111)) (fun mm41 => some ((mm41 0 15) - 1, mm41)))))))))))))))))))))))))))))) =
    some (nI P, up2 (up2 ν3 9 P S) 10 P (if S < th then 45 else 111)) := by
  unfold setm
  have eP : (nI P).toNatClampNeg = P := w_nat (by omega)
  have ck : ∀ {α : Type} (k : Option α), chk (nI P) 200 k = k := fun k => chk_nI hP (by omega)
  have rd : ∀ (m : Mm) (v : Int32), (up2 m 0 15 v) 0 15 = v := fun m v => rfl
  have rd5 : ∀ (m : Mm) (v : Int32), (up2 m 0 15 v) 0 5 = m 0 5 := fun m v => up2_o (by omega)
  have rd30 : ∀ (m : Mm) (v : Int32), (up2 m 0 15 v) 0 30 = m 0 30 := fun m v => up2_o (by omega)
  have r9 : ∀ (m : Mm) (v : Int32), (up2 m 9 P v) 9 P = v := fun m v => by rw [up2_s]; unfold upd; rw [if_pos rfl]
  unfold pmM at eS
  simp only [up2_n (k := 3) (a := 0) (by omega), up2_n (k := 4) (a := 0) (by omega), up2_n (k := 5) (a := 0) (by omega), up2_n (k := 6) (a := 0) (by omega), up2_n (k := 7) (a := 0) (by omega), up2_n (k := 8) (a := 0) (by omega), up2_n (k := 9) (a := 0) (by omega), up2_n (k := 10) (a := 0) (by omega), e, eP, ck, rd, rd5, rd30, w_succ, w_pred, eS, Option.bind_some, e15, e16, r9, n45, n111]
  by_cases hs : S < th
  · rw [if_pos hs, if_pos hs]
  · rw [if_neg hs, if_neg hs]
