/-! ===== L3: reasonTests, reasonFeature, reasonValue ===== -/
def ls (μ : Mm) (c i m : Nat) : List Int32 := (List.range' i m).map (fun i => μ 23 (8 * c + i))
theorem ls_succ (μ : Mm) (c i m : Nat) : ls μ c i (m + 1) = μ 23 (8 * c + i) :: ls μ c (i + 1) m := rfl
theorem lst_ls (μ : Mm) (c : Nat) : lst μ c = ls μ c 0 (μ 22 c).toNatClampNeg := by
  unfold lst ls
  rw [List.range_eq_range']
theorem ls_mem {μ : Mm} {c n i : Nat} (h : i < n) : μ 23 (8 * c + i) ∈ ls μ c 0 n := by
  unfold ls
  rw [List.mem_map]
  refine ⟨i, ?_, rfl⟩
  rw [← List.range_eq_range', List.mem_range]
  exact h
theorem lst_ok {C : Nat} {μ ν : Mm} (hC : C ≤ 30) (hall : ∀ j, j < C → Cnd μ ν j) : ∀ (n c : Nat), c < n → c < C → ∀ x, x ∈ lst μ c → ∃ j, j ≤ c ∧ x = nI j ∧ ν 12 j = 0
  | 0, c, h, _, _, _ => by omega
  | n + 1, c, h, hc, x, hx => by
    obtain ⟨k, s, m, hk, hs, e1, e2, e3, e4, e5, e6, h0, h3, h12⟩ := hall c hc
    have hk4 : k = 0 ∨ k = 3 ∨ (k = 1 ∨ k = 2) := by omega
    rcases hk4 with hk | hk | hk
    · rw [(h0 hk).2.2.2.2.2.1] at hx
      refine ⟨c, Nat.le_refl c, List.mem_singleton.mp hx, ?_⟩
      rw [e1, hk]; rfl
    · rw [(h3 hk).1] at hx
      cases hx
    · obtain ⟨a, b, s1, s2, ha, hb, _, _, _, _, _, _, _, e⟩ := h12 hk
      rw [e, List.mem_append] at hx
      rcases hx with hx | hx
      · obtain ⟨j, h1, h2⟩ := lst_ok hC hall n a (by omega) (by omega) x hx
        exact ⟨j, by omega, h2⟩
      · obtain ⟨j, h1, h2⟩ := lst_ok hC hall n b (by omega) (by omega) x hx
        exact ⟨j, by omega, h2⟩
theorem lst_len {C c : Nat} {μ ν : Mm} (hall : ∀ j, j < C → Cnd μ ν j) (hc : c < C) : ∃ n, n ≤ 8 ∧ μ 22 c = nI n ∧ lst μ c = ls μ c 0 n ∧ (lst μ c).length = n := by
  obtain ⟨s, n, h1, h2, h3, h4, h5⟩ := Cnd_n (hall c hc)
  have e : lst μ c = ls μ c 0 n := by rw [lst_ls, h4, w_nat (by omega)]
  refine ⟨n, by omega, h4, e, ?_⟩
  rw [e]
  unfold ls
  rw [List.length_map, List.length_range']
def hd (h : Int32) (x : Int32) : Bool := bt h x.toNatClampNeg
def tAt : List Int32 → Nat → Int32 → Int32
  | [], _, _ => -1
  | x :: l, k, a => if nI k = a then x else tAt l (k + 1) a
theorem tAt_get : ∀ (L : List Int32) (k : Nat) (a : Int32), (∃ j v, L[j]? = some v ∧ a = nI (k + j) ∧ tAt L k a = v) ∨ ((∀ j, j < L.length → a ≠ nI (k + j)) ∧ tAt L k a = -1)
  | [], k, a => Or.inr ⟨fun j hj => (by cases hj), rfl⟩
  | x :: l, k, a => by
    unfold tAt
    by_cases h : nI k = a
    · rw [if_pos h]
      exact Or.inl ⟨0, x, rfl, h.symm, rfl⟩
    · rw [if_neg h]
      rcases tAt_get l (k + 1) a with ⟨j, v, h1, h2, h3⟩ | ⟨h1, h2⟩
      · refine Or.inl ⟨j + 1, v, ?_, ?_, h3⟩
        · rw [List.getElem?_cons_succ]; exact h1
        · rw [h2]; congr 1; omega
      · refine Or.inr ⟨fun j hj => ?_, h2⟩
        rcases j with _ | j
        · exact fun e => h e.symm
        · have := h1 j (by rw [List.length_cons] at hj; omega)
          rw [show k + (j + 1) = k + 1 + j by omega]; exact this
theorem cell_eq {c i : Nat} : ((nI c * 8) + nI i : Int32) = nI (8 * c + i) := by
  rw [show (8 : Int32) = nI 8 from rfl, w_mul, w_add, Nat.mul_comm]
theorem count_eq {C c : Nat} {h : Int32} {μ ν : Mm} (hC : C ≤ 30) (hall : ∀ j, j < C → Cnd μ ν j) (hc : c < C) : f_X3_countTests (nI c) h μ = some (nI ((lst μ c).filter (hd h)).length) := by
  obtain ⟨n, n8, e22, els, elen⟩ := lst_len hall hc
  have key : ∀ (m f i k : Nat), i + m = n → m < f → f_X3_countTests_L5 (nI c) h μ f (nI k) (nI i) = some (nI (k + ((ls μ c i m).filter (hd h)).length)) := by
    intro m
    induction m with
    | zero =>
      intro f i k he hf
      obtain ⟨f, rfl⟩ : ∃ g, f = g + 1 := ⟨f - 1, by omega⟩
      unfold f_X3_countTests_L5
      rw [chk_nI (show c < 30 by omega) (by omega), w_nat (show c < 2147483648 by omega), e22, if_pos (by rw [w_le (by omega) (by omega)]; omega)]
      rfl
    | succ m ih =>
      intro f i k he hf
      obtain ⟨f, rfl⟩ : ∃ g, f = g + 1 := ⟨f - 1, by omega⟩
      obtain ⟨j, hj1, hj2, _⟩ := lst_ok hC hall (c + 1) c (by omega) hc (μ 23 (8 * c + i)) (by rw [els]; exact ls_mem (by omega))
      conv => lhs; unfold f_X3_countTests_L5
      rw [chk_nI (show c < 30 by omega) (by omega), w_nat (show c < 2147483648 by omega), e22, if_neg (by rw [w_le (by omega) (by omega)]; omega), cell_eq, chk_nI (show 8 * c + i < 240 by omega) (by omega), w_nat (show 8 * c + i < 2147483648 by omega), ls_succ, hj2, hasBit_eq _ (show j < 32 by omega), Option.bind_some, w_succ, w_succ]
      have e9 : hd h (nI j) = bt h j := by unfold hd; rw [w_nat (by omega)]
      cases hb : bt h j
      · rw [b2_f, if_pos rfl, ih f (i + 1) k (by omega) (by omega), List.filter_cons_of_neg (by rw [e9, hb]; simp)]
      · rw [b2_t, if_neg (show ¬ (1 : Int32) = 0 by decide), ih f (i + 1) (k + 1) (by omega) (by omega), List.filter_cons_of_pos (by rw [e9, hb]), List.length_cons]
        congr 2; omega
  unfold f_X3_countTests
  have := key n fuel 0 0 (by omega) (by unfold fuel; omega)
  rw [els]
  rw [Nat.zero_add] at this
  exact this
theorem testAt_eq {C c : Nat} {h a : Int32} {μ ν : Mm} (hC : C ≤ 30) (hall : ∀ j, j < C → Cnd μ ν j) (hc : c < C) : f_X3_testAtRank (nI c) h a μ = some (tAt ((lst μ c).filter (hd h)) 0 a) := by
  obtain ⟨n, n8, e22, els, elen⟩ := lst_len hall hc
  have key : ∀ (m f i k : Nat), i + m = n → m < f → f_X3_testAtRank_L6 (nI c) h a μ f (nI k) (nI i) = some (tAt ((ls μ c i m).filter (hd h)) k a) := by
    intro m
    induction m with
    | zero =>
      intro f i k he hf
      obtain ⟨f, rfl⟩ : ∃ g, f = g + 1 := ⟨f - 1, by omega⟩
      unfold f_X3_testAtRank_L6
      rw [chk_nI (show c < 30 by omega) (by omega), w_nat (show c < 2147483648 by omega), e22, if_pos (by rw [w_le (by omega) (by omega)]; omega)]
      rfl
    | succ m ih =>
      intro f i k he hf
      obtain ⟨f, rfl⟩ : ∃ g, f = g + 1 := ⟨f - 1, by omega⟩
      obtain ⟨j, hj1, hj2, _⟩ := lst_ok hC hall (c + 1) c (by omega) hc (μ 23 (8 * c + i)) (by rw [els]; exact ls_mem (by omega))
      conv => lhs; unfold f_X3_testAtRank_L6
      rw [chk_nI (show c < 30 by omega) (by omega), w_nat (show c < 2147483648 by omega), e22, if_neg (by rw [w_le (by omega) (by omega)]; omega), cell_eq, chk_nI (show 8 * c + i < 240 by omega) (by omega), w_nat (show 8 * c + i < 2147483648 by omega), ls_succ, hj2, hasBit_eq _ (show j < 32 by omega), Option.bind_some, w_succ, w_succ]
      have e9 : hd h (nI j) = bt h j := by unfold hd; rw [w_nat (by omega)]
      cases hb : bt h j
      · rw [b2_f, if_pos rfl, ih f (i + 1) k (by omega) (by omega), List.filter_cons_of_neg (by rw [e9, hb]; simp)]
      · rw [b2_t, if_neg (show ¬ (1 : Int32) = 0 by decide), ih f (i + 1) (k + 1) (by omega) (by omega), List.filter_cons_of_pos (by rw [e9, hb])]
        show _ = some (if nI k = a then nI j else tAt _ (k + 1) a)
        by_cases hk : nI k = a
        · rw [if_pos hk, if_pos hk]
        · rw [if_neg hk, if_neg hk]
  unfold f_X3_testAtRank
  have := key n fuel 0 0 (by omega) (by unfold fuel; omega)
  rw [els]
  exact this
/-- m is ν but for the table, the held tests and their number -/
def Gf (m ν : Mm) : Prop := (∀ k, k ≠ 0 → k ≠ 11 → k ≠ 22 → m k = ν k) ∧ ∀ j, j ≠ 32 → m 0 j = ν 0 j
theorem Acc_g {A : Nat} {μ ν m : Mm} (h : Acc A μ ν) (hm : Gf m ν) : Acc A μ m := by
  unfold Acc at h ⊢
  rw [hm.2 3 (by omega), hm.2 5 (by omega), hm.2 6 (by omega), hm.1 1 (by omega) (by omega) (by omega), hm.1 2 (by omega) (by omega) (by omega)]
  exact h
theorem Led_g {A T P : Nat} {μ ν m : Mm} (h : Led A T P μ ν) (hm : Gf m ν) : Led A T P μ m := by
  unfold Led at h ⊢
  rw [hm.2 15 (by omega), hm.1 3 (by omega) (by omega) (by omega), hm.1 4 (by omega) (by omega) (by omega), hm.1 5 (by omega) (by omega) (by omega), hm.1 6 (by omega) (by omega) (by omega)]
  exact h
theorem Con_g {C : Nat} {μ ν m : Mm} (h : Con C μ ν) (hm : Gf m ν) : Con C μ m := by
  unfold Con Cnd at h ⊢
  rw [hm.2 26 (by omega), hm.1 12 (by omega) (by omega) (by omega), hm.1 13 (by omega) (by omega) (by omega), hm.1 14 (by omega) (by omega) (by omega), hm.1 15 (by omega) (by omega) (by omega), hm.1 16 (by omega) (by omega) (by omega), hm.1 17 (by omega) (by omega) (by omega), hm.1 18 (by omega) (by omega) (by omega), hm.1 19 (by omega) (by omega) (by omega)]
  exact h
theorem Sst_g {C p : Nat} {ν m : Mm} (hm : Gf m ν) : Sst C p ν m :=
  ⟨fun j _ => by rw [hm.1 12 (by omega) (by omega) (by omega), hm.1 13 (by omega) (by omega) (by omega), hm.1 14 (by omega) (by omega) (by omega), hm.1 16 (by omega) (by omega) (by omega), hm.1 17 (by omega) (by omega) (by omega), hm.1 18 (by omega) (by omega) (by omega), hm.1 19 (by omega) (by omega) (by omega)]; simp,
    Sst_cut (fun q _ => by rw [hm.1 1 (by omega) (by omega) (by omega), hm.1 2 (by omega) (by omega) (by omega), hm.1 3 (by omega) (by omega) (by omega), hm.1 4 (by omega) (by omega) (by omega), hm.1 5 (by omega) (by omega) (by omega), hm.1 6 (by omega) (by omega) (by omega)]; simp)⟩
theorem Gf_11 {m m' ν : Mm} (h : Gf m ν) (hm : ∀ k, k ≠ 11 → m' k = m k) : Gf m' ν :=
  ⟨fun k h1 h2 h3 => (hm k h2).trans (h.1 k h1 h2 h3), fun j hj => by rw [hm 0 (by omega)]; exact h.2 j hj⟩
theorem true_g {A T P C p c : Nat} {mk : Int32} {μ ν m : Mm} (hA : Acc A μ ν) (hL : Led A T P μ ν) (hC : Con C μ ν) (hT : T ≤ 800000) (hp : p < P) (hc : c < C) (hm : Gf m ν) : ∃ m', f_X8_isTrue 16 (nI c) (nI p) mk m = some (b2 (sem ν mk p 16 c), m') ∧ ∀ k, k ≠ 11 → m' k = m k := by
  have e : sem m mk p 16 c = sem ν mk p 16 c := sem_st hC.1 hC.2.2.2.2.2 (Sst_g hm) mk 16 c hc
  rw [← e]
  exact true16 (Acc_g hA hm) (Led_g hL hm) (Con_g hC hm) hT hp hc (fun _ _ => rfl)
def tru (ν : Mm) (p : Nat) (x : Int32) : Bool := sem ν (ν 7 p) p 16 x.toNatClampNeg
theorem gathers_eq {A T P C p : Nat} {μ ν : Mm} (hA : Acc A μ ν) (hL : Led A T P μ ν) (hC : Con C μ ν) (hT : T ≤ 800000) (hp : p < P) : ∀ (d c s : Nat), c < C → ν 15 c = nI s → s ≤ d → s ≤ 15 → ∀ (m : Mm) (h : Nat), Gf m ν → m 0 32 = nI h → h + (lst μ c).length ≤ 16 →
    ∃ m', f_X8_gathers d (nI c) (nI p) m = some m' ∧ Gf m' ν ∧ m' 0 32 = nI (h + ((lst μ c).filter (tru ν p)).length) ∧ (∀ i, i < h → m' 22 i = m 22 i) ∧ ∀ i v, ((lst μ c).filter (tru ν p))[i]? = some v → m' 22 (h + i) = v
  | 0, c, s, hc, hs, hd, _, m, h, _, _, _ => by
    exfalso
    obtain ⟨k, s', n, hk, hs', e1, e2, e3, e4, e5, e6, h0, h3, h12⟩ := hC.2.2.2.2.2 c hc
    have hss : s' = s := (w_eq (by omega) (by omega)).mp (e3.symm.trans hs)
    have hk4 : k = 0 ∨ k = 3 ∨ (k = 1 ∨ k = 2) := by omega
    rcases hk4 with hk | hk | hk
    · have := (h0 hk).2.2.2.2.1; omega
    · obtain ⟨_, a, s1, _, _, _, _, e⟩ := h3 hk; omega
    · obtain ⟨a, b, s1, s2, _, _, _, _, _, _, _, _, e, _⟩ := h12 hk; omega
  | d + 1, c, s, hc, hs, hd, h15, m, h, hm, hh, hb => by
    have hC30 := hC.1
    have hP := hL.1
    obtain ⟨k, s', n, hk, hs', e1, e2, e3, e4, e5, e6, h0, h3, h12⟩ := hC.2.2.2.2.2 c hc
    have hss : s' = s := (w_eq (by omega) (by omega)).mp (e3.symm.trans hs)
    have cc : ∀ {α : Type} (k : Option α), chk (nI c) 30 k = k := fun k => chk_nI (by omega) (by omega)
    have wc : (nI c).toNatClampNeg = c := w_nat (by omega)
    have join : k = 1 ∨ k = 2 → ∃ m', ((f_X8_gathers d (m 13 c) (nI p) m).bind (fun r6 => (chk (nI c) 30 (((f_X8_gathers d (r6 14 c) (nI p) r6).bind (fun r9 => some r9)))))) = some m' ∧ Gf m' ν ∧ m' 0 32 = nI (h + ((lst μ c).filter (tru ν p)).length) ∧ (∀ i, i < h → m' 22 i = m 22 i) ∧ ∀ i v, ((lst μ c).filter (tru ν p))[i]? = some v → m' 22 (h + i) = v := by
      intro hk12
      obtain ⟨a, b, s1, s2, ha, hb2, g1, g20, g2, g21, g3, g4, e, el⟩ := h12 hk12
      have la : ((lst μ a).filter (tru ν p)).length ≤ (lst μ a).length := List.length_filter_le _ _
      rw [el, List.length_append] at hb
      obtain ⟨m1, u1, u2, u3, u4, u5⟩ := gathers_eq hA hL hC hT hp d a s1 (by omega) g3 (by omega) (by omega) m h hm hh (by omega)
      obtain ⟨m2, v1, v2, v3, v4, v5⟩ := gathers_eq hA hL hC hT hp d b s2 (by omega) g4 (by omega) (by omega) m1 (h + ((lst μ a).filter (tru ν p)).length) u2 u3 (by omega)
      refine ⟨m2, ?_, v2, ?_, ?_, ?_⟩
      · rw [hm.1 13 (by omega) (by omega) (by omega), g1, u1, Option.bind_some, cc, u2.1 14 (by omega) (by omega) (by omega), g2, v1, Option.bind_some]
      · rw [v3, el, List.filter_append, List.length_append]
        congr 1; omega
      · intro i hi
        rw [v4 i (by omega), u4 i hi]
      · intro i v hv
        rw [el, List.filter_append] at hv
        rcases Nat.lt_or_ge i ((lst μ a).filter (tru ν p)).length with hi | hi
        · rw [List.getElem?_append_left hi] at hv
          rw [v4 (h + i) (by omega)]
          exact u5 i v hv
        · rw [List.getElem?_append_right hi] at hv
          have := v5 _ v hv
          rw [show h + ((lst μ a).filter (tru ν p)).length + (i - ((lst μ a).filter (tru ν p)).length) = h + i by omega] at this
          exact this
    have hk4 : k = 0 ∨ k = 1 ∨ k = 2 ∨ k = 3 := by omega
    unfold f_X8_gathers
    rw [cc, wc, hm.1 12 (by omega) (by omega) (by omega), e1]
    rcases hk4 with rfl | rfl | rfl | rfl
    · obtain ⟨f1, f2, f3, f4, f5, f6, _⟩ := h0 rfl
      rw [if_neg (show ¬ nI 0 = 3 by decide), cc, if_neg (show ¬ nI 0 = 1 by decide), cc, if_neg (show ¬ nI 0 = 2 by decide), chk_nI (show p < 200 by omega) (by omega), w_nat (show p < 2147483648 by omega), hm.1 7 (by omega) (by omega) (by omega)]
      rw [f6] at hb ⊢
      have hb1 : h + 1 ≤ 16 := hb
      obtain ⟨m', v1, v2⟩ := true_g (mk := ν 7 p) hA hL hC hT hp hc hm
      rw [v1, Option.bind_some]
      have et : tru ν p (nI c) = sem ν (ν 7 p) p 16 c := by unfold tru; rw [wc]
      cases hb3 : sem ν (ν 7 p) p 16 c
      · rw [List.filter_cons_of_neg (by rw [et, hb3]; simp), b2_f, if_pos rfl]
        refine ⟨m', rfl, Gf_11 hm v2, ?_, fun i _ => by rw [v2 22 (by omega)], fun i v hv => by cases hv⟩
        rw [v2 0 (by omega), hh]; rfl
      · rw [List.filter_cons_of_pos (by rw [et, hb3]), b2_t, if_neg (show ¬ (1 : Int32) = 0 by decide)]
        show ∃ m'', chk (m' 0 32) 16 (some (up2 (up2 m' 22 (m' 0 32).toNatClampNeg (nI c)) 0 32 (((up2 m' 22 (m' 0 32).toNatClampNeg (nI c)) 0 32) + 1))) = some m'' ∧ _
        have e32 : m' 0 32 = nI h := by rw [v2 0 (by omega), hh]
        rw [e32, chk_nI (show h < 16 by omega) (by omega), w_nat (show h < 2147483648 by omega)]
        have e33 : up2 m' 22 h (nI c) 0 32 = nI h := by rw [up2_n (by omega), e32]
        rw [e33, w_succ]
        have hG := Gf_11 hm v2
        refine ⟨_, rfl, ⟨fun k h1 h2 h3 => ?_, fun j hj => ?_⟩, ?_, fun i hi => ?_, fun i v hv => ?_⟩
        · rw [up2_n h1, up2_n h3]; exact hG.1 k h1 h2 h3
        · rw [up2_o hj, up2_n (by omega)]; exact hG.2 j hj
        · rw [up2_s]; unfold upd; rw [if_pos rfl]; rfl
        · rw [up2_n (by omega), up2_o (by omega), v2 22 (by omega)]
        · rcases i with _ | i
          · rw [up2_n (by omega), up2_s]; unfold upd
            rw [if_pos (Nat.add_zero h)]
            exact Option.some.inj hv
          · cases hv
    · rw [if_neg (show ¬ nI 1 = 3 by decide), cc, if_pos (show nI 1 = 1 from rfl), cc]
      exact join (Or.inl rfl)
    · rw [if_neg (show ¬ nI 2 = 3 by decide), cc, if_neg (show ¬ nI 2 = 1 by decide), cc, if_pos (show nI 2 = 2 from rfl), cc]
      exact join (Or.inr rfl)
    · rw [if_pos (show nI 3 = 3 from rfl), (h3 rfl).1]
      exact ⟨m, rfl, hm, hh, fun i _ => rfl, fun i v hv => by cases hv⟩
