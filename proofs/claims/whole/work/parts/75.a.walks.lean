/-! ===== L3: walks over links ===== -/
/-- a walk of exactly k links from s to b -/
def Wk (E : Nat → Nat → Prop) (s : Nat) : Nat → Nat → Prop
  | 0, b => b = s
  | k + 1, b => ∃ a, Wk E s k a ∧ E a b
def Lv (E : Nat → Nat → Prop) (s k b : Nat) : Prop := ∃ j, j ≤ k ∧ Wk E s j b
/-- d is the least number of links -/
def Mn (E : Nat → Nat → Prop) (s d b : Nat) : Prop := Wk E s d b ∧ ∀ j, j < d → ¬ Wk E s j b
theorem Lv_mono {E : Nat → Nat → Prop} {s k m b : Nat} (h : k ≤ m) (hL : Lv E s k b) : Lv E s m b := by
  obtain ⟨j, h1, h2⟩ := hL
  exact ⟨j, by omega, h2⟩
theorem Lv_0 {E : Nat → Nat → Prop} {s b : Nat} : Lv E s 0 b ↔ b = s := by
  constructor
  · rintro ⟨j, h1, h2⟩
    have : j = 0 := by omega
    subst this; exact h2
  · intro h; exact ⟨0, Nat.le_refl 0, h⟩
theorem Lv_succ {E : Nat → Nat → Prop} {s k b : Nat} : Lv E s (k + 1) b ↔ Lv E s k b ∨ ∃ a, Lv E s k a ∧ E a b := by
  constructor
  · rintro ⟨j, h1, h2⟩
    rcases Nat.lt_or_ge k j with h3 | h3
    · have : j = k + 1 := by omega
      subst this
      obtain ⟨a, h4, h5⟩ := h2
      exact Or.inr ⟨a, ⟨k, Nat.le_refl k, h4⟩, h5⟩
    · exact Or.inl ⟨j, h3, h2⟩
  · rintro (h | ⟨a, ⟨j, h1, h2⟩, h3⟩)
    · exact Lv_mono (by omega) h
    · exact ⟨j + 1, by omega, a, h2, h3⟩
theorem Wk_lt {E : Nat → Nat → Prop} {A s : Nat} (hE : ∀ a b, E a b → b < A) (hs : s < A) : ∀ (k b : Nat), Wk E s k b → b < A
  | 0, b, h => by rw [show b = s from h]; exact hs
  | k + 1, b, ⟨a, _, h⟩ => hE a b h
theorem Lv_stop {E : Nat → Nat → Prop} {s k : Nat} (h : ∀ b, Lv E s (k + 1) b → Lv E s k b) : ∀ (m b : Nat), Lv E s m b → Lv E s k b
  | 0, b, hb => Lv_mono (Nat.zero_le k) hb
  | m + 1, b, hb => by
    rcases Lv_succ.mp hb with h1 | ⟨a, h1, h2⟩
    · exact Lv_stop h m b h1
    · exact h b (Lv_succ.mpr (Or.inr ⟨a, Lv_stop h m a h1, h2⟩))
noncomputable def lvB (E : Nat → Nat → Prop) (s k b : Nat) : Bool := @decide (Lv E s k b) (Classical.propDecidable _)
theorem lvB_t {E : Nat → Nat → Prop} {s k b : Nat} : lvB E s k b = true ↔ Lv E s k b := @decide_eq_true_iff _ (Classical.propDecidable _)
theorem Lv_grow {E : Nat → Nat → Prop} {A s : Nat} (hE : ∀ a b, E a b → b < A) (hs : s < A) : ∀ k, (∃ j, j < k ∧ ∀ b, Lv E s (j + 1) b → Lv E s j b) ∨ k + 1 ≤ fb_ct (lvB E s k) A
  | 0 => Or.inr (fb_ct_pos.mpr ⟨s, hs, lvB_t.mpr (Lv_0.mpr rfl)⟩)
  | k + 1 => by
    rcases Lv_grow hE hs k with ⟨j, h1, h2⟩ | h
    · exact Or.inl ⟨j, by omega, h2⟩
    · rcases Classical.em (∀ b, Lv E s (k + 1) b → Lv E s k b) with hs | hs
      · exact Or.inl ⟨k, by omega, hs⟩
      · right
        obtain ⟨b, hb⟩ := Classical.not_forall.mp hs
        have hb1 : Lv E s (k + 1) b := Classical.byContradiction (fun h => hb (fun h2 => absurd h2 h))
        have hb2 : ¬ Lv E s k b := fun h => hb (fun _ => h)
        have hbA : b < A := by
          obtain ⟨j, _, hw⟩ := hb1
          exact Wk_lt hE (by assumption) j b hw
        have hbf : lvB E s k b = false := by
          cases hc : lvB E s k b
          · rfl
          · exact absurd (lvB_t.mp hc) hb2
        have u := fb_ct_upd (lvB E s k) true hbA
        rw [hbf] at u
        have v : fb_ct (fun x => if x = b then true else lvB E s k x) A ≤ fb_ct (lvB E s (k + 1)) A := by
          apply fb_ct_sub
          intro x hx hx2
          by_cases hxb : x = b
          · rw [hxb]; exact lvB_t.mpr hb1
          · have hx3 : (if x = b then true else lvB E s k x) = true := hx2
            rw [if_neg hxb] at hx3
            exact lvB_t.mpr (Lv_mono (by omega) (lvB_t.mp hx3))
        have u2 : fb_ct (fun x => if x = b then true else lvB E s k x) A + 0 = fb_ct (lvB E s k) A + 1 := u
        omega
theorem Lv_fin {E : Nat → Nat → Prop} {A s m b : Nat} (hE : ∀ a b, E a b → b < A) (hs : s < A) (h : Lv E s m b) : Lv E s (A - 1) b := by
  rcases Lv_grow hE hs A with ⟨j, h1, h2⟩ | h2
  · exact Lv_mono (by omega) (Lv_stop h2 m b h)
  · have := fb_ct_le (lvB E s A) A
    omega
theorem Mn_of {E : Nat → Nat → Prop} {s : Nat} : ∀ (k b : Nat), Lv E s k b → ∃ d, d ≤ k ∧ Mn E s d b
  | 0, b, h => ⟨0, Nat.le_refl 0, Lv_0.mp h, fun j hj => by omega⟩
  | k + 1, b, h => by
    rcases Classical.em (Lv E s k b) with h1 | h1
    · obtain ⟨d, h2, h3⟩ := Mn_of k b h1
      exact ⟨d, by omega, h3⟩
    · obtain ⟨j, h2, h3⟩ := h
      refine ⟨j, h2, h3, fun i hi hw => h1 ⟨i, by omega, hw⟩⟩
theorem Mn_uniq {E : Nat → Nat → Prop} {s d e b : Nat} (h1 : Mn E s d b) (h2 : Mn E s e b) : d = e := by
  rcases Nat.lt_trichotomy d e with h | h | h
  · exact absurd h1.1 (h2.2 d h)
  · exact h
  · exact absurd h2.1 (h1.2 e h)
theorem Mn_lt {E : Nat → Nat → Prop} {A s d b : Nat} (hE : ∀ a b, E a b → b < A) (hs : s < A) (h : Mn E s d b) : d < A := by
  obtain ⟨j, h1, h2⟩ := Lv_fin hE hs (show Lv E s d b from ⟨d, Nat.le_refl d, h.1⟩)
  apply Nat.lt_of_not_le
  intro h3
  exact h.2 j (by omega) h2
/-- what the model's table says of b -/
def Far (E : Nat → Nat → Prop) (A s b : Nat) (v : Int32) : Prop := (v = 99 ∧ ∀ k, ¬ Wk E s k b) ∨ ∃ d, d < A ∧ v = nI d ∧ Mn E s d b
/-- the payments' links, up to payment M -/
def Ed (both : Bool) (W : Nat → Bool) (pa pb : Nat → Nat) (M a b : Nat) : Prop := ∃ x, x < M ∧ W x = true ∧ ((pa x = a ∧ pb x = b) ∨ (both = true ∧ pb x = a ∧ pa x = b))
/-! ===== L3: the model's table ===== -/
def rlx (n : Int32) (a b : Nat) (m : Mm) : Mm := if m 11 a = n then (if m 11 b = 99 then up2 m 11 b (n + 1) else m) else m
theorem rlx_n {n : Int32} {a b k : Nat} {m : Mm} (h : k ≠ 11) : rlx n a b m k = m k := by
  unfold rlx
  by_cases h1 : m 11 a = n
  · rw [if_pos h1]
    by_cases h2 : m 11 b = 99
    · rw [if_pos h2, up2_n h]
    · rw [if_neg h2]
  · rw [if_neg h1]
def Iv (E : Nat → Nat → Prop) (s A n : Nat) (S : Nat → Nat → Prop) (fr : Nat → Int32) : Prop := ∀ b, b < A → (∃ d, d ≤ n + 1 ∧ fr b = nI d ∧ Mn E s d b) ∨ (fr b = 99 ∧ ¬ Lv E s n b ∧ ∀ a, S a b → ¬ Lv E s n a)
theorem Iv_w {E S S' : Nat → Nat → Prop} {s A n : Nat} {fr : Nat → Int32} (h : Iv E s A n S fr) (hs : ∀ a b, S' a b → S a b) : Iv E s A n S' fr := by
  intro b hb
  rcases h b hb with h1 | ⟨h1, h2, h3⟩
  · exact Or.inl h1
  · exact Or.inr ⟨h1, h2, fun a ha => h3 a (hs a b ha)⟩
theorem e99 : (99 : Int32) = nI 99 := rfl
theorem rlx_iv {E S : Nat → Nat → Prop} {s A n a b : Nat} {m : Mm} (hn : n + 1 < 99) (ha : a < A) (hb : b < A) (he : E a b) (h : Iv E s A n S (m 11)) : Iv E s A n (fun x y => S x y ∨ (x = a ∧ y = b)) ((rlx (nI n) a b m) 11) := by
  intro y hy
  unfold rlx
  by_cases c1 : m 11 a = nI n
  · rw [if_pos c1]
    have hMa : Mn E s n a := by
      rcases h a ha with ⟨d, h1, h2, h3⟩ | ⟨h1, _⟩
      · have : d = n := (w_eq (by omega) (by omega)).mp (h2.symm.trans c1)
        rw [← this]; exact h3
      · rw [c1, e99, w_eq (by omega) (by omega)] at h1; omega
    by_cases c2 : m 11 b = 99
    · rw [if_pos c2, up2_s]
      unfold upd
      by_cases hyb : y = b
      · rw [if_pos hyb]
        left
        refine ⟨n + 1, Nat.le_refl _, w_succ n, ?_⟩
        rw [hyb]
        rcases h b hb with ⟨d, h1, h2, h3⟩ | ⟨h1, h2, h3⟩
        · rw [h2, e99, w_eq (by omega) (by omega)] at c2; omega
        · exact ⟨⟨a, hMa.1, he⟩, fun j hj hw => h2 ⟨j, by omega, hw⟩⟩
      · rw [if_neg hyb]
        rcases h y hy with h1 | ⟨h1, h2, h3⟩
        · exact Or.inl h1
        · exact Or.inr ⟨h1, h2, fun x hx => by
            rcases hx with hx | ⟨_, hx⟩
            · exact h3 x hx
            · exact absurd hx hyb⟩
    · rw [if_neg c2]
      rcases h y hy with h1 | ⟨h1, h2, h3⟩
      · exact Or.inl h1
      · exact Or.inr ⟨h1, h2, fun x hx => by
          rcases hx with hx | ⟨_, hx⟩
          · exact h3 x hx
          · rw [hx] at h1; exact absurd h1 c2⟩
  · rw [if_neg c1]
    rcases h y hy with h1 | ⟨h1, h2, h3⟩
    · exact Or.inl h1
    · refine Or.inr ⟨h1, h2, fun x hx => ?_⟩
      rcases hx with hx | ⟨hx, hxy⟩
      · exact h3 x hx
      · subst hx; subst hxy
        intro hL
        rcases h x ha with ⟨d, g1, g2, g3⟩ | ⟨g1, g2, g3⟩
        · have hdn : d ≠ n := fun e => c1 (by rw [g2, e])
          obtain ⟨j, hj, hw⟩ := hL
          rcases Nat.lt_or_ge n d with h5 | h5
          · exact g3.2 j (by omega) hw
          · exact h2 ⟨d + 1, by omega, x, g3.1, he⟩
        · exact g2 hL
def rstep (both : Bool) (W : Nat → Bool) (pa pb : Nat → Nat) (n : Int32) (q : Nat) (m : Mm) : Mm := if W q = true then (if both = true then rlx n (pb q) (pa q) (rlx n (pa q) (pb q) m) else rlx n (pa q) (pb q) m) else m
theorem rstep_n {both : Bool} {W : Nat → Bool} {pa pb : Nat → Nat} {n : Int32} {q k : Nat} {m : Mm} (h : k ≠ 11) : rstep both W pa pb n q m k = m k := by
  unfold rstep
  by_cases h1 : W q = true
  · rw [if_pos h1]
    by_cases h2 : both = true
    · rw [if_pos h2, rlx_n h, rlx_n h]
    · rw [if_neg h2, rlx_n h]
  · rw [if_neg h1]
theorem rstep_iv {both : Bool} {W : Nat → Bool} {pa pb : Nat → Nat} {s A n M q : Nat} {m : Mm} (hn : n + 1 < 99) (hq : q < M) (ha : pa q < A) (hb : pb q < A) (h : Iv (Ed both W pa pb M) s A n (Ed both W pa pb q) (m 11)) :
    Iv (Ed both W pa pb M) s A n (Ed both W pa pb (q + 1)) ((rstep both W pa pb (nI n) q m) 11) := by
  unfold rstep
  by_cases h1 : W q = true
  · rw [if_pos h1]
    have i1 := rlx_iv (b := pb q) hn ha hb (show Ed both W pa pb M (pa q) (pb q) from ⟨q, hq, h1, Or.inl ⟨rfl, rfl⟩⟩) h
    by_cases h2 : both = true
    · rw [if_pos h2]
      have i2 := rlx_iv (b := pa q) hn hb ha (show Ed both W pa pb M (pb q) (pa q) from ⟨q, hq, h1, Or.inr ⟨h2, rfl, rfl⟩⟩) i1
      refine Iv_w i2 ?_
      rintro a b ⟨x, hx, hw, hc⟩
      by_cases hxq : x = q
      · subst hxq
        rcases hc with ⟨c1, c2⟩ | ⟨_, c1, c2⟩
        · exact Or.inl (Or.inr ⟨c1.symm, c2.symm⟩)
        · exact Or.inr ⟨c1.symm, c2.symm⟩
      · exact Or.inl (Or.inl ⟨x, by omega, hw, hc⟩)
    · rw [if_neg h2]
      refine Iv_w i1 ?_
      rintro a b ⟨x, hx, hw, hc⟩
      by_cases hxq : x = q
      · subst hxq
        rcases hc with ⟨c1, c2⟩ | ⟨c0, c1, c2⟩
        · exact Or.inr ⟨c1.symm, c2.symm⟩
        · exact absurd c0 h2
      · exact Or.inl ⟨x, by omega, hw, hc⟩
  · rw [if_neg h1]
    refine Iv_w h ?_
    rintro a b ⟨x, hx, hw, hc⟩
    by_cases hxq : x = q
    · subst hxq; exact absurd hw h1
    · exact ⟨x, by omega, hw, hc⟩
def St (E : Nat → Nat → Prop) (s A n : Nat) (fr : Nat → Int32) : Prop := ∀ b, b < A → (∃ d, d ≤ n ∧ fr b = nI d ∧ Mn E s d b) ∨ (fr b = 99 ∧ ¬ Lv E s n b)
theorem St_Iv {both : Bool} {W : Nat → Bool} {pa pb : Nat → Nat} {E : Nat → Nat → Prop} {s A n : Nat} {fr : Nat → Int32} (h : St E s A n fr) : Iv E s A n (Ed both W pa pb 0) fr := by
  intro b hb
  rcases h b hb with ⟨d, h1, h2, h3⟩ | ⟨h1, h2⟩
  · exact Or.inl ⟨d, by omega, h2, h3⟩
  · exact Or.inr ⟨h1, h2, fun a ⟨x, hx, _⟩ => by omega⟩
theorem Iv_St {E : Nat → Nat → Prop} {s A n : Nat} {fr : Nat → Int32} (h : Iv E s A n E fr) : St E s A (n + 1) fr := by
  intro b hb
  rcases h b hb with ⟨d, h1, h2, h3⟩ | ⟨h1, h2, h3⟩
  · exact Or.inl ⟨d, h1, h2, h3⟩
  · refine Or.inr ⟨h1, fun hL => ?_⟩
    rcases Lv_succ.mp hL with g | ⟨a, g1, g2⟩
    · exact h2 g
    · exact h3 a g2 g1
theorem St_Far {E : Nat → Nat → Prop} {s A : Nat} {fr : Nat → Int32} (hE : ∀ a b, E a b → b < A) (hs : s < A) (h : St E s A A fr) {b : Nat} (hb : b < A) : Far E A s b (fr b) := by
  rcases h b hb with ⟨d, h1, h2, h3⟩ | ⟨h1, h2⟩
  · exact Or.inr ⟨d, Mn_lt hE hs h3, h2, h3⟩
  · exact Or.inl ⟨h1, fun k hk => h2 (Lv_mono (by omega) (Lv_fin hE hs ⟨k, Nat.le_refl k, hk⟩))⟩
theorem isIn_cg {a w t : Int32} {m ν : Mm} (h : m 6 = ν 6) : f_X8_isIn a w t m = f_X8_isIn a w t ν := by
  unfold f_X8_isIn; rw [h]
theorem spread_ok {A M s : Nat} {x2 x3 x4 : Int32} {ν : Mm} {both : Bool} {W : Nat → Bool} {pa pb : Nat → Nat} (hA : A ≤ 20) (e3 : ν 0 3 = nI A) (hs : s < A) (hM : M ≤ 200) (hx2 : ∀ i, i ≤ M → (x2 < nI i ↔ M ≤ i))
    (hW : ∀ q, q < M → f_X8_isIn (nI q) x3 x4 ν = some (b2 (W q))) (hp : ∀ q, q < M → pa q < A ∧ pb q < A ∧ ν 3 q = nI (pa q) ∧ ν 4 q = nI (pb q)) :
    ∃ ν', f_X8_spreads (nI s) x2 x3 x4 (b2 both) ν = some ν' ∧ (∀ k, k ≠ 11 → ν' k = ν k) ∧ ∀ b, b < A → Far (Ed both W pa pb M) A s b (ν' 11 b) := by
  have hE : ∀ a b, Ed both W pa pb M a b → b < A := by
    rintro a b ⟨x, hx, _, ⟨_, c⟩ | ⟨_, _, c⟩⟩
    · rw [← c]; exact (hp x hx).2.1
    · rw [← c]; exact (hp x hx).1
  have rlxE : ∀ (n : Int32) (a b : Nat) (m : Mm) (K : Mm → Option Mm), a < A → b < A → (chk (nI a) 20 (if (m 11 (nI a).toNatClampNeg : Int32) = n then K (if m 11 b = 99 then up2 m 11 b (n + 1) else m) else K m)) = K (rlx n a b m) := by
    intro n a b m K ha hb
    rw [chk_nI (show a < 20 by omega) (by omega), w_nat (by omega)]
    unfold rlx
    by_cases h : m 11 a = n
    · rw [if_pos h, if_pos h]
    · rw [if_neg h, if_neg h]
  have L49 : ∀ (kb : Int32 → Mm → Option Mm) (kx : Mm → Option Mm) (n : Nat), n + 1 < 99 → ∀ m, (∀ k, k ≠ 11 → m k = ν k) → St (Ed both W pa pb M) s A n (m 11) → ∃ m', f_X8_spreads_L49 kb kx x2 x3 x4 (b2 both) (nI n) fuel 0 m = kx m' ∧ (∀ k, k ≠ 11 → m' k = ν k) ∧ St (Ed both W pa pb M) s A (n + 1) (m' 11) := by
    intro kb kx n hn m hm hS
    have hh := up_loopR (fun f y (m : Mm) => f_X8_spreads_L49 kb kx x2 x3 x4 (b2 both) (nI n) f y m) M kx (fun q m => (∀ k, k ≠ 11 → m k = ν k) ∧ Iv (Ed both W pa pb M) s A n (Ed both W pa pb q) (m 11)) ?_ ?_ M fuel 0 m (by omega) (by unfold fuel; omega) ⟨hm, St_Iv hS⟩
    · obtain ⟨m', h1, h2, h3⟩ := hh
      exact ⟨m', h1, h2, Iv_St h3⟩
    · intro f m _
      show f_X8_spreads_L49 kb kx x2 x3 x4 (b2 both) (nI n) (f + 1) (nI M) m = _
      unfold f_X8_spreads_L49
      rw [if_pos ((hx2 M (Nat.le_refl M)).mpr (Nat.le_refl M))]
    · intro f q m hq ⟨hI1, hI2⟩
      refine ⟨rstep both W pa pb (nI n) q m, ?_, fun k hk => by rw [rstep_n hk]; exact hI1 k hk, rstep_iv hn hq (hp q hq).1 (hp q hq).2.1 hI2⟩
      show f_X8_spreads_L49 kb kx x2 x3 x4 (b2 both) (nI n) (f + 1) (nI q) m = f_X8_spreads_L49 kb kx x2 x3 x4 (b2 both) (nI n) f (nI (q + 1)) _
      conv => lhs; unfold f_X8_spreads_L49
      obtain ⟨p1, p2, p3, p4⟩ := hp q hq
      have cq : ∀ {α : Type} (k : Option α), chk (nI q) 200 k = k := fun k => chk_nI (by omega) (by omega)
      have ca : ∀ {α : Type} (k : Option α), chk (nI (pa q)) 20 k = k := fun k => chk_nI (by omega) (by omega)
      have cb : ∀ {α : Type} (k : Option α), chk (nI (pb q)) 20 k = k := fun k => chk_nI (by omega) (by omega)
      rw [if_neg (fun h => by have := (hx2 q (by omega)).mp h; omega), isIn_cg (hI1 6 (by omega)), hW q hq, Option.bind_some]
      unfold rstep
      cases hw : W q
      · rw [b2_f, if_pos rfl, if_neg (by simp), w_succ]
      · rw [b2_t, if_neg (by decide), if_pos rfl, w_nat (show q < 2147483648 by omega), hI1 3 (by omega), hI1 4 (by omega), p3, p4]
        have J : ∀ m1 : Mm, (∀ k, k ≠ 11 → m1 k = ν k) → f_X8_spreads_J120 kb (f_X8_spreads_L49 kb kx x2 x3 x4 (b2 both) (nI n) f) kx x2 x3 x4 (b2 both) (nI n) (nI q) m1 = f_X8_spreads_L49 kb kx x2 x3 x4 (b2 both) (nI n) f (nI (q + 1)) (if both = true then rlx (nI n) (pb q) (pa q) m1 else m1) := by
          intro m1 hm1
          unfold f_X8_spreads_J120
          cases hbo : both
          · rw [b2_f, if_pos rfl, if_neg (by simp), w_succ]
          · rw [b2_t, if_neg (by decide), if_pos rfl]
            simp only [cq, w_nat (show q < 2147483648 by omega), hm1 3 (by omega), hm1 4 (by omega), p3, p4, ca, cb, w_nat (show pa q < 2147483648 by omega), w_nat (show pb q < 2147483648 by omega), w_succ]
            unfold rlx
            by_cases g1 : m1 11 (pb q) = nI n
            · rw [if_pos g1, if_pos g1]
              by_cases g2 : m1 11 (pa q) = 99
              · rw [if_pos g2, if_pos g2, w_succ]
              · rw [if_neg g2, if_neg g2]
            · rw [if_neg g1, if_neg g1]
        simp only [cq, ca, cb, w_nat (show pa q < 2147483648 by omega), w_nat (show pb q < 2147483648 by omega), w_succ]
        rw [show rlx (nI n) (pa q) (pb q) m = (if m 11 (pa q) = nI n then (if m 11 (pb q) = 99 then up2 m 11 (pb q) (nI n + 1) else m) else m) from rfl]
        by_cases g1 : m 11 (pa q) = nI n
        · rw [if_pos g1, if_pos g1]
          by_cases g2 : m 11 (pb q) = 99
          · rw [if_pos g2, if_pos g2, J _ (fun k hk => by rw [up2_n hk]; exact hI1 k hk), w_succ]
          · rw [if_neg g2, if_neg g2, J _ hI1]
        · rw [if_neg g1, if_neg g1, J _ hI1]
  have L37 : ∀ m, (∀ k, k ≠ 11 → m k = ν k) → St (Ed both W pa pb M) s A 0 (m 11) → ∃ m', f_X8_spreads_L37 x2 x3 x4 (b2 both) fuel 0 m = some m' ∧ (∀ k, k ≠ 11 → m' k = ν k) ∧ St (Ed both W pa pb M) s A A (m' 11) := by
    intro m hm hS
    refine up_loopR (fun f y (m : Mm) => f_X8_spreads_L37 x2 x3 x4 (b2 both) f y m) A (fun m => some m) (fun n m => (∀ k, k ≠ 11 → m k = ν k) ∧ St (Ed both W pa pb M) s A n (m 11)) ?_ ?_ A fuel 0 m (by omega) (by unfold fuel; omega) ⟨hm, hS⟩
    · intro f m hI
      show f_X8_spreads_L37 x2 x3 x4 (b2 both) (f + 1) (nI A) m = _
      unfold f_X8_spreads_L37
      rw [hI.1 0 (by omega), e3, if_pos (by rw [w_le (by omega) (by omega)]; omega)]
    · intro f n m hn hI
      obtain ⟨m', h1, h2⟩ := L49 (f_X8_spreads_L37 x2 x3 x4 (b2 both) f) (fun (m27 : Mm) => f_X8_spreads_L37 x2 x3 x4 (b2 both) f (nI n + 1) m27) n (by omega) m hI.1 hI.2
      refine ⟨m', ?_, h2⟩
      show f_X8_spreads_L37 x2 x3 x4 (b2 both) (f + 1) (nI n) m = f_X8_spreads_L37 x2 x3 x4 (b2 both) f (nI (n + 1)) m'
      conv => lhs; unfold f_X8_spreads_L37
      rw [hI.1 0 (by omega), e3, if_neg (by rw [w_le (by omega) (by omega)]; omega), h1, w_succ]
  unfold f_X8_spreads
  have hh := up_loopR (fun f y (m : Mm) => f_X8_spreads_L3 (fun (m3 : Mm) => (chk (nI s) 20 (f_X8_spreads_L37 x2 x3 x4 (b2 both) fuel 0 (up2 m3 11 (nI s).toNatClampNeg 0)))) (nI s) x2 x3 x4 (b2 both) f y m) A (fun (m3 : Mm) => (chk (nI s) 20 (f_X8_spreads_L37 x2 x3 x4 (b2 both) fuel 0 (up2 m3 11 (nI s).toNatClampNeg 0)))) (fun i m => (∀ k, k ≠ 11 → m k = ν k) ∧ ∀ b, b < i → m 11 b = 99) ?_ ?_ A fuel 0 ν (by omega) (by unfold fuel; omega) ⟨fun k _ => rfl, fun b hb => by omega⟩
  · obtain ⟨m', h1, h2, h3⟩ := hh
    have h1' : f_X8_spreads_L3 (fun (m3 : Mm) => (chk (nI s) 20 (f_X8_spreads_L37 x2 x3 x4 (b2 both) fuel 0 (up2 m3 11 (nI s).toNatClampNeg 0)))) (nI s) x2 x3 x4 (b2 both) fuel 0 ν = chk (nI s) 20 (f_X8_spreads_L37 x2 x3 x4 (b2 both) fuel 0 (up2 m' 11 (nI s).toNatClampNeg 0)) := h1
    rw [h1', chk_nI (show s < 20 by omega) (by omega), w_nat (by omega)]
    obtain ⟨m2, g1, g2, g3⟩ := L37 (up2 m' 11 s 0) (fun k hk => by rw [up2_n hk]; exact h2 k hk) (by
      intro b hb
      rw [up2_s]
      unfold upd
      by_cases hbs : b = s
      · rw [if_pos hbs]
        exact Or.inl ⟨0, Nat.le_refl 0, rfl, hbs, fun j hj => by omega⟩
      · rw [if_neg hbs]
        exact Or.inr ⟨h3 b hb, fun hL => hbs (Lv_0.mp hL)⟩)
    exact ⟨m2, g1, g2, fun b hb => St_Far hE hs g3 hb⟩
  · intro f m hI
    show f_X8_spreads_L3 _ (nI s) x2 x3 x4 (b2 both) (f + 1) (nI A) m = _
    unfold f_X8_spreads_L3
    rw [hI.1 0 (by omega), e3, if_pos (by rw [w_le (by omega) (by omega)]; omega)]
  · intro f i m hi hI
    refine ⟨up2 m 11 i 99, ?_, fun k hk => by rw [up2_n hk]; exact hI.1 k hk, fun b hb => ?_⟩
    · show f_X8_spreads_L3 _ (nI s) x2 x3 x4 (b2 both) (f + 1) (nI i) m = _
      conv => lhs; unfold f_X8_spreads_L3
      rw [hI.1 0 (by omega), e3, if_neg (by rw [w_le (by omega) (by omega)]; omega), chk_nI (show i < 20 by omega) (by omega), w_nat (show i < 2147483648 by omega), w_succ]
    · rw [up2_s]
      unfold upd
      by_cases hbi : b = i
      · rw [if_pos hbi]
      · rw [if_neg hbi]; exact hI.2 b (by omega)
