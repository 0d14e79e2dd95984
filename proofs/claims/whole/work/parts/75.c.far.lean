/-! ===== L3: group, links, closing: the model is the component ===== -/
theorem Ll_uniq {E : Nat → Nat → Prop} {s : Nat} {g : Nat → Prop} {r r' : Int32} (h1 : Ll E s g r) (h2 : Ll E s g r') : r = r' := by
  rcases h1 with ⟨a1, a2⟩ | ⟨k, a1, a2, ⟨b, a3, a4, a5⟩, a6⟩ <;> rcases h2 with ⟨b1, b2⟩ | ⟨l, b1, b2, ⟨c, b3, b4, b5⟩, b6⟩
  · rw [a1, b1]
  · exact absurd ⟨b4, b5⟩ (a2 l b1 c b3)
  · exact absurd ⟨a4, a5⟩ (b2 k a1 b a3)
  · rw [a2, b2]
    rcases Nat.lt_trichotomy k l with h | h | h
    · exact absurd ⟨a4, a5⟩ (b6 k h b a3)
    · rw [h]
    · exact absurd ⟨b4, b5⟩ (a6 l h c b3)
theorem Far_lt {E : Nat → Nat → Prop} {A s b : Nat} {v : Int32} (hA : A ≤ 20) (h : Far E A s b v) : ((99 : Int32) ≤ v ∧ ¬ Lv E s 19 b) ∨ (¬ (99 : Int32) ≤ v ∧ Lv E s 19 b) := by
  rcases h with ⟨h1, h2⟩ | ⟨d, h1, h2, h3⟩
  · left
    rw [h1]
    exact ⟨by decide, fun ⟨j, _, hw⟩ => h2 j hw⟩
  · right
    rw [h2, e99, w_le (by omega) (by omega)]
    exact ⟨by omega, d, by omega, h3.1⟩
theorem lvB_f {E : Nat → Nat → Prop} {s k b : Nat} (h : ¬ Lv E s k b) : lvB E s k b = false := by
  cases hc : lvB E s k b
  · rfl
  · exact absurd (lvB_t.mp hc) h
theorem reached_far {E : Nat → Nat → Prop} {A s : Nat} {m : Mm} (hA : A ≤ 20) (e3 : m 0 3 = nI A) (hF : ∀ b, b < A → Far E A s b (m 11 b)) : f_X8_reached_L16 m fuel 0 0 = some (nI (fb_ct (lvB E s 19) A), m) := by
  obtain ⟨v, h1, h2⟩ := up_loopR (fun f y (v : Int32) => f_X8_reached_L16 m f v y) A (fun v => some (v, m)) (fun i v => v = nI (fb_ct (lvB E s 19) i)) (by
    intro f v _
    show f_X8_reached_L16 m (f + 1) v (nI A) = _
    unfold f_X8_reached_L16
    rw [e3, if_pos (by rw [w_le (by omega) (by omega)]; omega)]) (by
    intro f i v hi hv
    refine ⟨nI (fb_ct (lvB E s 19) (i + 1)), ?_, rfl⟩
    show f_X8_reached_L16 m (f + 1) v (nI i) = _
    conv => lhs; unfold f_X8_reached_L16
    rw [e3, if_neg (by rw [w_le (by omega) (by omega)]; omega), chk_nI (show i < 20 by omega) (by omega), w_nat (by omega), hv, fb_ct_succ, w_succ]
    rcases Far_lt hA (hF i hi) with ⟨g1, g2⟩ | ⟨g1, g2⟩
    · rw [if_pos g1, lvB_f g2]
      show f_X8_reached_L16 m f (nI _ + nI 0) _ = _
      rw [w_add]; rfl
    · rw [if_neg g1, lvB_t.mpr g2, w_succ]; rfl) A fuel 0 0 (by omega) (by unfold fuel; omega) rfl
  have h1' : f_X8_reached_L16 m fuel 0 0 = some (v, m) := h1
  rw [h1', h2]
theorem pop_lv {E : Nat → Nat → Prop} {A s : Nat} {y : Int32} (hA : A ≤ 20) (hE : ∀ a b, E a b → b < A) (hs : s < A) (h : SB y (Lv E s 19)) : pop y = fb_ct (lvB E s 19) A := by
  unfold pop
  have e1 : fb_ct (fun i => bt y i) 32 = fb_ct (lvB E s 19) 32 := by
    apply fb_ct_cong
    intro k hk
    rw [Bool.eq_iff_iff, lvB_t]
    exact h k hk
  rw [e1, show (32 : Nat) = A + (32 - A) by omega, fb_ct_split]
  have e2 : fb_ct (fun k => lvB E s 19 (A + k)) (32 - A) = 0 := by
    rw [fb_ct_zero]
    intro k hk
    apply lvB_f
    rintro ⟨j, _, hw⟩
    have := Wk_lt hE hs j _ hw
    omega
  rw [e2]; rfl
/-- the model's least of the marked -/
def Tm (E : Nat → Nat → Prop) (s : Nat) (mk : Int32) (i : Nat) (x : Int32) : Prop := (x = 99 ∧ ∀ b, b < i → bt mk b = true → ∀ k, ¬ Wk E s k b) ∨ ∃ d, d < 20 ∧ x = nI d ∧ (∃ b, b < i ∧ bt mk b = true ∧ Wk E s d b) ∧ ∀ b, b < i → bt mk b = true → ∀ j, j < d → ¬ Wk E s j b
theorem Tm_Ll {E : Nat → Nat → Prop} {A s : Nat} {mk x : Int32} (hA : A ≤ 20) (hE : ∀ a b, E a b → b < A) (hs : s < A) (h : Tm E s mk A x) : Ll E s (fun b => bt mk b = true) x := by
  rcases h with ⟨h1, h2⟩ | ⟨d, h1, h2, ⟨b, h3, h4, h5⟩, h6⟩
  · left
    refine ⟨h1, fun j hj b hb ⟨⟨i, hi, hw⟩, hg⟩ => ?_⟩
    exact h2 b (Wk_lt hE hs i b hw) hg i hw
  · right
    refine ⟨d, h1, h2, ⟨b, by omega, ⟨d, Nat.le_refl d, h5⟩, h4⟩, fun j hj b hb ⟨⟨i, hi, hw⟩, hg⟩ => ?_⟩
    exact h6 b (Wk_lt hE hs i b hw) hg i (by omega) hw
theorem toMarked_far {E : Nat → Nat → Prop} {A s : Nat} {mk : Int32} {m : Mm} (hA : A ≤ 20) (e3 : m 0 3 = nI A) (hF : ∀ b, b < A → Far E A s b (m 11 b)) : ∃ x, f_X8_toMarked_L26 mk m fuel 99 0 = some (x, m) ∧ Tm E s mk A x := by
  refine up_loopR (fun f y (v : Int32) => f_X8_toMarked_L26 mk m f v y) A (fun v => some (v, m)) (Tm E s mk) (by
    intro f v _
    show f_X8_toMarked_L26 mk m (f + 1) v (nI A) = _
    unfold f_X8_toMarked_L26
    rw [e3, if_pos (by rw [w_le (by omega) (by omega)]; omega)]) ?_ A fuel 0 99 (by omega) (by unfold fuel; omega) (Or.inl ⟨rfl, fun b hb => by omega⟩)
  intro f i v hi hv
  show ∃ s', f_X8_toMarked_L26 mk m (f + 1) v (nI i) = f_X8_toMarked_L26 mk m f s' (nI (i + 1)) ∧ _
  conv => enter [1, s', 1, 1]; unfold f_X8_toMarked_L26
  rw [e3, if_neg (by rw [w_le (by omega) (by omega)]; omega), has_eq _ (show i < 32 by omega), Option.bind_some, chk_nI (show i < 20 by omega) (by omega), w_nat (by omega), w_succ]
  cases hb : bt mk i
  · rw [b2_f, if_pos rfl]
    refine ⟨v, rfl, ?_⟩
    have ex : ∀ b, b < i + 1 → bt mk b = true → b < i := fun b h1 h2 => by
      by_cases hbi : b = i
      · rw [hbi, hb] at h2; cases h2
      · omega
    rcases hv with ⟨h1, h2⟩ | ⟨d, h1, h2, ⟨b, h3, h4, h5⟩, h6⟩
    · exact Or.inl ⟨h1, fun b hb1 hb2 => h2 b (ex b hb1 hb2) hb2⟩
    · exact Or.inr ⟨d, h1, h2, ⟨b, by omega, h4, h5⟩, fun b hb1 hb2 => h6 b (ex b hb1 hb2) hb2⟩
  · rw [b2_t, if_neg (by decide)]
    rcases hF i hi with ⟨g1, g2⟩ | ⟨e, g1, g2, g3⟩
    · rw [g1]
      refine ⟨v, ?_, ?_⟩
      · rw [if_neg]
        rcases hv with ⟨h1, _⟩ | ⟨d, h1, h2, _⟩
        · rw [h1]; decide
        · rw [h2, e99, w_lt (by omega) (by omega)]; omega
      · rcases hv with ⟨h1, h2⟩ | ⟨d, h1, h2, ⟨b, h3, h4, h5⟩, h6⟩
        · refine Or.inl ⟨h1, fun b hb1 hb2 => ?_⟩
          by_cases hbi : b = i
          · rw [hbi]; exact g2
          · exact h2 b (by omega) hb2
        · refine Or.inr ⟨d, h1, h2, ⟨b, by omega, h4, h5⟩, fun b hb1 hb2 => ?_⟩
          by_cases hbi : b = i
          · rw [hbi]; exact fun j _ => g2 j
          · exact h6 b (by omega) hb2
    · rw [g2]
      rcases hv with ⟨h1, h2⟩ | ⟨d, h1, h2, ⟨b, h3, h4, h5⟩, h6⟩
      · refine ⟨nI e, ?_, Or.inr ⟨e, by omega, rfl, ⟨i, by omega, hb, g3.1⟩, fun b hb1 hb2 => ?_⟩⟩
        · rw [h1, if_pos]; rw [e99, w_lt (by omega) (by omega)]; omega
        · by_cases hbi : b = i
          · rw [hbi]; exact g3.2
          · exact fun j _ => h2 b (by omega) hb2 j
      · by_cases hde : e < d
        · refine ⟨nI e, ?_, Or.inr ⟨e, by omega, rfl, ⟨i, by omega, hb, g3.1⟩, fun b hb1 hb2 => ?_⟩⟩
          · rw [h2, if_pos]; rw [w_lt (by omega) (by omega)]; exact hde
          · by_cases hbi : b = i
            · rw [hbi]; exact g3.2
            · exact fun j hj => h6 b (by omega) hb2 j (by omega)
        · refine ⟨nI d, ?_, Or.inr ⟨d, h1, rfl, ⟨b, by omega, h4, h5⟩, fun b hb1 hb2 => ?_⟩⟩
          · rw [h2, if_neg]; rw [w_lt (by omega) (by omega)]; exact hde
          · by_cases hbi : b = i
            · rw [hbi]; exact fun j hj => g3.2 j (by omega)
            · exact h6 b (by omega) hb2
/-! ===== the table at a payment ===== -/
def pA (ν : Mm) (q : Nat) : Nat := (ν 3 q).toNatClampNeg
def pB (ν : Mm) (q : Nat) : Nat := (ν 4 q).toNatClampNeg
theorem Led_ab {A T P q : Nat} {μ ν : Mm} (hA : A ≤ 20) (hL : Led A T P μ ν) (hq : q < P) : pA ν q < A ∧ pB ν q < A ∧ ν 3 q = nI (pA ν q) ∧ ν 4 q = nI (pB ν q) ∧ pA ν q ≠ pB ν q := by
  obtain ⟨_, _, _, _, a, b, c, m, z1, z2, z3, z4, z5, z6, z7, z8, z9⟩ := hL.2.2.2.1 q hq
  unfold pA pB
  rw [z6, z7, w_nat (by omega), w_nat (by omega)]
  exact ⟨z1, z2, rfl, rfl, z3.2⟩
theorem spreadP {A T P p s : Nat} {w : Int32} {μ ν : Mm} (both : Bool) (hA : Acc A μ ν) (hL : Led A T P μ ν) (hp : p < P) (hs : s < A) :
    ∃ ν', f_X8_spreads (nI s) (nI p) w (ν 6 p) (b2 both) ν = some ν' ∧ (∀ k, k ≠ 11 → ν' k = ν k) ∧ ∀ b, b < A → Far (Ed both (fun q => decide (lo (cut ν p) w p ≤ q)) (pA ν) (pB ν) (p + 1)) A s b (ν' 11 b) := by
  have hP := hL.1
  refine spread_ok hA.1 hA.2.2.1 hs (by omega) (fun i hi => ?_) (fun q hq => isIn_lo hL hp (by omega)) (fun q hq => ?_)
  · rw [w_lt (by omega) (by omega)]; omega
  · obtain ⟨h1, h2, h3, h4, _⟩ := Led_ab hA.1 hL (show q < P by omega)
    exact ⟨h1, h2, h3, h4⟩
theorem netP {A T P p i : Nat} {μ ν : Mm} (hA : Acc A μ ν) (hL : Led A T P μ ν) (hp : p < P) (hi : i ≤ p + 1) :
    Net (Ed false (fun q => decide (i ≤ q)) (pA ν) (pB ν) (p + 1)) (nt (cut ν p) i (p + 1 - i) 11) ∧ Net (Ed true (fun q => decide (i ≤ q)) (pA ν) (pB ν) (p + 1)) (nt (cut ν p) i (p + 1 - i) 12) := by
  have hA20 := hA.1
  refine nt_Net hi (fun q hq => ?_)
  obtain ⟨h1, h2, h3, h4, _⟩ := Led_ab hA.1 hL (show q < P by omega)
  refine ⟨by omega, by omega, ?_, ?_⟩
  · rw [cut_le (show q ≤ p by omega)]; exact h3
  · rw [cut_le (show q ≤ p by omega)]; exact h4
theorem EdP {A T P p : Nat} {both : Bool} {W : Nat → Bool} {μ ν : Mm} (hA : Acc A μ ν) (hL : Led A T P μ ν) (hp : p < P) : ∀ a b, Ed both W (pA ν) (pB ν) (p + 1) a b → b < A := by
  intro a b h
  exact (Ed_lt (fun q hq => by
    obtain ⟨h1, h2, _⟩ := Led_ab hA.1 hL (show q < P by omega)
    exact ⟨h1, h2⟩) h).2
theorem mV103 {A T P p : Nat} {w mk : Int32} {μ ν : Mm} (hA : Acc A μ ν) (hL : Led A T P μ ν) (hT : T ≤ 800000) (hp : p < P) (hw : win w) : ∃ ν', f_X8_valueBy (nI p) (nI 103) w mk ν = some (V (cut ν p) (nI 103) w mk p, ν') ∧ ∀ k, k ≠ 11 → ν' k = ν k := by
  have hP := hL.1
  have hA20 := hA.1
  have hl := (lo_le hT hL hp hw).1
  obtain ⟨p1, p2, p3, p4, p5⟩ := Led_ab hA.1 hL hp
  have v : V (cut ν p) (nI 103) w mk p = (f_X5_groupSize (cut ν p 0 p) (nt (cut ν p) (lo (cut ν p) w p) (p + 1 - lo (cut ν p) w p))).getD 0 := by unfold V; rw [if_neg (by decide), if_neg (by decide), if_neg (by decide), if_neg (by decide), if_pos (by decide)]
  obtain ⟨ν', s1, s2, s3⟩ := spreadP (w := w) true hA hL hp p1
  have cp : ∀ {α : Type} (k : Option α), chk (nI p) 200 k = k := fun k => chk_nI (by omega) (by omega)
  have c0 : cut ν p 0 p = nI (pA ν p) := by rw [cut_le (Nat.le_refl p)]; exact p3
  obtain ⟨y, g1, g2⟩ := group_val (netP hA hL hp (show lo (cut ν p) w p ≤ p + 1 by omega)).2 (show pA ν p < 20 by omega)
  refine ⟨ν', ?_, s2⟩
  unfold f_X8_valueBy f_X8_reached
  rw [if_pos (by decide), cp, cp, w_nat (show p < 2147483648 by omega), p3, show (1 : Int32) = b2 true from rfl, s1, Option.bind_some, reached_far hA20 (by rw [s2 0 (by omega)]; exact hA.2.2.1) s3, Option.bind_some, v, c0, g2, pop_lv hA20 (EdP hA hL hp) p1 g1]
  rfl
theorem mV100 {A T P p : Nat} {w mk : Int32} {μ ν : Mm} (hA : Acc A μ ν) (hL : Led A T P μ ν) (hT : T ≤ 800000) (hp : p < P) (hw : win w) : ∃ ν', f_X8_valueBy (nI p) (nI 100) w mk ν = some (V (cut ν p) (nI 100) w mk p, ν') ∧ ∀ k, k ≠ 11 → ν' k = ν k := by
  have hP := hL.1
  have hA20 := hA.1
  have hl := (lo_le hT hL hp hw).1
  obtain ⟨p1, p2, p3, p4, p5⟩ := Led_ab hA.1 hL hp
  have v : V (cut ν p) (nI 100) w mk p = (f_X5_leastLinks (cut ν p 1 p) mk 99 (nt (cut ν p) (lo (cut ν p) w p) (p + 1 - lo (cut ν p) w p))).getD 0 := by unfold V; rw [if_neg (by decide), if_neg (by decide), if_pos (by decide)]
  obtain ⟨ν', s1, s2, s3⟩ := spreadP (w := w) true hA hL hp p2
  have cp : ∀ {α : Type} (k : Option α), chk (nI p) 200 k = k := fun k => chk_nI (by omega) (by omega)
  have c1 : cut ν p 1 p = nI (pB ν p) := by rw [cut_le (Nat.le_refl p)]; exact p4
  obtain ⟨r, g1, g2⟩ := links_val (x2 := mk) (netP hA hL hp (show lo (cut ν p) w p ≤ p + 1 by omega)).2 (show pB ν p < 20 by omega)
  obtain ⟨x, t1, t2⟩ := toMarked_far (mk := mk) hA20 (by rw [s2 0 (by omega)]; exact hA.2.2.1) s3
  refine ⟨ν', ?_, s2⟩
  unfold f_X8_valueBy f_X8_toMarked
  rw [if_neg (by decide), if_neg (by decide), if_pos (by decide), cp, cp, w_nat (show p < 2147483648 by omega), p4, show (1 : Int32) = b2 true from rfl, s1, Option.bind_some, t1, Option.bind_some, v, c1, g1, Ll_uniq (Tm_Ll hA20 (EdP hA hL hp) p2 t2) g2]
  rfl
theorem mV107 {A T P p : Nat} {w mk : Int32} {μ ν : Mm} (hA : Acc A μ ν) (hL : Led A T P μ ν) (hT : T ≤ 800000) (hp : p < P) (hw : win w) : ∃ ν', f_X8_valueBy (nI p) (nI 107) w mk ν = some (V (cut ν p) (nI 107) w mk p, ν') ∧ ∀ k, k ≠ 11 → ν' k = ν k := by
  have hP := hL.1
  have hA20 := hA.1
  have hl := (lo_le hT hL hp hw).1
  obtain ⟨p1, p2, p3, p4, p5⟩ := Led_ab hA.1 hL hp
  obtain ⟨ν', s1, s2, s3⟩ := spreadP (w := w) false hA hL hp p2
  have cp : ∀ {α : Type} (k : Option α), chk (nI p) 200 k = k := fun k => chk_nI (by omega) (by omega)
  have c0 : cut ν p 0 p = nI (pA ν p) := by rw [cut_le (Nat.le_refl p)]; exact p3
  have c1 : cut ν p 1 p = nI (pB ν p) := by rw [cut_le (Nat.le_refl p)]; exact p4
  obtain ⟨r, g1, g2⟩ := way_val (t := pA ν p) (netP hA hL hp (show lo (cut ν p) w p ≤ p + 1 by omega)).1 (show pB ν p < 20 by omega) (by omega)
  have v : V (cut ν p) (nI 107) w mk p = if r = -1 then 0 else 1 + r := by
    unfold V
    rw [if_neg (by decide), if_neg (by decide), if_neg (by decide), if_neg (by decide), if_neg (by decide), if_neg (by decide), if_neg (by decide), if_neg (by decide), if_neg (by decide), if_neg (by decide), if_neg (by decide), if_neg (by decide), c0, c1, g1]
  refine ⟨ν', ?_, s2⟩
  unfold f_X8_valueBy f_X8_closing
  rw [if_neg (by decide), if_pos (by decide), cp, cp, w_nat (show p < 2147483648 by omega), p4, show (0 : Int32) = b2 false from rfl, s1, Option.bind_some, cp, s2 3 (by omega), p3, chk_nI (show pA ν p < 20 by omega) (by omega), cp, chk_nI (show pA ν p < 20 by omega) (by omega), w_nat (show pA ν p < 2147483648 by omega), v]
  rcases s3 (pA ν p) p1 with ⟨f1, f2⟩ | ⟨d, f1, f2, f3⟩
  · rw [if_pos f1, Option.bind_some]
    rcases g2 with ⟨h1, _⟩ | ⟨k, _, _, _, h4, _⟩
    · rw [if_pos h1]; rfl
    · exact absurd h4 (f2 k)
  · have hd : d ≠ 0 := by
      intro h0
      rw [h0] at f3
      exact p5 f3.1
    have e : r = nI d := Sw_uniq g2 (Or.inr ⟨d, by omega, by omega, rfl, f3.1, fun i _ h => f3.2 i h⟩)
    rw [f2, if_neg (by rw [e99, w_eq (by omega) (by omega)]; omega), Option.bind_some, e, if_neg (m1_ne (by omega))]
