section
/-! ===== what a quotient of two converted ints is: no NaN (goes first: it wants the wide library) ===== -/
theorem n64_ok {x : UInt64} (h : FP.Core.dIsNaN x = false) : vf_n64 x := by
  unfold vf_n64
  have h2 : ¬ (9218868437227405312 < x.toNat % 2 ^ 63) := fun h3 => by rw [(FP.Core.isNaN_bits x).mpr h3] at h; cases h
  rw [UInt64.le_iff_toNat_le, UInt64.toNat_and]
  show x.toNat &&& (2 ^ 63 - 1) ≤ 9218868437227405312
  rw [Nat.and_two_pow_sub_one_eq_mod]
  omega
theorem mean_n {a b : Int32} (hb : b ≠ 0) : FP.Core.dIsNaN (FP.ddiv (FP.i2d a) (FP.i2d b)) = false := by
  refine FP.Core.ddiv_out (FP.Core.i2d_fin a).notNaN (FP.Core.i2d_fin b) ?_
  intro hz
  have h1 := FP.Core.i2d_ne_zero hb
  exact h1 ((FP.Core.zero_bits2 _).mp hz)
theorem cmp_d {x : UInt64} (h : FP.Core.dIsNaN x = false) : Op.cmpValue (FP.dcmp x x) .l = 0 := by
  have e : FP.dcmp x x = some .eq := FP.Core.dcmp_self ((FP.Core.notNaN_iff x).mp h)
  rw [e]; rfl
theorem n32_ok {x : UInt32} (h : FP.Core.fIsNaN x = false) : vf_n32 x := by
  unfold vf_n32
  have h2 : ¬ (2139095040 < x.toNat % 2 ^ 31) := fun h3 => by rw [(FP.Core.isNaN_bits32 x).mpr h3] at h; cases h
  rw [UInt32.le_iff_toNat_le, UInt32.toNat_and]
  show x.toNat &&& (2 ^ 31 - 1) ≤ 2139095040
  rw [Nat.and_two_pow_sub_one_eq_mod]
  omega
theorem prec_n {a b : Int32} (hb : b ≠ 0) : FP.Core.fIsNaN (FP.fdiv (FP.i2f a) (FP.i2f b)) = false := by
  refine FP.Core.fdiv_out (FP.Core.i2f_fin a).notNaN (FP.Core.i2f_fin b) ?_
  intro hz
  have h1 := FP.Core.i2f_ne_zero hb
  exact h1 ((FP.Core.zero_bits232 _).mp hz)
theorem f2d_n {x : UInt32} (h : FP.Core.fIsNaN x = false) : FP.Core.dIsNaN (FP.f2d x) = false := by
  unfold FP.f2d
  rw [h, if_neg (by simp)]
  exact FP.Core.f2d_out h
end
section
def featL : List Int32 := [110, 115, 109, 108, 114, 99, 105, 103, 107, 100, 102, 113, 97]
abbrev Mm : Type := Nat → Nat → Int32
def up2 (μ : Mm) (k j : Nat) (v : Int32) : Mm := fun a => if a = k then upd (μ k) j v else μ a
theorem up2_s (μ : Mm) (k j : Nat) (v : Int32) : up2 μ k j v k = upd (μ k) j v := by simp [up2]
theorem up2_n {μ : Mm} {k j a : Nat} {v : Int32} (h : a ≠ k) : up2 μ k j v a = μ a := by simp [up2, h]
def inb (i : Int32) (n : Nat) : Bool := decide (0 ≤ i.toInt) && decide (i.toInt < n)
def chk {α : Type} (i : Int32) (n : Nat) (k : Option α) : Option α := if inb i n = true then k else none
theorem chk_some {α : Type} {i : Int32} {n : Nat} {k : Option α} {r : α} (h : chk i n k = some r) : vp_in i n ∧ k = some r := by
  unfold chk at h
  by_cases hb : inb i n = true
  · rw [if_pos hb] at h
    simp only [inb, Bool.and_eq_true, decide_eq_true_eq] at hb
    exact ⟨vp_in_iff.mpr hb, h⟩
  · rw [if_neg hb] at h
    cases h
def gn {α : Type} (t : FieldType) (x : Int32) (k : Option α) : Option α := if vp_nar t x = x then k else none
theorem gn_z {α : Type} {x : Int32} {k : Option α} {r : α} (h : gn .boolean x k = some r) : narrow .boolean (.int x) = .int x ∧ k = some r := by
  unfold gn at h
  by_cases hb : vp_nar .boolean x = x
  · rw [if_pos hb] at h
    exact ⟨by have h2 : narrow .boolean (.int x) = .int (vp_nar .boolean x) := rfl
              rw [h2, hb], h⟩
  · rw [if_neg hb] at h
    cases h
theorem gn_c {α : Type} {x : Int32} {k : Option α} {r : α} (h : gn .char x k = some r) : narrow .char (.int x) = .int x ∧ k = some r := by
  unfold gn at h
  by_cases hb : vp_nar .char x = x
  · rw [if_pos hb] at h
    exact ⟨by have h2 : narrow .char (.int x) = .int (vp_nar .char x) := rfl
              rw [h2, hb], h⟩
  · rw [if_neg hb] at h
    cases h
noncomputable def gx64 {α : Type} (x : UInt64) (k : Option α) : Option α := @ite _ (vf_n64 x) (Classical.propDecidable _) k none
noncomputable def gx32 {α : Type} (x : UInt32) (k : Option α) : Option α := @ite _ (vf_n32 x) (Classical.propDecidable _) k none
theorem gx64_some {α : Type} {x : UInt64} {k : Option α} {r : α} (h : gx64 x k = some r) : vf_n64 x ∧ k = some r := by
  unfold gx64 at h
  by_cases hb : vf_n64 x
  · rw [if_pos hb] at h; exact ⟨hb, h⟩
  · rw [if_neg hb] at h; cases h
theorem gx32_some {α : Type} {x : UInt32} {k : Option α} {r : α} (h : gx32 x k = some r) : vf_n32 x ∧ k = some r := by
  unfold gx32 at h
  by_cases hb : vf_n32 x
  · rw [if_pos hb] at h; exact ⟨hb, h⟩
  · rw [if_neg hb] at h; cases h
theorem bnd {α β : Type} {o : Option α} {k : α → Option β} {r : β} (h : o.bind k = some r) : ∃ a, o = some a ∧ k a = some r := by
  cases o with
  | none => cases h
  | some a => exact ⟨a, rfl, h⟩
theorem ite_t {α : Type} {c : Prop} [Decidable c] {a b r : α} (h : c) (hf : (if c then a else b) = r) : a = r := by rw [if_pos h] at hf; exact hf
theorem ite_e {α : Type} {c : Prop} [Decidable c] {a b r : α} (h : ¬ c) (hf : (if c then a else b) = r) : b = r := by rw [if_neg h] at hf; exact hf
def setm {α : Type} (m : Mm) (k : Mm → Option α) : Option α := k m
end
section
def fuel : Nat := 5000
def f_X0_append (a1 : Int32) (a2 : Int32) (μ : Mm) : Option (Int32 × Mm) := (chk (μ 2 2) 20 ((chk ((up2 μ 3 (μ 2 2).toNatClampNeg (vp_nar .char a1)) 2 2) 20 ((setm (up2 (up2 (up2 μ 3 (μ 2 2).toNatClampNeg (vp_nar .char a1)) 4 ((up2 μ 3 (μ 2 2).toNatClampNeg (vp_nar .char a1)) 2 2).toNatClampNeg a2) 2 2 (((up2 (up2 μ 3 (μ 2 2).toNatClampNeg (vp_nar .char a1)) 4 ((up2 μ 3 (μ 2 2).toNatClampNeg (vp_nar .char a1)) 2 2).toNatClampNeg a2) 2 2) + 1)) (fun mm3 => some ((up2 (up2 μ 3 (μ 2 2).toNatClampNeg (vp_nar .char a1)) 4 ((up2 μ 3 (μ 2 2).toNatClampNeg (vp_nar .char a1)) 2 2).toNatClampNeg a2) 2 2, mm3)))))))
def f_X7_open (a1 : Int32) (μ : Mm) : Option (Nat × Int32 × Mm) := (if (a1 : Int32) < 97 then some (4, 0, μ) else (if (a1 : Int32) ≤ 100 then (if (μ 2 2 : Int32) < 20 then ((f_X0_append a1 (μ 1 3) μ).bind (fun r4 => some (0, r4.1, r4.2))) else some (3, 0, μ)) else some (4, 0, μ)))
def f_L_open_0_o (a1 : Int32) (μ : Mm) (o : Nat → Int64) : Option (Int32 × Mm × (Nat → Int64)) := ((f_X7_open a1 μ).bind (fun r1 => (if r1.1 = 0 then (chk 0 1 (some (0, r1.2.2, (vp_updL o (0 : Int32).toNatClampNeg (r1.2.1 : Int32).toInt64)))) else (if r1.1 = 4 then some (1, r1.2.2, o) else (if r1.1 = 3 then some (2, r1.2.2, o) else none)))))
def f_X7_requireAccount (a1 : Int32) (μ : Mm) : Option (Nat) := (if (a1 : Int32) < 0 then some 1 else (if (a1 : Int32) < μ 2 2 then some 0 else some 1))
def f_X7_hasBit (a0 : Int32) (a1 : Int32)  : Option (Int32) := (if ((a0 >>> (a1 &&& 31)) &&& 1 : Int32) = 0 then some 0 else some 1)
def f_X7_withBit (a0 : Int32) (a1 : Int32) (a2 : Int32)  : Option (Int32) := (if (a2 : Int32) = 0 then some (a0 &&& ((1 <<< (a1 &&& 31)) ^^^ (-1))) else some (a0 ||| (1 <<< (a1 &&& 31))))
def f_X7_setMarked (a1 : Int32) (a2 : Int32) (μ : Mm) : Option (Nat × Int32 × Mm) := ((f_X7_requireAccount a1 μ).bind (fun r1 => (if r1 = 0 then ((f_X7_hasBit (μ 2 3) a1).bind (fun r4 => ((f_X7_withBit (μ 2 3) a1 a2).bind (fun r6 => (gn .boolean r4 (some (0, r4, (up2 μ 2 3 r6)))))))) else some (r1, 0, μ))))
def f_L_setMarked_0_o (a1 : Int32) (a2 : Int32) (μ : Mm) (o : Nat → Int64) : Option (Int32 × Mm × (Nat → Int64)) := ((f_X7_setMarked a1 a2 μ).bind (fun r1 => (if r1.1 = 0 then (if (r1.2.1 : Int32) = 0 then (chk 0 1 (some (0, r1.2.2, (vp_updL o (0 : Int32).toNatClampNeg 0)))) else (chk 0 1 (some (0, r1.2.2, (vp_updL o (0 : Int32).toNatClampNeg 1))))) else (if r1.1 = 1 then some (1, r1.2.2, o) else none))))
def f_X7_setBlocked (a1 : Int32) (a2 : Int32) (μ : Mm) : Option (Nat × Int32 × Mm) := ((f_X7_requireAccount a1 μ).bind (fun r1 => (if r1 = 0 then ((f_X7_hasBit (μ 2 4) a1).bind (fun r4 => ((f_X7_withBit (μ 2 4) a1 a2).bind (fun r6 => (gn .boolean r4 (some (0, r4, (up2 μ 2 4 r6)))))))) else some (r1, 0, μ))))
def f_L_setBlocked_0_o (a1 : Int32) (a2 : Int32) (μ : Mm) (o : Nat → Int64) : Option (Int32 × Mm × (Nat → Int64)) := ((f_X7_setBlocked a1 a2 μ).bind (fun r1 => (if r1.1 = 0 then (if (r1.2.1 : Int32) = 0 then (chk 0 1 (some (0, r1.2.2, (vp_updL o (0 : Int32).toNatClampNeg 0)))) else (chk 0 1 (some (0, r1.2.2, (vp_updL o (0 : Int32).toNatClampNeg 1))))) else (if r1.1 = 1 then some (1, r1.2.2, o) else none))))
def f_X7_isMarked (a1 : Int32) (μ : Mm) : Option (Nat × Int32) := ((f_X7_requireAccount a1 μ).bind (fun r1 => (if r1 = 0 then ((f_X7_hasBit (μ 2 3) a1).bind (fun r4 => (gn .boolean r4 (some (0, r4))))) else some (r1, 0))))
def f_L_isMarked_0_o (a1 : Int32) (μ : Mm) (o : Nat → Int64) : Option (Int32 × (Nat → Int64)) := ((f_X7_isMarked a1 μ).bind (fun r1 => (if r1.1 = 0 then (if (r1.2 : Int32) = 0 then (chk 0 1 (some (0, (vp_updL o (0 : Int32).toNatClampNeg 0)))) else (chk 0 1 (some (0, (vp_updL o (0 : Int32).toNatClampNeg 1))))) else (if r1.1 = 1 then some (1, o) else none))))
def f_X7_countryOf (a1 : Int32) (μ : Mm) : Option (Nat × Int32) := ((f_X7_requireAccount a1 μ).bind (fun r1 => (if r1 = 0 then (chk a1 20 ((gn .char (μ 3 a1.toNatClampNeg) (some (0, μ 3 a1.toNatClampNeg))))) else some (r1, 0))))
def f_L_countryOf_0_o (a1 : Int32) (μ : Mm) (o : Nat → Int64) : Option (Int32 × (Nat → Int64)) := ((f_X7_countryOf a1 μ).bind (fun r1 => (if r1.1 = 0 then (chk 0 1 (some (0, (vp_updL o (0 : Int32).toNatClampNeg (r1.2 : Int32).toInt64)))) else (if r1.1 = 1 then some (1, o) else none))))
def f_X4_firstAfter_L2 (kx26 : (Int32 → Option (Int32))) (x1 : Int32) (μ : Mm) : Nat → Int32 → Option (Int32)
  | 0, _ => none
  | n + 1, x3 => (if (μ 5 4 : Int32) ≤ x3 then kx26 x3 else (chk x3 200 ((if (x1 : Int32) < μ 9 x3.toNatClampNeg then kx26 x3 else f_X4_firstAfter_L2 kx26 x1 μ n (x3 + 1)))))
def f_X4_firstAfter (a1 : Int32) (a2 : Int32) (μ : Mm) : Option (Int32) := f_X4_firstAfter_L2 (fun (y4 : Int32) => some y4) a1 μ fuel a2
def f_X1_advance (a1 : Int32) (μ : Mm) : Option (Mm) := ((f_X4_firstAfter (((up2 μ 1 3 ((μ 1 3) + a1)) 1 3) - 10080) ((up2 μ 1 3 ((μ 1 3) + a1)) 1 4) (up2 μ 1 3 ((μ 1 3) + a1))).bind (fun r1 => some (up2 (up2 μ 1 3 ((μ 1 3) + a1)) 1 4 r1)))
def f_X7_pass (a1 : Int32) (μ : Mm) : Option (Nat × Int32 × Mm) := (if (a1 : Int32) < 1 then some (4, 0, μ) else (if (a1 : Int32) ≤ 1440 then ((f_X1_advance a1 μ).bind (fun r3 => some (0, r3 1 3, r3))) else some (4, 0, μ)))
def f_L_pass_0_o (a1 : Int32) (μ : Mm) (o : Nat → Int64) : Option (Int32 × Mm × (Nat → Int64)) := ((f_X7_pass a1 μ).bind (fun r1 => (if r1.1 = 0 then (chk 0 1 (some (0, r1.2.2, (vp_updL o (0 : Int32).toNatClampNeg (r1.2.1 : Int32).toInt64)))) else (if r1.1 = 4 then some (1, r1.2.2, o) else none))))
def f_X4_append (a1 : Int32) (a2 : Int32) (a3 : Int32) (a4 : Int32) (μ : Mm) : Option (Int32 × Mm) := (chk (μ 5 4) 200 ((chk ((up2 μ 6 (μ 5 4).toNatClampNeg a1) 5 4) 200 ((chk ((up2 (up2 μ 6 (μ 5 4).toNatClampNeg a1) 7 ((up2 μ 6 (μ 5 4).toNatClampNeg a1) 5 4).toNatClampNeg a2) 5 4) 200 ((setm (up2 (up2 (up2 μ 6 (μ 5 4).toNatClampNeg a1) 7 ((up2 μ 6 (μ 5 4).toNatClampNeg a1) 5 4).toNatClampNeg a2) 8 ((up2 (up2 μ 6 (μ 5 4).toNatClampNeg a1) 7 ((up2 μ 6 (μ 5 4).toNatClampNeg a1) 5 4).toNatClampNeg a2) 5 4).toNatClampNeg a3) (fun mm4 => (chk (mm4 5 4) 200 (some ((up2 mm4 9 (mm4 5 4).toNatClampNeg a4) 5 4, (up2 (up2 mm4 9 (mm4 5 4).toNatClampNeg a4) 5 4 (((up2 mm4 9 (mm4 5 4).toNatClampNeg a4) 5 4) + 1)))))))))))))
def f_X5_load_5_L3 (kx32 : (Mm → Option (Mm))) (x2 : Int32) (x3 : Int32)  : Nat → Int32 → Mm → Option (Mm)
  | 0, _, _ => none
  | n + 1, x4, μ => (if (20 : Int32) ≤ x4 then kx32 μ else (chk x4 20 ((chk x4 20 (f_X5_load_5_L3 kx32 x2 x3 n (x4 + 1) (up2 (up2 μ 11 x4.toNatClampNeg 0) 12 x4.toNatClampNeg 0))))))
def f_X5_load_5_L35  (x3 : Int32)  : Nat → Int32 → Mm → Option (Mm)
  | 0, _, _ => none
  | n + 1, x4, μ => (if (x3 : Int32) ≤ x4 then some μ else (chk x4 200 ((chk x4 200 ((chk (μ 6 x4.toNatClampNeg) 20 (((f_X7_withBit (μ 11 (μ 6 x4.toNatClampNeg).toNatClampNeg) (μ 7 x4.toNatClampNeg) 1).bind (fun r9 => (chk (μ 6 x4.toNatClampNeg) 20 ((chk (μ 6 x4.toNatClampNeg) 20 (((f_X7_withBit ((up2 μ 11 (μ 6 x4.toNatClampNeg).toNatClampNeg r9) 12 (μ 6 x4.toNatClampNeg).toNatClampNeg) (μ 7 x4.toNatClampNeg) 1).bind (fun r13 => (chk (μ 6 x4.toNatClampNeg) 20 ((chk (μ 7 x4.toNatClampNeg) 20 (((f_X7_withBit ((up2 (up2 μ 11 (μ 6 x4.toNatClampNeg).toNatClampNeg r9) 12 (μ 6 x4.toNatClampNeg).toNatClampNeg r13) 12 (μ 7 x4.toNatClampNeg).toNatClampNeg) (μ 6 x4.toNatClampNeg) 1).bind (fun r17 => (chk (μ 7 x4.toNatClampNeg) 20 ((setm (up2 (up2 (up2 μ 11 (μ 6 x4.toNatClampNeg).toNatClampNeg r9) 12 (μ 6 x4.toNatClampNeg).toNatClampNeg r13) 12 (μ 7 x4.toNatClampNeg).toNatClampNeg r17) (fun mm20 => f_X5_load_5_L35 x3 n (x4 + 1) mm20)))))))))))))))))))))))))
def f_X5_load_5 (a2 : Int32) (a3 : Int32) (μ : Mm) : Option (Mm) := f_X5_load_5_L3 (fun (m4 : Mm) => f_X5_load_5_L35 a3 fuel a2 m4) a2 a3 fuel 0 μ
def f_X1_networkOf (a1 : Int32) (a2 : Int32) (μ : Mm) : Option (Mm) := ((f_X5_load_5 a1 a2 μ).bind (fun r1 => some r1))
def f_X5_step_11_L4  (x1 : Int32) (μ : Mm) : Nat → Int32 → Int32 → Option (Int32)
  | 0, _, _ => none
  | n + 1, x2, x3 => (if (20 : Int32) ≤ x3 then some x2 else ((f_X7_hasBit x1 x3).bind (fun r2 => (if (r2 : Int32) = 0 then f_X5_step_11_L4 x1 μ n x2 (x3 + 1) else (chk x3 20 (f_X5_step_11_L4 x1 μ n (x2 ||| (μ 11 x3.toNatClampNeg)) (x3 + 1)))))))
def f_X5_step_11 (a1 : Int32) (μ : Mm) : Option (Int32) := f_X5_step_11_L4 a1 μ fuel 0 0
def f_X5_shortestWay_L10  (x2 : Int32) (μ : Mm) : Nat → Int32 → Int32 → Int32 → Option (Int32)
  | 0, _, _, _ => none
  | n + 1, x3, x4, x5 => (if (20 : Int32) < x5 then some (-1) else ((f_X5_step_11 x4 μ).bind (fun r2 => ((f_X7_hasBit (r2 &&& (x3 ^^^ (-1))) x2).bind (fun r4 => (if (r4 : Int32) = 0 then f_X5_shortestWay_L10 x2 μ n (x3 ||| (r2 &&& (x3 ^^^ (-1)))) (r2 &&& (x3 ^^^ (-1))) (x5 + 1) else some x5))))))
def f_X5_shortestWay (a1 : Int32) (a2 : Int32) (μ : Mm) : Option (Int32) := f_X5_shortestWay_L10 a2 μ fuel 0 (1 <<< (a1 &&& 31)) 1
def f_X4_receiversFrom_L6  (x1 : Int32) (x3 : Int32) (μ : Mm) : Nat → Int32 → Int32 → Option (Int32)
  | 0, _, _ => none
  | n + 1, x4, x5 => (if (x3 : Int32) ≤ x5 then some x4 else (chk x5 200 ((if (μ 6 x5.toNatClampNeg : Int32) = x1 then (chk x5 200 (((f_X7_withBit x4 (μ 7 x5.toNatClampNeg) 1).bind (fun r5 => f_X4_receiversFrom_L6 x1 x3 μ n r5 (x5 + 1))))) else f_X4_receiversFrom_L6 x1 x3 μ n x4 (x5 + 1)))))
def f_X4_receiversFrom (a1 : Int32) (a2 : Int32) (a3 : Int32) (μ : Mm) : Option (Int32) := f_X4_receiversFrom_L6 a1 a3 μ fuel 0 a2
def f_J6_bitCount_0f7a4 (a0 : Int32)  : Option (Int32) := some ((((((((a0 - (((a0 : Int32).toUInt32 >>> ((1 : Int32).toUInt32 &&& Int32.toUInt32 31)).toInt32 &&& 1431655765)) &&& 858993459) + (((a0 - (((a0 : Int32).toUInt32 >>> ((1 : Int32).toUInt32 &&& Int32.toUInt32 31)).toInt32 &&& 1431655765) : Int32).toUInt32 >>> ((2 : Int32).toUInt32 &&& Int32.toUInt32 31)).toInt32 &&& 858993459)) + ((((a0 - (((a0 : Int32).toUInt32 >>> ((1 : Int32).toUInt32 &&& Int32.toUInt32 31)).toInt32 &&& 1431655765)) &&& 858993459) + (((a0 - (((a0 : Int32).toUInt32 >>> ((1 : Int32).toUInt32 &&& Int32.toUInt32 31)).toInt32 &&& 1431655765) : Int32).toUInt32 >>> ((2 : Int32).toUInt32 &&& Int32.toUInt32 31)).toInt32 &&& 858993459) : Int32).toUInt32 >>> ((4 : Int32).toUInt32 &&& Int32.toUInt32 31)).toInt32) &&& 252645135) + ((((((a0 - (((a0 : Int32).toUInt32 >>> ((1 : Int32).toUInt32 &&& Int32.toUInt32 31)).toInt32 &&& 1431655765)) &&& 858993459) + (((a0 - (((a0 : Int32).toUInt32 >>> ((1 : Int32).toUInt32 &&& Int32.toUInt32 31)).toInt32 &&& 1431655765) : Int32).toUInt32 >>> ((2 : Int32).toUInt32 &&& Int32.toUInt32 31)).toInt32 &&& 858993459)) + ((((a0 - (((a0 : Int32).toUInt32 >>> ((1 : Int32).toUInt32 &&& Int32.toUInt32 31)).toInt32 &&& 1431655765)) &&& 858993459) + (((a0 - (((a0 : Int32).toUInt32 >>> ((1 : Int32).toUInt32 &&& Int32.toUInt32 31)).toInt32 &&& 1431655765) : Int32).toUInt32 >>> ((2 : Int32).toUInt32 &&& Int32.toUInt32 31)).toInt32 &&& 858993459) : Int32).toUInt32 >>> ((4 : Int32).toUInt32 &&& Int32.toUInt32 31)).toInt32) &&& 252645135 : Int32).toUInt32 >>> ((8 : Int32).toUInt32 &&& Int32.toUInt32 31)).toInt32) + (((((((a0 - (((a0 : Int32).toUInt32 >>> ((1 : Int32).toUInt32 &&& Int32.toUInt32 31)).toInt32 &&& 1431655765)) &&& 858993459) + (((a0 - (((a0 : Int32).toUInt32 >>> ((1 : Int32).toUInt32 &&& Int32.toUInt32 31)).toInt32 &&& 1431655765) : Int32).toUInt32 >>> ((2 : Int32).toUInt32 &&& Int32.toUInt32 31)).toInt32 &&& 858993459)) + ((((a0 - (((a0 : Int32).toUInt32 >>> ((1 : Int32).toUInt32 &&& Int32.toUInt32 31)).toInt32 &&& 1431655765)) &&& 858993459) + (((a0 - (((a0 : Int32).toUInt32 >>> ((1 : Int32).toUInt32 &&& Int32.toUInt32 31)).toInt32 &&& 1431655765) : Int32).toUInt32 >>> ((2 : Int32).toUInt32 &&& Int32.toUInt32 31)).toInt32 &&& 858993459) : Int32).toUInt32 >>> ((4 : Int32).toUInt32 &&& Int32.toUInt32 31)).toInt32) &&& 252645135) + ((((((a0 - (((a0 : Int32).toUInt32 >>> ((1 : Int32).toUInt32 &&& Int32.toUInt32 31)).toInt32 &&& 1431655765)) &&& 858993459) + (((a0 - (((a0 : Int32).toUInt32 >>> ((1 : Int32).toUInt32 &&& Int32.toUInt32 31)).toInt32 &&& 1431655765) : Int32).toUInt32 >>> ((2 : Int32).toUInt32 &&& Int32.toUInt32 31)).toInt32 &&& 858993459)) + ((((a0 - (((a0 : Int32).toUInt32 >>> ((1 : Int32).toUInt32 &&& Int32.toUInt32 31)).toInt32 &&& 1431655765)) &&& 858993459) + (((a0 - (((a0 : Int32).toUInt32 >>> ((1 : Int32).toUInt32 &&& Int32.toUInt32 31)).toInt32 &&& 1431655765) : Int32).toUInt32 >>> ((2 : Int32).toUInt32 &&& Int32.toUInt32 31)).toInt32 &&& 858993459) : Int32).toUInt32 >>> ((4 : Int32).toUInt32 &&& Int32.toUInt32 31)).toInt32) &&& 252645135 : Int32).toUInt32 >>> ((8 : Int32).toUInt32 &&& Int32.toUInt32 31)).toInt32 : Int32).toUInt32 >>> ((16 : Int32).toUInt32 &&& Int32.toUInt32 31)).toInt32) &&& 63)
def f_X1_countCountries_L4  (x1 : Int32) (μ : Mm) : Nat → Int32 → Int32 → Option (Int32)
  | 0, _, _ => none
  | n + 1, x2, x3 => (if (μ 2 2 : Int32) ≤ x3 then ((f_J6_bitCount_0f7a4 x2).bind (fun r2 => some r2)) else ((f_X7_hasBit x1 x3).bind (fun r4 => (if (r4 : Int32) = 0 then f_X1_countCountries_L4 x1 μ n x2 (x3 + 1) else (chk x3 20 (((f_X7_withBit x2 ((μ 3 x3.toNatClampNeg) - 97) 1).bind (fun r8 => f_X1_countCountries_L4 x1 μ n r8 (x3 + 1)))))))))
def f_X1_countCountries (a1 : Int32) (μ : Mm) : Option (Int32) := f_X1_countCountries_L4 a1 μ fuel 0 0
def f_X5_step_12_L4  (x1 : Int32) (μ : Mm) : Nat → Int32 → Int32 → Option (Int32)
  | 0, _, _ => none
  | n + 1, x2, x3 => (if (20 : Int32) ≤ x3 then some x2 else ((f_X7_hasBit x1 x3).bind (fun r2 => (if (r2 : Int32) = 0 then f_X5_step_12_L4 x1 μ n x2 (x3 + 1) else (chk x3 20 (f_X5_step_12_L4 x1 μ n (x2 ||| (μ 12 x3.toNatClampNeg)) (x3 + 1)))))))
def f_X5_step_12 (a1 : Int32) (μ : Mm) : Option (Int32) := f_X5_step_12_L4 a1 μ fuel 0 0
def f_X5_leastLinks_L8  (x2 : Int32) (x3 : Int32) (μ : Mm) : Nat → Int32 → Int32 → Option (Int32)
  | 0, _, _ => none
  | n + 1, x4, x5 => (if (20 : Int32) ≤ x5 then some x3 else (if (x4 &&& x2 : Int32) = 0 then ((f_X5_step_12 x4 μ).bind (fun r3 => f_X5_leastLinks_L8 x2 x3 μ n (x4 ||| r3) (x5 + 1))) else some x5))
def f_X5_leastLinks (a1 : Int32) (a2 : Int32) (a3 : Int32) (μ : Mm) : Option (Int32) := f_X5_leastLinks_L8 a2 a3 μ fuel (1 <<< (a1 &&& 31)) 0
def f_X4_isFirstOfPair_L2  (x1 : Int32) (μ : Mm) : Nat → Int32 → Option (Int32)
  | 0, _ => none
  | n + 1, x2 => (if (x1 : Int32) ≤ x2 then some 1 else (chk x2 200 ((chk x1 200 ((if (μ 6 x2.toNatClampNeg : Int32) = μ 6 x1.toNatClampNeg then (chk x2 200 ((chk x1 200 ((if (μ 7 x2.toNatClampNeg : Int32) = μ 7 x1.toNatClampNeg then some 0 else f_X4_isFirstOfPair_L2 x1 μ n (x2 + 1)))))) else f_X4_isFirstOfPair_L2 x1 μ n (x2 + 1)))))))
def f_X4_isFirstOfPair (a1 : Int32) (μ : Mm) : Option (Int32) := f_X4_isFirstOfPair_L2 a1 μ fuel 0
def f_X5_groupSize_L6   (μ : Mm) : Nat → Int32 → Int32 → Option (Int32)
  | 0, _, _ => none
  | n + 1, x2, x3 => (if (20 : Int32) ≤ x3 then ((f_J6_bitCount_0f7a4 x2).bind (fun r2 => some r2)) else ((f_X5_step_12 x2 μ).bind (fun r4 => f_X5_groupSize_L6 μ n (x2 ||| r4) (x3 + 1))))
def f_X5_groupSize (a1 : Int32) (μ : Mm) : Option (Int32) := f_X5_groupSize_L6 μ fuel (1 <<< (a1 &&& 31)) 1
def f_X4_sumOf_7_L6  (x2 : Int32) (x4 : Int32) (μ : Mm) : Nat → Int32 → Int32 → Option (Int32)
  | 0, _, _ => none
  | n + 1, x5, x6 => (if (x4 : Int32) ≤ x6 then some x5 else (chk x6 200 ((if (μ 7 x6.toNatClampNeg : Int32) = x2 then (chk x6 200 (f_X4_sumOf_7_L6 x2 x4 μ n (x5 + (μ 8 x6.toNatClampNeg)) (x6 + 1))) else f_X4_sumOf_7_L6 x2 x4 μ n x5 (x6 + 1)))))
def f_X4_sumOf_7 (a2 : Int32) (a3 : Int32) (a4 : Int32) (μ : Mm) : Option (Int32) := f_X4_sumOf_7_L6 a2 a4 μ fuel 0 a3
def f_X4_countSent_L6  (x1 : Int32) (x3 : Int32) (x4 : Int32) (x5 : Int32) (μ : Mm) : Nat → Int32 → Int32 → Option (Int32)
  | 0, _, _ => none
  | n + 1, x6, x7 => (if (x3 : Int32) ≤ x7 then some x6 else (chk x7 200 ((chk x7 200 ((if (μ 6 x7.toNatClampNeg : Int32) = x1 then (if (μ 8 x7.toNatClampNeg : Int32) < x4 then f_X4_countSent_L6 x1 x3 x4 x5 μ n x6 (x7 + 1) else (if (x5 : Int32) < μ 8 x7.toNatClampNeg then f_X4_countSent_L6 x1 x3 x4 x5 μ n x6 (x7 + 1) else f_X4_countSent_L6 x1 x3 x4 x5 μ n (x6 + 1) (x7 + 1))) else f_X4_countSent_L6 x1 x3 x4 x5 μ n x6 (x7 + 1)))))))
def f_X4_countSent (a1 : Int32) (a2 : Int32) (a3 : Int32) (a4 : Int32) (a5 : Int32) (μ : Mm) : Option (Int32) := f_X4_countSent_L6 a1 a3 a4 a5 μ fuel 0 a2
def f_X4_greatestSent_L6  (x1 : Int32) (x3 : Int32) (μ : Mm) : Nat → Int32 → Int32 → Option (Int32)
  | 0, _, _ => none
  | n + 1, x4, x5 => (if (x3 : Int32) ≤ x5 then some x4 else (chk x5 200 ((if (μ 6 x5.toNatClampNeg : Int32) = x1 then (chk x5 200 ((if (μ 8 x5.toNatClampNeg : Int32) ≤ x4 then f_X4_greatestSent_L6 x1 x3 μ n x4 (x5 + 1) else (chk x5 200 (f_X4_greatestSent_L6 x1 x3 μ n (μ 8 x5.toNatClampNeg) (x5 + 1)))))) else f_X4_greatestSent_L6 x1 x3 μ n x4 (x5 + 1)))))
def f_X4_greatestSent (a1 : Int32) (a2 : Int32) (a3 : Int32) (μ : Mm) : Option (Int32) := f_X4_greatestSent_L6 a1 a3 μ fuel 0 a2
def f_X4_minutesSinceLast_L4  (x1 : Int32) (x2 : Int32) (μ : Mm) : Nat → Int32 → Option (Int32)
  | 0, _ => none
  | n + 1, x3 => (if (x3 : Int32) < 0 then some x2 else (chk x3 200 ((chk x1 200 ((if (μ 6 x3.toNatClampNeg : Int32) = μ 6 x1.toNatClampNeg then (chk x1 200 ((chk x3 200 (some ((μ 9 x1.toNatClampNeg) - (μ 9 x3.toNatClampNeg)))))) else f_X4_minutesSinceLast_L4 x1 x2 μ n (x3 + (-1))))))))
def f_X4_minutesSinceLast (a1 : Int32) (a2 : Int32) (μ : Mm) : Option (Int32) := f_X4_minutesSinceLast_L4 a1 a2 μ fuel (a1 - 1)
def f_X4_sumOf_6_L6  (x2 : Int32) (x4 : Int32) (μ : Mm) : Nat → Int32 → Int32 → Option (Int32)
  | 0, _, _ => none
  | n + 1, x5, x6 => (if (x4 : Int32) ≤ x6 then some x5 else (chk x6 200 ((if (μ 6 x6.toNatClampNeg : Int32) = x2 then (chk x6 200 (f_X4_sumOf_6_L6 x2 x4 μ n (x5 + (μ 8 x6.toNatClampNeg)) (x6 + 1))) else f_X4_sumOf_6_L6 x2 x4 μ n x5 (x6 + 1)))))
def f_X4_sumOf_6 (a2 : Int32) (a3 : Int32) (a4 : Int32) (μ : Mm) : Option (Int32) := f_X4_sumOf_6_L6 a2 a4 μ fuel 0 a3
def f_X1_featureValue (a1 : Int32) (a2 : Int32) (a3 : Int32) (μ : Mm) : Option (Int32 × Mm) := (chk a1 200 ((chk a1 200 ((chk a1 200 (((f_X4_firstAfter ((μ 9 a1.toNatClampNeg) - a3) 0 μ).bind (fun r4 => (if (a2 : Int32) = 97 then (chk a1 200 ((chk (μ 6 a1.toNatClampNeg) 20 (some ((μ 9 a1.toNatClampNeg) - (μ 4 (μ 6 a1.toNatClampNeg).toNatClampNeg), μ))))) else (if (a2 : Int32) = 99 then ((f_X4_receiversFrom (μ 6 a1.toNatClampNeg) r4 (a1 + 1) μ).bind (fun r14 => ((f_X1_countCountries r14 μ).bind (fun r16 => some (r16, μ))))) else (if (a2 : Int32) = 100 then ((f_X1_networkOf r4 (a1 + 1) μ).bind (fun r18 => ((f_X5_leastLinks (μ 7 a1.toNatClampNeg) (r18 2 3) 99 r18).bind (fun r20 => some (r20, r18))))) else (if (a2 : Int32) = 102 then ((f_X4_isFirstOfPair a1 μ).bind (fun r22 => (if (r22 : Int32) = 0 then some (0, μ) else some (1, μ)))) else (if (a2 : Int32) = 103 then ((f_X1_networkOf r4 (a1 + 1) μ).bind (fun r25 => ((f_X5_groupSize (μ 6 a1.toNatClampNeg) r25).bind (fun r27 => some (r27, r25))))) else (if (a2 : Int32) = 105 then ((f_X4_sumOf_7 (μ 6 a1.toNatClampNeg) r4 (a1 + 1) μ).bind (fun r29 => some (r29, μ))) else (if (a2 : Int32) = 108 then ((f_X4_countSent (μ 6 a1.toNatClampNeg) r4 (a1 + 1) 900 999 μ).bind (fun r31 => some (r31, μ))) else (if (a2 : Int32) = 109 then ((f_X4_greatestSent (μ 6 a1.toNatClampNeg) r4 (a1 + 1) μ).bind (fun r33 => some (r33, μ))) else (if (a2 : Int32) = 110 then ((f_X4_countSent (μ 6 a1.toNatClampNeg) r4 (a1 + 1) 1 9999 μ).bind (fun r35 => some (r35, μ))) else (if (a2 : Int32) = 113 then ((f_X4_minutesSinceLast a1 99999 μ).bind (fun r37 => some (r37, μ))) else (if (a2 : Int32) = 114 then ((f_X4_receiversFrom (μ 6 a1.toNatClampNeg) r4 (a1 + 1) μ).bind (fun r39 => ((f_J6_bitCount_0f7a4 r39).bind (fun r41 => some (r41, μ))))) else (if (a2 : Int32) = 115 then ((f_X4_sumOf_6 (μ 6 a1.toNatClampNeg) r4 (a1 + 1) μ).bind (fun r43 => some (r43, μ))) else ((f_X1_networkOf r4 (a1 + 1) μ).bind (fun r6 => ((f_X5_shortestWay (μ 7 a1.toNatClampNeg) (μ 6 a1.toNatClampNeg) r6).bind (fun r8 => (if (r8 : Int32) = (-1) then some (0, r6) else some (1 + r8, r6))))))))))))))))))))))))))
def f_X3_judgeTest_1 (a2 : Int32) (a3 : Int32) (μ : Mm) : Option (Int32 × Mm) := (chk a3 30 ((chk a3 30 (((f_X1_featureValue a2 (μ 16 a3.toNatClampNeg) (μ 17 a3.toNatClampNeg) μ).bind (fun r3 => (chk a3 30 ((chk a3 30 ((if ((up2 r3.2 25 a3.toNatClampNeg r3.1) 18 a3.toNatClampNeg : Int32) = 0 then (chk a3 30 ((if ((up2 r3.2 25 a3.toNatClampNeg r3.1) 19 a3.toNatClampNeg : Int32) < r3.1 then some (0, (up2 r3.2 25 a3.toNatClampNeg r3.1)) else some (1, (up2 r3.2 25 a3.toNatClampNeg r3.1))))) else (chk a3 30 ((if (r3.1 : Int32) < (up2 r3.2 25 a3.toNatClampNeg r3.1) 19 a3.toNatClampNeg then some (0, (up2 r3.2 25 a3.toNatClampNeg r3.1)) else some (1, (up2 r3.2 25 a3.toNatClampNeg r3.1))))))))))))))))
def f_X3_judge_1_L3  (x2 : Int32) (x3 : Int32)  : Nat → Int32 → Mm → Option (Mm)
  | 0, _, _ => none
  | n + 1, x4, μ => (if (x3 : Int32) ≤ x4 then some μ else (chk x4 30 ((chk (μ 20 x4.toNatClampNeg) 30 ((chk x4 30 ((chk (μ 21 x4.toNatClampNeg) 30 ((chk x4 30 ((if (μ 14 x4.toNatClampNeg : Int32) = 1 then (if (μ 24 (μ 20 x4.toNatClampNeg).toNatClampNeg : Int32) = 0 then (chk x4 30 (f_X3_judge_1_L3 x2 x3 n (x4 + 1) (up2 μ 24 x4.toNatClampNeg (vp_nar .boolean 0)))) else (if (μ 24 (μ 21 x4.toNatClampNeg).toNatClampNeg : Int32) = 0 then (chk x4 30 (f_X3_judge_1_L3 x2 x3 n (x4 + 1) (up2 μ 24 x4.toNatClampNeg (vp_nar .boolean 0)))) else (chk x4 30 (f_X3_judge_1_L3 x2 x3 n (x4 + 1) (up2 μ 24 x4.toNatClampNeg (vp_nar .boolean 1)))))) else (if (μ 14 x4.toNatClampNeg : Int32) = 2 then (if (μ 24 (μ 20 x4.toNatClampNeg).toNatClampNeg : Int32) = 0 then (if (μ 24 (μ 21 x4.toNatClampNeg).toNatClampNeg : Int32) = 0 then (chk x4 30 (f_X3_judge_1_L3 x2 x3 n (x4 + 1) (up2 μ 24 x4.toNatClampNeg (vp_nar .boolean 0)))) else (chk x4 30 (f_X3_judge_1_L3 x2 x3 n (x4 + 1) (up2 μ 24 x4.toNatClampNeg (vp_nar .boolean 1))))) else (chk x4 30 (f_X3_judge_1_L3 x2 x3 n (x4 + 1) (up2 μ 24 x4.toNatClampNeg (vp_nar .boolean 1))))) else (if (μ 14 x4.toNatClampNeg : Int32) = 3 then (if (μ 24 (μ 20 x4.toNatClampNeg).toNatClampNeg : Int32) = 0 then (chk x4 30 (f_X3_judge_1_L3 x2 x3 n (x4 + 1) (up2 μ 24 x4.toNatClampNeg (vp_nar .boolean 1)))) else (chk x4 30 (f_X3_judge_1_L3 x2 x3 n (x4 + 1) (up2 μ 24 x4.toNatClampNeg (vp_nar .boolean 0))))) else ((f_X3_judgeTest_1 x2 x4 μ).bind (fun r7 => (chk x4 30 (f_X3_judge_1_L3 x2 x3 n (x4 + 1) (up2 r7.2 24 x4.toNatClampNeg (vp_nar .boolean r7.1))))))))))))))))))))
def f_X3_judge_1 (a2 : Int32) (a3 : Int32) (μ : Mm) : Option (Mm) := f_X3_judge_1_L3 a2 a3 fuel 0 μ
def f_X6_findReasons_13_L4   (μ : Mm) : Nat → Int32 → Int32 → Option (Int32)
  | 0, _, _ => none
  | n + 1, x2, x3 => (if (μ 26 3 : Int32) ≤ x3 then some x2 else ((f_X7_hasBit (μ 26 2) x3).bind (fun r2 => (if (r2 : Int32) = 0 then f_X6_findReasons_13_L4 μ n x2 (x3 + 1) else (chk x3 12 ((chk (μ 27 x3.toNatClampNeg) 30 ((if (μ 24 (μ 27 x3.toNatClampNeg).toNatClampNeg : Int32) = 0 then f_X6_findReasons_13_L4 μ n x2 (x3 + 1) else ((f_X7_withBit x2 x3 1).bind (fun r8 => f_X6_findReasons_13_L4 μ n r8 (x3 + 1))))))))))))
def f_X6_findReasons_13  (μ : Mm) : Option (Int32) := f_X6_findReasons_13_L4 μ fuel 0 0
def f_X6_weightOf_L4  (x1 : Int32) (μ : Mm) : Nat → Int32 → Int32 → Option (Int32)
  | 0, _, _ => none
  | n + 1, x2, x3 => (if (μ 26 3 : Int32) ≤ x3 then some x2 else ((f_X7_hasBit x1 x3).bind (fun r2 => (if (r2 : Int32) = 0 then f_X6_weightOf_L4 x1 μ n x2 (x3 + 1) else (chk x3 12 (f_X6_weightOf_L4 x1 μ n (x2 + (μ 28 x3.toNatClampNeg)) (x3 + 1)))))))
def f_X6_weightOf (a1 : Int32) (μ : Mm) : Option (Int32) := f_X6_weightOf_L4 a1 μ fuel 0 0
def f_X2_keep_13_L6 (kx59 : (Int32 → Mm → Option (Mm))) (x1 : Int32) (x2 : Int32) (x3 : Int32)  : Nat → Int32 → Int32 → Mm → Option (Mm)
  | 0, _, _, _ => none
  | n + 1, x5, x6, μ => (if (μ 13 12 : Int32) ≤ x6 then kx59 x5 μ else (chk x6 30 (((f_X7_withBit x5 x6 (μ 24 x6.toNatClampNeg)).bind (fun r3 => (chk x6 30 ((chk ((x1 * 30) + x6) 6000 (f_X2_keep_13_L6 kx59 x1 x2 x3 n r3 (x6 + 1) (up2 μ 34 ((x1 * 30) + x6).toNatClampNeg (μ 25 x6.toNatClampNeg)))))))))))
def f_X2_keep_13 (a1 : Int32) (a2 : Int32) (a3 : Int32) (μ : Mm) : Option (Mm) := f_X2_keep_13_L6 (fun (y7 : Int32) (m8 : Mm) => (chk a1 200 ((chk a1 200 ((chk a1 200 ((chk a1 200 (some (up2 (up2 (up2 (up2 m8 33 a1.toNatClampNeg y7) 32 a1.toNatClampNeg a2) 30 a1.toNatClampNeg a3) 31 a1.toNatClampNeg (vp_nar .char 45))))))))))) a1 a2 a3 fuel 0 0 μ
def f_X2_raise (a1 : Int32) (μ : Mm) : Option (Mm) := (chk a1 200 (some (up2 (up2 μ 31 a1.toNatClampNeg (vp_nar .char 111)) 29 5 (((up2 μ 31 a1.toNatClampNeg (vp_nar .char 111)) 29 5) + 1))))
def f_X7_pay (a1 : Int32) (a2 : Int32) (a3 : Int32) (μ : Mm) : Option (Nat × Int32 × Mm) := ((f_X7_requireAccount a1 μ).bind (fun r1 => (if r1 = 0 then ((f_X7_requireAccount a2 μ).bind (fun r4 => (if r4 = 0 then (if (a3 : Int32) < 1 then some (4, 0, μ) else (if (a3 : Int32) ≤ 9999 then (if (a1 : Int32) = a2 then some (5, 0, μ) else ((f_X7_hasBit (μ 2 4) a1).bind (fun r10 => (if (r10 : Int32) = 0 then ((f_X7_hasBit (μ 2 4) a2).bind (fun r13 => (if (r13 : Int32) = 0 then (if (μ 5 4 : Int32) < 200 then ((f_X4_append a1 a2 a3 (μ 1 3) μ).bind (fun r17 => ((f_X3_judge_1 r17.1 (r17.2 13 12) r17.2).bind (fun r19 => ((f_X6_findReasons_13 r19).bind (fun r21 => ((f_X6_weightOf r21 r19).bind (fun r23 => ((f_X2_keep_13 r17.1 r21 r23 r19).bind (fun r25 => (if (r23 : Int32) < r25 0 4 then some (0, r17.1, r25) else ((f_X2_raise r17.1 r25).bind (fun r28 => some (0, r17.1, r28)))))))))))))) else some (3, 0, μ)) else some (3, 0, μ)))) else some (3, 0, μ))))) else some (4, 0, μ))) else some (r4, 0, μ)))) else some (r1, 0, μ))))
def f_L_pay_0_o (a1 : Int32) (a2 : Int32) (a3 : Int32) (μ : Mm) (o : Nat → Int64) : Option (Int32 × Mm × (Nat → Int64)) := ((f_X7_pay a1 a2 a3 μ).bind (fun r1 => (if r1.1 = 0 then (chk 0 1 (some (0, r1.2.2, (vp_updL o (0 : Int32).toNatClampNeg (r1.2.1 : Int32).toInt64)))) else (if r1.1 = 1 then some (1, r1.2.2, o) else (if r1.1 = 4 then some (2, r1.2.2, o) else (if r1.1 = 5 then some (3, r1.2.2, o) else (if r1.1 = 3 then some (4, r1.2.2, o) else none)))))))
def f_X7_requirePayment (a1 : Int32) (μ : Mm) : Option (Nat) := (if (a1 : Int32) < 0 then some 2 else (if (a1 : Int32) < μ 5 4 then some 0 else some 2))
def f_X7_minuteOf (a1 : Int32) (μ : Mm) : Option (Nat × Int32) := ((f_X7_requirePayment a1 μ).bind (fun r1 => (if r1 = 0 then (chk a1 200 (some (0, μ 9 a1.toNatClampNeg))) else some (r1, 0))))
def f_L_minuteOf_0_o (a1 : Int32) (μ : Mm) (o : Nat → Int64) : Option (Int32 × (Nat → Int64)) := ((f_X7_minuteOf a1 μ).bind (fun r1 => (if r1.1 = 0 then (chk 0 1 (some (0, (vp_updL o (0 : Int32).toNatClampNeg (r1.2 : Int32).toInt64)))) else (if r1.1 = 2 then some (1, o) else none))))
def f_X7_requireWindow (a0 : Int32)  : Option (Nat) := (if (a0 : Int32) < 1 then some 4 else (if (a0 : Int32) ≤ 10080 then some 0 else some 4))
def f_X1_keptSum (a1 : Int32) (a2 : Int32) (μ : Mm) : Option (Int32) := ((f_X4_firstAfter ((μ 1 3) - a2) (μ 1 4) μ).bind (fun r1 => ((f_X4_sumOf_6 a1 r1 (μ 5 4) μ).bind (fun r3 => some r3))))
def f_X7_sentBy (a1 : Int32) (a2 : Int32) (μ : Mm) : Option (Nat × Int32) := ((f_X7_requireAccount a1 μ).bind (fun r1 => (if r1 = 0 then ((f_X7_requireWindow a2).bind (fun r4 => (if r4 = 0 then ((f_X1_keptSum a1 a2 μ).bind (fun r7 => some (0, r7))) else some (r4, 0)))) else some (r1, 0))))
def f_L_sentBy_0_o (a1 : Int32) (a2 : Int32) (μ : Mm) (o : Nat → Int64) : Option (Int32 × (Nat → Int64)) := ((f_X7_sentBy a1 a2 μ).bind (fun r1 => (if r1.1 = 0 then (chk 0 1 (some (0, (vp_updL o (0 : Int32).toNatClampNeg (r1.2 : Int32).toInt64)))) else (if r1.1 = 1 then some (1, o) else (if r1.1 = 4 then some (2, o) else none)))))
def f_X1_sumAnew_L5  (x1 : Int32) (x2 : Int32) (μ : Mm) : Nat → Int32 → Int32 → Option (Int32)
  | 0, _, _ => none
  | n + 1, x3, x4 => (if (μ 5 4 : Int32) ≤ x4 then some x3 else (chk x4 200 ((if (μ 6 x4.toNatClampNeg : Int32) = x1 then (chk x4 200 ((if (μ 9 x4.toNatClampNeg : Int32) ≤ (μ 1 3) - x2 then f_X1_sumAnew_L5 x1 x2 μ n x3 (x4 + 1) else (chk x4 200 (f_X1_sumAnew_L5 x1 x2 μ n (x3 + (μ 8 x4.toNatClampNeg)) (x4 + 1)))))) else f_X1_sumAnew_L5 x1 x2 μ n x3 (x4 + 1)))))
def f_X1_sumAnew (a1 : Int32) (a2 : Int32) (μ : Mm) : Option (Int32) := f_X1_sumAnew_L5 a1 a2 μ fuel 0 0
def f_X7_sentByAnew (a1 : Int32) (a2 : Int32) (μ : Mm) : Option (Nat × Int32) := ((f_X7_requireAccount a1 μ).bind (fun r1 => (if r1 = 0 then ((f_X7_requireWindow a2).bind (fun r4 => (if r4 = 0 then ((f_X1_sumAnew a1 a2 μ).bind (fun r7 => some (0, r7))) else some (r4, 0)))) else some (r1, 0))))
def f_L_sentByAnew_0_o (a1 : Int32) (a2 : Int32) (μ : Mm) (o : Nat → Int64) : Option (Int32 × (Nat → Int64)) := ((f_X7_sentByAnew a1 a2 μ).bind (fun r1 => (if r1.1 = 0 then (chk 0 1 (some (0, (vp_updL o (0 : Int32).toNatClampNeg (r1.2 : Int32).toInt64)))) else (if r1.1 = 1 then some (1, o) else (if r1.1 = 4 then some (2, o) else none)))))
def f_X1_hasFeature_L9  (x0 : Int32) (x2 : Int32)  : Nat → Int32 → Option (Int32)
  | 0, _ => none
  | n + 1, x3 => (if (x2 : Int32) ≤ x3 then some 0 else (chk x3 13 ((if ((featL.getD x3.toNatClampNeg 0) : Int32) = x0 then some 1 else f_X1_hasFeature_L9 x0 x2 n (x3 + 1)))))
def f_X1_hasFeature (a0 : Int32)  : Option (Int32) := f_X1_hasFeature_L9 a0 13 fuel 0
def f_X7_requireFeature (a0 : Int32)  : Option (Nat) := ((f_X1_hasFeature a0).bind (fun r1 => (if (r1 : Int32) = 0 then some 4 else some 0)))
def f_X7_valueOf (a1 : Int32) (a2 : Int32) (a3 : Int32) (μ : Mm) : Option (Nat × Int32 × Mm) := ((f_X7_requirePayment a1 μ).bind (fun r1 => (if r1 = 0 then ((f_X7_requireFeature a2).bind (fun r4 => (if r4 = 0 then ((f_X7_requireWindow a3).bind (fun r7 => (if r7 = 0 then ((f_X1_featureValue a1 a2 a3 μ).bind (fun r10 => some (0, r10.1, r10.2))) else some (r7, 0, μ)))) else some (r4, 0, μ)))) else some (r1, 0, μ))))
def f_L_valueOf_0_o (a1 : Int32) (a2 : Int32) (a3 : Int32) (μ : Mm) (o : Nat → Int64) : Option (Int32 × Mm × (Nat → Int64)) := ((f_X7_valueOf a1 a2 a3 μ).bind (fun r1 => (if r1.1 = 0 then (chk 0 1 (some (0, r1.2.2, (vp_updL o (0 : Int32).toNatClampNeg (r1.2.1 : Int32).toInt64)))) else (if r1.1 = 2 then some (1, r1.2.2, o) else (if r1.1 = 4 then some (2, r1.2.2, o) else none)))))
def f_X7_requireRoomForCondition  (μ : Mm) : Option (Nat) := (if (μ 13 12 : Int32) < 30 then some 0 else some 3)
def f_X3_keepTest (a1 : Int32) (μ : Mm) : Option (Mm) := (chk (μ 13 12) 30 ((if (8 : Int32) ≤ μ 22 (μ 13 12).toNatClampNeg then some μ else (chk (μ 13 12) 30 ((chk (((μ 13 12) * 8) + (μ 22 (μ 13 12).toNatClampNeg)) 240 ((chk ((up2 μ 23 (((μ 13 12) * 8) + (μ 22 (μ 13 12).toNatClampNeg)).toNatClampNeg a1) 13 12) 30 ((chk ((up2 μ 23 (((μ 13 12) * 8) + (μ 22 (μ 13 12).toNatClampNeg)).toNatClampNeg a1) 13 12) 30 ((setm (up2 (up2 μ 23 (((μ 13 12) * 8) + (μ 22 (μ 13 12).toNatClampNeg)).toNatClampNeg a1) 22 ((up2 μ 23 (((μ 13 12) * 8) + (μ 22 (μ 13 12).toNatClampNeg)).toNatClampNeg a1) 13 12).toNatClampNeg (((up2 μ 23 (((μ 13 12) * 8) + (μ 22 (μ 13 12).toNatClampNeg)).toNatClampNeg a1) 22 ((up2 μ 23 (((μ 13 12) * 8) + (μ 22 (μ 13 12).toNatClampNeg)).toNatClampNeg a1) 13 12).toNatClampNeg) + 1)) (fun mm7 => some mm7)))))))))))))
def f_X3_finish (a1 : Int32) (a2 : Int32) (μ : Mm) : Option (Int32 × Mm) := (chk (μ 13 12) 30 ((chk ((up2 μ 14 (μ 13 12).toNatClampNeg a1) 13 12) 30 ((setm (up2 (up2 (up2 μ 14 (μ 13 12).toNatClampNeg a1) 15 ((up2 μ 14 (μ 13 12).toNatClampNeg a1) 13 12).toNatClampNeg a2) 13 12 (((up2 (up2 μ 14 (μ 13 12).toNatClampNeg a1) 15 ((up2 μ 14 (μ 13 12).toNatClampNeg a1) 13 12).toNatClampNeg a2) 13 12) + 1)) (fun mm3 => some ((up2 (up2 μ 14 (μ 13 12).toNatClampNeg a1) 15 ((up2 μ 14 (μ 13 12).toNatClampNeg a1) 13 12).toNatClampNeg a2) 13 12, mm3)))))))
def f_X3_appendTest (a1 : Int32) (a2 : Int32) (a3 : Int32) (a4 : Int32) (μ : Mm) : Option (Int32 × Mm) := (chk (μ 13 12) 30 ((chk ((up2 μ 16 (μ 13 12).toNatClampNeg (vp_nar .char a1)) 13 12) 30 ((chk ((up2 (up2 μ 16 (μ 13 12).toNatClampNeg (vp_nar .char a1)) 17 ((up2 μ 16 (μ 13 12).toNatClampNeg (vp_nar .char a1)) 13 12).toNatClampNeg a2) 13 12) 30 ((setm (up2 (up2 (up2 μ 16 (μ 13 12).toNatClampNeg (vp_nar .char a1)) 17 ((up2 μ 16 (μ 13 12).toNatClampNeg (vp_nar .char a1)) 13 12).toNatClampNeg a2) 18 ((up2 (up2 μ 16 (μ 13 12).toNatClampNeg (vp_nar .char a1)) 17 ((up2 μ 16 (μ 13 12).toNatClampNeg (vp_nar .char a1)) 13 12).toNatClampNeg a2) 13 12).toNatClampNeg (vp_nar .boolean a3)) (fun mm4 => (chk (mm4 13 12) 30 (((f_X3_keepTest ((up2 mm4 19 (mm4 13 12).toNatClampNeg a4) 13 12) (up2 mm4 19 (mm4 13 12).toNatClampNeg a4)).bind (fun r6 => ((f_X3_finish 0 1 r6).bind (fun r8 => some (r8.1, r8.2)))))))))))))))
def f_X7_addTest (a1 : Int32) (a2 : Int32) (a3 : Int32) (a4 : Int32) (μ : Mm) : Option (Nat × Int32 × Mm) := ((f_X7_requireFeature a1).bind (fun r1 => (if r1 = 0 then ((f_X7_requireWindow a2).bind (fun r4 => (if r4 = 0 then (if (a4 : Int32) < 0 then some (4, 0, μ) else (if (a4 : Int32) ≤ 99999 then ((f_X7_requireRoomForCondition μ).bind (fun r9 => (if r9 = 0 then ((f_X3_appendTest a1 a2 a3 a4 μ).bind (fun r12 => some (0, r12.1, r12.2))) else some (r9, 0, μ)))) else some (4, 0, μ))) else some (r4, 0, μ)))) else some (r1, 0, μ))))
def f_L_addTest_0_o (a1 : Int32) (a2 : Int32) (a3 : Int32) (a4 : Int32) (μ : Mm) (o : Nat → Int64) : Option (Int32 × Mm × (Nat → Int64)) := ((f_X7_addTest a1 a2 a3 a4 μ).bind (fun r1 => (if r1.1 = 0 then (chk 0 1 (some (0, r1.2.2, (vp_updL o (0 : Int32).toNatClampNeg (r1.2.1 : Int32).toInt64)))) else (if r1.1 = 4 then some (1, r1.2.2, o) else (if r1.1 = 3 then some (2, r1.2.2, o) else none)))))
def f_X7_requireCondition (a1 : Int32) (μ : Mm) : Option (Nat) := (if (a1 : Int32) < 0 then some 1 else (if (a1 : Int32) < μ 13 12 then some 0 else some 1))
def f_X7_requireSize (a0 : Int32)  : Option (Nat) := (if (a0 : Int32) ≤ 15 then some 0 else some 5)
def f_X7_requireJoinable (a1 : Int32) (a2 : Int32) (μ : Mm) : Option (Nat) := ((f_X7_requireCondition a1 μ).bind (fun r1 => (if r1 = 0 then ((f_X7_requireCondition a2 μ).bind (fun r4 => (if r4 = 0 then (chk a1 30 ((chk a2 30 (((f_X7_requireSize ((1 + (μ 15 a1.toNatClampNeg)) + (μ 15 a2.toNatClampNeg))).bind (fun r9 => (if r9 = 0 then ((f_X7_requireRoomForCondition μ).bind (fun r12 => (if r12 = 0 then some 0 else some r12))) else some r9))))))) else some r4))) else some r1)))
def f_X3_keepTestsOf_L2  (x1 : Int32)  : Nat → Int32 → Mm → Option (Mm)
  | 0, _, _ => none
  | n + 1, x2, μ => (chk x1 30 ((if (μ 22 x1.toNatClampNeg : Int32) ≤ x2 then some μ else (chk ((x1 * 8) + x2) 240 (((f_X3_keepTest (μ 23 ((x1 * 8) + x2).toNatClampNeg) μ).bind (fun r4 => f_X3_keepTestsOf_L2 x1 n (x2 + 1) r4)))))))
def f_X3_keepTestsOf (a1 : Int32) (μ : Mm) : Option (Mm) := f_X3_keepTestsOf_L2 a1 fuel 0 μ
def f_X3_appendJoin (a1 : Int32) (a2 : Int32) (a3 : Int32) (μ : Mm) : Option (Int32 × Mm) := (chk (μ 13 12) 30 ((chk ((up2 μ 20 (μ 13 12).toNatClampNeg a2) 13 12) 30 (((f_X3_keepTestsOf a2 (up2 (up2 μ 20 (μ 13 12).toNatClampNeg a2) 21 ((up2 μ 20 (μ 13 12).toNatClampNeg a2) 13 12).toNatClampNeg a3)).bind (fun r3 => ((f_X3_keepTestsOf a3 r3).bind (fun r5 => (chk a2 30 ((chk a3 30 (((f_X3_finish a1 ((1 + (r5 15 a2.toNatClampNeg)) + (r5 15 a3.toNatClampNeg)) r5).bind (fun r9 => some (r9.1, r9.2)))))))))))))))
def f_X7_addBoth (a1 : Int32) (a2 : Int32) (μ : Mm) : Option (Nat × Int32 × Mm) := ((f_X7_requireJoinable a1 a2 μ).bind (fun r1 => (if r1 = 0 then ((f_X3_appendJoin 1 a1 a2 μ).bind (fun r4 => some (0, r4.1, r4.2))) else some (r1, 0, μ))))
def f_L_addBoth_0_o (a1 : Int32) (a2 : Int32) (μ : Mm) (o : Nat → Int64) : Option (Int32 × Mm × (Nat → Int64)) := ((f_X7_addBoth a1 a2 μ).bind (fun r1 => (if r1.1 = 0 then (chk 0 1 (some (0, r1.2.2, (vp_updL o (0 : Int32).toNatClampNeg (r1.2.1 : Int32).toInt64)))) else (if r1.1 = 1 then some (1, r1.2.2, o) else (if r1.1 = 5 then some (2, r1.2.2, o) else (if r1.1 = 3 then some (3, r1.2.2, o) else none))))))
def f_X7_addEither (a1 : Int32) (a2 : Int32) (μ : Mm) : Option (Nat × Int32 × Mm) := ((f_X7_requireJoinable a1 a2 μ).bind (fun r1 => (if r1 = 0 then ((f_X3_appendJoin 2 a1 a2 μ).bind (fun r4 => some (0, r4.1, r4.2))) else some (r1, 0, μ))))
def f_L_addEither_0_o (a1 : Int32) (a2 : Int32) (μ : Mm) (o : Nat → Int64) : Option (Int32 × Mm × (Nat → Int64)) := ((f_X7_addEither a1 a2 μ).bind (fun r1 => (if r1.1 = 0 then (chk 0 1 (some (0, r1.2.2, (vp_updL o (0 : Int32).toNatClampNeg (r1.2.1 : Int32).toInt64)))) else (if r1.1 = 1 then some (1, r1.2.2, o) else (if r1.1 = 5 then some (2, r1.2.2, o) else (if r1.1 = 3 then some (3, r1.2.2, o) else none))))))
def f_X3_appendNot (a1 : Int32) (μ : Mm) : Option (Int32 × Mm) := (chk (μ 13 12) 30 ((chk a1 30 (((f_X3_finish 3 (1 + ((up2 μ 20 (μ 13 12).toNatClampNeg a1) 15 a1.toNatClampNeg)) (up2 μ 20 (μ 13 12).toNatClampNeg a1)).bind (fun r3 => some (r3.1, r3.2)))))))
def f_X7_addNot (a1 : Int32) (μ : Mm) : Option (Nat × Int32 × Mm) := ((f_X7_requireCondition a1 μ).bind (fun r1 => (if r1 = 0 then (chk a1 30 (((f_X7_requireSize (1 + (μ 15 a1.toNatClampNeg))).bind (fun r5 => (if r5 = 0 then ((f_X7_requireRoomForCondition μ).bind (fun r8 => (if r8 = 0 then ((f_X3_appendNot a1 μ).bind (fun r11 => some (0, r11.1, r11.2))) else some (r8, 0, μ)))) else some (r5, 0, μ)))))) else some (r1, 0, μ))))
def f_L_addNot_0_o (a1 : Int32) (μ : Mm) (o : Nat → Int64) : Option (Int32 × Mm × (Nat → Int64)) := ((f_X7_addNot a1 μ).bind (fun r1 => (if r1.1 = 0 then (chk 0 1 (some (0, r1.2.2, (vp_updL o (0 : Int32).toNatClampNeg (r1.2.1 : Int32).toInt64)))) else (if r1.1 = 1 then some (1, r1.2.2, o) else (if r1.1 = 5 then some (2, r1.2.2, o) else (if r1.1 = 3 then some (3, r1.2.2, o) else none))))))
def f_X7_holds (a1 : Int32) (a2 : Int32) (μ : Mm) : Option (Nat × Int32 × Mm) := ((f_X7_requireCondition a1 μ).bind (fun r1 => (if r1 = 0 then ((f_X7_requirePayment a2 μ).bind (fun r4 => (if r4 = 0 then ((f_X3_judge_1 a2 (a1 + 1) μ).bind (fun r7 => (chk a1 30 ((gn .boolean (r7 24 a1.toNatClampNeg) (some (0, r7 24 a1.toNatClampNeg, r7))))))) else some (r4, 0, μ)))) else some (r1, 0, μ))))
def f_L_holds_0_o (a1 : Int32) (a2 : Int32) (μ : Mm) (o : Nat → Int64) : Option (Int32 × Mm × (Nat → Int64)) := ((f_X7_holds a1 a2 μ).bind (fun r1 => (if r1.1 = 0 then (if (r1.2.1 : Int32) = 0 then (chk 0 1 (some (0, r1.2.2, (vp_updL o (0 : Int32).toNatClampNeg 0)))) else (chk 0 1 (some (0, r1.2.2, (vp_updL o (0 : Int32).toNatClampNeg 1))))) else (if r1.1 = 1 then some (1, r1.2.2, o) else (if r1.1 = 2 then some (2, r1.2.2, o) else none)))))
def f_X7_sizeOf (a1 : Int32) (μ : Mm) : Option (Nat × Int32) := ((f_X7_requireCondition a1 μ).bind (fun r1 => (if r1 = 0 then (chk a1 30 (some (0, μ 15 a1.toNatClampNeg))) else some (r1, 0))))
def f_L_sizeOf_0_o (a1 : Int32) (μ : Mm) (o : Nat → Int64) : Option (Int32 × (Nat → Int64)) := ((f_X7_sizeOf a1 μ).bind (fun r1 => (if r1.1 = 0 then (chk 0 1 (some (0, (vp_updL o (0 : Int32).toNatClampNeg (r1.2 : Int32).toInt64)))) else (if r1.1 = 1 then some (1, o) else none))))
def f_X6_append (a1 : Int32) (a2 : Int32) (μ : Mm) : Option (Int32 × Mm) := (chk (μ 26 3) 12 ((chk ((up2 μ 27 (μ 26 3).toNatClampNeg a1) 26 3) 12 (((f_X7_withBit ((up2 (up2 μ 27 (μ 26 3).toNatClampNeg a1) 28 ((up2 μ 27 (μ 26 3).toNatClampNeg a1) 26 3).toNatClampNeg a2) 26 2) ((up2 (up2 μ 27 (μ 26 3).toNatClampNeg a1) 28 ((up2 μ 27 (μ 26 3).toNatClampNeg a1) 26 3).toNatClampNeg a2) 26 3) 1).bind (fun r3 => (setm (up2 (up2 (up2 (up2 μ 27 (μ 26 3).toNatClampNeg a1) 28 ((up2 μ 27 (μ 26 3).toNatClampNeg a1) 26 3).toNatClampNeg a2) 26 2 r3) 26 3 (((up2 (up2 (up2 μ 27 (μ 26 3).toNatClampNeg a1) 28 ((up2 μ 27 (μ 26 3).toNatClampNeg a1) 26 3).toNatClampNeg a2) 26 2 r3) 26 3) + 1)) (fun mm5 => some ((up2 (up2 (up2 μ 27 (μ 26 3).toNatClampNeg a1) 28 ((up2 μ 27 (μ 26 3).toNatClampNeg a1) 26 3).toNatClampNeg a2) 26 2 r3) 26 3, mm5)))))))))
def f_X7_addRule (a1 : Int32) (a2 : Int32) (μ : Mm) : Option (Nat × Int32 × Mm) := ((f_X7_requireCondition a1 μ).bind (fun r1 => (if r1 = 0 then (if (a2 : Int32) < 1 then some (4, 0, μ) else (if (a2 : Int32) ≤ 100 then (if (μ 26 3 : Int32) < 12 then ((f_X6_append a1 a2 μ).bind (fun r7 => some (0, r7.1, r7.2))) else some (3, 0, μ)) else some (4, 0, μ))) else some (r1, 0, μ))))
def f_L_addRule_0_o (a1 : Int32) (a2 : Int32) (μ : Mm) (o : Nat → Int64) : Option (Int32 × Mm × (Nat → Int64)) := ((f_X7_addRule a1 a2 μ).bind (fun r1 => (if r1.1 = 0 then (chk 0 1 (some (0, r1.2.2, (vp_updL o (0 : Int32).toNatClampNeg (r1.2.1 : Int32).toInt64)))) else (if r1.1 = 1 then some (1, r1.2.2, o) else (if r1.1 = 4 then some (2, r1.2.2, o) else (if r1.1 = 3 then some (3, r1.2.2, o) else none))))))
def f_X7_requireRule (a1 : Int32) (μ : Mm) : Option (Nat) := (if (a1 : Int32) < 0 then some 1 else (if (a1 : Int32) < μ 26 3 then some 0 else some 1))
def f_X7_setRule (a1 : Int32) (a2 : Int32) (μ : Mm) : Option (Nat × Int32 × Mm) := ((f_X7_requireRule a1 μ).bind (fun r1 => (if r1 = 0 then ((f_X7_hasBit (μ 26 2) a1).bind (fun r4 => ((f_X7_withBit (μ 26 2) a1 a2).bind (fun r6 => (gn .boolean r4 (some (0, r4, (up2 μ 26 2 r6)))))))) else some (r1, 0, μ))))
def f_L_setRule_0_o (a1 : Int32) (a2 : Int32) (μ : Mm) (o : Nat → Int64) : Option (Int32 × Mm × (Nat → Int64)) := ((f_X7_setRule a1 a2 μ).bind (fun r1 => (if r1.1 = 0 then (if (r1.2.1 : Int32) = 0 then (chk 0 1 (some (0, r1.2.2, (vp_updL o (0 : Int32).toNatClampNeg 0)))) else (chk 0 1 (some (0, r1.2.2, (vp_updL o (0 : Int32).toNatClampNeg 1))))) else (if r1.1 = 1 then some (1, r1.2.2, o) else none))))
def f_X7_requireThreshold (a0 : Int32)  : Option (Nat) := (if (a0 : Int32) < 1 then some 4 else (if (a0 : Int32) ≤ 1201 then some 0 else some 4))
def f_X7_setThreshold (a1 : Int32) (μ : Mm) : Option (Nat × Int32 × Mm) := ((f_X7_requireThreshold a1).bind (fun r1 => (if r1 = 0 then some (0, μ 0 4, (up2 μ 0 4 a1)) else some (r1, 0, μ))))
def f_L_setThreshold_0_o (a1 : Int32) (μ : Mm) (o : Nat → Int64) : Option (Int32 × Mm × (Nat → Int64)) := ((f_X7_setThreshold a1 μ).bind (fun r1 => (if r1.1 = 0 then (chk 0 1 (some (0, r1.2.2, (vp_updL o (0 : Int32).toNatClampNeg (r1.2.1 : Int32).toInt64)))) else (if r1.1 = 4 then some (1, r1.2.2, o) else none))))
def f_X7_score (a1 : Int32) (μ : Mm) : Option (Nat × Int32) := ((f_X7_requirePayment a1 μ).bind (fun r1 => (if r1 = 0 then (chk a1 200 (some (0, μ 30 a1.toNatClampNeg))) else some (r1, 0))))
def f_L_score_0_o (a1 : Int32) (μ : Mm) (o : Nat → Int64) : Option (Int32 × (Nat → Int64)) := ((f_X7_score a1 μ).bind (fun r1 => (if r1.1 = 0 then (chk 0 1 (some (0, (vp_updL o (0 : Int32).toNatClampNeg (r1.2 : Int32).toInt64)))) else (if r1.1 = 2 then some (1, o) else none))))
def f_X7_scoreNow (a1 : Int32) (μ : Mm) : Option (Nat × Int32 × Mm) := ((f_X7_requirePayment a1 μ).bind (fun r1 => (if r1 = 0 then ((f_X3_judge_1 a1 (μ 13 12) μ).bind (fun r4 => ((f_X6_findReasons_13 r4).bind (fun r6 => ((f_X6_weightOf r6 r4).bind (fun r8 => some (0, r8, r4))))))) else some (r1, 0, μ))))
def f_L_scoreNow_0_o (a1 : Int32) (μ : Mm) (o : Nat → Int64) : Option (Int32 × Mm × (Nat → Int64)) := ((f_X7_scoreNow a1 μ).bind (fun r1 => (if r1.1 = 0 then (chk 0 1 (some (0, r1.2.2, (vp_updL o (0 : Int32).toNatClampNeg (r1.2.1 : Int32).toInt64)))) else (if r1.1 = 2 then some (1, r1.2.2, o) else none))))
def f_X7_reasons (a1 : Int32) (μ : Mm) : Option (Nat × Int32) := ((f_X7_requirePayment a1 μ).bind (fun r1 => (if r1 = 0 then (chk a1 200 (((f_J6_bitCount_0f7a4 (μ 32 a1.toNatClampNeg)).bind (fun r5 => some (0, r5))))) else some (r1, 0))))
def f_L_reasons_0_o (a1 : Int32) (μ : Mm) (o : Nat → Int64) : Option (Int32 × (Nat → Int64)) := ((f_X7_reasons a1 μ).bind (fun r1 => (if r1.1 = 0 then (chk 0 1 (some (0, (vp_updL o (0 : Int32).toNatClampNeg (r1.2 : Int32).toInt64)))) else (if r1.1 = 2 then some (1, o) else none))))
def f_X6_ruleAtRank_L5  (x1 : Int32) (x2 : Int32) (μ : Mm) : Nat → Int32 → Int32 → Option (Int32)
  | 0, _, _ => none
  | n + 1, x3, x4 => (if (μ 26 3 : Int32) ≤ x4 then some (-1) else ((f_X7_hasBit x1 x4).bind (fun r2 => (if (r2 : Int32) = 0 then f_X6_ruleAtRank_L5 x1 x2 μ n x3 (x4 + 1) else (if (x3 : Int32) = x2 then some x4 else f_X6_ruleAtRank_L5 x1 x2 μ n (x3 + 1) (x4 + 1))))))
def f_X6_ruleAtRank (a1 : Int32) (a2 : Int32) (μ : Mm) : Option (Int32) := f_X6_ruleAtRank_L5 a1 a2 μ fuel 0 0
def f_X7_ruleOfReason (a1 : Int32) (a2 : Int32) (μ : Mm) : Option (Nat × Int32) := (chk a1 200 (((f_X6_ruleAtRank (μ 32 a1.toNatClampNeg) a2 μ).bind (fun r2 => (if (r2 : Int32) = (-1) then some (1, 0) else some (0, r2))))))
def f_X7_reasonRule (a1 : Int32) (a2 : Int32) (μ : Mm) : Option (Nat × Int32) := ((f_X7_requirePayment a1 μ).bind (fun r1 => (if r1 = 0 then ((f_X7_ruleOfReason a1 a2 μ).bind (fun r4 => (if r4.1 = 0 then some (0, r4.2) else some (r4.1, 0)))) else some (r1, 0))))
def f_L_reasonRule_0_o (a1 : Int32) (a2 : Int32) (μ : Mm) (o : Nat → Int64) : Option (Int32 × (Nat → Int64)) := ((f_X7_reasonRule a1 a2 μ).bind (fun r1 => (if r1.1 = 0 then (chk 0 1 (some (0, (vp_updL o (0 : Int32).toNatClampNeg (r1.2 : Int32).toInt64)))) else (if r1.1 = 2 then some (1, o) else (if r1.1 = 1 then some (2, o) else none)))))
def f_X3_countTests_L5  (x1 : Int32) (x2 : Int32) (μ : Mm) : Nat → Int32 → Int32 → Option (Int32)
  | 0, _, _ => none
  | n + 1, x3, x4 => (chk x1 30 ((if (μ 22 x1.toNatClampNeg : Int32) ≤ x4 then some x3 else (chk ((x1 * 8) + x4) 240 (((f_X7_hasBit x2 (μ 23 ((x1 * 8) + x4).toNatClampNeg)).bind (fun r4 => (if (r4 : Int32) = 0 then f_X3_countTests_L5 x1 x2 μ n x3 (x4 + 1) else f_X3_countTests_L5 x1 x2 μ n (x3 + 1) (x4 + 1)))))))))
def f_X3_countTests (a1 : Int32) (a2 : Int32) (μ : Mm) : Option (Int32) := f_X3_countTests_L5 a1 a2 μ fuel 0 0
def f_X7_reasonTests (a1 : Int32) (a2 : Int32) (μ : Mm) : Option (Nat × Int32) := ((f_X7_requirePayment a1 μ).bind (fun r1 => (if r1 = 0 then ((f_X7_ruleOfReason a1 a2 μ).bind (fun r4 => (if r4.1 = 0 then (chk r4.2 12 ((chk a1 200 (((f_X3_countTests (μ 27 r4.2.toNatClampNeg) (μ 33 a1.toNatClampNeg) μ).bind (fun r9 => some (0, r9))))))) else some (r4.1, 0)))) else some (r1, 0))))
def f_L_reasonTests_0_o (a1 : Int32) (a2 : Int32) (μ : Mm) (o : Nat → Int64) : Option (Int32 × (Nat → Int64)) := ((f_X7_reasonTests a1 a2 μ).bind (fun r1 => (if r1.1 = 0 then (chk 0 1 (some (0, (vp_updL o (0 : Int32).toNatClampNeg (r1.2 : Int32).toInt64)))) else (if r1.1 = 2 then some (1, o) else (if r1.1 = 1 then some (2, o) else none)))))
def f_X3_testAtRank_L6  (x1 : Int32) (x2 : Int32) (x3 : Int32) (μ : Mm) : Nat → Int32 → Int32 → Option (Int32)
  | 0, _, _ => none
  | n + 1, x4, x5 => (chk x1 30 ((if (μ 22 x1.toNatClampNeg : Int32) ≤ x5 then some (-1) else (chk ((x1 * 8) + x5) 240 (((f_X7_hasBit x2 (μ 23 ((x1 * 8) + x5).toNatClampNeg)).bind (fun r4 => (if (r4 : Int32) = 0 then f_X3_testAtRank_L6 x1 x2 x3 μ n x4 (x5 + 1) else (if (x4 : Int32) = x3 then some (μ 23 ((x1 * 8) + x5).toNatClampNeg) else f_X3_testAtRank_L6 x1 x2 x3 μ n (x4 + 1) (x5 + 1))))))))))
def f_X3_testAtRank (a1 : Int32) (a2 : Int32) (a3 : Int32) (μ : Mm) : Option (Int32) := f_X3_testAtRank_L6 a1 a2 a3 μ fuel 0 0
def f_X7_testOfReason (a1 : Int32) (a2 : Int32) (a3 : Int32) (μ : Mm) : Option (Nat × Int32) := ((f_X7_ruleOfReason a1 a2 μ).bind (fun r1 => (if r1.1 = 0 then (chk r1.2 12 ((chk a1 200 (((f_X3_testAtRank (μ 27 r1.2.toNatClampNeg) (μ 33 a1.toNatClampNeg) a3 μ).bind (fun r6 => (if (r6 : Int32) = (-1) then some (1, 0) else some (0, r6)))))))) else some (r1.1, 0))))
def f_X7_reasonFeature (a1 : Int32) (a2 : Int32) (a3 : Int32) (μ : Mm) : Option (Nat × Int32) := ((f_X7_requirePayment a1 μ).bind (fun r1 => (if r1 = 0 then ((f_X7_testOfReason a1 a2 a3 μ).bind (fun r4 => (if r4.1 = 0 then (chk r4.2 30 ((gn .char (μ 16 r4.2.toNatClampNeg) (some (0, μ 16 r4.2.toNatClampNeg))))) else some (r4.1, 0)))) else some (r1, 0))))
def f_L_reasonFeature_0_o (a1 : Int32) (a2 : Int32) (a3 : Int32) (μ : Mm) (o : Nat → Int64) : Option (Int32 × (Nat → Int64)) := ((f_X7_reasonFeature a1 a2 a3 μ).bind (fun r1 => (if r1.1 = 0 then (chk 0 1 (some (0, (vp_updL o (0 : Int32).toNatClampNeg (r1.2 : Int32).toInt64)))) else (if r1.1 = 2 then some (1, o) else (if r1.1 = 1 then some (2, o) else none)))))
def f_X2_foundValue (a1 : Int32) (a2 : Int32) (μ : Mm) : Option (Int32) := (chk ((a1 * 30) + a2) 6000 (some (μ 34 ((a1 * 30) + a2).toNatClampNeg)))
def f_X7_reasonValue (a1 : Int32) (a2 : Int32) (a3 : Int32) (μ : Mm) : Option (Nat × Int32) := ((f_X7_requirePayment a1 μ).bind (fun r1 => (if r1 = 0 then ((f_X7_testOfReason a1 a2 a3 μ).bind (fun r4 => (if r4.1 = 0 then ((f_X2_foundValue a1 r4.2 μ).bind (fun r7 => some (0, r7))) else some (r4.1, 0)))) else some (r1, 0))))
def f_L_reasonValue_0_o (a1 : Int32) (a2 : Int32) (a3 : Int32) (μ : Mm) (o : Nat → Int64) : Option (Int32 × (Nat → Int64)) := ((f_X7_reasonValue a1 a2 a3 μ).bind (fun r1 => (if r1.1 = 0 then (chk 0 1 (some (0, (vp_updL o (0 : Int32).toNatClampNeg (r1.2 : Int32).toInt64)))) else (if r1.1 = 2 then some (1, o) else (if r1.1 = 1 then some (2, o) else none)))))
def f_X2_isAhead (a1 : Int32) (a2 : Int32) (μ : Mm) : Option (Int32) := (chk a1 200 ((chk a2 200 ((if (μ 30 a2.toNatClampNeg : Int32) < μ 30 a1.toNatClampNeg then some 1 else (chk a1 200 ((chk a2 200 ((if (μ 30 a1.toNatClampNeg : Int32) = μ 30 a2.toNatClampNeg then (if (a2 : Int32) ≤ a1 then some 0 else some 1) else some 0))))))))))
def f_X2_firstOpen_L4  (x1 : Int32) (μ : Mm) : Nat → Int32 → Int32 → Option (Int32)
  | 0, _, _ => none
  | n + 1, x2, x3 => (if (x1 : Int32) ≤ x3 then some x2 else (chk x3 200 ((if (μ 31 x3.toNatClampNeg : Int32) = 111 then (if (x2 : Int32) = (-1) then f_X2_firstOpen_L4 x1 μ n x3 (x3 + 1) else ((f_X2_isAhead x3 x2 μ).bind (fun r5 => (if (r5 : Int32) = 0 then f_X2_firstOpen_L4 x1 μ n x2 (x3 + 1) else f_X2_firstOpen_L4 x1 μ n x3 (x3 + 1))))) else f_X2_firstOpen_L4 x1 μ n x2 (x3 + 1)))))
def f_X2_firstOpen (a1 : Int32) (μ : Mm) : Option (Int32) := f_X2_firstOpen_L4 a1 μ fuel (-1) 0
def f_X7_nextAlert  (μ : Mm) : Option (Nat × Int32) := ((f_X2_firstOpen (μ 5 4) μ).bind (fun r1 => (if (r1 : Int32) = (-1) then some (2, 0) else some (0, r1))))
def f_L_nextAlert_0_o  (μ : Mm) (o : Nat → Int64) : Option (Int32 × (Nat → Int64)) := ((f_X7_nextAlert μ).bind (fun r1 => (if r1.1 = 0 then (chk 0 1 (some (0, (vp_updL o (0 : Int32).toNatClampNeg (r1.2 : Int32).toInt64)))) else (if r1.1 = 2 then some (1, o) else none))))
def f_X2_countAhead_L5  (x1 : Int32) (x2 : Int32) (μ : Mm) : Nat → Int32 → Int32 → Option (Int32)
  | 0, _, _ => none
  | n + 1, x3, x4 => (if (x2 : Int32) ≤ x4 then some x3 else (chk x4 200 ((if (μ 31 x4.toNatClampNeg : Int32) = 111 then ((f_X2_isAhead x4 x1 μ).bind (fun r4 => (if (r4 : Int32) = 0 then f_X2_countAhead_L5 x1 x2 μ n x3 (x4 + 1) else f_X2_countAhead_L5 x1 x2 μ n (x3 + 1) (x4 + 1)))) else f_X2_countAhead_L5 x1 x2 μ n x3 (x4 + 1)))))
def f_X2_countAhead (a1 : Int32) (a2 : Int32) (μ : Mm) : Option (Int32) := f_X2_countAhead_L5 a1 a2 μ fuel 0 0
def f_X2_openAtRank_L2  (x1 : Int32) (x2 : Int32) (μ : Mm) : Nat → Int32 → Option (Int32)
  | 0, _ => none
  | n + 1, x3 => (if (x2 : Int32) ≤ x3 then some (-1) else (chk x3 200 ((if (μ 31 x3.toNatClampNeg : Int32) = 111 then ((f_X2_countAhead x3 x2 μ).bind (fun r4 => (if (r4 : Int32) = x1 then some x3 else f_X2_openAtRank_L2 x1 x2 μ n (x3 + 1)))) else f_X2_openAtRank_L2 x1 x2 μ n (x3 + 1)))))
def f_X2_openAtRank (a1 : Int32) (a2 : Int32) (μ : Mm) : Option (Int32) := f_X2_openAtRank_L2 a1 a2 μ fuel 0
def f_X7_alertAt (a1 : Int32) (μ : Mm) : Option (Nat × Int32) := ((f_X2_openAtRank a1 (μ 5 4) μ).bind (fun r1 => (if (r1 : Int32) = (-1) then some (1, 0) else some (0, r1))))
def f_L_alertAt_0_o (a1 : Int32) (μ : Mm) (o : Nat → Int64) : Option (Int32 × (Nat → Int64)) := ((f_X7_alertAt a1 μ).bind (fun r1 => (if r1.1 = 0 then (chk 0 1 (some (0, (vp_updL o (0 : Int32).toNatClampNeg (r1.2 : Int32).toInt64)))) else (if r1.1 = 1 then some (1, o) else none))))
def f_X2_close (a1 : Int32) (a2 : Int32) (μ : Mm) : Option (Mm) := (chk a1 200 (some (up2 (up2 μ 31 a1.toNatClampNeg (vp_nar .char a2)) 29 5 (((up2 μ 31 a1.toNatClampNeg (vp_nar .char a2)) 29 5) - 1))))
def f_X7_decide_J46  (x1 : Int32) (x2 : Int32) (s0 : Int32) (s1 : Int32) (μ : Mm) : Option (Nat × Int32 × Mm) := ((f_X2_close s1 s0 μ).bind (fun r7 => (if (x2 : Int32) = 0 then some (0, r7 29 5, r7) else (chk x1 200 (((f_X7_withBit (r7 2 3) (r7 7 x1.toNatClampNeg) 1).bind (fun r11 => some (0, (up2 r7 2 3 r11) 29 5, (up2 r7 2 3 r11)))))))))
def f_X7_decide (a1 : Int32) (a2 : Int32) (μ : Mm) : Option (Nat × Int32 × Mm) := ((f_X7_requirePayment a1 μ).bind (fun r1 => (if r1 = 0 then (chk a1 200 ((if (μ 31 a1.toNatClampNeg : Int32) = 111 then (if (a2 : Int32) = 0 then f_X7_decide_J46 a1 a2 99 a1 μ else f_X7_decide_J46 a1 a2 102 a1 μ) else some (3, 0, μ)))) else some (r1, 0, μ))))
def f_L_decide_0_o (a1 : Int32) (a2 : Int32) (μ : Mm) (o : Nat → Int64) : Option (Int32 × Mm × (Nat → Int64)) := ((f_X7_decide a1 a2 μ).bind (fun r1 => (if r1.1 = 0 then (chk 0 1 (some (0, r1.2.2, (vp_updL o (0 : Int32).toNatClampNeg (r1.2.1 : Int32).toInt64)))) else (if r1.1 = 2 then some (1, r1.2.2, o) else (if r1.1 = 3 then some (2, r1.2.2, o) else none)))))
def f_X7_alertOf (a1 : Int32) (μ : Mm) : Option (Nat × Int32) := ((f_X7_requirePayment a1 μ).bind (fun r1 => (if r1 = 0 then (chk a1 200 ((gn .char (μ 31 a1.toNatClampNeg) (some (0, μ 31 a1.toNatClampNeg))))) else some (r1, 0))))
def f_L_alertOf_0_o (a1 : Int32) (μ : Mm) (o : Nat → Int64) : Option (Int32 × (Nat → Int64)) := ((f_X7_alertOf a1 μ).bind (fun r1 => (if r1.1 = 0 then (chk 0 1 (some (0, (vp_updL o (0 : Int32).toNatClampNeg (r1.2 : Int32).toInt64)))) else (if r1.1 = 2 then some (1, o) else none))))
def f_X1_networkNow (a1 : Int32) (μ : Mm) : Option (Mm) := ((f_X4_firstAfter ((μ 1 3) - a1) 0 μ).bind (fun r1 => ((f_X1_networkOf r1 (μ 5 4) μ).bind (fun r3 => some r3))))
def f_X7_requireWay (a0 : Int32)  : Option (Nat × Int32) := (if (a0 : Int32) = (-1) then some (2, 0) else some (0, a0))
def f_X7_ring (a1 : Int32) (a2 : Int32) (μ : Mm) : Option (Nat × Int32 × Mm) := ((f_X7_requireAccount a1 μ).bind (fun r1 => (if r1 = 0 then ((f_X7_requireWindow a2).bind (fun r4 => (if r4 = 0 then ((f_X1_networkNow a2 μ).bind (fun r7 => ((f_X5_shortestWay a1 a1 r7).bind (fun r9 => ((f_X7_requireWay r9).bind (fun r11 => (if r11.1 = 0 then some (0, r11.2, r7) else some (r11.1, 0, r7)))))))) else some (r4, 0, μ)))) else some (r1, 0, μ))))
def f_L_ring_0_o (a1 : Int32) (a2 : Int32) (μ : Mm) (o : Nat → Int64) : Option (Int32 × Mm × (Nat → Int64)) := ((f_X7_ring a1 a2 μ).bind (fun r1 => (if r1.1 = 0 then (chk 0 1 (some (0, r1.2.2, (vp_updL o (0 : Int32).toNatClampNeg (r1.2.1 : Int32).toInt64)))) else (if r1.1 = 1 then some (1, r1.2.2, o) else (if r1.1 = 4 then some (2, r1.2.2, o) else (if r1.1 = 2 then some (3, r1.2.2, o) else none))))))
def f_X5_shortestWayByTrying_L7  (x2 : Int32) (μ : Mm) : Nat → Int32 → Int32 → Option (Int32)
  | 0, _, _ => none
  | n + 1, x3, x4 => (if (20 : Int32) < x4 then some (-1) else ((f_X5_step_11 x3 μ).bind (fun r2 => ((f_X7_hasBit r2 x2).bind (fun r4 => (if (r4 : Int32) = 0 then f_X5_shortestWayByTrying_L7 x2 μ n r2 (x4 + 1) else some x4))))))
def f_X5_shortestWayByTrying (a1 : Int32) (a2 : Int32) (μ : Mm) : Option (Int32) := f_X5_shortestWayByTrying_L7 a2 μ fuel (1 <<< (a1 &&& 31)) 1
def f_X7_ringByTrying (a1 : Int32) (a2 : Int32) (μ : Mm) : Option (Nat × Int32 × Mm) := ((f_X7_requireAccount a1 μ).bind (fun r1 => (if r1 = 0 then ((f_X7_requireWindow a2).bind (fun r4 => (if r4 = 0 then ((f_X1_networkNow a2 μ).bind (fun r7 => ((f_X5_shortestWayByTrying a1 a1 r7).bind (fun r9 => ((f_X7_requireWay r9).bind (fun r11 => (if r11.1 = 0 then some (0, r11.2, r7) else some (r11.1, 0, r7)))))))) else some (r4, 0, μ)))) else some (r1, 0, μ))))
def f_L_ringByTrying_0_o (a1 : Int32) (a2 : Int32) (μ : Mm) (o : Nat → Int64) : Option (Int32 × Mm × (Nat → Int64)) := ((f_X7_ringByTrying a1 a2 μ).bind (fun r1 => (if r1.1 = 0 then (chk 0 1 (some (0, r1.2.2, (vp_updL o (0 : Int32).toNatClampNeg (r1.2.1 : Int32).toInt64)))) else (if r1.1 = 1 then some (1, r1.2.2, o) else (if r1.1 = 4 then some (2, r1.2.2, o) else (if r1.1 = 2 then some (3, r1.2.2, o) else none))))))
def f_X7_group (a1 : Int32) (a2 : Int32) (μ : Mm) : Option (Nat × Int32 × Mm) := ((f_X7_requireAccount a1 μ).bind (fun r1 => (if r1 = 0 then ((f_X7_requireWindow a2).bind (fun r4 => (if r4 = 0 then ((f_X1_networkNow a2 μ).bind (fun r7 => ((f_X5_groupSize a1 r7).bind (fun r9 => some (0, r9, r7))))) else some (r4, 0, μ)))) else some (r1, 0, μ))))
def f_L_group_0_o (a1 : Int32) (a2 : Int32) (μ : Mm) (o : Nat → Int64) : Option (Int32 × Mm × (Nat → Int64)) := ((f_X7_group a1 a2 μ).bind (fun r1 => (if r1.1 = 0 then (chk 0 1 (some (0, r1.2.2, (vp_updL o (0 : Int32).toNatClampNeg (r1.2.1 : Int32).toInt64)))) else (if r1.1 = 1 then some (1, r1.2.2, o) else (if r1.1 = 4 then some (2, r1.2.2, o) else none)))))
def f_X7_countDecided_L5  (x1 : Int32) (x2 : Int32) (μ : Mm) : Nat → Int32 → Int32 → Option (Int32)
  | 0, _, _ => none
  | n + 1, x3, x4 => (if (μ 5 4 : Int32) ≤ x4 then some x3 else (chk x4 200 ((if (μ 31 x4.toNatClampNeg : Int32) = x1 then (chk x4 200 ((if (μ 30 x4.toNatClampNeg : Int32) < x2 then f_X7_countDecided_L5 x1 x2 μ n x3 (x4 + 1) else f_X7_countDecided_L5 x1 x2 μ n (x3 + 1) (x4 + 1)))) else f_X7_countDecided_L5 x1 x2 μ n x3 (x4 + 1)))))
def f_X7_countDecided (a1 : Int32) (a2 : Int32) (μ : Mm) : Option (Int32) := f_X7_countDecided_L5 a1 a2 μ fuel 0 0
def f_X7_caught (a1 : Int32) (μ : Mm) : Option (Nat × Int32) := ((f_X7_requireThreshold a1).bind (fun r1 => (if r1 = 0 then ((f_X7_countDecided 102 a1 μ).bind (fun r4 => some (0, r4))) else some (r1, 0))))
def f_L_caught_0_o (a1 : Int32) (μ : Mm) (o : Nat → Int64) : Option (Int32 × (Nat → Int64)) := ((f_X7_caught a1 μ).bind (fun r1 => (if r1.1 = 0 then (chk 0 1 (some (0, (vp_updL o (0 : Int32).toNatClampNeg (r1.2 : Int32).toInt64)))) else (if r1.1 = 4 then some (1, o) else none))))
def f_X7_requireMost (a0 : Int32)  : Option (Nat) := (if (a0 : Int32) < 0 then some 4 else (if (a0 : Int32) ≤ 200 then some 0 else some 4))
def f_X7_bestThreshold_L13 (kx62 : (Int32 → Option (Nat × Int32))) (x1 : Int32) (μ : Mm) : Nat → Int32 → Int32 → Int32 → Option (Nat × Int32)
  | 0, _, _, _ => none
  | n + 1, x2, x3, x4 => (if (1201 : Int32) ≤ x4 then kx62 x2 else (if (x3 : Int32) ≤ x2 then kx62 x2 else ((f_X7_countDecided 99 ((x2 + x3) / 2) μ).bind (fun r6 => (if (x1 : Int32) < r6 then f_X7_bestThreshold_L13 kx62 x1 μ n (((x2 + x3) / 2) + 1) x3 (x4 + 1) else f_X7_bestThreshold_L13 kx62 x1 μ n x2 ((x2 + x3) / 2) (x4 + 1))))))
def f_X7_bestThreshold (a1 : Int32) (μ : Mm) : Option (Nat × Int32) := ((f_X7_requireMost a1).bind (fun r1 => (if r1 = 0 then f_X7_bestThreshold_L13 (fun (y9 : Int32) => some (0, y9)) a1 μ fuel 1 1201 0 else some (r1, 0))))
def f_L_bestThreshold_0_o (a1 : Int32) (μ : Mm) (o : Nat → Int64) : Option (Int32 × (Nat → Int64)) := ((f_X7_bestThreshold a1 μ).bind (fun r1 => (if r1.1 = 0 then (chk 0 1 (some (0, (vp_updL o (0 : Int32).toNatClampNeg (r1.2 : Int32).toInt64)))) else (if r1.1 = 4 then some (1, o) else none))))
def f_X7_bestThresholdByTrying_L6 (kx30 : (Int32 → Option (Nat × Int32))) (x1 : Int32) (μ : Mm) : Nat → Int32 → Option (Nat × Int32)
  | 0, _ => none
  | n + 1, x2 => (if (1201 : Int32) ≤ x2 then kx30 x2 else ((f_X7_countDecided 99 x2 μ).bind (fun r5 => (if (r5 : Int32) ≤ x1 then kx30 x2 else f_X7_bestThresholdByTrying_L6 kx30 x1 μ n (x2 + 1)))))
def f_X7_bestThresholdByTrying (a1 : Int32) (μ : Mm) : Option (Nat × Int32) := ((f_X7_requireMost a1).bind (fun r1 => (if r1 = 0 then f_X7_bestThresholdByTrying_L6 (fun (y8 : Int32) => some (0, y8)) a1 μ fuel 1 else some (r1, 0))))
def f_L_bestThresholdByTrying_0_o (a1 : Int32) (μ : Mm) (o : Nat → Int64) : Option (Int32 × (Nat → Int64)) := ((f_X7_bestThresholdByTrying a1 μ).bind (fun r1 => (if r1.1 = 0 then (chk 0 1 (some (0, (vp_updL o (0 : Int32).toNatClampNeg (r1.2 : Int32).toInt64)))) else (if r1.1 = 4 then some (1, o) else none))))
def f_X2_countWithReason_L6  (x1 : Int32) (x2 : Int32) (x3 : Int32) (μ : Mm) : Nat → Int32 → Int32 → Option (Int32)
  | 0, _, _ => none
  | n + 1, x4, x5 => (if (x3 : Int32) ≤ x5 then some x4 else (chk x5 200 ((if (μ 31 x5.toNatClampNeg : Int32) = x1 then (chk x5 200 (((f_X7_hasBit (μ 32 x5.toNatClampNeg) x2).bind (fun r5 => (if (r5 : Int32) = 0 then f_X2_countWithReason_L6 x1 x2 x3 μ n x4 (x5 + 1) else f_X2_countWithReason_L6 x1 x2 x3 μ n (x4 + 1) (x5 + 1)))))) else f_X2_countWithReason_L6 x1 x2 x3 μ n x4 (x5 + 1)))))
def f_X2_countWithReason (a1 : Int32) (a2 : Int32) (a3 : Int32) (μ : Mm) : Option (Int32) := f_X2_countWithReason_L6 a1 a2 a3 μ fuel 0 0
noncomputable def f_X7_precision (a1 : Int32) (μ : Mm) : Option (Nat × UInt32) := ((f_X7_requireRule a1 μ).bind (fun r1 => (if r1 = 0 then ((f_X2_countWithReason 102 a1 (μ 5 4) μ).bind (fun r4 => ((f_X2_countWithReason 99 a1 (μ 5 4) μ).bind (fun r6 => (if (r4 + r6 : Int32) = 0 then some (6, 0) else (gx32 (FP.fdiv (FP.i2f r4) (FP.i2f (r4 + r6))) (some (0, FP.fdiv (FP.i2f r4) (FP.i2f (r4 + r6)))))))))) else some (r1, 0))))
noncomputable def f_L_precision_0_d (a1 : Int32) (μ : Mm) (dd : Nat → UInt64) : Option (Int32 × (Nat → UInt64)) := ((f_X7_precision a1 μ).bind (fun r1 => (if r1.1 = 0 then (gx64 (FP.f2d r1.2) ((chk 0 1 (some (0, (vf_upd dd (0 : Int32).toNatClampNeg (FP.f2d r1.2))))))) else (if r1.1 = 1 then some (1, dd) else (if r1.1 = 6 then some (2, dd) else none)))))
noncomputable def f_X7_meanScore_L30  (x1 : Int32) (μ : Mm) : Nat → Int32 → Int32 → Option (Nat × UInt64)
  | 0, _, _ => none
  | n + 1, x2, x3 => (if (x1 : Int32) ≤ x3 then (gx64 (FP.ddiv (FP.i2d x2) (FP.i2d x1)) (some (0, FP.ddiv (FP.i2d x2) (FP.i2d x1)))) else (chk x3 200 (f_X7_meanScore_L30 x1 μ n (x2 + (μ 30 x3.toNatClampNeg)) (x3 + 1))))
noncomputable def f_X7_meanScore  (μ : Mm) : Option (Nat × UInt64) := (if (μ 5 4 : Int32) = 0 then some (6, 0) else f_X7_meanScore_L30 (μ 5 4) μ fuel 0 0)
noncomputable def f_L_meanScore_0_d  (μ : Mm) (dd : Nat → UInt64) : Option (Int32 × (Nat → UInt64)) := ((f_X7_meanScore μ).bind (fun r1 => (if r1.1 = 0 then (chk 0 1 (some (0, (vf_upd dd (0 : Int32).toNatClampNeg r1.2)))) else (if r1.1 = 6 then some (1, dd) else none))))
def f_X7_accounts  (μ : Mm) : Option (Int32) := some (μ 2 2)
def f_X7_time  (μ : Mm) : Option (Int32) := some (μ 1 3)
def f_X7_payments  (μ : Mm) : Option (Int32) := some (μ 5 4)
def f_X7_kept  (μ : Mm) : Option (Int32) := some ((μ 5 4) - (μ 1 4))
def f_X7_openAlerts  (μ : Mm) : Option (Int32) := some (μ 29 5)
def f_X7_turnover_L4   (μ : Mm) : Nat → Int64 → Int32 → Option (Int64)
  | 0, _, _ => none
  | n + 1, x1, x3 => (if (μ 5 4 : Int32) ≤ x3 then some x1 else (chk x3 200 (f_X7_turnover_L4 μ n (x1 + (μ 8 x3.toNatClampNeg : Int32).toInt64) (x3 + 1))))
def f_X7_turnover  (μ : Mm) : Option (Int64) := f_X7_turnover_L4 μ fuel 0 0
def f_X7_areScoresSound_L2   (μ : Mm) : Nat → Int32 → Option (Int32)
  | 0, _ => none
  | n + 1, x1 => (if (μ 5 4 : Int32) ≤ x1 then some 1 else (chk x1 200 ((chk x1 200 (((f_X6_weightOf (μ 32 x1.toNatClampNeg) μ).bind (fun r4 => (if (μ 30 x1.toNatClampNeg : Int32) = r4 then f_X7_areScoresSound_L2 μ n (x1 + 1) else some 0))))))))
def f_X7_areScoresSound  (μ : Mm) : Option (Int32) := f_X7_areScoresSound_L2 μ fuel 0
def f_X7_areSumsSound_L2   (μ : Mm) : Nat → Int32 → Option (Int32)
  | 0, _ => none
  | n + 1, x1 => (if (μ 2 2 : Int32) ≤ x1 then some 1 else ((f_X1_keptSum x1 10080 μ).bind (fun r2 => ((f_X1_sumAnew x1 10080 μ).bind (fun r4 => (if (r2 : Int32) = r4 then f_X7_areSumsSound_L2 μ n (x1 + 1) else some 0))))))
def f_X7_areSumsSound  (μ : Mm) : Option (Int32) := f_X7_areSumsSound_L2 μ fuel 0
def f_X7_isSound  (μ : Mm) : Option (Int32) := ((f_X7_areScoresSound μ).bind (fun r1 => (if (r1 : Int32) = 0 then some 0 else ((f_X7_areSumsSound μ).bind (fun r4 => (if (r4 : Int32) = 0 then some 0 else some 1))))))
def f_X8_thrown  (ν : Mm) : Option (Int32) := some (ν 0 0)
def f_X8_fails (a1 : Int32) (ν : Mm) : Option (Int32 × Mm) := some (0, (up2 ν 0 0 a1))
def f_X8_isWrong (a1 : Int32) (ν : Mm) : Option (Int32 × Mm) := some (0, (up2 ν 0 0 a1))
def f_X8_isBetween (a0 : Int32) (a1 : Int32) (a2 : Int32)  : Option (Int32) := (if (a0 : Int32) < a1 then some 0 else (if (a2 : Int32) < a0 then some 0 else some 1))
def f_X8_isAccount (a1 : Int32) (ν : Mm) : Option (Int32) := ((f_X8_isBetween a1 0 ((ν 0 3) - 1)).bind (fun r1 => (gn .boolean r1 (some r1))))
def f_X8_has (a0 : Int32) (a1 : Int32)  : Option (Int32) := (if ((a0 >>> (a1 &&& 31)) &&& 1 : Int32) = 1 then some 1 else some 0)
def f_X8_with (a0 : Int32) (a1 : Int32) (a2 : Int32)  : Option (Int32) := (if (a2 : Int32) = 0 then some (a0 &&& ((1 <<< (a1 &&& 31)) ^^^ (-1))) else some (a0 ||| (1 <<< (a1 &&& 31))))
def f_X8_open (a1 : Int32) (ν : Mm) : Option (Int32 × Mm) := ((f_X8_isBetween a1 97 100).bind (fun r1 => (if (r1 : Int32) = 0 then ((f_X8_fails 1 (up2 ν 0 0 0)).bind (fun r10 => some (r10.1, r10.2))) else (if ((up2 ν 0 0 0) 0 3 : Int32) = 20 then ((f_X8_fails 2 (up2 ν 0 0 0)).bind (fun r8 => some (r8.1, r8.2))) else (chk ((up2 ν 0 0 0) 0 3) 20 ((chk ((up2 (up2 ν 0 0 0) 1 ((up2 ν 0 0 0) 0 3).toNatClampNeg (vp_nar .char a1)) 0 3) 20 ((setm (up2 (up2 (up2 ν 0 0 0) 1 ((up2 ν 0 0 0) 0 3).toNatClampNeg (vp_nar .char a1)) 2 ((up2 (up2 ν 0 0 0) 1 ((up2 ν 0 0 0) 0 3).toNatClampNeg (vp_nar .char a1)) 0 3).toNatClampNeg ((up2 (up2 ν 0 0 0) 1 ((up2 ν 0 0 0) 0 3).toNatClampNeg (vp_nar .char a1)) 0 4)) (fun mm7 => some (((up2 mm7 0 3 ((mm7 0 3) + 1)) 0 3) - 1, (up2 mm7 0 3 ((mm7 0 3) + 1)))))))))))))
def f_X8_setMarked (a1 : Int32) (a2 : Int32) (ν : Mm) : Option (Int32 × Mm) := ((f_X8_isAccount a1 (up2 ν 0 0 0)).bind (fun r1 => (if (r1 : Int32) = 0 then ((f_X8_isWrong 1 (up2 ν 0 0 0)).bind (fun r9 => (gn .boolean r9.1 (some (r9.1, r9.2))))) else ((f_X8_has ((up2 ν 0 0 0) 0 5) a1).bind (fun r4 => ((f_X8_with ((up2 ν 0 0 0) 0 5) a1 a2).bind (fun r6 => (gn .boolean r4 (some (r4, (up2 (up2 ν 0 0 0) 0 5 r6)))))))))))
def f_X8_setBlocked (a1 : Int32) (a2 : Int32) (ν : Mm) : Option (Int32 × Mm) := ((f_X8_isAccount a1 (up2 ν 0 0 0)).bind (fun r1 => (if (r1 : Int32) = 0 then ((f_X8_isWrong 1 (up2 ν 0 0 0)).bind (fun r9 => (gn .boolean r9.1 (some (r9.1, r9.2))))) else ((f_X8_has ((up2 ν 0 0 0) 0 6) a1).bind (fun r4 => ((f_X8_with ((up2 ν 0 0 0) 0 6) a1 a2).bind (fun r6 => (gn .boolean r4 (some (r4, (up2 (up2 ν 0 0 0) 0 6 r6)))))))))))
def f_X8_isMarked (a1 : Int32) (ν : Mm) : Option (Int32 × Mm) := ((f_X8_isAccount a1 (up2 ν 0 0 0)).bind (fun r1 => (if (r1 : Int32) = 0 then ((f_X8_isWrong 1 (up2 ν 0 0 0)).bind (fun r4 => (gn .boolean r4.1 (some (r4.1, r4.2))))) else ((f_X8_has ((up2 ν 0 0 0) 0 5) a1).bind (fun r7 => (gn .boolean r7 (some (r7, (up2 ν 0 0 0)))))))))
def f_X8_countryOf (a1 : Int32) (ν : Mm) : Option (Int32 × Mm) := ((f_X8_isAccount a1 (up2 ν 0 0 0)).bind (fun r1 => (if (r1 : Int32) = 0 then ((f_X8_fails 1 (up2 ν 0 0 0)).bind (fun r4 => (gn .char ((r4.1 : Int32).toUInt32 % 65536).toInt32 (some (((r4.1 : Int32).toUInt32 % 65536).toInt32, r4.2))))) else (chk a1 20 ((gn .char ((up2 ν 0 0 0) 1 a1.toNatClampNeg) (some ((up2 ν 0 0 0) 1 a1.toNatClampNeg, (up2 ν 0 0 0)))))))))
def f_X8_accounts  (ν : Mm) : Option (Int32 × Mm) := some ((up2 ν 0 0 0) 0 3, (up2 ν 0 0 0))
def f_X8_pass (a1 : Int32) (ν : Mm) : Option (Int32 × Mm) := ((f_X8_isBetween a1 1 1440).bind (fun r1 => (if (r1 : Int32) = 0 then ((f_X8_fails 1 (up2 ν 0 0 0)).bind (fun r4 => some (r4.1, r4.2))) else some ((up2 (up2 ν 0 0 0) 0 4 (((up2 ν 0 0 0) 0 4) + a1)) 0 4, (up2 (up2 ν 0 0 0) 0 4 (((up2 ν 0 0 0) 0 4) + a1))))))
def f_X8_time  (ν : Mm) : Option (Int32 × Mm) := some ((up2 ν 0 0 0) 0 4, (up2 ν 0 0 0))
def f_X8_isPayment (a1 : Int32) (ν : Mm) : Option (Int32) := ((f_X8_isBetween a1 0 ((ν 0 15) - 1)).bind (fun r1 => (gn .boolean r1 (some r1))))
def f_X8_isWindow (a0 : Int32)  : Option (Int32) := ((f_X8_isBetween a0 1 10080).bind (fun r1 => (gn .boolean r1 (some r1))))
def f_X8_isIn (a1 : Int32) (a2 : Int32) (a3 : Int32) (ν : Mm) : Option (Int32) := (chk a1 200 ((if (ν 6 a1.toNatClampNeg : Int32) ≤ a3 - a2 then some 0 else (chk a1 200 ((if (a3 : Int32) < ν 6 a1.toNatClampNeg then some 0 else some 1))))))
def f_X8_gathered_J218 (kb9 : (Int32 → Int32 → Int32 → Option (Int32))) (x1 : Int32) (x2 : Int32) (x3 : Int32) (x4 : Int32) (x5 : Int32) (x6 : Int32) (x7 : Int32)  (ν : Mm) : Option (Int32) := ((f_X8_has x5 x7).bind (fun r18 => (if (r18 : Int32) = 0 then ((f_X8_with x5 x7 1).bind (fun r21 => kb9 (x4 + 1) r21 (x6 + 1))) else ((f_X8_with x5 x7 1).bind (fun r23 => kb9 (x4 + 0) r23 (x6 + 1))))))
def f_X8_gathered_J206 (kb9 : (Int32 → Int32 → Int32 → Option (Int32))) (x1 : Int32) (x2 : Int32) (x3 : Int32) (x4 : Int32) (x5 : Int32) (x6 : Int32) (x7 : Int32)  (ν : Mm) : Option (Int32) := (if (x2 : Int32) = 114 then f_X8_gathered_J218 kb9 x1 x2 x3 x4 x5 x6 x7 ν else (if (x2 : Int32) = 99 then f_X8_gathered_J218 kb9 x1 x2 x3 x4 x5 x6 x7 ν else ((f_X8_with x5 x7 1).bind (fun r26 => kb9 x4 r26 (x6 + 1)))))
def f_X8_gathered_J171 (kb9 : (Int32 → Int32 → Int32 → Option (Int32))) (x1 : Int32) (x2 : Int32) (x3 : Int32) (x4 : Int32) (x5 : Int32) (x6 : Int32) (x7 : Int32)  (ν : Mm) : Option (Int32) := (if (x2 : Int32) = 108 then (chk x6 200 (((f_X8_isBetween (ν 5 x6.toNatClampNeg) 900 999).bind (fun r29 => (if (r29 : Int32) = 0 then f_X8_gathered_J206 kb9 x1 x2 x3 (x4 + 0) x5 x6 x7 ν else f_X8_gathered_J206 kb9 x1 x2 x3 (x4 + 1) x5 x6 x7 ν))))) else f_X8_gathered_J206 kb9 x1 x2 x3 x4 x5 x6 x7 ν)
def f_X8_gathered_J151 (kb9 : (Int32 → Int32 → Int32 → Option (Int32))) (x1 : Int32) (x2 : Int32) (x3 : Int32) (x4 : Int32) (x5 : Int32) (x6 : Int32) (x7 : Int32)  (ν : Mm) : Option (Int32) := (if (x2 : Int32) = 109 then (chk x6 200 (f_X8_gathered_J171 kb9 x1 x2 x3 (if (x4 : Int32) < ν 5 x6.toNatClampNeg then ν 5 x6.toNatClampNeg else x4) x5 x6 x7 ν)) else f_X8_gathered_J171 kb9 x1 x2 x3 x4 x5 x6 x7 ν)
def f_X8_gathered_J133 (kb9 : (Int32 → Int32 → Int32 → Option (Int32))) (x1 : Int32) (x2 : Int32) (x3 : Int32) (x4 : Int32) (x5 : Int32) (x6 : Int32) (x7 : Int32)  (ν : Mm) : Option (Int32) := (if (x2 : Int32) = 115 then (chk x6 200 (f_X8_gathered_J151 kb9 x1 x2 x3 (x4 + (ν 5 x6.toNatClampNeg)) x5 x6 x7 ν)) else f_X8_gathered_J151 kb9 x1 x2 x3 x4 x5 x6 x7 ν)
def f_X8_gathered_J72 (kb9 : (Int32 → Int32 → Int32 → Option (Int32))) (x1 : Int32) (x2 : Int32) (x3 : Int32) (x4 : Int32) (x5 : Int32) (x6 : Int32)  (ν : Mm) : Option (Int32) := (chk x6 200 ((chk x1 200 ((if (ν 3 x6.toNatClampNeg : Int32) = ν 3 x1.toNatClampNeg then (if (x2 : Int32) = 114 then (chk x6 200 ((if (x2 : Int32) = 110 then f_X8_gathered_J133 kb9 x1 x2 x3 (x4 + 1) x5 x6 (ν 4 x6.toNatClampNeg) ν else f_X8_gathered_J133 kb9 x1 x2 x3 x4 x5 x6 (ν 4 x6.toNatClampNeg) ν))) else (chk x6 200 ((chk (ν 4 x6.toNatClampNeg) 20 ((if (x2 : Int32) = 110 then f_X8_gathered_J133 kb9 x1 x2 x3 (x4 + 1) x5 x6 ((ν 1 (ν 4 x6.toNatClampNeg).toNatClampNeg) - 97) ν else f_X8_gathered_J133 kb9 x1 x2 x3 x4 x5 x6 ((ν 1 (ν 4 x6.toNatClampNeg).toNatClampNeg) - 97) ν)))))) else kb9 x4 x5 (x6 + 1))))))
def f_X8_gathered_L9  (x1 : Int32) (x2 : Int32) (x3 : Int32) (ν : Mm) : Nat → Int32 → Int32 → Int32 → Option (Int32)
  | 0, _, _, _ => none
  | n + 1, x4, x5, x6 => (if (x1 : Int32) < x6 then some x4 else (chk x1 200 (((f_X8_isIn x6 x3 (ν 6 x1.toNatClampNeg) ν).bind (fun r3 => (if (r3 : Int32) = 0 then f_X8_gathered_L9 x1 x2 x3 ν n x4 x5 (x6 + 1) else (if (x2 : Int32) = 105 then (chk x6 200 ((chk x1 200 ((if (ν 4 x6.toNatClampNeg : Int32) = ν 3 x1.toNatClampNeg then (chk x6 200 (f_X8_gathered_J72 (f_X8_gathered_L9 x1 x2 x3 ν n) x1 x2 x3 (x4 + (ν 5 x6.toNatClampNeg)) x5 x6 ν)) else f_X8_gathered_J72 (f_X8_gathered_L9 x1 x2 x3 ν n) x1 x2 x3 (x4 + 0) x5 x6 ν))))) else f_X8_gathered_J72 (f_X8_gathered_L9 x1 x2 x3 ν n) x1 x2 x3 x4 x5 x6 ν)))))))
def f_X8_gathered (a1 : Int32) (a2 : Int32) (a3 : Int32) (ν : Mm) : Option (Int32) := f_X8_gathered_L9 a1 a2 a3 ν fuel 0 0 0
def f_X8_spreads_L3 (kx27 : (Mm → Option (Mm))) (x1 : Int32) (x2 : Int32) (x3 : Int32) (x4 : Int32) (x5 : Int32)  : Nat → Int32 → Mm → Option (Mm)
  | 0, _, _ => none
  | n + 1, x6, ν => (if (ν 0 3 : Int32) ≤ x6 then kx27 ν else (chk x6 20 (f_X8_spreads_L3 kx27 x1 x2 x3 x4 x5 n (x6 + 1) (up2 ν 11 x6.toNatClampNeg 99))))
def f_X8_spreads_J120 (kb37 : (Int32 → Mm → Option (Mm))) (kb49 : (Int32 → Mm → Option (Mm))) (kx181 : (Mm → Option (Mm))) (x2 : Int32) (x3 : Int32) (x4 : Int32) (x5 : Int32) (x6 : Int32) (x7 : Int32)  (ν : Mm) : Option (Mm) := (if (x5 : Int32) = 0 then kb49 (x7 + 1) ν else (chk x7 200 ((chk (ν 4 x7.toNatClampNeg) 20 ((if (ν 11 (ν 4 x7.toNatClampNeg).toNatClampNeg : Int32) = x6 then (chk x7 200 ((chk (ν 3 x7.toNatClampNeg) 20 ((if (ν 11 (ν 3 x7.toNatClampNeg).toNatClampNeg : Int32) = 99 then (chk x7 200 ((chk (ν 3 x7.toNatClampNeg) 20 (kb49 (x7 + 1) (up2 ν 11 (ν 3 x7.toNatClampNeg).toNatClampNeg (x6 + 1)))))) else kb49 (x7 + 1) ν))))) else kb49 (x7 + 1) ν))))))
def f_X8_spreads_L49 (kb37 : (Int32 → Mm → Option (Mm))) (kx181 : (Mm → Option (Mm))) (x2 : Int32) (x3 : Int32) (x4 : Int32) (x5 : Int32) (x6 : Int32)  : Nat → Int32 → Mm → Option (Mm)
  | 0, _, _ => none
  | n + 1, x7, ν => (if (x2 : Int32) < x7 then kx181 ν else ((f_X8_isIn x7 x3 x4 ν).bind (fun r7 => (if (r7 : Int32) = 0 then f_X8_spreads_L49 kb37 kx181 x2 x3 x4 x5 x6 n (x7 + 1) ν else (chk x7 200 ((chk (ν 3 x7.toNatClampNeg) 20 ((if (ν 11 (ν 3 x7.toNatClampNeg).toNatClampNeg : Int32) = x6 then (chk x7 200 ((chk (ν 4 x7.toNatClampNeg) 20 ((if (ν 11 (ν 4 x7.toNatClampNeg).toNatClampNeg : Int32) = 99 then (chk x7 200 ((chk (ν 4 x7.toNatClampNeg) 20 (f_X8_spreads_J120 kb37 (f_X8_spreads_L49 kb37 kx181 x2 x3 x4 x5 x6 n) kx181 x2 x3 x4 x5 x6 x7 (up2 ν 11 (ν 4 x7.toNatClampNeg).toNatClampNeg (x6 + 1)))))) else f_X8_spreads_J120 kb37 (f_X8_spreads_L49 kb37 kx181 x2 x3 x4 x5 x6 n) kx181 x2 x3 x4 x5 x6 x7 ν))))) else f_X8_spreads_J120 kb37 (f_X8_spreads_L49 kb37 kx181 x2 x3 x4 x5 x6 n) kx181 x2 x3 x4 x5 x6 x7 ν)))))))))
def f_X8_spreads_L37  (x2 : Int32) (x3 : Int32) (x4 : Int32) (x5 : Int32)  : Nat → Int32 → Mm → Option (Mm)
  | 0, _, _ => none
  | n + 1, x6, ν => (if (ν 0 3 : Int32) ≤ x6 then some ν else f_X8_spreads_L49 (f_X8_spreads_L37 x2 x3 x4 x5 n) (fun (m27 : Mm) => f_X8_spreads_L37 x2 x3 x4 x5 n (x6 + 1) m27) x2 x3 x4 x5 x6 fuel 0 ν)
def f_X8_spreads (a1 : Int32) (a2 : Int32) (a3 : Int32) (a4 : Int32) (a5 : Int32) (ν : Mm) : Option (Mm) := f_X8_spreads_L3 (fun (m3 : Mm) => (chk a1 20 (f_X8_spreads_L37 a2 a3 a4 a5 fuel 0 (up2 m3 11 a1.toNatClampNeg 0)))) a1 a2 a3 a4 a5 fuel 0 ν
def f_X8_toMarked_L26  (x3 : Int32) (ν : Mm) : Nat → Int32 → Int32 → Option (Int32 × Mm)
  | 0, _, _ => none
  | n + 1, x4, x5 => (if (ν 0 3 : Int32) ≤ x5 then some (x4, ν) else ((f_X8_has x3 x5).bind (fun r6 => (if (r6 : Int32) = 0 then f_X8_toMarked_L26 x3 ν n x4 (x5 + 1) else (chk x5 20 (f_X8_toMarked_L26 x3 ν n (if (ν 11 x5.toNatClampNeg : Int32) < x4 then ν 11 x5.toNatClampNeg else x4) (x5 + 1)))))))
def f_X8_toMarked (a1 : Int32) (a2 : Int32) (a3 : Int32) (ν : Mm) : Option (Int32 × Mm) := (chk a1 200 ((chk a1 200 (((f_X8_spreads (ν 4 a1.toNatClampNeg) a1 a2 (ν 6 a1.toNatClampNeg) 1 ν).bind (fun r3 => f_X8_toMarked_L26 a3 r3 fuel 99 0))))))
def f_X8_closing (a1 : Int32) (a2 : Int32) (ν : Mm) : Option (Int32 × Mm) := (chk a1 200 ((chk a1 200 (((f_X8_spreads (ν 4 a1.toNatClampNeg) a1 a2 (ν 6 a1.toNatClampNeg) 0 ν).bind (fun r3 => (chk a1 200 ((chk (r3 3 a1.toNatClampNeg) 20 ((if (r3 11 (r3 3 a1.toNatClampNeg).toNatClampNeg : Int32) = 99 then some (0, r3) else (chk a1 200 ((chk (r3 3 a1.toNatClampNeg) 20 (some (1 + (r3 11 (r3 3 a1.toNatClampNeg).toNatClampNeg), r3))))))))))))))))
def f_X8_reached_L16   (ν : Mm) : Nat → Int32 → Int32 → Option (Int32 × Mm)
  | 0, _, _ => none
  | n + 1, x5, x6 => (if (ν 0 3 : Int32) ≤ x6 then some (x5, ν) else (chk x6 20 ((if (99 : Int32) ≤ ν 11 x6.toNatClampNeg then f_X8_reached_L16 ν n (x5 + 0) (x6 + 1) else f_X8_reached_L16 ν n (x5 + 1) (x6 + 1)))))
def f_X8_reached (a1 : Int32) (a2 : Int32) (a3 : Int32) (a4 : Int32) (ν : Mm) : Option (Int32 × Mm) := ((f_X8_spreads a1 a2 a3 a4 1 ν).bind (fun r1 => f_X8_reached_L16 r1 fuel 0 0))
def f_X8_valueBy_L107 (kx168 : (Int32 → Int32 → Option (Int32 × Mm))) (x1 : Int32) (x2 : Int32) (ν : Mm) : Nat → Int32 → Int32 → Int32 → Option (Int32 × Mm)
  | 0, _, _, _ => none
  | n + 1, x5, x6, x7 => (if (x1 : Int32) ≤ x7 then kx168 x5 x6 else (chk x7 200 ((chk x1 200 ((if (ν 3 x7.toNatClampNeg : Int32) = ν 3 x1.toNatClampNeg then (chk x7 200 ((chk x1 200 ((if (ν 4 x7.toNatClampNeg : Int32) = ν 4 x1.toNatClampNeg then f_X8_valueBy_L107 kx168 x1 x2 ν n x7 (x6 &&& 0) (x7 + 1) else f_X8_valueBy_L107 kx168 x1 x2 ν n x7 (x6 &&& 1) (x7 + 1)))))) else f_X8_valueBy_L107 kx168 x1 x2 ν n x5 x6 (x7 + 1)))))))
def f_X8_valueBy (a1 : Int32) (a2 : Int32) (a3 : Int32) (a4 : Int32) (ν : Mm) : Option (Int32 × Mm) := (if (a2 : Int32) = 103 then (chk a1 200 ((chk a1 200 (((f_X8_reached (ν 3 a1.toNatClampNeg) a1 a3 (ν 6 a1.toNatClampNeg) ν).bind (fun r39 => some (r39.1, r39.2))))))) else (if (a2 : Int32) = 107 then ((f_X8_closing a1 a3 ν).bind (fun r35 => some (r35.1, r35.2))) else (if (a2 : Int32) = 100 then ((f_X8_toMarked a1 a3 a4 ν).bind (fun r33 => some (r33.1, r33.2))) else (if (a2 : Int32) = 97 then (chk a1 200 ((chk a1 200 ((chk (ν 3 a1.toNatClampNeg) 20 (some ((ν 6 a1.toNatClampNeg) - (ν 2 (ν 3 a1.toNatClampNeg).toNatClampNeg), ν))))))) else (if (a2 : Int32) = 102 then f_X8_valueBy_L107 (fun (y13 : Int32) (y14 : Int32) => (if (a2 : Int32) = 102 then (if (y14 : Int32) = 0 then some (0, ν) else some (1, ν)) else (if 0 ≤ (y13 : Int32) then (chk a1 200 ((chk y13 200 (some ((ν 6 a1.toNatClampNeg) - (ν 6 y13.toNatClampNeg), ν))))) else some (99999, ν)))) a1 a2 ν fuel (-1) 1 0 else (if (a2 : Int32) = 113 then f_X8_valueBy_L107 (fun (y21 : Int32) (y22 : Int32) => (if (a2 : Int32) = 102 then (if (y22 : Int32) = 0 then some (0, ν) else some (1, ν)) else (if 0 ≤ (y21 : Int32) then (chk a1 200 ((chk y21 200 (some ((ν 6 a1.toNatClampNeg) - (ν 6 y21.toNatClampNeg), ν))))) else some (99999, ν)))) a1 a2 ν fuel (-1) 1 0 else ((f_X8_gathered a1 a2 a3 ν).bind (fun r28 => some (r28, ν)))))))))
def f_X8_isTrue : Nat → Int32 → Int32 → Int32 → Mm → Option (Int32 × Mm)
  | 0, _, _, _, _ => none
  | d + 1, a1, a2, a3, ν => (chk a1 30 ((if (ν 12 a1.toNatClampNeg : Int32) = 3 then (chk a1 30 (((f_X8_isTrue d (ν 13 a1.toNatClampNeg) a2 a3 ν).bind (fun r34 => (if (r34.1 : Int32) = 0 then some (1, r34.2) else some (0, r34.2)))))) else (chk a1 30 ((if (ν 12 a1.toNatClampNeg : Int32) = 1 then (chk a1 30 (((f_X8_isTrue d (ν 13 a1.toNatClampNeg) a2 a3 ν).bind (fun r26 => (if (r26.1 : Int32) = 0 then some (0, r26.2) else (chk a1 30 (((f_X8_isTrue d (r26.2 14 a1.toNatClampNeg) a2 a3 r26.2).bind (fun r30 => (if (r30.1 : Int32) = 0 then some (0, r30.2) else some (1, r30.2))))))))))) else (chk a1 30 ((if (ν 12 a1.toNatClampNeg : Int32) = 2 then (chk a1 30 (((f_X8_isTrue d (ν 13 a1.toNatClampNeg) a2 a3 ν).bind (fun r18 => (if (r18.1 : Int32) = 0 then (chk a1 30 (((f_X8_isTrue d (r18.2 14 a1.toNatClampNeg) a2 a3 r18.2).bind (fun r22 => (if (r22.1 : Int32) = 0 then some (0, r22.2) else some (1, r22.2)))))) else some (1, r18.2)))))) else (chk a1 30 ((chk a1 30 (((f_X8_valueBy a2 (ν 18 a1.toNatClampNeg) (ν 16 a1.toNatClampNeg) a3 ν).bind (fun r9 => (chk a1 30 ((if (r9.2 19 a1.toNatClampNeg : Int32) = 0 then (chk a1 30 ((if (r9.2 17 a1.toNatClampNeg : Int32) < r9.1 then some (0, r9.2) else some (1, r9.2)))) else (chk a1 30 ((if (r9.1 : Int32) < r9.2 17 a1.toNatClampNeg then some (0, r9.2) else some (1, r9.2))))))))))))))))))))))
def f_X8_isReason (a1 : Int32) (a2 : Int32) (a3 : Int32) (a4 : Int32) (ν : Mm) : Option (Int32 × Mm) := ((f_X8_has a3 a1).bind (fun r1 => (if (r1 : Int32) = 0 then some (0, ν) else (chk a1 12 (((f_X8_isTrue 16 (ν 20 a1.toNatClampNeg) a2 a4 ν).bind (fun r5 => (if (r5.1 : Int32) = 0 then some (0, r5.2) else some (1, r5.2)))))))))
def f_X8_scoreBy_L6  (x1 : Int32) (x2 : Int32) (x3 : Int32)  : Nat → Int32 → Int32 → Mm → Option (Int32 × Mm)
  | 0, _, _, _ => none
  | n + 1, x4, x5, ν => (if (ν 0 29 : Int32) ≤ x5 then some (x4, ν) else ((f_X8_isReason x5 x1 x2 x3 ν).bind (fun r2 => (if (r2.1 : Int32) = 0 then f_X8_scoreBy_L6 x1 x2 x3 n (x4 + 0) (x5 + 1) r2.2 else (chk x5 12 (f_X8_scoreBy_L6 x1 x2 x3 n (x4 + (r2.2 21 x5.toNatClampNeg)) (x5 + 1) r2.2))))))
def f_X8_scoreBy (a1 : Int32) (a2 : Int32) (a3 : Int32) (ν : Mm) : Option (Int32 × Mm) := f_X8_scoreBy_L6 a1 a2 a3 fuel 0 0 ν
def f_X8_pay (a1 : Int32) (a2 : Int32) (a3 : Int32) (ν : Mm) : Option (Int32 × Mm) := ((f_X8_isAccount a1 (up2 ν 0 0 0)).bind (fun r1 => (if (r1 : Int32) = 0 then ((f_X8_fails 1 (up2 ν 0 0 0)).bind (fun r4 => some (r4.1, r4.2))) else ((f_X8_isAccount a2 (up2 ν 0 0 0)).bind (fun r6 => (if (r6 : Int32) = 0 then ((f_X8_fails 1 (up2 ν 0 0 0)).bind (fun r48 => some (r48.1, r48.2))) else ((f_X8_isBetween a3 1 9999).bind (fun r9 => (if (r9 : Int32) = 0 then ((f_X8_fails 2 (up2 ν 0 0 0)).bind (fun r46 => some (r46.1, r46.2))) else (if (a1 : Int32) = a2 then ((f_X8_fails 3 (up2 ν 0 0 0)).bind (fun r44 => some (r44.1, r44.2))) else ((f_X8_has ((up2 ν 0 0 0) 0 6) a1).bind (fun r13 => (if (r13 : Int32) = 0 then ((f_X8_has ((up2 ν 0 0 0) 0 6) a2).bind (fun r18 => (if (r18 : Int32) = 0 then (if ((up2 ν 0 0 0) 0 15 : Int32) = 200 then ((f_X8_fails 4 (up2 ν 0 0 0)).bind (fun r42 => some (r42.1, r42.2))) else (chk ((up2 ν 0 0 0) 0 15) 200 ((chk ((up2 (up2 ν 0 0 0) 3 ((up2 ν 0 0 0) 0 15).toNatClampNeg a1) 0 15) 200 ((setm (up2 (up2 (up2 ν 0 0 0) 3 ((up2 ν 0 0 0) 0 15).toNatClampNeg a1) 4 ((up2 (up2 ν 0 0 0) 3 ((up2 ν 0 0 0) 0 15).toNatClampNeg a1) 0 15).toNatClampNeg a2) (fun mm26 => (chk (mm26 0 15) 200 ((chk ((up2 mm26 5 (mm26 0 15).toNatClampNeg a3) 0 15) 200 ((setm (up2 (up2 mm26 5 (mm26 0 15).toNatClampNeg a3) 6 ((up2 mm26 5 (mm26 0 15).toNatClampNeg a3) 0 15).toNatClampNeg ((up2 mm26 5 (mm26 0 15).toNatClampNeg a3) 0 4)) (fun mm29 => (chk (mm29 0 15) 200 ((chk ((up2 mm29 7 (mm29 0 15).toNatClampNeg (mm29 0 5)) 0 15) 200 ((setm (up2 (up2 mm29 7 (mm29 0 15).toNatClampNeg (mm29 0 5)) 8 ((up2 mm29 7 (mm29 0 15).toNatClampNeg (mm29 0 5)) 0 15).toNatClampNeg ((up2 mm29 7 (mm29 0 15).toNatClampNeg (mm29 0 5)) 0 30)) (fun mm32 => ((f_X8_scoreBy (((up2 mm32 0 15 ((mm32 0 15) + 1)) 0 15) - 1) ((up2 mm32 0 15 ((mm32 0 15) + 1)) 0 30) ((up2 mm32 0 15 ((mm32 0 15) + 1)) 0 5) (up2 mm32 0 15 ((mm32 0 15) + 1))).bind (fun r33 => (chk (((up2 mm32 0 15 ((mm32 0 15) + 1)) 0 15) - 1) 200 ((chk (((up2 r33.2 9 (((up2 mm32 0 15 ((mm32 0 15) + 1)) 0 15) - 1).toNatClampNeg r33.1) 0 15) - 1) 200 ((if ((up2 r33.2 9 (((up2 mm32 0 15 ((mm32 0 15) + 1)) 0 15) - 1).toNatClampNeg r33.1) 9 (((up2 r33.2 9 (((up2 mm32 0 15 ((mm32 0 15) + 1)) 0 15) - 1).toNatClampNeg r33.1) 0 15) - 1).toNatClampNeg : Int32) < (up2 r33.2 9 (((up2 mm32 0 15 ((mm32 0 15) + 1)) 0 15) - 1).toNatClampNeg r33.1) 0 16 then (chk (((up2 r33.2 9 (((up2 mm32 0 15 ((mm32 0 15) + 1)) 0 15) - 1).toNatClampNeg r33.1) 0 15) - 1) 200 ((setm (up2 (up2 r33.2 9 (((up2 mm32 0 15 ((mm32 0 15) + 1)) 0 15) - 1).toNatClampNeg r33.1) 10 (((up2 r33.2 9 (((up2 mm32 0 15 ((mm32 0 15) + 1)) 0 15) - 1).toNatClampNeg r33.1) 0 15) - 1).toNatClampNeg (vp_nar .char 45)) (fun mm39 => some ((mm39 0 15) - 1, mm39))))) else (chk (((up2 r33.2 9 (((up2 mm32 0 15 ((mm32 0 15) + 1)) 0 15) - 1).toNatClampNeg r33.1) 0 15) - 1) 200 ((setm (up2 (up2 r33.2 9 (((up2 mm32 0 15 ((mm32 0 15) + 1)) 0 15) - 1).toNatClampNeg r33.1) 10 (((up2 r33.2 9 (((up2 mm32 0 15 ((mm32 0 15) + 1)) 0 15) - 1).toNatClampNeg r33.1) 0 15) - 1).toNatClampNeg (vp_nar .char 111)) (fun mm41 => some ((mm41 0 15) - 1, mm41))))))))))))))))))))))))))))))) else ((f_X8_fails 4 (up2 ν 0 0 0)).bind (fun r21 => some (r21.1, r21.2)))))) else ((f_X8_fails 4 (up2 ν 0 0 0)).bind (fun r16 => some (r16.1, r16.2))))))))))))))))
def f_X8_payments  (ν : Mm) : Option (Int32 × Mm) := some ((up2 ν 0 0 0) 0 15, (up2 ν 0 0 0))
def f_X8_minuteOf (a1 : Int32) (ν : Mm) : Option (Int32 × Mm) := ((f_X8_isPayment a1 (up2 ν 0 0 0)).bind (fun r1 => (if (r1 : Int32) = 0 then ((f_X8_fails 1 (up2 ν 0 0 0)).bind (fun r4 => some (r4.1, r4.2))) else (chk a1 200 (some ((up2 ν 0 0 0) 6 a1.toNatClampNeg, (up2 ν 0 0 0)))))))
def f_X8_sentBy_L37  (x1 : Int32) (x2 : Int32) (ν : Mm) : Nat → Int32 → Int32 → Option (Int32 × Mm)
  | 0, _, _ => none
  | n + 1, x3, x4 => (if (ν 0 15 : Int32) ≤ x4 then some (x3, ν) else (chk x4 200 ((if (ν 3 x4.toNatClampNeg : Int32) = x1 then ((f_X8_isIn x4 x2 (ν 0 4) ν).bind (fun r10 => (if (r10 : Int32) = 0 then f_X8_sentBy_L37 x1 x2 ν n (x3 + 0) (x4 + 1) else (chk x4 200 (f_X8_sentBy_L37 x1 x2 ν n (x3 + (ν 5 x4.toNatClampNeg)) (x4 + 1)))))) else f_X8_sentBy_L37 x1 x2 ν n (x3 + 0) (x4 + 1)))))
def f_X8_sentBy (a1 : Int32) (a2 : Int32) (ν : Mm) : Option (Int32 × Mm) := ((f_X8_isAccount a1 (up2 ν 0 0 0)).bind (fun r1 => (if (r1 : Int32) = 0 then ((f_X8_fails 1 (up2 ν 0 0 0)).bind (fun r16 => some (r16.1, r16.2))) else ((f_X8_isWindow a2).bind (fun r4 => (if (r4 : Int32) = 0 then ((f_X8_fails 2 (up2 ν 0 0 0)).bind (fun r14 => some (r14.1, r14.2))) else f_X8_sentBy_L37 a1 a2 (up2 ν 0 0 0) fuel 0 0))))))
def f_X8_sentByAnew (a1 : Int32) (a2 : Int32) (ν : Mm) : Option (Int32 × Mm) := ((f_X8_sentBy a1 a2 ν).bind (fun r1 => some (r1.1, r1.2)))
def f_X8_kept_L9   (ν : Mm) : Nat → Int32 → Int32 → Option (Int32 × Mm)
  | 0, _, _ => none
  | n + 1, x1, x2 => (if (ν 0 15 : Int32) ≤ x2 then some (x1, ν) else ((f_X8_isIn x2 10080 (ν 0 4) ν).bind (fun r2 => (if (r2 : Int32) = 0 then f_X8_kept_L9 ν n (x1 + 0) (x2 + 1) else f_X8_kept_L9 ν n (x1 + 1) (x2 + 1)))))
def f_X8_kept  (ν : Mm) : Option (Int32 × Mm) := f_X8_kept_L9 (up2 ν 0 0 0) fuel 0 0
def f_X8_isFeature (a0 : Int32)  : Option (Int32) := ((f_X8_isBetween a0 97 122).bind (fun r1 => (if (r1 : Int32) = 0 then some 0 else (if (a0 : Int32) = 98 then some 0 else (if (a0 : Int32) = 101 then some 0 else (if (a0 : Int32) = 104 then some 0 else (if (a0 : Int32) = 106 then some 0 else (if (a0 : Int32) = 111 then some 0 else (if (a0 : Int32) = 112 then some 0 else (if (116 : Int32) ≤ a0 then some 0 else some 1))))))))))
def f_X8_valueOf (a1 : Int32) (a2 : Int32) (a3 : Int32) (ν : Mm) : Option (Int32 × Mm) := ((f_X8_isPayment a1 (up2 ν 0 0 0)).bind (fun r1 => (if (r1 : Int32) = 0 then ((f_X8_fails 1 (up2 ν 0 0 0)).bind (fun r16 => some (r16.1, r16.2))) else ((f_X8_isFeature a2).bind (fun r4 => (if (r4 : Int32) = 0 then ((f_X8_fails 2 (up2 ν 0 0 0)).bind (fun r7 => some (r7.1, r7.2))) else ((f_X8_isWindow a3).bind (fun r9 => (if (r9 : Int32) = 0 then ((f_X8_fails 2 (up2 ν 0 0 0)).bind (fun r14 => some (r14.1, r14.2))) else ((f_X8_valueBy a1 a2 a3 ((up2 ν 0 0 0) 0 5) (up2 ν 0 0 0)).bind (fun r12 => some (r12.1, r12.2))))))))))))
def f_X8_isCondition (a1 : Int32) (ν : Mm) : Option (Int32) := ((f_X8_isBetween a1 0 ((ν 0 26) - 1)).bind (fun r1 => (gn .boolean r1 (some r1))))
def f_X8_addTest (a1 : Int32) (a2 : Int32) (a3 : Int32) (a4 : Int32) (ν : Mm) : Option (Int32 × Mm) := ((f_X8_isFeature a1).bind (fun r1 => (if (r1 : Int32) = 0 then ((f_X8_fails 1 (up2 ν 0 0 0)).bind (fun r4 => some (r4.1, r4.2))) else ((f_X8_isWindow a2).bind (fun r6 => (if (r6 : Int32) = 0 then ((f_X8_fails 1 (up2 ν 0 0 0)).bind (fun r9 => some (r9.1, r9.2))) else ((f_X8_isBetween a4 0 99999).bind (fun r11 => (if (r11 : Int32) = 0 then ((f_X8_fails 1 (up2 ν 0 0 0)).bind (fun r25 => some (r25.1, r25.2))) else (if ((up2 ν 0 0 0) 0 26 : Int32) = 30 then ((f_X8_fails 2 (up2 ν 0 0 0)).bind (fun r23 => some (r23.1, r23.2))) else (chk ((up2 ν 0 0 0) 0 26) 30 ((chk ((up2 (up2 ν 0 0 0) 12 ((up2 ν 0 0 0) 0 26).toNatClampNeg 0) 0 26) 30 ((setm (up2 (up2 (up2 ν 0 0 0) 12 ((up2 ν 0 0 0) 0 26).toNatClampNeg 0) 18 ((up2 (up2 ν 0 0 0) 12 ((up2 ν 0 0 0) 0 26).toNatClampNeg 0) 0 26).toNatClampNeg (vp_nar .char a1)) (fun mm17 => (chk (mm17 0 26) 30 ((chk ((up2 mm17 16 (mm17 0 26).toNatClampNeg a2) 0 26) 30 ((chk ((up2 (up2 mm17 16 (mm17 0 26).toNatClampNeg a2) 19 ((up2 mm17 16 (mm17 0 26).toNatClampNeg a2) 0 26).toNatClampNeg (vp_nar .boolean a3)) 0 26) 30 ((setm (up2 (up2 (up2 mm17 16 (mm17 0 26).toNatClampNeg a2) 19 ((up2 mm17 16 (mm17 0 26).toNatClampNeg a2) 0 26).toNatClampNeg (vp_nar .boolean a3)) 17 ((up2 (up2 mm17 16 (mm17 0 26).toNatClampNeg a2) 19 ((up2 mm17 16 (mm17 0 26).toNatClampNeg a2) 0 26).toNatClampNeg (vp_nar .boolean a3)) 0 26).toNatClampNeg a4) (fun mm21 => (chk (mm21 0 26) 30 (some (((up2 (up2 mm21 15 (mm21 0 26).toNatClampNeg 1) 0 26 (((up2 mm21 15 (mm21 0 26).toNatClampNeg 1) 0 26) + 1)) 0 26) - 1, (up2 (up2 mm21 15 (mm21 0 26).toNatClampNeg 1) 0 26 (((up2 mm21 15 (mm21 0 26).toNatClampNeg 1) 0 26) + 1)))))))))))))))))))))))))))))
def f_X8_joins_J50  (x1 : Int32) (x2 : Int32) (x3 : Int32) (s0 : Int32) (s1 : Int32) (ν : Mm) : Option (Int32 × Mm) := (if (s1 + s0 : Int32) ≤ 15 then (if (ν 0 26 : Int32) = 30 then ((f_X8_fails 3 ν).bind (fun r19 => some (r19.1, r19.2))) else (chk (ν 0 26) 30 ((chk ((up2 ν 12 (ν 0 26).toNatClampNeg x1) 0 26) 30 ((chk ((up2 (up2 ν 12 (ν 0 26).toNatClampNeg x1) 13 ((up2 ν 12 (ν 0 26).toNatClampNeg x1) 0 26).toNatClampNeg x2) 0 26) 30 ((setm (up2 (up2 (up2 ν 12 (ν 0 26).toNatClampNeg x1) 13 ((up2 ν 12 (ν 0 26).toNatClampNeg x1) 0 26).toNatClampNeg x2) 14 ((up2 (up2 ν 12 (ν 0 26).toNatClampNeg x1) 13 ((up2 ν 12 (ν 0 26).toNatClampNeg x1) 0 26).toNatClampNeg x2) 0 26).toNatClampNeg x3) (fun mm17 => (chk (mm17 0 26) 30 (some (((up2 (up2 mm17 15 (mm17 0 26).toNatClampNeg (s1 + s0)) 0 26 (((up2 mm17 15 (mm17 0 26).toNatClampNeg (s1 + s0)) 0 26) + 1)) 0 26) - 1, (up2 (up2 mm17 15 (mm17 0 26).toNatClampNeg (s1 + s0)) 0 26 (((up2 mm17 15 (mm17 0 26).toNatClampNeg (s1 + s0)) 0 26) + 1)))))))))))))) else ((f_X8_fails 2 ν).bind (fun r21 => some (r21.1, r21.2))))
def f_X8_joins (a1 : Int32) (a2 : Int32) (a3 : Int32) (ν : Mm) : Option (Int32 × Mm) := ((f_X8_isCondition a2 (up2 ν 0 0 0)).bind (fun r1 => (if (r1 : Int32) = 0 then ((f_X8_fails 1 (up2 ν 0 0 0)).bind (fun r4 => some (r4.1, r4.2))) else ((f_X8_isCondition a3 (up2 ν 0 0 0)).bind (fun r6 => (if (r6 : Int32) = 0 then ((f_X8_fails 1 (up2 ν 0 0 0)).bind (fun r23 => some (r23.1, r23.2))) else (chk a2 30 ((if (a1 : Int32) = 3 then f_X8_joins_J50 a1 a2 a3 0 (1 + ((up2 ν 0 0 0) 15 a2.toNatClampNeg)) (up2 ν 0 0 0) else (chk a3 30 (f_X8_joins_J50 a1 a2 a3 ((up2 ν 0 0 0) 15 a3.toNatClampNeg) (1 + ((up2 ν 0 0 0) 15 a2.toNatClampNeg)) (up2 ν 0 0 0))))))))))))
def f_X8_addBoth (a1 : Int32) (a2 : Int32) (ν : Mm) : Option (Int32 × Mm) := ((f_X8_joins 1 a1 a2 ν).bind (fun r1 => some (r1.1, r1.2)))
def f_X8_addEither (a1 : Int32) (a2 : Int32) (ν : Mm) : Option (Int32 × Mm) := ((f_X8_joins 2 a1 a2 ν).bind (fun r1 => some (r1.1, r1.2)))
def f_X8_addNot (a1 : Int32) (ν : Mm) : Option (Int32 × Mm) := ((f_X8_joins 3 a1 a1 ν).bind (fun r1 => some (r1.1, r1.2)))
def f_X8_holds (a1 : Int32) (a2 : Int32) (ν : Mm) : Option (Int32 × Mm) := ((f_X8_isCondition a1 (up2 ν 0 0 0)).bind (fun r1 => (if (r1 : Int32) = 0 then ((f_X8_isWrong 1 (up2 ν 0 0 0)).bind (fun r13 => (gn .boolean r13.1 (some (r13.1, r13.2))))) else ((f_X8_isPayment a2 (up2 ν 0 0 0)).bind (fun r4 => (if (r4 : Int32) = 0 then ((f_X8_isWrong 2 (up2 ν 0 0 0)).bind (fun r10 => (gn .boolean r10.1 (some (r10.1, r10.2))))) else ((f_X8_isTrue 16 a1 a2 ((up2 ν 0 0 0) 0 5) (up2 ν 0 0 0)).bind (fun r7 => (gn .boolean r7.1 (some (r7.1, r7.2)))))))))))
def f_X8_sizeOf (a1 : Int32) (ν : Mm) : Option (Int32 × Mm) := ((f_X8_isCondition a1 (up2 ν 0 0 0)).bind (fun r1 => (if (r1 : Int32) = 0 then ((f_X8_fails 1 (up2 ν 0 0 0)).bind (fun r4 => some (r4.1, r4.2))) else (chk a1 30 (some ((up2 ν 0 0 0) 15 a1.toNatClampNeg, (up2 ν 0 0 0)))))))
def f_X8_isRule (a1 : Int32) (ν : Mm) : Option (Int32) := ((f_X8_isBetween a1 0 ((ν 0 29) - 1)).bind (fun r1 => (gn .boolean r1 (some r1))))
def f_X8_addRule (a1 : Int32) (a2 : Int32) (ν : Mm) : Option (Int32 × Mm) := ((f_X8_isCondition a1 (up2 ν 0 0 0)).bind (fun r1 => (if (r1 : Int32) = 0 then ((f_X8_fails 1 (up2 ν 0 0 0)).bind (fun r17 => some (r17.1, r17.2))) else ((f_X8_isBetween a2 1 100).bind (fun r4 => (if (r4 : Int32) = 0 then ((f_X8_fails 2 (up2 ν 0 0 0)).bind (fun r15 => some (r15.1, r15.2))) else (if ((up2 ν 0 0 0) 0 29 : Int32) = 12 then ((f_X8_fails 3 (up2 ν 0 0 0)).bind (fun r13 => some (r13.1, r13.2))) else (chk ((up2 ν 0 0 0) 0 29) 12 ((chk ((up2 (up2 ν 0 0 0) 20 ((up2 ν 0 0 0) 0 29).toNatClampNeg a1) 0 29) 12 ((setm (up2 (up2 (up2 ν 0 0 0) 20 ((up2 ν 0 0 0) 0 29).toNatClampNeg a1) 21 ((up2 (up2 ν 0 0 0) 20 ((up2 ν 0 0 0) 0 29).toNatClampNeg a1) 0 29).toNatClampNeg a2) (fun mm10 => ((f_X8_with (mm10 0 30) (mm10 0 29) 1).bind (fun r11 => some (((up2 (up2 mm10 0 30 r11) 0 29 (((up2 mm10 0 30 r11) 0 29) + 1)) 0 29) - 1, (up2 (up2 mm10 0 30 r11) 0 29 (((up2 mm10 0 30 r11) 0 29) + 1))))))))))))))))))
def f_X8_setRule (a1 : Int32) (a2 : Int32) (ν : Mm) : Option (Int32 × Mm) := ((f_X8_isRule a1 (up2 ν 0 0 0)).bind (fun r1 => (if (r1 : Int32) = 0 then ((f_X8_isWrong 1 (up2 ν 0 0 0)).bind (fun r9 => (gn .boolean r9.1 (some (r9.1, r9.2))))) else ((f_X8_has ((up2 ν 0 0 0) 0 30) a1).bind (fun r4 => ((f_X8_with ((up2 ν 0 0 0) 0 30) a1 a2).bind (fun r6 => (gn .boolean r4 (some (r4, (up2 (up2 ν 0 0 0) 0 30 r6)))))))))))
def f_X8_setThreshold (a1 : Int32) (ν : Mm) : Option (Int32 × Mm) := ((f_X8_isBetween a1 1 1201).bind (fun r1 => (if (r1 : Int32) = 0 then ((f_X8_fails 1 (up2 ν 0 0 0)).bind (fun r4 => some (r4.1, r4.2))) else some ((up2 ν 0 0 0) 0 16, (up2 (up2 ν 0 0 0) 0 16 a1)))))
def f_X8_score (a1 : Int32) (ν : Mm) : Option (Int32 × Mm) := ((f_X8_isPayment a1 (up2 ν 0 0 0)).bind (fun r1 => (if (r1 : Int32) = 0 then ((f_X8_fails 1 (up2 ν 0 0 0)).bind (fun r4 => some (r4.1, r4.2))) else (chk a1 200 (some ((up2 ν 0 0 0) 9 a1.toNatClampNeg, (up2 ν 0 0 0)))))))
def f_X8_scoreNow (a1 : Int32) (ν : Mm) : Option (Int32 × Mm) := ((f_X8_isPayment a1 (up2 ν 0 0 0)).bind (fun r1 => (if (r1 : Int32) = 0 then ((f_X8_fails 1 (up2 ν 0 0 0)).bind (fun r4 => some (r4.1, r4.2))) else ((f_X8_scoreBy a1 ((up2 ν 0 0 0) 0 30) ((up2 ν 0 0 0) 0 5) (up2 ν 0 0 0)).bind (fun r6 => some (r6.1, r6.2))))))
def f_X8_wasReason (a1 : Int32) (a2 : Int32) (ν : Mm) : Option (Int32 × Mm) := (chk a2 200 ((chk a2 200 (((f_X8_isReason a1 a2 (ν 8 a2.toNatClampNeg) (ν 7 a2.toNatClampNeg) ν).bind (fun r3 => (gn .boolean r3.1 (some (r3.1, r3.2)))))))))
def f_X8_reasonMany_L4  (x1 : Int32)  : Nat → Int32 → Int32 → Mm → Option (Int32 × Mm)
  | 0, _, _, _ => none
  | n + 1, x2, x3, ν => (if (ν 0 29 : Int32) ≤ x3 then some (x2, ν) else ((f_X8_wasReason x3 x1 ν).bind (fun r2 => (if (r2.1 : Int32) = 0 then f_X8_reasonMany_L4 x1 n (x2 + 0) (x3 + 1) r2.2 else f_X8_reasonMany_L4 x1 n (x2 + 1) (x3 + 1) r2.2))))
def f_X8_reasonMany (a1 : Int32) (ν : Mm) : Option (Int32 × Mm) := f_X8_reasonMany_L4 a1 fuel 0 0 ν
def f_X8_reasons (a1 : Int32) (ν : Mm) : Option (Int32 × Mm) := ((f_X8_isPayment a1 (up2 ν 0 0 0)).bind (fun r1 => (if (r1 : Int32) = 0 then ((f_X8_fails 1 (up2 ν 0 0 0)).bind (fun r4 => some (r4.1, r4.2))) else ((f_X8_reasonMany a1 (up2 ν 0 0 0)).bind (fun r6 => some (r6.1, r6.2))))))
def f_X8_ruleOf_L5  (x1 : Int32)  : Nat → Int32 → Int32 → Mm → Option (Int32 × Mm)
  | 0, _, _, _ => none
  | n + 1, x3, x4, ν => (if (ν 0 29 : Int32) ≤ x4 then some ((-1), ν) else ((f_X8_wasReason x4 x1 ν).bind (fun r2 => (if (r2.1 : Int32) = 0 then f_X8_ruleOf_L5 x1 n x3 (x4 + 1) r2.2 else (if (x3 : Int32) = 0 then some (x4, r2.2) else f_X8_ruleOf_L5 x1 n (x3 + (-1)) (x4 + 1) r2.2)))))
def f_X8_ruleOf (a1 : Int32) (a2 : Int32) (ν : Mm) : Option (Int32 × Mm) := f_X8_ruleOf_L5 a1 fuel a2 0 ν
def f_X8_reasonRule (a1 : Int32) (a2 : Int32) (ν : Mm) : Option (Int32 × Mm) := ((f_X8_isPayment a1 (up2 ν 0 0 0)).bind (fun r1 => (if (r1 : Int32) = 0 then ((f_X8_fails 1 (up2 ν 0 0 0)).bind (fun r9 => some (r9.1, r9.2))) else ((f_X8_ruleOf a1 a2 (up2 ν 0 0 0)).bind (fun r4 => (if 0 ≤ (r4.1 : Int32) then some (r4.1, r4.2) else ((f_X8_fails 2 r4.2).bind (fun r7 => some (r7.1, r7.2)))))))))
def f_X8_gathers : Nat → Int32 → Int32 → Mm → Option (Mm)
  | 0, _, _, _ => none
  | d + 1, a1, a2, ν => (chk a1 30 ((if (ν 12 a1.toNatClampNeg : Int32) = 3 then some ν else (chk a1 30 ((if (ν 12 a1.toNatClampNeg : Int32) = 1 then (chk a1 30 (((f_X8_gathers d (ν 13 a1.toNatClampNeg) a2 ν).bind (fun r6 => (chk a1 30 (((f_X8_gathers d (r6 14 a1.toNatClampNeg) a2 r6).bind (fun r9 => some r9)))))))) else (chk a1 30 ((if (ν 12 a1.toNatClampNeg : Int32) = 2 then (chk a1 30 (((f_X8_gathers d (ν 13 a1.toNatClampNeg) a2 ν).bind (fun r19 => (chk a1 30 (((f_X8_gathers d (r19 14 a1.toNatClampNeg) a2 r19).bind (fun r22 => some r22)))))))) else (chk a2 200 (((f_X8_isTrue 16 a1 a2 (ν 7 a2.toNatClampNeg) ν).bind (fun r14 => (if (r14.1 : Int32) = 0 then some r14.2 else (chk (r14.2 0 32) 16 (some (up2 (up2 r14.2 22 (r14.2 0 32).toNatClampNeg a1) 0 32 (((up2 r14.2 22 (r14.2 0 32).toNatClampNeg a1) 0 32) + 1))))))))))))))))))
def f_X8_isNone (a1 : Int32) (a2 : Int32) (ν : Mm) : Option (Int32 × Mm) := ((f_X8_isPayment a1 (up2 ν 0 0 0)).bind (fun r1 => (if (r1 : Int32) = 0 then ((f_X8_fails 1 (up2 ν 0 0 0)).bind (fun r14 => some (1, r14.2))) else ((f_X8_ruleOf a1 a2 (up2 ν 0 0 0)).bind (fun r4 => (if 0 ≤ (r4.1 : Int32) then (chk r4.1 12 (((f_X8_gathers 16 ((up2 r4.2 0 32 0) 20 r4.1.toNatClampNeg) a1 (up2 r4.2 0 32 0)).bind (fun r8 => (if (r8 0 0 : Int32) ≤ 0 then some (0, r8) else some (1, r8)))))) else ((f_X8_fails 2 (up2 r4.2 0 32 0)).bind (fun r11 => (if (r11.2 0 0 : Int32) ≤ 0 then some (0, r11.2) else some (1, r11.2))))))))))
def f_X8_reasonTests (a1 : Int32) (a2 : Int32) (ν : Mm) : Option (Int32 × Mm) := ((f_X8_isNone a1 a2 ν).bind (fun r1 => (if (r1.1 : Int32) = 0 then some (r1.2 0 32, r1.2) else some (0, r1.2))))
def f_X8_isNoTest (a1 : Int32) (a2 : Int32) (a3 : Int32) (ν : Mm) : Option (Int32 × Mm) := ((f_X8_isNone a1 a2 ν).bind (fun r1 => (if (r1.1 : Int32) = 0 then ((f_X8_isBetween a3 0 ((r1.2 0 32) - 1)).bind (fun r5 => (if (r5 : Int32) = 0 then ((f_X8_fails 2 r1.2).bind (fun r9 => (if (r9.2 0 0 : Int32) ≤ 0 then some (0, r9.2) else some (1, r9.2)))) else (if (r1.2 0 0 : Int32) ≤ 0 then some (0, r1.2) else some (1, r1.2))))) else (if (r1.2 0 0 : Int32) ≤ 0 then some (0, r1.2) else some (1, r1.2)))))
def f_X8_reasonFeature (a1 : Int32) (a2 : Int32) (a3 : Int32) (ν : Mm) : Option (Int32 × Mm) := ((f_X8_isNoTest a1 a2 a3 ν).bind (fun r1 => (if (r1.1 : Int32) = 0 then (chk a3 16 ((chk (r1.2 22 a3.toNatClampNeg) 30 ((gn .char (r1.2 18 (r1.2 22 a3.toNatClampNeg).toNatClampNeg) (some (r1.2 18 (r1.2 22 a3.toNatClampNeg).toNatClampNeg, r1.2))))))) else some (0, r1.2))))
def f_X8_reasonValue (a1 : Int32) (a2 : Int32) (a3 : Int32) (ν : Mm) : Option (Int32 × Mm) := ((f_X8_isNoTest a1 a2 a3 ν).bind (fun r1 => (if (r1.1 : Int32) = 0 then (chk a3 16 ((chk (r1.2 22 a3.toNatClampNeg) 30 ((chk a3 16 ((chk (r1.2 22 a3.toNatClampNeg) 30 ((chk a1 200 (((f_X8_valueBy a1 (r1.2 18 (r1.2 22 a3.toNatClampNeg).toNatClampNeg) (r1.2 16 (r1.2 22 a3.toNatClampNeg).toNatClampNeg) (r1.2 7 a1.toNatClampNeg) r1.2).bind (fun r9 => some (r9.1, r9.2))))))))))))) else some (0, r1.2))))
def f_X8_many_L4  (x1 : Int32) (ν : Mm) : Nat → Int32 → Int32 → Option (Int32)
  | 0, _, _ => none
  | n + 1, x2, x3 => (if (ν 0 15 : Int32) ≤ x3 then some x2 else (chk x3 200 ((if (ν 10 x3.toNatClampNeg : Int32) = x1 then f_X8_many_L4 x1 ν n (x2 + 1) (x3 + 1) else f_X8_many_L4 x1 ν n (x2 + 0) (x3 + 1)))))
def f_X8_many (a1 : Int32) (ν : Mm) : Option (Int32) := f_X8_many_L4 a1 ν fuel 0 0
def f_X8_ranked_L29 (kb2 : (Int32 → Option (Int32))) (kx102 : (Int32 → Option (Int32))) (x1 : Int32) (x2 : Int32) (ν : Mm) : Nat → Int32 → Int32 → Option (Int32)
  | 0, _, _ => none
  | n + 1, x3, x4 => (if (ν 0 15 : Int32) ≤ x4 then kx102 x3 else (chk x4 200 ((if (ν 10 x4.toNatClampNeg : Int32) = 111 then (chk x4 200 ((chk x2 200 ((if (ν 9 x2.toNatClampNeg : Int32) < ν 9 x4.toNatClampNeg then f_X8_ranked_L29 kb2 kx102 x1 x2 ν n (x3 + 1) (x4 + 1) else (chk x4 200 ((chk x2 200 ((if (ν 9 x4.toNatClampNeg : Int32) = ν 9 x2.toNatClampNeg then (if (x2 : Int32) ≤ x4 then f_X8_ranked_L29 kb2 kx102 x1 x2 ν n (x3 + 0) (x4 + 1) else f_X8_ranked_L29 kb2 kx102 x1 x2 ν n (x3 + 1) (x4 + 1)) else f_X8_ranked_L29 kb2 kx102 x1 x2 ν n (x3 + 0) (x4 + 1))))))))))) else f_X8_ranked_L29 kb2 kx102 x1 x2 ν n (x3 + 0) (x4 + 1)))))
def f_X8_ranked_L2  (x1 : Int32) (ν : Mm) : Nat → Int32 → Option (Int32)
  | 0, _ => none
  | n + 1, x2 => (if (ν 0 15 : Int32) ≤ x2 then some (-1) else (chk x2 200 ((if (ν 10 x2.toNatClampNeg : Int32) = 111 then f_X8_ranked_L29 (f_X8_ranked_L2 x1 ν n) (fun (y14 : Int32) => (if (y14 : Int32) = x1 then some x2 else f_X8_ranked_L2 x1 ν n (x2 + 1))) x1 x2 ν fuel 0 0 else f_X8_ranked_L2 x1 ν n (x2 + 1)))))
def f_X8_ranked (a1 : Int32) (ν : Mm) : Option (Int32) := f_X8_ranked_L2 a1 ν fuel 0
def f_X8_alertAt (a1 : Int32) (ν : Mm) : Option (Int32 × Mm) := ((f_X8_ranked a1 (up2 ν 0 0 0)).bind (fun r1 => (if 0 ≤ (r1 : Int32) then some (r1, (up2 ν 0 0 0)) else ((f_X8_fails 1 (up2 ν 0 0 0)).bind (fun r4 => some (r4.1, r4.2))))))
def f_X8_nextAlert  (ν : Mm) : Option (Int32 × Mm) := ((f_X8_alertAt 0 ν).bind (fun r1 => some (r1.1, r1.2)))
def f_X8_openAlerts  (ν : Mm) : Option (Int32 × Mm) := ((f_X8_many 111 (up2 ν 0 0 0)).bind (fun r1 => some (r1, (up2 ν 0 0 0))))
def f_X8_decide_J52  (x1 : Int32) (x2 : Int32) (s0 : Int32) (s1 : Int32) (ν : Mm) : Option (Int32 × Mm) := (chk s1 200 ((if (x2 : Int32) = 0 then ((f_X8_many 111 (up2 ν 10 s1.toNatClampNeg (vp_nar .char s0))).bind (fun r9 => some (r9, (up2 ν 10 s1.toNatClampNeg (vp_nar .char s0))))) else (chk x1 200 (((f_X8_with ((up2 ν 10 s1.toNatClampNeg (vp_nar .char s0)) 0 5) ((up2 ν 10 s1.toNatClampNeg (vp_nar .char s0)) 4 x1.toNatClampNeg) 1).bind (fun r12 => ((f_X8_many 111 (up2 (up2 ν 10 s1.toNatClampNeg (vp_nar .char s0)) 0 5 r12)).bind (fun r14 => some (r14, (up2 (up2 ν 10 s1.toNatClampNeg (vp_nar .char s0)) 0 5 r12)))))))))))
def f_X8_decide (a1 : Int32) (a2 : Int32) (ν : Mm) : Option (Int32 × Mm) := ((f_X8_isPayment a1 (up2 ν 0 0 0)).bind (fun r1 => (if (r1 : Int32) = 0 then ((f_X8_fails 1 (up2 ν 0 0 0)).bind (fun r18 => some (r18.1, r18.2))) else (chk a1 200 ((if ((up2 ν 0 0 0) 10 a1.toNatClampNeg : Int32) = 111 then (if (a2 : Int32) = 0 then f_X8_decide_J52 a1 a2 99 a1 (up2 ν 0 0 0) else f_X8_decide_J52 a1 a2 102 a1 (up2 ν 0 0 0)) else ((f_X8_fails 2 (up2 ν 0 0 0)).bind (fun r16 => some (r16.1, r16.2)))))))))
def f_X8_alertOf (a1 : Int32) (ν : Mm) : Option (Int32 × Mm) := ((f_X8_isPayment a1 (up2 ν 0 0 0)).bind (fun r1 => (if (r1 : Int32) = 0 then ((f_X8_fails 1 (up2 ν 0 0 0)).bind (fun r4 => (gn .char ((r4.1 : Int32).toUInt32 % 65536).toInt32 (some (((r4.1 : Int32).toUInt32 % 65536).toInt32, r4.2))))) else (chk a1 200 ((gn .char ((up2 ν 0 0 0) 10 a1.toNatClampNeg) (some ((up2 ν 0 0 0) 10 a1.toNatClampNeg, (up2 ν 0 0 0)))))))))
def f_X8_isUnfit (a1 : Int32) (a2 : Int32) (ν : Mm) : Option (Int32 × Mm) := ((f_X8_isAccount a1 (up2 ν 0 0 0)).bind (fun r1 => (if (r1 : Int32) = 0 then ((f_X8_fails 1 (up2 ν 0 0 0)).bind (fun r11 => (if (r11.2 0 0 : Int32) ≤ 0 then some (0, r11.2) else some (1, r11.2)))) else ((f_X8_isWindow a2).bind (fun r4 => (if (r4 : Int32) = 0 then ((f_X8_fails 2 (up2 ν 0 0 0)).bind (fun r8 => (if (r8.2 0 0 : Int32) ≤ 0 then some (0, r8.2) else some (1, r8.2)))) else (if ((up2 ν 0 0 0) 0 0 : Int32) ≤ 0 then some (0, (up2 ν 0 0 0)) else some (1, (up2 ν 0 0 0)))))))))
def f_X8_ring_L34 (kx93 : (Int32 → Option (Int32 × Mm))) (x1 : Int32) (x2 : Int32) (ν : Mm) : Nat → Int32 → Int32 → Option (Int32 × Mm)
  | 0, _, _ => none
  | n + 1, x3, x4 => (if (ν 0 15 : Int32) ≤ x4 then kx93 x3 else (chk x4 200 ((if (ν 4 x4.toNatClampNeg : Int32) = x1 then ((f_X8_isIn x4 x2 (ν 0 4) ν).bind (fun r9 => (if (r9 : Int32) = 0 then f_X8_ring_L34 kx93 x1 x2 ν n x3 (x4 + 1) else (chk x4 200 ((chk (ν 3 x4.toNatClampNeg) 20 (f_X8_ring_L34 kx93 x1 x2 ν n (if ((ν 11 (ν 3 x4.toNatClampNeg).toNatClampNeg) + 1 : Int32) < x3 then (ν 11 (ν 3 x4.toNatClampNeg).toNatClampNeg) + 1 else x3) (x4 + 1)))))))) else f_X8_ring_L34 kx93 x1 x2 ν n x3 (x4 + 1)))))
def f_X8_ring (a1 : Int32) (a2 : Int32) (ν : Mm) : Option (Int32 × Mm) := ((f_X8_isUnfit a1 a2 ν).bind (fun r1 => (if (r1.1 : Int32) = 0 then ((f_X8_spreads a1 ((r1.2 0 15) - 1) a2 (r1.2 0 4) 0 r1.2).bind (fun r4 => f_X8_ring_L34 (fun (y14 : Int32) => (if (y14 : Int32) < 99 then some (y14, r4) else ((f_X8_fails 3 r4).bind (fun r16 => some (r16.1, r16.2))))) a1 a2 r4 fuel 99 0)) else some (0, r1.2))))
def f_X8_ringByTrying (a1 : Int32) (a2 : Int32) (ν : Mm) : Option (Int32 × Mm) := ((f_X8_ring a1 a2 ν).bind (fun r1 => some (r1.1, r1.2)))
def f_X8_group (a1 : Int32) (a2 : Int32) (ν : Mm) : Option (Int32 × Mm) := ((f_X8_isUnfit a1 a2 ν).bind (fun r1 => (if (r1.1 : Int32) = 0 then ((f_X8_reached a1 ((r1.2 0 15) - 1) a2 (r1.2 0 4) r1.2).bind (fun r4 => some (r4.1, r4.2))) else some (0, r1.2))))
def f_X8_decided_L5  (x1 : Int32) (x2 : Int32) (ν : Mm) : Nat → Int32 → Int32 → Option (Int32)
  | 0, _, _ => none
  | n + 1, x3, x4 => (if (ν 0 15 : Int32) ≤ x4 then some x3 else (chk x4 200 ((if (ν 10 x4.toNatClampNeg : Int32) = x1 then (chk x4 200 ((if (ν 9 x4.toNatClampNeg : Int32) < x2 then f_X8_decided_L5 x1 x2 ν n (x3 + 0) (x4 + 1) else f_X8_decided_L5 x1 x2 ν n (x3 + 1) (x4 + 1)))) else f_X8_decided_L5 x1 x2 ν n (x3 + 0) (x4 + 1)))))
def f_X8_decided (a1 : Int32) (a2 : Int32) (ν : Mm) : Option (Int32) := f_X8_decided_L5 a1 a2 ν fuel 0 0
def f_X8_caught (a1 : Int32) (ν : Mm) : Option (Int32 × Mm) := ((f_X8_isBetween a1 1 1201).bind (fun r1 => (if (r1 : Int32) = 0 then ((f_X8_fails 1 (up2 ν 0 0 0)).bind (fun r4 => some (r4.1, r4.2))) else ((f_X8_decided 102 a1 (up2 ν 0 0 0)).bind (fun r6 => some (r6, (up2 ν 0 0 0)))))))
def f_X8_bestThreshold_L24  (x1 : Int32) (ν : Mm) : Nat → Int32 → Option (Int32 × Mm)
  | 0, _ => none
  | n + 1, x2 => ((f_X8_decided 99 x2 ν).bind (fun r4 => (if (r4 : Int32) ≤ x1 then some (x2, ν) else f_X8_bestThreshold_L24 x1 ν n (x2 + 1))))
def f_X8_bestThreshold (a1 : Int32) (ν : Mm) : Option (Int32 × Mm) := ((f_X8_isBetween a1 0 200).bind (fun r1 => (if (r1 : Int32) = 0 then ((f_X8_fails 1 (up2 ν 0 0 0)).bind (fun r7 => some (r7.1, r7.2))) else f_X8_bestThreshold_L24 a1 (up2 ν 0 0 0) fuel 1)))
def f_X8_bestThresholdByTrying (a1 : Int32) (ν : Mm) : Option (Int32 × Mm) := ((f_X8_bestThreshold a1 ν).bind (fun r1 => some (r1.1, r1.2)))
def f_X8_precision_J60 (kb27 : (Int32 → Int32 → Int32 → Mm → Option (UInt32 × Mm))) (kx102 : (Int32 → Int32 → Mm → Option (UInt32 × Mm))) (x1 : Int32) (x2 : Int32) (x3 : Int32) (x4 : Int32)  (ν : Mm) : Option (UInt32 × Mm) := ((f_X8_wasReason x1 x4 ν).bind (fun r7 => (if (r7.1 : Int32) = 0 then kb27 x2 x3 (x4 + 1) r7.2 else (chk x4 200 ((if (r7.2 10 x4.toNatClampNeg : Int32) = 102 then kb27 (x2 + 1) (x3 + 1) (x4 + 1) r7.2 else kb27 (x2 + 0) (x3 + 1) (x4 + 1) r7.2))))))
def f_X8_precision_L27 (kx102 : (Int32 → Int32 → Mm → Option (UInt32 × Mm))) (x1 : Int32)  : Nat → Int32 → Int32 → Int32 → Mm → Option (UInt32 × Mm)
  | 0, _, _, _, _ => none
  | n + 1, x2, x3, x4, ν => (if (ν 0 15 : Int32) ≤ x4 then kx102 x2 x3 ν else (chk x4 200 ((if (ν 10 x4.toNatClampNeg : Int32) = 102 then f_X8_precision_J60 (f_X8_precision_L27 kx102 x1 n) kx102 x1 x2 x3 x4 ν else (chk x4 200 ((if (ν 10 x4.toNatClampNeg : Int32) = 99 then f_X8_precision_J60 (f_X8_precision_L27 kx102 x1 n) kx102 x1 x2 x3 x4 ν else f_X8_precision_L27 kx102 x1 n x2 x3 (x4 + 1) ν)))))))
noncomputable def f_X8_precision (a1 : Int32) (ν : Mm) : Option (UInt32 × Mm) := ((f_X8_isRule a1 (up2 ν 0 0 0)).bind (fun r1 => (if (r1 : Int32) = 0 then ((f_X8_fails 1 (up2 ν 0 0 0)).bind (fun r21 => some (FP.i2f r21.1, r21.2))) else f_X8_precision_L27 (fun (y14 : Int32) (y15 : Int32) (m16 : Mm) => (if (y15 : Int32) = 0 then ((f_X8_fails 2 m16).bind (fun r19 => some (FP.i2f r19.1, r19.2))) else (gx32 (FP.fdiv (FP.i2f y14) (FP.i2f y15)) (some (FP.fdiv (FP.i2f y14) (FP.i2f y15), m16))))) a1 fuel 0 0 0 (up2 ν 0 0 0))))
noncomputable def f_X8_meanScore_L23   (ν : Mm) : Nat → Int32 → Int32 → Option (UInt64 × Mm)
  | 0, _, _ => none
  | n + 1, x1, x2 => (if (ν 0 15 : Int32) ≤ x2 then (gx64 (FP.ddiv (FP.i2d x1) (FP.i2d (ν 0 15))) (some (FP.ddiv (FP.i2d x1) (FP.i2d (ν 0 15)), ν))) else (chk x2 200 (f_X8_meanScore_L23 ν n (x1 + (ν 9 x2.toNatClampNeg)) (x2 + 1))))
noncomputable def f_X8_meanScore  (ν : Mm) : Option (UInt64 × Mm) := (if ((up2 ν 0 0 0) 0 15 : Int32) = 0 then ((f_X8_fails 1 (up2 ν 0 0 0)).bind (fun r5 => some (FP.i2d r5.1, r5.2))) else f_X8_meanScore_L23 (up2 ν 0 0 0) fuel 0 0)
def f_X8_turnover_L9   (ν : Mm) : Nat → Int64 → Int32 → Option (Int64 × Mm)
  | 0, _, _ => none
  | n + 1, x1, x3 => (if (ν 0 15 : Int32) ≤ x3 then some (x1, ν) else (chk x3 200 (f_X8_turnover_L9 ν n (x1 + (ν 5 x3.toNatClampNeg : Int32).toInt64) (x3 + 1))))
def f_X8_turnover  (ν : Mm) : Option (Int64 × Mm) := f_X8_turnover_L9 (up2 ν 0 0 0) fuel 0 0
def f_X8_isSound  (ν : Mm) : Option (Int32 × Mm) := some (1, (up2 ν 0 0 0))
end
section
def f_L_law_s_J244 (Ls : Nat) (xs : Nat → Int32) (kb28 : (Int32 → Mm → Mm → (Nat → Int64) → (Nat → UInt64) → Option Unit)) (x5 : Int32)  (μ : Mm) (ν : Mm) (o : Nat → Int64) (dd : Nat → UInt64) : Option (Unit) := (chk (x5 + 1) Ls (((f_L_open_0_o (((xs (x5 + 1).toNatClampNeg) : Int32).toUInt32 % 65536).toInt32 μ o).bind (fun r5 => (chk (x5 + 1) Ls (((f_X8_open (((xs (x5 + 1).toNatClampNeg) : Int32).toUInt32 % 65536).toInt32 ν).bind (fun r8 => ((f_X8_thrown r8.2).bind (fun r10 => (if (r10 : Int32) = r5.1 then (if (r5.1 : Int32) = 0 then (chk 0 1 ((if (lg_cmp (r5.2.2 (0 : Int32).toNatClampNeg) (r8.1 : Int32).toInt64 : Int32) = 0 then kb28 (x5 + 5) r5.2.1 r8.2 r5.2.2 dd else none))) else kb28 (x5 + 5) r5.2.1 r8.2 r5.2.2 dd) else none)))))))))))
def f_L_law_s_J350 (Ls : Nat) (xs : Nat → Int32) (kb28 : (Int32 → Mm → Mm → (Nat → Int64) → (Nat → UInt64) → Option Unit)) (x5 : Int32) (x6 : Int32) (s0 : Int32) (s1 : Int32) (μ : Mm) (ν : Mm) (o : Nat → Int64) (dd : Nat → UInt64) : Option (Unit) := ((f_X8_setMarked s1 s0 ν).bind (fun r24 => ((f_X8_thrown r24.2).bind (fun r26 => (if (r26 : Int32) = x6 then (if (x6 : Int32) = 0 then (chk 0 1 ((if (r24.1 : Int32) = 0 then (if (lg_cmp (o (0 : Int32).toNatClampNeg) 0 : Int32) = 0 then kb28 (x5 + 5) μ r24.2 o dd else none) else (if (lg_cmp (o (0 : Int32).toNatClampNeg) 1 : Int32) = 0 then kb28 (x5 + 5) μ r24.2 o dd else none)))) else kb28 (x5 + 5) μ r24.2 o dd) else none)))))
def f_L_law_s_J323 (Ls : Nat) (xs : Nat → Int32) (kb28 : (Int32 → Mm → Mm → (Nat → Int64) → (Nat → UInt64) → Option Unit)) (x5 : Int32) (s0 : Int32) (s1 : Int32) (μ : Mm) (ν : Mm) (o : Nat → Int64) (dd : Nat → UInt64) : Option (Unit) := ((f_L_setMarked_0_o s1 s0 μ o).bind (fun r19 => (chk (x5 + 1) Ls ((chk (x5 + 2) Ls ((if ((xs (x5 + 2).toNatClampNeg) : Int32) = 0 then f_L_law_s_J350 Ls xs kb28 x5 r19.1 0 (xs (x5 + 1).toNatClampNeg) r19.2.1 ν r19.2.2 dd else f_L_law_s_J350 Ls xs kb28 x5 r19.1 1 (xs (x5 + 1).toNatClampNeg) r19.2.1 ν r19.2.2 dd)))))))
def f_L_law_s_J302 (Ls : Nat) (xs : Nat → Int32) (kb28 : (Int32 → Mm → Mm → (Nat → Int64) → (Nat → UInt64) → Option Unit)) (x5 : Int32)  (μ : Mm) (ν : Mm) (o : Nat → Int64) (dd : Nat → UInt64) : Option (Unit) := (chk (x5 + 1) Ls ((chk (x5 + 2) Ls ((if ((xs (x5 + 2).toNatClampNeg) : Int32) = 0 then f_L_law_s_J323 Ls xs kb28 x5 0 (xs (x5 + 1).toNatClampNeg) μ ν o dd else f_L_law_s_J323 Ls xs kb28 x5 1 (xs (x5 + 1).toNatClampNeg) μ ν o dd)))))
def f_L_law_s_J441 (Ls : Nat) (xs : Nat → Int32) (kb28 : (Int32 → Mm → Mm → (Nat → Int64) → (Nat → UInt64) → Option Unit)) (x5 : Int32) (x6 : Int32) (s0 : Int32) (s1 : Int32) (μ : Mm) (ν : Mm) (o : Nat → Int64) (dd : Nat → UInt64) : Option (Unit) := ((f_X8_setBlocked s1 s0 ν).bind (fun r42 => ((f_X8_thrown r42.2).bind (fun r44 => (if (r44 : Int32) = x6 then (if (x6 : Int32) = 0 then (chk 0 1 ((if (r42.1 : Int32) = 0 then (if (lg_cmp (o (0 : Int32).toNatClampNeg) 0 : Int32) = 0 then kb28 (x5 + 5) μ r42.2 o dd else none) else (if (lg_cmp (o (0 : Int32).toNatClampNeg) 1 : Int32) = 0 then kb28 (x5 + 5) μ r42.2 o dd else none)))) else kb28 (x5 + 5) μ r42.2 o dd) else none)))))
def f_L_law_s_J414 (Ls : Nat) (xs : Nat → Int32) (kb28 : (Int32 → Mm → Mm → (Nat → Int64) → (Nat → UInt64) → Option Unit)) (x5 : Int32) (s0 : Int32) (s1 : Int32) (μ : Mm) (ν : Mm) (o : Nat → Int64) (dd : Nat → UInt64) : Option (Unit) := ((f_L_setBlocked_0_o s1 s0 μ o).bind (fun r37 => (chk (x5 + 1) Ls ((chk (x5 + 2) Ls ((if ((xs (x5 + 2).toNatClampNeg) : Int32) = 0 then f_L_law_s_J441 Ls xs kb28 x5 r37.1 0 (xs (x5 + 1).toNatClampNeg) r37.2.1 ν r37.2.2 dd else f_L_law_s_J441 Ls xs kb28 x5 r37.1 1 (xs (x5 + 1).toNatClampNeg) r37.2.1 ν r37.2.2 dd)))))))
def f_L_law_s_J393 (Ls : Nat) (xs : Nat → Int32) (kb28 : (Int32 → Mm → Mm → (Nat → Int64) → (Nat → UInt64) → Option Unit)) (x5 : Int32)  (μ : Mm) (ν : Mm) (o : Nat → Int64) (dd : Nat → UInt64) : Option (Unit) := (chk (x5 + 1) Ls ((chk (x5 + 2) Ls ((if ((xs (x5 + 2).toNatClampNeg) : Int32) = 0 then f_L_law_s_J414 Ls xs kb28 x5 0 (xs (x5 + 1).toNatClampNeg) μ ν o dd else f_L_law_s_J414 Ls xs kb28 x5 1 (xs (x5 + 1).toNatClampNeg) μ ν o dd)))))
def f_L_law_s_J484 (Ls : Nat) (xs : Nat → Int32) (kb28 : (Int32 → Mm → Mm → (Nat → Int64) → (Nat → UInt64) → Option Unit)) (x5 : Int32)  (μ : Mm) (ν : Mm) (o : Nat → Int64) (dd : Nat → UInt64) : Option (Unit) := (chk (x5 + 1) Ls (((f_L_isMarked_0_o (xs (x5 + 1).toNatClampNeg) μ o).bind (fun r53 => (chk (x5 + 1) Ls (((f_X8_isMarked (xs (x5 + 1).toNatClampNeg) ν).bind (fun r56 => ((f_X8_thrown r56.2).bind (fun r58 => (if (r58 : Int32) = r53.1 then (if (r53.1 : Int32) = 0 then (chk 0 1 ((if (r56.1 : Int32) = 0 then (if (lg_cmp (r53.2 (0 : Int32).toNatClampNeg) 0 : Int32) = 0 then kb28 (x5 + 5) μ r56.2 r53.2 dd else none) else (if (lg_cmp (r53.2 (0 : Int32).toNatClampNeg) 1 : Int32) = 0 then kb28 (x5 + 5) μ r56.2 r53.2 dd else none)))) else kb28 (x5 + 5) μ r56.2 r53.2 dd) else none)))))))))))
def f_L_law_s_J547 (Ls : Nat) (xs : Nat → Int32) (kb28 : (Int32 → Mm → Mm → (Nat → Int64) → (Nat → UInt64) → Option Unit)) (x5 : Int32)  (μ : Mm) (ν : Mm) (o : Nat → Int64) (dd : Nat → UInt64) : Option (Unit) := (chk (x5 + 1) Ls (((f_L_countryOf_0_o (xs (x5 + 1).toNatClampNeg) μ o).bind (fun r67 => (chk (x5 + 1) Ls (((f_X8_countryOf (xs (x5 + 1).toNatClampNeg) ν).bind (fun r70 => ((f_X8_thrown r70.2).bind (fun r72 => (if (r72 : Int32) = r67.1 then (if (r67.1 : Int32) = 0 then (chk 0 1 ((if (lg_cmp (r67.2 (0 : Int32).toNatClampNeg) (r70.1 : Int32).toInt64 : Int32) = 0 then kb28 (x5 + 5) μ r70.2 r67.2 dd else none))) else kb28 (x5 + 5) μ r70.2 r67.2 dd) else none)))))))))))
def f_L_law_s_J603 (Ls : Nat) (xs : Nat → Int32) (kb28 : (Int32 → Mm → Mm → (Nat → Int64) → (Nat → UInt64) → Option Unit)) (x5 : Int32)  (μ : Mm) (ν : Mm) (o : Nat → Int64) (dd : Nat → UInt64) : Option (Unit) := ((f_X7_accounts μ).bind (fun r78 => ((f_X8_accounts ν).bind (fun r80 => (if (r78 : Int32) = r80.1 then kb28 (x5 + 5) μ r80.2 o dd else none)))))
def f_L_law_s_J616 (Ls : Nat) (xs : Nat → Int32) (kb28 : (Int32 → Mm → Mm → (Nat → Int64) → (Nat → UInt64) → Option Unit)) (x5 : Int32)  (μ : Mm) (ν : Mm) (o : Nat → Int64) (dd : Nat → UInt64) : Option (Unit) := (chk (x5 + 1) Ls (((f_L_pass_0_o (xs (x5 + 1).toNatClampNeg) μ o).bind (fun r84 => (chk (x5 + 1) Ls (((f_X8_pass (xs (x5 + 1).toNatClampNeg) ν).bind (fun r87 => ((f_X8_thrown r87.2).bind (fun r89 => (if (r89 : Int32) = r84.1 then (if (r84.1 : Int32) = 0 then (chk 0 1 ((if (lg_cmp (r84.2.2 (0 : Int32).toNatClampNeg) (r87.1 : Int32).toInt64 : Int32) = 0 then kb28 (x5 + 5) r84.2.1 r87.2 r84.2.2 dd else none))) else kb28 (x5 + 5) r84.2.1 r87.2 r84.2.2 dd) else none)))))))))))
def f_L_law_s_J672 (Ls : Nat) (xs : Nat → Int32) (kb28 : (Int32 → Mm → Mm → (Nat → Int64) → (Nat → UInt64) → Option Unit)) (x5 : Int32)  (μ : Mm) (ν : Mm) (o : Nat → Int64) (dd : Nat → UInt64) : Option (Unit) := ((f_X7_time μ).bind (fun r95 => ((f_X8_time ν).bind (fun r97 => (if (r95 : Int32) = r97.1 then kb28 (x5 + 5) μ r97.2 o dd else none)))))
def f_L_law_s_J685 (Ls : Nat) (xs : Nat → Int32) (kb28 : (Int32 → Mm → Mm → (Nat → Int64) → (Nat → UInt64) → Option Unit)) (x5 : Int32)  (μ : Mm) (ν : Mm) (o : Nat → Int64) (dd : Nat → UInt64) : Option (Unit) := (chk (x5 + 1) Ls ((chk (x5 + 2) Ls ((chk (x5 + 3) Ls (((f_L_pay_0_o (xs (x5 + 1).toNatClampNeg) (xs (x5 + 2).toNatClampNeg) (xs (x5 + 3).toNatClampNeg) μ o).bind (fun r103 => (chk (x5 + 1) Ls ((chk (x5 + 2) Ls ((chk (x5 + 3) Ls (((f_X8_pay (xs (x5 + 1).toNatClampNeg) (xs (x5 + 2).toNatClampNeg) (xs (x5 + 3).toNatClampNeg) ν).bind (fun r108 => ((f_X8_thrown r108.2).bind (fun r110 => (if (r110 : Int32) = r103.1 then (if (r103.1 : Int32) = 0 then (chk 0 1 ((if (lg_cmp (r103.2.2 (0 : Int32).toNatClampNeg) (r108.1 : Int32).toInt64 : Int32) = 0 then kb28 (x5 + 5) r103.2.1 r108.2 r103.2.2 dd else none))) else kb28 (x5 + 5) r103.2.1 r108.2 r103.2.2 dd) else none)))))))))))))))))))
def f_L_law_s_J765 (Ls : Nat) (xs : Nat → Int32) (kb28 : (Int32 → Mm → Mm → (Nat → Int64) → (Nat → UInt64) → Option Unit)) (x5 : Int32)  (μ : Mm) (ν : Mm) (o : Nat → Int64) (dd : Nat → UInt64) : Option (Unit) := ((f_X7_payments μ).bind (fun r116 => ((f_X8_payments ν).bind (fun r118 => (if (r116 : Int32) = r118.1 then kb28 (x5 + 5) μ r118.2 o dd else none)))))
def f_L_law_s_J778 (Ls : Nat) (xs : Nat → Int32) (kb28 : (Int32 → Mm → Mm → (Nat → Int64) → (Nat → UInt64) → Option Unit)) (x5 : Int32)  (μ : Mm) (ν : Mm) (o : Nat → Int64) (dd : Nat → UInt64) : Option (Unit) := (chk (x5 + 1) Ls (((f_L_minuteOf_0_o (xs (x5 + 1).toNatClampNeg) μ o).bind (fun r122 => (chk (x5 + 1) Ls (((f_X8_minuteOf (xs (x5 + 1).toNatClampNeg) ν).bind (fun r125 => ((f_X8_thrown r125.2).bind (fun r127 => (if (r127 : Int32) = r122.1 then (if (r122.1 : Int32) = 0 then (chk 0 1 ((if (lg_cmp (r122.2 (0 : Int32).toNatClampNeg) (r125.1 : Int32).toInt64 : Int32) = 0 then kb28 (x5 + 5) μ r125.2 r122.2 dd else none))) else kb28 (x5 + 5) μ r125.2 r122.2 dd) else none)))))))))))
def f_L_law_s_J834 (Ls : Nat) (xs : Nat → Int32) (kb28 : (Int32 → Mm → Mm → (Nat → Int64) → (Nat → UInt64) → Option Unit)) (x5 : Int32)  (μ : Mm) (ν : Mm) (o : Nat → Int64) (dd : Nat → UInt64) : Option (Unit) := (chk (x5 + 1) Ls ((chk (x5 + 2) Ls (((f_L_sentBy_0_o (xs (x5 + 1).toNatClampNeg) (xs (x5 + 2).toNatClampNeg) μ o).bind (fun r135 => (chk (x5 + 1) Ls ((chk (x5 + 2) Ls (((f_X8_sentBy (xs (x5 + 1).toNatClampNeg) (xs (x5 + 2).toNatClampNeg) ν).bind (fun r139 => ((f_X8_thrown r139.2).bind (fun r141 => (if (r141 : Int32) = r135.1 then (if (r135.1 : Int32) = 0 then (chk 0 1 ((if (lg_cmp (r135.2 (0 : Int32).toNatClampNeg) (r139.1 : Int32).toInt64 : Int32) = 0 then kb28 (x5 + 5) μ r139.2 r135.2 dd else none))) else kb28 (x5 + 5) μ r139.2 r135.2 dd) else none)))))))))))))))
def f_L_law_s_J902 (Ls : Nat) (xs : Nat → Int32) (kb28 : (Int32 → Mm → Mm → (Nat → Int64) → (Nat → UInt64) → Option Unit)) (x5 : Int32)  (μ : Mm) (ν : Mm) (o : Nat → Int64) (dd : Nat → UInt64) : Option (Unit) := (chk (x5 + 1) Ls ((chk (x5 + 2) Ls (((f_L_sentByAnew_0_o (xs (x5 + 1).toNatClampNeg) (xs (x5 + 2).toNatClampNeg) μ o).bind (fun r149 => (chk (x5 + 1) Ls ((chk (x5 + 2) Ls (((f_X8_sentByAnew (xs (x5 + 1).toNatClampNeg) (xs (x5 + 2).toNatClampNeg) ν).bind (fun r153 => ((f_X8_thrown r153.2).bind (fun r155 => (if (r155 : Int32) = r149.1 then (if (r149.1 : Int32) = 0 then (chk 0 1 ((if (lg_cmp (r149.2 (0 : Int32).toNatClampNeg) (r153.1 : Int32).toInt64 : Int32) = 0 then kb28 (x5 + 5) μ r153.2 r149.2 dd else none))) else kb28 (x5 + 5) μ r153.2 r149.2 dd) else none)))))))))))))))
def f_L_law_s_J970 (Ls : Nat) (xs : Nat → Int32) (kb28 : (Int32 → Mm → Mm → (Nat → Int64) → (Nat → UInt64) → Option Unit)) (x5 : Int32)  (μ : Mm) (ν : Mm) (o : Nat → Int64) (dd : Nat → UInt64) : Option (Unit) := ((f_X7_kept μ).bind (fun r161 => ((f_X8_kept ν).bind (fun r163 => (if (r161 : Int32) = r163.1 then kb28 (x5 + 5) μ r163.2 o dd else none)))))
def f_L_law_s_J983 (Ls : Nat) (xs : Nat → Int32) (kb28 : (Int32 → Mm → Mm → (Nat → Int64) → (Nat → UInt64) → Option Unit)) (x5 : Int32)  (μ : Mm) (ν : Mm) (o : Nat → Int64) (dd : Nat → UInt64) : Option (Unit) := (chk (x5 + 1) Ls ((chk (x5 + 2) Ls ((chk (x5 + 3) Ls (((f_L_valueOf_0_o (xs (x5 + 1).toNatClampNeg) (((xs (x5 + 2).toNatClampNeg) : Int32).toUInt32 % 65536).toInt32 (xs (x5 + 3).toNatClampNeg) μ o).bind (fun r169 => (chk (x5 + 1) Ls ((chk (x5 + 2) Ls ((chk (x5 + 3) Ls (((f_X8_valueOf (xs (x5 + 1).toNatClampNeg) (((xs (x5 + 2).toNatClampNeg) : Int32).toUInt32 % 65536).toInt32 (xs (x5 + 3).toNatClampNeg) ν).bind (fun r174 => ((f_X8_thrown r174.2).bind (fun r176 => (if (r176 : Int32) = r169.1 then (if (r169.1 : Int32) = 0 then (chk 0 1 ((if (lg_cmp (r169.2.2 (0 : Int32).toNatClampNeg) (r174.1 : Int32).toInt64 : Int32) = 0 then kb28 (x5 + 5) r169.2.1 r174.2 r169.2.2 dd else none))) else kb28 (x5 + 5) r169.2.1 r174.2 r169.2.2 dd) else none)))))))))))))))))))
def f_L_law_s_J1133 (Ls : Nat) (xs : Nat → Int32) (kb28 : (Int32 → Mm → Mm → (Nat → Int64) → (Nat → UInt64) → Option Unit)) (x5 : Int32) (x6 : Int32) (s0 : Int32) (s1 : Int32) (s2 : Int32) (μ : Mm) (ν : Mm) (o : Nat → Int64) (dd : Nat → UInt64) : Option (Unit) := (chk (x5 + 4) Ls (((f_X8_addTest s2 s1 s0 (xs (x5 + 4).toNatClampNeg) ν).bind (fun r194 => ((f_X8_thrown r194.2).bind (fun r196 => (if (r196 : Int32) = x6 then (if (x6 : Int32) = 0 then (chk 0 1 ((if (lg_cmp (o (0 : Int32).toNatClampNeg) (r194.1 : Int32).toInt64 : Int32) = 0 then kb28 (x5 + 5) μ r194.2 o dd else none))) else kb28 (x5 + 5) μ r194.2 o dd) else none)))))))
def f_L_law_s_J1093 (Ls : Nat) (xs : Nat → Int32) (kb28 : (Int32 → Mm → Mm → (Nat → Int64) → (Nat → UInt64) → Option Unit)) (x5 : Int32) (s0 : Int32) (s1 : Int32) (s2 : Int32) (μ : Mm) (ν : Mm) (o : Nat → Int64) (dd : Nat → UInt64) : Option (Unit) := (chk (x5 + 4) Ls (((f_L_addTest_0_o s2 s1 s0 (xs (x5 + 4).toNatClampNeg) μ o).bind (fun r187 => (chk (x5 + 1) Ls ((chk (x5 + 2) Ls ((chk (x5 + 3) Ls ((if ((xs (x5 + 3).toNatClampNeg) : Int32) = 0 then f_L_law_s_J1133 Ls xs kb28 x5 r187.1 0 (xs (x5 + 2).toNatClampNeg) (((xs (x5 + 1).toNatClampNeg) : Int32).toUInt32 % 65536).toInt32 r187.2.1 ν r187.2.2 dd else f_L_law_s_J1133 Ls xs kb28 x5 r187.1 1 (xs (x5 + 2).toNatClampNeg) (((xs (x5 + 1).toNatClampNeg) : Int32).toUInt32 % 65536).toInt32 r187.2.1 ν r187.2.2 dd)))))))))))
def f_L_law_s_J1065 (Ls : Nat) (xs : Nat → Int32) (kb28 : (Int32 → Mm → Mm → (Nat → Int64) → (Nat → UInt64) → Option Unit)) (x5 : Int32)  (μ : Mm) (ν : Mm) (o : Nat → Int64) (dd : Nat → UInt64) : Option (Unit) := (chk (x5 + 1) Ls ((chk (x5 + 2) Ls ((chk (x5 + 3) Ls ((if ((xs (x5 + 3).toNatClampNeg) : Int32) = 0 then f_L_law_s_J1093 Ls xs kb28 x5 0 (xs (x5 + 2).toNatClampNeg) (((xs (x5 + 1).toNatClampNeg) : Int32).toUInt32 % 65536).toInt32 μ ν o dd else f_L_law_s_J1093 Ls xs kb28 x5 1 (xs (x5 + 2).toNatClampNeg) (((xs (x5 + 1).toNatClampNeg) : Int32).toUInt32 % 65536).toInt32 μ ν o dd)))))))
def f_L_law_s_J1175 (Ls : Nat) (xs : Nat → Int32) (kb28 : (Int32 → Mm → Mm → (Nat → Int64) → (Nat → UInt64) → Option Unit)) (x5 : Int32)  (μ : Mm) (ν : Mm) (o : Nat → Int64) (dd : Nat → UInt64) : Option (Unit) := (chk (x5 + 1) Ls ((chk (x5 + 2) Ls (((f_L_addBoth_0_o (xs (x5 + 1).toNatClampNeg) (xs (x5 + 2).toNatClampNeg) μ o).bind (fun r204 => (chk (x5 + 1) Ls ((chk (x5 + 2) Ls (((f_X8_addBoth (xs (x5 + 1).toNatClampNeg) (xs (x5 + 2).toNatClampNeg) ν).bind (fun r208 => ((f_X8_thrown r208.2).bind (fun r210 => (if (r210 : Int32) = r204.1 then (if (r204.1 : Int32) = 0 then (chk 0 1 ((if (lg_cmp (r204.2.2 (0 : Int32).toNatClampNeg) (r208.1 : Int32).toInt64 : Int32) = 0 then kb28 (x5 + 5) r204.2.1 r208.2 r204.2.2 dd else none))) else kb28 (x5 + 5) r204.2.1 r208.2 r204.2.2 dd) else none)))))))))))))))
def f_L_law_s_J1243 (Ls : Nat) (xs : Nat → Int32) (kb28 : (Int32 → Mm → Mm → (Nat → Int64) → (Nat → UInt64) → Option Unit)) (x5 : Int32)  (μ : Mm) (ν : Mm) (o : Nat → Int64) (dd : Nat → UInt64) : Option (Unit) := (chk (x5 + 1) Ls ((chk (x5 + 2) Ls (((f_L_addEither_0_o (xs (x5 + 1).toNatClampNeg) (xs (x5 + 2).toNatClampNeg) μ o).bind (fun r218 => (chk (x5 + 1) Ls ((chk (x5 + 2) Ls (((f_X8_addEither (xs (x5 + 1).toNatClampNeg) (xs (x5 + 2).toNatClampNeg) ν).bind (fun r222 => ((f_X8_thrown r222.2).bind (fun r224 => (if (r224 : Int32) = r218.1 then (if (r218.1 : Int32) = 0 then (chk 0 1 ((if (lg_cmp (r218.2.2 (0 : Int32).toNatClampNeg) (r222.1 : Int32).toInt64 : Int32) = 0 then kb28 (x5 + 5) r218.2.1 r222.2 r218.2.2 dd else none))) else kb28 (x5 + 5) r218.2.1 r222.2 r218.2.2 dd) else none)))))))))))))))
def f_L_law_s_J1311 (Ls : Nat) (xs : Nat → Int32) (kb28 : (Int32 → Mm → Mm → (Nat → Int64) → (Nat → UInt64) → Option Unit)) (x5 : Int32)  (μ : Mm) (ν : Mm) (o : Nat → Int64) (dd : Nat → UInt64) : Option (Unit) := (chk (x5 + 1) Ls (((f_L_addNot_0_o (xs (x5 + 1).toNatClampNeg) μ o).bind (fun r231 => (chk (x5 + 1) Ls (((f_X8_addNot (xs (x5 + 1).toNatClampNeg) ν).bind (fun r234 => ((f_X8_thrown r234.2).bind (fun r236 => (if (r236 : Int32) = r231.1 then (if (r231.1 : Int32) = 0 then (chk 0 1 ((if (lg_cmp (r231.2.2 (0 : Int32).toNatClampNeg) (r234.1 : Int32).toInt64 : Int32) = 0 then kb28 (x5 + 5) r231.2.1 r234.2 r231.2.2 dd else none))) else kb28 (x5 + 5) r231.2.1 r234.2 r231.2.2 dd) else none)))))))))))
def f_L_law_s_J1367 (Ls : Nat) (xs : Nat → Int32) (kb28 : (Int32 → Mm → Mm → (Nat → Int64) → (Nat → UInt64) → Option Unit)) (x5 : Int32)  (μ : Mm) (ν : Mm) (o : Nat → Int64) (dd : Nat → UInt64) : Option (Unit) := (chk (x5 + 1) Ls ((chk (x5 + 2) Ls (((f_L_holds_0_o (xs (x5 + 1).toNatClampNeg) (xs (x5 + 2).toNatClampNeg) μ o).bind (fun r244 => (chk (x5 + 1) Ls ((chk (x5 + 2) Ls (((f_X8_holds (xs (x5 + 1).toNatClampNeg) (xs (x5 + 2).toNatClampNeg) ν).bind (fun r248 => ((f_X8_thrown r248.2).bind (fun r250 => (if (r250 : Int32) = r244.1 then (if (r244.1 : Int32) = 0 then (chk 0 1 ((if (r248.1 : Int32) = 0 then (if (lg_cmp (r244.2.2 (0 : Int32).toNatClampNeg) 0 : Int32) = 0 then kb28 (x5 + 5) r244.2.1 r248.2 r244.2.2 dd else none) else (if (lg_cmp (r244.2.2 (0 : Int32).toNatClampNeg) 1 : Int32) = 0 then kb28 (x5 + 5) r244.2.1 r248.2 r244.2.2 dd else none)))) else kb28 (x5 + 5) r244.2.1 r248.2 r244.2.2 dd) else none)))))))))))))))
def f_L_law_s_J1442 (Ls : Nat) (xs : Nat → Int32) (kb28 : (Int32 → Mm → Mm → (Nat → Int64) → (Nat → UInt64) → Option Unit)) (x5 : Int32)  (μ : Mm) (ν : Mm) (o : Nat → Int64) (dd : Nat → UInt64) : Option (Unit) := (chk (x5 + 1) Ls (((f_L_sizeOf_0_o (xs (x5 + 1).toNatClampNeg) μ o).bind (fun r259 => (chk (x5 + 1) Ls (((f_X8_sizeOf (xs (x5 + 1).toNatClampNeg) ν).bind (fun r262 => ((f_X8_thrown r262.2).bind (fun r264 => (if (r264 : Int32) = r259.1 then (if (r259.1 : Int32) = 0 then (chk 0 1 ((if (lg_cmp (r259.2 (0 : Int32).toNatClampNeg) (r262.1 : Int32).toInt64 : Int32) = 0 then kb28 (x5 + 5) μ r262.2 r259.2 dd else none))) else kb28 (x5 + 5) μ r262.2 r259.2 dd) else none)))))))))))
def f_L_law_s_J1498 (Ls : Nat) (xs : Nat → Int32) (kb28 : (Int32 → Mm → Mm → (Nat → Int64) → (Nat → UInt64) → Option Unit)) (x5 : Int32)  (μ : Mm) (ν : Mm) (o : Nat → Int64) (dd : Nat → UInt64) : Option (Unit) := (chk (x5 + 1) Ls ((chk (x5 + 2) Ls (((f_L_addRule_0_o (xs (x5 + 1).toNatClampNeg) (xs (x5 + 2).toNatClampNeg) μ o).bind (fun r272 => (chk (x5 + 1) Ls ((chk (x5 + 2) Ls (((f_X8_addRule (xs (x5 + 1).toNatClampNeg) (xs (x5 + 2).toNatClampNeg) ν).bind (fun r276 => ((f_X8_thrown r276.2).bind (fun r278 => (if (r278 : Int32) = r272.1 then (if (r272.1 : Int32) = 0 then (chk 0 1 ((if (lg_cmp (r272.2.2 (0 : Int32).toNatClampNeg) (r276.1 : Int32).toInt64 : Int32) = 0 then kb28 (x5 + 5) r272.2.1 r276.2 r272.2.2 dd else none))) else kb28 (x5 + 5) r272.2.1 r276.2 r272.2.2 dd) else none)))))))))))))))
def f_L_law_s_J1614 (Ls : Nat) (xs : Nat → Int32) (kb28 : (Int32 → Mm → Mm → (Nat → Int64) → (Nat → UInt64) → Option Unit)) (x5 : Int32) (x6 : Int32) (s0 : Int32) (s1 : Int32) (μ : Mm) (ν : Mm) (o : Nat → Int64) (dd : Nat → UInt64) : Option (Unit) := ((f_X8_setRule s1 s0 ν).bind (fun r292 => ((f_X8_thrown r292.2).bind (fun r294 => (if (r294 : Int32) = x6 then (if (x6 : Int32) = 0 then (chk 0 1 ((if (r292.1 : Int32) = 0 then (if (lg_cmp (o (0 : Int32).toNatClampNeg) 0 : Int32) = 0 then kb28 (x5 + 5) μ r292.2 o dd else none) else (if (lg_cmp (o (0 : Int32).toNatClampNeg) 1 : Int32) = 0 then kb28 (x5 + 5) μ r292.2 o dd else none)))) else kb28 (x5 + 5) μ r292.2 o dd) else none)))))
def f_L_law_s_J1587 (Ls : Nat) (xs : Nat → Int32) (kb28 : (Int32 → Mm → Mm → (Nat → Int64) → (Nat → UInt64) → Option Unit)) (x5 : Int32) (s0 : Int32) (s1 : Int32) (μ : Mm) (ν : Mm) (o : Nat → Int64) (dd : Nat → UInt64) : Option (Unit) := ((f_L_setRule_0_o s1 s0 μ o).bind (fun r287 => (chk (x5 + 1) Ls ((chk (x5 + 2) Ls ((if ((xs (x5 + 2).toNatClampNeg) : Int32) = 0 then f_L_law_s_J1614 Ls xs kb28 x5 r287.1 0 (xs (x5 + 1).toNatClampNeg) r287.2.1 ν r287.2.2 dd else f_L_law_s_J1614 Ls xs kb28 x5 r287.1 1 (xs (x5 + 1).toNatClampNeg) r287.2.1 ν r287.2.2 dd)))))))
def f_L_law_s_J1566 (Ls : Nat) (xs : Nat → Int32) (kb28 : (Int32 → Mm → Mm → (Nat → Int64) → (Nat → UInt64) → Option Unit)) (x5 : Int32)  (μ : Mm) (ν : Mm) (o : Nat → Int64) (dd : Nat → UInt64) : Option (Unit) := (chk (x5 + 1) Ls ((chk (x5 + 2) Ls ((if ((xs (x5 + 2).toNatClampNeg) : Int32) = 0 then f_L_law_s_J1587 Ls xs kb28 x5 0 (xs (x5 + 1).toNatClampNeg) μ ν o dd else f_L_law_s_J1587 Ls xs kb28 x5 1 (xs (x5 + 1).toNatClampNeg) μ ν o dd)))))
def f_L_law_s_J1657 (Ls : Nat) (xs : Nat → Int32) (kb28 : (Int32 → Mm → Mm → (Nat → Int64) → (Nat → UInt64) → Option Unit)) (x5 : Int32)  (μ : Mm) (ν : Mm) (o : Nat → Int64) (dd : Nat → UInt64) : Option (Unit) := (chk (x5 + 1) Ls (((f_L_setThreshold_0_o (xs (x5 + 1).toNatClampNeg) μ o).bind (fun r303 => (chk (x5 + 1) Ls (((f_X8_setThreshold (xs (x5 + 1).toNatClampNeg) ν).bind (fun r306 => ((f_X8_thrown r306.2).bind (fun r308 => (if (r308 : Int32) = r303.1 then (if (r303.1 : Int32) = 0 then (chk 0 1 ((if (lg_cmp (r303.2.2 (0 : Int32).toNatClampNeg) (r306.1 : Int32).toInt64 : Int32) = 0 then kb28 (x5 + 5) r303.2.1 r306.2 r303.2.2 dd else none))) else kb28 (x5 + 5) r303.2.1 r306.2 r303.2.2 dd) else none)))))))))))
def f_L_law_s_J1713 (Ls : Nat) (xs : Nat → Int32) (kb28 : (Int32 → Mm → Mm → (Nat → Int64) → (Nat → UInt64) → Option Unit)) (x5 : Int32)  (μ : Mm) (ν : Mm) (o : Nat → Int64) (dd : Nat → UInt64) : Option (Unit) := (chk (x5 + 1) Ls (((f_L_score_0_o (xs (x5 + 1).toNatClampNeg) μ o).bind (fun r315 => (chk (x5 + 1) Ls (((f_X8_score (xs (x5 + 1).toNatClampNeg) ν).bind (fun r318 => ((f_X8_thrown r318.2).bind (fun r320 => (if (r320 : Int32) = r315.1 then (if (r315.1 : Int32) = 0 then (chk 0 1 ((if (lg_cmp (r315.2 (0 : Int32).toNatClampNeg) (r318.1 : Int32).toInt64 : Int32) = 0 then kb28 (x5 + 5) μ r318.2 r315.2 dd else none))) else kb28 (x5 + 5) μ r318.2 r315.2 dd) else none)))))))))))
def f_L_law_s_J1769 (Ls : Nat) (xs : Nat → Int32) (kb28 : (Int32 → Mm → Mm → (Nat → Int64) → (Nat → UInt64) → Option Unit)) (x5 : Int32)  (μ : Mm) (ν : Mm) (o : Nat → Int64) (dd : Nat → UInt64) : Option (Unit) := (chk (x5 + 1) Ls (((f_L_scoreNow_0_o (xs (x5 + 1).toNatClampNeg) μ o).bind (fun r327 => (chk (x5 + 1) Ls (((f_X8_scoreNow (xs (x5 + 1).toNatClampNeg) ν).bind (fun r330 => ((f_X8_thrown r330.2).bind (fun r332 => (if (r332 : Int32) = r327.1 then (if (r327.1 : Int32) = 0 then (chk 0 1 ((if (lg_cmp (r327.2.2 (0 : Int32).toNatClampNeg) (r330.1 : Int32).toInt64 : Int32) = 0 then kb28 (x5 + 5) r327.2.1 r330.2 r327.2.2 dd else none))) else kb28 (x5 + 5) r327.2.1 r330.2 r327.2.2 dd) else none)))))))))))
def f_L_law_s_J1825 (Ls : Nat) (xs : Nat → Int32) (kb28 : (Int32 → Mm → Mm → (Nat → Int64) → (Nat → UInt64) → Option Unit)) (x5 : Int32)  (μ : Mm) (ν : Mm) (o : Nat → Int64) (dd : Nat → UInt64) : Option (Unit) := (chk (x5 + 1) Ls (((f_L_reasons_0_o (xs (x5 + 1).toNatClampNeg) μ o).bind (fun r339 => (chk (x5 + 1) Ls (((f_X8_reasons (xs (x5 + 1).toNatClampNeg) ν).bind (fun r342 => ((f_X8_thrown r342.2).bind (fun r344 => (if (r344 : Int32) = r339.1 then (if (r339.1 : Int32) = 0 then (chk 0 1 ((if (lg_cmp (r339.2 (0 : Int32).toNatClampNeg) (r342.1 : Int32).toInt64 : Int32) = 0 then kb28 (x5 + 5) μ r342.2 r339.2 dd else none))) else kb28 (x5 + 5) μ r342.2 r339.2 dd) else none)))))))))))
def f_L_law_s_J1881 (Ls : Nat) (xs : Nat → Int32) (kb28 : (Int32 → Mm → Mm → (Nat → Int64) → (Nat → UInt64) → Option Unit)) (x5 : Int32)  (μ : Mm) (ν : Mm) (o : Nat → Int64) (dd : Nat → UInt64) : Option (Unit) := (chk (x5 + 1) Ls ((chk (x5 + 2) Ls (((f_L_reasonRule_0_o (xs (x5 + 1).toNatClampNeg) (xs (x5 + 2).toNatClampNeg) μ o).bind (fun r352 => (chk (x5 + 1) Ls ((chk (x5 + 2) Ls (((f_X8_reasonRule (xs (x5 + 1).toNatClampNeg) (xs (x5 + 2).toNatClampNeg) ν).bind (fun r356 => ((f_X8_thrown r356.2).bind (fun r358 => (if (r358 : Int32) = r352.1 then (if (r352.1 : Int32) = 0 then (chk 0 1 ((if (lg_cmp (r352.2 (0 : Int32).toNatClampNeg) (r356.1 : Int32).toInt64 : Int32) = 0 then kb28 (x5 + 5) μ r356.2 r352.2 dd else none))) else kb28 (x5 + 5) μ r356.2 r352.2 dd) else none)))))))))))))))
def f_L_law_s_J1949 (Ls : Nat) (xs : Nat → Int32) (kb28 : (Int32 → Mm → Mm → (Nat → Int64) → (Nat → UInt64) → Option Unit)) (x5 : Int32)  (μ : Mm) (ν : Mm) (o : Nat → Int64) (dd : Nat → UInt64) : Option (Unit) := (chk (x5 + 1) Ls ((chk (x5 + 2) Ls (((f_L_reasonTests_0_o (xs (x5 + 1).toNatClampNeg) (xs (x5 + 2).toNatClampNeg) μ o).bind (fun r366 => (chk (x5 + 1) Ls ((chk (x5 + 2) Ls (((f_X8_reasonTests (xs (x5 + 1).toNatClampNeg) (xs (x5 + 2).toNatClampNeg) ν).bind (fun r370 => ((f_X8_thrown r370.2).bind (fun r372 => (if (r372 : Int32) = r366.1 then (if (r366.1 : Int32) = 0 then (chk 0 1 ((if (lg_cmp (r366.2 (0 : Int32).toNatClampNeg) (r370.1 : Int32).toInt64 : Int32) = 0 then kb28 (x5 + 5) μ r370.2 r366.2 dd else none))) else kb28 (x5 + 5) μ r370.2 r366.2 dd) else none)))))))))))))))
def f_L_law_s_J2017 (Ls : Nat) (xs : Nat → Int32) (kb28 : (Int32 → Mm → Mm → (Nat → Int64) → (Nat → UInt64) → Option Unit)) (x5 : Int32)  (μ : Mm) (ν : Mm) (o : Nat → Int64) (dd : Nat → UInt64) : Option (Unit) := (chk (x5 + 1) Ls ((chk (x5 + 2) Ls ((chk (x5 + 3) Ls (((f_L_reasonFeature_0_o (xs (x5 + 1).toNatClampNeg) (xs (x5 + 2).toNatClampNeg) (xs (x5 + 3).toNatClampNeg) μ o).bind (fun r381 => (chk (x5 + 1) Ls ((chk (x5 + 2) Ls ((chk (x5 + 3) Ls (((f_X8_reasonFeature (xs (x5 + 1).toNatClampNeg) (xs (x5 + 2).toNatClampNeg) (xs (x5 + 3).toNatClampNeg) ν).bind (fun r386 => ((f_X8_thrown r386.2).bind (fun r388 => (if (r388 : Int32) = r381.1 then (if (r381.1 : Int32) = 0 then (chk 0 1 ((if (lg_cmp (r381.2 (0 : Int32).toNatClampNeg) (r386.1 : Int32).toInt64 : Int32) = 0 then kb28 (x5 + 5) μ r386.2 r381.2 dd else none))) else kb28 (x5 + 5) μ r386.2 r381.2 dd) else none)))))))))))))))))))
def f_L_law_s_J2097 (Ls : Nat) (xs : Nat → Int32) (kb28 : (Int32 → Mm → Mm → (Nat → Int64) → (Nat → UInt64) → Option Unit)) (x5 : Int32)  (μ : Mm) (ν : Mm) (o : Nat → Int64) (dd : Nat → UInt64) : Option (Unit) := (chk (x5 + 1) Ls ((chk (x5 + 2) Ls ((chk (x5 + 3) Ls (((f_L_reasonValue_0_o (xs (x5 + 1).toNatClampNeg) (xs (x5 + 2).toNatClampNeg) (xs (x5 + 3).toNatClampNeg) μ o).bind (fun r397 => (chk (x5 + 1) Ls ((chk (x5 + 2) Ls ((chk (x5 + 3) Ls (((f_X8_reasonValue (xs (x5 + 1).toNatClampNeg) (xs (x5 + 2).toNatClampNeg) (xs (x5 + 3).toNatClampNeg) ν).bind (fun r402 => ((f_X8_thrown r402.2).bind (fun r404 => (if (r404 : Int32) = r397.1 then (if (r397.1 : Int32) = 0 then (chk 0 1 ((if (lg_cmp (r397.2 (0 : Int32).toNatClampNeg) (r402.1 : Int32).toInt64 : Int32) = 0 then kb28 (x5 + 5) μ r402.2 r397.2 dd else none))) else kb28 (x5 + 5) μ r402.2 r397.2 dd) else none)))))))))))))))))))
def f_L_law_s_J2177 (Ls : Nat) (xs : Nat → Int32) (kb28 : (Int32 → Mm → Mm → (Nat → Int64) → (Nat → UInt64) → Option Unit)) (x5 : Int32)  (μ : Mm) (ν : Mm) (o : Nat → Int64) (dd : Nat → UInt64) : Option (Unit) := ((f_L_nextAlert_0_o μ o).bind (fun r410 => ((f_X8_nextAlert ν).bind (fun r412 => ((f_X8_thrown r412.2).bind (fun r414 => (if (r414 : Int32) = r410.1 then (if (r410.1 : Int32) = 0 then (chk 0 1 ((if (lg_cmp (r410.2 (0 : Int32).toNatClampNeg) (r412.1 : Int32).toInt64 : Int32) = 0 then kb28 (x5 + 5) μ r412.2 r410.2 dd else none))) else kb28 (x5 + 5) μ r412.2 r410.2 dd) else none)))))))
def f_L_law_s_J2221 (Ls : Nat) (xs : Nat → Int32) (kb28 : (Int32 → Mm → Mm → (Nat → Int64) → (Nat → UInt64) → Option Unit)) (x5 : Int32)  (μ : Mm) (ν : Mm) (o : Nat → Int64) (dd : Nat → UInt64) : Option (Unit) := (chk (x5 + 1) Ls (((f_L_alertAt_0_o (xs (x5 + 1).toNatClampNeg) μ o).bind (fun r421 => (chk (x5 + 1) Ls (((f_X8_alertAt (xs (x5 + 1).toNatClampNeg) ν).bind (fun r424 => ((f_X8_thrown r424.2).bind (fun r426 => (if (r426 : Int32) = r421.1 then (if (r421.1 : Int32) = 0 then (chk 0 1 ((if (lg_cmp (r421.2 (0 : Int32).toNatClampNeg) (r424.1 : Int32).toInt64 : Int32) = 0 then kb28 (x5 + 5) μ r424.2 r421.2 dd else none))) else kb28 (x5 + 5) μ r424.2 r421.2 dd) else none)))))))))))
def f_L_law_s_J2277 (Ls : Nat) (xs : Nat → Int32) (kb28 : (Int32 → Mm → Mm → (Nat → Int64) → (Nat → UInt64) → Option Unit)) (x5 : Int32)  (μ : Mm) (ν : Mm) (o : Nat → Int64) (dd : Nat → UInt64) : Option (Unit) := ((f_X7_openAlerts μ).bind (fun r432 => ((f_X8_openAlerts ν).bind (fun r434 => (if (r432 : Int32) = r434.1 then kb28 (x5 + 5) μ r434.2 o dd else none)))))
def f_L_law_s_J2338 (Ls : Nat) (xs : Nat → Int32) (kb28 : (Int32 → Mm → Mm → (Nat → Int64) → (Nat → UInt64) → Option Unit)) (x5 : Int32) (x6 : Int32) (s0 : Int32) (s1 : Int32) (μ : Mm) (ν : Mm) (o : Nat → Int64) (dd : Nat → UInt64) : Option (Unit) := ((f_X8_decide s1 s0 ν).bind (fun r445 => ((f_X8_thrown r445.2).bind (fun r447 => (if (r447 : Int32) = x6 then (if (x6 : Int32) = 0 then (chk 0 1 ((if (lg_cmp (o (0 : Int32).toNatClampNeg) (r445.1 : Int32).toInt64 : Int32) = 0 then kb28 (x5 + 5) μ r445.2 o dd else none))) else kb28 (x5 + 5) μ r445.2 o dd) else none)))))
def f_L_law_s_J2311 (Ls : Nat) (xs : Nat → Int32) (kb28 : (Int32 → Mm → Mm → (Nat → Int64) → (Nat → UInt64) → Option Unit)) (x5 : Int32) (s0 : Int32) (s1 : Int32) (μ : Mm) (ν : Mm) (o : Nat → Int64) (dd : Nat → UInt64) : Option (Unit) := ((f_L_decide_0_o s1 s0 μ o).bind (fun r440 => (chk (x5 + 1) Ls ((chk (x5 + 2) Ls ((if ((xs (x5 + 2).toNatClampNeg) : Int32) = 0 then f_L_law_s_J2338 Ls xs kb28 x5 r440.1 0 (xs (x5 + 1).toNatClampNeg) r440.2.1 ν r440.2.2 dd else f_L_law_s_J2338 Ls xs kb28 x5 r440.1 1 (xs (x5 + 1).toNatClampNeg) r440.2.1 ν r440.2.2 dd)))))))
def f_L_law_s_J2290 (Ls : Nat) (xs : Nat → Int32) (kb28 : (Int32 → Mm → Mm → (Nat → Int64) → (Nat → UInt64) → Option Unit)) (x5 : Int32)  (μ : Mm) (ν : Mm) (o : Nat → Int64) (dd : Nat → UInt64) : Option (Unit) := (chk (x5 + 1) Ls ((chk (x5 + 2) Ls ((if ((xs (x5 + 2).toNatClampNeg) : Int32) = 0 then f_L_law_s_J2311 Ls xs kb28 x5 0 (xs (x5 + 1).toNatClampNeg) μ ν o dd else f_L_law_s_J2311 Ls xs kb28 x5 1 (xs (x5 + 1).toNatClampNeg) μ ν o dd)))))
def f_L_law_s_J2374 (Ls : Nat) (xs : Nat → Int32) (kb28 : (Int32 → Mm → Mm → (Nat → Int64) → (Nat → UInt64) → Option Unit)) (x5 : Int32)  (μ : Mm) (ν : Mm) (o : Nat → Int64) (dd : Nat → UInt64) : Option (Unit) := (chk (x5 + 1) Ls (((f_L_alertOf_0_o (xs (x5 + 1).toNatClampNeg) μ o).bind (fun r454 => (chk (x5 + 1) Ls (((f_X8_alertOf (xs (x5 + 1).toNatClampNeg) ν).bind (fun r457 => ((f_X8_thrown r457.2).bind (fun r459 => (if (r459 : Int32) = r454.1 then (if (r454.1 : Int32) = 0 then (chk 0 1 ((if (lg_cmp (r454.2 (0 : Int32).toNatClampNeg) (r457.1 : Int32).toInt64 : Int32) = 0 then kb28 (x5 + 5) μ r457.2 r454.2 dd else none))) else kb28 (x5 + 5) μ r457.2 r454.2 dd) else none)))))))))))
def f_L_law_s_J2430 (Ls : Nat) (xs : Nat → Int32) (kb28 : (Int32 → Mm → Mm → (Nat → Int64) → (Nat → UInt64) → Option Unit)) (x5 : Int32)  (μ : Mm) (ν : Mm) (o : Nat → Int64) (dd : Nat → UInt64) : Option (Unit) := (chk (x5 + 1) Ls ((chk (x5 + 2) Ls (((f_L_ring_0_o (xs (x5 + 1).toNatClampNeg) (xs (x5 + 2).toNatClampNeg) μ o).bind (fun r467 => (chk (x5 + 1) Ls ((chk (x5 + 2) Ls (((f_X8_ring (xs (x5 + 1).toNatClampNeg) (xs (x5 + 2).toNatClampNeg) ν).bind (fun r471 => ((f_X8_thrown r471.2).bind (fun r473 => (if (r473 : Int32) = r467.1 then (if (r467.1 : Int32) = 0 then (chk 0 1 ((if (lg_cmp (r467.2.2 (0 : Int32).toNatClampNeg) (r471.1 : Int32).toInt64 : Int32) = 0 then kb28 (x5 + 5) r467.2.1 r471.2 r467.2.2 dd else none))) else kb28 (x5 + 5) r467.2.1 r471.2 r467.2.2 dd) else none)))))))))))))))
def f_L_law_s_J2498 (Ls : Nat) (xs : Nat → Int32) (kb28 : (Int32 → Mm → Mm → (Nat → Int64) → (Nat → UInt64) → Option Unit)) (x5 : Int32)  (μ : Mm) (ν : Mm) (o : Nat → Int64) (dd : Nat → UInt64) : Option (Unit) := (chk (x5 + 1) Ls ((chk (x5 + 2) Ls (((f_L_ringByTrying_0_o (xs (x5 + 1).toNatClampNeg) (xs (x5 + 2).toNatClampNeg) μ o).bind (fun r481 => (chk (x5 + 1) Ls ((chk (x5 + 2) Ls (((f_X8_ringByTrying (xs (x5 + 1).toNatClampNeg) (xs (x5 + 2).toNatClampNeg) ν).bind (fun r485 => ((f_X8_thrown r485.2).bind (fun r487 => (if (r487 : Int32) = r481.1 then (if (r481.1 : Int32) = 0 then (chk 0 1 ((if (lg_cmp (r481.2.2 (0 : Int32).toNatClampNeg) (r485.1 : Int32).toInt64 : Int32) = 0 then kb28 (x5 + 5) r481.2.1 r485.2 r481.2.2 dd else none))) else kb28 (x5 + 5) r481.2.1 r485.2 r481.2.2 dd) else none)))))))))))))))
def f_L_law_s_J2566 (Ls : Nat) (xs : Nat → Int32) (kb28 : (Int32 → Mm → Mm → (Nat → Int64) → (Nat → UInt64) → Option Unit)) (x5 : Int32)  (μ : Mm) (ν : Mm) (o : Nat → Int64) (dd : Nat → UInt64) : Option (Unit) := (chk (x5 + 1) Ls ((chk (x5 + 2) Ls (((f_L_group_0_o (xs (x5 + 1).toNatClampNeg) (xs (x5 + 2).toNatClampNeg) μ o).bind (fun r495 => (chk (x5 + 1) Ls ((chk (x5 + 2) Ls (((f_X8_group (xs (x5 + 1).toNatClampNeg) (xs (x5 + 2).toNatClampNeg) ν).bind (fun r499 => ((f_X8_thrown r499.2).bind (fun r501 => (if (r501 : Int32) = r495.1 then (if (r495.1 : Int32) = 0 then (chk 0 1 ((if (lg_cmp (r495.2.2 (0 : Int32).toNatClampNeg) (r499.1 : Int32).toInt64 : Int32) = 0 then kb28 (x5 + 5) r495.2.1 r499.2 r495.2.2 dd else none))) else kb28 (x5 + 5) r495.2.1 r499.2 r495.2.2 dd) else none)))))))))))))))
def f_L_law_s_J2634 (Ls : Nat) (xs : Nat → Int32) (kb28 : (Int32 → Mm → Mm → (Nat → Int64) → (Nat → UInt64) → Option Unit)) (x5 : Int32)  (μ : Mm) (ν : Mm) (o : Nat → Int64) (dd : Nat → UInt64) : Option (Unit) := (chk (x5 + 1) Ls (((f_L_caught_0_o (xs (x5 + 1).toNatClampNeg) μ o).bind (fun r508 => (chk (x5 + 1) Ls (((f_X8_caught (xs (x5 + 1).toNatClampNeg) ν).bind (fun r511 => ((f_X8_thrown r511.2).bind (fun r513 => (if (r513 : Int32) = r508.1 then (if (r508.1 : Int32) = 0 then (chk 0 1 ((if (lg_cmp (r508.2 (0 : Int32).toNatClampNeg) (r511.1 : Int32).toInt64 : Int32) = 0 then kb28 (x5 + 5) μ r511.2 r508.2 dd else none))) else kb28 (x5 + 5) μ r511.2 r508.2 dd) else none)))))))))))
def f_L_law_s_J2690 (Ls : Nat) (xs : Nat → Int32) (kb28 : (Int32 → Mm → Mm → (Nat → Int64) → (Nat → UInt64) → Option Unit)) (x5 : Int32)  (μ : Mm) (ν : Mm) (o : Nat → Int64) (dd : Nat → UInt64) : Option (Unit) := (chk (x5 + 1) Ls (((f_L_bestThreshold_0_o (xs (x5 + 1).toNatClampNeg) μ o).bind (fun r520 => (chk (x5 + 1) Ls (((f_X8_bestThreshold (xs (x5 + 1).toNatClampNeg) ν).bind (fun r523 => ((f_X8_thrown r523.2).bind (fun r525 => (if (r525 : Int32) = r520.1 then (if (r520.1 : Int32) = 0 then (chk 0 1 ((if (lg_cmp (r520.2 (0 : Int32).toNatClampNeg) (r523.1 : Int32).toInt64 : Int32) = 0 then kb28 (x5 + 5) μ r523.2 r520.2 dd else none))) else kb28 (x5 + 5) μ r523.2 r520.2 dd) else none)))))))))))
def f_L_law_s_J2746 (Ls : Nat) (xs : Nat → Int32) (kb28 : (Int32 → Mm → Mm → (Nat → Int64) → (Nat → UInt64) → Option Unit)) (x5 : Int32)  (μ : Mm) (ν : Mm) (o : Nat → Int64) (dd : Nat → UInt64) : Option (Unit) := (chk (x5 + 1) Ls (((f_L_bestThresholdByTrying_0_o (xs (x5 + 1).toNatClampNeg) μ o).bind (fun r532 => (chk (x5 + 1) Ls (((f_X8_bestThresholdByTrying (xs (x5 + 1).toNatClampNeg) ν).bind (fun r535 => ((f_X8_thrown r535.2).bind (fun r537 => (if (r537 : Int32) = r532.1 then (if (r532.1 : Int32) = 0 then (chk 0 1 ((if (lg_cmp (r532.2 (0 : Int32).toNatClampNeg) (r535.1 : Int32).toInt64 : Int32) = 0 then kb28 (x5 + 5) μ r535.2 r532.2 dd else none))) else kb28 (x5 + 5) μ r535.2 r532.2 dd) else none)))))))))))
noncomputable def f_L_law_s_J2802 (Ls : Nat) (xs : Nat → Int32) (kb28 : (Int32 → Mm → Mm → (Nat → Int64) → (Nat → UInt64) → Option Unit)) (x5 : Int32)  (μ : Mm) (ν : Mm) (o : Nat → Int64) (dd : Nat → UInt64) : Option (Unit) := (chk (x5 + 1) Ls (((f_L_precision_0_d (xs (x5 + 1).toNatClampNeg) μ dd).bind (fun r544 => (chk (x5 + 1) Ls (((f_X8_precision (xs (x5 + 1).toNatClampNeg) ν).bind (fun r547 => ((f_X8_thrown r547.2).bind (fun r549 => (if (r549 : Int32) = r544.1 then (if (r544.1 : Int32) = 0 then (chk 0 1 ((gx64 (FP.f2d r547.1) ((if (Op.cmpValue (FP.dcmp (r544.2 (0 : Int32).toNatClampNeg) (FP.f2d r547.1)) .l : Int32) = 0 then kb28 (x5 + 5) μ r547.2 o r544.2 else (chk 0 1 ((chk 0 1 ((if (Op.cmpValue (FP.dcmp (r544.2 (0 : Int32).toNatClampNeg) (r544.2 (0 : Int32).toNatClampNeg)) .l : Int32) = 0 then none else (if (Op.cmpValue (FP.fcmp r547.1 r547.1) .l : Int32) = 0 then none else kb28 (x5 + 5) μ r547.2 o r544.2))))))))))) else kb28 (x5 + 5) μ r547.2 o r544.2) else none)))))))))))
noncomputable def f_L_law_s_J2880 (Ls : Nat) (xs : Nat → Int32) (kb28 : (Int32 → Mm → Mm → (Nat → Int64) → (Nat → UInt64) → Option Unit)) (x5 : Int32)  (μ : Mm) (ν : Mm) (o : Nat → Int64) (dd : Nat → UInt64) : Option (Unit) := ((f_L_meanScore_0_d μ dd).bind (fun r560 => ((f_X8_meanScore ν).bind (fun r562 => ((f_X8_thrown r562.2).bind (fun r564 => (if (r564 : Int32) = r560.1 then (if (r560.1 : Int32) = 0 then (chk 0 1 ((if (Op.cmpValue (FP.dcmp (r560.2 (0 : Int32).toNatClampNeg) r562.1) .l : Int32) = 0 then kb28 (x5 + 5) μ r562.2 o r560.2 else (chk 0 1 ((chk 0 1 ((if (Op.cmpValue (FP.dcmp (r560.2 (0 : Int32).toNatClampNeg) (r560.2 (0 : Int32).toNatClampNeg)) .l : Int32) = 0 then none else (if (Op.cmpValue (FP.dcmp r562.1 r562.1) .l : Int32) = 0 then none else kb28 (x5 + 5) μ r562.2 o r560.2))))))))) else kb28 (x5 + 5) μ r562.2 o r560.2) else none)))))))
def f_L_law_s_J2945 (Ls : Nat) (xs : Nat → Int32) (kb28 : (Int32 → Mm → Mm → (Nat → Int64) → (Nat → UInt64) → Option Unit)) (x5 : Int32)  (μ : Mm) (ν : Mm) (o : Nat → Int64) (dd : Nat → UInt64) : Option (Unit) := ((f_X7_turnover μ).bind (fun r574 => ((f_X8_turnover ν).bind (fun r576 => (if (lg_cmp r574 r576.1 : Int32) = 0 then kb28 (x5 + 5) μ r576.2 o dd else none)))))
def f_L_law_s_J2959 (Ls : Nat) (xs : Nat → Int32) (kb28 : (Int32 → Mm → Mm → (Nat → Int64) → (Nat → UInt64) → Option Unit)) (x5 : Int32)  (μ : Mm) (ν : Mm) (o : Nat → Int64) (dd : Nat → UInt64) : Option (Unit) := ((f_X7_isSound μ).bind (fun r579 => ((f_X8_isSound ν).bind (fun r581 => (if (r579 : Int32) = r581.1 then kb28 (x5 + 5) μ r581.2 o dd else none)))))
noncomputable def f_L_round (Ls : Nat) (xs : Nat → Int32) (kb28 : (Int32 → Mm → Mm → (Nat → Int64) → (Nat → UInt64) → Option Unit)) (x5 : Int32) (μ : Mm) (ν : Mm) (o : Nat → Int64) (dd : Nat → UInt64) : Option Unit := (if ((nI Ls) - 5 : Int32) < x5 then some () else (chk x5 Ls ((if ((xs x5.toNatClampNeg) &&& 63 : Int32) = 0 then f_L_law_s_J244 Ls xs kb28 x5 μ ν o dd else (if ((xs x5.toNatClampNeg) &&& 63 : Int32) = 1 then f_L_law_s_J302 Ls xs kb28 x5 μ ν o dd else (if ((xs x5.toNatClampNeg) &&& 63 : Int32) = 2 then f_L_law_s_J393 Ls xs kb28 x5 μ ν o dd else (if ((xs x5.toNatClampNeg) &&& 63 : Int32) = 3 then f_L_law_s_J484 Ls xs kb28 x5 μ ν o dd else (if ((xs x5.toNatClampNeg) &&& 63 : Int32) = 4 then f_L_law_s_J547 Ls xs kb28 x5 μ ν o dd else (if ((xs x5.toNatClampNeg) &&& 63 : Int32) = 5 then f_L_law_s_J603 Ls xs kb28 x5 μ ν o dd else (if ((xs x5.toNatClampNeg) &&& 63 : Int32) = 6 then f_L_law_s_J616 Ls xs kb28 x5 μ ν o dd else (if ((xs x5.toNatClampNeg) &&& 63 : Int32) = 7 then f_L_law_s_J672 Ls xs kb28 x5 μ ν o dd else (if ((xs x5.toNatClampNeg) &&& 63 : Int32) = 8 then f_L_law_s_J685 Ls xs kb28 x5 μ ν o dd else (if ((xs x5.toNatClampNeg) &&& 63 : Int32) = 9 then f_L_law_s_J765 Ls xs kb28 x5 μ ν o dd else (if ((xs x5.toNatClampNeg) &&& 63 : Int32) = 10 then f_L_law_s_J778 Ls xs kb28 x5 μ ν o dd else (if ((xs x5.toNatClampNeg) &&& 63 : Int32) = 11 then f_L_law_s_J834 Ls xs kb28 x5 μ ν o dd else (if ((xs x5.toNatClampNeg) &&& 63 : Int32) = 12 then f_L_law_s_J902 Ls xs kb28 x5 μ ν o dd else (if ((xs x5.toNatClampNeg) &&& 63 : Int32) = 13 then f_L_law_s_J970 Ls xs kb28 x5 μ ν o dd else (if ((xs x5.toNatClampNeg) &&& 63 : Int32) = 14 then f_L_law_s_J983 Ls xs kb28 x5 μ ν o dd else (if ((xs x5.toNatClampNeg) &&& 63 : Int32) = 15 then f_L_law_s_J1065 Ls xs kb28 x5 μ ν o dd else (if ((xs x5.toNatClampNeg) &&& 63 : Int32) = 16 then f_L_law_s_J1175 Ls xs kb28 x5 μ ν o dd else (if ((xs x5.toNatClampNeg) &&& 63 : Int32) = 17 then f_L_law_s_J1243 Ls xs kb28 x5 μ ν o dd else (if ((xs x5.toNatClampNeg) &&& 63 : Int32) = 18 then f_L_law_s_J1311 Ls xs kb28 x5 μ ν o dd else (if ((xs x5.toNatClampNeg) &&& 63 : Int32) = 19 then f_L_law_s_J1367 Ls xs kb28 x5 μ ν o dd else (if ((xs x5.toNatClampNeg) &&& 63 : Int32) = 20 then f_L_law_s_J1442 Ls xs kb28 x5 μ ν o dd else (if ((xs x5.toNatClampNeg) &&& 63 : Int32) = 21 then f_L_law_s_J1498 Ls xs kb28 x5 μ ν o dd else (if ((xs x5.toNatClampNeg) &&& 63 : Int32) = 22 then f_L_law_s_J1566 Ls xs kb28 x5 μ ν o dd else (if ((xs x5.toNatClampNeg) &&& 63 : Int32) = 23 then f_L_law_s_J1657 Ls xs kb28 x5 μ ν o dd else (if ((xs x5.toNatClampNeg) &&& 63 : Int32) = 24 then f_L_law_s_J1713 Ls xs kb28 x5 μ ν o dd else (if ((xs x5.toNatClampNeg) &&& 63 : Int32) = 25 then f_L_law_s_J1769 Ls xs kb28 x5 μ ν o dd else (if ((xs x5.toNatClampNeg) &&& 63 : Int32) = 26 then f_L_law_s_J1825 Ls xs kb28 x5 μ ν o dd else (if ((xs x5.toNatClampNeg) &&& 63 : Int32) = 27 then f_L_law_s_J1881 Ls xs kb28 x5 μ ν o dd else (if ((xs x5.toNatClampNeg) &&& 63 : Int32) = 28 then f_L_law_s_J1949 Ls xs kb28 x5 μ ν o dd else (if ((xs x5.toNatClampNeg) &&& 63 : Int32) = 29 then f_L_law_s_J2017 Ls xs kb28 x5 μ ν o dd else (if ((xs x5.toNatClampNeg) &&& 63 : Int32) = 30 then f_L_law_s_J2097 Ls xs kb28 x5 μ ν o dd else (if ((xs x5.toNatClampNeg) &&& 63 : Int32) = 31 then f_L_law_s_J2177 Ls xs kb28 x5 μ ν o dd else (if ((xs x5.toNatClampNeg) &&& 63 : Int32) = 32 then f_L_law_s_J2221 Ls xs kb28 x5 μ ν o dd else (if ((xs x5.toNatClampNeg) &&& 63 : Int32) = 33 then f_L_law_s_J2277 Ls xs kb28 x5 μ ν o dd else (if ((xs x5.toNatClampNeg) &&& 63 : Int32) = 34 then f_L_law_s_J2290 Ls xs kb28 x5 μ ν o dd else (if ((xs x5.toNatClampNeg) &&& 63 : Int32) = 35 then f_L_law_s_J2374 Ls xs kb28 x5 μ ν o dd else (if ((xs x5.toNatClampNeg) &&& 63 : Int32) = 36 then f_L_law_s_J2430 Ls xs kb28 x5 μ ν o dd else (if ((xs x5.toNatClampNeg) &&& 63 : Int32) = 37 then f_L_law_s_J2498 Ls xs kb28 x5 μ ν o dd else (if ((xs x5.toNatClampNeg) &&& 63 : Int32) = 38 then f_L_law_s_J2566 Ls xs kb28 x5 μ ν o dd else (if ((xs x5.toNatClampNeg) &&& 63 : Int32) = 39 then f_L_law_s_J2634 Ls xs kb28 x5 μ ν o dd else (if ((xs x5.toNatClampNeg) &&& 63 : Int32) = 40 then f_L_law_s_J2690 Ls xs kb28 x5 μ ν o dd else (if ((xs x5.toNatClampNeg) &&& 63 : Int32) = 41 then f_L_law_s_J2746 Ls xs kb28 x5 μ ν o dd else (if ((xs x5.toNatClampNeg) &&& 63 : Int32) = 42 then f_L_law_s_J2802 Ls xs kb28 x5 μ ν o dd else (if ((xs x5.toNatClampNeg) &&& 63 : Int32) = 43 then f_L_law_s_J2880 Ls xs kb28 x5 μ ν o dd else (if ((xs x5.toNatClampNeg) &&& 63 : Int32) = 44 then f_L_law_s_J2945 Ls xs kb28 x5 μ ν o dd else (if ((xs x5.toNatClampNeg) &&& 63 : Int32) = 45 then f_L_law_s_J2959 Ls xs kb28 x5 μ ν o dd else kb28 (x5 + 5) μ ν o dd)))))))))))))))))))))))))))))))))))))))))))))))))
noncomputable def f_L_loop (Ls : Nat) (xs : Nat → Int32) : Nat → Int32 → Mm → Mm → (Nat → Int64) → (Nat → UInt64) → Option Unit
  | 0, _, _, _, _, _ => none
  | n + 1, x5, μ, ν, o, dd => f_L_round Ls xs (f_L_loop Ls xs n) x5 μ ν o dd
end
section
/-! ===== the pure side: what the functions f_.. are ===== -/
def mu0 : Mm
  | 0 => fun j => match j with
    | 4 => 50
    | _ => 0
  | _ => fun _ => 0
def nu0 : Mm
  | 0 => fun j => match j with
    | 16 => 50
    | _ => 0
  | _ => fun _ => 0
end
section
def bt (x : Int32) (i : Nat) : Bool := x.toBitVec.getLsbD i
theorem b_ext {x y : Int32} (h : ∀ i, i < 32 → bt x i = bt y i) : x = y := Int32.toBitVec_inj.mp (BitVec.eq_of_getLsbD_eq (fun i hi => h i hi))
theorem b_or (x y : Int32) (i : Nat) : bt (x ||| y) i = (bt x i || bt y i) := by unfold bt; rw [Int32.toBitVec_or, BitVec.getLsbD_or]
theorem b_and (x y : Int32) (i : Nat) : bt (x &&& y) i = (bt x i && bt y i) := by unfold bt; rw [Int32.toBitVec_and, BitVec.getLsbD_and]
theorem b_xor (x y : Int32) (i : Nat) : bt (x ^^^ y) i = (bt x i ^^ bt y i) := by unfold bt; rw [Int32.toBitVec_xor, BitVec.getLsbD_xor]
theorem b_big {x : Int32} {i : Nat} (h : 32 ≤ i) : bt x i = false := BitVec.getLsbD_of_ge _ _ h
theorem b_255 (i : Nat) : bt 255 i = decide (i < 8) := by
  rcases Nat.lt_or_ge i 32 with h | h
  · exact (by decide +kernel : ∀ i, i < 32 → bt 255 i = decide (i < 8)) i h
  · rw [b_big h, decide_eq_false (by omega)]
theorem b_65535 (i : Nat) : bt 65535 i = decide (i < 16) := by
  rcases Nat.lt_or_ge i 32 with h | h
  · exact (by decide +kernel : ∀ i, i < 32 → bt 65535 i = decide (i < 16)) i h
  · rw [b_big h, decide_eq_false (by omega)]
theorem b_m1 : ∀ i, i < 32 → bt (-1) i = true := by decide +kernel
theorem b_0 (i : Nat) : bt 0 i = false := BitVec.getLsbD_zero
theorem s_l : ∀ n, n < 32 → ((nI n &&& 31).toBitVec.smod 32).toNat = n := by decide +kernel
theorem s_u : ∀ n, n < 32 → (((nI n).toUInt32 &&& Int32.toUInt32 31).toBitVec % 32).toNat = n := by decide +kernel
theorem b_shl (n : Nat) (hn : n < 32) (x : Int32) {i : Nat} (hi : i < 32) : bt (x <<< (nI n &&& 31)) i = (decide (n ≤ i) && bt x (i - n)) := by
  unfold bt
  rw [Int32.toBitVec_shiftLeft]
  show (x.toBitVec <<< ((nI n &&& 31).toBitVec.smod 32).toNat).getLsbD i = _
  rw [s_l n hn, BitVec.getLsbD_shiftLeft]
  rcases Nat.lt_or_ge i n with h | h
  · simp [h, Nat.not_le.mpr h]
  · simp [hi, h, Nat.not_lt.mpr h]
theorem b_ushr (n : Nat) (hn : n < 32) (x : Int32) (i : Nat) : bt ((x.toUInt32 >>> ((nI n).toUInt32 &&& Int32.toUInt32 31)).toInt32) i = bt x (n + i) := by
  show (x.toUInt32 >>> ((nI n).toUInt32 &&& Int32.toUInt32 31)).toBitVec.getLsbD i = x.toUInt32.toBitVec.getLsbD (n + i)
  rw [UInt32.toBitVec_shiftRight]
  show (x.toUInt32.toBitVec >>> (((nI n).toUInt32 &&& Int32.toUInt32 31).toBitVec % 32).toNat).getLsbD i = _
  rw [s_u n hn, BitVec.getLsbD_ushiftRight]
theorem b_sshr (n : Nat) (hn : n < 32) (x : Int32) {i : Nat} (hi : i < 32) : bt (x >>> (nI n &&& 31)) i = if n + i < 32 then bt x (n + i) else bt x 31 := by
  unfold bt
  rw [Int32.toBitVec_shiftRight]
  show (x.toBitVec.sshiftRight ((nI n &&& 31).toBitVec.smod 32).toNat).getLsbD i = _
  rw [s_l n hn, BitVec.getLsbD_sshiftRight, BitVec.msb_eq_getLsbD_last]
  simp [hi]
theorem b_shl8 (x : Int32) {i : Nat} (hi : i < 32) : bt (x <<< ((8 : Int32) &&& 31)) i = (decide (8 ≤ i) && bt x (i - 8)) := b_shl 8 (by omega) x hi
theorem b_shl16 (x : Int32) {i : Nat} (hi : i < 32) : bt (x <<< ((16 : Int32) &&& 31)) i = (decide (16 ≤ i) && bt x (i - 16)) := b_shl 16 (by omega) x hi
theorem b_shl24 (x : Int32) {i : Nat} (hi : i < 32) : bt (x <<< ((24 : Int32) &&& 31)) i = (decide (24 ≤ i) && bt x (i - 24)) := b_shl 24 (by omega) x hi
theorem b_sshr8 (x : Int32) {i : Nat} (hi : i < 32) : bt (x >>> ((8 : Int32) &&& 31)) i = if 8 + i < 32 then bt x (8 + i) else bt x 31 := b_sshr 8 (by omega) x hi
/-! ===== nI under and, xor, >>>, one bit, 65535 ===== -/
/-! ===== drawers: more things than places ===== -/
theorem fb_holes : ∀ (m n : Nat) (f : Nat → Nat), (∀ i, i < n → f i < m) → (∀ i j, i < j → j < n → f i ≠ f j) → n ≤ m := by
  intro m
  induction m with
  | zero =>
    intro n f h1 _
    rcases Nat.eq_zero_or_pos n with h | h
    · omega
    · exact absurd (h1 0 h) (Nat.not_lt_zero _)
  | succ m ih =>
    intro n f h1 h2
    by_cases hx : ∃ i, i < n ∧ f i = m
    · obtain ⟨a, ha, hfa⟩ := hx
      have hg := ih (n - 1) (fun i => if i < a then f i else f (i + 1)) (by
        intro i hi
        by_cases q : i < a
        · simp only [if_pos q]
          have b1 := h1 i (by omega)
          have b2 := h2 i a q ha
          omega
        · simp only [if_neg q]
          have b1 := h1 (i + 1) (by omega)
          have b2 := h2 a (i + 1) (by omega) (by omega)
          omega) (by
        intro i j hij hj
        by_cases q : i < a
        · by_cases r : j < a
          · simp only [if_pos q, if_pos r]
            exact h2 i j hij (by omega)
          · simp only [if_pos q, if_neg r]
            exact h2 i (j + 1) (by omega) (by omega)
        · have r : ¬ j < a := by omega
          simp only [if_neg q, if_neg r]
          exact h2 (i + 1) (j + 1) (by omega) (by omega))
      omega
    · have hg := ih n f (fun i hi => by
        have b1 := h1 i hi
        have b2 : f i ≠ m := fun e => hx ⟨i, hi, e⟩
        omega) h2
      omega
/-- two of them in one place -/
theorem fb_twice {m n : Nat} {f : Nat → Nat} (h : ∀ i, i < n → f i < m) (hm : m < n) : ∃ i j, i < j ∧ j < n ∧ f i = f j := by
  refine Classical.byContradiction fun hx => ?_
  have := fb_holes m n f h (fun i j hij hj e => hx ⟨i, j, hij, hj, e⟩)
  omega
/-- as many as places, none twice: each place is taken -/
theorem fb_onto {n : Nat} {f : Nat → Nat} (h : ∀ i, i < n → f i < n) (h2 : ∀ i j, i < j → j < n → f i ≠ f j) {y : Nat} (hy : y < n) : ∃ i, i < n ∧ f i = y := by
  refine Classical.byContradiction fun hx => ?_
  have hne : ∀ i, i < n → f i ≠ y := fun i hi e => hx ⟨i, hi, e⟩
  have := fb_holes (n - 1) n (fun i => if f i < y then f i else f i - 1) (by
    intro i hi
    have b1 := h i hi
    have b2 := hne i hi
    by_cases q : f i < y
    · simp only [if_pos q]; omega
    · simp only [if_neg q]; omega) (by
    intro i j hij hj
    have b1 := hne i (by omega)
    have b2 := hne j hj
    have b3 := h2 i j hij hj
    by_cases q : f i < y
    · by_cases r : f j < y
      · simp only [if_pos q, if_pos r]; exact b3
      · simp only [if_pos q, if_neg r]; omega
    · by_cases r : f j < y
      · simp only [if_neg q, if_pos r]; omega
      · simp only [if_neg q, if_neg r]; omega)
  omega
/-! ===== how many places have a property ===== -/
def fb_ct (p : Nat → Bool) : Nat → Nat
  | 0 => 0
  | n + 1 => fb_ct p n + (if p n then 1 else 0)
theorem fb_ct_succ (p : Nat → Bool) (n : Nat) : fb_ct p (n + 1) = fb_ct p n + (if p n then 1 else 0) := rfl
theorem fb_ct_le (p : Nat → Bool) : ∀ n, fb_ct p n ≤ n
  | 0 => Nat.le_refl _
  | n + 1 => by
    have h := fb_ct_le p n
    rw [fb_ct_succ]
    split <;> omega
theorem fb_ct_step (p : Nat → Bool) (m : Nat) : ∀ n, fb_ct p m ≤ fb_ct p (m + n)
  | 0 => Nat.le_refl _
  | n + 1 => by
    have h := fb_ct_step p m n
    show fb_ct p m ≤ fb_ct p (m + n + 1)
    rw [fb_ct_succ]
    omega
theorem fb_ct_mono (p : Nat → Bool) {m n : Nat} (h : m ≤ n) : fb_ct p m ≤ fb_ct p n := by
  have := fb_ct_step p m (n - m)
  rwa [Nat.add_sub_cancel' h] at this
theorem fb_ct_cong {p q : Nat → Bool} : ∀ {n : Nat}, (∀ k, k < n → p k = q k) → fb_ct p n = fb_ct q n
  | 0, _ => rfl
  | n + 1, h => by
    rw [fb_ct_succ, fb_ct_succ, fb_ct_cong (fun k hk => h k (by omega)), h n (by omega)]
/-- one place changed -/
theorem fb_ct_out (p : Nat → Bool) (b : Bool) {i n : Nat} (h : n ≤ i) : fb_ct (fun k => if k = i then b else p k) n = fb_ct p n :=
  fb_ct_cong fun k hk => if_neg (by omega)
theorem fb_ct_upd (p : Nat → Bool) (b : Bool) {i : Nat} : ∀ {n : Nat}, i < n → fb_ct (fun k => if k = i then b else p k) n + (if p i then 1 else 0) = fb_ct p n + (if b then 1 else 0)
  | 0, h => absurd h (Nat.not_lt_zero i)
  | n + 1, h => by
    rw [fb_ct_succ, fb_ct_succ]
    rcases Nat.lt_or_ge i n with q | q
    · have := fb_ct_upd p b q
      have e : (if n = i then b else p n) = p n := if_neg (by omega)
      rw [e]
      omega
    · have e : i = n := by omega
      subst e
      rw [fb_ct_out p b (Nat.le_refl _)]
      simp only [if_true]
      omega
theorem fb_ct_sub {p q : Nat → Bool} : ∀ {n : Nat}, (∀ k, k < n → p k = true → q k = true) → fb_ct p n ≤ fb_ct q n
  | 0, _ => Nat.le_refl _
  | n + 1, h => by
    have h1 := fb_ct_sub (n := n) (p := p) (q := q) (fun k hk => h k (by omega))
    have h2 := h n (by omega)
    rw [fb_ct_succ, fb_ct_succ]
    cases hp : p n <;> cases hq : q n <;> simp_all <;> omega
theorem fb_ct_or {p q : Nat → Bool} : ∀ {n : Nat}, (∀ k, k < n → ¬ (p k = true ∧ q k = true)) → fb_ct (fun k => p k || q k) n = fb_ct p n + fb_ct q n
  | 0, _ => rfl
  | n + 1, h => by
    have h1 := fb_ct_or (n := n) (p := p) (q := q) (fun k hk => h k (by omega))
    have h2 := h n (by omega)
    rw [fb_ct_succ, fb_ct_succ, fb_ct_succ, h1]
    cases hp : p n <;> cases hq : q n <;> simp_all <;> omega
theorem fb_ct_not (p : Nat → Bool) : ∀ n, fb_ct p n + fb_ct (fun k => !p k) n = n
  | 0 => rfl
  | n + 1 => by
    have h := fb_ct_not p n
    rw [fb_ct_succ, fb_ct_succ]
    cases p n <;> simp <;> omega
theorem fb_ct_split (p : Nat → Bool) (m : Nat) : ∀ n, fb_ct p (m + n) = fb_ct p m + fb_ct (fun k => p (m + k)) n
  | 0 => rfl
  | n + 1 => by
    have h := fb_ct_split p m n
    show fb_ct p (m + n + 1) = _
    rw [fb_ct_succ, fb_ct_succ, h, Nat.add_assoc]
theorem fb_ct_zero {p : Nat → Bool} : ∀ {n : Nat}, fb_ct p n = 0 ↔ ∀ k, k < n → p k = false
  | 0 => ⟨fun _ k hk => absurd hk (Nat.not_lt_zero k), fun _ => rfl⟩
  | n + 1 => by
    have h := fb_ct_zero (p := p) (n := n)
    rw [fb_ct_succ]
    constructor
    · intro e k hk
      have e1 : fb_ct p n = 0 := by omega
      rcases Nat.lt_or_ge k n with q | q
      · exact h.mp e1 k q
      · have ek : k = n := by omega
        subst ek
        cases hp : p k
        · rfl
        · simp [hp] at e
    · intro a
      rw [h.mpr (fun k hk => a k (by omega)), a n (by omega)]
      rfl
theorem fb_ct_pos {p : Nat → Bool} {n : Nat} : 0 < fb_ct p n ↔ ∃ k, k < n ∧ p k = true := by
  constructor
  · intro h
    refine Classical.byContradiction fun hx => ?_
    have := fb_ct_zero.mpr (fun k hk => by
      cases hp : p k
      · rfl
      · exact absurd ⟨k, hk, hp⟩ hx : ∀ k, k < n → p k = false)
    omega
  · rintro ⟨k, hk, hp⟩
    rcases Nat.eq_zero_or_pos (fb_ct p n) with e | e
    · have := fb_ct_zero.mp e k hk
      rw [this] at hp
      cases hp
    · exact e
theorem fb_ct_all {p : Nat → Bool} {n : Nat} : fb_ct p n = n ↔ ∀ k, k < n → p k = true := by
  have h := fb_ct_not p n
  constructor
  · intro e k hk
    have z : fb_ct (fun k => !p k) n = 0 := by omega
    have := fb_ct_zero.mp z k hk
    cases hp : p k
    · simp [hp] at this
    · rfl
  · intro a
    have z : fb_ct (fun k => !p k) n = 0 := fb_ct_zero.mpr (fun k hk => by simp [a k hk])
    omega
/-- the k-th place with the property -/
theorem fb_ct_kth {p : Nat → Bool} {k : Nat} : ∀ {n : Nat}, k < fb_ct p n → ∃ i, i < n ∧ p i = true ∧ fb_ct p i = k
  | 0, h => absurd h (Nat.not_lt_zero k)
  | n + 1, h => by
    rcases Nat.lt_or_ge k (fb_ct p n) with q | q
    · obtain ⟨i, h1, h2⟩ := fb_ct_kth q
      exact ⟨i, by omega, h2⟩
    · rw [fb_ct_succ] at h
      cases hp : p n
      · simp [hp] at h; omega
      · simp [hp] at h
        exact ⟨n, by omega, hp, by omega⟩
theorem fb_ct_kth_one {p : Nat → Bool} {i j : Nat} (hi : p i = true) (hj : p j = true) (e : fb_ct p i = fb_ct p j) : i = j := by
  have key : ∀ a b : Nat, a < b → p a = true → fb_ct p a < fb_ct p b := by
    intro a b hab ha
    have h := fb_ct_mono p (show a + 1 ≤ b from hab)
    rw [fb_ct_succ, ha] at h
    simp at h
    omega
  rcases Nat.lt_trichotomy i j with q | q | q
  · have := key i j q hi; omega
  · exact q
  · have := key j i q hj; omega
/-! ===== the least, the first, the best so far; that there is one alone ===== -/
theorem fb_first {p : Nat → Prop} [DecidablePred p] : ∀ {n : Nat}, (∃ i, i < n ∧ p i) → ∃ i, i < n ∧ p i ∧ ∀ j, j < i → ¬ p j
  | 0, h => by obtain ⟨i, hi, -⟩ := h; exact absurd hi (Nat.not_lt_zero i)
  | n + 1, h => by
    by_cases q : ∃ i, i < n ∧ p i
    · obtain ⟨i, h1, h2⟩ := fb_first q
      exact ⟨i, by omega, h2⟩
    · obtain ⟨i, h1, h2⟩ := h
      have e : i = n := by
        rcases Nat.lt_or_ge i n with r | r
        · exact absurd ⟨i, r, h2⟩ q
        · omega
      subst e
      exact ⟨i, by omega, h2, fun j hj hp => q ⟨j, hj, hp⟩⟩
theorem fb_first_one {p : Nat → Prop} {i j : Nat} (hi : p i) (hi2 : ∀ k, k < i → ¬ p k) (hj : p j) (hj2 : ∀ k, k < j → ¬ p k) : i = j := by
  rcases Nat.lt_trichotomy i j with q | q | q
  · exact absurd hi (hj2 i q)
  · exact q
  · exact absurd hj (hi2 j q)
theorem fb_last {p : Nat → Prop} [DecidablePred p] : ∀ {n : Nat}, (∃ i, i < n ∧ p i) → ∃ i, i < n ∧ p i ∧ ∀ j, i < j → j < n → ¬ p j
  | 0, h => by obtain ⟨i, hi, -⟩ := h; exact absurd hi (Nat.not_lt_zero i)
  | n + 1, h => by
    by_cases q : p n
    · exact ⟨n, by omega, q, fun j h1 h2 => by omega⟩
    · obtain ⟨i, h1, h2⟩ := h
      have hi : i < n := by
        rcases Nat.lt_or_ge i n with r | r
        · exact r
        · have e : i = n := by omega
          subst e
          exact absurd h2 q
      obtain ⟨i2, a1, a2, a3⟩ := fb_last (n := n) ⟨i, hi, h2⟩
      refine ⟨i2, by omega, a2, fun j b1 b2 => ?_⟩
      rcases Nat.lt_or_ge j n with r | r
      · exact a3 j b1 r
      · have e : j = n := by omega
        subst e
        exact q
/-- the first greatest -/
theorem fb_best (f : Nat → Int) : ∀ {n : Nat}, 0 < n → ∃ i, i < n ∧ (∀ j, j < n → f j ≤ f i) ∧ ∀ j, j < i → f j < f i
  | 0, h => absurd h (Nat.lt_irrefl 0)
  | 1, _ => ⟨0, by omega, fun j hj => by have e : j = 0 := by omega
                                         subst e; exact Int.le_refl _, fun j hj => absurd hj (Nat.not_lt_zero j)⟩
  | n + 2, _ => by
    obtain ⟨i, h1, h2, h3⟩ := fb_best f (n := n + 1) (by omega)
    by_cases q : f i < f (n + 1)
    · refine ⟨n + 1, by omega, fun j hj => ?_, fun j hj => ?_⟩
      · rcases Nat.lt_or_ge j (n + 1) with r | r
        · have := h2 j r; omega
        · have e : j = n + 1 := by omega
          subst e; exact Int.le_refl _
      · have := h2 j hj; omega
    · refine ⟨i, by omega, fun j hj => ?_, h3⟩
      rcases Nat.lt_or_ge j (n + 1) with r | r
      · exact h2 j r
      · have e : j = n + 1 := by omega
        subst e; omega
theorem fb_best_one {f : Nat → Int} {n i j : Nat} (hi : i < n) (hi2 : ∀ k, k < n → f k ≤ f i) (hi3 : ∀ k, k < i → f k < f i) (hj : j < n) (hj2 : ∀ k, k < n → f k ≤ f j) (hj3 : ∀ k, k < j → f k < f j) : i = j := by
  rcases Nat.lt_trichotomy i j with q | q | q
  · have a := hj3 i q
    have b := hi2 j hj
    omega
  · exact q
  · have a := hi3 j q
    have b := hj2 i hi
    omega
/-- the first least -/
theorem fb_low (f : Nat → Int) {n : Nat} (h : 0 < n) : ∃ i, i < n ∧ (∀ j, j < n → f i ≤ f j) ∧ ∀ j, j < i → f i < f j := by
  obtain ⟨i, h1, h2, h3⟩ := fb_best (fun k => -f k) h
  exact ⟨i, h1, fun j hj => by have := h2 j hj; omega, fun j hj => by have := h3 j hj; omega⟩
/-! ===== signed ints as whole numbers, within bounds ===== -/
theorem fb_rng (x : Int32) : -2147483648 ≤ x.toInt ∧ x.toInt < 2147483648 := by
  have h1 := Int32.le_toInt x
  have h2 := Int32.toInt_lt x
  omega
theorem fb_bmod {z : Int} (h1 : -2147483648 ≤ z) (h2 : z < 2147483648) : z.bmod (2 ^ 32) = z := by
  rw [Int.bmod_eq_of_le (by omega) (by omega)]
theorem fb_addI {x y : Int32} (h1 : -2147483648 ≤ x.toInt + y.toInt) (h2 : x.toInt + y.toInt < 2147483648) : (x + y).toInt = x.toInt + y.toInt := by
  rw [Int32.toInt_add, fb_bmod h1 h2]
theorem fb_subI {x y : Int32} (h1 : -2147483648 ≤ x.toInt - y.toInt) (h2 : x.toInt - y.toInt < 2147483648) : (x - y).toInt = x.toInt - y.toInt := by
  rw [Int32.toInt_sub, fb_bmod h1 h2]
theorem fb_mulI {x y : Int32} (h1 : -2147483648 ≤ x.toInt * y.toInt) (h2 : x.toInt * y.toInt < 2147483648) : (x * y).toInt = x.toInt * y.toInt := by
  rw [Int32.toInt_mul, fb_bmod h1 h2]
theorem fb_negI {x : Int32} (h : x.toInt ≠ -2147483648) : (-x).toInt = -x.toInt := by
  have := fb_rng x
  rw [Int32.toInt_neg, fb_bmod (by omega) (by omega)]
theorem fb_ofI {z : Int} (h1 : -2147483648 ≤ z) (h2 : z < 2147483648) : (Int32.ofInt z).toInt = z := by
  rw [Int32.toInt_ofInt, fb_bmod h1 h2]
theorem fb_asI (x : Int32) : Int32.ofInt x.toInt = x := Int32.ofInt_toInt x
theorem fa_lt (a b : Int32) : a < b ↔ a.toInt < b.toInt := Int32.lt_iff_toInt_lt
theorem fa_le (a b : Int32) : a ≤ b ↔ a.toInt ≤ b.toInt := Int32.le_iff_toInt_le
theorem fa_eq (a b : Int32) : a = b ↔ a.toInt = b.toInt := Int32.toInt_inj.symm
theorem fa_lt64 (a b : Int64) : a < b ↔ a.toInt < b.toInt := Int64.lt_iff_toInt_lt
theorem fa_le64 (a b : Int64) : a ≤ b ↔ a.toInt ≤ b.toInt := Int64.le_iff_toInt_le
theorem fa_eq64 (a b : Int64) : a = b ↔ a.toInt = b.toInt := Int64.toInt_inj.symm
end
section
/-! ===== L3: numbers, loops ===== -/
theorem w_int {n : Nat} (h : n < 2147483648) : (nI n).toInt = n := Int32.toInt_ofNat_of_lt h
theorem w_nat {n : Nat} (h : n < 2147483648) : (nI n).toNatClampNeg = n := Int32.toNatClampNeg_ofNat_of_lt h
theorem w_lt {a b : Nat} (ha : a < 2147483648) (hb : b < 2147483648) : (nI a < nI b) ↔ a < b := by
  rw [Int32.lt_iff_toInt_lt, w_int ha, w_int hb]; omega
theorem w_le {a b : Nat} (ha : a < 2147483648) (hb : b < 2147483648) : (nI a ≤ nI b) ↔ a ≤ b := by
  rw [Int32.le_iff_toInt_le, w_int ha, w_int hb]; omega
theorem w_eq {a b : Nat} (ha : a < 2147483648) (hb : b < 2147483648) : (nI a = nI b) ↔ a = b := by
  constructor
  · intro h
    have := congrArg Int32.toInt h
    rw [w_int ha, w_int hb] at this; omega
  · intro h; rw [h]
theorem w_add (a b : Nat) : nI a + nI b = nI (a + b) := (Int32.ofNat_add a b).symm
theorem w_succ (a : Nat) : nI a + 1 = nI (a + 1) := w_add a 1
theorem w_mul (a b : Nat) : nI a * nI b = nI (a * b) := (Int32.ofNat_mul a b).symm
theorem w_sub {a b : Nat} (h : b ≤ a) : nI a - nI b = nI (a - b) := by
  have h2 : nI (a - b) + nI b = nI a := by rw [w_add]; congr 1; omega
  rw [← h2]; exact Int32.add_sub_cancel _ _
theorem w_pred (a : Nat) : nI (a + 1) - 1 = nI a := by
  have := w_sub (a := a + 1) (b := 1) (by omega); exact this
theorem w_inj {x : Int32} (h0 : 0 ≤ x.toInt) : x = nI x.toInt.toNat := by
  apply Int32.toInt_inj.mp
  have h1 : x.toInt < 2147483648 := Int32.toInt_lt x
  rw [w_int (by omega)]; omega
theorem chk_nI {α : Type} {i n : Nat} {k : Option α} (h : i < n) (hn : n < 2147483648) : chk (nI i) n k = k := by
  unfold chk inb
  rw [w_int (by omega)]
  rw [if_pos]
  simp only [Bool.and_eq_true, decide_eq_true_eq]; omega
theorem chk0 {α : Type} {k : Option α} : chk 0 1 k = k := chk_nI (i := 0) (n := 1) (by omega) (by omega)
theorem idx_cases (a : Int32) (A : Nat) : (a.toInt < 0 ∨ (A : Int) ≤ a.toInt) ∨ ∃ j, j < A ∧ a = nI j := by
  rcases Int.lt_or_le a.toInt 0 with h | h
  · exact Or.inl (Or.inl h)
  rcases Int.lt_or_le a.toInt A with h2 | h2
  · exact Or.inr ⟨a.toInt.toNat, by omega, w_inj h⟩
  · exact Or.inl (Or.inr h2)
theorem gnz0 {α : Type} {k : Option α} : gn .boolean 0 k = k := by
  unfold gn; rw [if_pos]; rfl
theorem gnz1 {α : Type} {k : Option α} : gn .boolean 1 k = k := by
  unfold gn; rw [if_pos]; rfl
theorem narc {c : Nat} (h : c < 65536) : vp_nar .char (nI c) = nI c := by
  show ((nI c).toUInt32 % 65536).toInt32 = nI c
  apply Int32.toBitVec_inj.mp
  apply BitVec.eq_of_toNat_eq
  have e : (nI c).toBitVec.toNat = c := by
    show (BitVec.ofNat 32 c).toNat = c
    rw [BitVec.toNat_ofNat]; omega
  show (((nI c).toBitVec % 65536#32)).toNat = _
  rw [BitVec.toNat_umod, e]
  simp; omega
theorem gnc {α : Type} {c : Nat} {k : Option α} (h : c < 65536) : gn .char (nI c) k = k := by
  unfold gn; rw [if_pos (narc h)]
/-- a fold over [i, i+m) -/
def fo {α : Type} (g : Nat → α → α) : Nat → Nat → α → α
  | _, 0, a => a
  | i, m + 1, a => fo g (i + 1) m (g i a)
theorem fo_congr {α : Type} {g h : Nat → α → α} : ∀ (m i : Nat) (a : α), (∀ q, i ≤ q → q < i + m → ∀ b, g q b = h q b) → fo g i m a = fo h i m a
  | 0, _, _, _ => rfl
  | m + 1, i, a, hh => by
    unfold fo
    rw [hh i (by omega) (by omega)]
    exact fo_congr m (i + 1) _ (fun q h1 h2 b => hh q (by omega) (by omega) b)
theorem fo_id {α : Type} {g : Nat → α → α} : ∀ (m i : Nat) (a : α), (∀ q, i ≤ q → q < i + m → ∀ b, g q b = b) → fo g i m a = a
  | 0, _, _, _ => rfl
  | m + 1, i, a, hh => by
    unfold fo
    rw [hh i (by omega) (by omega)]
    exact fo_id m (i + 1) _ (fun q h1 h2 b => hh q (by omega) (by omega) b)
theorem fo_add {α : Type} {g : Nat → α → α} : ∀ (m n i : Nat) (a : α), fo g i (m + n) a = fo g (i + m) n (fo g i m a)
  | 0, n, i, a => by simp [fo]
  | m + 1, n, i, a => by
    have e : m + 1 + n = (m + n) + 1 := by omega
    rw [e]
    show fo g (i + 1) (m + n) (g i a) = _
    rw [fo_add m n (i + 1)]
    have e2 : i + 1 + m = i + (m + 1) := by omega
    rw [e2]
    rfl
theorem fo_succ {α : Type} {g : Nat → α → α} (m i : Nat) (a : α) : fo g i (m + 1) a = g (i + m) (fo g i m a) := by
  rw [fo_add m 1]; rfl
/-- an invariant of a fold -/
theorem fo_inv {α : Type} {g : Nat → α → α} (I : Nat → α → Prop) : ∀ (m i : Nat) (a : α), I i a → (∀ q b, i ≤ q → q < i + m → I q b → I (q + 1) (g q b)) → I (i + m) (fo g i m a)
  | 0, i, a, h, _ => h
  | m + 1, i, a, h, hs => by
    have e : i + (m + 1) = (i + 1) + m := by omega
    rw [e]
    exact fo_inv I m (i + 1) _ (hs i a (by omega) (by omega) h) (fun q b h1 h2 => hs q b (by omega) (by omega))
/-- a relation of two folds -/
theorem fo_rel {α β : Type} {g : Nat → α → α} {h : Nat → β → β} (I : Nat → α → β → Prop) : ∀ (m i : Nat) (a : α) (b : β), I i a b → (∀ q a b, i ≤ q → q < i + m → I q a b → I (q + 1) (g q a) (h q b)) → I (i + m) (fo g i m a) (fo h i m b)
  | 0, i, a, b, hI, _ => hI
  | m + 1, i, a, b, hI, hs => by
    have e : i + (m + 1) = (i + 1) + m := by omega
    rw [e]
    exact fo_rel I m (i + 1) _ _ (hs i a b (by omega) (by omega) hI) (fun q a b h1 h2 => hs q a b (by omega) (by omega))
/-- a loop that counts up and never leaves early -/
theorem up_loop {σ ρ : Type} (F : Nat → Int32 → σ → Option ρ) (P : Nat) (K : σ → Option ρ) (g : Nat → σ → σ) (I : Nat → σ → Prop)
    (h0 : ∀ n s, I P s → F (n + 1) (nI P) s = K s)
    (h1 : ∀ n i s, i < P → I i s → F (n + 1) (nI i) s = F n (nI (i + 1)) (g i s) ∧ I (i + 1) (g i s)) :
    ∀ (m n i : Nat) (s : σ), i + m = P → m < n → I i s → F n (nI i) s = K (fo g i m s) ∧ I P (fo g i m s)
  | 0, 0, _, _, _, h, _ => by omega
  | 0, n + 1, i, s, he, _, hI => by
    have : i = P := by omega
    subst this
    exact ⟨h0 n s hI, hI⟩
  | m + 1, 0, _, _, _, h, _ => by omega
  | m + 1, n + 1, i, s, he, hn, hI => by
    obtain ⟨e, hI2⟩ := h1 n i s (by omega) hI
    rw [e]
    exact up_loop F P K g I h0 h1 m n (i + 1) (g i s) (by omega) (by omega) hI2
theorem up_loop' {σ ρ : Type} (F : Nat → Int32 → σ → Option ρ) (P : Nat) (K : σ → Option ρ) (g : Nat → σ → σ)
    (h0 : ∀ n s, F (n + 1) (nI P) s = K s)
    (h1 : ∀ n i s, i < P → F (n + 1) (nI i) s = F n (nI (i + 1)) (g i s))
    (m n i : Nat) (s : σ) (he : i + m = P) (hn : m < n) : F n (nI i) s = K (fo g i m s) :=
  (up_loop F P K g (fun _ _ => True) (fun n s _ => h0 n s) (fun n i s hi _ => ⟨h1 n i s hi, trivial⟩) m n i s he hn trivial).1
/-- the first of [i, P) that has p, or P -/
def fst1 (p : Nat → Bool) : Nat → Nat → Nat
  | i, 0 => i
  | i, m + 1 => if p i = true then i else fst1 p (i + 1) m
theorem fst1_ge {p : Nat → Bool} : ∀ (m i : Nat), i ≤ fst1 p i m
  | 0, i => Nat.le_refl i
  | m + 1, i => by
    unfold fst1
    by_cases h : p i = true
    · rw [if_pos h]; exact Nat.le_refl i
    · rw [if_neg h]; exact Nat.le_trans (by omega) (fst1_ge m (i + 1))
theorem fst1_le {p : Nat → Bool} : ∀ (m i : Nat), fst1 p i m ≤ i + m
  | 0, i => Nat.le_refl i
  | m + 1, i => by
    unfold fst1
    by_cases h : p i = true
    · rw [if_pos h]; omega
    · rw [if_neg h]; have := fst1_le (p := p) m (i + 1); omega
theorem fst1_no {p : Nat → Bool} : ∀ (m i q : Nat), i ≤ q → q < fst1 p i m → p q = false
  | 0, i, q, h1, h2 => by simp only [fst1] at h2; omega
  | m + 1, i, q, h1, h2 => by
    unfold fst1 at h2
    by_cases h : p i = true
    · rw [if_pos h] at h2; omega
    · rw [if_neg h] at h2
      rcases Nat.eq_or_lt_of_le h1 with e | e
      · subst e; simpa using h
      · exact fst1_no m (i + 1) q (by omega) h2
theorem fst1_yes {p : Nat → Bool} : ∀ (m i : Nat), fst1 p i m < i + m → p (fst1 p i m) = true
  | 0, i, h => by simp only [fst1] at h; omega
  | m + 1, i, h => by
    unfold fst1 at h ⊢
    by_cases h2 : p i = true
    · rw [if_pos h2]; exact h2
    · rw [if_neg h2] at h ⊢
      exact fst1_yes m (i + 1) (by omega)
/-- a loop that counts up and leaves at the first hit -/
theorem find_loop {ρ : Type} (F : Nat → Int32 → Option ρ) (P : Nat) (K : Nat → Option ρ) (p : Nat → Bool)
    (h0 : ∀ n, F (n + 1) (nI P) = K P)
    (h1 : ∀ n i, i < P → F (n + 1) (nI i) = if p i = true then K i else F n (nI (i + 1))) :
    ∀ (m n i : Nat), i + m = P → m < n → F n (nI i) = K (fst1 p i m)
  | 0, 0, _, _, h => by omega
  | 0, n + 1, i, he, _ => by
    have : i = P := by omega
    subst this
    exact h0 n
  | m + 1, 0, _, _, h => by omega
  | m + 1, n + 1, i, he, hn => by
    rw [h1 n i (by omega)]
    unfold fst1
    by_cases h : p i = true
    · rw [if_pos h, if_pos h]
    · rw [if_neg h, if_neg h]
      exact find_loop F P K p h0 h1 m n (i + 1) (by omega) (by omega)
end
section
/-! ===== L3: bits of a set ===== -/
theorem b_1 (i : Nat) : bt 1 i = decide (i = 0) := by
  rcases Nat.lt_or_ge i 32 with h | h
  · revert i; decide +kernel
  · rw [b_big h]; symm; rw [decide_eq_false_iff_not]; omega
theorem b_one {i j : Nat} (hi : i < 32) (hj : j < 32) : bt ((1 : Int32) <<< (nI i &&& 31)) j = decide (j = i) := by
  rw [b_shl i hi 1 hj, b_1]
  by_cases h : j = i
  · subst h; simp
  · have : ¬ (i ≤ j ∧ j - i = 0) := by omega
    simp only [h, decide_false, Bool.and_eq_false_iff, decide_eq_false_iff_not]; omega
theorem and1 (x : Int32) : x &&& 1 = if bt x 0 = true then 1 else 0 := by
  apply b_ext
  intro i hi
  rw [b_and, b_1]
  by_cases h : bt x 0 = true
  · rw [if_pos h, b_1]
    by_cases h2 : i = 0
    · subst h2; simp [h]
    · simp [h2]
  · rw [if_neg h, b_0]
    by_cases h2 : i = 0
    · subst h2; simp at h; simp [h]
    · simp [h2]
theorem shr_and1 (x : Int32) {i : Nat} (hi : i < 32) : (x >>> (nI i &&& 31)) &&& 1 = if bt x i = true then 1 else 0 := by
  rw [and1, b_sshr i hi x (by omega), if_pos (show i + 0 < 32 by omega)]; rfl
def b2 (b : Bool) : Int32 := if b = true then 1 else 0
theorem b2_t : b2 true = 1 := rfl
theorem b2_f : b2 false = 0 := rfl
theorem b2_0 {b : Bool} : b2 b = 0 ↔ b = false := by cases b <;> simp [b2]
theorem hasBit_eq (x : Int32) {i : Nat} (hi : i < 32) : f_X7_hasBit x (nI i) = some (b2 (bt x i)) := by
  unfold f_X7_hasBit
  rw [shr_and1 x hi]
  cases h : bt x i <;> simp [b2]
theorem has_eq (x : Int32) {i : Nat} (hi : i < 32) : f_X8_has x (nI i) = some (b2 (bt x i)) := by
  unfold f_X8_has
  rw [shr_and1 x hi]
  cases h : bt x i <;> simp [b2]
/-- bit i set to b -/
def sb (x : Int32) (i : Nat) (b : Bool) : Int32 := if b = true then x ||| ((1 : Int32) <<< (nI i &&& 31)) else x &&& (((1 : Int32) <<< (nI i &&& 31)) ^^^ (-1))
theorem bt_sb (x : Int32) {i j : Nat} (b : Bool) (hi : i < 32) (hj : j < 32) : bt (sb x i b) j = if j = i then b else bt x j := by
  unfold sb
  cases b
  · rw [if_neg (by simp), b_and, b_xor, b_one hi hj, b_m1 j hj]
    by_cases h : j = i <;> simp [h]
  · rw [if_pos rfl, b_or, b_one hi hj]
    by_cases h : j = i <;> simp [h]
theorem withBit_eq (x : Int32) (i : Nat) (v : Int32) : f_X7_withBit x (nI i) v = some (sb x i (decide (v ≠ 0))) := by
  unfold f_X7_withBit sb
  by_cases h : v = 0 <;> simp [h]
theorem with_eq (x : Int32) (i : Nat) (v : Int32) : f_X8_with x (nI i) v = some (sb x i (decide (v ≠ 0))) := by
  unfold f_X8_with sb
  by_cases h : v = 0 <;> simp [h]
theorem withBit1 (x : Int32) (i : Nat) : f_X7_withBit x (nI i) 1 = some (sb x i true) := by rw [withBit_eq]; rfl
theorem with1 (x : Int32) (i : Nat) : f_X8_with x (nI i) 1 = some (sb x i true) := by rw [with_eq]; rfl
theorem gnb {α : Type} {b : Bool} {k : Option α} : gn .boolean (b2 b) k = k := by cases b <;> first | exact gnz0 | exact gnz1
end
section
/-! ===== L3: what a value is, what a condition says: words over the payments up to p ===== -/
/-- payer, receiver, amount, minute, receiver's country, payer's opening -/
def dat (ν : Mm) : Nat → Nat → Int32
  | 0, q => ν 3 q
  | 1, q => ν 4 q
  | 2, q => ν 5 q
  | 3, q => ν 6 q
  | 4, q => ν 1 (ν 4 q).toNatClampNeg
  | 5, q => ν 2 (ν 3 q).toNatClampNeg
  | _, _ => 0
def cut (ν : Mm) (p : Nat) : Nat → Nat → Int32 := fun k q => if q ≤ p then dat ν k q else 0
def inW (x : Nat → Nat → Int32) (w : Int32) (p q : Nat) : Bool := decide (x 3 p - w < x 3 q)
def lo (x : Nat → Nat → Int32) (w : Int32) (p : Nat) : Nat := fst1 (inW x w p) 0 (p + 1)
def ntS (x : Nat → Nat → Int32) (q : Nat) (s : Mm) : Mm :=
  let a := (x 0 q).toNatClampNeg
  let b := (x 1 q).toNatClampNeg
  let s1 := up2 s 11 a (sb (s 11 a) b true)
  let s2 := up2 s1 12 a (sb (s1 12 a) b true)
  up2 s2 12 b (sb (s2 12 b) a true)
/-- who paid whom, who is linked to whom, by the payments of [i, i+m) -/
def nt (x : Nat → Nat → Int32) (i m : Nat) : Mm := fo (ntS x) i m (fun _ _ => 0)
def pop (x : Int32) : Nat := fb_ct (fun i => bt x i) 32
def recS (x : Nat → Nat → Int32) (a : Int32) (q : Nat) (s : Int32) : Int32 := if x 0 q = a then sb s (x 1 q).toNatClampNeg true else s
def cnyS (x : Nat → Nat → Int32) (a : Int32) (q : Nat) (s : Int32) : Int32 := if x 0 q = a then sb s ((x 4 q).toNatClampNeg - 97) true else s
def sumS (x : Nat → Nat → Int32) (k : Nat) (a : Int32) (q : Nat) (s : Int32) : Int32 := if x k q = a then s + x 2 q else s
def cntS (x : Nat → Nat → Int32) (a l h : Int32) (q : Nat) (s : Int32) : Int32 := if x 0 q = a then (if x 2 q < l then s else if h < x 2 q then s else s + 1) else s
def maxS (x : Nat → Nat → Int32) (a : Int32) (q : Nat) (s : Int32) : Int32 := if x 0 q = a then (if x 2 q ≤ s then s else x 2 q) else s
def sameP (x : Nat → Nat → Int32) (p q : Nat) : Bool := decide (x 0 q = x 0 p) && decide (x 1 q = x 1 p)
/-- the last of [0, p) that x 0 has in common with p, or 99999 -/
def lastM (x : Nat → Nat → Int32) (p : Nat) : Nat → Int32
  | 0 => 99999
  | m + 1 => if x 0 m = x 0 p then x 3 p - x 3 m else lastM x p m
def V (x : Nat → Nat → Int32) (f w : Int32) (mk : Int32) (p : Nat) : Int32 :=
  let i := lo x w p
  let m := p + 1 - i
  if f = 97 then x 3 p - x 5 p
  else if f = 99 then nI (pop (fo (cnyS x (x 0 p)) i m 0))
  else if f = 100 then (f_X5_leastLinks (x 1 p) mk 99 (nt x i m)).getD 0
  else if f = 102 then (if fst1 (sameP x p) 0 p = p then 1 else 0)
  else if f = 103 then (f_X5_groupSize (x 0 p) (nt x i m)).getD 0
  else if f = 105 then fo (sumS x 1 (x 0 p)) i m 0
  else if f = 108 then fo (cntS x (x 0 p) 900 999) i m 0
  else if f = 109 then fo (maxS x (x 0 p)) i m 0
  else if f = 110 then fo (cntS x (x 0 p) 1 9999) i m 0
  else if f = 113 then lastM x p p
  else if f = 114 then nI (pop (fo (recS x (x 0 p)) i m 0))
  else if f = 115 then fo (sumS x 0 (x 0 p)) i m 0
  else (match f_X5_shortestWay (x 1 p) (x 0 p) (nt x i m) with
    | some r => if r = -1 then 0 else 1 + r
    | none => 0)
def tst (ν : Mm) (c : Nat) (v : Int32) : Bool := if ν 19 c = 0 then !decide (ν 17 c < v) else !decide (v < ν 17 c)
def VC (ν : Mm) (mk : Int32) (p c : Nat) : Int32 := V (cut ν p) (ν 18 c) (ν 16 c) mk p
def sem (ν : Mm) (mk : Int32) (p : Nat) : Nat → Nat → Bool
  | 0, _ => false
  | d + 1, c => if ν 12 c = 3 then !sem ν mk p d (ν 13 c).toNatClampNeg
    else if ν 12 c = 1 then sem ν mk p d (ν 13 c).toNatClampNeg && sem ν mk p d (ν 14 c).toNatClampNeg
    else if ν 12 c = 2 then sem ν mk p d (ν 13 c).toNatClampNeg || sem ν mk p d (ν 14 c).toNatClampNeg
    else tst ν c (VC ν mk p c)
/-! ===== the relation of the two memories ===== -/
def Acc (A : Nat) (μ ν : Mm) : Prop := A ≤ 20 ∧ μ 2 2 = nI A ∧ ν 0 3 = nI A ∧ μ 2 3 = ν 0 5 ∧ μ 2 4 = ν 0 6 ∧ ∀ j, j < A → μ 3 j = ν 1 j ∧ μ 4 j = ν 2 j ∧ ∃ c, 97 ≤ c ∧ c ≤ 100 ∧ ν 1 j = nI c
def Tim (t T : Nat) (μ ν : Mm) : Prop := T ≤ t ∧ μ 1 3 = nI T ∧ ν 0 4 = nI T ∧ μ 0 4 = ν 0 16
def Led (A T P : Nat) (μ ν : Mm) : Prop := P ≤ 200 ∧ μ 5 4 = nI P ∧ ν 0 15 = nI P ∧ (∀ j, j < P → μ 6 j = ν 3 j ∧ μ 7 j = ν 4 j ∧ μ 8 j = ν 5 j ∧ μ 9 j = ν 6 j ∧ ∃ a b c m, a < A ∧ b < A ∧ (1 ≤ c ∧ a ≠ b) ∧ c ≤ 9999 ∧ m ≤ T ∧ ν 3 j = nI a ∧ ν 4 j = nI b ∧ ν 5 j = nI c ∧ ν 6 j = nI m) ∧ ∀ i j, i ≤ j → j < P → (ν 6 i).toInt ≤ (ν 6 j).toInt
def Kep (T P F : Nat) (μ ν : Mm) : Prop := F ≤ P ∧ μ 1 4 = nI F ∧ (∀ j, j < F → (ν 6 j).toInt + 10080 ≤ T) ∧ ∀ j, F ≤ j → j < P → (T : Int) < (ν 6 j).toInt + 10080
def isF (f : Nat) : Prop := f = 97 ∨ f = 99 ∨ f = 100 ∨ f = 102 ∨ f = 103 ∨ f = 105 ∨ f = 107 ∨ f = 108 ∨ f = 109 ∨ f = 110 ∨ f = 113 ∨ f = 114 ∨ f = 115
/-- condition j's tests, as the component keeps them -/
def lst (μ : Mm) (j : Nat) : List Int32 := (List.range (μ 22 j).toNatClampNeg).map (fun i => μ 23 (8 * j + i))
def Cnd (μ ν : Mm) (j : Nat) : Prop := ∃ k s n, k ≤ 3 ∧ s ≤ 15 ∧ ν 12 j = nI k ∧ μ 14 j = nI k ∧ ν 15 j = nI s ∧ μ 15 j = nI s ∧ μ 22 j = nI n ∧ 2 * n ≤ s + 1 ∧
  (k = 0 → μ 16 j = ν 18 j ∧ μ 17 j = ν 16 j ∧ μ 18 j = ν 19 j ∧ μ 19 j = ν 17 j ∧ s = 1 ∧ lst μ j = [nI j] ∧ ∃ f w, isF f ∧ 1 ≤ w ∧ w ≤ 10080 ∧ ν 18 j = nI f ∧ ν 16 j = nI w) ∧
  (k = 3 → lst μ j = [] ∧ ∃ a s1, a < j ∧ ν 13 j = nI a ∧ μ 20 j = nI a ∧ ν 15 a = nI s1 ∧ s = 1 + s1) ∧
  (k = 1 ∨ k = 2 → ∃ a b s1 s2, a < j ∧ b < j ∧ ν 13 j = nI a ∧ μ 20 j = nI a ∧ ν 14 j = nI b ∧ μ 21 j = nI b ∧ ν 15 a = nI s1 ∧ ν 15 b = nI s2 ∧ s = 1 + s1 + s2 ∧ lst μ j = lst μ a ++ lst μ b)
def Con (C : Nat) (μ ν : Mm) : Prop := C ≤ 30 ∧ μ 13 12 = nI C ∧ ν 0 26 = nI C ∧ (∀ j, j < 30 → ∃ a b, a < 30 ∧ b < 30 ∧ μ 20 j = nI a ∧ μ 21 j = nI b) ∧ (∀ j, C ≤ j → μ 22 j = 0) ∧ ∀ j, j < C → Cnd μ ν j
def Rul (C N : Nat) (μ ν : Mm) : Prop := N ≤ 12 ∧ μ 26 3 = nI N ∧ ν 0 29 = nI N ∧ μ 26 2 = ν 0 30 ∧ (∀ i, N ≤ i → bt (ν 0 30) i = false) ∧ ∀ j, j < N → ∃ c w, c < C ∧ 1 ≤ w ∧ w ≤ 100 ∧ μ 27 j = nI c ∧ ν 20 j = nI c ∧ μ 28 j = nI w ∧ ν 21 j = nI w
def isAl (v : Int32) : Prop := v = 45 ∨ v = 111 ∨ v = 99 ∨ v = 102
def wgS (ν : Mm) (x : Int32) (r : Nat) (s : Int32) : Int32 := if bt x r = true then s + ν 21 r else s
def Cas (P N : Nat) (μ ν : Mm) : Prop := μ 29 5 = nI (fb_ct (fun p => decide (ν 10 p = 111)) P) ∧ ∀ p, p < P → μ 31 p = ν 10 p ∧ isAl (ν 10 p) ∧ μ 30 p = ν 9 p ∧ μ 30 p = fo (wgS ν (μ 32 p)) 0 N 0
def rcN (ν : Mm) (r : Nat) : Nat := (ν 20 r).toNatClampNeg
/-- what was found when payment p was made -/
def Jud1 (C N : Nat) (μ ν : Mm) (p : Nat) : Prop := ∃ k, k ≤ C ∧ (∀ i, N ≤ i → bt (ν 8 p) i = false ∧ bt (μ 32 p) i = false) ∧
  (∀ r, r < N → bt (μ 32 p) r = (bt (ν 8 p) r && sem ν (ν 7 p) p 16 (rcN ν r))) ∧
  (∀ r, r < N → bt (μ 32 p) r = true → rcN ν r < k) ∧
  (∀ c, c < k → bt (μ 33 p) c = sem ν (ν 7 p) p 16 c ∧ (ν 12 c = 0 → μ 34 (30 * p + c) = VC ν (ν 7 p) p c))
def Rx (t A T P F C N : Nat) (μ ν : Mm) : Prop := Acc A μ ν ∧ Tim t T μ ν ∧ Led A T P μ ν ∧ Kep T P F μ ν ∧ Con C μ ν ∧ Rul C N μ ν ∧ Cas P N μ ν ∧ ∀ p, p < P → Jud1 C N μ ν p
def R (t : Nat) (μ ν : Mm) : Prop := t ≤ 800000 ∧ ∃ A T P F C N, Rx t A T P F C N μ ν
theorem R_start : R 0 mu0 nu0 := by
  refine ⟨by omega, 0, 0, 0, 0, 0, 0, ⟨by omega, rfl, rfl, rfl, rfl, fun j hj => by omega⟩, ⟨by omega, rfl, rfl, rfl⟩, ⟨by omega, rfl, rfl, fun j hj => by omega, fun i j _ hj => by omega⟩,
    ⟨by omega, rfl, fun j hj => by omega, fun j _ hj => by omega⟩, ⟨by omega, rfl, rfl, fun j _ => ⟨0, 0, by omega, by omega, rfl, rfl⟩, fun j _ => rfl, fun j hj => by omega⟩,
    ⟨by omega, rfl, rfl, rfl, fun i _ => b_0 i, fun j hj => by omega⟩, ⟨rfl, fun p hp => by omega⟩, fun p hp => by omega⟩
def Res (t : Nat) (c : Int32) (o : Nat → Int64) (w : Int32) (μ ν : Mm) : Prop := ν 0 0 = c ∧ (c = 0 → o 0 = w.toInt64) ∧ R t μ ν
theorem cmp_self (a : Int64) : lg_cmp a a = 0 := by
  unfold lg_cmp
  rw [if_neg (by simp), if_pos rfl]
theorem tail_ok {t : Nat} {c : Int32} {o : Nat → Int64} {w : Int32} {μ ν : Mm} {K : Option Unit} (h : Res t c o w μ ν) (hK : K = some ()) :
    (f_X8_thrown ν).bind (fun r => if r = c then (if c = 0 then (chk 0 1 (if lg_cmp (o (0 : Int32).toNatClampNeg) w.toInt64 = 0 then K else none)) else K) else none) = some () := by
  obtain ⟨h1, h2, _⟩ := h
  unfold f_X8_thrown
  rw [Option.bind_some, if_pos h1]
  by_cases hc : c = 0
  · rw [if_pos hc, chk0]
    have e : o (0 : Int32).toNatClampNeg = w.toInt64 := h2 hc
    rw [e, cmp_self, if_pos rfl, hK]
  · rw [if_neg hc, hK]
theorem tail_okb {t : Nat} {c : Int32} {o : Nat → Int64} {w : Int32} {μ ν : Mm} {K : Option Unit} (h : Res t c o w μ ν) (hw : w = 0 ∨ w = 1) (hK : K = some ()) :
    (f_X8_thrown ν).bind (fun r => if r = c then (if c = 0 then (chk 0 1 (if w = 0 then (if lg_cmp (o (0 : Int32).toNatClampNeg) 0 = 0 then K else none) else (if lg_cmp (o (0 : Int32).toNatClampNeg) 1 = 0 then K else none))) else K) else none) = some () := by
  obtain ⟨h1, h2, _⟩ := h
  unfold f_X8_thrown
  rw [Option.bind_some, if_pos h1]
  by_cases hc : c = 0
  · rw [if_pos hc, chk0]
    have e : o (0 : Int32).toNatClampNeg = w.toInt64 := h2 hc
    rw [e]
    rcases hw with hw | hw
    · subst hw; rw [if_pos rfl, show ((0 : Int32).toInt64 = 0) from rfl, cmp_self, if_pos rfl, hK]
    · subst hw; rw [if_neg (by decide), show ((1 : Int32).toInt64 = 1) from rfl, cmp_self, if_pos rfl, hK]
  · rw [if_neg hc, hK]
end
section
/-! ===== L3: what stays ===== -/
/-- ν' has what conditions below C say, and the payments up to p -/
def Sst (C p : Nat) (ν ν' : Mm) : Prop := (∀ j, j < C → ν' 12 j = ν 12 j ∧ ν' 13 j = ν 13 j ∧ ν' 14 j = ν 14 j ∧ ν' 16 j = ν 16 j ∧ ν' 17 j = ν 17 j ∧ ν' 18 j = ν 18 j ∧ ν' 19 j = ν 19 j) ∧ cut ν' p = cut ν p
theorem Sst_cut {p : Nat} {ν ν' : Mm} (h : ∀ q, q ≤ p → ν' 3 q = ν 3 q ∧ ν' 4 q = ν 4 q ∧ ν' 5 q = ν 5 q ∧ ν' 6 q = ν 6 q ∧ ν' 1 (ν 4 q).toNatClampNeg = ν 1 (ν 4 q).toNatClampNeg ∧ ν' 2 (ν 3 q).toNatClampNeg = ν 2 (ν 3 q).toNatClampNeg) : cut ν' p = cut ν p := by
  funext k q
  unfold cut
  by_cases hq : q ≤ p
  · rw [if_pos hq, if_pos hq]
    obtain ⟨h3, h4, h5, h6, h1, h2⟩ := h q hq
    unfold dat
    split
    · exact h3
    · exact h4
    · exact h5
    · exact h6
    · rw [h4]; exact h1
    · rw [h3]; exact h2
    · rfl
  · rw [if_neg hq, if_neg hq]
theorem VC_st {C p : Nat} {ν ν' : Mm} (h : Sst C p ν ν') {c : Nat} (hc : c < C) (mk : Int32) : VC ν' mk p c = VC ν mk p c := by
  obtain ⟨_, _, _, h16, _, h18, _⟩ := h.1 c hc
  unfold VC
  rw [h.2, h16, h18]
theorem cnd_kids {μ ν : Mm} {j : Nat} (hj : j < 30) (h : Cnd μ ν j) : (ν 12 j ≠ 0 → (ν 13 j).toNatClampNeg < j) ∧ (ν 12 j = 1 ∨ ν 12 j = 2 → (ν 14 j).toNatClampNeg < j) := by
  obtain ⟨k, s, n, hk, hs, e1, e2, e3, e4, e5, e6, h0, h3, h12⟩ := h
  have hk4 : k = 0 ∨ k = 1 ∨ k = 2 ∨ k = 3 := by omega
  rw [e1]
  rcases hk4 with rfl | rfl | rfl | rfl
  · exact ⟨fun h => absurd rfl h, fun h => absurd h (by decide)⟩
  · obtain ⟨a, b, s1, s2, ha, hb, f1, _, f2, _⟩ := h12 (Or.inl rfl)
    rw [f1, f2, w_nat (by omega), w_nat (by omega)]
    exact ⟨fun _ => ha, fun _ => hb⟩
  · obtain ⟨a, b, s1, s2, ha, hb, f1, _, f2, _⟩ := h12 (Or.inr rfl)
    rw [f1, f2, w_nat (by omega), w_nat (by omega)]
    exact ⟨fun _ => ha, fun _ => hb⟩
  · obtain ⟨_, a, s1, ha, f1, _⟩ := h3 rfl
    rw [f1, w_nat (by omega)]
    exact ⟨fun _ => ha, fun h => absurd h (by decide)⟩
theorem sem_st {C p : Nat} {μ ν ν' : Mm} (hC : C ≤ 30) (hk : ∀ j, j < C → Cnd μ ν j) (h : Sst C p ν ν') (mk : Int32) : ∀ (d c : Nat), c < C → sem ν' mk p d c = sem ν mk p d c
  | 0, _, _ => rfl
  | d + 1, c, hc => by
    obtain ⟨h12, h13, h14, h16, h17, h18, h19⟩ := h.1 c hc
    obtain ⟨k1, k2⟩ := cnd_kids (by omega) (hk c hc)
    unfold sem
    rw [h12, h13, h14]
    by_cases e3 : ν 12 c = 3
    · rw [if_pos e3, if_pos e3, sem_st hC hk h mk d _ (by have := k1 (by rw [e3]; decide); omega)]
    rw [if_neg e3, if_neg e3]
    by_cases e1 : ν 12 c = 1
    · rw [if_pos e1, if_pos e1, sem_st hC hk h mk d _ (by have := k1 (by rw [e1]; decide); omega), sem_st hC hk h mk d _ (by have := k2 (Or.inl e1); omega)]
    rw [if_neg e1, if_neg e1]
    by_cases e2 : ν 12 c = 2
    · rw [if_pos e2, if_pos e2, sem_st hC hk h mk d _ (by have := k1 (by rw [e2]; decide); omega), sem_st hC hk h mk d _ (by have := k2 (Or.inr e2); omega)]
    rw [if_neg e2, if_neg e2, VC_st h hc]
    unfold tst
    rw [h17, h19]
theorem Jud1_st {C C' N p : Nat} {μ ν μ' ν' : Mm} (hC30 : C ≤ 30) (hC : C ≤ C') (hc : ∀ j, j < C → Cnd μ ν j) (hs : Sst C p ν ν') (hN : ∀ r, r < N → rcN ν r < C) (hr : ∀ r, r < N → ν' 20 r = ν 20 r)
    (h7 : ν' 7 p = ν 7 p) (h8 : ν' 8 p = ν 8 p) (h32 : μ' 32 p = μ 32 p) (h33 : μ' 33 p = μ 33 p) (h34 : ∀ c, c < 30 → μ' 34 (30 * p + c) = μ 34 (30 * p + c)) (h : Jud1 C N μ ν p) : Jud1 C' N μ' ν' p := by
  obtain ⟨k, hk, j1, j2, j3, j4⟩ := h
  have er : ∀ r, r < N → rcN ν' r = rcN ν r := fun r hr' => by unfold rcN; rw [hr r hr']
  refine ⟨k, by omega, ?_, ?_, ?_, ?_⟩
  · intro i hi; rw [h8, h32]; exact j1 i hi
  · intro r hr'; rw [h8, h32, h7, er r hr', sem_st hC30 hc hs _ _ _ (hN r hr')]; exact j2 r hr'
  · intro r hr'; rw [h32, er r hr']; exact j3 r hr'
  · intro c hc'
    obtain ⟨a1, a2⟩ := j4 c hc'
    rw [h33, h7, sem_st hC30 hc hs _ _ _ (by omega), (hs.1 c (by omega)).1, h34 c (by omega), VC_st hs (by omega)]
    exact ⟨a1, a2⟩
theorem Rul_rc {C N : Nat} {μ ν : Mm} (hC : C ≤ 30) (h : Rul C N μ ν) {r : Nat} (hr : r < N) : rcN ν r < C := by
  obtain ⟨_, _, _, _, _, h6⟩ := h
  obtain ⟨c, w, hc, _, _, _, e, _⟩ := h6 r hr
  unfold rcN
  rw [e, w_nat (by omega)]; exact hc
theorem Cas_st {P N : Nat} {μ ν μ' ν' : Mm} (hN : N ≤ 12) (h29 : μ' 29 5 = μ 29 5) (h10 : ∀ p, p < P → ν' 10 p = ν 10 p ∧ ν' 9 p = ν 9 p ∧ μ' 31 p = μ 31 p ∧ μ' 30 p = μ 30 p ∧ μ' 32 p = μ 32 p) (h21 : ∀ r, r < N → ν' 21 r = ν 21 r) (h : Cas P N μ ν) : Cas P N μ' ν' := by
  obtain ⟨h1, h2⟩ := h
  refine ⟨?_, ?_⟩
  · rw [h29, h1]
    congr 1
    apply fb_ct_cong
    intro k hk
    rw [(h10 k hk).1]
  · intro p hp
    obtain ⟨a1, a2, a3, a4, a5⟩ := h10 p hp
    obtain ⟨b1, b2, b3, b4⟩ := h2 p hp
    rw [a1, a2, a3, a4, a5]
    refine ⟨b1, b2, b3, ?_⟩
    rw [b4]
    apply fo_congr
    intro q _ hq s
    unfold wgS
    rw [h21 q (by omega)]
/-- what the relation doesn't speak of may change: the component's 11, 12, 24, 25, the model's 11, 22 and the object's 0, 32 -/
theorem R_fr {t : Nat} {μ ν μ' ν' : Mm} (hμ : ∀ k, k ≠ 11 → k ≠ 12 → k ≠ 24 → k ≠ 25 → μ' k = μ k) (hν : ∀ k, k ≠ 0 → k ≠ 11 → k ≠ 22 → ν' k = ν k) (h0 : ∀ j, j ≠ 0 → j ≠ 32 → ν' 0 j = ν 0 j) (h : R t μ ν) : R t μ' ν' := by
  obtain ⟨ht, A, T, P, F, C, N, hA, hT, hL, hK, hC, hR, hc, hJ⟩ := h
  have m : ∀ k, k = 0 ∨ k = 1 ∨ k = 2 ∨ k = 3 ∨ k = 4 ∨ k = 5 ∨ k = 6 ∨ k = 7 ∨ k = 8 ∨ k = 9 ∨ k = 13 ∨ k = 14 ∨ k = 15 ∨ k = 16 ∨ k = 17 ∨ k = 18 ∨ k = 19 ∨ k = 20 ∨ k = 21 ∨ k = 22 ∨ k = 23 ∨ k = 26 ∨ k = 27 ∨ k = 28 ∨ k = 29 ∨ k = 30 ∨ k = 31 ∨ k = 32 ∨ k = 33 ∨ k = 34 → μ' k = μ k := fun k hk => hμ k (by omega) (by omega) (by omega) (by omega)
  have n : ∀ k, k ≠ 0 → k ≠ 11 → k ≠ 22 → ν' k = ν k := hν
  have hs : ∀ p, Sst C p ν ν' := fun p => ⟨fun j _ => by rw [n 12 (by omega) (by omega) (by omega), n 13 (by omega) (by omega) (by omega), n 14 (by omega) (by omega) (by omega), n 16 (by omega) (by omega) (by omega), n 17 (by omega) (by omega) (by omega), n 18 (by omega) (by omega) (by omega), n 19 (by omega) (by omega) (by omega)]; simp,
    Sst_cut (fun q _ => by rw [n 1 (by omega) (by omega) (by omega), n 2 (by omega) (by omega) (by omega), n 3 (by omega) (by omega) (by omega), n 4 (by omega) (by omega) (by omega), n 5 (by omega) (by omega) (by omega), n 6 (by omega) (by omega) (by omega)]; simp)⟩
  refine ⟨ht, A, T, P, F, C, N, ?_, ?_, ?_, ?_, ?_, ?_, ?_, ?_⟩
  · unfold Acc at hA ⊢
    rw [m 2 (by omega), m 3 (by omega), m 4 (by omega), h0 3 (by omega) (by omega), h0 5 (by omega) (by omega), h0 6 (by omega) (by omega), n 1 (by omega) (by omega) (by omega), n 2 (by omega) (by omega) (by omega)]
    exact hA
  · unfold Tim at hT ⊢
    rw [m 1 (by omega), m 0 (by omega), h0 4 (by omega) (by omega), h0 16 (by omega) (by omega)]
    exact hT
  · unfold Led at hL ⊢
    rw [m 5 (by omega), m 6 (by omega), m 7 (by omega), m 8 (by omega), m 9 (by omega), h0 15 (by omega) (by omega), n 3 (by omega) (by omega) (by omega), n 4 (by omega) (by omega) (by omega), n 5 (by omega) (by omega) (by omega), n 6 (by omega) (by omega) (by omega)]
    exact hL
  · unfold Kep at hK ⊢
    rw [m 1 (by omega), n 6 (by omega) (by omega) (by omega)]
    exact hK
  · unfold Con Cnd lst at hC ⊢
    rw [m 13 (by omega), m 14 (by omega), m 15 (by omega), m 16 (by omega), m 17 (by omega), m 18 (by omega), m 19 (by omega), m 20 (by omega), m 21 (by omega), m 22 (by omega), m 23 (by omega), h0 26 (by omega) (by omega), n 12 (by omega) (by omega) (by omega), n 13 (by omega) (by omega) (by omega), n 14 (by omega) (by omega) (by omega), n 15 (by omega) (by omega) (by omega), n 16 (by omega) (by omega) (by omega), n 17 (by omega) (by omega) (by omega), n 18 (by omega) (by omega) (by omega), n 19 (by omega) (by omega) (by omega)]
    exact hC
  · unfold Rul at hR ⊢
    rw [m 26 (by omega), m 27 (by omega), m 28 (by omega), h0 29 (by omega) (by omega), h0 30 (by omega) (by omega), n 20 (by omega) (by omega) (by omega), n 21 (by omega) (by omega) (by omega)]
    exact hR
  · refine Cas_st hR.1 (by rw [m 29 (by omega)]) (fun p _ => ?_) (fun r _ => by rw [n 21 (by omega) (by omega) (by omega)]) hc
    rw [m 30 (by omega), m 31 (by omega), m 32 (by omega), n 9 (by omega) (by omega) (by omega), n 10 (by omega) (by omega) (by omega)]
    simp
  · intro p hp
    refine Jud1_st hC.1 (Nat.le_refl C) hC.2.2.2.2.2 (hs p) (fun r hr => Rul_rc hC.1 hR hr) (fun r _ => by rw [n 20 (by omega) (by omega) (by omega)]) (by rw [n 7 (by omega) (by omega) (by omega)]) (by rw [n 8 (by omega) (by omega) (by omega)]) (by rw [m 32 (by omega)]) (by rw [m 33 (by omega)]) (fun c _ => by rw [m 34 (by omega)]) (hJ p hp)
theorem R_thr {t : Nat} {μ ν : Mm} (v : Int32) (h : R t μ ν) : R t μ (up2 ν 0 0 v) :=
  R_fr (fun k _ _ _ _ => rfl) (fun k h0 _ _ => up2_n h0) (fun j h0 _ => by rw [up2_s]; unfold upd; rw [if_neg h0]) h
theorem R_more {t t' : Nat} {μ ν : Mm} (h : R t μ ν) (h1 : t ≤ t') (h2 : t' ≤ 800000) : R t' μ ν := by
  obtain ⟨ht, A, T, P, F, C, N, hA, hT, h3⟩ := h
  exact ⟨h2, A, T, P, F, C, N, hA, ⟨Nat.le_trans hT.1 h1, hT.2⟩, h3⟩
end
section
/-! ===== L3: the doors, and the operations without loops ===== -/
theorem lt_I (a b : Int32) : (a < b) = (a.toInt < b.toInt) := propext Int32.lt_iff_toInt_lt
theorem le_I (a b : Int32) : (a ≤ b) = (a.toInt ≤ b.toInt) := propext Int32.le_iff_toInt_le
theorem btwI (a l h : Int32) : f_X8_isBetween a l h = some (b2 (decide (l.toInt ≤ a.toInt ∧ a.toInt ≤ h.toInt))) := by
  unfold f_X8_isBetween
  simp only [lt_I]
  by_cases h1 : a.toInt < l.toInt
  · rw [if_pos h1]; rw [show decide (l.toInt ≤ a.toInt ∧ a.toInt ≤ h.toInt) = false from by rw [decide_eq_false_iff_not]; omega]; rfl
  · rw [if_neg h1]
    by_cases h2 : h.toInt < a.toInt
    · rw [if_pos h2]; rw [show decide (l.toInt ≤ a.toInt ∧ a.toInt ≤ h.toInt) = false from by rw [decide_eq_false_iff_not]; omega]; rfl
    · rw [if_neg h2]; rw [show decide (l.toInt ≤ a.toInt ∧ a.toInt ≤ h.toInt) = true from by rw [decide_eq_true_eq]; omega]; rfl
theorem m1_int {A : Nat} (hA : A < 100000) : (nI A - 1 : Int32).toInt = (A : Int) - 1 := by
  rcases A with _ | A
  · rfl
  · rw [w_pred, w_int (by omega)]; omega
theorem btw_ok {j A : Nat} (hj : j < A) (hA : A < 100000) : f_X8_isBetween (nI j) 0 (nI A - 1) = some 1 := by
  rw [btwI, m1_int hA, w_int (by omega), show ((0 : Int32).toInt = 0) from rfl, decide_eq_true (by omega)]; rfl
theorem btw_bad {a : Int32} {A : Nat} (h : a.toInt < 0 ∨ (A : Int) ≤ a.toInt) (hA : A < 100000) : f_X8_isBetween a 0 (nI A - 1) = some 0 := by
  rw [btwI, m1_int hA, show ((0 : Int32).toInt = 0) from rfl, decide_eq_false (by omega)]; rfl
/-- a door of the component: below a count -/
theorem door_ok {j A : Nat} (hj : j < A) (hA : A < 100000) {α : Type} (x y z : α) : (if (nI j : Int32) < 0 then x else (if (nI j : Int32) < nI A then y else z)) = y := by
  rw [if_neg, if_pos]
  · rw [w_lt (by omega) (by omega)]; exact hj
  · rw [lt_I, w_int (by omega), show ((0 : Int32).toInt = 0) from rfl]; omega
theorem door_bad {a : Int32} {A : Nat} (h : a.toInt < 0 ∨ (A : Int) ≤ a.toInt) (hA : A < 100000) {α : Type} (x y : α) : (if (a : Int32) < 0 then x else (if (a : Int32) < nI A then y else x)) = x := by
  by_cases h1 : a < 0
  · rw [if_pos h1]
  · rw [if_neg h1, if_neg]
    rw [lt_I, show ((0 : Int32).toInt = 0) from rfl] at h1
    rw [lt_I, w_int (by omega)]; omega
theorem reqA_ok {A j : Nat} {μ : Mm} (hA : A ≤ 20) (e : μ 2 2 = nI A) (hj : j < A) : f_X7_requireAccount (nI j) μ = some 0 := by
  unfold f_X7_requireAccount; rw [e]; exact door_ok hj (by omega) _ _ _
theorem reqA_bad {A : Nat} {a : Int32} {μ : Mm} (hA : A ≤ 20) (e : μ 2 2 = nI A) (h : a.toInt < 0 ∨ (A : Int) ≤ a.toInt) : f_X7_requireAccount a μ = some 1 := by
  unfold f_X7_requireAccount; rw [e]; exact door_bad h (by omega) _ _
theorem reqP_ok {P j : Nat} {μ : Mm} (hP : P ≤ 200) (e : μ 5 4 = nI P) (hj : j < P) : f_X7_requirePayment (nI j) μ = some 0 := by
  unfold f_X7_requirePayment; rw [e]; exact door_ok hj (by omega) _ _ _
theorem reqP_bad {P : Nat} {a : Int32} {μ : Mm} (hP : P ≤ 200) (e : μ 5 4 = nI P) (h : a.toInt < 0 ∨ (P : Int) ≤ a.toInt) : f_X7_requirePayment a μ = some 2 := by
  unfold f_X7_requirePayment; rw [e]; exact door_bad h (by omega) _ _
theorem reqC_ok {C j : Nat} {μ : Mm} (hC : C ≤ 30) (e : μ 13 12 = nI C) (hj : j < C) : f_X7_requireCondition (nI j) μ = some 0 := by
  unfold f_X7_requireCondition; rw [e]; exact door_ok hj (by omega) _ _ _
theorem reqC_bad {C : Nat} {a : Int32} {μ : Mm} (hC : C ≤ 30) (e : μ 13 12 = nI C) (h : a.toInt < 0 ∨ (C : Int) ≤ a.toInt) : f_X7_requireCondition a μ = some 1 := by
  unfold f_X7_requireCondition; rw [e]; exact door_bad h (by omega) _ _
theorem reqN_ok {N j : Nat} {μ : Mm} (hN : N ≤ 12) (e : μ 26 3 = nI N) (hj : j < N) : f_X7_requireRule (nI j) μ = some 0 := by
  unfold f_X7_requireRule; rw [e]; exact door_ok hj (by omega) _ _ _
theorem reqN_bad {N : Nat} {a : Int32} {μ : Mm} (hN : N ≤ 12) (e : μ 26 3 = nI N) (h : a.toInt < 0 ∨ (N : Int) ≤ a.toInt) : f_X7_requireRule a μ = some 1 := by
  unfold f_X7_requireRule; rw [e]; exact door_bad h (by omega) _ _
theorem isA_ok {A j : Nat} {ν : Mm} (hA : A ≤ 20) (e : ν 0 3 = nI A) (hj : j < A) : f_X8_isAccount (nI j) ν = some 1 := by
  unfold f_X8_isAccount; rw [e, btw_ok hj (by omega), Option.bind_some, gnz1]
theorem isA_bad {A : Nat} {a : Int32} {ν : Mm} (hA : A ≤ 20) (e : ν 0 3 = nI A) (h : a.toInt < 0 ∨ (A : Int) ≤ a.toInt) : f_X8_isAccount a ν = some 0 := by
  unfold f_X8_isAccount; rw [e, btw_bad h (by omega), Option.bind_some, gnz0]
theorem isP_ok {P j : Nat} {ν : Mm} (hP : P ≤ 200) (e : ν 0 15 = nI P) (hj : j < P) : f_X8_isPayment (nI j) ν = some 1 := by
  unfold f_X8_isPayment; rw [e, btw_ok hj (by omega), Option.bind_some, gnz1]
theorem isP_bad {P : Nat} {a : Int32} {ν : Mm} (hP : P ≤ 200) (e : ν 0 15 = nI P) (h : a.toInt < 0 ∨ (P : Int) ≤ a.toInt) : f_X8_isPayment a ν = some 0 := by
  unfold f_X8_isPayment; rw [e, btw_bad h (by omega), Option.bind_some, gnz0]
theorem isC_ok {C j : Nat} {ν : Mm} (hC : C ≤ 30) (e : ν 0 26 = nI C) (hj : j < C) : f_X8_isCondition (nI j) ν = some 1 := by
  unfold f_X8_isCondition; rw [e, btw_ok hj (by omega), Option.bind_some, gnz1]
theorem isC_bad {C : Nat} {a : Int32} {ν : Mm} (hC : C ≤ 30) (e : ν 0 26 = nI C) (h : a.toInt < 0 ∨ (C : Int) ≤ a.toInt) : f_X8_isCondition a ν = some 0 := by
  unfold f_X8_isCondition; rw [e, btw_bad h (by omega), Option.bind_some, gnz0]
theorem isN_ok {N j : Nat} {ν : Mm} (hN : N ≤ 12) (e : ν 0 29 = nI N) (hj : j < N) : f_X8_isRule (nI j) ν = some 1 := by
  unfold f_X8_isRule; rw [e, btw_ok hj (by omega), Option.bind_some, gnz1]
theorem isN_bad {N : Nat} {a : Int32} {ν : Mm} (hN : N ≤ 12) (e : ν 0 29 = nI N) (h : a.toInt < 0 ∨ (N : Int) ≤ a.toInt) : f_X8_isRule a ν = some 0 := by
  unfold f_X8_isRule; rw [e, btw_bad h (by omega), Option.bind_some, gnz0]
/-- a span of numbers: both doors -/
theorem span_cases (a l h : Int32) (hlh : l.toInt ≤ h.toInt) : ((a < l) ∧ ¬ (l.toInt ≤ a.toInt ∧ a.toInt ≤ h.toInt)) ∨ (¬ a < l ∧ a ≤ h ∧ (l.toInt ≤ a.toInt ∧ a.toInt ≤ h.toInt)) ∨ (¬ a < l ∧ ¬ a ≤ h ∧ ¬ (l.toInt ≤ a.toInt ∧ a.toInt ≤ h.toInt)) := by
  simp only [lt_I, le_I]; omega
def win (w : Int32) : Prop := 1 ≤ w.toInt ∧ w.toInt ≤ 10080
theorem win_doors (w : Int32) : (win w ∧ f_X7_requireWindow w = some 0 ∧ f_X8_isWindow w = some 1) ∨ (¬ win w ∧ f_X7_requireWindow w = some 4 ∧ f_X8_isWindow w = some 0) := by
  unfold f_X7_requireWindow f_X8_isWindow win
  rw [btwI, Option.bind_some]
  rcases span_cases w 1 10080 (by decide) with ⟨h1, h2⟩ | ⟨h1, h2, h3⟩ | ⟨h1, h2, h3⟩
  · right; rw [if_pos h1, decide_eq_false h2]; exact ⟨h2, rfl, gnz0⟩
  · left; rw [if_neg h1, if_pos h2, decide_eq_true h3]; exact ⟨h3, rfl, gnz1⟩
  · right; rw [if_neg h1, if_neg h2, decide_eq_false h3]; exact ⟨h3, rfl, gnz0⟩
theorem thr_s (ν : Mm) (v : Int32) : (up2 ν 0 0 v) 0 0 = v := rfl
theorem thr_0 (ν : Mm) (v : Int32) {j : Nat} (h : j ≠ 0) : (up2 ν 0 0 v) 0 j = ν 0 j := by rw [up2_s]; unfold upd; rw [if_neg h]
theorem o_s (o : Nat → Int64) (v : Int64) : (vp_updL o (0 : Int32).toNatClampNeg v) 0 = v := rfl
theorem char_of (v : Int32) : ∃ c, c < 65536 ∧ (v.toUInt32 % 65536).toInt32 = nI c := by
  refine ⟨(v.toUInt32 % 65536).toNat, ?_, ?_⟩
  · rw [UInt32.toNat_mod]; exact Nat.mod_lt _ (by decide)
  · apply Int32.toBitVec_inj.mp
    apply BitVec.eq_of_toNat_eq
    show (v.toUInt32 % 65536).toBitVec.toNat = (BitVec.ofNat 32 (v.toUInt32 % 65536).toNat).toNat
    rw [BitVec.toNat_ofNat]
    show (v.toUInt32 % 65536).toNat = (v.toUInt32 % 65536).toNat % 2 ^ 32
    rw [Nat.mod_eq_of_lt (v.toUInt32 % 65536).toNat_lt]
theorem Jud_u {C N P : Nat} {μ ν μ' ν' : Mm} (hC : Con C μ ν) (hR : Rul C N μ ν) (hJ : ∀ p, p < P → Jud1 C N μ ν p)
    (e : ν' 1 = ν 1 ∧ ν' 2 = ν 2 ∧ ν' 3 = ν 3 ∧ ν' 4 = ν 4 ∧ ν' 5 = ν 5 ∧ ν' 6 = ν 6 ∧ ν' 7 = ν 7 ∧ ν' 8 = ν 8 ∧ ν' 12 = ν 12 ∧ ν' 13 = ν 13 ∧ ν' 14 = ν 14 ∧ ν' 16 = ν 16 ∧ ν' 17 = ν 17 ∧ ν' 18 = ν 18 ∧ ν' 19 = ν 19 ∧ ν' 20 = ν 20)
    (f : μ' 32 = μ 32 ∧ μ' 33 = μ 33 ∧ μ' 34 = μ 34) : ∀ p, p < P → Jud1 C N μ' ν' p := by
  obtain ⟨e1, e2, e3, e4, e5, e6, e7, e8, e12, e13, e14, e16, e17, e18, e19, e20⟩ := e
  obtain ⟨f1, f2, f3⟩ := f
  intro p hp
  refine Jud1_st hC.1 (Nat.le_refl C) hC.2.2.2.2.2 ⟨fun j _ => ?_, Sst_cut (fun q _ => ?_)⟩ (fun r hr => Rul_rc hC.1 hR hr) (fun r _ => by rw [e20]) (by rw [e7]) (by rw [e8]) (by rw [f1]) (by rw [f2]) (fun c _ => by rw [f3]) (hJ p hp)
  · rw [e12, e13, e14, e16, e17, e18, e19]; simp
  · rw [e1, e2, e3, e4, e5, e6]; simp
theorem b2_01 (b : Bool) : b2 b = 0 ∨ b2 b = 1 := by cases b <;> simp [b2]
theorem b2_w (o : Nat → Int64) (b : Bool) {μ : Mm} : (if (b2 b : Int32) = 0 then (chk 0 1 (some ((0 : Int32), μ, (vp_updL o (0 : Int32).toNatClampNeg 0)))) else (chk 0 1 (some (0, μ, (vp_updL o (0 : Int32).toNatClampNeg 1))))) = some (0, μ, vp_updL o (0 : Int32).toNatClampNeg (b2 b).toInt64) := by
  cases b <;> rfl
theorem b2_w' (o : Nat → Int64) (b : Bool) : (if (b2 b : Int32) = 0 then (chk 0 1 (some ((0 : Int32), (vp_updL o (0 : Int32).toNatClampNeg 0)))) else (chk 0 1 (some (0, (vp_updL o (0 : Int32).toNatClampNeg 1))))) = some (0, vp_updL o (0 : Int32).toNatClampNeg (b2 b).toInt64) := by
  cases b <;> rfl
theorem op_setMarked {t : Nat} {μ ν : Mm} (a v : Int32) (o : Nat → Int64) (h : R t μ ν) : ∃ c μ' o' w ν', f_L_setMarked_0_o a v μ o = some (c, μ', o') ∧ f_X8_setMarked a v ν = some (w, ν') ∧ (w = 0 ∨ w = 1) ∧ Res t c o' w μ' ν' := by
  have hz : R t μ (up2 ν 0 0 0) := R_thr 0 h
  unfold f_X8_setMarked f_L_setMarked_0_o f_X7_setMarked
  generalize e : up2 ν 0 0 0 = ν1 at hz ⊢
  have z : ν1 0 0 = 0 := by rw [← e]; rfl
  have hz2 := hz
  obtain ⟨ht, A, T, P, F, C, N, ⟨a1, a2, a3, a4, a5, a6⟩, hT, hL, hK, hC, hR, hc, hJ⟩ := hz
  rcases idx_cases a A with hb | ⟨j, hj, rfl⟩
  · rw [reqA_bad a1 a2 hb, isA_bad a1 a3 hb]
    refine ⟨1, μ, o, 0, up2 ν1 0 0 1, rfl, ?_, Or.inl rfl, rfl, fun h => absurd h (by decide), R_thr 1 hz2⟩
    simp [f_X8_isWrong, gnz0]
  · rw [reqA_ok a1 a2 hj, isA_ok a1 a3 hj]
    simp only [Option.bind_some, if_true]
    rw [hasBit_eq _ (show j < 32 by omega), has_eq _ (show j < 32 by omega), withBit_eq, with_eq, a4]
    simp only [Option.bind_some, gnb, show ¬ ((1 : Int32) = 0) by decide, if_false]
    refine ⟨0, up2 μ 2 3 (sb (ν1 0 5) j (decide (v ≠ 0))), vp_updL o (0 : Int32).toNatClampNeg (b2 (bt (ν1 0 5) j)).toInt64, b2 (bt (ν1 0 5) j), up2 ν1 0 5 (sb (ν1 0 5) j (decide (v ≠ 0))), b2_w o _, rfl, b2_01 _, z, fun _ => rfl, ?_⟩
    refine ⟨ht, A, T, P, F, C, N, ⟨a1, a2, a3, rfl, a5, a6⟩, hT, hL, hK, hC, hR, hc, ?_⟩
    exact Jud_u hC hR hJ ⟨rfl, rfl, rfl, rfl, rfl, rfl, rfl, rfl, rfl, rfl, rfl, rfl, rfl, rfl, rfl, rfl⟩ ⟨rfl, rfl, rfl⟩
theorem op_setBlocked {t : Nat} {μ ν : Mm} (a v : Int32) (o : Nat → Int64) (h : R t μ ν) : ∃ c μ' o' w ν', f_L_setBlocked_0_o a v μ o = some (c, μ', o') ∧ f_X8_setBlocked a v ν = some (w, ν') ∧ (w = 0 ∨ w = 1) ∧ Res t c o' w μ' ν' := by
  have hz : R t μ (up2 ν 0 0 0) := R_thr 0 h
  unfold f_X8_setBlocked f_L_setBlocked_0_o f_X7_setBlocked
  generalize e : up2 ν 0 0 0 = ν1 at hz ⊢
  have z : ν1 0 0 = 0 := by rw [← e]; rfl
  have hz2 := hz
  obtain ⟨ht, A, T, P, F, C, N, ⟨a1, a2, a3, a4, a5, a6⟩, hT, hL, hK, hC, hR, hc, hJ⟩ := hz
  rcases idx_cases a A with hb | ⟨j, hj, rfl⟩
  · rw [reqA_bad a1 a2 hb, isA_bad a1 a3 hb]
    refine ⟨1, μ, o, 0, up2 ν1 0 0 1, rfl, ?_, Or.inl rfl, rfl, fun h => absurd h (by decide), R_thr 1 hz2⟩
    simp [f_X8_isWrong, gnz0]
  · rw [reqA_ok a1 a2 hj, isA_ok a1 a3 hj]
    simp only [Option.bind_some, if_true]
    rw [hasBit_eq _ (show j < 32 by omega), has_eq _ (show j < 32 by omega), withBit_eq, with_eq, a5]
    simp only [Option.bind_some, gnb, show ¬ ((1 : Int32) = 0) by decide, if_false]
    refine ⟨0, up2 μ 2 4 (sb (ν1 0 6) j (decide (v ≠ 0))), vp_updL o (0 : Int32).toNatClampNeg (b2 (bt (ν1 0 6) j)).toInt64, b2 (bt (ν1 0 6) j), up2 ν1 0 6 (sb (ν1 0 6) j (decide (v ≠ 0))), b2_w o _, rfl, b2_01 _, z, fun _ => rfl, ?_⟩
    refine ⟨ht, A, T, P, F, C, N, ⟨a1, a2, a3, a4, rfl, a6⟩, hT, hL, hK, hC, hR, hc, ?_⟩
    exact Jud_u hC hR hJ ⟨rfl, rfl, rfl, rfl, rfl, rfl, rfl, rfl, rfl, rfl, rfl, rfl, rfl, rfl, rfl, rfl⟩ ⟨rfl, rfl, rfl⟩
theorem op_isMarked {t : Nat} {μ ν : Mm} (a : Int32) (o : Nat → Int64) (h : R t μ ν) : ∃ c o' w ν', f_L_isMarked_0_o a μ o = some (c, o') ∧ f_X8_isMarked a ν = some (w, ν') ∧ (w = 0 ∨ w = 1) ∧ Res t c o' w μ ν' := by
  have hz : R t μ (up2 ν 0 0 0) := R_thr 0 h
  unfold f_X8_isMarked f_L_isMarked_0_o f_X7_isMarked
  generalize e : up2 ν 0 0 0 = ν1 at hz ⊢
  have z : ν1 0 0 = 0 := by rw [← e]; rfl
  have hz2 := hz
  obtain ⟨ht, A, T, P, F, C, N, ⟨a1, a2, a3, a4, a5, a6⟩, hT, hL, hK, hC, hR, hc, hJ⟩ := hz
  rcases idx_cases a A with hb | ⟨j, hj, rfl⟩
  · rw [reqA_bad a1 a2 hb, isA_bad a1 a3 hb]
    refine ⟨1, o, 0, up2 ν1 0 0 1, rfl, ?_, Or.inl rfl, rfl, fun h => absurd h (by decide), R_thr 1 hz2⟩
    simp [f_X8_isWrong, gnz0]
  · rw [reqA_ok a1 a2 hj, isA_ok a1 a3 hj]
    simp only [Option.bind_some, if_true]
    rw [hasBit_eq _ (show j < 32 by omega), has_eq _ (show j < 32 by omega), a4]
    simp only [Option.bind_some, gnb, show ¬ ((1 : Int32) = 0) by decide, if_false]
    exact ⟨0, vp_updL o (0 : Int32).toNatClampNeg (b2 (bt (ν1 0 5) j)).toInt64, b2 (bt (ν1 0 5) j), ν1, b2_w' o _, rfl, b2_01 _, z, fun _ => rfl, hz2⟩
theorem op_countryOf {t : Nat} {μ ν : Mm} (a : Int32) (o : Nat → Int64) (h : R t μ ν) : ∃ c o' w ν', f_L_countryOf_0_o a μ o = some (c, o') ∧ f_X8_countryOf a ν = some (w, ν') ∧ Res t c o' w μ ν' := by
  have hz : R t μ (up2 ν 0 0 0) := R_thr 0 h
  unfold f_X8_countryOf f_L_countryOf_0_o f_X7_countryOf
  generalize e : up2 ν 0 0 0 = ν1 at hz ⊢
  have z : ν1 0 0 = 0 := by rw [← e]; rfl
  have hz2 := hz
  obtain ⟨ht, A, T, P, F, C, N, ⟨a1, a2, a3, a4, a5, a6⟩, hT, hL, hK, hC, hR, hc, hJ⟩ := hz
  rcases idx_cases a A with hb | ⟨j, hj, rfl⟩
  · rw [reqA_bad a1 a2 hb, isA_bad a1 a3 hb]
    refine ⟨1, o, 0, up2 ν1 0 0 1, rfl, ?_, rfl, fun h => absurd h (by decide), R_thr 1 hz2⟩
    simp only [f_X8_fails, Option.bind_some, if_true]
    exact gnc (c := 0) (by omega)
  · obtain ⟨c1, c2, cc, hc1, hc2, hc3⟩ := a6 j hj
    rw [reqA_ok a1 a2 hj, isA_ok a1 a3 hj]
    simp only [Option.bind_some, if_true]
    rw [chk_nI (show j < 20 by omega) (by omega), w_nat (by omega), c1, hc3, gnc (show cc < 65536 by omega)]
    simp only [Option.bind_some, gnb, show ¬ ((1 : Int32) = 0) by decide, if_false, if_true, chk_nI (show j < 20 by omega) (show 20 < 2147483648 by omega), gnc (show cc < 65536 by omega), chk0]
    exact ⟨_, _, _, ν1, rfl, rfl, z, fun _ => rfl, hz2⟩
theorem op_minuteOf {t : Nat} {μ ν : Mm} (a : Int32) (o : Nat → Int64) (h : R t μ ν) : ∃ c o' w ν', f_L_minuteOf_0_o a μ o = some (c, o') ∧ f_X8_minuteOf a ν = some (w, ν') ∧ Res t c o' w μ ν' := by
  have hz : R t μ (up2 ν 0 0 0) := R_thr 0 h
  unfold f_X8_minuteOf f_L_minuteOf_0_o f_X7_minuteOf
  generalize e : up2 ν 0 0 0 = ν1 at hz ⊢
  have z : ν1 0 0 = 0 := by rw [← e]; rfl
  have hz2 := hz
  obtain ⟨ht, A, T, P, F, C, N, hA, hT, hL, hK, hC, hR, hc, hJ⟩ := hz
  obtain ⟨b1, b2, b3, b4, b5⟩ := hL
  rcases idx_cases a P with hb | ⟨j, hj, rfl⟩
  · rw [reqP_bad b1 b2 hb, isP_bad b1 b3 hb]
    refine ⟨1, o, 0, up2 ν1 0 0 1, rfl, ?_, rfl, fun h => absurd h (by decide), R_thr 1 hz2⟩
    simp only [f_X8_fails, Option.bind_some, if_true]
  · have e1 : μ 9 j = ν1 6 j := (b4 j hj).2.2.2.1
    rw [reqP_ok b1 b2 hj, isP_ok b1 b3 hj]
    simp only [Option.bind_some, if_true]
    rw [chk_nI (show j < 200 by omega) (by omega), w_nat (by omega), e1]
    simp only [Option.bind_some, show ¬ ((1 : Int32) = 0) by decide, if_false, if_true, chk_nI (show j < 200 by omega) (show 200 < 2147483648 by omega), chk0]
    exact ⟨_, _, _, ν1, rfl, rfl, z, fun _ => rfl, hz2⟩
theorem op_score {t : Nat} {μ ν : Mm} (a : Int32) (o : Nat → Int64) (h : R t μ ν) : ∃ c o' w ν', f_L_score_0_o a μ o = some (c, o') ∧ f_X8_score a ν = some (w, ν') ∧ Res t c o' w μ ν' := by
  have hz : R t μ (up2 ν 0 0 0) := R_thr 0 h
  unfold f_X8_score f_L_score_0_o f_X7_score
  generalize e : up2 ν 0 0 0 = ν1 at hz ⊢
  have z : ν1 0 0 = 0 := by rw [← e]; rfl
  have hz2 := hz
  obtain ⟨ht, A, T, P, F, C, N, hA, hT, hL, hK, hC, hR, hc, hJ⟩ := hz
  obtain ⟨b1, b2, b3, b4, b5⟩ := hL
  rcases idx_cases a P with hb | ⟨j, hj, rfl⟩
  · rw [reqP_bad b1 b2 hb, isP_bad b1 b3 hb]
    refine ⟨1, o, 0, up2 ν1 0 0 1, rfl, ?_, rfl, fun h => absurd h (by decide), R_thr 1 hz2⟩
    simp only [f_X8_fails, Option.bind_some, if_true]
  · have e1 : μ 30 j = ν1 9 j := (hc.2 j hj).2.2.1
    rw [reqP_ok b1 b2 hj, isP_ok b1 b3 hj]
    simp only [Option.bind_some, if_true]
    rw [chk_nI (show j < 200 by omega) (by omega), w_nat (by omega), e1]
    simp only [Option.bind_some, show ¬ ((1 : Int32) = 0) by decide, if_false, if_true, chk_nI (show j < 200 by omega) (show 200 < 2147483648 by omega), chk0]
    exact ⟨_, _, _, ν1, rfl, rfl, z, fun _ => rfl, hz2⟩
theorem op_sizeOf {t : Nat} {μ ν : Mm} (a : Int32) (o : Nat → Int64) (h : R t μ ν) : ∃ c o' w ν', f_L_sizeOf_0_o a μ o = some (c, o') ∧ f_X8_sizeOf a ν = some (w, ν') ∧ Res t c o' w μ ν' := by
  have hz : R t μ (up2 ν 0 0 0) := R_thr 0 h
  unfold f_X8_sizeOf f_L_sizeOf_0_o f_X7_sizeOf
  generalize e : up2 ν 0 0 0 = ν1 at hz ⊢
  have z : ν1 0 0 = 0 := by rw [← e]; rfl
  have hz2 := hz
  obtain ⟨ht, A, T, P, F, C, N, hA, hT, hL, hK, hC, hR, hc, hJ⟩ := hz
  obtain ⟨b1, b2, b3, b4, b5, b6⟩ := hC
  rcases idx_cases a C with hb | ⟨j, hj, rfl⟩
  · rw [reqC_bad b1 b2 hb, isC_bad b1 b3 hb]
    refine ⟨1, o, 0, up2 ν1 0 0 1, rfl, ?_, rfl, fun h => absurd h (by decide), R_thr 1 hz2⟩
    simp only [f_X8_fails, Option.bind_some, if_true]
  · have e1 : μ 15 j = ν1 15 j := by obtain ⟨k, s, n, _, _, _, _, x1, x2, _⟩ := b6 j hj; rw [x1, x2]
    rw [reqC_ok b1 b2 hj, isC_ok b1 b3 hj]
    simp only [Option.bind_some, if_true]
    rw [chk_nI (show j < 30 by omega) (by omega), w_nat (by omega), e1]
    simp only [Option.bind_some, show ¬ ((1 : Int32) = 0) by decide, if_false, if_true, chk_nI (show j < 30 by omega) (show 30 < 2147483648 by omega), chk0]
    exact ⟨_, _, _, ν1, rfl, rfl, z, fun _ => rfl, hz2⟩
theorem isAl_c {v : Int32} (h : isAl v) : ∃ c, c < 65536 ∧ v = nI c := by
  rcases h with h | h | h | h
  · exact ⟨45, by omega, h⟩
  · exact ⟨111, by omega, h⟩
  · exact ⟨99, by omega, h⟩
  · exact ⟨102, by omega, h⟩
theorem op_alertOf {t : Nat} {μ ν : Mm} (a : Int32) (o : Nat → Int64) (h : R t μ ν) : ∃ c o' w ν', f_L_alertOf_0_o a μ o = some (c, o') ∧ f_X8_alertOf a ν = some (w, ν') ∧ Res t c o' w μ ν' := by
  have hz : R t μ (up2 ν 0 0 0) := R_thr 0 h
  unfold f_X8_alertOf f_L_alertOf_0_o f_X7_alertOf
  generalize e : up2 ν 0 0 0 = ν1 at hz ⊢
  have z : ν1 0 0 = 0 := by rw [← e]; rfl
  have hz2 := hz
  obtain ⟨ht, A, T, P, F, C, N, hA, hT, hL, hK, hC, hR, hc, hJ⟩ := hz
  obtain ⟨b1, b2, b3, b4, b5⟩ := hL
  rcases idx_cases a P with hb | ⟨j, hj, rfl⟩
  · rw [reqP_bad b1 b2 hb, isP_bad b1 b3 hb]
    refine ⟨1, o, 0, up2 ν1 0 0 1, rfl, ?_, rfl, fun h => absurd h (by decide), R_thr 1 hz2⟩
    simp only [f_X8_fails, Option.bind_some, if_true]
    exact gnc (c := 0) (by omega)
  · have e1 : μ 31 j = ν1 10 j := (hc.2 j hj).1
    obtain ⟨cc, h1, h2⟩ := isAl_c (hc.2 j hj).2.1
    rw [reqP_ok b1 b2 hj, isP_ok b1 b3 hj]
    simp only [Option.bind_some, if_true]
    rw [chk_nI (show j < 200 by omega) (by omega), w_nat (by omega), e1, h2, gnc h1]
    simp only [Option.bind_some, show ¬ ((1 : Int32) = 0) by decide, if_false, if_true, chk_nI (show j < 200 by omega) (show 200 < 2147483648 by omega), chk0, gnc h1]
    exact ⟨_, _, _, ν1, rfl, rfl, z, fun _ => rfl, hz2⟩
theorem op_setThreshold {t : Nat} {μ ν : Mm} (a : Int32) (o : Nat → Int64) (h : R t μ ν) : ∃ c μ' o' w ν', f_L_setThreshold_0_o a μ o = some (c, μ', o') ∧ f_X8_setThreshold a ν = some (w, ν') ∧ Res t c o' w μ' ν' := by
  have hz : R t μ (up2 ν 0 0 0) := R_thr 0 h
  unfold f_X8_setThreshold f_L_setThreshold_0_o f_X7_setThreshold f_X7_requireThreshold
  generalize e : up2 ν 0 0 0 = ν1 at hz ⊢
  have z : ν1 0 0 = 0 := by rw [← e]; rfl
  have hz2 := hz
  obtain ⟨ht, A, T, P, F, C, N, hA, hT, hL, hK, hC, hR, hc, hJ⟩ := hz
  rw [btwI]
  rcases span_cases a 1 1201 (by decide) with ⟨h1, h2⟩ | ⟨h1, h2, h3⟩ | ⟨h1, h2, h3⟩
  · rw [if_pos h1, decide_eq_false h2]
    refine ⟨1, μ, o, 0, up2 ν1 0 0 1, rfl, rfl, rfl, fun h => absurd h (by decide), R_thr 1 hz2⟩
  · rw [if_neg h1, if_pos h2, decide_eq_true h3]
    refine ⟨0, up2 μ 0 4 a, vp_updL o (0 : Int32).toNatClampNeg (μ 0 4).toInt64, ν1 0 16, up2 ν1 0 16 a, rfl, rfl, z, fun _ => by rw [hT.2.2.2]; rfl, ?_⟩
    refine ⟨ht, A, T, P, F, C, N, hA, ⟨hT.1, hT.2.1, hT.2.2.1, rfl⟩, hL, hK, hC, hR, hc, ?_⟩
    exact Jud_u hC hR hJ ⟨rfl, rfl, rfl, rfl, rfl, rfl, rfl, rfl, rfl, rfl, rfl, rfl, rfl, rfl, rfl, rfl⟩ ⟨rfl, rfl, rfl⟩
  · rw [if_neg h1, if_neg h2, decide_eq_false h3]
    refine ⟨1, μ, o, 0, up2 ν1 0 0 1, rfl, rfl, rfl, fun h => absurd h (by decide), R_thr 1 hz2⟩
theorem op_setRule {t : Nat} {μ ν : Mm} (a v : Int32) (o : Nat → Int64) (h : R t μ ν) : ∃ c μ' o' w ν', f_L_setRule_0_o a v μ o = some (c, μ', o') ∧ f_X8_setRule a v ν = some (w, ν') ∧ (w = 0 ∨ w = 1) ∧ Res t c o' w μ' ν' := by
  have hz : R t μ (up2 ν 0 0 0) := R_thr 0 h
  unfold f_X8_setRule f_L_setRule_0_o f_X7_setRule
  generalize e : up2 ν 0 0 0 = ν1 at hz ⊢
  have z : ν1 0 0 = 0 := by rw [← e]; rfl
  have hz2 := hz
  obtain ⟨ht, A, T, P, F, C, N, hA, hT, hL, hK, hC, hR, hc, hJ⟩ := hz
  obtain ⟨a1, a2, a3, a4, a5, a6⟩ := id hR
  rcases idx_cases a N with hb | ⟨j, hj, rfl⟩
  · rw [reqN_bad a1 a2 hb, isN_bad a1 a3 hb]
    refine ⟨1, μ, o, 0, up2 ν1 0 0 1, rfl, ?_, Or.inl rfl, rfl, fun h => absurd h (by decide), R_thr 1 hz2⟩
    simp [f_X8_isWrong, gnz0]
  · rw [reqN_ok a1 a2 hj, isN_ok a1 a3 hj]
    simp only [Option.bind_some, if_true]
    rw [hasBit_eq _ (show j < 32 by omega), has_eq _ (show j < 32 by omega), withBit_eq, with_eq, a4]
    simp only [Option.bind_some, gnb, show ¬ ((1 : Int32) = 0) by decide, if_false]
    refine ⟨0, up2 μ 26 2 (sb (ν1 0 30) j (decide (v ≠ 0))), vp_updL o (0 : Int32).toNatClampNeg (b2 (bt (ν1 0 30) j)).toInt64, b2 (bt (ν1 0 30) j), up2 ν1 0 30 (sb (ν1 0 30) j (decide (v ≠ 0))), b2_w o _, rfl, b2_01 _, z, fun _ => rfl, ?_⟩
    refine ⟨ht, A, T, P, F, C, N, hA, hT, hL, hK, hC, ⟨a1, a2, a3, rfl, ?_, a6⟩, hc, ?_⟩
    · intro i hi
      show bt (sb (ν1 0 30) j (decide (v ≠ 0))) i = false
      rcases Nat.lt_or_ge i 32 with h32 | h32
      · rw [bt_sb _ _ (by omega) h32, if_neg (by omega)]; exact a5 i hi
      · exact b_big h32
    · exact Jud_u hC hR hJ ⟨rfl, rfl, rfl, rfl, rfl, rfl, rfl, rfl, rfl, rfl, rfl, rfl, rfl, rfl, rfl, rfl⟩ ⟨rfl, rfl, rfl⟩
theorem op_accounts {t : Nat} {μ ν : Mm} (h : R t μ ν) : ∃ w ν', f_X7_accounts μ = some w ∧ f_X8_accounts ν = some (w, ν') ∧ R t μ ν' := by
  have hz : R t μ (up2 ν 0 0 0) := R_thr 0 h
  refine ⟨_, _, rfl, ?_, hz⟩
  obtain ⟨ht, A, T, P, F, C, N, hA, hT, hL, hK, hC, hR, hc, hJ⟩ := hz
  unfold f_X8_accounts
  rw [hA.2.1, hA.2.2.1]
theorem op_time {t : Nat} {μ ν : Mm} (h : R t μ ν) : ∃ w ν', f_X7_time μ = some w ∧ f_X8_time ν = some (w, ν') ∧ R t μ ν' := by
  have hz : R t μ (up2 ν 0 0 0) := R_thr 0 h
  refine ⟨_, _, rfl, ?_, hz⟩
  obtain ⟨ht, A, T, P, F, C, N, hA, hT, hL, hK, hC, hR, hc, hJ⟩ := hz
  unfold f_X8_time
  rw [hT.2.1, hT.2.2.1]
theorem op_payments {t : Nat} {μ ν : Mm} (h : R t μ ν) : ∃ w ν', f_X7_payments μ = some w ∧ f_X8_payments ν = some (w, ν') ∧ R t μ ν' := by
  have hz : R t μ (up2 ν 0 0 0) := R_thr 0 h
  refine ⟨_, _, rfl, ?_, hz⟩
  obtain ⟨ht, A, T, P, F, C, N, hA, hT, hL, hK, hC, hR, hc, hJ⟩ := hz
  unfold f_X8_payments
  rw [hL.2.1, hL.2.2.1]
end
section
/-! ===== L3: loops that find and count; open, pass, decide, addRule ===== -/
theorem first_eq {P i : Nat} {x1 : Int32} {μ : Mm} (hP : P ≤ 200) (e : μ 5 4 = nI P) (hi : i ≤ P) : f_X4_firstAfter x1 (nI i) μ = some (nI (fst1 (fun q => decide (x1 < μ 9 q)) i (P - i))) := by
  unfold f_X4_firstAfter
  refine find_loop (fun n x => f_X4_firstAfter_L2 (fun (y4 : Int32) => some y4) x1 μ n x) P (fun q => some (nI q)) (fun q => decide (x1 < μ 9 q)) ?_ ?_ (P - i) fuel i (by omega) (by unfold fuel; omega)
  · intro n
    show f_X4_firstAfter_L2 _ x1 μ (n + 1) (nI P) = _
    unfold f_X4_firstAfter_L2
    rw [e, if_pos (by rw [w_le (by omega) (by omega)]; omega)]
  · intro n q hq
    show f_X4_firstAfter_L2 _ x1 μ (n + 1) (nI q) = _
    conv => lhs; unfold f_X4_firstAfter_L2
    rw [e, if_neg (by rw [w_le (by omega) (by omega)]; omega), chk_nI (show q < 200 by omega) (by omega), w_nat (by omega), w_succ]
    simp only [decide_eq_true_eq]
theorem fo_ct (p : Nat → Bool) : ∀ (m : Nat), fo (fun q (s : Int32) => if p q = true then s + 1 else s) 0 m 0 = nI (fb_ct p m)
  | 0 => rfl
  | m + 1 => by
    rw [fo_succ, fo_ct p m, fb_ct_succ, Nat.zero_add]
    cases p m
    · rfl
    · simp [w_succ]
theorem many_eq {P : Nat} {v : Int32} {ν : Mm} (hP : P ≤ 200) (e : ν 0 15 = nI P) : f_X8_many v ν = some (nI (fb_ct (fun p => decide (ν 10 p = v)) P)) := by
  unfold f_X8_many
  rw [← fo_ct]
  refine up_loop' (fun n x s => f_X8_many_L4 v ν n s x) P (fun s => some s) _ ?_ ?_ P fuel 0 0 (by omega) (by unfold fuel; omega)
  · intro n s
    show f_X8_many_L4 v ν (n + 1) s (nI P) = _
    unfold f_X8_many_L4
    rw [e, if_pos (by rw [w_le (by omega) (by omega)]; omega)]
  · intro n q s hq
    show f_X8_many_L4 v ν (n + 1) s (nI q) = _
    conv => lhs; unfold f_X8_many_L4
    rw [e, if_neg (by rw [w_le (by omega) (by omega)]; omega), chk_nI (show q < 200 by omega) (by omega), w_nat (by omega), w_succ]
    by_cases h : ν 10 q = v
    · rw [if_pos h, if_pos (by simpa using h)]
    · rw [if_neg h, if_neg (by simpa using h), Int32.add_zero]
theorem op_openAlerts {t : Nat} {μ ν : Mm} (h : R t μ ν) : ∃ w ν', f_X7_openAlerts μ = some w ∧ f_X8_openAlerts ν = some (w, ν') ∧ R t μ ν' := by
  have hz : R t μ (up2 ν 0 0 0) := R_thr 0 h
  unfold f_X7_openAlerts f_X8_openAlerts
  generalize e : up2 ν 0 0 0 = ν1 at hz ⊢
  have hz2 := hz
  obtain ⟨ht, A, T, P, F, C, N, hA, hT, hL, hK, hC, hR, hc, hJ⟩ := hz
  exact ⟨_, ν1, rfl, by rw [many_eq hL.1 hL.2.2.1, hc.1]; rfl, hz2⟩
theorem op_turnover {t : Nat} {μ ν : Mm} (h : R t μ ν) : ∃ w ν', f_X7_turnover μ = some w ∧ f_X8_turnover ν = some (w, ν') ∧ R t μ ν' := by
  have hz : R t μ (up2 ν 0 0 0) := R_thr 0 h
  unfold f_X7_turnover f_X8_turnover
  generalize e : up2 ν 0 0 0 = ν1 at hz ⊢
  have hz2 := hz
  obtain ⟨ht, A, T, P, F, C, N, hA, hT, ⟨b1, b2, b3, b4, b5⟩, hK, hC, hR, hc, hJ⟩ := hz
  refine ⟨fo (fun q s => s + (μ 8 q).toInt64) 0 P 0, ν1, ?_, ?_, hz2⟩
  · refine up_loop' (fun n x s => f_X7_turnover_L4 μ n s x) P (fun s => some s) _ ?_ ?_ P fuel 0 0 (by omega) (by unfold fuel; omega)
    · intro n s
      show f_X7_turnover_L4 μ (n + 1) s (nI P) = _
      unfold f_X7_turnover_L4
      rw [b2, if_pos (by rw [w_le (by omega) (by omega)]; omega)]
    · intro n q s hq
      show f_X7_turnover_L4 μ (n + 1) s (nI q) = _
      conv => lhs; unfold f_X7_turnover_L4
      rw [b2, if_neg (by rw [w_le (by omega) (by omega)]; omega), chk_nI (show q < 200 by omega) (by omega), w_nat (by omega), w_succ]
  · rw [fo_congr (h := fun q s => s + (ν1 5 q).toInt64) P 0 0 (fun q _ hq b => by rw [(b4 q (by omega)).2.2.1])]
    refine up_loop' (fun n x s => f_X8_turnover_L9 ν1 n s x) P (fun s => some (s, ν1)) _ ?_ ?_ P fuel 0 0 (by omega) (by unfold fuel; omega)
    · intro n s
      show f_X8_turnover_L9 ν1 (n + 1) s (nI P) = _
      unfold f_X8_turnover_L9
      rw [b3, if_pos (by rw [w_le (by omega) (by omega)]; omega)]
    · intro n q s hq
      show f_X8_turnover_L9 ν1 (n + 1) s (nI q) = _
      conv => lhs; unfold f_X8_turnover_L9
      rw [b3, if_neg (by rw [w_le (by omega) (by omega)]; omega), chk_nI (show q < 200 by omega) (by omega), w_nat (by omega), w_succ]
/-- the payments decided as v with a score of at least b -/
def dcd (ν : Mm) (v b : Int32) (q : Nat) : Bool := decide (ν 10 q = v) && !decide (ν 9 q < b)
theorem decided_eq {P : Nat} {v b : Int32} {ν : Mm} (hP : P ≤ 200) (e : ν 0 15 = nI P) : f_X8_decided v b ν = some (nI (fb_ct (dcd ν v b) P)) := by
  unfold f_X8_decided
  rw [← fo_ct]
  refine up_loop' (fun n x s => f_X8_decided_L5 v b ν n s x) P (fun s => some s) _ ?_ ?_ P fuel 0 0 (by omega) (by unfold fuel; omega)
  · intro n s
    show f_X8_decided_L5 v b ν (n + 1) s (nI P) = _
    unfold f_X8_decided_L5
    rw [e, if_pos (by rw [w_le (by omega) (by omega)]; omega)]
  · intro n q s hq
    show f_X8_decided_L5 v b ν (n + 1) s (nI q) = _
    conv => lhs; unfold f_X8_decided_L5
    rw [e, if_neg (by rw [w_le (by omega) (by omega)]; omega), chk_nI (show q < 200 by omega) (by omega), w_nat (by omega), w_succ]
    unfold dcd
    by_cases h : ν 10 q = v
    · rw [if_pos h, chk_nI (show q < 200 by omega) (by omega)]
      by_cases h2 : ν 9 q < b
      · rw [if_pos h2, if_neg (by simp [h2]), Int32.add_zero]
      · rw [if_neg h2, if_pos (by simp [h, h2])]
    · rw [if_neg h, if_neg (by simp [h]), Int32.add_zero]
theorem countD_eq {P : Nat} {v b : Int32} {μ ν : Mm} (hP : P ≤ 200) (e : μ 5 4 = nI P) (hc : ∀ p, p < P → μ 31 p = ν 10 p ∧ μ 30 p = ν 9 p) : f_X7_countDecided v b μ = some (nI (fb_ct (dcd ν v b) P)) := by
  unfold f_X7_countDecided
  rw [← fo_ct]
  refine up_loop' (fun n x s => f_X7_countDecided_L5 v b μ n s x) P (fun s => some s) _ ?_ ?_ P fuel 0 0 (by omega) (by unfold fuel; omega)
  · intro n s
    show f_X7_countDecided_L5 v b μ (n + 1) s (nI P) = _
    unfold f_X7_countDecided_L5
    rw [e, if_pos (by rw [w_le (by omega) (by omega)]; omega)]
  · intro n q s hq
    show f_X7_countDecided_L5 v b μ (n + 1) s (nI q) = _
    conv => lhs; unfold f_X7_countDecided_L5
    obtain ⟨c1, c2⟩ := hc q hq
    rw [e, if_neg (by rw [w_le (by omega) (by omega)]; omega), chk_nI (show q < 200 by omega) (by omega), w_nat (by omega), w_succ, c1, c2]
    unfold dcd
    by_cases h : ν 10 q = v
    · rw [if_pos h, chk_nI (show q < 200 by omega) (by omega)]
      by_cases h2 : ν 9 q < b
      · rw [if_pos h2, if_neg (by simp [h2])]
      · rw [if_neg h2, if_pos (by simp [h, h2])]
    · rw [if_neg h, if_neg (by simp [h])]
theorem Cas_e {P N : Nat} {μ ν : Mm} (h : Cas P N μ ν) : ∀ p, p < P → μ 31 p = ν 10 p ∧ μ 30 p = ν 9 p := fun p hp => ⟨(h.2 p hp).1, (h.2 p hp).2.2.1⟩
theorem op_caught {t : Nat} {μ ν : Mm} (a : Int32) (o : Nat → Int64) (h : R t μ ν) : ∃ c o' w ν', f_L_caught_0_o a μ o = some (c, o') ∧ f_X8_caught a ν = some (w, ν') ∧ Res t c o' w μ ν' := by
  have hz : R t μ (up2 ν 0 0 0) := R_thr 0 h
  unfold f_X8_caught f_L_caught_0_o f_X7_caught f_X7_requireThreshold
  generalize e : up2 ν 0 0 0 = ν1 at hz ⊢
  have z : ν1 0 0 = 0 := by rw [← e]; rfl
  have hz2 := hz
  obtain ⟨ht, A, T, P, F, C, N, hA, hT, hL, hK, hC, hR, hc, hJ⟩ := hz
  rw [btwI]
  rcases span_cases a 1 1201 (by decide) with ⟨h1, h2⟩ | ⟨h1, h2, h3⟩ | ⟨h1, h2, h3⟩
  · rw [if_pos h1, decide_eq_false h2]
    exact ⟨1, o, 0, up2 ν1 0 0 1, rfl, rfl, rfl, fun h => absurd h (by decide), R_thr 1 hz2⟩
  · rw [if_neg h1, if_pos h2, decide_eq_true h3, countD_eq hL.1 hL.2.1 (Cas_e hc), decided_eq hL.1 hL.2.2.1]
    exact ⟨0, _, _, ν1, rfl, rfl, z, fun _ => rfl, hz2⟩
  · rw [if_neg h1, if_neg h2, decide_eq_false h3]
    exact ⟨1, o, 0, up2 ν1 0 0 1, rfl, rfl, rfl, fun h => absurd h (by decide), R_thr 1 hz2⟩
theorem op_open {t : Nat} {μ ν : Mm} (a : Int32) (ha : ∃ c, c < 65536 ∧ a = nI c) (o : Nat → Int64) (h : R t μ ν) : ∃ c μ' o' w ν', f_L_open_0_o a μ o = some (c, μ', o') ∧ f_X8_open a ν = some (w, ν') ∧ Res t c o' w μ' ν' := by
  have hz : R t μ (up2 ν 0 0 0) := R_thr 0 h
  unfold f_X8_open f_L_open_0_o f_X7_open
  generalize e : up2 ν 0 0 0 = ν1 at hz ⊢
  have z : ν1 0 0 = 0 := by rw [← e]; rfl
  have hz2 := hz
  obtain ⟨ht, A, T, P, F, C, N, ⟨a1, a2, a3, a4, a5, a6⟩, hT, hL, hK, hC, hR, hc, hJ⟩ := hz
  obtain ⟨cc, hcc, rfl⟩ := ha
  rw [btwI]
  rcases span_cases (nI cc) 97 100 (by decide) with ⟨h1, h2⟩ | ⟨h1, h2, h3⟩ | ⟨h1, h2, h3⟩
  · rw [if_pos h1, decide_eq_false h2]
    exact ⟨1, μ, o, 0, up2 ν1 0 0 1, rfl, rfl, rfl, fun h => absurd h (by decide), R_thr 1 hz2⟩
  · rw [if_neg h1, if_pos h2, decide_eq_true h3, a2]
    simp only [Option.bind_some, b2_t, show ¬ ((1 : Int32) = 0) by decide, if_false, a3]
    rw [w_int (by omega)] at h3
    by_cases hf : A < 20
    · rw [if_pos (show nI A < 20 from (w_lt (b := 20) (by omega) (by omega)).mpr hf), if_neg (show ¬ nI A = 20 from fun hh => by rw [show (20 : Int32) = nI 20 from rfl, w_eq (by omega) (by omega)] at hh; omega)]
      unfold f_X0_append setm
      have eA : (nI A).toNatClampNeg = A := w_nat (by omega)
      simp only [a2, a3, narc hcc, eA, show (up2 μ 3 A (nI cc)) 2 2 = μ 2 2 from rfl, show (up2 ν1 1 A (nI cc)) 0 3 = ν1 0 3 from rfl, chk_nI hf (show 20 < 2147483648 by omega), Option.bind_some]
      refine ⟨0, up2 (up2 (up2 μ 3 A (nI cc)) 4 A (μ 1 3)) 2 2 (nI A + 1), vp_updL o (0 : Int32).toNatClampNeg (nI A).toInt64, nI A, up2 (up2 (up2 ν1 1 A (nI cc)) 2 A (ν1 0 4)) 0 3 (nI A + 1), ?_, ?_, z, fun _ => rfl, ?_⟩
      · rw [show (up2 (up2 μ 3 A (nI cc)) 4 A (μ 1 3)) 2 2 = nI A from a2]; rfl
      · have e3 : (up2 (up2 ν1 1 A (nI cc)) 2 A ((up2 ν1 1 A (nI cc)) 0 4)) 0 3 = nI A := a3
        rw [e3]
        show some (nI A + 1 - 1, _) = _
        rw [w_succ, w_pred]
        rfl
      · refine ⟨ht, A + 1, T, P, F, C, N, ⟨by omega, ?_, ?_, a4, a5, ?_⟩, hT, ?_, hK, hC, hR, hc, ?_⟩
        · exact w_succ A
        · exact w_succ A
        · intro j hj
          show (if j = A then nI cc else μ 3 j) = (if j = A then nI cc else ν1 1 j) ∧ (if j = A then μ 1 3 else μ 4 j) = (if j = A then ν1 0 4 else ν1 2 j) ∧ ∃ c, 97 ≤ c ∧ c ≤ 100 ∧ (if j = A then nI cc else ν1 1 j) = nI c
          by_cases hj2 : j = A
          · subst hj2
            simp only [if_true]
            refine ⟨trivial, by rw [hT.2.1, hT.2.2.1], cc, ?_, ?_, rfl⟩
            · have := h3.1; rw [show ((97 : Int32).toInt = 97) from rfl] at this; omega
            · have := h3.2; rw [show ((100 : Int32).toInt = 100) from rfl] at this; omega
          · rw [if_neg hj2, if_neg hj2, if_neg hj2, if_neg hj2]
            exact a6 j (by omega)
        · obtain ⟨b1, b2, b3, b4, b5⟩ := hL
          refine ⟨b1, b2, b3, fun j hj => ?_, b5⟩
          obtain ⟨x1, x2, x3, x4, p, q, r, m, y1, y2, y3⟩ := b4 j hj
          exact ⟨x1, x2, x3, x4, p, q, r, m, by omega, by omega, y3⟩
        · intro p hp
          refine Jud1_st hC.1 (Nat.le_refl C) hC.2.2.2.2.2 ⟨fun j _ => ⟨rfl, rfl, rfl, rfl, rfl, rfl, rfl⟩, Sst_cut (fun q hq => ?_)⟩ (fun r hr => Rul_rc hC.1 hR hr) (fun r _ => rfl) rfl rfl rfl rfl (fun c _ => rfl) (hJ p hp)
          obtain ⟨x1, x2, x3, x4, p', q', r, m, y1, y2, y3, y4, y5, y6, y7, y8, y9⟩ := hL.2.2.2.1 q (by omega)
          refine ⟨rfl, rfl, rfl, rfl, ?_, ?_⟩
          · show (if (ν1 4 q).toNatClampNeg = A then nI cc else ν1 1 (ν1 4 q).toNatClampNeg) = _
            rw [if_neg]; rw [y7, w_nat (by omega)]; omega
          · show (if (ν1 3 q).toNatClampNeg = A then ν1 0 4 else ν1 2 (ν1 3 q).toNatClampNeg) = _
            rw [if_neg]; rw [y6, w_nat (by omega)]; omega
    · have hA20 : A = 20 := by omega
      subst hA20
      exact ⟨2, μ, o, 0, up2 ν1 0 0 2, rfl, rfl, rfl, fun h => absurd h (by decide), R_thr 2 hz2⟩
  · rw [if_neg h1, if_neg h2, decide_eq_false h3]
    exact ⟨1, μ, o, 0, up2 ν1 0 0 1, rfl, rfl, rfl, fun h => absurd h (by decide), R_thr 1 hz2⟩
end
section
/-! ===== L3: time and windows ===== -/
theorem subI {a b : Nat} (ha : a < 1000000) (hb : b < 1000000) : (nI a - nI b).toInt = (a : Int) - b := by
  rw [fb_subI] <;> rw [w_int (by omega), w_int (by omega)] <;> omega
theorem win_nI {w : Int32} (h : win w) : ∃ n, 1 ≤ n ∧ n ≤ 10080 ∧ w = nI n := ⟨w.toInt.toNat, by have := h.1; omega, by have := h.2; omega, w_inj (by have := h.1; omega)⟩
theorem isIn_eq {q : Nat} {w a3 : Int32} {ν : Mm} (hq : q < 200) : f_X8_isIn (nI q) w a3 ν = some (b2 (decide (a3 - w < ν 6 q) && decide (ν 6 q ≤ a3))) := by
  unfold f_X8_isIn
  rw [chk_nI hq (by omega), chk_nI hq (by omega), w_nat (by omega)]
  by_cases h : ν 6 q ≤ a3 - w
  · rw [if_pos h]
    have h1 : ¬ (a3 - w < ν 6 q) := by rw [lt_I]; rw [le_I] at h; omega
    rw [decide_eq_false h1]; rfl
  · rw [if_neg h]
    have h1 : (a3 - w < ν 6 q) := by rw [lt_I]; rw [le_I] at h; omega
    rw [decide_eq_true h1]
    by_cases h2 : a3 < ν 6 q
    · rw [if_pos h2]
      have h3 : ¬ (ν 6 q ≤ a3) := by rw [le_I]; rw [lt_I] at h2; omega
      rw [decide_eq_false h3]; rfl
    · rw [if_neg h2]
      have h3 : (ν 6 q ≤ a3) := by rw [le_I]; rw [lt_I] at h2; omega
      rw [decide_eq_true h3]; rfl
theorem Led_min {A T P : Nat} {μ ν : Mm} (h : Led A T P μ ν) {q : Nat} (hq : q < P) : ∃ m, m ≤ T ∧ ν 6 q = nI m := by
  obtain ⟨_, _, _, _, _, _, _, m, _, _, _, _, hm, _, _, _, e⟩ := h.2.2.2.1 q hq
  exact ⟨m, hm, e⟩
/-- the first payment of [i, P) after a time cuts [i, P) in two -/
theorem fst_cut {A T P i : Nat} {μ ν : Mm} {x : Int32} (h : Led A T P μ ν) (hi : i ≤ P) {q : Nat} (hq : q < P) :
    (i ≤ q → q < fst1 (fun q => decide (x < ν 6 q)) i (P - i) → ¬ x < ν 6 q) ∧ (fst1 (fun q => decide (x < ν 6 q)) i (P - i) ≤ q → x < ν 6 q) := by
  refine ⟨fun h1 h2 => ?_, fun h1 => ?_⟩
  · have := fst1_no (p := fun q => decide (x < ν 6 q)) (P - i) i q h1 h2
    simpa using this
  · have h2 := fst1_yes (p := fun q => decide (x < ν 6 q)) (P - i) i (by omega)
    have h3 : x < ν 6 (fst1 (fun q => decide (x < ν 6 q)) i (P - i)) := by simpa using h2
    have h4 := h.2.2.2.2 _ q h1 hq
    rw [lt_I] at h3 ⊢
    omega
theorem fst1_congr {p q : Nat → Bool} : ∀ (m i : Nat), (∀ k, i ≤ k → k < i + m → p k = q k) → fst1 p i m = fst1 q i m
  | 0, _, _ => rfl
  | m + 1, i, h => by
    unfold fst1
    rw [h i (by omega) (by omega), fst1_congr m (i + 1) (fun k h1 h2 => h k (by omega) (by omega))]
theorem first_led {A T P i : Nat} {x1 : Int32} {μ ν : Mm} (h : Led A T P μ ν) (hi : i ≤ P) : f_X4_firstAfter x1 (nI i) μ = some (nI (fst1 (fun q => decide (x1 < ν 6 q)) i (P - i))) := by
  rw [first_eq h.1 h.2.1 hi]
  congr 2
  apply fst1_congr
  intro k h1 h2
  rw [(h.2.2.2.1 k (by omega)).2.2.2.1]
theorem op_pass {t : Nat} {μ ν : Mm} (a : Int32) (o : Nat → Int64) (h : R t μ ν) (ht2 : t + 1440 ≤ 800000) : ∃ c μ' o' w ν', f_L_pass_0_o a μ o = some (c, μ', o') ∧ f_X8_pass a ν = some (w, ν') ∧ Res (t + 1440) c o' w μ' ν' := by
  have hz : R t μ (up2 ν 0 0 0) := R_thr 0 h
  unfold f_X8_pass f_L_pass_0_o f_X7_pass
  generalize e : up2 ν 0 0 0 = ν1 at hz ⊢
  have z : ν1 0 0 = 0 := by rw [← e]; rfl
  have hz2 := R_more hz (show t ≤ t + 1440 by omega) ht2
  obtain ⟨ht, A, T, P, F, C, N, hA, hT, hL, hK, hC, hR, hc, hJ⟩ := hz
  rw [btwI]
  rcases span_cases a 1 1440 (by decide) with ⟨h1, h2⟩ | ⟨h1, h2, h3⟩ | ⟨h1, h2, h3⟩
  · rw [if_pos h1, decide_eq_false h2]
    exact ⟨1, μ, o, 0, up2 ν1 0 0 1, rfl, rfl, rfl, fun h => absurd h (by decide), R_thr 1 hz2⟩
  · rw [if_neg h1, if_pos h2, decide_eq_true h3]
    rw [show ((1 : Int32).toInt = 1) from rfl, show ((1440 : Int32).toInt = 1440) from rfl] at h3
    obtain ⟨n, hn1, hn2, rfl⟩ : ∃ n, 1 ≤ n ∧ n ≤ 1440 ∧ a = nI n := ⟨a.toInt.toNat, by omega, by omega, w_inj (by omega)⟩
    obtain ⟨k1, k2, k3, k4⟩ := hK
    have hT1 := hT.1
    have hL2 : Led A (T + n) P (up2 μ 1 3 (nI (T + n))) ν1 := by
      obtain ⟨b1, b2, b3, b4, b5⟩ := hL
      refine ⟨b1, b2, b3, fun j hj => ?_, b5⟩
      obtain ⟨x1, x2, x3, x4, p, q, r, m, y1, y2, y3, y4, y5, y6⟩ := b4 j hj
      exact ⟨x1, x2, x3, x4, p, q, r, m, y1, y2, y3, y4, by omega, y6⟩
    unfold f_X1_advance
    simp only [hT.2.1, w_add]
    have q1 : (up2 μ 1 3 (nI (T + n))) 1 3 = nI (T + n) := rfl
    have q2 : (up2 μ 1 3 (nI (T + n))) 1 4 = nI F := k2
    rw [q1, q2, first_led hL2 k1]
    simp only [Option.bind_some, b2_t, show ¬ ((1 : Int32) = 0) by decide, if_false, if_true, chk0]
    generalize hF : fst1 (fun q => decide (nI (T + n) - 10080 < ν1 6 q)) F (P - F) = F'
    refine ⟨0, up2 (up2 μ 1 3 (nI (T + n))) 1 4 (nI F'), vp_updL o (0 : Int32).toNatClampNeg (nI (T + n)).toInt64, nI (T + n), up2 ν1 0 4 (nI (T + n)), rfl, ?_, z, fun _ => rfl, ?_⟩
    · rw [hT.2.2.1, w_add]; rfl
    · refine ⟨ht2, A, T + n, P, F', C, N, hA, ⟨by omega, rfl, rfl, hT.2.2.2⟩, hL2, ?_, hC, hR, hc, ?_⟩
      · refine ⟨?_, rfl, ?_, ?_⟩
        · rw [← hF]; have := fst1_le (p := (fun q => decide (nI (T + n) - 10080 < ν1 6 q))) (P - F) F; omega
        · intro j hj
          show (ν1 6 j).toInt + 10080 ≤ ((T + n : Nat) : Int)
          rcases Nat.lt_or_ge j F with h | h
          · have := k3 j h; omega
          · have hjP : j < P := by rw [← hF] at hj; have := fst1_le (p := (fun q => decide (nI (T + n) - 10080 < ν1 6 q))) (P - F) F; omega
            have := (fst_cut (x := nI (T + n) - 10080) hL2 k1 hjP).1 h (by rw [hF]; exact hj)
            rw [lt_I, show (nI (T + n) - 10080).toInt = ((T + n : Nat) : Int) - 10080 from subI (a := T + n) (b := 10080) (by omega) (by omega)] at this
            omega
        · intro j h1 hjP
          show ((T + n : Nat) : Int) < (ν1 6 j).toInt + 10080
          have := (fst_cut (x := nI (T + n) - 10080) hL2 k1 hjP).2 (by rw [hF]; exact h1)
          rw [lt_I, show (nI (T + n) - 10080).toInt = ((T + n : Nat) : Int) - 10080 from subI (a := T + n) (b := 10080) (by omega) (by omega)] at this
          omega
      · exact Jud_u hC hR hJ ⟨rfl, rfl, rfl, rfl, rfl, rfl, rfl, rfl, rfl, rfl, rfl, rfl, rfl, rfl, rfl, rfl⟩ ⟨rfl, rfl, rfl⟩
  · rw [if_neg h1, if_neg h2, decide_eq_false h3]
    exact ⟨1, μ, o, 0, up2 ν1 0 0 1, rfl, rfl, rfl, fun h => absurd h (by decide), R_thr 1 hz2⟩
/-- what a sent within the window -/
def sw (T : Nat) (ν : Mm) (a w : Int32) (q : Nat) (s : Int32) : Int32 := if ν 3 q = a then (if nI T - w < ν 6 q then s + ν 5 q else s) else s
theorem fo_cut {α : Type} {g h : Nat → α → α} {i P : Nat} (hi : i ≤ P) (s : α) (h1 : ∀ q, q < i → ∀ b, g q b = b) (h2 : ∀ q, i ≤ q → q < P → ∀ b, g q b = h q b) : fo g 0 P s = fo h i (P - i) s := by
  have e : P = i + (P - i) := by omega
  conv => lhs; rw [e]
  rw [fo_add, fo_id i 0 s (fun q _ hq b => h1 q (by omega) b), Nat.zero_add]
  exact fo_congr (P - i) i s (fun q a b c => h2 q a (by omega) c)
theorem keptSum_eq {t A T P F : Nat} {μ ν : Mm} {a w : Int32} (hT : Tim t T μ ν) (ht : t ≤ 800000) (hL : Led A T P μ ν) (hK : Kep T P F μ ν) (hw : win w) : f_X1_keptSum a w μ = some (fo (sw T ν a w) 0 P 0) := by
  obtain ⟨k1, k2, k3, k4⟩ := hK
  obtain ⟨n, hn1, hn2, rfl⟩ := win_nI hw
  have hP := hL.1
  have hT1 := hT.1
  unfold f_X1_keptSum
  rw [hT.2.1, k2, first_led hL k1, Option.bind_some, hL.2.1]
  generalize hF : fst1 (fun q => decide (nI T - nI n < ν 6 q)) F (P - F) = F'
  have hF' : F' ≤ P := by rw [← hF]; have := fst1_le (p := (fun q => decide (nI T - nI n < ν 6 q))) (P - F) F; omega
  have c1 : ∀ q, q < F' → ¬ (nI T - nI n < ν 6 q) := by
    intro q hq
    rcases Nat.lt_or_ge q F with h | h
    · have := k3 q h
      rw [lt_I, subI (by omega) (by omega)]; omega
    · exact (fst_cut (x := nI T - nI n) hL k1 (by omega)).1 h (by rw [hF]; exact hq)
  have c2 : ∀ q, F' ≤ q → q < P → nI T - nI n < ν 6 q := fun q h1 h2 => (fst_cut (x := nI T - nI n) hL k1 h2).2 (by rw [hF]; exact h1)
  rw [fo_cut (h := fun q s => if μ 6 q = a then s + μ 8 q else s) hF' 0 (fun q hq b => by unfold sw; rw [if_neg (c1 q hq)]; simp) (fun q h1 h2 b => by
    obtain ⟨x1, x2, x3, _⟩ := hL.2.2.2.1 q h2
    unfold sw; rw [if_pos (c2 q h1 h2), x1, x3])]
  have := up_loop' (fun n x s => f_X4_sumOf_6_L6 a (nI P) μ n s x) P (fun s => some s) (fun q s => if μ 6 q = a then s + μ 8 q else s) ?_ ?_ (P - F') fuel F' 0 (by omega) (by unfold fuel; omega)
  · show (f_X4_sumOf_6_L6 a (nI P) μ fuel 0 (nI F')).bind _ = _
    rw [this]; rfl
  · intro n s
    show f_X4_sumOf_6_L6 a (nI P) μ (n + 1) s (nI P) = _
    unfold f_X4_sumOf_6_L6
    rw [if_pos (by rw [w_le (by omega) (by omega)]; omega)]
  · intro n q s hq
    show f_X4_sumOf_6_L6 a (nI P) μ (n + 1) s (nI q) = _
    conv => lhs; unfold f_X4_sumOf_6_L6
    rw [if_neg (by rw [w_le (by omega) (by omega)]; omega), chk_nI (show q < 200 by omega) (by omega), w_nat (by omega), w_succ, chk_nI (show q < 200 by omega) (by omega)]
    by_cases h : μ 6 q = a
    · rw [if_pos h, if_pos h]
    · rw [if_neg h, if_neg h]
theorem sumAnew_eq {t A T P : Nat} {μ ν : Mm} {a w : Int32} (hT : Tim t T μ ν) (hL : Led A T P μ ν) : f_X1_sumAnew a w μ = some (fo (sw T ν a w) 0 P 0) := by
  have hP := hL.1
  unfold f_X1_sumAnew
  refine up_loop' (fun n x s => f_X1_sumAnew_L5 a w μ n s x) P (fun s => some s) _ ?_ ?_ P fuel 0 0 (by omega) (by unfold fuel; omega)
  · intro n s
    show f_X1_sumAnew_L5 a w μ (n + 1) s (nI P) = _
    unfold f_X1_sumAnew_L5
    rw [hL.2.1, if_pos (by rw [w_le (by omega) (by omega)]; omega)]
  · intro n q s hq
    show f_X1_sumAnew_L5 a w μ (n + 1) s (nI q) = _
    conv => lhs; unfold f_X1_sumAnew_L5
    obtain ⟨x1, x2, x3, x4, _⟩ := hL.2.2.2.1 q hq
    rw [hL.2.1, if_neg (by rw [w_le (by omega) (by omega)]; omega), chk_nI (show q < 200 by omega) (by omega), w_nat (by omega), w_succ, chk_nI (show q < 200 by omega) (by omega), chk_nI (show q < 200 by omega) (by omega), x1, x3, x4, hT.2.1]
    unfold sw
    by_cases h : ν 3 q = a
    · rw [if_pos h, if_pos h]
      by_cases h2 : ν 6 q ≤ nI T - w
      · rw [if_pos h2, if_neg (by rw [lt_I]; rw [le_I] at h2; omega)]
      · rw [if_neg h2, if_pos (by rw [lt_I]; rw [le_I] at h2; omega)]
    · rw [if_neg h, if_neg h]
theorem mSent_eq {t A T P : Nat} {μ ν : Mm} {a w : Int32} (ht : t ≤ 800000) (hT : Tim t T μ ν) (hL : Led A T P μ ν) : f_X8_sentBy_L37 a w ν fuel 0 0 = some (fo (sw T ν a w) 0 P 0, ν) := by
  have hP := hL.1
  have hT1 := hT.1
  refine up_loop' (fun n x s => f_X8_sentBy_L37 a w ν n s x) P (fun s => some (s, ν)) _ ?_ ?_ P fuel 0 0 (by omega) (by unfold fuel; omega)
  · intro n s
    show f_X8_sentBy_L37 a w ν (n + 1) s (nI P) = _
    unfold f_X8_sentBy_L37
    rw [hL.2.2.1, if_pos (by rw [w_le (by omega) (by omega)]; omega)]
  · intro n q s hq
    show f_X8_sentBy_L37 a w ν (n + 1) s (nI q) = _
    conv => lhs; unfold f_X8_sentBy_L37
    obtain ⟨m, hm, em⟩ := Led_min hL hq
    have hle : ν 6 q ≤ nI T := by rw [em, w_le (by omega) (by omega)]; exact hm
    rw [hL.2.2.1, if_neg (by rw [w_le (by omega) (by omega)]; omega), chk_nI (show q < 200 by omega) (by omega), w_nat (by omega), w_succ, isIn_eq (by omega), hT.2.2.1, decide_eq_true hle, Bool.and_true, Option.bind_some, chk_nI (show q < 200 by omega) (by omega), Int32.add_zero]
    unfold sw
    by_cases h : ν 3 q = a
    · rw [if_pos h, if_pos h]
      by_cases h2 : nI T - w < ν 6 q
      · rw [if_pos h2, decide_eq_true h2]; rfl
      · rw [if_neg h2, decide_eq_false h2]; rfl
    · rw [if_neg h, if_neg h]
theorem op_sentBy {t : Nat} {μ ν : Mm} (a w : Int32) (o : Nat → Int64) (h : R t μ ν) : ∃ c o' x ν', f_L_sentBy_0_o a w μ o = some (c, o') ∧ f_X8_sentBy a w ν = some (x, ν') ∧ Res t c o' x μ ν' := by
  have hz : R t μ (up2 ν 0 0 0) := R_thr 0 h
  unfold f_X8_sentBy f_L_sentBy_0_o f_X7_sentBy
  generalize e : up2 ν 0 0 0 = ν1 at hz ⊢
  have z : ν1 0 0 = 0 := by rw [← e]; rfl
  have hz2 := hz
  obtain ⟨ht, A, T, P, F, C, N, ⟨a1, a2, a3, a4, a5, a6⟩, hT, hL, hK, hC, hR, hc, hJ⟩ := hz
  rcases idx_cases a A with hb | ⟨j, hj, rfl⟩
  · rw [reqA_bad a1 a2 hb, isA_bad a1 a3 hb]
    exact ⟨1, o, 0, up2 ν1 0 0 1, rfl, rfl, rfl, fun h => absurd h (by decide), R_thr 1 hz2⟩
  · rw [reqA_ok a1 a2 hj, isA_ok a1 a3 hj]
    rcases win_doors w with ⟨w1, w2, w3⟩ | ⟨w1, w2, w3⟩
    · rw [w2, w3, keptSum_eq hT ht hL hK w1, mSent_eq ht hT hL]
      exact ⟨0, _, _, ν1, rfl, rfl, z, fun _ => rfl, hz2⟩
    · rw [w2, w3]
      exact ⟨2, o, 0, up2 ν1 0 0 2, rfl, rfl, rfl, fun h => absurd h (by decide), R_thr 2 hz2⟩
theorem op_sentByAnew {t : Nat} {μ ν : Mm} (a w : Int32) (o : Nat → Int64) (h : R t μ ν) : ∃ c o' x ν', f_L_sentByAnew_0_o a w μ o = some (c, o') ∧ f_X8_sentByAnew a w ν = some (x, ν') ∧ Res t c o' x μ ν' := by
  have hz : R t μ (up2 ν 0 0 0) := R_thr 0 h
  unfold f_X8_sentByAnew f_X8_sentBy f_L_sentByAnew_0_o f_X7_sentByAnew
  generalize e : up2 ν 0 0 0 = ν1 at hz ⊢
  have z : ν1 0 0 = 0 := by rw [← e]; rfl
  have hz2 := hz
  obtain ⟨ht, A, T, P, F, C, N, ⟨a1, a2, a3, a4, a5, a6⟩, hT, hL, hK, hC, hR, hc, hJ⟩ := hz
  rcases idx_cases a A with hb | ⟨j, hj, rfl⟩
  · rw [reqA_bad a1 a2 hb, isA_bad a1 a3 hb]
    exact ⟨1, o, 0, up2 ν1 0 0 1, rfl, rfl, rfl, fun h => absurd h (by decide), R_thr 1 hz2⟩
  · rw [reqA_ok a1 a2 hj, isA_ok a1 a3 hj]
    rcases win_doors w with ⟨w1, w2, w3⟩ | ⟨w1, w2, w3⟩
    · rw [w2, w3, sumAnew_eq hT hL, mSent_eq ht hT hL]
      exact ⟨0, _, _, ν1, rfl, rfl, z, fun _ => rfl, hz2⟩
    · rw [w2, w3]
      exact ⟨2, o, 0, up2 ν1 0 0 2, rfl, rfl, rfl, fun h => absurd h (by decide), R_thr 2 hz2⟩
theorem fo_one : ∀ (m i : Nat) (s : Nat), fo (fun _ (s : Int32) => s + 1) i m (nI s) = nI (s + m)
  | 0, _, _ => rfl
  | m + 1, i, s => by
    show fo (fun _ (s : Int32) => s + 1) (i + 1) m (nI s + 1) = _
    rw [w_succ, fo_one m (i + 1) (s + 1)]
    congr 1; omega
theorem op_kept {t : Nat} {μ ν : Mm} (h : R t μ ν) : ∃ w ν', f_X7_kept μ = some w ∧ f_X8_kept ν = some (w, ν') ∧ R t μ ν' := by
  have hz : R t μ (up2 ν 0 0 0) := R_thr 0 h
  unfold f_X7_kept f_X8_kept
  generalize e : up2 ν 0 0 0 = ν1 at hz ⊢
  have hz2 := hz
  obtain ⟨ht, A, T, P, F, C, N, hA, hT, hL, ⟨k1, k2, k3, k4⟩, hC, hR, hc, hJ⟩ := hz
  have hP := hL.1
  have hT1 := hT.1
  refine ⟨nI (P - F), ν1, ?_, ?_, hz2⟩
  · rw [hL.2.1, k2, w_sub k1]
  · have e1 := up_loop' (fun n x s => f_X8_kept_L9 ν1 n s x) P (fun s => some (s, ν1)) (fun q s => if nI T - 10080 < ν1 6 q then s + 1 else s) ?_ ?_ P fuel 0 0 (by omega) (by unfold fuel; omega)
    · show f_X8_kept_L9 ν1 fuel 0 0 = _
      have : (0 : Int32) = nI 0 := rfl
      rw [show f_X8_kept_L9 ν1 fuel 0 0 = f_X8_kept_L9 ν1 fuel 0 (nI 0) from rfl, e1]
      rw [fo_cut (h := fun _ s => s + 1) k1 0 (fun q hq b => ?_) (fun q h1 h2 b => ?_)]
      · rw [show (0 : Int32) = nI 0 from rfl, fo_one, Nat.zero_add]
      · rw [if_neg]
        have := k3 q hq
        rw [lt_I, show (nI T - 10080).toInt = (T : Int) - 10080 from subI (a := T) (b := 10080) (by omega) (by omega)]; omega
      · rw [if_pos]
        have := k4 q h1 h2
        rw [lt_I, show (nI T - 10080).toInt = (T : Int) - 10080 from subI (a := T) (b := 10080) (by omega) (by omega)]; omega
    · intro n s
      show f_X8_kept_L9 ν1 (n + 1) s (nI P) = _
      unfold f_X8_kept_L9
      rw [hL.2.2.1, if_pos (by rw [w_le (by omega) (by omega)]; omega)]
    · intro n q s hq
      show f_X8_kept_L9 ν1 (n + 1) s (nI q) = _
      conv => lhs; unfold f_X8_kept_L9
      obtain ⟨m, hm, em⟩ := Led_min hL hq
      have hle : ν1 6 q ≤ nI T := by rw [em, w_le (by omega) (by omega)]; exact hm
      rw [hL.2.2.1, if_neg (by rw [w_le (by omega) (by omega)]; omega), isIn_eq (by omega), hT.2.2.1, decide_eq_true hle, Bool.and_true, Option.bind_some, w_succ, Int32.add_zero]
      by_cases h2 : nI T - 10080 < ν1 6 q
      · rw [if_pos h2, decide_eq_true h2]; rfl
      · rw [if_neg h2, decide_eq_false h2]; rfl
end
section
/-! ===== L3: thresholds, decisions, rules ===== -/
theorem half {a : Nat} (ha : a < 100000) : nI a / 2 = nI (a / 2) := by
  apply Int32.toInt_inj.mp
  rw [Int32.toInt_div, w_int (by omega), w_int (by omega), show ((2 : Int32).toInt = 2) from rfl]
  rw [Int.tdiv_eq_ediv_of_nonneg (by omega), fb_bmod (by omega) (by omega)]
  omega
theorem score_small {P N : Nat} {μ ν : Mm} {C : Nat} (hR : Rul C N μ ν) (h : Cas P N μ ν) {p : Nat} (hp : p < P) : ∃ s, s ≤ 1200 ∧ ν 9 p = nI s := by
  obtain ⟨_, _, e1, e2⟩ := h.2 p hp
  obtain ⟨n1, n2, n3, n4, n5, n6⟩ := hR
  rw [← e1, e2]
  have := fo_inv (g := wgS ν (μ 32 p)) (fun q s => ∃ n, n ≤ 100 * q ∧ s = nI n) N 0 0 ⟨0, by omega, rfl⟩ (by
    intro q b _ hq hI
    obtain ⟨n, hn, e⟩ := hI
    obtain ⟨c, w, _, hw1, hw2, _, _, _, e3⟩ := n6 q (by omega)
    unfold wgS
    by_cases hb : bt (μ 32 p) q = true
    · rw [if_pos hb, e, e3, w_add]; exact ⟨n + w, by omega, rfl⟩
    · rw [if_neg hb]; exact ⟨n, by omega, e⟩)
  obtain ⟨n, hn, e⟩ := this
  exact ⟨n, by omega, e⟩
/-- how many clear ones a threshold of b would have stopped -/
def cl (ν : Mm) (P b : Nat) : Nat := fb_ct (dcd ν 99 (nI b)) P
theorem cl_mono {C P N : Nat} {μ ν : Mm} (hR : Rul C N μ ν) (h : Cas P N μ ν) {a b : Nat} (hab : a ≤ b) (hb : b ≤ 5000) : cl ν P b ≤ cl ν P a := by
  apply fb_ct_sub
  intro k hk hd
  obtain ⟨s, hs, e⟩ := score_small hR h hk
  unfold dcd at hd ⊢
  rw [e] at hd ⊢
  simp only [Bool.and_eq_true, decide_eq_true_eq, Bool.not_eq_true', decide_eq_false_iff_not] at hd ⊢
  rw [w_lt (by omega) (by omega)] at hd ⊢
  exact ⟨hd.1, by omega⟩
theorem cl_top {C P N : Nat} {μ ν : Mm} (hR : Rul C N μ ν) (h : Cas P N μ ν) : cl ν P 1201 = 0 := by
  apply fb_ct_zero.mpr
  intro k hk
  obtain ⟨s, hs, e⟩ := score_small hR h hk
  unfold dcd
  rw [e, decide_eq_true (show nI s < nI 1201 from (w_lt (by omega) (by omega)).mpr (by omega))]
  simp
theorem cl_le (ν : Mm) (P b : Nat) : cl ν P b ≤ P := fb_ct_le _ _
def bst (ν : Mm) (P x : Nat) : Nat := fst1 (fun b => decide (cl ν P b ≤ x)) 1 1200
theorem bst_ok {C P N : Nat} {μ ν : Mm} (hR : Rul C N μ ν) (h : Cas P N μ ν) (x : Nat) : 1 ≤ bst ν P x ∧ bst ν P x ≤ 1201 ∧ (∀ b, 1 ≤ b → b < bst ν P x → x < cl ν P b) ∧ cl ν P (bst ν P x) ≤ x := by
  refine ⟨fst1_ge _ _, fst1_le _ _, fun b h1 h2 => ?_, ?_⟩
  · have := fst1_no _ _ b h1 h2
    simpa using this
  · rcases Nat.lt_or_ge (bst ν P x) 1201 with h1 | h1
    · have := fst1_yes (p := fun b => decide (cl ν P b ≤ x)) 1200 1 h1
      exact of_decide_eq_true this
    · have h2 : bst ν P x = 1201 := by have := fst1_le (p := fun b => decide (cl ν P b ≤ x)) 1200 1; unfold bst at h1 ⊢; omega
      rw [h2, cl_top hR h]; omega
theorem try_eq {C P N x : Nat} {μ ν : Mm} (hP : P ≤ 200) (e : μ 5 4 = nI P) (hR : Rul C N μ ν) (h : Cas P N μ ν) (hx : x ≤ 200) (K : Int32 → Option (Nat × Int32)) : f_X7_bestThresholdByTrying_L6 K (nI x) μ fuel (nI 1) = K (nI (bst ν P x)) := by
  refine find_loop (fun n y => f_X7_bestThresholdByTrying_L6 K (nI x) μ n y) 1201 (fun q => K (nI q)) (fun b => decide (cl ν P b ≤ x)) ?_ ?_ 1200 fuel 1 (by omega) (by unfold fuel; omega)
  · intro n
    show f_X7_bestThresholdByTrying_L6 K (nI x) μ (n + 1) (nI 1201) = _
    unfold f_X7_bestThresholdByTrying_L6
    rw [if_pos (show (1201 : Int32) ≤ nI 1201 from by decide)]
  · intro n q hq
    show f_X7_bestThresholdByTrying_L6 K (nI x) μ (n + 1) (nI q) = _
    conv => lhs; unfold f_X7_bestThresholdByTrying_L6
    rw [if_neg (show ¬ (1201 : Int32) ≤ nI q from by rw [show (1201 : Int32) = nI 1201 from rfl, w_le (by omega) (by omega)]; omega), countD_eq hP e (Cas_e h), Option.bind_some, w_succ]
    have := cl_le ν P q
    show (if nI (cl ν P q) ≤ nI x then _ else _) = _
    by_cases h2 : cl ν P q ≤ x
    · rw [if_pos ((w_le (by omega) (by omega)).mpr h2), if_pos (by simpa using h2)]
    · rw [if_neg (by rw [w_le (by omega) (by omega)]; exact h2), if_neg (by simpa using h2)]
theorem mBest_eq {C P N x : Nat} {μ ν : Mm} (hP : P ≤ 200) (e : ν 0 15 = nI P) (hR : Rul C N μ ν) (h : Cas P N μ ν) (hx : x ≤ 200) : f_X8_bestThreshold_L24 (nI x) ν fuel 1 = some (nI (bst ν P x), ν) := by
  have step : ∀ n q, q ≤ 1201 → f_X8_bestThreshold_L24 (nI x) ν (n + 1) (nI q) = if cl ν P q ≤ x then some (nI q, ν) else f_X8_bestThreshold_L24 (nI x) ν n (nI (q + 1)) := by
    intro n q hq
    conv => lhs; unfold f_X8_bestThreshold_L24
    rw [decided_eq hP e, Option.bind_some, w_succ]
    have := cl_le ν P q
    show (if nI (cl ν P q) ≤ nI x then _ else _) = _
    by_cases h2 : cl ν P q ≤ x
    · rw [if_pos ((w_le (by omega) (by omega)).mpr h2), if_pos h2]
    · rw [if_neg (by rw [w_le (by omega) (by omega)]; exact h2), if_neg h2]
  refine find_loop (fun n y => f_X8_bestThreshold_L24 (nI x) ν n y) 1201 (fun q => some (nI q, ν)) (fun b => decide (cl ν P b ≤ x)) ?_ ?_ 1200 fuel 1 (by omega) (by unfold fuel; omega)
  · intro n
    show f_X8_bestThreshold_L24 (nI x) ν (n + 1) (nI 1201) = _
    rw [step n 1201 (by omega), cl_top hR h, if_pos (by omega)]
  · intro n q hq
    show f_X8_bestThreshold_L24 (nI x) ν (n + 1) (nI q) = _
    rw [step n q (by omega)]
    simp only [decide_eq_true_eq]
theorem bin_eq {C P N x : Nat} {μ ν : Mm} (hP : P ≤ 200) (e : μ 5 4 = nI P) (hR : Rul C N μ ν) (h : Cas P N μ ν) (hx : x ≤ 200) (K : Int32 → Option (Nat × Int32)) :
    ∀ (n l u k : Nat), 1 ≤ l → l ≤ bst ν P x → bst ν P x ≤ u → u ≤ 1201 → (u - l) + k ≤ 1200 → u - l < n → f_X7_bestThreshold_L13 K (nI x) μ n (nI l) (nI u) (nI k) = K (nI (bst ν P x))
  | 0, _, _, _, _, _, _, _, _, h => by omega
  | n + 1, l, u, k, h1, h2, h3, h4, h5, h6 => by
    obtain ⟨b1, b2, b3, b4⟩ := bst_ok hR h x
    unfold f_X7_bestThreshold_L13
    rw [if_neg (show ¬ (1201 : Int32) ≤ nI k from by rw [show (1201 : Int32) = nI 1201 from rfl, w_le (by omega) (by omega)]; omega)]
    by_cases hul : u ≤ l
    · rw [if_pos ((w_le (by omega) (by omega)).mpr hul)]
      have : l = bst ν P x := by omega
      rw [this]
    · rw [if_neg (by rw [w_le (by omega) (by omega)]; exact hul), w_add, half (by omega), countD_eq hP e (Cas_e h), Option.bind_some, w_succ, w_succ]
      have hc := cl_le ν P ((l + u) / 2)
      show (if nI x < nI (cl ν P ((l + u) / 2)) then _ else _) = _
      by_cases hm : x < cl ν P ((l + u) / 2)
      · rw [if_pos ((w_lt (by omega) (by omega)).mpr hm)]
        refine bin_eq hP e hR h hx K n _ u (k + 1) (by omega) ?_ h3 h4 (by omega) (by omega)
        apply Nat.lt_of_not_le
        intro hle
        have := cl_mono hR h hle (by omega)
        omega
      · rw [if_neg (by rw [w_lt (by omega) (by omega)]; exact hm)]
        refine bin_eq hP e hR h hx K n l _ (k + 1) h1 h2 ?_ (by omega) (by omega) (by omega)
        apply Nat.le_of_not_lt
        intro hlt
        have := b3 _ (by omega) hlt
        omega
theorem op_bestThresholdByTrying {t : Nat} {μ ν : Mm} (a : Int32) (o : Nat → Int64) (h : R t μ ν) : ∃ c o' w ν', f_L_bestThresholdByTrying_0_o a μ o = some (c, o') ∧ f_X8_bestThresholdByTrying a ν = some (w, ν') ∧ Res t c o' w μ ν' := by
  have hz : R t μ (up2 ν 0 0 0) := R_thr 0 h
  unfold f_X8_bestThresholdByTrying f_X8_bestThreshold f_L_bestThresholdByTrying_0_o f_X7_bestThresholdByTrying f_X7_requireMost
  generalize e : up2 ν 0 0 0 = ν1 at hz ⊢
  have z : ν1 0 0 = 0 := by rw [← e]; rfl
  have hz2 := hz
  obtain ⟨ht, A, T, P, F, C, N, hA, hT, hL, hK, hC, hR, hc, hJ⟩ := hz
  rw [btwI]
  rcases span_cases a 0 200 (by decide) with ⟨h1, h2⟩ | ⟨h1, h2, h3⟩ | ⟨h1, h2, h3⟩
  · rw [if_pos h1, decide_eq_false h2]
    exact ⟨1, o, 0, up2 ν1 0 0 1, rfl, rfl, rfl, fun h => absurd h (by decide), R_thr 1 hz2⟩
  · rw [if_neg h1, if_pos h2, decide_eq_true h3]
    rw [show ((0 : Int32).toInt = 0) from rfl, show ((200 : Int32).toInt = 200) from rfl] at h3
    obtain ⟨n, hn2, rfl⟩ : ∃ n, n ≤ 200 ∧ a = nI n := ⟨a.toInt.toNat, by omega, w_inj (by omega)⟩
    rw [Option.bind_some, Option.bind_some, if_pos rfl, b2_t, if_neg (by decide)]
    rw [show (1 : Int32) = nI 1 from rfl, try_eq hL.1 hL.2.1 hR hc hn2, show nI 1 = (1 : Int32) from rfl, mBest_eq hL.1 hL.2.2.1 hR hc hn2]
    generalize bst ν1 P n = r
    exact ⟨0, _, _, ν1, rfl, rfl, z, fun _ => rfl, hz2⟩
  · rw [if_neg h1, if_neg h2, decide_eq_false h3]
    exact ⟨1, o, 0, up2 ν1 0 0 1, rfl, rfl, rfl, fun h => absurd h (by decide), R_thr 1 hz2⟩
theorem op_bestThreshold {t : Nat} {μ ν : Mm} (a : Int32) (o : Nat → Int64) (h : R t μ ν) : ∃ c o' w ν', f_L_bestThreshold_0_o a μ o = some (c, o') ∧ f_X8_bestThreshold a ν = some (w, ν') ∧ Res t c o' w μ ν' := by
  have hz : R t μ (up2 ν 0 0 0) := R_thr 0 h
  unfold f_X8_bestThreshold f_L_bestThreshold_0_o f_X7_bestThreshold f_X7_requireMost
  generalize e : up2 ν 0 0 0 = ν1 at hz ⊢
  have z : ν1 0 0 = 0 := by rw [← e]; rfl
  have hz2 := hz
  obtain ⟨ht, A, T, P, F, C, N, hA, hT, hL, hK, hC, hR, hc, hJ⟩ := hz
  rw [btwI]
  rcases span_cases a 0 200 (by decide) with ⟨h1, h2⟩ | ⟨h1, h2, h3⟩ | ⟨h1, h2, h3⟩
  · rw [if_pos h1, decide_eq_false h2]
    exact ⟨1, o, 0, up2 ν1 0 0 1, rfl, rfl, rfl, fun h => absurd h (by decide), R_thr 1 hz2⟩
  · rw [if_neg h1, if_pos h2, decide_eq_true h3]
    rw [show ((0 : Int32).toInt = 0) from rfl, show ((200 : Int32).toInt = 200) from rfl] at h3
    obtain ⟨n, hn2, rfl⟩ : ∃ n, n ≤ 200 ∧ a = nI n := ⟨a.toInt.toNat, by omega, w_inj (by omega)⟩
    obtain ⟨b1, b2, b3, b4⟩ := bst_ok hR hc n
    rw [Option.bind_some, Option.bind_some, if_pos rfl, b2_t, if_neg (by decide)]
    rw [mBest_eq hL.1 hL.2.2.1 hR hc hn2, show (1 : Int32) = nI 1 from rfl, show (1201 : Int32) = nI 1201 from rfl, show (0 : Int32) = nI 0 from rfl, bin_eq hL.1 hL.2.1 hR hc hn2 _ fuel 1 1201 0 (by omega) b1 b2 (by omega) (by omega) (by unfold fuel; omega)]
    generalize bst ν1 P n = r
    exact ⟨0, _, _, ν1, rfl, rfl, z, fun _ => rfl, hz2⟩
  · rw [if_neg h1, if_neg h2, decide_eq_false h3]
    exact ⟨1, o, 0, up2 ν1 0 0 1, rfl, rfl, rfl, fun h => absurd h (by decide), R_thr 1 hz2⟩
theorem Cas_close {P N j : Nat} {v : Int32} {μ ν : Mm} (hN : N ≤ 12) (h : Cas P N μ ν) (hj : j < P) (h111 : ν 10 j = 111) (hv : isAl v) (hv2 : v ≠ 111) : (nI (fb_ct (fun p => decide (ν 10 p = 111)) P) - 1 = nI (fb_ct (fun p => decide ((up2 ν 10 j v) 10 p = 111)) P)) ∧ Cas P N (up2 (up2 μ 31 j v) 29 5 (nI (fb_ct (fun p => decide (ν 10 p = 111)) P) - 1)) (up2 ν 10 j v) := by
  obtain ⟨c1, c2⟩ := h
  have e1 : fb_ct (fun p => decide ((up2 ν 10 j v) 10 p = 111)) P + 1 = fb_ct (fun p => decide (ν 10 p = 111)) P := by
    have := fb_ct_upd (fun p => decide (ν 10 p = 111)) false hj
    have e2 : (fun k => if k = j then false else (fun p => decide (ν 10 p = 111)) k) = (fun p => decide ((up2 ν 10 j v) 10 p = 111)) := by
      funext k
      show _ = decide ((if k = j then v else ν 10 k) = 111)
      by_cases hk : k = j
      · rw [if_pos hk, if_pos hk, decide_eq_false hv2]
      · rw [if_neg hk, if_neg hk]
    rw [e2] at this
    simp only [h111, decide_true, if_true] at this
    simpa using this
  have e2 : nI (fb_ct (fun p => decide (ν 10 p = 111)) P) - 1 = nI (fb_ct (fun p => decide ((up2 ν 10 j v) 10 p = 111)) P) := by
    rw [← e1, w_pred]
  refine ⟨e2, e2, fun p hp => ?_⟩
  obtain ⟨d1, d2, d3, d4⟩ := c2 p hp
  refine ⟨?_, ?_, d3, d4⟩
  · show (if p = j then v else μ 31 p) = (if p = j then v else ν 10 p)
    rw [d1]
  · show isAl (if p = j then v else ν 10 p)
    by_cases hk : p = j
    · rw [if_pos hk]; exact hv
    · rw [if_neg hk]; exact d2
theorem op_decide {t : Nat} {μ ν : Mm} (a x : Int32) (o : Nat → Int64) (h : R t μ ν) : ∃ c μ' o' w ν', f_L_decide_0_o a x μ o = some (c, μ', o') ∧ f_X8_decide a x ν = some (w, ν') ∧ Res t c o' w μ' ν' := by
  have hz : R t μ (up2 ν 0 0 0) := R_thr 0 h
  unfold f_X8_decide f_L_decide_0_o f_X7_decide
  generalize e : up2 ν 0 0 0 = ν1 at hz ⊢
  have z : ν1 0 0 = 0 := by rw [← e]; rfl
  have hz2 := hz
  obtain ⟨ht, A, T, P, F, C, N, hA, hT, hL, hK, hC, hR, hc, hJ⟩ := hz
  have hP := hL.1
  rcases idx_cases a P with hb | ⟨j, hj, rfl⟩
  · rw [reqP_bad hL.1 hL.2.1 hb, isP_bad hL.1 hL.2.2.1 hb]
    exact ⟨1, μ, o, 0, up2 ν1 0 0 1, rfl, rfl, rfl, fun h => absurd h (by decide), R_thr 1 hz2⟩
  · rw [reqP_ok hL.1 hL.2.1 hj, isP_ok hL.1 hL.2.2.1 hj]
    simp only [Option.bind_some, show ¬ ((1 : Int32) = 0) by decide, if_false, if_true]
    rw [chk_nI (show j < 200 by omega) (by omega), w_nat (by omega), (hc.2 j hj).1, chk_nI (show j < 200 by omega) (by omega)]
    by_cases h111 : ν1 10 j = 111
    · rw [if_pos h111, if_pos h111]
      unfold f_X7_decide_J46 f_X8_decide_J52 f_X2_close
      simp only [chk_nI (show j < 200 by omega) (show 200 < 2147483648 by omega), w_nat (show j < 2147483648 by omega), Option.bind_some]
      by_cases hx : x = 0
      · rw [if_pos hx, if_pos hx]
        obtain ⟨g1, g2⟩ := Cas_close (v := 99) hR.1 hc hj h111 (Or.inr (Or.inr (Or.inl rfl))) (by decide)
        have n99 : vp_nar .char 99 = 99 := narc (c := 99) (by omega)
        simp only [n99, hx, if_true, Option.bind_some]
        rw [many_eq (ν := up2 ν1 10 j 99) hL.1 hL.2.2.1]
        have e29 : (up2 μ 31 j 99) 29 5 = nI (fb_ct (fun p => decide (ν1 10 p = 111)) P) := hc.1
        rw [e29]
        refine ⟨0, _, _, _, _, rfl, rfl, z, fun _ => ?_, ?_⟩
        · rw [← g1]; rfl
        · refine ⟨ht, A, T, P, F, C, N, hA, hT, hL, hK, hC, hR, g2, ?_⟩
          exact Jud_u hC hR hJ ⟨rfl, rfl, rfl, rfl, rfl, rfl, rfl, rfl, rfl, rfl, rfl, rfl, rfl, rfl, rfl, rfl⟩ ⟨rfl, rfl, rfl⟩
      · rw [if_neg hx, if_neg hx]
        obtain ⟨g1, g2⟩ := Cas_close (v := 102) hR.1 hc hj h111 (Or.inr (Or.inr (Or.inr rfl))) (by decide)
        have n99 : vp_nar .char 102 = 102 := narc (c := 102) (by omega)
        have e29 : (up2 μ 31 j 102) 29 5 = nI (fb_ct (fun p => decide (ν1 10 p = 111)) P) := hc.1
        simp only [n99, hx, if_false, Option.bind_some]
        rw [e29]
        generalize hμ : up2 (up2 μ 31 j 102) 29 5 (nI (fb_ct (fun p => decide (ν1 10 p = 111)) P) - 1) = μ2 at g2 ⊢
        generalize hν : up2 ν1 10 j 102 = ν2 at g1 g2 ⊢
        have m7 : μ2 7 j = ν1 4 j := by rw [← hμ]; exact (hL.2.2.2.1 j hj).2.1
        have m4 : ν2 4 j = ν1 4 j := by rw [← hν]; rfl
        have m3 : μ2 2 3 = ν2 0 5 := by rw [← hμ, ← hν]; exact hA.2.2.2.1
        obtain ⟨pa, pb, pc, pm, y1, y2, y3, y4, y5, y6, y7, y8, y9⟩ := (hL.2.2.2.1 j hj).2.2.2.2
        rw [m7, m4, m3, y7, withBit1, with1]
        simp only [Option.bind_some]
        rw [many_eq (ν := up2 ν2 0 5 (sb (ν2 0 5) pb true)) hL.1 (by rw [← hν]; exact hL.2.2.1)]
        have e30 : (up2 μ2 2 3 (sb (ν2 0 5) pb true)) 29 5 = nI (fb_ct (fun p => decide (ν2 10 p = 111)) P) := by rw [← g1, ← hμ]; rfl
        rw [e30]
        refine ⟨0, _, _, _, _, rfl, rfl, by rw [← hν]; exact z, fun _ => rfl, ?_⟩
        subst hμ hν
        refine ⟨ht, A, T, P, F, C, N, ⟨hA.1, hA.2.1, hA.2.2.1, rfl, hA.2.2.2.2⟩, hT, hL, hK, hC, hR, g2, ?_⟩
        exact Jud_u hC hR hJ ⟨rfl, rfl, rfl, rfl, rfl, rfl, rfl, rfl, rfl, rfl, rfl, rfl, rfl, rfl, rfl, rfl⟩ ⟨rfl, rfl, rfl⟩
    · rw [if_neg h111, if_neg h111]
      exact ⟨2, μ, o, 0, up2 ν1 0 0 2, rfl, rfl, rfl, fun h => absurd h (by decide), R_thr 2 hz2⟩
end
section
/-! ===== L3: rules, conditions ===== -/
theorem Jud1_N {C N p : Nat} {μ ν μ' ν' : Mm} (hC30 : C ≤ 30) (hc : ∀ j, j < C → Cnd μ ν j) (hs : Sst C p ν ν') (hN : ∀ r, r < N → rcN ν r < C) (hr : ∀ r, r < N → ν' 20 r = ν 20 r)
    (h7 : ν' 7 p = ν 7 p) (h8 : ν' 8 p = ν 8 p) (h32 : μ' 32 p = μ 32 p) (h33 : μ' 33 p = μ 33 p) (h34 : ∀ c, c < 30 → μ' 34 (30 * p + c) = μ 34 (30 * p + c)) (h : Jud1 C N μ ν p) : Jud1 C (N + 1) μ' ν' p := by
  obtain ⟨k, hk, j1, j2, j3, j4⟩ := Jud1_st hC30 (Nat.le_refl C) hc hs hN hr h7 h8 h32 h33 h34 h
  refine ⟨k, hk, fun i hi => j1 i (by omega), ?_, ?_, j4⟩
  · intro r hr2
    rcases Nat.lt_or_ge r N with h | h
    · exact j2 r h
    · obtain ⟨d1, d2⟩ := j1 r h
      rw [d1, d2]; rfl
  · intro r hr2
    rcases Nat.lt_or_ge r N with h | h
    · exact j3 r h
    · rw [(j1 r h).2]; intro h2; cases h2
theorem op_addRule {t : Nat} {μ ν : Mm} (a x : Int32) (o : Nat → Int64) (h : R t μ ν) : ∃ c μ' o' w ν', f_L_addRule_0_o a x μ o = some (c, μ', o') ∧ f_X8_addRule a x ν = some (w, ν') ∧ Res t c o' w μ' ν' := by
  have hz : R t μ (up2 ν 0 0 0) := R_thr 0 h
  unfold f_X8_addRule f_L_addRule_0_o f_X7_addRule
  generalize e : up2 ν 0 0 0 = ν1 at hz ⊢
  have z : ν1 0 0 = 0 := by rw [← e]; rfl
  have hz2 := hz
  obtain ⟨ht, A, T, P, F, C, N, hA, hT, hL, hK, hC, hR, hc, hJ⟩ := hz
  rcases idx_cases a C with hb | ⟨j, hj, rfl⟩
  · rw [reqC_bad hC.1 hC.2.1 hb, isC_bad hC.1 hC.2.2.1 hb]
    exact ⟨1, μ, o, 0, up2 ν1 0 0 1, rfl, rfl, rfl, fun h => absurd h (by decide), R_thr 1 hz2⟩
  rw [reqC_ok hC.1 hC.2.1 hj, isC_ok hC.1 hC.2.2.1 hj, btwI]
  simp only [Option.bind_some, show ¬ ((1 : Int32) = 0) by decide, if_false, if_true]
  rcases span_cases x 1 100 (by decide) with ⟨h1, h2⟩ | ⟨h1, h2, h3⟩ | ⟨h1, h2, h3⟩
  · rw [if_pos h1, decide_eq_false h2]
    exact ⟨2, μ, o, 0, up2 ν1 0 0 2, rfl, rfl, rfl, fun h => absurd h (by decide), R_thr 2 hz2⟩
  · rw [if_neg h1, if_pos h2, decide_eq_true h3]
    rw [show ((1 : Int32).toInt = 1) from rfl, show ((100 : Int32).toInt = 100) from rfl] at h3
    obtain ⟨n, hn1, hn2, rfl⟩ : ∃ n, 1 ≤ n ∧ n ≤ 100 ∧ x = nI n := ⟨x.toInt.toNat, by omega, by omega, w_inj (by omega)⟩
    obtain ⟨n1, n2, n3, n4, n5, n6⟩ := id hR
    simp only [Option.bind_some, b2_t, show ¬ ((1 : Int32) = 0) by decide, if_false, n2, n3]
    by_cases hf : N < 12
    · rw [if_pos (show nI N < 12 from (w_lt (b := 12) (by omega) (by omega)).mpr hf), if_neg (show ¬ nI N = 12 from fun hh => by rw [show (12 : Int32) = nI 12 from rfl, w_eq (by omega) (by omega)] at hh; omega)]
      unfold f_X6_append setm
      have eN : (nI N).toNatClampNeg = N := w_nat (by omega)
      simp only [n2, n3, eN, show (up2 μ 27 N (nI j)) 26 3 = μ 26 3 from rfl, show (up2 ν1 20 N (nI j)) 0 29 = ν1 0 29 from rfl, show (up2 (up2 μ 27 N (nI j)) 28 N (nI n)) 26 3 = μ 26 3 from rfl, show (up2 (up2 μ 27 N (nI j)) 28 N (nI n)) 26 2 = μ 26 2 from rfl, show (up2 (up2 ν1 20 N (nI j)) 21 N (nI n)) 0 30 = ν1 0 30 from rfl, show (up2 (up2 ν1 20 N (nI j)) 21 N (nI n)) 0 29 = ν1 0 29 from rfl, chk_nI hf (show 12 < 2147483648 by omega), n4, withBit1, with1, Option.bind_some]
      refine ⟨0, up2 (up2 (up2 (up2 μ 27 N (nI j)) 28 N (nI n)) 26 2 (sb (ν1 0 30) N true)) 26 3 (nI N + 1), vp_updL o (0 : Int32).toNatClampNeg (nI N).toInt64, nI N, up2 (up2 (up2 (up2 ν1 20 N (nI j)) 21 N (nI n)) 0 30 (sb (ν1 0 30) N true)) 0 29 (nI N + 1), ?_, ?_, z, fun _ => rfl, ?_⟩
      · have e3 : (up2 (up2 (up2 μ 27 N (nI j)) 28 N (nI n)) 26 2 (sb (ν1 0 30) N true)) 26 3 = nI N := n2
        rw [e3]; rfl
      · have e3 : (up2 (up2 (up2 ν1 20 N (nI j)) 21 N (nI n)) 0 30 (sb (ν1 0 30) N true)) 0 29 = nI N := n3
        rw [e3]
        show some (nI N + 1 - 1, _) = _
        rw [w_succ, w_pred]
      · have er : ∀ r, r < N → (up2 (up2 (up2 (up2 ν1 20 N (nI j)) 21 N (nI n)) 0 30 (sb (ν1 0 30) N true)) 0 29 (nI N + 1)) 20 r = ν1 20 r := by
          intro r hr
          show (if r = N then nI j else ν1 20 r) = _
          rw [if_neg (by omega)]
        refine ⟨ht, A, T, P, F, C, N + 1, hA, hT, hL, hK, hC, ⟨by omega, w_succ N, w_succ N, rfl, ?_, ?_⟩, ?_, ?_⟩
        · intro i hi
          show bt (sb (ν1 0 30) N true) i = false
          rcases Nat.lt_or_ge i 32 with h32 | h32
          · rw [bt_sb _ _ (by omega) h32, if_neg (by omega)]; exact n5 i (by omega)
          · exact b_big h32
        · intro r hr
          show ∃ c w, c < C ∧ 1 ≤ w ∧ w ≤ 100 ∧ (if r = N then nI j else μ 27 r) = nI c ∧ (if r = N then nI j else ν1 20 r) = nI c ∧ (if r = N then nI n else μ 28 r) = nI w ∧ (if r = N then nI n else ν1 21 r) = nI w
          by_cases hrn : r = N
          · simp only [if_pos hrn]
            exact ⟨j, n, hj, hn1, hn2, rfl, rfl, rfl, rfl⟩
          · simp only [if_neg hrn]
            exact n6 r (by omega)
        · refine ⟨hc.1, fun p hp => ?_⟩
          obtain ⟨d1, d2, d3, d4⟩ := hc.2 p hp
          refine ⟨d1, d2, d3, ?_⟩
          show μ 30 p = fo _ 0 (N + 1) 0
          rw [fo_succ, d4, Nat.zero_add]
          obtain ⟨_, _, j1, _⟩ := hJ p hp
          show _ = (if bt (μ 32 p) N = true then _ else _)
          rw [if_neg (by rw [(j1 N (Nat.le_refl N)).2]; simp)]
          apply fo_congr
          intro q _ hq s
          show wgS ν1 (μ 32 p) q s = (if bt (μ 32 p) q = true then s + (if q = N then nI n else ν1 21 q) else s)
          rw [if_neg (show ¬ q = N by omega)]; rfl
        · intro p hp
          exact Jud1_N hC.1 hC.2.2.2.2.2 ⟨fun j _ => ⟨rfl, rfl, rfl, rfl, rfl, rfl, rfl⟩, Sst_cut (fun q _ => ⟨rfl, rfl, rfl, rfl, rfl, rfl⟩)⟩ (fun r hr => Rul_rc hC.1 hR hr) er rfl rfl rfl rfl (fun c _ => rfl) (hJ p hp)
    · have hN12 : N = 12 := by omega
      subst hN12
      exact ⟨3, μ, o, 0, up2 ν1 0 0 3, rfl, rfl, rfl, fun h => absurd h (by decide), R_thr 3 hz2⟩
  · rw [if_neg h1, if_neg h2, decide_eq_false h3]
    exact ⟨2, μ, o, 0, up2 ν1 0 0 2, rfl, rfl, rfl, fun h => absurd h (by decide), R_thr 2 hz2⟩
end
section
/-! ===== L3: the order of the open alerts ===== -/
def opn (ν : Mm) (p : Nat) : Bool := decide (ν 10 p = 111)
def ahd (ν : Mm) (a b : Nat) : Bool := decide (ν 9 b < ν 9 a) || (decide (ν 9 a = ν 9 b) && decide (a < b))
def rk (ν : Mm) (P q : Nat) : Nat := fb_ct (fun x => opn ν x && ahd ν x q) P
theorem isAhead_eq {P a b : Nat} {μ ν : Mm} (hP : P ≤ 200) (hc : ∀ p, p < P → μ 31 p = ν 10 p ∧ μ 30 p = ν 9 p) (ha : a < P) (hb : b < P) : f_X2_isAhead (nI a) (nI b) μ = some (b2 (ahd ν a b)) := by
  unfold f_X2_isAhead ahd
  simp only [chk_nI (show a < 200 by omega) (show 200 < 2147483648 by omega), chk_nI (show b < 200 by omega) (show 200 < 2147483648 by omega), w_nat (show a < 2147483648 by omega), w_nat (show b < 2147483648 by omega), (hc a ha).2, (hc b hb).2]
  by_cases h1 : ν 9 b < ν 9 a
  · rw [if_pos h1, decide_eq_true h1]; rfl
  · rw [if_neg h1, decide_eq_false h1]
    by_cases h2 : ν 9 a = ν 9 b
    · rw [if_pos h2, decide_eq_true h2]
      by_cases h3 : b ≤ a
      · rw [if_pos ((w_le (by omega) (by omega)).mpr h3), decide_eq_false (show ¬ a < b by omega)]; rfl
      · rw [if_neg (by rw [w_le (by omega) (by omega)]; exact h3), decide_eq_true (show a < b by omega)]; rfl
    · rw [if_neg h2, decide_eq_false h2]; rfl
theorem countAhead_eq {P q : Nat} {μ ν : Mm} (hP : P ≤ 200) (hc : ∀ p, p < P → μ 31 p = ν 10 p ∧ μ 30 p = ν 9 p) (hq : q < P) : f_X2_countAhead (nI q) (nI P) μ = some (nI (rk ν P q)) := by
  unfold f_X2_countAhead rk
  rw [← fo_ct]
  refine up_loop' (fun n x s => f_X2_countAhead_L5 (nI q) (nI P) μ n s x) P (fun s => some s) _ ?_ ?_ P fuel 0 0 (by omega) (by unfold fuel; omega)
  · intro n s
    show f_X2_countAhead_L5 (nI q) (nI P) μ (n + 1) s (nI P) = _
    unfold f_X2_countAhead_L5
    rw [if_pos (by rw [w_le (by omega) (by omega)]; omega)]
  · intro n i s hi
    show f_X2_countAhead_L5 (nI q) (nI P) μ (n + 1) s (nI i) = _
    conv => lhs; unfold f_X2_countAhead_L5
    rw [if_neg (by rw [w_le (by omega) (by omega)]; omega), chk_nI (show i < 200 by omega) (by omega), w_nat (by omega), w_succ, (hc i hi).1, isAhead_eq hP hc hi hq, Option.bind_some]
    unfold opn
    by_cases h : ν 10 i = 111
    · rw [if_pos h, decide_eq_true h, Bool.true_and]
      cases h2 : ahd ν i q
      · rw [b2_f, if_pos rfl, if_neg (by simp)]
      · rw [b2_t, if_neg (by decide), if_pos rfl]
    · rw [if_neg h, decide_eq_false h, Bool.false_and, if_neg (by simp)]
def rkP (ν : Mm) (P : Nat) (a : Int32) (q : Nat) : Bool := opn ν q && decide (nI (rk ν P q) = a)
theorem openAt_eq {P : Nat} {a : Int32} {μ ν : Mm} (hP : P ≤ 200) (hc : ∀ p, p < P → μ 31 p = ν 10 p ∧ μ 30 p = ν 9 p) : f_X2_openAtRank a (nI P) μ = some (if fst1 (rkP ν P a) 0 P = P then -1 else nI (fst1 (rkP ν P a) 0 P)) := by
  unfold f_X2_openAtRank
  refine find_loop (fun n x => f_X2_openAtRank_L2 a (nI P) μ n x) P (fun q => some (if q = P then -1 else nI q)) (rkP ν P a) ?_ ?_ P fuel 0 (by omega) (by unfold fuel; omega)
  · intro n
    show f_X2_openAtRank_L2 a (nI P) μ (n + 1) (nI P) = _
    unfold f_X2_openAtRank_L2
    rw [if_pos (by rw [w_le (by omega) (by omega)]; omega), if_pos rfl]
  · intro n i hi
    show f_X2_openAtRank_L2 a (nI P) μ (n + 1) (nI i) = _
    conv => lhs; unfold f_X2_openAtRank_L2
    rw [if_neg (by rw [w_le (by omega) (by omega)]; omega), chk_nI (show i < 200 by omega) (by omega), w_nat (by omega), w_succ, (hc i hi).1, countAhead_eq hP hc hi, Option.bind_some, if_neg (show ¬ i = P by omega)]
    unfold rkP opn
    by_cases h : ν 10 i = 111
    · rw [if_pos h, decide_eq_true h, Bool.true_and]
      by_cases h2 : nI (rk ν P i) = a
      · rw [if_pos h2, if_pos (decide_eq_true h2)]
      · rw [if_neg h2, if_neg (by simpa using h2)]
    · rw [if_neg h, decide_eq_false h, Bool.false_and, if_neg (by simp)]
theorem ranked_eq {P : Nat} {a : Int32} {ν : Mm} (hP : P ≤ 200) (e : ν 0 15 = nI P) : f_X8_ranked a ν = some (if fst1 (rkP ν P a) 0 P = P then -1 else nI (fst1 (rkP ν P a) 0 P)) := by
  unfold f_X8_ranked
  refine find_loop (fun n x => f_X8_ranked_L2 a ν n x) P (fun q => some (if q = P then -1 else nI q)) (rkP ν P a) ?_ ?_ P fuel 0 (by omega) (by unfold fuel; omega)
  · intro n
    show f_X8_ranked_L2 a ν (n + 1) (nI P) = _
    unfold f_X8_ranked_L2
    rw [e, if_pos (by rw [w_le (by omega) (by omega)]; omega), if_pos rfl]
  · intro n i hi
    show f_X8_ranked_L2 a ν (n + 1) (nI i) = _
    conv => lhs; unfold f_X8_ranked_L2
    rw [e, if_neg (by rw [w_le (by omega) (by omega)]; omega), chk_nI (show i < 200 by omega) (by omega), w_nat (by omega), w_succ, if_neg (show ¬ i = P by omega)]
    have inner : ∀ (kb : Int32 → Option Int32) (kx : Int32 → Option Int32), f_X8_ranked_L29 kb kx a (nI i) ν fuel 0 0 = kx (nI (rk ν P i)) := by
      intro kb kx
      unfold rk
      rw [← fo_ct]
      refine up_loop' (fun n x s => f_X8_ranked_L29 kb kx a (nI i) ν n s x) P kx _ ?_ ?_ P fuel 0 0 (by omega) (by unfold fuel; omega)
      · intro n s
        show f_X8_ranked_L29 kb kx a (nI i) ν (n + 1) s (nI P) = _
        unfold f_X8_ranked_L29
        rw [e, if_pos (by rw [w_le (by omega) (by omega)]; omega)]
      · intro n j s hj
        show f_X8_ranked_L29 kb kx a (nI i) ν (n + 1) s (nI j) = _
        conv => lhs; unfold f_X8_ranked_L29
        rw [e, if_neg (by rw [w_le (by omega) (by omega)]; omega), Int32.add_zero]
        simp only [chk_nI (show j < 200 by omega) (show 200 < 2147483648 by omega), chk_nI (show i < 200 by omega) (show 200 < 2147483648 by omega), w_nat (show j < 2147483648 by omega), w_nat (show i < 2147483648 by omega), w_succ]
        unfold opn ahd
        by_cases h : ν 10 j = 111
        · rw [if_pos h, decide_eq_true h, Bool.true_and]
          by_cases h1 : ν 9 i < ν 9 j
          · rw [if_pos h1, decide_eq_true h1, Bool.true_or, if_pos rfl]
          · rw [if_neg h1, decide_eq_false h1, Bool.false_or]
            by_cases h2 : ν 9 j = ν 9 i
            · rw [if_pos h2, decide_eq_true h2, Bool.true_and]
              by_cases h3 : i ≤ j
              · rw [if_pos ((w_le (by omega) (by omega)).mpr h3), decide_eq_false (show ¬ j < i by omega), if_neg (by simp)]
              · rw [if_neg (by rw [w_le (by omega) (by omega)]; exact h3), decide_eq_true (show j < i by omega), if_pos rfl]
            · rw [if_neg h2, decide_eq_false h2, Bool.false_and, if_neg (by simp)]
        · rw [if_neg h, decide_eq_false h, Bool.false_and, if_neg (by simp)]
    rw [inner]
    unfold rkP opn
    by_cases h : ν 10 i = 111
    · rw [if_pos h, decide_eq_true h, Bool.true_and]
      by_cases h2 : nI (rk ν P i) = a
      · rw [if_pos h2, if_pos (decide_eq_true h2)]
      · rw [if_neg h2, if_neg (by simpa using h2)]
    · rw [if_neg h, decide_eq_false h, Bool.false_and, if_neg (by simp)]
theorem m1_ne {q : Nat} (h : q < 100000) : ¬ (nI q = -1) := by
  intro h2
  have := congrArg Int32.toInt h2
  rw [w_int (by omega), show ((-1 : Int32).toInt = -1) from rfl] at this
  omega
theorem nn_nI {q : Nat} (h : q < 100000) : (0 : Int32) ≤ nI q := by
  rw [le_I, w_int (by omega), show ((0 : Int32).toInt = 0) from rfl]; omega
theorem op_alertAt {t : Nat} {μ ν : Mm} (a : Int32) (o : Nat → Int64) (h : R t μ ν) : ∃ c o' w ν', f_L_alertAt_0_o a μ o = some (c, o') ∧ f_X8_alertAt a ν = some (w, ν') ∧ Res t c o' w μ ν' := by
  have hz : R t μ (up2 ν 0 0 0) := R_thr 0 h
  unfold f_X8_alertAt f_L_alertAt_0_o f_X7_alertAt
  generalize e : up2 ν 0 0 0 = ν1 at hz ⊢
  have z : ν1 0 0 = 0 := by rw [← e]; rfl
  have hz2 := hz
  obtain ⟨ht, A, T, P, F, C, N, hA, hT, hL, hK, hC, hR, hc, hJ⟩ := hz
  have hP := hL.1
  rw [hL.2.1, openAt_eq hL.1 (Cas_e hc), ranked_eq hL.1 hL.2.2.1, Option.bind_some, Option.bind_some]
  have hle := fst1_le (p := rkP ν1 P a) P 0
  generalize fst1 (rkP ν1 P a) 0 P = q at hle ⊢
  by_cases hq : q = P
  · rw [if_pos hq]
    exact ⟨1, o, 0, up2 ν1 0 0 1, rfl, rfl, rfl, fun h => absurd h (by decide), R_thr 1 hz2⟩
  · rw [if_neg hq, if_neg (m1_ne (by omega)), if_pos (nn_nI (by omega))]
    exact ⟨0, _, _, ν1, rfl, rfl, z, fun _ => rfl, hz2⟩
/-- the component's fold for the first alert -/
def fstS (ν : Mm) (q : Nat) (b : Int32) : Int32 := if opn ν q = true then (if b = -1 then nI q else (if ahd ν q b.toNatClampNeg = true then nI q else b)) else b
theorem firstOpen_eq {P : Nat} {μ ν : Mm} (hP : P ≤ 200) (hc : ∀ p, p < P → μ 31 p = ν 10 p ∧ μ 30 p = ν 9 p) : f_X2_firstOpen (nI P) μ = some (fo (fstS ν) 0 P (-1)) := by
  unfold f_X2_firstOpen
  refine (up_loop (fun n x s => f_X2_firstOpen_L4 (nI P) μ n s x) P (fun s => some s) (fstS ν) (fun i b => b = -1 ∨ ∃ k, k < i ∧ b = nI k) ?_ ?_ P fuel 0 (-1) (by omega) (by unfold fuel; omega) (Or.inl rfl)).1
  · intro n s _
    show f_X2_firstOpen_L4 (nI P) μ (n + 1) s (nI P) = _
    unfold f_X2_firstOpen_L4
    rw [if_pos (by rw [w_le (by omega) (by omega)]; omega)]
  · intro n i s hi hI
    constructor
    · show f_X2_firstOpen_L4 (nI P) μ (n + 1) s (nI i) = _
      conv => lhs; unfold f_X2_firstOpen_L4
      rw [if_neg (by rw [w_le (by omega) (by omega)]; omega), chk_nI (show i < 200 by omega) (by omega), w_nat (by omega), w_succ, (hc i hi).1]
      unfold fstS
      by_cases h : ν 10 i = 111
      · have ho : opn ν i = true := decide_eq_true h
        rw [if_pos h, if_pos ho]
        by_cases hs : s = -1
        · rw [if_pos hs, if_pos hs]
        · rw [if_neg hs, if_neg hs]
          rcases hI with hI | ⟨k, hk, hI⟩
          · exact absurd hI hs
          · rw [hI, isAhead_eq hP hc hi (by omega), Option.bind_some, w_nat (by omega)]
            cases ahd ν i k
            · rw [b2_f, if_pos rfl, if_neg (by simp)]
            · rw [b2_t, if_neg (by decide), if_pos rfl]
      · have ho : ¬ opn ν i = true := by unfold opn; simpa using h
        rw [if_neg h, if_neg ho]
    · unfold fstS
      have hw : s = -1 ∨ ∃ k, k < i + 1 ∧ s = nI k := by
        rcases hI with hI | ⟨k, hk, hI⟩
        · exact Or.inl hI
        · exact Or.inr ⟨k, by omega, hI⟩
      have hq : nI i = -1 ∨ ∃ k, k < i + 1 ∧ nI i = nI k := Or.inr ⟨i, by omega, rfl⟩
      split
      · split
        · exact hq
        · split
          · exact hq
          · exact hw
      · exact hw
theorem ahd_tot (ν : Mm) {a b : Nat} (h : a ≠ b) : ahd ν a b = true ∨ ahd ν b a = true := by
  unfold ahd
  simp only [Bool.or_eq_true, Bool.and_eq_true, decide_eq_true_eq, lt_I]
  have e : ν 9 a = ν 9 b ↔ (ν 9 a).toInt = (ν 9 b).toInt := Int32.toInt_inj.symm
  have e2 : ν 9 b = ν 9 a ↔ (ν 9 b).toInt = (ν 9 a).toInt := Int32.toInt_inj.symm
  rw [e, e2]
  omega
theorem ahd_trans (ν : Mm) {a b c : Nat} (h1 : ahd ν a b = true) (h2 : ahd ν c b = false) : ahd ν c a = false := by
  unfold ahd at *
  simp only [Bool.or_eq_true, Bool.and_eq_true, decide_eq_true_eq, lt_I, Bool.or_eq_false_iff, Bool.and_eq_false_iff, decide_eq_false_iff_not] at *
  have e : ∀ x y, ν 9 x = ν 9 y ↔ (ν 9 x).toInt = (ν 9 y).toInt := fun x y => Int32.toInt_inj.symm
  simp only [e] at *
  omega
theorem ahd_irr (ν : Mm) (a : Nat) : ahd ν a a = false := by
  unfold ahd
  simp only [Bool.or_eq_false_iff, Bool.and_eq_false_iff, decide_eq_false_iff_not, lt_I]
  omega
theorem fstS_inv (ν : Mm) (P : Nat) (hP : P ≤ 200) : (fo (fstS ν) 0 P (-1) = -1 ∧ ∀ x, x < P → opn ν x = false) ∨ ∃ k, k < P ∧ fo (fstS ν) 0 P (-1) = nI k ∧ opn ν k = true ∧ ∀ x, x < P → opn ν x = true → ahd ν x k = false := by
  have := fo_inv (g := fstS ν) (fun i b => i ≤ 200 → (b = -1 ∧ ∀ x, x < i → opn ν x = false) ∨ ∃ k, k < i ∧ b = nI k ∧ opn ν k = true ∧ ∀ x, x < i → opn ν x = true → ahd ν x k = false) P 0 (-1) (fun _ => Or.inl ⟨rfl, fun x hx => by omega⟩) (by
    intro q b _ hq hI hle
    have hI2 := hI (by omega)
    unfold fstS
    by_cases ho : opn ν q = true
    · rw [if_pos ho]
      rcases hI2 with ⟨hb, hn⟩ | ⟨k, hk, hb, hk2, hk3⟩
      · rw [if_pos hb]
        refine Or.inr ⟨q, by omega, rfl, ho, fun x hx hox => ?_⟩
        rcases Nat.lt_or_ge x q with h | h
        · rw [hn x h] at hox; cases hox
        · have : x = q := by omega
          subst this; exact ahd_irr ν x
      · rw [if_neg (by rw [hb]; exact m1_ne (by omega)), hb, w_nat (by omega)]
        by_cases ha : ahd ν q k = true
        · rw [if_pos ha]
          refine Or.inr ⟨q, by omega, rfl, ho, fun x hx hox => ?_⟩
          rcases Nat.lt_or_ge x q with h | h
          · exact ahd_trans ν ha (hk3 x h hox)
          · have : x = q := by omega
            subst this; exact ahd_irr ν x
        · rw [if_neg ha]
          refine Or.inr ⟨k, by omega, rfl, hk2, fun x hx hox => ?_⟩
          rcases Nat.lt_or_ge x q with h | h
          · exact hk3 x h hox
          · have : x = q := by omega
            subst this; simpa using ha
    · rw [if_neg ho]
      rcases hI2 with ⟨hb, hn⟩ | ⟨k, hk, hb, hk2, hk3⟩
      · refine Or.inl ⟨hb, fun x hx => ?_⟩
        rcases Nat.lt_or_ge x q with h | h
        · exact hn x h
        · have : x = q := by omega
          subst this; simpa using ho
      · refine Or.inr ⟨k, by omega, hb, hk2, fun x hx hox => ?_⟩
        rcases Nat.lt_or_ge x q with h | h
        · exact hk3 x h hox
        · have : x = q := by omega
          subst this; exact absurd hox ho)
  have h2 := this (by omega)
  rw [Nat.zero_add] at h2
  exact h2
theorem op_nextAlert {t : Nat} {μ ν : Mm} (o : Nat → Int64) (h : R t μ ν) : ∃ c o' w ν', f_L_nextAlert_0_o μ o = some (c, o') ∧ f_X8_nextAlert ν = some (w, ν') ∧ (ν' 0 0 = (if c = 1 then 1 else c)) ∧ Res t c o' w μ ν' := by
  have hz : R t μ (up2 ν 0 0 0) := R_thr 0 h
  unfold f_X8_nextAlert f_X8_alertAt f_L_nextAlert_0_o f_X7_nextAlert
  generalize e : up2 ν 0 0 0 = ν1 at hz ⊢
  have z : ν1 0 0 = 0 := by rw [← e]; rfl
  have hz2 := hz
  obtain ⟨ht, A, T, P, F, C, N, hA, hT, hL, hK, hC, hR, hc, hJ⟩ := hz
  have hP := hL.1
  rw [hL.2.1, firstOpen_eq hL.1 (Cas_e hc), ranked_eq hL.1 hL.2.2.1, Option.bind_some, Option.bind_some]
  rcases fstS_inv ν1 P hL.1 with ⟨e1, hn⟩ | ⟨k, hk, e1, hk2, hk3⟩
  · have hq : fst1 (rkP ν1 P 0) 0 P = P := by
      rcases Nat.lt_or_ge (fst1 (rkP ν1 P 0) 0 P) P with h | h
      · have := fst1_yes (p := rkP ν1 P 0) P 0 (by omega)
        unfold rkP at this
        rw [Bool.and_eq_true] at this
        have h2 := hn _ h
        unfold rkP at h2
        rw [h2] at this
        cases this.1
      · have := fst1_le (p := rkP ν1 P 0) P 0; omega
    rw [e1, hq, if_pos rfl, if_pos rfl]
    exact ⟨1, o, 0, up2 ν1 0 0 1, rfl, rfl, rfl, rfl, fun h => absurd h (by decide), R_thr 1 hz2⟩
  · have hz0 : ∀ x, x < P → opn ν1 x = true → (rk ν1 P x = 0 ↔ x = k) := by
      intro x hx hox
      constructor
      · intro h0
        apply Classical.byContradiction
        intro hne
        have h1 := fb_ct_zero.mp h0 k hk
        rw [hk2, Bool.true_and] at h1
        rcases ahd_tot ν1 hne with h3 | h3
        · rw [hk3 x hx hox] at h3; cases h3
        · rw [h1] at h3; cases h3
      · intro hxk
        subst hxk
        apply fb_ct_zero.mpr
        intro y hy
        cases hoy : opn ν1 y
        · rfl
        · rw [hk3 y hy hoy]; rfl
    have hrk : ∀ x, nI (rk ν1 P x) = 0 ↔ rk ν1 P x = 0 := by
      intro x
      have : rk ν1 P x ≤ P := fb_ct_le _ _
      exact w_eq (b := 0) (by omega) (by omega)
    have hq : fst1 (rkP ν1 P 0) 0 P = k := by
      have hkP : rkP ν1 P 0 k = true := by
        unfold rkP
        rw [hk2, Bool.true_and, decide_eq_true ((hrk k).mpr ((hz0 k hk hk2).mpr rfl))]
      have hle : fst1 (rkP ν1 P 0) 0 P ≤ k := by
        apply Nat.le_of_not_lt
        intro hlt
        have := fst1_no (p := rkP ν1 P 0) P 0 k (by omega) hlt
        rw [hkP] at this; cases this
      have hy := fst1_yes (p := rkP ν1 P 0) P 0 (by omega)
      generalize hg : fst1 (rkP ν1 P 0) 0 P = q at hle hy ⊢
      unfold rkP at hy
      rw [Bool.and_eq_true, decide_eq_true_eq] at hy
      exact (hz0 q (by omega) hy.1).mp ((hrk q).mp hy.2)
    rw [e1, hq, if_neg (show ¬ k = P by omega), if_neg (m1_ne (by omega)), if_pos (nn_nI (by omega))]
    exact ⟨0, _, _, ν1, rfl, rfl, z, z, fun _ => rfl, hz2⟩
end
section
/-! ===== L3: conditions are added ===== -/
theorem lst_st {μ μ' : Mm} {C j n : Nat} (hj : j < C) (hC : C ≤ 30) (e : μ 22 j = nI n) (hn : n ≤ 8) (h22 : μ' 22 j = μ 22 j) (h23 : ∀ s, s < 8 * C → μ' 23 s = μ 23 s) : lst μ' j = lst μ j := by
  unfold lst
  rw [h22, e, w_nat (by omega)]
  apply List.map_congr_left
  intro i hi
  rw [List.mem_range] at hi
  exact h23 _ (by omega)
theorem Cnd_st {μ ν μ' ν' : Mm} {C : Nat} (hC : C ≤ 30) (hm : ∀ k j, 14 ≤ k → k ≤ 22 → j ≠ C → μ' k j = μ k j) (hn : ∀ k j, 12 ≤ k → k ≤ 19 → j ≠ C → ν' k j = ν k j) (h23 : ∀ s, s < 8 * C → μ' 23 s = μ 23 s)
    (hall : ∀ j, j < C → Cnd μ ν j) {j : Nat} (hj : j < C) : Cnd μ' ν' j := by
  have hl : ∀ i, i < C → lst μ' i = lst μ i := by
    intro i hi
    obtain ⟨k, s, n, hk, hs, e1, e2, e3, e4, e5, e6, _⟩ := hall i hi
    exact lst_st hi hC e5 (by omega) (hm 22 i (by omega) (by omega) (by omega)) h23
  obtain ⟨k, s, n, hk, hs, e1, e2, e3, e4, e5, e6, h0, h3, h12⟩ := hall j hj
  have M : ∀ k, 14 ≤ k → k ≤ 22 → μ' k j = μ k j := fun k h1 h2 => hm k j h1 h2 (by omega)
  have W : ∀ k, 12 ≤ k → k ≤ 19 → ν' k j = ν k j := fun k h1 h2 => hn k j h1 h2 (by omega)
  refine ⟨k, s, n, hk, hs, by rw [W 12 (by omega) (by omega)]; exact e1, by rw [M 14 (by omega) (by omega)]; exact e2, by rw [W 15 (by omega) (by omega)]; exact e3, by rw [M 15 (by omega) (by omega)]; exact e4, by rw [M 22 (by omega) (by omega)]; exact e5, e6, ?_, ?_, ?_⟩
  · intro h
    rw [M 16 (by omega) (by omega), M 17 (by omega) (by omega), M 18 (by omega) (by omega), M 19 (by omega) (by omega), W 16 (by omega) (by omega), W 17 (by omega) (by omega), W 18 (by omega) (by omega), W 19 (by omega) (by omega), hl j hj]
    exact h0 h
  · intro h
    rw [M 20 (by omega) (by omega), W 13 (by omega) (by omega), hl j hj]
    obtain ⟨g1, a, s1, ha, g2⟩ := h3 h
    refine ⟨g1, a, s1, ha, ?_⟩
    rw [hn 15 a (by omega) (by omega) (by omega)]
    exact g2
  · intro h
    rw [M 20 (by omega) (by omega), M 21 (by omega) (by omega), W 13 (by omega) (by omega), W 14 (by omega) (by omega), hl j hj]
    obtain ⟨a, b, s1, s2, ha, hb, g2⟩ := h12 h
    refine ⟨a, b, s1, s2, ha, hb, ?_⟩
    rw [hn 15 a (by omega) (by omega) (by omega), hn 15 b (by omega) (by omega) (by omega), hl a (by omega), hl b (by omega)]
    exact g2
theorem R_addC {t A T P F C N : Nat} {μ ν μ' ν' : Mm} (h : Rx t A T P F C N μ ν) (hC : C < 30)
    (hμ : ∀ k, k < 13 ∨ 23 < k → μ' k = μ k) (hν : ∀ k, 0 < k ∧ k < 12 ∨ 19 < k → ν' k = ν k) (hν0 : ∀ j, j ≠ 26 → ν' 0 j = ν 0 j) (c1 : μ' 13 12 = nI (C + 1)) (c2 : ν' 0 26 = nI (C + 1))
    (hm : ∀ k j, 14 ≤ k → k ≤ 22 → j ≠ C → μ' k j = μ k j) (hn : ∀ k j, 12 ≤ k → k ≤ 19 → j ≠ C → ν' k j = ν k j) (h23 : ∀ s, s < 8 * C → μ' 23 s = μ 23 s)
    (h20 : ∃ a b, a < 30 ∧ b < 30 ∧ μ' 20 C = nI a ∧ μ' 21 C = nI b) (hnew : Cnd μ' ν' C) : Rx t A T P F (C + 1) N μ' ν' := by
  obtain ⟨hA, hT, hL, hK, hCn, hR, hc, hJ⟩ := h
  have m := hμ
  have n := hν
  refine ⟨?_, ?_, ?_, ?_, ?_, ?_, ?_, ?_⟩
  · unfold Acc at hA ⊢
    rw [m 2 (by omega), m 3 (by omega), m 4 (by omega), hν0 3 (by omega), hν0 5 (by omega), hν0 6 (by omega), n 1 (by omega), n 2 (by omega)]
    exact hA
  · unfold Tim at hT ⊢
    rw [m 1 (by omega), m 0 (by omega), hν0 4 (by omega), hν0 16 (by omega)]
    exact hT
  · unfold Led at hL ⊢
    rw [m 5 (by omega), m 6 (by omega), m 7 (by omega), m 8 (by omega), m 9 (by omega), hν0 15 (by omega), n 3 (by omega), n 4 (by omega), n 5 (by omega), n 6 (by omega)]
    exact hL
  · unfold Kep at hK ⊢
    rw [m 1 (by omega), n 6 (by omega)]
    exact hK
  · obtain ⟨_, _, _, q4, q5, q6⟩ := hCn
    refine ⟨by omega, c1, c2, fun j hj => ?_, fun j hj => ?_, fun j hj => ?_⟩
    · by_cases hjC : j = C
      · subst hjC; exact h20
      · rw [hm 20 j (by omega) (by omega) hjC, hm 21 j (by omega) (by omega) hjC]; exact q4 j hj
    · rw [hm 22 j (by omega) (by omega) (by omega)]; exact q5 j (by omega)
    · by_cases hjC : j = C
      · subst hjC; exact hnew
      · exact Cnd_st (by omega) hm hn h23 q6 (by omega)
  · unfold Rul at hR ⊢
    rw [m 26 (by omega), m 27 (by omega), m 28 (by omega), hν0 29 (by omega), hν0 30 (by omega), n 20 (by omega), n 21 (by omega)]
    obtain ⟨r1, r2, r3, r4, r5, r6⟩ := hR
    refine ⟨r1, r2, r3, r4, r5, fun j hj => ?_⟩
    obtain ⟨c, w, hc1, g⟩ := r6 j hj
    exact ⟨c, w, by omega, g⟩
  · refine Cas_st hR.1 (by rw [m 29 (by omega)]) (fun p _ => ?_) (fun r _ => by rw [n 21 (by omega)]) hc
    rw [m 30 (by omega), m 31 (by omega), m 32 (by omega), n 9 (by omega), n 10 (by omega)]
    simp
  · intro p hp
    refine Jud1_st hCn.1 (by omega) hCn.2.2.2.2.2 ⟨fun j hj => ?_, Sst_cut (fun q _ => ?_)⟩ (fun r hr => Rul_rc hCn.1 hR hr) (fun r _ => by rw [n 20 (by omega)]) (by rw [n 7 (by omega)]) (by rw [n 8 (by omega)]) (by rw [m 32 (by omega)]) (by rw [m 33 (by omega)]) (fun c _ => by rw [m 34 (by omega)]) (hJ p hp)
    · rw [hn 12 j (by omega) (by omega) (by omega), hn 13 j (by omega) (by omega) (by omega), hn 14 j (by omega) (by omega) (by omega), hn 16 j (by omega) (by omega) (by omega), hn 17 j (by omega) (by omega) (by omega), hn 18 j (by omega) (by omega) (by omega), hn 19 j (by omega) (by omega) (by omega)]; simp
    · rw [n 1 (by omega), n 2 (by omega), n 3 (by omega), n 4 (by omega), n 5 (by omega), n 6 (by omega)]; simp
theorem up2_o {μ : Mm} {k i a j : Nat} {v : Int32} (h : j ≠ i) : up2 μ k i v a j = μ a j := by
  unfold up2 upd
  by_cases e : a = k
  · rw [if_pos e, if_neg h, e]
  · rw [if_neg e]
/-! features -/
def isFb (f : Nat) : Bool := f == 97 || f == 99 || f == 100 || f == 102 || f == 103 || f == 105 || f == 107 || f == 108 || f == 109 || f == 110 || f == 113 || f == 114 || f == 115
theorem isFb_isF {f : Nat} (h : isFb f = true) : isF f := by
  unfold isFb at h
  unfold isF
  simp only [Bool.or_eq_true, beq_iff_eq] at h
  omega
theorem feat_m0 : ∀ c, c < 123 → f_X8_isFeature (nI c) = some (b2 (isFb c)) := by decide +kernel
theorem feat_m {c : Nat} (hc : c < 65536) : f_X8_isFeature (nI c) = some (b2 (isFb c)) := by
  rcases Nat.lt_or_ge c 123 with h | h
  · exact feat_m0 c h
  · unfold f_X8_isFeature
    rw [btwI, w_int (by omega), show ((122 : Int32).toInt = 122) from rfl, decide_eq_false (by omega), Option.bind_some, b2_f, if_pos rfl]
    have : isFb c = false := by
      cases hb : isFb c
      · rfl
      · have := isFb_isF hb; unfold isF at this; omega
    rw [this]; rfl
theorem feat_c1 {c : Nat} (hc : c < 65536) : f_X1_hasFeature (nI c) = some (if fst1 (fun i => decide (featL.getD i 0 = nI c)) 0 13 = 13 then 0 else 1) := by
  unfold f_X1_hasFeature
  refine find_loop (fun n x => f_X1_hasFeature_L9 (nI c) 13 n x) 13 (fun q => some (if q = 13 then 0 else 1)) (fun i => decide (featL.getD i 0 = nI c)) ?_ ?_ 13 fuel 0 (by omega) (by unfold fuel; omega)
  · intro n
    show f_X1_hasFeature_L9 (nI c) 13 (n + 1) (nI 13) = _
    unfold f_X1_hasFeature_L9
    rw [if_pos (by decide), if_pos rfl]
  · intro n i hi
    show f_X1_hasFeature_L9 (nI c) 13 (n + 1) (nI i) = _
    conv => lhs; unfold f_X1_hasFeature_L9
    rw [if_neg (show ¬ (13 : Int32) ≤ nI i from by rw [show (13 : Int32) = nI 13 from rfl, w_le (by omega) (by omega)]; omega), chk_nI hi (by omega), w_nat (by omega), w_succ, if_neg (show ¬ i = 13 by omega)]
    simp only [decide_eq_true_eq]
theorem feat_c0 : ∀ c, c < 123 → (if fst1 (fun i => decide (featL.getD i 0 = nI c)) 0 13 = 13 then (0 : Int32) else 1) = b2 (isFb c) := by decide +kernel
theorem feat_c {c : Nat} (hc : c < 65536) : f_X7_requireFeature (nI c) = some (if isFb c = true then 0 else 4) := by
  unfold f_X7_requireFeature
  rw [feat_c1 hc, Option.bind_some]
  rcases Nat.lt_or_ge c 123 with h | h
  · rw [feat_c0 c h]
    cases isFb c <;> rfl
  · have e : fst1 (fun i => decide (featL.getD i 0 = nI c)) 0 13 = 13 := by
      rcases Nat.lt_or_ge (fst1 (fun i => decide (featL.getD i 0 = nI c)) 0 13) 13 with h1 | h1
      · have h2 := fst1_yes (p := fun i => decide (featL.getD i 0 = nI c)) 13 0 h1
        generalize fst1 (fun i => decide (featL.getD i 0 = nI c)) 0 13 = q at h1 h2
        have h3 : featL.getD q 0 = nI c := of_decide_eq_true h2
        have h4 : ∀ q, q < 13 → (featL.getD q 0).toInt < 123 := by decide +kernel
        have h5 := h4 q h1
        rw [h3, w_int (by omega)] at h5
        omega
      · have := fst1_le (p := fun i => decide (featL.getD i 0 = nI c)) 13 0; omega
    have : isFb c = false := by
      cases hb : isFb c
      · rfl
      · have := isFb_isF hb; unfold isF at this; omega
    rw [e, if_pos rfl, this]; rfl
/-! tests kept -/
theorem keep_eq {C n : Nat} {x : Int32} {μ : Mm} (hC : C < 30) (e : μ 13 12 = nI C) (e2 : μ 22 C = nI n) (hn : n < 8) : f_X3_keepTest x μ = some (up2 (up2 μ 23 (8 * C + n) x) 22 C (nI (n + 1))) := by
  unfold f_X3_keepTest setm
  have eC : (nI C).toNatClampNeg = C := w_nat (by omega)
  have e8 : nI C * 8 + nI n = nI (8 * C + n) := by
    rw [show (8 : Int32) = nI 8 from rfl, w_mul, w_add, Nat.mul_comm]
  have q1 : ∀ v, (up2 μ 23 (8 * C + n) v) 13 12 = nI C := fun v => e
  have q2 : ∀ v, (up2 μ 23 (8 * C + n) v) 22 C = nI n := fun v => e2
  rw [e, eC, e2, chk_nI hC (by omega), if_neg (show ¬ (8 : Int32) ≤ nI n from by rw [show (8 : Int32) = nI 8 from rfl, w_le (by omega) (by omega)]; omega), e8, w_nat (show 8 * C + n < 2147483648 by omega), q1, chk_nI hC (by omega), chk_nI (show 8 * C + n < 240 by omega) (by omega), chk_nI hC (by omega), chk_nI hC (by omega), eC, q2, w_succ]
/-- m tests of f put behind the n of C -/
def kt (μ : Mm) (C n f m : Nat) : Mm := fun a => if a = 23 then (fun s => if 8 * C + n ≤ s ∧ s < 8 * C + n + m then μ 23 (8 * f + (s - (8 * C + n))) else μ 23 s) else if a = 22 then (fun j => if j = C then nI (n + m) else μ 22 j) else μ a
theorem kt_0 {μ : Mm} {C n f : Nat} (e : μ 22 C = nI n) : kt μ C n f 0 = μ := by
  funext a
  unfold kt
  by_cases h : a = 23
  · rw [if_pos h, h]; funext s; rw [if_neg (by omega)]
  · rw [if_neg h]
    by_cases h2 : a = 22
    · rw [if_pos h2, h2]; funext j
      by_cases h3 : j = C
      · rw [if_pos h3, h3, e]; rfl
      · rw [if_neg h3]
    · rw [if_neg h2]
theorem kt_s {μ : Mm} {C n f m : Nat} (hf : f < C) (hm : m < 8) : up2 (up2 (kt μ C n f m) 23 (8 * C + (n + m)) (μ 23 (8 * f + m))) 22 C (nI (n + m + 1)) = kt μ C n f (m + 1) := by
  funext a
  unfold up2 kt upd
  by_cases h : a = 23
  · subst h
    simp only [show ¬ (23 = 22) by omega, if_false, if_true]
    funext s
    by_cases h2 : s = 8 * C + (n + m)
    · rw [if_pos h2, if_pos (by omega), h2]
      congr 1; omega
    · rw [if_neg h2]
      by_cases h3 : 8 * C + n ≤ s ∧ s < 8 * C + n + m
      · rw [if_pos h3, if_pos (by omega)]
      · rw [if_neg h3, if_neg (by omega)]
  · by_cases h2 : a = 22
    · subst h2
      simp only [show ¬ (22 = 23) by omega, if_false, if_true]
      funext j
      by_cases h3 : j = C
      · rw [if_pos h3, if_pos h3]; congr 1
      · rw [if_neg h3, if_neg h3, if_neg h3]
    · simp only [if_neg h, if_neg h2]
theorem keepOf_eq {C n f m : Nat} {μ : Mm} (hC : C < 30) (hf : f < C) (e : μ 13 12 = nI C) (e2 : μ 22 C = nI n) (ef : μ 22 f = nI m) (hn : n + m ≤ 8) : f_X3_keepTestsOf (nI f) μ = some (kt μ C n f m) := by
  unfold f_X3_keepTestsOf
  have := up_loop (fun n x s => f_X3_keepTestsOf_L2 (nI f) n x s) m (fun s => some s) (fun i _ => kt μ C n f (i + 1)) (fun i s => s = kt μ C n f i) ?_ ?_ m fuel 0 μ (by omega) (by unfold fuel; omega) (kt_0 e2).symm
  · obtain ⟨h1, h2⟩ := this
    rw [h2] at h1
    exact h1
  · intro k s hs
    show f_X3_keepTestsOf_L2 (nI f) (k + 1) (nI m) s = _
    unfold f_X3_keepTestsOf_L2
    have e3 : s 22 f = nI m := by rw [hs]; show (if f = C then _ else μ 22 f) = _; rw [if_neg (by omega), ef]
    rw [chk_nI (show f < 30 by omega) (by omega), w_nat (by omega), e3, if_pos (by rw [w_le (by omega) (by omega)]; omega)]
  · intro k i s hi hs
    refine ⟨?_, rfl⟩
    show f_X3_keepTestsOf_L2 (nI f) (k + 1) (nI i) s = _
    conv => lhs; unfold f_X3_keepTestsOf_L2
    have e3 : s 22 f = nI m := by rw [hs]; show (if f = C then _ else μ 22 f) = _; rw [if_neg (by omega), ef]
    have e4 : s 22 C = nI (n + i) := by rw [hs]; show (if C = C then nI (n + i) else μ 22 C) = _; rw [if_pos rfl]
    have e5 : s 13 12 = nI C := by rw [hs]; exact e
    have e8 : nI f * 8 + nI i = nI (8 * f + i) := by rw [show (8 : Int32) = nI 8 from rfl, w_mul, w_add, Nat.mul_comm]
    have e6 : s 23 (8 * f + i) = μ 23 (8 * f + i) := by
      rw [hs]; show (if 8 * C + n ≤ 8 * f + i ∧ 8 * f + i < 8 * C + n + i then _ else μ 23 (8 * f + i)) = _
      rw [if_neg (by omega)]
    rw [chk_nI (show f < 30 by omega) (by omega), w_nat (by omega), e3, if_neg (by rw [w_le (by omega) (by omega)]; omega), e8, chk_nI (show 8 * f + i < 240 by omega) (by omega), w_nat (by omega), e6, keep_eq hC e5 e4 (by omega), Option.bind_some, w_succ]
    show f_X3_keepTestsOf_L2 (nI f) k (nI (i + 1)) _ = _
    rw [hs, kt_s hf (by omega)]


theorem finish_eq {C : Nat} {k z : Int32} {μ : Mm} (hC : C < 30) (e : μ 13 12 = nI C) : f_X3_finish k z μ = some (nI C, up2 (up2 (up2 μ 14 C k) 15 C z) 13 12 (nI (C + 1))) := by
  unfold f_X3_finish setm
  have eC : (nI C).toNatClampNeg = C := w_nat (by omega)
  have ck : ∀ {α : Type} (k : Option α), chk (nI C) 30 k = k := fun k => chk_nI hC (by omega)
  simp only [up2_n (k := 14) (a := 13) (by omega), up2_n (k := 15) (a := 13) (by omega), up2_n (k := 16) (a := 13) (by omega), up2_n (k := 17) (a := 13) (by omega), up2_n (k := 18) (a := 13) (by omega), up2_n (k := 19) (a := 13) (by omega), up2_n (k := 20) (a := 13) (by omega), up2_n (k := 21) (a := 13) (by omega), up2_n (k := 22) (a := 13) (by omega), up2_n (k := 23) (a := 13) (by omega), e, eC, ck, w_succ]
theorem appendTest_eq {C cc : Nat} {w v b : Int32} {μ : Mm} (hC : C < 30) (hcc : cc < 65536) (e : μ 13 12 = nI C) (e2 : μ 22 C = 0) :
    f_X3_appendTest (nI cc) w v b μ = some (nI C, up2 (up2 (up2 (up2 (up2 (up2 (up2 (up2 (up2 μ 16 C (nI cc)) 17 C w) 18 C (vp_nar .boolean v)) 19 C b) 23 (8 * C + 0) (nI C)) 22 C (nI (0 + 1))) 14 C 0) 15 C 1) 13 12 (nI (C + 1))) := by
  unfold f_X3_appendTest setm
  have eC : (nI C).toNatClampNeg = C := w_nat (by omega)
  have ck : ∀ {α : Type} (k : Option α), chk (nI C) 30 k = k := fun k => chk_nI hC (by omega)
  simp only [up2_n (k := 14) (a := 13) (by omega), up2_n (k := 15) (a := 13) (by omega), up2_n (k := 16) (a := 13) (by omega), up2_n (k := 17) (a := 13) (by omega), up2_n (k := 18) (a := 13) (by omega), up2_n (k := 19) (a := 13) (by omega), up2_n (k := 20) (a := 13) (by omega), up2_n (k := 21) (a := 13) (by omega), up2_n (k := 22) (a := 13) (by omega), up2_n (k := 23) (a := 13) (by omega), e, eC, ck, narc hcc]
  rw [keep_eq (μ := up2 (up2 (up2 (up2 μ 16 C (nI cc)) 17 C w) 18 C (vp_nar .boolean v)) 19 C b) (n := 0) hC e e2 (by omega), Option.bind_some, finish_eq (μ := up2 (up2 (up2 (up2 (up2 (up2 μ 16 C (nI cc)) 17 C w) 18 C (vp_nar .boolean v)) 19 C b) 23 (8 * C + 0) (nI C)) 22 C (nI (0 + 1))) hC e, Option.bind_some]
theorem mTest_eq {C cc : Nat} {w v b : Int32} {ν : Mm} (hC : C < 30) (hcc : cc < 65536) (e : ν 0 26 = nI C) :
    (chk (nI C) 30 ((chk ((up2 ν 12 (nI C).toNatClampNeg 0) 0 26) 30 ((setm (up2 (up2 ν 12 (nI C).toNatClampNeg 0) 18 ((up2 ν 12 (nI C).toNatClampNeg 0) 0 26).toNatClampNeg (vp_nar .char (nI cc))) (fun mm17 => (chk (mm17 0 26) 30 ((chk ((up2 mm17 16 (mm17 0 26).toNatClampNeg w) 0 26) 30 ((chk ((up2 (up2 mm17 16 (mm17 0 26).toNatClampNeg w) 19 ((up2 mm17 16 (mm17 0 26).toNatClampNeg w) 0 26).toNatClampNeg (vp_nar .boolean v)) 0 26) 30 ((setm (up2 (up2 (up2 mm17 16 (mm17 0 26).toNatClampNeg w) 19 ((up2 mm17 16 (mm17 0 26).toNatClampNeg w) 0 26).toNatClampNeg (vp_nar .boolean v)) 17 ((up2 (up2 mm17 16 (mm17 0 26).toNatClampNeg w) 19 ((up2 mm17 16 (mm17 0 26).toNatClampNeg w) 0 26).toNatClampNeg (vp_nar .boolean v)) 0 26).toNatClampNeg b) (fun mm21 => (chk (mm21 0 26) 30 (some (((up2 (up2 mm21 15 (mm21 0 26).toNatClampNeg 1) 0 26 (((up2 mm21 15 (mm21 0 26).toNatClampNeg 1) 0 26) + 1)) 0 26) - 1, (up2 (up2 mm21 15 (mm21 0 26).toNatClampNeg 1) 0 26 (((up2 mm21 15 (mm21 0 26).toNatClampNeg 1) 0 26) + 1))))))))))))))))))) =
    some (nI C, up2 (up2 (up2 (up2 (up2 (up2 (up2 ν 12 C 0) 18 C (nI cc)) 16 C w) 19 C (vp_nar .boolean v)) 17 C b) 15 C 1) 0 26 (nI (C + 1))) := by
  unfold setm
  have eC : (nI C).toNatClampNeg = C := w_nat (by omega)
  have ck : ∀ {α : Type} (k : Option α), chk (nI C) 30 k = k := fun k => chk_nI hC (by omega)
  have rd : ∀ (m : Mm) (v : Int32), (up2 m 0 26 v) 0 26 = v := fun m v => rfl
  simp only [up2_n (k := 12) (a := 0) (by omega), up2_n (k := 13) (a := 0) (by omega), up2_n (k := 14) (a := 0) (by omega), up2_n (k := 15) (a := 0) (by omega), up2_n (k := 16) (a := 0) (by omega), up2_n (k := 17) (a := 0) (by omega), up2_n (k := 18) (a := 0) (by omega), up2_n (k := 19) (a := 0) (by omega), e, eC, ck, narc hcc, rd, w_succ, w_pred]
theorem op_addTest {t : Nat} {μ ν : Mm} (a w v b : Int32) (ha : ∃ c, c < 65536 ∧ a = nI c) (o : Nat → Int64) (h : R t μ ν) : ∃ c μ' o' x ν', f_L_addTest_0_o a w v b μ o = some (c, μ', o') ∧ f_X8_addTest a w v b ν = some (x, ν') ∧ Res t c o' x μ' ν' := by
  have hz : R t μ (up2 ν 0 0 0) := R_thr 0 h
  unfold f_X8_addTest f_L_addTest_0_o f_X7_addTest
  generalize e : up2 ν 0 0 0 = ν1 at hz ⊢
  have z : ν1 0 0 = 0 := by rw [← e]; rfl
  have hz2 := hz
  obtain ⟨ht, A, T, P, F, C, N, hx⟩ := hz
  have hx2 := hx
  obtain ⟨hA, hT, hL, hK, hC, hR, hc, hJ⟩ := hx
  obtain ⟨cc, hcc, rfl⟩ := ha
  rw [feat_m hcc, feat_c hcc]
  cases hf : isFb cc
  · exact ⟨1, μ, o, 0, up2 ν1 0 0 1, rfl, rfl, rfl, fun h => absurd h (by decide), R_thr 1 hz2⟩
  rw [b2_t, if_pos rfl, Option.bind_some, Option.bind_some, if_pos rfl, if_neg (show ¬ (1 : Int32) = 0 by decide)]
  rcases win_doors w with ⟨w1, w2, w3⟩ | ⟨w1, w2, w3⟩
  · rw [w2, w3, Option.bind_some, Option.bind_some, if_pos rfl, if_neg (show ¬ (1 : Int32) = 0 by decide), btwI]
    rcases span_cases b 0 99999 (by decide) with ⟨h1, h2⟩ | ⟨h1, h2, h3⟩ | ⟨h1, h2, h3⟩
    · rw [if_pos h1, decide_eq_false h2]
      exact ⟨1, μ, o, 0, up2 ν1 0 0 1, rfl, rfl, rfl, fun h => absurd h (by decide), R_thr 1 hz2⟩
    · rw [if_neg h1, if_pos h2, decide_eq_true h3, b2_t, Option.bind_some, if_neg (show ¬ (1 : Int32) = 0 by decide)]
      obtain ⟨q1, q2, q3, q4, q5, q6⟩ := id hC
      unfold f_X7_requireRoomForCondition
      rw [q2, q3]
      by_cases hfull : C < 30
      · rw [if_pos (show nI C < 30 from (w_lt (b := 30) (by omega) (by omega)).mpr hfull), if_neg (show ¬ nI C = 30 from fun hh => by rw [show (30 : Int32) = nI 30 from rfl, w_eq (by omega) (by omega)] at hh; omega), Option.bind_some, if_pos rfl]
        obtain ⟨wn, hw1, hw2, rfl⟩ := win_nI w1
        rw [appendTest_eq hfull hcc q2 (q5 C (Nat.le_refl C)), mTest_eq hfull hcc q3]
        generalize hnb : vp_nar .boolean v = vb
        refine ⟨0, up2 (up2 (up2 (up2 (up2 (up2 (up2 (up2 (up2 μ 16 C (nI cc)) 17 C (nI wn)) 18 C vb) 19 C b) 23 (8 * C + 0) (nI C)) 22 C (nI (0 + 1))) 14 C 0) 15 C 1) 13 12 (nI (C + 1)), vp_updL o (0 : Int32).toNatClampNeg (nI C).toInt64, nI C, _, rfl, rfl, z, fun _ => rfl, ht, A, T, P, F, C + 1, N, ?_⟩
        refine R_addC hx2 hfull ?_ ?_ ?_ rfl rfl ?_ ?_ ?_ ?_ ?_
        · intro k hk
          simp only [up2_n (show k ≠ 13 by omega), up2_n (show k ≠ 14 by omega), up2_n (show k ≠ 15 by omega), up2_n (show k ≠ 16 by omega), up2_n (show k ≠ 17 by omega), up2_n (show k ≠ 18 by omega), up2_n (show k ≠ 19 by omega), up2_n (show k ≠ 22 by omega), up2_n (show k ≠ 23 by omega)]
        · intro k hk
          simp only [up2_n (show k ≠ 0 by omega), up2_n (show k ≠ 12 by omega), up2_n (show k ≠ 18 by omega), up2_n (show k ≠ 16 by omega), up2_n (show k ≠ 19 by omega), up2_n (show k ≠ 17 by omega), up2_n (show k ≠ 15 by omega)]
        · intro j hj
          show (if j = 26 then _ else ν1 0 j) = _
          rw [if_neg hj]
        · intro k j hk1 hk2 hj
          simp only [up2_o hj, up2_n (show k ≠ 13 by omega), up2_n (show k ≠ 23 by omega)]
        · intro k j hk1 hk2 hj
          simp only [up2_o hj, up2_n (show k ≠ 0 by omega)]
        · intro s hs
          show (if s = 8 * C + 0 then _ else μ 23 s) = _
          rw [if_neg (by omega)]
        · exact q4 C hfull
        · refine ⟨0, 1, 1, by omega, by omega, ?_, ?_, ?_, ?_, ?_, by omega, fun _ => ?_, fun h => by omega, fun h => by omega⟩
          · show (if C = C then _ else _) = _; rw [if_pos rfl]; rfl
          · show (if C = C then _ else _) = _; rw [if_pos rfl]; rfl
          · show (if C = C then _ else _) = _; rw [if_pos rfl]; rfl
          · show (if C = C then _ else _) = _; rw [if_pos rfl]; rfl
          · show (if C = C then _ else _) = _; rw [if_pos rfl]
          · refine ⟨?_, ?_, ?_, ?_, rfl, ?_, cc, wn, isFb_isF hf, hw1, hw2, ?_, ?_⟩
            · show (if C = C then _ else _) = (if C = C then _ else _); rw [if_pos rfl, if_pos rfl]
            · show (if C = C then _ else _) = (if C = C then _ else _); rw [if_pos rfl, if_pos rfl]
            · show (if C = C then _ else _) = (if C = C then _ else _); rw [if_pos rfl, if_pos rfl]
            · show (if C = C then _ else _) = (if C = C then _ else _); rw [if_pos rfl, if_pos rfl]
            · unfold lst
              have e1 : (up2 (up2 (up2 (up2 (up2 (up2 (up2 (up2 (up2 μ 16 C (nI cc)) 17 C (nI wn)) 18 C vb) 19 C b) 23 (8 * C + 0) (nI C)) 22 C (nI (0 + 1))) 14 C 0) 15 C 1) 13 12 (nI (C + 1))) 22 C = nI 1 := by
                show (if C = C then _ else _) = _; rw [if_pos rfl]
              rw [e1]
              show [if 8 * C + 0 = 8 * C + 0 then nI C else _] = _
              rw [if_pos rfl]
            · show (if C = C then _ else _) = _; rw [if_pos rfl]
            · show (if C = C then _ else _) = _; rw [if_pos rfl]
      · have hC30 : C = 30 := by omega
        subst hC30
        exact ⟨2, μ, o, 0, up2 ν1 0 0 2, rfl, rfl, rfl, fun h => absurd h (by decide), R_thr 2 hz2⟩
    · rw [if_neg h1, if_neg h2, decide_eq_false h3]
      exact ⟨1, μ, o, 0, up2 ν1 0 0 1, rfl, rfl, rfl, fun h => absurd h (by decide), R_thr 1 hz2⟩
  · rw [w2, w3]
    exact ⟨1, μ, o, 0, up2 ν1 0 0 1, rfl, rfl, rfl, fun h => absurd h (by decide), R_thr 1 hz2⟩
end
section
/-! ===== L3: conditions are joined ===== -/
theorem mJoin_eq {C : Nat} {x1 x2 x3 z : Int32} {ν : Mm} (hC : C < 30) (e : ν 0 26 = nI C) :
    (chk (nI C) 30 ((chk ((up2 ν 12 (nI C).toNatClampNeg x1) 0 26) 30 ((chk ((up2 (up2 ν 12 (nI C).toNatClampNeg x1) 13 ((up2 ν 12 (nI C).toNatClampNeg x1) 0 26).toNatClampNeg x2) 0 26) 30 ((setm (up2 (up2 (up2 ν 12 (nI C).toNatClampNeg x1) 13 ((up2 ν 12 (nI C).toNatClampNeg x1) 0 26).toNatClampNeg x2) 14 ((up2 (up2 ν 12 (nI C).toNatClampNeg x1) 13 ((up2 ν 12 (nI C).toNatClampNeg x1) 0 26).toNatClampNeg x2) 0 26).toNatClampNeg x3) (fun mm17 => (chk (mm17 0 26) 30 (some (((up2 (up2 mm17 15 (mm17 0 26).toNatClampNeg z) 0 26 (((up2 mm17 15 (mm17 0 26).toNatClampNeg z) 0 26) + 1)) 0 26) - 1, (up2 (up2 mm17 15 (mm17 0 26).toNatClampNeg z) 0 26 (((up2 mm17 15 (mm17 0 26).toNatClampNeg z) 0 26) + 1))))))))))))) =
    some (nI C, up2 (up2 (up2 (up2 (up2 ν 12 C x1) 13 C x2) 14 C x3) 15 C z) 0 26 (nI (C + 1))) := by
  unfold setm
  have eC : (nI C).toNatClampNeg = C := w_nat (by omega)
  have ck : ∀ {α : Type} (k : Option α), chk (nI C) 30 k = k := fun k => chk_nI hC (by omega)
  have rd : ∀ (m : Mm) (v : Int32), (up2 m 0 26 v) 0 26 = v := fun m v => rfl
  simp only [up2_n (k := 12) (a := 0) (by omega), up2_n (k := 13) (a := 0) (by omega), up2_n (k := 14) (a := 0) (by omega), up2_n (k := 15) (a := 0) (by omega), e, eC, ck, rd, w_succ, w_pred]
def jnM (μ : Mm) (C k a b na nb z : Nat) : Mm := up2 (up2 (up2 (kt (kt (up2 (up2 μ 20 C (nI a)) 21 C (nI b)) C 0 a na) C (0 + na) b nb) 14 C (nI k)) 15 C (nI z)) 13 12 (nI (C + 1))
theorem appendJoin_eq {C k a b na nb sa sb : Nat} {μ : Mm} (hC : C < 30) (e : μ 13 12 = nI C) (e2 : μ 22 C = 0) (ha : a < C) (hb : b < C) (ea : μ 22 a = nI na) (eb : μ 22 b = nI nb) (sa' : μ 15 a = nI sa) (sb' : μ 15 b = nI sb) (hn : na + nb ≤ 8) :
    f_X3_appendJoin (nI k) (nI a) (nI b) μ = some (nI C, jnM μ C k a b na nb (1 + sa + sb)) := by
  unfold f_X3_appendJoin
  have eC : (nI C).toNatClampNeg = C := w_nat (by omega)
  have ck : ∀ {α : Type} (k : Option α), chk (nI C) 30 k = k := fun k => chk_nI hC (by omega)
  simp only [up2_n (k := 20) (a := 13) (by omega), up2_n (k := 21) (a := 13) (by omega), e, eC, ck]
  have g1 : (kt (up2 (up2 μ 20 C (nI a)) 21 C (nI b)) C 0 a na) 22 C = nI (0 + na) := by
    show (if C = C then nI (0 + na) else μ 22 C) = _; rw [if_pos rfl]
  have g2 : (kt (up2 (up2 μ 20 C (nI a)) 21 C (nI b)) C 0 a na) 22 b = nI nb := by
    show (if b = C then nI (0 + na) else μ 22 b) = _; rw [if_neg (by omega), eb]
  rw [keepOf_eq (μ := up2 (up2 μ 20 C (nI a)) 21 C (nI b)) (n := 0) (m := na) hC ha e e2 ea (by omega), Option.bind_some,
    keepOf_eq (μ := kt (up2 (up2 μ 20 C (nI a)) 21 C (nI b)) C 0 a na) (n := 0 + na) (m := nb) hC hb e g1 g2 (by omega), Option.bind_some,
    chk_nI (show a < 30 by omega) (by omega), chk_nI (show b < 30 by omega) (by omega), w_nat (show a < 2147483648 by omega), w_nat (show b < 2147483648 by omega)]
  have f1 : (kt (kt (up2 (up2 μ 20 C (nI a)) 21 C (nI b)) C 0 a na) C (0 + na) b nb) 15 a = nI sa := sa'
  have f2 : (kt (kt (up2 (up2 μ 20 C (nI a)) 21 C (nI b)) C 0 a na) C (0 + na) b nb) 15 b = nI sb := sb'
  rw [f1, f2, finish_eq (μ := kt (kt (up2 (up2 μ 20 C (nI a)) 21 C (nI b)) C 0 a na) C (0 + na) b nb) hC e, Option.bind_some]
  rw [show (1 : Int32) = nI 1 from rfl, w_add, w_add]
  rfl
theorem jnM_lst {C k a b na nb z : Nat} {μ : Mm} (hC : C < 30) (ha : a < C) (hb : b < C) (ea : μ 22 a = nI na) (eb : μ 22 b = nI nb) (hn : na + nb ≤ 8) : lst (jnM μ C k a b na nb z) C = lst μ a ++ lst μ b := by
  have e1 : (jnM μ C k a b na nb z) 22 C = nI (na + nb) := by
    show (if C = C then nI (0 + na + nb) else _) = _; rw [if_pos rfl, Nat.zero_add]
  unfold lst
  rw [e1, ea, eb, w_nat (by omega), w_nat (by omega), w_nat (by omega), List.range_add, List.map_append, List.map_map]
  congr 1
  · apply List.map_congr_left
    intro i hi
    rw [List.mem_range] at hi
    show (if 8 * C + (0 + na) ≤ 8 * C + i ∧ 8 * C + i < 8 * C + (0 + na) + nb then _ else (if 8 * C + 0 ≤ 8 * C + i ∧ 8 * C + i < 8 * C + 0 + na then μ 23 (8 * a + (8 * C + i - (8 * C + 0))) else μ 23 (8 * C + i))) = μ 23 (8 * a + i)
    rw [if_neg (by omega), if_pos (by omega)]
    congr 1; omega
  · apply List.map_congr_left
    intro i hi
    rw [List.mem_range] at hi
    show (if 8 * C + (0 + na) ≤ 8 * C + (na + i) ∧ 8 * C + (na + i) < 8 * C + (0 + na) + nb then (if 8 * C + 0 ≤ 8 * b + (8 * C + (na + i) - (8 * C + (0 + na))) ∧ 8 * b + (8 * C + (na + i) - (8 * C + (0 + na))) < 8 * C + 0 + na then _ else μ 23 (8 * b + (8 * C + (na + i) - (8 * C + (0 + na))))) else _) = μ 23 (8 * b + i)
    rw [if_pos (by omega), if_neg (by omega)]
    congr 1; omega
theorem kt_o {μ : Mm} {C n f m a j : Nat} (hj : j ≠ C) (ha : a ≠ 23) : kt μ C n f m a j = μ a j := by
  unfold kt
  rw [if_neg ha]
  by_cases h : a = 22
  · rw [if_pos h, h]
    show (if j = C then _ else μ 22 j) = _
    rw [if_neg hj]
  · rw [if_neg h]
theorem Cnd_n {μ ν : Mm} {j : Nat} (h : Cnd μ ν j) : ∃ s n, s ≤ 15 ∧ μ 15 j = nI s ∧ ν 15 j = nI s ∧ μ 22 j = nI n ∧ 2 * n ≤ s + 1 := by
  obtain ⟨k, s, n, _, hs, _, _, e3, e4, e5, e6, _⟩ := h
  exact ⟨s, n, hs, e4, e3, e5, e6⟩
theorem lq15 {n : Nat} (h : n ≤ 15) : nI n ≤ 15 := (w_le (b := 15) (by omega) (by omega)).mpr h
theorem lr15 {n : Nat} (hn : n < 1000) (h : ¬ n ≤ 15) : ¬ nI n ≤ 15 := fun h2 => h ((w_le (b := 15) (by omega) (by omega)).mp h2)
theorem op_addBoth {t : Nat} {μ ν : Mm} (x y : Int32) (o : Nat → Int64) (h : R t μ ν) : ∃ c μ' o' w ν', f_L_addBoth_0_o x y μ o = some (c, μ', o') ∧ f_X8_addBoth x y ν = some (w, ν') ∧ Res t c o' w μ' ν' := by
  have hz : R t μ (up2 ν 0 0 0) := R_thr 0 h
  unfold f_X8_addBoth f_X8_joins f_L_addBoth_0_o f_X7_addBoth f_X7_requireJoinable
  generalize e : up2 ν 0 0 0 = ν1 at hz ⊢
  have z : ν1 0 0 = 0 := by rw [← e]; rfl
  have hz2 := hz
  obtain ⟨ht, A, T, P, F, C, N, hx⟩ := hz
  have hx2 := hx
  obtain ⟨hA, hT, hL, hK, hC, hR, hc, hJ⟩ := hx
  obtain ⟨q1, q2, q3, q4, q5, q6⟩ := id hC
  rcases idx_cases x C with hb | ⟨a, ha, rfl⟩
  · rw [reqC_bad q1 q2 hb, isC_bad q1 q3 hb]
    exact ⟨1, μ, o, 0, up2 ν1 0 0 1, rfl, rfl, rfl, fun h => absurd h (by decide), R_thr 1 hz2⟩
  rcases idx_cases y C with hb | ⟨b, hb, rfl⟩
  · rw [reqC_ok q1 q2 ha, isC_ok q1 q3 ha, reqC_bad q1 q2 hb, isC_bad q1 q3 hb]
    exact ⟨1, μ, o, 0, up2 ν1 0 0 1, rfl, rfl, rfl, fun h => absurd h (by decide), R_thr 1 hz2⟩
  obtain ⟨sa, na, a1, a2, a3, a4, a5⟩ := Cnd_n (q6 a ha)
  obtain ⟨sb, nb, b1, b2, b3, b4, b5⟩ := Cnd_n (q6 b hb)
  rw [reqC_ok q1 q2 ha, isC_ok q1 q3 ha, reqC_ok q1 q2 hb, isC_ok q1 q3 hb]
  rw [Option.bind_some, Option.bind_some, if_pos rfl, if_pos rfl, Option.bind_some, Option.bind_some, if_neg (show ¬ (1 : Int32) = 0 by decide), if_neg (show ¬ (1 : Int32) = 0 by decide), if_neg (show ¬ (1 : Int32) = 3 by decide)]
  rw [chk_nI (show a < 30 by omega) (by omega), chk_nI (show b < 30 by omega) (by omega), chk_nI (show a < 30 by omega) (by omega), chk_nI (show b < 30 by omega) (by omega), w_nat (show a < 2147483648 by omega), w_nat (show b < 2147483648 by omega), a2, a3, b2, b3]
  unfold f_X8_joins_J50 f_X7_requireSize f_X7_requireRoomForCondition
  have es : (1 : Int32) + nI sa + nI sb = nI (1 + sa + sb) := by rw [show (1 : Int32) = nI 1 from rfl, w_add, w_add]
  rw [es, q2, q3]
  by_cases hs : 1 + sa + sb ≤ 15
  · rw [if_pos (lq15 hs), if_pos (lq15 hs), Option.bind_some, if_pos rfl]
    by_cases hfull : C < 30
    · rw [if_pos (show nI C < 30 from (w_lt (b := 30) (by omega) (by omega)).mpr hfull), if_neg (show ¬ nI C = 30 from fun hh => by rw [show (30 : Int32) = nI 30 from rfl, w_eq (by omega) (by omega)] at hh; omega), Option.bind_some, if_pos rfl, Option.bind_some, if_pos rfl]
      rw [show f_X3_appendJoin 1 (nI a) (nI b) μ = f_X3_appendJoin (nI 1) (nI a) (nI b) μ from rfl, appendJoin_eq (k := 1) hfull q2 (q5 C (Nat.le_refl C)) ha hb a4 b4 a2 b2 (by omega), mJoin_eq hfull q3]
      refine ⟨0, jnM μ C 1 a b na nb (1 + sa + sb), vp_updL o (0 : Int32).toNatClampNeg (nI C).toInt64, nI C, up2 (up2 (up2 (up2 (up2 ν1 12 C 1) 13 C (nI a)) 14 C (nI b)) 15 C (nI (1 + sa + sb))) 0 26 (nI (C + 1)), rfl, rfl, z, fun _ => rfl, ht, A, T, P, F, C + 1, N, ?_⟩
      have hmm : ∀ k j, 14 ≤ k → k ≤ 22 → j ≠ C → jnM μ C 1 a b na nb (1 + sa + sb) k j = μ k j := by
        intro k j hk1 hk2 hj
        unfold jnM
        simp only [up2_o hj, up2_n (show k ≠ 13 by omega), kt_o hj (show k ≠ 23 by omega)]
      have h23 : ∀ s, s < 8 * C → jnM μ C 1 a b na nb (1 + sa + sb) 23 s = μ 23 s := by
        intro s hs
        show (if 8 * C + (0 + na) ≤ s ∧ s < 8 * C + (0 + na) + nb then _ else (if 8 * C + 0 ≤ s ∧ s < 8 * C + 0 + na then _ else μ 23 s)) = _
        rw [if_neg (by omega), if_neg (by omega)]
      refine R_addC hx2 hfull ?_ ?_ ?_ rfl rfl hmm ?_ h23 ?_ ?_
      · intro k hk
        unfold jnM kt
        simp only [up2_n (show k ≠ 13 by omega), up2_n (show k ≠ 14 by omega), up2_n (show k ≠ 15 by omega), if_neg (show ¬ k = 23 by omega), if_neg (show ¬ k = 22 by omega), up2_n (show k ≠ 20 by omega), up2_n (show k ≠ 21 by omega)]
      · intro k hk
        simp only [up2_n (show k ≠ 0 by omega), up2_n (show k ≠ 12 by omega), up2_n (show k ≠ 13 by omega), up2_n (show k ≠ 14 by omega), up2_n (show k ≠ 15 by omega)]
      · intro j hj
        show (if j = 26 then _ else ν1 0 j) = _
        rw [if_neg hj]
      · intro k j hk1 hk2 hj
        simp only [up2_o hj, up2_n (show k ≠ 0 by omega)]
      · refine ⟨a, b, by omega, by omega, ?_, ?_⟩
        · show (if C = C then _ else _) = _; rw [if_pos rfl]
        · show (if C = C then _ else _) = _; rw [if_pos rfl]
      · refine ⟨1, 1 + sa + sb, na + nb, by omega, hs, ?_, ?_, ?_, ?_, ?_, by omega, fun h => by omega, fun h => by omega, fun _ => ⟨a, b, sa, sb, ha, hb, ?_, ?_, ?_, ?_, ?_, ?_, rfl, ?_⟩⟩
        · show (if C = C then _ else _) = _; rw [if_pos rfl]; rfl
        · show (if C = C then _ else _) = _; rw [if_pos rfl]
        · show (if C = C then _ else _) = _; rw [if_pos rfl]
        · show (if C = C then _ else _) = _; rw [if_pos rfl]
        · show (if C = C then nI (0 + na + nb) else _) = _; rw [if_pos rfl, Nat.zero_add]
        · show (if C = C then _ else _) = _; rw [if_pos rfl]
        · show (if C = C then _ else _) = _; rw [if_pos rfl]
        · show (if C = C then _ else _) = _; rw [if_pos rfl]
        · show (if C = C then _ else _) = _; rw [if_pos rfl]
        · show (if a = C then _ else ν1 15 a) = _; rw [if_neg (by omega), a3]
        · show (if b = C then _ else ν1 15 b) = _; rw [if_neg (by omega), b3]
        · rw [jnM_lst hfull ha hb a4 b4 (by omega), lst_st ha (by omega) a4 (by omega) (hmm 22 a (by omega) (by omega) (by omega)) h23, lst_st hb (by omega) b4 (by omega) (hmm 22 b (by omega) (by omega) (by omega)) h23]
    · have hC30 : C = 30 := by omega
      subst hC30
      exact ⟨3, μ, o, 0, up2 ν1 0 0 3, rfl, rfl, rfl, fun h => absurd h (by decide), R_thr 3 hz2⟩
  · rw [if_neg (lr15 (by omega) hs), if_neg (lr15 (by omega) hs)]
    exact ⟨2, μ, o, 0, up2 ν1 0 0 2, rfl, rfl, rfl, fun h => absurd h (by decide), R_thr 2 hz2⟩
theorem op_addEither {t : Nat} {μ ν : Mm} (x y : Int32) (o : Nat → Int64) (h : R t μ ν) : ∃ c μ' o' w ν', f_L_addEither_0_o x y μ o = some (c, μ', o') ∧ f_X8_addEither x y ν = some (w, ν') ∧ Res t c o' w μ' ν' := by
  have hz : R t μ (up2 ν 0 0 0) := R_thr 0 h
  unfold f_X8_addEither f_X8_joins f_L_addEither_0_o f_X7_addEither f_X7_requireJoinable
  generalize e : up2 ν 0 0 0 = ν1 at hz ⊢
  have z : ν1 0 0 = 0 := by rw [← e]; rfl
  have hz2 := hz
  obtain ⟨ht, A, T, P, F, C, N, hx⟩ := hz
  have hx2 := hx
  obtain ⟨hA, hT, hL, hK, hC, hR, hc, hJ⟩ := hx
  obtain ⟨q1, q2, q3, q4, q5, q6⟩ := id hC
  rcases idx_cases x C with hb | ⟨a, ha, rfl⟩
  · rw [reqC_bad q1 q2 hb, isC_bad q1 q3 hb]
    exact ⟨1, μ, o, 0, up2 ν1 0 0 1, rfl, rfl, rfl, fun h => absurd h (by decide), R_thr 1 hz2⟩
  rcases idx_cases y C with hb | ⟨b, hb, rfl⟩
  · rw [reqC_ok q1 q2 ha, isC_ok q1 q3 ha, reqC_bad q1 q2 hb, isC_bad q1 q3 hb]
    exact ⟨1, μ, o, 0, up2 ν1 0 0 1, rfl, rfl, rfl, fun h => absurd h (by decide), R_thr 1 hz2⟩
  obtain ⟨sa, na, a1, a2, a3, a4, a5⟩ := Cnd_n (q6 a ha)
  obtain ⟨sb, nb, b1, b2, b3, b4, b5⟩ := Cnd_n (q6 b hb)
  rw [reqC_ok q1 q2 ha, isC_ok q1 q3 ha, reqC_ok q1 q2 hb, isC_ok q1 q3 hb]
  rw [Option.bind_some, Option.bind_some, if_pos rfl, if_pos rfl, Option.bind_some, Option.bind_some, if_neg (show ¬ (1 : Int32) = 0 by decide), if_neg (show ¬ (1 : Int32) = 0 by decide), if_neg (show ¬ (2 : Int32) = 3 by decide)]
  rw [chk_nI (show a < 30 by omega) (by omega), chk_nI (show b < 30 by omega) (by omega), chk_nI (show a < 30 by omega) (by omega), chk_nI (show b < 30 by omega) (by omega), w_nat (show a < 2147483648 by omega), w_nat (show b < 2147483648 by omega), a2, a3, b2, b3]
  unfold f_X8_joins_J50 f_X7_requireSize f_X7_requireRoomForCondition
  have es : (1 : Int32) + nI sa + nI sb = nI (1 + sa + sb) := by rw [show (1 : Int32) = nI 1 from rfl, w_add, w_add]
  rw [es, q2, q3]
  by_cases hs : 1 + sa + sb ≤ 15
  · rw [if_pos (lq15 hs), if_pos (lq15 hs), Option.bind_some, if_pos rfl]
    by_cases hfull : C < 30
    · rw [if_pos (show nI C < 30 from (w_lt (b := 30) (by omega) (by omega)).mpr hfull), if_neg (show ¬ nI C = 30 from fun hh => by rw [show (30 : Int32) = nI 30 from rfl, w_eq (by omega) (by omega)] at hh; omega), Option.bind_some, if_pos rfl, Option.bind_some, if_pos rfl]
      rw [show f_X3_appendJoin 2 (nI a) (nI b) μ = f_X3_appendJoin (nI 2) (nI a) (nI b) μ from rfl, appendJoin_eq (k := 2) hfull q2 (q5 C (Nat.le_refl C)) ha hb a4 b4 a2 b2 (by omega), mJoin_eq hfull q3]
      refine ⟨0, jnM μ C 2 a b na nb (1 + sa + sb), vp_updL o (0 : Int32).toNatClampNeg (nI C).toInt64, nI C, up2 (up2 (up2 (up2 (up2 ν1 12 C 2) 13 C (nI a)) 14 C (nI b)) 15 C (nI (1 + sa + sb))) 0 26 (nI (C + 1)), rfl, rfl, z, fun _ => rfl, ht, A, T, P, F, C + 1, N, ?_⟩
      have hmm : ∀ k j, 14 ≤ k → k ≤ 22 → j ≠ C → jnM μ C 2 a b na nb (1 + sa + sb) k j = μ k j := by
        intro k j hk1 hk2 hj
        unfold jnM
        simp only [up2_o hj, up2_n (show k ≠ 13 by omega), kt_o hj (show k ≠ 23 by omega)]
      have h23 : ∀ s, s < 8 * C → jnM μ C 2 a b na nb (1 + sa + sb) 23 s = μ 23 s := by
        intro s hs
        show (if 8 * C + (0 + na) ≤ s ∧ s < 8 * C + (0 + na) + nb then _ else (if 8 * C + 0 ≤ s ∧ s < 8 * C + 0 + na then _ else μ 23 s)) = _
        rw [if_neg (by omega), if_neg (by omega)]
      refine R_addC hx2 hfull ?_ ?_ ?_ rfl rfl hmm ?_ h23 ?_ ?_
      · intro k hk
        unfold jnM kt
        simp only [up2_n (show k ≠ 13 by omega), up2_n (show k ≠ 14 by omega), up2_n (show k ≠ 15 by omega), if_neg (show ¬ k = 23 by omega), if_neg (show ¬ k = 22 by omega), up2_n (show k ≠ 20 by omega), up2_n (show k ≠ 21 by omega)]
      · intro k hk
        simp only [up2_n (show k ≠ 0 by omega), up2_n (show k ≠ 12 by omega), up2_n (show k ≠ 13 by omega), up2_n (show k ≠ 14 by omega), up2_n (show k ≠ 15 by omega)]
      · intro j hj
        show (if j = 26 then _ else ν1 0 j) = _
        rw [if_neg hj]
      · intro k j hk1 hk2 hj
        simp only [up2_o hj, up2_n (show k ≠ 0 by omega)]
      · refine ⟨a, b, by omega, by omega, ?_, ?_⟩
        · show (if C = C then _ else _) = _; rw [if_pos rfl]
        · show (if C = C then _ else _) = _; rw [if_pos rfl]
      · refine ⟨2, 1 + sa + sb, na + nb, by omega, hs, ?_, ?_, ?_, ?_, ?_, by omega, fun h => by omega, fun h => by omega, fun _ => ⟨a, b, sa, sb, ha, hb, ?_, ?_, ?_, ?_, ?_, ?_, rfl, ?_⟩⟩
        · show (if C = C then _ else _) = _; rw [if_pos rfl]; rfl
        · show (if C = C then _ else _) = _; rw [if_pos rfl]
        · show (if C = C then _ else _) = _; rw [if_pos rfl]
        · show (if C = C then _ else _) = _; rw [if_pos rfl]
        · show (if C = C then nI (0 + na + nb) else _) = _; rw [if_pos rfl, Nat.zero_add]
        · show (if C = C then _ else _) = _; rw [if_pos rfl]
        · show (if C = C then _ else _) = _; rw [if_pos rfl]
        · show (if C = C then _ else _) = _; rw [if_pos rfl]
        · show (if C = C then _ else _) = _; rw [if_pos rfl]
        · show (if a = C then _ else ν1 15 a) = _; rw [if_neg (by omega), a3]
        · show (if b = C then _ else ν1 15 b) = _; rw [if_neg (by omega), b3]
        · rw [jnM_lst hfull ha hb a4 b4 (by omega), lst_st ha (by omega) a4 (by omega) (hmm 22 a (by omega) (by omega) (by omega)) h23, lst_st hb (by omega) b4 (by omega) (hmm 22 b (by omega) (by omega) (by omega)) h23]
    · have hC30 : C = 30 := by omega
      subst hC30
      exact ⟨3, μ, o, 0, up2 ν1 0 0 3, rfl, rfl, rfl, fun h => absurd h (by decide), R_thr 3 hz2⟩
  · rw [if_neg (lr15 (by omega) hs), if_neg (lr15 (by omega) hs)]
    exact ⟨2, μ, o, 0, up2 ν1 0 0 2, rfl, rfl, rfl, fun h => absurd h (by decide), R_thr 2 hz2⟩
def ntM (μ : Mm) (C a z : Nat) : Mm := up2 (up2 (up2 (up2 μ 20 C (nI a)) 14 C (nI 3)) 15 C (nI z)) 13 12 (nI (C + 1))
theorem op_addNot {t : Nat} {μ ν : Mm} (x : Int32) (o : Nat → Int64) (h : R t μ ν) : ∃ c μ' o' w ν', f_L_addNot_0_o x μ o = some (c, μ', o') ∧ f_X8_addNot x ν = some (w, ν') ∧ Res t c o' w μ' ν' := by
  have hz : R t μ (up2 ν 0 0 0) := R_thr 0 h
  unfold f_X8_addNot f_X8_joins f_L_addNot_0_o f_X7_addNot
  generalize e : up2 ν 0 0 0 = ν1 at hz ⊢
  have z : ν1 0 0 = 0 := by rw [← e]; rfl
  have hz2 := hz
  obtain ⟨ht, A, T, P, F, C, N, hx⟩ := hz
  have hx2 := hx
  obtain ⟨hA, hT, hL, hK, hC, hR, hc, hJ⟩ := hx
  obtain ⟨q1, q2, q3, q4, q5, q6⟩ := id hC
  rcases idx_cases x C with hb | ⟨a, ha, rfl⟩
  · rw [reqC_bad q1 q2 hb, isC_bad q1 q3 hb]
    exact ⟨1, μ, o, 0, up2 ν1 0 0 1, rfl, rfl, rfl, fun h => absurd h (by decide), R_thr 1 hz2⟩
  obtain ⟨sa, na, a1, a2, a3, a4, a5⟩ := Cnd_n (q6 a ha)
  rw [reqC_ok q1 q2 ha, isC_ok q1 q3 ha]
  rw [Option.bind_some, Option.bind_some, if_pos rfl, Option.bind_some, if_neg (show ¬ (1 : Int32) = 0 by decide), if_neg (show ¬ (1 : Int32) = 0 by decide), if_pos rfl]
  rw [chk_nI (show a < 30 by omega) (by omega), chk_nI (show a < 30 by omega) (by omega), w_nat (show a < 2147483648 by omega), a2, a3]
  unfold f_X8_joins_J50 f_X7_requireSize f_X7_requireRoomForCondition
  have es : (1 : Int32) + nI sa = nI (1 + sa) := by rw [show (1 : Int32) = nI 1 from rfl, w_add]
  rw [es, Int32.add_zero, q2, q3]
  by_cases hs : 1 + sa ≤ 15
  · rw [if_pos (lq15 hs), if_pos (lq15 hs), Option.bind_some, if_pos rfl]
    by_cases hfull : C < 30
    · rw [if_pos (show nI C < 30 from (w_lt (b := 30) (by omega) (by omega)).mpr hfull), if_neg (show ¬ nI C = 30 from fun hh => by rw [show (30 : Int32) = nI 30 from rfl, w_eq (by omega) (by omega)] at hh; omega), Option.bind_some, if_pos rfl]
      have ap : f_X3_appendNot (nI a) μ = some (nI C, ntM μ C a (1 + sa)) := by
        unfold f_X3_appendNot
        have eC : (nI C).toNatClampNeg = C := w_nat (by omega)
        have f1 : (up2 μ 20 C (nI a)) 15 a = nI sa := a2
        rw [q2, chk_nI hfull (by omega), chk_nI (show a < 30 by omega) (by omega), eC, w_nat (show a < 2147483648 by omega), f1, finish_eq (μ := up2 μ 20 C (nI a)) hfull q2, Option.bind_some, es]
        rfl
      rw [ap, mJoin_eq hfull q3]
      refine ⟨0, ntM μ C a (1 + sa), vp_updL o (0 : Int32).toNatClampNeg (nI C).toInt64, nI C, up2 (up2 (up2 (up2 (up2 ν1 12 C 3) 13 C (nI a)) 14 C (nI a)) 15 C (nI (1 + sa))) 0 26 (nI (C + 1)), rfl, rfl, z, fun _ => rfl, ht, A, T, P, F, C + 1, N, ?_⟩
      have hmm : ∀ k j, 14 ≤ k → k ≤ 22 → j ≠ C → ntM μ C a (1 + sa) k j = μ k j := by
        intro k j hk1 hk2 hj
        unfold ntM
        simp only [up2_o hj, up2_n (show k ≠ 13 by omega)]
      refine R_addC hx2 hfull ?_ ?_ ?_ rfl rfl hmm ?_ (fun s _ => rfl) ?_ ?_
      · intro k hk
        unfold ntM
        simp only [up2_n (show k ≠ 13 by omega), up2_n (show k ≠ 14 by omega), up2_n (show k ≠ 15 by omega), up2_n (show k ≠ 20 by omega)]
      · intro k hk
        simp only [up2_n (show k ≠ 0 by omega), up2_n (show k ≠ 12 by omega), up2_n (show k ≠ 13 by omega), up2_n (show k ≠ 14 by omega), up2_n (show k ≠ 15 by omega)]
      · intro j hj
        show (if j = 26 then _ else ν1 0 j) = _
        rw [if_neg hj]
      · intro k j hk1 hk2 hj
        simp only [up2_o hj, up2_n (show k ≠ 0 by omega)]
      · obtain ⟨_, b, _, hb, _, e21⟩ := q4 C hfull
        refine ⟨a, b, by omega, hb, ?_, e21⟩
        show (if C = C then _ else _) = _; rw [if_pos rfl]
      · have e22 : (ntM μ C a (1 + sa)) 22 C = nI 0 := q5 C (Nat.le_refl C)
        refine ⟨3, 1 + sa, 0, by omega, hs, ?_, ?_, ?_, ?_, e22, by omega, fun h => by omega, fun _ => ⟨?_, a, sa, ha, ?_, ?_, ?_, rfl⟩, fun h => by omega⟩
        · show (if C = C then _ else _) = _; rw [if_pos rfl]; rfl
        · show (if C = C then _ else _) = _; rw [if_pos rfl]
        · show (if C = C then _ else _) = _; rw [if_pos rfl]
        · show (if C = C then _ else _) = _; rw [if_pos rfl]
        · unfold lst; rw [e22]; rfl
        · show (if C = C then _ else _) = _; rw [if_pos rfl]
        · show (if C = C then _ else _) = _; rw [if_pos rfl]
        · show (if a = C then _ else ν1 15 a) = _; rw [if_neg (by omega), a3]
    · have hC30 : C = 30 := by omega
      subst hC30
      exact ⟨3, μ, o, 0, up2 ν1 0 0 3, rfl, rfl, rfl, fun h => absurd h (by decide), R_thr 3 hz2⟩
  · rw [if_neg (lr15 (by omega) hs), if_neg (lr15 (by omega) hs)]
    exact ⟨2, μ, o, 0, up2 ν1 0 0 2, rfl, rfl, rfl, fun h => absurd h (by decide), R_thr 2 hz2⟩
end
section
/-! ===== L3: weights, soundness ===== -/
theorem weightOf_eq {C N : Nat} {x : Int32} {μ ν : Mm} (hR : Rul C N μ ν) : f_X6_weightOf x μ = some (fo (wgS ν x) 0 N 0) := by
  obtain ⟨n1, n2, n3, n4, n5, n6⟩ := hR
  unfold f_X6_weightOf
  refine up_loop' (fun n i s => f_X6_weightOf_L4 x μ n s i) N (fun s => some s) _ ?_ ?_ N fuel 0 0 (by omega) (by unfold fuel; omega)
  · intro n s
    show f_X6_weightOf_L4 x μ (n + 1) s (nI N) = _
    unfold f_X6_weightOf_L4
    rw [n2, if_pos (by rw [w_le (by omega) (by omega)]; omega)]
  · intro n q s hq
    show f_X6_weightOf_L4 x μ (n + 1) s (nI q) = _
    conv => lhs; unfold f_X6_weightOf_L4
    obtain ⟨c, w, _, _, _, _, _, e1, e2⟩ := n6 q hq
    rw [n2, if_neg (by rw [w_le (by omega) (by omega)]; omega), hasBit_eq _ (show q < 32 by omega), Option.bind_some, chk_nI (show q < 12 by omega) (by omega), w_nat (by omega), w_succ, e1]
    unfold wgS
    rw [e2]
    cases bt x q
    · rw [b2_f, if_pos rfl, if_neg (by simp)]
    · rw [b2_t, if_neg (by decide), if_pos rfl]
theorem op_isSound {t : Nat} {μ ν : Mm} (h : R t μ ν) : ∃ w ν', f_X7_isSound μ = some w ∧ f_X8_isSound ν = some (w, ν') ∧ R t μ ν' := by
  have hz : R t μ (up2 ν 0 0 0) := R_thr 0 h
  unfold f_X7_isSound f_X8_isSound f_X7_areScoresSound f_X7_areSumsSound
  refine ⟨1, up2 ν 0 0 0, ?_, rfl, hz⟩
  obtain ⟨ht, A, T, P, F, C, N, hA, hT, hL, hK, hC, hR, hc, hJ⟩ := h
  have hP := hL.1
  have hA1 := hA.1
  have e1 : f_X7_areScoresSound_L2 μ fuel 0 = some 1 := by
    refine (up_loop' (fun n i (_ : Unit) => f_X7_areScoresSound_L2 μ n i) P (fun _ => some 1) (fun _ s => s) ?_ ?_ P fuel 0 () (by omega) (by unfold fuel; omega))
    · intro n s
      show f_X7_areScoresSound_L2 μ (n + 1) (nI P) = _
      unfold f_X7_areScoresSound_L2
      rw [hL.2.1, if_pos (by rw [w_le (by omega) (by omega)]; omega)]
    · intro n q s hq
      show f_X7_areScoresSound_L2 μ (n + 1) (nI q) = _
      conv => lhs; unfold f_X7_areScoresSound_L2
      rw [hL.2.1, if_neg (by rw [w_le (by omega) (by omega)]; omega), chk_nI (show q < 200 by omega) (by omega), chk_nI (show q < 200 by omega) (by omega), w_nat (by omega), weightOf_eq hR, Option.bind_some, (hc.2 q hq).2.2.2, if_pos rfl, w_succ]
  have e2 : f_X7_areSumsSound_L2 μ fuel 0 = some 1 := by
    refine (up_loop' (fun n i (_ : Unit) => f_X7_areSumsSound_L2 μ n i) A (fun _ => some 1) (fun _ s => s) ?_ ?_ A fuel 0 () (by omega) (by unfold fuel; omega))
    · intro n s
      show f_X7_areSumsSound_L2 μ (n + 1) (nI A) = _
      unfold f_X7_areSumsSound_L2
      rw [hA.2.1, if_pos (by rw [w_le (by omega) (by omega)]; omega)]
    · intro n q s hq
      show f_X7_areSumsSound_L2 μ (n + 1) (nI q) = _
      conv => lhs; unfold f_X7_areSumsSound_L2
      rw [hA.2.1, if_neg (by rw [w_le (by omega) (by omega)]; omega), keptSum_eq hT ht hL hK (show win 10080 from ⟨by decide, by decide⟩), sumAnew_eq hT hL, Option.bind_some, Option.bind_some, if_pos rfl, w_succ]
  rw [e1, e2]
  rfl
end
section
/-! ===== L3: the mean ===== -/
theorem gx64_ok {α : Type} {x : UInt64} {k : Option α} (h : vf_n64 x) : gx64 x k = k := by
  unfold gx64; rw [if_pos h]
theorem op_meanScore {t : Nat} {μ ν : Mm} (dd : Nat → UInt64) (h : R t μ ν) : ∃ c d' w ν', f_L_meanScore_0_d μ dd = some (c, d') ∧ f_X8_meanScore ν = some (w, ν') ∧ ν' 0 0 = c ∧ (c = 0 → d' 0 = w ∧ Op.cmpValue (FP.dcmp w w) .l = 0) ∧ R t μ ν' := by
  have hz : R t μ (up2 ν 0 0 0) := R_thr 0 h
  unfold f_X8_meanScore f_L_meanScore_0_d f_X7_meanScore
  generalize e : up2 ν 0 0 0 = ν1 at hz ⊢
  have z : ν1 0 0 = 0 := by rw [← e]; rfl
  have hz2 := hz
  obtain ⟨ht, A, T, P, F, C, N, hA, hT, hL, hK, hC, hR, hc, hJ⟩ := hz
  have hP := hL.1
  rw [hL.2.1, hL.2.2.1]
  by_cases h0 : P = 0
  · have h1 : nI P = 0 := by rw [h0]; rfl
    rw [if_pos h1, if_pos h1]
    exact ⟨1, dd, _, up2 ν1 0 0 1, rfl, rfl, rfl, fun h => absurd h (by decide), R_thr 1 hz2⟩
  · have h1 : ¬ nI P = 0 := fun h => h0 ((w_eq (b := 0) (by omega) (by omega)).mp h)
    rw [if_neg h1, if_neg h1]
    have hn : ∀ s : Int32, FP.Core.dIsNaN (FP.ddiv (FP.i2d s) (FP.i2d (nI P))) = false := fun s => mean_n h1
    have e1 : f_X7_meanScore_L30 (nI P) μ fuel 0 0 = some (0, FP.ddiv (FP.i2d (fo (fun q s => s + ν1 9 q) 0 P 0)) (FP.i2d (nI P))) := by
      refine up_loop' (fun n x s => f_X7_meanScore_L30 (nI P) μ n s x) P (fun s => some (0, FP.ddiv (FP.i2d s) (FP.i2d (nI P)))) _ ?_ ?_ P fuel 0 0 (by omega) (by unfold fuel; omega)
      · intro n s
        show f_X7_meanScore_L30 (nI P) μ (n + 1) s (nI P) = _
        unfold f_X7_meanScore_L30
        rw [if_pos (by rw [w_le (by omega) (by omega)]; omega), gx64_ok (n64_ok (hn s))]
      · intro n q s hq
        show f_X7_meanScore_L30 (nI P) μ (n + 1) s (nI q) = _
        conv => lhs; unfold f_X7_meanScore_L30
        rw [if_neg (by rw [w_le (by omega) (by omega)]; omega), chk_nI (show q < 200 by omega) (by omega), w_nat (by omega), w_succ, (Cas_e hc q hq).2]
    have e2 : f_X8_meanScore_L23 ν1 fuel 0 0 = some (FP.ddiv (FP.i2d (fo (fun q s => s + ν1 9 q) 0 P 0)) (FP.i2d (nI P)), ν1) := by
      refine up_loop' (fun n x s => f_X8_meanScore_L23 ν1 n s x) P (fun s => some (FP.ddiv (FP.i2d s) (FP.i2d (nI P)), ν1)) _ ?_ ?_ P fuel 0 0 (by omega) (by unfold fuel; omega)
      · intro n s
        show f_X8_meanScore_L23 ν1 (n + 1) s (nI P) = _
        unfold f_X8_meanScore_L23
        rw [hL.2.2.1, if_pos (by rw [w_le (by omega) (by omega)]; omega), gx64_ok (n64_ok (hn s))]
      · intro n q s hq
        show f_X8_meanScore_L23 ν1 (n + 1) s (nI q) = _
        conv => lhs; unfold f_X8_meanScore_L23
        rw [hL.2.2.1, if_neg (by rw [w_le (by omega) (by omega)]; omega), chk_nI (show q < 200 by omega) (by omega), w_nat (by omega), w_succ]
    rw [e1, e2]
    have hnn := hn (fo (fun q s => s + ν1 9 q) 0 P 0)
    generalize FP.ddiv (FP.i2d (fo (fun q s => s + ν1 9 q) 0 P 0)) (FP.i2d (nI P)) = r at hnn ⊢
    rw [Option.bind_some, if_pos rfl, chk0]
    exact ⟨0, _, r, ν1, rfl, rfl, z, fun _ => ⟨rfl, cmp_d hnn⟩, hz2⟩
end
section
/-! ===== L3: how many bits ===== -/
theorem nx_and (a b : Nat) : nI a &&& nI b = nI (a &&& b) := by
  apply Int32.toBitVec_inj.1
  show BitVec.ofNat 32 a &&& BitVec.ofNat 32 b = BitVec.ofNat 32 (a &&& b)
  apply BitVec.eq_of_getLsbD_eq
  intro i hi
  simp [hi]
theorem nx_cnt : ∀ j : Fin 32, (UInt32.ofNat j.val &&& Int32.toUInt32 31).toNat % 32 = j.val := by decide +kernel
theorem big_ush {k : Nat} (j : Nat) (hk : k < 2147483648) (hj : j < 32) : ((nI k).toUInt32 >>> ((nI j).toUInt32 &&& Int32.toUInt32 31)).toInt32 = nI (k / 2 ^ j) := by
  have hs : k / 2 ^ j ≤ k := Nat.div_le_self _ _
  have e2 : UInt32.ofNat k >>> (UInt32.ofNat j &&& Int32.toUInt32 31) = UInt32.ofNat (k / 2 ^ j) := by
    apply UInt32.toNat_inj.1
    have h1 : (UInt32.ofNat k).toNat = k := Nat.mod_eq_of_lt (by omega)
    have h2 : (UInt32.ofNat (k / 2 ^ j)).toNat = k / 2 ^ j := Nat.mod_eq_of_lt (by omega)
    rw [UInt32.toNat_shiftRight, nx_cnt ⟨j, hj⟩, h1, h2, Nat.shiftRight_eq_div_pow]
  show (UInt32.ofNat k >>> (UInt32.ofNat j &&& Int32.toUInt32 31)).toInt32 = _
  rw [e2]
  rfl
theorem and_split (x m : Nat) : x &&& m = (x % 256 &&& m % 256) + 256 * ((x / 256) &&& (m / 256)) := by
  have h1 : (x &&& m) % 2 ^ 8 = (x % 2 ^ 8) &&& (m % 2 ^ 8) := Nat.and_mod_two_pow
  have h2 : (x &&& m) / 2 ^ 8 = (x / 2 ^ 8) &&& (m / 2 ^ 8) := Nat.and_div_two_pow
  rw [show (2 : Nat) ^ 8 = 256 from rfl] at h1 h2
  rw [← h1, ← h2]
  omega
theorem and_split3 (x : Nat) {m0 m1 m2 : Nat} (m3 : Nat) (h0 : m0 < 256) (h1 : m1 < 256) (h2 : m2 < 256) : x &&& (m0 + 256 * (m1 + 256 * (m2 + 256 * m3))) = (x % 256 &&& m0) + 256 * ((x / 256 % 256 &&& m1) + 256 * ((x / 256 / 256 % 256 &&& m2) + 256 * (x / 256 / 256 / 256 &&& m3))) := by
  have e : ∀ (m r : Nat), m < 256 → (m + 256 * r) % 256 = m ∧ (m + 256 * r) / 256 = r := fun m r h => by omega
  rw [and_split x, (e _ _ h0).1, (e _ _ h0).2, and_split (x / 256), (e _ _ h1).1, (e _ _ h1).2, and_split (x / 256 / 256), (e _ _ h2).1, (e _ _ h2).2]
def pS1 (n : Nat) : Nat := n - ((n / 2) &&& 1431655765)
def pS2 (n : Nat) : Nat := (n &&& 858993459) + ((n / 4) &&& 858993459)
def pS3 (n : Nat) : Nat := (n + n / 16) &&& 252645135
def pE (w : Nat) : Nat := ((w + w / 256) + (w + w / 256) / 65536) &&& 63
theorem bc_nat {n : Nat} (h : n < 1048576) : f_J6_bitCount_0f7a4 (nI n) = some (nI (pE (pS3 (pS2 (pS1 n))))) := by
  have b1 : (n / 2) &&& 1431655765 ≤ n / 2 := Nat.and_le_left
  have s1 : nI n - (((nI n).toUInt32 >>> ((1 : Int32).toUInt32 &&& Int32.toUInt32 31)).toInt32 &&& 1431655765) = nI (pS1 n) := by
    rw [show ((1 : Int32).toUInt32 &&& Int32.toUInt32 31) = ((nI 1).toUInt32 &&& Int32.toUInt32 31) from rfl, big_ush 1 (by omega) (by omega), show (1431655765 : Int32) = nI 1431655765 from rfl, nx_and, show n / 2 ^ 1 = n / 2 from rfl, w_sub (by omega)]
    rfl
  have c1 : pS1 n ≤ n := Nat.sub_le _ _
  have b2 : pS1 n &&& 858993459 ≤ pS1 n := Nat.and_le_left
  have b3 : (pS1 n / 4) &&& 858993459 ≤ pS1 n / 4 := Nat.and_le_left
  have s2 : (nI (pS1 n) &&& 858993459) + (((nI (pS1 n)).toUInt32 >>> ((2 : Int32).toUInt32 &&& Int32.toUInt32 31)).toInt32 &&& 858993459) = nI (pS2 (pS1 n)) := by
    rw [show ((2 : Int32).toUInt32 &&& Int32.toUInt32 31) = ((nI 2).toUInt32 &&& Int32.toUInt32 31) from rfl, big_ush 2 (by omega) (by omega), show (858993459 : Int32) = nI 858993459 from rfl, nx_and, nx_and, show pS1 n / 2 ^ 2 = pS1 n / 4 from rfl, w_add]
    rfl
  have c2 : pS2 (pS1 n) ≤ 2 * n := by unfold pS2; omega
  have s3 : (nI (pS2 (pS1 n)) + ((nI (pS2 (pS1 n))).toUInt32 >>> ((4 : Int32).toUInt32 &&& Int32.toUInt32 31)).toInt32) &&& 252645135 = nI (pS3 (pS2 (pS1 n))) := by
    rw [show ((4 : Int32).toUInt32 &&& Int32.toUInt32 31) = ((nI 4).toUInt32 &&& Int32.toUInt32 31) from rfl, big_ush 4 (by omega) (by omega), show (252645135 : Int32) = nI 252645135 from rfl, w_add, nx_and, show pS2 (pS1 n) / 2 ^ 4 = pS2 (pS1 n) / 16 from rfl]
    rfl
  have c3 : pS3 (pS2 (pS1 n)) ≤ 4 * n := by
    have : pS3 (pS2 (pS1 n)) ≤ pS2 (pS1 n) + pS2 (pS1 n) / 16 := Nat.and_le_left
    omega
  unfold f_J6_bitCount_0f7a4
  rw [s1, s2, s3]
  generalize pS3 (pS2 (pS1 n)) = w at c3 ⊢
  have s4 : nI w + ((nI w).toUInt32 >>> ((8 : Int32).toUInt32 &&& Int32.toUInt32 31)).toInt32 = nI (w + w / 256) := by
    rw [show ((8 : Int32).toUInt32 &&& Int32.toUInt32 31) = ((nI 8).toUInt32 &&& Int32.toUInt32 31) from rfl, big_ush 8 (by omega) (by omega), w_add]
  rw [s4]
  have s5 : nI (w + w / 256) + ((nI (w + w / 256)).toUInt32 >>> ((16 : Int32).toUInt32 &&& Int32.toUInt32 31)).toInt32 = nI ((w + w / 256) + (w + w / 256) / 65536) := by
    rw [show ((16 : Int32).toUInt32 &&& Int32.toUInt32 31) = ((nI 16).toUInt32 &&& Int32.toUInt32 31) from rfl, big_ush 16 (by omega) (by omega), w_add]
  rw [s5, show (63 : Int32) = nI 63 from rfl, nx_and]
  rfl
def q1 (a : Nat) : Nat := a - ((a / 2) &&& 85)
def q2 (a : Nat) : Nat := (a &&& 51) + ((a / 4) &&& 51)
def q3 (a : Nat) : Nat := (a + a / 16) % 16
theorem t_a : ∀ a, a < 256 → ∀ b, b < 2 → ((a / 2 + 128 * b) &&& 85) = ((a / 2) &&& 85) := by decide +kernel
theorem t_b : ∀ a, a < 256 → ∀ b, b < 4 → ((a / 4 + 64 * b) &&& 51) = ((a / 4) &&& 51) := by decide +kernel
theorem t_c : ∀ a, a < 256 → q1 a < 256 ∧ q2 (q1 a) ≤ 68 ∧ q2 (q1 a) % 16 ≤ 4 ∧ q3 (q2 (q1 a)) ≤ 8 ∧ q3 (q2 (q1 a)) = fb_ct (fun i => a.testBit i) 8 := by decide +kernel
theorem pS1_eq {a b c : Nat} (ha : a < 256) (hb : b < 256) (hc : c < 256) : pS1 (a + 256 * b + 65536 * c) = q1 a + 256 * q1 b + 65536 * q1 c := by
  unfold pS1 q1
  rw [show (1431655765 : Nat) = 85 + 256 * (85 + 256 * (85 + 256 * 85)) from rfl, and_split3 _ 85 (by omega) (by omega) (by omega)]
  rw [show (a + 256 * b + 65536 * c) / 2 % 256 = a / 2 + 128 * (b % 2) by omega, show (a + 256 * b + 65536 * c) / 2 / 256 % 256 = b / 2 + 128 * (c % 2) by omega, show (a + 256 * b + 65536 * c) / 2 / 256 / 256 % 256 = c / 2 + 128 * 0 by omega, show (a + 256 * b + 65536 * c) / 2 / 256 / 256 / 256 = 0 by omega, t_a a ha _ (by omega), t_a b hb _ (by omega), t_a c hc _ (by omega), Nat.zero_and]
  have h1 : (a / 2) &&& 85 ≤ a / 2 := Nat.and_le_left
  have h2 : (b / 2) &&& 85 ≤ b / 2 := Nat.and_le_left
  have h3 : (c / 2) &&& 85 ≤ c / 2 := Nat.and_le_left
  omega
theorem pS2_eq {a b c : Nat} (ha : a < 256) (hb : b < 256) (hc : c < 256) : pS2 (a + 256 * b + 65536 * c) = q2 a + 256 * q2 b + 65536 * q2 c := by
  unfold pS2 q2
  have e1 : (a + 256 * b + 65536 * c) &&& 858993459 = (a &&& 51) + 256 * ((b &&& 51) + 256 * (c &&& 51)) := by
    rw [show (858993459 : Nat) = 51 + 256 * (51 + 256 * (51 + 256 * 51)) from rfl, and_split3 _ 51 (by omega) (by omega) (by omega)]
    rw [show (a + 256 * b + 65536 * c) % 256 = a by omega, show (a + 256 * b + 65536 * c) / 256 % 256 = b by omega, show (a + 256 * b + 65536 * c) / 256 / 256 % 256 = c by omega, show (a + 256 * b + 65536 * c) / 256 / 256 / 256 = 0 by omega, Nat.zero_and, Nat.mul_zero, Nat.add_zero]
  have e2 : ((a + 256 * b + 65536 * c) / 4) &&& 858993459 = ((a / 4) &&& 51) + 256 * (((b / 4) &&& 51) + 256 * ((c / 4) &&& 51)) := by
    rw [show (858993459 : Nat) = 51 + 256 * (51 + 256 * (51 + 256 * 51)) from rfl, and_split3 _ 51 (by omega) (by omega) (by omega)]
    rw [show (a + 256 * b + 65536 * c) / 4 % 256 = a / 4 + 64 * (b % 4) by omega, show (a + 256 * b + 65536 * c) / 4 / 256 % 256 = b / 4 + 64 * (c % 4) by omega, show (a + 256 * b + 65536 * c) / 4 / 256 / 256 % 256 = c / 4 + 64 * 0 by omega, show (a + 256 * b + 65536 * c) / 4 / 256 / 256 / 256 = 0 by omega, t_b a ha _ (by omega), t_b b hb _ (by omega), t_b c hc _ (by omega), Nat.zero_and, Nat.mul_zero, Nat.add_zero]
  rw [e1, e2]
  omega
theorem pS3_eq {a b c : Nat} (ha : a ≤ 68) (hb : b ≤ 68) (hc : c ≤ 68) (hb2 : b % 16 ≤ 4) (hc2 : c % 16 ≤ 4) : pS3 (a + 256 * b + 65536 * c) = q3 a + 256 * q3 b + 65536 * q3 c := by
  unfold pS3 q3
  rw [show (252645135 : Nat) = (2 ^ 4 - 1) + 256 * ((2 ^ 4 - 1) + 256 * ((2 ^ 4 - 1) + 256 * 15)) from rfl, and_split3 _ 15 (by omega) (by omega) (by omega)]
  rw [Nat.and_two_pow_sub_one_eq_mod, Nat.and_two_pow_sub_one_eq_mod, Nat.and_two_pow_sub_one_eq_mod]
  have e16 : (a + 256 * b + 65536 * c) / 16 = a / 16 + 16 * b + 4096 * c := by omega
  have hz : a + 256 * b + 65536 * c + (a + 256 * b + 65536 * c) / 16 = (a + a / 16 + 16 * (b % 16)) + 256 * (b + b / 16 + 16 * (c % 16)) + 65536 * (c + c / 16) := by rw [e16]; omega
  have hX : a + a / 16 + 16 * (b % 16) < 256 := by omega
  have hY : b + b / 16 + 16 * (c % 16) < 256 := by omega
  have hZ : c + c / 16 < 256 := by omega
  have x16 : (a + a / 16 + 16 * (b % 16)) % 16 = (a + a / 16) % 16 := by omega
  have y16 : (b + b / 16 + 16 * (c % 16)) % 16 = (b + b / 16) % 16 := by omega
  rw [hz, show (2 : Nat) ^ 4 = 16 from rfl, ← x16, ← y16]
  generalize a + a / 16 + 16 * (b % 16) = X at hX ⊢
  generalize b + b / 16 + 16 * (c % 16) = Y at hY ⊢
  generalize c + c / 16 = Z at hZ ⊢
  have g1 : (X + 256 * Y + 65536 * Z) % 256 = X := by omega
  have g2 : (X + 256 * Y + 65536 * Z) / 256 = Y + 256 * Z := by omega
  have g3 : (Y + 256 * Z) % 256 = Y := by omega
  have g4 : (Y + 256 * Z) / 256 = Z := by omega
  have g5 : Z % 256 = Z := by omega
  have g6 : Z / 256 = 0 := by omega
  rw [g1, g2, g3, g4, g5, g6, Nat.zero_and]
  omega
theorem pE_eq {a b c : Nat} (ha : a ≤ 8) (hb : b ≤ 8) (hc : c ≤ 8) : pE (a + 256 * b + 65536 * c) = a + b + c := by
  unfold pE
  rw [show (63 : Nat) = 2 ^ 6 - 1 from rfl, Nat.and_two_pow_sub_one_eq_mod, show (2 : Nat) ^ 6 = 64 from rfl]
  have g1 : (a + 256 * b + 65536 * c) / 256 = b + 256 * c := by omega
  rw [g1]
  have g2 : (a + 256 * b + 65536 * c + (b + 256 * c)) / 65536 = c := by omega
  rw [g2]
  omega
theorem bt_nat {n i : Nat} (hi : i < 32) : bt (nI n) i = n.testBit i := by
  unfold bt
  show (BitVec.ofNat 32 n).getLsbD i = _
  rw [BitVec.getLsbD_ofNat, decide_eq_true hi, Bool.true_and]
theorem bc_eq {n : Nat} (h : n < 1048576) : f_J6_bitCount_0f7a4 (nI n) = some (nI (pop (nI n))) := by
  rw [bc_nat h]
  congr 2
  obtain ⟨a, b, c, ha, hb, hc, rfl⟩ : ∃ a b c, a < 256 ∧ b < 256 ∧ c < 16 ∧ n = a + 256 * b + 65536 * c := ⟨n % 256, n / 256 % 256, n / 65536, by omega, by omega, by omega, by omega⟩
  obtain ⟨a1, a2, a3, a4, a5⟩ := t_c a ha
  obtain ⟨b1, b2, b3, b4, b5⟩ := t_c b hb
  obtain ⟨c1, c2, c3, c4, c5⟩ := t_c c (by omega)
  rw [pS1_eq ha hb (by omega), pS2_eq a1 b1 c1, pS3_eq a2 b2 c2 b3 c3, pE_eq a4 b4 c4, a5, b5, c5]
  unfold pop
  rw [show (32 : Nat) = 8 + (8 + (8 + 8)) from rfl, fb_ct_split, fb_ct_split, fb_ct_split]
  have tb : ∀ k i, i < 8 → k ≤ 24 → bt (nI (a + 256 * b + 65536 * c)) (k + i) = ((a + 256 * b + 65536 * c) / 2 ^ k).testBit i := by
    intro k i hi hk
    rw [bt_nat (by omega), Nat.testBit_div_two_pow, Nat.add_comm k i]
  have m8 : ∀ (x i : Nat), i < 8 → x.testBit i = (x % 2 ^ 8).testBit i := by
    intro x i hi
    rw [Nat.testBit_mod_two_pow, decide_eq_true hi, Bool.true_and]
  have e1 : fb_ct (fun i => bt (nI (a + 256 * b + 65536 * c)) i) 8 = fb_ct (fun i => a.testBit i) 8 := by
    apply fb_ct_cong
    intro i hi
    have := tb 0 i hi (by omega)
    rw [Nat.zero_add] at this
    show bt _ i = a.testBit i
    rw [this, m8 _ i hi, show (a + 256 * b + 65536 * c) / 2 ^ 0 % 2 ^ 8 = a from (show (a + 256 * b + 65536 * c) / 1 % 256 = a by omega)]
  have e2 : fb_ct (fun i => bt (nI (a + 256 * b + 65536 * c)) (8 + i)) 8 = fb_ct (fun i => b.testBit i) 8 := by
    apply fb_ct_cong
    intro i hi
    show bt _ (8 + i) = b.testBit i
    rw [tb 8 i hi (by omega), m8 _ i hi, show (a + 256 * b + 65536 * c) / 2 ^ 8 % 2 ^ 8 = b from (show (a + 256 * b + 65536 * c) / 256 % 256 = b by omega)]
  have e3 : fb_ct (fun i => bt (nI (a + 256 * b + 65536 * c)) (8 + (8 + i))) 8 = fb_ct (fun i => c.testBit i) 8 := by
    apply fb_ct_cong
    intro i hi
    show bt _ (8 + (8 + i)) = c.testBit i
    rw [show 8 + (8 + i) = 16 + i by omega, tb 16 i hi (by omega), m8 _ i hi, show (a + 256 * b + 65536 * c) / 2 ^ 16 % 2 ^ 8 = c from (show (a + 256 * b + 65536 * c) / 65536 % 256 = c by omega)]
  have e4 : fb_ct (fun i => bt (nI (a + 256 * b + 65536 * c)) (8 + (8 + (8 + i)))) 8 = 0 := by
    apply fb_ct_zero.mpr
    intro i hi
    show bt _ (8 + (8 + (8 + i))) = false
    rw [show 8 + (8 + (8 + i)) = 24 + i by omega, tb 24 i hi (by omega), show (a + 256 * b + 65536 * c) / 2 ^ 24 = 0 from (show (a + 256 * b + 65536 * c) / 16777216 = 0 by omega), Nat.zero_testBit]
  rw [e1, e2, e3, e4]
  omega
end
section
/-! ===== L3: the component's features ===== -/
theorem fst1_uniq {p : Nat → Bool} {i m r : Nat} (h1 : i ≤ r) (h2 : r < i + m) (hr : p r = true) (hn : ∀ q, i ≤ q → q < r → p q = false) : fst1 p i m = r := by
  have a1 : fst1 p i m ≤ r := by
    apply Nat.le_of_not_lt
    intro hlt
    have := fst1_no m i r h1 hlt
    rw [hr] at this; cases this
  have a2 : p (fst1 p i m) = true := fst1_yes m i (by omega)
  have a3 := fst1_ge (p := p) m i
  apply Nat.le_antisymm a1
  apply Nat.le_of_not_lt
  intro hlt
  have := hn _ a3 hlt
  rw [a2] at this; cases this
theorem cut_le {ν : Mm} {p q k : Nat} (h : q ≤ p) : cut ν p k q = dat ν k q := by unfold cut; rw [if_pos h]
theorem lo_le {A T P p : Nat} {μ ν : Mm} {w : Int32} (hT : T ≤ 800000) (hL : Led A T P μ ν) (hp : p < P) (hw : win w) : lo (cut ν p) w p ≤ p ∧ inW (cut ν p) w p p = true := by
  obtain ⟨n, hn1, hn2, rfl⟩ := win_nI hw
  obtain ⟨m, hm, em⟩ := Led_min hL hp
  have h1 : inW (cut ν p) (nI n) p p = true := by
    unfold inW
    rw [decide_eq_true_eq, cut_le (Nat.le_refl p)]
    show ν 6 p - nI n < ν 6 p
    rw [em, lt_I, subI (by omega) (by omega), w_int (by omega)]
    omega
  refine ⟨?_, h1⟩
  apply Nat.le_of_not_lt
  intro hlt
  have := fst1_no (p := inW (cut ν p) (nI n) p) (p + 1) 0 p (by omega) hlt
  rw [h1] at this; cases this
theorem lo_eq {A T P p : Nat} {μ ν : Mm} {w : Int32} (hT : T ≤ 800000) (hL : Led A T P μ ν) (hp : p < P) (hw : win w) : fst1 (fun q => decide (ν 6 p - w < ν 6 q)) 0 P = lo (cut ν p) w p := by
  obtain ⟨h1, h2⟩ := lo_le hT hL hp hw
  have e : ∀ q, q ≤ p → inW (cut ν p) w p q = decide (ν 6 p - w < ν 6 q) := by
    intro q hq
    unfold inW
    rw [cut_le (Nat.le_refl p), cut_le hq]
    rfl
  apply fst1_uniq (by omega) (by omega)
  · have := fst1_yes (p := inW (cut ν p) w p) (p + 1) 0 (by unfold lo at h1; omega)
    rw [← e _ h1]; exact this
  · intro q _ hq
    rw [← e q (by omega)]
    exact fst1_no (p := inW (cut ν p) w p) (p + 1) 0 q (by omega) hq
/-- which payments lie in the window: those from lo on -/
theorem lo_in {A T P p q : Nat} {μ ν : Mm} {w : Int32} (hL : Led A T P μ ν) (hp : p < P) (hq : q ≤ p) : (decide (ν 6 p - w < ν 6 q) && decide (ν 6 q ≤ ν 6 p)) = decide (lo (cut ν p) w p ≤ q) := by
  have e : ∀ q, q ≤ p → inW (cut ν p) w p q = decide (ν 6 p - w < ν 6 q) := by
    intro q hq
    unfold inW
    rw [cut_le (Nat.le_refl p), cut_le hq]
    rfl
  have hle : ν 6 q ≤ ν 6 p := by rw [le_I]; exact hL.2.2.2.2 q p hq hp
  rw [decide_eq_true hle, Bool.and_true, ← e q hq]
  rcases Nat.lt_or_ge q (lo (cut ν p) w p) with h | h
  · rw [decide_eq_false (by omega)]
    exact fst1_no (p := inW (cut ν p) w p) (p + 1) 0 q (by omega) h
  · rw [decide_eq_true h]
    have hy := fst1_yes (p := inW (cut ν p) w p) (p + 1) 0 (by unfold lo at h; omega)
    have hlop : lo (cut ν p) w p ≤ p := by omega
    have hy2 : inW (cut ν p) w p (lo (cut ν p) w p) = true := hy
    rw [e _ hlop, decide_eq_true_eq] at hy2
    rw [e q hq, decide_eq_true_eq]
    have := hL.2.2.2.2 _ q h (by omega)
    rw [lt_I] at hy2 ⊢
    omega
theorem sum6_eq {a : Int32} {i hi : Nat} {μ : Mm} (h : i ≤ hi) (hh : hi ≤ 200) : f_X4_sumOf_6 a (nI i) (nI hi) μ = some (fo (fun q s => if μ 6 q = a then s + μ 8 q else s) i (hi - i) 0) := by
  unfold f_X4_sumOf_6
  refine up_loop' (fun n x s => f_X4_sumOf_6_L6 a (nI hi) μ n s x) hi (fun s => some s) _ ?_ ?_ (hi - i) fuel i 0 (by omega) (by unfold fuel; omega)
  · intro n s
    show f_X4_sumOf_6_L6 a (nI hi) μ (n + 1) s (nI hi) = _
    unfold f_X4_sumOf_6_L6
    rw [if_pos (by rw [w_le (by omega) (by omega)]; omega)]
  · intro n q s hq
    show f_X4_sumOf_6_L6 a (nI hi) μ (n + 1) s (nI q) = _
    conv => lhs; unfold f_X4_sumOf_6_L6
    rw [if_neg (by rw [w_le (by omega) (by omega)]; omega), chk_nI (show q < 200 by omega) (by omega), w_nat (by omega), w_succ, chk_nI (show q < 200 by omega) (by omega)]
    by_cases h2 : μ 6 q = a
    · rw [if_pos h2, if_pos h2]
    · rw [if_neg h2, if_neg h2]
theorem sum7_eq {a : Int32} {i hi : Nat} {μ : Mm} (h : i ≤ hi) (hh : hi ≤ 200) : f_X4_sumOf_7 a (nI i) (nI hi) μ = some (fo (fun q s => if μ 7 q = a then s + μ 8 q else s) i (hi - i) 0) := by
  unfold f_X4_sumOf_7
  refine up_loop' (fun n x s => f_X4_sumOf_7_L6 a (nI hi) μ n s x) hi (fun s => some s) _ ?_ ?_ (hi - i) fuel i 0 (by omega) (by unfold fuel; omega)
  · intro n s
    show f_X4_sumOf_7_L6 a (nI hi) μ (n + 1) s (nI hi) = _
    unfold f_X4_sumOf_7_L6
    rw [if_pos (by rw [w_le (by omega) (by omega)]; omega)]
  · intro n q s hq
    show f_X4_sumOf_7_L6 a (nI hi) μ (n + 1) s (nI q) = _
    conv => lhs; unfold f_X4_sumOf_7_L6
    rw [if_neg (by rw [w_le (by omega) (by omega)]; omega), chk_nI (show q < 200 by omega) (by omega), w_nat (by omega), w_succ, chk_nI (show q < 200 by omega) (by omega)]
    by_cases h2 : μ 7 q = a
    · rw [if_pos h2, if_pos h2]
    · rw [if_neg h2, if_neg h2]
theorem cnt_eq {a l u : Int32} {i hi : Nat} {μ : Mm} (h : i ≤ hi) (hh : hi ≤ 200) : f_X4_countSent a (nI i) (nI hi) l u μ = some (fo (fun q s => if μ 6 q = a then (if μ 8 q < l then s else if u < μ 8 q then s else s + 1) else s) i (hi - i) 0) := by
  unfold f_X4_countSent
  refine up_loop' (fun n x s => f_X4_countSent_L6 a (nI hi) l u μ n s x) hi (fun s => some s) _ ?_ ?_ (hi - i) fuel i 0 (by omega) (by unfold fuel; omega)
  · intro n s
    show f_X4_countSent_L6 a (nI hi) l u μ (n + 1) s (nI hi) = _
    unfold f_X4_countSent_L6
    rw [if_pos (by rw [w_le (by omega) (by omega)]; omega)]
  · intro n q s hq
    show f_X4_countSent_L6 a (nI hi) l u μ (n + 1) s (nI q) = _
    conv => lhs; unfold f_X4_countSent_L6
    rw [if_neg (by rw [w_le (by omega) (by omega)]; omega), chk_nI (show q < 200 by omega) (by omega), w_nat (by omega), w_succ, chk_nI (show q < 200 by omega) (by omega)]
    by_cases h2 : μ 6 q = a
    · rw [if_pos h2, if_pos h2]
      by_cases h3 : μ 8 q < l
      · rw [if_pos h3, if_pos h3]
      · rw [if_neg h3, if_neg h3]
        by_cases h4 : u < μ 8 q
        · rw [if_pos h4, if_pos h4]
        · rw [if_neg h4, if_neg h4]
    · rw [if_neg h2, if_neg h2]
theorem max_eq {a : Int32} {i hi : Nat} {μ : Mm} (h : i ≤ hi) (hh : hi ≤ 200) : f_X4_greatestSent a (nI i) (nI hi) μ = some (fo (fun q s => if μ 6 q = a then (if μ 8 q ≤ s then s else μ 8 q) else s) i (hi - i) 0) := by
  unfold f_X4_greatestSent
  refine up_loop' (fun n x s => f_X4_greatestSent_L6 a (nI hi) μ n s x) hi (fun s => some s) _ ?_ ?_ (hi - i) fuel i 0 (by omega) (by unfold fuel; omega)
  · intro n s
    show f_X4_greatestSent_L6 a (nI hi) μ (n + 1) s (nI hi) = _
    unfold f_X4_greatestSent_L6
    rw [if_pos (by rw [w_le (by omega) (by omega)]; omega)]
  · intro n q s hq
    show f_X4_greatestSent_L6 a (nI hi) μ (n + 1) s (nI q) = _
    conv => lhs; unfold f_X4_greatestSent_L6
    rw [if_neg (by rw [w_le (by omega) (by omega)]; omega), chk_nI (show q < 200 by omega) (by omega), w_nat (by omega), w_succ, chk_nI (show q < 200 by omega) (by omega), chk_nI (show q < 200 by omega) (by omega)]
    by_cases h2 : μ 6 q = a
    · rw [if_pos h2, if_pos h2]
      by_cases h3 : μ 8 q ≤ s
      · rw [if_pos h3, if_pos h3]
      · rw [if_neg h3, if_neg h3]
    · rw [if_neg h2, if_neg h2]
theorem pair_eq {p : Nat} {μ : Mm} (hh : p < 200) : f_X4_isFirstOfPair (nI p) μ = some (if fst1 (fun q => decide (μ 6 q = μ 6 p) && decide (μ 7 q = μ 7 p)) 0 p = p then 1 else 0) := by
  unfold f_X4_isFirstOfPair
  refine find_loop (fun n x => f_X4_isFirstOfPair_L2 (nI p) μ n x) p (fun q => some (if q = p then 1 else 0)) _ ?_ ?_ p fuel 0 (by omega) (by unfold fuel; omega)
  · intro n
    show f_X4_isFirstOfPair_L2 (nI p) μ (n + 1) (nI p) = _
    unfold f_X4_isFirstOfPair_L2
    rw [if_pos (by rw [w_le (by omega) (by omega)]; omega), if_pos rfl]
  · intro n q hq
    show f_X4_isFirstOfPair_L2 (nI p) μ (n + 1) (nI q) = _
    conv => lhs; unfold f_X4_isFirstOfPair_L2
    rw [if_neg (by rw [w_le (by omega) (by omega)]; omega), chk_nI (show q < 200 by omega) (by omega), chk_nI (show p < 200 by omega) (by omega), chk_nI (show q < 200 by omega) (by omega), chk_nI (show p < 200 by omega) (by omega), w_nat (by omega), w_nat (by omega), w_succ, if_neg (show ¬ q = p by omega)]
    by_cases h2 : μ 6 q = μ 6 p
    · rw [if_pos h2, decide_eq_true h2, Bool.true_and]
      by_cases h3 : μ 7 q = μ 7 p
      · rw [if_pos h3, decide_eq_true h3, if_pos rfl]
      · rw [if_neg h3, decide_eq_false h3, if_neg (by simp)]
    · rw [if_neg h2, decide_eq_false h2, Bool.false_and, if_neg (by simp)]
theorem last_eq {p : Nat} {μ : Mm} {x : Nat → Nat → Int32} (hh : p < 200) (h0 : ∀ q, q ≤ p → x 0 q = μ 6 q ∧ x 3 q = μ 9 q) : ∀ (m n : Nat), m ≤ p → m < n → f_X4_minutesSinceLast_L4 (nI p) 99999 μ n (nI m - 1) = some (lastM x p m)
  | _, 0, _, h => by omega
  | 0, n + 1, _, _ => by
    unfold f_X4_minutesSinceLast_L4 lastM
    rw [if_pos (by decide)]
  | m + 1, n + 1, hm, hn => by
    rw [w_pred]
    unfold f_X4_minutesSinceLast_L4 lastM
    rw [if_neg (by rw [lt_I, w_int (by omega), show ((0 : Int32).toInt = 0) from rfl]; omega), chk_nI (show m < 200 by omega) (by omega), chk_nI (show p < 200 by omega) (by omega), chk_nI (show p < 200 by omega) (by omega), chk_nI (show m < 200 by omega) (by omega), w_nat (by omega), w_nat (by omega), (h0 m (by omega)).1, (h0 p (by omega)).1, (h0 m (by omega)).2, (h0 p (by omega)).2]
    by_cases h : μ 6 m = μ 6 p
    · rw [if_pos h, if_pos h]
    · rw [if_neg h, if_neg h, show nI m + (-1) = nI m - 1 from (Int32.sub_eq_add_neg (nI m) 1).symm]
      exact last_eq hh h0 m n (by omega) (by omega)
end
section
/-! ===== L3: sets, and the links ===== -/
theorem fo_set {c : Nat → Bool} {f : Nat → Nat} (hf : ∀ q, f q < 32) {j : Nat} (hj : j < 32) : ∀ (m i : Nat) (s : Int32), bt (fo (fun q s => if c q = true then sb s (f q) true else s) i m s) j = true ↔ bt s j = true ∨ ∃ q, i ≤ q ∧ q < i + m ∧ c q = true ∧ f q = j
  | 0, i, s => by
    constructor
    · intro h; exact Or.inl h
    · rintro (h | ⟨q, h1, h2, _⟩)
      · exact h
      · omega
  | m + 1, i, s => by
    show bt (fo _ (i + 1) m (if c i = true then sb s (f i) true else s)) j = true ↔ _
    rw [fo_set hf hj m (i + 1)]
    constructor
    · rintro (h | ⟨q, h1, h2, h3, h4⟩)
      · by_cases hc : c i = true
        · rw [if_pos hc, bt_sb _ _ (hf i) hj] at h
          by_cases hji : j = f i
          · exact Or.inr ⟨i, by omega, by omega, hc, hji.symm⟩
          · rw [if_neg hji] at h; exact Or.inl h
        · rw [if_neg hc] at h; exact Or.inl h
      · exact Or.inr ⟨q, by omega, by omega, h3, h4⟩
    · rintro (h | ⟨q, h1, h2, h3, h4⟩)
      · left
        by_cases hc : c i = true
        · rw [if_pos hc, bt_sb _ _ (hf i) hj]
          by_cases hji : j = f i
          · rw [if_pos hji]
          · rw [if_neg hji]; exact h
        · rw [if_neg hc]; exact h
      · by_cases hq : q = i
        · subst hq
          left
          rw [if_pos h3, bt_sb _ _ (hf q) hj, if_pos h4.symm]
        · exact Or.inr ⟨q, by omega, by omega, h3, h4⟩
theorem small_of {x : Int32} {k : Nat} (hk : k ≤ 31) (h : ∀ j, k ≤ j → j < 32 → bt x j = false) : ∃ n, n < 2 ^ k ∧ x = nI n := by
  refine ⟨x.toBitVec.toNat, ?_, ?_⟩
  · apply Nat.lt_pow_two_of_testBit
    intro i hi
    rcases Nat.lt_or_ge i 32 with h2 | h2
    · have := h i hi h2
      unfold bt at this
      rw [BitVec.testBit_toNat]; exact this
    · rw [BitVec.testBit_toNat]; exact BitVec.getLsbD_of_ge _ _ h2
  · apply Int32.toBitVec_inj.mp
    show _ = BitVec.ofNat 32 _
    simp
theorem bc_set {x : Int32} (h : ∀ j, 20 ≤ j → j < 32 → bt x j = false) : f_J6_bitCount_0f7a4 x = some (nI (pop x)) := by
  obtain ⟨n, hn, rfl⟩ := small_of (by omega) h
  exact bc_eq (by rw [show (2 : Nat) ^ 20 = 1048576 from rfl] at hn; exact hn)
theorem recv_eq {a : Int32} {i hi : Nat} {μ : Mm} (h : i ≤ hi) (hh : hi ≤ 200) (hb : ∀ q, q < hi → ∃ b, b < 20 ∧ μ 7 q = nI b) : f_X4_receiversFrom a (nI i) (nI hi) μ = some (fo (fun q s => if decide (μ 6 q = a) = true then sb s ((μ 7 q).toNatClampNeg % 32) true else s) i (hi - i) 0) := by
  unfold f_X4_receiversFrom
  refine up_loop' (fun n x s => f_X4_receiversFrom_L6 a (nI hi) μ n s x) hi (fun s => some s) _ ?_ ?_ (hi - i) fuel i 0 (by omega) (by unfold fuel; omega)
  · intro n s
    show f_X4_receiversFrom_L6 a (nI hi) μ (n + 1) s (nI hi) = _
    unfold f_X4_receiversFrom_L6
    rw [if_pos (by rw [w_le (by omega) (by omega)]; omega)]
  · intro n q s hq
    show f_X4_receiversFrom_L6 a (nI hi) μ (n + 1) s (nI q) = _
    conv => lhs; unfold f_X4_receiversFrom_L6
    obtain ⟨b, hb1, hb2⟩ := hb q hq
    rw [if_neg (by rw [w_le (by omega) (by omega)]; omega), chk_nI (show q < 200 by omega) (by omega), w_nat (by omega), w_succ, chk_nI (show q < 200 by omega) (by omega), hb2, w_nat (by omega), withBit1, Option.bind_some, Nat.mod_eq_of_lt (by omega)]
    by_cases h2 : μ 6 q = a
    · rw [if_pos h2, if_pos (decide_eq_true h2)]
    · rw [if_neg h2, if_neg (by simpa using h2)]
theorem ctry_eq {A : Nat} {x : Int32} {μ : Mm} (hA : A ≤ 20) (e : μ 2 2 = nI A) (hc : ∀ j, j < A → ∃ c, 97 ≤ c ∧ c ≤ 100 ∧ μ 3 j = nI c) : f_X1_countCountries x μ = some (nI (pop (fo (fun q s => if bt x q = true then sb s (((μ 3 q).toNatClampNeg - 97) % 4) true else s) 0 A 0))) := by
  unfold f_X1_countCountries
  refine (up_loop (fun n y s => f_X1_countCountries_L4 x μ n s y) A (fun s => some (nI (pop s))) (fun q s => if bt x q = true then sb s (((μ 3 q).toNatClampNeg - 97) % 4) true else s) (fun _ s => ∀ j, 4 ≤ j → j < 32 → bt s j = false) ?_ ?_ A fuel 0 0 (by omega) (by unfold fuel; omega) (fun j _ _ => b_0 j)).1
  · intro n s hs
    show f_X1_countCountries_L4 x μ (n + 1) s (nI A) = _
    unfold f_X1_countCountries_L4
    rw [e, if_pos (by rw [w_le (by omega) (by omega)]; omega), bc_set (fun j h1 h2 => hs j (by omega) h2)]
    rfl
  · intro n q s hq hs
    constructor
    · show f_X1_countCountries_L4 x μ (n + 1) s (nI q) = _
      conv => lhs; unfold f_X1_countCountries_L4
      obtain ⟨c, hc1, hc2, hc3⟩ := hc q hq
      have e97 : nI c - 97 = nI (c - 97) := w_sub (b := 97) hc1
      rw [e, if_neg (by rw [w_le (by omega) (by omega)]; omega), hasBit_eq _ (show q < 32 by omega), Option.bind_some, chk_nI (show q < 20 by omega) (by omega), w_nat (by omega), w_succ, hc3, e97, withBit1, Option.bind_some, w_nat (by omega), Nat.mod_eq_of_lt (show c - 97 < 4 by omega)]
      cases bt x q
      · rw [b2_f, if_pos rfl, if_neg (by simp)]
      · rw [b2_t, if_neg (by decide), if_pos rfl]
    · intro j h1 h2
      by_cases hb : bt x q = true
      · rw [if_pos hb, bt_sb _ _ (by omega) h2, if_neg (by omega)]; exact hs j h1 h2
      · rw [if_neg hb]; exact hs j h1 h2
/-- the component's links are those of nt -/
theorem load_eq {A i hi : Nat} {w : Int32} {μ : Mm} {x : Nat → Nat → Int32} (h : i ≤ hi) (hh : hi ≤ 200) (hb : ∀ q, q < hi → x 0 q = μ 6 q ∧ x 1 q = μ 7 q ∧ ∃ a b, a < 20 ∧ b < 20 ∧ μ 6 q = nI a ∧ μ 7 q = nI b) :
    ∃ μ', f_X5_load_5 (nI i) (nI hi) μ = some μ' ∧ (∀ k, k ≠ 11 → k ≠ 12 → μ' k = μ k) ∧ ∀ j, j < 20 → μ' 11 j = nt x i (hi - i) 11 j ∧ μ' 12 j = nt x i (hi - i) 12 j := by
  have l1 := up_loop (fun n y (m : Mm) => f_X5_load_5_L3 (fun (m4 : Mm) => f_X5_load_5_L35 (nI hi) fuel (nI i) m4) (nI i) (nI hi) n y m) 20 (fun m => f_X5_load_5_L35 (nI hi) fuel (nI i) m) (fun q m => up2 (up2 m 11 q 0) 12 q 0) (fun k m => (∀ c, c ≠ 11 → c ≠ 12 → m c = μ c) ∧ ∀ j, j < k → m 11 j = 0 ∧ m 12 j = 0) ?_ ?_ 20 fuel 0 μ (by omega) (by unfold fuel; omega) ⟨fun c _ _ => rfl, fun j hj => by omega⟩
  · obtain ⟨e1, z1, z2⟩ := l1
    generalize fo (fun q (m : Mm) => up2 (up2 m 11 q 0) 12 q 0) 0 20 μ = μ0 at e1 z1 z2
    have l2 := up_loop (fun n y (m : Mm) => f_X5_load_5_L35 (nI hi) n y m) hi (fun m => some m) (ntS x) (fun _ m => ∀ c, c ≠ 11 → c ≠ 12 → m c = μ c) ?_ ?_ (hi - i) fuel i μ0 (by omega) (by unfold fuel; omega) z1
    · obtain ⟨e2, k2⟩ := l2
      refine ⟨_, ?_, k2, ?_⟩
      · unfold f_X5_load_5
        exact e1.trans e2
      · intro j hj
        unfold nt
        have := fo_rel (g := ntS x) (h := ntS x) (fun _ (a b : Mm) => ∀ j, j < 20 → a 11 j = b 11 j ∧ a 12 j = b 12 j) (hi - i) i μ0 (fun _ _ => 0) z2 (by
          intro q a b hq1 hq2 hab j hj
          unfold ntS
          obtain ⟨x1, x2, pa, pb, ha, hb', e6, e7⟩ := hb q (by omega)
          simp only [x1, x2, e6, e7, w_nat (show pa < 2147483648 by omega), w_nat (show pb < 2147483648 by omega)]
          simp only [up2, upd, show ¬ ((11 : Nat) = 12) by omega, show ¬ ((12 : Nat) = 11) by omega, if_true, if_false, (hab pa ha).1, (hab pa ha).2, (hab pb hb').1, (hab pb hb').2, (hab j hj).1, (hab j hj).2]
          exact ⟨trivial, trivial⟩)
        exact this j hj
    · intro n m _
      show f_X5_load_5_L35 (nI hi) (n + 1) (nI hi) m = _
      unfold f_X5_load_5_L35
      rw [if_pos (by rw [w_le (by omega) (by omega)]; omega)]
    · intro n q m hq hm
      obtain ⟨x1, x2, pa, pb, ha, hb', e6, e7⟩ := hb q (by omega)
      constructor
      · show f_X5_load_5_L35 (nI hi) (n + 1) (nI q) m = _
        conv => lhs; unfold f_X5_load_5_L35
        have m6 : m 6 q = nI pa := by rw [hm 6 (by omega) (by omega)]; exact e6
        have m7 : m 7 q = nI pb := by rw [hm 7 (by omega) (by omega)]; exact e7
        rw [if_neg (by rw [w_le (by omega) (by omega)]; omega)]
        simp only [chk_nI (show q < 200 by omega) (show 200 < 2147483648 by omega), w_nat (show q < 2147483648 by omega), m6, m7, chk_nI ha (show 20 < 2147483648 by omega), chk_nI hb' (show 20 < 2147483648 by omega), w_nat (show pa < 2147483648 by omega), w_nat (show pb < 2147483648 by omega), withBit1, Option.bind_some, setm, w_succ]
        unfold ntS
        simp only [x1, x2, e6, e7, w_nat (show pa < 2147483648 by omega), w_nat (show pb < 2147483648 by omega)]
      · intro c h1 h2
        unfold ntS
        simp only [up2_n h1, up2_n h2]
        exact hm c h1 h2
  · intro n m _
    show f_X5_load_5_L3 _ (nI i) (nI hi) (n + 1) (nI 20) m = _
    unfold f_X5_load_5_L3
    rw [if_pos (by decide)]
  · intro n q m hq hm
    constructor
    · show f_X5_load_5_L3 _ (nI i) (nI hi) (n + 1) (nI q) m = _
      conv => lhs; unfold f_X5_load_5_L3
      rw [if_neg (show ¬ (20 : Int32) ≤ nI q from by rw [show (20 : Int32) = nI 20 from rfl, w_le (by omega) (by omega)]; omega), chk_nI hq (by omega), chk_nI hq (by omega), w_nat (by omega), w_succ]
    · refine ⟨fun c h1 h2 => by rw [up2_n h2, up2_n h1]; exact hm.1 c h1 h2, fun j hj => ?_⟩
      show (if j = q then (0 : Int32) else m 11 j) = 0 ∧ (if j = q then (0 : Int32) else m 12 j) = 0
      by_cases hjq : j = q
      · rw [if_pos hjq, if_pos hjq]; exact ⟨rfl, rfl⟩
      · rw [if_neg hjq, if_neg hjq]; exact hm.2 j (by omega)
end
section
/-! ===== L3: the component's walks over the links ===== -/
theorem step12_eq {x : Int32} {μ : Mm} : f_X5_step_12 x μ = some (fo (fun q s => if bt x q = true then s ||| μ 12 q else s) 0 20 0) := by
  unfold f_X5_step_12
  refine up_loop' (fun n y s => f_X5_step_12_L4 x μ n s y) 20 (fun s => some s) _ ?_ ?_ 20 fuel 0 0 (by omega) (by unfold fuel; omega)
  · intro n s
    show f_X5_step_12_L4 x μ (n + 1) s (nI 20) = _
    unfold f_X5_step_12_L4
    rw [if_pos (by decide)]
  · intro n q s hq
    show f_X5_step_12_L4 x μ (n + 1) s (nI q) = _
    conv => lhs; unfold f_X5_step_12_L4
    rw [if_neg (show ¬ (20 : Int32) ≤ nI q from by rw [show (20 : Int32) = nI 20 from rfl, w_le (by omega) (by omega)]; omega), hasBit_eq _ (show q < 32 by omega), Option.bind_some, chk_nI hq (by omega), w_nat (by omega), w_succ]
    cases bt x q
    · rw [b2_f, if_pos rfl, if_neg (by simp)]
    · rw [b2_t, if_neg (by decide), if_pos rfl]
theorem step11_eq {x : Int32} {μ : Mm} : f_X5_step_11 x μ = some (fo (fun q s => if bt x q = true then s ||| μ 11 q else s) 0 20 0) := by
  unfold f_X5_step_11
  refine up_loop' (fun n y s => f_X5_step_11_L4 x μ n s y) 20 (fun s => some s) _ ?_ ?_ 20 fuel 0 0 (by omega) (by unfold fuel; omega)
  · intro n s
    show f_X5_step_11_L4 x μ (n + 1) s (nI 20) = _
    unfold f_X5_step_11_L4
    rw [if_pos (by decide)]
  · intro n q s hq
    show f_X5_step_11_L4 x μ (n + 1) s (nI q) = _
    conv => lhs; unfold f_X5_step_11_L4
    rw [if_neg (show ¬ (20 : Int32) ≤ nI q from by rw [show (20 : Int32) = nI 20 from rfl, w_le (by omega) (by omega)]; omega), hasBit_eq _ (show q < 32 by omega), Option.bind_some, chk_nI hq (by omega), w_nat (by omega), w_succ]
    cases bt x q
    · rw [b2_f, if_pos rfl, if_neg (by simp)]
    · rw [b2_t, if_neg (by decide), if_pos rfl]
theorem step12_cg {x : Int32} {μ ν : Mm} (h : ∀ j, j < 20 → μ 12 j = ν 12 j) : f_X5_step_12 x μ = f_X5_step_12 x ν := by
  rw [step12_eq, step12_eq]
  congr 1
  exact fo_congr 20 0 0 (fun q _ hq b => by rw [h q (by omega)])
theorem step11_cg {x : Int32} {μ ν : Mm} (h : ∀ j, j < 20 → μ 11 j = ν 11 j) : f_X5_step_11 x μ = f_X5_step_11 x ν := by
  rw [step11_eq, step11_eq]
  congr 1
  exact fo_congr 20 0 0 (fun q _ hq b => by rw [h q (by omega)])
theorem ll_cg {x2 x3 : Int32} {μ ν : Mm} (h : ∀ j, j < 20 → μ 12 j = ν 12 j) : ∀ (n : Nat) (x4 x5 : Int32), f_X5_leastLinks_L8 x2 x3 μ n x4 x5 = f_X5_leastLinks_L8 x2 x3 ν n x4 x5
  | 0, _, _ => rfl
  | n + 1, x4, x5 => by
    unfold f_X5_leastLinks_L8
    rw [step12_cg h]
    have := fun r => ll_cg (x2 := x2) (x3 := x3) h n (x4 ||| r) (x5 + 1)
    simp only [this]
theorem gs_cg {μ ν : Mm} (h : ∀ j, j < 20 → μ 12 j = ν 12 j) : ∀ (n : Nat) (x4 x5 : Int32), f_X5_groupSize_L6 μ n x4 x5 = f_X5_groupSize_L6 ν n x4 x5
  | 0, _, _ => rfl
  | n + 1, x4, x5 => by
    unfold f_X5_groupSize_L6
    rw [step12_cg h]
    have := fun r => gs_cg h n (x4 ||| r) (x5 + 1)
    simp only [this]
theorem sw_cg {x2 : Int32} {μ ν : Mm} (h : ∀ j, j < 20 → μ 11 j = ν 11 j) : ∀ (n : Nat) (x3 x4 x5 : Int32), f_X5_shortestWay_L10 x2 μ n x3 x4 x5 = f_X5_shortestWay_L10 x2 ν n x3 x4 x5
  | 0, _, _, _ => rfl
  | n + 1, x3, x4, x5 => by
    unfold f_X5_shortestWay_L10
    rw [step11_cg h]
    have := fun a b => sw_cg (x2 := x2) h n a b (x5 + 1)
    simp only [this]
theorem leastLinks_cg {a b c : Int32} {μ ν : Mm} (h : ∀ j, j < 20 → μ 12 j = ν 12 j) : f_X5_leastLinks a b c μ = f_X5_leastLinks a b c ν := ll_cg h _ _ _
theorem groupSize_cg {a : Int32} {μ ν : Mm} (h : ∀ j, j < 20 → μ 12 j = ν 12 j) : f_X5_groupSize a μ = f_X5_groupSize a ν := gs_cg h _ _ _
theorem shortestWay_cg {a b : Int32} {μ ν : Mm} (h : ∀ j, j < 20 → μ 11 j = ν 11 j) : f_X5_shortestWay a b μ = f_X5_shortestWay a b ν := sw_cg h _ _ _ _
theorem ll_some {x2 x3 : Int32} {μ : Mm} : ∀ (m n k : Nat) (x4 : Int32), k + m = 20 → m < n → ∃ r, f_X5_leastLinks_L8 x2 x3 μ n x4 (nI k) = some r
  | _, 0, _, _, _, h => by omega
  | 0, n + 1, k, x4, he, _ => by
    have : k = 20 := by omega
    subst this
    exact ⟨x3, by unfold f_X5_leastLinks_L8; rw [if_pos (by decide)]⟩
  | m + 1, n + 1, k, x4, he, hn => by
    unfold f_X5_leastLinks_L8
    rw [if_neg (show ¬ (20 : Int32) ≤ nI k from by rw [show (20 : Int32) = nI 20 from rfl, w_le (by omega) (by omega)]; omega), step12_eq, Option.bind_some, w_succ]
    by_cases h : x4 &&& x2 = 0
    · rw [if_pos h]; exact ll_some m n (k + 1) _ (by omega) (by omega)
    · rw [if_neg h]; exact ⟨_, rfl⟩
theorem gs_some {A : Nat} {μ : Mm} (hA : A ≤ 20) (hl : ∀ j, j < 20 → ∀ i, 20 ≤ i → i < 32 → bt (μ 12 j) i = false) : ∀ (m n k : Nat) (x4 : Int32), (∀ i, 20 ≤ i → i < 32 → bt x4 i = false) → k + m = 20 → m < n → ∃ r, f_X5_groupSize_L6 μ n x4 (nI k) = some r
  | _, 0, _, _, _, _, h => by omega
  | 0, n + 1, k, x4, hx, he, _ => by
    have : k = 20 := by omega
    subst this
    exact ⟨_, by unfold f_X5_groupSize_L6; rw [if_pos (by decide), bc_set hx]; rfl⟩
  | m + 1, n + 1, k, x4, hx, he, hn => by
    unfold f_X5_groupSize_L6
    rw [if_neg (show ¬ (20 : Int32) ≤ nI k from by rw [show (20 : Int32) = nI 20 from rfl, w_le (by omega) (by omega)]; omega), step12_eq, Option.bind_some, w_succ]
    refine gs_some hA hl m n (k + 1) _ ?_ (by omega) (by omega)
    intro i h1 h2
    rw [b_or, hx i h1 h2, Bool.false_or]
    exact fo_inv (g := fun q s => if bt x4 q = true then s ||| μ 12 q else s) (fun _ s => bt s i = false) 20 0 0 (b_0 i) (fun q b _ hq hI => by
      show bt (if bt x4 q = true then b ||| μ 12 q else b) i = false
      by_cases hb : bt x4 q = true
      · rw [if_pos hb, b_or, hI, hl q (by omega) i h1 h2]; rfl
      · rw [if_neg hb]; exact hI)
theorem sw_some {x2 : Nat} {μ : Mm} (h2 : x2 < 32) : ∀ (m n k : Nat) (x3 x4 : Int32), k + m = 21 → m < n → ∃ r, f_X5_shortestWay_L10 (nI x2) μ n x3 x4 (nI k) = some r
  | _, 0, _, _, _, _, h => by omega
  | 0, n + 1, k, x3, x4, he, _ => by
    have : k = 21 := by omega
    subst this
    exact ⟨-1, by unfold f_X5_shortestWay_L10; rw [if_pos (by decide)]⟩
  | m + 1, n + 1, k, x3, x4, he, hn => by
    unfold f_X5_shortestWay_L10
    rw [if_neg (show ¬ (20 : Int32) < nI k from by rw [show (20 : Int32) = nI 20 from rfl, w_lt (by omega) (by omega)]; omega), step11_eq, Option.bind_some, hasBit_eq _ h2, Option.bind_some, w_succ]
    generalize b2 (bt _ x2) = z
    by_cases h : z = 0
    · rw [if_pos h]; exact sw_some h2 m n (k + 1) _ _ (by omega) (by omega)
    · rw [if_neg h]; exact ⟨_, rfl⟩
end
section
/-! ===== L3: the component's value is V ===== -/
theorem recS_bits {x : Nat → Nat → Int32} {a : Int32} {p : Nat} (hb : ∀ q, q ≤ p → ∃ b, b < 20 ∧ x 1 q = nI b) {i m : Nat} (h : i + m ≤ p + 1) : ∀ j, 20 ≤ j → j < 32 → bt (fo (recS x a) i m 0) j = false := by
  intro j h1 h2
  exact fo_inv (g := recS x a) (fun _ s => bt s j = false) m i 0 (b_0 j) (fun q b _ hq hI => by
    unfold recS
    obtain ⟨c, hc, e⟩ := hb q (by omega)
    by_cases hx : x 0 q = a
    · rw [if_pos hx, e, w_nat (by omega), bt_sb _ _ (by omega) h2, if_neg (by omega)]; exact hI
    · rw [if_neg hx]; exact hI)
theorem compV {A T P p f : Nat} {w : Int32} {μ ν : Mm} (hA : Acc A μ ν) (hL : Led A T P μ ν) (hT : T ≤ 800000) (hp : p < P) (hw : win w) (hf : isF f) :
    ∃ μ', f_X1_featureValue (nI p) (nI f) w μ = some (V (cut ν p) (nI f) w (μ 2 3) p, μ') ∧ ∀ k, k ≠ 11 → k ≠ 12 → μ' k = μ k := by
  have hP := hL.1
  obtain ⟨a1, a2, a3, a4, a5, a6⟩ := hA
  obtain ⟨l1, l2⟩ := lo_le hT hL hp hw
  obtain ⟨y1, y2, y3, y4, a, b, c, m, z1, z2, z3, z4, z5, z6, z7, z8, z9⟩ := hL.2.2.2.1 p hp
  have X0 : ∀ q, q ≤ p → cut ν p 0 q = μ 6 q := fun q hq => by rw [cut_le hq]; exact (hL.2.2.2.1 q (by omega)).1.symm
  have X1 : ∀ q, q ≤ p → cut ν p 1 q = μ 7 q := fun q hq => by rw [cut_le hq]; exact (hL.2.2.2.1 q (by omega)).2.1.symm
  have X2 : ∀ q, q ≤ p → cut ν p 2 q = μ 8 q := fun q hq => by rw [cut_le hq]; exact (hL.2.2.2.1 q (by omega)).2.2.1.symm
  have X3 : ∀ q, q ≤ p → cut ν p 3 q = μ 9 q := fun q hq => by rw [cut_le hq]; exact (hL.2.2.2.1 q (by omega)).2.2.2.1.symm
  have B : ∀ q, q ≤ p → ∃ a b, a < A ∧ b < A ∧ μ 6 q = nI a ∧ μ 7 q = nI b := by
    intro q hq
    obtain ⟨u1, u2, _, _, a, b, _, _, v1, v2, _, _, _, v6, v7, _⟩ := hL.2.2.2.1 q (by omega)
    exact ⟨a, b, v1, v2, u1.trans v6, u2.trans v7⟩
  have B7 : ∀ q, q < p + 1 → ∃ b, b < 20 ∧ μ 7 q = nI b := fun q hq => by
    obtain ⟨_, b, _, h2, _, h4⟩ := B q (by omega)
    exact ⟨b, by omega, h4⟩
  have m6 : μ 6 p = nI a := y1.trans z6
  have m7 : μ 7 p = nI b := y2.trans z7
  have c0 : cut ν p 0 p = nI a := (X0 p (Nat.le_refl p)).trans m6
  have c1 : cut ν p 1 p = nI b := (X1 p (Nat.le_refl p)).trans m7
  unfold f_X1_featureValue
  rw [chk_nI (show p < 200 by omega) (by omega), chk_nI (show p < 200 by omega) (by omega), chk_nI (show p < 200 by omega) (by omega), w_nat (show p < 2147483648 by omega), y4, show (0 : Int32) = nI 0 from rfl, first_led hL (Nat.zero_le P), Nat.sub_zero, lo_eq hT hL hp hw, Option.bind_some, w_succ, show nI 0 = (0 : Int32) from rfl, m6, m7]
  have VI : ∀ f, V (cut ν p) f w (μ 2 3) p = V (cut ν p) f w (μ 2 3) p := fun _ => rfl
  have net : ∃ μ', f_X1_networkOf (nI (lo (cut ν p) w p)) (nI (p + 1)) μ = some μ' ∧ (∀ k, k ≠ 11 → k ≠ 12 → μ' k = μ k) ∧ ∀ j, j < 20 → μ' 11 j = nt (cut ν p) (lo (cut ν p) w p) (p + 1 - lo (cut ν p) w p) 11 j ∧ μ' 12 j = nt (cut ν p) (lo (cut ν p) w p) (p + 1 - lo (cut ν p) w p) 12 j := by
    obtain ⟨μ', e1, e2, e3⟩ := load_eq (A := A) (w := w) (μ := μ) (x := cut ν p) (show lo (cut ν p) w p ≤ p + 1 by omega) (by omega) (fun q hq => by
      obtain ⟨a, b, h1, h2, h3, h4⟩ := B q (by omega)
      exact ⟨X0 q (by omega), X1 q (by omega), a, b, by omega, by omega, h3, h4⟩)
    exact ⟨μ', by unfold f_X1_networkOf; rw [e1]; rfl, e2, e3⟩
  rcases hf with rfl | rfl | rfl | rfl | rfl | rfl | rfl | rfl | rfl | rfl | rfl | rfl | rfl
  · unfold V
    rw [if_pos (by decide), if_pos (by decide)]
    rw [chk_nI (show p < 200 by omega) (by omega), chk_nI (show a < 20 by omega) (by omega), w_nat (by omega)]
    refine ⟨μ, ?_, fun _ _ _ => rfl⟩
    have e5 : cut ν p 5 p = μ 4 a := by
      rw [cut_le (Nat.le_refl p)]
      show ν 2 (ν 3 p).toNatClampNeg = _
      rw [z6, w_nat (by omega)]; exact (a6 a z1).2.1.symm
    rw [e5, X3 p (Nat.le_refl p), y4]
  · unfold V
    rw [if_neg (by decide), if_pos (by decide), if_neg (by decide), if_pos (by decide)]
    rw [recv_eq (show lo (cut ν p) w p ≤ p + 1 by omega) (by omega) B7, Option.bind_some, ctry_eq a1 a2 (fun j hj => by
      obtain ⟨u1, _, c, u2, u3, u4⟩ := a6 j hj
      exact ⟨c, u2, u3, u1.trans u4⟩), Option.bind_some]
    refine ⟨μ, ?_, fun _ _ _ => rfl⟩
    have CT : ∀ q, q ≤ p → ∃ r c, r < A ∧ μ 7 q = nI r ∧ 97 ≤ c ∧ c ≤ 100 ∧ cut ν p 4 q = nI c ∧ μ 3 r = nI c := by
      intro q hq
      obtain ⟨_, r, _, h2, _, h4⟩ := B q hq
      obtain ⟨u1, _, c, u2, u3, u4⟩ := a6 r h2
      refine ⟨r, c, h2, h4, u2, u3, ?_, u1.trans u4⟩
      rw [cut_le hq]
      show ν 1 (ν 4 q).toNatClampNeg = _
      rw [← (hL.2.2.2.1 q (by omega)).2.1, h4, w_nat (by omega)]; exact u4
    have e : fo (cnyS (cut ν p) (cut ν p 0 p)) (lo (cut ν p) w p) (p + 1 - lo (cut ν p) w p) 0 = fo (fun q s => if (fun q => decide (μ 6 q = nI a)) q = true then sb s ((fun q => ((cut ν p 4 q).toNatClampNeg - 97) % 4) q) true else s) (lo (cut ν p) w p) (p + 1 - lo (cut ν p) w p) 0 := by
      apply fo_congr
      intro q _ hq s
      unfold cnyS
      obtain ⟨r, c, _, _, g1, g2, g3, _⟩ := CT q (by omega)
      show _ = (if decide (μ 6 q = nI a) = true then sb s (((cut ν p 4 q).toNatClampNeg - 97) % 4) true else s)
      rw [X0 q (by omega), c0, g3, w_nat (by omega), Nat.mod_eq_of_lt (show c - 97 < 4 by omega)]
      by_cases h : μ 6 q = nI a
      · rw [if_pos h, if_pos (decide_eq_true h)]
      · rw [if_neg h, if_neg (by simpa using h)]
    have key : fo (fun q s => if bt (fo (fun q s => if decide (μ 6 q = nI a) = true then sb s ((μ 7 q).toNatClampNeg % 32) true else s) (lo (cut ν p) w p) (p + 1 - lo (cut ν p) w p) 0) q = true then sb s (((μ 3 q).toNatClampNeg - 97) % 4) true else s) 0 A 0 = fo (cnyS (cut ν p) (cut ν p 0 p)) (lo (cut ν p) w p) (p + 1 - lo (cut ν p) w p) 0 := by
      rw [e]
      apply b_ext
      intro j hj
      apply Bool.eq_iff_iff.mpr
      have k1 := fo_set (c := fun q => bt (fo (fun q s => if decide (μ 6 q = nI a) = true then sb s ((μ 7 q).toNatClampNeg % 32) true else s) (lo (cut ν p) w p) (p + 1 - lo (cut ν p) w p) 0) q) (f := fun q => ((μ 3 q).toNatClampNeg - 97) % 4) (fun q => by show _ % 4 < 32; omega) hj A 0 0
      have k2 := fo_set (c := fun q => decide (μ 6 q = nI a)) (f := fun q => ((cut ν p 4 q).toNatClampNeg - 97) % 4) (fun q => by show _ % 4 < 32; omega) hj (p + 1 - lo (cut ν p) w p) (lo (cut ν p) w p) 0
      refine k1.trans (Iff.trans ?_ k2.symm)
      rw [b_0]
      constructor
      · rintro (h | ⟨r, h1, h2, h3, h4⟩)
        · cases h
        · have k3 := (fo_set (c := fun q => decide (μ 6 q = nI a)) (f := fun q => (μ 7 q).toNatClampNeg % 32) (fun q => by show _ % 32 < 32; omega) (show r < 32 by omega) (p + 1 - lo (cut ν p) w p) (lo (cut ν p) w p) 0).mp h3
          rw [b_0] at k3
          rcases k3 with h | ⟨q, i1, i2, i3, i4⟩
          · cases h
          · obtain ⟨r', c, g0, g1, _, _, g3, g4⟩ := CT q (by omega)
            refine Or.inr ⟨q, i1, i2, i3, ?_⟩
            have i5 : (μ 7 q).toNatClampNeg % 32 = r := i4
            rw [g1, w_nat (by omega), Nat.mod_eq_of_lt (by omega)] at i5
            show ((cut ν p 4 q).toNatClampNeg - 97) % 4 = j
            rw [g3, ← g4, i5]; exact h4
      · rintro (h | ⟨q, i1, i2, i3, i4⟩)
        · cases h
        · obtain ⟨r, c, g0, g1, _, _, g3, g4⟩ := CT q (by omega)
          refine Or.inr ⟨r, by omega, by omega, ?_, ?_⟩
          · refine (fo_set (c := fun q => decide (μ 6 q = nI a)) (f := fun q => (μ 7 q).toNatClampNeg % 32) (fun q => by show _ % 32 < 32; omega) (show r < 32 by omega) (p + 1 - lo (cut ν p) w p) (lo (cut ν p) w p) 0).mpr (Or.inr ⟨q, i1, i2, i3, ?_⟩)
            show (μ 7 q).toNatClampNeg % 32 = r
            rw [g1, w_nat (by omega), Nat.mod_eq_of_lt (by omega)]
          · show ((μ 3 r).toNatClampNeg - 97) % 4 = j
            rw [g4, ← g3]; exact i4
    rw [key]
  · unfold V
    rw [if_neg (by decide), if_neg (by decide), if_pos (by decide), if_neg (by decide), if_neg (by decide), if_pos (by decide)]
    obtain ⟨μ', e1, e2, e3⟩ := net
    obtain ⟨r, hr⟩ := ll_some (x2 := μ 2 3) (x3 := 99) (μ := nt (cut ν p) (lo (cut ν p) w p) (p + 1 - lo (cut ν p) w p)) 20 fuel 0 (1 <<< (nI b &&& 31)) (by omega) (by unfold fuel; omega)
    have hr2 : f_X5_leastLinks (nI b) (μ 2 3) 99 (nt (cut ν p) (lo (cut ν p) w p) (p + 1 - lo (cut ν p) w p)) = some r := hr
    rw [e1, Option.bind_some, e2 2 (by omega) (by omega), leastLinks_cg (fun j hj => (e3 j hj).2), hr2, Option.bind_some, c1, hr2]
    exact ⟨μ', rfl, e2⟩
  · unfold V
    rw [if_neg (by decide), if_neg (by decide), if_neg (by decide), if_pos (by decide), if_neg (by decide), if_neg (by decide), if_neg (by decide), if_pos (by decide)]
    rw [pair_eq (by omega), Option.bind_some]
    refine ⟨μ, ?_, fun _ _ _ => rfl⟩
    have e : fst1 (sameP (cut ν p) p) 0 p = fst1 (fun q => decide (μ 6 q = μ 6 p) && decide (μ 7 q = μ 7 p)) 0 p := by
      apply fst1_congr
      intro q _ hq
      unfold sameP
      rw [X0 q (by omega), X0 p (Nat.le_refl p), X1 q (by omega), X1 p (Nat.le_refl p)]
    rw [e]
    by_cases h : fst1 (fun q => decide (μ 6 q = μ 6 p) && decide (μ 7 q = μ 7 p)) 0 p = p
    · rw [if_pos h, if_neg (by decide)]
    · rw [if_neg h, if_pos rfl]
  · unfold V
    rw [if_neg (by decide), if_neg (by decide), if_neg (by decide), if_neg (by decide), if_pos (by decide), if_neg (by decide), if_neg (by decide), if_neg (by decide), if_neg (by decide), if_pos (by decide)]
    obtain ⟨μ', e1, e2, e3⟩ := net
    have hbits : ∀ j, j < 20 → ∀ i, 20 ≤ i → i < 32 → bt (nt (cut ν p) (lo (cut ν p) w p) (p + 1 - lo (cut ν p) w p) 12 j) i = false := by
      intro j hj i h1 h2
      exact fo_inv (g := ntS (cut ν p)) (fun _ (s : Mm) => ∀ j, j < 20 → bt (s 12 j) i = false) (p + 1 - lo (cut ν p) w p) (lo (cut ν p) w p) (fun _ _ => 0) (fun j _ => b_0 i) (fun q s _ hq hI j hj => by
        obtain ⟨qa, qb, h3, h4, h5, h6⟩ := B q (by omega)
        unfold ntS
        simp only [X0 q (by omega), X1 q (by omega), h5, h6, w_nat (show qa < 2147483648 by omega), w_nat (show qb < 2147483648 by omega)]
        simp only [up2, upd, show ¬ ((12 : Nat) = 11) by omega, if_true, if_false]
        by_cases e1 : j = qb
        · rw [if_pos e1, bt_sb _ _ (by omega) h2, if_neg (by omega)]
          by_cases e2 : qb = qa
          · rw [if_pos e2, bt_sb _ _ (by omega) h2, if_neg (by omega)]; exact hI qa (by omega)
          · rw [if_neg e2]; exact hI qb (by omega)
        · rw [if_neg e1]
          by_cases e2 : j = qa
          · rw [if_pos e2, bt_sb _ _ (by omega) h2, if_neg (by omega)]; exact hI qa (by omega)
          · rw [if_neg e2]; exact hI j hj) j hj
    obtain ⟨r, hr⟩ := gs_some (A := A) (μ := nt (cut ν p) (lo (cut ν p) w p) (p + 1 - lo (cut ν p) w p)) a1 hbits 19 fuel 1 (1 <<< (nI a &&& 31)) (fun i h1 h2 => by rw [b_one (by omega) h2, decide_eq_false (by omega)]) (by omega) (by unfold fuel; omega)
    have hr2 : f_X5_groupSize (nI a) (nt (cut ν p) (lo (cut ν p) w p) (p + 1 - lo (cut ν p) w p)) = some r := hr
    rw [e1, Option.bind_some, groupSize_cg (fun j hj => (e3 j hj).2), hr2, Option.bind_some, c0, hr2]
    exact ⟨μ', rfl, e2⟩
  · unfold V
    rw [if_neg (by decide), if_neg (by decide), if_neg (by decide), if_neg (by decide), if_neg (by decide), if_pos (by decide), if_neg (by decide), if_neg (by decide), if_neg (by decide), if_neg (by decide), if_neg (by decide), if_pos (by decide)]
    rw [sum7_eq (show lo (cut ν p) w p ≤ p + 1 by omega) (by omega), Option.bind_some]
    refine ⟨μ, ?_, fun _ _ _ => rfl⟩
    congr 2
    apply fo_congr
    intro q _ hq s
    unfold sumS
    rw [X1 q (by omega), X2 q (by omega), c0]
  · unfold V
    rw [if_neg (by decide), if_neg (by decide), if_neg (by decide), if_neg (by decide), if_neg (by decide), if_neg (by decide), if_neg (by decide), if_neg (by decide), if_neg (by decide), if_neg (by decide), if_neg (by decide), if_neg (by decide), if_neg (by decide), if_neg (by decide), if_neg (by decide), if_neg (by decide), if_neg (by decide), if_neg (by decide), if_neg (by decide), if_neg (by decide), if_neg (by decide), if_neg (by decide), if_neg (by decide), if_neg (by decide)]
    obtain ⟨μ', e1, e2, e3⟩ := net
    obtain ⟨r, hr⟩ := sw_some (x2 := a) (μ := nt (cut ν p) (lo (cut ν p) w p) (p + 1 - lo (cut ν p) w p)) (by omega) 20 fuel 1 0 (1 <<< (nI b &&& 31)) (by omega) (by unfold fuel; omega)
    have hr2 : f_X5_shortestWay (nI b) (nI a) (nt (cut ν p) (lo (cut ν p) w p) (p + 1 - lo (cut ν p) w p)) = some r := hr
    rw [e1, Option.bind_some, shortestWay_cg (fun j hj => (e3 j hj).1), hr2, Option.bind_some, c0, c1, hr2]
    by_cases h : r = -1
    · rw [if_pos h]; exact ⟨μ', by show some (0, μ') = some ((if r = -1 then 0 else 1 + r), μ'); rw [if_pos h], e2⟩
    · rw [if_neg h]; exact ⟨μ', by show some (1 + r, μ') = some ((if r = -1 then 0 else 1 + r), μ'); rw [if_neg h], e2⟩
  · unfold V
    rw [if_neg (by decide), if_neg (by decide), if_neg (by decide), if_neg (by decide), if_neg (by decide), if_neg (by decide), if_pos (by decide), if_neg (by decide), if_neg (by decide), if_neg (by decide), if_neg (by decide), if_neg (by decide), if_neg (by decide), if_pos (by decide)]
    rw [cnt_eq (show lo (cut ν p) w p ≤ p + 1 by omega) (by omega), Option.bind_some]
    refine ⟨μ, ?_, fun _ _ _ => rfl⟩
    congr 2
    apply fo_congr
    intro q _ hq s
    unfold cntS
    rw [X0 q (by omega), X2 q (by omega), c0]
  · unfold V
    rw [if_neg (by decide), if_neg (by decide), if_neg (by decide), if_neg (by decide), if_neg (by decide), if_neg (by decide), if_neg (by decide), if_pos (by decide), if_neg (by decide), if_neg (by decide), if_neg (by decide), if_neg (by decide), if_neg (by decide), if_neg (by decide), if_neg (by decide), if_pos (by decide)]
    rw [max_eq (show lo (cut ν p) w p ≤ p + 1 by omega) (by omega), Option.bind_some]
    refine ⟨μ, ?_, fun _ _ _ => rfl⟩
    congr 2
    apply fo_congr
    intro q _ hq s
    unfold maxS
    rw [X0 q (by omega), X2 q (by omega), c0]
  · unfold V
    rw [if_neg (by decide), if_neg (by decide), if_neg (by decide), if_neg (by decide), if_neg (by decide), if_neg (by decide), if_neg (by decide), if_neg (by decide), if_pos (by decide), if_neg (by decide), if_neg (by decide), if_neg (by decide), if_neg (by decide), if_neg (by decide), if_neg (by decide), if_neg (by decide), if_neg (by decide), if_pos (by decide)]
    rw [cnt_eq (show lo (cut ν p) w p ≤ p + 1 by omega) (by omega), Option.bind_some]
    refine ⟨μ, ?_, fun _ _ _ => rfl⟩
    congr 2
    apply fo_congr
    intro q _ hq s
    unfold cntS
    rw [X0 q (by omega), X2 q (by omega), c0]
  · unfold V
    rw [if_neg (by decide), if_neg (by decide), if_neg (by decide), if_neg (by decide), if_neg (by decide), if_neg (by decide), if_neg (by decide), if_neg (by decide), if_neg (by decide), if_pos (by decide), if_neg (by decide), if_neg (by decide), if_neg (by decide), if_neg (by decide), if_neg (by decide), if_neg (by decide), if_neg (by decide), if_neg (by decide), if_neg (by decide), if_pos (by decide)]
    unfold f_X4_minutesSinceLast
    rw [last_eq (x := cut ν p) (by omega) (fun q hq => ⟨X0 q hq, X3 q hq⟩) p fuel (Nat.le_refl p) (by unfold fuel; omega), Option.bind_some]
    exact ⟨μ, rfl, fun _ _ _ => rfl⟩
  · unfold V
    rw [if_neg (by decide), if_neg (by decide), if_neg (by decide), if_neg (by decide), if_neg (by decide), if_neg (by decide), if_neg (by decide), if_neg (by decide), if_neg (by decide), if_neg (by decide), if_pos (by decide), if_neg (by decide), if_neg (by decide), if_neg (by decide), if_neg (by decide), if_neg (by decide), if_neg (by decide), if_neg (by decide), if_neg (by decide), if_neg (by decide), if_neg (by decide), if_pos (by decide)]
    have e : fo (fun q s => if decide (μ 6 q = nI a) = true then sb s ((μ 7 q).toNatClampNeg % 32) true else s) (lo (cut ν p) w p) (p + 1 - lo (cut ν p) w p) 0 = fo (recS (cut ν p) (cut ν p 0 p)) (lo (cut ν p) w p) (p + 1 - lo (cut ν p) w p) 0 := by
      apply fo_congr
      intro q _ hq s
      unfold recS
      obtain ⟨qa, qb, h3, h4, h5, h6⟩ := B q (by omega)
      rw [X0 q (by omega), X1 q (by omega), c0, h6, w_nat (by omega), Nat.mod_eq_of_lt (show qb < 32 by omega)]
      by_cases h : μ 6 q = nI a
      · rw [if_pos h, if_pos (decide_eq_true h)]
      · rw [if_neg h, if_neg (by simpa using h)]
    rw [recv_eq (show lo (cut ν p) w p ≤ p + 1 by omega) (by omega) B7, Option.bind_some, e, bc_set (recS_bits (p := p) (fun q hq => by
      obtain ⟨b, hb, e⟩ := B7 q (by omega)
      exact ⟨b, hb, (X1 q hq).trans e⟩) (by omega)), Option.bind_some]
    exact ⟨μ, rfl, fun _ _ _ => rfl⟩
  · unfold V
    rw [if_neg (by decide), if_neg (by decide), if_neg (by decide), if_neg (by decide), if_neg (by decide), if_neg (by decide), if_neg (by decide), if_neg (by decide), if_neg (by decide), if_neg (by decide), if_neg (by decide), if_pos (by decide), if_neg (by decide), if_neg (by decide), if_neg (by decide), if_neg (by decide), if_neg (by decide), if_neg (by decide), if_neg (by decide), if_neg (by decide), if_neg (by decide), if_neg (by decide), if_neg (by decide), if_pos (by decide)]
    rw [sum6_eq (show lo (cut ν p) w p ≤ p + 1 by omega) (by omega), Option.bind_some]
    refine ⟨μ, ?_, fun _ _ _ => rfl⟩
    congr 2
    apply fo_congr
    intro q _ hq s
    unfold sumS
    rw [X0 q (by omega), X2 q (by omega), c0]
end
section
/-! ===== L3: the component's judgement is sem ===== -/
theorem up_loopR {σ ρ : Type} (F : Nat → Int32 → σ → Option ρ) (P : Nat) (K : σ → Option ρ) (I : Nat → σ → Prop)
    (h0 : ∀ n s, I P s → F (n + 1) (nI P) s = K s)
    (h1 : ∀ n i s, i < P → I i s → ∃ s', F (n + 1) (nI i) s = F n (nI (i + 1)) s' ∧ I (i + 1) s') :
    ∀ (m n i : Nat) (s : σ), i + m = P → m < n → I i s → ∃ s', F n (nI i) s = K s' ∧ I P s'
  | 0, 0, _, _, _, h, _ => by omega
  | 0, n + 1, i, s, he, _, hI => by
    have : i = P := by omega
    subst this
    exact ⟨s, h0 n s hI, hI⟩
  | m + 1, 0, _, _, _, h, _ => by omega
  | m + 1, n + 1, i, s, he, hn, hI => by
    obtain ⟨s', e, hI2⟩ := h1 n i s (by omega) hI
    obtain ⟨s2, e2, hI3⟩ := up_loopR F P K I h0 h1 m n (i + 1) s' (by omega) (by omega) hI2
    exact ⟨s2, e.trans e2, hI3⟩
theorem sem_fuel {C p : Nat} {μ ν : Mm} {mk : Int32} (hC : C ≤ 30) (hall : ∀ j, j < C → Cnd μ ν j) : ∀ (d c s : Nat), c < C → ν 15 c = nI s → s ≤ d → s ≤ 15 → sem ν mk p (d + 1) c = sem ν mk p d c
  | 0, c, s, hc, hs, h, _ => by
    exfalso
    obtain ⟨k, s', n, hk, hs', e1, e2, e3, e4, e5, e6, h0, h3, h12⟩ := hall c hc
    have hss : s' = s := (w_eq (by omega) (by omega)).mp (e3.symm.trans hs)
    have hk4 : k = 0 ∨ k = 3 ∨ (k = 1 ∨ k = 2) := by omega
    rcases hk4 with hk | hk | hk
    · have := (h0 hk).2.2.2.2.1; omega
    · obtain ⟨_, a, s1, _, _, _, _, e⟩ := h3 hk; omega
    · obtain ⟨a, b, s1, s2, _, _, _, _, _, _, _, _, e, _⟩ := h12 hk; omega
  | d + 1, c, s, hc, hs, h, h15 => by
    obtain ⟨k, s', n, hk, hs', e1, e2, e3, e4, e5, e6, h0, h3, h12⟩ := hall c hc
    have hss : s' = s := (w_eq (by omega) (by omega)).mp (e3.symm.trans hs)
    have hk4 : k = 0 ∨ k = 1 ∨ k = 2 ∨ k = 3 := by omega
    unfold sem
    rcases hk4 with rfl | rfl | rfl | rfl
    · rw [e1, if_neg (by decide), if_neg (by decide), if_neg (by decide), if_neg (by decide), if_neg (by decide), if_neg (by decide)]
    · obtain ⟨a, b, s1, s2, ha, hb, g1, _, g2, _, g3, g4, e, _⟩ := h12 (Or.inl rfl)
      rw [e1, if_neg (by decide), if_pos (by decide), if_neg (by decide), if_pos (by decide), g1, g2, w_nat (by omega), w_nat (by omega), sem_fuel hC hall d a s1 (by omega) g3 (by omega) (by omega), sem_fuel hC hall d b s2 (by omega) g4 (by omega) (by omega)]
    · obtain ⟨a, b, s1, s2, ha, hb, g1, _, g2, _, g3, g4, e, _⟩ := h12 (Or.inr rfl)
      rw [e1, if_neg (by decide), if_neg (by decide), if_pos (by decide), if_neg (by decide), if_neg (by decide), if_pos (by decide), g1, g2, w_nat (by omega), w_nat (by omega), sem_fuel hC hall d a s1 (by omega) g3 (by omega) (by omega), sem_fuel hC hall d b s2 (by omega) g4 (by omega) (by omega)]
    · obtain ⟨_, a, s1, ha, g1, _, g3, e⟩ := h3 rfl
      rw [e1, if_pos (by decide), if_pos (by decide), g1, w_nat (by omega), sem_fuel hC hall d a s1 (by omega) g3 (by omega) (by omega)]
theorem narb (b : Bool) : vp_nar .boolean (b2 b) = b2 b := by cases b <;> rfl
/-- what judge leaves after k conditions -/
def JI (μ ν : Mm) (p k : Nat) (m : Mm) : Prop := (∀ c, c ≠ 11 → c ≠ 12 → c ≠ 24 → c ≠ 25 → m c = μ c) ∧ ∀ c, c < k → m 24 c = b2 (sem ν (μ 2 3) p 16 c) ∧ (ν 12 c = 0 → m 25 c = VC ν (μ 2 3) p c)
theorem JI_set {μ ν m : Mm} {p k : Nat} {b : Bool} (h : JI μ ν p k m) (hb : b = sem ν (μ 2 3) p 16 k) (hv : ν 12 k ≠ 0) : JI μ ν p (k + 1) (up2 m 24 k (b2 b)) := by
  refine ⟨fun c h1 h2 h3 h4 => by rw [up2_n h3]; exact h.1 c h1 h2 h3 h4, fun c hc => ?_⟩
  by_cases hck : c = k
  · subst hck
    refine ⟨?_, fun h0 => absurd h0 hv⟩
    show (if c = c then b2 b else _) = _
    rw [if_pos rfl, hb]
  · obtain ⟨g1, g2⟩ := h.2 c (by omega)
    refine ⟨?_, fun h0 => g2 h0⟩
    show (if c = k then b2 b else m 24 c) = _
    rw [if_neg hck, g1]
theorem judge_eq {A T P C p k : Nat} {μ ν : Mm} (hA : Acc A μ ν) (hL : Led A T P μ ν) (hC : Con C μ ν) (hT : T ≤ 800000) (hp : p < P) (hk : k ≤ C) : ∃ μ', f_X3_judge_1 (nI p) (nI k) μ = some μ' ∧ JI μ ν p k μ' := by
  obtain ⟨q1, q2, q3, q4, q5, q6⟩ := id hC
  unfold f_X3_judge_1
  refine up_loopR (fun n y (m : Mm) => f_X3_judge_1_L3 (nI p) (nI k) n y m) k (fun m => some m) (JI μ ν p) ?_ ?_ k fuel 0 μ (by omega) (by unfold fuel; omega) ⟨fun c _ _ _ _ => rfl, fun c hc => by omega⟩
  · intro n m _
    show f_X3_judge_1_L3 (nI p) (nI k) (n + 1) (nI k) m = _
    unfold f_X3_judge_1_L3
    rw [if_pos (by rw [w_le (by omega) (by omega)]; omega)]
  · intro n i m hi hI
    obtain ⟨kk, s, nn, hk3, hs, e1, e2, e3, e4, e5, e6, h0, h3, h12⟩ := q6 i (by omega)
    obtain ⟨fa, fb, hfa, hfb, efa, efb⟩ := q4 i (by omega)
    have M : ∀ c, c ≠ 11 → c ≠ 12 → c ≠ 24 → c ≠ 25 → m c = μ c := hI.1
    show ∃ s', f_X3_judge_1_L3 (nI p) (nI k) (n + 1) (nI i) m = f_X3_judge_1_L3 (nI p) (nI k) n (nI (i + 1)) s' ∧ JI μ ν p (i + 1) s'
    conv => enter [1, s', 1, 1]; unfold f_X3_judge_1_L3
    rw [if_neg (by rw [w_le (by omega) (by omega)]; omega), M 20 (by omega) (by omega) (by omega) (by omega), M 21 (by omega) (by omega) (by omega) (by omega), M 14 (by omega) (by omega) (by omega) (by omega), w_nat (show i < 2147483648 by omega), efa, efb, e2, w_succ]
    have ci : ∀ {α : Type} (k : Option α), chk (nI i) 30 k = k := fun k => chk_nI (by omega) (by omega)
    rw [ci, chk_nI hfa (by omega), ci, chk_nI hfb (by omega), ci, w_nat (show fa < 2147483648 by omega), w_nat (show fb < 2147483648 by omega)]
    have n0 : vp_nar .boolean 0 = b2 false := narb false
    have n1 : vp_nar .boolean 1 = b2 true := narb true
    have S : ∀ a s1, a < i → ν 15 a = nI s1 → s1 ≤ 14 → sem ν (μ 2 3) p 15 a = sem ν (μ 2 3) p 16 a := fun a s1 ha h1 h2 => (sem_fuel q1 q6 15 a s1 (by omega) h1 (by omega) (by omega)).symm
    have hk4 : kk = 0 ∨ kk = 1 ∨ kk = 2 ∨ kk = 3 := by omega
    rcases hk4 with rfl | rfl | rfl | rfl
    · obtain ⟨f1, f2, f3, f4, f5, f6, f, w, g1, g2, g3, g4, g5⟩ := h0 rfl
      rw [if_neg (by decide), if_neg (by decide), if_neg (by decide)]
      have hAm : Acc A m ν := by
        unfold Acc at hA ⊢
        rw [M 2 (by omega) (by omega) (by omega) (by omega), M 3 (by omega) (by omega) (by omega) (by omega), M 4 (by omega) (by omega) (by omega) (by omega)]
        exact hA
      have hLm : Led A T P m ν := by
        unfold Led at hL ⊢
        rw [M 5 (by omega) (by omega) (by omega) (by omega), M 6 (by omega) (by omega) (by omega) (by omega), M 7 (by omega) (by omega) (by omega) (by omega), M 8 (by omega) (by omega) (by omega) (by omega), M 9 (by omega) (by omega) (by omega) (by omega)]
        exact hL
      obtain ⟨m2, v1, v2⟩ := compV (w := nI w) hAm hLm hT hp (show win (nI w) from ⟨by rw [w_int (by omega)]; omega, by rw [w_int (by omega)]; omega⟩) g1
      rw [M 2 (by omega) (by omega) (by omega) (by omega)] at v1
      have hsem : sem ν (μ 2 3) p 16 i = tst ν i (VC ν (μ 2 3) p i) := by
        show sem ν (μ 2 3) p (15 + 1) i = _
        unfold sem
        rw [e1, if_neg (by decide), if_neg (by decide), if_neg (by decide)]
      have hVC : VC ν (μ 2 3) p i = V (cut ν p) (nI f) (nI w) (μ 2 3) p := by unfold VC; rw [g4, g5]
      have K : ∀ c, c ≠ 11 → c ≠ 12 → c ≠ 24 → c ≠ 25 → m2 c = μ c := fun c h1 h2 h3 h4 => (v2 c h1 h2).trans (M c h1 h2 h3 h4)
      have jt : f_X3_judgeTest_1 (nI p) (nI i) m = some (b2 (sem ν (μ 2 3) p 16 i), up2 m2 25 i (VC ν (μ 2 3) p i)) := by
        unfold f_X3_judgeTest_1
        have ci2 : ∀ {α : Type} (k : Option α), chk (nI i) 30 k = k := fun k => chk_nI (by omega) (by omega)
        rw [ci2, ci2, w_nat (show i < 2147483648 by omega), M 16 (by omega) (by omega) (by omega) (by omega), M 17 (by omega) (by omega) (by omega) (by omega), f1, f2, g4, g5, v1, Option.bind_some, ci2, ci2]
        simp only [up2_n (k := 25) (a := 18) (by omega), up2_n (k := 25) (a := 19) (by omega)]
        rw [K 18 (by omega) (by omega) (by omega) (by omega), K 19 (by omega) (by omega) (by omega) (by omega), f3, f4, ci2, ci2, hsem, hVC]
        unfold tst
        generalize V (cut ν p) (nI f) (nI w) (μ 2 3) p = v
        by_cases ha : ν 19 i = 0
        · rw [if_pos ha, if_pos ha]
          by_cases hb : ν 17 i < v
          · rw [if_pos hb, decide_eq_true hb]; rfl
          · rw [if_neg hb, decide_eq_false hb]; rfl
        · rw [if_neg ha, if_neg ha]
          by_cases hb : v < ν 17 i
          · rw [if_pos hb, decide_eq_true hb]; rfl
          · rw [if_neg hb, decide_eq_false hb]; rfl
      rw [jt, Option.bind_some, ci]
      refine ⟨up2 (up2 m2 25 i (VC ν (μ 2 3) p i)) 24 i (vp_nar .boolean (b2 (sem ν (μ 2 3) p 16 i))), rfl, fun c h1 h2 h3 h4 => ?_, fun c hc => ?_⟩
      · rw [up2_n h3, up2_n h4]; exact K c h1 h2 h3 h4
      · by_cases hci : c = i
        · subst hci
          refine ⟨?_, fun _ => ?_⟩
          · show (if c = c then vp_nar .boolean _ else _) = _
            rw [if_pos rfl, narb]
          · show (if c = c then _ else _) = _
            rw [if_pos rfl]
        · obtain ⟨j1, j2⟩ := hI.2 c (by omega)
          refine ⟨?_, fun h => ?_⟩
          · show (if c = i then _ else m2 24 c) = _
            rw [if_neg hci, v2 24 (by omega) (by omega), j1]
          · show (if c = i then _ else m2 25 c) = _
            rw [if_neg hci, v2 25 (by omega) (by omega), j2 h]
    · obtain ⟨a, b, s1, s2, ha, hb, g1, g20, g2, g21, g3, g4, e, _⟩ := h12 (Or.inl rfl)
      have hfa' : fa = a := (w_eq (by omega) (by omega)).mp (efa.symm.trans g20)
      have hfb' : fb = b := (w_eq (by omega) (by omega)).mp (efb.symm.trans g21)
      refine ⟨up2 m 24 i (b2 (sem ν (μ 2 3) p 16 i)), ?_, JI_set hI rfl (by rw [e1]; decide)⟩
      have hsem : sem ν (μ 2 3) p 16 i = (sem ν (μ 2 3) p 16 a && sem ν (μ 2 3) p 16 b) := by
        rw [← S a s1 ha g3 (by omega), ← S b s2 hb g4 (by omega)]
        show sem ν (μ 2 3) p (15 + 1) i = _
        conv => lhs; unfold sem
        rw [e1, if_neg (by decide), if_pos (by decide), g1, g2, w_nat (by omega), w_nat (by omega)]
      rw [if_pos (show nI 1 = 1 from rfl), hfa', hfb', (hI.2 a (by omega)).1, (hI.2 b (by omega)).1]
      simp only [ci]
      rw [n0, n1, hsem]
      cases sem ν (μ 2 3) p 16 a <;> cases sem ν (μ 2 3) p 16 b <;> rfl
    · obtain ⟨a, b, s1, s2, ha, hb, g1, g20, g2, g21, g3, g4, e, _⟩ := h12 (Or.inr rfl)
      have hfa' : fa = a := (w_eq (by omega) (by omega)).mp (efa.symm.trans g20)
      have hfb' : fb = b := (w_eq (by omega) (by omega)).mp (efb.symm.trans g21)
      refine ⟨up2 m 24 i (b2 (sem ν (μ 2 3) p 16 i)), ?_, JI_set hI rfl (by rw [e1]; decide)⟩
      have hsem : sem ν (μ 2 3) p 16 i = (sem ν (μ 2 3) p 16 a || sem ν (μ 2 3) p 16 b) := by
        rw [← S a s1 ha g3 (by omega), ← S b s2 hb g4 (by omega)]
        show sem ν (μ 2 3) p (15 + 1) i = _
        conv => lhs; unfold sem
        rw [e1, if_neg (by decide), if_neg (by decide), if_pos (by decide), g1, g2, w_nat (by omega), w_nat (by omega)]
      rw [if_neg (show ¬ nI 2 = 1 by decide), if_pos (show nI 2 = 2 from rfl), hfa', hfb', (hI.2 a (by omega)).1, (hI.2 b (by omega)).1]
      simp only [ci]
      rw [n0, n1, hsem]
      cases sem ν (μ 2 3) p 16 a <;> cases sem ν (μ 2 3) p 16 b <;> rfl
    · obtain ⟨_, a, s1, ha, g1, g20, g3, e⟩ := h3 rfl
      have hfa' : fa = a := (w_eq (by omega) (by omega)).mp (efa.symm.trans g20)
      refine ⟨up2 m 24 i (b2 (sem ν (μ 2 3) p 16 i)), ?_, JI_set hI rfl (by rw [e1]; decide)⟩
      have hsem : sem ν (μ 2 3) p 16 i = !(sem ν (μ 2 3) p 16 a) := by
        rw [← S a s1 ha g3 (by omega)]
        show sem ν (μ 2 3) p (15 + 1) i = _
        conv => lhs; unfold sem
        rw [e1, if_pos (by decide), g1, w_nat (by omega)]
      rw [if_neg (show ¬ nI 3 = 1 by decide), if_neg (show ¬ nI 3 = 2 by decide), if_pos (show nI 3 = 3 from rfl), hfa', (hI.2 a (by omega)).1]
      simp only [ci]
      rw [n0, n1, hsem]
      cases sem ν (μ 2 3) p 16 a <;> rfl
end
section
/-! ===== L3: the model's values ===== -/
/-- the model's loop over the payments before p by the same payer: the last of them, and whether all went to another receiver -/
def l107 (ν : Mm) (p : Nat) (q : Nat) (s : Int32 × Int32) : Int32 × Int32 := if ν 3 q = ν 3 p then (nI q, if ν 4 q = ν 4 p then s.2 &&& 0 else s.2 &&& 1) else s
theorem m107_eq {p : Nat} {x2 : Int32} {ν : Mm} (hp : p < 200) (K : Int32 → Int32 → Option (Int32 × Mm)) : f_X8_valueBy_L107 K (nI p) x2 ν fuel (-1) 1 0 = K (fo (l107 ν p) 0 p (-1, 1)).1 (fo (l107 ν p) 0 p (-1, 1)).2 := by
  refine up_loop' (fun n x (s : Int32 × Int32) => f_X8_valueBy_L107 K (nI p) x2 ν n s.1 s.2 x) p (fun s => K s.1 s.2) (l107 ν p) ?_ ?_ p fuel 0 (-1, 1) (by omega) (by unfold fuel; omega)
  · intro n s
    show f_X8_valueBy_L107 K (nI p) x2 ν (n + 1) s.1 s.2 (nI p) = _
    unfold f_X8_valueBy_L107
    rw [if_pos (by rw [w_le (by omega) (by omega)]; omega)]
  · intro n q s hq
    show f_X8_valueBy_L107 K (nI p) x2 ν (n + 1) s.1 s.2 (nI q) = _
    conv => lhs; unfold f_X8_valueBy_L107
    rw [if_neg (by rw [w_le (by omega) (by omega)]; omega), chk_nI (show q < 200 by omega) (by omega), chk_nI (show p < 200 by omega) (by omega), chk_nI (show q < 200 by omega) (by omega), chk_nI (show p < 200 by omega) (by omega), w_nat (by omega), w_nat (by omega), w_succ]
    unfold l107
    by_cases h : ν 3 q = ν 3 p
    · rw [if_pos h, if_pos h]
      by_cases h2 : ν 4 q = ν 4 p
      · rw [if_pos h2, if_pos h2]
      · rw [if_neg h2, if_neg h2]
    · rw [if_neg h, if_neg h]
theorem l107_1 {ν : Mm} {p : Nat} (x : Nat → Nat → Int32) (hx : ∀ q, q ≤ p → x 0 q = ν 3 q ∧ x 3 q = ν 6 q) : ∀ m, m ≤ p → m ≤ 200 → ((fo (l107 ν p) 0 m (-1, 1)).1 = -1 ∧ lastM x p m = 99999) ∨ ∃ q, q < m ∧ (fo (l107 ν p) 0 m (-1, 1)).1 = nI q ∧ lastM x p m = ν 6 p - ν 6 q
  | 0, _, _ => Or.inl ⟨rfl, rfl⟩
  | m + 1, hm, h2 => by
    rw [fo_succ, Nat.zero_add]
    unfold lastM
    rw [(hx m (by omega)).1, (hx p (Nat.le_refl p)).1, (hx m (by omega)).2, (hx p (Nat.le_refl p)).2]
    by_cases h : ν 3 m = ν 3 p
    · rw [if_pos h]
      refine Or.inr ⟨m, by omega, ?_, rfl⟩
      show (if ν 3 m = ν 3 p then (nI m, _) else _ : Int32 × Int32).1 = _
      rw [if_pos h]
    · rw [if_neg h]
      have e : l107 ν p m (fo (l107 ν p) 0 m (-1, 1)) = fo (l107 ν p) 0 m (-1, 1) := by
        show (if ν 3 m = ν 3 p then _ else _ : Int32 × Int32) = _
        rw [if_neg h]
      rw [e]
      rcases l107_1 x hx m (by omega) (by omega) with h3 | ⟨q, h3, h4, h5⟩
      · exact Or.inl h3
      · exact Or.inr ⟨q, by omega, h4, h5⟩
theorem l107_2 {ν : Mm} {p : Nat} : ∀ m, (fo (l107 ν p) 0 m (-1, 1)).2 = if fst1 (fun q => decide (ν 3 q = ν 3 p) && decide (ν 4 q = ν 4 p)) 0 m = m then 1 else 0
  | 0 => rfl
  | m + 1 => by
    rw [fo_succ, Nat.zero_add]
    have ih := l107_2 (ν := ν) (p := p) m
    have hle := fst1_le (p := fun q => decide (ν 3 q = ν 3 p) && decide (ν 4 q = ν 4 p)) m 0
    rw [Nat.zero_add] at hle
    generalize fo (l107 ν p) 0 m (-1, 1) = s at ih ⊢
    by_cases hh : fst1 (fun q => decide (ν 3 q = ν 3 p) && decide (ν 4 q = ν 4 p)) 0 m = m
    · rw [if_pos hh] at ih
      have hno : ∀ q, q < m → (decide (ν 3 q = ν 3 p) && decide (ν 4 q = ν 4 p)) = false := fun q hq => fst1_no (p := fun q => decide (ν 3 q = ν 3 p) && decide (ν 4 q = ν 4 p)) m 0 q (by omega) (by rw [hh]; exact hq)
      unfold l107
      by_cases h1 : ν 3 m = ν 3 p
      · rw [if_pos h1, ih]
        by_cases h2 : ν 4 m = ν 4 p
        · rw [if_pos h2, fst1_uniq (r := m) (by omega) (by omega) (by rw [decide_eq_true h1, decide_eq_true h2]; rfl) (fun q _ hq => hno q hq), if_neg (by omega)]; rfl
        · rw [if_neg h2, if_pos]; · rfl
          apply Nat.le_antisymm
          · have := fst1_le (p := fun q => decide (ν 3 q = ν 3 p) && decide (ν 4 q = ν 4 p)) (m + 1) 0; omega
          · apply Nat.le_of_not_lt
            intro hlt
            have hy := fst1_yes (p := fun q => decide (ν 3 q = ν 3 p) && decide (ν 4 q = ν 4 p)) (m + 1) 0 (by omega)
            generalize fst1 (fun q => decide (ν 3 q = ν 3 p) && decide (ν 4 q = ν 4 p)) 0 (m + 1) = z at hlt hy
            by_cases hz : z = m
            · subst hz; simp [h2] at hy
            · have := hno z (by omega)
              rw [this] at hy; cases hy
      · rw [if_neg h1, ih, if_pos]
        apply Nat.le_antisymm
        · have := fst1_le (p := fun q => decide (ν 3 q = ν 3 p) && decide (ν 4 q = ν 4 p)) (m + 1) 0; omega
        · apply Nat.le_of_not_lt
          intro hlt
          have hy := fst1_yes (p := fun q => decide (ν 3 q = ν 3 p) && decide (ν 4 q = ν 4 p)) (m + 1) 0 (by omega)
          generalize fst1 (fun q => decide (ν 3 q = ν 3 p) && decide (ν 4 q = ν 4 p)) 0 (m + 1) = z at hlt hy
          by_cases hz : z = m
          · subst hz; simp [h1] at hy
          · have := hno z (by omega)
            rw [this] at hy; cases hy
    · rw [if_neg hh] at ih
      have hlt : fst1 (fun q => decide (ν 3 q = ν 3 p) && decide (ν 4 q = ν 4 p)) 0 m < m := by omega
      have hy := fst1_yes (p := fun q => decide (ν 3 q = ν 3 p) && decide (ν 4 q = ν 4 p)) m 0 (by omega)
      have e : fst1 (fun q => decide (ν 3 q = ν 3 p) && decide (ν 4 q = ν 4 p)) 0 (m + 1) = fst1 (fun q => decide (ν 3 q = ν 3 p) && decide (ν 4 q = ν 4 p)) 0 m := fst1_uniq (by omega) (by omega) hy (fun q h1 h2 => fst1_no m 0 q h1 h2)
      rw [e, if_neg (by omega)]
      unfold l107
      by_cases h1 : ν 3 m = ν 3 p
      · rw [if_pos h1, ih]
        by_cases h2 : ν 4 m = ν 4 p
        · rw [if_pos h2]; rfl
        · rw [if_neg h2]; rfl
      · rw [if_neg h1, ih]
end
section
/-! ===== L3: the model's values without a window ===== -/
theorem mV_small {A T P p f : Nat} {w mk : Int32} {μ ν : Mm} (hL : Led A T P μ ν) (hA : A ≤ 20) (hp : p < P) (hf : f = 97 ∨ f = 102 ∨ f = 113) : f_X8_valueBy (nI p) (nI f) w mk ν = some (V (cut ν p) (nI f) w mk p, ν) := by
  have hP := hL.1
  obtain ⟨y1, y2, y3, y4, a, b, c, m, z1, z2, z3, z4, z5, z6, z7, z8, z9⟩ := hL.2.2.2.1 p hp
  have X0 : ∀ q, q ≤ p → cut ν p 0 q = ν 3 q ∧ cut ν p 3 q = ν 6 q := fun q hq => ⟨by rw [cut_le hq]; rfl, by rw [cut_le hq]; rfl⟩
  have X1 : ∀ q, q ≤ p → cut ν p 1 q = ν 4 q := fun q hq => by rw [cut_le hq]; rfl
  have cp : ∀ {α : Type} (k : Option α), chk (nI p) 200 k = k := fun k => chk_nI (by omega) (by omega)
  have v97 : V (cut ν p) (nI 97) w mk p = cut ν p 3 p - cut ν p 5 p := by unfold V; rw [if_pos (by decide)]
  have v102 : V (cut ν p) (nI 102) w mk p = (if fst1 (sameP (cut ν p) p) 0 p = p then 1 else 0) := by unfold V; rw [if_neg (by decide), if_neg (by decide), if_neg (by decide), if_pos (by decide)]
  have v113 : V (cut ν p) (nI 113) w mk p = lastM (cut ν p) p p := by unfold V; rw [if_neg (by decide), if_neg (by decide), if_neg (by decide), if_neg (by decide), if_neg (by decide), if_neg (by decide), if_neg (by decide), if_neg (by decide), if_neg (by decide), if_pos (by decide)]
  unfold f_X8_valueBy
  rcases hf with rfl | rfl | rfl
  · rw [if_neg (by decide), if_neg (by decide), if_neg (by decide), if_pos (by decide), v97, cp, cp, w_nat (show p < 2147483648 by omega), z6, chk_nI (show a < 20 by omega) (by omega), w_nat (show a < 2147483648 by omega), (X0 p (Nat.le_refl p)).2, cut_le (Nat.le_refl p)]
    show some (ν 6 p - ν 2 a, ν) = some (ν 6 p - ν 2 (ν 3 p).toNatClampNeg, ν)
    rw [z6, w_nat (by omega)]
  · rw [if_neg (by decide), if_neg (by decide), if_neg (by decide), if_neg (by decide), if_pos (by decide), m107_eq (by omega)]
    rw [if_pos (show nI 102 = 102 from rfl), l107_2]
    rw [v102]
    have e : fst1 (sameP (cut ν p) p) 0 p = fst1 (fun q => decide (ν 3 q = ν 3 p) && decide (ν 4 q = ν 4 p)) 0 p := by
      apply fst1_congr
      intro q _ hq
      unfold sameP
      rw [(X0 q (by omega)).1, (X0 p (Nat.le_refl p)).1, X1 q (by omega), X1 p (Nat.le_refl p)]
    rw [e]
    by_cases h : fst1 (fun q => decide (ν 3 q = ν 3 p) && decide (ν 4 q = ν 4 p)) 0 p = p
    · rw [if_pos h, if_neg (by decide)]
    · rw [if_neg h, if_pos rfl]
  · rw [if_neg (by decide), if_neg (by decide), if_neg (by decide), if_neg (by decide), if_neg (by decide), if_pos (by decide), m107_eq (by omega)]
    rw [if_neg (show ¬ nI 113 = 102 by decide), v113]
    rcases l107_1 (cut ν p) X0 p (Nat.le_refl p) (by omega) with ⟨h1, h2⟩ | ⟨q, hq, h1, h2⟩
    · rw [h1, h2, if_neg (by decide)]
    · rw [h1, h2, if_pos (nn_nI (by omega)), cp, chk_nI (show q < 200 by omega) (by omega), w_nat (show p < 2147483648 by omega), w_nat (show q < 2147483648 by omega)]
end
section
/-! ===== L3: the model's gathered values ===== -/
theorem isIn_lo {A T P p q : Nat} {w : Int32} {μ ν : Mm} (hL : Led A T P μ ν) (hp : p < P) (hq : q ≤ p) : f_X8_isIn (nI q) w (ν 6 p) ν = some (b2 (decide (lo (cut ν p) w p ≤ q))) := by
  have hP := hL.1
  rw [isIn_eq (by omega), lo_in hL hp hq]
def ga115 (ν : Mm) (p l q : Nat) (s : Int32 × Int32) : Int32 × Int32 := if l ≤ q then (if ν 3 q = ν 3 p then (s.1 + ν 5 q, sb s.2 ((ν 1 (ν 4 q).toNatClampNeg).toNatClampNeg - 97) true) else s) else s
theorem gat115 {A T P p : Nat} {w : Int32} {μ ν : Mm} (hA : Acc A μ ν) (hL : Led A T P μ ν) (hp : p < P) : f_X8_gathered (nI p) 115 w ν = some (fo (ga115 ν p (lo (cut ν p) w p)) 0 (p + 1) (0, 0)).1 := by
  have hP := hL.1
  obtain ⟨a1, a2, a3, a4, a5, a6⟩ := hA
  unfold f_X8_gathered
  refine up_loop' (fun n x (s : Int32 × Int32) => f_X8_gathered_L9 (nI p) 115 w ν n s.1 s.2 x) (p + 1) (fun s => some s.1) (ga115 ν p (lo (cut ν p) w p)) ?_ ?_ (p + 1) fuel 0 (0, 0) (by omega) (by unfold fuel; omega)
  · intro n s
    show f_X8_gathered_L9 (nI p) 115 w ν (n + 1) s.1 s.2 (nI (p + 1)) = _
    unfold f_X8_gathered_L9
    rw [if_pos (by rw [w_lt (by omega) (by omega)]; omega)]
  · intro n q s hq
    show f_X8_gathered_L9 (nI p) 115 w ν (n + 1) s.1 s.2 (nI q) = f_X8_gathered_L9 (nI p) 115 w ν n (ga115 ν p (lo (cut ν p) w p) q s).1 (ga115 ν p (lo (cut ν p) w p) q s).2 (nI (q + 1))
    conv => lhs; unfold f_X8_gathered_L9
    obtain ⟨_, _, _, _, a, b, c, m, z1, z2, z3, z4, z5, z6, z7, z8, z9⟩ := hL.2.2.2.1 q (by omega)
    obtain ⟨_, _, cc, u1, u2, u3⟩ := a6 b z2
    have cp : ∀ {α : Type} (k : Option α), chk (nI p) 200 k = k := fun k => chk_nI (by omega) (by omega)
    have cq : ∀ {α : Type} (k : Option α), chk (nI q) 200 k = k := fun k => chk_nI (by omega) (by omega)
    rw [if_neg (by rw [w_lt (by omega) (by omega)]; omega), cp, w_nat (show p < 2147483648 by omega), isIn_lo hL hp (by omega), Option.bind_some]
    unfold ga115
    by_cases hl : lo (cut ν p) w p ≤ q
    · rw [decide_eq_true hl, b2_t, if_neg (by decide), if_pos hl, if_neg (show ¬ (115 : Int32) = 105 by decide)]
      unfold f_X8_gathered_J72
      rw [cq, cp, w_nat (show q < 2147483648 by omega), w_nat (show p < 2147483648 by omega)]
      by_cases h3 : ν 3 q = ν 3 p
      · rw [if_pos h3, if_pos h3, if_neg (show ¬ (115 : Int32) = 114 by decide), cq, z7, chk_nI (show b < 20 by omega) (by omega), if_neg (show ¬ (115 : Int32) = 110 by decide), w_nat (show b < 2147483648 by omega), u3, show nI cc - 97 = nI (cc - 97) from w_sub (b := 97) u1, w_nat (show cc < 2147483648 by omega)]
        unfold f_X8_gathered_J133
        rw [if_pos rfl]
        rw [cq, w_nat (show q < 2147483648 by omega)]
        unfold f_X8_gathered_J151
        rw [if_neg (show ¬ (115 : Int32) = 109 by decide)]
        unfold f_X8_gathered_J171
        rw [if_neg (show ¬ (115 : Int32) = 108 by decide)]
        unfold f_X8_gathered_J206
        rw [if_neg (show ¬ (115 : Int32) = 114 by decide), if_neg (show ¬ (115 : Int32) = 99 by decide), with1, Option.bind_some, w_succ]
      · rw [if_neg h3, if_neg h3, w_succ]
    · rw [decide_eq_false hl, b2_f, if_pos rfl, if_neg hl, w_succ]
def ga110 (ν : Mm) (p l q : Nat) (s : Int32 × Int32) : Int32 × Int32 := if l ≤ q then (if ν 3 q = ν 3 p then (s.1 + 1, sb s.2 ((ν 1 (ν 4 q).toNatClampNeg).toNatClampNeg - 97) true) else s) else s
theorem gat110 {A T P p : Nat} {w : Int32} {μ ν : Mm} (hA : Acc A μ ν) (hL : Led A T P μ ν) (hp : p < P) : f_X8_gathered (nI p) 110 w ν = some (fo (ga110 ν p (lo (cut ν p) w p)) 0 (p + 1) (0, 0)).1 := by
  have hP := hL.1
  obtain ⟨a1, a2, a3, a4, a5, a6⟩ := hA
  unfold f_X8_gathered
  refine up_loop' (fun n x (s : Int32 × Int32) => f_X8_gathered_L9 (nI p) 110 w ν n s.1 s.2 x) (p + 1) (fun s => some s.1) (ga110 ν p (lo (cut ν p) w p)) ?_ ?_ (p + 1) fuel 0 (0, 0) (by omega) (by unfold fuel; omega)
  · intro n s
    show f_X8_gathered_L9 (nI p) 110 w ν (n + 1) s.1 s.2 (nI (p + 1)) = _
    unfold f_X8_gathered_L9
    rw [if_pos (by rw [w_lt (by omega) (by omega)]; omega)]
  · intro n q s hq
    show f_X8_gathered_L9 (nI p) 110 w ν (n + 1) s.1 s.2 (nI q) = f_X8_gathered_L9 (nI p) 110 w ν n (ga110 ν p (lo (cut ν p) w p) q s).1 (ga110 ν p (lo (cut ν p) w p) q s).2 (nI (q + 1))
    conv => lhs; unfold f_X8_gathered_L9
    obtain ⟨_, _, _, _, a, b, c, m, z1, z2, z3, z4, z5, z6, z7, z8, z9⟩ := hL.2.2.2.1 q (by omega)
    obtain ⟨_, _, cc, u1, u2, u3⟩ := a6 b z2
    have cp : ∀ {α : Type} (k : Option α), chk (nI p) 200 k = k := fun k => chk_nI (by omega) (by omega)
    have cq : ∀ {α : Type} (k : Option α), chk (nI q) 200 k = k := fun k => chk_nI (by omega) (by omega)
    rw [if_neg (by rw [w_lt (by omega) (by omega)]; omega), cp, w_nat (show p < 2147483648 by omega), isIn_lo hL hp (by omega), Option.bind_some]
    unfold ga110
    by_cases hl : lo (cut ν p) w p ≤ q
    · rw [decide_eq_true hl, b2_t, if_neg (by decide), if_pos hl, if_neg (show ¬ (110 : Int32) = 105 by decide)]
      unfold f_X8_gathered_J72
      rw [cq, cp, w_nat (show q < 2147483648 by omega), w_nat (show p < 2147483648 by omega)]
      by_cases h3 : ν 3 q = ν 3 p
      · rw [if_pos h3, if_pos h3, if_neg (show ¬ (110 : Int32) = 114 by decide), cq, z7, chk_nI (show b < 20 by omega) (by omega), if_pos (show (110 : Int32) = 110 from rfl), w_nat (show b < 2147483648 by omega), u3, show nI cc - 97 = nI (cc - 97) from w_sub (b := 97) u1, w_nat (show cc < 2147483648 by omega)]
        unfold f_X8_gathered_J133
        rw [if_neg (show ¬ (110 : Int32) = 115 by decide)]
        skip
        unfold f_X8_gathered_J151
        rw [if_neg (show ¬ (110 : Int32) = 109 by decide)]
        unfold f_X8_gathered_J171
        rw [if_neg (show ¬ (110 : Int32) = 108 by decide)]
        unfold f_X8_gathered_J206
        rw [if_neg (show ¬ (110 : Int32) = 114 by decide), if_neg (show ¬ (110 : Int32) = 99 by decide), with1, Option.bind_some, w_succ]
      · rw [if_neg h3, if_neg h3, w_succ]
    · rw [decide_eq_false hl, b2_f, if_pos rfl, if_neg hl, w_succ]
def ga109 (ν : Mm) (p l q : Nat) (s : Int32 × Int32) : Int32 × Int32 := if l ≤ q then (if ν 3 q = ν 3 p then ((if s.1 < ν 5 q then ν 5 q else s.1), sb s.2 ((ν 1 (ν 4 q).toNatClampNeg).toNatClampNeg - 97) true) else s) else s
theorem gat109 {A T P p : Nat} {w : Int32} {μ ν : Mm} (hA : Acc A μ ν) (hL : Led A T P μ ν) (hp : p < P) : f_X8_gathered (nI p) 109 w ν = some (fo (ga109 ν p (lo (cut ν p) w p)) 0 (p + 1) (0, 0)).1 := by
  have hP := hL.1
  obtain ⟨a1, a2, a3, a4, a5, a6⟩ := hA
  unfold f_X8_gathered
  refine up_loop' (fun n x (s : Int32 × Int32) => f_X8_gathered_L9 (nI p) 109 w ν n s.1 s.2 x) (p + 1) (fun s => some s.1) (ga109 ν p (lo (cut ν p) w p)) ?_ ?_ (p + 1) fuel 0 (0, 0) (by omega) (by unfold fuel; omega)
  · intro n s
    show f_X8_gathered_L9 (nI p) 109 w ν (n + 1) s.1 s.2 (nI (p + 1)) = _
    unfold f_X8_gathered_L9
    rw [if_pos (by rw [w_lt (by omega) (by omega)]; omega)]
  · intro n q s hq
    show f_X8_gathered_L9 (nI p) 109 w ν (n + 1) s.1 s.2 (nI q) = f_X8_gathered_L9 (nI p) 109 w ν n (ga109 ν p (lo (cut ν p) w p) q s).1 (ga109 ν p (lo (cut ν p) w p) q s).2 (nI (q + 1))
    conv => lhs; unfold f_X8_gathered_L9
    obtain ⟨_, _, _, _, a, b, c, m, z1, z2, z3, z4, z5, z6, z7, z8, z9⟩ := hL.2.2.2.1 q (by omega)
    obtain ⟨_, _, cc, u1, u2, u3⟩ := a6 b z2
    have cp : ∀ {α : Type} (k : Option α), chk (nI p) 200 k = k := fun k => chk_nI (by omega) (by omega)
    have cq : ∀ {α : Type} (k : Option α), chk (nI q) 200 k = k := fun k => chk_nI (by omega) (by omega)
    rw [if_neg (by rw [w_lt (by omega) (by omega)]; omega), cp, w_nat (show p < 2147483648 by omega), isIn_lo hL hp (by omega), Option.bind_some]
    unfold ga109
    by_cases hl : lo (cut ν p) w p ≤ q
    · rw [decide_eq_true hl, b2_t, if_neg (by decide), if_pos hl, if_neg (show ¬ (109 : Int32) = 105 by decide)]
      unfold f_X8_gathered_J72
      rw [cq, cp, w_nat (show q < 2147483648 by omega), w_nat (show p < 2147483648 by omega)]
      by_cases h3 : ν 3 q = ν 3 p
      · rw [if_pos h3, if_pos h3, if_neg (show ¬ (109 : Int32) = 114 by decide), cq, z7, chk_nI (show b < 20 by omega) (by omega), if_neg (show ¬ (109 : Int32) = 110 by decide), w_nat (show b < 2147483648 by omega), u3, show nI cc - 97 = nI (cc - 97) from w_sub (b := 97) u1, w_nat (show cc < 2147483648 by omega)]
        unfold f_X8_gathered_J133
        rw [if_neg (show ¬ (109 : Int32) = 115 by decide)]
        skip
        unfold f_X8_gathered_J151
        rw [if_pos (show (109 : Int32) = 109 from rfl), cq, w_nat (show q < 2147483648 by omega)]
        unfold f_X8_gathered_J171
        rw [if_neg (show ¬ (109 : Int32) = 108 by decide)]
        unfold f_X8_gathered_J206
        rw [if_neg (show ¬ (109 : Int32) = 114 by decide), if_neg (show ¬ (109 : Int32) = 99 by decide), with1, Option.bind_some, w_succ]
      · rw [if_neg h3, if_neg h3, w_succ]
    · rw [decide_eq_false hl, b2_f, if_pos rfl, if_neg hl, w_succ]
theorem fo_fst {g : Nat → Int32 × Int32 → Int32 × Int32} {h : Nat → Int32 → Int32} {l P : Nat} (hl : l ≤ P) (h1 : ∀ q, q < l → ∀ s, g q s = s) (h2 : ∀ q, l ≤ q → q < P → ∀ s, (g q s).1 = h q s.1) : (fo g 0 P (0, 0)).1 = fo h l (P - l) 0 := by
  have e : P = l + (P - l) := by omega
  conv => lhs; rw [e]
  rw [fo_add, fo_id l 0 _ (fun q _ hq s => h1 q (by omega) s), Nat.zero_add]
  exact fo_rel (g := g) (h := h) (fun _ a b => a.1 = b) (P - l) l (0, 0) 0 rfl (fun q a b q1 q2 hab => by rw [h2 q q1 (by omega), hab])
theorem mV115 {A T P p : Nat} {w mk : Int32} {μ ν : Mm} (hA : Acc A μ ν) (hL : Led A T P μ ν) (hT : T ≤ 800000) (hp : p < P) (hw : win w) : f_X8_valueBy (nI p) (nI 115) w mk ν = some (V (cut ν p) (nI 115) w mk p, ν) := by
  have v : V (cut ν p) (nI 115) w mk p = fo (sumS (cut ν p) 0 (cut ν p 0 p)) (lo (cut ν p) w p) (p + 1 - lo (cut ν p) w p) 0 := by unfold V; rw [if_neg (by decide), if_neg (by decide), if_neg (by decide), if_neg (by decide), if_neg (by decide), if_neg (by decide), if_neg (by decide), if_neg (by decide), if_neg (by decide), if_neg (by decide), if_neg (by decide), if_pos (by decide)]
  have hl := (lo_le hT hL hp hw).1
  unfold f_X8_valueBy
  rw [if_neg (by decide), if_neg (by decide), if_neg (by decide), if_neg (by decide), if_neg (by decide), if_neg (by decide), v, show nI 115 = (115 : Int32) from rfl, gat115 hA hL hp, Option.bind_some]
  rw [fo_fst (h := sumS (cut ν p) 0 (cut ν p 0 p)) (show lo (cut ν p) w p ≤ p + 1 by omega)]
  · intro q hq s
    unfold ga115
    rw [if_neg (by omega)]
  · intro q h1 h2 s
    unfold ga115 sumS
    rw [if_pos h1, cut_le (show q ≤ p by omega), cut_le (Nat.le_refl p), cut_le (show q ≤ p by omega)]
    show (if ν 3 q = ν 3 p then _ else _ : Int32 × Int32).1 = if ν 3 q = ν 3 p then _ else _
    by_cases h3 : ν 3 q = ν 3 p
    · rw [if_pos h3, if_pos h3]
      rfl
    · rw [if_neg h3, if_neg h3]
theorem mV110 {A T P p : Nat} {w mk : Int32} {μ ν : Mm} (hA : Acc A μ ν) (hL : Led A T P μ ν) (hT : T ≤ 800000) (hp : p < P) (hw : win w) : f_X8_valueBy (nI p) (nI 110) w mk ν = some (V (cut ν p) (nI 110) w mk p, ν) := by
  have v : V (cut ν p) (nI 110) w mk p = fo (cntS (cut ν p) (cut ν p 0 p) 1 9999) (lo (cut ν p) w p) (p + 1 - lo (cut ν p) w p) 0 := by unfold V; rw [if_neg (by decide), if_neg (by decide), if_neg (by decide), if_neg (by decide), if_neg (by decide), if_neg (by decide), if_neg (by decide), if_neg (by decide), if_pos (by decide)]
  have hl := (lo_le hT hL hp hw).1
  unfold f_X8_valueBy
  rw [if_neg (by decide), if_neg (by decide), if_neg (by decide), if_neg (by decide), if_neg (by decide), if_neg (by decide), v, show nI 110 = (110 : Int32) from rfl, gat110 hA hL hp, Option.bind_some]
  rw [fo_fst (h := cntS (cut ν p) (cut ν p 0 p) 1 9999) (show lo (cut ν p) w p ≤ p + 1 by omega)]
  · intro q hq s
    unfold ga110
    rw [if_neg (by omega)]
  · intro q h1 h2 s
    unfold ga110 cntS
    rw [if_pos h1, cut_le (show q ≤ p by omega), cut_le (Nat.le_refl p), cut_le (show q ≤ p by omega)]
    show (if ν 3 q = ν 3 p then _ else _ : Int32 × Int32).1 = if ν 3 q = ν 3 p then _ else _
    by_cases h3 : ν 3 q = ν 3 p
    · obtain ⟨_, _, _, _, a, b, c, m, z1, z2, z3, z4, z5, z6, z7, z8, z9⟩ := hL.2.2.2.1 q (by omega)
      rw [if_pos h3, if_pos h3]
      show s.1 + 1 = (if ν 5 q < 1 then s.1 else if (9999 : Int32) < ν 5 q then s.1 else s.1 + 1)
      rw [z8, if_neg (show ¬ nI c < 1 from by rw [show (1 : Int32) = nI 1 from rfl, w_lt (by omega) (by omega)]; omega), if_neg (show ¬ (9999 : Int32) < nI c from by rw [show (9999 : Int32) = nI 9999 from rfl, w_lt (by omega) (by omega)]; omega)]
    · rw [if_neg h3, if_neg h3]
theorem mV109 {A T P p : Nat} {w mk : Int32} {μ ν : Mm} (hA : Acc A μ ν) (hL : Led A T P μ ν) (hT : T ≤ 800000) (hp : p < P) (hw : win w) : f_X8_valueBy (nI p) (nI 109) w mk ν = some (V (cut ν p) (nI 109) w mk p, ν) := by
  have v : V (cut ν p) (nI 109) w mk p = fo (maxS (cut ν p) (cut ν p 0 p)) (lo (cut ν p) w p) (p + 1 - lo (cut ν p) w p) 0 := by unfold V; rw [if_neg (by decide), if_neg (by decide), if_neg (by decide), if_neg (by decide), if_neg (by decide), if_neg (by decide), if_neg (by decide), if_pos (by decide)]
  have hl := (lo_le hT hL hp hw).1
  unfold f_X8_valueBy
  rw [if_neg (by decide), if_neg (by decide), if_neg (by decide), if_neg (by decide), if_neg (by decide), if_neg (by decide), v, show nI 109 = (109 : Int32) from rfl, gat109 hA hL hp, Option.bind_some]
  rw [fo_fst (h := maxS (cut ν p) (cut ν p 0 p)) (show lo (cut ν p) w p ≤ p + 1 by omega)]
  · intro q hq s
    unfold ga109
    rw [if_neg (by omega)]
  · intro q h1 h2 s
    unfold ga109 maxS
    rw [if_pos h1, cut_le (show q ≤ p by omega), cut_le (Nat.le_refl p), cut_le (show q ≤ p by omega)]
    show (if ν 3 q = ν 3 p then _ else _ : Int32 × Int32).1 = if ν 3 q = ν 3 p then _ else _
    by_cases h3 : ν 3 q = ν 3 p
    · rw [if_pos h3, if_pos h3]
      show (if s.1 < ν 5 q then ν 5 q else s.1) = (if ν 5 q ≤ s.1 then s.1 else ν 5 q)
      by_cases h4 : ν 5 q ≤ s.1
      · rw [if_pos h4, if_neg (by rw [lt_I]; rw [le_I] at h4; omega)]
      · rw [if_neg h4, if_pos (by rw [lt_I]; rw [le_I] at h4; omega)]
    · rw [if_neg h3, if_neg h3]
end
section
/-! ===== L3: walks over links ===== -/
/-- a walk of exactly k links from s to b -/
def Wk (E : Nat → Nat → Prop) (s : Nat) : Nat → Nat → Prop
  | 0, b => b = s
  | k + 1, b => ∃ a, Wk E s k a ∧ E a b
def Lv (E : Nat → Nat → Prop) (s k b : Nat) : Prop := ∃ j, j ≤ k ∧ Wk E s j b
/-- d is the least number of links -/
def Mn (E : Nat → Nat → Prop) (s d b : Nat) : Prop := Wk E s d b ∧ ∀ j, j < d → ¬ Wk E s j b
theorem Lv_mono {E : Nat → Nat → Prop} {s k m b : Nat} (h : k ≤ m) (hL : Lv E s k b) : Lv E s m b := by
  obtain ⟨j, h1, h2⟩ := hL
  exact ⟨j, by omega, h2⟩
theorem Lv_0 {E : Nat → Nat → Prop} {s b : Nat} : Lv E s 0 b ↔ b = s := by
  constructor
  · rintro ⟨j, h1, h2⟩
    have : j = 0 := by omega
    subst this; exact h2
  · intro h; exact ⟨0, Nat.le_refl 0, h⟩
theorem Lv_succ {E : Nat → Nat → Prop} {s k b : Nat} : Lv E s (k + 1) b ↔ Lv E s k b ∨ ∃ a, Lv E s k a ∧ E a b := by
  constructor
  · rintro ⟨j, h1, h2⟩
    rcases Nat.lt_or_ge k j with h3 | h3
    · have : j = k + 1 := by omega
      subst this
      obtain ⟨a, h4, h5⟩ := h2
      exact Or.inr ⟨a, ⟨k, Nat.le_refl k, h4⟩, h5⟩
    · exact Or.inl ⟨j, h3, h2⟩
  · rintro (h | ⟨a, ⟨j, h1, h2⟩, h3⟩)
    · exact Lv_mono (by omega) h
    · exact ⟨j + 1, by omega, a, h2, h3⟩
theorem Wk_lt {E : Nat → Nat → Prop} {A s : Nat} (hE : ∀ a b, E a b → b < A) (hs : s < A) : ∀ (k b : Nat), Wk E s k b → b < A
  | 0, b, h => by rw [show b = s from h]; exact hs
  | k + 1, b, ⟨a, _, h⟩ => hE a b h
theorem Lv_stop {E : Nat → Nat → Prop} {s k : Nat} (h : ∀ b, Lv E s (k + 1) b → Lv E s k b) : ∀ (m b : Nat), Lv E s m b → Lv E s k b
  | 0, b, hb => Lv_mono (Nat.zero_le k) hb
  | m + 1, b, hb => by
    rcases Lv_succ.mp hb with h1 | ⟨a, h1, h2⟩
    · exact Lv_stop h m b h1
    · exact h b (Lv_succ.mpr (Or.inr ⟨a, Lv_stop h m a h1, h2⟩))
noncomputable def lvB (E : Nat → Nat → Prop) (s k b : Nat) : Bool := @decide (Lv E s k b) (Classical.propDecidable _)
theorem lvB_t {E : Nat → Nat → Prop} {s k b : Nat} : lvB E s k b = true ↔ Lv E s k b := @decide_eq_true_iff _ (Classical.propDecidable _)
theorem Lv_grow {E : Nat → Nat → Prop} {A s : Nat} (hE : ∀ a b, E a b → b < A) (hs : s < A) : ∀ k, (∃ j, j < k ∧ ∀ b, Lv E s (j + 1) b → Lv E s j b) ∨ k + 1 ≤ fb_ct (lvB E s k) A
  | 0 => Or.inr (fb_ct_pos.mpr ⟨s, hs, lvB_t.mpr (Lv_0.mpr rfl)⟩)
  | k + 1 => by
    rcases Lv_grow hE hs k with ⟨j, h1, h2⟩ | h
    · exact Or.inl ⟨j, by omega, h2⟩
    · rcases Classical.em (∀ b, Lv E s (k + 1) b → Lv E s k b) with hs | hs
      · exact Or.inl ⟨k, by omega, hs⟩
      · right
        obtain ⟨b, hb⟩ := Classical.not_forall.mp hs
        have hb1 : Lv E s (k + 1) b := Classical.byContradiction (fun h => hb (fun h2 => absurd h2 h))
        have hb2 : ¬ Lv E s k b := fun h => hb (fun _ => h)
        have hbA : b < A := by
          obtain ⟨j, _, hw⟩ := hb1
          exact Wk_lt hE (by assumption) j b hw
        have hbf : lvB E s k b = false := by
          cases hc : lvB E s k b
          · rfl
          · exact absurd (lvB_t.mp hc) hb2
        have u := fb_ct_upd (lvB E s k) true hbA
        rw [hbf] at u
        have v : fb_ct (fun x => if x = b then true else lvB E s k x) A ≤ fb_ct (lvB E s (k + 1)) A := by
          apply fb_ct_sub
          intro x hx hx2
          by_cases hxb : x = b
          · rw [hxb]; exact lvB_t.mpr hb1
          · have hx3 : (if x = b then true else lvB E s k x) = true := hx2
            rw [if_neg hxb] at hx3
            exact lvB_t.mpr (Lv_mono (by omega) (lvB_t.mp hx3))
        have u2 : fb_ct (fun x => if x = b then true else lvB E s k x) A + 0 = fb_ct (lvB E s k) A + 1 := u
        omega
theorem Lv_fin {E : Nat → Nat → Prop} {A s m b : Nat} (hE : ∀ a b, E a b → b < A) (hs : s < A) (h : Lv E s m b) : Lv E s (A - 1) b := by
  rcases Lv_grow hE hs A with ⟨j, h1, h2⟩ | h2
  · exact Lv_mono (by omega) (Lv_stop h2 m b h)
  · have := fb_ct_le (lvB E s A) A
    omega
theorem Mn_of {E : Nat → Nat → Prop} {s : Nat} : ∀ (k b : Nat), Lv E s k b → ∃ d, d ≤ k ∧ Mn E s d b
  | 0, b, h => ⟨0, Nat.le_refl 0, Lv_0.mp h, fun j hj => by omega⟩
  | k + 1, b, h => by
    rcases Classical.em (Lv E s k b) with h1 | h1
    · obtain ⟨d, h2, h3⟩ := Mn_of k b h1
      exact ⟨d, by omega, h3⟩
    · obtain ⟨j, h2, h3⟩ := h
      refine ⟨j, h2, h3, fun i hi hw => h1 ⟨i, by omega, hw⟩⟩
theorem Mn_uniq {E : Nat → Nat → Prop} {s d e b : Nat} (h1 : Mn E s d b) (h2 : Mn E s e b) : d = e := by
  rcases Nat.lt_trichotomy d e with h | h | h
  · exact absurd h1.1 (h2.2 d h)
  · exact h
  · exact absurd h2.1 (h1.2 e h)
theorem Mn_lt {E : Nat → Nat → Prop} {A s d b : Nat} (hE : ∀ a b, E a b → b < A) (hs : s < A) (h : Mn E s d b) : d < A := by
  obtain ⟨j, h1, h2⟩ := Lv_fin hE hs (show Lv E s d b from ⟨d, Nat.le_refl d, h.1⟩)
  apply Nat.lt_of_not_le
  intro h3
  exact h.2 j (by omega) h2
/-- what the model's table says of b -/
def Far (E : Nat → Nat → Prop) (A s b : Nat) (v : Int32) : Prop := (v = 99 ∧ ∀ k, ¬ Wk E s k b) ∨ ∃ d, d < A ∧ v = nI d ∧ Mn E s d b
/-- the payments' links, up to payment M -/
def Ed (both : Bool) (W : Nat → Bool) (pa pb : Nat → Nat) (M a b : Nat) : Prop := ∃ x, x < M ∧ W x = true ∧ ((pa x = a ∧ pb x = b) ∨ (both = true ∧ pb x = a ∧ pa x = b))
/-! ===== L3: the model's table ===== -/
def rlx (n : Int32) (a b : Nat) (m : Mm) : Mm := if m 11 a = n then (if m 11 b = 99 then up2 m 11 b (n + 1) else m) else m
theorem rlx_n {n : Int32} {a b k : Nat} {m : Mm} (h : k ≠ 11) : rlx n a b m k = m k := by
  unfold rlx
  by_cases h1 : m 11 a = n
  · rw [if_pos h1]
    by_cases h2 : m 11 b = 99
    · rw [if_pos h2, up2_n h]
    · rw [if_neg h2]
  · rw [if_neg h1]
def Iv (E : Nat → Nat → Prop) (s A n : Nat) (S : Nat → Nat → Prop) (fr : Nat → Int32) : Prop := ∀ b, b < A → (∃ d, d ≤ n + 1 ∧ fr b = nI d ∧ Mn E s d b) ∨ (fr b = 99 ∧ ¬ Lv E s n b ∧ ∀ a, S a b → ¬ Lv E s n a)
theorem Iv_w {E S S' : Nat → Nat → Prop} {s A n : Nat} {fr : Nat → Int32} (h : Iv E s A n S fr) (hs : ∀ a b, S' a b → S a b) : Iv E s A n S' fr := by
  intro b hb
  rcases h b hb with h1 | ⟨h1, h2, h3⟩
  · exact Or.inl h1
  · exact Or.inr ⟨h1, h2, fun a ha => h3 a (hs a b ha)⟩
theorem e99 : (99 : Int32) = nI 99 := rfl
theorem rlx_iv {E S : Nat → Nat → Prop} {s A n a b : Nat} {m : Mm} (hn : n + 1 < 99) (ha : a < A) (hb : b < A) (he : E a b) (h : Iv E s A n S (m 11)) : Iv E s A n (fun x y => S x y ∨ (x = a ∧ y = b)) ((rlx (nI n) a b m) 11) := by
  intro y hy
  unfold rlx
  by_cases c1 : m 11 a = nI n
  · rw [if_pos c1]
    have hMa : Mn E s n a := by
      rcases h a ha with ⟨d, h1, h2, h3⟩ | ⟨h1, _⟩
      · have : d = n := (w_eq (by omega) (by omega)).mp (h2.symm.trans c1)
        rw [← this]; exact h3
      · rw [c1, e99, w_eq (by omega) (by omega)] at h1; omega
    by_cases c2 : m 11 b = 99
    · rw [if_pos c2, up2_s]
      unfold upd
      by_cases hyb : y = b
      · rw [if_pos hyb]
        left
        refine ⟨n + 1, Nat.le_refl _, w_succ n, ?_⟩
        rw [hyb]
        rcases h b hb with ⟨d, h1, h2, h3⟩ | ⟨h1, h2, h3⟩
        · rw [h2, e99, w_eq (by omega) (by omega)] at c2; omega
        · exact ⟨⟨a, hMa.1, he⟩, fun j hj hw => h2 ⟨j, by omega, hw⟩⟩
      · rw [if_neg hyb]
        rcases h y hy with h1 | ⟨h1, h2, h3⟩
        · exact Or.inl h1
        · exact Or.inr ⟨h1, h2, fun x hx => by
            rcases hx with hx | ⟨_, hx⟩
            · exact h3 x hx
            · exact absurd hx hyb⟩
    · rw [if_neg c2]
      rcases h y hy with h1 | ⟨h1, h2, h3⟩
      · exact Or.inl h1
      · exact Or.inr ⟨h1, h2, fun x hx => by
          rcases hx with hx | ⟨_, hx⟩
          · exact h3 x hx
          · rw [hx] at h1; exact absurd h1 c2⟩
  · rw [if_neg c1]
    rcases h y hy with h1 | ⟨h1, h2, h3⟩
    · exact Or.inl h1
    · refine Or.inr ⟨h1, h2, fun x hx => ?_⟩
      rcases hx with hx | ⟨hx, hxy⟩
      · exact h3 x hx
      · subst hx; subst hxy
        intro hL
        rcases h x ha with ⟨d, g1, g2, g3⟩ | ⟨g1, g2, g3⟩
        · have hdn : d ≠ n := fun e => c1 (by rw [g2, e])
          obtain ⟨j, hj, hw⟩ := hL
          rcases Nat.lt_or_ge n d with h5 | h5
          · exact g3.2 j (by omega) hw
          · exact h2 ⟨d + 1, by omega, x, g3.1, he⟩
        · exact g2 hL
def rstep (both : Bool) (W : Nat → Bool) (pa pb : Nat → Nat) (n : Int32) (q : Nat) (m : Mm) : Mm := if W q = true then (if both = true then rlx n (pb q) (pa q) (rlx n (pa q) (pb q) m) else rlx n (pa q) (pb q) m) else m
theorem rstep_n {both : Bool} {W : Nat → Bool} {pa pb : Nat → Nat} {n : Int32} {q k : Nat} {m : Mm} (h : k ≠ 11) : rstep both W pa pb n q m k = m k := by
  unfold rstep
  by_cases h1 : W q = true
  · rw [if_pos h1]
    by_cases h2 : both = true
    · rw [if_pos h2, rlx_n h, rlx_n h]
    · rw [if_neg h2, rlx_n h]
  · rw [if_neg h1]
theorem rstep_iv {both : Bool} {W : Nat → Bool} {pa pb : Nat → Nat} {s A n M q : Nat} {m : Mm} (hn : n + 1 < 99) (hq : q < M) (ha : pa q < A) (hb : pb q < A) (h : Iv (Ed both W pa pb M) s A n (Ed both W pa pb q) (m 11)) :
    Iv (Ed both W pa pb M) s A n (Ed both W pa pb (q + 1)) ((rstep both W pa pb (nI n) q m) 11) := by
  unfold rstep
  by_cases h1 : W q = true
  · rw [if_pos h1]
    have i1 := rlx_iv (b := pb q) hn ha hb (show Ed both W pa pb M (pa q) (pb q) from ⟨q, hq, h1, Or.inl ⟨rfl, rfl⟩⟩) h
    by_cases h2 : both = true
    · rw [if_pos h2]
      have i2 := rlx_iv (b := pa q) hn hb ha (show Ed both W pa pb M (pb q) (pa q) from ⟨q, hq, h1, Or.inr ⟨h2, rfl, rfl⟩⟩) i1
      refine Iv_w i2 ?_
      rintro a b ⟨x, hx, hw, hc⟩
      by_cases hxq : x = q
      · subst hxq
        rcases hc with ⟨c1, c2⟩ | ⟨_, c1, c2⟩
        · exact Or.inl (Or.inr ⟨c1.symm, c2.symm⟩)
        · exact Or.inr ⟨c1.symm, c2.symm⟩
      · exact Or.inl (Or.inl ⟨x, by omega, hw, hc⟩)
    · rw [if_neg h2]
      refine Iv_w i1 ?_
      rintro a b ⟨x, hx, hw, hc⟩
      by_cases hxq : x = q
      · subst hxq
        rcases hc with ⟨c1, c2⟩ | ⟨c0, c1, c2⟩
        · exact Or.inr ⟨c1.symm, c2.symm⟩
        · exact absurd c0 h2
      · exact Or.inl ⟨x, by omega, hw, hc⟩
  · rw [if_neg h1]
    refine Iv_w h ?_
    rintro a b ⟨x, hx, hw, hc⟩
    by_cases hxq : x = q
    · subst hxq; exact absurd hw h1
    · exact ⟨x, by omega, hw, hc⟩
def St (E : Nat → Nat → Prop) (s A n : Nat) (fr : Nat → Int32) : Prop := ∀ b, b < A → (∃ d, d ≤ n ∧ fr b = nI d ∧ Mn E s d b) ∨ (fr b = 99 ∧ ¬ Lv E s n b)
theorem St_Iv {both : Bool} {W : Nat → Bool} {pa pb : Nat → Nat} {E : Nat → Nat → Prop} {s A n : Nat} {fr : Nat → Int32} (h : St E s A n fr) : Iv E s A n (Ed both W pa pb 0) fr := by
  intro b hb
  rcases h b hb with ⟨d, h1, h2, h3⟩ | ⟨h1, h2⟩
  · exact Or.inl ⟨d, by omega, h2, h3⟩
  · exact Or.inr ⟨h1, h2, fun a ⟨x, hx, _⟩ => by omega⟩
theorem Iv_St {E : Nat → Nat → Prop} {s A n : Nat} {fr : Nat → Int32} (h : Iv E s A n E fr) : St E s A (n + 1) fr := by
  intro b hb
  rcases h b hb with ⟨d, h1, h2, h3⟩ | ⟨h1, h2, h3⟩
  · exact Or.inl ⟨d, h1, h2, h3⟩
  · refine Or.inr ⟨h1, fun hL => ?_⟩
    rcases Lv_succ.mp hL with g | ⟨a, g1, g2⟩
    · exact h2 g
    · exact h3 a g2 g1
theorem St_Far {E : Nat → Nat → Prop} {s A : Nat} {fr : Nat → Int32} (hE : ∀ a b, E a b → b < A) (hs : s < A) (h : St E s A A fr) {b : Nat} (hb : b < A) : Far E A s b (fr b) := by
  rcases h b hb with ⟨d, h1, h2, h3⟩ | ⟨h1, h2⟩
  · exact Or.inr ⟨d, Mn_lt hE hs h3, h2, h3⟩
  · exact Or.inl ⟨h1, fun k hk => h2 (Lv_mono (by omega) (Lv_fin hE hs ⟨k, Nat.le_refl k, hk⟩))⟩
theorem isIn_cg {a w t : Int32} {m ν : Mm} (h : m 6 = ν 6) : f_X8_isIn a w t m = f_X8_isIn a w t ν := by
  unfold f_X8_isIn; rw [h]
theorem spread_ok {A M s : Nat} {x2 x3 x4 : Int32} {ν : Mm} {both : Bool} {W : Nat → Bool} {pa pb : Nat → Nat} (hA : A ≤ 20) (e3 : ν 0 3 = nI A) (hs : s < A) (hM : M ≤ 200) (hx2 : ∀ i, i ≤ M → (x2 < nI i ↔ M ≤ i))
    (hW : ∀ q, q < M → f_X8_isIn (nI q) x3 x4 ν = some (b2 (W q))) (hp : ∀ q, q < M → pa q < A ∧ pb q < A ∧ ν 3 q = nI (pa q) ∧ ν 4 q = nI (pb q)) :
    ∃ ν', f_X8_spreads (nI s) x2 x3 x4 (b2 both) ν = some ν' ∧ (∀ k, k ≠ 11 → ν' k = ν k) ∧ ∀ b, b < A → Far (Ed both W pa pb M) A s b (ν' 11 b) := by
  have hE : ∀ a b, Ed both W pa pb M a b → b < A := by
    rintro a b ⟨x, hx, _, ⟨_, c⟩ | ⟨_, _, c⟩⟩
    · rw [← c]; exact (hp x hx).2.1
    · rw [← c]; exact (hp x hx).1
  have rlxE : ∀ (n : Int32) (a b : Nat) (m : Mm) (K : Mm → Option Mm), a < A → b < A → (chk (nI a) 20 (if (m 11 (nI a).toNatClampNeg : Int32) = n then K (if m 11 b = 99 then up2 m 11 b (n + 1) else m) else K m)) = K (rlx n a b m) := by
    intro n a b m K ha hb
    rw [chk_nI (show a < 20 by omega) (by omega), w_nat (by omega)]
    unfold rlx
    by_cases h : m 11 a = n
    · rw [if_pos h, if_pos h]
    · rw [if_neg h, if_neg h]
  have L49 : ∀ (kb : Int32 → Mm → Option Mm) (kx : Mm → Option Mm) (n : Nat), n + 1 < 99 → ∀ m, (∀ k, k ≠ 11 → m k = ν k) → St (Ed both W pa pb M) s A n (m 11) → ∃ m', f_X8_spreads_L49 kb kx x2 x3 x4 (b2 both) (nI n) fuel 0 m = kx m' ∧ (∀ k, k ≠ 11 → m' k = ν k) ∧ St (Ed both W pa pb M) s A (n + 1) (m' 11) := by
    intro kb kx n hn m hm hS
    have hh := up_loopR (fun f y (m : Mm) => f_X8_spreads_L49 kb kx x2 x3 x4 (b2 both) (nI n) f y m) M kx (fun q m => (∀ k, k ≠ 11 → m k = ν k) ∧ Iv (Ed both W pa pb M) s A n (Ed both W pa pb q) (m 11)) ?_ ?_ M fuel 0 m (by omega) (by unfold fuel; omega) ⟨hm, St_Iv hS⟩
    · obtain ⟨m', h1, h2, h3⟩ := hh
      exact ⟨m', h1, h2, Iv_St h3⟩
    · intro f m _
      show f_X8_spreads_L49 kb kx x2 x3 x4 (b2 both) (nI n) (f + 1) (nI M) m = _
      unfold f_X8_spreads_L49
      rw [if_pos ((hx2 M (Nat.le_refl M)).mpr (Nat.le_refl M))]
    · intro f q m hq ⟨hI1, hI2⟩
      refine ⟨rstep both W pa pb (nI n) q m, ?_, fun k hk => by rw [rstep_n hk]; exact hI1 k hk, rstep_iv hn hq (hp q hq).1 (hp q hq).2.1 hI2⟩
      show f_X8_spreads_L49 kb kx x2 x3 x4 (b2 both) (nI n) (f + 1) (nI q) m = f_X8_spreads_L49 kb kx x2 x3 x4 (b2 both) (nI n) f (nI (q + 1)) _
      conv => lhs; unfold f_X8_spreads_L49
      obtain ⟨p1, p2, p3, p4⟩ := hp q hq
      have cq : ∀ {α : Type} (k : Option α), chk (nI q) 200 k = k := fun k => chk_nI (by omega) (by omega)
      have ca : ∀ {α : Type} (k : Option α), chk (nI (pa q)) 20 k = k := fun k => chk_nI (by omega) (by omega)
      have cb : ∀ {α : Type} (k : Option α), chk (nI (pb q)) 20 k = k := fun k => chk_nI (by omega) (by omega)
      rw [if_neg (fun h => by have := (hx2 q (by omega)).mp h; omega), isIn_cg (hI1 6 (by omega)), hW q hq, Option.bind_some]
      unfold rstep
      cases hw : W q
      · rw [b2_f, if_pos rfl, if_neg (by simp), w_succ]
      · rw [b2_t, if_neg (by decide), if_pos rfl, w_nat (show q < 2147483648 by omega), hI1 3 (by omega), hI1 4 (by omega), p3, p4]
        have J : ∀ m1 : Mm, (∀ k, k ≠ 11 → m1 k = ν k) → f_X8_spreads_J120 kb (f_X8_spreads_L49 kb kx x2 x3 x4 (b2 both) (nI n) f) kx x2 x3 x4 (b2 both) (nI n) (nI q) m1 = f_X8_spreads_L49 kb kx x2 x3 x4 (b2 both) (nI n) f (nI (q + 1)) (if both = true then rlx (nI n) (pb q) (pa q) m1 else m1) := by
          intro m1 hm1
          unfold f_X8_spreads_J120
          cases hbo : both
          · rw [b2_f, if_pos rfl, if_neg (by simp), w_succ]
          · rw [b2_t, if_neg (by decide), if_pos rfl]
            simp only [cq, w_nat (show q < 2147483648 by omega), hm1 3 (by omega), hm1 4 (by omega), p3, p4, ca, cb, w_nat (show pa q < 2147483648 by omega), w_nat (show pb q < 2147483648 by omega), w_succ]
            unfold rlx
            by_cases g1 : m1 11 (pb q) = nI n
            · rw [if_pos g1, if_pos g1]
              by_cases g2 : m1 11 (pa q) = 99
              · rw [if_pos g2, if_pos g2, w_succ]
              · rw [if_neg g2, if_neg g2]
            · rw [if_neg g1, if_neg g1]
        simp only [cq, ca, cb, w_nat (show pa q < 2147483648 by omega), w_nat (show pb q < 2147483648 by omega), w_succ]
        rw [show rlx (nI n) (pa q) (pb q) m = (if m 11 (pa q) = nI n then (if m 11 (pb q) = 99 then up2 m 11 (pb q) (nI n + 1) else m) else m) from rfl]
        by_cases g1 : m 11 (pa q) = nI n
        · rw [if_pos g1, if_pos g1]
          by_cases g2 : m 11 (pb q) = 99
          · rw [if_pos g2, if_pos g2, J _ (fun k hk => by rw [up2_n hk]; exact hI1 k hk), w_succ]
          · rw [if_neg g2, if_neg g2, J _ hI1]
        · rw [if_neg g1, if_neg g1, J _ hI1]
  have L37 : ∀ m, (∀ k, k ≠ 11 → m k = ν k) → St (Ed both W pa pb M) s A 0 (m 11) → ∃ m', f_X8_spreads_L37 x2 x3 x4 (b2 both) fuel 0 m = some m' ∧ (∀ k, k ≠ 11 → m' k = ν k) ∧ St (Ed both W pa pb M) s A A (m' 11) := by
    intro m hm hS
    refine up_loopR (fun f y (m : Mm) => f_X8_spreads_L37 x2 x3 x4 (b2 both) f y m) A (fun m => some m) (fun n m => (∀ k, k ≠ 11 → m k = ν k) ∧ St (Ed both W pa pb M) s A n (m 11)) ?_ ?_ A fuel 0 m (by omega) (by unfold fuel; omega) ⟨hm, hS⟩
    · intro f m hI
      show f_X8_spreads_L37 x2 x3 x4 (b2 both) (f + 1) (nI A) m = _
      unfold f_X8_spreads_L37
      rw [hI.1 0 (by omega), e3, if_pos (by rw [w_le (by omega) (by omega)]; omega)]
    · intro f n m hn hI
      obtain ⟨m', h1, h2⟩ := L49 (f_X8_spreads_L37 x2 x3 x4 (b2 both) f) (fun (m27 : Mm) => f_X8_spreads_L37 x2 x3 x4 (b2 both) f (nI n + 1) m27) n (by omega) m hI.1 hI.2
      refine ⟨m', ?_, h2⟩
      show f_X8_spreads_L37 x2 x3 x4 (b2 both) (f + 1) (nI n) m = f_X8_spreads_L37 x2 x3 x4 (b2 both) f (nI (n + 1)) m'
      conv => lhs; unfold f_X8_spreads_L37
      rw [hI.1 0 (by omega), e3, if_neg (by rw [w_le (by omega) (by omega)]; omega), h1, w_succ]
  unfold f_X8_spreads
  have hh := up_loopR (fun f y (m : Mm) => f_X8_spreads_L3 (fun (m3 : Mm) => (chk (nI s) 20 (f_X8_spreads_L37 x2 x3 x4 (b2 both) fuel 0 (up2 m3 11 (nI s).toNatClampNeg 0)))) (nI s) x2 x3 x4 (b2 both) f y m) A (fun (m3 : Mm) => (chk (nI s) 20 (f_X8_spreads_L37 x2 x3 x4 (b2 both) fuel 0 (up2 m3 11 (nI s).toNatClampNeg 0)))) (fun i m => (∀ k, k ≠ 11 → m k = ν k) ∧ ∀ b, b < i → m 11 b = 99) ?_ ?_ A fuel 0 ν (by omega) (by unfold fuel; omega) ⟨fun k _ => rfl, fun b hb => by omega⟩
  · obtain ⟨m', h1, h2, h3⟩ := hh
    have h1' : f_X8_spreads_L3 (fun (m3 : Mm) => (chk (nI s) 20 (f_X8_spreads_L37 x2 x3 x4 (b2 both) fuel 0 (up2 m3 11 (nI s).toNatClampNeg 0)))) (nI s) x2 x3 x4 (b2 both) fuel 0 ν = chk (nI s) 20 (f_X8_spreads_L37 x2 x3 x4 (b2 both) fuel 0 (up2 m' 11 (nI s).toNatClampNeg 0)) := h1
    rw [h1', chk_nI (show s < 20 by omega) (by omega), w_nat (by omega)]
    obtain ⟨m2, g1, g2, g3⟩ := L37 (up2 m' 11 s 0) (fun k hk => by rw [up2_n hk]; exact h2 k hk) (by
      intro b hb
      rw [up2_s]
      unfold upd
      by_cases hbs : b = s
      · rw [if_pos hbs]
        exact Or.inl ⟨0, Nat.le_refl 0, rfl, hbs, fun j hj => by omega⟩
      · rw [if_neg hbs]
        exact Or.inr ⟨h3 b hb, fun hL => hbs (Lv_0.mp hL)⟩)
    exact ⟨m2, g1, g2, fun b hb => St_Far hE hs g3 hb⟩
  · intro f m hI
    show f_X8_spreads_L3 _ (nI s) x2 x3 x4 (b2 both) (f + 1) (nI A) m = _
    unfold f_X8_spreads_L3
    rw [hI.1 0 (by omega), e3, if_pos (by rw [w_le (by omega) (by omega)]; omega)]
  · intro f i m hi hI
    refine ⟨up2 m 11 i 99, ?_, fun k hk => by rw [up2_n hk]; exact hI.1 k hk, fun b hb => ?_⟩
    · show f_X8_spreads_L3 _ (nI s) x2 x3 x4 (b2 both) (f + 1) (nI i) m = _
      conv => lhs; unfold f_X8_spreads_L3
      rw [hI.1 0 (by omega), e3, if_neg (by rw [w_le (by omega) (by omega)]; omega), chk_nI (show i < 20 by omega) (by omega), w_nat (show i < 2147483648 by omega), w_succ]
    · rw [up2_s]
      unfold upd
      by_cases hbi : b = i
      · rw [if_pos hbi]
      · rw [if_neg hbi]; exact hI.2 b (by omega)
end
section
/-! ===== L3: the component's sets are walks ===== -/
def SB (x : Int32) (S : Nat → Prop) : Prop := ∀ b, b < 32 → (bt x b = true ↔ S b)
theorem fo_or {c : Nat → Bool} {g : Nat → Int32} {j : Nat} : ∀ (m i : Nat) (s : Int32), bt (fo (fun q s => if c q = true then s ||| g q else s) i m s) j = true ↔ bt s j = true ∨ ∃ q, i ≤ q ∧ q < i + m ∧ c q = true ∧ bt (g q) j = true
  | 0, i, s => by
    constructor
    · intro h; exact Or.inl h
    · rintro (h | ⟨q, h1, h2, _⟩)
      · exact h
      · omega
  | m + 1, i, s => by
    show bt (fo _ (i + 1) m (if c i = true then s ||| g i else s)) j = true ↔ _
    rw [fo_or m (i + 1)]
    constructor
    · rintro (h | ⟨q, h1, h2, h3, h4⟩)
      · by_cases hc : c i = true
        · rw [if_pos hc, b_or, Bool.or_eq_true] at h
          rcases h with h | h
          · exact Or.inl h
          · exact Or.inr ⟨i, by omega, by omega, hc, h⟩
        · rw [if_neg hc] at h; exact Or.inl h
      · exact Or.inr ⟨q, by omega, by omega, h3, h4⟩
    · rintro (h | ⟨q, h1, h2, h3, h4⟩)
      · left
        by_cases hc : c i = true
        · rw [if_pos hc, b_or, h]; rfl
        · rw [if_neg hc]; exact h
      · by_cases hq : q = i
        · subst hq
          left
          rw [if_pos h3, b_or, h4, Bool.or_true]
        · exact Or.inr ⟨q, by omega, by omega, h3, h4⟩
/-- the cells n 0 .. n 19 hold the links E -/
def Net (E : Nat → Nat → Prop) (n : Nat → Int32) : Prop := (∀ a, a < 20 → SB (n a) (E a)) ∧ ∀ a b, E a b → a < 20 ∧ b < 20
theorem Net_step {E : Nat → Nat → Prop} {n : Nat → Int32} {x : Int32} {S : Nat → Prop} (hN : Net E n) (hS : SB x S) : SB (fo (fun q s => if bt x q = true then s ||| n q else s) 0 20 0) (fun b => ∃ a, S a ∧ E a b) := by
  intro b hb
  rw [fo_or (c := fun q => bt x q) (g := n) 20 0 0, b_0]
  constructor
  · rintro (h | ⟨q, _, h2, h3, h4⟩)
    · cases h
    · exact ⟨q, (hS q (by omega)).mp h3, (hN.1 q (by omega) b hb).mp h4⟩
  · rintro ⟨a, h1, h2⟩
    have ha := (hN.2 a b h2).1
    exact Or.inr ⟨a, by omega, by omega, (hS a (by omega)).mpr h1, (hN.1 a ha b hb).mpr h2⟩
theorem SB_or {x y : Int32} {S T U : Nat → Prop} (h1 : SB x S) (h2 : SB y T) (h : ∀ b, b < 32 → (U b ↔ S b ∨ T b)) : SB (x ||| y) U := by
  intro b hb
  rw [b_or, Bool.or_eq_true, h b hb, h1 b hb, h2 b hb]
theorem SB_c {x : Int32} {S T : Nat → Prop} (h1 : SB x S) (h : ∀ b, b < 32 → (T b ↔ S b)) : SB x T := by
  intro b hb
  rw [h b hb, h1 b hb]
theorem SB_one {s : Nat} (hs : s < 32) : SB ((1 : Int32) <<< (nI s &&& 31)) (fun b => b = s) := by
  intro b hb
  rw [b_one hs hb, decide_eq_true_iff]
theorem gs_val {E : Nat → Nat → Prop} {s : Nat} {μ : Mm} (hN : Net E (μ 12)) (hs : s < 20) : ∀ (m n j : Nat) (x4 : Int32), SB x4 (Lv E s j) → j + 1 + m = 20 → m < n → ∃ y, SB y (Lv E s 19) ∧ f_X5_groupSize_L6 μ n x4 (nI (j + 1)) = some (nI (pop y))
  | _, 0, _, _, _, _, h => by omega
  | 0, n + 1, j, x4, hx, he, _ => by
    have : j = 19 := by omega
    subst this
    refine ⟨x4, hx, ?_⟩
    unfold f_X5_groupSize_L6
    rw [if_pos (by decide), bc_set]
    · rfl
    · intro i h1 h2
      cases hb : bt x4 i
      · rfl
      · obtain ⟨k, _, hw⟩ := (hx i h2).mp hb
        have := Wk_lt (A := 20) (fun a b h => (hN.2 a b h).2) hs k i hw
        omega
  | m + 1, n + 1, j, x4, hx, he, hn => by
    unfold f_X5_groupSize_L6
    rw [if_neg (show ¬ (20 : Int32) ≤ nI (j + 1) from by rw [show (20 : Int32) = nI 20 from rfl, w_le (by omega) (by omega)]; omega), step12_eq, Option.bind_some, w_succ]
    exact gs_val hN hs m n (j + 1) _ (SB_or hx (Net_step hN hx) (fun b _ => Lv_succ)) (by omega) (by omega)
theorem group_val {E : Nat → Nat → Prop} {s : Nat} {μ : Mm} (hN : Net E (μ 12)) (hs : s < 20) : ∃ y, SB y (Lv E s 19) ∧ f_X5_groupSize (nI s) μ = some (nI (pop y)) :=
  gs_val hN hs 19 fuel 0 _ (SB_c (SB_one (show s < 32 by omega)) (fun b _ => Lv_0)) (by omega) (by unfold fuel; omega)
theorem and_0 {x y : Int32} : x &&& y = 0 ↔ ∀ b, b < 32 → ¬ (bt x b = true ∧ bt y b = true) := by
  constructor
  · intro h b hb ⟨h1, h2⟩
    have : bt (x &&& y) b = true := by rw [b_and, h1, h2]; rfl
    rw [h, b_0] at this; cases this
  · intro h
    apply b_ext
    intro i hi
    rw [b_and, b_0]
    cases h1 : bt x i
    · rfl
    · cases h2 : bt y i
      · rfl
      · exact absurd ⟨h1, h2⟩ (h i hi)
/-- the least number of links to one of g -/
def Ll (E : Nat → Nat → Prop) (s : Nat) (g : Nat → Prop) (r : Int32) : Prop := (r = 99 ∧ ∀ j, j < 20 → ∀ b, b < 32 → ¬ (Lv E s j b ∧ g b)) ∨ ∃ k, k < 20 ∧ r = nI k ∧ (∃ b, b < 32 ∧ Lv E s k b ∧ g b) ∧ ∀ j, j < k → ∀ b, b < 32 → ¬ (Lv E s j b ∧ g b)
theorem ll_val {E : Nat → Nat → Prop} {s : Nat} {x2 : Int32} {μ : Mm} (hN : Net E (μ 12)) : ∀ (m n k : Nat) (x4 : Int32), SB x4 (Lv E s k) → k + m = 20 → m < n → (∀ j, j < k → ∀ b, b < 32 → ¬ (Lv E s j b ∧ bt x2 b = true)) → ∃ r, f_X5_leastLinks_L8 x2 99 μ n x4 (nI k) = some r ∧ Ll E s (fun b => bt x2 b = true) r
  | _, 0, _, _, _, _, h, _ => by omega
  | 0, n + 1, k, x4, hx, he, _, hno => by
    have : k = 20 := by omega
    subst this
    refine ⟨99, ?_, Or.inl ⟨rfl, hno⟩⟩
    unfold f_X5_leastLinks_L8
    rw [if_pos (by decide)]
  | m + 1, n + 1, k, x4, hx, he, hn, hno => by
    unfold f_X5_leastLinks_L8
    rw [if_neg (show ¬ (20 : Int32) ≤ nI k from by rw [show (20 : Int32) = nI 20 from rfl, w_le (by omega) (by omega)]; omega)]
    by_cases h : x4 &&& x2 = 0
    · rw [if_pos h, step12_eq, Option.bind_some, w_succ]
      refine ll_val hN m n (k + 1) _ (SB_or hx (Net_step hN hx) (fun b _ => Lv_succ)) (by omega) (by omega) ?_
      intro j hj b hb ⟨h1, h2⟩
      by_cases hjk : j = k
      · subst hjk
        exact and_0.mp h b hb ⟨(hx b hb).mpr h1, h2⟩
      · exact hno j (by omega) b hb ⟨h1, h2⟩
    · rw [if_neg h]
      refine ⟨nI k, rfl, Or.inr ⟨k, by omega, rfl, ?_, hno⟩⟩
      apply Classical.byContradiction
      intro hc
      exact h (and_0.mpr (fun b hb ⟨h1, h2⟩ => hc ⟨b, hb, (hx b hb).mp h1, h2⟩))
theorem links_val {E : Nat → Nat → Prop} {s : Nat} {x2 : Int32} {μ : Mm} (hN : Net E (μ 12)) (hs : s < 20) : ∃ r, f_X5_leastLinks (nI s) x2 99 μ = some r ∧ Ll E s (fun b => bt x2 b = true) r :=
  ll_val hN 20 fuel 0 _ (SB_c (SB_one (show s < 32 by omega)) (fun b _ => Lv_0)) (by omega) (by unfold fuel; omega) (fun j hj => by omega)
/-- the length of the shortest way from s to t with at least one payment -/
def Sw (E : Nat → Nat → Prop) (s t : Nat) (r : Int32) : Prop := (r = -1 ∧ ∀ i, 1 ≤ i → i ≤ 20 → ¬ Wk E s i t) ∨ ∃ k, 1 ≤ k ∧ k ≤ 20 ∧ r = nI k ∧ Wk E s k t ∧ ∀ i, 1 ≤ i → i < k → ¬ Wk E s i t
theorem Sw_uniq {E : Nat → Nat → Prop} {s t : Nat} {r r' : Int32} (h1 : Sw E s t r) (h2 : Sw E s t r') : r = r' := by
  rcases h1 with ⟨a1, a2⟩ | ⟨k, a1, a2, a3, a4, a5⟩ <;> rcases h2 with ⟨b1, b2⟩ | ⟨l, b1, b2, b3, b4, b5⟩
  · rw [a1, b1]
  · exact absurd b4 (a2 l b1 b2)
  · exact absurd a4 (b2 k a1 a2)
  · rw [a3, b3]
    rcases Nat.lt_trichotomy k l with h | h | h
    · exact absurd a4 (b5 k a1 h)
    · rw [h]
    · exact absurd b4 (a5 l b1 h)
def Fr (E : Nat → Nat → Prop) (s k b : Nat) : Prop := Wk E s k b ∧ ∀ i, 1 ≤ i → i < k → ¬ Wk E s i b
theorem Fr_succ {E : Nat → Nat → Prop} {s k b : Nat} : Fr E s (k + 1) b ↔ (∃ a, Fr E s k a ∧ E a b) ∧ ¬ ∃ i, 1 ≤ i ∧ i ≤ k ∧ Wk E s i b := by
  constructor
  · rintro ⟨⟨a, h1, h2⟩, h3⟩
    have hno : ¬ ∃ i, 1 ≤ i ∧ i ≤ k ∧ Wk E s i b := fun ⟨i, g1, g2, g3⟩ => h3 i g1 (by omega) g3
    refine ⟨⟨a, ⟨h1, fun i g1 g2 g3 => ?_⟩, h2⟩, hno⟩
    exact hno ⟨i + 1, by omega, by omega, a, g3, h2⟩
  · rintro ⟨⟨a, h1, h2⟩, h3⟩
    exact ⟨⟨a, h1.1, h2⟩, fun i g1 g2 g3 => h3 ⟨i, g1, by omega, g3⟩⟩
theorem sw_val {E : Nat → Nat → Prop} {s t : Nat} {μ : Mm} (hN : Net E (μ 11)) (ht : t < 32) : ∀ (m n j : Nat) (x3 x4 : Int32), SB x4 (Fr E s j) → SB x3 (fun b => ∃ i, 1 ≤ i ∧ i ≤ j ∧ Wk E s i b) → j + 1 + m = 21 → m < n → (∀ i, 1 ≤ i → i ≤ j → ¬ Wk E s i t) → ∃ r, f_X5_shortestWay_L10 (nI t) μ n x3 x4 (nI (j + 1)) = some r ∧ Sw E s t r
  | _, 0, _, _, _, _, _, _, h, _ => by omega
  | 0, n + 1, j, x3, x4, hx, hy, he, _, hno => by
    have : j = 20 := by omega
    subst this
    refine ⟨-1, ?_, Or.inl ⟨rfl, hno⟩⟩
    unfold f_X5_shortestWay_L10
    rw [if_pos (by decide)]
  | m + 1, n + 1, j, x3, x4, hx, hy, he, hn, hno => by
    unfold f_X5_shortestWay_L10
    rw [if_neg (show ¬ (20 : Int32) < nI (j + 1) from by rw [show (20 : Int32) = nI 20 from rfl, w_lt (by omega) (by omega)]; omega), step11_eq, Option.bind_some]
    have hz : SB (fo (fun q s => if bt x4 q = true then s ||| μ 11 q else s) 0 20 0 &&& (x3 ^^^ (-1))) (Fr E s (j + 1)) := by
      intro b hb
      have h1 := Net_step hN hx b hb
      have h2 := hy b hb
      rw [b_and, b_xor, b_m1 b hb, Fr_succ, Bool.and_eq_true, h1]
      have e : ((bt x3 b) ^^ true) = true ↔ ¬ (bt x3 b = true) := by cases bt x3 b <;> simp
      rw [e, h2]
    generalize fo (fun q s => if bt x4 q = true then s ||| μ 11 q else s) 0 20 0 &&& (x3 ^^^ (-1)) = z at hz ⊢
    rw [hasBit_eq _ ht, Option.bind_some, w_succ]
    cases hzt : bt z t
    · rw [b2_f, if_pos rfl]
      have hnt : ¬ Fr E s (j + 1) t := fun h => by
        have := (hz t ht).mpr h
        rw [hzt] at this; cases this
      refine sw_val hN ht m n (j + 1) _ _ hz (SB_or hy hz (fun b _ => ?_)) (by omega) (by omega) ?_
      · constructor
        · rintro ⟨i, h1, h2, h3⟩
          by_cases hi : i ≤ j
          · exact Or.inl ⟨i, h1, hi, h3⟩
          · have : i = j + 1 := by omega
            subst this
            rcases Classical.em (∃ i, 1 ≤ i ∧ i ≤ j ∧ Wk E s i b) with g | g
            · exact Or.inl g
            · exact Or.inr ⟨h3, fun i g1 g2 g3 => g ⟨i, g1, by omega, g3⟩⟩
        · rintro (⟨i, h1, h2, h3⟩ | h)
          · exact ⟨i, h1, by omega, h3⟩
          · exact ⟨j + 1, by omega, by omega, h.1⟩
      · intro i h1 h2 h3
        by_cases hi : i ≤ j
        · exact hno i h1 hi h3
        · have : i = j + 1 := by omega
          subst this
          exact hnt ⟨h3, fun i g1 g2 => hno i g1 (by omega)⟩
    · rw [b2_t, if_neg (by decide)]
      obtain ⟨g1, g2⟩ := (hz t ht).mp hzt
      exact ⟨nI (j + 1), rfl, Or.inr ⟨j + 1, by omega, by omega, rfl, g1, g2⟩⟩
theorem way_val {E : Nat → Nat → Prop} {s t : Nat} {μ : Mm} (hN : Net E (μ 11)) (hs : s < 20) (ht : t < 32) : ∃ r, f_X5_shortestWay (nI s) (nI t) μ = some r ∧ Sw E s t r :=
  sw_val hN ht 20 fuel 0 0 _ (SB_c (SB_one (show s < 32 by omega)) (fun b _ => ⟨fun h => h.1, fun h => ⟨h, fun i h1 h2 => by omega⟩⟩)) (fun b _ => by rw [b_0]; exact ⟨fun h => (by cases h), fun ⟨i, h1, h2, _⟩ => by omega⟩) (by omega) (by unfold fuel; omega) (fun i h1 h2 => by omega)
theorem st_val {E : Nat → Nat → Prop} {s t : Nat} {μ : Mm} (hN : Net E (μ 11)) (ht : t < 32) : ∀ (m n j : Nat) (x3 : Int32), SB x3 (Wk E s j) → j + 1 + m = 21 → m < n → (∀ i, 1 ≤ i → i ≤ j → ¬ Wk E s i t) → ∃ r, f_X5_shortestWayByTrying_L7 (nI t) μ n x3 (nI (j + 1)) = some r ∧ Sw E s t r
  | _, 0, _, _, _, _, h, _ => by omega
  | 0, n + 1, j, x3, hx, he, _, hno => by
    have : j = 20 := by omega
    subst this
    refine ⟨-1, ?_, Or.inl ⟨rfl, hno⟩⟩
    unfold f_X5_shortestWayByTrying_L7
    rw [if_pos (by decide)]
  | m + 1, n + 1, j, x3, hx, he, hn, hno => by
    unfold f_X5_shortestWayByTrying_L7
    rw [if_neg (show ¬ (20 : Int32) < nI (j + 1) from by rw [show (20 : Int32) = nI 20 from rfl, w_lt (by omega) (by omega)]; omega), step11_eq, Option.bind_some]
    have hz : SB (fo (fun q s => if bt x3 q = true then s ||| μ 11 q else s) 0 20 0) (Wk E s (j + 1)) := Net_step hN hx
    generalize fo (fun q s => if bt x3 q = true then s ||| μ 11 q else s) 0 20 0 = z at hz ⊢
    rw [hasBit_eq _ ht, Option.bind_some, w_succ]
    cases hzt : bt z t
    · rw [b2_f, if_pos rfl]
      refine st_val hN ht m n (j + 1) _ hz (by omega) (by omega) ?_
      intro i h1 h2 h3
      by_cases hi : i ≤ j
      · exact hno i h1 hi h3
      · have : i = j + 1 := by omega
        subst this
        have := (hz t ht).mpr h3
        rw [hzt] at this; cases this
    · rw [b2_t, if_neg (by decide)]
      exact ⟨nI (j + 1), rfl, Or.inr ⟨j + 1, by omega, by omega, rfl, (hz t ht).mp hzt, fun i g1 g2 => hno i g1 (by omega)⟩⟩
theorem try_val {E : Nat → Nat → Prop} {s t : Nat} {μ : Mm} (hN : Net E (μ 11)) (hs : s < 20) (ht : t < 32) : ∃ r, f_X5_shortestWayByTrying (nI s) (nI t) μ = some r ∧ Sw E s t r :=
  st_val hN ht 20 fuel 0 _ (SB_one (show s < 32 by omega)) (by omega) (by unfold fuel; omega) (fun i h1 h2 => by omega)
theorem Ed_succ {both : Bool} {W : Nat → Bool} {pa pb : Nat → Nat} {q a b : Nat} : Ed both W pa pb (q + 1) a b ↔ Ed both W pa pb q a b ∨ (W q = true ∧ ((pa q = a ∧ pb q = b) ∨ (both = true ∧ pb q = a ∧ pa q = b))) := by
  constructor
  · rintro ⟨x, h1, h2, h3⟩
    by_cases hx : x = q
    · subst hx; exact Or.inr ⟨h2, h3⟩
    · exact Or.inl ⟨x, by omega, h2, h3⟩
  · rintro (⟨x, h1, h2, h3⟩ | ⟨h2, h3⟩)
    · exact ⟨x, by omega, h2, h3⟩
    · exact ⟨q, by omega, h2, h3⟩
theorem nt_bits {x : Nat → Nat → Int32} {pa pb : Nat → Nat} {i m : Nat} (hp : ∀ q, i ≤ q → q < i + m → pa q < 20 ∧ pb q < 20 ∧ x 0 q = nI (pa q) ∧ x 1 q = nI (pb q)) :
    ∀ a b, a < 20 → b < 32 → (bt (nt x i m 11 a) b = true ↔ Ed false (fun q => decide (i ≤ q)) pa pb (i + m) a b) ∧ (bt (nt x i m 12 a) b = true ↔ Ed true (fun q => decide (i ≤ q)) pa pb (i + m) a b) := by
  unfold nt
  refine fo_inv (g := ntS x) (fun k (s : Mm) => ∀ a b, a < 20 → b < 32 → (bt (s 11 a) b = true ↔ Ed false (fun q => decide (i ≤ q)) pa pb k a b) ∧ (bt (s 12 a) b = true ↔ Ed true (fun q => decide (i ≤ q)) pa pb k a b)) m i (fun _ _ => 0) ?_ ?_
  · intro a b ha hb
    have no : ∀ both, ¬ Ed both (fun q => decide (i ≤ q)) pa pb i a b := by
      rintro both ⟨y, h1, h2, _⟩
      have := of_decide_eq_true h2
      omega
    constructor
    · exact ⟨fun h => (by rw [b_0] at h; cases h), fun h => absurd h (no _)⟩
    · exact ⟨fun h => (by rw [b_0] at h; cases h), fun h => absurd h (no _)⟩
  · intro q s h1 h2 hI a b ha hb
    obtain ⟨p1, p2, p3, p4⟩ := hp q h1 h2
    obtain ⟨i1, i2⟩ := hI a b ha hb
    have hw : (fun q => decide (i ≤ q)) q = true := decide_eq_true h1
    rw [Ed_succ, Ed_succ]
    unfold ntS
    simp only [p3, p4, w_nat (show pa q < 2147483648 by omega), w_nat (show pb q < 2147483648 by omega)]
    simp only [up2, upd, show ¬ ((11 : Nat) = 12) by omega, show ¬ ((12 : Nat) = 11) by omega, if_true, if_false]
    constructor
    · by_cases c1 : a = pa q
      · subst c1
        rw [if_pos rfl, bt_sb _ _ (by omega) hb]
        by_cases c2 : b = pb q
        · subst c2
          rw [if_pos rfl]
          exact ⟨fun _ => Or.inr ⟨hw, Or.inl ⟨rfl, rfl⟩⟩, fun _ => rfl⟩
        · rw [if_neg c2, i1]
          refine ⟨Or.inl, ?_⟩
          rintro (h | ⟨_, ⟨_, h⟩ | ⟨h, _⟩⟩)
          · exact h
          · exact absurd h.symm c2
          · cases h
      · rw [if_neg c1, i1]
        refine ⟨Or.inl, ?_⟩
        rintro (h | ⟨_, ⟨h, _⟩ | ⟨h, _⟩⟩)
        · exact h
        · exact absurd h.symm c1
        · cases h
    · obtain ⟨_, j2⟩ := hI (pa q) b p1 hb
      obtain ⟨_, j3⟩ := hI (pb q) b p2 hb
      have key : bt (if a = pb q then sb (if pb q = pa q then sb (s 12 (pa q)) (pb q) true else s 12 (pb q)) (pa q) true else if a = pa q then sb (s 12 (pa q)) (pb q) true else s 12 a) b = true ↔ bt (s 12 a) b = true ∨ (pa q = a ∧ pb q = b) ∨ (pb q = a ∧ pa q = b) := by
        by_cases c1 : a = pb q
        · subst c1
          rw [if_pos rfl, bt_sb _ _ (by omega) hb]
          by_cases c2 : b = pa q
          · rw [if_pos c2]
            exact ⟨fun _ => Or.inr (Or.inr ⟨rfl, c2.symm⟩), fun _ => rfl⟩
          · rw [if_neg c2]
            by_cases c3 : pb q = pa q
            · rw [if_pos c3, bt_sb _ _ (by omega) hb, if_neg (by rw [c3]; exact c2), c3]
              refine ⟨Or.inl, ?_⟩
              rintro (h | ⟨_, h⟩ | ⟨_, h⟩)
              · exact h
              · exact absurd h.symm c2
              · exact absurd h.symm c2
            · rw [if_neg c3]
              refine ⟨Or.inl, ?_⟩
              rintro (h | ⟨h, _⟩ | ⟨_, h⟩)
              · exact h
              · exact absurd h.symm c3
              · exact absurd h.symm c2
        · rw [if_neg c1]
          by_cases c3 : a = pa q
          · subst c3
            rw [if_pos rfl, bt_sb _ _ (by omega) hb]
            by_cases c2 : b = pb q
            · rw [if_pos c2]
              exact ⟨fun _ => Or.inr (Or.inl ⟨rfl, c2.symm⟩), fun _ => rfl⟩
            · rw [if_neg c2]
              refine ⟨Or.inl, ?_⟩
              rintro (h | ⟨_, h⟩ | ⟨h, _⟩)
              · exact h
              · exact absurd h.symm c2
              · exact absurd h.symm c1
          · rw [if_neg c3]
            refine ⟨Or.inl, ?_⟩
            rintro (h | ⟨h, _⟩ | ⟨h, _⟩)
            · exact h
            · exact absurd h.symm c3
            · exact absurd h.symm c1
      rw [key, i2]
      constructor
      · rintro (h | h | h)
        · exact Or.inl h
        · exact Or.inr ⟨hw, Or.inl h⟩
        · exact Or.inr ⟨hw, Or.inr ⟨trivial, h⟩⟩
      · rintro (h | ⟨_, h | ⟨_, h⟩⟩)
        · exact Or.inl h
        · exact Or.inr (Or.inl h)
        · exact Or.inr (Or.inr h)
theorem Ed_lt {both : Bool} {W : Nat → Bool} {pa pb : Nat → Nat} {A M : Nat} (hp : ∀ q, q < M → pa q < A ∧ pb q < A) {a b : Nat} (h : Ed both W pa pb M a b) : a < A ∧ b < A := by
  obtain ⟨x, hx, _, ⟨c1, c2⟩ | ⟨_, c1, c2⟩⟩ := h
  · rw [← c1, ← c2]; exact hp x hx
  · rw [← c1, ← c2]; exact ⟨(hp x hx).2, (hp x hx).1⟩
theorem nt_Net {x : Nat → Nat → Int32} {pa pb : Nat → Nat} {i M : Nat} (hi : i ≤ M) (hp : ∀ q, q < M → pa q < 20 ∧ pb q < 20 ∧ x 0 q = nI (pa q) ∧ x 1 q = nI (pb q)) :
    Net (Ed false (fun q => decide (i ≤ q)) pa pb M) (nt x i (M - i) 11) ∧ Net (Ed true (fun q => decide (i ≤ q)) pa pb M) (nt x i (M - i) 12) := by
  have hb := nt_bits (x := x) (pa := pa) (pb := pb) (i := i) (m := M - i) (fun q h1 h2 => hp q (by omega))
  rw [show i + (M - i) = M by omega] at hb
  have hl : ∀ q, q < M → pa q < 20 ∧ pb q < 20 := fun q hq => ⟨(hp q hq).1, (hp q hq).2.1⟩
  exact ⟨⟨fun a ha b hb' => (hb a b ha hb').1, fun a b h => Ed_lt hl h⟩, ⟨fun a ha b hb' => (hb a b ha hb').2, fun a b h => Ed_lt hl h⟩⟩
end
section
/-! ===== L3: group, links, closing: the model is the component ===== -/
theorem Ll_uniq {E : Nat → Nat → Prop} {s : Nat} {g : Nat → Prop} {r r' : Int32} (h1 : Ll E s g r) (h2 : Ll E s g r') : r = r' := by
  rcases h1 with ⟨a1, a2⟩ | ⟨k, a1, a2, ⟨b, a3, a4, a5⟩, a6⟩ <;> rcases h2 with ⟨b1, b2⟩ | ⟨l, b1, b2, ⟨c, b3, b4, b5⟩, b6⟩
  · rw [a1, b1]
  · exact absurd ⟨b4, b5⟩ (a2 l b1 c b3)
  · exact absurd ⟨a4, a5⟩ (b2 k a1 b a3)
  · rw [a2, b2]
    rcases Nat.lt_trichotomy k l with h | h | h
    · exact absurd ⟨a4, a5⟩ (b6 k h b a3)
    · rw [h]
    · exact absurd ⟨b4, b5⟩ (a6 l h c b3)
theorem Far_lt {E : Nat → Nat → Prop} {A s b : Nat} {v : Int32} (hA : A ≤ 20) (h : Far E A s b v) : ((99 : Int32) ≤ v ∧ ¬ Lv E s 19 b) ∨ (¬ (99 : Int32) ≤ v ∧ Lv E s 19 b) := by
  rcases h with ⟨h1, h2⟩ | ⟨d, h1, h2, h3⟩
  · left
    rw [h1]
    exact ⟨by decide, fun ⟨j, _, hw⟩ => h2 j hw⟩
  · right
    rw [h2, e99, w_le (by omega) (by omega)]
    exact ⟨by omega, d, by omega, h3.1⟩
theorem lvB_f {E : Nat → Nat → Prop} {s k b : Nat} (h : ¬ Lv E s k b) : lvB E s k b = false := by
  cases hc : lvB E s k b
  · rfl
  · exact absurd (lvB_t.mp hc) h
theorem reached_far {E : Nat → Nat → Prop} {A s : Nat} {m : Mm} (hA : A ≤ 20) (e3 : m 0 3 = nI A) (hF : ∀ b, b < A → Far E A s b (m 11 b)) : f_X8_reached_L16 m fuel 0 0 = some (nI (fb_ct (lvB E s 19) A), m) := by
  obtain ⟨v, h1, h2⟩ := up_loopR (fun f y (v : Int32) => f_X8_reached_L16 m f v y) A (fun v => some (v, m)) (fun i v => v = nI (fb_ct (lvB E s 19) i)) (by
    intro f v _
    show f_X8_reached_L16 m (f + 1) v (nI A) = _
    unfold f_X8_reached_L16
    rw [e3, if_pos (by rw [w_le (by omega) (by omega)]; omega)]) (by
    intro f i v hi hv
    refine ⟨nI (fb_ct (lvB E s 19) (i + 1)), ?_, rfl⟩
    show f_X8_reached_L16 m (f + 1) v (nI i) = _
    conv => lhs; unfold f_X8_reached_L16
    rw [e3, if_neg (by rw [w_le (by omega) (by omega)]; omega), chk_nI (show i < 20 by omega) (by omega), w_nat (by omega), hv, fb_ct_succ, w_succ]
    rcases Far_lt hA (hF i hi) with ⟨g1, g2⟩ | ⟨g1, g2⟩
    · rw [if_pos g1, lvB_f g2]
      show f_X8_reached_L16 m f (nI _ + nI 0) _ = _
      rw [w_add]; rfl
    · rw [if_neg g1, lvB_t.mpr g2, w_succ]; rfl) A fuel 0 0 (by omega) (by unfold fuel; omega) rfl
  have h1' : f_X8_reached_L16 m fuel 0 0 = some (v, m) := h1
  rw [h1', h2]
theorem pop_lv {E : Nat → Nat → Prop} {A s : Nat} {y : Int32} (hA : A ≤ 20) (hE : ∀ a b, E a b → b < A) (hs : s < A) (h : SB y (Lv E s 19)) : pop y = fb_ct (lvB E s 19) A := by
  unfold pop
  have e1 : fb_ct (fun i => bt y i) 32 = fb_ct (lvB E s 19) 32 := by
    apply fb_ct_cong
    intro k hk
    rw [Bool.eq_iff_iff, lvB_t]
    exact h k hk
  rw [e1, show (32 : Nat) = A + (32 - A) by omega, fb_ct_split]
  have e2 : fb_ct (fun k => lvB E s 19 (A + k)) (32 - A) = 0 := by
    rw [fb_ct_zero]
    intro k hk
    apply lvB_f
    rintro ⟨j, _, hw⟩
    have := Wk_lt hE hs j _ hw
    omega
  rw [e2]; rfl
/-- the model's least of the marked -/
def Tm (E : Nat → Nat → Prop) (s : Nat) (mk : Int32) (i : Nat) (x : Int32) : Prop := (x = 99 ∧ ∀ b, b < i → bt mk b = true → ∀ k, ¬ Wk E s k b) ∨ ∃ d, d < 20 ∧ x = nI d ∧ (∃ b, b < i ∧ bt mk b = true ∧ Wk E s d b) ∧ ∀ b, b < i → bt mk b = true → ∀ j, j < d → ¬ Wk E s j b
theorem Tm_Ll {E : Nat → Nat → Prop} {A s : Nat} {mk x : Int32} (hA : A ≤ 20) (hE : ∀ a b, E a b → b < A) (hs : s < A) (h : Tm E s mk A x) : Ll E s (fun b => bt mk b = true) x := by
  rcases h with ⟨h1, h2⟩ | ⟨d, h1, h2, ⟨b, h3, h4, h5⟩, h6⟩
  · left
    refine ⟨h1, fun j hj b hb ⟨⟨i, hi, hw⟩, hg⟩ => ?_⟩
    exact h2 b (Wk_lt hE hs i b hw) hg i hw
  · right
    refine ⟨d, h1, h2, ⟨b, by omega, ⟨d, Nat.le_refl d, h5⟩, h4⟩, fun j hj b hb ⟨⟨i, hi, hw⟩, hg⟩ => ?_⟩
    exact h6 b (Wk_lt hE hs i b hw) hg i (by omega) hw
theorem toMarked_far {E : Nat → Nat → Prop} {A s : Nat} {mk : Int32} {m : Mm} (hA : A ≤ 20) (e3 : m 0 3 = nI A) (hF : ∀ b, b < A → Far E A s b (m 11 b)) : ∃ x, f_X8_toMarked_L26 mk m fuel 99 0 = some (x, m) ∧ Tm E s mk A x := by
  refine up_loopR (fun f y (v : Int32) => f_X8_toMarked_L26 mk m f v y) A (fun v => some (v, m)) (Tm E s mk) (by
    intro f v _
    show f_X8_toMarked_L26 mk m (f + 1) v (nI A) = _
    unfold f_X8_toMarked_L26
    rw [e3, if_pos (by rw [w_le (by omega) (by omega)]; omega)]) ?_ A fuel 0 99 (by omega) (by unfold fuel; omega) (Or.inl ⟨rfl, fun b hb => by omega⟩)
  intro f i v hi hv
  show ∃ s', f_X8_toMarked_L26 mk m (f + 1) v (nI i) = f_X8_toMarked_L26 mk m f s' (nI (i + 1)) ∧ _
  conv => enter [1, s', 1, 1]; unfold f_X8_toMarked_L26
  rw [e3, if_neg (by rw [w_le (by omega) (by omega)]; omega), has_eq _ (show i < 32 by omega), Option.bind_some, chk_nI (show i < 20 by omega) (by omega), w_nat (by omega), w_succ]
  cases hb : bt mk i
  · rw [b2_f, if_pos rfl]
    refine ⟨v, rfl, ?_⟩
    have ex : ∀ b, b < i + 1 → bt mk b = true → b < i := fun b h1 h2 => by
      by_cases hbi : b = i
      · rw [hbi, hb] at h2; cases h2
      · omega
    rcases hv with ⟨h1, h2⟩ | ⟨d, h1, h2, ⟨b, h3, h4, h5⟩, h6⟩
    · exact Or.inl ⟨h1, fun b hb1 hb2 => h2 b (ex b hb1 hb2) hb2⟩
    · exact Or.inr ⟨d, h1, h2, ⟨b, by omega, h4, h5⟩, fun b hb1 hb2 => h6 b (ex b hb1 hb2) hb2⟩
  · rw [b2_t, if_neg (by decide)]
    rcases hF i hi with ⟨g1, g2⟩ | ⟨e, g1, g2, g3⟩
    · rw [g1]
      refine ⟨v, ?_, ?_⟩
      · rw [if_neg]
        rcases hv with ⟨h1, _⟩ | ⟨d, h1, h2, _⟩
        · rw [h1]; decide
        · rw [h2, e99, w_lt (by omega) (by omega)]; omega
      · rcases hv with ⟨h1, h2⟩ | ⟨d, h1, h2, ⟨b, h3, h4, h5⟩, h6⟩
        · refine Or.inl ⟨h1, fun b hb1 hb2 => ?_⟩
          by_cases hbi : b = i
          · rw [hbi]; exact g2
          · exact h2 b (by omega) hb2
        · refine Or.inr ⟨d, h1, h2, ⟨b, by omega, h4, h5⟩, fun b hb1 hb2 => ?_⟩
          by_cases hbi : b = i
          · rw [hbi]; exact fun j _ => g2 j
          · exact h6 b (by omega) hb2
    · rw [g2]
      rcases hv with ⟨h1, h2⟩ | ⟨d, h1, h2, ⟨b, h3, h4, h5⟩, h6⟩
      · refine ⟨nI e, ?_, Or.inr ⟨e, by omega, rfl, ⟨i, by omega, hb, g3.1⟩, fun b hb1 hb2 => ?_⟩⟩
        · rw [h1, if_pos]; rw [e99, w_lt (by omega) (by omega)]; omega
        · by_cases hbi : b = i
          · rw [hbi]; exact g3.2
          · exact fun j _ => h2 b (by omega) hb2 j
      · by_cases hde : e < d
        · refine ⟨nI e, ?_, Or.inr ⟨e, by omega, rfl, ⟨i, by omega, hb, g3.1⟩, fun b hb1 hb2 => ?_⟩⟩
          · rw [h2, if_pos]; rw [w_lt (by omega) (by omega)]; exact hde
          · by_cases hbi : b = i
            · rw [hbi]; exact g3.2
            · exact fun j hj => h6 b (by omega) hb2 j (by omega)
        · refine ⟨nI d, ?_, Or.inr ⟨d, h1, rfl, ⟨b, by omega, h4, h5⟩, fun b hb1 hb2 => ?_⟩⟩
          · rw [h2, if_neg]; rw [w_lt (by omega) (by omega)]; exact hde
          · by_cases hbi : b = i
            · rw [hbi]; exact fun j hj => g3.2 j (by omega)
            · exact h6 b (by omega) hb2
/-! ===== the table at a payment ===== -/
def pA (ν : Mm) (q : Nat) : Nat := (ν 3 q).toNatClampNeg
def pB (ν : Mm) (q : Nat) : Nat := (ν 4 q).toNatClampNeg
theorem Led_ab {A T P q : Nat} {μ ν : Mm} (hA : A ≤ 20) (hL : Led A T P μ ν) (hq : q < P) : pA ν q < A ∧ pB ν q < A ∧ ν 3 q = nI (pA ν q) ∧ ν 4 q = nI (pB ν q) ∧ pA ν q ≠ pB ν q := by
  obtain ⟨_, _, _, _, a, b, c, m, z1, z2, z3, z4, z5, z6, z7, z8, z9⟩ := hL.2.2.2.1 q hq
  unfold pA pB
  rw [z6, z7, w_nat (by omega), w_nat (by omega)]
  exact ⟨z1, z2, rfl, rfl, z3.2⟩
theorem spreadP {A T P p s : Nat} {w : Int32} {μ ν : Mm} (both : Bool) (hA : Acc A μ ν) (hL : Led A T P μ ν) (hp : p < P) (hs : s < A) :
    ∃ ν', f_X8_spreads (nI s) (nI p) w (ν 6 p) (b2 both) ν = some ν' ∧ (∀ k, k ≠ 11 → ν' k = ν k) ∧ ∀ b, b < A → Far (Ed both (fun q => decide (lo (cut ν p) w p ≤ q)) (pA ν) (pB ν) (p + 1)) A s b (ν' 11 b) := by
  have hP := hL.1
  refine spread_ok hA.1 hA.2.2.1 hs (by omega) (fun i hi => ?_) (fun q hq => isIn_lo hL hp (by omega)) (fun q hq => ?_)
  · rw [w_lt (by omega) (by omega)]; omega
  · obtain ⟨h1, h2, h3, h4, _⟩ := Led_ab hA.1 hL (show q < P by omega)
    exact ⟨h1, h2, h3, h4⟩
theorem netP {A T P p i : Nat} {μ ν : Mm} (hA : Acc A μ ν) (hL : Led A T P μ ν) (hp : p < P) (hi : i ≤ p + 1) :
    Net (Ed false (fun q => decide (i ≤ q)) (pA ν) (pB ν) (p + 1)) (nt (cut ν p) i (p + 1 - i) 11) ∧ Net (Ed true (fun q => decide (i ≤ q)) (pA ν) (pB ν) (p + 1)) (nt (cut ν p) i (p + 1 - i) 12) := by
  have hA20 := hA.1
  refine nt_Net hi (fun q hq => ?_)
  obtain ⟨h1, h2, h3, h4, _⟩ := Led_ab hA.1 hL (show q < P by omega)
  refine ⟨by omega, by omega, ?_, ?_⟩
  · rw [cut_le (show q ≤ p by omega)]; exact h3
  · rw [cut_le (show q ≤ p by omega)]; exact h4
theorem EdP {A T P p : Nat} {both : Bool} {W : Nat → Bool} {μ ν : Mm} (hA : Acc A μ ν) (hL : Led A T P μ ν) (hp : p < P) : ∀ a b, Ed both W (pA ν) (pB ν) (p + 1) a b → b < A := by
  intro a b h
  exact (Ed_lt (fun q hq => by
    obtain ⟨h1, h2, _⟩ := Led_ab hA.1 hL (show q < P by omega)
    exact ⟨h1, h2⟩) h).2
theorem mV103 {A T P p : Nat} {w mk : Int32} {μ ν : Mm} (hA : Acc A μ ν) (hL : Led A T P μ ν) (hT : T ≤ 800000) (hp : p < P) (hw : win w) : ∃ ν', f_X8_valueBy (nI p) (nI 103) w mk ν = some (V (cut ν p) (nI 103) w mk p, ν') ∧ ∀ k, k ≠ 11 → ν' k = ν k := by
  have hP := hL.1
  have hA20 := hA.1
  have hl := (lo_le hT hL hp hw).1
  obtain ⟨p1, p2, p3, p4, p5⟩ := Led_ab hA.1 hL hp
  have v : V (cut ν p) (nI 103) w mk p = (f_X5_groupSize (cut ν p 0 p) (nt (cut ν p) (lo (cut ν p) w p) (p + 1 - lo (cut ν p) w p))).getD 0 := by unfold V; rw [if_neg (by decide), if_neg (by decide), if_neg (by decide), if_neg (by decide), if_pos (by decide)]
  obtain ⟨ν', s1, s2, s3⟩ := spreadP (w := w) true hA hL hp p1
  have cp : ∀ {α : Type} (k : Option α), chk (nI p) 200 k = k := fun k => chk_nI (by omega) (by omega)
  have c0 : cut ν p 0 p = nI (pA ν p) := by rw [cut_le (Nat.le_refl p)]; exact p3
  obtain ⟨y, g1, g2⟩ := group_val (netP hA hL hp (show lo (cut ν p) w p ≤ p + 1 by omega)).2 (show pA ν p < 20 by omega)
  refine ⟨ν', ?_, s2⟩
  unfold f_X8_valueBy f_X8_reached
  rw [if_pos (by decide), cp, cp, w_nat (show p < 2147483648 by omega), p3, show (1 : Int32) = b2 true from rfl, s1, Option.bind_some, reached_far hA20 (by rw [s2 0 (by omega)]; exact hA.2.2.1) s3, Option.bind_some, v, c0, g2, pop_lv hA20 (EdP hA hL hp) p1 g1]
  rfl
theorem mV100 {A T P p : Nat} {w mk : Int32} {μ ν : Mm} (hA : Acc A μ ν) (hL : Led A T P μ ν) (hT : T ≤ 800000) (hp : p < P) (hw : win w) : ∃ ν', f_X8_valueBy (nI p) (nI 100) w mk ν = some (V (cut ν p) (nI 100) w mk p, ν') ∧ ∀ k, k ≠ 11 → ν' k = ν k := by
  have hP := hL.1
  have hA20 := hA.1
  have hl := (lo_le hT hL hp hw).1
  obtain ⟨p1, p2, p3, p4, p5⟩ := Led_ab hA.1 hL hp
  have v : V (cut ν p) (nI 100) w mk p = (f_X5_leastLinks (cut ν p 1 p) mk 99 (nt (cut ν p) (lo (cut ν p) w p) (p + 1 - lo (cut ν p) w p))).getD 0 := by unfold V; rw [if_neg (by decide), if_neg (by decide), if_pos (by decide)]
  obtain ⟨ν', s1, s2, s3⟩ := spreadP (w := w) true hA hL hp p2
  have cp : ∀ {α : Type} (k : Option α), chk (nI p) 200 k = k := fun k => chk_nI (by omega) (by omega)
  have c1 : cut ν p 1 p = nI (pB ν p) := by rw [cut_le (Nat.le_refl p)]; exact p4
  obtain ⟨r, g1, g2⟩ := links_val (x2 := mk) (netP hA hL hp (show lo (cut ν p) w p ≤ p + 1 by omega)).2 (show pB ν p < 20 by omega)
  obtain ⟨x, t1, t2⟩ := toMarked_far (mk := mk) hA20 (by rw [s2 0 (by omega)]; exact hA.2.2.1) s3
  refine ⟨ν', ?_, s2⟩
  unfold f_X8_valueBy f_X8_toMarked
  rw [if_neg (by decide), if_neg (by decide), if_pos (by decide), cp, cp, w_nat (show p < 2147483648 by omega), p4, show (1 : Int32) = b2 true from rfl, s1, Option.bind_some, t1, Option.bind_some, v, c1, g1, Ll_uniq (Tm_Ll hA20 (EdP hA hL hp) p2 t2) g2]
  rfl
theorem mV107 {A T P p : Nat} {w mk : Int32} {μ ν : Mm} (hA : Acc A μ ν) (hL : Led A T P μ ν) (hT : T ≤ 800000) (hp : p < P) (hw : win w) : ∃ ν', f_X8_valueBy (nI p) (nI 107) w mk ν = some (V (cut ν p) (nI 107) w mk p, ν') ∧ ∀ k, k ≠ 11 → ν' k = ν k := by
  have hP := hL.1
  have hA20 := hA.1
  have hl := (lo_le hT hL hp hw).1
  obtain ⟨p1, p2, p3, p4, p5⟩ := Led_ab hA.1 hL hp
  obtain ⟨ν', s1, s2, s3⟩ := spreadP (w := w) false hA hL hp p2
  have cp : ∀ {α : Type} (k : Option α), chk (nI p) 200 k = k := fun k => chk_nI (by omega) (by omega)
  have c0 : cut ν p 0 p = nI (pA ν p) := by rw [cut_le (Nat.le_refl p)]; exact p3
  have c1 : cut ν p 1 p = nI (pB ν p) := by rw [cut_le (Nat.le_refl p)]; exact p4
  obtain ⟨r, g1, g2⟩ := way_val (t := pA ν p) (netP hA hL hp (show lo (cut ν p) w p ≤ p + 1 by omega)).1 (show pB ν p < 20 by omega) (by omega)
  have v : V (cut ν p) (nI 107) w mk p = if r = -1 then 0 else 1 + r := by
    unfold V
    rw [if_neg (by decide), if_neg (by decide), if_neg (by decide), if_neg (by decide), if_neg (by decide), if_neg (by decide), if_neg (by decide), if_neg (by decide), if_neg (by decide), if_neg (by decide), if_neg (by decide), if_neg (by decide), c0, c1, g1]
  refine ⟨ν', ?_, s2⟩
  unfold f_X8_valueBy f_X8_closing
  rw [if_neg (by decide), if_pos (by decide), cp, cp, w_nat (show p < 2147483648 by omega), p4, show (0 : Int32) = b2 false from rfl, s1, Option.bind_some, cp, s2 3 (by omega), p3, chk_nI (show pA ν p < 20 by omega) (by omega), cp, chk_nI (show pA ν p < 20 by omega) (by omega), w_nat (show pA ν p < 2147483648 by omega), v]
  rcases s3 (pA ν p) p1 with ⟨f1, f2⟩ | ⟨d, f1, f2, f3⟩
  · rw [if_pos f1, Option.bind_some]
    rcases g2 with ⟨h1, _⟩ | ⟨k, _, _, _, h4, _⟩
    · rw [if_pos h1]; rfl
    · exact absurd h4 (f2 k)
  · have hd : d ≠ 0 := by
      intro h0
      rw [h0] at f3
      exact p5 f3.1
    have e : r = nI d := Sw_uniq g2 (Or.inr ⟨d, by omega, by omega, rfl, f3.1, fun i _ h => f3.2 i h⟩)
    rw [f2, if_neg (by rw [e99, w_eq (by omega) (by omega)]; omega), Option.bind_some, e, if_neg (m1_ne (by omega))]
end
section
/-! ===== L3: the model's gathered values: 108, 105, 114, 99 ===== -/
theorem pop_sb {x : Int32} {i : Nat} (hi : i < 32) : pop (sb x i true) = pop x + (if bt x i = true then 0 else 1) := by
  unfold pop
  have e : fb_ct (fun j => bt (sb x i true) j) 32 = fb_ct (fun j => if j = i then true else bt x j) 32 := by
    apply fb_ct_cong
    intro k hk
    exact bt_sb x true hi hk
  rw [e]
  have u := fb_ct_upd (fun j => bt x j) true hi
  have u2 : fb_ct (fun j => if j = i then true else bt x j) 32 + (if bt x i = true then 1 else 0) = fb_ct (fun j => bt x j) 32 + 1 := u
  cases hb : bt x i
  · rw [hb] at u2
    rw [if_neg (by simp)] at u2 ⊢
    omega
  · rw [hb] at u2
    rw [if_pos rfl] at u2 ⊢
    omega
theorem pop_0 : pop 0 = 0 := by
  unfold pop
  rw [fb_ct_zero]
  intro k _
  exact b_0 k
theorem fo_pop {g : Nat → Int32 × Int32 → Int32 × Int32} {h : Nat → Int32 → Int32} {l P : Nat} (hl : l ≤ P) (h1 : ∀ q, q < l → ∀ s, g q s = s) (h2 : ∀ q, l ≤ q → q < P → ∀ s, s.1 = nI (pop s.2) → (g q s).1 = nI (pop (g q s).2) ∧ (g q s).2 = h q s.2) : (fo g 0 P (0, 0)).1 = nI (pop (fo h l (P - l) 0)) := by
  have e : P = l + (P - l) := by omega
  conv => lhs; rw [e]
  rw [fo_add, fo_id l 0 _ (fun q _ hq s => h1 q (by omega) s), Nat.zero_add]
  have k := fo_rel (g := g) (h := h) (fun _ a b => a.1 = nI (pop a.2) ∧ a.2 = b) (P - l) l (0, 0) 0 ⟨by rw [pop_0]; rfl, rfl⟩ (fun q a b q1 q2 hab => by
    obtain ⟨k1, k2⟩ := h2 q q1 (by omega) a hab.1
    exact ⟨k1, by rw [k2, hab.2]⟩)
  rw [k.1, k.2]
def ga108 (ν : Mm) (p l q : Nat) (s : Int32 × Int32) : Int32 × Int32 := if l ≤ q then (if ν 3 q = ν 3 p then ((if ν 5 q < 900 then s.1 else if (999 : Int32) < ν 5 q then s.1 else s.1 + 1), sb s.2 ((ν 1 (ν 4 q).toNatClampNeg).toNatClampNeg - 97) true) else s) else s
theorem gat108 {A T P p : Nat} {w : Int32} {μ ν : Mm} (hA : Acc A μ ν) (hL : Led A T P μ ν) (hp : p < P) : f_X8_gathered (nI p) 108 w ν = some (fo (ga108 ν p (lo (cut ν p) w p)) 0 (p + 1) (0, 0)).1 := by
  have hP := hL.1
  obtain ⟨a1, a2, a3, a4, a5, a6⟩ := hA
  unfold f_X8_gathered
  refine up_loop' (fun n x (s : Int32 × Int32) => f_X8_gathered_L9 (nI p) 108 w ν n s.1 s.2 x) (p + 1) (fun s => some s.1) (ga108 ν p (lo (cut ν p) w p)) ?_ ?_ (p + 1) fuel 0 (0, 0) (by omega) (by unfold fuel; omega)
  · intro n s
    show f_X8_gathered_L9 (nI p) 108 w ν (n + 1) s.1 s.2 (nI (p + 1)) = _
    unfold f_X8_gathered_L9
    rw [if_pos (by rw [w_lt (by omega) (by omega)]; omega)]
  · intro n q s hq
    show f_X8_gathered_L9 (nI p) 108 w ν (n + 1) s.1 s.2 (nI q) = f_X8_gathered_L9 (nI p) 108 w ν n (ga108 ν p (lo (cut ν p) w p) q s).1 (ga108 ν p (lo (cut ν p) w p) q s).2 (nI (q + 1))
    conv => lhs; unfold f_X8_gathered_L9
    obtain ⟨_, _, _, _, a, b, c, m, z1, z2, z3, z4, z5, z6, z7, z8, z9⟩ := hL.2.2.2.1 q (by omega)
    obtain ⟨_, _, cc, u1, u2, u3⟩ := a6 b z2
    have cp : ∀ {α : Type} (k : Option α), chk (nI p) 200 k = k := fun k => chk_nI (by omega) (by omega)
    have cq : ∀ {α : Type} (k : Option α), chk (nI q) 200 k = k := fun k => chk_nI (by omega) (by omega)
    rw [if_neg (by rw [w_lt (by omega) (by omega)]; omega), cp, w_nat (show p < 2147483648 by omega), isIn_lo hL hp (by omega), Option.bind_some]
    unfold ga108
    by_cases hl : lo (cut ν p) w p ≤ q
    · rw [decide_eq_true hl, b2_t, if_neg (show ¬ (1 : Int32) = 0 by decide), if_pos hl, if_neg (show ¬ (108 : Int32) = 105 by decide)]
      unfold f_X8_gathered_J72
      rw [cq, cp, w_nat (show q < 2147483648 by omega), w_nat (show p < 2147483648 by omega)]
      by_cases h3 : ν 3 q = ν 3 p
      · rw [if_pos h3]
        rw [if_pos h3, if_neg (show ¬ (108 : Int32) = 114 by decide), cq, z7, chk_nI (show b < 20 by omega) (by omega), if_neg (show ¬ (108 : Int32) = 110 by decide), w_nat (show b < 2147483648 by omega), u3, show nI cc - 97 = nI (cc - 97) from w_sub (b := 97) u1, w_nat (show cc < 2147483648 by omega)]
        unfold f_X8_gathered_J133
        rw [if_neg (show ¬ (108 : Int32) = 115 by decide)]
        unfold f_X8_gathered_J151
        rw [if_neg (show ¬ (108 : Int32) = 109 by decide)]
        unfold f_X8_gathered_J171
        rw [if_pos (show (108 : Int32) = 108 from rfl), cq, w_nat (show q < 2147483648 by omega), z8, btwI, Option.bind_some, w_int (show c < 2147483648 by omega), show ((900 : Int32).toInt = 900) from rfl, show ((999 : Int32).toInt = 999) from rfl]
        by_cases g1 : c < 900
        · rw [decide_eq_false (by omega), b2_f, if_pos rfl, if_pos (show nI c < 900 from by rw [show (900 : Int32) = nI 900 from rfl, w_lt (by omega) (by omega)]; exact g1), show s.1 + 0 = s.1 from Int32.add_zero _]
          unfold f_X8_gathered_J206
          rw [if_neg (show ¬ (108 : Int32) = 114 by decide), if_neg (show ¬ (108 : Int32) = 99 by decide), with1, Option.bind_some, w_succ]
        · rw [if_neg (show ¬ nI c < 900 from by rw [show (900 : Int32) = nI 900 from rfl, w_lt (by omega) (by omega)]; exact g1)]
          by_cases g2 : 999 < c
          · rw [decide_eq_false (by omega), b2_f, if_pos rfl, if_pos (show (999 : Int32) < nI c from by rw [show (999 : Int32) = nI 999 from rfl, w_lt (by omega) (by omega)]; exact g2), show s.1 + 0 = s.1 from Int32.add_zero _]
            unfold f_X8_gathered_J206
            rw [if_neg (show ¬ (108 : Int32) = 114 by decide), if_neg (show ¬ (108 : Int32) = 99 by decide), with1, Option.bind_some, w_succ]
          · rw [decide_eq_true (by omega), b2_t, if_neg (show ¬ (1 : Int32) = 0 by decide), if_neg (show ¬ (999 : Int32) < nI c from by rw [show (999 : Int32) = nI 999 from rfl, w_lt (by omega) (by omega)]; exact g2)]
            unfold f_X8_gathered_J206
            rw [if_neg (show ¬ (108 : Int32) = 114 by decide), if_neg (show ¬ (108 : Int32) = 99 by decide), with1, Option.bind_some, w_succ]
      · rw [if_neg h3, if_neg h3, w_succ]
    · rw [decide_eq_false hl, b2_f, if_pos rfl, if_neg hl, w_succ]
def ga105 (ν : Mm) (p l q : Nat) (s : Int32 × Int32) : Int32 × Int32 := if l ≤ q then ((if ν 4 q = ν 3 p then s.1 + ν 5 q else s.1), (if ν 3 q = ν 3 p then sb s.2 ((ν 1 (ν 4 q).toNatClampNeg).toNatClampNeg - 97) true else s.2)) else s
theorem gat105 {A T P p : Nat} {w : Int32} {μ ν : Mm} (hA : Acc A μ ν) (hL : Led A T P μ ν) (hp : p < P) : f_X8_gathered (nI p) 105 w ν = some (fo (ga105 ν p (lo (cut ν p) w p)) 0 (p + 1) (0, 0)).1 := by
  have hP := hL.1
  obtain ⟨a1, a2, a3, a4, a5, a6⟩ := hA
  unfold f_X8_gathered
  refine up_loop' (fun n x (s : Int32 × Int32) => f_X8_gathered_L9 (nI p) 105 w ν n s.1 s.2 x) (p + 1) (fun s => some s.1) (ga105 ν p (lo (cut ν p) w p)) ?_ ?_ (p + 1) fuel 0 (0, 0) (by omega) (by unfold fuel; omega)
  · intro n s
    show f_X8_gathered_L9 (nI p) 105 w ν (n + 1) s.1 s.2 (nI (p + 1)) = _
    unfold f_X8_gathered_L9
    rw [if_pos (by rw [w_lt (by omega) (by omega)]; omega)]
  · intro n q s hq
    show f_X8_gathered_L9 (nI p) 105 w ν (n + 1) s.1 s.2 (nI q) = f_X8_gathered_L9 (nI p) 105 w ν n (ga105 ν p (lo (cut ν p) w p) q s).1 (ga105 ν p (lo (cut ν p) w p) q s).2 (nI (q + 1))
    conv => lhs; unfold f_X8_gathered_L9
    obtain ⟨_, _, _, _, a, b, c, m, z1, z2, z3, z4, z5, z6, z7, z8, z9⟩ := hL.2.2.2.1 q (by omega)
    obtain ⟨_, _, cc, u1, u2, u3⟩ := a6 b z2
    have cp : ∀ {α : Type} (k : Option α), chk (nI p) 200 k = k := fun k => chk_nI (by omega) (by omega)
    have cq : ∀ {α : Type} (k : Option α), chk (nI q) 200 k = k := fun k => chk_nI (by omega) (by omega)
    rw [if_neg (by rw [w_lt (by omega) (by omega)]; omega), cp, w_nat (show p < 2147483648 by omega), isIn_lo hL hp (by omega), Option.bind_some]
    unfold ga105
    by_cases hl : lo (cut ν p) w p ≤ q
    · rw [decide_eq_true hl, b2_t, if_neg (show ¬ (1 : Int32) = 0 by decide), if_pos hl, if_pos (show (105 : Int32) = 105 from rfl), cq, cp, w_nat (show q < 2147483648 by omega)]
      have J : ∀ v : Int32, f_X8_gathered_J72 (f_X8_gathered_L9 (nI p) 105 w ν n) (nI p) 105 w v s.2 (nI q) ν = f_X8_gathered_L9 (nI p) 105 w ν n v (if ν 3 q = ν 3 p then sb s.2 ((ν 1 (ν 4 q).toNatClampNeg).toNatClampNeg - 97) true else s.2) (nI (q + 1)) := by
        intro v
        unfold f_X8_gathered_J72
        rw [cq, cp, w_nat (show q < 2147483648 by omega), w_nat (show p < 2147483648 by omega)]
        by_cases h3 : ν 3 q = ν 3 p
        · rw [if_pos h3]
          rw [if_pos h3, if_neg (show ¬ (105 : Int32) = 114 by decide), cq, z7, chk_nI (show b < 20 by omega) (by omega), if_neg (show ¬ (105 : Int32) = 110 by decide), w_nat (show b < 2147483648 by omega), u3, show nI cc - 97 = nI (cc - 97) from w_sub (b := 97) u1, w_nat (show cc < 2147483648 by omega)]
          unfold f_X8_gathered_J133
          rw [if_neg (show ¬ (105 : Int32) = 115 by decide)]
          unfold f_X8_gathered_J151
          rw [if_neg (show ¬ (105 : Int32) = 109 by decide)]
          unfold f_X8_gathered_J171
          rw [if_neg (show ¬ (105 : Int32) = 108 by decide)]
          unfold f_X8_gathered_J206
          rw [if_neg (show ¬ (105 : Int32) = 114 by decide), if_neg (show ¬ (105 : Int32) = 99 by decide), with1, Option.bind_some, w_succ]
        · rw [if_neg h3, if_neg h3, w_succ]
      by_cases h4 : ν 4 q = ν 3 p
      · rw [if_pos h4, cq, J, if_pos h4]
      · rw [if_neg h4, J, if_neg h4, show s.1 + 0 = s.1 from Int32.add_zero _]
    · rw [decide_eq_false hl, b2_f, if_pos rfl, if_neg hl, w_succ]
def ga114 (ν : Mm) (p l q : Nat) (s : Int32 × Int32) : Int32 × Int32 := if l ≤ q then (if ν 3 q = ν 3 p then ((if bt s.2 (ν 4 q).toNatClampNeg = true then s.1 else s.1 + 1), sb s.2 (ν 4 q).toNatClampNeg true) else s) else s
theorem gat114 {A T P p : Nat} {w : Int32} {μ ν : Mm} (hA : Acc A μ ν) (hL : Led A T P μ ν) (hp : p < P) : f_X8_gathered (nI p) 114 w ν = some (fo (ga114 ν p (lo (cut ν p) w p)) 0 (p + 1) (0, 0)).1 := by
  have hP := hL.1
  obtain ⟨a1, a2, a3, a4, a5, a6⟩ := hA
  unfold f_X8_gathered
  refine up_loop' (fun n x (s : Int32 × Int32) => f_X8_gathered_L9 (nI p) 114 w ν n s.1 s.2 x) (p + 1) (fun s => some s.1) (ga114 ν p (lo (cut ν p) w p)) ?_ ?_ (p + 1) fuel 0 (0, 0) (by omega) (by unfold fuel; omega)
  · intro n s
    show f_X8_gathered_L9 (nI p) 114 w ν (n + 1) s.1 s.2 (nI (p + 1)) = _
    unfold f_X8_gathered_L9
    rw [if_pos (by rw [w_lt (by omega) (by omega)]; omega)]
  · intro n q s hq
    show f_X8_gathered_L9 (nI p) 114 w ν (n + 1) s.1 s.2 (nI q) = f_X8_gathered_L9 (nI p) 114 w ν n (ga114 ν p (lo (cut ν p) w p) q s).1 (ga114 ν p (lo (cut ν p) w p) q s).2 (nI (q + 1))
    conv => lhs; unfold f_X8_gathered_L9
    obtain ⟨_, _, _, _, a, b, c, m, z1, z2, z3, z4, z5, z6, z7, z8, z9⟩ := hL.2.2.2.1 q (by omega)
    obtain ⟨_, _, cc, u1, u2, u3⟩ := a6 b z2
    have cp : ∀ {α : Type} (k : Option α), chk (nI p) 200 k = k := fun k => chk_nI (by omega) (by omega)
    have cq : ∀ {α : Type} (k : Option α), chk (nI q) 200 k = k := fun k => chk_nI (by omega) (by omega)
    rw [if_neg (by rw [w_lt (by omega) (by omega)]; omega), cp, w_nat (show p < 2147483648 by omega), isIn_lo hL hp (by omega), Option.bind_some]
    unfold ga114
    by_cases hl : lo (cut ν p) w p ≤ q
    · rw [decide_eq_true hl, b2_t, if_neg (show ¬ (1 : Int32) = 0 by decide), if_pos hl, if_neg (show ¬ (114 : Int32) = 105 by decide)]
      unfold f_X8_gathered_J72
      rw [cq, cp, w_nat (show q < 2147483648 by omega), w_nat (show p < 2147483648 by omega)]
      by_cases h3 : ν 3 q = ν 3 p
      · rw [if_pos h3]
        rw [if_pos h3, if_pos (show (114 : Int32) = 114 from rfl), cq, if_neg (show ¬ (114 : Int32) = 110 by decide), z7, w_nat (show b < 2147483648 by omega)]
        unfold f_X8_gathered_J133
        rw [if_neg (show ¬ (114 : Int32) = 115 by decide)]
        unfold f_X8_gathered_J151
        rw [if_neg (show ¬ (114 : Int32) = 109 by decide)]
        unfold f_X8_gathered_J171
        rw [if_neg (show ¬ (114 : Int32) = 108 by decide)]
        unfold f_X8_gathered_J206
        rw [if_pos (show (114 : Int32) = 114 from rfl)]
        unfold f_X8_gathered_J218
        rw [has_eq _ (show b < 32 by omega), Option.bind_some]
        cases hbb : bt s.2 b
        · rw [b2_f, if_pos rfl, if_neg (show ¬ (false = true) by simp), with1, Option.bind_some, w_succ]
        · rw [b2_t, if_neg (show ¬ (1 : Int32) = 0 by decide), if_pos rfl, with1, Option.bind_some, w_succ, show s.1 + 0 = s.1 from Int32.add_zero _]
      · rw [if_neg h3, if_neg h3, w_succ]
    · rw [decide_eq_false hl, b2_f, if_pos rfl, if_neg hl, w_succ]
def ga99 (ν : Mm) (p l q : Nat) (s : Int32 × Int32) : Int32 × Int32 := if l ≤ q then (if ν 3 q = ν 3 p then ((if bt s.2 ((ν 1 (ν 4 q).toNatClampNeg).toNatClampNeg - 97) = true then s.1 else s.1 + 1), sb s.2 ((ν 1 (ν 4 q).toNatClampNeg).toNatClampNeg - 97) true) else s) else s
theorem gat99 {A T P p : Nat} {w : Int32} {μ ν : Mm} (hA : Acc A μ ν) (hL : Led A T P μ ν) (hp : p < P) : f_X8_gathered (nI p) 99 w ν = some (fo (ga99 ν p (lo (cut ν p) w p)) 0 (p + 1) (0, 0)).1 := by
  have hP := hL.1
  obtain ⟨a1, a2, a3, a4, a5, a6⟩ := hA
  unfold f_X8_gathered
  refine up_loop' (fun n x (s : Int32 × Int32) => f_X8_gathered_L9 (nI p) 99 w ν n s.1 s.2 x) (p + 1) (fun s => some s.1) (ga99 ν p (lo (cut ν p) w p)) ?_ ?_ (p + 1) fuel 0 (0, 0) (by omega) (by unfold fuel; omega)
  · intro n s
    show f_X8_gathered_L9 (nI p) 99 w ν (n + 1) s.1 s.2 (nI (p + 1)) = _
    unfold f_X8_gathered_L9
    rw [if_pos (by rw [w_lt (by omega) (by omega)]; omega)]
  · intro n q s hq
    show f_X8_gathered_L9 (nI p) 99 w ν (n + 1) s.1 s.2 (nI q) = f_X8_gathered_L9 (nI p) 99 w ν n (ga99 ν p (lo (cut ν p) w p) q s).1 (ga99 ν p (lo (cut ν p) w p) q s).2 (nI (q + 1))
    conv => lhs; unfold f_X8_gathered_L9
    obtain ⟨_, _, _, _, a, b, c, m, z1, z2, z3, z4, z5, z6, z7, z8, z9⟩ := hL.2.2.2.1 q (by omega)
    obtain ⟨_, _, cc, u1, u2, u3⟩ := a6 b z2
    have cp : ∀ {α : Type} (k : Option α), chk (nI p) 200 k = k := fun k => chk_nI (by omega) (by omega)
    have cq : ∀ {α : Type} (k : Option α), chk (nI q) 200 k = k := fun k => chk_nI (by omega) (by omega)
    rw [if_neg (by rw [w_lt (by omega) (by omega)]; omega), cp, w_nat (show p < 2147483648 by omega), isIn_lo hL hp (by omega), Option.bind_some]
    unfold ga99
    by_cases hl : lo (cut ν p) w p ≤ q
    · rw [decide_eq_true hl, b2_t, if_neg (show ¬ (1 : Int32) = 0 by decide), if_pos hl, if_neg (show ¬ (99 : Int32) = 105 by decide)]
      unfold f_X8_gathered_J72
      rw [cq, cp, w_nat (show q < 2147483648 by omega), w_nat (show p < 2147483648 by omega)]
      by_cases h3 : ν 3 q = ν 3 p
      · rw [if_pos h3]
        rw [if_pos h3, if_neg (show ¬ (99 : Int32) = 114 by decide), cq, z7, chk_nI (show b < 20 by omega) (by omega), if_neg (show ¬ (99 : Int32) = 110 by decide), w_nat (show b < 2147483648 by omega), u3, show nI cc - 97 = nI (cc - 97) from w_sub (b := 97) u1, w_nat (show cc < 2147483648 by omega)]
        unfold f_X8_gathered_J133
        rw [if_neg (show ¬ (99 : Int32) = 115 by decide)]
        unfold f_X8_gathered_J151
        rw [if_neg (show ¬ (99 : Int32) = 109 by decide)]
        unfold f_X8_gathered_J171
        rw [if_neg (show ¬ (99 : Int32) = 108 by decide)]
        unfold f_X8_gathered_J206
        rw [if_neg (show ¬ (99 : Int32) = 114 by decide), if_pos (show (99 : Int32) = 99 from rfl)]
        unfold f_X8_gathered_J218
        rw [has_eq _ (show (cc - 97) < 32 by omega), Option.bind_some]
        cases hbb : bt s.2 (cc - 97)
        · rw [b2_f, if_pos rfl, if_neg (show ¬ (false = true) by simp), with1, Option.bind_some, w_succ]
        · rw [b2_t, if_neg (show ¬ (1 : Int32) = 0 by decide), if_pos rfl, with1, Option.bind_some, w_succ, show s.1 + 0 = s.1 from Int32.add_zero _]
      · rw [if_neg h3, if_neg h3, w_succ]
    · rw [decide_eq_false hl, b2_f, if_pos rfl, if_neg hl, w_succ]
theorem mV108 {A T P p : Nat} {w mk : Int32} {μ ν : Mm} (hA : Acc A μ ν) (hL : Led A T P μ ν) (hT : T ≤ 800000) (hp : p < P) (hw : win w) : f_X8_valueBy (nI p) (nI 108) w mk ν = some (V (cut ν p) (nI 108) w mk p, ν) := by
  have v : V (cut ν p) (nI 108) w mk p = fo (cntS (cut ν p) (cut ν p 0 p) 900 999) (lo (cut ν p) w p) (p + 1 - lo (cut ν p) w p) 0 := by unfold V; rw [if_neg (by decide), if_neg (by decide), if_neg (by decide), if_neg (by decide), if_neg (by decide), if_neg (by decide), if_pos (by decide)]
  have hl := (lo_le hT hL hp hw).1
  unfold f_X8_valueBy
  rw [if_neg (by decide), if_neg (by decide), if_neg (by decide), if_neg (by decide), if_neg (by decide), if_neg (by decide), v, show nI 108 = (108 : Int32) from rfl, gat108 hA hL hp, Option.bind_some]
  rw [fo_fst (h := cntS (cut ν p) (cut ν p 0 p) 900 999) (show lo (cut ν p) w p ≤ p + 1 by omega)]
  · intro q hq s
    unfold ga108
    rw [if_neg (by omega)]
  · intro q h1 h2 s
    unfold ga108 cntS
    rw [if_pos h1, cut_le (show q ≤ p by omega), cut_le (Nat.le_refl p), cut_le (show q ≤ p by omega)]
    show (if ν 3 q = ν 3 p then _ else _ : Int32 × Int32).1 = if ν 3 q = ν 3 p then _ else _
    by_cases h3 : ν 3 q = ν 3 p
    · rw [if_pos h3, if_pos h3]
      rfl
    · rw [if_neg h3, if_neg h3]
theorem mV105 {A T P p : Nat} {w mk : Int32} {μ ν : Mm} (hA : Acc A μ ν) (hL : Led A T P μ ν) (hT : T ≤ 800000) (hp : p < P) (hw : win w) : f_X8_valueBy (nI p) (nI 105) w mk ν = some (V (cut ν p) (nI 105) w mk p, ν) := by
  have v : V (cut ν p) (nI 105) w mk p = fo (sumS (cut ν p) 1 (cut ν p 0 p)) (lo (cut ν p) w p) (p + 1 - lo (cut ν p) w p) 0 := by unfold V; rw [if_neg (by decide), if_neg (by decide), if_neg (by decide), if_neg (by decide), if_neg (by decide), if_pos (by decide)]
  have hl := (lo_le hT hL hp hw).1
  unfold f_X8_valueBy
  rw [if_neg (by decide), if_neg (by decide), if_neg (by decide), if_neg (by decide), if_neg (by decide), if_neg (by decide), v, show nI 105 = (105 : Int32) from rfl, gat105 hA hL hp, Option.bind_some]
  rw [fo_fst (h := sumS (cut ν p) 1 (cut ν p 0 p)) (show lo (cut ν p) w p ≤ p + 1 by omega)]
  · intro q hq s
    unfold ga105
    rw [if_neg (by omega)]
  · intro q h1 h2 s
    unfold ga105 sumS
    rw [if_pos h1, cut_le (show q ≤ p by omega), cut_le (Nat.le_refl p), cut_le (show q ≤ p by omega)]
    rfl
theorem mV114 {A T P p : Nat} {w mk : Int32} {μ ν : Mm} (hA : Acc A μ ν) (hL : Led A T P μ ν) (hT : T ≤ 800000) (hp : p < P) (hw : win w) : f_X8_valueBy (nI p) (nI 114) w mk ν = some (V (cut ν p) (nI 114) w mk p, ν) := by
  have v : V (cut ν p) (nI 114) w mk p = nI (pop (fo (recS (cut ν p) (cut ν p 0 p)) (lo (cut ν p) w p) (p + 1 - lo (cut ν p) w p) 0)) := by unfold V; rw [if_neg (by decide), if_neg (by decide), if_neg (by decide), if_neg (by decide), if_neg (by decide), if_neg (by decide), if_neg (by decide), if_neg (by decide), if_neg (by decide), if_neg (by decide), if_pos (by decide)]
  have hl := (lo_le hT hL hp hw).1
  unfold f_X8_valueBy
  rw [if_neg (by decide), if_neg (by decide), if_neg (by decide), if_neg (by decide), if_neg (by decide), if_neg (by decide), v, show nI 114 = (114 : Int32) from rfl, gat114 hA hL hp, Option.bind_some]
  rw [fo_pop (h := recS (cut ν p) (cut ν p 0 p)) (show lo (cut ν p) w p ≤ p + 1 by omega)]
  · intro q hq s
    unfold ga114
    rw [if_neg (by omega)]
  · intro q h1 h2 s hs
    obtain ⟨_, _, _, _, a, b, c, m, z1, z2, z3, z4, z5, z6, z7, z8, z9⟩ := hL.2.2.2.1 q (by have := hL.1; omega)
    have hA20 := hA.1
    unfold ga114 recS
    rw [if_pos h1, cut_le (show q ≤ p by omega), cut_le (Nat.le_refl p), cut_le (show q ≤ p by omega)]
    show _ ∧ _ = if ν 3 q = ν 3 p then sb s.2 (ν 4 q).toNatClampNeg true else s.2
    by_cases h3 : ν 3 q = ν 3 p
    · rw [if_pos h3, if_pos h3, z7, w_nat (by omega)]
      refine ⟨?_, rfl⟩
      show (if bt s.2 b = true then s.1 else s.1 + 1) = nI (pop (sb s.2 b true))
      rw [pop_sb (by omega), hs]
      by_cases hb : bt s.2 b = true
      · rw [if_pos hb, if_pos hb]; rfl
      · rw [if_neg hb, if_neg hb, w_succ]
    · rw [if_neg h3, if_neg h3]
      exact ⟨hs, rfl⟩
theorem mV99 {A T P p : Nat} {w mk : Int32} {μ ν : Mm} (hA : Acc A μ ν) (hL : Led A T P μ ν) (hT : T ≤ 800000) (hp : p < P) (hw : win w) : f_X8_valueBy (nI p) (nI 99) w mk ν = some (V (cut ν p) (nI 99) w mk p, ν) := by
  have v : V (cut ν p) (nI 99) w mk p = nI (pop (fo (cnyS (cut ν p) (cut ν p 0 p)) (lo (cut ν p) w p) (p + 1 - lo (cut ν p) w p) 0)) := by unfold V; rw [if_neg (by decide), if_pos (by decide)]
  have hl := (lo_le hT hL hp hw).1
  unfold f_X8_valueBy
  rw [if_neg (by decide), if_neg (by decide), if_neg (by decide), if_neg (by decide), if_neg (by decide), if_neg (by decide), v, show nI 99 = (99 : Int32) from rfl, gat99 hA hL hp, Option.bind_some]
  rw [fo_pop (h := cnyS (cut ν p) (cut ν p 0 p)) (show lo (cut ν p) w p ≤ p + 1 by omega)]
  · intro q hq s
    unfold ga99
    rw [if_neg (by omega)]
  · intro q h1 h2 s hs
    obtain ⟨_, _, _, _, a, b, c, m, z1, z2, z3, z4, z5, z6, z7, z8, z9⟩ := hL.2.2.2.1 q (by have := hL.1; omega)
    obtain ⟨_, _, cc, u1, u2, u3⟩ := hA.2.2.2.2.2 b z2
    have hA20 := hA.1
    unfold ga99 cnyS
    rw [if_pos h1, cut_le (show q ≤ p by omega), cut_le (Nat.le_refl p), cut_le (show q ≤ p by omega)]
    show _ ∧ _ = if ν 3 q = ν 3 p then sb s.2 ((ν 1 (ν 4 q).toNatClampNeg).toNatClampNeg - 97) true else s.2
    by_cases h3 : ν 3 q = ν 3 p
    · rw [if_pos h3, if_pos h3, z7, w_nat (show b < 2147483648 by omega), u3, w_nat (show cc < 2147483648 by omega)]
      refine ⟨?_, rfl⟩
      show (if bt s.2 (cc - 97) = true then s.1 else s.1 + 1) = nI (pop (sb s.2 (cc - 97) true))
      rw [pop_sb (by omega), hs]
      by_cases hb : bt s.2 (cc - 97) = true
      · rw [if_pos hb, if_pos hb]; rfl
      · rw [if_neg hb, if_neg hb, w_succ]
    · rw [if_neg h3, if_neg h3]
      exact ⟨hs, rfl⟩
end
section
/-! ===== L3: the model's values and conditions ===== -/
theorem mV {A T P p f : Nat} {w mk : Int32} {μ ν : Mm} (hA : Acc A μ ν) (hL : Led A T P μ ν) (hT : T ≤ 800000) (hp : p < P) (hw : win w) (hf : isF f) : ∃ ν', f_X8_valueBy (nI p) (nI f) w mk ν = some (V (cut ν p) (nI f) w mk p, ν') ∧ ∀ k, k ≠ 11 → ν' k = ν k := by
  have z : ∀ {r : Option (Int32 × Mm)} {v : Int32}, r = some (v, ν) → ∃ ν', r = some (v, ν') ∧ ∀ k, k ≠ 11 → ν' k = ν k := fun h => ⟨ν, h, fun _ _ => rfl⟩
  rcases hf with rfl | rfl | rfl | rfl | rfl | rfl | rfl | rfl | rfl | rfl | rfl | rfl | rfl
  · exact z (mV_small hL hA.1 hp (by omega))
  · exact z (mV99 hA hL hT hp hw)
  · exact mV100 hA hL hT hp hw
  · exact z (mV_small hL hA.1 hp (by omega))
  · exact mV103 hA hL hT hp hw
  · exact z (mV105 hA hL hT hp hw)
  · exact mV107 hA hL hT hp hw
  · exact z (mV108 hA hL hT hp hw)
  · exact z (mV109 hA hL hT hp hw)
  · exact z (mV110 hA hL hT hp hw)
  · exact z (mV_small hL hA.1 hp (by omega))
  · exact z (mV114 hA hL hT hp hw)
  · exact z (mV115 hA hL hT hp hw)
theorem Acc_f {A : Nat} {μ ν m : Mm} (h : Acc A μ ν) (hm : ∀ k, k ≠ 11 → m k = ν k) : Acc A μ m := by
  unfold Acc at h ⊢
  rw [hm 0 (by omega), hm 1 (by omega), hm 2 (by omega)]
  exact h
theorem Led_f {A T P : Nat} {μ ν m : Mm} (h : Led A T P μ ν) (hm : ∀ k, k ≠ 11 → m k = ν k) : Led A T P μ m := by
  unfold Led at h ⊢
  rw [hm 0 (by omega), hm 3 (by omega), hm 4 (by omega), hm 5 (by omega), hm 6 (by omega)]
  exact h
theorem cut_f {ν m : Mm} (hm : ∀ k, k ≠ 11 → m k = ν k) (p : Nat) : cut m p = cut ν p := by
  apply Sst_cut
  intro q _
  rw [hm 1 (by omega), hm 2 (by omega), hm 3 (by omega), hm 4 (by omega), hm 5 (by omega), hm 6 (by omega)]
  simp
theorem isTrue_eq {A T P C p : Nat} {mk : Int32} {μ ν : Mm} (hA : Acc A μ ν) (hL : Led A T P μ ν) (hC : Con C μ ν) (hT : T ≤ 800000) (hp : p < P) : ∀ (d c s : Nat), c < C → ν 15 c = nI s → s ≤ d → s ≤ 15 → ∀ m : Mm, (∀ k, k ≠ 11 → m k = ν k) → ∃ m', f_X8_isTrue d (nI c) (nI p) mk m = some (b2 (sem ν mk p d c), m') ∧ ∀ k, k ≠ 11 → m' k = ν k
  | 0, c, s, hc, hs, h, _, m, hm => by
    exfalso
    obtain ⟨k, s', n, hk, hs', e1, e2, e3, e4, e5, e6, h0, h3, h12⟩ := hC.2.2.2.2.2 c hc
    have hss : s' = s := (w_eq (by omega) (by omega)).mp (e3.symm.trans hs)
    have hk4 : k = 0 ∨ k = 3 ∨ (k = 1 ∨ k = 2) := by omega
    rcases hk4 with hk | hk | hk
    · have := (h0 hk).2.2.2.2.1; omega
    · obtain ⟨_, a, s1, _, _, _, _, e⟩ := h3 hk; omega
    · obtain ⟨a, b, s1, s2, _, _, _, _, _, _, _, _, e, _⟩ := h12 hk; omega
  | d + 1, c, s, hc, hs, h, h15, m, hm => by
    have hC30 := hC.1
    obtain ⟨k, s', n, hk, hs', e1, e2, e3, e4, e5, e6, h0, h3, h12⟩ := hC.2.2.2.2.2 c hc
    have hss : s' = s := (w_eq (by omega) (by omega)).mp (e3.symm.trans hs)
    have cc : ∀ {α : Type} (k : Option α), chk (nI c) 30 k = k := fun k => chk_nI (by omega) (by omega)
    have wc : (nI c).toNatClampNeg = c := w_nat (by omega)
    have hk4 : k = 0 ∨ k = 1 ∨ k = 2 ∨ k = 3 := by omega
    unfold f_X8_isTrue sem
    rw [cc, wc, hm 12 (by omega), e1]
    rcases hk4 with rfl | rfl | rfl | rfl
    · obtain ⟨f1, f2, f3, f4, f5, f6, f, w, g1, g2, g3, g4, g5⟩ := h0 rfl
      rw [if_neg (show ¬ nI 0 = 3 by decide), if_neg (show ¬ nI 0 = 3 by decide), cc, if_neg (show ¬ nI 0 = 1 by decide), if_neg (show ¬ nI 0 = 1 by decide), cc, if_neg (show ¬ nI 0 = 2 by decide), if_neg (show ¬ nI 0 = 2 by decide), cc, cc, hm 18 (by omega), hm 16 (by omega), g4, g5]
      obtain ⟨m2, v1, v2⟩ := mV (w := nI w) (mk := mk) (Acc_f hA hm) (Led_f hL hm) hT hp (show win (nI w) from ⟨by rw [w_int (by omega)]; omega, by rw [w_int (by omega)]; omega⟩) g1
      have M : ∀ k, k ≠ 11 → m2 k = ν k := fun k hk => (v2 k hk).trans (hm k hk)
      rw [v1, Option.bind_some, cc]
      refine ⟨m2, ?_, M⟩
      show (if m2 19 c = 0 then chk (nI c) 30 (if m2 17 c < V (cut m p) (nI f) (nI w) mk p then some ((0 : Int32), m2) else some (1, m2)) else chk (nI c) 30 (if V (cut m p) (nI f) (nI w) mk p < m2 17 c then some (0, m2) else some (1, m2))) = _
      rw [M 19 (by omega), M 17 (by omega), cc, cc, cut_f hm p]
      have hVC : VC ν mk p c = V (cut ν p) (nI f) (nI w) mk p := by unfold VC; rw [g4, g5]
      rw [hVC]
      unfold tst
      generalize V (cut ν p) (nI f) (nI w) mk p = v
      by_cases ha : ν 19 c = 0
      · rw [if_pos ha, if_pos ha]
        by_cases hb : ν 17 c < v
        · rw [if_pos hb, decide_eq_true hb]; rfl
        · rw [if_neg hb, decide_eq_false hb]; rfl
      · rw [if_neg ha, if_neg ha]
        by_cases hb : v < ν 17 c
        · rw [if_pos hb, decide_eq_true hb]; rfl
        · rw [if_neg hb, decide_eq_false hb]; rfl
    · obtain ⟨a, b, s1, s2, ha, hb, g1, g20, g2, g21, g3, g4, e, _⟩ := h12 (Or.inl rfl)
      rw [if_neg (show ¬ nI 1 = 3 by decide), if_neg (show ¬ nI 1 = 3 by decide), cc, if_pos (show nI 1 = 1 from rfl), if_pos (show nI 1 = 1 from rfl), cc, hm 13 (by omega), g1, g2, w_nat (show a < 2147483648 by omega), w_nat (show b < 2147483648 by omega)]
      obtain ⟨m1, u1, u2⟩ := isTrue_eq (mk := mk) hA hL hC hT hp d a s1 (by omega) g3 (by omega) (by omega) m hm
      obtain ⟨m2, v1, v2⟩ := isTrue_eq (mk := mk) hA hL hC hT hp d b s2 (by omega) g4 (by omega) (by omega) m1 u2
      rw [u1, Option.bind_some]
      cases sem ν mk p d a
      · exact ⟨m1, rfl, u2⟩
      · refine ⟨m2, ?_, v2⟩
        rw [b2_t, if_neg (show ¬ (1 : Int32) = 0 by decide), cc]
        dsimp only
        rw [u2 14 (by omega), g2, v1, Option.bind_some]
        cases sem ν mk p d b <;> rfl
    · obtain ⟨a, b, s1, s2, ha, hb, g1, g20, g2, g21, g3, g4, e, _⟩ := h12 (Or.inr rfl)
      rw [if_neg (show ¬ nI 2 = 3 by decide), if_neg (show ¬ nI 2 = 3 by decide), cc, if_neg (show ¬ nI 2 = 1 by decide), if_neg (show ¬ nI 2 = 1 by decide), cc, if_pos (show nI 2 = 2 from rfl), if_pos (show nI 2 = 2 from rfl), cc, hm 13 (by omega), g1, g2, w_nat (show a < 2147483648 by omega), w_nat (show b < 2147483648 by omega)]
      obtain ⟨m1, u1, u2⟩ := isTrue_eq (mk := mk) hA hL hC hT hp d a s1 (by omega) g3 (by omega) (by omega) m hm
      obtain ⟨m2, v1, v2⟩ := isTrue_eq (mk := mk) hA hL hC hT hp d b s2 (by omega) g4 (by omega) (by omega) m1 u2
      rw [u1, Option.bind_some]
      cases sem ν mk p d a
      · refine ⟨m2, ?_, v2⟩
        rw [b2_f, if_pos rfl, cc]
        dsimp only
        rw [u2 14 (by omega), g2, v1, Option.bind_some]
        cases sem ν mk p d b <;> rfl
      · exact ⟨m1, rfl, u2⟩
    · obtain ⟨_, a, s1, ha, g1, g20, g3, e⟩ := h3 rfl
      rw [if_pos (show nI 3 = 3 from rfl), if_pos (show nI 3 = 3 from rfl), cc, hm 13 (by omega), g1, w_nat (show a < 2147483648 by omega)]
      obtain ⟨m1, u1, u2⟩ := isTrue_eq (mk := mk) hA hL hC hT hp d a s1 (by omega) g3 (by omega) (by omega) m hm
      rw [u1, Option.bind_some]
      refine ⟨m1, ?_, u2⟩
      cases sem ν mk p d a <;> rfl
theorem Con_size {C c : Nat} {μ ν : Mm} (hC : Con C μ ν) (hc : c < C) : ∃ s, s ≤ 15 ∧ ν 15 c = nI s := by
  obtain ⟨k, s', n, hk, hs', e1, e2, e3, _⟩ := hC.2.2.2.2.2 c hc
  exact ⟨s', hs', e3⟩
theorem true16 {A T P C p c : Nat} {mk : Int32} {μ ν m : Mm} (hA : Acc A μ ν) (hL : Led A T P μ ν) (hC : Con C μ ν) (hT : T ≤ 800000) (hp : p < P) (hc : c < C) (hm : ∀ k, k ≠ 11 → m k = ν k) : ∃ m', f_X8_isTrue 16 (nI c) (nI p) mk m = some (b2 (sem ν mk p 16 c), m') ∧ ∀ k, k ≠ 11 → m' k = ν k := by
  obtain ⟨s, h1, h2⟩ := Con_size hC hc
  exact isTrue_eq hA hL hC hT hp 16 c s hc h2 (by omega) h1 m hm
/-- rule r is a reason -/
def rsn (ν : Mm) (x mk : Int32) (p r : Nat) : Bool := bt x r && sem ν mk p 16 (rcN ν r)
theorem isReason_eq {A T P C N p r : Nat} {x mk : Int32} {μ ν m : Mm} (hA : Acc A μ ν) (hL : Led A T P μ ν) (hC : Con C μ ν) (hR : Rul C N μ ν) (hT : T ≤ 800000) (hp : p < P) (hr : r < N) (hm : ∀ k, k ≠ 11 → m k = ν k) : ∃ m', f_X8_isReason (nI r) (nI p) x mk m = some (b2 (rsn ν x mk p r), m') ∧ ∀ k, k ≠ 11 → m' k = ν k := by
  have hN := hR.1
  have hC30 := hC.1
  obtain ⟨c, w, h1, h2, h3, h4, h5, h6, h7⟩ := hR.2.2.2.2.2 r hr
  unfold f_X8_isReason rsn rcN
  rw [has_eq _ (show r < 32 by omega), Option.bind_some, h5, w_nat (show c < 2147483648 by omega)]
  cases bt x r
  · exact ⟨m, rfl, hm⟩
  · obtain ⟨m', v1, v2⟩ := true16 (mk := mk) hA hL hC hT hp h1 hm
    rw [b2_t, if_neg (show ¬ (1 : Int32) = 0 by decide), chk_nI (show r < 12 by omega) (by omega), hm 20 (by omega), w_nat (show r < 2147483648 by omega), h5, v1, Option.bind_some]
    refine ⟨m', ?_, v2⟩
    cases sem ν mk p 16 c <;> rfl
theorem scoreBy_eq {A T P C N p : Nat} {x mk : Int32} {μ ν m : Mm} (hA : Acc A μ ν) (hL : Led A T P μ ν) (hC : Con C μ ν) (hR : Rul C N μ ν) (hT : T ≤ 800000) (hp : p < P) (hm : ∀ k, k ≠ 11 → m k = ν k) : ∃ m', f_X8_scoreBy (nI p) x mk m = some (fo (fun r s => if rsn ν x mk p r = true then s + ν 21 r else s) 0 N 0, m') ∧ ∀ k, k ≠ 11 → m' k = ν k := by
  have hN := hR.1
  unfold f_X8_scoreBy
  have hh := up_loopR (fun f y (s : Int32 × Mm) => f_X8_scoreBy_L6 (nI p) x mk f s.1 y s.2) N (fun s => some (s.1, s.2)) (fun i s => s.1 = fo (fun r s => if rsn ν x mk p r = true then s + ν 21 r else s) 0 i 0 ∧ ∀ k, k ≠ 11 → s.2 k = ν k) ?_ ?_ N fuel 0 (0, m) (by omega) (by unfold fuel; omega) ⟨rfl, hm⟩
  · obtain ⟨s, e1, e2, e3⟩ := hh
    exact ⟨s.2, by rw [← e2]; exact e1, e3⟩
  · intro f s hs
    show f_X8_scoreBy_L6 (nI p) x mk (f + 1) s.1 (nI N) s.2 = _
    unfold f_X8_scoreBy_L6
    rw [hs.2 0 (by omega), hR.2.2.1, if_pos (by rw [w_le (by omega) (by omega)]; omega)]
  · intro f i s hi hs
    obtain ⟨m', v1, v2⟩ := isReason_eq (x := x) (mk := mk) hA hL hC hR hT hp hi hs.2
    refine ⟨(fo (fun r s => if rsn ν x mk p r = true then s + ν 21 r else s) 0 (i + 1) 0, m'), ?_, rfl, v2⟩
    show f_X8_scoreBy_L6 (nI p) x mk (f + 1) s.1 (nI i) s.2 = f_X8_scoreBy_L6 (nI p) x mk f (fo (fun r s => if rsn ν x mk p r = true then s + ν 21 r else s) 0 (i + 1) 0) (nI (i + 1)) m'
    conv => lhs; unfold f_X8_scoreBy_L6
    rw [hs.2 0 (by omega), hR.2.2.1, if_neg (by rw [w_le (by omega) (by omega)]; omega), v1, Option.bind_some, fo_succ, Nat.zero_add, ← hs.1, w_succ]
    cases rsn ν x mk p i
    · rw [b2_f, if_pos rfl, if_neg (show ¬ (false = true) by simp), show s.1 + 0 = s.1 from Int32.add_zero _]
    · rw [b2_t, if_neg (show ¬ (1 : Int32) = 0 by decide), if_pos rfl, chk_nI (show i < 12 by omega) (by omega)]
      dsimp only
      rw [v2 21 (by omega), w_nat (show i < 2147483648 by omega)]
theorem wasReason_eq {A T P C N p r : Nat} {μ ν m : Mm} (hA : Acc A μ ν) (hL : Led A T P μ ν) (hC : Con C μ ν) (hR : Rul C N μ ν) (hT : T ≤ 800000) (hp : p < P) (hr : r < N) (hJ : Jud1 C N μ ν p) (hm : ∀ k, k ≠ 11 → m k = ν k) : ∃ m', f_X8_wasReason (nI r) (nI p) m = some (b2 (bt (μ 32 p) r), m') ∧ ∀ k, k ≠ 11 → m' k = ν k := by
  have hP := hL.1
  obtain ⟨k, _, _, j2, _⟩ := hJ
  obtain ⟨m', v1, v2⟩ := isReason_eq (x := ν 8 p) (mk := ν 7 p) hA hL hC hR hT hp hr hm
  unfold f_X8_wasReason
  refine ⟨m', ?_, v2⟩
  rw [chk_nI (show p < 200 by omega) (by omega), chk_nI (show p < 200 by omega) (by omega), w_nat (show p < 2147483648 by omega), hm 8 (by omega), hm 7 (by omega), v1, Option.bind_some, gnb, j2 r hr]
  rfl
/-- the component's set of reasons -/
theorem find_eq {C N p : Nat} {m μ ν : Mm} (hC : Con C μ ν) (hR : Rul C N μ ν) (hI : JI μ ν p C m) : ∃ x, f_X6_findReasons_13 m = some x ∧ ∀ r, r < 32 → bt x r = (decide (r < N) && rsn ν (ν 0 30) (μ 2 3) p r) := by
  have hN := hR.1
  have hC30 := hC.1
  unfold f_X6_findReasons_13
  refine up_loopR (fun f y (s : Int32) => f_X6_findReasons_13_L4 m f s y) N (fun s => some s) (fun i s => ∀ r, r < 32 → bt s r = (decide (r < i) && rsn ν (ν 0 30) (μ 2 3) p r)) ?_ ?_ N fuel 0 0 (by omega) (by unfold fuel; omega) (fun r _ => by rw [b_0, decide_eq_false (by omega)]; rfl)
  · intro f s _
    show f_X6_findReasons_13_L4 m (f + 1) s (nI N) = _
    unfold f_X6_findReasons_13_L4
    rw [hI.1 26 (by omega) (by omega) (by omega) (by omega), hR.2.1, if_pos (by rw [w_le (by omega) (by omega)]; omega)]
  · intro f i s hi hs
    obtain ⟨c, w, h1, h2, h3, h4, h5, h6, h7⟩ := hR.2.2.2.2.2 i hi
    show ∃ s', f_X6_findReasons_13_L4 m (f + 1) s (nI i) = f_X6_findReasons_13_L4 m f s' (nI (i + 1)) ∧ _
    conv => enter [1, s', 1, 1]; unfold f_X6_findReasons_13_L4
    rw [hI.1 26 (by omega) (by omega) (by omega) (by omega), hI.1 27 (by omega) (by omega) (by omega) (by omega), hR.2.1, if_neg (by rw [w_le (by omega) (by omega)]; omega), hasBit_eq _ (show i < 32 by omega), Option.bind_some, w_nat (show i < 2147483648 by omega), chk_nI (show i < 12 by omega) (by omega), h4, chk_nI (show c < 30 by omega) (by omega), w_nat (show c < 2147483648 by omega), (hI.2 c h1).1, hR.2.2.2.1, w_succ]
    have hrc : rcN ν i = c := by unfold rcN; rw [h5, w_nat (by omega)]
    have ex : ∀ (b : Bool), b = rsn ν (ν 0 30) (μ 2 3) p i → ∀ r, r < 32 → (if r = i then b else bt s r) = (decide (r < i + 1) && rsn ν (ν 0 30) (μ 2 3) p r) := by
      intro b hb r hr
      by_cases hri : r = i
      · rw [if_pos hri, hri, decide_eq_true (by omega), hb]; rfl
      · rw [if_neg hri, hs r hr]
        by_cases h : r < i
        · rw [decide_eq_true h, decide_eq_true (by omega)]
        · rw [decide_eq_false h, decide_eq_false (by omega)]
    have exs : rsn ν (ν 0 30) (μ 2 3) p i = false → ∀ r, r < 32 → bt s r = (decide (r < i + 1) && rsn ν (ν 0 30) (μ 2 3) p r) := by
      intro hb r hr
      rw [← ex false hb.symm r hr]
      by_cases hri : r = i
      · rw [if_pos hri, hri, hs i (by omega), hb, Bool.and_false]
      · rw [if_neg hri]
    have hrs : rsn ν (ν 0 30) (μ 2 3) p i = (bt (ν 0 30) i && sem ν (μ 2 3) p 16 c) := by unfold rsn; rw [hrc]
    cases h8 : bt (ν 0 30) i
    · refine ⟨s, ?_, exs (by rw [hrs, h8]; rfl)⟩
      rw [b2_f, if_pos rfl]
    · rw [b2_t, if_neg (show ¬ (1 : Int32) = 0 by decide)]
      cases h9 : sem ν (μ 2 3) p 16 c
      · refine ⟨s, ?_, exs (by rw [hrs, h9, Bool.and_false])⟩
        rw [b2_f, if_pos rfl]
      · rw [b2_t, if_neg (show ¬ (1 : Int32) = 0 by decide), withBit1, Option.bind_some]
        refine ⟨_, rfl, fun r hr => ?_⟩
        rw [bt_sb _ _ (by omega) hr]
        exact ex true (by rw [hrs, h8, h9]; rfl) r hr
end
section
/-! ===== L3: valueOf, holds, scoreNow, reasons, reasonRule ===== -/
theorem R_f11 {t : Nat} {μ ν μ' ν' : Mm} (hμ : ∀ k, k ≠ 11 → k ≠ 12 → k ≠ 24 → k ≠ 25 → μ' k = μ k) (hν : ∀ k, k ≠ 11 → ν' k = ν k) (h : R t μ ν) : R t μ' ν' :=
  R_fr hμ (fun k _ h2 _ => hν k h2) (fun j _ _ => by rw [hν 0 (by omega)]) h
theorem op_valueOf {t : Nat} {μ ν : Mm} (a f : Int32) (hf : ∃ c, c < 65536 ∧ f = nI c) (w : Int32) (o : Nat → Int64) (h : R t μ ν) : ∃ c μ' o' x ν', f_L_valueOf_0_o a f w μ o = some (c, μ', o') ∧ f_X8_valueOf a f w ν = some (x, ν') ∧ Res t c o' x μ' ν' := by
  obtain ⟨fc, hfc, rfl⟩ := hf
  have hz : R t μ (up2 ν 0 0 0) := R_thr 0 h
  unfold f_X8_valueOf f_L_valueOf_0_o f_X7_valueOf
  generalize e : up2 ν 0 0 0 = ν1 at hz ⊢
  have z : ν1 0 0 = 0 := by rw [← e]; rfl
  have hz2 := hz
  obtain ⟨ht, A, T, P, F, C, N, hA, hT, hL, hK, hC, hR, hc, hJ⟩ := hz
  have hP := hL.1
  rcases idx_cases a P with hb | ⟨p, hp, rfl⟩
  · rw [reqP_bad hP hL.2.1 hb, isP_bad hP hL.2.2.1 hb]
    exact ⟨1, μ, o, 0, up2 ν1 0 0 1, rfl, rfl, rfl, fun h => absurd h (by decide), R_thr 1 hz2⟩
  · rw [reqP_ok hP hL.2.1 hp, isP_ok hP hL.2.2.1 hp, feat_c hfc, feat_m hfc]
    cases hfb : isFb fc
    · exact ⟨2, μ, o, 0, up2 ν1 0 0 2, rfl, rfl, rfl, fun h => absurd h (by decide), R_thr 2 hz2⟩
    · rcases win_doors w with ⟨hw, hw1, hw2⟩ | ⟨hw, hw1, hw2⟩
      · rw [hw1, hw2]
        obtain ⟨μ', c1, c2⟩ := compV hA hL (Nat.le_trans hT.1 ht) hp hw (isFb_isF hfb)
        obtain ⟨ν', v1, v2⟩ := mV (mk := μ 2 3) hA hL (Nat.le_trans hT.1 ht) hp hw (isFb_isF hfb)
        rw [c1, ← hA.2.2.2.1, v1]
        refine ⟨0, μ', vp_updL o (0 : Int32).toNatClampNeg (V (cut ν1 p) (nI fc) w (μ 2 3) p).toInt64, V (cut ν1 p) (nI fc) w (μ 2 3) p, ν', rfl, rfl, by rw [v2 0 (by omega)]; exact z, fun _ => rfl, R_f11 (fun k h1 h2 _ _ => c2 k h1 h2) v2 hz2⟩
      · rw [hw1, hw2]
        exact ⟨2, μ, o, 0, up2 ν1 0 0 2, rfl, rfl, rfl, fun h => absurd h (by decide), R_thr 2 hz2⟩
theorem op_holds {t : Nat} {μ ν : Mm} (a b : Int32) (o : Nat → Int64) (h : R t μ ν) : ∃ c μ' o' w ν', f_L_holds_0_o a b μ o = some (c, μ', o') ∧ f_X8_holds a b ν = some (w, ν') ∧ (w = 0 ∨ w = 1) ∧ Res t c o' w μ' ν' := by
  have hz : R t μ (up2 ν 0 0 0) := R_thr 0 h
  unfold f_X8_holds f_L_holds_0_o f_X7_holds
  generalize e : up2 ν 0 0 0 = ν1 at hz ⊢
  have z : ν1 0 0 = 0 := by rw [← e]; rfl
  have hz2 := hz
  obtain ⟨ht, A, T, P, F, C, N, hA, hT, hL, hK, hC, hR, hc, hJ⟩ := hz
  have hP := hL.1
  have hC30 := hC.1
  rcases idx_cases a C with hb | ⟨j, hj, rfl⟩
  · rw [reqC_bad hC30 hC.2.1 hb, isC_bad hC30 hC.2.2.1 hb]
    refine ⟨1, μ, o, 0, up2 ν1 0 0 1, rfl, ?_, Or.inl rfl, rfl, fun h => absurd h (by decide), R_thr 1 hz2⟩
    simp [f_X8_isWrong, gnz0]
  · rw [reqC_ok hC30 hC.2.1 hj, isC_ok hC30 hC.2.2.1 hj]
    rcases idx_cases b P with hb | ⟨p, hp, rfl⟩
    · rw [reqP_bad hP hL.2.1 hb, isP_bad hP hL.2.2.1 hb]
      refine ⟨2, μ, o, 0, up2 ν1 0 0 2, rfl, ?_, Or.inl rfl, rfl, fun h => absurd h (by decide), R_thr 2 hz2⟩
      simp [f_X8_isWrong, gnz0]
    · rw [reqP_ok hP hL.2.1 hp, isP_ok hP hL.2.2.1 hp, ← hA.2.2.2.1]
      obtain ⟨μ', c1, c2, c3⟩ := judge_eq (k := j + 1) hA hL hC (Nat.le_trans hT.1 ht) hp (by omega)
      obtain ⟨ν', v1, v2⟩ := true16 (mk := μ 2 3) hA hL hC (Nat.le_trans hT.1 ht) hp hj (m := ν1) (fun _ _ => rfl)
      refine ⟨0, μ', vp_updL o (0 : Int32).toNatClampNeg (b2 (sem ν1 (μ 2 3) p 16 j)).toInt64, b2 (sem ν1 (μ 2 3) p 16 j), ν', ?_, ?_, b2_01 _, by rw [v2 0 (by omega)]; exact z, fun _ => rfl, R_f11 c2 v2 hz2⟩
      · rw [Option.bind_some, if_pos rfl, Option.bind_some, if_pos rfl, w_succ, c1, Option.bind_some, chk_nI (show j < 30 by omega) (by omega), w_nat (show j < 2147483648 by omega), (c3 j (by omega)).1, gnb, Option.bind_some, if_pos rfl]
        exact b2_w o _
      · rw [Option.bind_some, if_neg (by decide), Option.bind_some, if_neg (by decide), v1, Option.bind_some, gnb]
theorem Rul_f {C N : Nat} {μ ν m : Mm} (h : Rul C N μ ν) (hm : ∀ k, k ≠ 11 → k ≠ 12 → k ≠ 24 → k ≠ 25 → m k = μ k) : Rul C N m ν := by
  unfold Rul at h ⊢
  rw [hm 26 (by omega) (by omega) (by omega) (by omega), hm 27 (by omega) (by omega) (by omega) (by omega), hm 28 (by omega) (by omega) (by omega) (by omega)]
  exact h
theorem wg_eq {ν : Mm} {x y mk : Int32} {p N : Nat} (hN : N ≤ 12) (hx : ∀ r, r < 32 → bt x r = (decide (r < N) && rsn ν y mk p r)) : fo (wgS ν x) 0 N 0 = fo (fun r s => if rsn ν y mk p r = true then s + ν 21 r else s) 0 N 0 := by
  apply fo_congr
  intro r _ hr s
  unfold wgS
  rw [hx r (by omega), decide_eq_true (show r < N by omega), Bool.true_and]
theorem op_scoreNow {t : Nat} {μ ν : Mm} (a : Int32) (o : Nat → Int64) (h : R t μ ν) : ∃ c μ' o' w ν', f_L_scoreNow_0_o a μ o = some (c, μ', o') ∧ f_X8_scoreNow a ν = some (w, ν') ∧ Res t c o' w μ' ν' := by
  have hz : R t μ (up2 ν 0 0 0) := R_thr 0 h
  unfold f_X8_scoreNow f_L_scoreNow_0_o f_X7_scoreNow
  generalize e : up2 ν 0 0 0 = ν1 at hz ⊢
  have z : ν1 0 0 = 0 := by rw [← e]; rfl
  have hz2 := hz
  obtain ⟨ht, A, T, P, F, C, N, hA, hT, hL, hK, hC, hR, hc, hJ⟩ := hz
  have hP := hL.1
  rcases idx_cases a P with hb | ⟨p, hp, rfl⟩
  · rw [reqP_bad hP hL.2.1 hb, isP_bad hP hL.2.2.1 hb]
    exact ⟨1, μ, o, 0, up2 ν1 0 0 1, rfl, rfl, rfl, fun h => absurd h (by decide), R_thr 1 hz2⟩
  · rw [reqP_ok hP hL.2.1 hp, isP_ok hP hL.2.2.1 hp, ← hA.2.2.2.1, hC.2.1]
    obtain ⟨μ', c1, c2⟩ := judge_eq (k := C) hA hL hC (Nat.le_trans hT.1 ht) hp (Nat.le_refl C)
    obtain ⟨x, f1, f2⟩ := find_eq hC hR c2
    obtain ⟨ν', v1, v2⟩ := scoreBy_eq (x := ν1 0 30) (mk := μ 2 3) hA hL hC hR (Nat.le_trans hT.1 ht) hp (m := ν1) (fun _ _ => rfl)
    have e5 := weightOf_eq (x := x) (Rul_f hR c2.1)
    rw [wg_eq hR.1 f2] at e5
    refine ⟨0, μ', vp_updL o (0 : Int32).toNatClampNeg (fo (fun r s => if rsn ν1 (ν1 0 30) (μ 2 3) p r = true then s + ν1 21 r else s) 0 N 0).toInt64, fo (fun r s => if rsn ν1 (ν1 0 30) (μ 2 3) p r = true then s + ν1 21 r else s) 0 N 0, ν', ?_, ?_, by rw [v2 0 (by omega)]; exact z, fun _ => rfl, R_f11 c2.1 v2 hz2⟩
    · rw [Option.bind_some, if_pos rfl, c1, Option.bind_some, f1, Option.bind_some, e5, Option.bind_some, Option.bind_some, if_pos rfl, chk0]
    · rw [Option.bind_some, if_neg (by decide), v1, Option.bind_some]
theorem set_ct {N : Nat} {x : Int32} (hN : N ≤ 12) (hx : ∀ i, N ≤ i → bt x i = false) : pop x = fb_ct (fun i => bt x i) N := by
  unfold pop
  rw [show (32 : Nat) = N + (32 - N) by omega, fb_ct_split]
  have e2 : fb_ct (fun k => bt x (N + k)) (32 - N) = 0 := by
    rw [fb_ct_zero]
    intro k hk
    exact hx _ (by omega)
  rw [e2]; rfl
theorem op_reasons {t : Nat} {μ ν : Mm} (a : Int32) (o : Nat → Int64) (h : R t μ ν) : ∃ c o' w ν', f_L_reasons_0_o a μ o = some (c, o') ∧ f_X8_reasons a ν = some (w, ν') ∧ Res t c o' w μ ν' := by
  have hz : R t μ (up2 ν 0 0 0) := R_thr 0 h
  unfold f_X8_reasons f_L_reasons_0_o f_X7_reasons
  generalize e : up2 ν 0 0 0 = ν1 at hz ⊢
  have z : ν1 0 0 = 0 := by rw [← e]; rfl
  have hz2 := hz
  obtain ⟨ht, A, T, P, F, C, N, hA, hT, hL, hK, hC, hR, hc, hJ⟩ := hz
  have hP := hL.1
  have hN := hR.1
  rcases idx_cases a P with hb | ⟨p, hp, rfl⟩
  · rw [reqP_bad hP hL.2.1 hb, isP_bad hP hL.2.2.1 hb]
    exact ⟨1, o, 0, up2 ν1 0 0 1, rfl, rfl, rfl, fun h => absurd h (by decide), R_thr 1 hz2⟩
  · rw [reqP_ok hP hL.2.1 hp, isP_ok hP hL.2.2.1 hp]
    have hJp := hJ p hp
    obtain ⟨k, _, j1, _⟩ := hJp
    have hx : ∀ i, N ≤ i → bt (μ 32 p) i = false := fun i hi => (j1 i hi).2
    have e1 : f_J6_bitCount_0f7a4 (μ 32 p) = some (nI (fb_ct (fun i => bt (μ 32 p) i) N)) := by
      rw [bc_set (fun j h1 _ => hx j (by omega)), set_ct hN hx]
    have e2 : ∃ ν', f_X8_reasonMany (nI p) ν1 = some (nI (fb_ct (fun i => bt (μ 32 p) i) N), ν') ∧ ∀ k, k ≠ 11 → ν' k = ν1 k := by
      unfold f_X8_reasonMany
      have hh := up_loopR (fun f y (s : Int32 × Mm) => f_X8_reasonMany_L4 (nI p) f s.1 y s.2) N (fun s => some (s.1, s.2)) (fun i s => s.1 = nI (fb_ct (fun i => bt (μ 32 p) i) i) ∧ ∀ k, k ≠ 11 → s.2 k = ν1 k) ?_ ?_ N fuel 0 (0, ν1) (by omega) (by unfold fuel; omega) ⟨rfl, fun _ _ => rfl⟩
      · obtain ⟨s, e1, e2, e3⟩ := hh
        exact ⟨s.2, by rw [← e2]; exact e1, e3⟩
      · intro f s hs
        show f_X8_reasonMany_L4 (nI p) (f + 1) s.1 (nI N) s.2 = _
        unfold f_X8_reasonMany_L4
        rw [hs.2 0 (by omega), hR.2.2.1, if_pos (by rw [w_le (by omega) (by omega)]; omega)]
      · intro f i s hi hs
        obtain ⟨m', v1, v2⟩ := wasReason_eq hA hL hC hR (Nat.le_trans hT.1 ht) hp hi (hJ p hp) hs.2
        refine ⟨(nI (fb_ct (fun i => bt (μ 32 p) i) (i + 1)), m'), ?_, rfl, v2⟩
        show f_X8_reasonMany_L4 (nI p) (f + 1) s.1 (nI i) s.2 = f_X8_reasonMany_L4 (nI p) f (nI (fb_ct (fun i => bt (μ 32 p) i) (i + 1))) (nI (i + 1)) m'
        conv => lhs; unfold f_X8_reasonMany_L4
        rw [hs.2 0 (by omega), hR.2.2.1, if_neg (by rw [w_le (by omega) (by omega)]; omega), v1, Option.bind_some, fb_ct_succ, hs.1, w_succ]
        cases bt (μ 32 p) i
        · rw [b2_f, if_pos rfl]
          show f_X8_reasonMany_L4 (nI p) f (nI _ + nI 0) _ _ = _
          rw [w_add]; rfl
        · rw [b2_t, if_neg (show ¬ (1 : Int32) = 0 by decide), w_succ]; rfl
    obtain ⟨ν', v1, v2⟩ := e2
    refine ⟨0, vp_updL o (0 : Int32).toNatClampNeg (nI (fb_ct (fun i => bt (μ 32 p) i) N)).toInt64, nI (fb_ct (fun i => bt (μ 32 p) i) N), ν', ?_, ?_, by rw [v2 0 (by omega)]; exact z, fun _ => rfl, R_f11 (fun k _ _ _ _ => rfl) v2 hz2⟩
    · rw [Option.bind_some, if_pos rfl, chk_nI (show p < 200 by omega) (by omega), w_nat (show p < 2147483648 by omega), e1, Option.bind_some, Option.bind_some, if_pos rfl, chk0]
    · rw [Option.bind_some, if_neg (by decide), v1, Option.bind_some]
/-- a loop that counts up with a state and leaves at the first hit -/
theorem find_loopR {σ ρ : Type} (F : Nat → Int32 → σ → Option ρ) (P : Nat) (K : Nat → σ → Option ρ) (p : Nat → Bool) (I : Nat → σ → Prop) (J : σ → Prop)
    (h0 : ∀ n s, I P s → F (n + 1) (nI P) s = K P s ∧ J s)
    (h1 : ∀ n i s, i < P → I i s → ∃ s', (p i = true → F (n + 1) (nI i) s = K i s' ∧ J s') ∧ (p i = false → F (n + 1) (nI i) s = F n (nI (i + 1)) s' ∧ I (i + 1) s')) :
    ∀ (m n i : Nat) (s : σ), i + m = P → m < n → I i s → ∃ s', F n (nI i) s = K (fst1 p i m) s' ∧ J s'
  | 0, 0, _, _, _, h, _ => by omega
  | 0, n + 1, i, s, he, _, hI => by
    have : i = P := by omega
    subst this
    exact ⟨s, h0 n s hI⟩
  | m + 1, 0, _, _, _, h, _ => by omega
  | m + 1, n + 1, i, s, he, hn, hI => by
    obtain ⟨s', e1, e2⟩ := h1 n i s (by omega) hI
    unfold fst1
    cases hp : p i
    · rw [if_neg (by simp)]
      obtain ⟨e3, e4⟩ := e2 hp
      rw [e3]
      exact find_loopR F P K p I J h0 h1 m n (i + 1) s' (by omega) (by omega) e4
    · rw [if_pos rfl]
      exact ⟨s', e1 hp⟩
/-- the rule at a rank -/
def rrP (x a : Int32) (r : Nat) : Bool := bt x r && decide (nI (fb_ct (fun i => bt x i) r) = a)
def rr (x a : Int32) (N : Nat) : Nat := fst1 (rrP x a) 0 N
def rrI (x a : Int32) (N : Nat) : Int32 := if rr x a N = N then -1 else nI (rr x a N)
theorem atRank_eq {N : Nat} {x a : Int32} {μ : Mm} (hN : N ≤ 12) (e : μ 26 3 = nI N) : f_X6_ruleAtRank x a μ = some (rrI x a N) := by
  unfold f_X6_ruleAtRank rrI rr
  obtain ⟨s', e1, _⟩ := find_loopR (fun f y (s : Int32) => f_X6_ruleAtRank_L5 x a μ f s y) N (fun i _ => some (if i = N then -1 else nI i)) (rrP x a) (fun i s => s = nI (fb_ct (fun i => bt x i) i)) (fun _ => True) (by
    intro f s _
    refine ⟨?_, trivial⟩
    show f_X6_ruleAtRank_L5 x a μ (f + 1) s (nI N) = _
    unfold f_X6_ruleAtRank_L5
    rw [e, if_pos (by rw [w_le (by omega) (by omega)]; omega), if_pos rfl]) (by
    intro f i s hi hs
    refine ⟨nI (fb_ct (fun i => bt x i) (i + 1)), fun hp => ⟨?_, trivial⟩, fun hp => ⟨?_, rfl⟩⟩
    · show f_X6_ruleAtRank_L5 x a μ (f + 1) s (nI i) = _
      unfold f_X6_ruleAtRank_L5
      unfold rrP at hp
      rw [Bool.and_eq_true, decide_eq_true_eq] at hp
      rw [e, if_neg (by rw [w_le (by omega) (by omega)]; omega), hasBit_eq _ (show i < 32 by omega), Option.bind_some, hp.1, b2_t, if_neg (by decide), hs, if_pos hp.2, if_neg (by omega)]
    · show f_X6_ruleAtRank_L5 x a μ (f + 1) s (nI i) = f_X6_ruleAtRank_L5 x a μ f (nI (fb_ct (fun i => bt x i) (i + 1))) (nI (i + 1))
      conv => lhs; unfold f_X6_ruleAtRank_L5
      unfold rrP at hp
      rw [e, if_neg (by rw [w_le (by omega) (by omega)]; omega), hasBit_eq _ (show i < 32 by omega), Option.bind_some, fb_ct_succ, w_succ, hs]
      cases hb : bt x i
      · rw [b2_f, if_pos rfl]; rfl
      · rw [hb, Bool.true_and, decide_eq_false_iff_not] at hp
        rw [b2_t, if_neg (by decide), if_neg hp, w_succ]; rfl) N fuel 0 0 (by omega) (by unfold fuel; omega) rfl
  exact e1
theorem neg1 (a : Int32) {n : Nat} : a - nI n + (-1) = a - nI (n + 1) := by
  rw [← w_succ]
  apply Int32.toBitVec_inj.mp
  rw [Int32.toBitVec_add, Int32.toBitVec_sub, Int32.toBitVec_sub, Int32.toBitVec_add]
  generalize a.toBitVec = u
  generalize (nI n).toBitVec = v
  show u - v + (-1 : Int32).toBitVec = u - (v + (1 : Int32).toBitVec)
  rw [show (-1 : Int32).toBitVec = -(1 : BitVec 32) from rfl, show (1 : Int32).toBitVec = (1 : BitVec 32) from rfl]
  bv_omega
theorem sub0 (a b : Int32) : a - b = 0 ↔ b = a := by
  constructor
  · intro h
    have := congrArg (fun z => z + b) h
    simp only [Int32.sub_add_cancel, Int32.zero_add] at this
    exact this.symm
  · intro h; rw [h]; exact Int32.sub_self a
theorem ruleOf_eq {A T P C N p : Nat} {a : Int32} {μ ν m : Mm} (hA : Acc A μ ν) (hL : Led A T P μ ν) (hC : Con C μ ν) (hR : Rul C N μ ν) (hT : T ≤ 800000) (hp : p < P) (hJ : Jud1 C N μ ν p) (hm : ∀ k, k ≠ 11 → m k = ν k) : ∃ m', f_X8_ruleOf (nI p) a m = some (rrI (μ 32 p) a N, m') ∧ ∀ k, k ≠ 11 → m' k = ν k := by
  have hN := hR.1
  unfold f_X8_ruleOf rrI rr
  obtain ⟨s', e1, e2⟩ := find_loopR (fun f y (s : Int32 × Mm) => f_X8_ruleOf_L5 (nI p) f s.1 y s.2) N (fun i s => some (if i = N then -1 else nI i, s.2)) (rrP (μ 32 p) a) (fun i s => s.1 = a - nI (fb_ct (fun i => bt (μ 32 p) i) i) ∧ ∀ k, k ≠ 11 → s.2 k = ν k) (fun s => ∀ k, k ≠ 11 → s.2 k = ν k) (by
    intro f s hs
    refine ⟨?_, hs.2⟩
    show f_X8_ruleOf_L5 (nI p) (f + 1) s.1 (nI N) s.2 = _
    unfold f_X8_ruleOf_L5
    rw [hs.2 0 (by omega), hR.2.2.1, if_pos (by rw [w_le (by omega) (by omega)]; omega), if_pos rfl]) (by
    intro f i s hi hs
    obtain ⟨m', v1, v2⟩ := wasReason_eq hA hL hC hR hT hp hi hJ hs.2
    refine ⟨(a - nI (fb_ct (fun i => bt (μ 32 p) i) (i + 1)), m'), fun hp => ⟨?_, v2⟩, fun hp => ⟨?_, rfl, v2⟩⟩
    · show f_X8_ruleOf_L5 (nI p) (f + 1) s.1 (nI i) s.2 = _
      unfold f_X8_ruleOf_L5
      unfold rrP at hp
      rw [Bool.and_eq_true, decide_eq_true_eq] at hp
      rw [hs.2 0 (by omega), hR.2.2.1, if_neg (by rw [w_le (by omega) (by omega)]; omega), v1, Option.bind_some, hp.1, b2_t, if_neg (show ¬ (1 : Int32) = 0 by decide), hs.1, if_pos ((sub0 _ _).mpr hp.2), if_neg (by omega)]
    · show f_X8_ruleOf_L5 (nI p) (f + 1) s.1 (nI i) s.2 = f_X8_ruleOf_L5 (nI p) f (a - nI (fb_ct (fun i => bt (μ 32 p) i) (i + 1))) (nI (i + 1)) m'
      conv => lhs; unfold f_X8_ruleOf_L5
      unfold rrP at hp
      rw [hs.2 0 (by omega), hR.2.2.1, if_neg (by rw [w_le (by omega) (by omega)]; omega), v1, Option.bind_some, fb_ct_succ, w_succ, hs.1]
      cases hb : bt (μ 32 p) i
      · rw [b2_f, if_pos rfl]; rfl
      · rw [hb, Bool.true_and, decide_eq_false_iff_not] at hp
        rw [b2_t, if_neg (show ¬ (1 : Int32) = 0 by decide), if_neg (fun h => hp ((sub0 _ _).mp h)), neg1]; rfl) N fuel 0 (a, m) (by omega) (by unfold fuel; omega) ⟨by show a = a - nI 0; exact (Int32.sub_zero a).symm, hm⟩
  exact ⟨s'.2, e1, e2⟩
theorem rrI_cases {x a : Int32} {N : Nat} (hN : N ≤ 12) : rrI x a N = -1 ∨ ∃ r, r < N ∧ rrI x a N = nI r ∧ bt x r = true := by
  unfold rrI
  by_cases h : rr x a N = N
  · rw [if_pos h]; exact Or.inl rfl
  · rw [if_neg h]
    have h1 : rr x a N ≤ 0 + N := fst1_le N 0
    have h2 := fst1_yes (p := rrP x a) N 0 (show rr x a N < 0 + N by omega)
    refine Or.inr ⟨rr x a N, by omega, rfl, ?_⟩
    have h3 : rrP x a (rr x a N) = true := h2
    unfold rrP at h3
    rw [Bool.and_eq_true] at h3
    exact h3.1
theorem op_reasonRule {t : Nat} {μ ν : Mm} (a b : Int32) (o : Nat → Int64) (h : R t μ ν) : ∃ c o' w ν', f_L_reasonRule_0_o a b μ o = some (c, o') ∧ f_X8_reasonRule a b ν = some (w, ν') ∧ Res t c o' w μ ν' := by
  have hz : R t μ (up2 ν 0 0 0) := R_thr 0 h
  unfold f_X8_reasonRule f_L_reasonRule_0_o f_X7_reasonRule f_X7_ruleOfReason
  generalize e : up2 ν 0 0 0 = ν1 at hz ⊢
  have z : ν1 0 0 = 0 := by rw [← e]; rfl
  have hz2 := hz
  obtain ⟨ht, A, T, P, F, C, N, hA, hT, hL, hK, hC, hR, hc, hJ⟩ := hz
  have hP := hL.1
  have hN := hR.1
  rcases idx_cases a P with hb | ⟨p, hp, rfl⟩
  · rw [reqP_bad hP hL.2.1 hb, isP_bad hP hL.2.2.1 hb]
    exact ⟨1, o, 0, up2 ν1 0 0 1, rfl, rfl, rfl, fun h => absurd h (by decide), R_thr 1 hz2⟩
  · obtain ⟨ν', v1, v2⟩ := ruleOf_eq (a := b) hA hL hC hR (Nat.le_trans hT.1 ht) hp (hJ p hp) (m := ν1) (fun _ _ => rfl)
    rw [reqP_ok hP hL.2.1 hp, isP_ok hP hL.2.2.1 hp, chk_nI (show p < 200 by omega) (by omega), w_nat (show p < 2147483648 by omega), atRank_eq hN hR.2.1, v1]
    have hz3 : R t μ ν' := R_f11 (fun k _ _ _ _ => rfl) v2 hz2
    rcases rrI_cases (x := μ 32 p) (a := b) hN with h1 | ⟨r, h1, h2, _⟩
    · rw [h1]
      exact ⟨2, o, 0, up2 ν' 0 0 2, rfl, rfl, rfl, fun h => absurd h (by decide), R_thr 2 hz3⟩
    · rw [h2]
      refine ⟨0, vp_updL o (0 : Int32).toNatClampNeg (nI r).toInt64, nI r, ν', ?_, ?_, by rw [v2 0 (by omega)]; exact z, fun _ => rfl, hz3⟩
      · rw [Option.bind_some, if_pos rfl, Option.bind_some, if_neg (m1_ne (by omega)), Option.bind_some, if_pos rfl, Option.bind_some, if_pos rfl, chk0]
      · rw [Option.bind_some, if_neg (by decide), Option.bind_some, if_pos (nn_nI (by omega))]
end
section
/-! ===== L3: ring, ringByTrying, group ===== -/
def lw (ν : Mm) (T P : Nat) (w : Int32) : Nat := fst1 (fun q => decide (nI T - w < ν 6 q)) 0 P
theorem now_in {A T P q : Nat} {μ ν : Mm} {w : Int32} (hL : Led A T P μ ν) (hT : T ≤ 800000) (hq : q < P) : (decide (nI T - w < ν 6 q) && decide (ν 6 q ≤ nI T)) = decide (lw ν T P w ≤ q) := by
  obtain ⟨m, hm, em⟩ := Led_min hL hq
  have hle : ν 6 q ≤ nI T := by rw [em, w_le (by omega) (by omega)]; exact hm
  rw [decide_eq_true hle, Bool.and_true]
  rcases Nat.lt_or_ge q (lw ν T P w) with h | h
  · rw [decide_eq_false (show ¬ lw ν T P w ≤ q by omega)]
    exact fst1_no (p := fun q => decide (nI T - w < ν 6 q)) P 0 q (by omega) h
  · rw [decide_eq_true h]
    have hy := fst1_yes (p := fun q => decide (nI T - w < ν 6 q)) P 0 (by unfold lw at h; omega)
    have hy2 : decide (nI T - w < ν 6 (lw ν T P w)) = true := hy
    rw [decide_eq_true_eq] at hy2
    rw [decide_eq_true_eq]
    have := hL.2.2.2.2 _ q h hq
    rw [lt_I] at hy2 ⊢
    omega
theorem lw_le (ν : Mm) (T P : Nat) (w : Int32) : lw ν T P w ≤ P := by
  have : lw ν T P w ≤ 0 + P := fst1_le P 0
  omega
theorem net_now {t A T P : Nat} {w : Int32} {μ ν : Mm} (hA : Acc A μ ν) (hTi : Tim t T μ ν) (hL : Led A T P μ ν) : ∃ μ', f_X1_networkNow w μ = some μ' ∧ (∀ k, k ≠ 11 → k ≠ 12 → μ' k = μ k) ∧ Net (Ed false (fun q => decide (lw ν T P w ≤ q)) (pA ν) (pB ν) P) (μ' 11) ∧ Net (Ed true (fun q => decide (lw ν T P w ≤ q)) (pA ν) (pB ν) P) (μ' 12) := by
  have hP := hL.1
  have hA20 := hA.1
  have B : ∀ q, q < P → pA ν q < 20 ∧ pB ν q < 20 ∧ ν 3 q = nI (pA ν q) ∧ ν 4 q = nI (pB ν q) := fun q hq => by
    obtain ⟨h1, h2, h3, h4, _⟩ := Led_ab hA.1 hL hq
    exact ⟨by omega, by omega, h3, h4⟩
  obtain ⟨μ', e1, e2, e3⟩ := load_eq (A := A) (w := w) (μ := μ) (x := dat ν) (lw_le ν T P w) hP (fun q hq => by
    obtain ⟨u1, u2, _⟩ := hL.2.2.2.1 q hq
    obtain ⟨b1, b2, b3, b4⟩ := B q hq
    exact ⟨u1.symm, u2.symm, _, _, b1, b2, u1.trans b3, u2.trans b4⟩)
  obtain ⟨n1, n2⟩ := nt_Net (x := dat ν) (lw_le ν T P w) B
  refine ⟨μ', ?_, e2, ⟨fun a ha b hb => ?_, n1.2⟩, ⟨fun a ha b hb => ?_, n2.2⟩⟩
  · unfold f_X1_networkNow f_X1_networkOf
    rw [hTi.2.1, show (0 : Int32) = nI 0 from rfl, first_led hL (Nat.zero_le P), Nat.sub_zero, Option.bind_some, hL.2.1]
    show ((f_X5_load_5 (nI (lw ν T P w)) (nI P) μ).bind _).bind _ = _
    rw [e1]; rfl
  · rw [(e3 a ha).1]; exact n1.1 a ha b hb
  · rw [(e3 a ha).2]; exact n2.1 a ha b hb
theorem spreadN {t A T P s : Nat} {w : Int32} {μ ν : Mm} (both : Bool) (hA : Acc A μ ν) (hTi : Tim t T μ ν) (hT : T ≤ 800000) (hL : Led A T P μ ν) (hs : s < A) :
    ∃ ν', f_X8_spreads (nI s) (ν 0 15 - 1) w (ν 0 4) (b2 both) ν = some ν' ∧ (∀ k, k ≠ 11 → ν' k = ν k) ∧ ∀ b, b < A → Far (Ed both (fun q => decide (lw ν T P w ≤ q)) (pA ν) (pB ν) P) A s b (ν' 11 b) := by
  have hP := hL.1
  rw [hL.2.2.1, hTi.2.2.1]
  refine spread_ok hA.1 hA.2.2.1 hs hP (fun i hi => ?_) (fun q hq => ?_) (fun q hq => ?_)
  · rw [lt_I, m1_int (by omega), w_int (by omega)]; omega
  · rw [isIn_eq (by omega), now_in hL hT hq]
  · obtain ⟨h1, h2, h3, h4, _⟩ := Led_ab hA.1 hL hq
    exact ⟨h1, h2, h3, h4⟩
theorem EdN {A T P : Nat} {both : Bool} {W : Nat → Bool} {μ ν : Mm} (hA : Acc A μ ν) (hL : Led A T P μ ν) : ∀ a b, Ed both W (pA ν) (pB ν) P a b → b < A := by
  intro a b h
  exact (Ed_lt (fun q hq => by
    obtain ⟨h1, h2, _⟩ := Led_ab hA.1 hL hq
    exact ⟨h1, h2⟩) h).2
theorem unfit_ok {A j : Nat} {w : Int32} {ν : Mm} (hA : A ≤ 20) (e : ν 0 3 = nI A) (hj : j < A) (hw : f_X8_isWindow w = some 1) : f_X8_isUnfit (nI j) w ν = some (0, up2 ν 0 0 0) := by
  unfold f_X8_isUnfit
  rw [isA_ok hA (by rw [thr_0 ν 0 (by omega)]; exact e) hj, hw]
  rfl
theorem unfit_w {A j : Nat} {w : Int32} {ν : Mm} (hA : A ≤ 20) (e : ν 0 3 = nI A) (hj : j < A) (hw : f_X8_isWindow w = some 0) : f_X8_isUnfit (nI j) w ν = some (1, up2 (up2 ν 0 0 0) 0 0 2) := by
  unfold f_X8_isUnfit
  rw [isA_ok hA (by rw [thr_0 ν 0 (by omega)]; exact e) hj, hw]
  rfl
theorem unfit_a {A : Nat} {a w : Int32} {ν : Mm} (hA : A ≤ 20) (e : ν 0 3 = nI A) (h : a.toInt < 0 ∨ (A : Int) ≤ a.toInt) : f_X8_isUnfit a w ν = some (1, up2 (up2 ν 0 0 0) 0 0 1) := by
  unfold f_X8_isUnfit
  rw [isA_bad hA (by rw [thr_0 ν 0 (by omega)]; exact e) h]
  rfl
theorem op_group {t : Nat} {μ ν : Mm} (a w : Int32) (o : Nat → Int64) (h : R t μ ν) : ∃ c μ' o' x ν', f_L_group_0_o a w μ o = some (c, μ', o') ∧ f_X8_group a w ν = some (x, ν') ∧ Res t c o' x μ' ν' := by
  have hz : R t μ (up2 ν 0 0 0) := R_thr 0 h
  have hz2 := hz
  have e3 : ∀ A, (up2 ν 0 0 0) 0 3 = nI A → ν 0 3 = nI A := fun A h => by rw [thr_0 ν 0 (by omega)] at h; exact h
  unfold f_X8_group f_L_group_0_o f_X7_group
  obtain ⟨ht, A, T, P, F, C, N, hA, hT, hL, hK, hC, hR, hc, hJ⟩ := hz
  have hA20 := hA.1
  have hTm : T ≤ 800000 := Nat.le_trans hT.1 ht
  rcases idx_cases a A with hb | ⟨j, hj, rfl⟩
  · rw [reqA_bad hA20 hA.2.1 hb, unfit_a hA20 (e3 A hA.2.2.1) hb]
    exact ⟨1, μ, o, 0, up2 (up2 ν 0 0 0) 0 0 1, rfl, rfl, rfl, fun h => absurd h (by decide), R_thr 1 hz2⟩
  · rw [reqA_ok hA20 hA.2.1 hj]
    rcases win_doors w with ⟨w1, w2, w3⟩ | ⟨w1, w2, w3⟩
    · rw [w2, unfit_ok hA20 (e3 A hA.2.2.1) hj w3]
      have z : (up2 ν 0 0 0) 0 0 = 0 := rfl
      generalize up2 ν 0 0 0 = ν1 at hA hT hL hK hC hR hc hJ hz2 z ⊢
      obtain ⟨μ', n1, n2, n3, n4⟩ := net_now (w := w) hA hT hL
      obtain ⟨y, g1, g2⟩ := group_val n4 (show j < 20 by omega)
      obtain ⟨ν', s1, s2, s3⟩ := spreadN (w := w) true hA hT hTm hL hj
      refine ⟨0, μ', vp_updL o (0 : Int32).toNatClampNeg (nI (pop y)).toInt64, nI (pop y), ν', ?_, ?_, by rw [s2 0 (by omega)]; exact z, fun _ => rfl, R_f11 (fun k h1 h2 _ _ => n2 k h1 h2) s2 hz2⟩
      · rw [Option.bind_some, if_pos rfl, Option.bind_some, if_pos rfl, n1, Option.bind_some, g2, Option.bind_some, Option.bind_some, if_pos rfl, chk0]
      · rw [Option.bind_some, if_pos rfl]
        unfold f_X8_reached
        have s1' : f_X8_spreads (nI j) (ν1 0 15 - 1) w (ν1 0 4) 1 ν1 = some ν' := s1
        show ((f_X8_spreads (nI j) (ν1 0 15 - 1) w (ν1 0 4) 1 ν1).bind (fun r1 => f_X8_reached_L16 r1 fuel 0 0)).bind (fun r4 => some (r4.1, r4.2)) = _
        rw [s1', Option.bind_some, reached_far hA20 (by rw [s2 0 (by omega)]; exact hA.2.2.1) s3, Option.bind_some, pop_lv hA20 (EdN hA hL) hj g1]
    · rw [w2, unfit_w hA20 (e3 A hA.2.2.1) hj w3]
      exact ⟨2, μ, o, 0, up2 (up2 ν 0 0 0) 0 0 2, rfl, rfl, rfl, fun h => absurd h (by decide), R_thr 2 hz2⟩
/-- the model's least ring by the payments below i -/
def Tr (W : Nat → Bool) (pa pb : Nat → Nat) (E : Nat → Nat → Prop) (s i : Nat) (y : Int32) : Prop := (y = 99 ∧ ∀ q, q < i → W q = true → pb q = s → ∀ k, ¬ Wk E s k (pa q)) ∨ ∃ d, d < 20 ∧ y = nI (d + 1) ∧ (∃ q, q < i ∧ W q = true ∧ pb q = s ∧ Wk E s d (pa q)) ∧ ∀ q, q < i → W q = true → pb q = s → ∀ j, j < d → ¬ Wk E s j (pa q)
theorem Tr_Sw {W : Nat → Bool} {pa pb : Nat → Nat} {s P : Nat} {y : Int32} (h : Tr W pa pb (Ed false W pa pb P) s P y) : (y = 99 ∧ Sw (Ed false W pa pb P) s s (-1)) ∨ ∃ k, 1 ≤ k ∧ k ≤ 20 ∧ y = nI k ∧ Sw (Ed false W pa pb P) s s (nI k) := by
  have back : ∀ i, 1 ≤ i → Wk (Ed false W pa pb P) s i s → ∃ j q, i = j + 1 ∧ q < P ∧ W q = true ∧ pb q = s ∧ Wk (Ed false W pa pb P) s j (pa q) := by
    intro i hi hw
    obtain ⟨j, rfl⟩ : ∃ j, i = j + 1 := ⟨i - 1, by omega⟩
    obtain ⟨a, h1, q, h2, h3, ⟨h4, h5⟩ | ⟨h4, _⟩⟩ := hw
    · rw [← h4] at h1
      exact ⟨j, q, rfl, h2, h3, h5, h1⟩
    · cases h4
  rcases h with ⟨h1, h2⟩ | ⟨d, h1, h2, ⟨q, h3, h4, h5, h6⟩, h7⟩
  · left
    refine ⟨h1, Or.inl ⟨rfl, fun i i1 _ hw => ?_⟩⟩
    obtain ⟨j, q, _, g1, g2, g3, g4⟩ := back i i1 hw
    exact h2 q g1 g2 g3 j g4
  · right
    refine ⟨d + 1, by omega, by omega, h2, Or.inr ⟨d + 1, by omega, by omega, rfl, ⟨pa q, h6, q, h3, h4, Or.inl ⟨rfl, h5⟩⟩, fun i i1 i2 hw => ?_⟩⟩
    obtain ⟨j, q, g0, g1, g2, g3, g4⟩ := back i i1 hw
    exact h7 q g1 g2 g3 j (by omega) g4
theorem ring_far {A P s : Nat} {x2 : Int32} {W : Nat → Bool} {pa pb : Nat → Nat} {E : Nat → Nat → Prop} {m : Mm} (K : Int32 → Option (Int32 × Mm)) (hA : A ≤ 20) (hP : P ≤ 200) (hs : s < A) (e15 : m 0 15 = nI P) (hW : ∀ q, q < P → f_X8_isIn (nI q) x2 (m 0 4) m = some (b2 (W q))) (hp : ∀ q, q < P → pa q < A ∧ pb q < A ∧ m 3 q = nI (pa q) ∧ m 4 q = nI (pb q))
    (hF : ∀ b, b < A → Far E A s b (m 11 b)) : ∃ y, f_X8_ring_L34 K (nI s) x2 m fuel 99 0 = K y ∧ Tr W pa pb E s P y := by
  refine up_loopR (fun f y (v : Int32) => f_X8_ring_L34 K (nI s) x2 m f v y) P K (Tr W pa pb E s) (by
    intro f v _
    show f_X8_ring_L34 K (nI s) x2 m (f + 1) v (nI P) = _
    unfold f_X8_ring_L34
    rw [e15, if_pos (by rw [w_le (by omega) (by omega)]; omega)]) ?_ P fuel 0 99 (by omega) (by unfold fuel; omega) (Or.inl ⟨rfl, fun q hq => by omega⟩)
  intro f i v hi hv
  obtain ⟨p1, p2, p3, p4⟩ := hp i hi
  show ∃ s', f_X8_ring_L34 K (nI s) x2 m (f + 1) v (nI i) = f_X8_ring_L34 K (nI s) x2 m f s' (nI (i + 1)) ∧ _
  conv => enter [1, s', 1, 1]; unfold f_X8_ring_L34
  rw [e15, if_neg (by rw [w_le (by omega) (by omega)]; omega), chk_nI (show i < 200 by omega) (by omega), hW i hi, chk_nI (show i < 200 by omega) (by omega), w_nat (show i < 2147483648 by omega), p3, p4, chk_nI (show pa i < 20 by omega) (by omega), w_nat (show pa i < 2147483648 by omega), w_succ]
  have skip : (∀ q, q < i + 1 → W q = true → pb q = s → q < i) → Tr W pa pb E s (i + 1) v := by
    intro ex
    rcases hv with ⟨h1, h2⟩ | ⟨d, h1, h2, ⟨q, h3, h4⟩, h6⟩
    · exact Or.inl ⟨h1, fun q q1 q2 q3 => h2 q (ex q q1 q2 q3) q2 q3⟩
    · exact Or.inr ⟨d, h1, h2, ⟨q, by omega, h4⟩, fun q q1 q2 q3 => h6 q (ex q q1 q2 q3) q2 q3⟩
  by_cases hb : pb i = s
  · rw [if_pos (by rw [hb]), Option.bind_some]
    cases hw : W i
    · rw [b2_f, if_pos rfl]
      refine ⟨v, rfl, skip (fun q q1 q2 q3 => ?_)⟩
      by_cases hqi : q = i
      · rw [hqi, hw] at q2; cases q2
      · omega
    · rw [b2_t, if_neg (by decide)]
      rcases hF (pa i) p1 with ⟨g1, g2⟩ | ⟨e, g1, g2, g3⟩
      · rw [g1]
        refine ⟨v, ?_, ?_⟩
        · rw [if_neg]
          show ¬ (nI 100 < v)
          rcases hv with ⟨h1, _⟩ | ⟨d, h1, h2, _⟩
          · rw [h1]; decide
          · rw [h2, w_lt (by omega) (by omega)]; omega
        · rcases hv with ⟨h1, h2⟩ | ⟨d, h1, h2, ⟨q, h3, h4⟩, h6⟩
          · refine Or.inl ⟨h1, fun q q1 q2 q3 => ?_⟩
            by_cases hqi : q = i
            · rw [hqi]; exact g2
            · exact h2 q (by omega) q2 q3
          · refine Or.inr ⟨d, h1, h2, ⟨q, by omega, h4⟩, fun q q1 q2 q3 => ?_⟩
            by_cases hqi : q = i
            · rw [hqi]; exact fun j _ => g2 j
            · exact h6 q (by omega) q2 q3
      · rw [g2, w_succ]
        rcases hv with ⟨h1, h2⟩ | ⟨d, h1, h2, ⟨q, h3, h4⟩, h6⟩
        · refine ⟨nI (e + 1), ?_, Or.inr ⟨e, by omega, rfl, ⟨i, by omega, hw, hb, g3.1⟩, fun q q1 q2 q3 => ?_⟩⟩
          · rw [h1, if_pos]; rw [e99, w_lt (by omega) (by omega)]; omega
          · by_cases hqi : q = i
            · rw [hqi]; exact g3.2
            · exact fun j _ => h2 q (by omega) q2 q3 j
        · by_cases hde : e < d
          · refine ⟨nI (e + 1), ?_, Or.inr ⟨e, by omega, rfl, ⟨i, by omega, hw, hb, g3.1⟩, fun q q1 q2 q3 => ?_⟩⟩
            · rw [h2, if_pos]; rw [w_lt (by omega) (by omega)]; omega
            · by_cases hqi : q = i
              · rw [hqi]; exact g3.2
              · exact fun j hj => h6 q (by omega) q2 q3 j (by omega)
          · refine ⟨nI (d + 1), ?_, Or.inr ⟨d, h1, rfl, ⟨q, by omega, h4⟩, fun q q1 q2 q3 => ?_⟩⟩
            · rw [h2, if_neg]; rw [w_lt (by omega) (by omega)]; omega
            · by_cases hqi : q = i
              · rw [hqi]; exact fun j hj => g3.2 j (by omega)
              · exact h6 q (by omega) q2 q3
  · rw [if_neg (by rw [w_eq (by omega) (by omega)]; exact hb)]
    refine ⟨v, rfl, skip (fun q q1 q2 q3 => ?_)⟩
    by_cases hqi : q = i
    · rw [hqi] at q3; exact absurd q3 hb
    · omega
theorem mRing {t A T P s : Nat} {w : Int32} {μ ν : Mm} (hA : Acc A μ ν) (hTi : Tim t T μ ν) (hT : T ≤ 800000) (hL : Led A T P μ ν) (hs : s < A) :
    ∃ ν', (∀ k, k ≠ 11 → ν' k = ν k) ∧ ∃ y, ((f_X8_spreads (nI s) (ν 0 15 - 1) w (ν 0 4) 0 ν).bind (fun r4 => f_X8_ring_L34 (fun (y14 : Int32) => (if (y14 : Int32) < 99 then some (y14, r4) else ((f_X8_fails 3 r4).bind (fun r16 => some (r16.1, r16.2))))) (nI s) w r4 fuel 99 0)) = (if y < 99 then some (y, ν') else some (0, up2 ν' 0 0 3)) ∧
      ((y = 99 ∧ Sw (Ed false (fun q => decide (lw ν T P w ≤ q)) (pA ν) (pB ν) P) s s (-1)) ∨ ∃ k, 1 ≤ k ∧ k ≤ 20 ∧ y = nI k ∧ Sw (Ed false (fun q => decide (lw ν T P w ≤ q)) (pA ν) (pB ν) P) s s (nI k)) := by
  have hP := hL.1
  obtain ⟨ν', s1, s2, s3⟩ := spreadN (w := w) false hA hTi hT hL hs
  have s1' : f_X8_spreads (nI s) (ν 0 15 - 1) w (ν 0 4) 0 ν = some ν' := s1
  obtain ⟨y, r1, r2⟩ := ring_far (x2 := w) (W := fun q => decide (lw ν T P w ≤ q)) (pa := pA ν) (pb := pB ν) (fun (y14 : Int32) => (if (y14 : Int32) < 99 then some (y14, ν') else ((f_X8_fails 3 ν').bind (fun r16 => some (r16.1, r16.2))))) hA.1 hP hs (by rw [s2 0 (by omega)]; exact hL.2.2.1) (fun q hq => by
    rw [isIn_cg (s2 6 (by omega)), s2 0 (by omega), hTi.2.2.1, isIn_eq (by omega), now_in hL hT hq]) (fun q hq => by
    obtain ⟨h1, h2, h3, h4, _⟩ := Led_ab hA.1 hL hq
    rw [s2 3 (by omega), s2 4 (by omega)]
    exact ⟨h1, h2, h3, h4⟩) s3
  refine ⟨ν', s2, y, ?_, Tr_Sw r2⟩
  rw [s1', Option.bind_some, r1]
  rfl
theorem op_ring {t : Nat} {μ ν : Mm} (a w : Int32) (o : Nat → Int64) (h : R t μ ν) : ∃ c μ' o' x ν', f_L_ring_0_o a w μ o = some (c, μ', o') ∧ f_X8_ring a w ν = some (x, ν') ∧ Res t c o' x μ' ν' := by
  have hz : R t μ (up2 ν 0 0 0) := R_thr 0 h
  have hz2 := hz
  have e3 : ∀ A, (up2 ν 0 0 0) 0 3 = nI A → ν 0 3 = nI A := fun A h => by rw [thr_0 ν 0 (by omega)] at h; exact h
  unfold f_X8_ring f_L_ring_0_o f_X7_ring
  obtain ⟨ht, A, T, P, F, C, N, hA, hT, hL, hK, hC, hR, hc, hJ⟩ := hz
  have hA20 := hA.1
  have hTm : T ≤ 800000 := Nat.le_trans hT.1 ht
  rcases idx_cases a A with hb | ⟨j, hj, rfl⟩
  · rw [reqA_bad hA20 hA.2.1 hb, unfit_a hA20 (e3 A hA.2.2.1) hb]
    exact ⟨1, μ, o, 0, up2 (up2 ν 0 0 0) 0 0 1, rfl, rfl, rfl, fun h => absurd h (by decide), R_thr 1 hz2⟩
  · rw [reqA_ok hA20 hA.2.1 hj]
    rcases win_doors w with ⟨w1, w2, w3⟩ | ⟨w1, w2, w3⟩
    · rw [w2, unfit_ok hA20 (e3 A hA.2.2.1) hj w3]
      have z : (up2 ν 0 0 0) 0 0 = 0 := rfl
      generalize up2 ν 0 0 0 = ν1 at hA hT hL hK hC hR hc hJ hz2 z ⊢
      obtain ⟨μ', n1, n2, n3, n4⟩ := net_now (w := w) hA hT hL
      obtain ⟨r, g2, g1⟩ := way_val n3 (show j < 20 by omega) (show j < 32 by omega)
      obtain ⟨ν', s2, y, s1, s3⟩ := mRing (w := w) hA hT hTm hL hj
      have hz3 : R t μ' ν' := R_f11 (fun k h1 h2 _ _ => n2 k h1 h2) s2 hz2
      rw [Option.bind_some, if_pos rfl, Option.bind_some, if_pos rfl, n1, Option.bind_some, g2, Option.bind_some, Option.bind_some, if_pos rfl, s1]
      unfold f_X7_requireWay
      rcases s3 with ⟨y1, y2⟩ | ⟨k, k1, k2, y1, y2⟩
      · rw [Sw_uniq g1 y2, y1]
        exact ⟨3, μ', o, 0, up2 ν' 0 0 3, rfl, rfl, rfl, fun h => absurd h (by decide), R_thr 3 hz3⟩
      · rw [Sw_uniq g1 y2, y1, if_neg (m1_ne (by omega)), if_pos (by rw [e99, w_lt (by omega) (by omega)]; omega)]
        exact ⟨0, μ', vp_updL o (0 : Int32).toNatClampNeg (nI k).toInt64, nI k, ν', rfl, rfl, by rw [s2 0 (by omega)]; exact z, fun _ => rfl, hz3⟩
    · rw [w2, unfit_w hA20 (e3 A hA.2.2.1) hj w3]
      exact ⟨2, μ, o, 0, up2 (up2 ν 0 0 0) 0 0 2, rfl, rfl, rfl, fun h => absurd h (by decide), R_thr 2 hz2⟩
theorem op_ringByTrying {t : Nat} {μ ν : Mm} (a w : Int32) (o : Nat → Int64) (h : R t μ ν) : ∃ c μ' o' x ν', f_L_ringByTrying_0_o a w μ o = some (c, μ', o') ∧ f_X8_ringByTrying a w ν = some (x, ν') ∧ Res t c o' x μ' ν' := by
  have hz : R t μ (up2 ν 0 0 0) := R_thr 0 h
  have hz2 := hz
  have e3 : ∀ A, (up2 ν 0 0 0) 0 3 = nI A → ν 0 3 = nI A := fun A h => by rw [thr_0 ν 0 (by omega)] at h; exact h
  unfold f_X8_ringByTrying f_X8_ring f_L_ringByTrying_0_o f_X7_ringByTrying
  obtain ⟨ht, A, T, P, F, C, N, hA, hT, hL, hK, hC, hR, hc, hJ⟩ := hz
  have hA20 := hA.1
  have hTm : T ≤ 800000 := Nat.le_trans hT.1 ht
  rcases idx_cases a A with hb | ⟨j, hj, rfl⟩
  · rw [reqA_bad hA20 hA.2.1 hb, unfit_a hA20 (e3 A hA.2.2.1) hb]
    exact ⟨1, μ, o, 0, up2 (up2 ν 0 0 0) 0 0 1, rfl, rfl, rfl, fun h => absurd h (by decide), R_thr 1 hz2⟩
  · rw [reqA_ok hA20 hA.2.1 hj]
    rcases win_doors w with ⟨w1, w2, w3⟩ | ⟨w1, w2, w3⟩
    · rw [w2, unfit_ok hA20 (e3 A hA.2.2.1) hj w3]
      have z : (up2 ν 0 0 0) 0 0 = 0 := rfl
      generalize up2 ν 0 0 0 = ν1 at hA hT hL hK hC hR hc hJ hz2 z ⊢
      obtain ⟨μ', n1, n2, n3, n4⟩ := net_now (w := w) hA hT hL
      obtain ⟨r, g2, g1⟩ := try_val n3 (show j < 20 by omega) (show j < 32 by omega)
      obtain ⟨ν', s2, y, s1, s3⟩ := mRing (w := w) hA hT hTm hL hj
      have hz3 : R t μ' ν' := R_f11 (fun k h1 h2 _ _ => n2 k h1 h2) s2 hz2
      rw [Option.bind_some, if_pos rfl, Option.bind_some, if_pos rfl, n1, Option.bind_some, g2, Option.bind_some, Option.bind_some, if_pos rfl, s1]
      unfold f_X7_requireWay
      rcases s3 with ⟨y1, y2⟩ | ⟨k, k1, k2, y1, y2⟩
      · rw [Sw_uniq g1 y2, y1]
        exact ⟨3, μ', o, 0, up2 ν' 0 0 3, rfl, rfl, rfl, fun h => absurd h (by decide), R_thr 3 hz3⟩
      · rw [Sw_uniq g1 y2, y1, if_neg (m1_ne (by omega)), if_pos (by rw [e99, w_lt (by omega) (by omega)]; omega)]
        exact ⟨0, μ', vp_updL o (0 : Int32).toNatClampNeg (nI k).toInt64, nI k, ν', rfl, rfl, by rw [s2 0 (by omega)]; exact z, fun _ => rfl, hz3⟩
    · rw [w2, unfit_w hA20 (e3 A hA.2.2.1) hj w3]
      exact ⟨2, μ, o, 0, up2 (up2 ν 0 0 0) 0 0 2, rfl, rfl, rfl, fun h => absurd h (by decide), R_thr 2 hz2⟩
end
section
/-! ===== L3: reasonTests, reasonFeature, reasonValue ===== -/
def ls (μ : Mm) (c i m : Nat) : List Int32 := (List.range' i m).map (fun i => μ 23 (8 * c + i))
theorem ls_succ (μ : Mm) (c i m : Nat) : ls μ c i (m + 1) = μ 23 (8 * c + i) :: ls μ c (i + 1) m := rfl
theorem lst_ls (μ : Mm) (c : Nat) : lst μ c = ls μ c 0 (μ 22 c).toNatClampNeg := by
  unfold lst ls
  rw [List.range_eq_range']
theorem ls_mem {μ : Mm} {c n i : Nat} (h : i < n) : μ 23 (8 * c + i) ∈ ls μ c 0 n := by
  unfold ls
  rw [List.mem_map]
  refine ⟨i, ?_, rfl⟩
  rw [← List.range_eq_range', List.mem_range]
  exact h
theorem lst_ok {C : Nat} {μ ν : Mm} (hC : C ≤ 30) (hall : ∀ j, j < C → Cnd μ ν j) : ∀ (n c : Nat), c < n → c < C → ∀ x, x ∈ lst μ c → ∃ j, j ≤ c ∧ x = nI j ∧ ν 12 j = 0
  | 0, c, h, _, _, _ => by omega
  | n + 1, c, h, hc, x, hx => by
    obtain ⟨k, s, m, hk, hs, e1, e2, e3, e4, e5, e6, h0, h3, h12⟩ := hall c hc
    have hk4 : k = 0 ∨ k = 3 ∨ (k = 1 ∨ k = 2) := by omega
    rcases hk4 with hk | hk | hk
    · rw [(h0 hk).2.2.2.2.2.1] at hx
      refine ⟨c, Nat.le_refl c, List.mem_singleton.mp hx, ?_⟩
      rw [e1, hk]; rfl
    · rw [(h3 hk).1] at hx
      cases hx
    · obtain ⟨a, b, s1, s2, ha, hb, _, _, _, _, _, _, _, e⟩ := h12 hk
      rw [e, List.mem_append] at hx
      rcases hx with hx | hx
      · obtain ⟨j, h1, h2⟩ := lst_ok hC hall n a (by omega) (by omega) x hx
        exact ⟨j, by omega, h2⟩
      · obtain ⟨j, h1, h2⟩ := lst_ok hC hall n b (by omega) (by omega) x hx
        exact ⟨j, by omega, h2⟩
theorem lst_len {C c : Nat} {μ ν : Mm} (hall : ∀ j, j < C → Cnd μ ν j) (hc : c < C) : ∃ n, n ≤ 8 ∧ μ 22 c = nI n ∧ lst μ c = ls μ c 0 n ∧ (lst μ c).length = n := by
  obtain ⟨s, n, h1, h2, h3, h4, h5⟩ := Cnd_n (hall c hc)
  have e : lst μ c = ls μ c 0 n := by rw [lst_ls, h4, w_nat (by omega)]
  refine ⟨n, by omega, h4, e, ?_⟩
  rw [e]
  unfold ls
  rw [List.length_map, List.length_range']
def hd (h : Int32) (x : Int32) : Bool := bt h x.toNatClampNeg
def tAt : List Int32 → Nat → Int32 → Int32
  | [], _, _ => -1
  | x :: l, k, a => if nI k = a then x else tAt l (k + 1) a
theorem tAt_get : ∀ (L : List Int32) (k : Nat) (a : Int32), (∃ j v, L[j]? = some v ∧ a = nI (k + j) ∧ tAt L k a = v) ∨ ((∀ j, j < L.length → a ≠ nI (k + j)) ∧ tAt L k a = -1)
  | [], k, a => Or.inr ⟨fun j hj => (by cases hj), rfl⟩
  | x :: l, k, a => by
    unfold tAt
    by_cases h : nI k = a
    · rw [if_pos h]
      exact Or.inl ⟨0, x, rfl, h.symm, rfl⟩
    · rw [if_neg h]
      rcases tAt_get l (k + 1) a with ⟨j, v, h1, h2, h3⟩ | ⟨h1, h2⟩
      · refine Or.inl ⟨j + 1, v, ?_, ?_, h3⟩
        · rw [List.getElem?_cons_succ]; exact h1
        · rw [h2]; congr 1; omega
      · refine Or.inr ⟨fun j hj => ?_, h2⟩
        rcases j with _ | j
        · exact fun e => h e.symm
        · have := h1 j (by rw [List.length_cons] at hj; omega)
          rw [show k + (j + 1) = k + 1 + j by omega]; exact this
theorem cell_eq {c i : Nat} : ((nI c * 8) + nI i : Int32) = nI (8 * c + i) := by
  rw [show (8 : Int32) = nI 8 from rfl, w_mul, w_add, Nat.mul_comm]
theorem count_eq {C c : Nat} {h : Int32} {μ ν : Mm} (hC : C ≤ 30) (hall : ∀ j, j < C → Cnd μ ν j) (hc : c < C) : f_X3_countTests (nI c) h μ = some (nI ((lst μ c).filter (hd h)).length) := by
  obtain ⟨n, n8, e22, els, elen⟩ := lst_len hall hc
  have key : ∀ (m f i k : Nat), i + m = n → m < f → f_X3_countTests_L5 (nI c) h μ f (nI k) (nI i) = some (nI (k + ((ls μ c i m).filter (hd h)).length)) := by
    intro m
    induction m with
    | zero =>
      intro f i k he hf
      obtain ⟨f, rfl⟩ : ∃ g, f = g + 1 := ⟨f - 1, by omega⟩
      unfold f_X3_countTests_L5
      rw [chk_nI (show c < 30 by omega) (by omega), w_nat (show c < 2147483648 by omega), e22, if_pos (by rw [w_le (by omega) (by omega)]; omega)]
      rfl
    | succ m ih =>
      intro f i k he hf
      obtain ⟨f, rfl⟩ : ∃ g, f = g + 1 := ⟨f - 1, by omega⟩
      obtain ⟨j, hj1, hj2, _⟩ := lst_ok hC hall (c + 1) c (by omega) hc (μ 23 (8 * c + i)) (by rw [els]; exact ls_mem (by omega))
      conv => lhs; unfold f_X3_countTests_L5
      rw [chk_nI (show c < 30 by omega) (by omega), w_nat (show c < 2147483648 by omega), e22, if_neg (by rw [w_le (by omega) (by omega)]; omega), cell_eq, chk_nI (show 8 * c + i < 240 by omega) (by omega), w_nat (show 8 * c + i < 2147483648 by omega), ls_succ, hj2, hasBit_eq _ (show j < 32 by omega), Option.bind_some, w_succ, w_succ]
      have e9 : hd h (nI j) = bt h j := by unfold hd; rw [w_nat (by omega)]
      cases hb : bt h j
      · rw [b2_f, if_pos rfl, ih f (i + 1) k (by omega) (by omega), List.filter_cons_of_neg (by rw [e9, hb]; simp)]
      · rw [b2_t, if_neg (show ¬ (1 : Int32) = 0 by decide), ih f (i + 1) (k + 1) (by omega) (by omega), List.filter_cons_of_pos (by rw [e9, hb]), List.length_cons]
        congr 2; omega
  unfold f_X3_countTests
  have := key n fuel 0 0 (by omega) (by unfold fuel; omega)
  rw [els]
  rw [Nat.zero_add] at this
  exact this
theorem testAt_eq {C c : Nat} {h a : Int32} {μ ν : Mm} (hC : C ≤ 30) (hall : ∀ j, j < C → Cnd μ ν j) (hc : c < C) : f_X3_testAtRank (nI c) h a μ = some (tAt ((lst μ c).filter (hd h)) 0 a) := by
  obtain ⟨n, n8, e22, els, elen⟩ := lst_len hall hc
  have key : ∀ (m f i k : Nat), i + m = n → m < f → f_X3_testAtRank_L6 (nI c) h a μ f (nI k) (nI i) = some (tAt ((ls μ c i m).filter (hd h)) k a) := by
    intro m
    induction m with
    | zero =>
      intro f i k he hf
      obtain ⟨f, rfl⟩ : ∃ g, f = g + 1 := ⟨f - 1, by omega⟩
      unfold f_X3_testAtRank_L6
      rw [chk_nI (show c < 30 by omega) (by omega), w_nat (show c < 2147483648 by omega), e22, if_pos (by rw [w_le (by omega) (by omega)]; omega)]
      rfl
    | succ m ih =>
      intro f i k he hf
      obtain ⟨f, rfl⟩ : ∃ g, f = g + 1 := ⟨f - 1, by omega⟩
      obtain ⟨j, hj1, hj2, _⟩ := lst_ok hC hall (c + 1) c (by omega) hc (μ 23 (8 * c + i)) (by rw [els]; exact ls_mem (by omega))
      conv => lhs; unfold f_X3_testAtRank_L6
      rw [chk_nI (show c < 30 by omega) (by omega), w_nat (show c < 2147483648 by omega), e22, if_neg (by rw [w_le (by omega) (by omega)]; omega), cell_eq, chk_nI (show 8 * c + i < 240 by omega) (by omega), w_nat (show 8 * c + i < 2147483648 by omega), ls_succ, hj2, hasBit_eq _ (show j < 32 by omega), Option.bind_some, w_succ, w_succ]
      have e9 : hd h (nI j) = bt h j := by unfold hd; rw [w_nat (by omega)]
      cases hb : bt h j
      · rw [b2_f, if_pos rfl, ih f (i + 1) k (by omega) (by omega), List.filter_cons_of_neg (by rw [e9, hb]; simp)]
      · rw [b2_t, if_neg (show ¬ (1 : Int32) = 0 by decide), ih f (i + 1) (k + 1) (by omega) (by omega), List.filter_cons_of_pos (by rw [e9, hb])]
        show _ = some (if nI k = a then nI j else tAt _ (k + 1) a)
        by_cases hk : nI k = a
        · rw [if_pos hk, if_pos hk]
        · rw [if_neg hk, if_neg hk]
  unfold f_X3_testAtRank
  have := key n fuel 0 0 (by omega) (by unfold fuel; omega)
  rw [els]
  exact this
/-- m is ν but for the table, the held tests and their number -/
def Gf (m ν : Mm) : Prop := (∀ k, k ≠ 0 → k ≠ 11 → k ≠ 22 → m k = ν k) ∧ ∀ j, j ≠ 32 → m 0 j = ν 0 j
theorem Acc_g {A : Nat} {μ ν m : Mm} (h : Acc A μ ν) (hm : Gf m ν) : Acc A μ m := by
  unfold Acc at h ⊢
  rw [hm.2 3 (by omega), hm.2 5 (by omega), hm.2 6 (by omega), hm.1 1 (by omega) (by omega) (by omega), hm.1 2 (by omega) (by omega) (by omega)]
  exact h
theorem Led_g {A T P : Nat} {μ ν m : Mm} (h : Led A T P μ ν) (hm : Gf m ν) : Led A T P μ m := by
  unfold Led at h ⊢
  rw [hm.2 15 (by omega), hm.1 3 (by omega) (by omega) (by omega), hm.1 4 (by omega) (by omega) (by omega), hm.1 5 (by omega) (by omega) (by omega), hm.1 6 (by omega) (by omega) (by omega)]
  exact h
theorem Con_g {C : Nat} {μ ν m : Mm} (h : Con C μ ν) (hm : Gf m ν) : Con C μ m := by
  unfold Con Cnd at h ⊢
  rw [hm.2 26 (by omega), hm.1 12 (by omega) (by omega) (by omega), hm.1 13 (by omega) (by omega) (by omega), hm.1 14 (by omega) (by omega) (by omega), hm.1 15 (by omega) (by omega) (by omega), hm.1 16 (by omega) (by omega) (by omega), hm.1 17 (by omega) (by omega) (by omega), hm.1 18 (by omega) (by omega) (by omega), hm.1 19 (by omega) (by omega) (by omega)]
  exact h
theorem Sst_g {C p : Nat} {ν m : Mm} (hm : Gf m ν) : Sst C p ν m :=
  ⟨fun j _ => by rw [hm.1 12 (by omega) (by omega) (by omega), hm.1 13 (by omega) (by omega) (by omega), hm.1 14 (by omega) (by omega) (by omega), hm.1 16 (by omega) (by omega) (by omega), hm.1 17 (by omega) (by omega) (by omega), hm.1 18 (by omega) (by omega) (by omega), hm.1 19 (by omega) (by omega) (by omega)]; simp,
    Sst_cut (fun q _ => by rw [hm.1 1 (by omega) (by omega) (by omega), hm.1 2 (by omega) (by omega) (by omega), hm.1 3 (by omega) (by omega) (by omega), hm.1 4 (by omega) (by omega) (by omega), hm.1 5 (by omega) (by omega) (by omega), hm.1 6 (by omega) (by omega) (by omega)]; simp)⟩
theorem Gf_11 {m m' ν : Mm} (h : Gf m ν) (hm : ∀ k, k ≠ 11 → m' k = m k) : Gf m' ν :=
  ⟨fun k h1 h2 h3 => (hm k h2).trans (h.1 k h1 h2 h3), fun j hj => by rw [hm 0 (by omega)]; exact h.2 j hj⟩
theorem true_g {A T P C p c : Nat} {mk : Int32} {μ ν m : Mm} (hA : Acc A μ ν) (hL : Led A T P μ ν) (hC : Con C μ ν) (hT : T ≤ 800000) (hp : p < P) (hc : c < C) (hm : Gf m ν) : ∃ m', f_X8_isTrue 16 (nI c) (nI p) mk m = some (b2 (sem ν mk p 16 c), m') ∧ ∀ k, k ≠ 11 → m' k = m k := by
  have e : sem m mk p 16 c = sem ν mk p 16 c := sem_st hC.1 hC.2.2.2.2.2 (Sst_g hm) mk 16 c hc
  rw [← e]
  exact true16 (Acc_g hA hm) (Led_g hL hm) (Con_g hC hm) hT hp hc (fun _ _ => rfl)
def tru (ν : Mm) (p : Nat) (x : Int32) : Bool := sem ν (ν 7 p) p 16 x.toNatClampNeg
theorem gathers_eq {A T P C p : Nat} {μ ν : Mm} (hA : Acc A μ ν) (hL : Led A T P μ ν) (hC : Con C μ ν) (hT : T ≤ 800000) (hp : p < P) : ∀ (d c s : Nat), c < C → ν 15 c = nI s → s ≤ d → s ≤ 15 → ∀ (m : Mm) (h : Nat), Gf m ν → m 0 32 = nI h → h + (lst μ c).length ≤ 16 →
    ∃ m', f_X8_gathers d (nI c) (nI p) m = some m' ∧ Gf m' ν ∧ m' 0 32 = nI (h + ((lst μ c).filter (tru ν p)).length) ∧ (∀ i, i < h → m' 22 i = m 22 i) ∧ ∀ i v, ((lst μ c).filter (tru ν p))[i]? = some v → m' 22 (h + i) = v
  | 0, c, s, hc, hs, hd, _, m, h, _, _, _ => by
    exfalso
    obtain ⟨k, s', n, hk, hs', e1, e2, e3, e4, e5, e6, h0, h3, h12⟩ := hC.2.2.2.2.2 c hc
    have hss : s' = s := (w_eq (by omega) (by omega)).mp (e3.symm.trans hs)
    have hk4 : k = 0 ∨ k = 3 ∨ (k = 1 ∨ k = 2) := by omega
    rcases hk4 with hk | hk | hk
    · have := (h0 hk).2.2.2.2.1; omega
    · obtain ⟨_, a, s1, _, _, _, _, e⟩ := h3 hk; omega
    · obtain ⟨a, b, s1, s2, _, _, _, _, _, _, _, _, e, _⟩ := h12 hk; omega
  | d + 1, c, s, hc, hs, hd, h15, m, h, hm, hh, hb => by
    have hC30 := hC.1
    have hP := hL.1
    obtain ⟨k, s', n, hk, hs', e1, e2, e3, e4, e5, e6, h0, h3, h12⟩ := hC.2.2.2.2.2 c hc
    have hss : s' = s := (w_eq (by omega) (by omega)).mp (e3.symm.trans hs)
    have cc : ∀ {α : Type} (k : Option α), chk (nI c) 30 k = k := fun k => chk_nI (by omega) (by omega)
    have wc : (nI c).toNatClampNeg = c := w_nat (by omega)
    have join : k = 1 ∨ k = 2 → ∃ m', ((f_X8_gathers d (m 13 c) (nI p) m).bind (fun r6 => (chk (nI c) 30 (((f_X8_gathers d (r6 14 c) (nI p) r6).bind (fun r9 => some r9)))))) = some m' ∧ Gf m' ν ∧ m' 0 32 = nI (h + ((lst μ c).filter (tru ν p)).length) ∧ (∀ i, i < h → m' 22 i = m 22 i) ∧ ∀ i v, ((lst μ c).filter (tru ν p))[i]? = some v → m' 22 (h + i) = v := by
      intro hk12
      obtain ⟨a, b, s1, s2, ha, hb2, g1, g20, g2, g21, g3, g4, e, el⟩ := h12 hk12
      have la : ((lst μ a).filter (tru ν p)).length ≤ (lst μ a).length := List.length_filter_le _ _
      rw [el, List.length_append] at hb
      obtain ⟨m1, u1, u2, u3, u4, u5⟩ := gathers_eq hA hL hC hT hp d a s1 (by omega) g3 (by omega) (by omega) m h hm hh (by omega)
      obtain ⟨m2, v1, v2, v3, v4, v5⟩ := gathers_eq hA hL hC hT hp d b s2 (by omega) g4 (by omega) (by omega) m1 (h + ((lst μ a).filter (tru ν p)).length) u2 u3 (by omega)
      refine ⟨m2, ?_, v2, ?_, ?_, ?_⟩
      · rw [hm.1 13 (by omega) (by omega) (by omega), g1, u1, Option.bind_some, cc, u2.1 14 (by omega) (by omega) (by omega), g2, v1, Option.bind_some]
      · rw [v3, el, List.filter_append, List.length_append]
        congr 1; omega
      · intro i hi
        rw [v4 i (by omega), u4 i hi]
      · intro i v hv
        rw [el, List.filter_append] at hv
        rcases Nat.lt_or_ge i ((lst μ a).filter (tru ν p)).length with hi | hi
        · rw [List.getElem?_append_left hi] at hv
          rw [v4 (h + i) (by omega)]
          exact u5 i v hv
        · rw [List.getElem?_append_right hi] at hv
          have := v5 _ v hv
          rw [show h + ((lst μ a).filter (tru ν p)).length + (i - ((lst μ a).filter (tru ν p)).length) = h + i by omega] at this
          exact this
    have hk4 : k = 0 ∨ k = 1 ∨ k = 2 ∨ k = 3 := by omega
    unfold f_X8_gathers
    rw [cc, wc, hm.1 12 (by omega) (by omega) (by omega), e1]
    rcases hk4 with rfl | rfl | rfl | rfl
    · obtain ⟨f1, f2, f3, f4, f5, f6, _⟩ := h0 rfl
      rw [if_neg (show ¬ nI 0 = 3 by decide), cc, if_neg (show ¬ nI 0 = 1 by decide), cc, if_neg (show ¬ nI 0 = 2 by decide), chk_nI (show p < 200 by omega) (by omega), w_nat (show p < 2147483648 by omega), hm.1 7 (by omega) (by omega) (by omega)]
      rw [f6] at hb ⊢
      have hb1 : h + 1 ≤ 16 := hb
      obtain ⟨m', v1, v2⟩ := true_g (mk := ν 7 p) hA hL hC hT hp hc hm
      rw [v1, Option.bind_some]
      have et : tru ν p (nI c) = sem ν (ν 7 p) p 16 c := by unfold tru; rw [wc]
      cases hb3 : sem ν (ν 7 p) p 16 c
      · rw [List.filter_cons_of_neg (by rw [et, hb3]; simp), b2_f, if_pos rfl]
        refine ⟨m', rfl, Gf_11 hm v2, ?_, fun i _ => by rw [v2 22 (by omega)], fun i v hv => by cases hv⟩
        rw [v2 0 (by omega), hh]; rfl
      · rw [List.filter_cons_of_pos (by rw [et, hb3]), b2_t, if_neg (show ¬ (1 : Int32) = 0 by decide)]
        show ∃ m'', chk (m' 0 32) 16 (some (up2 (up2 m' 22 (m' 0 32).toNatClampNeg (nI c)) 0 32 (((up2 m' 22 (m' 0 32).toNatClampNeg (nI c)) 0 32) + 1))) = some m'' ∧ _
        have e32 : m' 0 32 = nI h := by rw [v2 0 (by omega), hh]
        rw [e32, chk_nI (show h < 16 by omega) (by omega), w_nat (show h < 2147483648 by omega)]
        have e33 : up2 m' 22 h (nI c) 0 32 = nI h := by rw [up2_n (by omega), e32]
        rw [e33, w_succ]
        have hG := Gf_11 hm v2
        refine ⟨_, rfl, ⟨fun k h1 h2 h3 => ?_, fun j hj => ?_⟩, ?_, fun i hi => ?_, fun i v hv => ?_⟩
        · rw [up2_n h1, up2_n h3]; exact hG.1 k h1 h2 h3
        · rw [up2_o hj, up2_n (by omega)]; exact hG.2 j hj
        · rw [up2_s]; unfold upd; rw [if_pos rfl]; rfl
        · rw [up2_n (by omega), up2_o (by omega), v2 22 (by omega)]
        · rcases i with _ | i
          · rw [up2_n (by omega), up2_s]; unfold upd
            rw [if_pos (Nat.add_zero h)]
            exact Option.some.inj hv
          · cases hv
    · rw [if_neg (show ¬ nI 1 = 3 by decide), cc, if_pos (show nI 1 = 1 from rfl), cc]
      exact join (Or.inl rfl)
    · rw [if_neg (show ¬ nI 2 = 3 by decide), cc, if_neg (show ¬ nI 2 = 1 by decide), cc, if_pos (show nI 2 = 2 from rfl), cc]
      exact join (Or.inr rfl)
    · rw [if_pos (show nI 3 = 3 from rfl), (h3 rfl).1]
      exact ⟨m, rfl, hm, hh, fun i _ => rfl, fun i v hv => by cases hv⟩
end
section
/-! ===== L3: reasonTests, reasonFeature, reasonValue: the operations ===== -/
/-- the tests of the reason r of p that held -/
def hl (μ ν : Mm) (p r : Nat) : List Int32 := (lst μ (rcN ν r)).filter (hd (μ 33 p))
theorem hl_tru {C N p r : Nat} {μ ν : Mm} (hC : Con C μ ν) (hR : Rul C N μ ν) (hr : r < N) (hJ : Jud1 C N μ ν p) (hb : bt (μ 32 p) r = true) : hl μ ν p r = (lst μ (rcN ν r)).filter (tru ν p) := by
  have hC30 := hC.1
  obtain ⟨k, hk, _, _, j3, j4⟩ := hJ
  have h1 := j3 r hr hb
  unfold hl
  apply List.filter_congr
  intro x hx
  obtain ⟨j, g1, g2, _⟩ := lst_ok hC30 hC.2.2.2.2.2 (rcN ν r + 1) (rcN ν r) (by omega) (Rul_rc hC30 hR hr) x hx
  unfold hd tru
  rw [g2, w_nat (by omega)]
  exact (j4 j (by omega)).1
theorem Rg {t : Nat} {μ ν m : Mm} (h : R t μ ν) (hm : Gf m ν) : R t μ m :=
  R_fr (fun k _ _ _ _ => rfl) hm.1 (fun j _ hj => hm.2 j hj) h
theorem none_bad {P : Nat} {a b : Int32} {ν : Mm} (hP : P ≤ 200) (e : ν 0 15 = nI P) (h : a.toInt < 0 ∨ (P : Int) ≤ a.toInt) : f_X8_isNone a b ν = some (1, up2 (up2 ν 0 0 0) 0 0 1) := by
  unfold f_X8_isNone
  rw [isP_bad hP (by rw [thr_0 ν 0 (by omega)]; exact e) h]
  rfl
theorem none_eq {A T P C N p : Nat} {b : Int32} {μ ν : Mm} (z : ν 0 0 = 0) (hA : Acc A μ ν) (hL : Led A T P μ ν) (hC : Con C μ ν) (hR : Rul C N μ ν) (hT : T ≤ 800000) (hp : p < P) (hJ : Jud1 C N μ ν p) :
    (rrI (μ 32 p) b N = -1 ∧ ∃ m', (((f_X8_isPayment (nI p) ν).bind (fun r1 => (if (r1 : Int32) = 0 then ((f_X8_fails 1 ν).bind (fun r14 => some ((1 : Int32), r14.2))) else ((f_X8_ruleOf (nI p) b ν).bind (fun r4 => (if 0 ≤ (r4.1 : Int32) then (chk r4.1 12 (((f_X8_gathers 16 ((up2 r4.2 0 32 0) 20 r4.1.toNatClampNeg) (nI p) (up2 r4.2 0 32 0)).bind (fun r8 => (if (r8 0 0 : Int32) ≤ 0 then some (0, r8) else some (1, r8)))))) else ((f_X8_fails 2 (up2 r4.2 0 32 0)).bind (fun r11 => (if (r11.2 0 0 : Int32) ≤ 0 then some (0, r11.2) else some (1, r11.2))))))))))) = some (1, up2 m' 0 0 2) ∧ Gf m' ν) ∨
    ∃ r m', r < N ∧ rrI (μ 32 p) b N = nI r ∧ (((f_X8_isPayment (nI p) ν).bind (fun r1 => (if (r1 : Int32) = 0 then ((f_X8_fails 1 ν).bind (fun r14 => some ((1 : Int32), r14.2))) else ((f_X8_ruleOf (nI p) b ν).bind (fun r4 => (if 0 ≤ (r4.1 : Int32) then (chk r4.1 12 (((f_X8_gathers 16 ((up2 r4.2 0 32 0) 20 r4.1.toNatClampNeg) (nI p) (up2 r4.2 0 32 0)).bind (fun r8 => (if (r8 0 0 : Int32) ≤ 0 then some (0, r8) else some (1, r8)))))) else ((f_X8_fails 2 (up2 r4.2 0 32 0)).bind (fun r11 => (if (r11.2 0 0 : Int32) ≤ 0 then some (0, r11.2) else some (1, r11.2))))))))))) = some (0, m') ∧ Gf m' ν ∧ m' 0 32 = nI (hl μ ν p r).length ∧ (hl μ ν p r).length ≤ 8 ∧ ∀ i v, (hl μ ν p r)[i]? = some v → m' 22 i = v := by
  have hP := hL.1
  have hN := hR.1
  have hC30 := hC.1
  obtain ⟨m1, v1, v2⟩ := ruleOf_eq (a := b) hA hL hC hR hT hp hJ (m := ν) (fun _ _ => rfl)
  rw [isP_ok hP hL.2.2.1 hp, Option.bind_some, if_neg (by decide), v1, Option.bind_some]
  have hG0 : Gf (up2 m1 0 32 0) ν := ⟨fun k h1 h2 h3 => by rw [up2_n h1]; exact v2 k h2, fun j hj => by rw [up2_o hj]; rw [v2 0 (by omega)]⟩
  rcases rrI_cases (x := μ 32 p) (a := b) hN with h1 | ⟨r, hr, h2, hb⟩
  · left
    rw [h1]
    exact ⟨rfl, up2 m1 0 32 0, rfl, hG0⟩
  · right
    rw [h2]
    have hrc := Rul_rc hC30 hR hr
    obtain ⟨s, s1, s2⟩ := Con_size hC hrc
    obtain ⟨n, n1, n2, n3, n4⟩ := lst_len hC.2.2.2.2.2 hrc
    obtain ⟨m', g1, g2, g3, g4, g5⟩ := gathers_eq hA hL hC hT hp 16 (rcN ν r) s hrc s2 (by omega) s1 (up2 m1 0 32 0) 0 hG0 rfl (by omega)
    rw [← hl_tru hC hR hr hJ hb] at g3 g5
    have e20 : up2 m1 0 32 0 20 r = nI (rcN ν r) := by
      rw [hG0.1 20 (by omega) (by omega) (by omega)]
      obtain ⟨c, w, _, _, _, _, h5, _⟩ := hR.2.2.2.2.2 r hr
      unfold rcN
      rw [h5, w_nat (by omega)]
    have hlen : (hl μ ν p r).length ≤ 8 := by
      have : (hl μ ν p r).length ≤ (lst μ (rcN ν r)).length := List.length_filter_le _ _
      omega
    refine ⟨r, m', hr, rfl, ?_, g2, ?_, hlen, ?_⟩
    · rw [if_pos (nn_nI (by omega)), chk_nI (show r < 12 by omega) (by omega), w_nat (show r < 2147483648 by omega), e20, g1, Option.bind_some, if_pos]
      rw [g2.2 0 (by omega), z]; decide
    · rw [g3, Nat.zero_add]
    · intro i v hv
      have := g5 i v hv
      rw [Nat.zero_add] at this
      exact this
theorem hl_mem {C N p r : Nat} {x : Int32} {μ ν : Mm} (hC : Con C μ ν) (hR : Rul C N μ ν) (hr : r < N) (hx : x ∈ hl μ ν p r) : ∃ j, j ≤ rcN ν r ∧ j < C ∧ x = nI j ∧ ν 12 j = 0 := by
  have hC30 := hC.1
  have hrc := Rul_rc hC30 hR hr
  obtain ⟨j, g1, g2, g3⟩ := lst_ok hC30 hC.2.2.2.2.2 (rcN ν r + 1) (rcN ν r) (by omega) hrc x (List.mem_filter.mp hx).1
  exact ⟨j, g1, by omega, g2, g3⟩
theorem rc27 {C N r : Nat} {μ ν : Mm} (hC : C ≤ 30) (hR : Rul C N μ ν) (hr : r < N) : μ 27 r = nI (rcN ν r) := by
  obtain ⟨c, w, h1, _, _, h4, h5, _⟩ := hR.2.2.2.2.2 r hr
  unfold rcN
  rw [h5, w_nat (by omega)]; exact h4
theorem op_reasonTests {t : Nat} {μ ν : Mm} (a b : Int32) (o : Nat → Int64) (h : R t μ ν) : ∃ c o' w ν', f_L_reasonTests_0_o a b μ o = some (c, o') ∧ f_X8_reasonTests a b ν = some (w, ν') ∧ Res t c o' w μ ν' := by
  have hz : R t μ (up2 ν 0 0 0) := R_thr 0 h
  have hz2 := hz
  have e15 : ∀ A, (up2 ν 0 0 0) 0 15 = nI A → ν 0 15 = nI A := fun A h => by rw [thr_0 ν 0 (by omega)] at h; exact h
  unfold f_X8_reasonTests f_L_reasonTests_0_o f_X7_reasonTests f_X7_ruleOfReason
  obtain ⟨ht, A, T, P, F, C, N, hA, hT, hL, hK, hC, hR, hc, hJ⟩ := hz
  have hP := hL.1
  have hN := hR.1
  have hC30 := hC.1
  rcases idx_cases a P with hb | ⟨p, hp, rfl⟩
  · rw [reqP_bad hP hL.2.1 hb, none_bad hP (e15 P hL.2.2.1) hb]
    exact ⟨1, o, 0, up2 (up2 ν 0 0 0) 0 0 1, rfl, rfl, rfl, fun h => absurd h (by decide), R_thr 1 hz2⟩
  · rw [reqP_ok hP hL.2.1 hp, Option.bind_some, if_pos rfl, chk_nI (show p < 200 by omega) (by omega), w_nat (show p < 2147483648 by omega), atRank_eq hN hR.2.1]
    unfold f_X8_isNone
    have z : (up2 ν 0 0 0) 0 0 = 0 := rfl
    generalize up2 ν 0 0 0 = ν1 at hA hT hL hK hC hR hc hJ hz2 z ⊢
    rcases none_eq (b := b) z hA hL hC hR (Nat.le_trans hT.1 ht) hp (hJ p hp) with ⟨h1, m', h2, h3⟩ | ⟨r, m', hr, h1, h2, h3, h4, h5, h6⟩
    · rw [h1, h2]
      exact ⟨2, o, 0, up2 m' 0 0 2, rfl, rfl, rfl, fun h => absurd h (by decide), R_thr 2 (Rg hz2 h3)⟩
    · rw [h1, h2, Option.bind_some, if_neg (m1_ne (by omega)), Option.bind_some, if_pos rfl]
      show ∃ c o' w ν', (((chk (nI r) 12 (chk (nI p) 200 ((f_X3_countTests (μ 27 (nI r).toNatClampNeg) (μ 33 p) μ).bind (fun r9 => some (0, r9)))) : Option (Nat × Int32)).bind _) = some (c, o') ∧ _ ∧ _)
      rw [chk_nI (show r < 12 by omega) (by omega), chk_nI (show p < 200 by omega) (by omega), w_nat (show r < 2147483648 by omega), rc27 hC30 hR hr, count_eq hC30 hC.2.2.2.2.2 (Rul_rc hC30 hR hr), Option.bind_some, Option.bind_some, if_pos rfl, chk0, Option.bind_some, if_pos rfl]
      exact ⟨0, _, nI (hl μ ν1 p r).length, m', rfl, by show some (m' 0 32, m') = _; rw [h4], by rw [h3.2 0 (by omega)]; exact z, fun _ => rfl, Rg hz2 h3⟩
/-- which test a rank names -/
theorem tst_cases {L : List Int32} {a : Int32} (hL : L.length ≤ 8) : ((a.toInt < 0 ∨ (L.length : Int) ≤ a.toInt) ∧ tAt L 0 a = -1) ∨ ∃ j v, j < L.length ∧ a = nI j ∧ L[j]? = some v ∧ tAt L 0 a = v := by
  rcases tAt_get L 0 a with ⟨j, v, h1, h2, h3⟩ | ⟨h1, h2⟩
  · right
    refine ⟨j, v, ?_, by rw [h2, Nat.zero_add], h1, h3⟩
    exact (List.getElem?_eq_some_iff.mp h1).1
  · left
    refine ⟨?_, h2⟩
    rcases idx_cases a L.length with h | ⟨j, hj, e⟩
    · exact h
    · exact absurd (by rw [e, Nat.zero_add]) (h1 j hj)
theorem op_reasonFeature {t : Nat} {μ ν : Mm} (a b d : Int32) (o : Nat → Int64) (h : R t μ ν) : ∃ c o' w ν', f_L_reasonFeature_0_o a b d μ o = some (c, o') ∧ f_X8_reasonFeature a b d ν = some (w, ν') ∧ Res t c o' w μ ν' := by
  have hz : R t μ (up2 ν 0 0 0) := R_thr 0 h
  have hz2 := hz
  have e15 : ∀ A, (up2 ν 0 0 0) 0 15 = nI A → ν 0 15 = nI A := fun A h => by rw [thr_0 ν 0 (by omega)] at h; exact h
  unfold f_X8_reasonFeature f_X8_isNoTest f_L_reasonFeature_0_o f_X7_reasonFeature f_X7_testOfReason f_X7_ruleOfReason
  obtain ⟨ht, A, T, P, F, C, N, hA, hT, hL, hK, hC, hR, hc, hJ⟩ := hz
  have hP := hL.1
  have hN := hR.1
  have hC30 := hC.1
  rcases idx_cases a P with hb | ⟨p, hp, rfl⟩
  · rw [reqP_bad hP hL.2.1 hb, none_bad hP (e15 P hL.2.2.1) hb]
    exact ⟨1, o, 0, up2 (up2 ν 0 0 0) 0 0 1, rfl, rfl, rfl, fun h => absurd h (by decide), R_thr 1 hz2⟩
  · rw [reqP_ok hP hL.2.1 hp, Option.bind_some, if_pos rfl, chk_nI (show p < 200 by omega) (by omega), w_nat (show p < 2147483648 by omega), atRank_eq hN hR.2.1]
    unfold f_X8_isNone
    have z : (up2 ν 0 0 0) 0 0 = 0 := rfl
    generalize up2 ν 0 0 0 = ν1 at hA hT hL hK hC hR hc hJ hz2 z ⊢
    rcases none_eq (b := b) z hA hL hC hR (Nat.le_trans hT.1 ht) hp (hJ p hp) with ⟨h1, m', h2, h3⟩ | ⟨r, m', hr, h1, h2, h3, h4, h5, h6⟩
    · rw [h1, h2]
      exact ⟨2, o, 0, up2 m' 0 0 2, rfl, rfl, rfl, fun h => absurd h (by decide), R_thr 2 (Rg hz2 h3)⟩
    · rw [h1, h2, Option.bind_some, if_neg (m1_ne (by omega)), Option.bind_some, if_pos rfl, Option.bind_some]
      have eL : (lst μ (rcN ν1 r)).filter (hd (μ 33 p)) = hl μ ν1 p r := rfl
      dsimp only
      rw [chk_nI (show r < 12 by omega) (by omega), chk_nI (show p < 200 by omega) (by omega), w_nat (show r < 2147483648 by omega), rc27 hC30 hR hr, testAt_eq hC30 hC.2.2.2.2.2 (Rul_rc hC30 hR hr), eL, h4, if_pos rfl, Option.bind_some]
      rcases tst_cases (a := d) h5 with ⟨t1, t2⟩ | ⟨j, v, t1, t2, t3, t4⟩
      · rw [t2, btw_bad t1 (by omega)]
        exact ⟨2, o, 0, up2 m' 0 0 2, rfl, rfl, rfl, fun h => absurd h (by decide), R_thr 2 (Rg hz2 h3)⟩
      · obtain ⟨q, q1, q2, q3, q4⟩ := hl_mem hC hR hr (List.mem_of_getElem? t3)
        have m22 := h6 j v t3
        have m00 : m' 0 0 = 0 := by rw [h3.2 0 (by omega)]; exact z
        obtain ⟨k', s', n', _, _, i1, i2, _, _, _, _, i0, _, _⟩ := hC.2.2.2.2.2 q q2
        have hk0 : k' = 0 := (w_eq (b := 0) (by omega) (by omega)).mp (i1.symm.trans q4)
        obtain ⟨f1, f2, f3, f4, f5, f6, f, w, g1, g2, g3, g4, g5⟩ := i0 hk0
        have hf : f < 65536 := by
          rcases g1 with rfl | rfl | rfl | rfl | rfl | rfl | rfl | rfl | rfl | rfl | rfl | rfl | rfl <;> omega
        refine ⟨0, vp_updL o (0 : Int32).toNatClampNeg (nI f).toInt64, nI f, m', ?_, ?_, m00, fun _ => rfl, Rg hz2 h3⟩
        · rw [t4, q3, if_neg (m1_ne (by omega)), Option.bind_some]
          show ((chk (nI q) 30 (gn .char (μ 16 (nI q).toNatClampNeg) (some (0, μ 16 (nI q).toNatClampNeg))) : Option (Nat × Int32)).bind _) = _
          rw [chk_nI (show q < 30 by omega) (by omega), w_nat (show q < 2147483648 by omega), f1, g4, gnc hf, Option.bind_some, if_pos rfl, chk0]
        · rw [t2, btw_ok t1 (by omega), Option.bind_some, if_neg (by decide), if_pos (show m' 0 0 ≤ 0 from by rw [m00]; decide), Option.bind_some]
          show (if (0 : Int32) = 0 then chk (nI j) 16 (chk (m' 22 (nI j).toNatClampNeg) 30 (gn .char (m' 18 (m' 22 (nI j).toNatClampNeg).toNatClampNeg) (some (m' 18 (m' 22 (nI j).toNatClampNeg).toNatClampNeg, m')))) else _) = _
          rw [if_pos rfl, chk_nI (show j < 16 by omega) (by omega), w_nat (show j < 2147483648 by omega), m22, q3, chk_nI (show q < 30 by omega) (by omega), w_nat (show q < 2147483648 by omega), h3.1 18 (by omega) (by omega) (by omega), g4, gnc hf]
theorem op_reasonValue {t : Nat} {μ ν : Mm} (a b d : Int32) (o : Nat → Int64) (h : R t μ ν) : ∃ c o' w ν', f_L_reasonValue_0_o a b d μ o = some (c, o') ∧ f_X8_reasonValue a b d ν = some (w, ν') ∧ Res t c o' w μ ν' := by
  have hz : R t μ (up2 ν 0 0 0) := R_thr 0 h
  have hz2 := hz
  have e15 : ∀ A, (up2 ν 0 0 0) 0 15 = nI A → ν 0 15 = nI A := fun A h => by rw [thr_0 ν 0 (by omega)] at h; exact h
  unfold f_X8_reasonValue f_X8_isNoTest f_L_reasonValue_0_o f_X7_reasonValue f_X7_testOfReason f_X7_ruleOfReason
  obtain ⟨ht, A, T, P, F, C, N, hA, hT, hL, hK, hC, hR, hc, hJ⟩ := hz
  have hP := hL.1
  have hN := hR.1
  have hC30 := hC.1
  rcases idx_cases a P with hb | ⟨p, hp, rfl⟩
  · rw [reqP_bad hP hL.2.1 hb, none_bad hP (e15 P hL.2.2.1) hb]
    exact ⟨1, o, 0, up2 (up2 ν 0 0 0) 0 0 1, rfl, rfl, rfl, fun h => absurd h (by decide), R_thr 1 hz2⟩
  · rw [reqP_ok hP hL.2.1 hp, Option.bind_some, if_pos rfl, chk_nI (show p < 200 by omega) (by omega), w_nat (show p < 2147483648 by omega), atRank_eq hN hR.2.1]
    unfold f_X8_isNone
    have z : (up2 ν 0 0 0) 0 0 = 0 := rfl
    generalize up2 ν 0 0 0 = ν1 at hA hT hL hK hC hR hc hJ hz2 z ⊢
    rcases none_eq (b := b) z hA hL hC hR (Nat.le_trans hT.1 ht) hp (hJ p hp) with ⟨h1, m', h2, h3⟩ | ⟨r, m', hr, h1, h2, h3, h4, h5, h6⟩
    · rw [h1, h2]
      exact ⟨2, o, 0, up2 m' 0 0 2, rfl, rfl, rfl, fun h => absurd h (by decide), R_thr 2 (Rg hz2 h3)⟩
    · rw [h1, h2, Option.bind_some, if_neg (m1_ne (by omega)), Option.bind_some, if_pos rfl, Option.bind_some]
      have eL : (lst μ (rcN ν1 r)).filter (hd (μ 33 p)) = hl μ ν1 p r := rfl
      dsimp only
      rw [chk_nI (show r < 12 by omega) (by omega), chk_nI (show p < 200 by omega) (by omega), w_nat (show r < 2147483648 by omega), rc27 hC30 hR hr, testAt_eq hC30 hC.2.2.2.2.2 (Rul_rc hC30 hR hr), eL, h4, if_pos rfl, Option.bind_some]
      rcases tst_cases (a := d) h5 with ⟨t1, t2⟩ | ⟨j, v, t1, t2, t3, t4⟩
      · rw [t2, btw_bad t1 (by omega)]
        exact ⟨2, o, 0, up2 m' 0 0 2, rfl, rfl, rfl, fun h => absurd h (by decide), R_thr 2 (Rg hz2 h3)⟩
      · obtain ⟨q, q1, q2, q3, q4⟩ := hl_mem hC hR hr (List.mem_of_getElem? t3)
        have m22 := h6 j v t3
        have m00 : m' 0 0 = 0 := by rw [h3.2 0 (by omega)]; exact z
        obtain ⟨k', s', n', _, _, i1, i2, _, _, _, _, i0, _, _⟩ := hC.2.2.2.2.2 q q2
        have hk0 : k' = 0 := (w_eq (b := 0) (by omega) (by omega)).mp (i1.symm.trans q4)
        obtain ⟨f1, f2, f3, f4, f5, f6, f, w, g1, g2, g3, g4, g5⟩ := i0 hk0
        have hbr : bt (μ 32 p) r = true := by
          rcases rrI_cases (x := μ 32 p) (a := b) hN with x1 | ⟨r', x1, x2, x3⟩
          · rw [h1] at x1; exact absurd x1 (m1_ne (by omega))
          · have : r = r' := (w_eq (by omega) (by omega)).mp (h1.symm.trans x2)
            rw [this]; exact x3
        have hval : μ 34 (30 * p + q) = VC ν1 (ν1 7 p) p q := by
          obtain ⟨k, hk, _, _, j3, j4⟩ := hJ p hp
          have := j3 r hr hbr
          exact (j4 q (by omega)).2 q4
        obtain ⟨m2, v1, v2⟩ := mV (w := nI w) (mk := ν1 7 p) (Acc_g hA h3) (Led_g hL h3) (Nat.le_trans hT.1 ht) hp (show win (nI w) from ⟨by rw [w_int (by omega)]; omega, by rw [w_int (by omega)]; omega⟩) g1
        have ec : cut m' p = cut ν1 p := (Sst_g (C := C) (p := p) h3).2
        have eV : V (cut m' p) (nI f) (nI w) (ν1 7 p) p = VC ν1 (ν1 7 p) p q := by unfold VC; rw [g4, g5, ec]
        refine ⟨0, vp_updL o (0 : Int32).toNatClampNeg (VC ν1 (ν1 7 p) p q).toInt64, VC ν1 (ν1 7 p) p q, m2, ?_, ?_, by rw [v2 0 (by omega)]; exact m00, fun _ => rfl, Rg hz2 (Gf_11 h3 v2)⟩
        · rw [t4, q3, if_neg (m1_ne (by omega)), Option.bind_some]
          unfold f_X2_foundValue
          show (((chk (nI p * 30 + nI q) 6000 (some (μ 34 (nI p * 30 + nI q).toNatClampNeg))).bind (fun r7 => some ((0 : Nat), r7))).bind _) = _
          rw [show (nI p * 30 + nI q : Int32) = nI (30 * p + q) from by rw [show (30 : Int32) = nI 30 from rfl, w_mul, w_add, Nat.mul_comm], chk_nI (show 30 * p + q < 6000 by omega) (by omega), w_nat (show 30 * p + q < 2147483648 by omega), hval, Option.bind_some, Option.bind_some, if_pos rfl, chk0]
        · rw [t2, btw_ok t1 (by omega), Option.bind_some, if_neg (by decide), if_pos (show m' 0 0 ≤ 0 from by rw [m00]; decide), Option.bind_some]
          show (if (0 : Int32) = 0 then chk (nI j) 16 (chk (m' 22 (nI j).toNatClampNeg) 30 (chk (nI j) 16 (chk (m' 22 (nI j).toNatClampNeg) 30 (chk (nI p) 200 ((f_X8_valueBy (nI p) (m' 18 (m' 22 (nI j).toNatClampNeg).toNatClampNeg) (m' 16 (m' 22 (nI j).toNatClampNeg).toNatClampNeg) (m' 7 p) m').bind (fun r9 => some (r9.1, r9.2))))))) else _) = _
          rw [if_pos rfl, chk_nI (show j < 16 by omega) (by omega), w_nat (show j < 2147483648 by omega), m22, q3, chk_nI (show q < 30 by omega) (by omega), chk_nI (show j < 16 by omega) (by omega), chk_nI (show q < 30 by omega) (by omega), chk_nI (show p < 200 by omega) (by omega), w_nat (show q < 2147483648 by omega), h3.1 18 (by omega) (by omega) (by omega), h3.1 16 (by omega) (by omega) (by omega), h3.1 7 (by omega) (by omega) (by omega), g4, g5, v1, Option.bind_some, eV]
end
section
/-! ===== L3: pay ===== -/
theorem pay_R {t A T P F C N a b v : Nat} {S al x : Int32} {μ ν μ' ν' : Mm} (h : Rx t A T P F C N μ ν) (ht : t ≤ 800000) (hP : P < 200) (ha : a < A) (hb : b < A) (hab : a ≠ b) (hv1 : 1 ≤ v) (hv2 : v ≤ 9999)
    (m : ∀ k, k < 5 ∨ k = 13 ∨ (14 ≤ k ∧ k ≤ 23) ∨ (26 ≤ k ∧ k ≤ 28) → μ' k = μ k) (m5 : μ' 5 4 = nI (P + 1)) (m6 : ∀ k j, (6 ≤ k ∧ k ≤ 9) ∨ (30 ≤ k ∧ k ≤ 33) → j ≠ P → μ' k j = μ k j) (m34 : ∀ j, j < 30 * P → μ' 34 j = μ 34 j)
    (p6 : μ' 6 P = nI a) (p7 : μ' 7 P = nI b) (p8 : μ' 8 P = nI v) (p9 : μ' 9 P = nI T) (p29 : μ' 29 5 = if al = 111 then μ 29 5 + 1 else μ 29 5) (p30 : μ' 30 P = S) (p31 : μ' 31 P = al) (p32 : μ' 32 P = x)
    (n : ∀ k, k = 1 ∨ k = 2 ∨ (12 ≤ k ∧ k ≤ 21) → ν' k = ν k) (n0 : ∀ j, j ≠ 15 → ν' 0 j = ν 0 j) (n15 : ν' 0 15 = nI (P + 1)) (n3 : ∀ k j, 3 ≤ k → k ≤ 10 → j ≠ P → ν' k j = ν k j)
    (q3 : ν' 3 P = nI a) (q4 : ν' 4 P = nI b) (q5 : ν' 5 P = nI v) (q6 : ν' 6 P = nI T) (q9 : ν' 9 P = S) (q10 : ν' 10 P = al) (hal : al = 45 ∨ al = 111) (hS : S = fo (wgS ν x) 0 N 0) (hnew : Jud1 C N μ' ν' P) : Rx t A T (P + 1) F C N μ' ν' := by
  obtain ⟨hA, hT, hL, hK, hC, hR, hc, hJ⟩ := h
  have hT8 : T ≤ 800000 := Nat.le_trans hT.1 ht
  refine ⟨?_, ?_, ?_, ?_, ?_, ?_, ?_, ?_⟩
  · unfold Acc at hA ⊢
    rw [m 2 (by omega), m 3 (by omega), m 4 (by omega), n0 3 (by omega), n0 5 (by omega), n0 6 (by omega), n 1 (by omega), n 2 (by omega)]
    exact hA
  · unfold Tim at hT ⊢
    rw [m 1 (by omega), m 0 (by omega), n0 4 (by omega), n0 16 (by omega)]
    exact hT
  · refine ⟨by omega, m5, n15, fun j hj => ?_, fun i j hij hj => ?_⟩
    · by_cases hjP : j = P
      · subst hjP
        rw [p6, p7, p8, p9, q3, q4, q5, q6]
        exact ⟨rfl, rfl, rfl, rfl, a, b, v, T, ha, hb, ⟨hv1, hab⟩, hv2, Nat.le_refl T, rfl, rfl, rfl, rfl⟩
      · rw [m6 6 j (by omega) hjP, m6 7 j (by omega) hjP, m6 8 j (by omega) hjP, m6 9 j (by omega) hjP, n3 3 j (by omega) (by omega) hjP, n3 4 j (by omega) (by omega) hjP, n3 5 j (by omega) (by omega) hjP, n3 6 j (by omega) (by omega) hjP]
        exact hL.2.2.2.1 j (by omega)
    · by_cases hjP : j = P
      · subst hjP
        rw [q6, w_int (show T < 2147483648 by omega)]
        by_cases hiP : i = j
        · rw [hiP, q6, w_int (show T < 2147483648 by omega)]; omega
        · rw [n3 6 i (by omega) (by omega) hiP]
          obtain ⟨u, hu, eu⟩ := Led_min hL (show i < j by omega)
          rw [eu, w_int (show u < 2147483648 by omega)]; omega
      · rw [n3 6 i (by omega) (by omega) (by omega), n3 6 j (by omega) (by omega) hjP]
        exact hL.2.2.2.2 i j hij (by omega)
  · obtain ⟨k1, k2, k3, k4⟩ := hK
    refine ⟨by omega, by rw [m 1 (by omega)]; exact k2, fun j hj => ?_, fun j hj1 hj2 => ?_⟩
    · rw [n3 6 j (by omega) (by omega) (by omega)]; exact k3 j hj
    · by_cases hjP : j = P
      · rw [hjP, q6, w_int (show T < 2147483648 by omega)]; omega
      · rw [n3 6 j (by omega) (by omega) hjP]; exact k4 j hj1 (by omega)
  · unfold Con Cnd lst at hC ⊢
    rw [m 13 (by omega), m 14 (by omega), m 15 (by omega), m 16 (by omega), m 17 (by omega), m 18 (by omega), m 19 (by omega), m 20 (by omega), m 21 (by omega), m 22 (by omega), m 23 (by omega), n0 26 (by omega), n 12 (by omega), n 13 (by omega), n 14 (by omega), n 15 (by omega), n 16 (by omega), n 17 (by omega), n 18 (by omega), n 19 (by omega)]
    exact hC
  · unfold Rul at hR ⊢
    rw [m 26 (by omega), m 27 (by omega), m 28 (by omega), n0 29 (by omega), n0 30 (by omega), n 20 (by omega), n 21 (by omega)]
    exact hR
  · have ew : ∀ y, fo (wgS ν' y) 0 N 0 = fo (wgS ν y) 0 N 0 := fun y => fo_congr N 0 0 (fun q _ _ s => by unfold wgS; rw [n 21 (by omega)])
    refine ⟨?_, fun p hp => ?_⟩
    · rw [p29, hc.1, fb_ct_succ]
      have e1 : fb_ct (fun p => decide (ν' 10 p = 111)) P = fb_ct (fun p => decide (ν 10 p = 111)) P := by
        apply fb_ct_cong
        intro k hk
        rw [n3 10 k (by omega) (by omega) (by omega)]
      rw [e1]
      show _ = nI (_ + if decide (ν' 10 P = 111) = true then 1 else 0)
      rw [q10]
      by_cases hal2 : al = 111
      · rw [if_pos hal2, if_pos (decide_eq_true hal2), w_succ]
      · rw [if_neg hal2, if_neg (by rw [decide_eq_true_eq]; exact hal2)]; rfl
    · by_cases hpP : p = P
      · subst hpP
        rw [p31, q10, p30, q9, p32, ew]
        refine ⟨rfl, ?_, rfl, hS⟩
        rcases hal with h | h
        · exact Or.inl h
        · exact Or.inr (Or.inl h)
      · rw [m6 31 p (by omega) hpP, m6 30 p (by omega) hpP, m6 32 p (by omega) hpP, n3 10 p (by omega) (by omega) hpP, n3 9 p (by omega) (by omega) hpP, ew]
        exact hc.2 p (by omega)
  · intro p hp
    by_cases hpP : p = P
    · rw [hpP]; exact hnew
    · refine Jud1_st hC.1 (Nat.le_refl C) hC.2.2.2.2.2 ⟨fun j _ => ?_, Sst_cut (fun q hq => ?_)⟩ (fun r hr => Rul_rc hC.1 hR hr) (fun r _ => by rw [n 20 (by omega)]) (n3 7 p (by omega) (by omega) hpP) (n3 8 p (by omega) (by omega) hpP) (m6 32 p (by omega) hpP) (m6 33 p (by omega) hpP) (fun c hc30 => m34 _ (by omega)) (hJ p (by omega))
      · rw [n 12 (by omega), n 13 (by omega), n 14 (by omega), n 16 (by omega), n 17 (by omega), n 18 (by omega), n 19 (by omega)]; simp
      · rw [n 1 (by omega), n 2 (by omega), n3 3 q (by omega) (by omega) (by omega), n3 4 q (by omega) (by omega) (by omega), n3 5 q (by omega) (by omega) (by omega), n3 6 q (by omega) (by omega) (by omega)]; simp
theorem cell30 {p c : Nat} : (nI p * 30 + nI c : Int32) = nI (30 * p + c) := by
  rw [show (30 : Int32) = nI 30 from rfl, w_mul, w_add, Nat.mul_comm]
theorem n45 : vp_nar .char 45 = 45 := narc (c := 45) (by omega)
theorem n111 : vp_nar .char 111 = 111 := narc (c := 111) (by omega)
theorem keepC_eq {C P : Nat} {x wt : Int32} {μ : Mm} (f : Nat → Bool) (hC : C ≤ 30) (hP : P < 200) (e13 : μ 13 12 = nI C) (h24 : ∀ c, c < C → μ 24 c = b2 (f c)) : ∃ μ', f_X2_keep_13 (nI P) x wt μ = some μ' ∧ (∀ k, k < 30 ∨ 34 < k → μ' k = μ k) ∧ (∀ k j, 30 ≤ k → k ≤ 33 → j ≠ P → μ' k j = μ k j) ∧ (∀ j, j < 30 * P → μ' 34 j = μ 34 j) ∧ μ' 30 P = wt ∧ μ' 31 P = 45 ∧ μ' 32 P = x ∧ ∀ c, c < C → bt (μ' 33 P) c = f c ∧ μ' 34 (30 * P + c) = μ 25 c := by
  unfold f_X2_keep_13
  have hh := up_loopR (fun n y (s : Int32 × Mm) => f_X2_keep_13_L6 (fun (y7 : Int32) (m8 : Mm) => (chk (nI P) 200 ((chk (nI P) 200 ((chk (nI P) 200 ((chk (nI P) 200 (some (up2 (up2 (up2 (up2 m8 33 (nI P).toNatClampNeg y7) 32 (nI P).toNatClampNeg x) 30 (nI P).toNatClampNeg wt) 31 (nI P).toNatClampNeg (vp_nar .char 45))))))))))) (nI P) x wt n s.1 y s.2) C (fun s => some (up2 (up2 (up2 (up2 s.2 33 P s.1) 32 P x) 30 P wt) 31 P 45)) (fun i s => (∀ k, k ≠ 34 → s.2 k = μ k) ∧ (∀ j, j < 30 * P → s.2 34 j = μ 34 j) ∧ ∀ c, c < i → bt s.1 c = f c ∧ s.2 34 (30 * P + c) = μ 25 c) ?_ ?_ C fuel 0 (0, μ) (by omega) (by unfold fuel; omega) ⟨fun _ _ => rfl, fun _ _ => rfl, fun c hc => by omega⟩
  · obtain ⟨s, e1, s1, s2, s3⟩ := hh
    refine ⟨_, e1, fun k hk => ?_, fun k j h1 h2 hj => ?_, fun j hj => ?_, ?_, ?_, ?_, fun c hc => ?_⟩
    · rw [up2_n (by omega), up2_n (by omega), up2_n (by omega), up2_n (by omega)]; exact s1 k (by omega)
    · rw [up2_o hj, up2_o hj, up2_o hj, up2_o hj, s1 k (by omega)]
    · rw [up2_n (by omega), up2_n (by omega), up2_n (by omega), up2_n (by omega)]; exact s2 j hj
    · rw [up2_n (by omega), up2_s]; unfold upd; rw [if_pos rfl]
    · rw [up2_s]; unfold upd; rw [if_pos rfl]
    · rw [up2_n (by omega), up2_n (by omega), up2_s]; unfold upd; rw [if_pos rfl]
    · refine ⟨?_, ?_⟩
      · rw [up2_n (by omega), up2_n (by omega), up2_n (by omega), up2_s]; unfold upd; rw [if_pos rfl]; exact (s3 c hc).1
      · rw [up2_n (by omega), up2_n (by omega), up2_n (by omega), up2_n (by omega)]; exact (s3 c hc).2
  · intro n s hs
    show f_X2_keep_13_L6 _ (nI P) x wt (n + 1) s.1 (nI C) s.2 = _
    unfold f_X2_keep_13_L6
    rw [hs.1 13 (by omega), e13, if_pos (by rw [w_le (by omega) (by omega)]; omega), chk_nI hP (by omega), chk_nI hP (by omega), chk_nI hP (by omega), chk_nI hP (by omega), w_nat (show P < 2147483648 by omega), n45]
  · intro n i s hi hs
    refine ⟨(sb s.1 i (f i), up2 s.2 34 (30 * P + i) (μ 25 i)), ?_, fun k hk => by show up2 s.2 34 (30 * P + i) (μ 25 i) k = _; rw [up2_n hk]; exact hs.1 k hk, fun j hj => ?_, fun c hc => ?_⟩
    · show f_X2_keep_13_L6 _ (nI P) x wt (n + 1) s.1 (nI i) s.2 = f_X2_keep_13_L6 _ (nI P) x wt n (sb s.1 i (f i)) (nI (i + 1)) (up2 s.2 34 (30 * P + i) (μ 25 i))
      conv => lhs; unfold f_X2_keep_13_L6
      have ed : decide (b2 (f i) ≠ 0) = f i := by cases f i <;> rfl
      rw [hs.1 13 (by omega), hs.1 24 (by omega), hs.1 25 (by omega), e13, if_neg (by rw [w_le (by omega) (by omega)]; omega), chk_nI (show i < 30 by omega) (by omega), w_nat (show i < 2147483648 by omega), h24 i hi, withBit_eq, Option.bind_some, chk_nI (show i < 30 by omega) (by omega), cell30, chk_nI (show 30 * P + i < 6000 by omega) (by omega), w_nat (show 30 * P + i < 2147483648 by omega), w_succ, ed]
    · show up2 s.2 34 (30 * P + i) (μ 25 i) 34 j = _
      rw [up2_o (by omega)]; exact hs.2.1 j hj
    · by_cases hci : c = i
      · subst hci
        refine ⟨?_, ?_⟩
        · show bt (sb s.1 c (f c)) c = f c
          rw [bt_sb _ _ (by omega) (by omega), if_pos rfl]
        · show up2 s.2 34 (30 * P + c) (μ 25 c) 34 (30 * P + c) = μ 25 c
          rw [up2_s]; unfold upd; rw [if_pos rfl]
      · obtain ⟨g1, g2⟩ := hs.2.2 c (by omega)
        refine ⟨?_, ?_⟩
        · show bt (sb s.1 i (f i)) c = f c
          rw [bt_sb _ _ (by omega) (by omega), if_neg hci]; exact g1
        · show up2 s.2 34 (30 * P + i) (μ 25 i) 34 (30 * P + c) = μ 25 c
          rw [up2_o (by omega)]; exact g2
/-- the component's memory behind append -/
def pcM (μ : Mm) (P : Nat) (a b v T : Int32) : Mm := up2 (up2 (up2 (up2 (up2 μ 6 P a) 7 P b) 8 P v) 9 P T) 5 4 (nI (P + 1))
theorem appendP_eq {P : Nat} {a b v T : Int32} {μ : Mm} (hP : P < 200) (e : μ 5 4 = nI P) : f_X4_append a b v T μ = some (nI P, pcM μ P a b v T) := by
  unfold f_X4_append setm pcM
  have eP : (nI P).toNatClampNeg = P := w_nat (by omega)
  have ck : ∀ {α : Type} (k : Option α), chk (nI P) 200 k = k := fun k => chk_nI hP (by omega)
  simp only [up2_n (k := 6) (a := 5) (by omega), up2_n (k := 7) (a := 5) (by omega), up2_n (k := 8) (a := 5) (by omega), up2_n (k := 9) (a := 5) (by omega), e, eP, ck, w_succ]
/-- the model's memory when the payment is made -/
def pmM (ν : Mm) (P : Nat) (a b v : Int32) : Mm := up2 (up2 (up2 (up2 (up2 (up2 (up2 ν 3 P a) 4 P b) 5 P v) 6 P (ν 0 4)) 7 P (ν 0 5)) 8 P (ν 0 30)) 0 15 (nI (P + 1))
theorem mPay_eq {P : Nat} {a1 a2 a3 S th : Int32} {ν ν3 : Mm} (hP : P < 200) (e : ν 0 15 = nI P) (eS : f_X8_scoreBy (nI P) (ν 0 30) (ν 0 5) (pmM ν P a1 a2 a3) = some (S, ν3)) (e15 : ν3 0 15 = nI (P + 1)) (e16 : ν3 0 16 = th) :
    (chk (ν 0 15) 200 ((chk ((up2 ν 3 (ν 0 15).toNatClampNeg a1) 0 15) 200 ((setm (up2 (up2 ν 3 (ν 0 15).toNatClampNeg a1) 4 ((up2 ν 3 (ν 0 15).toNatClampNeg a1) 0 15).toNatClampNeg a2) (fun mm26 => (chk (mm26 0 15) 200 ((chk ((up2 mm26 5 (mm26 0 15).toNatClampNeg a3) 0 15) 200 ((setm (up2 (up2 mm26 5 (mm26 0 15).toNatClampNeg a3) 6 ((up2 mm26 5 (mm26 0 15).toNatClampNeg a3) 0 15).toNatClampNeg ((up2 mm26 5 (mm26 0 15).toNatClampNeg a3) 0 4)) (fun mm29 => (chk (mm29 0 15) 200 ((chk ((up2 mm29 7 (mm29 0 15).toNatClampNeg (mm29 0 5)) 0 15) 200 ((setm (up2 (up2 mm29 7 (mm29 0 15).toNatClampNeg (mm29 0 5)) 8 ((up2 mm29 7 (mm29 0 15).toNatClampNeg (mm29 0 5)) 0 15).toNatClampNeg ((up2 mm29 7 (mm29 0 15).toNatClampNeg (mm29 0 5)) 0 30)) (fun mm32 => ((f_X8_scoreBy (((up2 mm32 0 15 ((mm32 0 15) + 1)) 0 15) - 1) ((up2 mm32 0 15 ((mm32 0 15) + 1)) 0 30) ((up2 mm32 0 15 ((mm32 0 15) + 1)) 0 5) (up2 mm32 0 15 ((mm32 0 15) + 1))).bind (fun r33 => (chk (((up2 mm32 0 15 ((mm32 0 15) + 1)) 0 15) - 1) 200 ((chk (((up2 r33.2 9 (((up2 mm32 0 15 ((mm32 0 15) + 1)) 0 15) - 1).toNatClampNeg r33.1) 0 15) - 1) 200 ((if ((up2 r33.2 9 (((up2 mm32 0 15 ((mm32 0 15) + 1)) 0 15) - 1).toNatClampNeg r33.1) 9 (((up2 r33.2 9 (((up2 mm32 0 15 ((mm32 0 15) + 1)) 0 15) - 1).toNatClampNeg r33.1) 0 15) - 1).toNatClampNeg : Int32) < (up2 r33.2 9 (((up2 mm32 0 15 ((mm32 0 15) + 1)) 0 15) - 1).toNatClampNeg r33.1) 0 16 then (chk (((up2 r33.2 9 (((up2 mm32 0 15 ((mm32 0 15) + 1)) 0 15) - 1).toNatClampNeg r33.1) 0 15) - 1) 200 ((setm (up2 (up2 r33.2 9 (((up2 mm32 0 15 ((mm32 0 15) + 1)) 0 15) - 1).toNatClampNeg r33.1) 10 (((up2 r33.2 9 (((up2 mm32 0 15 ((mm32 0 15) + 1)) 0 15) - 1).toNatClampNeg r33.1) 0 15) - 1).toNatClampNeg (vp_nar .char 45)) (fun mm39 => some ((mm39 0 15) - 1, mm39))))) else (chk (((up2 r33.2 9 (((up2 mm32 0 15 ((mm32 0 15) + 1)) 0 15) - 1).toNatClampNeg r33.1) 0 15) - 1) 200 ((setm (up2 (up2 r33.2 9 (((up2 mm32 0 15 ((mm32 0 15) + 1)) 0 15) - 1).toNatClampNeg r33.1) 10 (((up2 r33.2 9 (((up2 mm32 0 15 ((mm32 0 15) + 1)) 0 15) - 1).toNatClampNeg r33.1) 0 15) - 1).toNatClampNeg (vp_nar .char 111)) (fun mm41 => some ((mm41 0 15) - 1, mm41)))))))))))))))))))))))))))))) =
    some (nI P, up2 (up2 ν3 9 P S) 10 P (if S < th then 45 else 111)) := by
  unfold setm
  have eP : (nI P).toNatClampNeg = P := w_nat (by omega)
  have ck : ∀ {α : Type} (k : Option α), chk (nI P) 200 k = k := fun k => chk_nI hP (by omega)
  have rd : ∀ (m : Mm) (v : Int32), (up2 m 0 15 v) 0 15 = v := fun m v => rfl
  have rd5 : ∀ (m : Mm) (v : Int32), (up2 m 0 15 v) 0 5 = m 0 5 := fun m v => up2_o (by omega)
  have rd30 : ∀ (m : Mm) (v : Int32), (up2 m 0 15 v) 0 30 = m 0 30 := fun m v => up2_o (by omega)
  have r9 : ∀ (m : Mm) (v : Int32), (up2 m 9 P v) 9 P = v := fun m v => by rw [up2_s]; unfold upd; rw [if_pos rfl]
  unfold pmM at eS
  simp only [up2_n (k := 3) (a := 0) (by omega), up2_n (k := 4) (a := 0) (by omega), up2_n (k := 5) (a := 0) (by omega), up2_n (k := 6) (a := 0) (by omega), up2_n (k := 7) (a := 0) (by omega), up2_n (k := 8) (a := 0) (by omega), up2_n (k := 9) (a := 0) (by omega), up2_n (k := 10) (a := 0) (by omega), e, eP, ck, rd, rd5, rd30, w_succ, w_pred, eS, Option.bind_some, e15, e16, r9, n45, n111]
  by_cases hs : S < th
  · rw [if_pos hs, if_pos hs]
  · rw [if_neg hs, if_neg hs]
end
section
/-! ===== L3: pay: the operation ===== -/
theorem Led_pay {A T P a b v : Nat} {μ ν μ' ν' : Mm} (hL : Led A T P μ ν) (hT8 : T ≤ 800000) (hP : P < 200) (ha : a < A) (hb : b < A) (hab : a ≠ b) (hv1 : 1 ≤ v) (hv2 : v ≤ 9999) (m5 : μ' 5 4 = nI (P + 1)) (m6 : ∀ k j, 6 ≤ k → k ≤ 9 → j ≠ P → μ' k j = μ k j)
    (p6 : μ' 6 P = nI a) (p7 : μ' 7 P = nI b) (p8 : μ' 8 P = nI v) (p9 : μ' 9 P = nI T) (n15 : ν' 0 15 = nI (P + 1)) (n3 : ∀ k j, 3 ≤ k → k ≤ 6 → j ≠ P → ν' k j = ν k j) (q3 : ν' 3 P = nI a) (q4 : ν' 4 P = nI b) (q5 : ν' 5 P = nI v) (q6 : ν' 6 P = nI T) : Led A T (P + 1) μ' ν' := by
  refine ⟨by omega, m5, n15, fun j hj => ?_, fun i j hij hj => ?_⟩
  · by_cases hjP : j = P
    · subst hjP
      rw [p6, p7, p8, p9, q3, q4, q5, q6]
      exact ⟨rfl, rfl, rfl, rfl, a, b, v, T, ha, hb, ⟨hv1, hab⟩, hv2, Nat.le_refl T, rfl, rfl, rfl, rfl⟩
    · rw [m6 6 j (by omega) (by omega) hjP, m6 7 j (by omega) (by omega) hjP, m6 8 j (by omega) (by omega) hjP, m6 9 j (by omega) (by omega) hjP, n3 3 j (by omega) (by omega) hjP, n3 4 j (by omega) (by omega) hjP, n3 5 j (by omega) (by omega) hjP, n3 6 j (by omega) (by omega) hjP]
      exact hL.2.2.2.1 j (by omega)
  · by_cases hjP : j = P
    · subst hjP
      rw [q6, w_int (show T < 2147483648 by omega)]
      by_cases hiP : i = j
      · rw [hiP, q6, w_int (show T < 2147483648 by omega)]; omega
      · rw [n3 6 i (by omega) (by omega) hiP]
        obtain ⟨u, hu, eu⟩ := Led_min hL (show i < j by omega)
        rw [eu, w_int (show u < 2147483648 by omega)]; omega
    · rw [n3 6 i (by omega) (by omega) (by omega), n3 6 j (by omega) (by omega) hjP]
      exact hL.2.2.2.2 i j hij (by omega)
theorem up2_w (μ : Mm) (k j : Nat) (v : Int32) : up2 μ k j v k j = v := by rw [up2_s]; unfold upd; rw [if_pos rfl]
theorem pay_main {t A T P F C N a b v : Nat} {μ ν : Mm} (h : Rx t A T P F C N μ ν) (ht : t ≤ 800000) (hP : P < 200) (ha : a < A) (hb : b < A) (hab : a ≠ b) (hv1 : 1 ≤ v) (hv2 : v ≤ 9999) :
    ∃ S μ2 x μ3 ν3, f_X3_judge_1 (nI P) (nI C) (pcM μ P (nI a) (nI b) (nI v) (nI T)) = some μ2 ∧ f_X6_findReasons_13 μ2 = some x ∧ f_X6_weightOf x μ2 = some S ∧ f_X2_keep_13 (nI P) x S μ2 = some μ3 ∧ f_X8_scoreBy (nI P) (ν 0 30) (ν 0 5) (pmM ν P (nI a) (nI b) (nI v)) = some (S, ν3) ∧ μ3 0 4 = ν 0 16 ∧ ν3 0 15 = nI (P + 1) ∧ ν3 0 16 = ν 0 16 ∧ ν3 0 0 = ν 0 0 ∧
      Rx t A T (P + 1) F C N μ3 (up2 (up2 ν3 9 P S) 10 P 45) ∧ Rx t A T (P + 1) F C N (up2 (up2 μ3 31 P 111) 29 5 (μ3 29 5 + 1)) (up2 (up2 ν3 9 P S) 10 P 111) := by
  have h0 := h
  obtain ⟨hA, hT, hL, hK, hC, hR, hc, hJ⟩ := h
  have hT8 : T ≤ 800000 := Nat.le_trans hT.1 ht
  have hC30 := hC.1
  have hN := hR.1
  have F1 : ∀ k, k < 5 ∨ 9 < k → pcM μ P (nI a) (nI b) (nI v) (nI T) k = μ k := fun k hk => by
    unfold pcM
    rw [up2_n (by omega), up2_n (by omega), up2_n (by omega), up2_n (by omega), up2_n (by omega)]
  have F1j : ∀ k j, 6 ≤ k → k ≤ 9 → j ≠ P → pcM μ P (nI a) (nI b) (nI v) (nI T) k j = μ k j := fun k j h1 h2 hj => by
    unfold pcM
    rw [up2_n (by omega), up2_o hj, up2_o hj, up2_o hj, up2_o hj]
  have G1 : ∀ k, k = 1 ∨ k = 2 ∨ 8 < k → pmM ν P (nI a) (nI b) (nI v) k = ν k := fun k hk => by
    unfold pmM
    rw [up2_n (by omega), up2_n (by omega), up2_n (by omega), up2_n (by omega), up2_n (by omega), up2_n (by omega), up2_n (by omega)]
  have G1j : ∀ k j, 3 ≤ k → k ≤ 8 → j ≠ P → pmM ν P (nI a) (nI b) (nI v) k j = ν k j := fun k j h1 h2 hj => by
    unfold pmM
    rw [up2_n (by omega), up2_o hj, up2_o hj, up2_o hj, up2_o hj, up2_o hj, up2_o hj]
  have G10 : ∀ j, j ≠ 15 → pmM ν P (nI a) (nI b) (nI v) 0 j = ν 0 j := fun j hj => by
    unfold pmM
    rw [up2_o hj, up2_n (by omega), up2_n (by omega), up2_n (by omega), up2_n (by omega), up2_n (by omega), up2_n (by omega)]
  have c5 : pcM μ P (nI a) (nI b) (nI v) (nI T) 5 4 = nI (P + 1) := rfl
  have c6 : pcM μ P (nI a) (nI b) (nI v) (nI T) 6 P = nI a := by
    unfold pcM; rw [up2_n (by omega), up2_n (by omega), up2_n (by omega), up2_n (by omega), up2_w]
  have c7 : pcM μ P (nI a) (nI b) (nI v) (nI T) 7 P = nI b := by
    unfold pcM; rw [up2_n (by omega), up2_n (by omega), up2_n (by omega), up2_w]
  have c8 : pcM μ P (nI a) (nI b) (nI v) (nI T) 8 P = nI v := by
    unfold pcM; rw [up2_n (by omega), up2_n (by omega), up2_w]
  have c9 : pcM μ P (nI a) (nI b) (nI v) (nI T) 9 P = nI T := by
    unfold pcM; rw [up2_n (by omega), up2_w]
  have d15 : pmM ν P (nI a) (nI b) (nI v) 0 15 = nI (P + 1) := rfl
  have d3 : pmM ν P (nI a) (nI b) (nI v) 3 P = nI a := by
    unfold pmM; rw [up2_n (by omega), up2_n (by omega), up2_n (by omega), up2_n (by omega), up2_n (by omega), up2_n (by omega), up2_w]
  have d4 : pmM ν P (nI a) (nI b) (nI v) 4 P = nI b := by
    unfold pmM; rw [up2_n (by omega), up2_n (by omega), up2_n (by omega), up2_n (by omega), up2_n (by omega), up2_w]
  have d5 : pmM ν P (nI a) (nI b) (nI v) 5 P = nI v := by
    unfold pmM; rw [up2_n (by omega), up2_n (by omega), up2_n (by omega), up2_n (by omega), up2_w]
  have d6 : pmM ν P (nI a) (nI b) (nI v) 6 P = nI T := by
    unfold pmM; rw [up2_n (by omega), up2_n (by omega), up2_n (by omega), up2_w]; exact hT.2.2.1
  have d7 : pmM ν P (nI a) (nI b) (nI v) 7 P = ν 0 5 := by
    unfold pmM; rw [up2_n (by omega), up2_n (by omega), up2_w]
  have d8 : pmM ν P (nI a) (nI b) (nI v) 8 P = ν 0 30 := by
    unfold pmM; rw [up2_n (by omega), up2_w]
  generalize hμ1 : pcM μ P (nI a) (nI b) (nI v) (nI T) = μ1 at F1 F1j c5 c6 c7 c8 c9 ⊢
  generalize hν2 : pmM ν P (nI a) (nI b) (nI v) = ν2 at G1 G1j G10 d15 d3 d4 d5 d6 d7 d8 ⊢
  have hA1 : Acc A μ1 ν2 := by
    unfold Acc at hA ⊢
    rw [F1 2 (by omega), F1 3 (by omega), F1 4 (by omega), G10 3 (by omega), G10 5 (by omega), G10 6 (by omega), G1 1 (by omega), G1 2 (by omega)]
    exact hA
  have hL1 : Led A T (P + 1) μ1 ν2 := Led_pay hL hT8 hP ha hb hab hv1 hv2 c5 F1j c6 c7 c8 c9 d15 (fun k j h1 h2 hj => G1j k j h1 (by omega) hj) d3 d4 d5 d6
  have hC1 : Con C μ1 ν2 := by
    unfold Con Cnd lst at hC ⊢
    rw [F1 13 (by omega), F1 14 (by omega), F1 15 (by omega), F1 16 (by omega), F1 17 (by omega), F1 18 (by omega), F1 19 (by omega), F1 20 (by omega), F1 21 (by omega), F1 22 (by omega), F1 23 (by omega), G10 26 (by omega), G1 12 (by omega), G1 13 (by omega), G1 14 (by omega), G1 15 (by omega), G1 16 (by omega), G1 17 (by omega), G1 18 (by omega), G1 19 (by omega)]
    exact hC
  have hR1 : Rul C N μ1 ν2 := by
    unfold Rul at hR ⊢
    rw [F1 26 (by omega), F1 27 (by omega), F1 28 (by omega), G10 29 (by omega), G10 30 (by omega), G1 20 (by omega), G1 21 (by omega)]
    exact hR
  have emk : μ1 2 3 = ν 0 5 := by rw [F1 2 (by omega)]; exact hA.2.2.2.1
  obtain ⟨μ2, j1, j2, j3⟩ := judge_eq (p := P) (k := C) hA1 hL1 hC1 hT8 (by omega) (Nat.le_refl C)
  obtain ⟨x, f1, f2⟩ := find_eq hC1 hR1 ⟨j2, j3⟩
  have e5 := weightOf_eq (x := x) (Rul_f hR1 j2)
  obtain ⟨ν3, s1, s2⟩ := scoreBy_eq (p := P) (x := ν2 0 30) (mk := μ1 2 3) hA1 hL1 hC1 hR1 hT8 (by omega) (m := ν2) (fun _ _ => rfl)
  have hwg := wg_eq hN f2
  rw [← hwg, emk, G10 30 (by omega)] at s1
  rw [emk, G10 30 (by omega)] at f2
  have hSw : fo (wgS ν2 x) 0 N 0 = fo (wgS ν x) 0 N 0 := fo_congr N 0 0 (fun q _ _ s => by unfold wgS; rw [G1 21 (by omega)])
  generalize hS : fo (wgS ν2 x) 0 N 0 = S at e5 s1 hSw
  have M2 : ∀ k, k < 5 ∨ 9 < k → k ≠ 11 → k ≠ 12 → k ≠ 24 → k ≠ 25 → μ2 k = μ k := fun k hk h1 h2 h3 h4 => (j2 k h1 h2 h3 h4).trans (F1 k hk)
  obtain ⟨μ3, k1, k2, k3, k4, k5, k6, k7, k8⟩ := keepC_eq (x := x) (wt := S) (μ := μ2) (P := P) (fun c => sem ν2 (μ1 2 3) P 16 c) hC30 hP (by rw [M2 13 (by omega) (by omega) (by omega) (by omega) (by omega)]; exact hC.2.1) (fun c hc' => (j3 c hc').1)
  have M3 : ∀ k, k < 5 ∨ (9 < k ∧ k < 30) → k ≠ 11 → k ≠ 12 → k ≠ 24 → k ≠ 25 → μ3 k = μ k := fun k hk h1 h2 h3 h4 => (k2 k (by omega)).trans (M2 k (by omega) h1 h2 h3 h4)
  have M3j : ∀ k j, (6 ≤ k ∧ k ≤ 9) ∨ (30 ≤ k ∧ k ≤ 33) → j ≠ P → μ3 k j = μ k j := fun k j hk hj => by
    rcases hk with hk | hk
    · rw [k2 k (by omega), j2 k (by omega) (by omega) (by omega) (by omega)]; exact F1j k j (by omega) (by omega) hj
    · rw [k3 k j (by omega) (by omega) hj, M2 k (by omega) (by omega) (by omega) (by omega) (by omega)]
  have M5 : ∀ k, 5 ≤ k → k ≤ 9 → μ3 k = μ1 k := fun k h1 h2 => by rw [k2 k (by omega), j2 k (by omega) (by omega) (by omega) (by omega)]
  have M34 : ∀ j, j < 30 * P → μ3 34 j = μ 34 j := fun j hj => by rw [k4 j hj, M2 34 (by omega) (by omega) (by omega) (by omega) (by omega)]
  have N4 : ∀ al, ∀ k, k ≠ 9 → k ≠ 10 → k ≠ 11 → (up2 (up2 ν3 9 P S) 10 P al) k = ν2 k := fun al k h1 h2 h3 => by rw [up2_n h2, up2_n h1]; exact s2 k h3
  have Sst4 : ∀ al, Sst C P ν2 (up2 (up2 ν3 9 P S) 10 P al) := fun al => ⟨fun j _ => by rw [N4 al 12 (by omega) (by omega) (by omega), N4 al 13 (by omega) (by omega) (by omega), N4 al 14 (by omega) (by omega) (by omega), N4 al 16 (by omega) (by omega) (by omega), N4 al 17 (by omega) (by omega) (by omega), N4 al 18 (by omega) (by omega) (by omega), N4 al 19 (by omega) (by omega) (by omega)]; simp,
    Sst_cut (fun q _ => by rw [N4 al 1 (by omega) (by omega) (by omega), N4 al 2 (by omega) (by omega) (by omega), N4 al 3 (by omega) (by omega) (by omega), N4 al 4 (by omega) (by omega) (by omega), N4 al 5 (by omega) (by omega) (by omega), N4 al 6 (by omega) (by omega) (by omega)]; simp)⟩
  have new : ∀ (al : Int32) (m : Mm), m 32 P = x → m 33 = μ3 33 → m 34 = μ3 34 → Jud1 C N m (up2 (up2 ν3 9 P S) 10 P al) P := by
    intro al m e32 e33 e34
    have e8 : (up2 (up2 ν3 9 P S) 10 P al) 8 P = ν 0 30 := by rw [N4 al 8 (by omega) (by omega) (by omega)]; exact d8
    have e7 : (up2 (up2 ν3 9 P S) 10 P al) 7 P = ν 0 5 := by rw [N4 al 7 (by omega) (by omega) (by omega)]; exact d7
    have erc : ∀ r, rcN (up2 (up2 ν3 9 P S) 10 P al) r = rcN ν2 r := fun r => by unfold rcN; rw [N4 al 20 (by omega) (by omega) (by omega)]
    have hrcC : ∀ r, r < N → rcN ν2 r < C := fun r hr => Rul_rc hC30 hR1 hr
    refine ⟨C, Nat.le_refl C, fun i hi => ⟨?_, ?_⟩, fun r hr => ?_, fun r hr _ => ?_, fun c hc' => ⟨?_, fun h12 => ?_⟩⟩
    · rw [e8]; exact hR.2.2.2.2.1 i hi
    · rw [e32]
      rcases Nat.lt_or_ge i 32 with h32 | h32
      · rw [f2 i h32, decide_eq_false (by omega)]; rfl
      · exact b_big h32
    · rw [e32, e8, e7, f2 r (by omega), decide_eq_true hr, Bool.true_and, erc, sem_st hC30 hC1.2.2.2.2.2 (Sst4 al) (ν 0 5) 16 (rcN ν2 r) (hrcC r hr)]
      rfl
    · rw [erc]; exact hrcC r hr
    · rw [e33, e7, sem_st hC30 hC1.2.2.2.2.2 (Sst4 al) (ν 0 5) 16 c hc', (k8 c hc').1, emk]
    · rw [N4 al 12 (by omega) (by omega) (by omega)] at h12
      rw [e34, e7, VC_st (Sst4 al) hc' (ν 0 5), (k8 c hc').2, (j3 c hc').2 h12, emk]
  refine ⟨S, μ2, x, μ3, ν3, j1, f1, e5, k1, s1, by rw [M3 0 (by omega) (by omega) (by omega) (by omega) (by omega)]; exact hT.2.2.2, by rw [s2 0 (by omega)]; exact d15, by rw [s2 0 (by omega)]; exact G10 16 (by omega), by rw [s2 0 (by omega)]; exact G10 0 (by omega), ?_, ?_⟩
  · refine pay_R (a := a) (b := b) (v := v) (S := S) (al := 45) (x := x) h0 ht hP ha hb hab hv1 hv2 (fun k hk => M3 k (by omega) (by omega) (by omega) (by omega) (by omega)) (by rw [M5 5 (by omega) (by omega)]; exact c5) M3j M34
      (by rw [M5 6 (by omega) (by omega)]; exact c6) (by rw [M5 7 (by omega) (by omega)]; exact c7) (by rw [M5 8 (by omega) (by omega)]; exact c8) (by rw [M5 9 (by omega) (by omega)]; exact c9) (by rw [if_neg (by decide), M3 29 (by omega) (by omega) (by omega) (by omega) (by omega)]) k5 k6 k7
      (fun k hk => by rw [N4 45 k (by omega) (by omega) (by omega)]; exact G1 k (by omega)) (fun j hj => by rw [N4 45 0 (by omega) (by omega) (by omega)]; exact G10 j hj) (by rw [N4 45 0 (by omega) (by omega) (by omega)]; exact d15) (fun k j h1 h2 hj => ?_)
      (by rw [N4 45 3 (by omega) (by omega) (by omega)]; exact d3) (by rw [N4 45 4 (by omega) (by omega) (by omega)]; exact d4) (by rw [N4 45 5 (by omega) (by omega) (by omega)]; exact d5) (by rw [N4 45 6 (by omega) (by omega) (by omega)]; exact d6) (by rw [up2_n (by omega), up2_w]) (up2_w _ _ _ _) (Or.inl rfl) hSw (new 45 μ3 k7 rfl rfl)
    rw [up2_o hj, up2_o hj, s2 k (by omega)]
    by_cases hk8 : k ≤ 8
    · exact G1j k j h1 hk8 hj
    · rw [G1 k (by omega)]
  · have U : ∀ k, k ≠ 29 → k ≠ 31 → (up2 (up2 μ3 31 P 111) 29 5 (μ3 29 5 + 1)) k = μ3 k := fun k h1 h2 => by rw [up2_n h1, up2_n h2]
    refine pay_R (a := a) (b := b) (v := v) (S := S) (al := 111) (x := x) h0 ht hP ha hb hab hv1 hv2 (fun k hk => by rw [U k (by omega) (by omega)]; exact M3 k (by omega) (by omega) (by omega) (by omega) (by omega)) (by rw [U 5 (by omega) (by omega), M5 5 (by omega) (by omega)]; exact c5) (fun k j hk hj => by rw [up2_n (by omega), up2_o hj]; exact M3j k j hk hj) (fun j hj => by rw [U 34 (by omega) (by omega)]; exact M34 j hj)
      (by rw [U 6 (by omega) (by omega), M5 6 (by omega) (by omega)]; exact c6) (by rw [U 7 (by omega) (by omega), M5 7 (by omega) (by omega)]; exact c7) (by rw [U 8 (by omega) (by omega), M5 8 (by omega) (by omega)]; exact c8) (by rw [U 9 (by omega) (by omega), M5 9 (by omega) (by omega)]; exact c9) (by rw [if_pos rfl, up2_w, M3 29 (by omega) (by omega) (by omega) (by omega) (by omega)]) (by rw [U 30 (by omega) (by omega)]; exact k5) (by rw [up2_n (by omega), up2_w]) (by rw [U 32 (by omega) (by omega)]; exact k7)
      (fun k hk => by rw [N4 111 k (by omega) (by omega) (by omega)]; exact G1 k (by omega)) (fun j hj => by rw [N4 111 0 (by omega) (by omega) (by omega)]; exact G10 j hj) (by rw [N4 111 0 (by omega) (by omega) (by omega)]; exact d15) (fun k j h1 h2 hj => ?_)
      (by rw [N4 111 3 (by omega) (by omega) (by omega)]; exact d3) (by rw [N4 111 4 (by omega) (by omega) (by omega)]; exact d4) (by rw [N4 111 5 (by omega) (by omega) (by omega)]; exact d5) (by rw [N4 111 6 (by omega) (by omega) (by omega)]; exact d6) (by rw [up2_n (by omega), up2_w]) (up2_w _ _ _ _) (Or.inr rfl) hSw (new 111 _ (by rw [U 32 (by omega) (by omega)]; exact k7) (U 33 (by omega) (by omega)) (U 34 (by omega) (by omega)))
    rw [up2_o hj, up2_o hj, s2 k (by omega)]
    by_cases hk8 : k ≤ 8
    · exact G1j k j h1 hk8 hj
    · rw [G1 k (by omega)]
theorem op_pay {t : Nat} {μ ν : Mm} (x y w : Int32) (o : Nat → Int64) (h : R t μ ν) : ∃ c μ' o' r ν', f_L_pay_0_o x y w μ o = some (c, μ', o') ∧ f_X8_pay x y w ν = some (r, ν') ∧ Res t c o' r μ' ν' := by
  have hz : R t μ (up2 ν 0 0 0) := R_thr 0 h
  unfold f_X8_pay f_L_pay_0_o f_X7_pay
  generalize e : up2 ν 0 0 0 = ν1 at hz ⊢
  have z : ν1 0 0 = 0 := by rw [← e]; rfl
  have hz2 := hz
  obtain ⟨ht, A, T, P, F, C, N, hx⟩ := hz
  have hx2 := hx
  obtain ⟨hA, hT, hL, hK, hC, hR, hc, hJ⟩ := hx
  have hA20 := hA.1
  have hPP := hL.1
  rcases idx_cases x A with hb | ⟨a, ha, rfl⟩
  · rw [reqA_bad hA20 hA.2.1 hb, isA_bad hA20 hA.2.2.1 hb]
    exact ⟨1, μ, o, 0, up2 ν1 0 0 1, rfl, rfl, rfl, fun h => absurd h (by decide), R_thr 1 hz2⟩
  rw [reqA_ok hA20 hA.2.1 ha, isA_ok hA20 hA.2.2.1 ha, Option.bind_some, Option.bind_some, if_pos rfl, if_neg (show ¬ (1 : Int32) = 0 by decide)]
  rcases idx_cases y A with hb | ⟨b, hb, rfl⟩
  · rw [reqA_bad hA20 hA.2.1 hb, isA_bad hA20 hA.2.2.1 hb]
    exact ⟨1, μ, o, 0, up2 ν1 0 0 1, rfl, rfl, rfl, fun h => absurd h (by decide), R_thr 1 hz2⟩
  rw [reqA_ok hA20 hA.2.1 hb, isA_ok hA20 hA.2.2.1 hb, Option.bind_some, Option.bind_some, if_pos rfl, if_neg (show ¬ (1 : Int32) = 0 by decide), btwI]
  rcases span_cases w 1 9999 (by decide) with ⟨h1, h2⟩ | ⟨h1, h2, h3⟩ | ⟨h1, h2, h3⟩
  · rw [if_pos h1, decide_eq_false h2]
    exact ⟨2, μ, o, 0, up2 ν1 0 0 2, rfl, rfl, rfl, fun h => absurd h (by decide), R_thr 2 hz2⟩
  rotate_left
  · rw [if_neg h1, if_neg h2, decide_eq_false h3]
    exact ⟨2, μ, o, 0, up2 ν1 0 0 2, rfl, rfl, rfl, fun h => absurd h (by decide), R_thr 2 hz2⟩
  rw [if_neg h1, if_pos h2, decide_eq_true h3, b2_t, Option.bind_some, if_neg (show ¬ (1 : Int32) = 0 by decide)]
  rw [show ((1 : Int32).toInt = 1) from rfl, show ((9999 : Int32).toInt = 9999) from rfl] at h3
  obtain ⟨v, hv1, hv2, rfl⟩ : ∃ v, 1 ≤ v ∧ v ≤ 9999 ∧ w = nI v := ⟨w.toInt.toNat, by omega, by omega, w_inj (by omega)⟩
  by_cases hab : a = b
  · have e1 : nI a = nI b := by rw [hab]
    rw [if_pos e1, if_pos e1]
    exact ⟨3, μ, o, 0, up2 ν1 0 0 3, rfl, rfl, rfl, fun h => absurd h (by decide), R_thr 3 hz2⟩
  have e1 : ¬ nI a = nI b := fun h => hab ((w_eq (by omega) (by omega)).mp h)
  rw [if_neg e1, if_neg e1, hA.2.2.2.2.1, hasBit_eq _ (show a < 32 by omega), has_eq _ (show a < 32 by omega)]
  cases hba : bt (ν1 0 6) a
  rotate_left
  · exact ⟨4, μ, o, 0, up2 ν1 0 0 4, rfl, rfl, rfl, fun h => absurd h (by decide), R_thr 4 hz2⟩
  rw [b2_f, Option.bind_some, Option.bind_some, if_pos rfl, if_pos rfl, hasBit_eq _ (show b < 32 by omega), has_eq _ (show b < 32 by omega)]
  cases hbb : bt (ν1 0 6) b
  rotate_left
  · exact ⟨4, μ, o, 0, up2 ν1 0 0 4, rfl, rfl, rfl, fun h => absurd h (by decide), R_thr 4 hz2⟩
  rw [b2_f, Option.bind_some, Option.bind_some, if_pos rfl, if_pos rfl]
  by_cases hP : P < 200
  · obtain ⟨S, μ2, xx, μ3, ν3, m1, m2, m3, m4, m5, m6, m7, m8, m9, m10, m11⟩ := pay_main hx2 ht hP ha hb hab hv1 hv2
    have r17 : (pcM μ P (nI a) (nI b) (nI v) (nI T)) 13 12 = nI C := hC.2.1
    rw [mPay_eq hP hL.2.2.1 m5 m7 m8, if_neg (show ¬ ν1 0 15 = 200 from by rw [hL.2.2.1, show (200 : Int32) = nI 200 from rfl, w_eq (by omega) (by omega)]; omega), if_pos (show μ 5 4 < 200 from by rw [hL.2.1, show (200 : Int32) = nI 200 from rfl, w_lt (by omega) (by omega)]; exact hP), appendP_eq hP hL.2.1, hT.2.1, Option.bind_some]
    dsimp only
    rw [r17, m1, Option.bind_some, m2, Option.bind_some, m3, Option.bind_some, m4, Option.bind_some, m6]
    by_cases hs : S < ν1 0 16
    · rw [if_pos hs, if_pos hs, Option.bind_some, if_pos rfl, chk0]
      exact ⟨0, μ3, vp_updL o (0 : Int32).toNatClampNeg (nI P).toInt64, nI P, _, rfl, rfl, m9.trans z, fun _ => rfl, ht, A, T, P + 1, F, C, N, m10⟩
    · rw [if_neg hs, if_neg hs]
      unfold f_X2_raise
      rw [chk_nI hP (by omega), w_nat (show P < 2147483648 by omega), n111, Option.bind_some, Option.bind_some, if_pos rfl, chk0]
      exact ⟨0, _, vp_updL o (0 : Int32).toNatClampNeg (nI P).toInt64, nI P, _, rfl, rfl, m9.trans z, fun _ => rfl, ht, A, T, P + 1, F, C, N, m11⟩
  · have hP2 : P = 200 := by omega
    rw [if_pos (show ν1 0 15 = 200 from by rw [hL.2.2.1, hP2]; rfl), if_neg (show ¬ μ 5 4 < 200 from by rw [hL.2.1, show (200 : Int32) = nI 200 from rfl, w_lt (by omega) (by omega)]; exact hP)]
    exact ⟨4, μ, o, 0, up2 ν1 0 0 4, rfl, rfl, rfl, fun h => absurd h (by decide), R_thr 4 hz2⟩
end
section
/-! ===== L3: precision ===== -/
theorem gx32_ok {α : Type} {x : UInt32} {k : Option α} (h : vf_n32 x) : gx32 x k = k := by
  unfold gx32; rw [if_pos h]
def ctR (μ ν : Mm) (al : Int32) (r P : Nat) : Nat := fb_ct (fun p => decide (ν 10 p = al) && bt (μ 32 p) r) P
theorem ctR_eq {P r : Nat} {al : Int32} {μ ν : Mm} (hP : P ≤ 200) (hr : r < 12) (hc : ∀ p, p < P → μ 31 p = ν 10 p) : f_X2_countWithReason al (nI r) (nI P) μ = some (nI (ctR μ ν al r P)) := by
  unfold f_X2_countWithReason
  obtain ⟨s, e1, e2⟩ := up_loopR (fun f y (s : Int32) => f_X2_countWithReason_L6 al (nI r) (nI P) μ f s y) P (fun s => some s) (fun i s => s = nI (ctR μ ν al r i)) (by
    intro f s _
    show f_X2_countWithReason_L6 al (nI r) (nI P) μ (f + 1) s (nI P) = _
    unfold f_X2_countWithReason_L6
    rw [if_pos (by rw [w_le (by omega) (by omega)]; omega)]) (by
    intro f i s hi hs
    refine ⟨nI (ctR μ ν al r (i + 1)), ?_, rfl⟩
    show f_X2_countWithReason_L6 al (nI r) (nI P) μ (f + 1) s (nI i) = f_X2_countWithReason_L6 al (nI r) (nI P) μ f (nI (ctR μ ν al r (i + 1))) (nI (i + 1))
    conv => lhs; unfold f_X2_countWithReason_L6
    have e9 : ctR μ ν al r (i + 1) = ctR μ ν al r i + (if (decide (ν 10 i = al) && bt (μ 32 i) r) = true then 1 else 0) := rfl
    rw [if_neg (by rw [w_le (by omega) (by omega)]; omega), chk_nI (show i < 200 by omega) (by omega), chk_nI (show i < 200 by omega) (by omega), w_nat (show i < 2147483648 by omega), hc i hi, hasBit_eq _ (show r < 32 by omega), Option.bind_some, hs, e9, w_succ, w_succ]
    by_cases h : ν 10 i = al
    · rw [if_pos h, decide_eq_true h, Bool.true_and]
      cases bt (μ 32 i) r
      · rw [b2_f, if_pos rfl, if_neg (by simp)]; rfl
      · rw [b2_t, if_neg (show ¬ (1 : Int32) = 0 by decide), if_pos rfl]
    · rw [if_neg h, decide_eq_false h, Bool.false_and, if_neg (by simp)]; rfl) P fuel 0 0 (by omega) (by unfold fuel; omega) rfl
  have e1' : f_X2_countWithReason_L6 al (nI r) (nI P) μ fuel 0 0 = some s := e1
  rw [e1', e2]
theorem precL {A T P C N r : Nat} {μ ν : Mm} (K : Int32 → Int32 → Mm → Option (UInt32 × Mm)) (hA : Acc A μ ν) (hL : Led A T P μ ν) (hC : Con C μ ν) (hR : Rul C N μ ν) (hT : T ≤ 800000) (hr : r < N) (hJ : ∀ p, p < P → Jud1 C N μ ν p) :
    ∃ m, f_X8_precision_L27 K (nI r) fuel 0 0 0 ν = K (nI (ctR μ ν 102 r P)) (nI (ctR μ ν 102 r P + ctR μ ν 99 r P)) m ∧ ∀ k, k ≠ 11 → m k = ν k := by
  have hP := hL.1
  have hN := hR.1
  have hh := up_loopR (fun f y (s : Int32 × Int32 × Mm) => f_X8_precision_L27 K (nI r) f s.1 s.2.1 y s.2.2) P (fun s => K s.1 s.2.1 s.2.2) (fun i s => s.1 = nI (ctR μ ν 102 r i) ∧ s.2.1 = nI (ctR μ ν 102 r i + ctR μ ν 99 r i) ∧ ∀ k, k ≠ 11 → s.2.2 k = ν k) ?_ ?_ P fuel 0 (0, 0, ν) (by omega) (by unfold fuel; omega) ⟨rfl, rfl, fun _ _ => rfl⟩
  · obtain ⟨s, e1, e2, e3, e4⟩ := hh
    refine ⟨s.2.2, ?_, e4⟩
    rw [← e2, ← e3]; exact e1
  · intro f s hs
    show f_X8_precision_L27 K (nI r) (f + 1) s.1 s.2.1 (nI P) s.2.2 = _
    unfold f_X8_precision_L27
    rw [hs.2.2 0 (by omega), hL.2.2.1, if_pos (by rw [w_le (by omega) (by omega)]; omega)]
  · intro f i s hi hs
    have J : ∃ m', f_X8_precision_J60 (f_X8_precision_L27 K (nI r) f) K (nI r) s.1 s.2.1 (nI i) s.2.2 = (if bt (μ 32 i) r = true then (if ν 10 i = 102 then f_X8_precision_L27 K (nI r) f (s.1 + 1) (s.2.1 + 1) (nI (i + 1)) m' else f_X8_precision_L27 K (nI r) f s.1 (s.2.1 + 1) (nI (i + 1)) m') else f_X8_precision_L27 K (nI r) f s.1 s.2.1 (nI (i + 1)) m') ∧ ∀ k, k ≠ 11 → m' k = ν k := by
      obtain ⟨m', v1, v2⟩ := wasReason_eq hA hL hC hR hT hi hr (hJ i hi) hs.2.2
      refine ⟨m', ?_, v2⟩
      unfold f_X8_precision_J60
      rw [v1, Option.bind_some, w_succ]
      cases bt (μ 32 i) r
      · rw [b2_f, if_pos rfl, if_neg (by simp)]
      · rw [b2_t, if_neg (show ¬ (1 : Int32) = 0 by decide), if_pos rfl, chk_nI (show i < 200 by omega) (by omega)]
        show (if m' 10 (nI i).toNatClampNeg = 102 then f_X8_precision_L27 K (nI r) f (s.1 + 1) (s.2.1 + 1) (nI (i + 1)) m' else f_X8_precision_L27 K (nI r) f (s.1 + 0) (s.2.1 + 1) (nI (i + 1)) m') = _
        rw [v2 10 (by omega), w_nat (show i < 2147483648 by omega), Int32.add_zero]
    obtain ⟨m', j1, j2⟩ := J
    have e2 : ctR μ ν 102 r (i + 1) = ctR μ ν 102 r i + (if (decide (ν 10 i = 102) && bt (μ 32 i) r) = true then 1 else 0) := rfl
    have e9 : ctR μ ν 99 r (i + 1) = ctR μ ν 99 r i + (if (decide (ν 10 i = 99) && bt (μ 32 i) r) = true then 1 else 0) := rfl
    show ∃ s' : Int32 × Int32 × Mm, f_X8_precision_L27 K (nI r) (f + 1) s.1 s.2.1 (nI i) s.2.2 = f_X8_precision_L27 K (nI r) f s'.1 s'.2.1 (nI (i + 1)) s'.2.2 ∧ s'.1 = nI (ctR μ ν 102 r (i + 1)) ∧ s'.2.1 = nI (ctR μ ν 102 r (i + 1) + ctR μ ν 99 r (i + 1)) ∧ ∀ k, k ≠ 11 → s'.2.2 k = ν k
    conv => enter [1, s', 1, 1]; unfold f_X8_precision_L27
    rw [hs.2.2 0 (by omega), hL.2.2.1, if_neg (by rw [w_le (by omega) (by omega)]; omega), chk_nI (show i < 200 by omega) (by omega), chk_nI (show i < 200 by omega) (by omega), hs.2.2 10 (by omega), w_nat (show i < 2147483648 by omega), j1, w_succ, e2, e9]
    by_cases h1 : ν 10 i = 102
    · have h2 : ¬ ν 10 i = 99 := by rw [h1]; decide
      rw [if_pos h1, if_pos h1, decide_eq_true h1, decide_eq_false h2, Bool.true_and, Bool.false_and, if_neg (show ¬ (false = true) by simp), Nat.add_zero]
      cases bt (μ 32 i) r
      · rw [if_neg (show ¬ (false = true) by simp), Nat.add_zero]
        exact ⟨(s.1, s.2.1, m'), rfl, hs.1, hs.2.1, j2⟩
      · rw [if_pos rfl]
        refine ⟨(s.1 + 1, s.2.1 + 1, m'), rfl, ?_, ?_, j2⟩
        · show s.1 + 1 = _
          rw [hs.1, w_succ]; rfl
        · show s.2.1 + 1 = _
          rw [hs.2.1, w_succ]; congr 1; simp only [if_pos]; omega
    · rw [if_neg h1, if_neg h1, decide_eq_false h1, Bool.false_and, if_neg (show ¬ (false = true) by simp), Nat.add_zero]
      by_cases h2 : ν 10 i = 99
      · rw [if_pos h2, decide_eq_true h2, Bool.true_and]
        cases bt (μ 32 i) r
        · rw [if_neg (show ¬ (false = true) by simp), if_neg (show ¬ (false = true) by simp), Nat.add_zero]
          exact ⟨(s.1, s.2.1, m'), rfl, hs.1, hs.2.1, j2⟩
        · rw [if_pos rfl, if_pos rfl]
          refine ⟨(s.1, s.2.1 + 1, m'), rfl, hs.1, ?_, j2⟩
          show s.2.1 + 1 = _
          rw [hs.2.1, w_succ]; congr 1
      · rw [if_neg h2, decide_eq_false h2, Bool.false_and, if_neg (show ¬ (false = true) by simp), Nat.add_zero]
        exact ⟨(s.1, s.2.1, s.2.2), rfl, hs.1, hs.2.1, hs.2.2⟩
theorem op_precision {t : Nat} {μ ν : Mm} (a : Int32) (dd : Nat → UInt64) (h : R t μ ν) : ∃ c d' w ν', f_L_precision_0_d a μ dd = some (c, d') ∧ f_X8_precision a ν = some (w, ν') ∧ ν' 0 0 = c ∧ (c = 0 → vf_n64 (FP.f2d w) ∧ d' 0 = FP.f2d w ∧ Op.cmpValue (FP.dcmp (FP.f2d w) (FP.f2d w)) .l = 0) ∧ R t μ ν' := by
  have hz : R t μ (up2 ν 0 0 0) := R_thr 0 h
  unfold f_X8_precision f_L_precision_0_d f_X7_precision
  generalize e : up2 ν 0 0 0 = ν1 at hz ⊢
  have z : ν1 0 0 = 0 := by rw [← e]; rfl
  have hz2 := hz
  obtain ⟨ht, A, T, P, F, C, N, hA, hT, hL, hK, hC, hR, hc, hJ⟩ := hz
  have hP := hL.1
  have hN := hR.1
  rcases idx_cases a N with hb | ⟨r, hr, rfl⟩
  · rw [reqN_bad hN hR.2.1 hb, isN_bad hN hR.2.2.1 hb]
    exact ⟨1, dd, _, up2 ν1 0 0 1, rfl, rfl, rfl, fun h => absurd h (by decide), R_thr 1 hz2⟩
  · rw [reqN_ok hN hR.2.1 hr, isN_ok hN hR.2.2.1 hr, hL.2.1, ctR_eq hP (by omega) (fun p hp => (hc.2 p hp).1), ctR_eq hP (by omega) (fun p hp => (hc.2 p hp).1), Option.bind_some, if_pos rfl, Option.bind_some, Option.bind_some, Option.bind_some, if_neg (show ¬ (1 : Int32) = 0 by decide)]
    obtain ⟨m, l1, l2⟩ := precL (r := r) (fun (y14 : Int32) (y15 : Int32) (m16 : Mm) => (if (y15 : Int32) = 0 then ((f_X8_fails 2 m16).bind (fun r19 => some (FP.i2f r19.1, r19.2))) else (gx32 (FP.fdiv (FP.i2f y14) (FP.i2f y15)) (some (FP.fdiv (FP.i2f y14) (FP.i2f y15), m16))))) hA hL hC hR (Nat.le_trans hT.1 ht) hr hJ
    rw [l1, w_add]
    have hz3 : R t μ m := R_f11 (fun _ _ _ _ _ => rfl) l2 hz2
    by_cases h0 : nI (ctR μ ν1 102 r P + ctR μ ν1 99 r P) = 0
    · rw [if_pos h0, if_pos h0]
      exact ⟨2, dd, _, up2 m 0 0 2, rfl, rfl, rfl, fun h => absurd h (by decide), R_thr 2 hz3⟩
    · rw [if_neg h0, if_neg h0]
      have hn := prec_n (a := nI (ctR μ ν1 102 r P)) h0
      generalize FP.fdiv (FP.i2f (nI (ctR μ ν1 102 r P))) (FP.i2f (nI (ctR μ ν1 102 r P + ctR μ ν1 99 r P))) = w at hn ⊢
      have hd := f2d_n hn
      rw [gx32_ok (n32_ok hn), gx32_ok (n32_ok hn), Option.bind_some, if_pos rfl, gx64_ok (n64_ok hd), chk0]
      exact ⟨0, _, w, m, rfl, rfl, by rw [l2 0 (by omega)]; exact z, fun _ => ⟨n64_ok hd, rfl, cmp_d hd⟩, hz3⟩
end
section
/-! ===== L3: the cases of the law ===== -/
abbrev KB : Type := Int32 → Mm → Mm → (Nat → Int64) → (Nat → UInt64) → Option Unit
def HK (kb : KB) (x5 : Int32) (t : Nat) : Prop := ∀ μ ν o dd, R t μ ν → kb (x5 + 5) μ ν o dd = some ()
def HX (Ls : Nat) (x5 : Int32) : Prop := (∀ (α : Type) (k : Option α), chk (x5 + 1) Ls k = k) ∧ (∀ (α : Type) (k : Option α), chk (x5 + 2) Ls k = k) ∧ (∀ (α : Type) (k : Option α), chk (x5 + 3) Ls k = k) ∧ (∀ (α : Type) (k : Option α), chk (x5 + 4) Ls k = k)
theorem Res_R {t t' : Nat} {c : Int32} {o : Nat → Int64} {w : Int32} {μ ν : Mm} (h : Res t c o w μ ν) (h1 : t ≤ t') (h2 : t' ≤ 800000) : R t' μ ν := R_more h.2.2 h1 h2
theorem J244_ok {Ls t : Nat} {xs : Nat → Int32} {kb : KB} {x5 : Int32} {μ ν : Mm} {o : Nat → Int64} {dd : Nat → UInt64} (hx : HX Ls x5) (hk : HK kb x5 (t + 1440)) (ht : t + 1440 ≤ 800000) (h : R t μ ν) : f_L_law_s_J244 Ls xs kb x5 μ ν o dd = some () := by
  unfold f_L_law_s_J244
  obtain ⟨c, μ2, o2, w, ν2, e1, e2, hr⟩ := op_open (((xs (x5 + 1).toNatClampNeg) : Int32).toUInt32 % 65536).toInt32 (char_of _) o h
  rw [hx.1, e1, Option.bind_some, hx.1, e2, Option.bind_some]
  exact tail_ok hr (hk _ _ _ _ (R_more hr.2.2 (show t ≤ t + 1440 by omega) ht))
theorem J484_ok {Ls t : Nat} {xs : Nat → Int32} {kb : KB} {x5 : Int32} {μ ν : Mm} {o : Nat → Int64} {dd : Nat → UInt64} (hx : HX Ls x5) (hk : HK kb x5 (t + 1440)) (ht : t + 1440 ≤ 800000) (h : R t μ ν) : f_L_law_s_J484 Ls xs kb x5 μ ν o dd = some () := by
  unfold f_L_law_s_J484
  obtain ⟨c, o2, w, ν2, e1, e2, hw, hr⟩ := op_isMarked (xs (x5 + 1).toNatClampNeg) o h
  rw [hx.1, e1, Option.bind_some, hx.1, e2, Option.bind_some]
  exact tail_okb hr hw (hk _ _ _ _ (R_more hr.2.2 (show t ≤ t + 1440 by omega) ht))
theorem J547_ok {Ls t : Nat} {xs : Nat → Int32} {kb : KB} {x5 : Int32} {μ ν : Mm} {o : Nat → Int64} {dd : Nat → UInt64} (hx : HX Ls x5) (hk : HK kb x5 (t + 1440)) (ht : t + 1440 ≤ 800000) (h : R t μ ν) : f_L_law_s_J547 Ls xs kb x5 μ ν o dd = some () := by
  unfold f_L_law_s_J547
  obtain ⟨c, o2, w, ν2, e1, e2, hr⟩ := op_countryOf (xs (x5 + 1).toNatClampNeg) o h
  rw [hx.1, e1, Option.bind_some, hx.1, e2, Option.bind_some]
  exact tail_ok hr (hk _ _ _ _ (R_more hr.2.2 (show t ≤ t + 1440 by omega) ht))
theorem J616_ok {Ls t : Nat} {xs : Nat → Int32} {kb : KB} {x5 : Int32} {μ ν : Mm} {o : Nat → Int64} {dd : Nat → UInt64} (hx : HX Ls x5) (hk : HK kb x5 (t + 1440)) (ht : t + 1440 ≤ 800000) (h : R t μ ν) : f_L_law_s_J616 Ls xs kb x5 μ ν o dd = some () := by
  unfold f_L_law_s_J616
  obtain ⟨c, μ2, o2, w, ν2, e1, e2, hr⟩ := op_pass (xs (x5 + 1).toNatClampNeg) o h ht
  rw [hx.1, e1, Option.bind_some, hx.1, e2, Option.bind_some]
  exact tail_ok hr (hk _ _ _ _ (hr.2.2))
theorem J685_ok {Ls t : Nat} {xs : Nat → Int32} {kb : KB} {x5 : Int32} {μ ν : Mm} {o : Nat → Int64} {dd : Nat → UInt64} (hx : HX Ls x5) (hk : HK kb x5 (t + 1440)) (ht : t + 1440 ≤ 800000) (h : R t μ ν) : f_L_law_s_J685 Ls xs kb x5 μ ν o dd = some () := by
  unfold f_L_law_s_J685
  obtain ⟨c, μ2, o2, w, ν2, e1, e2, hr⟩ := op_pay (xs (x5 + 1).toNatClampNeg) (xs (x5 + 2).toNatClampNeg) (xs (x5 + 3).toNatClampNeg) o h
  rw [hx.1, hx.2.1, hx.2.2.1, e1, Option.bind_some, hx.1, hx.2.1, hx.2.2.1, e2, Option.bind_some]
  exact tail_ok hr (hk _ _ _ _ (R_more hr.2.2 (show t ≤ t + 1440 by omega) ht))
theorem J778_ok {Ls t : Nat} {xs : Nat → Int32} {kb : KB} {x5 : Int32} {μ ν : Mm} {o : Nat → Int64} {dd : Nat → UInt64} (hx : HX Ls x5) (hk : HK kb x5 (t + 1440)) (ht : t + 1440 ≤ 800000) (h : R t μ ν) : f_L_law_s_J778 Ls xs kb x5 μ ν o dd = some () := by
  unfold f_L_law_s_J778
  obtain ⟨c, o2, w, ν2, e1, e2, hr⟩ := op_minuteOf (xs (x5 + 1).toNatClampNeg) o h
  rw [hx.1, e1, Option.bind_some, hx.1, e2, Option.bind_some]
  exact tail_ok hr (hk _ _ _ _ (R_more hr.2.2 (show t ≤ t + 1440 by omega) ht))
theorem J834_ok {Ls t : Nat} {xs : Nat → Int32} {kb : KB} {x5 : Int32} {μ ν : Mm} {o : Nat → Int64} {dd : Nat → UInt64} (hx : HX Ls x5) (hk : HK kb x5 (t + 1440)) (ht : t + 1440 ≤ 800000) (h : R t μ ν) : f_L_law_s_J834 Ls xs kb x5 μ ν o dd = some () := by
  unfold f_L_law_s_J834
  obtain ⟨c, o2, w, ν2, e1, e2, hr⟩ := op_sentBy (xs (x5 + 1).toNatClampNeg) (xs (x5 + 2).toNatClampNeg) o h
  rw [hx.1, hx.2.1, e1, Option.bind_some, hx.1, hx.2.1, e2, Option.bind_some]
  exact tail_ok hr (hk _ _ _ _ (R_more hr.2.2 (show t ≤ t + 1440 by omega) ht))
theorem J902_ok {Ls t : Nat} {xs : Nat → Int32} {kb : KB} {x5 : Int32} {μ ν : Mm} {o : Nat → Int64} {dd : Nat → UInt64} (hx : HX Ls x5) (hk : HK kb x5 (t + 1440)) (ht : t + 1440 ≤ 800000) (h : R t μ ν) : f_L_law_s_J902 Ls xs kb x5 μ ν o dd = some () := by
  unfold f_L_law_s_J902
  obtain ⟨c, o2, w, ν2, e1, e2, hr⟩ := op_sentByAnew (xs (x5 + 1).toNatClampNeg) (xs (x5 + 2).toNatClampNeg) o h
  rw [hx.1, hx.2.1, e1, Option.bind_some, hx.1, hx.2.1, e2, Option.bind_some]
  exact tail_ok hr (hk _ _ _ _ (R_more hr.2.2 (show t ≤ t + 1440 by omega) ht))
theorem J983_ok {Ls t : Nat} {xs : Nat → Int32} {kb : KB} {x5 : Int32} {μ ν : Mm} {o : Nat → Int64} {dd : Nat → UInt64} (hx : HX Ls x5) (hk : HK kb x5 (t + 1440)) (ht : t + 1440 ≤ 800000) (h : R t μ ν) : f_L_law_s_J983 Ls xs kb x5 μ ν o dd = some () := by
  unfold f_L_law_s_J983
  obtain ⟨c, μ2, o2, w, ν2, e1, e2, hr⟩ := op_valueOf (xs (x5 + 1).toNatClampNeg) (((xs (x5 + 2).toNatClampNeg) : Int32).toUInt32 % 65536).toInt32 (char_of _) (xs (x5 + 3).toNatClampNeg) o h
  rw [hx.1, hx.2.1, hx.2.2.1, e1, Option.bind_some, hx.1, hx.2.1, hx.2.2.1, e2, Option.bind_some]
  exact tail_ok hr (hk _ _ _ _ (R_more hr.2.2 (show t ≤ t + 1440 by omega) ht))
theorem J1175_ok {Ls t : Nat} {xs : Nat → Int32} {kb : KB} {x5 : Int32} {μ ν : Mm} {o : Nat → Int64} {dd : Nat → UInt64} (hx : HX Ls x5) (hk : HK kb x5 (t + 1440)) (ht : t + 1440 ≤ 800000) (h : R t μ ν) : f_L_law_s_J1175 Ls xs kb x5 μ ν o dd = some () := by
  unfold f_L_law_s_J1175
  obtain ⟨c, μ2, o2, w, ν2, e1, e2, hr⟩ := op_addBoth (xs (x5 + 1).toNatClampNeg) (xs (x5 + 2).toNatClampNeg) o h
  rw [hx.1, hx.2.1, e1, Option.bind_some, hx.1, hx.2.1, e2, Option.bind_some]
  exact tail_ok hr (hk _ _ _ _ (R_more hr.2.2 (show t ≤ t + 1440 by omega) ht))
theorem J1243_ok {Ls t : Nat} {xs : Nat → Int32} {kb : KB} {x5 : Int32} {μ ν : Mm} {o : Nat → Int64} {dd : Nat → UInt64} (hx : HX Ls x5) (hk : HK kb x5 (t + 1440)) (ht : t + 1440 ≤ 800000) (h : R t μ ν) : f_L_law_s_J1243 Ls xs kb x5 μ ν o dd = some () := by
  unfold f_L_law_s_J1243
  obtain ⟨c, μ2, o2, w, ν2, e1, e2, hr⟩ := op_addEither (xs (x5 + 1).toNatClampNeg) (xs (x5 + 2).toNatClampNeg) o h
  rw [hx.1, hx.2.1, e1, Option.bind_some, hx.1, hx.2.1, e2, Option.bind_some]
  exact tail_ok hr (hk _ _ _ _ (R_more hr.2.2 (show t ≤ t + 1440 by omega) ht))
theorem J1311_ok {Ls t : Nat} {xs : Nat → Int32} {kb : KB} {x5 : Int32} {μ ν : Mm} {o : Nat → Int64} {dd : Nat → UInt64} (hx : HX Ls x5) (hk : HK kb x5 (t + 1440)) (ht : t + 1440 ≤ 800000) (h : R t μ ν) : f_L_law_s_J1311 Ls xs kb x5 μ ν o dd = some () := by
  unfold f_L_law_s_J1311
  obtain ⟨c, μ2, o2, w, ν2, e1, e2, hr⟩ := op_addNot (xs (x5 + 1).toNatClampNeg) o h
  rw [hx.1, e1, Option.bind_some, hx.1, e2, Option.bind_some]
  exact tail_ok hr (hk _ _ _ _ (R_more hr.2.2 (show t ≤ t + 1440 by omega) ht))
theorem J1367_ok {Ls t : Nat} {xs : Nat → Int32} {kb : KB} {x5 : Int32} {μ ν : Mm} {o : Nat → Int64} {dd : Nat → UInt64} (hx : HX Ls x5) (hk : HK kb x5 (t + 1440)) (ht : t + 1440 ≤ 800000) (h : R t μ ν) : f_L_law_s_J1367 Ls xs kb x5 μ ν o dd = some () := by
  unfold f_L_law_s_J1367
  obtain ⟨c, μ2, o2, w, ν2, e1, e2, hw, hr⟩ := op_holds (xs (x5 + 1).toNatClampNeg) (xs (x5 + 2).toNatClampNeg) o h
  rw [hx.1, hx.2.1, e1, Option.bind_some, hx.1, hx.2.1, e2, Option.bind_some]
  exact tail_okb hr hw (hk _ _ _ _ (R_more hr.2.2 (show t ≤ t + 1440 by omega) ht))
theorem J1442_ok {Ls t : Nat} {xs : Nat → Int32} {kb : KB} {x5 : Int32} {μ ν : Mm} {o : Nat → Int64} {dd : Nat → UInt64} (hx : HX Ls x5) (hk : HK kb x5 (t + 1440)) (ht : t + 1440 ≤ 800000) (h : R t μ ν) : f_L_law_s_J1442 Ls xs kb x5 μ ν o dd = some () := by
  unfold f_L_law_s_J1442
  obtain ⟨c, o2, w, ν2, e1, e2, hr⟩ := op_sizeOf (xs (x5 + 1).toNatClampNeg) o h
  rw [hx.1, e1, Option.bind_some, hx.1, e2, Option.bind_some]
  exact tail_ok hr (hk _ _ _ _ (R_more hr.2.2 (show t ≤ t + 1440 by omega) ht))
theorem J1498_ok {Ls t : Nat} {xs : Nat → Int32} {kb : KB} {x5 : Int32} {μ ν : Mm} {o : Nat → Int64} {dd : Nat → UInt64} (hx : HX Ls x5) (hk : HK kb x5 (t + 1440)) (ht : t + 1440 ≤ 800000) (h : R t μ ν) : f_L_law_s_J1498 Ls xs kb x5 μ ν o dd = some () := by
  unfold f_L_law_s_J1498
  obtain ⟨c, μ2, o2, w, ν2, e1, e2, hr⟩ := op_addRule (xs (x5 + 1).toNatClampNeg) (xs (x5 + 2).toNatClampNeg) o h
  rw [hx.1, hx.2.1, e1, Option.bind_some, hx.1, hx.2.1, e2, Option.bind_some]
  exact tail_ok hr (hk _ _ _ _ (R_more hr.2.2 (show t ≤ t + 1440 by omega) ht))
theorem J1657_ok {Ls t : Nat} {xs : Nat → Int32} {kb : KB} {x5 : Int32} {μ ν : Mm} {o : Nat → Int64} {dd : Nat → UInt64} (hx : HX Ls x5) (hk : HK kb x5 (t + 1440)) (ht : t + 1440 ≤ 800000) (h : R t μ ν) : f_L_law_s_J1657 Ls xs kb x5 μ ν o dd = some () := by
  unfold f_L_law_s_J1657
  obtain ⟨c, μ2, o2, w, ν2, e1, e2, hr⟩ := op_setThreshold (xs (x5 + 1).toNatClampNeg) o h
  rw [hx.1, e1, Option.bind_some, hx.1, e2, Option.bind_some]
  exact tail_ok hr (hk _ _ _ _ (R_more hr.2.2 (show t ≤ t + 1440 by omega) ht))
theorem J1713_ok {Ls t : Nat} {xs : Nat → Int32} {kb : KB} {x5 : Int32} {μ ν : Mm} {o : Nat → Int64} {dd : Nat → UInt64} (hx : HX Ls x5) (hk : HK kb x5 (t + 1440)) (ht : t + 1440 ≤ 800000) (h : R t μ ν) : f_L_law_s_J1713 Ls xs kb x5 μ ν o dd = some () := by
  unfold f_L_law_s_J1713
  obtain ⟨c, o2, w, ν2, e1, e2, hr⟩ := op_score (xs (x5 + 1).toNatClampNeg) o h
  rw [hx.1, e1, Option.bind_some, hx.1, e2, Option.bind_some]
  exact tail_ok hr (hk _ _ _ _ (R_more hr.2.2 (show t ≤ t + 1440 by omega) ht))
theorem J1769_ok {Ls t : Nat} {xs : Nat → Int32} {kb : KB} {x5 : Int32} {μ ν : Mm} {o : Nat → Int64} {dd : Nat → UInt64} (hx : HX Ls x5) (hk : HK kb x5 (t + 1440)) (ht : t + 1440 ≤ 800000) (h : R t μ ν) : f_L_law_s_J1769 Ls xs kb x5 μ ν o dd = some () := by
  unfold f_L_law_s_J1769
  obtain ⟨c, μ2, o2, w, ν2, e1, e2, hr⟩ := op_scoreNow (xs (x5 + 1).toNatClampNeg) o h
  rw [hx.1, e1, Option.bind_some, hx.1, e2, Option.bind_some]
  exact tail_ok hr (hk _ _ _ _ (R_more hr.2.2 (show t ≤ t + 1440 by omega) ht))
theorem J1825_ok {Ls t : Nat} {xs : Nat → Int32} {kb : KB} {x5 : Int32} {μ ν : Mm} {o : Nat → Int64} {dd : Nat → UInt64} (hx : HX Ls x5) (hk : HK kb x5 (t + 1440)) (ht : t + 1440 ≤ 800000) (h : R t μ ν) : f_L_law_s_J1825 Ls xs kb x5 μ ν o dd = some () := by
  unfold f_L_law_s_J1825
  obtain ⟨c, o2, w, ν2, e1, e2, hr⟩ := op_reasons (xs (x5 + 1).toNatClampNeg) o h
  rw [hx.1, e1, Option.bind_some, hx.1, e2, Option.bind_some]
  exact tail_ok hr (hk _ _ _ _ (R_more hr.2.2 (show t ≤ t + 1440 by omega) ht))
theorem J1881_ok {Ls t : Nat} {xs : Nat → Int32} {kb : KB} {x5 : Int32} {μ ν : Mm} {o : Nat → Int64} {dd : Nat → UInt64} (hx : HX Ls x5) (hk : HK kb x5 (t + 1440)) (ht : t + 1440 ≤ 800000) (h : R t μ ν) : f_L_law_s_J1881 Ls xs kb x5 μ ν o dd = some () := by
  unfold f_L_law_s_J1881
  obtain ⟨c, o2, w, ν2, e1, e2, hr⟩ := op_reasonRule (xs (x5 + 1).toNatClampNeg) (xs (x5 + 2).toNatClampNeg) o h
  rw [hx.1, hx.2.1, e1, Option.bind_some, hx.1, hx.2.1, e2, Option.bind_some]
  exact tail_ok hr (hk _ _ _ _ (R_more hr.2.2 (show t ≤ t + 1440 by omega) ht))
theorem J1949_ok {Ls t : Nat} {xs : Nat → Int32} {kb : KB} {x5 : Int32} {μ ν : Mm} {o : Nat → Int64} {dd : Nat → UInt64} (hx : HX Ls x5) (hk : HK kb x5 (t + 1440)) (ht : t + 1440 ≤ 800000) (h : R t μ ν) : f_L_law_s_J1949 Ls xs kb x5 μ ν o dd = some () := by
  unfold f_L_law_s_J1949
  obtain ⟨c, o2, w, ν2, e1, e2, hr⟩ := op_reasonTests (xs (x5 + 1).toNatClampNeg) (xs (x5 + 2).toNatClampNeg) o h
  rw [hx.1, hx.2.1, e1, Option.bind_some, hx.1, hx.2.1, e2, Option.bind_some]
  exact tail_ok hr (hk _ _ _ _ (R_more hr.2.2 (show t ≤ t + 1440 by omega) ht))
theorem J2017_ok {Ls t : Nat} {xs : Nat → Int32} {kb : KB} {x5 : Int32} {μ ν : Mm} {o : Nat → Int64} {dd : Nat → UInt64} (hx : HX Ls x5) (hk : HK kb x5 (t + 1440)) (ht : t + 1440 ≤ 800000) (h : R t μ ν) : f_L_law_s_J2017 Ls xs kb x5 μ ν o dd = some () := by
  unfold f_L_law_s_J2017
  obtain ⟨c, o2, w, ν2, e1, e2, hr⟩ := op_reasonFeature (xs (x5 + 1).toNatClampNeg) (xs (x5 + 2).toNatClampNeg) (xs (x5 + 3).toNatClampNeg) o h
  rw [hx.1, hx.2.1, hx.2.2.1, e1, Option.bind_some, hx.1, hx.2.1, hx.2.2.1, e2, Option.bind_some]
  exact tail_ok hr (hk _ _ _ _ (R_more hr.2.2 (show t ≤ t + 1440 by omega) ht))
theorem J2097_ok {Ls t : Nat} {xs : Nat → Int32} {kb : KB} {x5 : Int32} {μ ν : Mm} {o : Nat → Int64} {dd : Nat → UInt64} (hx : HX Ls x5) (hk : HK kb x5 (t + 1440)) (ht : t + 1440 ≤ 800000) (h : R t μ ν) : f_L_law_s_J2097 Ls xs kb x5 μ ν o dd = some () := by
  unfold f_L_law_s_J2097
  obtain ⟨c, o2, w, ν2, e1, e2, hr⟩ := op_reasonValue (xs (x5 + 1).toNatClampNeg) (xs (x5 + 2).toNatClampNeg) (xs (x5 + 3).toNatClampNeg) o h
  rw [hx.1, hx.2.1, hx.2.2.1, e1, Option.bind_some, hx.1, hx.2.1, hx.2.2.1, e2, Option.bind_some]
  exact tail_ok hr (hk _ _ _ _ (R_more hr.2.2 (show t ≤ t + 1440 by omega) ht))
theorem J2177_ok {Ls t : Nat} {xs : Nat → Int32} {kb : KB} {x5 : Int32} {μ ν : Mm} {o : Nat → Int64} {dd : Nat → UInt64} (hx : HX Ls x5) (hk : HK kb x5 (t + 1440)) (ht : t + 1440 ≤ 800000) (h : R t μ ν) : f_L_law_s_J2177 Ls xs kb x5 μ ν o dd = some () := by
  unfold f_L_law_s_J2177
  obtain ⟨c, o2, w, ν2, e1, e2, _, hr⟩ := op_nextAlert  o h
  rw [e1, Option.bind_some, e2, Option.bind_some]
  exact tail_ok hr (hk _ _ _ _ (R_more hr.2.2 (show t ≤ t + 1440 by omega) ht))
theorem J2221_ok {Ls t : Nat} {xs : Nat → Int32} {kb : KB} {x5 : Int32} {μ ν : Mm} {o : Nat → Int64} {dd : Nat → UInt64} (hx : HX Ls x5) (hk : HK kb x5 (t + 1440)) (ht : t + 1440 ≤ 800000) (h : R t μ ν) : f_L_law_s_J2221 Ls xs kb x5 μ ν o dd = some () := by
  unfold f_L_law_s_J2221
  obtain ⟨c, o2, w, ν2, e1, e2, hr⟩ := op_alertAt (xs (x5 + 1).toNatClampNeg) o h
  rw [hx.1, e1, Option.bind_some, hx.1, e2, Option.bind_some]
  exact tail_ok hr (hk _ _ _ _ (R_more hr.2.2 (show t ≤ t + 1440 by omega) ht))
theorem J2374_ok {Ls t : Nat} {xs : Nat → Int32} {kb : KB} {x5 : Int32} {μ ν : Mm} {o : Nat → Int64} {dd : Nat → UInt64} (hx : HX Ls x5) (hk : HK kb x5 (t + 1440)) (ht : t + 1440 ≤ 800000) (h : R t μ ν) : f_L_law_s_J2374 Ls xs kb x5 μ ν o dd = some () := by
  unfold f_L_law_s_J2374
  obtain ⟨c, o2, w, ν2, e1, e2, hr⟩ := op_alertOf (xs (x5 + 1).toNatClampNeg) o h
  rw [hx.1, e1, Option.bind_some, hx.1, e2, Option.bind_some]
  exact tail_ok hr (hk _ _ _ _ (R_more hr.2.2 (show t ≤ t + 1440 by omega) ht))
theorem J2430_ok {Ls t : Nat} {xs : Nat → Int32} {kb : KB} {x5 : Int32} {μ ν : Mm} {o : Nat → Int64} {dd : Nat → UInt64} (hx : HX Ls x5) (hk : HK kb x5 (t + 1440)) (ht : t + 1440 ≤ 800000) (h : R t μ ν) : f_L_law_s_J2430 Ls xs kb x5 μ ν o dd = some () := by
  unfold f_L_law_s_J2430
  obtain ⟨c, μ2, o2, w, ν2, e1, e2, hr⟩ := op_ring (xs (x5 + 1).toNatClampNeg) (xs (x5 + 2).toNatClampNeg) o h
  rw [hx.1, hx.2.1, e1, Option.bind_some, hx.1, hx.2.1, e2, Option.bind_some]
  exact tail_ok hr (hk _ _ _ _ (R_more hr.2.2 (show t ≤ t + 1440 by omega) ht))
theorem J2498_ok {Ls t : Nat} {xs : Nat → Int32} {kb : KB} {x5 : Int32} {μ ν : Mm} {o : Nat → Int64} {dd : Nat → UInt64} (hx : HX Ls x5) (hk : HK kb x5 (t + 1440)) (ht : t + 1440 ≤ 800000) (h : R t μ ν) : f_L_law_s_J2498 Ls xs kb x5 μ ν o dd = some () := by
  unfold f_L_law_s_J2498
  obtain ⟨c, μ2, o2, w, ν2, e1, e2, hr⟩ := op_ringByTrying (xs (x5 + 1).toNatClampNeg) (xs (x5 + 2).toNatClampNeg) o h
  rw [hx.1, hx.2.1, e1, Option.bind_some, hx.1, hx.2.1, e2, Option.bind_some]
  exact tail_ok hr (hk _ _ _ _ (R_more hr.2.2 (show t ≤ t + 1440 by omega) ht))
theorem J2566_ok {Ls t : Nat} {xs : Nat → Int32} {kb : KB} {x5 : Int32} {μ ν : Mm} {o : Nat → Int64} {dd : Nat → UInt64} (hx : HX Ls x5) (hk : HK kb x5 (t + 1440)) (ht : t + 1440 ≤ 800000) (h : R t μ ν) : f_L_law_s_J2566 Ls xs kb x5 μ ν o dd = some () := by
  unfold f_L_law_s_J2566
  obtain ⟨c, μ2, o2, w, ν2, e1, e2, hr⟩ := op_group (xs (x5 + 1).toNatClampNeg) (xs (x5 + 2).toNatClampNeg) o h
  rw [hx.1, hx.2.1, e1, Option.bind_some, hx.1, hx.2.1, e2, Option.bind_some]
  exact tail_ok hr (hk _ _ _ _ (R_more hr.2.2 (show t ≤ t + 1440 by omega) ht))
theorem J2634_ok {Ls t : Nat} {xs : Nat → Int32} {kb : KB} {x5 : Int32} {μ ν : Mm} {o : Nat → Int64} {dd : Nat → UInt64} (hx : HX Ls x5) (hk : HK kb x5 (t + 1440)) (ht : t + 1440 ≤ 800000) (h : R t μ ν) : f_L_law_s_J2634 Ls xs kb x5 μ ν o dd = some () := by
  unfold f_L_law_s_J2634
  obtain ⟨c, o2, w, ν2, e1, e2, hr⟩ := op_caught (xs (x5 + 1).toNatClampNeg) o h
  rw [hx.1, e1, Option.bind_some, hx.1, e2, Option.bind_some]
  exact tail_ok hr (hk _ _ _ _ (R_more hr.2.2 (show t ≤ t + 1440 by omega) ht))
theorem J2690_ok {Ls t : Nat} {xs : Nat → Int32} {kb : KB} {x5 : Int32} {μ ν : Mm} {o : Nat → Int64} {dd : Nat → UInt64} (hx : HX Ls x5) (hk : HK kb x5 (t + 1440)) (ht : t + 1440 ≤ 800000) (h : R t μ ν) : f_L_law_s_J2690 Ls xs kb x5 μ ν o dd = some () := by
  unfold f_L_law_s_J2690
  obtain ⟨c, o2, w, ν2, e1, e2, hr⟩ := op_bestThreshold (xs (x5 + 1).toNatClampNeg) o h
  rw [hx.1, e1, Option.bind_some, hx.1, e2, Option.bind_some]
  exact tail_ok hr (hk _ _ _ _ (R_more hr.2.2 (show t ≤ t + 1440 by omega) ht))
theorem J2746_ok {Ls t : Nat} {xs : Nat → Int32} {kb : KB} {x5 : Int32} {μ ν : Mm} {o : Nat → Int64} {dd : Nat → UInt64} (hx : HX Ls x5) (hk : HK kb x5 (t + 1440)) (ht : t + 1440 ≤ 800000) (h : R t μ ν) : f_L_law_s_J2746 Ls xs kb x5 μ ν o dd = some () := by
  unfold f_L_law_s_J2746
  obtain ⟨c, o2, w, ν2, e1, e2, hr⟩ := op_bestThresholdByTrying (xs (x5 + 1).toNatClampNeg) o h
  rw [hx.1, e1, Option.bind_some, hx.1, e2, Option.bind_some]
  exact tail_ok hr (hk _ _ _ _ (R_more hr.2.2 (show t ≤ t + 1440 by omega) ht))
theorem J603_ok {Ls t : Nat} {xs : Nat → Int32} {kb : KB} {x5 : Int32} {μ ν : Mm} {o : Nat → Int64} {dd : Nat → UInt64} (hx : HX Ls x5) (hk : HK kb x5 (t + 1440)) (ht : t + 1440 ≤ 800000) (h : R t μ ν) : f_L_law_s_J603 Ls xs kb x5 μ ν o dd = some () := by
  unfold f_L_law_s_J603
  obtain ⟨w, ν2, e1, e2, hr⟩ := op_accounts h
  rw [e1, Option.bind_some, e2, Option.bind_some, if_pos rfl]
  exact hk _ _ _ _ (R_more hr (show t ≤ t + 1440 by omega) ht)
theorem J672_ok {Ls t : Nat} {xs : Nat → Int32} {kb : KB} {x5 : Int32} {μ ν : Mm} {o : Nat → Int64} {dd : Nat → UInt64} (hx : HX Ls x5) (hk : HK kb x5 (t + 1440)) (ht : t + 1440 ≤ 800000) (h : R t μ ν) : f_L_law_s_J672 Ls xs kb x5 μ ν o dd = some () := by
  unfold f_L_law_s_J672
  obtain ⟨w, ν2, e1, e2, hr⟩ := op_time h
  rw [e1, Option.bind_some, e2, Option.bind_some, if_pos rfl]
  exact hk _ _ _ _ (R_more hr (show t ≤ t + 1440 by omega) ht)
theorem J765_ok {Ls t : Nat} {xs : Nat → Int32} {kb : KB} {x5 : Int32} {μ ν : Mm} {o : Nat → Int64} {dd : Nat → UInt64} (hx : HX Ls x5) (hk : HK kb x5 (t + 1440)) (ht : t + 1440 ≤ 800000) (h : R t μ ν) : f_L_law_s_J765 Ls xs kb x5 μ ν o dd = some () := by
  unfold f_L_law_s_J765
  obtain ⟨w, ν2, e1, e2, hr⟩ := op_payments h
  rw [e1, Option.bind_some, e2, Option.bind_some, if_pos rfl]
  exact hk _ _ _ _ (R_more hr (show t ≤ t + 1440 by omega) ht)
theorem J970_ok {Ls t : Nat} {xs : Nat → Int32} {kb : KB} {x5 : Int32} {μ ν : Mm} {o : Nat → Int64} {dd : Nat → UInt64} (hx : HX Ls x5) (hk : HK kb x5 (t + 1440)) (ht : t + 1440 ≤ 800000) (h : R t μ ν) : f_L_law_s_J970 Ls xs kb x5 μ ν o dd = some () := by
  unfold f_L_law_s_J970
  obtain ⟨w, ν2, e1, e2, hr⟩ := op_kept h
  rw [e1, Option.bind_some, e2, Option.bind_some, if_pos rfl]
  exact hk _ _ _ _ (R_more hr (show t ≤ t + 1440 by omega) ht)
theorem J2277_ok {Ls t : Nat} {xs : Nat → Int32} {kb : KB} {x5 : Int32} {μ ν : Mm} {o : Nat → Int64} {dd : Nat → UInt64} (hx : HX Ls x5) (hk : HK kb x5 (t + 1440)) (ht : t + 1440 ≤ 800000) (h : R t μ ν) : f_L_law_s_J2277 Ls xs kb x5 μ ν o dd = some () := by
  unfold f_L_law_s_J2277
  obtain ⟨w, ν2, e1, e2, hr⟩ := op_openAlerts h
  rw [e1, Option.bind_some, e2, Option.bind_some, if_pos rfl]
  exact hk _ _ _ _ (R_more hr (show t ≤ t + 1440 by omega) ht)
theorem J2959_ok {Ls t : Nat} {xs : Nat → Int32} {kb : KB} {x5 : Int32} {μ ν : Mm} {o : Nat → Int64} {dd : Nat → UInt64} (hx : HX Ls x5) (hk : HK kb x5 (t + 1440)) (ht : t + 1440 ≤ 800000) (h : R t μ ν) : f_L_law_s_J2959 Ls xs kb x5 μ ν o dd = some () := by
  unfold f_L_law_s_J2959
  obtain ⟨w, ν2, e1, e2, hr⟩ := op_isSound h
  rw [e1, Option.bind_some, e2, Option.bind_some, if_pos rfl]
  exact hk _ _ _ _ (R_more hr (show t ≤ t + 1440 by omega) ht)
theorem J2945_ok {Ls t : Nat} {xs : Nat → Int32} {kb : KB} {x5 : Int32} {μ ν : Mm} {o : Nat → Int64} {dd : Nat → UInt64} (hx : HX Ls x5) (hk : HK kb x5 (t + 1440)) (ht : t + 1440 ≤ 800000) (h : R t μ ν) : f_L_law_s_J2945 Ls xs kb x5 μ ν o dd = some () := by
  unfold f_L_law_s_J2945
  obtain ⟨w, ν2, e1, e2, hr⟩ := op_turnover h
  rw [e1, Option.bind_some, e2, Option.bind_some, cmp_self, if_pos rfl]
  exact hk _ _ _ _ (R_more hr (show t ≤ t + 1440 by omega) ht)
theorem J302_ok {Ls t : Nat} {xs : Nat → Int32} {kb : KB} {x5 : Int32} {μ ν : Mm} {o : Nat → Int64} {dd : Nat → UInt64} (hx : HX Ls x5) (hk : HK kb x5 (t + 1440)) (ht : t + 1440 ≤ 800000) (h : R t μ ν) : f_L_law_s_J302 Ls xs kb x5 μ ν o dd = some () := by
  have key : ∀ v, v = (if (xs (x5 + 2).toNatClampNeg : Int32) = 0 then (0 : Int32) else 1) → f_L_law_s_J323 Ls xs kb x5 v (xs (x5 + 1).toNatClampNeg) μ ν o dd = some () := by
    intro v hv
    obtain ⟨c, μ2, o2, w, ν2, e1, e2, hw, hr⟩ := op_setMarked (xs (x5 + 1).toNatClampNeg) v o h
    unfold f_L_law_s_J323 f_L_law_s_J350
    rw [e1, Option.bind_some, hx.1, hx.2.1]
    have K := tail_okb hr hw (hk μ2 ν2 o2 dd (R_more hr.2.2 (show t ≤ t + 1440 by omega) ht))
    by_cases h0 : (xs (x5 + 2).toNatClampNeg : Int32) = 0
    · rw [if_pos h0] at hv ⊢
      subst hv; rw [e2, Option.bind_some]
      exact K
    · rw [if_neg h0] at hv ⊢
      subst hv; rw [e2, Option.bind_some]
      exact K
  unfold f_L_law_s_J302
  rw [hx.1, hx.2.1]
  by_cases h0 : (xs (x5 + 2).toNatClampNeg : Int32) = 0
  · rw [if_pos h0]; exact key 0 (by rw [if_pos h0])
  · rw [if_neg h0]; exact key 1 (by rw [if_neg h0])
theorem J393_ok {Ls t : Nat} {xs : Nat → Int32} {kb : KB} {x5 : Int32} {μ ν : Mm} {o : Nat → Int64} {dd : Nat → UInt64} (hx : HX Ls x5) (hk : HK kb x5 (t + 1440)) (ht : t + 1440 ≤ 800000) (h : R t μ ν) : f_L_law_s_J393 Ls xs kb x5 μ ν o dd = some () := by
  have key : ∀ v, v = (if (xs (x5 + 2).toNatClampNeg : Int32) = 0 then (0 : Int32) else 1) → f_L_law_s_J414 Ls xs kb x5 v (xs (x5 + 1).toNatClampNeg) μ ν o dd = some () := by
    intro v hv
    obtain ⟨c, μ2, o2, w, ν2, e1, e2, hw, hr⟩ := op_setBlocked (xs (x5 + 1).toNatClampNeg) v o h
    unfold f_L_law_s_J414 f_L_law_s_J441
    rw [e1, Option.bind_some, hx.1, hx.2.1]
    have K := tail_okb hr hw (hk μ2 ν2 o2 dd (R_more hr.2.2 (show t ≤ t + 1440 by omega) ht))
    by_cases h0 : (xs (x5 + 2).toNatClampNeg : Int32) = 0
    · rw [if_pos h0] at hv ⊢
      subst hv; rw [e2, Option.bind_some]
      exact K
    · rw [if_neg h0] at hv ⊢
      subst hv; rw [e2, Option.bind_some]
      exact K
  unfold f_L_law_s_J393
  rw [hx.1, hx.2.1]
  by_cases h0 : (xs (x5 + 2).toNatClampNeg : Int32) = 0
  · rw [if_pos h0]; exact key 0 (by rw [if_pos h0])
  · rw [if_neg h0]; exact key 1 (by rw [if_neg h0])
theorem J1566_ok {Ls t : Nat} {xs : Nat → Int32} {kb : KB} {x5 : Int32} {μ ν : Mm} {o : Nat → Int64} {dd : Nat → UInt64} (hx : HX Ls x5) (hk : HK kb x5 (t + 1440)) (ht : t + 1440 ≤ 800000) (h : R t μ ν) : f_L_law_s_J1566 Ls xs kb x5 μ ν o dd = some () := by
  have key : ∀ v, v = (if (xs (x5 + 2).toNatClampNeg : Int32) = 0 then (0 : Int32) else 1) → f_L_law_s_J1587 Ls xs kb x5 v (xs (x5 + 1).toNatClampNeg) μ ν o dd = some () := by
    intro v hv
    obtain ⟨c, μ2, o2, w, ν2, e1, e2, hw, hr⟩ := op_setRule (xs (x5 + 1).toNatClampNeg) v o h
    unfold f_L_law_s_J1587 f_L_law_s_J1614
    rw [e1, Option.bind_some, hx.1, hx.2.1]
    have K := tail_okb hr hw (hk μ2 ν2 o2 dd (R_more hr.2.2 (show t ≤ t + 1440 by omega) ht))
    by_cases h0 : (xs (x5 + 2).toNatClampNeg : Int32) = 0
    · rw [if_pos h0] at hv ⊢
      subst hv; rw [e2, Option.bind_some]
      exact K
    · rw [if_neg h0] at hv ⊢
      subst hv; rw [e2, Option.bind_some]
      exact K
  unfold f_L_law_s_J1566
  rw [hx.1, hx.2.1]
  by_cases h0 : (xs (x5 + 2).toNatClampNeg : Int32) = 0
  · rw [if_pos h0]; exact key 0 (by rw [if_pos h0])
  · rw [if_neg h0]; exact key 1 (by rw [if_neg h0])
theorem J2290_ok {Ls t : Nat} {xs : Nat → Int32} {kb : KB} {x5 : Int32} {μ ν : Mm} {o : Nat → Int64} {dd : Nat → UInt64} (hx : HX Ls x5) (hk : HK kb x5 (t + 1440)) (ht : t + 1440 ≤ 800000) (h : R t μ ν) : f_L_law_s_J2290 Ls xs kb x5 μ ν o dd = some () := by
  have key : ∀ v, v = (if (xs (x5 + 2).toNatClampNeg : Int32) = 0 then (0 : Int32) else 1) → f_L_law_s_J2311 Ls xs kb x5 v (xs (x5 + 1).toNatClampNeg) μ ν o dd = some () := by
    intro v hv
    obtain ⟨c, μ2, o2, w, ν2, e1, e2, hr⟩ := op_decide (xs (x5 + 1).toNatClampNeg) v o h
    unfold f_L_law_s_J2311 f_L_law_s_J2338
    rw [e1, Option.bind_some, hx.1, hx.2.1]
    have K := tail_ok hr (hk μ2 ν2 o2 dd (R_more hr.2.2 (show t ≤ t + 1440 by omega) ht))
    by_cases h0 : (xs (x5 + 2).toNatClampNeg : Int32) = 0
    · rw [if_pos h0] at hv ⊢
      subst hv; rw [e2, Option.bind_some]
      exact K
    · rw [if_neg h0] at hv ⊢
      subst hv; rw [e2, Option.bind_some]
      exact K
  unfold f_L_law_s_J2290
  rw [hx.1, hx.2.1]
  by_cases h0 : (xs (x5 + 2).toNatClampNeg : Int32) = 0
  · rw [if_pos h0]; exact key 0 (by rw [if_pos h0])
  · rw [if_neg h0]; exact key 1 (by rw [if_neg h0])
theorem J1065_ok {Ls t : Nat} {xs : Nat → Int32} {kb : KB} {x5 : Int32} {μ ν : Mm} {o : Nat → Int64} {dd : Nat → UInt64} (hx : HX Ls x5) (hk : HK kb x5 (t + 1440)) (ht : t + 1440 ≤ 800000) (h : R t μ ν) : f_L_law_s_J1065 Ls xs kb x5 μ ν o dd = some () := by
  have key : ∀ v, v = (if (xs (x5 + 3).toNatClampNeg : Int32) = 0 then (0 : Int32) else 1) → f_L_law_s_J1093 Ls xs kb x5 v (xs (x5 + 2).toNatClampNeg) (((xs (x5 + 1).toNatClampNeg) : Int32).toUInt32 % 65536).toInt32 μ ν o dd = some () := by
    intro v hv
    obtain ⟨c, μ2, o2, w, ν2, e1, e2, hr⟩ := op_addTest (((xs (x5 + 1).toNatClampNeg) : Int32).toUInt32 % 65536).toInt32 (xs (x5 + 2).toNatClampNeg) v (xs (x5 + 4).toNatClampNeg) (char_of _) o h
    unfold f_L_law_s_J1093 f_L_law_s_J1133
    rw [hx.2.2.2, e1, Option.bind_some, hx.1, hx.2.1, hx.2.2.1]
    have K := tail_ok hr (hk μ2 ν2 o2 dd (R_more hr.2.2 (show t ≤ t + 1440 by omega) ht))
    by_cases h0 : (xs (x5 + 3).toNatClampNeg : Int32) = 0
    · rw [if_pos h0] at hv ⊢
      subst hv; rw [hx.2.2.2, e2, Option.bind_some]
      exact K
    · rw [if_neg h0] at hv ⊢
      subst hv; rw [hx.2.2.2, e2, Option.bind_some]
      exact K
  unfold f_L_law_s_J1065
  rw [hx.1, hx.2.1, hx.2.2.1]
  by_cases h0 : (xs (x5 + 3).toNatClampNeg : Int32) = 0
  · rw [if_pos h0]; exact key 0 (by rw [if_pos h0])
  · rw [if_neg h0]; exact key 1 (by rw [if_neg h0])
theorem J2880_ok {Ls t : Nat} {xs : Nat → Int32} {kb : KB} {x5 : Int32} {μ ν : Mm} {o : Nat → Int64} {dd : Nat → UInt64} (hx : HX Ls x5) (hk : HK kb x5 (t + 1440)) (ht : t + 1440 ≤ 800000) (h : R t μ ν) : f_L_law_s_J2880 Ls xs kb x5 μ ν o dd = some () := by
  unfold f_L_law_s_J2880
  obtain ⟨c, d2, w, ν2, e1, e2, h1, h2, hr⟩ := op_meanScore dd h
  have hK := hk μ ν2 o d2 (R_more hr (show t ≤ t + 1440 by omega) ht)
  rw [e1, Option.bind_some, e2, Option.bind_some]
  unfold f_X8_thrown
  rw [Option.bind_some, if_pos h1]
  by_cases hc : c = 0
  · rw [if_pos hc, chk0]
    obtain ⟨h3, h4⟩ := h2 hc
    show (if Op.cmpValue (FP.dcmp (d2 (0 : Int32).toNatClampNeg) w) .l = 0 then kb (x5 + 5) μ ν2 o d2 else _) = some ()
    rw [show d2 (0 : Int32).toNatClampNeg = w from h3, if_pos h4]
    exact hK
  · rw [if_neg hc]; exact hK
theorem J2802_ok {Ls t : Nat} {xs : Nat → Int32} {kb : KB} {x5 : Int32} {μ ν : Mm} {o : Nat → Int64} {dd : Nat → UInt64} (hx : HX Ls x5) (hk : HK kb x5 (t + 1440)) (ht : t + 1440 ≤ 800000) (h : R t μ ν) : f_L_law_s_J2802 Ls xs kb x5 μ ν o dd = some () := by
  unfold f_L_law_s_J2802
  obtain ⟨c, d2, w, ν2, e1, e2, h1, h2, hr⟩ := op_precision (xs (x5 + 1).toNatClampNeg) dd h
  have hK := hk μ ν2 o d2 (R_more hr (show t ≤ t + 1440 by omega) ht)
  rw [hx.1, e1, Option.bind_some, hx.1, e2, Option.bind_some]
  unfold f_X8_thrown
  rw [Option.bind_some, if_pos h1]
  by_cases hc : c = 0
  · rw [if_pos hc, chk0]
    obtain ⟨h3, h4, h5⟩ := h2 hc
    rw [gx64_ok h3]
    show (if Op.cmpValue (FP.dcmp (d2 (0 : Int32).toNatClampNeg) (FP.f2d w)) .l = 0 then kb (x5 + 5) μ ν2 o d2 else _) = some ()
    rw [show d2 (0 : Int32).toNatClampNeg = FP.f2d w from h4, if_pos h5]
    exact hK
  · rw [if_neg hc]; exact hK
theorem ite_ok {c : Prop} [Decidable c] {x y : Option Unit} (hx : x = some ()) (hy : y = some ()) : (if c then x else y) = some () := by
  by_cases h : c
  · rw [if_pos h]; exact hx
  · rw [if_neg h]; exact hy
theorem round_ok {Ls t r : Nat} {xs : Nat → Int32} {kb : KB} {μ ν : Mm} {o : Nat → Int64} {dd : Nat → UInt64} (hL : Ls ≤ 2560) (hr : 5 * r ≤ Ls) (hk : HK kb (nI (5 * r)) (t + 1440)) (ht : t + 1440 ≤ 800000) (h : R t μ ν) : f_L_round Ls xs kb (nI (5 * r)) μ ν o dd = some () := by
  unfold f_L_round
  by_cases h5 : (nI Ls) - 5 < nI (5 * r)
  · rw [if_pos h5]
  rw [if_neg h5]
  rw [lt_I, show (nI Ls - 5).toInt = (Ls : Int) - 5 from subI (a := Ls) (b := 5) (by omega) (by omega), w_int (by omega)] at h5
  have hx : HX Ls (nI (5 * r)) := ⟨fun α k => by rw [show (1 : Int32) = nI 1 from rfl, w_add]; exact chk_nI (by omega) (by omega), fun α k => by rw [show (2 : Int32) = nI 2 from rfl, w_add]; exact chk_nI (by omega) (by omega), fun α k => by rw [show (3 : Int32) = nI 3 from rfl, w_add]; exact chk_nI (by omega) (by omega), fun α k => by rw [show (4 : Int32) = nI 4 from rfl, w_add]; exact chk_nI (by omega) (by omega)⟩
  rw [chk_nI (show 5 * r < Ls by omega) (by omega)]
  refine ite_ok (J244_ok hx hk ht h) ?_
  refine ite_ok (J302_ok hx hk ht h) ?_
  refine ite_ok (J393_ok hx hk ht h) ?_
  refine ite_ok (J484_ok hx hk ht h) ?_
  refine ite_ok (J547_ok hx hk ht h) ?_
  refine ite_ok (J603_ok hx hk ht h) ?_
  refine ite_ok (J616_ok hx hk ht h) ?_
  refine ite_ok (J672_ok hx hk ht h) ?_
  refine ite_ok (J685_ok hx hk ht h) ?_
  refine ite_ok (J765_ok hx hk ht h) ?_
  refine ite_ok (J778_ok hx hk ht h) ?_
  refine ite_ok (J834_ok hx hk ht h) ?_
  refine ite_ok (J902_ok hx hk ht h) ?_
  refine ite_ok (J970_ok hx hk ht h) ?_
  refine ite_ok (J983_ok hx hk ht h) ?_
  refine ite_ok (J1065_ok hx hk ht h) ?_
  refine ite_ok (J1175_ok hx hk ht h) ?_
  refine ite_ok (J1243_ok hx hk ht h) ?_
  refine ite_ok (J1311_ok hx hk ht h) ?_
  refine ite_ok (J1367_ok hx hk ht h) ?_
  refine ite_ok (J1442_ok hx hk ht h) ?_
  refine ite_ok (J1498_ok hx hk ht h) ?_
  refine ite_ok (J1566_ok hx hk ht h) ?_
  refine ite_ok (J1657_ok hx hk ht h) ?_
  refine ite_ok (J1713_ok hx hk ht h) ?_
  refine ite_ok (J1769_ok hx hk ht h) ?_
  refine ite_ok (J1825_ok hx hk ht h) ?_
  refine ite_ok (J1881_ok hx hk ht h) ?_
  refine ite_ok (J1949_ok hx hk ht h) ?_
  refine ite_ok (J2017_ok hx hk ht h) ?_
  refine ite_ok (J2097_ok hx hk ht h) ?_
  refine ite_ok (J2177_ok hx hk ht h) ?_
  refine ite_ok (J2221_ok hx hk ht h) ?_
  refine ite_ok (J2277_ok hx hk ht h) ?_
  refine ite_ok (J2290_ok hx hk ht h) ?_
  refine ite_ok (J2374_ok hx hk ht h) ?_
  refine ite_ok (J2430_ok hx hk ht h) ?_
  refine ite_ok (J2498_ok hx hk ht h) ?_
  refine ite_ok (J2566_ok hx hk ht h) ?_
  refine ite_ok (J2634_ok hx hk ht h) ?_
  refine ite_ok (J2690_ok hx hk ht h) ?_
  refine ite_ok (J2746_ok hx hk ht h) ?_
  refine ite_ok (J2802_ok hx hk ht h) ?_
  refine ite_ok (J2880_ok hx hk ht h) ?_
  refine ite_ok (J2945_ok hx hk ht h) ?_
  refine ite_ok (J2959_ok hx hk ht h) ?_
  exact hk _ _ _ _ (R_more h (by omega) ht)
theorem loop_ok {Ls : Nat} {xs : Nat → Int32} (hL : Ls ≤ 2560) : ∀ (n r : Nat) (μ ν : Mm) (o : Nat → Int64) (dd : Nat → UInt64), 5 * r ≤ Ls → r + n = 520 → R (1440 * r) μ ν → f_L_loop Ls xs n (nI (5 * r)) μ ν o dd = some ()
  | 0, r, _, _, _, _, h1, h2, _ => by omega
  | n + 1, r, μ, ν, o, dd, h1, h2, h => by
    show f_L_round Ls xs (f_L_loop Ls xs n) (nI (5 * r)) μ ν o dd = some ()
    by_cases h3 : 5 * (r + 1) ≤ Ls
    · refine round_ok hL h1 ?_ (by omega) h
      intro μ2 ν2 o2 d2 hR
      rw [show (5 : Int32) = nI 5 from rfl, w_add]
      exact loop_ok hL n (r + 1) μ2 ν2 o2 d2 h3 (by omega) (by rw [Nat.mul_add, Nat.mul_one]; exact hR)
    · unfold f_L_round
      rw [if_pos]
      rw [lt_I, show (nI Ls - 5).toInt = (Ls : Int) - 5 from subI (a := Ls) (b := 5) (by omega) (by omega), w_int (by omega)]
      omega
theorem pure_run (L : Nat) (xs : Nat → Int32) (hL : L ≤ 2560) : f_L_loop L xs 520 0 mu0 nu0 (fun _ => 0) (fun _ => 0) = some () :=
  loop_ok hL 520 0 mu0 nu0 _ _ (by omega) (by omega) R_start
end
