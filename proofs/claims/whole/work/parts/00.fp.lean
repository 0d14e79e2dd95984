/-! ===== what a quotient of two converted ints is: no NaN (goes first: it wants the wide library) ===== -/
theorem n64_ok {x : UInt64} (h : FP.Core.dIsNaN x = false) : vf_n64 x := by
  unfold vf_n64
  have h2 : ¬ (9218868437227405312 < x.toNat % 2 ^ 63) := fun h3 => by rw [(FP.Core.isNaN_bits x).mpr h3] at h; cases h
  rw [UInt64.le_iff_toNat_le, UInt64.toNat_and]
  show x.toNat &&& (2 ^ 63 - 1) ≤ 9218868437227405312
  rw [Nat.and_two_pow_sub_one_eq_mod]
  omega
theorem mean_n {a b : Int32} (hb : b ≠ 0) : FP.Core.dIsNaN (FP.ddiv (FP.i2d a) (FP.i2d b)) = false := by
  refine FP.Core.ddiv_out (FP.Core.i2d_fin a).notNaN (FP.Core.i2d_fin b) ?_
  intro hz
  have h1 := FP.Core.i2d_ne_zero hb
  exact h1 ((FP.Core.zero_bits2 _).mp hz)
theorem cmp_d {x : UInt64} (h : FP.Core.dIsNaN x = false) : Op.cmpValue (FP.dcmp x x) .l = 0 := by
  have e : FP.dcmp x x = some .eq := FP.Core.dcmp_self ((FP.Core.notNaN_iff x).mp h)
  rw [e]; rfl
theorem n32_ok {x : UInt32} (h : FP.Core.fIsNaN x = false) : vf_n32 x := by
  unfold vf_n32
  have h2 : ¬ (2139095040 < x.toNat % 2 ^ 31) := fun h3 => by rw [(FP.Core.isNaN_bits32 x).mpr h3] at h; cases h
  rw [UInt32.le_iff_toNat_le, UInt32.toNat_and]
  show x.toNat &&& (2 ^ 31 - 1) ≤ 2139095040
  rw [Nat.and_two_pow_sub_one_eq_mod]
  omega
theorem prec_n {a b : Int32} (hb : b ≠ 0) : FP.Core.fIsNaN (FP.fdiv (FP.i2f a) (FP.i2f b)) = false := by
  refine FP.Core.fdiv_out (FP.Core.i2f_fin a).notNaN (FP.Core.i2f_fin b) ?_
  intro hz
  have h1 := FP.Core.i2f_ne_zero hb
  exact h1 ((FP.Core.zero_bits232 _).mp hz)
theorem f2d_n {x : UInt32} (h : FP.Core.fIsNaN x = false) : FP.Core.dIsNaN (FP.f2d x) = false := by
  unfold FP.f2d
  rw [h, if_neg (by simp)]
  exact FP.Core.f2d_out h
