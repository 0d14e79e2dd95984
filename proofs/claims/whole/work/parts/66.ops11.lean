/-! ===== L3: how many bits ===== -/
theorem nx_and (a b : Nat) : nI a &&& nI b = nI (a &&& b) := by
  apply Int32.toBitVec_inj.1
  show BitVec.ofNat 32 a &&& BitVec.ofNat 32 b = BitVec.ofNat 32 (a &&& b)
  apply BitVec.eq_of_getLsbD_eq
  intro i hi
  simp [hi]
theorem nx_cnt : ∀ j : Fin 32, (UInt32.ofNat j.val &&& Int32.toUInt32 31).toNat % 32 = j.val := by decide +kernel
theorem big_ush {k : Nat} (j : Nat) (hk : k < 2147483648) (hj : j < 32) : ((nI k).toUInt32 >>> ((nI j).toUInt32 &&& Int32.toUInt32 31)).toInt32 = nI (k / 2 ^ j) := by
  have hs : k / 2 ^ j ≤ k := Nat.div_le_self _ _
  have e2 : UInt32.ofNat k >>> (UInt32.ofNat j &&& Int32.toUInt32 31) = UInt32.ofNat (k / 2 ^ j) := by
    apply UInt32.toNat_inj.1
    have h1 : (UInt32.ofNat k).toNat = k := Nat.mod_eq_of_lt (by omega)
    have h2 : (UInt32.ofNat (k / 2 ^ j)).toNat = k / 2 ^ j := Nat.mod_eq_of_lt (by omega)
    rw [UInt32.toNat_shiftRight, nx_cnt ⟨j, hj⟩, h1, h2, Nat.shiftRight_eq_div_pow]
  show (UInt32.ofNat k >>> (UInt32.ofNat j &&& Int32.toUInt32 31)).toInt32 = _
  rw [e2]
  rfl
theorem and_split (x m : Nat) : x &&& m = (x % 256 &&& m % 256) + 256 * ((x / 256) &&& (m / 256)) := by
  have h1 : (x &&& m) % 2 ^ 8 = (x % 2 ^ 8) &&& (m % 2 ^ 8) := Nat.and_mod_two_pow
  have h2 : (x &&& m) / 2 ^ 8 = (x / 2 ^ 8) &&& (m / 2 ^ 8) := Nat.and_div_two_pow
  rw [show (2 : Nat) ^ 8 = 256 from rfl] at h1 h2
  rw [← h1, ← h2]
  omega
theorem and_split3 (x : Nat) {m0 m1 m2 : Nat} (m3 : Nat) (h0 : m0 < 256) (h1 : m1 < 256) (h2 : m2 < 256) : x &&& (m0 + 256 * (m1 + 256 * (m2 + 256 * m3))) = (x % 256 &&& m0) + 256 * ((x / 256 % 256 &&& m1) + 256 * ((x / 256 / 256 % 256 &&& m2) + 256 * (x / 256 / 256 / 256 &&& m3))) := by
  have e : ∀ (m r : Nat), m < 256 → (m + 256 * r) % 256 = m ∧ (m + 256 * r) / 256 = r := fun m r h => by omega
  rw [and_split x, (e _ _ h0).1, (e _ _ h0).2, and_split (x / 256), (e _ _ h1).1, (e _ _ h1).2, and_split (x / 256 / 256), (e _ _ h2).1, (e _ _ h2).2]
def pS1 (n : Nat) : Nat := n - ((n / 2) &&& 1431655765)
def pS2 (n : Nat) : Nat := (n &&& 858993459) + ((n / 4) &&& 858993459)
def pS3 (n : Nat) : Nat := (n + n / 16) &&& 252645135
def pE (w : Nat) : Nat := ((w + w / 256) + (w + w / 256) / 65536) &&& 63
theorem bc_nat {n : Nat} (h : n < 1048576) : f_J6_bitCount_0f7a4 (nI n) = some (nI (pE (pS3 (pS2 (pS1 n))))) := by
  have b1 : (n / 2) &&& 1431655765 ≤ n / 2 := Nat.and_le_left
  have s1 : nI n - (((nI n).toUInt32 >>> ((1 : Int32).toUInt32 &&& Int32.toUInt32 31)).toInt32 &&& 1431655765) = nI (pS1 n) := by
    rw [show ((1 : Int32).toUInt32 &&& Int32.toUInt32 31) = ((nI 1).toUInt32 &&& Int32.toUInt32 31) from rfl, big_ush 1 (by omega) (by omega), show (1431655765 : Int32) = nI 1431655765 from rfl, nx_and, show n / 2 ^ 1 = n / 2 from rfl, w_sub (by omega)]
    rfl
  have c1 : pS1 n ≤ n := Nat.sub_le _ _
  have b2 : pS1 n &&& 858993459 ≤ pS1 n := Nat.and_le_left
  have b3 : (pS1 n / 4) &&& 858993459 ≤ pS1 n / 4 := Nat.and_le_left
  have s2 : (nI (pS1 n) &&& 858993459) + (((nI (pS1 n)).toUInt32 >>> ((2 : Int32).toUInt32 &&& Int32.toUInt32 31)).toInt32 &&& 858993459) = nI (pS2 (pS1 n)) := by
    rw [show ((2 : Int32).toUInt32 &&& Int32.toUInt32 31) = ((nI 2).toUInt32 &&& Int32.toUInt32 31) from rfl, big_ush 2 (by omega) (by omega), show (858993459 : Int32) = nI 858993459 from rfl, nx_and, nx_and, show pS1 n / 2 ^ 2 = pS1 n / 4 from rfl, w_add]
    rfl
  have c2 : pS2 (pS1 n) ≤ 2 * n := by unfold pS2; omega
  have s3 : (nI (pS2 (pS1 n)) + ((nI (pS2 (pS1 n))).toUInt32 >>> ((4 : Int32).toUInt32 &&& Int32.toUInt32 31)).toInt32) &&& 252645135 = nI (pS3 (pS2 (pS1 n))) := by
    rw [show ((4 : Int32).toUInt32 &&& Int32.toUInt32 31) = ((nI 4).toUInt32 &&& Int32.toUInt32 31) from rfl, big_ush 4 (by omega) (by omega), show (252645135 : Int32) = nI 252645135 from rfl, w_add, nx_and, show pS2 (pS1 n) / 2 ^ 4 = pS2 (pS1 n) / 16 from rfl]
    rfl
  have c3 : pS3 (pS2 (pS1 n)) ≤ 4 * n := by
    have : pS3 (pS2 (pS1 n)) ≤ pS2 (pS1 n) + pS2 (pS1 n) / 16 := Nat.and_le_left
    omega
  unfold f_J6_bitCount_0f7a4
  rw [s1, s2, s3]
  generalize pS3 (pS2 (pS1 n)) = w at c3 ⊢
  have s4 : nI w + ((nI w).toUInt32 >>> ((8 : Int32).toUInt32 &&& Int32.toUInt32 31)).toInt32 = nI (w + w / 256) := by
    rw [show ((8 : Int32).toUInt32 &&& Int32.toUInt32 31) = ((nI 8).toUInt32 &&& Int32.toUInt32 31) from rfl, big_ush 8 (by omega) (by omega), w_add]
  rw [s4]
  have s5 : nI (w + w / 256) + ((nI (w + w / 256)).toUInt32 >>> ((16 : Int32).toUInt32 &&& Int32.toUInt32 31)).toInt32 = nI ((w + w / 256) + (w + w / 256) / 65536) := by
    rw [show ((16 : Int32).toUInt32 &&& Int32.toUInt32 31) = ((nI 16).toUInt32 &&& Int32.toUInt32 31) from rfl, big_ush 16 (by omega) (by omega), w_add]
  rw [s5, show (63 : Int32) = nI 63 from rfl, nx_and]
  rfl
def q1 (a : Nat) : Nat := a - ((a / 2) &&& 85)
def q2 (a : Nat) : Nat := (a &&& 51) + ((a / 4) &&& 51)
def q3 (a : Nat) : Nat := (a + a / 16) % 16
theorem t_a : ∀ a, a < 256 → ∀ b, b < 2 → ((a / 2 + 128 * b) &&& 85) = ((a / 2) &&& 85) := by decide +kernel
theorem t_b : ∀ a, a < 256 → ∀ b, b < 4 → ((a / 4 + 64 * b) &&& 51) = ((a / 4) &&& 51) := by decide +kernel
theorem t_c : ∀ a, a < 256 → q1 a < 256 ∧ q2 (q1 a) ≤ 68 ∧ q2 (q1 a) % 16 ≤ 4 ∧ q3 (q2 (q1 a)) ≤ 8 ∧ q3 (q2 (q1 a)) = fb_ct (fun i => a.testBit i) 8 := by decide +kernel
theorem pS1_eq {a b c : Nat} (ha : a < 256) (hb : b < 256) (hc : c < 256) : pS1 (a + 256 * b + 65536 * c) = q1 a + 256 * q1 b + 65536 * q1 c := by
  unfold pS1 q1
  rw [show (1431655765 : Nat) = 85 + 256 * (85 + 256 * (85 + 256 * 85)) from rfl, and_split3 _ 85 (by omega) (by omega) (by omega)]
  rw [show (a + 256 * b + 65536 * c) / 2 % 256 = a / 2 + 128 * (b % 2) by omega, show (a + 256 * b + 65536 * c) / 2 / 256 % 256 = b / 2 + 128 * (c % 2) by omega, show (a + 256 * b + 65536 * c) / 2 / 256 / 256 % 256 = c / 2 + 128 * 0 by omega, show (a + 256 * b + 65536 * c) / 2 / 256 / 256 / 256 = 0 by omega, t_a a ha _ (by omega), t_a b hb _ (by omega), t_a c hc _ (by omega), Nat.zero_and]
  have h1 : (a / 2) &&& 85 ≤ a / 2 := Nat.and_le_left
  have h2 : (b / 2) &&& 85 ≤ b / 2 := Nat.and_le_left
  have h3 : (c / 2) &&& 85 ≤ c / 2 := Nat.and_le_left
  omega
theorem pS2_eq {a b c : Nat} (ha : a < 256) (hb : b < 256) (hc : c < 256) : pS2 (a + 256 * b + 65536 * c) = q2 a + 256 * q2 b + 65536 * q2 c := by
  unfold pS2 q2
  have e1 : (a + 256 * b + 65536 * c) &&& 858993459 = (a &&& 51) + 256 * ((b &&& 51) + 256 * (c &&& 51)) := by
    rw [show (858993459 : Nat) = 51 + 256 * (51 + 256 * (51 + 256 * 51)) from rfl, and_split3 _ 51 (by omega) (by omega) (by omega)]
    rw [show (a + 256 * b + 65536 * c) % 256 = a by omega, show (a + 256 * b + 65536 * c) / 256 % 256 = b by omega, show (a + 256 * b + 65536 * c) / 256 / 256 % 256 = c by omega, show (a + 256 * b + 65536 * c) / 256 / 256 / 256 = 0 by omega, Nat.zero_and, Nat.mul_zero, Nat.add_zero]
  have e2 : ((a + 256 * b + 65536 * c) / 4) &&& 858993459 = ((a / 4) &&& 51) + 256 * (((b / 4) &&& 51) + 256 * ((c / 4) &&& 51)) := by
    rw [show (858993459 : Nat) = 51 + 256 * (51 + 256 * (51 + 256 * 51)) from rfl, and_split3 _ 51 (by omega) (by omega) (by omega)]
    rw [show (a + 256 * b + 65536 * c) / 4 % 256 = a / 4 + 64 * (b % 4) by omega, show (a + 256 * b + 65536 * c) / 4 / 256 % 256 = b / 4 + 64 * (c % 4) by omega, show (a + 256 * b + 65536 * c) / 4 / 256 / 256 % 256 = c / 4 + 64 * 0 by omega, show (a + 256 * b + 65536 * c) / 4 / 256 / 256 / 256 = 0 by omega, t_b a ha _ (by omega), t_b b hb _ (by omega), t_b c hc _ (by omega), Nat.zero_and, Nat.mul_zero, Nat.add_zero]
  rw [e1, e2]
  omega
theorem pS3_eq {a b c : Nat} (ha : a ≤ 68) (hb : b ≤ 68) (hc : c ≤ 68) (hb2 : b % 16 ≤ 4) (hc2 : c % 16 ≤ 4) : pS3 (a + 256 * b + 65536 * c) = q3 a + 256 * q3 b + 65536 * q3 c := by
  unfold pS3 q3
  rw [show (252645135 : Nat) = (2 ^ 4 - 1) + 256 * ((2 ^ 4 - 1) + 256 * ((2 ^ 4 - 1) + 256 * 15)) from rfl, and_split3 _ 15 (by omega) (by omega) (by omega)]
  rw [Nat.and_two_pow_sub_one_eq_mod, Nat.and_two_pow_sub_one_eq_mod, Nat.and_two_pow_sub_one_eq_mod]
  have e16 : (a + 256 * b + 65536 * c) / 16 = a / 16 + 16 * b + 4096 * c := by omega
  have hz : a + 256 * b + 65536 * c + (a + 256 * b + 65536 * c) / 16 = (a + a / 16 + 16 * (b % 16)) + 256 * (b + b / 16 + 16 * (c % 16)) + 65536 * (c + c / 16) := by rw [e16]; omega
  have hX : a + a / 16 + 16 * (b % 16) < 256 := by omega
  have hY : b + b / 16 + 16 * (c % 16) < 256 := by omega
  have hZ : c + c / 16 < 256 := by omega
  have x16 : (a + a / 16 + 16 * (b % 16)) % 16 = (a + a / 16) % 16 := by omega
  have y16 : (b + b / 16 + 16 * (c % 16)) % 16 = (b + b / 16) % 16 := by omega
  rw [hz, show (2 : Nat) ^ 4 = 16 from rfl, ← x16, ← y16]
  generalize a + a / 16 + 16 * (b % 16) = X at hX ⊢
  generalize b + b / 16 + 16 * (c % 16) = Y at hY ⊢
  generalize c + c / 16 = Z at hZ ⊢
  have g1 : (X + 256 * Y + 65536 * Z) % 256 = X := by omega
  have g2 : (X + 256 * Y + 65536 * Z) / 256 = Y + 256 * Z := by omega
  have g3 : (Y + 256 * Z) % 256 = Y := by omega
  have g4 : (Y + 256 * Z) / 256 = Z := by omega
  have g5 : Z % 256 = Z := by omega
  have g6 : Z / 256 = 0 := by omega
  rw [g1, g2, g3, g4, g5, g6, Nat.zero_and]
  omega
theorem pE_eq {a b c : Nat} (ha : a ≤ 8) (hb : b ≤ 8) (hc : c ≤ 8) : pE (a + 256 * b + 65536 * c) = a + b + c := by
  unfold pE
  rw [show (63 : Nat) = 2 ^ 6 - 1 from rfl, Nat.and_two_pow_sub_one_eq_mod, show (2 : Nat) ^ 6 = 64 from rfl]
  have g1 : (a + 256 * b + 65536 * c) / 256 = b + 256 * c := by omega
  rw [g1]
  have g2 : (a + 256 * b + 65536 * c + (b + 256 * c)) / 65536 = c := by omega
  rw [g2]
  omega
theorem bt_nat {n i : Nat} (hi : i < 32) : bt (nI n) i = n.testBit i := by
  unfold bt
  show (BitVec.ofNat 32 n).getLsbD i = _
  rw [BitVec.getLsbD_ofNat, decide_eq_true hi, Bool.true_and]
theorem bc_eq {n : Nat} (h : n < 1048576) : f_J6_bitCount_0f7a4 (nI n) = some (nI (pop (nI n))) := by
  rw [bc_nat h]
  congr 2
  obtain ⟨a, b, c, ha, hb, hc, rfl⟩ : ∃ a b c, a < 256 ∧ b < 256 ∧ c < 16 ∧ n = a + 256 * b + 65536 * c := ⟨n % 256, n / 256 % 256, n / 65536, by omega, by omega, by omega, by omega⟩
  obtain ⟨a1, a2, a3, a4, a5⟩ := t_c a ha
  obtain ⟨b1, b2, b3, b4, b5⟩ := t_c b hb
  obtain ⟨c1, c2, c3, c4, c5⟩ := t_c c (by omega)
  rw [pS1_eq ha hb (by omega), pS2_eq a1 b1 c1, pS3_eq a2 b2 c2 b3 c3, pE_eq a4 b4 c4, a5, b5, c5]
  unfold pop
  rw [show (32 : Nat) = 8 + (8 + (8 + 8)) from rfl, fb_ct_split, fb_ct_split, fb_ct_split]
  have tb : ∀ k i, i < 8 → k ≤ 24 → bt (nI (a + 256 * b + 65536 * c)) (k + i) = ((a + 256 * b + 65536 * c) / 2 ^ k).testBit i := by
    intro k i hi hk
    rw [bt_nat (by omega), Nat.testBit_div_two_pow, Nat.add_comm k i]
  have m8 : ∀ (x i : Nat), i < 8 → x.testBit i = (x % 2 ^ 8).testBit i := by
    intro x i hi
    rw [Nat.testBit_mod_two_pow, decide_eq_true hi, Bool.true_and]
  have e1 : fb_ct (fun i => bt (nI (a + 256 * b + 65536 * c)) i) 8 = fb_ct (fun i => a.testBit i) 8 := by
    apply fb_ct_cong
    intro i hi
    have := tb 0 i hi (by omega)
    rw [Nat.zero_add] at this
    show bt _ i = a.testBit i
    rw [this, m8 _ i hi, show (a + 256 * b + 65536 * c) / 2 ^ 0 % 2 ^ 8 = a from (show (a + 256 * b + 65536 * c) / 1 % 256 = a by omega)]
  have e2 : fb_ct (fun i => bt (nI (a + 256 * b + 65536 * c)) (8 + i)) 8 = fb_ct (fun i => b.testBit i) 8 := by
    apply fb_ct_cong
    intro i hi
    show bt _ (8 + i) = b.testBit i
    rw [tb 8 i hi (by omega), m8 _ i hi, show (a + 256 * b + 65536 * c) / 2 ^ 8 % 2 ^ 8 = b from (show (a + 256 * b + 65536 * c) / 256 % 256 = b by omega)]
  have e3 : fb_ct (fun i => bt (nI (a + 256 * b + 65536 * c)) (8 + (8 + i))) 8 = fb_ct (fun i => c.testBit i) 8 := by
    apply fb_ct_cong
    intro i hi
    show bt _ (8 + (8 + i)) = c.testBit i
    rw [show 8 + (8 + i) = 16 + i by omega, tb 16 i hi (by omega), m8 _ i hi, show (a + 256 * b + 65536 * c) / 2 ^ 16 % 2 ^ 8 = c from (show (a + 256 * b + 65536 * c) / 65536 % 256 = c by omega)]
  have e4 : fb_ct (fun i => bt (nI (a + 256 * b + 65536 * c)) (8 + (8 + (8 + i)))) 8 = 0 := by
    apply fb_ct_zero.mpr
    intro i hi
    show bt _ (8 + (8 + (8 + i))) = false
    rw [show 8 + (8 + (8 + i)) = 24 + i by omega, tb 24 i hi (by omega), show (a + 256 * b + 65536 * c) / 2 ^ 24 = 0 from (show (a + 256 * b + 65536 * c) / 16777216 = 0 by omega), Nat.zero_testBit]
  rw [e1, e2, e3, e4]
  omega
