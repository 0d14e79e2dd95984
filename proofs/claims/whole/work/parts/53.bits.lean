/-! ===== L3: bits of a set ===== -/
theorem b_1 (i : Nat) : bt 1 i = decide (i = 0) := by
  rcases Nat.lt_or_ge i 32 with h | h
  · revert i; decide +kernel
  · rw [b_big h]; symm; rw [decide_eq_false_iff_not]; omega
theorem b_one {i j : Nat} (hi : i < 32) (hj : j < 32) : bt ((1 : Int32) <<< (nI i &&& 31)) j = decide (j = i) := by
  rw [b_shl i hi 1 hj, b_1]
  by_cases h : j = i
  · subst h; simp
  · have : ¬ (i ≤ j ∧ j - i = 0) := by omega
    simp only [h, decide_false, Bool.and_eq_false_iff, decide_eq_false_iff_not]; omega
theorem and1 (x : Int32) : x &&& 1 = if bt x 0 = true then 1 else 0 := by
  apply b_ext
  intro i hi
  rw [b_and, b_1]
  by_cases h : bt x 0 = true
  · rw [if_pos h, b_1]
    by_cases h2 : i = 0
    · subst h2; simp [h]
    · simp [h2]
  · rw [if_neg h, b_0]
    by_cases h2 : i = 0
    · subst h2; simp at h; simp [h]
    · simp [h2]
theorem shr_and1 (x : Int32) {i : Nat} (hi : i < 32) : (x >>> (nI i &&& 31)) &&& 1 = if bt x i = true then 1 else 0 := by
  rw [and1, b_sshr i hi x (by omega), if_pos (show i + 0 < 32 by omega)]; rfl
def b2 (b : Bool) : Int32 := if b = true then 1 else 0
theorem b2_t : b2 true = 1 := rfl
theorem b2_f : b2 false = 0 := rfl
theorem b2_0 {b : Bool} : b2 b = 0 ↔ b = false := by cases b <;> simp [b2]
theorem hasBit_eq (x : Int32) {i : Nat} (hi : i < 32) : f_X7_hasBit x (nI i) = some (b2 (bt x i)) := by
  unfold f_X7_hasBit
  rw [shr_and1 x hi]
  cases h : bt x i <;> simp [b2]
theorem has_eq (x : Int32) {i : Nat} (hi : i < 32) : f_X8_has x (nI i) = some (b2 (bt x i)) := by
  unfold f_X8_has
  rw [shr_and1 x hi]
  cases h : bt x i <;> simp [b2]
/-- bit i set to b -/
def sb (x : Int32) (i : Nat) (b : Bool) : Int32 := if b = true then x ||| ((1 : Int32) <<< (nI i &&& 31)) else x &&& (((1 : Int32) <<< (nI i &&& 31)) ^^^ (-1))
theorem bt_sb (x : Int32) {i j : Nat} (b : Bool) (hi : i < 32) (hj : j < 32) : bt (sb x i b) j = if j = i then b else bt x j := by
  unfold sb
  cases b
  · rw [if_neg (by simp), b_and, b_xor, b_one hi hj, b_m1 j hj]
    by_cases h : j = i <;> simp [h]
  · rw [if_pos rfl, b_or, b_one hi hj]
    by_cases h : j = i <;> simp [h]
theorem withBit_eq (x : Int32) (i : Nat) (v : Int32) : f_X7_withBit x (nI i) v = some (sb x i (decide (v ≠ 0))) := by
  unfold f_X7_withBit sb
  by_cases h : v = 0 <;> simp [h]
theorem with_eq (x : Int32) (i : Nat) (v : Int32) : f_X8_with x (nI i) v = some (sb x i (decide (v ≠ 0))) := by
  unfold f_X8_with sb
  by_cases h : v = 0 <;> simp [h]
theorem withBit1 (x : Int32) (i : Nat) : f_X7_withBit x (nI i) 1 = some (sb x i true) := by rw [withBit_eq]; rfl
theorem with1 (x : Int32) (i : Nat) : f_X8_with x (nI i) 1 = some (sb x i true) := by rw [with_eq]; rfl
theorem gnb {α : Type} {b : Bool} {k : Option α} : gn .boolean (b2 b) k = k := by cases b <;> first | exact gnz0 | exact gnz1
