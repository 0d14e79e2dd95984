/-! ===== L3: the cases of the law ===== -/
abbrev KB : Type := Int32 → Mm → Mm → (Nat → Int64) → (Nat → UInt64) → Option Unit
def HK (kb : KB) (x5 : Int32) (t : Nat) : Prop := ∀ μ ν o dd, R t μ ν → kb (x5 + 5) μ ν o dd = some ()
def HX (Ls : Nat) (x5 : Int32) : Prop := (∀ (α : Type) (k : Option α), chk (x5 + 1) Ls k = k) ∧ (∀ (α : Type) (k : Option α), chk (x5 + 2) Ls k = k) ∧ (∀ (α : Type) (k : Option α), chk (x5 + 3) Ls k = k) ∧ (∀ (α : Type) (k : Option α), chk (x5 + 4) Ls k = k)
theorem Res_R {t t' : Nat} {c : Int32} {o : Nat → Int64} {w : Int32} {μ ν : Mm} (h : Res t c o w μ ν) (h1 : t ≤ t') (h2 : t' ≤ 800000) : R t' μ ν := R_more h.2.2 h1 h2
theorem J244_ok {Ls t : Nat} {xs : Nat → Int32} {kb : KB} {x5 : Int32} {μ ν : Mm} {o : Nat → Int64} {dd : Nat → UInt64} (hx : HX Ls x5) (hk : HK kb x5 (t + 1440)) (ht : t + 1440 ≤ 800000) (h : R t μ ν) : f_L_law_s_J244 Ls xs kb x5 μ ν o dd = some () := by
  unfold f_L_law_s_J244
  obtain ⟨c, μ2, o2, w, ν2, e1, e2, hr⟩ := op_open (((xs (x5 + 1).toNatClampNeg) : Int32).toUInt32 % 65536).toInt32 (char_of _) o h
  rw [hx.1, e1, Option.bind_some, hx.1, e2, Option.bind_some]
  exact tail_ok hr (hk _ _ _ _ (R_more hr.2.2 (show t ≤ t + 1440 by omega) ht))
theorem J484_ok {Ls t : Nat} {xs : Nat → Int32} {kb : KB} {x5 : Int32} {μ ν : Mm} {o : Nat → Int64} {dd : Nat → UInt64} (hx : HX Ls x5) (hk : HK kb x5 (t + 1440)) (ht : t + 1440 ≤ 800000) (h : R t μ ν) : f_L_law_s_J484 Ls xs kb x5 μ ν o dd = some () := by
  unfold f_L_law_s_J484
  obtain ⟨c, o2, w, ν2, e1, e2, hw, hr⟩ := op_isMarked (xs (x5 + 1).toNatClampNeg) o h
  rw [hx.1, e1, Option.bind_some, hx.1, e2, Option.bind_some]
  exact tail_okb hr hw (hk _ _ _ _ (R_more hr.2.2 (show t ≤ t + 1440 by omega) ht))
theorem J547_ok {Ls t : Nat} {xs : Nat → Int32} {kb : KB} {x5 : Int32} {μ ν : Mm} {o : Nat → Int64} {dd : Nat → UInt64} (hx : HX Ls x5) (hk : HK kb x5 (t + 1440)) (ht : t + 1440 ≤ 800000) (h : R t μ ν) : f_L_law_s_J547 Ls xs kb x5 μ ν o dd = some () := by
  unfold f_L_law_s_J547
  obtain ⟨c, o2, w, ν2, e1, e2, hr⟩ := op_countryOf (xs (x5 + 1).toNatClampNeg) o h
  rw [hx.1, e1, Option.bind_some, hx.1, e2, Option.bind_some]
  exact tail_ok hr (hk _ _ _ _ (R_more hr.2.2 (show t ≤ t + 1440 by omega) ht))
theorem J616_ok {Ls t : Nat} {xs : Nat → Int32} {kb : KB} {x5 : Int32} {μ ν : Mm} {o : Nat → Int64} {dd : Nat → UInt64} (hx : HX Ls x5) (hk : HK kb x5 (t + 1440)) (ht : t + 1440 ≤ 800000) (h : R t μ ν) : f_L_law_s_J616 Ls xs kb x5 μ ν o dd = some () := by
  unfold f_L_law_s_J616
  obtain ⟨c, μ2, o2, w, ν2, e1, e2, hr⟩ := op_pass (xs (x5 + 1).toNatClampNeg) o h ht
  rw [hx.1, e1, Option.bind_some, hx.1, e2, Option.bind_some]
  exact tail_ok hr (hk _ _ _ _ (hr.2.2))
theorem J685_ok {Ls t : Nat} {xs : Nat → Int32} {kb : KB} {x5 : Int32} {μ ν : Mm} {o : Nat → Int64} {dd : Nat → UInt64} (hx : HX Ls x5) (hk : HK kb x5 (t + 1440)) (ht : t + 1440 ≤ 800000) (h : R t μ ν) : f_L_law_s_J685 Ls xs kb x5 μ ν o dd = some () := by
  unfold f_L_law_s_J685
  obtain ⟨c, μ2, o2, w, ν2, e1, e2, hr⟩ := op_pay (xs (x5 + 1).toNatClampNeg) (xs (x5 + 2).toNatClampNeg) (xs (x5 + 3).toNatClampNeg) o h
  rw [hx.1, hx.2.1, hx.2.2.1, e1, Option.bind_some, hx.1, hx.2.1, hx.2.2.1, e2, Option.bind_some]
  exact tail_ok hr (hk _ _ _ _ (R_more hr.2.2 (show t ≤ t + 1440 by omega) ht))
theorem J778_ok {Ls t : Nat} {xs : Nat → Int32} {kb : KB} {x5 : Int32} {μ ν : Mm} {o : Nat → Int64} {dd : Nat → UInt64} (hx : HX Ls x5) (hk : HK kb x5 (t + 1440)) (ht : t + 1440 ≤ 800000) (h : R t μ ν) : f_L_law_s_J778 Ls xs kb x5 μ ν o dd = some () := by
  unfold f_L_law_s_J778
  obtain ⟨c, o2, w, ν2, e1, e2, hr⟩ := op_minuteOf (xs (x5 + 1).toNatClampNeg) o h
  rw [hx.1, e1, Option.bind_some, hx.1, e2, Option.bind_some]
  exact tail_ok hr (hk _ _ _ _ (R_more hr.2.2 (show t ≤ t + 1440 by omega) ht))
theorem J834_ok {Ls t : Nat} {xs : Nat → Int32} {kb : KB} {x5 : Int32} {μ ν : Mm} {o : Nat → Int64} {dd : Nat → UInt64} (hx : HX Ls x5) (hk : HK kb x5 (t + 1440)) (ht : t + 1440 ≤ 800000) (h : R t μ ν) : f_L_law_s_J834 Ls xs kb x5 μ ν o dd = some () := by
  unfold f_L_law_s_J834
  obtain ⟨c, o2, w, ν2, e1, e2, hr⟩ := op_sentBy (xs (x5 + 1).toNatClampNeg) (xs (x5 + 2).toNatClampNeg) o h
  rw [hx.1, hx.2.1, e1, Option.bind_some, hx.1, hx.2.1, e2, Option.bind_some]
  exact tail_ok hr (hk _ _ _ _ (R_more hr.2.2 (show t ≤ t + 1440 by omega) ht))
theorem J902_ok {Ls t : Nat} {xs : Nat → Int32} {kb : KB} {x5 : Int32} {μ ν : Mm} {o : Nat → Int64} {dd : Nat → UInt64} (hx : HX Ls x5) (hk : HK kb x5 (t + 1440)) (ht : t + 1440 ≤ 800000) (h : R t μ ν) : f_L_law_s_J902 Ls xs kb x5 μ ν o dd = some () := by
  unfold f_L_law_s_J902
  obtain ⟨c, o2, w, ν2, e1, e2, hr⟩ := op_sentByAnew (xs (x5 + 1).toNatClampNeg) (xs (x5 + 2).toNatClampNeg) o h
  rw [hx.1, hx.2.1, e1, Option.bind_some, hx.1, hx.2.1, e2, Option.bind_some]
  exact tail_ok hr (hk _ _ _ _ (R_more hr.2.2 (show t ≤ t + 1440 by omega) ht))
theorem J983_ok {Ls t : Nat} {xs : Nat → Int32} {kb : KB} {x5 : Int32} {μ ν : Mm} {o : Nat → Int64} {dd : Nat → UInt64} (hx : HX Ls x5) (hk : HK kb x5 (t + 1440)) (ht : t + 1440 ≤ 800000) (h : R t μ ν) : f_L_law_s_J983 Ls xs kb x5 μ ν o dd = some () := by
  unfold f_L_law_s_J983
  obtain ⟨c, μ2, o2, w, ν2, e1, e2, hr⟩ := op_valueOf (xs (x5 + 1).toNatClampNeg) (((xs (x5 + 2).toNatClampNeg) : Int32).toUInt32 % 65536).toInt32 (char_of _) (xs (x5 + 3).toNatClampNeg) o h
  rw [hx.1, hx.2.1, hx.2.2.1, e1, Option.bind_some, hx.1, hx.2.1, hx.2.2.1, e2, Option.bind_some]
  exact tail_ok hr (hk _ _ _ _ (R_more hr.2.2 (show t ≤ t + 1440 by omega) ht))
theorem J1175_ok {Ls t : Nat} {xs : Nat → Int32} {kb : KB} {x5 : Int32} {μ ν : Mm} {o : Nat → Int64} {dd : Nat → UInt64} (hx : HX Ls x5) (hk : HK kb x5 (t + 1440)) (ht : t + 1440 ≤ 800000) (h : R t μ ν) : f_L_law_s_J1175 Ls xs kb x5 μ ν o dd = some () := by
  unfold f_L_law_s_J1175
  obtain ⟨c, μ2, o2, w, ν2, e1, e2, hr⟩ := op_addBoth (xs (x5 + 1).toNatClampNeg) (xs (x5 + 2).toNatClampNeg) o h
  rw [hx.1, hx.2.1, e1, Option.bind_some, hx.1, hx.2.1, e2, Option.bind_some]
  exact tail_ok hr (hk _ _ _ _ (R_more hr.2.2 (show t ≤ t + 1440 by omega) ht))
theorem J1243_ok {Ls t : Nat} {xs : Nat → Int32} {kb : KB} {x5 : Int32} {μ ν : Mm} {o : Nat → Int64} {dd : Nat → UInt64} (hx : HX Ls x5) (hk : HK kb x5 (t + 1440)) (ht : t + 1440 ≤ 800000) (h : R t μ ν) : f_L_law_s_J1243 Ls xs kb x5 μ ν o dd = some () := by
  unfold f_L_law_s_J1243
  obtain ⟨c, μ2, o2, w, ν2, e1, e2, hr⟩ := op_addEither (xs (x5 + 1).toNatClampNeg) (xs (x5 + 2).toNatClampNeg) o h
  rw [hx.1, hx.2.1, e1, Option.bind_some, hx.1, hx.2.1, e2, Option.bind_some]
  exact tail_ok hr (hk _ _ _ _ (R_more hr.2.2 (show t ≤ t + 1440 by omega) ht))
theorem J1311_ok {Ls t : Nat} {xs : Nat → Int32} {kb : KB} {x5 : Int32} {μ ν : Mm} {o : Nat → Int64} {dd : Nat → UInt64} (hx : HX Ls x5) (hk : HK kb x5 (t + 1440)) (ht : t + 1440 ≤ 800000) (h : R t μ ν) : f_L_law_s_J1311 Ls xs kb x5 μ ν o dd = some () := by
  unfold f_L_law_s_J1311
  obtain ⟨c, μ2, o2, w, ν2, e1, e2, hr⟩ := op_addNot (xs (x5 + 1).toNatClampNeg) o h
  rw [hx.1, e1, Option.bind_some, hx.1, e2, Option.bind_some]
  exact tail_ok hr (hk _ _ _ _ (R_more hr.2.2 (show t ≤ t + 1440 by omega) ht))
theorem J1367_ok {Ls t : Nat} {xs : Nat → Int32} {kb : KB} {x5 : Int32} {μ ν : Mm} {o : Nat → Int64} {dd : Nat → UInt64} (hx : HX Ls x5) (hk : HK kb x5 (t + 1440)) (ht : t + 1440 ≤ 800000) (h : R t μ ν) : f_L_law_s_J1367 Ls xs kb x5 μ ν o dd = some () := by
  unfold f_L_law_s_J1367
  obtain ⟨c, μ2, o2, w, ν2, e1, e2, hw, hr⟩ := op_holds (xs (x5 + 1).toNatClampNeg) (xs (x5 + 2).toNatClampNeg) o h
  rw [hx.1, hx.2.1, e1, Option.bind_some, hx.1, hx.2.1, e2, Option.bind_some]
  exact tail_okb hr hw (hk _ _ _ _ (R_more hr.2.2 (show t ≤ t + 1440 by omega) ht))
theorem J1442_ok {Ls t : Nat} {xs : Nat → Int32} {kb : KB} {x5 : Int32} {μ ν : Mm} {o : Nat → Int64} {dd : Nat → UInt64} (hx : HX Ls x5) (hk : HK kb x5 (t + 1440)) (ht : t + 1440 ≤ 800000) (h : R t μ ν) : f_L_law_s_J1442 Ls xs kb x5 μ ν o dd = some () := by
  unfold f_L_law_s_J1442
  obtain ⟨c, o2, w, ν2, e1, e2, hr⟩ := op_sizeOf (xs (x5 + 1).toNatClampNeg) o h
  rw [hx.1, e1, Option.bind_some, hx.1, e2, Option.bind_some]
  exact tail_ok hr (hk _ _ _ _ (R_more hr.2.2 (show t ≤ t + 1440 by omega) ht))
theorem J1498_ok {Ls t : Nat} {xs : Nat → Int32} {kb : KB} {x5 : Int32} {μ ν : Mm} {o : Nat → Int64} {dd : Nat → UInt64} (hx : HX Ls x5) (hk : HK kb x5 (t + 1440)) (ht : t + 1440 ≤ 800000) (h : R t μ ν) : f_L_law_s_J1498 Ls xs kb x5 μ ν o dd = some () := by
  unfold f_L_law_s_J1498
  obtain ⟨c, μ2, o2, w, ν2, e1, e2, hr⟩ := op_addRule (xs (x5 + 1).toNatClampNeg) (xs (x5 + 2).toNatClampNeg) o h
  rw [hx.1, hx.2.1, e1, Option.bind_some, hx.1, hx.2.1, e2, Option.bind_some]
  exact tail_ok hr (hk _ _ _ _ (R_more hr.2.2 (show t ≤ t + 1440 by omega) ht))
theorem J1657_ok {Ls t : Nat} {xs : Nat → Int32} {kb : KB} {x5 : Int32} {μ ν : Mm} {o : Nat → Int64} {dd : Nat → UInt64} (hx : HX Ls x5) (hk : HK kb x5 (t + 1440)) (ht : t + 1440 ≤ 800000) (h : R t μ ν) : f_L_law_s_J1657 Ls xs kb x5 μ ν o dd = some () := by
  unfold f_L_law_s_J1657
  obtain ⟨c, μ2, o2, w, ν2, e1, e2, hr⟩ := op_setThreshold (xs (x5 + 1).toNatClampNeg) o h
  rw [hx.1, e1, Option.bind_some, hx.1, e2, Option.bind_some]
  exact tail_ok hr (hk _ _ _ _ (R_more hr.2.2 (show t ≤ t + 1440 by omega) ht))
theorem J1713_ok {Ls t : Nat} {xs : Nat → Int32} {kb : KB} {x5 : Int32} {μ ν : Mm} {o : Nat → Int64} {dd : Nat → UInt64} (hx : HX Ls x5) (hk : HK kb x5 (t + 1440)) (ht : t + 1440 ≤ 800000) (h : R t μ ν) : f_L_law_s_J1713 Ls xs kb x5 μ ν o dd = some () := by
  unfold f_L_law_s_J1713
  obtain ⟨c, o2, w, ν2, e1, e2, hr⟩ := op_score (xs (x5 + 1).toNatClampNeg) o h
  rw [hx.1, e1, Option.bind_some, hx.1, e2, Option.bind_some]
  exact tail_ok hr (hk _ _ _ _ (R_more hr.2.2 (show t ≤ t + 1440 by omega) ht))
theorem J1769_ok {Ls t : Nat} {xs : Nat → Int32} {kb : KB} {x5 : Int32} {μ ν : Mm} {o : Nat → Int64} {dd : Nat → UInt64} (hx : HX Ls x5) (hk : HK kb x5 (t + 1440)) (ht : t + 1440 ≤ 800000) (h : R t μ ν) : f_L_law_s_J1769 Ls xs kb x5 μ ν o dd = some () := by
  unfold f_L_law_s_J1769
  obtain ⟨c, μ2, o2, w, ν2, e1, e2, hr⟩ := op_scoreNow (xs (x5 + 1).toNatClampNeg) o h
  rw [hx.1, e1, Option.bind_some, hx.1, e2, Option.bind_some]
  exact tail_ok hr (hk _ _ _ _ (R_more hr.2.2 (show t ≤ t + 1440 by omega) ht))
theorem J1825_ok {Ls t : Nat} {xs : Nat → Int32} {kb : KB} {x5 : Int32} {μ ν : Mm} {o : Nat → Int64} {dd : Nat → UInt64} (hx : HX Ls x5) (hk : HK kb x5 (t + 1440)) (ht : t + 1440 ≤ 800000) (h : R t μ ν) : f_L_law_s_J1825 Ls xs kb x5 μ ν o dd = some () := by
  unfold f_L_law_s_J1825
  obtain ⟨c, o2, w, ν2, e1, e2, hr⟩ := op_reasons (xs (x5 + 1).toNatClampNeg) o h
  rw [hx.1, e1, Option.bind_some, hx.1, e2, Option.bind_some]
  exact tail_ok hr (hk _ _ _ _ (R_more hr.2.2 (show t ≤ t + 1440 by omega) ht))
theorem J1881_ok {Ls t : Nat} {xs : Nat → Int32} {kb : KB} {x5 : Int32} {μ ν : Mm} {o : Nat → Int64} {dd : Nat → UInt64} (hx : HX Ls x5) (hk : HK kb x5 (t + 1440)) (ht : t + 1440 ≤ 800000) (h : R t μ ν) : f_L_law_s_J1881 Ls xs kb x5 μ ν o dd = some () := by
  unfold f_L_law_s_J1881
  obtain ⟨c, o2, w, ν2, e1, e2, hr⟩ := op_reasonRule (xs (x5 + 1).toNatClampNeg) (xs (x5 + 2).toNatClampNeg) o h
  rw [hx.1, hx.2.1, e1, Option.bind_some, hx.1, hx.2.1, e2, Option.bind_some]
  exact tail_ok hr (hk _ _ _ _ (R_more hr.2.2 (show t ≤ t + 1440 by omega) ht))
theorem J1949_ok {Ls t : Nat} {xs : Nat → Int32} {kb : KB} {x5 : Int32} {μ ν : Mm} {o : Nat → Int64} {dd : Nat → UInt64} (hx : HX Ls x5) (hk : HK kb x5 (t + 1440)) (ht : t + 1440 ≤ 800000) (h : R t μ ν) : f_L_law_s_J1949 Ls xs kb x5 μ ν o dd = some () := by
  unfold f_L_law_s_J1949
  obtain ⟨c, o2, w, ν2, e1, e2, hr⟩ := op_reasonTests (xs (x5 + 1).toNatClampNeg) (xs (x5 + 2).toNatClampNeg) o h
  rw [hx.1, hx.2.1, e1, Option.bind_some, hx.1, hx.2.1, e2, Option.bind_some]
  exact tail_ok hr (hk _ _ _ _ (R_more hr.2.2 (show t ≤ t + 1440 by omega) ht))
theorem J2017_ok {Ls t : Nat} {xs : Nat → Int32} {kb : KB} {x5 : Int32} {μ ν : Mm} {o : Nat → Int64} {dd : Nat → UInt64} (hx : HX Ls x5) (hk : HK kb x5 (t + 1440)) (ht : t + 1440 ≤ 800000) (h : R t μ ν) : f_L_law_s_J2017 Ls xs kb x5 μ ν o dd = some () := by
  unfold f_L_law_s_J2017
  obtain ⟨c, o2, w, ν2, e1, e2, hr⟩ := op_reasonFeature (xs (x5 + 1).toNatClampNeg) (xs (x5 + 2).toNatClampNeg) (xs (x5 + 3).toNatClampNeg) o h
  rw [hx.1, hx.2.1, hx.2.2.1, e1, Option.bind_some, hx.1, hx.2.1, hx.2.2.1, e2, Option.bind_some]
  exact tail_ok hr (hk _ _ _ _ (R_more hr.2.2 (show t ≤ t + 1440 by omega) ht))
theorem J2097_ok {Ls t : Nat} {xs : Nat → Int32} {kb : KB} {x5 : Int32} {μ ν : Mm} {o : Nat → Int64} {dd : Nat → UInt64} (hx : HX Ls x5) (hk : HK kb x5 (t + 1440)) (ht : t + 1440 ≤ 800000) (h : R t μ ν) : f_L_law_s_J2097 Ls xs kb x5 μ ν o dd = some () := by
  unfold f_L_law_s_J2097
  obtain ⟨c, o2, w, ν2, e1, e2, hr⟩ := op_reasonValue (xs (x5 + 1).toNatClampNeg) (xs (x5 + 2).toNatClampNeg) (xs (x5 + 3).toNatClampNeg) o h
  rw [hx.1, hx.2.1, hx.2.2.1, e1, Option.bind_some, hx.1, hx.2.1, hx.2.2.1, e2, Option.bind_some]
  exact tail_ok hr (hk _ _ _ _ (R_more hr.2.2 (show t ≤ t + 1440 by omega) ht))
theorem J2177_ok {Ls t : Nat} {xs : Nat → Int32} {kb : KB} {x5 : Int32} {μ ν : Mm} {o : Nat → Int64} {dd : Nat → UInt64} (hx : HX Ls x5) (hk : HK kb x5 (t + 1440)) (ht : t + 1440 ≤ 800000) (h : R t μ ν) : f_L_law_s_J2177 Ls xs kb x5 μ ν o dd = some () := by
  unfold f_L_law_s_J2177
  obtain ⟨c, o2, w, ν2, e1, e2, _, hr⟩ := op_nextAlert  o h
  rw [e1, Option.bind_some, e2, Option.bind_some]
  exact tail_ok hr (hk _ _ _ _ (R_more hr.2.2 (show t ≤ t + 1440 by omega) ht))
theorem J2221_ok {Ls t : Nat} {xs : Nat → Int32} {kb : KB} {x5 : Int32} {μ ν : Mm} {o : Nat → Int64} {dd : Nat → UInt64} (hx : HX Ls x5) (hk : HK kb x5 (t + 1440)) (ht : t + 1440 ≤ 800000) (h : R t μ ν) : f_L_law_s_J2221 Ls xs kb x5 μ ν o dd = some () := by
  unfold f_L_law_s_J2221
  obtain ⟨c, o2, w, ν2, e1, e2, hr⟩ := op_alertAt (xs (x5 + 1).toNatClampNeg) o h
  rw [hx.1, e1, Option.bind_some, hx.1, e2, Option.bind_some]
  exact tail_ok hr (hk _ _ _ _ (R_more hr.2.2 (show t ≤ t + 1440 by omega) ht))
theorem J2374_ok {Ls t : Nat} {xs : Nat → Int32} {kb : KB} {x5 : Int32} {μ ν : Mm} {o : Nat → Int64} {dd : Nat → UInt64} (hx : HX Ls x5) (hk : HK kb x5 (t + 1440)) (ht : t + 1440 ≤ 800000) (h : R t μ ν) : f_L_law_s_J2374 Ls xs kb x5 μ ν o dd = some () := by
  unfold f_L_law_s_J2374
  obtain ⟨c, o2, w, ν2, e1, e2, hr⟩ := op_alertOf (xs (x5 + 1).toNatClampNeg) o h
  rw [hx.1, e1, Option.bind_some, hx.1, e2, Option.bind_some]
  exact tail_ok hr (hk _ _ _ _ (R_more hr.2.2 (show t ≤ t + 1440 by omega) ht))
theorem J2430_ok {Ls t : Nat} {xs : Nat → Int32} {kb : KB} {x5 : Int32} {μ ν : Mm} {o : Nat → Int64} {dd : Nat → UInt64} (hx : HX Ls x5) (hk : HK kb x5 (t + 1440)) (ht : t + 1440 ≤ 800000) (h : R t μ ν) : f_L_law_s_J2430 Ls xs kb x5 μ ν o dd = some () := by
  unfold f_L_law_s_J2430
  obtain ⟨c, μ2, o2, w, ν2, e1, e2, hr⟩ := op_ring (xs (x5 + 1).toNatClampNeg) (xs (x5 + 2).toNatClampNeg) o h
  rw [hx.1, hx.2.1, e1, Option.bind_some, hx.1, hx.2.1, e2, Option.bind_some]
  exact tail_ok hr (hk _ _ _ _ (R_more hr.2.2 (show t ≤ t + 1440 by omega) ht))
theorem J2498_ok {Ls t : Nat} {xs : Nat → Int32} {kb : KB} {x5 : Int32} {μ ν : Mm} {o : Nat → Int64} {dd : Nat → UInt64} (hx : HX Ls x5) (hk : HK kb x5 (t + 1440)) (ht : t + 1440 ≤ 800000) (h : R t μ ν) : f_L_law_s_J2498 Ls xs kb x5 μ ν o dd = some () := by
  unfold f_L_law_s_J2498
  obtain ⟨c, μ2, o2, w, ν2, e1, e2, hr⟩ := op_ringByTrying (xs (x5 + 1).toNatClampNeg) (xs (x5 + 2).toNatClampNeg) o h
  rw [hx.1, hx.2.1, e1, Option.bind_some, hx.1, hx.2.1, e2, Option.bind_some]
  exact tail_ok hr (hk _ _ _ _ (R_more hr.2.2 (show t ≤ t + 1440 by omega) ht))
theorem J2566_ok {Ls t : Nat} {xs : Nat → Int32} {kb : KB} {x5 : Int32} {μ ν : Mm} {o : Nat → Int64} {dd : Nat → UInt64} (hx : HX Ls x5) (hk : HK kb x5 (t + 1440)) (ht : t + 1440 ≤ 800000) (h : R t μ ν) : f_L_law_s_J2566 Ls xs kb x5 μ ν o dd = some () := by
  unfold f_L_law_s_J2566
  obtain ⟨c, μ2, o2, w, ν2, e1, e2, hr⟩ := op_group (xs (x5 + 1).toNatClampNeg) (xs (x5 + 2).toNatClampNeg) o h
  rw [hx.1, hx.2.1, e1, Option.bind_some, hx.1, hx.2.1, e2, Option.bind_some]
  exact tail_ok hr (hk _ _ _ _ (R_more hr.2.2 (show t ≤ t + 1440 by omega) ht))
theorem J2634_ok {Ls t : Nat} {xs : Nat → Int32} {kb : KB} {x5 : Int32} {μ ν : Mm} {o : Nat → Int64} {dd : Nat → UInt64} (hx : HX Ls x5) (hk : HK kb x5 (t + 1440)) (ht : t + 1440 ≤ 800000) (h : R t μ ν) : f_L_law_s_J2634 Ls xs kb x5 μ ν o dd = some () := by
  unfold f_L_law_s_J2634
  obtain ⟨c, o2, w, ν2, e1, e2, hr⟩ := op_caught (xs (x5 + 1).toNatClampNeg) o h
  rw [hx.1, e1, Option.bind_some, hx.1, e2, Option.bind_some]
  exact tail_ok hr (hk _ _ _ _ (R_more hr.2.2 (show t ≤ t + 1440 by omega) ht))
theorem J2690_ok {Ls t : Nat} {xs : Nat → Int32} {kb : KB} {x5 : Int32} {μ ν : Mm} {o : Nat → Int64} {dd : Nat → UInt64} (hx : HX Ls x5) (hk : HK kb x5 (t + 1440)) (ht : t + 1440 ≤ 800000) (h : R t μ ν) : f_L_law_s_J2690 Ls xs kb x5 μ ν o dd = some () := by
  unfold f_L_law_s_J2690
  obtain ⟨c, o2, w, ν2, e1, e2, hr⟩ := op_bestThreshold (xs (x5 + 1).toNatClampNeg) o h
  rw [hx.1, e1, Option.bind_some, hx.1, e2, Option.bind_some]
  exact tail_ok hr (hk _ _ _ _ (R_more hr.2.2 (show t ≤ t + 1440 by omega) ht))
theorem J2746_ok {Ls t : Nat} {xs : Nat → Int32} {kb : KB} {x5 : Int32} {μ ν : Mm} {o : Nat → Int64} {dd : Nat → UInt64} (hx : HX Ls x5) (hk : HK kb x5 (t + 1440)) (ht : t + 1440 ≤ 800000) (h : R t μ ν) : f_L_law_s_J2746 Ls xs kb x5 μ ν o dd = some () := by
  unfold f_L_law_s_J2746
  obtain ⟨c, o2, w, ν2, e1, e2, hr⟩ := op_bestThresholdByTrying (xs (x5 + 1).toNatClampNeg) o h
  rw [hx.1, e1, Option.bind_some, hx.1, e2, Option.bind_some]
  exact tail_ok hr (hk _ _ _ _ (R_more hr.2.2 (show t ≤ t + 1440 by omega) ht))
theorem J603_ok {Ls t : Nat} {xs : Nat → Int32} {kb : KB} {x5 : Int32} {μ ν : Mm} {o : Nat → Int64} {dd : Nat → UInt64} (hx : HX Ls x5) (hk : HK kb x5 (t + 1440)) (ht : t + 1440 ≤ 800000) (h : R t μ ν) : f_L_law_s_J603 Ls xs kb x5 μ ν o dd = some () := by
  unfold f_L_law_s_J603
  obtain ⟨w, ν2, e1, e2, hr⟩ := op_accounts h
  rw [e1, Option.bind_some, e2, Option.bind_some, if_pos rfl]
  exact hk _ _ _ _ (R_more hr (show t ≤ t + 1440 by omega) ht)
theorem J672_ok {Ls t : Nat} {xs : Nat → Int32} {kb : KB} {x5 : Int32} {μ ν : Mm} {o : Nat → Int64} {dd : Nat → UInt64} (hx : HX Ls x5) (hk : HK kb x5 (t + 1440)) (ht : t + 1440 ≤ 800000) (h : R t μ ν) : f_L_law_s_J672 Ls xs kb x5 μ ν o dd = some () := by
  unfold f_L_law_s_J672
  obtain ⟨w, ν2, e1, e2, hr⟩ := op_time h
  rw [e1, Option.bind_some, e2, Option.bind_some, if_pos rfl]
  exact hk _ _ _ _ (R_more hr (show t ≤ t + 1440 by omega) ht)
theorem J765_ok {Ls t : Nat} {xs : Nat → Int32} {kb : KB} {x5 : Int32} {μ ν : Mm} {o : Nat → Int64} {dd : Nat → UInt64} (hx : HX Ls x5) (hk : HK kb x5 (t + 1440)) (ht : t + 1440 ≤ 800000) (h : R t μ ν) : f_L_law_s_J765 Ls xs kb x5 μ ν o dd = some () := by
  unfold f_L_law_s_J765
  obtain ⟨w, ν2, e1, e2, hr⟩ := op_payments h
  rw [e1, Option.bind_some, e2, Option.bind_some, if_pos rfl]
  exact hk _ _ _ _ (R_more hr (show t ≤ t + 1440 by omega) ht)
theorem J970_ok {Ls t : Nat} {xs : Nat → Int32} {kb : KB} {x5 : Int32} {μ ν : Mm} {o : Nat → Int64} {dd : Nat → UInt64} (hx : HX Ls x5) (hk : HK kb x5 (t + 1440)) (ht : t + 1440 ≤ 800000) (h : R t μ ν) : f_L_law_s_J970 Ls xs kb x5 μ ν o dd = some () := by
  unfold f_L_law_s_J970
  obtain ⟨w, ν2, e1, e2, hr⟩ := op_kept h
  rw [e1, Option.bind_some, e2, Option.bind_some, if_pos rfl]
  exact hk _ _ _ _ (R_more hr (show t ≤ t + 1440 by omega) ht)
theorem J2277_ok {Ls t : Nat} {xs : Nat → Int32} {kb : KB} {x5 : Int32} {μ ν : Mm} {o : Nat → Int64} {dd : Nat → UInt64} (hx : HX Ls x5) (hk : HK kb x5 (t + 1440)) (ht : t + 1440 ≤ 800000) (h : R t μ ν) : f_L_law_s_J2277 Ls xs kb x5 μ ν o dd = some () := by
  unfold f_L_law_s_J2277
  obtain ⟨w, ν2, e1, e2, hr⟩ := op_openAlerts h
  rw [e1, Option.bind_some, e2, Option.bind_some, if_pos rfl]
  exact hk _ _ _ _ (R_more hr (show t ≤ t + 1440 by omega) ht)
theorem J2959_ok {Ls t : Nat} {xs : Nat → Int32} {kb : KB} {x5 : Int32} {μ ν : Mm} {o : Nat → Int64} {dd : Nat → UInt64} (hx : HX Ls x5) (hk : HK kb x5 (t + 1440)) (ht : t + 1440 ≤ 800000) (h : R t μ ν) : f_L_law_s_J2959 Ls xs kb x5 μ ν o dd = some () := by
  unfold f_L_law_s_J2959
  obtain ⟨w, ν2, e1, e2, hr⟩ := op_isSound h
  rw [e1, Option.bind_some, e2, Option.bind_some, if_pos rfl]
  exact hk _ _ _ _ (R_more hr (show t ≤ t + 1440 by omega) ht)
theorem J2945_ok {Ls t : Nat} {xs : Nat → Int32} {kb : KB} {x5 : Int32} {μ ν : Mm} {o : Nat → Int64} {dd : Nat → UInt64} (hx : HX Ls x5) (hk : HK kb x5 (t + 1440)) (ht : t + 1440 ≤ 800000) (h : R t μ ν) : f_L_law_s_J2945 Ls xs kb x5 μ ν o dd = some () := by
  unfold f_L_law_s_J2945
  obtain ⟨w, ν2, e1, e2, hr⟩ := op_turnover h
  rw [e1, Option.bind_some, e2, Option.bind_some, cmp_self, if_pos rfl]
  exact hk _ _ _ _ (R_more hr (show t ≤ t + 1440 by omega) ht)
theorem J302_ok {Ls t : Nat} {xs : Nat → Int32} {kb : KB} {x5 : Int32} {μ ν : Mm} {o : Nat → Int64} {dd : Nat → UInt64} (hx : HX Ls x5) (hk : HK kb x5 (t + 1440)) (ht : t + 1440 ≤ 800000) (h : R t μ ν) : f_L_law_s_J302 Ls xs kb x5 μ ν o dd = some () := by
  have key : ∀ v, v = (if (xs (x5 + 2).toNatClampNeg : Int32) = 0 then (0 : Int32) else 1) → f_L_law_s_J323 Ls xs kb x5 v (xs (x5 + 1).toNatClampNeg) μ ν o dd = some () := by
    intro v hv
    obtain ⟨c, μ2, o2, w, ν2, e1, e2, hw, hr⟩ := op_setMarked (xs (x5 + 1).toNatClampNeg) v o h
    unfold f_L_law_s_J323 f_L_law_s_J350
    rw [e1, Option.bind_some, hx.1, hx.2.1]
    have K := tail_okb hr hw (hk μ2 ν2 o2 dd (R_more hr.2.2 (show t ≤ t + 1440 by omega) ht))
    by_cases h0 : (xs (x5 + 2).toNatClampNeg : Int32) = 0
    · rw [if_pos h0] at hv ⊢
      subst hv; rw [e2, Option.bind_some]
      exact K
    · rw [if_neg h0] at hv ⊢
      subst hv; rw [e2, Option.bind_some]
      exact K
  unfold f_L_law_s_J302
  rw [hx.1, hx.2.1]
  by_cases h0 : (xs (x5 + 2).toNatClampNeg : Int32) = 0
  · rw [if_pos h0]; exact key 0 (by rw [if_pos h0])
  · rw [if_neg h0]; exact key 1 (by rw [if_neg h0])
theorem J393_ok {Ls t : Nat} {xs : Nat → Int32} {kb : KB} {x5 : Int32} {μ ν : Mm} {o : Nat → Int64} {dd : Nat → UInt64} (hx : HX Ls x5) (hk : HK kb x5 (t + 1440)) (ht : t + 1440 ≤ 800000) (h : R t μ ν) : f_L_law_s_J393 Ls xs kb x5 μ ν o dd = some () := by
  have key : ∀ v, v = (if (xs (x5 + 2).toNatClampNeg : Int32) = 0 then (0 : Int32) else 1) → f_L_law_s_J414 Ls xs kb x5 v (xs (x5 + 1).toNatClampNeg) μ ν o dd = some () := by
    intro v hv
    obtain ⟨c, μ2, o2, w, ν2, e1, e2, hw, hr⟩ := op_setBlocked (xs (x5 + 1).toNatClampNeg) v o h
    unfold f_L_law_s_J414 f_L_law_s_J441
    rw [e1, Option.bind_some, hx.1, hx.2.1]
    have K := tail_okb hr hw (hk μ2 ν2 o2 dd (R_more hr.2.2 (show t ≤ t + 1440 by omega) ht))
    by_cases h0 : (xs (x5 + 2).toNatClampNeg : Int32) = 0
    · rw [if_pos h0] at hv ⊢
      subst hv; rw [e2, Option.bind_some]
      exact K
    · rw [if_neg h0] at hv ⊢
      subst hv; rw [e2, Option.bind_some]
      exact K
  unfold f_L_law_s_J393
  rw [hx.1, hx.2.1]
  by_cases h0 : (xs (x5 + 2).toNatClampNeg : Int32) = 0
  · rw [if_pos h0]; exact key 0 (by rw [if_pos h0])
  · rw [if_neg h0]; exact key 1 (by rw [if_neg h0])
theorem J1566_ok {Ls t : Nat} {xs : Nat → Int32} {kb : KB} {x5 : Int32} {μ ν : Mm} {o : Nat → Int64} {dd : Nat → UInt64} (hx : HX Ls x5) (hk : HK kb x5 (t + 1440)) (ht : t + 1440 ≤ 800000) (h : R t μ ν) : f_L_law_s_J1566 Ls xs kb x5 μ ν o dd = some () := by
  have key : ∀ v, v = (if (xs (x5 + 2).toNatClampNeg : Int32) = 0 then (0 : Int32) else 1) → f_L_law_s_J1587 Ls xs kb x5 v (xs (x5 + 1).toNatClampNeg) μ ν o dd = some () := by
    intro v hv
    obtain ⟨c, μ2, o2, w, ν2, e1, e2, hw, hr⟩ := op_setRule (xs (x5 + 1).toNatClampNeg) v o h
    unfold f_L_law_s_J1587 f_L_law_s_J1614
    rw [e1, Option.bind_some, hx.1, hx.2.1]
    have K := tail_okb hr hw (hk μ2 ν2 o2 dd (R_more hr.2.2 (show t ≤ t + 1440 by omega) ht))
    by_cases h0 : (xs (x5 + 2).toNatClampNeg : Int32) = 0
    · rw [if_pos h0] at hv ⊢
      subst hv; rw [e2, Option.bind_some]
      exact K
    · rw [if_neg h0] at hv ⊢
      subst hv; rw [e2, Option.bind_some]
      exact K
  unfold f_L_law_s_J1566
  rw [hx.1, hx.2.1]
  by_cases h0 : (xs (x5 + 2).toNatClampNeg : Int32) = 0
  · rw [if_pos h0]; exact key 0 (by rw [if_pos h0])
  · rw [if_neg h0]; exact key 1 (by rw [if_neg h0])
theorem J2290_ok {Ls t : Nat} {xs : Nat → Int32} {kb : KB} {x5 : Int32} {μ ν : Mm} {o : Nat → Int64} {dd : Nat → UInt64} (hx : HX Ls x5) (hk : HK kb x5 (t + 1440)) (ht : t + 1440 ≤ 800000) (h : R t μ ν) : f_L_law_s_J2290 Ls xs kb x5 μ ν o dd = some () := by
  have key : ∀ v, v = (if (xs (x5 + 2).toNatClampNeg : Int32) = 0 then (0 : Int32) else 1) → f_L_law_s_J2311 Ls xs kb x5 v (xs (x5 + 1).toNatClampNeg) μ ν o dd = some () := by
    intro v hv
    obtain ⟨c, μ2, o2, w, ν2, e1, e2, hr⟩ := op_decide (xs (x5 + 1).toNatClampNeg) v o h
    unfold f_L_law_s_J2311 f_L_law_s_J2338
    rw [e1, Option.bind_some, hx.1, hx.2.1]
    have K := tail_ok hr (hk μ2 ν2 o2 dd (R_more hr.2.2 (show t ≤ t + 1440 by omega) ht))
    by_cases h0 : (xs (x5 + 2).toNatClampNeg : Int32) = 0
    · rw [if_pos h0] at hv ⊢
      subst hv; rw [e2, Option.bind_some]
      exact K
    · rw [if_neg h0] at hv ⊢
      subst hv; rw [e2, Option.bind_some]
      exact K
  unfold f_L_law_s_J2290
  rw [hx.1, hx.2.1]
  by_cases h0 : (xs (x5 + 2).toNatClampNeg : Int32) = 0
  · rw [if_pos h0]; exact key 0 (by rw [if_pos h0])
  · rw [if_neg h0]; exact key 1 (by rw [if_neg h0])
theorem J1065_ok {Ls t : Nat} {xs : Nat → Int32} {kb : KB} {x5 : Int32} {μ ν : Mm} {o : Nat → Int64} {dd : Nat → UInt64} (hx : HX Ls x5) (hk : HK kb x5 (t + 1440)) (ht : t + 1440 ≤ 800000) (h : R t μ ν) : f_L_law_s_J1065 Ls xs kb x5 μ ν o dd = some () := by
  have key : ∀ v, v = (if (xs (x5 + 3).toNatClampNeg : Int32) = 0 then (0 : Int32) else 1) → f_L_law_s_J1093 Ls xs kb x5 v (xs (x5 + 2).toNatClampNeg) (((xs (x5 + 1).toNatClampNeg) : Int32).toUInt32 % 65536).toInt32 μ ν o dd = some () := by
    intro v hv
    obtain ⟨c, μ2, o2, w, ν2, e1, e2, hr⟩ := op_addTest (((xs (x5 + 1).toNatClampNeg) : Int32).toUInt32 % 65536).toInt32 (xs (x5 + 2).toNatClampNeg) v (xs (x5 + 4).toNatClampNeg) (char_of _) o h
    unfold f_L_law_s_J1093 f_L_law_s_J1133
    rw [hx.2.2.2, e1, Option.bind_some, hx.1, hx.2.1, hx.2.2.1]
    have K := tail_ok hr (hk μ2 ν2 o2 dd (R_more hr.2.2 (show t ≤ t + 1440 by omega) ht))
    by_cases h0 : (xs (x5 + 3).toNatClampNeg : Int32) = 0
    · rw [if_pos h0] at hv ⊢
      subst hv; rw [hx.2.2.2, e2, Option.bind_some]
      exact K
    · rw [if_neg h0] at hv ⊢
      subst hv; rw [hx.2.2.2, e2, Option.bind_some]
      exact K
  unfold f_L_law_s_J1065
  rw [hx.1, hx.2.1, hx.2.2.1]
  by_cases h0 : (xs (x5 + 3).toNatClampNeg : Int32) = 0
  · rw [if_pos h0]; exact key 0 (by rw [if_pos h0])
  · rw [if_neg h0]; exact key 1 (by rw [if_neg h0])
theorem J2880_ok {Ls t : Nat} {xs : Nat → Int32} {kb : KB} {x5 : Int32} {μ ν : Mm} {o : Nat → Int64} {dd : Nat → UInt64} (hx : HX Ls x5) (hk : HK kb x5 (t + 1440)) (ht : t + 1440 ≤ 800000) (h : R t μ ν) : f_L_law_s_J2880 Ls xs kb x5 μ ν o dd = some () := by
  unfold f_L_law_s_J2880
  obtain ⟨c, d2, w, ν2, e1, e2, h1, h2, hr⟩ := op_meanScore dd h
  have hK := hk μ ν2 o d2 (R_more hr (show t ≤ t + 1440 by omega) ht)
  rw [e1, Option.bind_some, e2, Option.bind_some]
  unfold f_X8_thrown
  rw [Option.bind_some, if_pos h1]
  by_cases hc : c = 0
  · rw [if_pos hc, chk0]
    obtain ⟨h3, h4⟩ := h2 hc
    show (if Op.cmpValue (FP.dcmp (d2 (0 : Int32).toNatClampNeg) w) .l = 0 then kb (x5 + 5) μ ν2 o d2 else _) = some ()
    rw [show d2 (0 : Int32).toNatClampNeg = w from h3, if_pos h4]
    exact hK
  · rw [if_neg hc]; exact hK
theorem J2802_ok {Ls t : Nat} {xs : Nat → Int32} {kb : KB} {x5 : Int32} {μ ν : Mm} {o : Nat → Int64} {dd : Nat → UInt64} (hx : HX Ls x5) (hk : HK kb x5 (t + 1440)) (ht : t + 1440 ≤ 800000) (h : R t μ ν) : f_L_law_s_J2802 Ls xs kb x5 μ ν o dd = some () := by
  unfold f_L_law_s_J2802
  obtain ⟨c, d2, w, ν2, e1, e2, h1, h2, hr⟩ := op_precision (xs (x5 + 1).toNatClampNeg) dd h
  have hK := hk μ ν2 o d2 (R_more hr (show t ≤ t + 1440 by omega) ht)
  rw [hx.1, e1, Option.bind_some, hx.1, e2, Option.bind_some]
  unfold f_X8_thrown
  rw [Option.bind_some, if_pos h1]
  by_cases hc : c = 0
  · rw [if_pos hc, chk0]
    obtain ⟨h3, h4, h5⟩ := h2 hc
    rw [gx64_ok h3]
    show (if Op.cmpValue (FP.dcmp (d2 (0 : Int32).toNatClampNeg) (FP.f2d w)) .l = 0 then kb (x5 + 5) μ ν2 o d2 else _) = some ()
    rw [show d2 (0 : Int32).toNatClampNeg = FP.f2d w from h4, if_pos h5]
    exact hK
  · rw [if_neg hc]; exact hK
theorem ite_ok {c : Prop} [Decidable c] {x y : Option Unit} (hx : x = some ()) (hy : y = some ()) : (if c then x else y) = some () := by
  by_cases h : c
  · rw [if_pos h]; exact hx
  · rw [if_neg h]; exact hy
theorem round_ok {Ls t r : Nat} {xs : Nat → Int32} {kb : KB} {μ ν : Mm} {o : Nat → Int64} {dd : Nat → UInt64} (hL : Ls ≤ 2560) (hr : 5 * r ≤ Ls) (hk : HK kb (nI (5 * r)) (t + 1440)) (ht : t + 1440 ≤ 800000) (h : R t μ ν) : f_L_round Ls xs kb (nI (5 * r)) μ ν o dd = some () := by
  unfold f_L_round
  by_cases h5 : (nI Ls) - 5 < nI (5 * r)
  · rw [if_pos h5]
  rw [if_neg h5]
  rw [lt_I, show (nI Ls - 5).toInt = (Ls : Int) - 5 from subI (a := Ls) (b := 5) (by omega) (by omega), w_int (by omega)] at h5
  have hx : HX Ls (nI (5 * r)) := ⟨fun α k => by rw [show (1 : Int32) = nI 1 from rfl, w_add]; exact chk_nI (by omega) (by omega), fun α k => by rw [show (2 : Int32) = nI 2 from rfl, w_add]; exact chk_nI (by omega) (by omega), fun α k => by rw [show (3 : Int32) = nI 3 from rfl, w_add]; exact chk_nI (by omega) (by omega), fun α k => by rw [show (4 : Int32) = nI 4 from rfl, w_add]; exact chk_nI (by omega) (by omega)⟩
  rw [chk_nI (show 5 * r < Ls by omega) (by omega)]
  refine ite_ok (J244_ok hx hk ht h) ?_
  refine ite_ok (J302_ok hx hk ht h) ?_
  refine ite_ok (J393_ok hx hk ht h) ?_
  refine ite_ok (J484_ok hx hk ht h) ?_
  refine ite_ok (J547_ok hx hk ht h) ?_
  refine ite_ok (J603_ok hx hk ht h) ?_
  refine ite_ok (J616_ok hx hk ht h) ?_
  refine ite_ok (J672_ok hx hk ht h) ?_
  refine ite_ok (J685_ok hx hk ht h) ?_
  refine ite_ok (J765_ok hx hk ht h) ?_
  refine ite_ok (J778_ok hx hk ht h) ?_
  refine ite_ok (J834_ok hx hk ht h) ?_
  refine ite_ok (J902_ok hx hk ht h) ?_
  refine ite_ok (J970_ok hx hk ht h) ?_
  refine ite_ok (J983_ok hx hk ht h) ?_
  refine ite_ok (J1065_ok hx hk ht h) ?_
  refine ite_ok (J1175_ok hx hk ht h) ?_
  refine ite_ok (J1243_ok hx hk ht h) ?_
  refine ite_ok (J1311_ok hx hk ht h) ?_
  refine ite_ok (J1367_ok hx hk ht h) ?_
  refine ite_ok (J1442_ok hx hk ht h) ?_
  refine ite_ok (J1498_ok hx hk ht h) ?_
  refine ite_ok (J1566_ok hx hk ht h) ?_
  refine ite_ok (J1657_ok hx hk ht h) ?_
  refine ite_ok (J1713_ok hx hk ht h) ?_
  refine ite_ok (J1769_ok hx hk ht h) ?_
  refine ite_ok (J1825_ok hx hk ht h) ?_
  refine ite_ok (J1881_ok hx hk ht h) ?_
  refine ite_ok (J1949_ok hx hk ht h) ?_
  refine ite_ok (J2017_ok hx hk ht h) ?_
  refine ite_ok (J2097_ok hx hk ht h) ?_
  refine ite_ok (J2177_ok hx hk ht h) ?_
  refine ite_ok (J2221_ok hx hk ht h) ?_
  refine ite_ok (J2277_ok hx hk ht h) ?_
  refine ite_ok (J2290_ok hx hk ht h) ?_
  refine ite_ok (J2374_ok hx hk ht h) ?_
  refine ite_ok (J2430_ok hx hk ht h) ?_
  refine ite_ok (J2498_ok hx hk ht h) ?_
  refine ite_ok (J2566_ok hx hk ht h) ?_
  refine ite_ok (J2634_ok hx hk ht h) ?_
  refine ite_ok (J2690_ok hx hk ht h) ?_
  refine ite_ok (J2746_ok hx hk ht h) ?_
  refine ite_ok (J2802_ok hx hk ht h) ?_
  refine ite_ok (J2880_ok hx hk ht h) ?_
  refine ite_ok (J2945_ok hx hk ht h) ?_
  refine ite_ok (J2959_ok hx hk ht h) ?_
  exact hk _ _ _ _ (R_more h (by omega) ht)
theorem loop_ok {Ls : Nat} {xs : Nat → Int32} (hL : Ls ≤ 2560) : ∀ (n r : Nat) (μ ν : Mm) (o : Nat → Int64) (dd : Nat → UInt64), 5 * r ≤ Ls → r + n = 520 → R (1440 * r) μ ν → f_L_loop Ls xs n (nI (5 * r)) μ ν o dd = some ()
  | 0, r, _, _, _, _, h1, h2, _ => by omega
  | n + 1, r, μ, ν, o, dd, h1, h2, h => by
    show f_L_round Ls xs (f_L_loop Ls xs n) (nI (5 * r)) μ ν o dd = some ()
    by_cases h3 : 5 * (r + 1) ≤ Ls
    · refine round_ok hL h1 ?_ (by omega) h
      intro μ2 ν2 o2 d2 hR
      rw [show (5 : Int32) = nI 5 from rfl, w_add]
      exact loop_ok hL n (r + 1) μ2 ν2 o2 d2 h3 (by omega) (by rw [Nat.mul_add, Nat.mul_one]; exact hR)
    · unfold f_L_round
      rw [if_pos]
      rw [lt_I, show (nI Ls - 5).toInt = (Ls : Int) - 5 from subI (a := Ls) (b := 5) (by omega) (by omega), w_int (by omega)]
      omega
theorem pure_run (L : Nat) (xs : Nat → Int32) (hL : L ≤ 2560) : f_L_loop L xs 520 0 mu0 nu0 (fun _ => 0) (fun _ => 0) = some () :=
  loop_ok hL 520 0 mu0 nu0 _ _ (by omega) (by omega) R_start
