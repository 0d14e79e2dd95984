theorem va_D_fst {A : Nat → Prop} {ws ws' : va_W} (h : ws.map Prod.fst = ws'.map Prod.fst) (hD : va_D A ws) : va_D A ws' := by
  have key : ∀ (k : Nat) (q : Nat × va_E), ws'[k]? = some q → ∃ q', ws[k]? = some q' ∧ q'.1 = q.1 := by
    intro k q hk
    have h1 : (ws.map Prod.fst)[k]? = some q.1 := by rw [h, List.getElem?_map, hk]; rfl
    rw [List.getElem?_map] at h1
    cases h2 : ws[k]? with
    | none => rw [h2] at h1; cases h1
    | some q' => rw [h2] at h1; exact ⟨q', rfl, Option.some.inj h1⟩
  refine ⟨fun i j p q hi hj hpq => ?_, fun k q hk => ?_⟩
  · obtain ⟨p', h1, h2⟩ := key i p hi
    obtain ⟨q', h3, h4⟩ := key j q hj
    exact hD.1 i j p' q' h1 h3 (by rw [h2, h4, hpq])
  · obtain ⟨q', h1, h2⟩ := key k q hk
    rw [← h2]
    exact hD.2 k q' h1
theorem Wd_fst (g : Gt) (S S' : Sg) : (Wd g S).map Prod.fst = (Wd g S').map Prod.fst := by
  simp [Wd, Wof, Wout, List.map_append, List.map_map, Function.comp_def]
theorem st_mono {p : Program} {l : Launch} {e : Env} {R : Room} {s : State} {m : MethodId} {args : Array Value} {below : List Frame} {meth : Method} {c : Code} {H : Heap} {locs : List Loc} {cells slots : Nat} {Q Q' : State → Prop} {g : JFrame} (h : ∀ t, Q t → Q' t) (k : W p l e R s m args below meth c H locs cells slots Q g) : W p l e R s m args below meth c H locs cells slots Q' g := by
  intro T hT X
  obtain ⟨t, a, b⟩ := k T hT X
  exact ⟨t, a, h t b⟩
def Qst (s0 : State) (b : Nat) : Fz := fun below args s t => (s = s0 ∧ args = #[.ref b]) → lw_Z below #[.ref b] s t
/-- what the Statement's premises give of the start, in the kit's words -/
theorem st_texts {b : Nat} {s : State} (hts : ∀ w ∈ lw_tbl, w.before #[Value.ref b] s = true) (hgv : (Jvm.Cond.and given_1 narrow_1).before #[Value.ref b] s = true) : ∀ q ∈ texts, ∃ sa, vk_R q.1 q.2.1 q.2.2 sa s := by
  intro q hq
  have h1 : Cond.stringRef q.1 q.2.1 q.2.2 ∈ tables_1 := by revert q; decide +kernel
  have h2 : Cond.exactly (.string q.1 q.2.1) "java/lang/String" ∈ flatC (Jvm.Cond.and given_1 narrow_1) := by revert q; decide +kernel
  have h3 := flat_of_before _ hgv _ h2
  obtain ⟨a, c, cell, k, ht, -⟩ := Cond.exactly_spec h3
  exact ⟨a, vk_R.of (A := #[Value.ref b]) (hts _ (List.mem_append_right _ h1)) ht⟩
theorem st_ncl {b : Nat} {s : State} (hgv : (Jvm.Cond.and given_1 narrow_1).before #[Value.ref b] s = true) : ∀ q ∈ ncl, va_Nc q.1 q.2 s := by
  intro q hq
  have h2 : Cond.not (.castable q.1 q.2) ∈ flatC (Jvm.Cond.and given_1 narrow_1) := by revert q; decide +kernel
  exact va_Nc.of (flat_of_before _ hgv _ h2)
theorem st_nwb {b : Nat} {s : State} (hts : ∀ w ∈ lw_tbl, w.before #[Value.ref b] s = true) : ∀ w ∈ lw_tbl, nwb w = true → va_Nw w s := by
  intro w hw hn
  have h := hts w hw
  cases w <;> first | (simp [nwb] at hn; done) | exact va_Nw.of rfl h
theorem st_arr {s : State} {args : Array Value} {ty : FieldType} (hp : ∀ C, ty ≠ .object C) (h : (Cond.arrayClass ty).before args s = true) : ∃ cA, ArrOfT s cA ty ∧ va_RA s cA ty := by
  obtain ⟨cA, kA, comp, h1, h2, h3⟩ := Cond.arrayClass_spec h
  refine ⟨cA, fun n z => ⟨fun k h => (by cases h), kA, h2, comp, h3⟩, ?_⟩
  cases ty with
  | object C => exact absurd rfl (hp C)
  | _ => exact h1
set_option maxRecDepth 100000 in
set_option maxHeartbeats 4000000 in
theorem st_feat {b : Nat} {s : State} (hts : ∀ w ∈ lw_tbl, w.before #[Value.ref b] s = true) (hgv : (Jvm.Cond.and given_1 narrow_1).before #[Value.ref b] s = true) :
    ∃ t, va_Z "FraudSieve$Bank" "FEATURES" "[C" (.ref t) (fun q => s.heap.size ≤ q) s s.heap ∧ va_T .char t 13 featV (fun q => s.heap.size ≤ q) s s.heap := by
  have hs := flat_of_before _ hgv
  have h1 : (Cond.arrayOf (.static "FraudSieve$Bank" "FEATURES" "[C") .char).before #[Value.ref b] s = true := hs _ (by decide +kernel)
  have h2 : (Cond.eq (.length (.static "FraudSieve$Bank" "FEATURES" "[C")) (.int 13)).before #[Value.ref b] s = true := hs _ (by decide +kernel)
  have h3 : ∀ j : Nat, j < 13 → (Cond.eq (.elem (.static "FraudSieve$Bank" "FEATURES" "[C") (.int (Int32.ofNat j))) (.int (featL.getD j 0))) ∈ flatC (Jvm.Cond.and given_1 narrow_1) := by decide +kernel
  have hA : ∀ a : Nat, a < s.heap.size → ¬ (fun q => s.heap.size ≤ q) a := fun a h h' => Nat.not_le.mpr h h'
  obtain ⟨t, ht, hT⟩ := va_Tof (N := 13) (f := featV) (A := fun q => s.heap.size ≤ q) (by decide) h1 (va_eqt h2) (fun j hj => va_eqt (hs _ (h3 j hj))) hA
  exact ⟨t, va_Zof (hts (.laysStatic "FraudSieve$Bank" "FEATURES" "[C") (by exact List.mem_of_getElem? (i := 725) (by decide +kernel))) (hts (.initialized "FraudSieve$Bank") (big_tbl ki_X1)) ht hA, hT⟩
theorem st_K {b : Nat} {s : State} (hts : ∀ w ∈ lw_tbl, w.before #[Value.ref b] s = true) : ∃ (D : va_G) (dA : Nat → ClassId), va_K D cls9 (tysA dA) s := by
  obtain ⟨c0, i0, K0⟩ := u_known (C := RX0) (T := TX0) (N := 5) (n := 5) hts (fun w hw => big_tbl (inb_X0 w hw)) (hts _ (big_tbl kz_X0))
  obtain ⟨c1, i1, K1⟩ := u_known (C := RX1) (T := TX1) (N := 5) (n := 5) hts (fun w hw => big_tbl (inb_X1 w hw)) (hts _ (big_tbl kz_X1))
  obtain ⟨c2, i2, K2⟩ := u_known (C := RX2) (T := TX2) (N := 6) (n := 6) hts (fun w hw => big_tbl (inb_X2 w hw)) (hts _ (big_tbl kz_X2))
  obtain ⟨c3, i3, K3⟩ := u_known (C := RX3) (T := TX3) (N := 13) (n := 13) hts (fun w hw => big_tbl (inb_X3 w hw)) (hts _ (big_tbl kz_X3))
  obtain ⟨c4, i4, K4⟩ := u_known (C := RX4) (T := TX4) (N := 5) (n := 5) hts (fun w hw => big_tbl (inb_X4 w hw)) (hts _ (big_tbl kz_X4))
  obtain ⟨c5, i5, K5⟩ := u_known (C := RX5) (T := TX5) (N := 2) (n := 2) hts (fun w hw => big_tbl (inb_X5 w hw)) (hts _ (big_tbl kz_X5))
  obtain ⟨c6, i6, K6⟩ := u_known (C := RX6) (T := TX6) (N := 4) (n := 4) hts (fun w hw => big_tbl (inb_X6 w hw)) (hts _ (big_tbl kz_X6))
  obtain ⟨c7, i7, K7⟩ := u_known (C := RX7) (T := TX7) (N := 5) (n := 5) hts (fun w hw => big_tbl (inb_X7 w hw)) (hts _ (big_tbl kz_X7))
  obtain ⟨c8, i8, K8⟩ := u_known (C := RX8) (T := TX8) (N := 33) (n := 33) hts (fun w hw => big_tbl (inb_X8 w hw)) (hts _ (big_tbl kz_X8))
  obtain ⟨d0, A0⟩ := st_arr (ty := .int) (fun _ h => nomatch h) (hts _ (big_tbl ka_int))
  obtain ⟨d1, A1⟩ := st_arr (ty := .char) (fun _ h => nomatch h) (hts _ (big_tbl ka_char))
  obtain ⟨d2, A2⟩ := st_arr (ty := .boolean) (fun _ h => nomatch h) (hts _ (big_tbl ka_boolean))
  obtain ⟨d3, A3⟩ := st_arr (ty := .long) (fun _ h => nomatch h) (hts _ (big_tbl ka_long))
  obtain ⟨d4, A4⟩ := st_arr (ty := .double) (fun _ h => nomatch h) (hts _ (big_tbl ka_double))
  refine ⟨(fun k => match k with
    | 0 => c0
    | 1 => c1
    | 2 => c2
    | 3 => c3
    | 4 => c4
    | 5 => c5
    | 6 => c6
    | 7 => c7
    | _ => c8, fun k => match k with
    | 0 => i0
    | 1 => i1
    | 2 => i2
    | 3 => i3
    | 4 => i4
    | 5 => i5
    | 6 => i6
    | 7 => i7
    | _ => i8), (fun k => match k with
    | 0 => d0
    | 1 => d1
    | 2 => d2
    | 3 => d3
    | _ => d4), ?_, ?_⟩
  · intro k q hq
    match k, hq with
    | 0, hq => cases hq; exact K0
    | 1, hq => cases hq; exact K1
    | 2, hq => cases hq; exact K2
    | 3, hq => cases hq; exact K3
    | 4, hq => cases hq; exact K4
    | 5, hq => cases hq; exact K5
    | 6, hq => cases hq; exact K6
    | 7, hq => cases hq; exact K7
    | 8, hq => cases hq; exact K8
    | k + 9, hq => simp [cls9] at hq
  · intro k q hq
    match k, hq with
    | 0, hq => cases hq; exact A0
    | 1, hq => cases hq; exact A1
    | 2, hq => cases hq; exact A2
    | 3, hq => cases hq; exact A3
    | 4, hq => cases hq; exact A4
    | k + 5, hq => simp [tysA] at hq
set_option maxRecDepth 100000 in
set_option maxHeartbeats 4000000 in
theorem whole_start {p : Program} {e : Env} {s : State} {m : MethodId} {below : List Frame} {meth : Method} {c : Code} (l : Launch) (hflags : l.flags = flags0) {b L : Nat} {xs : Nat → Int32} (hL : L ≤ 2560) (htab : c.exceptionTable.toList = []) (C0 : lw_At p s m meth c b L xs) : W p l e room_1 s m #[Value.ref b] below meth c s.heap [] 0 0 (lw_Z below #[Value.ref b] s) (entryFrame m ([Value.ref b] : List Value).toArray 9) := by
  obtain ⟨hx, hb, hr, hml, hown, hts, hX, hbl, hlocks, hgv⟩ := C0
  have hstk : l.stackTraces = false := by
    unfold Launch.stackTraces
    rw [hflags]
    decide
  obtain ⟨D, dA, hK⟩ := st_K hts
  obtain ⟨tF, hZ, hT⟩ := st_feat hts hgv
  have hA0 : ∀ a : Nat, a < s.heap.size → ¬ (fun q => s.heap.size ≤ q) a := fun a h h' => Nat.not_le.mpr h h'
  have hs := flat_of_before _ hgv
  have hU : vx_Zq Bundle.tN "UNASSIGNED_STACK" Bundle.steD (fun q => s.heap.size ≤ q) s s.heap := vx_Zqof (hts (.laysStatic Bundle.tN "UNASSIGNED_STACK" Bundle.steD) (List.mem_of_getElem? (i := 398) (by decide +kernel))) (hts (.initialized Bundle.tN) (List.mem_of_getElem? (i := 57) (by decide +kernel))) (hs _ (by decide +kernel)) hA0
  have hNn : vx_Zq Bundle.tN "SUPPRESSED_SENTINEL" Bundle.listD (fun q => s.heap.size ≤ q) s s.heap := vx_Zqof (hts (.laysStatic Bundle.tN "SUPPRESSED_SENTINEL" Bundle.listD) (List.mem_of_getElem? (i := 400) (by decide +kernel))) (hts (.initialized Bundle.tN) (List.mem_of_getElem? (i := 57) (by decide +kernel))) (hs _ (by decide +kernel)) hA0
  have key : EK l D dA (fun q => s.heap.size ≤ q) z_L_law 0 [(0, .ref b)] [] [] 0 0 (Qst s b) := by
    refine EK_new (ci := 7) (fs := [.null, .null, .null, .null, .int 0]) 3 kk_L_8 kz_X7 ki_X7 inb_X7 rfl tyX7_ok (fun j hj => by revert j; decide +kernel) (Nat.le_of_ble_eq_true rfl) (Nat.le_of_ble_eq_true rfl) dL_law_0 rfl (k2 := 1) (n2 := 5) rfl rfl (fun x1 => [(x1, .inr (7, [.null, .null, .null, .null, .int 0]))]) (fun _ => rfl) (fun x1 => ?_)
    refine EK_dup 4 dL_law_3 rfl rfl ?_
    refine EK_init (wr := []) 7 [.ref x1] ck_X7 myi_X7 kl_L_153 (Nat.le_of_ble_eq_true rfl) ⟨Nat.le_of_ble_eq_true rfl, Nat.le_of_ble_eq_true rfl, Nat.le_of_ble_eq_true rfl, Nat.le_of_ble_eq_true rfl⟩ dL_law_4 rfl (k2 := 35) (n2 := 8319) rfl rfl rfl (fun a1 => [(a1 0, .inr (7, [.ref (a1 1), .ref (a1 13), .ref (a1 26), .ref (a1 29), .int 50])), (a1 1, .inr (1, [.ref (a1 2), .ref (a1 5), .ref (a1 10), .int 0, .int 0])), (a1 2, .inr (0, [.ref (a1 3), .ref (a1 4), .int 0, .int 0, .int 0])), (a1 3, .inl (dA 1, (20, .inl (fun _ => 0)))), (a1 4, .inl (dA 0, (20, .inl (fun _ => 0)))), (a1 5, .inr (4, [.ref (a1 6), .ref (a1 7), .ref (a1 8), .ref (a1 9), .int 0])), (a1 6, .inl (dA 0, (200, .inl (fun _ => 0)))), (a1 7, .inl (dA 0, (200, .inl (fun _ => 0)))), (a1 8, .inl (dA 0, (200, .inl (fun _ => 0)))), (a1 9, .inl (dA 0, (200, .inl (fun _ => 0)))), (a1 10, .inr (5, [.ref (a1 11), .ref (a1 12)])), (a1 11, .inl (dA 0, (20, .inl (fun _ => 0)))), (a1 12, .inl (dA 0, (20, .inl (fun _ => 0)))), (a1 13, .inr (3, [.ref (a1 14), .ref (a1 15), .ref (a1 16), .ref (a1 17), .ref (a1 18), .ref (a1 19), .ref (a1 20), .ref (a1 21), .ref (a1 22), .ref (a1 23), .ref (a1 24), .ref (a1 25), .int 0])), (a1 14, .inl (dA 0, (30, .inl (fun _ => 0)))), (a1 15, .inl (dA 0, (30, .inl (fun _ => 0)))), (a1 16, .inl (dA 1, (30, .inl (fun _ => 0)))), (a1 17, .inl (dA 0, (30, .inl (fun _ => 0)))), (a1 18, .inl (dA 2, (30, .inl (fun _ => 0)))), (a1 19, .inl (dA 0, (30, .inl (fun _ => 0)))), (a1 20, .inl (dA 0, (30, .inl (fun _ => 0)))), (a1 21, .inl (dA 0, (30, .inl (fun _ => 0)))), (a1 22, .inl (dA 0, (30, .inl (fun _ => 0)))), (a1 23, .inl (dA 0, (240, .inl (fun _ => 0)))), (a1 24, .inl (dA 2, (30, .inl (fun _ => 0)))), (a1 25, .inl (dA 0, (30, .inl (fun _ => 0)))), (a1 26, .inr (6, [.ref (a1 27), .ref (a1 28), .int 0, .int 0])), (a1 27, .inl (dA 0, (12, .inl (fun _ => 0)))), (a1 28, .inl (dA 0, (12, .inl (fun _ => 0)))), (a1 29, .inr (2, [.ref (a1 30), .ref (a1 31), .ref (a1 32), .ref (a1 33), .ref (a1 34), .int 0])), (a1 30, .inl (dA 0, (200, .inl (fun _ => 0)))), (a1 31, .inl (dA 1, (200, .inl (fun _ => 0)))), (a1 32, .inl (dA 0, (200, .inl (fun _ => 0)))), (a1 33, .inl (dA 0, (200, .inl (fun _ => 0)))), (a1 34, .inl (dA 0, (6000, .inl (fun _ => 0))))]) (fun _ => rfl) (fun a1 ha1 => ?_)
    subst ha1
    refine EK_astore_n 8 [(1, .ref (a1 0)), (0, .ref b)] dL_law_7 rfl (by decide) rfl rfl ?_
    refine EK_new (ci := 8) (fs := [.int 0, .null, .null, .int 0, .int 0, .int 0, .int 0, .null, .null, .null, .null, .null, .null, .null, .null, .int 0, .int 0, .null, .null, .null, .null, .null, .null, .null, .null, .null, .int 0, .null, .null, .int 0, .int 0, .null, .int 0]) 11 kk_L_154 kz_X8 ki_X8 inb_X8 rfl tyX8_ok (fun j hj => by revert j; decide +kernel) (Nat.le_of_ble_eq_true rfl) (Nat.le_of_ble_eq_true rfl) dL_law_8 rfl (k2 := 36) (n2 := 8352) rfl rfl (fun x2 => [(a1 0, .inr (7, [.ref (a1 1), .ref (a1 13), .ref (a1 26), .ref (a1 29), .int 50])), (a1 1, .inr (1, [.ref (a1 2), .ref (a1 5), .ref (a1 10), .int 0, .int 0])), (a1 2, .inr (0, [.ref (a1 3), .ref (a1 4), .int 0, .int 0, .int 0])), (a1 3, .inl (dA 1, (20, .inl (fun _ => 0)))), (a1 4, .inl (dA 0, (20, .inl (fun _ => 0)))), (a1 5, .inr (4, [.ref (a1 6), .ref (a1 7), .ref (a1 8), .ref (a1 9), .int 0])), (a1 6, .inl (dA 0, (200, .inl (fun _ => 0)))), (a1 7, .inl (dA 0, (200, .inl (fun _ => 0)))), (a1 8, .inl (dA 0, (200, .inl (fun _ => 0)))), (a1 9, .inl (dA 0, (200, .inl (fun _ => 0)))), (a1 10, .inr (5, [.ref (a1 11), .ref (a1 12)])), (a1 11, .inl (dA 0, (20, .inl (fun _ => 0)))), (a1 12, .inl (dA 0, (20, .inl (fun _ => 0)))), (a1 13, .inr (3, [.ref (a1 14), .ref (a1 15), .ref (a1 16), .ref (a1 17), .ref (a1 18), .ref (a1 19), .ref (a1 20), .ref (a1 21), .ref (a1 22), .ref (a1 23), .ref (a1 24), .ref (a1 25), .int 0])), (a1 14, .inl (dA 0, (30, .inl (fun _ => 0)))), (a1 15, .inl (dA 0, (30, .inl (fun _ => 0)))), (a1 16, .inl (dA 1, (30, .inl (fun _ => 0)))), (a1 17, .inl (dA 0, (30, .inl (fun _ => 0)))), (a1 18, .inl (dA 2, (30, .inl (fun _ => 0)))), (a1 19, .inl (dA 0, (30, .inl (fun _ => 0)))), (a1 20, .inl (dA 0, (30, .inl (fun _ => 0)))), (a1 21, .inl (dA 0, (30, .inl (fun _ => 0)))), (a1 22, .inl (dA 0, (30, .inl (fun _ => 0)))), (a1 23, .inl (dA 0, (240, .inl (fun _ => 0)))), (a1 24, .inl (dA 2, (30, .inl (fun _ => 0)))), (a1 25, .inl (dA 0, (30, .inl (fun _ => 0)))), (a1 26, .inr (6, [.ref (a1 27), .ref (a1 28), .int 0, .int 0])), (a1 27, .inl (dA 0, (12, .inl (fun _ => 0)))), (a1 28, .inl (dA 0, (12, .inl (fun _ => 0)))), (a1 29, .inr (2, [.ref (a1 30), .ref (a1 31), .ref (a1 32), .ref (a1 33), .ref (a1 34), .int 0])), (a1 30, .inl (dA 0, (200, .inl (fun _ => 0)))), (a1 31, .inl (dA 1, (200, .inl (fun _ => 0)))), (a1 32, .inl (dA 0, (200, .inl (fun _ => 0)))), (a1 33, .inl (dA 0, (200, .inl (fun _ => 0)))), (a1 34, .inl (dA 0, (6000, .inl (fun _ => 0)))), (x2, .inr (8, [.int 0, .null, .null, .int 0, .int 0, .int 0, .int 0, .null, .null, .null, .null, .null, .null, .null, .null, .int 0, .int 0, .null, .null, .null, .null, .null, .null, .null, .null, .null, .int 0, .null, .null, .int 0, .int 0, .null, .int 0]))]) (fun _ => rfl) (fun x2 => ?_)
    refine EK_dup 12 dL_law_11 rfl rfl ?_
    refine EK_init (wr := [(a1 0, .inr (7, [.ref (a1 1), .ref (a1 13), .ref (a1 26), .ref (a1 29), .int 50])), (a1 1, .inr (1, [.ref (a1 2), .ref (a1 5), .ref (a1 10), .int 0, .int 0])), (a1 2, .inr (0, [.ref (a1 3), .ref (a1 4), .int 0, .int 0, .int 0])), (a1 3, .inl (dA 1, (20, .inl (fun _ => 0)))), (a1 4, .inl (dA 0, (20, .inl (fun _ => 0)))), (a1 5, .inr (4, [.ref (a1 6), .ref (a1 7), .ref (a1 8), .ref (a1 9), .int 0])), (a1 6, .inl (dA 0, (200, .inl (fun _ => 0)))), (a1 7, .inl (dA 0, (200, .inl (fun _ => 0)))), (a1 8, .inl (dA 0, (200, .inl (fun _ => 0)))), (a1 9, .inl (dA 0, (200, .inl (fun _ => 0)))), (a1 10, .inr (5, [.ref (a1 11), .ref (a1 12)])), (a1 11, .inl (dA 0, (20, .inl (fun _ => 0)))), (a1 12, .inl (dA 0, (20, .inl (fun _ => 0)))), (a1 13, .inr (3, [.ref (a1 14), .ref (a1 15), .ref (a1 16), .ref (a1 17), .ref (a1 18), .ref (a1 19), .ref (a1 20), .ref (a1 21), .ref (a1 22), .ref (a1 23), .ref (a1 24), .ref (a1 25), .int 0])), (a1 14, .inl (dA 0, (30, .inl (fun _ => 0)))), (a1 15, .inl (dA 0, (30, .inl (fun _ => 0)))), (a1 16, .inl (dA 1, (30, .inl (fun _ => 0)))), (a1 17, .inl (dA 0, (30, .inl (fun _ => 0)))), (a1 18, .inl (dA 2, (30, .inl (fun _ => 0)))), (a1 19, .inl (dA 0, (30, .inl (fun _ => 0)))), (a1 20, .inl (dA 0, (30, .inl (fun _ => 0)))), (a1 21, .inl (dA 0, (30, .inl (fun _ => 0)))), (a1 22, .inl (dA 0, (30, .inl (fun _ => 0)))), (a1 23, .inl (dA 0, (240, .inl (fun _ => 0)))), (a1 24, .inl (dA 2, (30, .inl (fun _ => 0)))), (a1 25, .inl (dA 0, (30, .inl (fun _ => 0)))), (a1 26, .inr (6, [.ref (a1 27), .ref (a1 28), .int 0, .int 0])), (a1 27, .inl (dA 0, (12, .inl (fun _ => 0)))), (a1 28, .inl (dA 0, (12, .inl (fun _ => 0)))), (a1 29, .inr (2, [.ref (a1 30), .ref (a1 31), .ref (a1 32), .ref (a1 33), .ref (a1 34), .int 0])), (a1 30, .inl (dA 0, (200, .inl (fun _ => 0)))), (a1 31, .inl (dA 1, (200, .inl (fun _ => 0)))), (a1 32, .inl (dA 0, (200, .inl (fun _ => 0)))), (a1 33, .inl (dA 0, (200, .inl (fun _ => 0)))), (a1 34, .inl (dA 0, (6000, .inl (fun _ => 0))))]) 15 [.ref x2] ck_X8 myi_X8 kl_L_156 (Nat.le_of_ble_eq_true rfl) ⟨Nat.le_of_ble_eq_true rfl, Nat.le_of_ble_eq_true rfl, Nat.le_of_ble_eq_true rfl, Nat.le_of_ble_eq_true rfl⟩ dL_law_12 rfl (k2 := 58) (n2 := 10292) rfl rfl rfl (fun a2 => [(a1 0, .inr (7, [.ref (a1 1), .ref (a1 13), .ref (a1 26), .ref (a1 29), .int 50])), (a1 1, .inr (1, [.ref (a1 2), .ref (a1 5), .ref (a1 10), .int 0, .int 0])), (a1 2, .inr (0, [.ref (a1 3), .ref (a1 4), .int 0, .int 0, .int 0])), (a1 3, .inl (dA 1, (20, .inl (fun _ => 0)))), (a1 4, .inl (dA 0, (20, .inl (fun _ => 0)))), (a1 5, .inr (4, [.ref (a1 6), .ref (a1 7), .ref (a1 8), .ref (a1 9), .int 0])), (a1 6, .inl (dA 0, (200, .inl (fun _ => 0)))), (a1 7, .inl (dA 0, (200, .inl (fun _ => 0)))), (a1 8, .inl (dA 0, (200, .inl (fun _ => 0)))), (a1 9, .inl (dA 0, (200, .inl (fun _ => 0)))), (a1 10, .inr (5, [.ref (a1 11), .ref (a1 12)])), (a1 11, .inl (dA 0, (20, .inl (fun _ => 0)))), (a1 12, .inl (dA 0, (20, .inl (fun _ => 0)))), (a1 13, .inr (3, [.ref (a1 14), .ref (a1 15), .ref (a1 16), .ref (a1 17), .ref (a1 18), .ref (a1 19), .ref (a1 20), .ref (a1 21), .ref (a1 22), .ref (a1 23), .ref (a1 24), .ref (a1 25), .int 0])), (a1 14, .inl (dA 0, (30, .inl (fun _ => 0)))), (a1 15, .inl (dA 0, (30, .inl (fun _ => 0)))), (a1 16, .inl (dA 1, (30, .inl (fun _ => 0)))), (a1 17, .inl (dA 0, (30, .inl (fun _ => 0)))), (a1 18, .inl (dA 2, (30, .inl (fun _ => 0)))), (a1 19, .inl (dA 0, (30, .inl (fun _ => 0)))), (a1 20, .inl (dA 0, (30, .inl (fun _ => 0)))), (a1 21, .inl (dA 0, (30, .inl (fun _ => 0)))), (a1 22, .inl (dA 0, (30, .inl (fun _ => 0)))), (a1 23, .inl (dA 0, (240, .inl (fun _ => 0)))), (a1 24, .inl (dA 2, (30, .inl (fun _ => 0)))), (a1 25, .inl (dA 0, (30, .inl (fun _ => 0)))), (a1 26, .inr (6, [.ref (a1 27), .ref (a1 28), .int 0, .int 0])), (a1 27, .inl (dA 0, (12, .inl (fun _ => 0)))), (a1 28, .inl (dA 0, (12, .inl (fun _ => 0)))), (a1 29, .inr (2, [.ref (a1 30), .ref (a1 31), .ref (a1 32), .ref (a1 33), .ref (a1 34), .int 0])), (a1 30, .inl (dA 0, (200, .inl (fun _ => 0)))), (a1 31, .inl (dA 1, (200, .inl (fun _ => 0)))), (a1 32, .inl (dA 0, (200, .inl (fun _ => 0)))), (a1 33, .inl (dA 0, (200, .inl (fun _ => 0)))), (a1 34, .inl (dA 0, (6000, .inl (fun _ => 0)))), (a2 0, .inr (8, [.int 0, .ref (a2 1), .ref (a2 2), .int 0, .int 0, .int 0, .int 0, .ref (a2 3), .ref (a2 4), .ref (a2 5), .ref (a2 6), .ref (a2 7), .ref (a2 8), .ref (a2 9), .ref (a2 10), .int 0, .int 50, .ref (a2 11), .ref (a2 12), .ref (a2 13), .ref (a2 14), .ref (a2 15), .ref (a2 16), .ref (a2 17), .ref (a2 18), .ref (a2 19), .int 0, .ref (a2 20), .ref (a2 21), .int 0, .int 0, .ref (a2 22), .int 0])), (a2 1, .inl (dA 1, (20, .inl (fun _ => 0)))), (a2 2, .inl (dA 0, (20, .inl (fun _ => 0)))), (a2 3, .inl (dA 0, (200, .inl (fun _ => 0)))), (a2 4, .inl (dA 0, (200, .inl (fun _ => 0)))), (a2 5, .inl (dA 0, (200, .inl (fun _ => 0)))), (a2 6, .inl (dA 0, (200, .inl (fun _ => 0)))), (a2 7, .inl (dA 0, (200, .inl (fun _ => 0)))), (a2 8, .inl (dA 0, (200, .inl (fun _ => 0)))), (a2 9, .inl (dA 0, (200, .inl (fun _ => 0)))), (a2 10, .inl (dA 1, (200, .inl (fun _ => 0)))), (a2 11, .inl (dA 0, (20, .inl (fun _ => 0)))), (a2 12, .inl (dA 0, (30, .inl (fun _ => 0)))), (a2 13, .inl (dA 0, (30, .inl (fun _ => 0)))), (a2 14, .inl (dA 0, (30, .inl (fun _ => 0)))), (a2 15, .inl (dA 0, (30, .inl (fun _ => 0)))), (a2 16, .inl (dA 0, (30, .inl (fun _ => 0)))), (a2 17, .inl (dA 0, (30, .inl (fun _ => 0)))), (a2 18, .inl (dA 1, (30, .inl (fun _ => 0)))), (a2 19, .inl (dA 2, (30, .inl (fun _ => 0)))), (a2 20, .inl (dA 0, (12, .inl (fun _ => 0)))), (a2 21, .inl (dA 0, (12, .inl (fun _ => 0)))), (a2 22, .inl (dA 0, (16, .inl (fun _ => 0))))]) (fun _ => rfl) (fun a2 ha2 => ?_)
    subst ha2
    refine EK_astore_n 16 [(2, .ref (a2 0)), (1, .ref (a1 0)), (0, .ref b)] dL_law_15 rfl (by decide) rfl rfl ?_
    refine EK_iconst 17 1 dL_law_16 cst_iconst1 rfl ?_
    refine EK_newa (atype := .long) (ty := .long) (a0 := (1, .inr (.inl (fun _ => 0)))) 19 3 ka_long rfl (fun _ h => nomatch h) rfl (fun _ => rfl) (by decide) (by decide) (Nat.le_of_ble_eq_true rfl) (Nat.le_of_ble_eq_true rfl) (Nat.le_of_ble_eq_true rfl) dL_law_17 rfl (k2 := 59) (n2 := 10293) rfl rfl (fun x3 => [(a1 0, .inr (7, [.ref (a1 1), .ref (a1 13), .ref (a1 26), .ref (a1 29), .int 50])), (a1 1, .inr (1, [.ref (a1 2), .ref (a1 5), .ref (a1 10), .int 0, .int 0])), (a1 2, .inr (0, [.ref (a1 3), .ref (a1 4), .int 0, .int 0, .int 0])), (a1 3, .inl (dA 1, (20, .inl (fun _ => 0)))), (a1 4, .inl (dA 0, (20, .inl (fun _ => 0)))), (a1 5, .inr (4, [.ref (a1 6), .ref (a1 7), .ref (a1 8), .ref (a1 9), .int 0])), (a1 6, .inl (dA 0, (200, .inl (fun _ => 0)))), (a1 7, .inl (dA 0, (200, .inl (fun _ => 0)))), (a1 8, .inl (dA 0, (200, .inl (fun _ => 0)))), (a1 9, .inl (dA 0, (200, .inl (fun _ => 0)))), (a1 10, .inr (5, [.ref (a1 11), .ref (a1 12)])), (a1 11, .inl (dA 0, (20, .inl (fun _ => 0)))), (a1 12, .inl (dA 0, (20, .inl (fun _ => 0)))), (a1 13, .inr (3, [.ref (a1 14), .ref (a1 15), .ref (a1 16), .ref (a1 17), .ref (a1 18), .ref (a1 19), .ref (a1 20), .ref (a1 21), .ref (a1 22), .ref (a1 23), .ref (a1 24), .ref (a1 25), .int 0])), (a1 14, .inl (dA 0, (30, .inl (fun _ => 0)))), (a1 15, .inl (dA 0, (30, .inl (fun _ => 0)))), (a1 16, .inl (dA 1, (30, .inl (fun _ => 0)))), (a1 17, .inl (dA 0, (30, .inl (fun _ => 0)))), (a1 18, .inl (dA 2, (30, .inl (fun _ => 0)))), (a1 19, .inl (dA 0, (30, .inl (fun _ => 0)))), (a1 20, .inl (dA 0, (30, .inl (fun _ => 0)))), (a1 21, .inl (dA 0, (30, .inl (fun _ => 0)))), (a1 22, .inl (dA 0, (30, .inl (fun _ => 0)))), (a1 23, .inl (dA 0, (240, .inl (fun _ => 0)))), (a1 24, .inl (dA 2, (30, .inl (fun _ => 0)))), (a1 25, .inl (dA 0, (30, .inl (fun _ => 0)))), (a1 26, .inr (6, [.ref (a1 27), .ref (a1 28), .int 0, .int 0])), (a1 27, .inl (dA 0, (12, .inl (fun _ => 0)))), (a1 28, .inl (dA 0, (12, .inl (fun _ => 0)))), (a1 29, .inr (2, [.ref (a1 30), .ref (a1 31), .ref (a1 32), .ref (a1 33), .ref (a1 34), .int 0])), (a1 30, .inl (dA 0, (200, .inl (fun _ => 0)))), (a1 31, .inl (dA 1, (200, .inl (fun _ => 0)))), (a1 32, .inl (dA 0, (200, .inl (fun _ => 0)))), (a1 33, .inl (dA 0, (200, .inl (fun _ => 0)))), (a1 34, .inl (dA 0, (6000, .inl (fun _ => 0)))), (a2 0, .inr (8, [.int 0, .ref (a2 1), .ref (a2 2), .int 0, .int 0, .int 0, .int 0, .ref (a2 3), .ref (a2 4), .ref (a2 5), .ref (a2 6), .ref (a2 7), .ref (a2 8), .ref (a2 9), .ref (a2 10), .int 0, .int 50, .ref (a2 11), .ref (a2 12), .ref (a2 13), .ref (a2 14), .ref (a2 15), .ref (a2 16), .ref (a2 17), .ref (a2 18), .ref (a2 19), .int 0, .ref (a2 20), .ref (a2 21), .int 0, .int 0, .ref (a2 22), .int 0])), (a2 1, .inl (dA 1, (20, .inl (fun _ => 0)))), (a2 2, .inl (dA 0, (20, .inl (fun _ => 0)))), (a2 3, .inl (dA 0, (200, .inl (fun _ => 0)))), (a2 4, .inl (dA 0, (200, .inl (fun _ => 0)))), (a2 5, .inl (dA 0, (200, .inl (fun _ => 0)))), (a2 6, .inl (dA 0, (200, .inl (fun _ => 0)))), (a2 7, .inl (dA 0, (200, .inl (fun _ => 0)))), (a2 8, .inl (dA 0, (200, .inl (fun _ => 0)))), (a2 9, .inl (dA 0, (200, .inl (fun _ => 0)))), (a2 10, .inl (dA 1, (200, .inl (fun _ => 0)))), (a2 11, .inl (dA 0, (20, .inl (fun _ => 0)))), (a2 12, .inl (dA 0, (30, .inl (fun _ => 0)))), (a2 13, .inl (dA 0, (30, .inl (fun _ => 0)))), (a2 14, .inl (dA 0, (30, .inl (fun _ => 0)))), (a2 15, .inl (dA 0, (30, .inl (fun _ => 0)))), (a2 16, .inl (dA 0, (30, .inl (fun _ => 0)))), (a2 17, .inl (dA 0, (30, .inl (fun _ => 0)))), (a2 18, .inl (dA 1, (30, .inl (fun _ => 0)))), (a2 19, .inl (dA 2, (30, .inl (fun _ => 0)))), (a2 20, .inl (dA 0, (12, .inl (fun _ => 0)))), (a2 21, .inl (dA 0, (12, .inl (fun _ => 0)))), (a2 22, .inl (dA 0, (16, .inl (fun _ => 0)))), (x3, .inl (dA 3, (1, .inr (.inl (fun _ => 0)))))]) (fun _ => rfl) (fun x3 => ?_)
    refine EK_astore_n 20 [(3, .ref x3), (2, .ref (a2 0)), (1, .ref (a1 0)), (0, .ref b)] dL_law_19 rfl (by decide) rfl rfl ?_
    refine EK_iconst 21 1 dL_law_20 cst_iconst1 rfl ?_
    refine EK_newa (atype := .double) (ty := .double) (a0 := (1, .inr (.inr (.inr (.inl (fun _ => 0)))))) 23 4 ka_double rfl (fun _ h => nomatch h) rfl (fun _ => rfl) (by decide) (by decide) (Nat.le_of_ble_eq_true rfl) (Nat.le_of_ble_eq_true rfl) (Nat.le_of_ble_eq_true rfl) dL_law_21 rfl (k2 := 60) (n2 := 10294) rfl rfl (fun x4 => [(a1 0, .inr (7, [.ref (a1 1), .ref (a1 13), .ref (a1 26), .ref (a1 29), .int 50])), (a1 1, .inr (1, [.ref (a1 2), .ref (a1 5), .ref (a1 10), .int 0, .int 0])), (a1 2, .inr (0, [.ref (a1 3), .ref (a1 4), .int 0, .int 0, .int 0])), (a1 3, .inl (dA 1, (20, .inl (fun _ => 0)))), (a1 4, .inl (dA 0, (20, .inl (fun _ => 0)))), (a1 5, .inr (4, [.ref (a1 6), .ref (a1 7), .ref (a1 8), .ref (a1 9), .int 0])), (a1 6, .inl (dA 0, (200, .inl (fun _ => 0)))), (a1 7, .inl (dA 0, (200, .inl (fun _ => 0)))), (a1 8, .inl (dA 0, (200, .inl (fun _ => 0)))), (a1 9, .inl (dA 0, (200, .inl (fun _ => 0)))), (a1 10, .inr (5, [.ref (a1 11), .ref (a1 12)])), (a1 11, .inl (dA 0, (20, .inl (fun _ => 0)))), (a1 12, .inl (dA 0, (20, .inl (fun _ => 0)))), (a1 13, .inr (3, [.ref (a1 14), .ref (a1 15), .ref (a1 16), .ref (a1 17), .ref (a1 18), .ref (a1 19), .ref (a1 20), .ref (a1 21), .ref (a1 22), .ref (a1 23), .ref (a1 24), .ref (a1 25), .int 0])), (a1 14, .inl (dA 0, (30, .inl (fun _ => 0)))), (a1 15, .inl (dA 0, (30, .inl (fun _ => 0)))), (a1 16, .inl (dA 1, (30, .inl (fun _ => 0)))), (a1 17, .inl (dA 0, (30, .inl (fun _ => 0)))), (a1 18, .inl (dA 2, (30, .inl (fun _ => 0)))), (a1 19, .inl (dA 0, (30, .inl (fun _ => 0)))), (a1 20, .inl (dA 0, (30, .inl (fun _ => 0)))), (a1 21, .inl (dA 0, (30, .inl (fun _ => 0)))), (a1 22, .inl (dA 0, (30, .inl (fun _ => 0)))), (a1 23, .inl (dA 0, (240, .inl (fun _ => 0)))), (a1 24, .inl (dA 2, (30, .inl (fun _ => 0)))), (a1 25, .inl (dA 0, (30, .inl (fun _ => 0)))), (a1 26, .inr (6, [.ref (a1 27), .ref (a1 28), .int 0, .int 0])), (a1 27, .inl (dA 0, (12, .inl (fun _ => 0)))), (a1 28, .inl (dA 0, (12, .inl (fun _ => 0)))), (a1 29, .inr (2, [.ref (a1 30), .ref (a1 31), .ref (a1 32), .ref (a1 33), .ref (a1 34), .int 0])), (a1 30, .inl (dA 0, (200, .inl (fun _ => 0)))), (a1 31, .inl (dA 1, (200, .inl (fun _ => 0)))), (a1 32, .inl (dA 0, (200, .inl (fun _ => 0)))), (a1 33, .inl (dA 0, (200, .inl (fun _ => 0)))), (a1 34, .inl (dA 0, (6000, .inl (fun _ => 0)))), (a2 0, .inr (8, [.int 0, .ref (a2 1), .ref (a2 2), .int 0, .int 0, .int 0, .int 0, .ref (a2 3), .ref (a2 4), .ref (a2 5), .ref (a2 6), .ref (a2 7), .ref (a2 8), .ref (a2 9), .ref (a2 10), .int 0, .int 50, .ref (a2 11), .ref (a2 12), .ref (a2 13), .ref (a2 14), .ref (a2 15), .ref (a2 16), .ref (a2 17), .ref (a2 18), .ref (a2 19), .int 0, .ref (a2 20), .ref (a2 21), .int 0, .int 0, .ref (a2 22), .int 0])), (a2 1, .inl (dA 1, (20, .inl (fun _ => 0)))), (a2 2, .inl (dA 0, (20, .inl (fun _ => 0)))), (a2 3, .inl (dA 0, (200, .inl (fun _ => 0)))), (a2 4, .inl (dA 0, (200, .inl (fun _ => 0)))), (a2 5, .inl (dA 0, (200, .inl (fun _ => 0)))), (a2 6, .inl (dA 0, (200, .inl (fun _ => 0)))), (a2 7, .inl (dA 0, (200, .inl (fun _ => 0)))), (a2 8, .inl (dA 0, (200, .inl (fun _ => 0)))), (a2 9, .inl (dA 0, (200, .inl (fun _ => 0)))), (a2 10, .inl (dA 1, (200, .inl (fun _ => 0)))), (a2 11, .inl (dA 0, (20, .inl (fun _ => 0)))), (a2 12, .inl (dA 0, (30, .inl (fun _ => 0)))), (a2 13, .inl (dA 0, (30, .inl (fun _ => 0)))), (a2 14, .inl (dA 0, (30, .inl (fun _ => 0)))), (a2 15, .inl (dA 0, (30, .inl (fun _ => 0)))), (a2 16, .inl (dA 0, (30, .inl (fun _ => 0)))), (a2 17, .inl (dA 0, (30, .inl (fun _ => 0)))), (a2 18, .inl (dA 1, (30, .inl (fun _ => 0)))), (a2 19, .inl (dA 2, (30, .inl (fun _ => 0)))), (a2 20, .inl (dA 0, (12, .inl (fun _ => 0)))), (a2 21, .inl (dA 0, (12, .inl (fun _ => 0)))), (a2 22, .inl (dA 0, (16, .inl (fun _ => 0)))), (x3, .inl (dA 3, (1, .inr (.inl (fun _ => 0))))), (x4, .inl (dA 4, (1, .inr (.inr (.inr (.inl (fun _ => 0)))))))]) (fun _ => rfl) (fun x4 => ?_)
    refine EK_astore 25 [(4, .ref x4), (3, .ref x3), (2, .ref (a2 0)), (1, .ref (a1 0)), (0, .ref b)] dL_law_23 (by decide) rfl rfl ?_
    refine EK_iconst 26 0 dL_law_25 cst_iconst0 rfl ?_
    refine EK_istore 28 [(5, .int 0), (4, .ref x4), (3, .ref x3), (2, .ref (a2 0)), (1, .ref (a1 0)), (0, .ref b)] dL_law_26 (by decide) rfl rfl ?_
    intro p' e' R' s' m' args' below' meth' c' H locs ls hB hP hD hS hl
    by_cases hq : s' = s ∧ args' = #[.ref b]
    · obtain ⟨rfl, rfl⟩ := hq
      have htab' : c'.exceptionTable.toList = tableOf (zh z_L_law) := (hB.2.2.2.2.2.2.2.2.2.2.1.2).resolve_left (fun h => by cases h)
      have hP' : va_P D cls9 (Wd (D, dA, a1, a2, (fun k => match k with
        | 0 => x3
        | _ => x4), s'.heap.size, tF) (mu0, nu0, (fun _ => 0), (fun _ => 0))) H := hP
      have hD' : va_D (fun q => s'.heap.size ≤ q) (Wd (D, dA, a1, a2, (fun k => match k with
        | 0 => x3
        | _ => x4), s'.heap.size, tF) (mu0, nu0, (fun _ => 0), (fun _ => 0))) := hD
      have hgk : gk (D, dA, a1, a2, (fun k => match k with
        | 0 => x3
        | _ => x4), s'.heap.size, tF) s' := ⟨hK, fun S => va_D_fst (Wd_fst _ _ S) hD', hU, hNn, hZ, hT, st_texts hts hgv, st_nwb hts, st_ncl hgv⟩
      have hE := c_L_loop (l := l) (g := (D, dA, a1, a2, (fun k => match k with
        | 0 => x3
        | _ => x4), s'.heap.size, tF)) (b := b) hstk 520 0 0 mu0 nu0 (fun _ => 0) (fun _ => 0) (by decide) (pure_run L xs hL)
      refine W.widen (k := 64 + 0) (n := 20000 + 6 * 0) (by decide) (by decide) ?_
      refine st_mono (fun t ht hq' => ht ⟨rfl, rfl, hbl, hX⟩) (hE p' e' R' s' m' #[.ref b] below' meth' c' H locs ls ⟨hB.1, hB.2.1, hB.2.2.1, hB.2.2.2.1, hB.2.2.2.2.1, hB.2.2.2.2.2.1, hB.2.2.2.2.2.2.1, htab', hstk, hB.2.2.2.2.2.2.2.1, hgk, Nat.le_refl _⟩ hP' hS (lv_sub hl [5, 4, 3, 2, 1, 0] rfl))
    · intro T hT X
      exact ⟨_, Steps.refl _, fun h' => absurd h' hq⟩
  have hle := lv_entry ([.ref b]) (n := 9) (Nat.le_of_ble_eq_true rfl)
  rw [lg_entry_eq]
  refine st_mono (fun t ht => ht ⟨rfl, rfl⟩) (key p e room_1 s m #[.ref b] below meth c s.heap [] _ ⟨hx, hb, hml, hown, fun w hw => hts w (big_tbl hw), hr, hlocks, rfl, hK, fun q h => h, ⟨fun h => (by cases h), Or.inr htab⟩, st_nwb hts⟩ (fun k q h => by simp at h) ⟨fun i j p q h => by simp at h, fun k q h => by simp at h⟩ va_S.rf hle)
