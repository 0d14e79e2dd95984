/-! ===== calls, throws, catches ===== -/
def MyF (z : Zt) (y : MethodName) (n : Nat) : Prop := hdw z y ∈ big ∧ Cond.initialized y.cls ∈ big ∧ (y.cls ≠ "java/lang/invoke/MethodHandle" ∧ y.cls ≠ "java/lang/invoke/VarHandle") ∧ (parseMethodDescriptor y.desc).map (fun d => d.parameters.length) = some n
def MyV (z : Zt) (y : MethodName) (n : Nat) : Prop := MyF z y n ∧ hdw z y = .code y (zc z) (zL z) (zr z) ∧ Cond.instanceMethod y ∈ big ∧ Cond.selects y.cls y y ∈ big
def MyS (z : Zt) (y : MethodName) (n : Nat) : Prop := MyF z y n ∧ hdw z y = .code y (zc z) (zL z) (zr z) ∧ Cond.static y ∈ big
def MyH (z : Zt) (y : MethodName) (n : Nat) : Prop := MyF z y n ∧ hdw z y = .codeWith y (zc z) (zL z) (zr z) (zh z) ∧ Cond.static y ∈ big
def RmOk (z' z : Zt) (u u' : Nat) : Prop := (zm z').cells = u' ∧ (zm z').slots = 6 * u' ∧ (zm z').frames + 1 ≤ (zm z).frames ∧ 8 + (zL z' + 11) + (zm z').locals ≤ (zm z).locals ∧ zk z + u + u' ≤ (zm z).cells ∧ zn z + 6 * u + 6 * u' ≤ (zm z).slots
def RcC (k : Nat) (C : String) : Prop := ∃ ci N T rf, layC k = .inl (ci, N, rf) ∧ k < NC ∧ cls9[ci]? = some (C, T, N)
def RcM (k : Nat) (C : String) : Prop := ∃ ci N T rf, layM k = .inl (ci, N, rf) ∧ k < NM ∧ cls9[ci]? = some (C, T, N)
theorem big_in {z : Zt} {y : MethodName} (h : hdw z y ∈ big) : GoodIn big (wsz z y) := by
  intro w hw
  rcases List.mem_cons.mp hw with rfl | hw
  · exact ⟨h, good_of_word (big_good h)⟩
  · exact ⟨hw, good_of_word (big_good hw)⟩
section ECALL
variable {l : Launch} {g : Gt} {z : Zt} {pc : Nat} {L : List (Nat × Value)} {st : List Value} {S : Sg} {u : Nat} {Qf : Fz}
theorem bdl.preS {p : Program} {R : Room} {s : State} {m : MethodId} {args : Array Value} {meth : Method} {c : Code} {H : Heap} {locs : List Loc} (hB : bdl l g z p R s m args meth c) (hP : va_P (gD g) cls9 (Wd g S) H) (hS : va_S (gA g) s.heap H locs) (As : List Value) : PreS s H (va_Pc As (preB g S)) As :=
  ⟨CM_blind g S As, fun U hU hW => ⟨rfl, gk.warm hB.K hW (fun a h1 h2 => by rw [hU]; exact hS.2.1 a h1 h2), by rw [hU]; exact Nat.le_trans hB.2.2.2.2.2.2.2.2.2.2.2 hS.1, by rw [hU]; exact hP⟩⟩
theorem bdl.preV {p : Program} {R : Room} {s : State} {m : MethodId} {args : Array Value} {meth : Method} {c : Code} {H : Heap} {locs : List Loc} (hB : bdl l g z p R s m args meth c) (hP : va_P (gD g) cls9 (Wd g S) H) (hS : va_S (gA g) s.heap H locs) (b : Nat) (As : List Value) {C : String} (hr : ∃ cell : Cell, H[b]? = some cell ∧ cell.vm.isStatics = false ∧ s.vm.findClass C = some cell.cls) : PreV s H C b (va_Pc (.ref b :: As) (preB g S)) As :=
  ⟨CM_blind g S (.ref b :: As), hr, (bdl.preS hB hP hS (.ref b :: As)).2⟩
theorem bdl.rcC {p : Program} {R : Room} {s : State} {m : MethodId} {args : Array Value} {meth : Method} {c : Code} {H : Heap} (hB : bdl l g z p R s m args meth c) (hP : va_P (gD g) cls9 (Wd g S) H) {k : Nat} {C : String} (hr : RcC k C) : ∃ cell : Cell, H[gaC g k]? = some cell ∧ cell.vm.isStatics = false ∧ s.vm.findClass C = some cell.cls := by
  obtain ⟨ci, N, T, rf, hy, hk, hc⟩ := hr
  exact va_recv (q := (C, T, N)) hB.K.1 hP hc ((Wd_C hk).trans (congrArg (fun e => some (_, e)) (cellE_obj hy)))
theorem bdl.rcM {p : Program} {R : Room} {s : State} {m : MethodId} {args : Array Value} {meth : Method} {c : Code} {H : Heap} (hB : bdl l g z p R s m args meth c) (hP : va_P (gD g) cls9 (Wd g S) H) {k : Nat} {C : String} (hr : RcM k C) : ∃ cell : Cell, H[gaM g k]? = some cell ∧ cell.vm.isStatics = false ∧ s.vm.findClass C = some cell.cls := by
  obtain ⟨ci, N, T, rf, hy, hk, hc⟩ := hr
  exact va_recv (q := (C, T, N)) hB.K.1 hP hc ((Wd_M hk).trans (congrArg (fun e => some (_, e)) (cellE_obj hy)))
theorem call_go {p : Program} {e : Env} {R : Room} {s : State} {m : MethodId} {args : Array Value} {below : List Frame} {meth : Method} {c : Code} {H : Heap} {locs : List Loc} {ls : Array Slot} {u' : Nat} {rest : List Value} {oc : Oc} {S1 : Sg} {a : Array Value}
    (hB : bdl l g z p R s m args meth c) (hS : va_S (gA g) s.heap H locs) (hl : lv_has ls (zL z) L)
    (hr : vx_Run p l e R s m args below meth c H locs (zk z + u) (zn z + 6 * u) u' (6 * u') (F0 m pc ls st) rest (Qo g oc S1 a) (Xo g oc S1) (gA g))
    (kr : ∀ v, oc = .inl v → E l g z (pc + 3) L (v.toList ++ rest) S1 (u + u') Qf) (kx : ∀ X, oc = .inr X → EX l g z pc L rest S1 (u + u') X Qf) :
    W p l e R s m args below meth c H locs (zk z + u) (zn z + 6 * u) (Qf below args s) (F0 m pc ls st) := by
  intro T hT X
  rcases hr T hT X with ⟨v, st₀, t, T', Lx, h0, X', hL, e1, e2, hq, st'⟩ | ⟨q, st₀, t, T', Lx, Ex, ce, h0, X', hL, e1, e2, hx, hce, hcv, hcl, st'⟩
  · obtain ⟨v', hoc, ho, hP1, hF⟩ := hq
    cases ho
    obtain ⟨k1, k2, k3⟩ := vx_keep (A1 := gA g) h0 e1 hS (fun q _ h => h) (fun q h => h) hL hF
    obtain ⟨t2, a1, b1⟩ := kr v hoc p e R s m args below meth c T'.heap (locs ++ Lx) ls hB (by rw [e1]; exact hP1) k3 hl T' rfl (stand_widen X' (by omega) (by omega))
    exact ⟨t2, st' t2 a1, b1⟩
  · obtain ⟨hoc, hP1, hF⟩ := hx
    obtain ⟨k1, k2, k3⟩ := vx_keep (A1 := gA g) h0 e1 hS (fun q _ h => h) (fun q h => h) hL hF
    obtain ⟨t2, a1, b1⟩ := kx Ex hoc p e R s m args below meth c T'.heap (locs ++ Lx) ls q ce hB (by rw [e1]; exact hP1) k3 hl (by rw [e1]; exact hce) hcv hcl T' rfl (stand_widen X' (by omega) (by omega))
    exact ⟨t2, st'.trans a1, b1⟩
theorem callB_my {z' : Zt} {y : MethodName} {n index u' : Nat} {p : Program} {R : Room} {s : State} {m : MethodId} {args : Array Value} {meth : Method} {c : Code} (hB : bdl l g z p R s m args meth c) (hM : MyF z' y n) (hd : hdw z' y = .code y (zc z') (zL z') (zr z')) (hl1 : Cond.methodLink (zo z) index y ∈ big) (hR : RmOk z' z u u') :
    CallB R s args (zo z) index y (zc z') (zL z') (zr z') (wsz z' y) (zm z') u' (6 * u') n := by
  obtain ⟨h1, h2, h3, h4⟩ := hM
  obtain ⟨r1, r2, r3, r4, r5, r6⟩ := hR
  have hRe : R = zm z := hB.2.2.2.2.2.2.2.2.2.1
  have hts := hB.2.2.2.2.1
  subst hRe
  have hw : Cond.code y (zc z') (zL z') (zr z') ∈ wsz z' y := by rw [← hd]; exact List.mem_cons_self
  refine ⟨r1, r2, r3, r4, pay_in hts (big_in h1), hw, hts _ (by rw [← hd]; exact h1), hts _ h2, h3, fun sig h => ?_, hts _ hl1⟩
  rw [h] at h4
  exact (Option.some.inj h4).symm
theorem callN_my {z' : Zt} {y : MethodName} {n index u' : Nat} {h : String} {p : Program} {R : Room} {s : State} {m : MethodId} {args : Array Value} {meth : Method} {c : Code} (hB : bdl l g z p R s m args meth c) (hM : MyF z' y n) (hd : hdw z' y = .code y (zc z') (zL z') (zr z')) (hl1 : Cond.methodLinkNest (zo z) index y h ∈ lw_tbl) (hR : RmOk z' z u u') :
    va_CN R s args (zo z) index y h (zc z') (zL z') (zr z') (wsz z' y) (zm z') u' (6 * u') n := by
  obtain ⟨h1, h2, h3, h4⟩ := hM
  obtain ⟨r1, r2, r3, r4, r5, r6⟩ := hR
  have hRe : R = zm z := hB.2.2.2.2.2.2.2.2.2.1
  have hts := hB.2.2.2.2.1
  have hnw := hB.nest hl1 rfl
  subst hRe
  have hw : Cond.code y (zc z') (zL z') (zr z') ∈ wsz z' y := by rw [← hd]; exact List.mem_cons_self
  refine ⟨⟨r1, r2, r3, r4, pay_in hts (big_in h1), hw⟩, hts _ (by rw [← hd]; exact h1), hts _ h2, h3, fun sig h => ?_, va_Nw.use rfl hnw⟩
  rw [h] at h4
  exact (Option.some.inj h4).symm

theorem E_callVC (q : Nat) {z' : Zt} {y : MethodName} {n k index u' : Nat} {S1 : Sg} {oc : Oc} {As : List Value} (rest : List Value) (hC : CM l g z' y (.ref (gaC g k) :: As) S u' oc S1) (hM : MyV z' y n) (hr : RcC k y.cls) (hl1 : Cond.methodLink (zo z) index y ∈ big) (hn : As.length = n) (hst : st = As.reverse ++ .ref (gaC g k) :: rest) (hcat : (rest.map fun v => v.category).sum ≤ 8) (hR : RmOk z' z u u') (hd : decode (zc z) pc = .ok (.invokevirtual index, 3)) (hq : pc + 3 = q)
    (kr : ∀ v, oc = .inl v → E l g z q L (v.toList ++ rest) S1 (u + u') Qf) (kx : ∀ X, oc = .inr X → EX l g z pc L rest S1 (u + u') X Qf) : E l g z pc L st S u Qf := by
  subst hq; intro p e R s m args below meth c H locs ls hB hP hS hl
  have hRe : R = zm z := hB.2.2.2.2.2.2.2.2.2.1
  have hf : zk z + u + u' ≤ R.cells ∧ zn z + 6 * u + 6 * u' ≤ R.slots := by rw [hRe]; exact ⟨hR.2.2.2.2.1, hR.2.2.2.2.2⟩
  exact call_go hB hS hl (vx_runV ⟨hB.1, hB.2.1, hB.2.2.1, hB.2.2.2.1, hB.2.2.2.2.1⟩ hC ⟨callB_my hB hM.1 hM.2.1 hl1 hR, hB.2.2.2.2.1 _ hM.2.2.1, hB.2.2.2.2.1 _ hM.2.2.2⟩ (hB.preV hP hS (gaC g k) As (hB.rcC hP hr)) rfl hn hl.1 hst (lv_room hcat) hd hf) kr kx
theorem E_callVCN (q : Nat) {h : String} {z' : Zt} {y : MethodName} {n k index u' : Nat} {S1 : Sg} {oc : Oc} {As : List Value} (rest : List Value) (hC : CM l g z' y (.ref (gaC g k) :: As) S u' oc S1) (hM : MyV z' y n) (hr : RcC k y.cls) (hl1 : Cond.methodLinkNest (zo z) index y h ∈ lw_tbl) (hn : As.length = n) (hst : st = As.reverse ++ .ref (gaC g k) :: rest) (hcat : (rest.map fun v => v.category).sum ≤ 8) (hR : RmOk z' z u u') (hd : decode (zc z) pc = .ok (.invokevirtual index, 3)) (hq : pc + 3 = q)
    (kr : ∀ v, oc = .inl v → E l g z q L (v.toList ++ rest) S1 (u + u') Qf) (kx : ∀ X, oc = .inr X → EX l g z pc L rest S1 (u + u') X Qf) : E l g z pc L st S u Qf := by
  subst hq; intro p e R s m args below meth c H locs ls hB hP hS hl
  have hRe : R = zm z := hB.2.2.2.2.2.2.2.2.2.1
  have hf : zk z + u + u' ≤ R.cells ∧ zn z + 6 * u + 6 * u' ≤ R.slots := by rw [hRe]; exact ⟨hR.2.2.2.2.1, hR.2.2.2.2.2⟩
  exact call_go hB hS hl (vx_runVN ⟨hB.1, hB.2.1, hB.2.2.1, hB.2.2.2.1, hB.2.2.2.2.1⟩ hC ⟨callN_my hB hM.1 hM.2.1 hl1 hR, hB.2.2.2.2.1 _ hM.2.2.1, hB.2.2.2.2.1 _ hM.2.2.2⟩ (hB.preV hP hS (gaC g k) As (hB.rcC hP hr)) rfl hn hl.1 hst (lv_room hcat) hd hf) kr kx
theorem E_callVM (q : Nat) {z' : Zt} {y : MethodName} {n k index u' : Nat} {S1 : Sg} {oc : Oc} {As : List Value} (rest : List Value) (hC : CM l g z' y (.ref (gaM g k) :: As) S u' oc S1) (hM : MyV z' y n) (hr : RcM k y.cls) (hl1 : Cond.methodLink (zo z) index y ∈ big) (hn : As.length = n) (hst : st = As.reverse ++ .ref (gaM g k) :: rest) (hcat : (rest.map fun v => v.category).sum ≤ 8) (hR : RmOk z' z u u') (hd : decode (zc z) pc = .ok (.invokevirtual index, 3)) (hq : pc + 3 = q)
    (kr : ∀ v, oc = .inl v → E l g z q L (v.toList ++ rest) S1 (u + u') Qf) (kx : ∀ X, oc = .inr X → EX l g z pc L rest S1 (u + u') X Qf) : E l g z pc L st S u Qf := by
  subst hq; intro p e R s m args below meth c H locs ls hB hP hS hl
  have hRe : R = zm z := hB.2.2.2.2.2.2.2.2.2.1
  have hf : zk z + u + u' ≤ R.cells ∧ zn z + 6 * u + 6 * u' ≤ R.slots := by rw [hRe]; exact ⟨hR.2.2.2.2.1, hR.2.2.2.2.2⟩
  exact call_go hB hS hl (vx_runV ⟨hB.1, hB.2.1, hB.2.2.1, hB.2.2.2.1, hB.2.2.2.2.1⟩ hC ⟨callB_my hB hM.1 hM.2.1 hl1 hR, hB.2.2.2.2.1 _ hM.2.2.1, hB.2.2.2.2.1 _ hM.2.2.2⟩ (hB.preV hP hS (gaM g k) As (hB.rcM hP hr)) rfl hn hl.1 hst (lv_room hcat) hd hf) kr kx
theorem E_callVMN (q : Nat) {h : String} {z' : Zt} {y : MethodName} {n k index u' : Nat} {S1 : Sg} {oc : Oc} {As : List Value} (rest : List Value) (hC : CM l g z' y (.ref (gaM g k) :: As) S u' oc S1) (hM : MyV z' y n) (hr : RcM k y.cls) (hl1 : Cond.methodLinkNest (zo z) index y h ∈ lw_tbl) (hn : As.length = n) (hst : st = As.reverse ++ .ref (gaM g k) :: rest) (hcat : (rest.map fun v => v.category).sum ≤ 8) (hR : RmOk z' z u u') (hd : decode (zc z) pc = .ok (.invokevirtual index, 3)) (hq : pc + 3 = q)
    (kr : ∀ v, oc = .inl v → E l g z q L (v.toList ++ rest) S1 (u + u') Qf) (kx : ∀ X, oc = .inr X → EX l g z pc L rest S1 (u + u') X Qf) : E l g z pc L st S u Qf := by
  subst hq; intro p e R s m args below meth c H locs ls hB hP hS hl
  have hRe : R = zm z := hB.2.2.2.2.2.2.2.2.2.1
  have hf : zk z + u + u' ≤ R.cells ∧ zn z + 6 * u + 6 * u' ≤ R.slots := by rw [hRe]; exact ⟨hR.2.2.2.2.1, hR.2.2.2.2.2⟩
  exact call_go hB hS hl (vx_runVN ⟨hB.1, hB.2.1, hB.2.2.1, hB.2.2.2.1, hB.2.2.2.2.1⟩ hC ⟨callN_my hB hM.1 hM.2.1 hl1 hR, hB.2.2.2.2.1 _ hM.2.2.1, hB.2.2.2.2.1 _ hM.2.2.2⟩ (hB.preV hP hS (gaM g k) As (hB.rcM hP hr)) rfl hn hl.1 hst (lv_room hcat) hd hf) kr kx
theorem E_callS (q : Nat) {z' : Zt} {y : MethodName} {n index u' : Nat} {S1 : Sg} {oc : Oc} {As : List Value} (rest : List Value) (hC : CM l g z' y As S u' oc S1) (hM : MyS z' y n) (hl1 : Cond.methodLink (zo z) index y ∈ big) (hn : As.length = n) (hst : st = As.reverse ++ rest) (hcat : (rest.map fun v => v.category).sum ≤ 8) (hR : RmOk z' z u u') (hd : decode (zc z) pc = .ok (.invokestatic index, 3)) (hq : pc + 3 = q)
    (kr : ∀ v, oc = .inl v → E l g z q L (v.toList ++ rest) S1 (u + u') Qf) (kx : ∀ X, oc = .inr X → EX l g z pc L rest S1 (u + u') X Qf) : E l g z pc L st S u Qf := by
  subst hq; intro p e R s m args below meth c H locs ls hB hP hS hl
  have hRe : R = zm z := hB.2.2.2.2.2.2.2.2.2.1
  have hf : zk z + u + u' ≤ R.cells ∧ zn z + 6 * u + 6 * u' ≤ R.slots := by rw [hRe]; exact ⟨hR.2.2.2.2.1, hR.2.2.2.2.2⟩
  exact call_go hB hS hl (vx_runS ⟨hB.1, hB.2.1, hB.2.2.1, hB.2.2.2.1, hB.2.2.2.2.1⟩ hC ⟨callB_my hB hM.1 hM.2.1 hl1 hR, hB.2.2.2.2.1 _ hM.2.2⟩ (hB.preS hP hS As) rfl hn hl.1 hst (lv_room hcat) hd hf) kr kx
theorem E_callSN (q : Nat) {h : String} {z' : Zt} {y : MethodName} {n index u' : Nat} {S1 : Sg} {oc : Oc} {As : List Value} (rest : List Value) (hC : CM l g z' y As S u' oc S1) (hM : MyS z' y n) (hl1 : Cond.methodLinkNest (zo z) index y h ∈ lw_tbl) (hn : As.length = n) (hst : st = As.reverse ++ rest) (hcat : (rest.map fun v => v.category).sum ≤ 8) (hR : RmOk z' z u u') (hd : decode (zc z) pc = .ok (.invokestatic index, 3)) (hq : pc + 3 = q)
    (kr : ∀ v, oc = .inl v → E l g z q L (v.toList ++ rest) S1 (u + u') Qf) (kx : ∀ X, oc = .inr X → EX l g z pc L rest S1 (u + u') X Qf) : E l g z pc L st S u Qf := by
  subst hq; intro p e R s m args below meth c H locs ls hB hP hS hl
  have hRe : R = zm z := hB.2.2.2.2.2.2.2.2.2.1
  have hf : zk z + u + u' ≤ R.cells ∧ zn z + 6 * u + 6 * u' ≤ R.slots := by rw [hRe]; exact ⟨hR.2.2.2.2.1, hR.2.2.2.2.2⟩
  exact call_go hB hS hl (vx_runSN ⟨hB.1, hB.2.1, hB.2.2.1, hB.2.2.2.1, hB.2.2.2.2.1⟩ hC ⟨callN_my hB hM.1 hM.2.1 hl1 hR, hB.2.2.2.2.1 _ hM.2.2, trivial⟩ (hB.preS hP hS As) rfl hn hl.1 hst (lv_room hcat) hd hf) kr kx
theorem E_callH (q : Nat) {z' : Zt} {y : MethodName} {n index u' : Nat} {S1 : Sg} {oc : Oc} {As : List Value} (rest : List Value) (hC : CM l g z' y As S u' oc S1) (hM : MyH z' y n) (hl1 : Cond.methodLink (zo z) index y ∈ big) (hn : As.length = n) (hst : st = As.reverse ++ rest) (hcat : (rest.map fun v => v.category).sum ≤ 8) (hR : RmOk z' z u u') (hd : decode (zc z) pc = .ok (.invokestatic index, 3)) (hq : pc + 3 = q)
    (kr : ∀ v, oc = .inl v → E l g z q L (v.toList ++ rest) S1 (u + u') Qf) (kx : ∀ X, oc = .inr X → EX l g z pc L rest S1 (u + u') X Qf) : E l g z pc L st S u Qf := by
  subst hq; intro p e R s m args below meth c H locs ls hB hP hS hl
  have hRe : R = zm z := hB.2.2.2.2.2.2.2.2.2.1
  have hf : zk z + u + u' ≤ R.cells ∧ zn z + 6 * u + 6 * u' ≤ R.slots := by rw [hRe]; exact ⟨hR.2.2.2.2.1, hR.2.2.2.2.2⟩
  have hcw : vx_CSW R s args (zo z) index y (zc z') (zL z') (zr z') (zh z') (wsz z' y) (zm z') u' (6 * u') n := by
    obtain ⟨⟨h1, h2, h3, h4⟩, hd2, hs2⟩ := hM
    obtain ⟨r1, r2, r3, r4, r5, r6⟩ := hR
    have hts := hB.2.2.2.2.1
    subst hRe
    have hw : Cond.codeWith y (zc z') (zL z') (zr z') (zh z') ∈ wsz z' y := by rw [← hd2]; exact List.mem_cons_self
    refine ⟨⟨r1, r2, r3, r4, pay_in hts (big_in h1), hw⟩, hts _ (by rw [← hd2]; exact h1), hts _ h2, h3, fun sig h => ?_, hts _ hl1, hts _ hs2⟩
    rw [h] at h4
    exact (Option.some.inj h4).symm
  exact call_go hB hS hl (vx_runSX ⟨hB.1, hB.2.1, hB.2.2.1, hB.2.2.2.1, hB.2.2.2.2.1⟩ hC hcw (hB.preS hP hS As) rfl hn hl.1 hst (lv_room hcat) hd hf) kr kx
/-- what a throw of the class X with a text wants of the tables: ik, ic the pool's class and constructor -/
def ThrF (own : String) (ik ic : Nat) (X : String) (names : List String) : Prop := Bundle.fit X = true ∧ (∀ n ∈ names, Bundle.fit n = true) ∧ Cond.classLink own ik X ∈ big ∧ Cond.initialized X ∈ big ∧ (∀ w ∈ vx_atS own ic X names, w ∈ lw_tbl ∧ (goodWord w || nwb w) = true) ∧ (∀ w ∈ Cond.classLink own ik X :: Cond.initialized X :: vx_atS own ic X names, vx_ot w = true)
theorem thr_at {own X : String} {ic : Nat} {names : List String} {p : Program} {R : Room} {s : State} {m : MethodId} {args : Array Value} {meth : Method} {c : Code} (hB : bdl l g z p R s m args meth c) (h : ∀ w ∈ vx_atS own ic X names, w ∈ lw_tbl ∧ (goodWord w || nwb w) = true) : ∀ w ∈ vx_atS own ic X names, w.before args s = true := by
  intro w hw
  obtain ⟨h1, h2⟩ := h w hw
  by_cases hg : goodWord w = true
  · exact hB.2.2.2.2.1 w (List.mem_filter.mpr ⟨h1, hg⟩)
  · have hn : nwb w = true := by
      rw [Bool.or_eq_true] at h2
      exact h2.resolve_left hg
    have h3 := hB.nest h1 hn
    cases w <;> first | (simp [nwb] at hn; done) | exact va_Nw.use rfl h3
theorem tab0 {hh : List (Nat × Nat × Nat × Nat)} (h : hh = []) {c : Code} (ht : c.exceptionTable.toList = tableOf hh) (pc : Nat) : ∀ x ∈ c.exceptionTable.toList, covers x pc = false := by
  intro x hx
  rw [ht, h] at hx
  cases hx

theorem E_throw {X text : String} {names : List String} {ik is ic U : Nat} {st : List Value} (hT : ThrF (zo z) ik ic X names) (htx : (zo z, is, text) ∈ texts) (hhz : zh z = [])
    (d0 : decode (zc z) pc = .ok (.new ik, 3)) (d3 : decode (zc z) (pc + 3) = .ok (.dup, 1)) (d4 : decode (zc z) (pc + 4) = .ok (.ldc is, 2)) (d6 : decode (zc z) (pc + 6) = .ok (.invokespecial ic, 3)) (d9 : decode (zc z) (pc + 9) = .ok (.athrow, 1))
    (hR1 : names.length + 3 < (zm z).frames) (hR2 : (st.map fun v => v.category).sum + (13 * (names.length + 1) + 43) ≤ (zm z).locals) (hR3 : zk z + u + 1 ≤ (zm z).cells) (hR4 : zn z + 6 * u + 6 ≤ (zm z).slots) (h1 : zk z + u + 1 ≤ U) (h2 : zn z + 6 * u + 6 ≤ 6 * U) : E l g z pc L st S u (QM g (.inr X) S U) := by
  intro p e R s m args below meth c H locs ls hB hP hS hl
  have hRe : R = zm z := hB.2.2.2.2.2.2.2.2.2.1
  obtain ⟨hfx, hfn, hk, hini, hat, hgood⟩ := hT
  obtain ⟨sa, hstr⟩ := hB.K.2.2.2.2.2.2.1 _ htx
  have hNg : gN g ≤ s.heap.size := hB.2.2.2.2.2.2.2.2.2.2.2
  exact vx_throwS hB.1 hB.2.1 hB.2.2.2.2.2.2.2.2.1 hB.2.2.2.1 hfx hfn (hB.2.2.2.2.1 _ hk) (hB.2.2.2.2.1 _ hini) hstr (thr_at hB hat) hgood hB.K.2.2.1 hB.K.2.2.2.1 hS (hl.1.trans hB.2.2.1.symm) d0 d3 d4 d6 d9 (tab0 hhz hB.2.2.2.2.2.2.2.1 _) (by rw [hRe]; exact hR1) (by rw [hRe]; exact hR2) (by rw [hRe]; exact hR3) (by rw [hRe]; exact hR4) hB.2.2.2.2.2.2.1
    (fun t hvm hsz hk9 => ⟨rfl, va_P.kept hP (fun k q hq => hk9 q.1 (hP k q hq).lt), Nat.le_trans hS.1 hsz, fun q h3 h4 => (hk9 q (Nat.lt_of_lt_of_le h3 hS.1)).trans (hS.2.1 q h3 h4)⟩) (fun q hq => hS.2.2 q hq) h1 h2
theorem E_throwW {X text : String} {names : List String} {ik is ic U : Nat} {st : List Value} (hT : ThrF (zo z) ik ic X names) (htx : (zo z, is, text) ∈ texts) (hhz : zh z = [])
    (d0 : decode (zc z) pc = .ok (.new ik, 3)) (d3 : decode (zc z) (pc + 3) = .ok (.dup, 1)) (d4 : decode (zc z) (pc + 4) = .ok (.ldc_w is, 3)) (d6 : decode (zc z) (pc + 7) = .ok (.invokespecial ic, 3)) (d9 : decode (zc z) (pc + 10) = .ok (.athrow, 1))
    (hR1 : names.length + 3 < (zm z).frames) (hR2 : (st.map fun v => v.category).sum + (13 * (names.length + 1) + 43) ≤ (zm z).locals) (hR3 : zk z + u + 1 ≤ (zm z).cells) (hR4 : zn z + 6 * u + 6 ≤ (zm z).slots) (h1 : zk z + u + 1 ≤ U) (h2 : zn z + 6 * u + 6 ≤ 6 * U) : E l g z pc L st S u (QM g (.inr X) S U) := by
  intro p e R s m args below meth c H locs ls hB hP hS hl
  have hRe : R = zm z := hB.2.2.2.2.2.2.2.2.2.1
  obtain ⟨hfx, hfn, hk, hini, hat, hgood⟩ := hT
  obtain ⟨sa, hstr⟩ := hB.K.2.2.2.2.2.2.1 _ htx
  have hNg : gN g ≤ s.heap.size := hB.2.2.2.2.2.2.2.2.2.2.2
  exact vx_throwSW hB.1 hB.2.1 hB.2.2.2.2.2.2.2.2.1 hB.2.2.2.1 hfx hfn (hB.2.2.2.2.1 _ hk) (hB.2.2.2.2.1 _ hini) hstr (thr_at hB hat) hgood hB.K.2.2.1 hB.K.2.2.2.1 hS (hl.1.trans hB.2.2.1.symm) d0 d3 d4 d6 d9 (tab0 hhz hB.2.2.2.2.2.2.2.1 _) (by rw [hRe]; exact hR1) (by rw [hRe]; exact hR2) (by rw [hRe]; exact hR3) (by rw [hRe]; exact hR4) hB.2.2.2.2.2.2.1
    (fun t hvm hsz hk9 => ⟨rfl, va_P.kept hP (fun k q hq => hk9 q.1 (hP k q hq).lt), Nat.le_trans hS.1 hsz, fun q h3 h4 => (hk9 q (Nat.lt_of_lt_of_le h3 hS.1)).trans (hS.2.1 q h3 h4)⟩) (fun q hq => hS.2.2 q hq) h1 h2
/-- not caught here -/
theorem EX_out {X : String} {rest : List Value} {U : Nat} (hhz : zh z = []) (h1 : zk z + u ≤ U) (h2 : zn z + 6 * u ≤ 6 * U) : EX l g z pc L rest S u X (QM g (.inr X) S U) := by
  intro p e R s m args below meth c H locs ls q ce hB hP hS hl hce hcv hcl
  exact vx_out (tab0 hhz hB.2.2.2.2.2.2.2.1 _) hB.2.2.2.2.2.2.1 hce hcv hcl (fun t ht _ => ⟨rfl, by rw [ht]; exact hP, hS.F ht⟩) (fun q hq => hS.2.2 q hq) h1 h2
/-- caught by the row i of the table: hs are the rows ahead, with the classes that they name -/
theorem EX_catch {X nm : String} {rest : List Value} (pre suf : List (Nat × Nat × Nat × Nat)) (a b hp ct : Nat) (hz : zh z = pre ++ (a, b, hp, ct) :: suf) (hpre : ∀ x ∈ pre, ∃ nm', Cond.classLink (zo z) x.2.2.2 nm' ∈ big ∧ (X, nm') ∈ ncl ∧ x.2.2.2 ≠ 0) (hcov : a ≤ pc ∧ pc < b) (h0 : ct ≠ 0) (hlk : Cond.classLink (zo z) ct nm ∈ big) (hcast : Cond.castable X nm ∈ lw_tbl)
    (kk : ∀ q, E l g z hp L [.ref q] S u Qf) : EX l g z pc L rest S u X Qf := by
  intro p e R s m args below meth c H locs ls q ce hB hP hS hl hce hcv hcl
  refine vx_catch hB.2.2.2.1 (tableOf pre) ⟨a, b, hp, ct⟩ (tableOf suf) ?_ ?_ ?_ h0 (hB.2.2.2.2.1 _ hlk) (va_Nw.use rfl (hB.nest hcast rfl)) hce hcv hcl (kk q p e R s m args below meth c H locs ls hB hP hS hl)
  · rw [hB.2.2.2.2.2.2.2.1, hz]
    simp [tableOf]
  · intro x hx
    obtain ⟨x0, hx0, rfl⟩ := List.mem_map.mp hx
    obtain ⟨nm', h3, h4, h5⟩ := hpre x0 hx0
    exact Or.inr ⟨h5, nm', hB.2.2.2.2.1 _ h3, hB.K.2.2.2.2.2.2.2.2 _ h4⟩
  · simp only [covers, hcov.1, hcov.2, decide_true, Bool.and_self]
end ECALL
