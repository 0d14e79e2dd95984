
/-! ===== the framework: one world of all cells, one judgement E for a method's body ===== -/
abbrev Mm : Type := Nat → Nat → Int32
abbrev Sg : Type := Mm × Mm × (Nat → Int64) × (Nat → UInt64)
/-- D, array classes by type, cells of the class, cells of the model, the law's own (0 out, 1 outD), the least address that is ours, FEATURES -/
abbrev Gt : Type := va_G × (Nat → ClassId) × (Nat → Nat) × (Nat → Nat) × (Nat → Nat) × Nat × Nat
/-- own class, code, maxLocals, answer's type, room, handlers, cells and slots made at its start -/
abbrev Zt : Type := String × ByteArray × Nat × Option FieldType × Room × List (Nat × Nat × Nat × Nat) × Nat × Nat
abbrev gD (g : Gt) : va_G := g.1
abbrev gdA (g : Gt) : Nat → ClassId := g.2.1
abbrev gaC (g : Gt) : Nat → Nat := g.2.2.1
abbrev gaM (g : Gt) : Nat → Nat := g.2.2.2.1
abbrev gao (g : Gt) : Nat → Nat := g.2.2.2.2.1
abbrev gN (g : Gt) : Nat := g.2.2.2.2.2.1
abbrev gtF (g : Gt) : Nat := g.2.2.2.2.2.2
abbrev zo (z : Zt) : String := z.1
abbrev zc (z : Zt) : ByteArray := z.2.1
abbrev zL (z : Zt) : Nat := z.2.2.1
abbrev zr (z : Zt) : Option FieldType := z.2.2.2.1
abbrev zm (z : Zt) : Room := z.2.2.2.2.1
abbrev zh (z : Zt) : List (Nat × Nat × Nat × Nat) := z.2.2.2.2.2.1
abbrev zk (z : Zt) : Nat := z.2.2.2.2.2.2.1
abbrev zn (z : Zt) : Nat := z.2.2.2.2.2.2.2
def gA (g : Gt) : Nat → Prop := fun q => gN g ≤ q
def big : List Cond := lw_tbl.filter goodWord
theorem big_tbl {w : Cond} (h : w ∈ big) : w ∈ lw_tbl := (List.mem_filter.mp h).1
theorem big_good {w : Cond} (h : w ∈ big) : goodWord w = true := (List.mem_filter.mp h).2
theorem big_at {w : Cond} (i : Nat) (h : (lw_tbl[i]? = some w) ∧ goodWord w = true) : w ∈ big := List.mem_filter.mpr ⟨List.mem_of_getElem? h.1, h.2⟩
def nwb : Cond → Bool
  | .fieldLinkNest .. => true
  | .methodLinkNest .. => true
  | .castable .. => true
  | .declares _ => true
  | _ => false
theorem nwb_warm {w : Cond} (hn : nwb w = true) {s U : State} (hW : s.WarmedH U.vm) (h : va_Nw w s) : va_Nw w U := by
  cases w <;> first | (simp [nwb] at hn; done) | exact va_Nw.warmF hW h | exact va_Nw.warmM hW h | exact va_tabs rfl (rfl : (s.setVm U.vm).vm = U.vm) (by rw [Cond.castable_setVm hW.alike]; exact h) | exact va_tabs rfl (rfl : (s.setVm U.vm).vm = U.vm) (by rw [Cond.declares_setVm hW.alike]; exact h)
def cellE (dA : Nat → ClassId) (ad : Nat → Nat) (y : Ly) (f : Nat → Int32) : va_E := match y with
  | .inl o => .inr (o.1, (List.range o.2.1).map (fun j => match o.2.2 j with
    | some k => Value.ref (ad k)
    | none => Value.int (f j)))
  | .inr a => .inl (dA a.1, (a.2, .inl f))
def Wof (lay : Nat → Ly) (n : Nat) (dA : Nat → ClassId) (ad : Nat → Nat) (μ : Mm) : va_W := (List.range n).map (fun k => (ad k, cellE dA ad (lay k) (μ k)))
def Wout (g : Gt) (o : Nat → Int64) (d : Nat → UInt64) : va_W := [(gao g 0, .inl (gdA g 3, (1, .inr (.inl o)))), (gao g 1, .inl (gdA g 4, (1, .inr (.inr (.inr (.inl d))))))]
def up2 (μ : Mm) (k j : Nat) (v : Int32) : Mm := fun a => if a = k then upd (μ k) j v else μ a
theorem up2_s (μ : Mm) (k j : Nat) (v : Int32) : up2 μ k j v k = upd (μ k) j v := by simp [up2]
theorem up2_n {μ : Mm} {k j a : Nat} {v : Int32} (h : a ≠ k) : up2 μ k j v a = μ a := by simp [up2, h]
theorem Wof_len {lay : Nat → Ly} {n : Nat} {dA : Nat → ClassId} {ad : Nat → Nat} {μ : Mm} : (Wof lay n dA ad μ).length = n := by simp [Wof]
theorem Wof_get {lay : Nat → Ly} {n : Nat} {dA : Nat → ClassId} {ad : Nat → Nat} {μ : Mm} {k : Nat} (hk : k < n) : (Wof lay n dA ad μ)[k]? = some (ad k, cellE dA ad (lay k) (μ k)) := by
  unfold Wof
  rw [List.getElem?_map, List.getElem?_range hk]
  rfl
theorem Wof_set {lay : Nat → Ly} {n : Nat} {dA : Nat → ClassId} {ad : Nat → Nat} {μ μ' : Mm} {k : Nat} (hk : k < n) (ho : ∀ a, a ≠ k → μ' a = μ a) :
    (Wof lay n dA ad μ).set k (ad k, cellE dA ad (lay k) (μ' k)) = Wof lay n dA ad μ' := by
  apply List.ext_getElem?
  intro j
  rw [List.getElem?_set]
  by_cases hj : k = j
  · subst hj
    rw [if_pos rfl, Wof_get hk, if_pos (by rw [Wof_len]; exact hk)]
  · rw [if_neg hj]
    unfold Wof
    rw [List.getElem?_map, List.getElem?_map]
    by_cases hl : j < n
    · rw [List.getElem?_range hl]
      show some (ad j, cellE dA ad (lay j) (μ j)) = some (ad j, cellE dA ad (lay j) (μ' j))
      rw [ho j (fun h => hj h.symm)]
    · rw [List.getElem?_eq_none (by simpa using hl)]
      rfl
def Wd (g : Gt) (S : Sg) : va_W := Wof layC NC (gdA g) (gaC g) S.1 ++ (Wof layM NM (gdA g) (gaM g) S.2.1 ++ Wout g S.2.2.1 S.2.2.2)
theorem Wd_C {g : Gt} {S : Sg} {k : Nat} (hk : k < NC) : (Wd g S)[k]? = some (gaC g k, cellE (gdA g) (gaC g) (layC k) (S.1 k)) := by
  unfold Wd
  rw [List.getElem?_append_left (by rw [Wof_len]; exact hk), Wof_get hk]
theorem Wd_M {g : Gt} {S : Sg} {k : Nat} (hk : k < NM) : (Wd g S)[NC + k]? = some (gaM g k, cellE (gdA g) (gaM g) (layM k) (S.2.1 k)) := by
  unfold Wd
  rw [List.getElem?_append_right (by rw [Wof_len]; omega), Wof_len, Nat.add_sub_cancel_left, List.getElem?_append_left (by rw [Wof_len]; exact hk), Wof_get hk]
theorem Wd_o {g : Gt} {S : Sg} {k : Nat} : (Wd g S)[NC + (NM + k)]? = (Wout g S.2.2.1 S.2.2.2)[k]? := by
  unfold Wd
  rw [List.getElem?_append_right (by rw [Wof_len]; omega), Wof_len, Nat.add_sub_cancel_left, List.getElem?_append_right (by rw [Wof_len]; omega), Wof_len, Nat.add_sub_cancel_left]
theorem Wd_setC {g : Gt} {S : Sg} {k : Nat} {μ' : Mm} (hk : k < NC) (ho : ∀ a, a ≠ k → μ' a = S.1 a) : (Wd g S).set k (gaC g k, cellE (gdA g) (gaC g) (layC k) (μ' k)) = Wd g (μ', S.2) := by
  unfold Wd
  rw [List.set_append_left _ _ (by rw [Wof_len]; exact hk), Wof_set hk ho]
theorem Wd_setM {g : Gt} {S : Sg} {k : Nat} {μ' : Mm} (hk : k < NM) (ho : ∀ a, a ≠ k → μ' a = S.2.1 a) : (Wd g S).set (NC + k) (gaM g k, cellE (gdA g) (gaM g) (layM k) (μ' k)) = Wd g (S.1, μ', S.2.2) := by
  unfold Wd
  rw [List.set_append_right _ _ (by rw [Wof_len]; omega), Wof_len, Nat.add_sub_cancel_left, List.set_append_left _ _ (by rw [Wof_len]; exact hk), Wof_set hk ho]
theorem Wd_seto {g : Gt} {S : Sg} {o' : Nat → Int64} : (Wd g S).set (NC + (NM + 0)) (gao g 0, .inl (gdA g 3, (1, .inr (.inl o')))) = Wd g (S.1, S.2.1, o', S.2.2.2) := by
  unfold Wd
  rw [List.set_append_right _ _ (by rw [Wof_len]; omega), Wof_len, Nat.add_sub_cancel_left, List.set_append_right _ _ (by rw [Wof_len]; omega), Wof_len, Nat.add_sub_cancel_left]
  rfl
theorem Wd_setd {g : Gt} {S : Sg} {d' : Nat → UInt64} : (Wd g S).set (NC + (NM + 1)) (gao g 1, .inl (gdA g 4, (1, .inr (.inr (.inr (.inl d')))))) = Wd g (S.1, S.2.1, S.2.2.1, d') := by
  unfold Wd
  rw [List.set_append_right _ _ (by rw [Wof_len]; omega), Wof_len, Nat.add_sub_cancel_left, List.set_append_right _ _ (by rw [Wof_len]; omega), Wof_len, Nat.add_sub_cancel_left]
  rfl
abbrev tys5 (g : Gt) : List (ClassId × FieldType) := [(gdA g 0, .int), (gdA g 1, .char), (gdA g 2, .boolean), (gdA g 3, .long), (gdA g 4, .double)]
/-- what of a state stays as long as the run lasts -/
def gk (g : Gt) (s : State) : Prop :=
  va_K (gD g) cls9 (tys5 g) s ∧ (∀ S : Sg, va_D (gA g) (Wd g S)) ∧
  vx_Zq Bundle.tN "UNASSIGNED_STACK" Bundle.steD (gA g) s s.heap ∧ vx_Zq Bundle.tN "SUPPRESSED_SENTINEL" Bundle.listD (gA g) s s.heap ∧
  va_Z "FraudSieve$Bank" "FEATURES" "[C" (.ref (gtF g)) (gA g) s s.heap ∧ va_T .char (gtF g) 13 featV (gA g) s s.heap ∧
  (∀ q ∈ texts, ∃ sa, vk_R q.1 q.2.1 q.2.2 sa s) ∧ (∀ w ∈ lw_tbl, nwb w = true → va_Nw w s) ∧ (∀ q ∈ ncl, va_Nc q.1 q.2 s)
theorem gk.warm {g : Gt} {s U : State} (h : gk g s) (hW : s.WarmedH U.vm) (hH : ∀ a : Nat, a < s.heap.size → ¬ gA g a → U.heap[a]? = s.heap[a]?) : gk g U := by
  obtain ⟨h1, h2, h3, h4, h5, h6, h7, h8, h9⟩ := h
  exact ⟨va_K.moved hW.alike h1, h2, vx_Zq.moved hW.alike (h3.kept hH), vx_Zq.moved hW.alike (h4.kept hH), va_Z.moved hW.alike (h5.kept hH), va_T.moved hW.alike (h6.kept hH),
    fun q hq => by obtain ⟨sa, h⟩ := h7 q hq; exact ⟨sa, vk_R.warm hW h⟩, fun w hw hn => nwb_warm hn hW (h8 w hw hn), fun q hq => va_Nc.moved hW.alike (h9 q hq)⟩
def bdl (l : Launch) (g : Gt) (z : Zt) (p : Program) (R : Room) (s : State) (m : MethodId) (args : Array Value) (meth : Method) (c : Code) : Prop :=
  p.tables.exec = Jvm.exec ∧ c.code = zc z ∧ c.maxLocals = zL z ∧ s.vm.findClass (zo z) = some m.cls ∧ (∀ w ∈ big, w.before args s = true) ∧ meth.sig.returnType = zr z ∧ meth.locks = false ∧ c.exceptionTable.toList = tableOf (zh z) ∧ l.stackTraces = false ∧ R = zm z ∧ gk g s ∧ gN g ≤ s.heap.size
abbrev Fz : Type := List Frame → Array Value → State → State → Prop
/-- from pc, with the locals L, the stack st, the world S and u exceptions made, the method's body comes to its end Qf -/
def E (l : Launch) (g : Gt) (z : Zt) (pc : Nat) (L : List (Nat × Value)) (st : List Value) (S : Sg) (u : Nat) (Qf : Fz) : Prop :=
  ∀ (p : Program) (e : Env) (R : Room) (s : State) (m : MethodId) (args : Array Value) (below : List Frame) (meth : Method) (c : Code) (H : Heap) (locs : List Loc) (ls : Array Slot),
    bdl l g z p R s m args meth c → va_P (gD g) cls9 (Wd g S) H → va_S (gA g) s.heap H locs → lv_has ls (zL z) L →
    W p l e R s m args below meth c H locs (zk z + u) (zn z + 6 * u) (Qf below args s) (F0 m pc ls st)
/-- the same with an exception of class X thrown over the frame -/
def EX (l : Launch) (g : Gt) (z : Zt) (pc : Nat) (L : List (Nat × Value)) (rest : List Value) (S : Sg) (u : Nat) (X : String) (Qf : Fz) : Prop :=
  ∀ (p : Program) (e : Env) (R : Room) (s : State) (m : MethodId) (args : Array Value) (below : List Frame) (meth : Method) (c : Code) (H : Heap) (locs : List Loc) (ls : Array Slot) (q : Addr) (ce : Cell),
    bdl l g z p R s m args meth c → va_P (gD g) cls9 (Wd g S) H → va_S (gA g) s.heap H locs → lv_has ls (zL z) L → H[q]? = some ce → ce.vm = .none → s.vm.findClass X = some ce.cls →
    vx_W p l e R s m args below meth c H locs (zk z + u) (zn z + 6 * u) (Qf below args s) (F0 m pc ls rest) q
abbrev Oc : Type := Option Value ⊕ String
def Qo (g : Gt) (oc : Oc) (S' : Sg) : Array Value → State → Outcome → State → Prop := fun _ st o t => ∃ v, oc = .inl v ∧ o = .returned v ∧ va_P (gD g) cls9 (Wd g S') t.heap ∧ va_F (gA g) st t
def Xo (g : Gt) (oc : Oc) (S' : Sg) : String → State → State → Prop := fun X st t => oc = .inr X ∧ va_P (gD g) cls9 (Wd g S') t.heap ∧ va_F (gA g) st t
def QM (g : Gt) (oc : Oc) (S' : Sg) (U : Nat) : Fz := fun below args s => vx_MQ below (Qo g oc S') (Xo g oc S') args s U (6 * U) (gA g)
def preB (g : Gt) (S : Sg) (U : State) : Prop := gk g U ∧ gN g ≤ U.heap.size ∧ va_P (gD g) cls9 (Wd g S) U.heap
def hdw (z : Zt) (y : MethodName) : Cond := match zh z with
  | [] => .code y (zc z) (zL z) (zr z)
  | hh => .codeWith y (zc z) (zL z) (zr z) hh
abbrev wsz (z : Zt) (y : MethodName) : List Cond := hdw z y :: big
/-- a method's contract -/
def CM (l : Launch) (g : Gt) (z : Zt) (y : MethodName) (As : List Value) (S : Sg) (u : Nat) (oc : Oc) (S' : Sg) : Prop :=
  vx_Met l y (wsz z y) (zm z) (va_Pc As (preB g S)) (Qo g oc S') (Xo g oc S') u (6 * u) (gA g)
theorem CM_blind (g : Gt) (S : Sg) (As : List Value) : FrameBlind (va_Pc As (preB g S)) := by
  intro a U k mk h
  obtain ⟨h1, h2, h3, h4⟩ := h
  exact ⟨h1, gk.warm (U := U.calling k mk a) h2 (State.WarmedH.refl U) (fun _ _ _ => rfl), h3, h4⟩
set_option maxHeartbeats 1000000 in
theorem CM_of_E {l : Launch} {g : Gt} {z : Zt} {y : MethodName} {As : List Value} {S S' : Sg} {u : Nat} {oc : Oc} {L0 : List (Nat × Value)} (hhz : zh z = []) (hyo : y.cls = zo z) (hy : plainName y.cls = true) (hL : lv_args 0 As = L0) (hs : (lg_sl As).length ≤ zL z) (hl : l.stackTraces = false)
    (h : E l g z 0 L0 [] S 0 (QM g oc S' u)) : CM l g z y As S u oc S' := by
  have hw : wsz z y = Cond.code y (zc z) (zL z) (zr z) :: big := by unfold wsz hdw; rw [hhz]
  refine vx_ofW (cc := zc z) (maxL := zL z) (ret := zr z) hy hw ?_
  intro p e s m args below meth c s₁ B hml ht hv
  obtain ⟨rfl, hG, hN, hP⟩ := hv
  have hts : ∀ w ∈ wsz z y, w.before As.toArray s = true := atoms_spec (ws := wsz z y) B.pre
  have hown : s.vm.findClass (zo z) = some m.cls := hyo ▸ findClass_of_methodNamed B.named
  have htl : c.exceptionTable.toList = tableOf (zh z) := by
    rw [hhz]
    exact List.eq_nil_iff_forall_not_mem.mpr (fun x hx => ht x hx)
  have hle := lv_entry As (n := zL z) hs
  rw [lg_entry_eq]
  rw [hL] at hle
  refine W.widen (k := zk z + 0) (n := zn z + 6 * 0) (Nat.zero_le _) (Nat.zero_le _) ?_
  exact h p e (zm z) s m As.toArray below meth c s.heap [] _ ⟨B.exec, B.bytes, hml, hown, fun w hw => hts w (List.mem_cons_of_mem _ hw), B.returns, B.notSynchronized, htl, hl, rfl, hG, hN⟩ hP va_S.rf hle
set_option maxHeartbeats 1000000 in
theorem CM_of_EH {l : Launch} {g : Gt} {z : Zt} {y : MethodName} {As : List Value} {S S' : Sg} {u : Nat} {oc : Oc} {L0 : List (Nat × Value)} (hhz : hdw z y = Cond.codeWith y (zc z) (zL z) (zr z) (zh z)) (hyo : y.cls = zo z) (hy : plainName y.cls = true) (hL : lv_args 0 As = L0) (hs : (lg_sl As).length ≤ zL z) (hl : l.stackTraces = false)
    (h : E l g z 0 L0 [] S 0 (QM g oc S' u)) : CM l g z y As S u oc S' := by
  have hw : wsz z y = Cond.codeWith y (zc z) (zL z) (zr z) (zh z) :: big := by unfold wsz; rw [hhz]
  refine vx_ofWH (cc := zc z) (maxL := zL z) (ret := zr z) (hh := zh z) hy hw ?_
  intro p e s m args below meth c s₁ B hml hv
  obtain ⟨rfl, hG, hN, hP⟩ := hv
  have hts : ∀ w ∈ wsz z y, w.before As.toArray s = true := atoms_spec (ws := wsz z y) B.pre
  have hown : s.vm.findClass (zo z) = some m.cls := hyo ▸ findClass_of_methodNamed B.named
  have htl : c.exceptionTable.toList = tableOf (zh z) := vx_table (x := y) B (hts _ (by rw [hw]; exact List.mem_cons_self))
  have hle := lv_entry As (n := zL z) hs
  rw [lg_entry_eq]
  rw [hL] at hle
  refine W.widen (k := zk z + 0) (n := zn z + 6 * 0) (Nat.zero_le _) (Nat.zero_le _) ?_
  exact h p e (zm z) s m As.toArray below meth c s.heap [] _ ⟨B.exec, B.bytes, hml, hown, fun w hw => hts w (List.mem_cons_of_mem _ hw), B.returns, B.notSynchronized, htl, hl, rfl, hG, hN⟩ hP va_S.rf hle

section EROWS
variable {l : Launch} {g : Gt} {z : Zt} {pc : Nat} {L : List (Nat × Value)} {st : List Value} {S : Sg} {u : Nat} {Qf : Fz}
theorem E_iadd (q : Nat) {x y : Int32} (hd : decode (zc z) pc = .ok (.iadd, 1))  (hq : pc + 1 = q) (kk : E l g z q L (.int (x + y) :: st) S u Qf) : E l g z pc L (.int y :: .int x :: st) S u Qf := by
  subst hq; intro p e R s m args below meth c H locs ls hB hP hS hl
  exact lv_iadd hB.1 hB.2.1 hd  (kk p e R s m args below meth c H locs ls hB hP hS hl)
theorem E_isub (q : Nat) {x y : Int32} (hd : decode (zc z) pc = .ok (.isub, 1))  (hq : pc + 1 = q) (kk : E l g z q L (.int (x - y) :: st) S u Qf) : E l g z pc L (.int y :: .int x :: st) S u Qf := by
  subst hq; intro p e R s m args below meth c H locs ls hB hP hS hl
  exact lv_isub hB.1 hB.2.1 hd  (kk p e R s m args below meth c H locs ls hB hP hS hl)
theorem E_imul (q : Nat) {x y : Int32} (hd : decode (zc z) pc = .ok (.imul, 1))  (hq : pc + 1 = q) (kk : E l g z q L (.int (x * y) :: st) S u Qf) : E l g z pc L (.int y :: .int x :: st) S u Qf := by
  subst hq; intro p e R s m args below meth c H locs ls hB hP hS hl
  exact lv_imul hB.1 hB.2.1 hd  (kk p e R s m args below meth c H locs ls hB hP hS hl)
theorem E_ishl (q : Nat) {x y : Int32} (hd : decode (zc z) pc = .ok (.ishl, 1))  (hq : pc + 1 = q) (kk : E l g z q L (.int (x <<< (y &&& 31)) :: st) S u Qf) : E l g z pc L (.int y :: .int x :: st) S u Qf := by
  subst hq; intro p e R s m args below meth c H locs ls hB hP hS hl
  exact lv_ishl hB.1 hB.2.1 hd  (kk p e R s m args below meth c H locs ls hB hP hS hl)
theorem E_ishr (q : Nat) {x y : Int32} (hd : decode (zc z) pc = .ok (.ishr, 1))  (hq : pc + 1 = q) (kk : E l g z q L (.int (x >>> (y &&& 31)) :: st) S u Qf) : E l g z pc L (.int y :: .int x :: st) S u Qf := by
  subst hq; intro p e R s m args below meth c H locs ls hB hP hS hl
  exact lv_ishr hB.1 hB.2.1 hd  (kk p e R s m args below meth c H locs ls hB hP hS hl)
theorem E_iand (q : Nat) {x y : Int32} (hd : decode (zc z) pc = .ok (.iand, 1))  (hq : pc + 1 = q) (kk : E l g z q L (.int (x &&& y) :: st) S u Qf) : E l g z pc L (.int y :: .int x :: st) S u Qf := by
  subst hq; intro p e R s m args below meth c H locs ls hB hP hS hl
  exact lv_iand hB.1 hB.2.1 hd  (kk p e R s m args below meth c H locs ls hB hP hS hl)
theorem E_ior (q : Nat) {x y : Int32} (hd : decode (zc z) pc = .ok (.ior, 1))  (hq : pc + 1 = q) (kk : E l g z q L (.int (x ||| y) :: st) S u Qf) : E l g z pc L (.int y :: .int x :: st) S u Qf := by
  subst hq; intro p e R s m args below meth c H locs ls hB hP hS hl
  exact lv_ior hB.1 hB.2.1 hd  (kk p e R s m args below meth c H locs ls hB hP hS hl)
theorem E_ixor (q : Nat) {x y : Int32} (hd : decode (zc z) pc = .ok (.ixor, 1))  (hq : pc + 1 = q) (kk : E l g z q L (.int (x ^^^ y) :: st) S u Qf) : E l g z pc L (.int y :: .int x :: st) S u Qf := by
  subst hq; intro p e R s m args below meth c H locs ls hB hP hS hl
  exact lv_ixor hB.1 hB.2.1 hd  (kk p e R s m args below meth c H locs ls hB hP hS hl)
theorem E_idiv (q : Nat) {x y : Int32} (hd : decode (zc z) pc = .ok (.idiv, 1)) (hne : ¬ y = 0) (hq : pc + 1 = q) (kk : E l g z q L (.int (x / y) :: st) S u Qf) : E l g z pc L (.int y :: .int x :: st) S u Qf := by
  subst hq; intro p e R s m args below meth c H locs ls hB hP hS hl
  exact lv_idiv hB.1 hB.2.1 hd hne (kk p e R s m args below meth c H locs ls hB hP hS hl)
theorem E_iconst (q : Nat) {n : Int} (v : Int32) (hd : decode (zc z) pc = .ok (.iconst n, 1)) (hv : Int32.ofInt n = v) (hq : pc + 1 = q) (kk : E l g z q L (.int v :: st) S u Qf) : E l g z pc L st S u Qf := by
  subst hq; intro p e R s m args below meth c H locs ls hB hP hS hl
  exact lv_iconst hB.1 hB.2.1 hd hv (kk p e R s m args below meth c H locs ls hB hP hS hl)
theorem E_bipush (q : Nat) {n : Int} (v : Int32) (hd : decode (zc z) pc = .ok (.bipush n, 2)) (hv : (Int8.ofInt n).toInt32 = v) (hq : pc + 2 = q) (kk : E l g z q L (.int v :: st) S u Qf) : E l g z pc L st S u Qf := by
  subst hq; intro p e R s m args below meth c H locs ls hB hP hS hl
  exact lv_bipush hB.1 hB.2.1 hd hv (kk p e R s m args below meth c H locs ls hB hP hS hl)
theorem E_sipush (q : Nat) {n : Int} (v : Int32) (hd : decode (zc z) pc = .ok (.sipush n, 3)) (hv : (Int16.ofInt n).toInt32 = v) (hq : pc + 3 = q) (kk : E l g z q L (.int v :: st) S u Qf) : E l g z pc L st S u Qf := by
  subst hq; intro p e R s m args below meth c H locs ls hB hP hS hl
  exact lv_sipush hB.1 hB.2.1 hd hv (kk p e R s m args below meth c H locs ls hB hP hS hl)
theorem E_lconst (q : Nat) {n : Fin 2} (v : Int64) (hd : decode (zc z) pc = .ok (.lconst n, 1)) (hv : Int64.ofNat (n : Nat) = v) (hq : pc + 1 = q) (kk : E l g z q L (.long v :: st) S u Qf) : E l g z pc L st S u Qf := by
  subst hq; intro p e R s m args below meth c H locs ls hB hP hS hl
  exact lv_lconst hB.1 hB.2.1 hd hv (kk p e R s m args below meth c H locs ls hB hP hS hl)
theorem E_iload_n (q : Nat) {k : Fin 4} {i : Nat} {x : Int32} (j : Nat) (hd : decode (zc z) pc = .ok (.iload_n k, 1)) (hi : (k : Nat) = i) (hl0 : L[j]? = some (i, .int x)) (hq : pc + 1 = q) (kk : E l g z q L (.int x :: st) S u Qf) : E l g z pc L st S u Qf := by
  subst hq; intro p e R s m args below meth c H locs ls hB hP hS hl
  exact lv_iload_n hB.1 hB.2.1 hd hi (lv_at hl j hl0) (kk p e R s m args below meth c H locs ls hB hP hS hl)
theorem E_iload (q : Nat) {i : Nat} {x : Int32} (j : Nat) (hd : decode (zc z) pc = .ok (.iload i, 2)) (hl0 : L[j]? = some (i, .int x)) (hq : pc + 2 = q) (kk : E l g z q L (.int x :: st) S u Qf) : E l g z pc L st S u Qf := by
  subst hq; intro p e R s m args below meth c H locs ls hB hP hS hl
  exact lv_iload hB.1 hB.2.1 hd (lv_at hl j hl0) (kk p e R s m args below meth c H locs ls hB hP hS hl)
theorem E_aload_n (q : Nat) {k : Fin 4} {i : Nat} {x : Nat} (j : Nat) (hd : decode (zc z) pc = .ok (.aload_n k, 1)) (hi : (k : Nat) = i) (hl0 : L[j]? = some (i, .ref x)) (hq : pc + 1 = q) (kk : E l g z q L (.ref x :: st) S u Qf) : E l g z pc L st S u Qf := by
  subst hq; intro p e R s m args below meth c H locs ls hB hP hS hl
  exact lv_aload_n hB.1 hB.2.1 hd hi (lv_at hl j hl0) (kk p e R s m args below meth c H locs ls hB hP hS hl)
theorem E_aload (q : Nat) {i : Nat} {x : Nat} (j : Nat) (hd : decode (zc z) pc = .ok (.aload i, 2)) (hl0 : L[j]? = some (i, .ref x)) (hq : pc + 2 = q) (kk : E l g z q L (.ref x :: st) S u Qf) : E l g z pc L st S u Qf := by
  subst hq; intro p e R s m args below meth c H locs ls hB hP hS hl
  exact lv_aload hB.1 hB.2.1 hd (lv_at hl j hl0) (kk p e R s m args below meth c H locs ls hB hP hS hl)
theorem E_lload_n (q : Nat) {k : Fin 4} {i : Nat} {x : Int64} (j : Nat) (hd : decode (zc z) pc = .ok (.lload_n k, 1)) (hi : (k : Nat) = i) (hl0 : L[j]? = some (i, .long x)) (hq : pc + 1 = q) (kk : E l g z q L (.long x :: st) S u Qf) : E l g z pc L st S u Qf := by
  subst hq; intro p e R s m args below meth c H locs ls hB hP hS hl
  exact lv_lload_n hB.1 hB.2.1 hd hi (lv_at hl j hl0) (kk p e R s m args below meth c H locs ls hB hP hS hl)
theorem E_lload (q : Nat) {i : Nat} {x : Int64} (j : Nat) (hd : decode (zc z) pc = .ok (.lload i, 2)) (hl0 : L[j]? = some (i, .long x)) (hq : pc + 2 = q) (kk : E l g z q L (.long x :: st) S u Qf) : E l g z pc L st S u Qf := by
  subst hq; intro p e R s m args below meth c H locs ls hB hP hS hl
  exact lv_lload hB.1 hB.2.1 hd (lv_at hl j hl0) (kk p e R s m args below meth c H locs ls hB hP hS hl)
theorem E_fload (q : Nat) {i : Nat} {x : UInt32} (j : Nat) (hd : decode (zc z) pc = .ok (.fload i, 2)) (hl0 : L[j]? = some (i, .float x)) (hq : pc + 2 = q) (kk : E l g z q L (.float x :: st) S u Qf) : E l g z pc L st S u Qf := by
  subst hq; intro p e R s m args below meth c H locs ls hB hP hS hl
  exact lv_fload hB.1 hB.2.1 hd (lv_at hl j hl0) (kk p e R s m args below meth c H locs ls hB hP hS hl)
theorem E_dload (q : Nat) {i : Nat} {x : UInt64} (j : Nat) (hd : decode (zc z) pc = .ok (.dload i, 2)) (hl0 : L[j]? = some (i, .double x)) (hq : pc + 2 = q) (kk : E l g z q L (.double x :: st) S u Qf) : E l g z pc L st S u Qf := by
  subst hq; intro p e R s m args below meth c H locs ls hB hP hS hl
  exact lv_dload hB.1 hB.2.1 hd (lv_at hl j hl0) (kk p e R s m args below meth c H locs ls hB hP hS hl)
theorem E_dup (q : Nat) {va : Value} (hd : decode (zc z) pc = .ok (.dup, 1)) (hva : va.category = 1) (hq : pc + 1 = q) (kk : E l g z q L (va :: va :: st) S u Qf) : E l g z pc L (va :: st) S u Qf := by
  subst hq; intro p e R s m args below meth c H locs ls hB hP hS hl
  exact lv_dup hB.1 hB.2.1 hd hva (kk p e R s m args below meth c H locs ls hB hP hS hl)
theorem E_dup_x1 (q : Nat) {va vb : Value} (hd : decode (zc z) pc = .ok (.dup_x1, 1)) (hva : va.category = 1) (hvb : vb.category = 1) (hq : pc + 1 = q) (kk : E l g z q L (va :: vb :: va :: st) S u Qf) : E l g z pc L (va :: vb :: st) S u Qf := by
  subst hq; intro p e R s m args below meth c H locs ls hB hP hS hl
  exact lv_dup_x1 hB.1 hB.2.1 hd hva hvb (kk p e R s m args below meth c H locs ls hB hP hS hl)
theorem E_pop (q : Nat) {va : Value} (hd : decode (zc z) pc = .ok (.pop, 1)) (hva : va.category = 1) (hq : pc + 1 = q) (kk : E l g z q L st S u Qf) : E l g z pc L (va :: st) S u Qf := by
  subst hq; intro p e R s m args below meth c H locs ls hB hP hS hl
  exact lv_pop hB.1 hB.2.1 hd hva (kk p e R s m args below meth c H locs ls hB hP hS hl)
theorem E_dup2 (q : Nat) {va vb : Value} (hd : decode (zc z) pc = .ok (.dup2, 1)) (hva : va.category = 1) (hvb : vb.category = 1) (hq : pc + 1 = q) (kk : E l g z q L (va :: vb :: va :: vb :: st) S u Qf) : E l g z pc L (va :: vb :: st) S u Qf := by
  subst hq; intro p e R s m args below meth c H locs ls hB hP hS hl
  exact lv_dup2_11 hB.1 hB.2.1 hd hva hvb (kk p e R s m args below meth c H locs ls hB hP hS hl)
theorem E_i2l (q : Nat) {x : Int32} (hd : decode (zc z) pc = .ok (.i2l, 1))  (hq : pc + 1 = q) (kk : E l g z q L (.long x.toInt64 :: st) S u Qf) : E l g z pc L (.int x :: st) S u Qf := by
  subst hq; intro p e R s m args below meth c H locs ls hB hP hS hl
  exact lv_i2l hB.1 hB.2.1 hd rfl (kk p e R s m args below meth c H locs ls hB hP hS hl)
theorem E_i2c (q : Nat) {x : Int32} (hd : decode (zc z) pc = .ok (.i2c, 1))  (hq : pc + 1 = q) (kk : E l g z q L (.int (x.toUInt32 % 65536).toInt32 :: st) S u Qf) : E l g z pc L (.int x :: st) S u Qf := by
  subst hq; intro p e R s m args below meth c H locs ls hB hP hS hl
  exact lv_i2c hB.1 hB.2.1 hd rfl (kk p e R s m args below meth c H locs ls hB hP hS hl)
theorem E_i2f (q : Nat) {x : Int32} (hd : decode (zc z) pc = .ok (.i2f, 1))  (hq : pc + 1 = q) (kk : E l g z q L (.float (FP.i2f x) :: st) S u Qf) : E l g z pc L (.int x :: st) S u Qf := by
  subst hq; intro p e R s m args below meth c H locs ls hB hP hS hl
  exact lv_i2f hB.1 hB.2.1 hd  (kk p e R s m args below meth c H locs ls hB hP hS hl)
theorem E_i2d (q : Nat) {x : Int32} (hd : decode (zc z) pc = .ok (.i2d, 1))  (hq : pc + 1 = q) (kk : E l g z q L (.double (FP.i2d x) :: st) S u Qf) : E l g z pc L (.int x :: st) S u Qf := by
  subst hq; intro p e R s m args below meth c H locs ls hB hP hS hl
  exact lv_i2d hB.1 hB.2.1 hd  (kk p e R s m args below meth c H locs ls hB hP hS hl)
theorem E_f2d (q : Nat) {x : UInt32} (hd : decode (zc z) pc = .ok (.f2d, 1)) (hne : vf_n64 (FP.f2d x)) (hq : pc + 1 = q) (kk : E l g z q L (.double (FP.f2d x) :: st) S u Qf) : E l g z pc L (.float x :: st) S u Qf := by
  subst hq; intro p e R s m args below meth c H locs ls hB hP hS hl
  exact lv_f2d hB.1 hB.2.1 hd hne (kk p e R s m args below meth c H locs ls hB hP hS hl)
theorem E_fdiv (q : Nat) {x y : UInt32} (hd : decode (zc z) pc = .ok (.fdiv, 1)) (hne : vf_n32 (FP.fdiv x y)) (hq : pc + 1 = q) (kk : E l g z q L (.float (FP.fdiv x y) :: st) S u Qf) : E l g z pc L (.float y :: .float x :: st) S u Qf := by
  subst hq; intro p e R s m args below meth c H locs ls hB hP hS hl
  exact lv_fdiv hB.1 hB.2.1 hd hne (kk p e R s m args below meth c H locs ls hB hP hS hl)
theorem E_ddiv (q : Nat) {x y : UInt64} (hd : decode (zc z) pc = .ok (.ddiv, 1)) (hne : vf_n64 (FP.ddiv x y)) (hq : pc + 1 = q) (kk : E l g z q L (.double (FP.ddiv x y) :: st) S u Qf) : E l g z pc L (.double y :: .double x :: st) S u Qf := by
  subst hq; intro p e R s m args below meth c H locs ls hB hP hS hl
  exact lv_ddiv hB.1 hB.2.1 hd hne (kk p e R s m args below meth c H locs ls hB hP hS hl)
theorem E_dcmp (q : Nat) {x y : UInt64} {op : CmpOp} (hd : decode (zc z) pc = .ok (.dcmp op, 1))  (hq : pc + 1 = q) (kk : E l g z q L (.int (Op.cmpValue (FP.dcmp x y) op) :: st) S u Qf) : E l g z pc L (.double y :: .double x :: st) S u Qf := by
  subst hq; intro p e R s m args below meth c H locs ls hB hP hS hl
  exact lv_dcmp hB.1 hB.2.1 hd  (kk p e R s m args below meth c H locs ls hB hP hS hl)
theorem E_fcmp (q : Nat) {x y : UInt32} {op : CmpOp} (hd : decode (zc z) pc = .ok (.fcmp op, 1))  (hq : pc + 1 = q) (kk : E l g z q L (.int (Op.cmpValue (FP.fcmp x y) op) :: st) S u Qf) : E l g z pc L (.float y :: .float x :: st) S u Qf := by
  subst hq; intro p e R s m args below meth c H locs ls hB hP hS hl
  exact lv_fcmp hB.1 hB.2.1 hd  (kk p e R s m args below meth c H locs ls hB hP hS hl)
theorem E_ladd (q : Nat) {x y : Int64} (hd : decode (zc z) pc = .ok (.ladd, 1))  (hq : pc + 1 = q) (kk : E l g z q L (.long (x + y) :: st) S u Qf) : E l g z pc L (.long y :: .long x :: st) S u Qf := by
  subst hq; intro p e R s m args below meth c H locs ls hB hP hS hl
  exact lv_ladd hB.1 hB.2.1 hd  (kk p e R s m args below meth c H locs ls hB hP hS hl)
theorem E_lcmp (q : Nat) {x y : Int64} (hd : decode (zc z) pc = .ok (.lcmp, 1))  (hq : pc + 1 = q) (kk : E l g z q L (.int (lg_cmp x y) :: st) S u Qf) : E l g z pc L (.long y :: .long x :: st) S u Qf := by
  subst hq; intro p e R s m args below meth c H locs ls hB hP hS hl
  exact W.lcmp hB.1 hB.2.1 hd  (kk p e R s m args below meth c H locs ls hB hP hS hl)
theorem E_ldc (q : Nat) {index : Nat} {v : Int32} (hc : Cond.constant (zo z) index v ∈ big) (hd : decode (zc z) pc = .ok (.ldc index, 2)) (hq : pc + 2 = q) (kk : E l g z q L (.int v :: st) S u Qf) : E l g z pc L st S u Qf := by
  subst hq; intro p e R s m args below meth c H locs ls hB hP hS hl
  exact lv_ldc hB.1 hB.2.1 hB.2.2.2.1 (hB.2.2.2.2.1 _ hc) hd (kk p e R s m args below meth c H locs ls hB hP hS hl)
theorem E_istore_n (q : Nat) (L' : List (Nat × Value)) {k : Fin 4} {i : Nat} {x : Int32} (hd : decode (zc z) pc = .ok (.istore_n k, 1)) (hi : (k : Nat) = i) (hn : i < zL z) (hl0 : (i, Value.int x) :: L.filter (fun q => !(q.1 == i) && !(q.1 + 1 == i && q.2.category == 2)) = L') (hq : pc + 1 = q) (kk : E l g z q L' st S u Qf) : E l g z pc L (Value.int x :: st) S u Qf := by
  subst hq; intro p e R s m args below meth c H locs ls hB hP hS hl
  exact lv_istore_n hB.1 hB.2.1 hd hi hl hn hl0 (fun ls1 hl1 => kk p e R s m args below meth c H locs ls1 hB hP hS hl1)
theorem E_istore (q : Nat) (L' : List (Nat × Value)) {i : Nat} {x : Int32} (hd : decode (zc z) pc = .ok (.istore i, 2)) (hn : i < zL z) (hl0 : (i, Value.int x) :: L.filter (fun q => !(q.1 == i) && !(q.1 + 1 == i && q.2.category == 2)) = L') (hq : pc + 2 = q) (kk : E l g z q L' st S u Qf) : E l g z pc L (Value.int x :: st) S u Qf := by
  subst hq; intro p e R s m args below meth c H locs ls hB hP hS hl
  exact lv_istore hB.1 hB.2.1 hd hl hn hl0 (fun ls1 hl1 => kk p e R s m args below meth c H locs ls1 hB hP hS hl1)
theorem E_astore_n (q : Nat) (L' : List (Nat × Value)) {k : Fin 4} {i : Nat} {x : Nat} (hd : decode (zc z) pc = .ok (.astore_n k, 1)) (hi : (k : Nat) = i) (hn : i < zL z) (hl0 : (i, Value.ref x) :: L.filter (fun q => !(q.1 == i) && !(q.1 + 1 == i && q.2.category == 2)) = L') (hq : pc + 1 = q) (kk : E l g z q L' st S u Qf) : E l g z pc L (Value.ref x :: st) S u Qf := by
  subst hq; intro p e R s m args below meth c H locs ls hB hP hS hl
  exact lv_astore_n hB.1 hB.2.1 hd hi hl hn hl0 (fun ls1 hl1 => kk p e R s m args below meth c H locs ls1 hB hP hS hl1)
theorem E_astore (q : Nat) (L' : List (Nat × Value)) {i : Nat} {x : Nat} (hd : decode (zc z) pc = .ok (.astore i, 2)) (hn : i < zL z) (hl0 : (i, Value.ref x) :: L.filter (fun q => !(q.1 == i) && !(q.1 + 1 == i && q.2.category == 2)) = L') (hq : pc + 2 = q) (kk : E l g z q L' st S u Qf) : E l g z pc L (Value.ref x :: st) S u Qf := by
  subst hq; intro p e R s m args below meth c H locs ls hB hP hS hl
  exact lv_astore hB.1 hB.2.1 hd hl hn hl0 (fun ls1 hl1 => kk p e R s m args below meth c H locs ls1 hB hP hS hl1)
theorem E_fstore (q : Nat) (L' : List (Nat × Value)) {i : Nat} {x : UInt32} (hd : decode (zc z) pc = .ok (.fstore i, 2)) (hn : i < zL z) (hl0 : (i, Value.float x) :: L.filter (fun q => !(q.1 == i) && !(q.1 + 1 == i && q.2.category == 2)) = L') (hq : pc + 2 = q) (kk : E l g z q L' st S u Qf) : E l g z pc L (Value.float x :: st) S u Qf := by
  subst hq; intro p e R s m args below meth c H locs ls hB hP hS hl
  exact lv_fstore hB.1 hB.2.1 hd hl hn hl0 (fun ls1 hl1 => kk p e R s m args below meth c H locs ls1 hB hP hS hl1)
theorem E_lstore_n (q : Nat) (L' : List (Nat × Value)) {k : Fin 4} {i : Nat} {x : Int64} (hd : decode (zc z) pc = .ok (.lstore_n k, 1)) (hi : (k : Nat) = i) (hn : i + 1 < zL z) (hl0 : (i, Value.long x) :: L.filter (fun q => !(q.1 == i) && (!(q.1 == i + 1) && !(q.1 + 1 == i && q.2.category == 2))) = L') (hq : pc + 1 = q) (kk : E l g z q L' st S u Qf) : E l g z pc L (Value.long x :: st) S u Qf := by
  subst hq; intro p e R s m args below meth c H locs ls hB hP hS hl
  exact lv_lstore_n hB.1 hB.2.1 hd hi hl hn hl0 (fun ls1 hl1 => kk p e R s m args below meth c H locs ls1 hB hP hS hl1)
theorem E_lstore (q : Nat) (L' : List (Nat × Value)) {i : Nat} {x : Int64} (hd : decode (zc z) pc = .ok (.lstore i, 2)) (hn : i + 1 < zL z) (hl0 : (i, Value.long x) :: L.filter (fun q => !(q.1 == i) && (!(q.1 == i + 1) && !(q.1 + 1 == i && q.2.category == 2))) = L') (hq : pc + 2 = q) (kk : E l g z q L' st S u Qf) : E l g z pc L (Value.long x :: st) S u Qf := by
  subst hq; intro p e R s m args below meth c H locs ls hB hP hS hl
  exact lv_lstore hB.1 hB.2.1 hd hl hn hl0 (fun ls1 hl1 => kk p e R s m args below meth c H locs ls1 hB hP hS hl1)
theorem E_dstore (q : Nat) (L' : List (Nat × Value)) {i : Nat} {x : UInt64} (hd : decode (zc z) pc = .ok (.dstore i, 2)) (hn : i + 1 < zL z) (hl0 : (i, Value.double x) :: L.filter (fun q => !(q.1 == i) && (!(q.1 == i + 1) && !(q.1 + 1 == i && q.2.category == 2))) = L') (hq : pc + 2 = q) (kk : E l g z q L' st S u Qf) : E l g z pc L (Value.double x :: st) S u Qf := by
  subst hq; intro p e R s m args below meth c H locs ls hB hP hS hl
  exact lv_dstore hB.1 hB.2.1 hd hl hn hl0 (fun ls1 hl1 => kk p e R s m args below meth c H locs ls1 hB hP hS hl1)
theorem E_iinc (q : Nat) (L' : List (Nat × Value)) (k : Nat) {i : Nat} {n : Int} {x v : Int32} (hd : decode (zc z) pc = .ok (.iinc i n, 3)) (hk : L[k]? = some (i, .int x)) (hv : x + Int32.ofInt n = v) (hn : i < zL z) (hl0 : (i, Value.int v) :: L.filter (fun q => !(q.1 == i) && !(q.1 + 1 == i && q.2.category == 2)) = L') (hq : pc + 3 = q) (kk : E l g z q L' st S u Qf) : E l g z pc L st S u Qf := by
  subst hq; intro p e R s m args below meth c H locs ls hB hP hS hl
  exact lv_iinc hB.1 hB.2.1 hd hl hk hv hn hl0 (fun ls1 hl1 => kk p e R s m args below meth c H locs ls1 hB hP hS hl1)
theorem E_icmp_eq (t q : Nat) {x y : Int32} {off : Int} (hd : decode (zc z) pc = .ok (.if_icmp .eq off, 3)) (ht : (pc : Int) + off = (t : Int)) (hq : pc + 3 = q) (kt : x = y → E l g z t L st S u Qf) (kf : ¬ x = y → E l g z q L st S u Qf) : E l g z pc L (.int y :: .int x :: st) S u Qf := by
  subst hq; intro p e R s m args below meth c H locs ls hB hP hS hl
  exact lv_icmp_eq hB.1 hB.2.1 hd ht (fun h => kt h p e R s m args below meth c H locs ls hB hP hS hl) (fun h => kf h p e R s m args below meth c H locs ls hB hP hS hl)
theorem E_icmp_ne (t q : Nat) {x y : Int32} {off : Int} (hd : decode (zc z) pc = .ok (.if_icmp .ne off, 3)) (ht : (pc : Int) + off = (t : Int)) (hq : pc + 3 = q) (kt : ¬ x = y → E l g z t L st S u Qf) (kf : x = y → E l g z q L st S u Qf) : E l g z pc L (.int y :: .int x :: st) S u Qf := by
  subst hq; intro p e R s m args below meth c H locs ls hB hP hS hl
  exact lv_icmp_ne hB.1 hB.2.1 hd ht (fun h => kt h p e R s m args below meth c H locs ls hB hP hS hl) (fun h => kf h p e R s m args below meth c H locs ls hB hP hS hl)
theorem E_icmp_lt (t q : Nat) {x y : Int32} {off : Int} (hd : decode (zc z) pc = .ok (.if_icmp .lt off, 3)) (ht : (pc : Int) + off = (t : Int)) (hq : pc + 3 = q) (kt : x < y → E l g z t L st S u Qf) (kf : ¬ x < y → E l g z q L st S u Qf) : E l g z pc L (.int y :: .int x :: st) S u Qf := by
  subst hq; intro p e R s m args below meth c H locs ls hB hP hS hl
  exact lv_icmp_lt hB.1 hB.2.1 hd ht (fun h => kt h p e R s m args below meth c H locs ls hB hP hS hl) (fun h => kf h p e R s m args below meth c H locs ls hB hP hS hl)
theorem E_icmp_ge (t q : Nat) {x y : Int32} {off : Int} (hd : decode (zc z) pc = .ok (.if_icmp .ge off, 3)) (ht : (pc : Int) + off = (t : Int)) (hq : pc + 3 = q) (kt : y ≤ x → E l g z t L st S u Qf) (kf : ¬ y ≤ x → E l g z q L st S u Qf) : E l g z pc L (.int y :: .int x :: st) S u Qf := by
  subst hq; intro p e R s m args below meth c H locs ls hB hP hS hl
  exact lv_icmp_ge hB.1 hB.2.1 hd ht (fun h => kt h p e R s m args below meth c H locs ls hB hP hS hl) (fun h => kf h p e R s m args below meth c H locs ls hB hP hS hl)
theorem E_icmp_gt (t q : Nat) {x y : Int32} {off : Int} (hd : decode (zc z) pc = .ok (.if_icmp .gt off, 3)) (ht : (pc : Int) + off = (t : Int)) (hq : pc + 3 = q) (kt : y < x → E l g z t L st S u Qf) (kf : ¬ y < x → E l g z q L st S u Qf) : E l g z pc L (.int y :: .int x :: st) S u Qf := by
  subst hq; intro p e R s m args below meth c H locs ls hB hP hS hl
  exact lv_icmp_gt hB.1 hB.2.1 hd ht (fun h => kt h p e R s m args below meth c H locs ls hB hP hS hl) (fun h => kf h p e R s m args below meth c H locs ls hB hP hS hl)
theorem E_icmp_le (t q : Nat) {x y : Int32} {off : Int} (hd : decode (zc z) pc = .ok (.if_icmp .le off, 3)) (ht : (pc : Int) + off = (t : Int)) (hq : pc + 3 = q) (kt : x ≤ y → E l g z t L st S u Qf) (kf : ¬ x ≤ y → E l g z q L st S u Qf) : E l g z pc L (.int y :: .int x :: st) S u Qf := by
  subst hq; intro p e R s m args below meth c H locs ls hB hP hS hl
  exact lv_icmp_le hB.1 hB.2.1 hd ht (fun h => kt h p e R s m args below meth c H locs ls hB hP hS hl) (fun h => kf h p e R s m args below meth c H locs ls hB hP hS hl)
theorem E_if_eq (t q : Nat) {x : Int32} {off : Int} (hd : decode (zc z) pc = .ok (.ifCond .eq off, 3)) (ht : (pc : Int) + off = (t : Int)) (hq : pc + 3 = q) (kt : x = 0 → E l g z t L st S u Qf) (kf : ¬ x = 0 → E l g z q L st S u Qf) : E l g z pc L (.int x :: st) S u Qf := by
  subst hq; intro p e R s m args below meth c H locs ls hB hP hS hl
  exact lv_if_eq hB.1 hB.2.1 hd ht (fun h => kt h p e R s m args below meth c H locs ls hB hP hS hl) (fun h => kf h p e R s m args below meth c H locs ls hB hP hS hl)
theorem E_if_ne (t q : Nat) {x : Int32} {off : Int} (hd : decode (zc z) pc = .ok (.ifCond .ne off, 3)) (ht : (pc : Int) + off = (t : Int)) (hq : pc + 3 = q) (kt : ¬ x = 0 → E l g z t L st S u Qf) (kf : x = 0 → E l g z q L st S u Qf) : E l g z pc L (.int x :: st) S u Qf := by
  subst hq; intro p e R s m args below meth c H locs ls hB hP hS hl
  exact lv_if_ne hB.1 hB.2.1 hd ht (fun h => kt h p e R s m args below meth c H locs ls hB hP hS hl) (fun h => kf h p e R s m args below meth c H locs ls hB hP hS hl)
theorem E_if_lt (t q : Nat) {x : Int32} {off : Int} (hd : decode (zc z) pc = .ok (.ifCond .lt off, 3)) (ht : (pc : Int) + off = (t : Int)) (hq : pc + 3 = q) (kt : x < 0 → E l g z t L st S u Qf) (kf : ¬ x < 0 → E l g z q L st S u Qf) : E l g z pc L (.int x :: st) S u Qf := by
  subst hq; intro p e R s m args below meth c H locs ls hB hP hS hl
  exact lv_if_lt hB.1 hB.2.1 hd ht (fun h => kt h p e R s m args below meth c H locs ls hB hP hS hl) (fun h => kf h p e R s m args below meth c H locs ls hB hP hS hl)
theorem E_if_ge (t q : Nat) {x : Int32} {off : Int} (hd : decode (zc z) pc = .ok (.ifCond .ge off, 3)) (ht : (pc : Int) + off = (t : Int)) (hq : pc + 3 = q) (kt : 0 ≤ x → E l g z t L st S u Qf) (kf : ¬ 0 ≤ x → E l g z q L st S u Qf) : E l g z pc L (.int x :: st) S u Qf := by
  subst hq; intro p e R s m args below meth c H locs ls hB hP hS hl
  exact lv_if_ge hB.1 hB.2.1 hd ht (fun h => kt h p e R s m args below meth c H locs ls hB hP hS hl) (fun h => kf h p e R s m args below meth c H locs ls hB hP hS hl)
theorem E_if_gt (t q : Nat) {x : Int32} {off : Int} (hd : decode (zc z) pc = .ok (.ifCond .gt off, 3)) (ht : (pc : Int) + off = (t : Int)) (hq : pc + 3 = q) (kt : 0 < x → E l g z t L st S u Qf) (kf : ¬ 0 < x → E l g z q L st S u Qf) : E l g z pc L (.int x :: st) S u Qf := by
  subst hq; intro p e R s m args below meth c H locs ls hB hP hS hl
  exact lv_if_gt hB.1 hB.2.1 hd ht (fun h => kt h p e R s m args below meth c H locs ls hB hP hS hl) (fun h => kf h p e R s m args below meth c H locs ls hB hP hS hl)
theorem E_if_le (t q : Nat) {x : Int32} {off : Int} (hd : decode (zc z) pc = .ok (.ifCond .le off, 3)) (ht : (pc : Int) + off = (t : Int)) (hq : pc + 3 = q) (kt : x ≤ 0 → E l g z t L st S u Qf) (kf : ¬ x ≤ 0 → E l g z q L st S u Qf) : E l g z pc L (.int x :: st) S u Qf := by
  subst hq; intro p e R s m args below meth c H locs ls hB hP hS hl
  exact lv_if_le hB.1 hB.2.1 hd ht (fun h => kt h p e R s m args below meth c H locs ls hB hP hS hl) (fun h => kf h p e R s m args below meth c H locs ls hB hP hS hl)
theorem E_goto (t : Nat) {off : Int} (hd : decode (zc z) pc = .ok (.goto off, 3)) (ht : (pc : Int) + off = (t : Int)) (kk : E l g z t L st S u Qf) : E l g z pc L st S u Qf := by
  intro p e R s m args below meth c H locs ls hB hP hS hl
  exact lv_goto hB.1 hB.2.1 hd ht (kk p e R s m args below meth c H locs ls hB hP hS hl)
theorem E_tableIn (t : Nat) {dflt lo hi : Int} {offs : Array Int} {len : Nat} {x : Int32} {off : Int} (hd : decode (zc z) pc = .ok (.tableswitch dflt lo hi offs, len)) (h1 : ¬ x.toInt < lo) (h2 : ¬ hi < x.toInt) (ho : offs[(x.toInt - lo).toNat]? = some off) (ht : (pc : Int) + off = (t : Int)) (kk : E l g z t L st S u Qf) : E l g z pc L (.int x :: st) S u Qf := by
  intro p e R s m args below meth c H locs ls hB hP hS hl
  exact lv_tableIn hB.1 hB.2.1 hd h1 h2 ho ht (kk p e R s m args below meth c H locs ls hB hP hS hl)
theorem E_tableOut (t : Nat) {dflt lo hi : Int} {offs : Array Int} {len : Nat} {x : Int32} (hd : decode (zc z) pc = .ok (.tableswitch dflt lo hi offs, len)) (h : x.toInt < lo ∨ hi < x.toInt) (ht : (pc : Int) + dflt = (t : Int)) (kk : E l g z t L st S u Qf) : E l g z pc L (.int x :: st) S u Qf := by
  intro p e R s m args below meth c H locs ls hB hP hS hl
  exact lv_tableOut hB.1 hB.2.1 hd h ht (kk p e R s m args below meth c H locs ls hB hP hS hl)
theorem E_sub (ks : List Nat) {L' : List (Nat × Value)} (h : lv_pick L ks = L') (kk : E l g z pc L' st S u Qf) : E l g z pc L st S u Qf := by
  intro p e R s m args below meth c H locs ls hB hP hS hl
  exact kk p e R s m args below meth c H locs ls hB hP hS (lv_sub hl ks h)
end EROWS
/-- what a field's row wants: own class, pool index, the cell's layout, the field's place, what kind -/
def FldL (nest : Option String) (own : String) (index : Nat) (ref : String) (C : String) (T : u_T) (N ci j : Nat) : Prop :=
  (match nest with
    | none => Cond.fieldLink own index ref (T j).2.1 (T j).2.2.1 ∈ big
    | some h => Cond.fieldLinkNest own index ref (T j).2.1 (T j).2.2.1 h ∈ lw_tbl) ∧ (∀ w ∈ u_ws C T N, w ∈ big) ∧ cls9[ci]? = some (C, T, N) ∧ j < N ∧ (T j).1 = ref
def Fld (nest : Option String) (lay : Nat → Ly) (n : Nat) (own : String) (index : Nat) (k j : Nat) (r : Option Nat) : Prop :=
  ∃ (ref C : String) (T : u_T) (N ci : Nat) (rf : Nat → Option Nat), FldL nest own index ref C T N ci j ∧ lay k = .inl (ci, N, rf) ∧ k < n ∧ rf j = r
def FldP (nest : Option String) (lay : Nat → Ly) (n : Nat) (own : String) (index : Nat) (k j : Nat) : Prop :=
  ∃ (ref C : String) (T : u_T) (ty0 : Nat → FieldType) (N ci : Nat) (rf : Nat → Option Nat), FldL nest own index ref C T N ci j ∧ lay k = .inl (ci, N, rf) ∧ k < n ∧ rf j = none ∧ (T j).2.2.2 = false ∧ ty0 j = .int ∧ (∀ i, i < N → parseFieldDescriptor (T i).2.2.1 = some (ty0 i)) ∧ (∀ a, a < N → ∀ b, b < N → a ≠ b → (T a).2.1 ≠ (T b).2.1)
theorem fld_same {s : State} {a b n d : String} (h : a = b) : ∀ x, s.fieldFound? a n d = some x → s.fieldFound? b n d = some x := fun _ hx => by rw [← h]; exact hx
theorem cellE_obj {dA : Nat → ClassId} {ad : Nat → Nat} {y : Ly} {f : Nat → Int32} {ci N : Nat} {rf : Nat → Option Nat} (h : y = .inl (ci, N, rf)) : cellE dA ad y f = .inr (ci, (List.range N).map (fun j => match rf j with
    | some k => Value.ref (ad k)
    | none => Value.int (f j))) := by rw [h]; rfl
theorem fs_i {ad : Nat → Nat} {f : Nat → Int32} {N j : Nat} {rf : Nat → Option Nat} (hj : j < N) (h : rf j = none) : ((List.range N).map (fun j => match rf j with
    | some k => Value.ref (ad k)
    | none => Value.int (f j)))[j]? = some (.int (f j)) := by
  rw [List.getElem?_map, List.getElem?_range hj]
  simp [h]
theorem fs_r {ad : Nat → Nat} {f : Nat → Int32} {N j k : Nat} {rf : Nat → Option Nat} (hj : j < N) (h : rf j = some k) : ((List.range N).map (fun j => match rf j with
    | some k => Value.ref (ad k)
    | none => Value.int (f j)))[j]? = some (.ref (ad k)) := by
  rw [List.getElem?_map, List.getElem?_range hj]
  simp [h]
theorem fs_set {ad : Nat → Nat} {f : Nat → Int32} {N j : Nat} {v : Int32} {rf : Nat → Option Nat} (h : rf j = none) : ((List.range N).map (fun j => match rf j with
    | some k => Value.ref (ad k)
    | none => Value.int (f j))).set j (.int v) = (List.range N).map (fun i => match rf i with
    | some k => Value.ref (ad k)
    | none => Value.int (upd f j v i)) := by
  apply List.ext_getElem?
  intro i
  rw [List.getElem?_set]
  by_cases hij : j = i
  · subst hij
    rw [if_pos rfl]
    by_cases hl : j < N
    · rw [if_pos (by simpa using hl), List.getElem?_map, List.getElem?_range hl]
      simp [h, upd]
    · rw [if_neg (by simpa using hl), List.getElem?_eq_none (by simpa using hl)]
  · rw [if_neg hij, List.getElem?_map, List.getElem?_map]
    by_cases hl : i < N
    · rw [List.getElem?_range hl]
      cases hr : rf i with
      | some k => simp [hr]
      | none => simp [hr, upd, Ne.symm hij]
    · rw [List.getElem?_eq_none (by simpa using hl)]
      rfl
theorem cellE_arr {dA : Nat → ClassId} {ad : Nat → Nat} {y : Ly} {f : Nat → Int32} {t n : Nat} (h : y = .inr (t, n)) : cellE dA ad y f = .inl (dA t, (n, .inl f)) := by rw [h]; rfl
section EMEM
variable {l : Launch} {g : Gt} {z : Zt} {pc : Nat} {L : List (Nat × Value)} {st : List Value} {S : Sg} {u : Nat} {Qf : Fz}
theorem bdl.K {p : Program} {R : Room} {s : State} {m : MethodId} {args : Array Value} {meth : Method} {c : Code} (h : bdl l g z p R s m args meth c) : gk g s := h.2.2.2.2.2.2.2.2.2.2.1
theorem bdl.nest {p : Program} {R : Room} {s : State} {m : MethodId} {args : Array Value} {meth : Method} {c : Code} (h : bdl l g z p R s m args meth c) {w : Cond} (hw : w ∈ lw_tbl) (hn : nwb w = true) : va_Nw w s := h.K.2.2.2.2.2.2.2.1 w hw hn

theorem E_getC (q : Nat) {index k j : Nat} (hf : Fld none layC NC (zo z) index k j none) (hd : decode (zc z) pc = .ok (.getfield index, 3)) (hq : pc + 3 = q) (kk : E l g z q L (.int (S.1 k j) :: st) S u Qf) : E l g z pc L (.ref (gaC g k) :: st) S u Qf := by
  subst hq; intro p e R s m args below meth c H locs ls hB hP hS hl
  obtain ⟨ref, C, T, N, ci, rf, ⟨hl1, hin, hc, hj, hr⟩, hy, hk, hrf⟩ := hf
  exact va_get hB.1 hB.2.1 hB.2.2.2.2.1 hin hB.2.2.2.1 hB.K.1 hP k ((Wd_C hk).trans (congrArg (fun e => some (_, e)) (cellE_obj hy))) hc j hj (hB.2.2.2.2.1 _ hl1) (fld_same hr) (fs_i hj hrf) hd (kk p e R s m args below meth c H locs ls hB hP hS hl)
theorem E_getCr (q : Nat) {k2 : Nat} {index k j : Nat} (hf : Fld none layC NC (zo z) index k j (some k2)) (hd : decode (zc z) pc = .ok (.getfield index, 3)) (hq : pc + 3 = q) (kk : E l g z q L (.ref (gaC g k2) :: st) S u Qf) : E l g z pc L (.ref (gaC g k) :: st) S u Qf := by
  subst hq; intro p e R s m args below meth c H locs ls hB hP hS hl
  obtain ⟨ref, C, T, N, ci, rf, ⟨hl1, hin, hc, hj, hr⟩, hy, hk, hrf⟩ := hf
  exact va_get hB.1 hB.2.1 hB.2.2.2.2.1 hin hB.2.2.2.1 hB.K.1 hP k ((Wd_C hk).trans (congrArg (fun e => some (_, e)) (cellE_obj hy))) hc j hj (hB.2.2.2.2.1 _ hl1) (fld_same hr) (fs_r hj hrf) hd (kk p e R s m args below meth c H locs ls hB hP hS hl)
theorem E_putC (q : Nat) {index k j : Nat} {x : Int32} (hf : FldP none layC NC (zo z) index k j) (hd : decode (zc z) pc = .ok (.putfield index, 3)) (hq : pc + 3 = q) (kk : E l g z q L st (up2 S.1 k j x, S.2) u Qf) : E l g z pc L (.int x :: .ref (gaC g k) :: st) S u Qf := by
  subst hq; intro p e R s m args below meth c H locs ls hB hP hS hl
  obtain ⟨ref, C, T, ty0, N, ci, rf, ⟨hl1, hin, hc, hj, hr⟩, hy, hk, hrf, hfin, ht0, hty, hnm⟩ := hf
  refine va_put (ty := .int) hB.1 hB.2.1 hB.2.2.2.2.1 hin ty0 hty hnm hB.2.2.2.1 hB.K.1 hP (hB.K.2.1 S) hS k ((Wd_C hk).trans (congrArg (fun e => some (_, e)) (cellE_obj hy))) hc j hj (hB.2.2.2.2.1 _ hl1) (fld_same hr) hfin (ht0 ▸ hty j hj) rfl rfl (by simpa using hj) hd (fun H1 locs1 hP1 _ hS1 => ?_)
  have hw := Wd_setC (g := g) (S := S) (μ' := up2 S.1 k j x) hk (fun a ha => up2_n ha)
  rw [cellE_obj hy, up2_s] at hw
  rw [fs_set hrf, hw] at hP1
  exact kk p e R s m args below meth c H1 locs1 ls hB hP1 hS1 hl
theorem E_getCN (q : Nat) {h : String} {index k j : Nat} (hf : Fld (some h) layC NC (zo z) index k j none) (hd : decode (zc z) pc = .ok (.getfield index, 3)) (hq : pc + 3 = q) (kk : E l g z q L (.int (S.1 k j) :: st) S u Qf) : E l g z pc L (.ref (gaC g k) :: st) S u Qf := by
  subst hq; intro p e R s m args below meth c H locs ls hB hP hS hl
  obtain ⟨ref, C, T, N, ci, rf, ⟨hl1, hin, hc, hj, hr⟩, hy, hk, hrf⟩ := hf
  exact va_getN hB.1 hB.2.1 hB.2.2.2.2.1 hin hB.2.2.2.1 hB.K.1 hP k ((Wd_C hk).trans (congrArg (fun e => some (_, e)) (cellE_obj hy))) hc j hj (va_Nw.use rfl (hB.nest hl1 rfl)) (fld_same hr) (fs_i hj hrf) hd (kk p e R s m args below meth c H locs ls hB hP hS hl)
theorem E_getCrN (q : Nat) {h : String} {k2 : Nat} {index k j : Nat} (hf : Fld (some h) layC NC (zo z) index k j (some k2)) (hd : decode (zc z) pc = .ok (.getfield index, 3)) (hq : pc + 3 = q) (kk : E l g z q L (.ref (gaC g k2) :: st) S u Qf) : E l g z pc L (.ref (gaC g k) :: st) S u Qf := by
  subst hq; intro p e R s m args below meth c H locs ls hB hP hS hl
  obtain ⟨ref, C, T, N, ci, rf, ⟨hl1, hin, hc, hj, hr⟩, hy, hk, hrf⟩ := hf
  exact va_getN hB.1 hB.2.1 hB.2.2.2.2.1 hin hB.2.2.2.1 hB.K.1 hP k ((Wd_C hk).trans (congrArg (fun e => some (_, e)) (cellE_obj hy))) hc j hj (va_Nw.use rfl (hB.nest hl1 rfl)) (fld_same hr) (fs_r hj hrf) hd (kk p e R s m args below meth c H locs ls hB hP hS hl)
theorem E_putCN (q : Nat) {h : String} {index k j : Nat} {x : Int32} (hf : FldP (some h) layC NC (zo z) index k j) (hd : decode (zc z) pc = .ok (.putfield index, 3)) (hq : pc + 3 = q) (kk : E l g z q L st (up2 S.1 k j x, S.2) u Qf) : E l g z pc L (.int x :: .ref (gaC g k) :: st) S u Qf := by
  subst hq; intro p e R s m args below meth c H locs ls hB hP hS hl
  obtain ⟨ref, C, T, ty0, N, ci, rf, ⟨hl1, hin, hc, hj, hr⟩, hy, hk, hrf, hfin, ht0, hty, hnm⟩ := hf
  refine va_putN (ty := .int) hB.1 hB.2.1 hB.2.2.2.2.1 hin ty0 hty hnm hB.2.2.2.1 hB.K.1 hP (hB.K.2.1 S) hS k ((Wd_C hk).trans (congrArg (fun e => some (_, e)) (cellE_obj hy))) hc j hj (va_Nw.use rfl (hB.nest hl1 rfl)) (fld_same hr) hfin (ht0 ▸ hty j hj) rfl rfl (by simpa using hj) hd (fun H1 locs1 hP1 _ hS1 => ?_)
  have hw := Wd_setC (g := g) (S := S) (μ' := up2 S.1 k j x) hk (fun a ha => up2_n ha)
  rw [cellE_obj hy, up2_s] at hw
  rw [fs_set hrf, hw] at hP1
  exact kk p e R s m args below meth c H1 locs1 ls hB hP1 hS1 hl
theorem E_ialdC (q : Nat) {k n : Nat} {i : Int32} (hy : layC k = .inr (0, n)) (hk : k < NC) (hin : vp_in i n) (hd : decode (zc z) pc = .ok (.iaload, 1)) (hq : pc + 1 = q) (kk : E l g z q L (.int (S.1 k i.toNatClampNeg) :: st) S u Qf) : E l g z pc L (.int i :: .ref (gaC g k) :: st) S u Qf := by
  subst hq; intro p e R s m args below meth c H locs ls hB hP hS hl
  exact va_iald hB.1 hB.2.1 hB.K.1 hP k 0 ((Wd_C hk).trans (congrArg (fun e => some (_, e)) (cellE_arr hy))) rfl hin hd (kk p e R s m args below meth c H locs ls hB hP hS hl)
theorem E_caldC (q : Nat) {k n : Nat} {i : Int32} (hy : layC k = .inr (1, n)) (hk : k < NC) (hin : vp_in i n) (hd : decode (zc z) pc = .ok (.caload, 1)) (hq : pc + 1 = q) (kk : E l g z q L (.int (S.1 k i.toNatClampNeg) :: st) S u Qf) : E l g z pc L (.int i :: .ref (gaC g k) :: st) S u Qf := by
  subst hq; intro p e R s m args below meth c H locs ls hB hP hS hl
  exact va_cald hB.1 hB.2.1 hB.K.1 hP k 1 ((Wd_C hk).trans (congrArg (fun e => some (_, e)) (cellE_arr hy))) rfl hin hd (kk p e R s m args below meth c H locs ls hB hP hS hl)
theorem E_zaldC (q : Nat) {k n : Nat} {i : Int32} (hy : layC k = .inr (2, n)) (hk : k < NC) (hin : vp_in i n) (hd : decode (zc z) pc = .ok (.baload, 1)) (hq : pc + 1 = q) (kk : E l g z q L (.int (S.1 k i.toNatClampNeg) :: st) S u Qf) : E l g z pc L (.int i :: .ref (gaC g k) :: st) S u Qf := by
  subst hq; intro p e R s m args below meth c H locs ls hB hP hS hl
  exact va_zald hB.1 hB.2.1 hB.K.1 hP k 2 ((Wd_C hk).trans (congrArg (fun e => some (_, e)) (cellE_arr hy))) rfl hin hd (kk p e R s m args below meth c H locs ls hB hP hS hl)
theorem E_iastC (q : Nat) {k n : Nat} {i x : Int32} (hy : layC k = .inr (0, n)) (hk : k < NC) (hin : vp_in i n) (hd : decode (zc z) pc = .ok (.iastore, 1)) (hq : pc + 1 = q) (kk : E l g z q L st (up2 S.1 k i.toNatClampNeg x, S.2) u Qf) : E l g z pc L (.int x :: .int i :: .ref (gaC g k) :: st) S u Qf := by
  subst hq; intro p e R s m args below meth c H locs ls hB hP hS hl
  refine va_iast hB.1 hB.2.1 hB.K.1 hP (hB.K.2.1 S) hS k 0 ((Wd_C hk).trans (congrArg (fun e => some (_, e)) (cellE_arr hy))) rfl hin hd (fun H1 locs1 hP1 _ hS1 => ?_)
  have hw := Wd_setC (g := g) (S := S) (μ' := up2 S.1 k i.toNatClampNeg x) hk (fun a ha => up2_n ha)
  rw [cellE_arr hy, up2_s] at hw
  rw [hw] at hP1
  exact kk p e R s m args below meth c H1 locs1 ls hB hP1 hS1 hl
theorem E_castC (q : Nat) {k n : Nat} {i x : Int32} (hy : layC k = .inr (1, n)) (hk : k < NC) (hin : vp_in i n) (hd : decode (zc z) pc = .ok (.castore, 1)) (hq : pc + 1 = q) (kk : E l g z q L st (up2 S.1 k i.toNatClampNeg (vp_nar .char x), S.2) u Qf) : E l g z pc L (.int x :: .int i :: .ref (gaC g k) :: st) S u Qf := by
  subst hq; intro p e R s m args below meth c H locs ls hB hP hS hl
  refine va_cast hB.1 hB.2.1 hB.K.1 hP (hB.K.2.1 S) hS k 1 ((Wd_C hk).trans (congrArg (fun e => some (_, e)) (cellE_arr hy))) rfl hin hd (fun H1 locs1 hP1 _ hS1 => ?_)
  have hw := Wd_setC (g := g) (S := S) (μ' := up2 S.1 k i.toNatClampNeg (vp_nar .char x)) hk (fun a ha => up2_n ha)
  rw [cellE_arr hy, up2_s] at hw
  rw [hw] at hP1
  exact kk p e R s m args below meth c H1 locs1 ls hB hP1 hS1 hl
theorem E_zastC (q : Nat) {k n : Nat} {i x : Int32} (hy : layC k = .inr (2, n)) (hk : k < NC) (hin : vp_in i n) (hd : decode (zc z) pc = .ok (.bastore, 1)) (hq : pc + 1 = q) (kk : E l g z q L st (up2 S.1 k i.toNatClampNeg (vp_nar .boolean x), S.2) u Qf) : E l g z pc L (.int x :: .int i :: .ref (gaC g k) :: st) S u Qf := by
  subst hq; intro p e R s m args below meth c H locs ls hB hP hS hl
  refine va_zast hB.1 hB.2.1 hB.K.1 hP (hB.K.2.1 S) hS k 2 ((Wd_C hk).trans (congrArg (fun e => some (_, e)) (cellE_arr hy))) rfl hin hd (fun H1 locs1 hP1 _ hS1 => ?_)
  have hw := Wd_setC (g := g) (S := S) (μ' := up2 S.1 k i.toNatClampNeg (vp_nar .boolean x)) hk (fun a ha => up2_n ha)
  rw [cellE_arr hy, up2_s] at hw
  rw [hw] at hP1
  exact kk p e R s m args below meth c H1 locs1 ls hB hP1 hS1 hl
theorem E_alenC (q : Nat) {k n t : Nat} (v : Int32) {ty : FieldType} (hy : layC k = .inr (t, n)) (hk : k < NC) (hv : Int32.ofNat n = v) (ht : (tys5 g)[t]? = some (gdA g t, ty)) (hd : decode (zc z) pc = .ok (.arraylength, 1)) (hq : pc + 1 = q) (kk : E l g z q L (.int v :: st) S u Qf) : E l g z pc L (.ref (gaC g k) :: st) S u Qf := by
  subst hq; intro p e R s m args below meth c H locs ls hB hP hS hl
  exact va_alen hB.1 hB.2.1 hB.K.1 hP k t ((Wd_C hk).trans (congrArg (fun e => some (_, e)) (cellE_arr hy))) ht hv hd (kk p e R s m args below meth c H locs ls hB hP hS hl)
theorem E_getM (q : Nat) {index k j : Nat} (hf : Fld none layM NM (zo z) index k j none) (hd : decode (zc z) pc = .ok (.getfield index, 3)) (hq : pc + 3 = q) (kk : E l g z q L (.int (S.2.1 k j) :: st) S u Qf) : E l g z pc L (.ref (gaM g k) :: st) S u Qf := by
  subst hq; intro p e R s m args below meth c H locs ls hB hP hS hl
  obtain ⟨ref, C, T, N, ci, rf, ⟨hl1, hin, hc, hj, hr⟩, hy, hk, hrf⟩ := hf
  exact va_get hB.1 hB.2.1 hB.2.2.2.2.1 hin hB.2.2.2.1 hB.K.1 hP (NC + k) ((Wd_M hk).trans (congrArg (fun e => some (_, e)) (cellE_obj hy))) hc j hj (hB.2.2.2.2.1 _ hl1) (fld_same hr) (fs_i hj hrf) hd (kk p e R s m args below meth c H locs ls hB hP hS hl)
theorem E_getMr (q : Nat) {k2 : Nat} {index k j : Nat} (hf : Fld none layM NM (zo z) index k j (some k2)) (hd : decode (zc z) pc = .ok (.getfield index, 3)) (hq : pc + 3 = q) (kk : E l g z q L (.ref (gaM g k2) :: st) S u Qf) : E l g z pc L (.ref (gaM g k) :: st) S u Qf := by
  subst hq; intro p e R s m args below meth c H locs ls hB hP hS hl
  obtain ⟨ref, C, T, N, ci, rf, ⟨hl1, hin, hc, hj, hr⟩, hy, hk, hrf⟩ := hf
  exact va_get hB.1 hB.2.1 hB.2.2.2.2.1 hin hB.2.2.2.1 hB.K.1 hP (NC + k) ((Wd_M hk).trans (congrArg (fun e => some (_, e)) (cellE_obj hy))) hc j hj (hB.2.2.2.2.1 _ hl1) (fld_same hr) (fs_r hj hrf) hd (kk p e R s m args below meth c H locs ls hB hP hS hl)
theorem E_putM (q : Nat) {index k j : Nat} {x : Int32} (hf : FldP none layM NM (zo z) index k j) (hd : decode (zc z) pc = .ok (.putfield index, 3)) (hq : pc + 3 = q) (kk : E l g z q L st (S.1, up2 S.2.1 k j x, S.2.2) u Qf) : E l g z pc L (.int x :: .ref (gaM g k) :: st) S u Qf := by
  subst hq; intro p e R s m args below meth c H locs ls hB hP hS hl
  obtain ⟨ref, C, T, ty0, N, ci, rf, ⟨hl1, hin, hc, hj, hr⟩, hy, hk, hrf, hfin, ht0, hty, hnm⟩ := hf
  refine va_put (ty := .int) hB.1 hB.2.1 hB.2.2.2.2.1 hin ty0 hty hnm hB.2.2.2.1 hB.K.1 hP (hB.K.2.1 S) hS (NC + k) ((Wd_M hk).trans (congrArg (fun e => some (_, e)) (cellE_obj hy))) hc j hj (hB.2.2.2.2.1 _ hl1) (fld_same hr) hfin (ht0 ▸ hty j hj) rfl rfl (by simpa using hj) hd (fun H1 locs1 hP1 _ hS1 => ?_)
  have hw := Wd_setM (g := g) (S := S) (μ' := up2 S.2.1 k j x) hk (fun a ha => up2_n ha)
  rw [cellE_obj hy, up2_s] at hw
  rw [fs_set hrf, hw] at hP1
  exact kk p e R s m args below meth c H1 locs1 ls hB hP1 hS1 hl
theorem E_getMN (q : Nat) {h : String} {index k j : Nat} (hf : Fld (some h) layM NM (zo z) index k j none) (hd : decode (zc z) pc = .ok (.getfield index, 3)) (hq : pc + 3 = q) (kk : E l g z q L (.int (S.2.1 k j) :: st) S u Qf) : E l g z pc L (.ref (gaM g k) :: st) S u Qf := by
  subst hq; intro p e R s m args below meth c H locs ls hB hP hS hl
  obtain ⟨ref, C, T, N, ci, rf, ⟨hl1, hin, hc, hj, hr⟩, hy, hk, hrf⟩ := hf
  exact va_getN hB.1 hB.2.1 hB.2.2.2.2.1 hin hB.2.2.2.1 hB.K.1 hP (NC + k) ((Wd_M hk).trans (congrArg (fun e => some (_, e)) (cellE_obj hy))) hc j hj (va_Nw.use rfl (hB.nest hl1 rfl)) (fld_same hr) (fs_i hj hrf) hd (kk p e R s m args below meth c H locs ls hB hP hS hl)
theorem E_getMrN (q : Nat) {h : String} {k2 : Nat} {index k j : Nat} (hf : Fld (some h) layM NM (zo z) index k j (some k2)) (hd : decode (zc z) pc = .ok (.getfield index, 3)) (hq : pc + 3 = q) (kk : E l g z q L (.ref (gaM g k2) :: st) S u Qf) : E l g z pc L (.ref (gaM g k) :: st) S u Qf := by
  subst hq; intro p e R s m args below meth c H locs ls hB hP hS hl
  obtain ⟨ref, C, T, N, ci, rf, ⟨hl1, hin, hc, hj, hr⟩, hy, hk, hrf⟩ := hf
  exact va_getN hB.1 hB.2.1 hB.2.2.2.2.1 hin hB.2.2.2.1 hB.K.1 hP (NC + k) ((Wd_M hk).trans (congrArg (fun e => some (_, e)) (cellE_obj hy))) hc j hj (va_Nw.use rfl (hB.nest hl1 rfl)) (fld_same hr) (fs_r hj hrf) hd (kk p e R s m args below meth c H locs ls hB hP hS hl)
theorem E_putMN (q : Nat) {h : String} {index k j : Nat} {x : Int32} (hf : FldP (some h) layM NM (zo z) index k j) (hd : decode (zc z) pc = .ok (.putfield index, 3)) (hq : pc + 3 = q) (kk : E l g z q L st (S.1, up2 S.2.1 k j x, S.2.2) u Qf) : E l g z pc L (.int x :: .ref (gaM g k) :: st) S u Qf := by
  subst hq; intro p e R s m args below meth c H locs ls hB hP hS hl
  obtain ⟨ref, C, T, ty0, N, ci, rf, ⟨hl1, hin, hc, hj, hr⟩, hy, hk, hrf, hfin, ht0, hty, hnm⟩ := hf
  refine va_putN (ty := .int) hB.1 hB.2.1 hB.2.2.2.2.1 hin ty0 hty hnm hB.2.2.2.1 hB.K.1 hP (hB.K.2.1 S) hS (NC + k) ((Wd_M hk).trans (congrArg (fun e => some (_, e)) (cellE_obj hy))) hc j hj (va_Nw.use rfl (hB.nest hl1 rfl)) (fld_same hr) hfin (ht0 ▸ hty j hj) rfl rfl (by simpa using hj) hd (fun H1 locs1 hP1 _ hS1 => ?_)
  have hw := Wd_setM (g := g) (S := S) (μ' := up2 S.2.1 k j x) hk (fun a ha => up2_n ha)
  rw [cellE_obj hy, up2_s] at hw
  rw [fs_set hrf, hw] at hP1
  exact kk p e R s m args below meth c H1 locs1 ls hB hP1 hS1 hl
theorem E_ialdM (q : Nat) {k n : Nat} {i : Int32} (hy : layM k = .inr (0, n)) (hk : k < NM) (hin : vp_in i n) (hd : decode (zc z) pc = .ok (.iaload, 1)) (hq : pc + 1 = q) (kk : E l g z q L (.int (S.2.1 k i.toNatClampNeg) :: st) S u Qf) : E l g z pc L (.int i :: .ref (gaM g k) :: st) S u Qf := by
  subst hq; intro p e R s m args below meth c H locs ls hB hP hS hl
  exact va_iald hB.1 hB.2.1 hB.K.1 hP (NC + k) 0 ((Wd_M hk).trans (congrArg (fun e => some (_, e)) (cellE_arr hy))) rfl hin hd (kk p e R s m args below meth c H locs ls hB hP hS hl)
theorem E_caldM (q : Nat) {k n : Nat} {i : Int32} (hy : layM k = .inr (1, n)) (hk : k < NM) (hin : vp_in i n) (hd : decode (zc z) pc = .ok (.caload, 1)) (hq : pc + 1 = q) (kk : E l g z q L (.int (S.2.1 k i.toNatClampNeg) :: st) S u Qf) : E l g z pc L (.int i :: .ref (gaM g k) :: st) S u Qf := by
  subst hq; intro p e R s m args below meth c H locs ls hB hP hS hl
  exact va_cald hB.1 hB.2.1 hB.K.1 hP (NC + k) 1 ((Wd_M hk).trans (congrArg (fun e => some (_, e)) (cellE_arr hy))) rfl hin hd (kk p e R s m args below meth c H locs ls hB hP hS hl)
theorem E_zaldM (q : Nat) {k n : Nat} {i : Int32} (hy : layM k = .inr (2, n)) (hk : k < NM) (hin : vp_in i n) (hd : decode (zc z) pc = .ok (.baload, 1)) (hq : pc + 1 = q) (kk : E l g z q L (.int (S.2.1 k i.toNatClampNeg) :: st) S u Qf) : E l g z pc L (.int i :: .ref (gaM g k) :: st) S u Qf := by
  subst hq; intro p e R s m args below meth c H locs ls hB hP hS hl
  exact va_zald hB.1 hB.2.1 hB.K.1 hP (NC + k) 2 ((Wd_M hk).trans (congrArg (fun e => some (_, e)) (cellE_arr hy))) rfl hin hd (kk p e R s m args below meth c H locs ls hB hP hS hl)
theorem E_iastM (q : Nat) {k n : Nat} {i x : Int32} (hy : layM k = .inr (0, n)) (hk : k < NM) (hin : vp_in i n) (hd : decode (zc z) pc = .ok (.iastore, 1)) (hq : pc + 1 = q) (kk : E l g z q L st (S.1, up2 S.2.1 k i.toNatClampNeg x, S.2.2) u Qf) : E l g z pc L (.int x :: .int i :: .ref (gaM g k) :: st) S u Qf := by
  subst hq; intro p e R s m args below meth c H locs ls hB hP hS hl
  refine va_iast hB.1 hB.2.1 hB.K.1 hP (hB.K.2.1 S) hS (NC + k) 0 ((Wd_M hk).trans (congrArg (fun e => some (_, e)) (cellE_arr hy))) rfl hin hd (fun H1 locs1 hP1 _ hS1 => ?_)
  have hw := Wd_setM (g := g) (S := S) (μ' := up2 S.2.1 k i.toNatClampNeg x) hk (fun a ha => up2_n ha)
  rw [cellE_arr hy, up2_s] at hw
  rw [hw] at hP1
  exact kk p e R s m args below meth c H1 locs1 ls hB hP1 hS1 hl
theorem E_castM (q : Nat) {k n : Nat} {i x : Int32} (hy : layM k = .inr (1, n)) (hk : k < NM) (hin : vp_in i n) (hd : decode (zc z) pc = .ok (.castore, 1)) (hq : pc + 1 = q) (kk : E l g z q L st (S.1, up2 S.2.1 k i.toNatClampNeg (vp_nar .char x), S.2.2) u Qf) : E l g z pc L (.int x :: .int i :: .ref (gaM g k) :: st) S u Qf := by
  subst hq; intro p e R s m args below meth c H locs ls hB hP hS hl
  refine va_cast hB.1 hB.2.1 hB.K.1 hP (hB.K.2.1 S) hS (NC + k) 1 ((Wd_M hk).trans (congrArg (fun e => some (_, e)) (cellE_arr hy))) rfl hin hd (fun H1 locs1 hP1 _ hS1 => ?_)
  have hw := Wd_setM (g := g) (S := S) (μ' := up2 S.2.1 k i.toNatClampNeg (vp_nar .char x)) hk (fun a ha => up2_n ha)
  rw [cellE_arr hy, up2_s] at hw
  rw [hw] at hP1
  exact kk p e R s m args below meth c H1 locs1 ls hB hP1 hS1 hl
theorem E_zastM (q : Nat) {k n : Nat} {i x : Int32} (hy : layM k = .inr (2, n)) (hk : k < NM) (hin : vp_in i n) (hd : decode (zc z) pc = .ok (.bastore, 1)) (hq : pc + 1 = q) (kk : E l g z q L st (S.1, up2 S.2.1 k i.toNatClampNeg (vp_nar .boolean x), S.2.2) u Qf) : E l g z pc L (.int x :: .int i :: .ref (gaM g k) :: st) S u Qf := by
  subst hq; intro p e R s m args below meth c H locs ls hB hP hS hl
  refine va_zast hB.1 hB.2.1 hB.K.1 hP (hB.K.2.1 S) hS (NC + k) 2 ((Wd_M hk).trans (congrArg (fun e => some (_, e)) (cellE_arr hy))) rfl hin hd (fun H1 locs1 hP1 _ hS1 => ?_)
  have hw := Wd_setM (g := g) (S := S) (μ' := up2 S.2.1 k i.toNatClampNeg (vp_nar .boolean x)) hk (fun a ha => up2_n ha)
  rw [cellE_arr hy, up2_s] at hw
  rw [hw] at hP1
  exact kk p e R s m args below meth c H1 locs1 ls hB hP1 hS1 hl
theorem E_alenM (q : Nat) {k n t : Nat} (v : Int32) {ty : FieldType} (hy : layM k = .inr (t, n)) (hk : k < NM) (hv : Int32.ofNat n = v) (ht : (tys5 g)[t]? = some (gdA g t, ty)) (hd : decode (zc z) pc = .ok (.arraylength, 1)) (hq : pc + 1 = q) (kk : E l g z q L (.int v :: st) S u Qf) : E l g z pc L (.ref (gaM g k) :: st) S u Qf := by
  subst hq; intro p e R s m args below meth c H locs ls hB hP hS hl
  exact va_alen hB.1 hB.2.1 hB.K.1 hP (NC + k) t ((Wd_M hk).trans (congrArg (fun e => some (_, e)) (cellE_arr hy))) ht hv hd (kk p e R s m args below meth c H locs ls hB hP hS hl)
theorem E_lald (q : Nat) {i : Int32} (hin : vp_in i 1) (hd : decode (zc z) pc = .ok (.laload, 1)) (hq : pc + 1 = q) (kk : E l g z q L (.long (S.2.2.1 i.toNatClampNeg) :: st) S u Qf) : E l g z pc L (.int i :: .ref (gao g 0) :: st) S u Qf := by
  subst hq; intro p e R s m args below meth c H locs ls hB hP hS hl
  exact va_lald hB.1 hB.2.1 hB.K.1 hP (NC + (NM + 0)) 3 (Wd_o.trans rfl) rfl hin hd (kk p e R s m args below meth c H locs ls hB hP hS hl)
theorem E_dald (q : Nat) {i : Int32} (hin : vp_in i 1) (hd : decode (zc z) pc = .ok (.daload, 1)) (hq : pc + 1 = q) (kk : E l g z q L (.double (S.2.2.2 i.toNatClampNeg) :: st) S u Qf) : E l g z pc L (.int i :: .ref (gao g 1) :: st) S u Qf := by
  subst hq; intro p e R s m args below meth c H locs ls hB hP hS hl
  exact va_dald hB.1 hB.2.1 hB.K.1 hP (NC + (NM + 1)) 4 (Wd_o.trans rfl) rfl hin hd (kk p e R s m args below meth c H locs ls hB hP hS hl)
theorem E_last (q : Nat) {i : Int32} {x : Int64} (hin : vp_in i 1) (hd : decode (zc z) pc = .ok (.lastore, 1)) (hq : pc + 1 = q) (kk : E l g z q L st (S.1, S.2.1, vp_updL S.2.2.1 i.toNatClampNeg x, S.2.2.2) u Qf) : E l g z pc L (.long x :: .int i :: .ref (gao g 0) :: st) S u Qf := by
  subst hq; intro p e R s m args below meth c H locs ls hB hP hS hl
  refine va_last hB.1 hB.2.1 hB.K.1 hP (hB.K.2.1 S) hS (NC + (NM + 0)) 3 (Wd_o.trans rfl) rfl hin hd (fun H1 locs1 hP1 _ hS1 => ?_)
  rw [Wd_seto] at hP1
  exact kk p e R s m args below meth c H1 locs1 ls hB hP1 hS1 hl
theorem E_dast (q : Nat) {i : Int32} {x : UInt64} (hin : vp_in i 1) (hd : decode (zc z) pc = .ok (.dastore, 1)) (hq : pc + 1 = q) (kk : E l g z q L st (S.1, S.2.1, S.2.2.1, vf_upd S.2.2.2 i.toNatClampNeg x) u Qf) : E l g z pc L (.double x :: .int i :: .ref (gao g 1) :: st) S u Qf := by
  subst hq; intro p e R s m args below meth c H locs ls hB hP hS hl
  refine va_dast hB.1 hB.2.1 hB.K.1 hP (hB.K.2.1 S) hS (NC + (NM + 1)) 4 (Wd_o.trans rfl) rfl hin hd (fun H1 locs1 hP1 _ hS1 => ?_)
  rw [Wd_setd] at hP1
  exact kk p e R s m args below meth c H1 locs1 ls hB hP1 hS1 hl
theorem E_getF (q : Nat) {index : Nat} (hl1 : Cond.fieldLink (zo z) index "FraudSieve$Bank" "FEATURES" "[C" ∈ big) (hd : decode (zc z) pc = .ok (.getstatic index, 3)) (hq : pc + 3 = q) (kk : E l g z q L (.ref (gtF g) :: st) S u Qf) : E l g z pc L st S u Qf := by
  subst hq; intro p e R s m args below meth c H locs ls hB hP hS hl
  exact va_gets hB.1 hB.2.1 hB.K.2.2.2.2.1 hS hB.2.2.2.1 (hB.2.2.2.2.1 _ hl1) (fun _ h => h) hd (kk p e R s m args below meth c H locs ls hB hP hS hl)
theorem E_lenF (q : Nat) (v : Int32) (hv : Int32.ofNat 13 = v) (hd : decode (zc z) pc = .ok (.arraylength, 1)) (hq : pc + 1 = q) (kk : E l g z q L (.int v :: st) S u Qf) : E l g z pc L (.ref (gtF g) :: st) S u Qf := by
  subst hq; intro p e R s m args below meth c H locs ls hB hP hS hl
  exact va_tlen hB.1 hB.2.1 hB.K.2.2.2.2.2.1 hS hv hd (kk p e R s m args below meth c H locs ls hB hP hS hl)
theorem E_caldF (q : Nat) {i : Int32} (hin : vp_in i 13) (hd : decode (zc z) pc = .ok (.caload, 1)) (hq : pc + 1 = q) (kk : E l g z q L (featV i.toNatClampNeg :: st) S u Qf) : E l g z pc L (.int i :: .ref (gtF g) :: st) S u Qf := by
  subst hq; intro p e R s m args below meth c H locs ls hB hP hS hl
  exact va_tc hB.1 hB.2.1 hB.K.2.2.2.2.2.1 hS hin rfl hd (kk p e R s m args below meth c H locs ls hB hP hS hl)
end EMEM
section EEND
variable {l : Launch} {g : Gt} {z : Zt} {pc : Nat} {L : List (Nat × Value)} {S : Sg} {u U : Nat}
theorem Qo_end {args : Array Value} {s t : State} {H : Heap} {locs : List Loc} {v : Option Value} (hP : va_P (gD g) cls9 (Wd g S) H) (hS : va_S (gA g) s.heap H locs) (ht : t.heap = H) : Qo g (.inl v) S args s (.returned v) t := ⟨v, rfl, rfl, by rw [ht]; exact hP, hS.F ht⟩
theorem E_iret {v : Int32} (hd : decode (zc z) pc = .ok (.ireturn, 1)) (hr : zr z = some .int) (h1 : zk z + u ≤ U) (h2 : zn z + 6 * u ≤ 6 * U) : E l g z pc L [.int v] S u (QM g (.inl (some (.int v))) S U) := by
  intro p e R s m args below meth c H locs ls hB hP hS hl
  have hlocks : meth.locks = false := hB.2.2.2.2.2.2.1
  refine W.widen h1 h2 (vx_ret ?_)
  exact W.iret hB.1 hB.2.1 (hB.2.2.2.2.2.1.trans hr) (fun t ht _ => Qo_end hP hS ht) hS.2.2 hd
theorem E_lret {v : Int64} (hd : decode (zc z) pc = .ok (.lreturn, 1)) (hr : zr z = some .long) (h1 : zk z + u ≤ U) (h2 : zn z + 6 * u ≤ 6 * U) : E l g z pc L [.long v] S u (QM g (.inl (some (.long v))) S U) := by
  intro p e R s m args below meth c H locs ls hB hP hS hl
  have hlocks : meth.locks = false := hB.2.2.2.2.2.2.1
  refine W.widen h1 h2 (vx_ret ?_)
  exact W.lret hB.1 hB.2.1 (hB.2.2.2.2.2.1.trans hr) (fun t ht _ => Qo_end hP hS ht) hS.2.2 hd
theorem E_fret {v : UInt32} (hd : decode (zc z) pc = .ok (.freturn, 1)) (hr : zr z = some .float) (h1 : zk z + u ≤ U) (h2 : zn z + 6 * u ≤ 6 * U) : E l g z pc L [.float v] S u (QM g (.inl (some (.float v))) S U) := by
  intro p e R s m args below meth c H locs ls hB hP hS hl
  have hlocks : meth.locks = false := hB.2.2.2.2.2.2.1
  refine W.widen h1 h2 (vx_ret ?_)
  exact W.fret hB.1 hB.2.1 (hB.2.2.2.2.2.1.trans hr) (fun t ht _ => Qo_end hP hS ht) hS.2.2 hd
theorem E_dret {v : UInt64} (hd : decode (zc z) pc = .ok (.dreturn, 1)) (hr : zr z = some .double) (h1 : zk z + u ≤ U) (h2 : zn z + 6 * u ≤ 6 * U) : E l g z pc L [.double v] S u (QM g (.inl (some (.double v))) S U) := by
  intro p e R s m args below meth c H locs ls hB hP hS hl
  have hlocks : meth.locks = false := hB.2.2.2.2.2.2.1
  refine W.widen h1 h2 (vx_ret ?_)
  exact W.dret hB.1 hB.2.1 (hB.2.2.2.2.2.1.trans hr) (fun t ht _ => Qo_end hP hS ht) hS.2.2 hd
theorem E_zret {v : Int32} {ty : FieldType} (hn : narrow ty (.int v) = .int v) (hd : decode (zc z) pc = .ok (.ireturn, 1)) (hr : zr z = some ty) (h1 : zk z + u ≤ U) (h2 : zn z + 6 * u ≤ 6 * U) : E l g z pc L [.int v] S u (QM g (.inl (some (.int v))) S U) := by
  intro p e R s m args below meth c H locs ls hB hP hS hl
  have hlocks : meth.locks = false := hB.2.2.2.2.2.2.1
  refine W.widen h1 h2 (vx_ret ?_)
  exact W.zret hB.1 hB.2.1 (hB.2.2.2.2.2.1.trans hr) hn (fun t ht _ => Qo_end hP hS ht) hS.2.2 hd
theorem E_vret (hd : decode (zc z) pc = .ok (.return_, 1)) (hr : zr z = none) (h1 : zk z + u ≤ U) (h2 : zn z + 6 * u ≤ 6 * U) : E l g z pc L [] S u (QM g (.inl none) S U) := by
  intro p e R s m args below meth c H locs ls hB hP hS hl
  have hlocks : meth.locks = false := hB.2.2.2.2.2.2.1
  refine W.widen h1 h2 (vx_ret ?_)
  exact W.vret hB.1 hB.2.1 (hB.2.2.2.2.2.1.trans hr) (fun t ht _ => Qo_end hP hS ht) hS.2.2 hd
end EEND
