
abbrev z_L_law : Zt := (RL, code, 9, ret, room_1, [], 64, 20000)
/-- the law's end, from a start that is the run's own -/
def Qlaw (g : Gt) (b Ls : Nat) (xs : Nat → Int32) : Fz := fun below args s t => (args = #[.ref b] ∧ gN g = s.heap.size ∧ b < s.heap.size ∧ va_X b Ls xs s s.heap) → lw_Z below #[.ref b] s t
section ELAW
variable {l : Launch} {g : Gt} {z : Zt} {pc : Nat} {L : List (Nat × Value)} {st : List Value} {S : Sg} {u : Nat} {Qf : Fz}
theorem E_up {u' : Nat} (h : u ≤ u') (kk : E l g z pc L st S u' Qf) : E l g z pc L st S u Qf := by
  intro p e R s m args below meth c H locs ls hB hP hS hl
  exact W.widen (by omega) (by omega) (kk p e R s m args below meth c H locs ls hB hP hS hl)
theorem E_sld (q : Nat) {b Ls : Nat} {xs : Nat → Int32} {i : Int32} (hin : vp_in i Ls) (hd : decode (zc z) pc = .ok (.iaload, 1)) (hq : pc + 1 = q) (kk : E l g z q L (.int (xs i.toNatClampNeg) :: st) S u (Qlaw g b Ls xs)) : E l g z pc L (.int i :: .ref b :: st) S u (Qlaw g b Ls xs) := by
  subst hq; intro p e R s m args below meth c H locs ls hB hP hS hl
  by_cases h : args = #[.ref b] ∧ gN g = s.heap.size ∧ b < s.heap.size ∧ va_X b Ls xs s s.heap
  · exact va_sld hB.1 hB.2.1 h.2.2.2 h.2.2.1 (fun hb => Nat.not_le.mpr h.2.2.1 (h.2.1 ▸ hb)) hS hin hd (kk p e R s m args below meth c H locs ls hB hP hS hl)
  · intro T hT X
    exact ⟨_, Steps.refl _, fun h' => absurd h' h⟩
theorem E_slen (q : Nat) {b Ls : Nat} {xs : Nat → Int32} (hd : decode (zc z) pc = .ok (.arraylength, 1)) (hq : pc + 1 = q) (kk : E l g z q L (.int (nI Ls) :: st) S u (Qlaw g b Ls xs)) : E l g z pc L (.ref b :: st) S u (Qlaw g b Ls xs) := by
  subst hq; intro p e R s m args below meth c H locs ls hB hP hS hl
  by_cases h : args = #[.ref b] ∧ gN g = s.heap.size ∧ b < s.heap.size ∧ va_X b Ls xs s s.heap
  · exact va_slen hB.1 hB.2.1 h.2.2.2 h.2.2.1 (fun hb => Nat.not_le.mpr h.2.2.1 (h.2.1 ▸ hb)) hS hd (kk p e R s m args below meth c H locs ls hB hP hS hl)
  · intro T hT X
    exact ⟨_, Steps.refl _, fun h' => absurd h' h⟩
end ELAW
theorem law_end {l : Launch} {g : Gt} {pc : Nat} {L : List (Nat × Value)} {S : Sg} {u b Ls : Nat} {xs : Nat → Int32} (hu : u ≤ 2100) (hd : decode code pc = .ok (.ireturn, 1)) : E l g z_L_law pc L [.int 1] S u (Qlaw g b Ls xs) := by
  intro p e R s m args below meth c H locs ls hB hP hS hl
  by_cases h : args = #[.ref b] ∧ gN g = s.heap.size ∧ b < s.heap.size ∧ va_X b Ls xs s s.heap
  · obtain ⟨rfl, hN, hb, hX⟩ := h
    have hRe : R = room_1 := hB.2.2.2.2.2.2.2.2.2.1
    subst hRe
    refine va_forget (fun q hq => hN ▸ hS.2.2 q hq) ?_
    refine W.widen (k := 603072) (n := 7202921) (by show 64 + u ≤ 603072; omega) (by show 20000 + 6 * u ≤ 7202921; omega) ?_
    have K : W p l e room_1 s m #[.ref b] below meth c H [] 603072 7202921 (lw_Z below #[.ref b] s) (F0 m pc ls [.int 1]) := W.base (lw_ret (Drawn.sameBut.refl s.drawn lw_cs) hB.1 hB.2.1 hB.2.2.2.2.2.1 hB.2.2.2.2.2.2.1 hd)
    intro T hT X
    obtain ⟨t, a1, a2⟩ := K T hT X
    exact ⟨t, a1, fun _ => a2⟩
  · intro T hT X
    exact ⟨_, Steps.refl _, fun h' => absurd h' h⟩
theorem rmlaw {z' : Zt} {u u' : Nat} (hu : u ≤ 2100) (h : (Nat.beq (zm z').cells u' && (Nat.beq (zm z').slots (6 * u') && (Nat.ble ((zm z').frames + 1) 2048 && (Nat.ble (8 + (zL z' + 11) + (zm z').locals) 94400 && Nat.ble u' 4)))) = true) : RmOk z' z_L_law u u' := by
  simp only [Bool.and_eq_true] at h
  obtain ⟨h1, h2, h3, h4, h5⟩ := h
  have h5 := Nat.le_of_ble_eq_true h5
  exact ⟨Nat.eq_of_beq_eq_true h1, Nat.eq_of_beq_eq_true h2, Nat.le_of_ble_eq_true h3, Nat.le_of_ble_eq_true h4, (by show 64 + u + u' ≤ 603072; omega), (by show 20000 + 6 * u + 6 * u' ≤ 7202921; omega)⟩
