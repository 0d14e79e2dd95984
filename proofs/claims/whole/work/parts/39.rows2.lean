theorem E_tableEq {l : Launch} {g : Gt} {z : Zt} {pc : Nat} {L : List (Nat × Value)} {st : List Value} {S : Sg} {u : Nat} {Qf : Fz} (t : Nat) {dflt lo hi : Int} {offs : Array Int} {len : Nat} {x v : Int32} {off : Int} (hd : decode (zc z) pc = .ok (.tableswitch dflt lo hi offs, len)) (hx : x = v) (h1 : ¬ v.toInt < lo) (h2 : ¬ hi < v.toInt) (ho : offs[(v.toInt - lo).toNat]? = some off) (ht : (pc : Int) + off = (t : Int)) (kk : E l g z t L st S u Qf) : E l g z pc L (.int x :: st) S u Qf := by
  subst hx
  exact E_tableIn t hd h1 h2 ho ht kk
