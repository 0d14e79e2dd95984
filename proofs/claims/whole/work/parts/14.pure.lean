def fuel : Nat := 5000
def f_X4_firstAfter_L2 (kx26 : (Int32 → Option (Int32))) (x1 : Int32) (μ : Mm) : Nat → Int32 → Option (Int32)
  | 0, _ => none
  | n + 1, x3 => (if (μ 3 4 : Int32) ≤ x3 then kx26 x3 else (chk x3 200 ((if (x1 : Int32) < μ 13 x3.toNatClampNeg then kx26 x3 else f_X4_firstAfter_L2 kx26 x1 μ n (x3 + 1)))))
def f_X4_firstAfter (a1 : Int32) (a2 : Int32) (μ : Mm) : Option (Int32) := f_X4_firstAfter_L2 (fun (y4 : Int32) => some y4) a1 μ fuel a2
def f_X7_hasBit (a0 : Int32) (a1 : Int32)  : Option (Int32) := (if ((a0 >>> (a1 &&& 31)) &&& 1 : Int32) = 0 then some 0 else some 1)
def f_X7_withBit (a0 : Int32) (a1 : Int32) (a2 : Int32)  : Option (Int32) := (if (a2 : Int32) = 0 then some (a0 &&& ((1 <<< (a1 &&& 31)) ^^^ (-1))) else some (a0 ||| (1 <<< (a1 &&& 31))))
def f_X4_receiversFrom_L6  (x1 : Int32) (x3 : Int32) (μ : Mm) : Nat → Int32 → Int32 → Option (Int32)
  | 0, _, _ => none
  | n + 1, x4, x5 => (if (x3 : Int32) ≤ x5 then some x4 else (chk x5 200 ((if (μ 10 x5.toNatClampNeg : Int32) = x1 then (chk x5 200 (((f_X7_withBit x4 (μ 11 x5.toNatClampNeg) 1).bind (fun r5 => f_X4_receiversFrom_L6 x1 x3 μ n r5 (x5 + 1))))) else f_X4_receiversFrom_L6 x1 x3 μ n x4 (x5 + 1)))))
def f_X4_receiversFrom (a1 : Int32) (a2 : Int32) (a3 : Int32) (μ : Mm) : Option (Int32) := f_X4_receiversFrom_L6 a1 a3 μ fuel 0 a2
def f_X4_sumOf_10_L6  (x2 : Int32) (x4 : Int32) (μ : Mm) : Nat → Int32 → Int32 → Option (Int32)
  | 0, _, _ => none
  | n + 1, x5, x6 => (if (x4 : Int32) ≤ x6 then some x5 else (chk x6 200 ((if (μ 10 x6.toNatClampNeg : Int32) = x2 then (chk x6 200 (f_X4_sumOf_10_L6 x2 x4 μ n (x5 + (μ 12 x6.toNatClampNeg)) (x6 + 1))) else f_X4_sumOf_10_L6 x2 x4 μ n x5 (x6 + 1)))))
def f_X4_sumOf_10 (a2 : Int32) (a3 : Int32) (a4 : Int32) (μ : Mm) : Option (Int32) := f_X4_sumOf_10_L6 a2 a4 μ fuel 0 a3
def f_X1_keptSum (a1 : Int32) (a2 : Int32) (μ : Mm) : Option (Int32) := ((f_X4_firstAfter ((μ 1 3) - a2) (μ 1 4) μ).bind (fun r1 => ((f_X4_sumOf_10 a1 r1 (μ 3 4) μ).bind (fun r3 => some r3))))
def f_X5_load_3_L3 (kx32 : (Mm → Option (Mm))) (x2 : Int32) (x3 : Int32)  : Nat → Int32 → Mm → Option (Mm)
  | 0, _, _ => none
  | n + 1, x4, μ => (if (20 : Int32) ≤ x4 then kx32 μ else (chk x4 20 ((chk x4 20 (f_X5_load_3_L3 kx32 x2 x3 n (x4 + 1) (up2 (up2 μ 14 x4.toNatClampNeg 0) 15 x4.toNatClampNeg 0))))))
def f_X5_load_3_L35  (x3 : Int32)  : Nat → Int32 → Mm → Option (Mm)
  | 0, _, _ => none
  | n + 1, x4, μ => (if (x3 : Int32) ≤ x4 then some μ else (chk x4 200 ((chk x4 200 ((chk (μ 10 x4.toNatClampNeg) 20 (((f_X7_withBit (μ 14 (μ 10 x4.toNatClampNeg).toNatClampNeg) (μ 11 x4.toNatClampNeg) 1).bind (fun r9 => (chk (μ 10 x4.toNatClampNeg) 20 ((chk (μ 10 x4.toNatClampNeg) 20 (((f_X7_withBit ((up2 μ 14 (μ 10 x4.toNatClampNeg).toNatClampNeg r9) 15 (μ 10 x4.toNatClampNeg).toNatClampNeg) (μ 11 x4.toNatClampNeg) 1).bind (fun r13 => (chk (μ 10 x4.toNatClampNeg) 20 ((chk (μ 11 x4.toNatClampNeg) 20 (((f_X7_withBit ((up2 (up2 μ 14 (μ 10 x4.toNatClampNeg).toNatClampNeg r9) 15 (μ 10 x4.toNatClampNeg).toNatClampNeg r13) 15 (μ 11 x4.toNatClampNeg).toNatClampNeg) (μ 10 x4.toNatClampNeg) 1).bind (fun r17 => (chk (μ 11 x4.toNatClampNeg) 20 (f_X5_load_3_L35 x3 n (x4 + 1) (up2 (up2 (up2 μ 14 (μ 10 x4.toNatClampNeg).toNatClampNeg r9) 15 (μ 10 x4.toNatClampNeg).toNatClampNeg r13) 15 (μ 11 x4.toNatClampNeg).toNatClampNeg r17))))))))))))))))))))))))
def f_X5_load_3 (a2 : Int32) (a3 : Int32) (μ : Mm) : Option (Mm) := f_X5_load_3_L3 (fun (m4 : Mm) => f_X5_load_3_L35 a3 fuel a2 m4) a2 a3 fuel 0 μ
def f_X1_networkOf (a1 : Int32) (a2 : Int32) (μ : Mm) : Option (Mm) := ((f_X5_load_3 a1 a2 μ).bind (fun r1 => some r1))
def f_X7_requireAccount (a1 : Int32) (μ : Mm) : Option (Nat) := (if (a1 : Int32) < 0 then some 1 else (if (a1 : Int32) < μ 2 2 then some 0 else some 1))
def f_X7_isMarked (a1 : Int32) (μ : Mm) : Option (Nat × Int32) := ((f_X7_requireAccount a1 μ).bind (fun r1 => (if r1 = 0 then ((f_X7_hasBit (μ 2 3) a1).bind (fun r4 => (gn .boolean r4 (some (0, r4))))) else some (r1, 0))))
def f_X0_append (a1 : Int32) (a2 : Int32) (μ : Mm) : Option (Int32 × Mm) := (chk (μ 2 2) 20 ((chk ((up2 μ 8 (μ 2 2).toNatClampNeg (vp_nar .char a1)) 2 2) 20 (some ((up2 (up2 μ 8 (μ 2 2).toNatClampNeg (vp_nar .char a1)) 9 ((up2 μ 8 (μ 2 2).toNatClampNeg (vp_nar .char a1)) 2 2).toNatClampNeg a2) 2 2, (up2 (up2 (up2 μ 8 (μ 2 2).toNatClampNeg (vp_nar .char a1)) 9 ((up2 μ 8 (μ 2 2).toNatClampNeg (vp_nar .char a1)) 2 2).toNatClampNeg a2) 2 2 (((up2 (up2 μ 8 (μ 2 2).toNatClampNeg (vp_nar .char a1)) 9 ((up2 μ 8 (μ 2 2).toNatClampNeg (vp_nar .char a1)) 2 2).toNatClampNeg a2) 2 2) + 1)))))))
def f_X7_open (a1 : Int32) (μ : Mm) : Option (Nat × Int32 × Mm) := (if (a1 : Int32) < 97 then some (4, 0, μ) else (if (a1 : Int32) ≤ 100 then (if (μ 2 2 : Int32) < 20 then ((f_X0_append a1 (μ 1 3) μ).bind (fun r4 => some (0, r4.1, r4.2))) else some (3, 0, μ)) else some (4, 0, μ)))
def f_X8_isBetween (a0 : Int32) (a1 : Int32) (a2 : Int32)  : Option (Int32) := (if (a0 : Int32) < a1 then some 0 else (if (a2 : Int32) < a0 then some 0 else some 1))
def f_X8_isAccount (a1 : Int32) (ν : Mm) : Option (Int32) := ((f_X8_isBetween a1 0 ((ν 0 3) - 1)).bind (fun r1 => (gn .boolean r1 (some r1))))
def f_X8_isIn (a1 : Int32) (a2 : Int32) (a3 : Int32) (ν : Mm) : Option (Int32) := (chk a1 200 ((if (ν 6 a1.toNatClampNeg : Int32) ≤ a3 - a2 then some 0 else (chk a1 200 ((if (a3 : Int32) < ν 6 a1.toNatClampNeg then some 0 else some 1))))))
def f_X8_spreads_L3 (kx27 : (Mm → Option (Mm))) (x1 : Int32) (x2 : Int32) (x3 : Int32) (x4 : Int32) (x5 : Int32)  : Nat → Int32 → Mm → Option (Mm)
  | 0, _, _ => none
  | n + 1, x6, ν => (if (ν 0 3 : Int32) ≤ x6 then kx27 ν else (chk x6 20 (f_X8_spreads_L3 kx27 x1 x2 x3 x4 x5 n (x6 + 1) (up2 ν 11 x6.toNatClampNeg 99))))
def f_X8_spreads_J120 (kb37 : (Int32 → Mm → Option (Mm))) (kb49 : (Int32 → Mm → Option (Mm))) (kx181 : (Mm → Option (Mm))) (x2 : Int32) (x3 : Int32) (x4 : Int32) (x5 : Int32) (x6 : Int32) (x7 : Int32)  (ν : Mm) : Option (Mm) := (if (x5 : Int32) = 0 then kb49 (x7 + 1) ν else (chk x7 200 ((chk (ν 4 x7.toNatClampNeg) 20 ((if (ν 11 (ν 4 x7.toNatClampNeg).toNatClampNeg : Int32) = x6 then (chk x7 200 ((chk (ν 3 x7.toNatClampNeg) 20 ((if (ν 11 (ν 3 x7.toNatClampNeg).toNatClampNeg : Int32) = 99 then (chk x7 200 ((chk (ν 3 x7.toNatClampNeg) 20 (kb49 (x7 + 1) (up2 ν 11 (ν 3 x7.toNatClampNeg).toNatClampNeg (x6 + 1)))))) else kb49 (x7 + 1) ν))))) else kb49 (x7 + 1) ν))))))
def f_X8_spreads_L49 (kb37 : (Int32 → Mm → Option (Mm))) (kx181 : (Mm → Option (Mm))) (x2 : Int32) (x3 : Int32) (x4 : Int32) (x5 : Int32) (x6 : Int32)  : Nat → Int32 → Mm → Option (Mm)
  | 0, _, _ => none
  | n + 1, x7, ν => (if (x2 : Int32) < x7 then kx181 ν else ((f_X8_isIn x7 x3 x4 ν).bind (fun r7 => (if (r7 : Int32) = 0 then f_X8_spreads_L49 kb37 kx181 x2 x3 x4 x5 x6 n (x7 + 1) ν else (chk x7 200 ((chk (ν 3 x7.toNatClampNeg) 20 ((if (ν 11 (ν 3 x7.toNatClampNeg).toNatClampNeg : Int32) = x6 then (chk x7 200 ((chk (ν 4 x7.toNatClampNeg) 20 ((if (ν 11 (ν 4 x7.toNatClampNeg).toNatClampNeg : Int32) = 99 then (chk x7 200 ((chk (ν 4 x7.toNatClampNeg) 20 (f_X8_spreads_J120 kb37 (f_X8_spreads_L49 kb37 kx181 x2 x3 x4 x5 x6 n) kx181 x2 x3 x4 x5 x6 x7 (up2 ν 11 (ν 4 x7.toNatClampNeg).toNatClampNeg (x6 + 1)))))) else f_X8_spreads_J120 kb37 (f_X8_spreads_L49 kb37 kx181 x2 x3 x4 x5 x6 n) kx181 x2 x3 x4 x5 x6 x7 ν))))) else f_X8_spreads_J120 kb37 (f_X8_spreads_L49 kb37 kx181 x2 x3 x4 x5 x6 n) kx181 x2 x3 x4 x5 x6 x7 ν)))))))))
def f_X8_spreads_L37  (x2 : Int32) (x3 : Int32) (x4 : Int32) (x5 : Int32)  : Nat → Int32 → Mm → Option (Mm)
  | 0, _, _ => none
  | n + 1, x6, ν => (if (ν 0 3 : Int32) ≤ x6 then some ν else f_X8_spreads_L49 (f_X8_spreads_L37 x2 x3 x4 x5 n) (fun (m27 : Mm) => f_X8_spreads_L37 x2 x3 x4 x5 n (x6 + 1) m27) x2 x3 x4 x5 x6 fuel 0 ν)
def f_X8_spreads (a1 : Int32) (a2 : Int32) (a3 : Int32) (a4 : Int32) (a5 : Int32) (ν : Mm) : Option (Mm) := f_X8_spreads_L3 (fun (m3 : Mm) => (chk a1 20 (f_X8_spreads_L37 a2 a3 a4 a5 fuel 0 (up2 m3 11 a1.toNatClampNeg 0)))) a1 a2 a3 a4 a5 fuel 0 ν
