theorem pure_run (L : Nat) (xs : Nat → Int32) (hL : L ≤ 2560) : f_L_loop L xs 520 0 mu0 nu0 (fun _ => 0) (fun _ => 0) = some () := sorry
