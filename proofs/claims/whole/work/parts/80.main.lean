theorem pl_main (L : Nat) (xs : Nat → Int32) (n : Nat) (hL : L ≤ 4096) : fn_Law_law L xs n (fun _ => pl_dum) = some 1 := lw_main L xs n hL
