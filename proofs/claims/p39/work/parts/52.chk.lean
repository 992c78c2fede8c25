def zAll (a n : Nat) : Bool := (List.range' a n).all fun y => (zmC (zP y)).all fun q => zok zCl zic zP y q.1 q.2
theorem zk_0 : zAll 0 1 = true := by decide +kernel
