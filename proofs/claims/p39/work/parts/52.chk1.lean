/-! the check of every instruction against the tables -/
def zAll (a n : Nat) : Bool := (List.range' a n).all fun y => (zmC (zP y)).all fun q => zok zCl zic zP y q.1 q.2
def zAlp (y a n : Nat) : Bool := (((zmC (zP y)).drop a).take n).all fun q => zok zCl zic zP y q.1 q.2
set_option maxRecDepth 100000 in
theorem zk_0 : zAll 0 6 = true := by decide +kernel
set_option maxRecDepth 100000 in
theorem zk_6 : zAll 6 1 = true := by decide +kernel
set_option maxRecDepth 100000 in
theorem zk_7 : zAll 7 8 = true := by decide +kernel
set_option maxRecDepth 100000 in
theorem zk_15 : zAll 15 10 = true := by decide +kernel
set_option maxRecDepth 100000 in
theorem zk_25 : zAll 25 5 = true := by decide +kernel
