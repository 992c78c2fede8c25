/-! the check of every instruction against the tables -/
set_option maxRecDepth 100000 in
theorem zk_70 : zAll 70 3 = true := by decide +kernel
set_option maxRecDepth 100000 in
theorem zk_73 : zAll 73 8 = true := by decide +kernel
set_option maxRecDepth 100000 in
theorem zk_81 : zAll 81 10 = true := by decide +kernel
set_option maxRecDepth 100000 in
theorem zk_91 : zAll 91 4 = true := by decide +kernel
set_option maxRecDepth 100000 in
theorem zk_95 : zAll 95 5 = true := by decide +kernel
set_option maxRecDepth 100000 in
theorem zk_100 : zAll 100 9 = true := by decide +kernel
