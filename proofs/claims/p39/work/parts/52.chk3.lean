/-! the check of every instruction against the tables -/
set_option maxRecDepth 100000 in
theorem zk_56 : zAll 56 10 = true := by decide +kernel
set_option maxRecDepth 100000 in
theorem zk_66 : zAll 66 4 = true := by decide +kernel
set_option maxRecDepth 100000 in
theorem zk_70 : zAll 70 3 = true := by decide +kernel
set_option maxRecDepth 100000 in
theorem zk_73 : zAll 73 8 = true := by decide +kernel
set_option maxRecDepth 100000 in
theorem zk_81 : zAll 81 10 = true := by decide +kernel
