/-! the check of every instruction against the tables -/
set_option maxRecDepth 100000 in
theorem zk_30 : zAll 30 9 = true := by decide +kernel
set_option maxRecDepth 100000 in
theorem zk_39 : zAll 39 3 = true := by decide +kernel
set_option maxRecDepth 100000 in
theorem zk_42 : zAll 42 4 = true := by decide +kernel
set_option maxRecDepth 100000 in
theorem zk_46 : zAll 46 4 = true := by decide +kernel
set_option maxRecDepth 100000 in
theorem zk_50 : zAll 50 6 = true := by decide +kernel
