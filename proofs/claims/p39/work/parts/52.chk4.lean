/-! the check of every instruction against the tables -/
set_option maxRecDepth 100000 in
theorem zk_91 : zAll 91 4 = true := by decide +kernel
set_option maxRecDepth 100000 in
theorem zk_95 : zAll 95 5 = true := by decide +kernel
set_option maxRecDepth 100000 in
theorem zk_100 : zAll 100 9 = true := by decide +kernel
set_option maxRecDepth 100000 in
theorem zk_109 : zAll 109 4 = true := by decide +kernel
set_option maxRecDepth 100000 in
theorem zk_113 : zAll 113 7 = true := by decide +kernel
