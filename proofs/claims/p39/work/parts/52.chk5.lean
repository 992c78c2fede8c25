/-! the check of every instruction against the tables -/
set_option maxRecDepth 100000 in
theorem zk_120 : zAll 120 8 = true := by decide +kernel
set_option maxRecDepth 100000 in
theorem zk_128 : zAll 128 8 = true := by decide +kernel
set_option maxRecDepth 100000 in
theorem zk_136 : zAll 136 9 = true := by decide +kernel
set_option maxRecDepth 100000 in
theorem zk_145 : zAll 145 4 = true := by decide +kernel
set_option maxRecDepth 100000 in
theorem zk_149 : zAll 149 7 = true := by decide +kernel
