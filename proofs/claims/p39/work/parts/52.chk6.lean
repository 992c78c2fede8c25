/-! the check of every instruction against the tables -/
set_option maxRecDepth 100000 in
theorem zk_156 : zAll 156 7 = true := by decide +kernel
set_option maxRecDepth 100000 in
theorem zk_163 : zAll 163 2 = true := by decide +kernel
set_option maxRecDepth 100000 in
theorem zk_165_0 : zAlp 165 0 125 = true := by decide +kernel
set_option maxRecDepth 100000 in
theorem zk_165_125 : zAlp 165 125 125 = true := by decide +kernel
set_option maxRecDepth 100000 in
theorem zk_165_250 : zAlp 165 250 125 = true := by decide +kernel
set_option maxRecDepth 100000 in
theorem zk_165_375 : zAlp 165 375 125 = true := by decide +kernel
set_option maxRecDepth 100000 in
theorem zk_166 : zAll 166 1 = true := by decide +kernel
set_option maxRecDepth 100000 in
theorem zk_167 : zAll 167 6 = true := by decide +kernel
