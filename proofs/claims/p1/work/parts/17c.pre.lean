/-! the law's run up to its loop, by evaluation -/
set_option maxRecDepth 100000 in
theorem zp_0 : zpreB 0 = true := by decide +kernel
set_option maxRecDepth 100000 in
theorem zp_1 : zpreB 1 = true := by decide +kernel
set_option maxRecDepth 100000 in
theorem zp_2 : zpreB 2 = true := by decide +kernel
set_option maxRecDepth 100000 in
theorem zp_3 : zpreB 3 = true := by decide +kernel
set_option maxRecDepth 100000 in
theorem zp_4 : zpreB 4 = true := by decide +kernel
set_option maxRecDepth 100000 in
theorem zp_5 : zpreB 5 = true := by decide +kernel
set_option maxRecDepth 100000 in
theorem zp_6 : zpreB 6 = true := by decide +kernel
