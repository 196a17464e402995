set_option maxRecDepth 1000000 in
theorem fc_33_19 : aBoth 100000 [(5, 5), (0, 0), aFull, aFull, aFull] [.float 8, .float 9] 153 275 = true := by decide +kernel
set_option maxRecDepth 1000000 in
theorem fc_33_20 : aBoth 100000 [(5, 5), (1, 1), aFull, aFull, aFull] [.float 8, .float 9] 153 275 = true := by decide +kernel
set_option maxRecDepth 1000000 in
theorem fc_33_21 : aBoth 100000 [(5, 5), (2, 2), aFull, aFull, aFull] [.float 8, .float 9] 153 275 = true := by decide +kernel
set_option maxRecDepth 1000000 in
theorem fc_33_22 : aBoth 100000 [(6, 6), (0, 0), aFull, aFull, aFull] [.float 8, .float 9] 153 275 = true := by decide +kernel
set_option maxRecDepth 1000000 in
theorem fc_33_23 : aBoth 100000 [(6, 6), (1, 1), aFull, aFull, aFull] [.float 8, .float 9] 153 275 = true := by decide +kernel
