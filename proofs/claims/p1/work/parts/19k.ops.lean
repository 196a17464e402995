set_option maxRecDepth 1000000 in
theorem fc_33_14 : aBoth 100000 [(3, 3), (1, 1), aFull, aFull, aFull] [.float 8, .float 9] 153 275 = true := by decide +kernel
set_option maxRecDepth 1000000 in
theorem fc_33_15 : aBoth 100000 [(3, 3), (2, 2), aFull, aFull, aFull] [.float 8, .float 9] 153 275 = true := by decide +kernel
set_option maxRecDepth 1000000 in
theorem fc_33_16 : aBoth 100000 [(4, 4), (0, 0), aFull, aFull, aFull] [.float 8, .float 9] 153 275 = true := by decide +kernel
set_option maxRecDepth 1000000 in
theorem fc_33_17 : aBoth 100000 [(4, 4), (1, 1), aFull, aFull, aFull] [.float 8, .float 9] 153 275 = true := by decide +kernel
set_option maxRecDepth 1000000 in
theorem fc_33_18 : aBoth 100000 [(4, 4), (2, 2), aFull, aFull, aFull] [.float 8, .float 9] 153 275 = true := by decide +kernel
