set_option maxRecDepth 1000000 in
theorem fc_33_9 : aBoth 100000 [(1, 1), (2, 2), aFull, aFull, aFull] [.float 8, .float 9] 153 275 = true := by decide +kernel
set_option maxRecDepth 1000000 in
theorem fc_33_10 : aBoth 100000 [(2, 2), (0, 0), aFull, aFull, aFull] [.float 8, .float 9] 153 275 = true := by decide +kernel
set_option maxRecDepth 1000000 in
theorem fc_33_11 : aBoth 100000 [(2, 2), (1, 1), aFull, aFull, aFull] [.float 8, .float 9] 153 275 = true := by decide +kernel
set_option maxRecDepth 1000000 in
theorem fc_33_12 : aBoth 100000 [(2, 2), (2, 2), aFull, aFull, aFull] [.float 8, .float 9] 153 275 = true := by decide +kernel
set_option maxRecDepth 1000000 in
theorem fc_33_13 : aBoth 100000 [(3, 3), (0, 0), aFull, aFull, aFull] [.float 8, .float 9] 153 275 = true := by decide +kernel
