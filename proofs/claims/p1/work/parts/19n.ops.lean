set_option maxRecDepth 1000000 in
theorem fc_33_29 : aBoth 100000 [(8, 8), (1, 1), aFull, aFull, aFull] [.float 8, .float 9] 153 275 = true := by decide +kernel
set_option maxRecDepth 1000000 in
theorem fc_33_30 : aBoth 100000 [(8, 8), (2, 2), aFull, aFull, aFull] [.float 8, .float 9] 153 275 = true := by decide +kernel
set_option maxRecDepth 1000000 in
theorem fc_33_31 : aBoth 100000 [(9, 9), (0, 0), aFull, aFull, aFull] [.float 8, .float 9] 153 275 = true := by decide +kernel
set_option maxRecDepth 1000000 in
theorem fc_33_32 : aBoth 100000 [(9, 9), (1, 1), aFull, aFull, aFull] [.float 8, .float 9] 153 275 = true := by decide +kernel
set_option maxRecDepth 1000000 in
theorem fc_33_33 : aBoth 100000 [(9, 9), (2, 2), aFull, aFull, aFull] [.float 8, .float 9] 153 275 = true := by decide +kernel
