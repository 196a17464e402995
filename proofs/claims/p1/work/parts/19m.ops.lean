set_option maxRecDepth 1000000 in
theorem fc_33_24 : aBoth 100000 [(6, 6), (2, 2), aFull, aFull, aFull] [.float 8, .float 9] 153 275 = true := by decide +kernel
set_option maxRecDepth 1000000 in
theorem fc_33_25 : aBoth 100000 [(7, 7), (0, 0), aFull, aFull, aFull] [.float 8, .float 9] 153 275 = true := by decide +kernel
set_option maxRecDepth 1000000 in
theorem fc_33_26 : aBoth 100000 [(7, 7), (1, 1), aFull, aFull, aFull] [.float 8, .float 9] 153 275 = true := by decide +kernel
set_option maxRecDepth 1000000 in
theorem fc_33_27 : aBoth 100000 [(7, 7), (2, 2), aFull, aFull, aFull] [.float 8, .float 9] 153 275 = true := by decide +kernel
set_option maxRecDepth 1000000 in
theorem fc_33_28 : aBoth 100000 [(8, 8), (0, 0), aFull, aFull, aFull] [.float 8, .float 9] 153 275 = true := by decide +kernel
