set_option maxRecDepth 1000000 in
theorem fc_33_0 : aBoth 100000 [(-2147483648, -1), aFull, aFull, aFull, aFull] [.float 8, .float 9] 153 275 = true := by decide +kernel
set_option maxRecDepth 1000000 in
theorem fc_33_1 : aBoth 100000 [(0, 2147483647), (-2147483648, -1), aFull, aFull, aFull] [.float 8, .float 9] 153 275 = true := by decide +kernel
set_option maxRecDepth 1000000 in
theorem fc_33_2 : aBoth 100000 [(0, 2147483647), (3, 2147483647), aFull, aFull, aFull] [.float 8, .float 9] 153 275 = true := by decide +kernel
set_option maxRecDepth 1000000 in
theorem fc_33_3 : aBoth 100000 [(10, 2147483647), (0, 2), aFull, aFull, aFull] [.float 8, .float 9] 153 275 = true := by decide +kernel
