set_option maxRecDepth 1000000 in
theorem fc_10_2 : aBoth 100000 [(1, 1), aFull, aFull, aFull, aFull] [.float 8, .float 9, .float 10, .float 11] 94 227 = true := by decide +kernel
set_option maxRecDepth 1000000 in
theorem fc_10_3 : aBoth 100000 [(2, 2147483647), aFull, aFull, aFull, aFull] [.float 8, .float 9, .float 10, .float 11] 94 227 = true := by decide +kernel
set_option maxRecDepth 1000000 in
theorem fc_11 : aBoth 100000 aE1 [.float 8, .float 9] 95 228 = true := by decide +kernel
set_option maxRecDepth 1000000 in
theorem fc_12 : aBoth 100000 aE0 [.float 8, .float 9] 98 232 = true := by decide +kernel
set_option maxRecDepth 1000000 in
theorem fc_13 : aBoth 100000 aE0 [.float 8] 99 233 = true := by decide +kernel
set_option maxRecDepth 1000000 in
theorem fc_14 : aBoth 100000 aE0 [.float 8] 100 234 = true := by decide +kernel
set_option maxRecDepth 1000000 in
theorem fc_15 : aBoth 100000 aE0 [.float 8] 101 235 = true := by decide +kernel
set_option maxRecDepth 1000000 in
theorem fc_16 : aBoth 100000 aE0 [.float 8] 105 240 = true := by decide +kernel
set_option maxRecDepth 1000000 in
theorem fc_17 : aBoth 100000 aE0 [.float 8, .float 9] 106 241 = true := by decide +kernel
set_option maxRecDepth 1000000 in
theorem fc_18 : aBoth 100000 aE0 [] 108 245 = true := by decide +kernel
