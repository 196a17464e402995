set_option maxRecDepth 1000000 in
theorem fc_0 : aBoth 100000 aE0 [.float 8, .float 9, .float 10, .float 11, .float 12] 25 169 = true := by decide +kernel
set_option maxRecDepth 1000000 in
theorem fc_2 : aBoth 100000 aE0 [.float 8] 70 202 = true := by decide +kernel
set_option maxRecDepth 1000000 in
theorem fc_3 : aBoth 100000 aE0 [.float 8, .float 9] 71 203 = true := by decide +kernel
set_option maxRecDepth 1000000 in
theorem fc_5 : aBoth 100000 aE0 [.float 8, .float 9] 72 207 = true := by decide +kernel
set_option maxRecDepth 1000000 in
theorem fc_6 : aBoth 100000 aE0 [.float 8, .float 9] 74 209 = true := by decide +kernel
set_option maxRecDepth 1000000 in
theorem fc_7 : aBoth 100000 aE0 [.float 8, .float 9, .float 10] 76 211 = true := by decide +kernel
set_option maxRecDepth 1000000 in
theorem fc_8 : aBoth 100000 aE0 [.float 8, .float 9] 88 221 = true := by decide +kernel
set_option maxRecDepth 1000000 in
theorem fc_9 : aBoth 100000 aE0 [.float 8, .float 9] 90 224 = true := by decide +kernel
set_option maxRecDepth 1000000 in
theorem fc_10_0 : aBoth 100000 [(-2147483648, -1), aFull, aFull, aFull, aFull] [.float 8, .float 9, .float 10, .float 11] 94 227 = true := by decide +kernel
set_option maxRecDepth 1000000 in
theorem fc_10_1 : aBoth 100000 [(0, 0), aFull, aFull, aFull, aFull] [.float 8, .float 9, .float 10, .float 11] 94 227 = true := by decide +kernel
