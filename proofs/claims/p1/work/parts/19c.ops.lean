set_option maxRecDepth 1000000 in
theorem fc_20 : aBoth 100000 aE0 [.float 8, .float 9] 112 248 = true := by decide +kernel
set_option maxRecDepth 1000000 in
theorem fc_21 : aBoth 100000 aE0 [.float 8] 125 254 = true := by decide +kernel
set_option maxRecDepth 1000000 in
theorem fc_22 : aBoth 100000 aE0 [.float 8, .float 9] 131 259 = true := by decide +kernel
set_option maxRecDepth 1000000 in
theorem fc_23 : aBoth 100000 aE0 [.float 8] 132 260 = true := by decide +kernel
set_option maxRecDepth 1000000 in
theorem fc_24 : aBoth 100000 aE0 [.float 8, .float 9, .float 10] 133 261 = true := by decide +kernel
set_option maxRecDepth 1000000 in
theorem fc_25 : aBoth 100000 aE0 [.float 8, .float 9] 135 264 = true := by decide +kernel
set_option maxRecDepth 1000000 in
theorem fc_26 : aBoth 100000 aE0 [.float 8, .float 9] 136 265 = true := by decide +kernel
set_option maxRecDepth 1000000 in
theorem fc_27 : aBoth 100000 aE0 [.float 8] 137 253 = true := by decide +kernel
set_option maxRecDepth 1000000 in
theorem fc_28 : aBoth 100000 aE0 [.float 8] 140 266 = true := by decide +kernel
set_option maxRecDepth 1000000 in
theorem fc_29 : aBoth 100000 aE0 [.float 8, .float 9, .float 10, .float 11] 142 267 = true := by decide +kernel
