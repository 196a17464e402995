set_option maxRecDepth 1000000 in
theorem fc_30 : aBoth 100000 aE0 [.float 8] 144 268 = true := by decide +kernel
set_option maxRecDepth 1000000 in
theorem fc_31 : aBoth 100000 aE0 [.float 8] 146 269 = true := by decide +kernel
set_option maxRecDepth 1000000 in
theorem fc_34 : aBoth 100000 aE0 [.float 8] 155 276 = true := by decide +kernel
set_option maxRecDepth 1000000 in
theorem fc_35 : aBoth 100000 aE0 [.float 8] 156 277 = true := by decide +kernel
set_option maxRecDepth 1000000 in
theorem fc_36 : aBoth 100000 aE0 [.float 8, .float 9, .float 10] 158 278 = true := by decide +kernel
set_option maxRecDepth 1000000 in
theorem fc_37 : aBoth 100000 aE0 [] 160 279 = true := by decide +kernel
set_option maxRecDepth 1000000 in
theorem fc_38 : aBoth 100000 aE0 [] 161 280 = true := by decide +kernel
set_option maxRecDepth 1000000 in
theorem fc_39 : aBoth 100000 aE0 [] 162 281 = true := by decide +kernel
set_option maxRecDepth 1000000 in
theorem fc_40 : aBoth 100000 aE0 [.float 8] 163 282 = true := by decide +kernel
