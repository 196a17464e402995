set_option maxRecDepth 1000000 in
theorem fc_19 : aBoth 100000 aE0 [.float 8] 110 247 = true := by decide +kernel
