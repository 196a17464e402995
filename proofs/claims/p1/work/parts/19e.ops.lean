set_option maxRecDepth 1000000 in
theorem fc_1 : aBoth 100000 aE0 [.float 8] 27 170 = true := by decide +kernel
