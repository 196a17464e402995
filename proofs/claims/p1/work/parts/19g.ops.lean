set_option maxRecDepth 1000000 in
theorem fc_32 : aBoth 100000 aE0 [] 147 270 = true := by decide +kernel
