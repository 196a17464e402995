set_option maxRecDepth 1000000 in
theorem fc_4 : aEx oSm 100000 12 204 [.ref 91, .float 8, .float 9] aE0 fF (fun e1 _ L => aEx oSm 100000 12 168 [.ref 91] e1 L (fun e2 w L2 => decide (w = some (.int 1)) && aSml L2)) = true := by decide +kernel
