set_option maxRecDepth 1000000 in
theorem tst3 : aEx 100000 12 166 [.ref 0] [] [(12, pDef 12)] (fun _ _ L => decide (1 < L.length)) = true := by decide +kernel
