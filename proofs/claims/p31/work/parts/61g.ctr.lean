set_option maxRecDepth 1000000 in
theorem fx_ok : aEx oSm 100000 12 0 [.ref 0] [] [(11, pDef 11)] (fun _ rv L => decide (rv = none) && decide (L = fX)) = true := by decide +kernel
set_option maxRecDepth 1000000 in
theorem fm_ok : aEx oSm 100000 12 166 [.ref 91] [] (fX ++ [(12, pDef 12)]) (fun _ rv L => decide (rv = none) && decide (L = fX ++ fM)) = true := by decide +kernel
