set_option maxRecDepth 100000 in
theorem pK_278 : pT_278.all (pOkE 12 cX12_undo) = true := by decide +kernel
set_option maxRecDepth 100000 in
theorem pK_279 : pT_279.all (pOkE 12 cX12_keep) = true := by decide +kernel
set_option maxRecDepth 100000 in
theorem pK_280 : pT_280.all (pOkE 12 cX12_back) = true := by decide +kernel
set_option maxRecDepth 100000 in
theorem pK_281 : pT_281.all (pOkE 12 cX12_count) = true := by decide +kernel
