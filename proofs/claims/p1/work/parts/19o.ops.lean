/-- the fresh heap, and what the class's look has thrown behind it -/
def fE : pHp := fF ++ [(19, [])]
set_option maxRecDepth 1000000 in
theorem fc_4 : aEx oSm 100000 12 204 [.ref 91, .float 8, .float 9] aE0 fE (fun e1 _ L => aEx oSm 100000 12 168 [.ref 91] e1 L (fun e2 w L2 => decide (w = some (.int 1)) && aSml L2)) = true := by decide +kernel
set_option maxRecDepth 1000000 in
theorem fc_ib : aEx oSm 100000 11 77 [.ref 0, .float 8] aE0 fF (fun _ r L => decide (r = some (.int 0)) && decide (L = fF)) = true := by decide +kernel
