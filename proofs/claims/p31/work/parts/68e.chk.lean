set_option maxRecDepth 100000 in
theorem pK_229 : pT_229.all (pOkE 12 cX12_keepNow) = true := by decide +kernel
set_option maxRecDepth 100000 in
theorem pK_230 : pT_230.all (pOkE 12 cX12_copies) = true := by decide +kernel
set_option maxRecDepth 100000 in
theorem pK_231 : pT_231.all (pOkE 12 cX12_tie) = true := by decide +kernel
set_option maxRecDepth 100000 in
theorem pK_232 : pT_232.all (pOkE 12 cX12_stones) = true := by decide +kernel
set_option maxRecDepth 100000 in
theorem pK_233 : pT_233.all (pOkE 12 cX12_at) = true := by decide +kernel
set_option maxRecDepth 100000 in
theorem pK_234 : pT_234.all (pOkE 12 cX12_go) = true := by decide +kernel
set_option maxRecDepth 100000 in
theorem pK_235 : pT_235.all (pOkE 12 cX12_passes) = true := by decide +kernel
set_option maxRecDepth 100000 in
theorem pK_236 : pT_236.all (pOkE 12 cX12_netAt) = true := by decide +kernel
set_option maxRecDepth 100000 in
theorem pK_237 : pT_237.all (pOkE 12 cX12_draw) = true := by decide +kernel
set_option maxRecDepth 100000 in
theorem pK_238 : pT_238.all (pOkE 12 cX12_cuts) = true := by decide +kernel
set_option maxRecDepth 100000 in
theorem pK_239 : pT_239.all (pOkE 12 cX12_trade) = true := by decide +kernel
set_option maxRecDepth 100000 in
theorem pK_240 : pT_240.all (pOkE 12 cX12_led) = true := by decide +kernel
set_option maxRecDepth 100000 in
theorem pK_241 : pT_241.all (pOkE 12 cX12_isFrom) = true := by decide +kernel
set_option maxRecDepth 100000 in
theorem pK_242 : pT_242.all (pOkE 12 cX12_wayNow) = true := by decide +kernel
set_option maxRecDepth 100000 in
theorem pK_243 : pT_243.all (pOkE 12 cX12_way) = true := by decide +kernel
set_option maxRecDepth 100000 in
theorem pK_244 : pT_244.all (pOkE 12 cX12_when) = true := by decide +kernel
set_option maxRecDepth 100000 in
theorem pK_245 : pT_245.all (pOkE 12 cX12_whenUp) = true := by decide +kernel
set_option maxRecDepth 100000 in
theorem pK_246 : pT_246.all (pOkE 12 cX12_span) = true := by decide +kernel
set_option maxRecDepth 100000 in
theorem pK_247 : pT_247.all (pOkE 12 cX12_most) = true := by decide +kernel
set_option maxRecDepth 100000 in
theorem pK_248 : pT_248.all (pOkE 12 cX12_layMost) = true := by decide +kernel
set_option maxRecDepth 100000 in
theorem pK_249 : pT_249.all (pOkE 12 cX12_gainOf) = true := by decide +kernel
set_option maxRecDepth 100000 in
theorem pK_250 : pT_250.all (pOkE 12 cX12_poundsOf) = true := by decide +kernel
set_option maxRecDepth 100000 in
theorem pK_251 : pT_251.all (pOkE 12 cX12_areBags) = true := by decide +kernel
set_option maxRecDepth 100000 in
theorem pK_252 : pT_252.all (pOkE 12 cX12_toll) = true := by decide +kernel
set_option maxRecDepth 100000 in
theorem pK_253 : pT_253.all (pOkE 12 cX12_ballast) = true := by decide +kernel
set_option maxRecDepth 100000 in
theorem pK_254 : pT_254.all (pOkE 12 cX12_layBallast) = true := by decide +kernel
set_option maxRecDepth 100000 in
theorem pK_255 : pT_255.all (pOkE 12 cX12_changesBy) = true := by decide +kernel
set_option maxRecDepth 100000 in
theorem pK_256 : pT_256.all (pOkE 12 cX12_comesOn) = true := by decide +kernel
set_option maxRecDepth 100000 in
theorem pK_257 : pT_257.all (pOkE 12 cX12_isHeld) = true := by decide +kernel
set_option maxRecDepth 100000 in
theorem pK_258 : pT_258.all (pOkE 12 cX12_behind) = true := by decide +kernel
set_option maxRecDepth 100000 in
theorem pK_259 : pT_259.all (pOkE 12 cX12_ropes) = true := by decide +kernel
set_option maxRecDepth 100000 in
theorem pK_260 : pT_260.all (pOkE 12 cX12_meet) = true := by decide +kernel
set_option maxRecDepth 100000 in
theorem pK_261 : pT_261.all (pOkE 12 cX12_isMeet) = true := by decide +kernel
set_option maxRecDepth 100000 in
theorem pK_262 : pT_262.all (pOkE 12 cX12_meetOf) = true := by decide +kernel
set_option maxRecDepth 100000 in
theorem pK_263 : pT_263.all (pOkE 12 cX12_waits) = true := by decide +kernel
set_option maxRecDepth 100000 in
theorem pK_264 : pT_264.all (pOkE 12 cX12_worth) = true := by decide +kernel
set_option maxRecDepth 100000 in
theorem pK_265 : pT_265.all (pOkE 12 cX12_lands) = true := by decide +kernel
set_option maxRecDepth 100000 in
theorem pK_266 : pT_266.all (pOkE 12 cX12_see) = true := by decide +kernel
set_option maxRecDepth 100000 in
theorem pK_267 : pT_267.all (pOkE 12 cX12_strike) = true := by decide +kernel
set_option maxRecDepth 100000 in
theorem pK_268 : pT_268.all (pOkE 12 cX12_known) = true := by decide +kernel
set_option maxRecDepth 100000 in
theorem pK_269 : pT_269.all (pOkE 12 cX12_fits) = true := by decide +kernel
set_option maxRecDepth 100000 in
theorem pK_270 : pT_270.all (pOkE 12 cX12_layFits) = true := by decide +kernel
set_option maxRecDepth 100000 in
theorem pK_271 : pT_271.all (pOkE 12 cX12_knownMany) = true := by decide +kernel
set_option maxRecDepth 100000 in
theorem pK_272 : pT_272.all (pOkE 12 cX12_fitsBy) = true := by decide +kernel
set_option maxRecDepth 100000 in
theorem pK_273 : pT_273.all (pOkE 12 cX12_oneFits) = true := by decide +kernel
set_option maxRecDepth 100000 in
theorem pK_274 : pT_274.all (pOkE 12 cX12_fit) = true := by decide +kernel
set_option maxRecDepth 100000 in
theorem pK_275 : pT_275.all (pOkE 12 cX12_sure) = true := by decide +kernel
set_option maxRecDepth 100000 in
theorem pK_276 : pT_276.all (pOkE 12 cX12_chance) = true := by decide +kernel
set_option maxRecDepth 100000 in
theorem pK_277 : pT_277.all (pOkE 12 cX12_tried) = true := by decide +kernel
