section LWX
variable {p : Program} {l : Launch} {e : Env} {R : Room} {s : State} {m : MethodId} {args : Array Value} {below : List Frame} {meth : Method} {c : Code} {H : Heap} {locs : List Loc} {cells slots : Nat} {Q : State → Prop}
variable {ls : Array Slot} {G : pG} {b : Nat} {xs : Nat → Int32}
/-- the law's locals -/
def lw_lv (G : pG) (b : Nat) : List (Nat × Value) := [(4, .int 0), (3, .ref (pB G + 131)), (2, .ref (pB G + 91)), (1, .ref (pB G + 0)), (0, .ref b)]
theorem lw_q0 : ∃ q : pOb, fF[0]? = some q ∧ q.1 = 11 := ⟨_, rfl, rfl⟩
theorem lw_q91 : ∃ q : pOb, fF[91]? = some q ∧ q.1 = 12 := ⟨_, rfl, rfl⟩
set_option maxRecDepth 100000 in
set_option maxHeartbeats 4000000 in
theorem lc_0 (F : lw_Fx G cL_law p R s m args c) (hX : va_X b 6 xs s s.heap) (hbl : b < s.heap.size) (hbA : ¬ pA G b) (hH0 : pH G [] s.heap) (hH : pH G fF H) (hlo : ∀ q ∈ locs, pB G ≤ q.base) (hl : lv_has ls 7 (lw_lv G b)) (hc : cells ≤ 200) (hs : slots ≤ 1000000) (hRc : 200000 ≤ R.cells) (hRs : 5000000 ≤ R.slots)
    (kk : ∀ H1 locs1 cells1 slots1, va_S (pA G) s.heap H1 locs1 → cells1 ≤ 200000 → slots1 ≤ 5000000 → W p l e R s m args below meth c H1 locs1 cells1 slots1 Q (F0 m 1593 ls [])) : W p l e R s m args below meth c H locs cells slots Q (F0 m 220 ls []) := by
  obtain ⟨hx, hb, -⟩ := id F
  have a0 := lv_at hl 4 rfl
  have a1 := lv_at hl 3 rfl
  have a2 := lv_at hl 2 rfl
  have a4 := lv_at hl 0 rfl
  obtain ⟨v, L1, L2, e1, e2, z1, z2⟩ := cq_0 (xs 1) (xs 2) (xs 3) (xs 4) (xs 5)
  obtain ⟨x, rfl⟩ := pex_int (ty := .int) rfl nofun e1
  have g1 := pex_mono _ _ _ _ _ _ e1
  have g2 := pex_mono _ _ _ _ _ _ e2
  obtain ⟨q0, hq0, ht0⟩ := lw_q0
  obtain ⟨q9, hq9, ht9⟩ := lw_q91
  obtain ⟨q91, hq91, ht91⟩ := pex_tag _ _ _ _ _ _ e1 91 q9 hq9
  have hS := ph_S hH0 hH (Nat.zero_le _) hlo
  refine lv_aload_n hx hb dL_law_220 rfl a1 ?_
  refine lw_push F hX hbl hbA hS a0 a4 (k := 1) (by decide) (by decide) rfl dL_law_221 dL_law_222 dL_law_224 dL_law_225 dL_law_226 ?_
  refine lw_push F hX hbl hbA hS a0 a4 (k := 2) (by decide) (by decide) rfl dL_law_227 dL_law_228 dL_law_230 dL_law_231 dL_law_232 ?_
  refine lw_push F hX hbl hbA hS a0 a4 (k := 3) (by decide) (by decide) rfl dL_law_233 dL_law_234 dL_law_236 dL_law_237 dL_law_238 ?_
  refine lw_push F hX hbl hbA hS a0 a4 (k := 4) (by decide) (by decide) rfl dL_law_239 dL_law_240 dL_law_242 dL_law_243 dL_law_244 ?_
  refine lw_push F hX hbl hbA hS a0 a4 (k := 5) (by decide) (by decide) rfl dL_law_245 dL_law_246 dL_law_248 dL_law_249 dL_law_250 ?_
  refine lw_callV F (K := 25) (o := 0) (as := [.int (xs 1), .int (xs 2), .int (xs 3), .int (xs 4), .int (xs 5)]) (by decide +kernel) (pt_3 _ (List.mem_of_getElem? (i := 123) rfl)) (pt_3 _ (List.mem_of_getElem? (i := 124) rfl)) (pt_3 _ (List.mem_of_getElem? (i := 122) rfl)) e1 rfl hq0 (ht0.trans rfl) (by decide) hH hlo hl (Nat.le_of_ble_eq_true rfl) dL_law_251 (by omega) (by omega) fun H1 locs1 h1 l1 => ?_
  have hS1 := ph_S hH0 h1 (Nat.zero_le _) l1
  refine lv_aload_n hx hb dL_law_254 rfl a2 ?_
  refine lw_push F hX hbl hbA hS1 a0 a4 (k := 1) (by decide) (by decide) rfl dL_law_255 dL_law_256 dL_law_258 dL_law_259 dL_law_260 ?_
  refine lw_push F hX hbl hbA hS1 a0 a4 (k := 2) (by decide) (by decide) rfl dL_law_261 dL_law_262 dL_law_264 dL_law_265 dL_law_266 ?_
  refine lw_push F hX hbl hbA hS1 a0 a4 (k := 3) (by decide) (by decide) rfl dL_law_267 dL_law_268 dL_law_270 dL_law_271 dL_law_272 ?_
  refine lw_push F hX hbl hbA hS1 a0 a4 (k := 4) (by decide) (by decide) rfl dL_law_273 dL_law_274 dL_law_276 dL_law_277 dL_law_278 ?_
  refine lw_push F hX hbl hbA hS1 a0 a4 (k := 5) (by decide) (by decide) rfl dL_law_279 dL_law_280 dL_law_282 dL_law_283 dL_law_284 ?_
  refine lw_callV F (K := 169) (o := 91) (as := [.int (xs 1), .int (xs 2), .int (xs 3), .int (xs 4), .int (xs 5)]) (by decide +kernel) (pt_7 _ (List.mem_of_getElem? (i := 96) rfl)) (pt_7 _ (List.mem_of_getElem? (i := 97) rfl)) (pt_7 _ (List.mem_of_getElem? (i := 95) rfl)) e2 rfl hq91 ((ht91.trans ht9).trans rfl) (by decide) h1 l1 hl (Nat.le_of_ble_eq_true rfl) dL_law_285 (by omega) (by omega) fun H2 locs2 h2 l2 => ?_
  refine lv_icmp_eq hx hb dL_law_288 rfl (fun _ => kk _ _ _ _ (ph_S hH0 h2 (Nat.zero_le _) l2) (by omega) (by omega)) (fun h => absurd rfl h)
set_option maxRecDepth 100000 in
set_option maxHeartbeats 4000000 in
theorem lc_1 (F : lw_Fx G cL_law p R s m args c) (hX : va_X b 6 xs s s.heap) (hbl : b < s.heap.size) (hbA : ¬ pA G b) (hH0 : pH G [] s.heap) (hH : pH G fF H) (hlo : ∀ q ∈ locs, pB G ≤ q.base) (hl : lv_has ls 7 (lw_lv G b)) (hc : cells ≤ 200) (hs : slots ≤ 1000000) (hRc : 200000 ≤ R.cells) (hRs : 5000000 ≤ R.slots)
    (kk : ∀ H1 locs1 cells1 slots1, va_S (pA G) s.heap H1 locs1 → cells1 ≤ 200000 → slots1 ≤ 5000000 → W p l e R s m args below meth c H1 locs1 cells1 slots1 Q (F0 m 1593 ls [])) : W p l e R s m args below meth c H locs cells slots Q (F0 m 293 ls []) := by
  obtain ⟨hx, hb, -⟩ := id F
  have a0 := lv_at hl 4 rfl
  have a1 := lv_at hl 3 rfl
  have a2 := lv_at hl 2 rfl
  have a4 := lv_at hl 0 rfl
  obtain ⟨v, L1, L2, e1, e2, z1, z2⟩ := cq_1 (xs 1)
  obtain ⟨x, rfl⟩ := pex_int (ty := .int) rfl nofun e1
  have g1 := pex_mono _ _ _ _ _ _ e1
  have g2 := pex_mono _ _ _ _ _ _ e2
  obtain ⟨q0, hq0, ht0⟩ := lw_q0
  obtain ⟨q9, hq9, ht9⟩ := lw_q91
  obtain ⟨q91, hq91, ht91⟩ := pex_tag _ _ _ _ _ _ e1 91 q9 hq9
  have hS := ph_S hH0 hH (Nat.zero_le _) hlo
  refine lv_aload_n hx hb dL_law_293 rfl a1 ?_
  refine lw_push F hX hbl hbA hS a0 a4 (k := 1) (by decide) (by decide) rfl dL_law_294 dL_law_295 dL_law_297 dL_law_298 dL_law_299 ?_
  refine lw_callV F (K := 27) (o := 0) (as := [.int (xs 1)]) (by decide +kernel) (pt_3 _ (List.mem_of_getElem? (i := 131) rfl)) (pt_3 _ (List.mem_of_getElem? (i := 132) rfl)) (pt_3 _ (List.mem_of_getElem? (i := 130) rfl)) e1 rfl hq0 (ht0.trans rfl) (by decide) hH hlo hl (Nat.le_of_ble_eq_true rfl) dL_law_300 (by omega) (by omega) fun H1 locs1 h1 l1 => ?_
  have hS1 := ph_S hH0 h1 (Nat.zero_le _) l1
  refine lv_aload_n hx hb dL_law_303 rfl a2 ?_
  refine lw_push F hX hbl hbA hS1 a0 a4 (k := 1) (by decide) (by decide) rfl dL_law_304 dL_law_305 dL_law_307 dL_law_308 dL_law_309 ?_
  refine lw_callV F (K := 170) (o := 91) (as := [.int (xs 1)]) (by decide +kernel) (pt_7 _ (List.mem_of_getElem? (i := 100) rfl)) (pt_7 _ (List.mem_of_getElem? (i := 101) rfl)) (pt_7 _ (List.mem_of_getElem? (i := 99) rfl)) e2 rfl hq91 ((ht91.trans ht9).trans rfl) (by decide) h1 l1 hl (Nat.le_of_ble_eq_true rfl) dL_law_310 (by omega) (by omega) fun H2 locs2 h2 l2 => ?_
  refine lv_icmp_eq hx hb dL_law_313 rfl (fun _ => kk _ _ _ _ (ph_S hH0 h2 (Nat.zero_le _) l2) (by omega) (by omega)) (fun h => absurd rfl h)
set_option maxRecDepth 100000 in
set_option maxHeartbeats 4000000 in
theorem lc_2 (F : lw_Fx G cL_law p R s m args c) (hX : va_X b 6 xs s s.heap) (hbl : b < s.heap.size) (hbA : ¬ pA G b) (hH0 : pH G [] s.heap) (hH : pH G fF H) (hlo : ∀ q ∈ locs, pB G ≤ q.base) (hl : lv_has ls 7 (lw_lv G b)) (hc : cells ≤ 200) (hs : slots ≤ 1000000) (hRc : 200000 ≤ R.cells) (hRs : 5000000 ≤ R.slots)
    (kk : ∀ H1 locs1 cells1 slots1, va_S (pA G) s.heap H1 locs1 → cells1 ≤ 200000 → slots1 ≤ 5000000 → W p l e R s m args below meth c H1 locs1 cells1 slots1 Q (F0 m 1593 ls [])) : W p l e R s m args below meth c H locs cells slots Q (F0 m 318 ls []) := by
  obtain ⟨hx, hb, -⟩ := id F
  have a0 := lv_at hl 4 rfl
  have a1 := lv_at hl 3 rfl
  have a2 := lv_at hl 2 rfl
  have a4 := lv_at hl 0 rfl
  obtain ⟨v, L1, L2, e1, e2, z1, z2⟩ := cq_2 (xs 1)
  obtain ⟨x, rfl⟩ := pex_int (ty := .int) rfl nofun e1
  have g1 := pex_mono _ _ _ _ _ _ e1
  have g2 := pex_mono _ _ _ _ _ _ e2
  obtain ⟨q0, hq0, ht0⟩ := lw_q0
  obtain ⟨q9, hq9, ht9⟩ := lw_q91
  obtain ⟨q91, hq91, ht91⟩ := pex_tag _ _ _ _ _ _ e1 91 q9 hq9
  have hS := ph_S hH0 hH (Nat.zero_le _) hlo
  refine lv_aload_n hx hb dL_law_318 rfl a1 ?_
  refine lw_push F hX hbl hbA hS a0 a4 (k := 1) (by decide) (by decide) rfl dL_law_319 dL_law_320 dL_law_322 dL_law_323 dL_law_324 ?_
  refine lw_callV F (K := 70) (o := 0) (as := [.int (xs 1)]) (by decide +kernel) (pt_4 _ (List.mem_of_getElem? (i := 62) rfl)) (pt_4 _ (List.mem_of_getElem? (i := 63) rfl)) (pt_4 _ (List.mem_of_getElem? (i := 61) rfl)) e1 rfl hq0 (ht0.trans rfl) (by decide) hH hlo hl (Nat.le_of_ble_eq_true rfl) dL_law_325 (by omega) (by omega) fun H1 locs1 h1 l1 => ?_
  have hS1 := ph_S hH0 h1 (Nat.zero_le _) l1
  refine lv_aload_n hx hb dL_law_328 rfl a2 ?_
  refine lw_push F hX hbl hbA hS1 a0 a4 (k := 1) (by decide) (by decide) rfl dL_law_329 dL_law_330 dL_law_332 dL_law_333 dL_law_334 ?_
  refine lw_callV F (K := 202) (o := 91) (as := [.int (xs 1)]) (by decide +kernel) (pt_7 _ (List.mem_of_getElem? (i := 228) rfl)) (pt_7 _ (List.mem_of_getElem? (i := 229) rfl)) (pt_7 _ (List.mem_of_getElem? (i := 227) rfl)) e2 rfl hq91 ((ht91.trans ht9).trans rfl) (by decide) h1 l1 hl (Nat.le_of_ble_eq_true rfl) dL_law_335 (by omega) (by omega) fun H2 locs2 h2 l2 => ?_
  refine lv_icmp_eq hx hb dL_law_338 rfl (fun _ => kk _ _ _ _ (ph_S hH0 h2 (Nat.zero_le _) l2) (by omega) (by omega)) (fun h => absurd rfl h)
set_option maxRecDepth 100000 in
set_option maxHeartbeats 4000000 in
theorem lc_3 (F : lw_Fx G cL_law p R s m args c) (hX : va_X b 6 xs s s.heap) (hbl : b < s.heap.size) (hbA : ¬ pA G b) (hH0 : pH G [] s.heap) (hH : pH G fF H) (hlo : ∀ q ∈ locs, pB G ≤ q.base) (hl : lv_has ls 7 (lw_lv G b)) (hc : cells ≤ 200) (hs : slots ≤ 1000000) (hRc : 200000 ≤ R.cells) (hRs : 5000000 ≤ R.slots)
    (kk : ∀ H1 locs1 cells1 slots1, va_S (pA G) s.heap H1 locs1 → cells1 ≤ 200000 → slots1 ≤ 5000000 → W p l e R s m args below meth c H1 locs1 cells1 slots1 Q (F0 m 1593 ls [])) : W p l e R s m args below meth c H locs cells slots Q (F0 m 343 ls []) := by
  obtain ⟨hx, hb, -⟩ := id F
  have a0 := lv_at hl 4 rfl
  have a1 := lv_at hl 3 rfl
  have a2 := lv_at hl 2 rfl
  have a4 := lv_at hl 0 rfl
  obtain ⟨v, L1, L2, e1, e2, z1, z2⟩ := cq_3 (xs 1) (xs 2)
  obtain ⟨x, rfl⟩ := pex_int (ty := .int) rfl nofun e1
  have g1 := pex_mono _ _ _ _ _ _ e1
  have g2 := pex_mono _ _ _ _ _ _ e2
  obtain ⟨q0, hq0, ht0⟩ := lw_q0
  obtain ⟨q9, hq9, ht9⟩ := lw_q91
  obtain ⟨q91, hq91, ht91⟩ := pex_tag _ _ _ _ _ _ e1 91 q9 hq9
  have hS := ph_S hH0 hH (Nat.zero_le _) hlo
  refine lv_aload_n hx hb dL_law_343 rfl a1 ?_
  refine lw_push F hX hbl hbA hS a0 a4 (k := 1) (by decide) (by decide) rfl dL_law_344 dL_law_345 dL_law_347 dL_law_348 dL_law_349 ?_
  refine lw_push F hX hbl hbA hS a0 a4 (k := 2) (by decide) (by decide) rfl dL_law_350 dL_law_351 dL_law_353 dL_law_354 dL_law_355 ?_
  refine lw_callV F (K := 71) (o := 0) (as := [.int (xs 1), .int (xs 2)]) (by decide +kernel) (pt_4 _ (List.mem_of_getElem? (i := 66) rfl)) (pt_4 _ (List.mem_of_getElem? (i := 67) rfl)) (pt_4 _ (List.mem_of_getElem? (i := 65) rfl)) e1 rfl hq0 (ht0.trans rfl) (by decide) hH hlo hl (Nat.le_of_ble_eq_true rfl) dL_law_356 (by omega) (by omega) fun H1 locs1 h1 l1 => ?_
  have hS1 := ph_S hH0 h1 (Nat.zero_le _) l1
  refine lv_aload_n hx hb dL_law_359 rfl a2 ?_
  refine lw_push F hX hbl hbA hS1 a0 a4 (k := 1) (by decide) (by decide) rfl dL_law_360 dL_law_361 dL_law_363 dL_law_364 dL_law_365 ?_
  refine lw_push F hX hbl hbA hS1 a0 a4 (k := 2) (by decide) (by decide) rfl dL_law_366 dL_law_367 dL_law_369 dL_law_370 dL_law_371 ?_
  refine lw_callV F (K := 203) (o := 91) (as := [.int (xs 1), .int (xs 2)]) (by decide +kernel) (pt_7 _ (List.mem_of_getElem? (i := 232) rfl)) (pt_7 _ (List.mem_of_getElem? (i := 233) rfl)) (pt_7 _ (List.mem_of_getElem? (i := 231) rfl)) e2 rfl hq91 ((ht91.trans ht9).trans rfl) (by decide) h1 l1 hl (Nat.le_of_ble_eq_true rfl) dL_law_372 (by omega) (by omega) fun H2 locs2 h2 l2 => ?_
  refine lv_icmp_eq hx hb dL_law_375 rfl (fun _ => kk _ _ _ _ (ph_S hH0 h2 (Nat.zero_le _) l2) (by omega) (by omega)) (fun h => absurd rfl h)
set_option maxRecDepth 100000 in
set_option maxHeartbeats 4000000 in
theorem lc_5 (F : lw_Fx G cL_law p R s m args c) (hX : va_X b 6 xs s s.heap) (hbl : b < s.heap.size) (hbA : ¬ pA G b) (hH0 : pH G [] s.heap) (hH : pH G fF H) (hlo : ∀ q ∈ locs, pB G ≤ q.base) (hl : lv_has ls 7 (lw_lv G b)) (hc : cells ≤ 200) (hs : slots ≤ 1000000) (hRc : 200000 ≤ R.cells) (hRs : 5000000 ≤ R.slots)
    (kk : ∀ H1 locs1 cells1 slots1, va_S (pA G) s.heap H1 locs1 → cells1 ≤ 200000 → slots1 ≤ 5000000 → W p l e R s m args below meth c H1 locs1 cells1 slots1 Q (F0 m 1593 ls [])) : W p l e R s m args below meth c H locs cells slots Q (F0 m 448 ls []) := by
  obtain ⟨hx, hb, -⟩ := id F
  have a0 := lv_at hl 4 rfl
  have a1 := lv_at hl 3 rfl
  have a2 := lv_at hl 2 rfl
  have a4 := lv_at hl 0 rfl
  obtain ⟨v, L1, L2, e1, e2, z1, z2⟩ := cq_5 (xs 1) (xs 2)
  obtain ⟨x, rfl⟩ := pex_int (ty := .int) rfl nofun e1
  have g1 := pex_mono _ _ _ _ _ _ e1
  have g2 := pex_mono _ _ _ _ _ _ e2
  obtain ⟨q0, hq0, ht0⟩ := lw_q0
  obtain ⟨q9, hq9, ht9⟩ := lw_q91
  obtain ⟨q91, hq91, ht91⟩ := pex_tag _ _ _ _ _ _ e1 91 q9 hq9
  have hS := ph_S hH0 hH (Nat.zero_le _) hlo
  refine lv_aload_n hx hb dL_law_448 rfl a1 ?_
  refine lw_push F hX hbl hbA hS a0 a4 (k := 1) (by decide) (by decide) rfl dL_law_449 dL_law_450 dL_law_452 dL_law_453 dL_law_454 ?_
  refine lw_push F hX hbl hbA hS a0 a4 (k := 2) (by decide) (by decide) rfl dL_law_455 dL_law_456 dL_law_458 dL_law_459 dL_law_460 ?_
  refine lw_callV F (K := 72) (o := 0) (as := [.int (xs 1), .int (xs 2)]) (by decide +kernel) (pt_4 _ (List.mem_of_getElem? (i := 73) rfl)) (pt_4 _ (List.mem_of_getElem? (i := 74) rfl)) (pt_4 _ (List.mem_of_getElem? (i := 72) rfl)) e1 rfl hq0 (ht0.trans rfl) (by decide) hH hlo hl (Nat.le_of_ble_eq_true rfl) dL_law_461 (by omega) (by omega) fun H1 locs1 h1 l1 => ?_
  have hS1 := ph_S hH0 h1 (Nat.zero_le _) l1
  refine lv_aload_n hx hb dL_law_464 rfl a2 ?_
  refine lw_push F hX hbl hbA hS1 a0 a4 (k := 1) (by decide) (by decide) rfl dL_law_465 dL_law_466 dL_law_468 dL_law_469 dL_law_470 ?_
  refine lw_push F hX hbl hbA hS1 a0 a4 (k := 2) (by decide) (by decide) rfl dL_law_471 dL_law_472 dL_law_474 dL_law_475 dL_law_476 ?_
  refine lw_callV F (K := 207) (o := 91) (as := [.int (xs 1), .int (xs 2)]) (by decide +kernel) (pt_8 _ (List.mem_of_getElem? (i := 9) rfl)) (pt_8 _ (List.mem_of_getElem? (i := 10) rfl)) (pt_8 _ (List.mem_of_getElem? (i := 8) rfl)) e2 rfl hq91 ((ht91.trans ht9).trans rfl) (by decide) h1 l1 hl (Nat.le_of_ble_eq_true rfl) dL_law_477 (by omega) (by omega) fun H2 locs2 h2 l2 => ?_
  refine lv_icmp_eq hx hb dL_law_480 rfl (fun _ => kk _ _ _ _ (ph_S hH0 h2 (Nat.zero_le _) l2) (by omega) (by omega)) (fun h => absurd rfl h)
set_option maxRecDepth 100000 in
set_option maxHeartbeats 4000000 in
theorem lc_6 (F : lw_Fx G cL_law p R s m args c) (hX : va_X b 6 xs s s.heap) (hbl : b < s.heap.size) (hbA : ¬ pA G b) (hH0 : pH G [] s.heap) (hH : pH G fF H) (hlo : ∀ q ∈ locs, pB G ≤ q.base) (hl : lv_has ls 7 (lw_lv G b)) (hc : cells ≤ 200) (hs : slots ≤ 1000000) (hRc : 200000 ≤ R.cells) (hRs : 5000000 ≤ R.slots)
    (kk : ∀ H1 locs1 cells1 slots1, va_S (pA G) s.heap H1 locs1 → cells1 ≤ 200000 → slots1 ≤ 5000000 → W p l e R s m args below meth c H1 locs1 cells1 slots1 Q (F0 m 1593 ls [])) : W p l e R s m args below meth c H locs cells slots Q (F0 m 485 ls []) := by
  obtain ⟨hx, hb, -⟩ := id F
  have a0 := lv_at hl 4 rfl
  have a1 := lv_at hl 3 rfl
  have a2 := lv_at hl 2 rfl
  have a4 := lv_at hl 0 rfl
  obtain ⟨v, L1, L2, e1, e2, z1, z2⟩ := cq_6 (xs 1) (xs 2)
  obtain ⟨x, rfl⟩ := pex_int (ty := .int) rfl nofun e1
  have g1 := pex_mono _ _ _ _ _ _ e1
  have g2 := pex_mono _ _ _ _ _ _ e2
  obtain ⟨q0, hq0, ht0⟩ := lw_q0
  obtain ⟨q9, hq9, ht9⟩ := lw_q91
  obtain ⟨q91, hq91, ht91⟩ := pex_tag _ _ _ _ _ _ e1 91 q9 hq9
  have hS := ph_S hH0 hH (Nat.zero_le _) hlo
  refine lv_aload_n hx hb dL_law_485 rfl a1 ?_
  refine lw_push F hX hbl hbA hS a0 a4 (k := 1) (by decide) (by decide) rfl dL_law_486 dL_law_487 dL_law_489 dL_law_490 dL_law_491 ?_
  refine lw_push F hX hbl hbA hS a0 a4 (k := 2) (by decide) (by decide) rfl dL_law_492 dL_law_493 dL_law_495 dL_law_496 dL_law_497 ?_
  refine lw_callV F (K := 74) (o := 0) (as := [.int (xs 1), .int (xs 2)]) (by decide +kernel) (pt_4 _ (List.mem_of_getElem? (i := 81) rfl)) (pt_4 _ (List.mem_of_getElem? (i := 82) rfl)) (pt_4 _ (List.mem_of_getElem? (i := 80) rfl)) e1 rfl hq0 (ht0.trans rfl) (by decide) hH hlo hl (Nat.le_of_ble_eq_true rfl) dL_law_498 (by omega) (by omega) fun H1 locs1 h1 l1 => ?_
  have hS1 := ph_S hH0 h1 (Nat.zero_le _) l1
  refine lv_aload_n hx hb dL_law_501 rfl a2 ?_
  refine lw_push F hX hbl hbA hS1 a0 a4 (k := 1) (by decide) (by decide) rfl dL_law_502 dL_law_503 dL_law_505 dL_law_506 dL_law_507 ?_
  refine lw_push F hX hbl hbA hS1 a0 a4 (k := 2) (by decide) (by decide) rfl dL_law_508 dL_law_509 dL_law_511 dL_law_512 dL_law_513 ?_
  refine lw_callV F (K := 209) (o := 91) (as := [.int (xs 1), .int (xs 2)]) (by decide +kernel) (pt_8 _ (List.mem_of_getElem? (i := 17) rfl)) (pt_8 _ (List.mem_of_getElem? (i := 18) rfl)) (pt_8 _ (List.mem_of_getElem? (i := 16) rfl)) e2 rfl hq91 ((ht91.trans ht9).trans rfl) (by decide) h1 l1 hl (Nat.le_of_ble_eq_true rfl) dL_law_514 (by omega) (by omega) fun H2 locs2 h2 l2 => ?_
  refine lv_icmp_eq hx hb dL_law_517 rfl (fun _ => kk _ _ _ _ (ph_S hH0 h2 (Nat.zero_le _) l2) (by omega) (by omega)) (fun h => absurd rfl h)
set_option maxRecDepth 100000 in
set_option maxHeartbeats 4000000 in
theorem lc_7 (F : lw_Fx G cL_law p R s m args c) (hX : va_X b 6 xs s s.heap) (hbl : b < s.heap.size) (hbA : ¬ pA G b) (hH0 : pH G [] s.heap) (hH : pH G fF H) (hlo : ∀ q ∈ locs, pB G ≤ q.base) (hl : lv_has ls 7 (lw_lv G b)) (hc : cells ≤ 200) (hs : slots ≤ 1000000) (hRc : 200000 ≤ R.cells) (hRs : 5000000 ≤ R.slots)
    (kk : ∀ H1 locs1 cells1 slots1, va_S (pA G) s.heap H1 locs1 → cells1 ≤ 200000 → slots1 ≤ 5000000 → W p l e R s m args below meth c H1 locs1 cells1 slots1 Q (F0 m 1593 ls [])) : W p l e R s m args below meth c H locs cells slots Q (F0 m 522 ls []) := by
  obtain ⟨hx, hb, -⟩ := id F
  have a0 := lv_at hl 4 rfl
  have a1 := lv_at hl 3 rfl
  have a2 := lv_at hl 2 rfl
  have a4 := lv_at hl 0 rfl
  obtain ⟨v, L1, L2, e1, e2, z1, z2⟩ := cq_7 (xs 1) (xs 2) (xs 3)
  obtain ⟨x, rfl⟩ := pex_int (ty := .int) rfl nofun e1
  have g1 := pex_mono _ _ _ _ _ _ e1
  have g2 := pex_mono _ _ _ _ _ _ e2
  obtain ⟨q0, hq0, ht0⟩ := lw_q0
  obtain ⟨q9, hq9, ht9⟩ := lw_q91
  obtain ⟨q91, hq91, ht91⟩ := pex_tag _ _ _ _ _ _ e1 91 q9 hq9
  have hS := ph_S hH0 hH (Nat.zero_le _) hlo
  refine lv_aload_n hx hb dL_law_522 rfl a1 ?_
  refine lw_push F hX hbl hbA hS a0 a4 (k := 1) (by decide) (by decide) rfl dL_law_523 dL_law_524 dL_law_526 dL_law_527 dL_law_528 ?_
  refine lw_push F hX hbl hbA hS a0 a4 (k := 2) (by decide) (by decide) rfl dL_law_529 dL_law_530 dL_law_532 dL_law_533 dL_law_534 ?_
  refine lw_push F hX hbl hbA hS a0 a4 (k := 3) (by decide) (by decide) rfl dL_law_535 dL_law_536 dL_law_538 dL_law_539 dL_law_540 ?_
  refine lw_callV F (K := 76) (o := 0) (as := [.int (xs 1), .int (xs 2), .int (xs 3)]) (by decide +kernel) (pt_4 _ (List.mem_of_getElem? (i := 89) rfl)) (pt_4 _ (List.mem_of_getElem? (i := 90) rfl)) (pt_4 _ (List.mem_of_getElem? (i := 88) rfl)) e1 rfl hq0 (ht0.trans rfl) (by decide) hH hlo hl (Nat.le_of_ble_eq_true rfl) dL_law_541 (by omega) (by omega) fun H1 locs1 h1 l1 => ?_
  have hS1 := ph_S hH0 h1 (Nat.zero_le _) l1
  refine lv_aload_n hx hb dL_law_544 rfl a2 ?_
  refine lw_push F hX hbl hbA hS1 a0 a4 (k := 1) (by decide) (by decide) rfl dL_law_545 dL_law_546 dL_law_548 dL_law_549 dL_law_550 ?_
  refine lw_push F hX hbl hbA hS1 a0 a4 (k := 2) (by decide) (by decide) rfl dL_law_551 dL_law_552 dL_law_554 dL_law_555 dL_law_556 ?_
  refine lw_push F hX hbl hbA hS1 a0 a4 (k := 3) (by decide) (by decide) rfl dL_law_557 dL_law_558 dL_law_560 dL_law_561 dL_law_562 ?_
  refine lw_callV F (K := 211) (o := 91) (as := [.int (xs 1), .int (xs 2), .int (xs 3)]) (by decide +kernel) (pt_8 _ (List.mem_of_getElem? (i := 25) rfl)) (pt_8 _ (List.mem_of_getElem? (i := 26) rfl)) (pt_8 _ (List.mem_of_getElem? (i := 24) rfl)) e2 rfl hq91 ((ht91.trans ht9).trans rfl) (by decide) h1 l1 hl (Nat.le_of_ble_eq_true rfl) dL_law_563 (by omega) (by omega) fun H2 locs2 h2 l2 => ?_
  refine lv_icmp_eq hx hb dL_law_566 rfl (fun _ => kk _ _ _ _ (ph_S hH0 h2 (Nat.zero_le _) l2) (by omega) (by omega)) (fun h => absurd rfl h)
set_option maxRecDepth 100000 in
set_option maxHeartbeats 4000000 in
theorem lc_8 (F : lw_Fx G cL_law p R s m args c) (hX : va_X b 6 xs s s.heap) (hbl : b < s.heap.size) (hbA : ¬ pA G b) (hH0 : pH G [] s.heap) (hH : pH G fF H) (hlo : ∀ q ∈ locs, pB G ≤ q.base) (hl : lv_has ls 7 (lw_lv G b)) (hc : cells ≤ 200) (hs : slots ≤ 1000000) (hRc : 200000 ≤ R.cells) (hRs : 5000000 ≤ R.slots)
    (kk : ∀ H1 locs1 cells1 slots1, va_S (pA G) s.heap H1 locs1 → cells1 ≤ 200000 → slots1 ≤ 5000000 → W p l e R s m args below meth c H1 locs1 cells1 slots1 Q (F0 m 1593 ls [])) : W p l e R s m args below meth c H locs cells slots Q (F0 m 571 ls []) := by
  obtain ⟨hx, hb, -⟩ := id F
  have a0 := lv_at hl 4 rfl
  have a1 := lv_at hl 3 rfl
  have a2 := lv_at hl 2 rfl
  have a4 := lv_at hl 0 rfl
  obtain ⟨v, L1, L2, e1, e2, z1, z2⟩ := cq_8 (xs 1) (xs 2)
  obtain ⟨x, rfl⟩ := pex_int (ty := .int) rfl nofun e1
  have g1 := pex_mono _ _ _ _ _ _ e1
  have g2 := pex_mono _ _ _ _ _ _ e2
  obtain ⟨q0, hq0, ht0⟩ := lw_q0
  obtain ⟨q9, hq9, ht9⟩ := lw_q91
  obtain ⟨q91, hq91, ht91⟩ := pex_tag _ _ _ _ _ _ e1 91 q9 hq9
  have hS := ph_S hH0 hH (Nat.zero_le _) hlo
  refine lv_aload_n hx hb dL_law_571 rfl a1 ?_
  refine lw_push F hX hbl hbA hS a0 a4 (k := 1) (by decide) (by decide) rfl dL_law_572 dL_law_573 dL_law_575 dL_law_576 dL_law_577 ?_
  refine lw_push F hX hbl hbA hS a0 a4 (k := 2) (by decide) (by decide) rfl dL_law_578 dL_law_579 dL_law_581 dL_law_582 dL_law_583 ?_
  refine lw_callV F (K := 88) (o := 0) (as := [.int (xs 1), .int (xs 2)]) (by decide +kernel) (pt_4 _ (List.mem_of_getElem? (i := 137) rfl)) (pt_4 _ (List.mem_of_getElem? (i := 138) rfl)) (pt_4 _ (List.mem_of_getElem? (i := 136) rfl)) e1 rfl hq0 (ht0.trans rfl) (by decide) hH hlo hl (Nat.le_of_ble_eq_true rfl) dL_law_584 (by omega) (by omega) fun H1 locs1 h1 l1 => ?_
  have hS1 := ph_S hH0 h1 (Nat.zero_le _) l1
  refine lv_aload_n hx hb dL_law_587 rfl a2 ?_
  refine lw_push F hX hbl hbA hS1 a0 a4 (k := 1) (by decide) (by decide) rfl dL_law_588 dL_law_589 dL_law_591 dL_law_592 dL_law_593 ?_
  refine lw_push F hX hbl hbA hS1 a0 a4 (k := 2) (by decide) (by decide) rfl dL_law_594 dL_law_595 dL_law_597 dL_law_598 dL_law_599 ?_
  refine lw_callV F (K := 221) (o := 91) (as := [.int (xs 1), .int (xs 2)]) (by decide +kernel) (pt_8 _ (List.mem_of_getElem? (i := 68) rfl)) (pt_8 _ (List.mem_of_getElem? (i := 69) rfl)) (pt_8 _ (List.mem_of_getElem? (i := 67) rfl)) e2 rfl hq91 ((ht91.trans ht9).trans rfl) (by decide) h1 l1 hl (Nat.le_of_ble_eq_true rfl) dL_law_600 (by omega) (by omega) fun H2 locs2 h2 l2 => ?_
  refine lv_icmp_eq hx hb dL_law_603 rfl (fun _ => kk _ _ _ _ (ph_S hH0 h2 (Nat.zero_le _) l2) (by omega) (by omega)) (fun h => absurd rfl h)
set_option maxRecDepth 100000 in
set_option maxHeartbeats 4000000 in
theorem lc_9 (F : lw_Fx G cL_law p R s m args c) (hX : va_X b 6 xs s s.heap) (hbl : b < s.heap.size) (hbA : ¬ pA G b) (hH0 : pH G [] s.heap) (hH : pH G fF H) (hlo : ∀ q ∈ locs, pB G ≤ q.base) (hl : lv_has ls 7 (lw_lv G b)) (hc : cells ≤ 200) (hs : slots ≤ 1000000) (hRc : 200000 ≤ R.cells) (hRs : 5000000 ≤ R.slots)
    (kk : ∀ H1 locs1 cells1 slots1, va_S (pA G) s.heap H1 locs1 → cells1 ≤ 200000 → slots1 ≤ 5000000 → W p l e R s m args below meth c H1 locs1 cells1 slots1 Q (F0 m 1593 ls [])) : W p l e R s m args below meth c H locs cells slots Q (F0 m 608 ls []) := by
  obtain ⟨hx, hb, -⟩ := id F
  have a0 := lv_at hl 4 rfl
  have a1 := lv_at hl 3 rfl
  have a2 := lv_at hl 2 rfl
  have a4 := lv_at hl 0 rfl
  obtain ⟨v, L1, L2, e1, e2, z1, z2⟩ := cq_9 (xs 1) (xs 2)
  obtain ⟨x, rfl⟩ := pex_int (ty := .int) rfl nofun e1
  have g1 := pex_mono _ _ _ _ _ _ e1
  have g2 := pex_mono _ _ _ _ _ _ e2
  obtain ⟨q0, hq0, ht0⟩ := lw_q0
  obtain ⟨q9, hq9, ht9⟩ := lw_q91
  obtain ⟨q91, hq91, ht91⟩ := pex_tag _ _ _ _ _ _ e1 91 q9 hq9
  have hS := ph_S hH0 hH (Nat.zero_le _) hlo
  refine lv_aload_n hx hb dL_law_608 rfl a1 ?_
  refine lw_push F hX hbl hbA hS a0 a4 (k := 1) (by decide) (by decide) rfl dL_law_609 dL_law_610 dL_law_612 dL_law_613 dL_law_614 ?_
  refine lw_push F hX hbl hbA hS a0 a4 (k := 2) (by decide) (by decide) rfl dL_law_615 dL_law_616 dL_law_618 dL_law_619 dL_law_620 ?_
  refine lw_callV F (K := 90) (o := 0) (as := [.int (xs 1), .int (xs 2)]) (by decide +kernel) (pt_4 _ (List.mem_of_getElem? (i := 146) rfl)) (pt_4 _ (List.mem_of_getElem? (i := 147) rfl)) (pt_4 _ (List.mem_of_getElem? (i := 145) rfl)) e1 rfl hq0 (ht0.trans rfl) (by decide) hH hlo hl (Nat.le_of_ble_eq_true rfl) dL_law_621 (by omega) (by omega) fun H1 locs1 h1 l1 => ?_
  have hS1 := ph_S hH0 h1 (Nat.zero_le _) l1
  refine lv_aload_n hx hb dL_law_624 rfl a2 ?_
  refine lw_push F hX hbl hbA hS1 a0 a4 (k := 1) (by decide) (by decide) rfl dL_law_625 dL_law_626 dL_law_628 dL_law_629 dL_law_630 ?_
  refine lw_push F hX hbl hbA hS1 a0 a4 (k := 2) (by decide) (by decide) rfl dL_law_631 dL_law_632 dL_law_634 dL_law_635 dL_law_636 ?_
  refine lw_callV F (K := 224) (o := 91) (as := [.int (xs 1), .int (xs 2)]) (by decide +kernel) (pt_8 _ (List.mem_of_getElem? (i := 80) rfl)) (pt_8 _ (List.mem_of_getElem? (i := 81) rfl)) (pt_8 _ (List.mem_of_getElem? (i := 79) rfl)) e2 rfl hq91 ((ht91.trans ht9).trans rfl) (by decide) h1 l1 hl (Nat.le_of_ble_eq_true rfl) dL_law_637 (by omega) (by omega) fun H2 locs2 h2 l2 => ?_
  refine lv_icmp_eq hx hb dL_law_640 rfl (fun _ => kk _ _ _ _ (ph_S hH0 h2 (Nat.zero_le _) l2) (by omega) (by omega)) (fun h => absurd rfl h)
set_option maxRecDepth 100000 in
set_option maxHeartbeats 4000000 in
theorem lc_12 (F : lw_Fx G cL_law p R s m args c) (hX : va_X b 6 xs s s.heap) (hbl : b < s.heap.size) (hbA : ¬ pA G b) (hH0 : pH G [] s.heap) (hH : pH G fF H) (hlo : ∀ q ∈ locs, pB G ≤ q.base) (hl : lv_has ls 7 (lw_lv G b)) (hc : cells ≤ 200) (hs : slots ≤ 1000000) (hRc : 200000 ≤ R.cells) (hRs : 5000000 ≤ R.slots)
    (kk : ∀ H1 locs1 cells1 slots1, va_S (pA G) s.heap H1 locs1 → cells1 ≤ 200000 → slots1 ≤ 5000000 → W p l e R s m args below meth c H1 locs1 cells1 slots1 Q (F0 m 1593 ls [])) : W p l e R s m args below meth c H locs cells slots Q (F0 m 760 ls []) := by
  obtain ⟨hx, hb, -⟩ := id F
  have a0 := lv_at hl 4 rfl
  have a1 := lv_at hl 3 rfl
  have a2 := lv_at hl 2 rfl
  have a4 := lv_at hl 0 rfl
  obtain ⟨v, L1, L2, e1, e2, z1, z2⟩ := cq_12 (xs 1) (xs 2)
  obtain ⟨x, rfl⟩ := pex_int (ty := .boolean) rfl nofun e1
  have g1 := pex_mono _ _ _ _ _ _ e1
  have g2 := pex_mono _ _ _ _ _ _ e2
  obtain ⟨q0, hq0, ht0⟩ := lw_q0
  obtain ⟨q9, hq9, ht9⟩ := lw_q91
  obtain ⟨q91, hq91, ht91⟩ := pex_tag _ _ _ _ _ _ e1 91 q9 hq9
  have hS := ph_S hH0 hH (Nat.zero_le _) hlo
  refine lv_aload_n hx hb dL_law_760 rfl a1 ?_
  refine lw_push F hX hbl hbA hS a0 a4 (k := 1) (by decide) (by decide) rfl dL_law_761 dL_law_762 dL_law_764 dL_law_765 dL_law_766 ?_
  refine lw_push F hX hbl hbA hS a0 a4 (k := 2) (by decide) (by decide) rfl dL_law_767 dL_law_768 dL_law_770 dL_law_771 dL_law_772 ?_
  refine lw_callV F (K := 98) (o := 0) (as := [.int (xs 1), .int (xs 2)]) (by decide +kernel) (pt_4 _ (List.mem_of_getElem? (i := 186) rfl)) (pt_4 _ (List.mem_of_getElem? (i := 187) rfl)) (pt_4 _ (List.mem_of_getElem? (i := 185) rfl)) e1 rfl hq0 (ht0.trans rfl) (by decide) hH hlo hl (Nat.le_of_ble_eq_true rfl) dL_law_773 (by omega) (by omega) fun H1 locs1 h1 l1 => ?_
  have hS1 := ph_S hH0 h1 (Nat.zero_le _) l1
  refine lv_aload_n hx hb dL_law_776 rfl a2 ?_
  refine lw_push F hX hbl hbA hS1 a0 a4 (k := 1) (by decide) (by decide) rfl dL_law_777 dL_law_778 dL_law_780 dL_law_781 dL_law_782 ?_
  refine lw_push F hX hbl hbA hS1 a0 a4 (k := 2) (by decide) (by decide) rfl dL_law_783 dL_law_784 dL_law_786 dL_law_787 dL_law_788 ?_
  refine lw_callV F (K := 232) (o := 91) (as := [.int (xs 1), .int (xs 2)]) (by decide +kernel) (pt_8 _ (List.mem_of_getElem? (i := 114) rfl)) (pt_8 _ (List.mem_of_getElem? (i := 115) rfl)) (pt_8 _ (List.mem_of_getElem? (i := 113) rfl)) e2 rfl hq91 ((ht91.trans ht9).trans rfl) (by decide) h1 l1 hl (Nat.le_of_ble_eq_true rfl) dL_law_789 (by omega) (by omega) fun H2 locs2 h2 l2 => ?_
  refine lv_icmp_eq hx hb dL_law_792 rfl (fun _ => kk _ _ _ _ (ph_S hH0 h2 (Nat.zero_le _) l2) (by omega) (by omega)) (fun h => absurd rfl h)
set_option maxRecDepth 100000 in
set_option maxHeartbeats 4000000 in
theorem lc_13 (F : lw_Fx G cL_law p R s m args c) (hX : va_X b 6 xs s s.heap) (hbl : b < s.heap.size) (hbA : ¬ pA G b) (hH0 : pH G [] s.heap) (hH : pH G fF H) (hlo : ∀ q ∈ locs, pB G ≤ q.base) (hl : lv_has ls 7 (lw_lv G b)) (hc : cells ≤ 200) (hs : slots ≤ 1000000) (hRc : 200000 ≤ R.cells) (hRs : 5000000 ≤ R.slots)
    (kk : ∀ H1 locs1 cells1 slots1, va_S (pA G) s.heap H1 locs1 → cells1 ≤ 200000 → slots1 ≤ 5000000 → W p l e R s m args below meth c H1 locs1 cells1 slots1 Q (F0 m 1593 ls [])) : W p l e R s m args below meth c H locs cells slots Q (F0 m 797 ls []) := by
  obtain ⟨hx, hb, -⟩ := id F
  have a0 := lv_at hl 4 rfl
  have a1 := lv_at hl 3 rfl
  have a2 := lv_at hl 2 rfl
  have a4 := lv_at hl 0 rfl
  obtain ⟨v, L1, L2, e1, e2, z1, z2⟩ := cq_13 (xs 1)
  obtain ⟨x, rfl⟩ := pex_int (ty := .boolean) rfl nofun e1
  have g1 := pex_mono _ _ _ _ _ _ e1
  have g2 := pex_mono _ _ _ _ _ _ e2
  obtain ⟨q0, hq0, ht0⟩ := lw_q0
  obtain ⟨q9, hq9, ht9⟩ := lw_q91
  obtain ⟨q91, hq91, ht91⟩ := pex_tag _ _ _ _ _ _ e1 91 q9 hq9
  have hS := ph_S hH0 hH (Nat.zero_le _) hlo
  refine lv_aload_n hx hb dL_law_797 rfl a1 ?_
  refine lw_push F hX hbl hbA hS a0 a4 (k := 1) (by decide) (by decide) rfl dL_law_798 dL_law_799 dL_law_801 dL_law_802 dL_law_803 ?_
  refine lw_callV F (K := 99) (o := 0) (as := [.int (xs 1)]) (by decide +kernel) (pt_4 _ (List.mem_of_getElem? (i := 190) rfl)) (pt_4 _ (List.mem_of_getElem? (i := 191) rfl)) (pt_4 _ (List.mem_of_getElem? (i := 189) rfl)) e1 rfl hq0 (ht0.trans rfl) (by decide) hH hlo hl (Nat.le_of_ble_eq_true rfl) dL_law_804 (by omega) (by omega) fun H1 locs1 h1 l1 => ?_
  have hS1 := ph_S hH0 h1 (Nat.zero_le _) l1
  refine lv_aload_n hx hb dL_law_807 rfl a2 ?_
  refine lw_push F hX hbl hbA hS1 a0 a4 (k := 1) (by decide) (by decide) rfl dL_law_808 dL_law_809 dL_law_811 dL_law_812 dL_law_813 ?_
  refine lw_callV F (K := 233) (o := 91) (as := [.int (xs 1)]) (by decide +kernel) (pt_8 _ (List.mem_of_getElem? (i := 118) rfl)) (pt_8 _ (List.mem_of_getElem? (i := 119) rfl)) (pt_8 _ (List.mem_of_getElem? (i := 117) rfl)) e2 rfl hq91 ((ht91.trans ht9).trans rfl) (by decide) h1 l1 hl (Nat.le_of_ble_eq_true rfl) dL_law_814 (by omega) (by omega) fun H2 locs2 h2 l2 => ?_
  refine lv_icmp_eq hx hb dL_law_817 rfl (fun _ => kk _ _ _ _ (ph_S hH0 h2 (Nat.zero_le _) l2) (by omega) (by omega)) (fun h => absurd rfl h)
set_option maxRecDepth 100000 in
set_option maxHeartbeats 4000000 in
theorem lc_14 (F : lw_Fx G cL_law p R s m args c) (hX : va_X b 6 xs s s.heap) (hbl : b < s.heap.size) (hbA : ¬ pA G b) (hH0 : pH G [] s.heap) (hH : pH G fF H) (hlo : ∀ q ∈ locs, pB G ≤ q.base) (hl : lv_has ls 7 (lw_lv G b)) (hc : cells ≤ 200) (hs : slots ≤ 1000000) (hRc : 200000 ≤ R.cells) (hRs : 5000000 ≤ R.slots)
    (kk : ∀ H1 locs1 cells1 slots1, va_S (pA G) s.heap H1 locs1 → cells1 ≤ 200000 → slots1 ≤ 5000000 → W p l e R s m args below meth c H1 locs1 cells1 slots1 Q (F0 m 1593 ls [])) : W p l e R s m args below meth c H locs cells slots Q (F0 m 822 ls []) := by
  obtain ⟨hx, hb, -⟩ := id F
  have a0 := lv_at hl 4 rfl
  have a1 := lv_at hl 3 rfl
  have a2 := lv_at hl 2 rfl
  have a4 := lv_at hl 0 rfl
  obtain ⟨v, L1, L2, e1, e2, z1, z2⟩ := cq_14 (xs 1)
  obtain ⟨x, rfl⟩ := pex_int (ty := .boolean) rfl nofun e1
  have g1 := pex_mono _ _ _ _ _ _ e1
  have g2 := pex_mono _ _ _ _ _ _ e2
  obtain ⟨q0, hq0, ht0⟩ := lw_q0
  obtain ⟨q9, hq9, ht9⟩ := lw_q91
  obtain ⟨q91, hq91, ht91⟩ := pex_tag _ _ _ _ _ _ e1 91 q9 hq9
  have hS := ph_S hH0 hH (Nat.zero_le _) hlo
  refine lv_aload_n hx hb dL_law_822 rfl a1 ?_
  refine lw_push F hX hbl hbA hS a0 a4 (k := 1) (by decide) (by decide) rfl dL_law_823 dL_law_824 dL_law_826 dL_law_827 dL_law_828 ?_
  refine lw_callV F (K := 100) (o := 0) (as := [.int (xs 1)]) (by decide +kernel) (pt_4 _ (List.mem_of_getElem? (i := 194) rfl)) (pt_4 _ (List.mem_of_getElem? (i := 195) rfl)) (pt_4 _ (List.mem_of_getElem? (i := 193) rfl)) e1 rfl hq0 (ht0.trans rfl) (by decide) hH hlo hl (Nat.le_of_ble_eq_true rfl) dL_law_829 (by omega) (by omega) fun H1 locs1 h1 l1 => ?_
  have hS1 := ph_S hH0 h1 (Nat.zero_le _) l1
  refine lv_aload_n hx hb dL_law_832 rfl a2 ?_
  refine lw_push F hX hbl hbA hS1 a0 a4 (k := 1) (by decide) (by decide) rfl dL_law_833 dL_law_834 dL_law_836 dL_law_837 dL_law_838 ?_
  refine lw_callV F (K := 234) (o := 91) (as := [.int (xs 1)]) (by decide +kernel) (pt_8 _ (List.mem_of_getElem? (i := 122) rfl)) (pt_8 _ (List.mem_of_getElem? (i := 123) rfl)) (pt_8 _ (List.mem_of_getElem? (i := 121) rfl)) e2 rfl hq91 ((ht91.trans ht9).trans rfl) (by decide) h1 l1 hl (Nat.le_of_ble_eq_true rfl) dL_law_839 (by omega) (by omega) fun H2 locs2 h2 l2 => ?_
  refine lv_icmp_eq hx hb dL_law_842 rfl (fun _ => kk _ _ _ _ (ph_S hH0 h2 (Nat.zero_le _) l2) (by omega) (by omega)) (fun h => absurd rfl h)
set_option maxRecDepth 100000 in
set_option maxHeartbeats 4000000 in
theorem lc_15 (F : lw_Fx G cL_law p R s m args c) (hX : va_X b 6 xs s s.heap) (hbl : b < s.heap.size) (hbA : ¬ pA G b) (hH0 : pH G [] s.heap) (hH : pH G fF H) (hlo : ∀ q ∈ locs, pB G ≤ q.base) (hl : lv_has ls 7 (lw_lv G b)) (hc : cells ≤ 200) (hs : slots ≤ 1000000) (hRc : 200000 ≤ R.cells) (hRs : 5000000 ≤ R.slots)
    (kk : ∀ H1 locs1 cells1 slots1, va_S (pA G) s.heap H1 locs1 → cells1 ≤ 200000 → slots1 ≤ 5000000 → W p l e R s m args below meth c H1 locs1 cells1 slots1 Q (F0 m 1593 ls [])) : W p l e R s m args below meth c H locs cells slots Q (F0 m 847 ls []) := by
  obtain ⟨hx, hb, -⟩ := id F
  have a0 := lv_at hl 4 rfl
  have a1 := lv_at hl 3 rfl
  have a2 := lv_at hl 2 rfl
  have a4 := lv_at hl 0 rfl
  obtain ⟨v, L1, L2, e1, e2, z1, z2⟩ := cq_15 (xs 1)
  obtain ⟨x, rfl⟩ := pex_int (ty := .int) rfl nofun e1
  have g1 := pex_mono _ _ _ _ _ _ e1
  have g2 := pex_mono _ _ _ _ _ _ e2
  obtain ⟨q0, hq0, ht0⟩ := lw_q0
  obtain ⟨q9, hq9, ht9⟩ := lw_q91
  obtain ⟨q91, hq91, ht91⟩ := pex_tag _ _ _ _ _ _ e1 91 q9 hq9
  have hS := ph_S hH0 hH (Nat.zero_le _) hlo
  refine lv_aload_n hx hb dL_law_847 rfl a1 ?_
  refine lw_push F hX hbl hbA hS a0 a4 (k := 1) (by decide) (by decide) rfl dL_law_848 dL_law_849 dL_law_851 dL_law_852 dL_law_853 ?_
  refine lw_callV F (K := 101) (o := 0) (as := [.int (xs 1)]) (by decide +kernel) (pt_4 _ (List.mem_of_getElem? (i := 198) rfl)) (pt_4 _ (List.mem_of_getElem? (i := 199) rfl)) (pt_4 _ (List.mem_of_getElem? (i := 197) rfl)) e1 rfl hq0 (ht0.trans rfl) (by decide) hH hlo hl (Nat.le_of_ble_eq_true rfl) dL_law_854 (by omega) (by omega) fun H1 locs1 h1 l1 => ?_
  have hS1 := ph_S hH0 h1 (Nat.zero_le _) l1
  refine lv_aload_n hx hb dL_law_857 rfl a2 ?_
  refine lw_push F hX hbl hbA hS1 a0 a4 (k := 1) (by decide) (by decide) rfl dL_law_858 dL_law_859 dL_law_861 dL_law_862 dL_law_863 ?_
  refine lw_callV F (K := 235) (o := 91) (as := [.int (xs 1)]) (by decide +kernel) (pt_8 _ (List.mem_of_getElem? (i := 126) rfl)) (pt_8 _ (List.mem_of_getElem? (i := 127) rfl)) (pt_8 _ (List.mem_of_getElem? (i := 125) rfl)) e2 rfl hq91 ((ht91.trans ht9).trans rfl) (by decide) h1 l1 hl (Nat.le_of_ble_eq_true rfl) dL_law_864 (by omega) (by omega) fun H2 locs2 h2 l2 => ?_
  refine lv_icmp_eq hx hb dL_law_867 rfl (fun _ => kk _ _ _ _ (ph_S hH0 h2 (Nat.zero_le _) l2) (by omega) (by omega)) (fun h => absurd rfl h)
end LWX
