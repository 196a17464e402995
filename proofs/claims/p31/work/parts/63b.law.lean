section LWX
variable {p : Program} {l : Launch} {e : Env} {R : Room} {s : State} {m : MethodId} {args : Array Value} {below : List Frame} {meth : Method} {c : Code} {H : Heap} {locs : List Loc} {cells slots : Nat} {Q : State → Prop}
variable {ls : Array Slot} {G : pG} {b Ls : Nat} {xs : Nat → Int32}
set_option maxRecDepth 100000 in
set_option maxHeartbeats 4000000 in
theorem lc_0 (F : lw_Fx G cL_law p R s m args c) (hX : va_X b Ls xs s s.heap) (hbl : b < s.heap.size) (hbA : ¬ pA G b) (hH0 : pH G [] s.heap) {M : sM} {J : pHp} {i : Nat} (hM : uG M) (hH : pH G (sHp sLay M ++ J) H) (hlo : ∀ q ∈ locs, pB G ≤ q.base) (hl : lv_has ls 7 (lw_lvi G b i)) (hi : i + 6 ≤ Ls) (hLs : Ls ≤ 3072) (hrc : cells ≤ R.cells) (hrs : slots ≤ R.slots)
    (kk : ∀ H1 locs1 M1, uG M1 → pH G (sHp sLay M1 ++ J) H1 → (∀ q ∈ locs1, pB G ≤ q.base) → W p l e R s m args below meth c H1 locs1 cells slots Q (F0 m 1564 ls [])) : W p l e R s m args below meth c H locs cells slots Q (F0 m 220 ls []) := by
  obtain ⟨hx, hb, -⟩ := id F
  have a0 := lv_at hl 4 rfl
  have a1 := lv_at hl 3 rfl
  have a2 := lv_at hl 2 rfl
  have a4 := lv_at hl 0 rfl
  have hS := ph_S hH0 hH (Nat.zero_le _) hlo
  obtain ⟨v1, M1, M2, e1, e2, e3⟩ := uo_0 hM J (xs (i + 1)) (xs (i + 2)) (xs (i + 3)) (xs (i + 4)) (xs (i + 5))
  refine lv_aload_n hx hb dL_law_220 rfl a1 ?_
  refine lw_push F hX hbl hbA hS a0 a4 (k := 1) (by omega) (by decide) hLs rfl dL_law_221 dL_law_222 dL_law_224 dL_law_225 dL_law_226 ?_
  refine lw_push F hX hbl hbA hS a0 a4 (k := 2) (by omega) (by decide) hLs rfl dL_law_227 dL_law_228 dL_law_230 dL_law_231 dL_law_232 ?_
  refine lw_push F hX hbl hbA hS a0 a4 (k := 3) (by omega) (by decide) hLs rfl dL_law_233 dL_law_234 dL_law_236 dL_law_237 dL_law_238 ?_
  refine lw_push F hX hbl hbA hS a0 a4 (k := 4) (by omega) (by decide) hLs rfl dL_law_239 dL_law_240 dL_law_242 dL_law_243 dL_law_244 ?_
  refine lw_push F hX hbl hbA hS a0 a4 (k := 5) (by omega) (by decide) hLs rfl dL_law_245 dL_law_246 dL_law_248 dL_law_249 dL_law_250 ?_
  refine lw_callU F (K := 25) (o := 0) (as := [.int (xs (i + 1)), .int (xs (i + 2)), .int (xs (i + 3)), .int (xs (i + 4)), .int (xs (i + 5))]) (by decide +kernel) (pt_3 _ (List.mem_of_getElem? (i := 123) rfl)) (pt_3 _ (List.mem_of_getElem? (i := 124) rfl)) (pt_3 _ (List.mem_of_getElem? (i := 122) rfl)) e1 rfl (c1 := sLay[0]) rfl rfl (by decide) hH hlo hl (Nat.le_of_ble_eq_true rfl) dL_law_251 hrc hrs fun H1 locs1 h1 l1 => ?_
  have hS1 := ph_S hH0 h1 (Nat.zero_le _) l1
  refine lv_pop hx hb dL_law_254 rfl ?_
  refine lv_aload_n hx hb dL_law_255 rfl a2 ?_
  refine lw_push F hX hbl hbA hS1 a0 a4 (k := 1) (by omega) (by decide) hLs rfl dL_law_256 dL_law_257 dL_law_259 dL_law_260 dL_law_261 ?_
  refine lw_push F hX hbl hbA hS1 a0 a4 (k := 2) (by omega) (by decide) hLs rfl dL_law_262 dL_law_263 dL_law_265 dL_law_266 dL_law_267 ?_
  refine lw_push F hX hbl hbA hS1 a0 a4 (k := 3) (by omega) (by decide) hLs rfl dL_law_268 dL_law_269 dL_law_271 dL_law_272 dL_law_273 ?_
  refine lw_push F hX hbl hbA hS1 a0 a4 (k := 4) (by omega) (by decide) hLs rfl dL_law_274 dL_law_275 dL_law_277 dL_law_278 dL_law_279 ?_
  refine lw_push F hX hbl hbA hS1 a0 a4 (k := 5) (by omega) (by decide) hLs rfl dL_law_280 dL_law_281 dL_law_283 dL_law_284 dL_law_285 ?_
  refine lw_callU F (K := 168) (o := 91) (as := [.int (xs (i + 1)), .int (xs (i + 2)), .int (xs (i + 3)), .int (xs (i + 4)), .int (xs (i + 5))]) (by decide +kernel) (pt_7 _ (List.mem_of_getElem? (i := 92) rfl)) (pt_7 _ (List.mem_of_getElem? (i := 93) rfl)) (pt_7 _ (List.mem_of_getElem? (i := 91) rfl)) e2 rfl (c1 := sLay[91]) rfl rfl (by decide) h1 l1 hl (Nat.le_of_ble_eq_true rfl) dL_law_286 hrc hrs fun H2 locs2 h2 l2 => ?_
  refine lv_pop hx hb dL_law_289 rfl ?_
  exact lv_goto hx hb dL_law_290 (tgt := 1564) rfl (kk _ _ _ e3 h2 l2)
set_option maxRecDepth 100000 in
set_option maxHeartbeats 4000000 in
theorem lc_1 (F : lw_Fx G cL_law p R s m args c) (hX : va_X b Ls xs s s.heap) (hbl : b < s.heap.size) (hbA : ¬ pA G b) (hH0 : pH G [] s.heap) {M : sM} {J : pHp} {i : Nat} (hM : uG M) (hH : pH G (sHp sLay M ++ J) H) (hlo : ∀ q ∈ locs, pB G ≤ q.base) (hl : lv_has ls 7 (lw_lvi G b i)) (hi : i + 6 ≤ Ls) (hLs : Ls ≤ 3072) (hrc : cells ≤ R.cells) (hrs : slots ≤ R.slots)
    (kk : ∀ H1 locs1 M1, uG M1 → pH G (sHp sLay M1 ++ J) H1 → (∀ q ∈ locs1, pB G ≤ q.base) → W p l e R s m args below meth c H1 locs1 cells slots Q (F0 m 1564 ls [])) : W p l e R s m args below meth c H locs cells slots Q (F0 m 293 ls []) := by
  obtain ⟨hx, hb, -⟩ := id F
  have a0 := lv_at hl 4 rfl
  have a1 := lv_at hl 3 rfl
  have a2 := lv_at hl 2 rfl
  have a4 := lv_at hl 0 rfl
  have hS := ph_S hH0 hH (Nat.zero_le _) hlo
  obtain ⟨v1, M1, M2, e1, e2, e3⟩ := uo_1 hM J (xs (i + 1))
  refine lv_aload_n hx hb dL_law_293 rfl a1 ?_
  refine lw_push F hX hbl hbA hS a0 a4 (k := 1) (by omega) (by decide) hLs rfl dL_law_294 dL_law_295 dL_law_297 dL_law_298 dL_law_299 ?_
  refine lw_callU F (K := 27) (o := 0) (as := [.int (xs (i + 1))]) (by decide +kernel) (pt_3 _ (List.mem_of_getElem? (i := 131) rfl)) (pt_3 _ (List.mem_of_getElem? (i := 132) rfl)) (pt_3 _ (List.mem_of_getElem? (i := 130) rfl)) e1 rfl (c1 := sLay[0]) rfl rfl (by decide) hH hlo hl (Nat.le_of_ble_eq_true rfl) dL_law_300 hrc hrs fun H1 locs1 h1 l1 => ?_
  have hS1 := ph_S hH0 h1 (Nat.zero_le _) l1
  refine lv_pop hx hb dL_law_303 rfl ?_
  refine lv_aload_n hx hb dL_law_304 rfl a2 ?_
  refine lw_push F hX hbl hbA hS1 a0 a4 (k := 1) (by omega) (by decide) hLs rfl dL_law_305 dL_law_306 dL_law_308 dL_law_309 dL_law_310 ?_
  refine lw_callU F (K := 169) (o := 91) (as := [.int (xs (i + 1))]) (by decide +kernel) (pt_7 _ (List.mem_of_getElem? (i := 96) rfl)) (pt_7 _ (List.mem_of_getElem? (i := 97) rfl)) (pt_7 _ (List.mem_of_getElem? (i := 95) rfl)) e2 rfl (c1 := sLay[91]) rfl rfl (by decide) h1 l1 hl (Nat.le_of_ble_eq_true rfl) dL_law_311 hrc hrs fun H2 locs2 h2 l2 => ?_
  refine lv_pop hx hb dL_law_314 rfl ?_
  exact lv_goto hx hb dL_law_315 (tgt := 1564) rfl (kk _ _ _ e3 h2 l2)
set_option maxRecDepth 100000 in
set_option maxHeartbeats 4000000 in
theorem lc_2 (F : lw_Fx G cL_law p R s m args c) (hX : va_X b Ls xs s s.heap) (hbl : b < s.heap.size) (hbA : ¬ pA G b) (hH0 : pH G [] s.heap) {M : sM} {J : pHp} {i : Nat} (hM : uG M) (hH : pH G (sHp sLay M ++ J) H) (hlo : ∀ q ∈ locs, pB G ≤ q.base) (hl : lv_has ls 7 (lw_lvi G b i)) (hi : i + 6 ≤ Ls) (hLs : Ls ≤ 3072) (hrc : cells ≤ R.cells) (hrs : slots ≤ R.slots)
    (kk : ∀ H1 locs1 M1, uG M1 → pH G (sHp sLay M1 ++ J) H1 → (∀ q ∈ locs1, pB G ≤ q.base) → W p l e R s m args below meth c H1 locs1 cells slots Q (F0 m 1564 ls [])) : W p l e R s m args below meth c H locs cells slots Q (F0 m 318 ls []) := by
  obtain ⟨hx, hb, -⟩ := id F
  have a0 := lv_at hl 4 rfl
  have a1 := lv_at hl 3 rfl
  have a2 := lv_at hl 2 rfl
  have a4 := lv_at hl 0 rfl
  have hS := ph_S hH0 hH (Nat.zero_le _) hlo
  obtain ⟨v1, M1, v2, M2, e1, e2, e3⟩ := uo_2 hM J (xs (i + 1))
  refine lv_aload_n hx hb dL_law_318 rfl a1 ?_
  refine lw_push F hX hbl hbA hS a0 a4 (k := 1) (by omega) (by decide) hLs rfl dL_law_319 dL_law_320 dL_law_322 dL_law_323 dL_law_324 ?_
  refine lw_callU F (K := 70) (o := 0) (as := [.int (xs (i + 1))]) (by decide +kernel) (pt_4 _ (List.mem_of_getElem? (i := 62) rfl)) (pt_4 _ (List.mem_of_getElem? (i := 63) rfl)) (pt_4 _ (List.mem_of_getElem? (i := 61) rfl)) e1 rfl (c1 := sLay[0]) rfl rfl (by decide) hH hlo hl (Nat.le_of_ble_eq_true rfl) dL_law_325 hrc hrs fun H1 locs1 h1 l1 => ?_
  have hS1 := ph_S hH0 h1 (Nat.zero_le _) l1
  refine lv_pop hx hb dL_law_328 rfl ?_
  refine lv_aload_n hx hb dL_law_329 rfl a2 ?_
  refine lw_push F hX hbl hbA hS1 a0 a4 (k := 1) (by omega) (by decide) hLs rfl dL_law_330 dL_law_331 dL_law_333 dL_law_334 dL_law_335 ?_
  refine lw_callU F (K := 201) (o := 91) (as := [.int (xs (i + 1))]) (by decide +kernel) (pt_7 _ (List.mem_of_getElem? (i := 224) rfl)) (pt_7 _ (List.mem_of_getElem? (i := 225) rfl)) (pt_7 _ (List.mem_of_getElem? (i := 223) rfl)) e2 rfl (c1 := sLay[91]) rfl rfl (by decide) h1 l1 hl (Nat.le_of_ble_eq_true rfl) dL_law_336 hrc hrs fun H2 locs2 h2 l2 => ?_
  refine lv_pop hx hb dL_law_339 rfl ?_
  exact lv_goto hx hb dL_law_340 (tgt := 1564) rfl (kk _ _ _ e3 h2 l2)
set_option maxRecDepth 100000 in
set_option maxHeartbeats 4000000 in
theorem lc_3 (F : lw_Fx G cL_law p R s m args c) (hX : va_X b Ls xs s s.heap) (hbl : b < s.heap.size) (hbA : ¬ pA G b) (hH0 : pH G [] s.heap) {M : sM} {J : pHp} {i : Nat} (hM : uG M) (hH : pH G (sHp sLay M ++ J) H) (hlo : ∀ q ∈ locs, pB G ≤ q.base) (hl : lv_has ls 7 (lw_lvi G b i)) (hi : i + 6 ≤ Ls) (hLs : Ls ≤ 3072) (hrc : cells ≤ R.cells) (hrs : slots ≤ R.slots)
    (kk : ∀ H1 locs1 M1, uG M1 → pH G (sHp sLay M1 ++ J) H1 → (∀ q ∈ locs1, pB G ≤ q.base) → W p l e R s m args below meth c H1 locs1 cells slots Q (F0 m 1564 ls [])) : W p l e R s m args below meth c H locs cells slots Q (F0 m 343 ls []) := by
  obtain ⟨hx, hb, -⟩ := id F
  have a0 := lv_at hl 4 rfl
  have a1 := lv_at hl 3 rfl
  have a2 := lv_at hl 2 rfl
  have a4 := lv_at hl 0 rfl
  have hS := ph_S hH0 hH (Nat.zero_le _) hlo
  obtain ⟨v1, M1, v2, M2, e1, e2, e3⟩ := uo_3 hM J (xs (i + 1)) (xs (i + 2))
  refine lv_aload_n hx hb dL_law_343 rfl a1 ?_
  refine lw_push F hX hbl hbA hS a0 a4 (k := 1) (by omega) (by decide) hLs rfl dL_law_344 dL_law_345 dL_law_347 dL_law_348 dL_law_349 ?_
  refine lw_push F hX hbl hbA hS a0 a4 (k := 2) (by omega) (by decide) hLs rfl dL_law_350 dL_law_351 dL_law_353 dL_law_354 dL_law_355 ?_
  refine lw_callU F (K := 71) (o := 0) (as := [.int (xs (i + 1)), .int (xs (i + 2))]) (by decide +kernel) (pt_4 _ (List.mem_of_getElem? (i := 66) rfl)) (pt_4 _ (List.mem_of_getElem? (i := 67) rfl)) (pt_4 _ (List.mem_of_getElem? (i := 65) rfl)) e1 rfl (c1 := sLay[0]) rfl rfl (by decide) hH hlo hl (Nat.le_of_ble_eq_true rfl) dL_law_356 hrc hrs fun H1 locs1 h1 l1 => ?_
  have hS1 := ph_S hH0 h1 (Nat.zero_le _) l1
  refine lv_pop hx hb dL_law_359 rfl ?_
  refine lv_aload_n hx hb dL_law_360 rfl a2 ?_
  refine lw_push F hX hbl hbA hS1 a0 a4 (k := 1) (by omega) (by decide) hLs rfl dL_law_361 dL_law_362 dL_law_364 dL_law_365 dL_law_366 ?_
  refine lw_push F hX hbl hbA hS1 a0 a4 (k := 2) (by omega) (by decide) hLs rfl dL_law_367 dL_law_368 dL_law_370 dL_law_371 dL_law_372 ?_
  refine lw_callU F (K := 202) (o := 91) (as := [.int (xs (i + 1)), .int (xs (i + 2))]) (by decide +kernel) (pt_7 _ (List.mem_of_getElem? (i := 228) rfl)) (pt_7 _ (List.mem_of_getElem? (i := 229) rfl)) (pt_7 _ (List.mem_of_getElem? (i := 227) rfl)) e2 rfl (c1 := sLay[91]) rfl rfl (by decide) h1 l1 hl (Nat.le_of_ble_eq_true rfl) dL_law_373 hrc hrs fun H2 locs2 h2 l2 => ?_
  refine lv_pop hx hb dL_law_376 rfl ?_
  exact lv_goto hx hb dL_law_377 (tgt := 1564) rfl (kk _ _ _ e3 h2 l2)
set_option maxRecDepth 100000 in
set_option maxHeartbeats 4000000 in
theorem lc_5 (F : lw_Fx G cL_law p R s m args c) (hX : va_X b Ls xs s s.heap) (hbl : b < s.heap.size) (hbA : ¬ pA G b) (hH0 : pH G [] s.heap) {M : sM} {J : pHp} {i : Nat} (hM : uG M) (hH : pH G (sHp sLay M ++ J) H) (hlo : ∀ q ∈ locs, pB G ≤ q.base) (hl : lv_has ls 7 (lw_lvi G b i)) (hi : i + 6 ≤ Ls) (hLs : Ls ≤ 3072) (hrc : cells ≤ R.cells) (hrs : slots ≤ R.slots)
    (kk : ∀ H1 locs1 M1, uG M1 → pH G (sHp sLay M1 ++ J) H1 → (∀ q ∈ locs1, pB G ≤ q.base) → W p l e R s m args below meth c H1 locs1 cells slots Q (F0 m 1564 ls [])) : W p l e R s m args below meth c H locs cells slots Q (F0 m 420 ls []) := by
  obtain ⟨hx, hb, -⟩ := id F
  have a0 := lv_at hl 4 rfl
  have a1 := lv_at hl 3 rfl
  have a2 := lv_at hl 2 rfl
  have a4 := lv_at hl 0 rfl
  have hS := ph_S hH0 hH (Nat.zero_le _) hlo
  obtain ⟨v1, M1, v2, M2, e1, e2, e3⟩ := uo_5 hM J (xs (i + 1)) (xs (i + 2))
  refine lv_aload_n hx hb dL_law_420 rfl a1 ?_
  refine lw_push F hX hbl hbA hS a0 a4 (k := 1) (by omega) (by decide) hLs rfl dL_law_421 dL_law_422 dL_law_424 dL_law_425 dL_law_426 ?_
  refine lw_push F hX hbl hbA hS a0 a4 (k := 2) (by omega) (by decide) hLs rfl dL_law_427 dL_law_428 dL_law_430 dL_law_431 dL_law_432 ?_
  refine lw_callU F (K := 72) (o := 0) (as := [.int (xs (i + 1)), .int (xs (i + 2))]) (by decide +kernel) (pt_4 _ (List.mem_of_getElem? (i := 73) rfl)) (pt_4 _ (List.mem_of_getElem? (i := 74) rfl)) (pt_4 _ (List.mem_of_getElem? (i := 72) rfl)) e1 rfl (c1 := sLay[0]) rfl rfl (by decide) hH hlo hl (Nat.le_of_ble_eq_true rfl) dL_law_433 hrc hrs fun H1 locs1 h1 l1 => ?_
  have hS1 := ph_S hH0 h1 (Nat.zero_le _) l1
  refine lv_pop hx hb dL_law_436 rfl ?_
  refine lv_aload_n hx hb dL_law_437 rfl a2 ?_
  refine lw_push F hX hbl hbA hS1 a0 a4 (k := 1) (by omega) (by decide) hLs rfl dL_law_438 dL_law_439 dL_law_441 dL_law_442 dL_law_443 ?_
  refine lw_push F hX hbl hbA hS1 a0 a4 (k := 2) (by omega) (by decide) hLs rfl dL_law_444 dL_law_445 dL_law_447 dL_law_448 dL_law_449 ?_
  refine lw_callU F (K := 206) (o := 91) (as := [.int (xs (i + 1)), .int (xs (i + 2))]) (by decide +kernel) (pt_8 _ (List.mem_of_getElem? (i := 5) rfl)) (pt_8 _ (List.mem_of_getElem? (i := 6) rfl)) (pt_8 _ (List.mem_of_getElem? (i := 4) rfl)) e2 rfl (c1 := sLay[91]) rfl rfl (by decide) h1 l1 hl (Nat.le_of_ble_eq_true rfl) dL_law_450 hrc hrs fun H2 locs2 h2 l2 => ?_
  refine lv_pop hx hb dL_law_453 rfl ?_
  exact lv_goto hx hb dL_law_454 (tgt := 1564) rfl (kk _ _ _ e3 h2 l2)
set_option maxRecDepth 100000 in
set_option maxHeartbeats 4000000 in
theorem lc_6 (F : lw_Fx G cL_law p R s m args c) (hX : va_X b Ls xs s s.heap) (hbl : b < s.heap.size) (hbA : ¬ pA G b) (hH0 : pH G [] s.heap) {M : sM} {J : pHp} {i : Nat} (hM : uG M) (hH : pH G (sHp sLay M ++ J) H) (hlo : ∀ q ∈ locs, pB G ≤ q.base) (hl : lv_has ls 7 (lw_lvi G b i)) (hi : i + 6 ≤ Ls) (hLs : Ls ≤ 3072) (hrc : cells ≤ R.cells) (hrs : slots ≤ R.slots)
    (kk : ∀ H1 locs1 M1, uG M1 → pH G (sHp sLay M1 ++ J) H1 → (∀ q ∈ locs1, pB G ≤ q.base) → W p l e R s m args below meth c H1 locs1 cells slots Q (F0 m 1564 ls [])) : W p l e R s m args below meth c H locs cells slots Q (F0 m 457 ls []) := by
  obtain ⟨hx, hb, -⟩ := id F
  have a0 := lv_at hl 4 rfl
  have a1 := lv_at hl 3 rfl
  have a2 := lv_at hl 2 rfl
  have a4 := lv_at hl 0 rfl
  have hS := ph_S hH0 hH (Nat.zero_le _) hlo
  obtain ⟨v1, M1, v2, M2, e1, e2, e3⟩ := uo_6 hM J (xs (i + 1)) (xs (i + 2))
  refine lv_aload_n hx hb dL_law_457 rfl a1 ?_
  refine lw_push F hX hbl hbA hS a0 a4 (k := 1) (by omega) (by decide) hLs rfl dL_law_458 dL_law_459 dL_law_461 dL_law_462 dL_law_463 ?_
  refine lw_push F hX hbl hbA hS a0 a4 (k := 2) (by omega) (by decide) hLs rfl dL_law_464 dL_law_465 dL_law_467 dL_law_468 dL_law_469 ?_
  refine lw_callU F (K := 74) (o := 0) (as := [.int (xs (i + 1)), .int (xs (i + 2))]) (by decide +kernel) (pt_4 _ (List.mem_of_getElem? (i := 81) rfl)) (pt_4 _ (List.mem_of_getElem? (i := 82) rfl)) (pt_4 _ (List.mem_of_getElem? (i := 80) rfl)) e1 rfl (c1 := sLay[0]) rfl rfl (by decide) hH hlo hl (Nat.le_of_ble_eq_true rfl) dL_law_470 hrc hrs fun H1 locs1 h1 l1 => ?_
  have hS1 := ph_S hH0 h1 (Nat.zero_le _) l1
  refine lv_pop hx hb dL_law_473 rfl ?_
  refine lv_aload_n hx hb dL_law_474 rfl a2 ?_
  refine lw_push F hX hbl hbA hS1 a0 a4 (k := 1) (by omega) (by decide) hLs rfl dL_law_475 dL_law_476 dL_law_478 dL_law_479 dL_law_480 ?_
  refine lw_push F hX hbl hbA hS1 a0 a4 (k := 2) (by omega) (by decide) hLs rfl dL_law_481 dL_law_482 dL_law_484 dL_law_485 dL_law_486 ?_
  refine lw_callU F (K := 208) (o := 91) (as := [.int (xs (i + 1)), .int (xs (i + 2))]) (by decide +kernel) (pt_8 _ (List.mem_of_getElem? (i := 13) rfl)) (pt_8 _ (List.mem_of_getElem? (i := 14) rfl)) (pt_8 _ (List.mem_of_getElem? (i := 12) rfl)) e2 rfl (c1 := sLay[91]) rfl rfl (by decide) h1 l1 hl (Nat.le_of_ble_eq_true rfl) dL_law_487 hrc hrs fun H2 locs2 h2 l2 => ?_
  refine lv_pop hx hb dL_law_490 rfl ?_
  exact lv_goto hx hb dL_law_491 (tgt := 1564) rfl (kk _ _ _ e3 h2 l2)
set_option maxRecDepth 100000 in
set_option maxHeartbeats 4000000 in
theorem lc_7 (F : lw_Fx G cL_law p R s m args c) (hX : va_X b Ls xs s s.heap) (hbl : b < s.heap.size) (hbA : ¬ pA G b) (hH0 : pH G [] s.heap) {M : sM} {J : pHp} {i : Nat} (hM : uG M) (hH : pH G (sHp sLay M ++ J) H) (hlo : ∀ q ∈ locs, pB G ≤ q.base) (hl : lv_has ls 7 (lw_lvi G b i)) (hi : i + 6 ≤ Ls) (hLs : Ls ≤ 3072) (hrc : cells ≤ R.cells) (hrs : slots ≤ R.slots)
    (kk : ∀ H1 locs1 M1, uG M1 → pH G (sHp sLay M1 ++ J) H1 → (∀ q ∈ locs1, pB G ≤ q.base) → W p l e R s m args below meth c H1 locs1 cells slots Q (F0 m 1564 ls [])) : W p l e R s m args below meth c H locs cells slots Q (F0 m 494 ls []) := by
  obtain ⟨hx, hb, -⟩ := id F
  have a0 := lv_at hl 4 rfl
  have a1 := lv_at hl 3 rfl
  have a2 := lv_at hl 2 rfl
  have a4 := lv_at hl 0 rfl
  have hS := ph_S hH0 hH (Nat.zero_le _) hlo
  obtain ⟨v1, M1, v2, M2, e1, e2, e3⟩ := uo_7 hM J (xs (i + 1)) (xs (i + 2)) (xs (i + 3))
  refine lv_aload_n hx hb dL_law_494 rfl a1 ?_
  refine lw_push F hX hbl hbA hS a0 a4 (k := 1) (by omega) (by decide) hLs rfl dL_law_495 dL_law_496 dL_law_498 dL_law_499 dL_law_500 ?_
  refine lw_push F hX hbl hbA hS a0 a4 (k := 2) (by omega) (by decide) hLs rfl dL_law_501 dL_law_502 dL_law_504 dL_law_505 dL_law_506 ?_
  refine lw_push F hX hbl hbA hS a0 a4 (k := 3) (by omega) (by decide) hLs rfl dL_law_507 dL_law_508 dL_law_510 dL_law_511 dL_law_512 ?_
  refine lw_callU F (K := 76) (o := 0) (as := [.int (xs (i + 1)), .int (xs (i + 2)), .int (xs (i + 3))]) (by decide +kernel) (pt_4 _ (List.mem_of_getElem? (i := 89) rfl)) (pt_4 _ (List.mem_of_getElem? (i := 90) rfl)) (pt_4 _ (List.mem_of_getElem? (i := 88) rfl)) e1 rfl (c1 := sLay[0]) rfl rfl (by decide) hH hlo hl (Nat.le_of_ble_eq_true rfl) dL_law_513 hrc hrs fun H1 locs1 h1 l1 => ?_
  have hS1 := ph_S hH0 h1 (Nat.zero_le _) l1
  refine lv_pop hx hb dL_law_516 rfl ?_
  refine lv_aload_n hx hb dL_law_517 rfl a2 ?_
  refine lw_push F hX hbl hbA hS1 a0 a4 (k := 1) (by omega) (by decide) hLs rfl dL_law_518 dL_law_519 dL_law_521 dL_law_522 dL_law_523 ?_
  refine lw_push F hX hbl hbA hS1 a0 a4 (k := 2) (by omega) (by decide) hLs rfl dL_law_524 dL_law_525 dL_law_527 dL_law_528 dL_law_529 ?_
  refine lw_push F hX hbl hbA hS1 a0 a4 (k := 3) (by omega) (by decide) hLs rfl dL_law_530 dL_law_531 dL_law_533 dL_law_534 dL_law_535 ?_
  refine lw_callU F (K := 210) (o := 91) (as := [.int (xs (i + 1)), .int (xs (i + 2)), .int (xs (i + 3))]) (by decide +kernel) (pt_8 _ (List.mem_of_getElem? (i := 21) rfl)) (pt_8 _ (List.mem_of_getElem? (i := 22) rfl)) (pt_8 _ (List.mem_of_getElem? (i := 20) rfl)) e2 rfl (c1 := sLay[91]) rfl rfl (by decide) h1 l1 hl (Nat.le_of_ble_eq_true rfl) dL_law_536 hrc hrs fun H2 locs2 h2 l2 => ?_
  refine lv_pop hx hb dL_law_539 rfl ?_
  exact lv_goto hx hb dL_law_540 (tgt := 1564) rfl (kk _ _ _ e3 h2 l2)
set_option maxRecDepth 100000 in
set_option maxHeartbeats 4000000 in
theorem lc_8 (F : lw_Fx G cL_law p R s m args c) (hX : va_X b Ls xs s s.heap) (hbl : b < s.heap.size) (hbA : ¬ pA G b) (hH0 : pH G [] s.heap) {M : sM} {J : pHp} {i : Nat} (hM : uG M) (hH : pH G (sHp sLay M ++ J) H) (hlo : ∀ q ∈ locs, pB G ≤ q.base) (hl : lv_has ls 7 (lw_lvi G b i)) (hi : i + 6 ≤ Ls) (hLs : Ls ≤ 3072) (hrc : cells ≤ R.cells) (hrs : slots ≤ R.slots)
    (kk : ∀ H1 locs1 M1, uG M1 → pH G (sHp sLay M1 ++ J) H1 → (∀ q ∈ locs1, pB G ≤ q.base) → W p l e R s m args below meth c H1 locs1 cells slots Q (F0 m 1564 ls [])) : W p l e R s m args below meth c H locs cells slots Q (F0 m 543 ls []) := by
  obtain ⟨hx, hb, -⟩ := id F
  have a0 := lv_at hl 4 rfl
  have a1 := lv_at hl 3 rfl
  have a2 := lv_at hl 2 rfl
  have a4 := lv_at hl 0 rfl
  have hS := ph_S hH0 hH (Nat.zero_le _) hlo
  obtain ⟨v1, M1, v2, M2, e1, e2, e3⟩ := uo_8 hM J (xs (i + 1)) (xs (i + 2))
  refine lv_aload_n hx hb dL_law_543 rfl a1 ?_
  refine lw_push F hX hbl hbA hS a0 a4 (k := 1) (by omega) (by decide) hLs rfl dL_law_544 dL_law_545 dL_law_547 dL_law_548 dL_law_549 ?_
  refine lw_push F hX hbl hbA hS a0 a4 (k := 2) (by omega) (by decide) hLs rfl dL_law_550 dL_law_551 dL_law_553 dL_law_554 dL_law_555 ?_
  refine lw_callU F (K := 88) (o := 0) (as := [.int (xs (i + 1)), .int (xs (i + 2))]) (by decide +kernel) (pt_4 _ (List.mem_of_getElem? (i := 137) rfl)) (pt_4 _ (List.mem_of_getElem? (i := 138) rfl)) (pt_4 _ (List.mem_of_getElem? (i := 136) rfl)) e1 rfl (c1 := sLay[0]) rfl rfl (by decide) hH hlo hl (Nat.le_of_ble_eq_true rfl) dL_law_556 hrc hrs fun H1 locs1 h1 l1 => ?_
  have hS1 := ph_S hH0 h1 (Nat.zero_le _) l1
  refine lv_pop hx hb dL_law_559 rfl ?_
  refine lv_aload_n hx hb dL_law_560 rfl a2 ?_
  refine lw_push F hX hbl hbA hS1 a0 a4 (k := 1) (by omega) (by decide) hLs rfl dL_law_561 dL_law_562 dL_law_564 dL_law_565 dL_law_566 ?_
  refine lw_push F hX hbl hbA hS1 a0 a4 (k := 2) (by omega) (by decide) hLs rfl dL_law_567 dL_law_568 dL_law_570 dL_law_571 dL_law_572 ?_
  refine lw_callU F (K := 220) (o := 91) (as := [.int (xs (i + 1)), .int (xs (i + 2))]) (by decide +kernel) (pt_8 _ (List.mem_of_getElem? (i := 64) rfl)) (pt_8 _ (List.mem_of_getElem? (i := 65) rfl)) (pt_8 _ (List.mem_of_getElem? (i := 63) rfl)) e2 rfl (c1 := sLay[91]) rfl rfl (by decide) h1 l1 hl (Nat.le_of_ble_eq_true rfl) dL_law_573 hrc hrs fun H2 locs2 h2 l2 => ?_
  refine lv_pop hx hb dL_law_576 rfl ?_
  exact lv_goto hx hb dL_law_577 (tgt := 1564) rfl (kk _ _ _ e3 h2 l2)
set_option maxRecDepth 100000 in
set_option maxHeartbeats 4000000 in
theorem lc_9 (F : lw_Fx G cL_law p R s m args c) (hX : va_X b Ls xs s s.heap) (hbl : b < s.heap.size) (hbA : ¬ pA G b) (hH0 : pH G [] s.heap) {M : sM} {J : pHp} {i : Nat} (hM : uG M) (hH : pH G (sHp sLay M ++ J) H) (hlo : ∀ q ∈ locs, pB G ≤ q.base) (hl : lv_has ls 7 (lw_lvi G b i)) (hi : i + 6 ≤ Ls) (hLs : Ls ≤ 3072) (hrc : cells ≤ R.cells) (hrs : slots ≤ R.slots)
    (kk : ∀ H1 locs1 M1, uG M1 → pH G (sHp sLay M1 ++ J) H1 → (∀ q ∈ locs1, pB G ≤ q.base) → W p l e R s m args below meth c H1 locs1 cells slots Q (F0 m 1564 ls [])) : W p l e R s m args below meth c H locs cells slots Q (F0 m 580 ls []) := by
  obtain ⟨hx, hb, -⟩ := id F
  have a0 := lv_at hl 4 rfl
  have a1 := lv_at hl 3 rfl
  have a2 := lv_at hl 2 rfl
  have a4 := lv_at hl 0 rfl
  have hS := ph_S hH0 hH (Nat.zero_le _) hlo
  obtain ⟨v1, M1, v2, M2, e1, e2, e3⟩ := uo_9 hM J (xs (i + 1)) (xs (i + 2))
  refine lv_aload_n hx hb dL_law_580 rfl a1 ?_
  refine lw_push F hX hbl hbA hS a0 a4 (k := 1) (by omega) (by decide) hLs rfl dL_law_581 dL_law_582 dL_law_584 dL_law_585 dL_law_586 ?_
  refine lw_push F hX hbl hbA hS a0 a4 (k := 2) (by omega) (by decide) hLs rfl dL_law_587 dL_law_588 dL_law_590 dL_law_591 dL_law_592 ?_
  refine lw_callU F (K := 90) (o := 0) (as := [.int (xs (i + 1)), .int (xs (i + 2))]) (by decide +kernel) (pt_4 _ (List.mem_of_getElem? (i := 146) rfl)) (pt_4 _ (List.mem_of_getElem? (i := 147) rfl)) (pt_4 _ (List.mem_of_getElem? (i := 145) rfl)) e1 rfl (c1 := sLay[0]) rfl rfl (by decide) hH hlo hl (Nat.le_of_ble_eq_true rfl) dL_law_593 hrc hrs fun H1 locs1 h1 l1 => ?_
  have hS1 := ph_S hH0 h1 (Nat.zero_le _) l1
  refine lv_pop hx hb dL_law_596 rfl ?_
  refine lv_aload_n hx hb dL_law_597 rfl a2 ?_
  refine lw_push F hX hbl hbA hS1 a0 a4 (k := 1) (by omega) (by decide) hLs rfl dL_law_598 dL_law_599 dL_law_601 dL_law_602 dL_law_603 ?_
  refine lw_push F hX hbl hbA hS1 a0 a4 (k := 2) (by omega) (by decide) hLs rfl dL_law_604 dL_law_605 dL_law_607 dL_law_608 dL_law_609 ?_
  refine lw_callU F (K := 223) (o := 91) (as := [.int (xs (i + 1)), .int (xs (i + 2))]) (by decide +kernel) (pt_8 _ (List.mem_of_getElem? (i := 76) rfl)) (pt_8 _ (List.mem_of_getElem? (i := 77) rfl)) (pt_8 _ (List.mem_of_getElem? (i := 75) rfl)) e2 rfl (c1 := sLay[91]) rfl rfl (by decide) h1 l1 hl (Nat.le_of_ble_eq_true rfl) dL_law_610 hrc hrs fun H2 locs2 h2 l2 => ?_
  refine lv_pop hx hb dL_law_613 rfl ?_
  exact lv_goto hx hb dL_law_614 (tgt := 1564) rfl (kk _ _ _ e3 h2 l2)
set_option maxRecDepth 100000 in
set_option maxHeartbeats 4000000 in
theorem lc_10 (F : lw_Fx G cL_law p R s m args c) (hX : va_X b Ls xs s s.heap) (hbl : b < s.heap.size) (hbA : ¬ pA G b) (hH0 : pH G [] s.heap) {M : sM} {J : pHp} {i : Nat} (hM : uG M) (hH : pH G (sHp sLay M ++ J) H) (hlo : ∀ q ∈ locs, pB G ≤ q.base) (hl : lv_has ls 7 (lw_lvi G b i)) (hi : i + 6 ≤ Ls) (hLs : Ls ≤ 3072) (hrc : cells ≤ R.cells) (hrs : slots ≤ R.slots)
    (kk : ∀ H1 locs1 M1, uG M1 → pH G (sHp sLay M1 ++ J) H1 → (∀ q ∈ locs1, pB G ≤ q.base) → W p l e R s m args below meth c H1 locs1 cells slots Q (F0 m 1564 ls [])) : W p l e R s m args below meth c H locs cells slots Q (F0 m 617 ls []) := by
  obtain ⟨hx, hb, -⟩ := id F
  have a0 := lv_at hl 4 rfl
  have a1 := lv_at hl 3 rfl
  have a2 := lv_at hl 2 rfl
  have a4 := lv_at hl 0 rfl
  have hS := ph_S hH0 hH (Nat.zero_le _) hlo
  obtain ⟨v1, M1, v2, M2, e1, e2, e3⟩ := uo_10 hM J (xs (i + 1)) (xs (i + 2)) (xs (i + 3)) (xs (i + 4))
  refine lv_aload_n hx hb dL_law_617 rfl a1 ?_
  refine lw_push F hX hbl hbA hS a0 a4 (k := 1) (by omega) (by decide) hLs rfl dL_law_618 dL_law_619 dL_law_621 dL_law_622 dL_law_623 ?_
  refine lw_push F hX hbl hbA hS a0 a4 (k := 2) (by omega) (by decide) hLs rfl dL_law_624 dL_law_625 dL_law_627 dL_law_628 dL_law_629 ?_
  refine lw_push F hX hbl hbA hS a0 a4 (k := 3) (by omega) (by decide) hLs rfl dL_law_630 dL_law_631 dL_law_633 dL_law_634 dL_law_635 ?_
  refine lw_push F hX hbl hbA hS a0 a4 (k := 4) (by omega) (by decide) hLs rfl dL_law_636 dL_law_637 dL_law_639 dL_law_640 dL_law_641 ?_
  refine lw_callU F (K := 94) (o := 0) (as := [.int (xs (i + 1)), .int (xs (i + 2)), .int (xs (i + 3)), .int (xs (i + 4))]) (by decide +kernel) (pt_4 _ (List.mem_of_getElem? (i := 164) rfl)) (pt_4 _ (List.mem_of_getElem? (i := 165) rfl)) (pt_4 _ (List.mem_of_getElem? (i := 163) rfl)) e1 rfl (c1 := sLay[0]) rfl rfl (by decide) hH hlo hl (Nat.le_of_ble_eq_true rfl) dL_law_642 hrc hrs fun H1 locs1 h1 l1 => ?_
  have hS1 := ph_S hH0 h1 (Nat.zero_le _) l1
  refine lv_pop2_2 hx hb dL_law_645 rfl ?_
  refine lv_aload_n hx hb dL_law_646 rfl a2 ?_
  refine lw_push F hX hbl hbA hS1 a0 a4 (k := 1) (by omega) (by decide) hLs rfl dL_law_647 dL_law_648 dL_law_650 dL_law_651 dL_law_652 ?_
  refine lw_push F hX hbl hbA hS1 a0 a4 (k := 2) (by omega) (by decide) hLs rfl dL_law_653 dL_law_654 dL_law_656 dL_law_657 dL_law_658 ?_
  refine lw_push F hX hbl hbA hS1 a0 a4 (k := 3) (by omega) (by decide) hLs rfl dL_law_659 dL_law_660 dL_law_662 dL_law_663 dL_law_664 ?_
  refine lw_push F hX hbl hbA hS1 a0 a4 (k := 4) (by omega) (by decide) hLs rfl dL_law_665 dL_law_666 dL_law_668 dL_law_669 dL_law_670 ?_
  refine lw_callU F (K := 226) (o := 91) (as := [.int (xs (i + 1)), .int (xs (i + 2)), .int (xs (i + 3)), .int (xs (i + 4))]) (by decide +kernel) (pt_8 _ (List.mem_of_getElem? (i := 89) rfl)) (pt_8 _ (List.mem_of_getElem? (i := 90) rfl)) (pt_8 _ (List.mem_of_getElem? (i := 88) rfl)) e2 rfl (c1 := sLay[91]) rfl rfl (by decide) h1 l1 hl (Nat.le_of_ble_eq_true rfl) dL_law_671 hrc hrs fun H2 locs2 h2 l2 => ?_
  refine lv_pop2_2 hx hb dL_law_674 rfl ?_
  exact lv_goto hx hb dL_law_675 (tgt := 1564) rfl (kk _ _ _ e3 h2 l2)
set_option maxRecDepth 100000 in
set_option maxHeartbeats 4000000 in
theorem lc_11 (F : lw_Fx G cL_law p R s m args c) (hX : va_X b Ls xs s s.heap) (hbl : b < s.heap.size) (hbA : ¬ pA G b) (hH0 : pH G [] s.heap) {M : sM} {J : pHp} {i : Nat} (hM : uG M) (hH : pH G (sHp sLay M ++ J) H) (hlo : ∀ q ∈ locs, pB G ≤ q.base) (hl : lv_has ls 7 (lw_lvi G b i)) (hi : i + 6 ≤ Ls) (hLs : Ls ≤ 3072) (hrc : cells ≤ R.cells) (hrs : slots ≤ R.slots)
    (kk : ∀ H1 locs1 M1, uG M1 → pH G (sHp sLay M1 ++ J) H1 → (∀ q ∈ locs1, pB G ≤ q.base) → W p l e R s m args below meth c H1 locs1 cells slots Q (F0 m 1564 ls [])) : W p l e R s m args below meth c H locs cells slots Q (F0 m 678 ls []) := by
  obtain ⟨hx, hb, -⟩ := id F
  have a0 := lv_at hl 4 rfl
  have a1 := lv_at hl 3 rfl
  have a2 := lv_at hl 2 rfl
  have a4 := lv_at hl 0 rfl
  have hS := ph_S hH0 hH (Nat.zero_le _) hlo
  refine lv_aload_n hx hb dL_law_678 rfl a1 ?_
  refine lw_push F hX hbl hbA hS a0 a4 (k := 1) (by omega) (by decide) hLs rfl dL_law_679 dL_law_680 dL_law_682 dL_law_683 dL_law_684 ?_
  refine lw_push F hX hbl hbA hS a0 a4 (k := 2) (by omega) (by decide) hLs rfl dL_law_685 dL_law_686 dL_law_688 dL_law_689 dL_law_690 ?_
  refine lw_bool hx hb dL_law_691 dL_law_694 dL_law_695 dL_law_698 fun yb hy hyq => ?_
  obtain ⟨v1, M1, v2, M2, e1, e2, e3⟩ := uo_11 hM J (xs (i + 1)) (yb) hy
  refine lw_callU F (K := 95) (o := 0) (as := [.int (xs (i + 1)), .int yb]) (by decide +kernel) (pt_4 _ (List.mem_of_getElem? (i := 171) rfl)) (pt_4 _ (List.mem_of_getElem? (i := 172) rfl)) (pt_4 _ (List.mem_of_getElem? (i := 170) rfl)) e1 rfl (c1 := sLay[0]) rfl rfl (by decide) hH hlo hl (Nat.le_of_ble_eq_true rfl) dL_law_699 hrc hrs fun H1 locs1 h1 l1 => ?_
  have hS1 := ph_S hH0 h1 (Nat.zero_le _) l1
  refine lv_pop hx hb dL_law_702 rfl ?_
  refine lv_aload_n hx hb dL_law_703 rfl a2 ?_
  refine lw_push F hX hbl hbA hS1 a0 a4 (k := 1) (by omega) (by decide) hLs rfl dL_law_704 dL_law_705 dL_law_707 dL_law_708 dL_law_709 ?_
  refine lw_push F hX hbl hbA hS1 a0 a4 (k := 2) (by omega) (by decide) hLs rfl dL_law_710 dL_law_711 dL_law_713 dL_law_714 dL_law_715 ?_
  refine lw_bool hx hb dL_law_716 dL_law_719 dL_law_720 dL_law_723 fun yc hyc hycq => ?_
  rw [hycq, ← hyq]
  refine lw_callU F (K := 227) (o := 91) (as := [.int (xs (i + 1)), .int yb]) (by decide +kernel) (pt_8 _ (List.mem_of_getElem? (i := 94) rfl)) (pt_8 _ (List.mem_of_getElem? (i := 95) rfl)) (pt_8 _ (List.mem_of_getElem? (i := 93) rfl)) e2 rfl (c1 := sLay[91]) rfl rfl (by decide) h1 l1 hl (Nat.le_of_ble_eq_true rfl) dL_law_724 hrc hrs fun H2 locs2 h2 l2 => ?_
  refine lv_pop hx hb dL_law_727 rfl ?_
  exact lv_goto hx hb dL_law_728 (tgt := 1564) rfl (kk _ _ _ e3 h2 l2)
set_option maxRecDepth 100000 in
set_option maxHeartbeats 4000000 in
theorem lc_12 (F : lw_Fx G cL_law p R s m args c) (hX : va_X b Ls xs s s.heap) (hbl : b < s.heap.size) (hbA : ¬ pA G b) (hH0 : pH G [] s.heap) {M : sM} {J : pHp} {i : Nat} (hM : uG M) (hH : pH G (sHp sLay M ++ J) H) (hlo : ∀ q ∈ locs, pB G ≤ q.base) (hl : lv_has ls 7 (lw_lvi G b i)) (hi : i + 6 ≤ Ls) (hLs : Ls ≤ 3072) (hrc : cells ≤ R.cells) (hrs : slots ≤ R.slots)
    (kk : ∀ H1 locs1 M1, uG M1 → pH G (sHp sLay M1 ++ J) H1 → (∀ q ∈ locs1, pB G ≤ q.base) → W p l e R s m args below meth c H1 locs1 cells slots Q (F0 m 1564 ls [])) : W p l e R s m args below meth c H locs cells slots Q (F0 m 731 ls []) := by
  obtain ⟨hx, hb, -⟩ := id F
  have a0 := lv_at hl 4 rfl
  have a1 := lv_at hl 3 rfl
  have a2 := lv_at hl 2 rfl
  have a4 := lv_at hl 0 rfl
  have hS := ph_S hH0 hH (Nat.zero_le _) hlo
  obtain ⟨v1, M1, v2, M2, e1, e2, e3⟩ := uo_12 hM J (xs (i + 1)) (xs (i + 2))
  refine lv_aload_n hx hb dL_law_731 rfl a1 ?_
  refine lw_push F hX hbl hbA hS a0 a4 (k := 1) (by omega) (by decide) hLs rfl dL_law_732 dL_law_733 dL_law_735 dL_law_736 dL_law_737 ?_
  refine lw_push F hX hbl hbA hS a0 a4 (k := 2) (by omega) (by decide) hLs rfl dL_law_738 dL_law_739 dL_law_741 dL_law_742 dL_law_743 ?_
  refine lw_callU F (K := 98) (o := 0) (as := [.int (xs (i + 1)), .int (xs (i + 2))]) (by decide +kernel) (pt_4 _ (List.mem_of_getElem? (i := 186) rfl)) (pt_4 _ (List.mem_of_getElem? (i := 187) rfl)) (pt_4 _ (List.mem_of_getElem? (i := 185) rfl)) e1 rfl (c1 := sLay[0]) rfl rfl (by decide) hH hlo hl (Nat.le_of_ble_eq_true rfl) dL_law_744 hrc hrs fun H1 locs1 h1 l1 => ?_
  have hS1 := ph_S hH0 h1 (Nat.zero_le _) l1
  refine lv_pop hx hb dL_law_747 rfl ?_
  refine lv_aload_n hx hb dL_law_748 rfl a2 ?_
  refine lw_push F hX hbl hbA hS1 a0 a4 (k := 1) (by omega) (by decide) hLs rfl dL_law_749 dL_law_750 dL_law_752 dL_law_753 dL_law_754 ?_
  refine lw_push F hX hbl hbA hS1 a0 a4 (k := 2) (by omega) (by decide) hLs rfl dL_law_755 dL_law_756 dL_law_758 dL_law_759 dL_law_760 ?_
  refine lw_callU F (K := 231) (o := 91) (as := [.int (xs (i + 1)), .int (xs (i + 2))]) (by decide +kernel) (pt_8 _ (List.mem_of_getElem? (i := 110) rfl)) (pt_8 _ (List.mem_of_getElem? (i := 111) rfl)) (pt_8 _ (List.mem_of_getElem? (i := 109) rfl)) e2 rfl (c1 := sLay[91]) rfl rfl (by decide) h1 l1 hl (Nat.le_of_ble_eq_true rfl) dL_law_761 hrc hrs fun H2 locs2 h2 l2 => ?_
  refine lv_pop hx hb dL_law_764 rfl ?_
  exact lv_goto hx hb dL_law_765 (tgt := 1564) rfl (kk _ _ _ e3 h2 l2)
set_option maxRecDepth 100000 in
set_option maxHeartbeats 4000000 in
theorem lc_13 (F : lw_Fx G cL_law p R s m args c) (hX : va_X b Ls xs s s.heap) (hbl : b < s.heap.size) (hbA : ¬ pA G b) (hH0 : pH G [] s.heap) {M : sM} {J : pHp} {i : Nat} (hM : uG M) (hH : pH G (sHp sLay M ++ J) H) (hlo : ∀ q ∈ locs, pB G ≤ q.base) (hl : lv_has ls 7 (lw_lvi G b i)) (hi : i + 6 ≤ Ls) (hLs : Ls ≤ 3072) (hrc : cells ≤ R.cells) (hrs : slots ≤ R.slots)
    (kk : ∀ H1 locs1 M1, uG M1 → pH G (sHp sLay M1 ++ J) H1 → (∀ q ∈ locs1, pB G ≤ q.base) → W p l e R s m args below meth c H1 locs1 cells slots Q (F0 m 1564 ls [])) : W p l e R s m args below meth c H locs cells slots Q (F0 m 768 ls []) := by
  obtain ⟨hx, hb, -⟩ := id F
  have a0 := lv_at hl 4 rfl
  have a1 := lv_at hl 3 rfl
  have a2 := lv_at hl 2 rfl
  have a4 := lv_at hl 0 rfl
  have hS := ph_S hH0 hH (Nat.zero_le _) hlo
  obtain ⟨v1, M1, v2, M2, e1, e2, e3⟩ := uo_13 hM J (xs (i + 1))
  refine lv_aload_n hx hb dL_law_768 rfl a1 ?_
  refine lw_push F hX hbl hbA hS a0 a4 (k := 1) (by omega) (by decide) hLs rfl dL_law_769 dL_law_770 dL_law_772 dL_law_773 dL_law_774 ?_
  refine lw_callU F (K := 99) (o := 0) (as := [.int (xs (i + 1))]) (by decide +kernel) (pt_4 _ (List.mem_of_getElem? (i := 190) rfl)) (pt_4 _ (List.mem_of_getElem? (i := 191) rfl)) (pt_4 _ (List.mem_of_getElem? (i := 189) rfl)) e1 rfl (c1 := sLay[0]) rfl rfl (by decide) hH hlo hl (Nat.le_of_ble_eq_true rfl) dL_law_775 hrc hrs fun H1 locs1 h1 l1 => ?_
  have hS1 := ph_S hH0 h1 (Nat.zero_le _) l1
  refine lv_pop hx hb dL_law_778 rfl ?_
  refine lv_aload_n hx hb dL_law_779 rfl a2 ?_
  refine lw_push F hX hbl hbA hS1 a0 a4 (k := 1) (by omega) (by decide) hLs rfl dL_law_780 dL_law_781 dL_law_783 dL_law_784 dL_law_785 ?_
  refine lw_callU F (K := 232) (o := 91) (as := [.int (xs (i + 1))]) (by decide +kernel) (pt_8 _ (List.mem_of_getElem? (i := 114) rfl)) (pt_8 _ (List.mem_of_getElem? (i := 115) rfl)) (pt_8 _ (List.mem_of_getElem? (i := 113) rfl)) e2 rfl (c1 := sLay[91]) rfl rfl (by decide) h1 l1 hl (Nat.le_of_ble_eq_true rfl) dL_law_786 hrc hrs fun H2 locs2 h2 l2 => ?_
  refine lv_pop hx hb dL_law_789 rfl ?_
  exact lv_goto hx hb dL_law_790 (tgt := 1564) rfl (kk _ _ _ e3 h2 l2)
set_option maxRecDepth 100000 in
set_option maxHeartbeats 4000000 in
theorem lc_14 (F : lw_Fx G cL_law p R s m args c) (hX : va_X b Ls xs s s.heap) (hbl : b < s.heap.size) (hbA : ¬ pA G b) (hH0 : pH G [] s.heap) {M : sM} {J : pHp} {i : Nat} (hM : uG M) (hH : pH G (sHp sLay M ++ J) H) (hlo : ∀ q ∈ locs, pB G ≤ q.base) (hl : lv_has ls 7 (lw_lvi G b i)) (hi : i + 6 ≤ Ls) (hLs : Ls ≤ 3072) (hrc : cells ≤ R.cells) (hrs : slots ≤ R.slots)
    (kk : ∀ H1 locs1 M1, uG M1 → pH G (sHp sLay M1 ++ J) H1 → (∀ q ∈ locs1, pB G ≤ q.base) → W p l e R s m args below meth c H1 locs1 cells slots Q (F0 m 1564 ls [])) : W p l e R s m args below meth c H locs cells slots Q (F0 m 793 ls []) := by
  obtain ⟨hx, hb, -⟩ := id F
  have a0 := lv_at hl 4 rfl
  have a1 := lv_at hl 3 rfl
  have a2 := lv_at hl 2 rfl
  have a4 := lv_at hl 0 rfl
  have hS := ph_S hH0 hH (Nat.zero_le _) hlo
  obtain ⟨v1, M1, v2, M2, e1, e2, e3⟩ := uo_14 hM J (xs (i + 1))
  refine lv_aload_n hx hb dL_law_793 rfl a1 ?_
  refine lw_push F hX hbl hbA hS a0 a4 (k := 1) (by omega) (by decide) hLs rfl dL_law_794 dL_law_795 dL_law_797 dL_law_798 dL_law_799 ?_
  refine lw_callU F (K := 100) (o := 0) (as := [.int (xs (i + 1))]) (by decide +kernel) (pt_4 _ (List.mem_of_getElem? (i := 194) rfl)) (pt_4 _ (List.mem_of_getElem? (i := 195) rfl)) (pt_4 _ (List.mem_of_getElem? (i := 193) rfl)) e1 rfl (c1 := sLay[0]) rfl rfl (by decide) hH hlo hl (Nat.le_of_ble_eq_true rfl) dL_law_800 hrc hrs fun H1 locs1 h1 l1 => ?_
  have hS1 := ph_S hH0 h1 (Nat.zero_le _) l1
  refine lv_pop hx hb dL_law_803 rfl ?_
  refine lv_aload_n hx hb dL_law_804 rfl a2 ?_
  refine lw_push F hX hbl hbA hS1 a0 a4 (k := 1) (by omega) (by decide) hLs rfl dL_law_805 dL_law_806 dL_law_808 dL_law_809 dL_law_810 ?_
  refine lw_callU F (K := 233) (o := 91) (as := [.int (xs (i + 1))]) (by decide +kernel) (pt_8 _ (List.mem_of_getElem? (i := 118) rfl)) (pt_8 _ (List.mem_of_getElem? (i := 119) rfl)) (pt_8 _ (List.mem_of_getElem? (i := 117) rfl)) e2 rfl (c1 := sLay[91]) rfl rfl (by decide) h1 l1 hl (Nat.le_of_ble_eq_true rfl) dL_law_811 hrc hrs fun H2 locs2 h2 l2 => ?_
  refine lv_pop hx hb dL_law_814 rfl ?_
  exact lv_goto hx hb dL_law_815 (tgt := 1564) rfl (kk _ _ _ e3 h2 l2)
end LWX
