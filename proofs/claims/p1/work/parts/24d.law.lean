section LWX
variable {p : Program} {l : Launch} {e : Env} {R : Room} {s : State} {m : MethodId} {args : Array Value} {below : List Frame} {meth : Method} {c : Code} {H : Heap} {locs : List Loc} {cells slots : Nat} {Q : State → Prop}
variable {ls : Array Slot} {G : pG} {b : Nat} {xs : Nat → Int32}
set_option maxRecDepth 100000 in
set_option maxHeartbeats 4000000 in
theorem lc_29 (F : lw_Fx G cL_law p R s m args c) (hX : va_X b 6 xs s s.heap) (hbl : b < s.heap.size) (hbA : ¬ pA G b) (hH0 : pH G [] s.heap) (hH : pH G fF H) (hlo : ∀ q ∈ locs, pB G ≤ q.base) (hl : lv_has ls 7 (lw_lv G b)) (hc : cells ≤ 200) (hs : slots ≤ 1000000) (hRc : 200000 ≤ R.cells) (hRs : 5000000 ≤ R.slots)
    (kk : ∀ H1 locs1 cells1 slots1, va_S (pA G) s.heap H1 locs1 → cells1 ≤ 200000 → slots1 ≤ 5000000 → W p l e R s m args below meth c H1 locs1 cells1 slots1 Q (F0 m 1593 ls [])) : W p l e R s m args below meth c H locs cells slots Q (F0 m 1269 ls []) := by
  obtain ⟨hx, hb, -⟩ := id F
  have a0 := lv_at hl 4 rfl
  have a1 := lv_at hl 3 rfl
  have a2 := lv_at hl 2 rfl
  have a4 := lv_at hl 0 rfl
  obtain ⟨v, L1, L2, e1, e2, z1, z2⟩ := cq_29 (xs 1) (xs 2) (xs 3) (xs 4)
  obtain ⟨x, rfl⟩ := pex_int (ty := .int) rfl nofun e1
  have g1 := pex_mono _ _ _ _ _ _ e1
  have g2 := pex_mono _ _ _ _ _ _ e2
  obtain ⟨q0, hq0, ht0⟩ := lw_q0
  obtain ⟨q9, hq9, ht9⟩ := lw_q91
  obtain ⟨q91, hq91, ht91⟩ := pex_tag _ _ _ _ _ _ e1 91 q9 hq9
  have hS := ph_S hH0 hH (Nat.zero_le _) hlo
  refine lv_aload_n hx hb dL_law_1269 rfl a1 ?_
  refine lw_push F hX hbl hbA hS a0 a4 (k := 1) (by decide) (by decide) rfl dL_law_1270 dL_law_1271 dL_law_1273 dL_law_1274 dL_law_1275 ?_
  refine lw_push F hX hbl hbA hS a0 a4 (k := 2) (by decide) (by decide) rfl dL_law_1276 dL_law_1277 dL_law_1279 dL_law_1280 dL_law_1281 ?_
  refine lw_push F hX hbl hbA hS a0 a4 (k := 3) (by decide) (by decide) rfl dL_law_1282 dL_law_1283 dL_law_1285 dL_law_1286 dL_law_1287 ?_
  refine lw_push F hX hbl hbA hS a0 a4 (k := 4) (by decide) (by decide) rfl dL_law_1288 dL_law_1289 dL_law_1291 dL_law_1292 dL_law_1293 ?_
  refine lw_callV F (K := 142) (o := 0) (as := [.int (xs 1), .int (xs 2), .int (xs 3), .int (xs 4)]) (by decide +kernel) (pt_5 _ (List.mem_of_getElem? (i := 145) rfl)) (pt_5 _ (List.mem_of_getElem? (i := 146) rfl)) (pt_5 _ (List.mem_of_getElem? (i := 144) rfl)) e1 rfl hq0 (ht0.trans rfl) (by decide) hH hlo hl (Nat.le_of_ble_eq_true rfl) dL_law_1294 (by omega) (by omega) fun H1 locs1 h1 l1 => ?_
  have hS1 := ph_S hH0 h1 (Nat.zero_le _) l1
  refine lv_aload_n hx hb dL_law_1297 rfl a2 ?_
  refine lw_push F hX hbl hbA hS1 a0 a4 (k := 1) (by decide) (by decide) rfl dL_law_1298 dL_law_1299 dL_law_1301 dL_law_1302 dL_law_1303 ?_
  refine lw_push F hX hbl hbA hS1 a0 a4 (k := 2) (by decide) (by decide) rfl dL_law_1304 dL_law_1305 dL_law_1307 dL_law_1308 dL_law_1309 ?_
  refine lw_push F hX hbl hbA hS1 a0 a4 (k := 3) (by decide) (by decide) rfl dL_law_1310 dL_law_1311 dL_law_1313 dL_law_1314 dL_law_1315 ?_
  refine lw_push F hX hbl hbA hS1 a0 a4 (k := 4) (by decide) (by decide) rfl dL_law_1316 dL_law_1317 dL_law_1319 dL_law_1320 dL_law_1321 ?_
  refine lw_callV F (K := 267) (o := 91) (as := [.int (xs 1), .int (xs 2), .int (xs 3), .int (xs 4)]) (by decide +kernel) (pt_9 _ (List.mem_of_getElem? (i := 17) rfl)) (pt_9 _ (List.mem_of_getElem? (i := 18) rfl)) (pt_9 _ (List.mem_of_getElem? (i := 16) rfl)) e2 rfl hq91 ((ht91.trans ht9).trans rfl) (by decide) h1 l1 hl (Nat.le_of_ble_eq_true rfl) dL_law_1322 (by omega) (by omega) fun H2 locs2 h2 l2 => ?_
  refine lv_icmp_eq hx hb dL_law_1325 rfl (fun _ => kk _ _ _ _ (ph_S hH0 h2 (Nat.zero_le _) l2) (by omega) (by omega)) (fun h => absurd rfl h)
set_option maxRecDepth 100000 in
set_option maxHeartbeats 4000000 in
theorem lc_30 (F : lw_Fx G cL_law p R s m args c) (hX : va_X b 6 xs s s.heap) (hbl : b < s.heap.size) (hbA : ¬ pA G b) (hH0 : pH G [] s.heap) (hH : pH G fF H) (hlo : ∀ q ∈ locs, pB G ≤ q.base) (hl : lv_has ls 7 (lw_lv G b)) (hc : cells ≤ 200) (hs : slots ≤ 1000000) (hRc : 200000 ≤ R.cells) (hRs : 5000000 ≤ R.slots)
    (kk : ∀ H1 locs1 cells1 slots1, va_S (pA G) s.heap H1 locs1 → cells1 ≤ 200000 → slots1 ≤ 5000000 → W p l e R s m args below meth c H1 locs1 cells1 slots1 Q (F0 m 1593 ls [])) : W p l e R s m args below meth c H locs cells slots Q (F0 m 1330 ls []) := by
  obtain ⟨hx, hb, -⟩ := id F
  have a0 := lv_at hl 4 rfl
  have a1 := lv_at hl 3 rfl
  have a2 := lv_at hl 2 rfl
  have a4 := lv_at hl 0 rfl
  obtain ⟨v, L1, L2, e1, e2, z1, z2⟩ := cq_30 (xs 1)
  obtain ⟨x, rfl⟩ := pex_int (ty := .int) rfl nofun e1
  have g1 := pex_mono _ _ _ _ _ _ e1
  have g2 := pex_mono _ _ _ _ _ _ e2
  obtain ⟨q0, hq0, ht0⟩ := lw_q0
  obtain ⟨q9, hq9, ht9⟩ := lw_q91
  obtain ⟨q91, hq91, ht91⟩ := pex_tag _ _ _ _ _ _ e1 91 q9 hq9
  have hS := ph_S hH0 hH (Nat.zero_le _) hlo
  refine lv_aload_n hx hb dL_law_1330 rfl a1 ?_
  refine lw_push F hX hbl hbA hS a0 a4 (k := 1) (by decide) (by decide) rfl dL_law_1331 dL_law_1332 dL_law_1334 dL_law_1335 dL_law_1336 ?_
  refine lw_callV F (K := 144) (o := 0) (as := [.int (xs 1)]) (by decide +kernel) (pt_5 _ (List.mem_of_getElem? (i := 153) rfl)) (pt_5 _ (List.mem_of_getElem? (i := 154) rfl)) (pt_5 _ (List.mem_of_getElem? (i := 152) rfl)) e1 rfl hq0 (ht0.trans rfl) (by decide) hH hlo hl (Nat.le_of_ble_eq_true rfl) dL_law_1337 (by omega) (by omega) fun H1 locs1 h1 l1 => ?_
  have hS1 := ph_S hH0 h1 (Nat.zero_le _) l1
  refine lv_aload_n hx hb dL_law_1340 rfl a2 ?_
  refine lw_push F hX hbl hbA hS1 a0 a4 (k := 1) (by decide) (by decide) rfl dL_law_1341 dL_law_1342 dL_law_1344 dL_law_1345 dL_law_1346 ?_
  refine lw_callV F (K := 268) (o := 91) (as := [.int (xs 1)]) (by decide +kernel) (pt_9 _ (List.mem_of_getElem? (i := 21) rfl)) (pt_9 _ (List.mem_of_getElem? (i := 22) rfl)) (pt_9 _ (List.mem_of_getElem? (i := 20) rfl)) e2 rfl hq91 ((ht91.trans ht9).trans rfl) (by decide) h1 l1 hl (Nat.le_of_ble_eq_true rfl) dL_law_1347 (by omega) (by omega) fun H2 locs2 h2 l2 => ?_
  refine lv_icmp_eq hx hb dL_law_1350 rfl (fun _ => kk _ _ _ _ (ph_S hH0 h2 (Nat.zero_le _) l2) (by omega) (by omega)) (fun h => absurd rfl h)
set_option maxRecDepth 100000 in
set_option maxHeartbeats 4000000 in
theorem lc_31 (F : lw_Fx G cL_law p R s m args c) (hX : va_X b 6 xs s s.heap) (hbl : b < s.heap.size) (hbA : ¬ pA G b) (hH0 : pH G [] s.heap) (hH : pH G fF H) (hlo : ∀ q ∈ locs, pB G ≤ q.base) (hl : lv_has ls 7 (lw_lv G b)) (hc : cells ≤ 200) (hs : slots ≤ 1000000) (hRc : 200000 ≤ R.cells) (hRs : 5000000 ≤ R.slots)
    (kk : ∀ H1 locs1 cells1 slots1, va_S (pA G) s.heap H1 locs1 → cells1 ≤ 200000 → slots1 ≤ 5000000 → W p l e R s m args below meth c H1 locs1 cells1 slots1 Q (F0 m 1593 ls [])) : W p l e R s m args below meth c H locs cells slots Q (F0 m 1355 ls []) := by
  obtain ⟨hx, hb, -⟩ := id F
  have a0 := lv_at hl 4 rfl
  have a1 := lv_at hl 3 rfl
  have a2 := lv_at hl 2 rfl
  have a4 := lv_at hl 0 rfl
  obtain ⟨v, L1, L2, e1, e2, z1, z2⟩ := cq_31 (xs 1)
  obtain ⟨x, rfl⟩ := pex_int (ty := .boolean) rfl nofun e1
  have g1 := pex_mono _ _ _ _ _ _ e1
  have g2 := pex_mono _ _ _ _ _ _ e2
  obtain ⟨q0, hq0, ht0⟩ := lw_q0
  obtain ⟨q9, hq9, ht9⟩ := lw_q91
  obtain ⟨q91, hq91, ht91⟩ := pex_tag _ _ _ _ _ _ e1 91 q9 hq9
  have hS := ph_S hH0 hH (Nat.zero_le _) hlo
  refine lv_aload_n hx hb dL_law_1355 rfl a1 ?_
  refine lw_push F hX hbl hbA hS a0 a4 (k := 1) (by decide) (by decide) rfl dL_law_1356 dL_law_1357 dL_law_1359 dL_law_1360 dL_law_1361 ?_
  refine lw_callV F (K := 146) (o := 0) (as := [.int (xs 1)]) (by decide +kernel) (pt_5 _ (List.mem_of_getElem? (i := 161) rfl)) (pt_5 _ (List.mem_of_getElem? (i := 162) rfl)) (pt_5 _ (List.mem_of_getElem? (i := 160) rfl)) e1 rfl hq0 (ht0.trans rfl) (by decide) hH hlo hl (Nat.le_of_ble_eq_true rfl) dL_law_1362 (by omega) (by omega) fun H1 locs1 h1 l1 => ?_
  have hS1 := ph_S hH0 h1 (Nat.zero_le _) l1
  refine lv_aload_n hx hb dL_law_1365 rfl a2 ?_
  refine lw_push F hX hbl hbA hS1 a0 a4 (k := 1) (by decide) (by decide) rfl dL_law_1366 dL_law_1367 dL_law_1369 dL_law_1370 dL_law_1371 ?_
  refine lw_callV F (K := 269) (o := 91) (as := [.int (xs 1)]) (by decide +kernel) (pt_9 _ (List.mem_of_getElem? (i := 25) rfl)) (pt_9 _ (List.mem_of_getElem? (i := 26) rfl)) (pt_9 _ (List.mem_of_getElem? (i := 24) rfl)) e2 rfl hq91 ((ht91.trans ht9).trans rfl) (by decide) h1 l1 hl (Nat.le_of_ble_eq_true rfl) dL_law_1372 (by omega) (by omega) fun H2 locs2 h2 l2 => ?_
  refine lv_icmp_eq hx hb dL_law_1375 rfl (fun _ => kk _ _ _ _ (ph_S hH0 h2 (Nat.zero_le _) l2) (by omega) (by omega)) (fun h => absurd rfl h)
set_option maxRecDepth 100000 in
set_option maxHeartbeats 4000000 in
theorem lc_32 (F : lw_Fx G cL_law p R s m args c) (hX : va_X b 6 xs s s.heap) (hbl : b < s.heap.size) (hbA : ¬ pA G b) (hH0 : pH G [] s.heap) (hH : pH G fF H) (hlo : ∀ q ∈ locs, pB G ≤ q.base) (hl : lv_has ls 7 (lw_lv G b)) (hc : cells ≤ 200) (hs : slots ≤ 1000000) (hRc : 200000 ≤ R.cells) (hRs : 5000000 ≤ R.slots)
    (kk : ∀ H1 locs1 cells1 slots1, va_S (pA G) s.heap H1 locs1 → cells1 ≤ 200000 → slots1 ≤ 5000000 → W p l e R s m args below meth c H1 locs1 cells1 slots1 Q (F0 m 1593 ls [])) : W p l e R s m args below meth c H locs cells slots Q (F0 m 1380 ls []) := by
  obtain ⟨hx, hb, -⟩ := id F
  have a0 := lv_at hl 4 rfl
  have a1 := lv_at hl 3 rfl
  have a2 := lv_at hl 2 rfl
  have a4 := lv_at hl 0 rfl
  obtain ⟨v, L1, L2, e1, e2, z1, z2⟩ := cq_32 
  obtain ⟨x, rfl⟩ := pex_int (ty := .int) rfl nofun e1
  have g1 := pex_mono _ _ _ _ _ _ e1
  have g2 := pex_mono _ _ _ _ _ _ e2
  obtain ⟨q0, hq0, ht0⟩ := lw_q0
  obtain ⟨q9, hq9, ht9⟩ := lw_q91
  obtain ⟨q91, hq91, ht91⟩ := pex_tag _ _ _ _ _ _ e1 91 q9 hq9
  have hS := ph_S hH0 hH (Nat.zero_le _) hlo
  refine lv_aload_n hx hb dL_law_1380 rfl a1 ?_
  refine lw_callV F (K := 147) (o := 0) (as := []) (by decide +kernel) (pt_5 _ (List.mem_of_getElem? (i := 165) rfl)) (pt_5 _ (List.mem_of_getElem? (i := 166) rfl)) (pt_5 _ (List.mem_of_getElem? (i := 164) rfl)) e1 rfl hq0 (ht0.trans rfl) (by decide) hH hlo hl (Nat.le_of_ble_eq_true rfl) dL_law_1381 (by omega) (by omega) fun H1 locs1 h1 l1 => ?_
  have hS1 := ph_S hH0 h1 (Nat.zero_le _) l1
  refine lv_aload_n hx hb dL_law_1384 rfl a2 ?_
  refine lw_callV F (K := 270) (o := 91) (as := []) (by decide +kernel) (pt_9 _ (List.mem_of_getElem? (i := 29) rfl)) (pt_9 _ (List.mem_of_getElem? (i := 30) rfl)) (pt_9 _ (List.mem_of_getElem? (i := 28) rfl)) e2 rfl hq91 ((ht91.trans ht9).trans rfl) (by decide) h1 l1 hl (Nat.le_of_ble_eq_true rfl) dL_law_1385 (by omega) (by omega) fun H2 locs2 h2 l2 => ?_
  refine lv_icmp_eq hx hb dL_law_1388 rfl (fun _ => kk _ _ _ _ (ph_S hH0 h2 (Nat.zero_le _) l2) (by omega) (by omega)) (fun h => absurd rfl h)
set_option maxRecDepth 100000 in
set_option maxHeartbeats 4000000 in
theorem lc_33 (F : lw_Fx G cL_law p R s m args c) (hX : va_X b 6 xs s s.heap) (hbl : b < s.heap.size) (hbA : ¬ pA G b) (hH0 : pH G [] s.heap) (hH : pH G fF H) (hlo : ∀ q ∈ locs, pB G ≤ q.base) (hl : lv_has ls 7 (lw_lv G b)) (hc : cells ≤ 200) (hs : slots ≤ 1000000) (hRc : 200000 ≤ R.cells) (hRs : 5000000 ≤ R.slots)
    (kk : ∀ H1 locs1 cells1 slots1, va_S (pA G) s.heap H1 locs1 → cells1 ≤ 200000 → slots1 ≤ 5000000 → W p l e R s m args below meth c H1 locs1 cells1 slots1 Q (F0 m 1593 ls [])) : W p l e R s m args below meth c H locs cells slots Q (F0 m 1393 ls []) := by
  obtain ⟨hx, hb, -⟩ := id F
  have a0 := lv_at hl 4 rfl
  have a1 := lv_at hl 3 rfl
  have a2 := lv_at hl 2 rfl
  have a4 := lv_at hl 0 rfl
  obtain ⟨v, L1, L2, e1, e2, z1, z2⟩ := cq_33 (xs 1) (xs 2)
  obtain ⟨x, rfl⟩ := pex_int (ty := .int) rfl nofun e1
  have g1 := pex_mono _ _ _ _ _ _ e1
  have g2 := pex_mono _ _ _ _ _ _ e2
  obtain ⟨q0, hq0, ht0⟩ := lw_q0
  obtain ⟨q9, hq9, ht9⟩ := lw_q91
  obtain ⟨q91, hq91, ht91⟩ := pex_tag _ _ _ _ _ _ e1 91 q9 hq9
  have hS := ph_S hH0 hH (Nat.zero_le _) hlo
  refine lv_aload_n hx hb dL_law_1393 rfl a1 ?_
  refine lw_push F hX hbl hbA hS a0 a4 (k := 1) (by decide) (by decide) rfl dL_law_1394 dL_law_1395 dL_law_1397 dL_law_1398 dL_law_1399 ?_
  refine lw_push F hX hbl hbA hS a0 a4 (k := 2) (by decide) (by decide) rfl dL_law_1400 dL_law_1401 dL_law_1403 dL_law_1404 dL_law_1405 ?_
  refine lw_callV F (K := 153) (o := 0) (as := [.int (xs 1), .int (xs 2)]) (by decide +kernel) (pt_5 _ (List.mem_of_getElem? (i := 191) rfl)) (pt_5 _ (List.mem_of_getElem? (i := 192) rfl)) (pt_5 _ (List.mem_of_getElem? (i := 190) rfl)) e1 rfl hq0 (ht0.trans rfl) (by decide) hH hlo hl (Nat.le_of_ble_eq_true rfl) dL_law_1406 (by omega) (by omega) fun H1 locs1 h1 l1 => ?_
  have hS1 := ph_S hH0 h1 (Nat.zero_le _) l1
  refine lv_aload_n hx hb dL_law_1409 rfl a2 ?_
  refine lw_push F hX hbl hbA hS1 a0 a4 (k := 1) (by decide) (by decide) rfl dL_law_1410 dL_law_1411 dL_law_1413 dL_law_1414 dL_law_1415 ?_
  refine lw_push F hX hbl hbA hS1 a0 a4 (k := 2) (by decide) (by decide) rfl dL_law_1416 dL_law_1417 dL_law_1419 dL_law_1420 dL_law_1421 ?_
  refine lw_callV F (K := 275) (o := 91) (as := [.int (xs 1), .int (xs 2)]) (by decide +kernel) (pt_9 _ (List.mem_of_getElem? (i := 49) rfl)) (pt_9 _ (List.mem_of_getElem? (i := 50) rfl)) (pt_9 _ (List.mem_of_getElem? (i := 48) rfl)) e2 rfl hq91 ((ht91.trans ht9).trans rfl) (by decide) h1 l1 hl (Nat.le_of_ble_eq_true rfl) dL_law_1422 (by omega) (by omega) fun H2 locs2 h2 l2 => ?_
  refine lv_icmp_eq hx hb dL_law_1425 rfl (fun _ => kk _ _ _ _ (ph_S hH0 h2 (Nat.zero_le _) l2) (by omega) (by omega)) (fun h => absurd rfl h)
set_option maxRecDepth 100000 in
set_option maxHeartbeats 4000000 in
theorem lc_34 (F : lw_Fx G cL_law p R s m args c) (hX : va_X b 6 xs s s.heap) (hbl : b < s.heap.size) (hbA : ¬ pA G b) (hH0 : pH G [] s.heap) (hH : pH G fF H) (hlo : ∀ q ∈ locs, pB G ≤ q.base) (hl : lv_has ls 7 (lw_lv G b)) (hc : cells ≤ 200) (hs : slots ≤ 1000000) (hRc : 200000 ≤ R.cells) (hRs : 5000000 ≤ R.slots)
    (kk : ∀ H1 locs1 cells1 slots1, va_S (pA G) s.heap H1 locs1 → cells1 ≤ 200000 → slots1 ≤ 5000000 → W p l e R s m args below meth c H1 locs1 cells1 slots1 Q (F0 m 1593 ls [])) : W p l e R s m args below meth c H locs cells slots Q (F0 m 1430 ls []) := by
  obtain ⟨hx, hb, -⟩ := id F
  have a0 := lv_at hl 4 rfl
  have a1 := lv_at hl 3 rfl
  have a2 := lv_at hl 2 rfl
  have a4 := lv_at hl 0 rfl
  obtain ⟨v, L1, L2, e1, e2, z1, z2⟩ := cq_34 (xs 1)
  obtain ⟨x, rfl⟩ := pex_int (ty := .int) rfl nofun e1
  have g1 := pex_mono _ _ _ _ _ _ e1
  have g2 := pex_mono _ _ _ _ _ _ e2
  obtain ⟨q0, hq0, ht0⟩ := lw_q0
  obtain ⟨q9, hq9, ht9⟩ := lw_q91
  obtain ⟨q91, hq91, ht91⟩ := pex_tag _ _ _ _ _ _ e1 91 q9 hq9
  have hS := ph_S hH0 hH (Nat.zero_le _) hlo
  refine lv_aload_n hx hb dL_law_1430 rfl a1 ?_
  refine lw_push F hX hbl hbA hS a0 a4 (k := 1) (by decide) (by decide) rfl dL_law_1431 dL_law_1432 dL_law_1434 dL_law_1435 dL_law_1436 ?_
  refine lw_callV F (K := 155) (o := 0) (as := [.int (xs 1)]) (by decide +kernel) (pt_5 _ (List.mem_of_getElem? (i := 199) rfl)) (pt_5 _ (List.mem_of_getElem? (i := 200) rfl)) (pt_5 _ (List.mem_of_getElem? (i := 198) rfl)) e1 rfl hq0 (ht0.trans rfl) (by decide) hH hlo hl (Nat.le_of_ble_eq_true rfl) dL_law_1437 (by omega) (by omega) fun H1 locs1 h1 l1 => ?_
  have hS1 := ph_S hH0 h1 (Nat.zero_le _) l1
  refine lv_aload_n hx hb dL_law_1440 rfl a2 ?_
  refine lw_push F hX hbl hbA hS1 a0 a4 (k := 1) (by decide) (by decide) rfl dL_law_1441 dL_law_1442 dL_law_1444 dL_law_1445 dL_law_1446 ?_
  refine lw_callV F (K := 276) (o := 91) (as := [.int (xs 1)]) (by decide +kernel) (pt_9 _ (List.mem_of_getElem? (i := 53) rfl)) (pt_9 _ (List.mem_of_getElem? (i := 54) rfl)) (pt_9 _ (List.mem_of_getElem? (i := 52) rfl)) e2 rfl hq91 ((ht91.trans ht9).trans rfl) (by decide) h1 l1 hl (Nat.le_of_ble_eq_true rfl) dL_law_1447 (by omega) (by omega) fun H2 locs2 h2 l2 => ?_
  refine lv_icmp_eq hx hb dL_law_1450 rfl (fun _ => kk _ _ _ _ (ph_S hH0 h2 (Nat.zero_le _) l2) (by omega) (by omega)) (fun h => absurd rfl h)
set_option maxRecDepth 100000 in
set_option maxHeartbeats 4000000 in
theorem lc_35 (F : lw_Fx G cL_law p R s m args c) (hX : va_X b 6 xs s s.heap) (hbl : b < s.heap.size) (hbA : ¬ pA G b) (hH0 : pH G [] s.heap) (hH : pH G fF H) (hlo : ∀ q ∈ locs, pB G ≤ q.base) (hl : lv_has ls 7 (lw_lv G b)) (hc : cells ≤ 200) (hs : slots ≤ 1000000) (hRc : 200000 ≤ R.cells) (hRs : 5000000 ≤ R.slots)
    (kk : ∀ H1 locs1 cells1 slots1, va_S (pA G) s.heap H1 locs1 → cells1 ≤ 200000 → slots1 ≤ 5000000 → W p l e R s m args below meth c H1 locs1 cells1 slots1 Q (F0 m 1593 ls [])) : W p l e R s m args below meth c H locs cells slots Q (F0 m 1455 ls []) := by
  obtain ⟨hx, hb, -⟩ := id F
  have a0 := lv_at hl 4 rfl
  have a1 := lv_at hl 3 rfl
  have a2 := lv_at hl 2 rfl
  have a4 := lv_at hl 0 rfl
  obtain ⟨v, L1, L2, e1, e2, z1, z2⟩ := cq_35 (xs 1)
  obtain ⟨x, rfl⟩ := pex_int (ty := .int) rfl nofun e1
  have g1 := pex_mono _ _ _ _ _ _ e1
  have g2 := pex_mono _ _ _ _ _ _ e2
  obtain ⟨q0, hq0, ht0⟩ := lw_q0
  obtain ⟨q9, hq9, ht9⟩ := lw_q91
  obtain ⟨q91, hq91, ht91⟩ := pex_tag _ _ _ _ _ _ e1 91 q9 hq9
  have hS := ph_S hH0 hH (Nat.zero_le _) hlo
  refine lv_aload_n hx hb dL_law_1455 rfl a1 ?_
  refine lw_push F hX hbl hbA hS a0 a4 (k := 1) (by decide) (by decide) rfl dL_law_1456 dL_law_1457 dL_law_1459 dL_law_1460 dL_law_1461 ?_
  refine lw_callV F (K := 156) (o := 0) (as := [.int (xs 1)]) (by decide +kernel) (pt_5 _ (List.mem_of_getElem? (i := 203) rfl)) (pt_5 _ (List.mem_of_getElem? (i := 204) rfl)) (pt_5 _ (List.mem_of_getElem? (i := 202) rfl)) e1 rfl hq0 (ht0.trans rfl) (by decide) hH hlo hl (Nat.le_of_ble_eq_true rfl) dL_law_1462 (by omega) (by omega) fun H1 locs1 h1 l1 => ?_
  have hS1 := ph_S hH0 h1 (Nat.zero_le _) l1
  refine lv_aload_n hx hb dL_law_1465 rfl a2 ?_
  refine lw_push F hX hbl hbA hS1 a0 a4 (k := 1) (by decide) (by decide) rfl dL_law_1466 dL_law_1467 dL_law_1469 dL_law_1470 dL_law_1471 ?_
  refine lw_callV F (K := 277) (o := 91) (as := [.int (xs 1)]) (by decide +kernel) (pt_9 _ (List.mem_of_getElem? (i := 57) rfl)) (pt_9 _ (List.mem_of_getElem? (i := 58) rfl)) (pt_9 _ (List.mem_of_getElem? (i := 56) rfl)) e2 rfl hq91 ((ht91.trans ht9).trans rfl) (by decide) h1 l1 hl (Nat.le_of_ble_eq_true rfl) dL_law_1472 (by omega) (by omega) fun H2 locs2 h2 l2 => ?_
  refine lv_icmp_eq hx hb dL_law_1475 rfl (fun _ => kk _ _ _ _ (ph_S hH0 h2 (Nat.zero_le _) l2) (by omega) (by omega)) (fun h => absurd rfl h)
set_option maxRecDepth 100000 in
set_option maxHeartbeats 4000000 in
theorem lc_36 (F : lw_Fx G cL_law p R s m args c) (hX : va_X b 6 xs s s.heap) (hbl : b < s.heap.size) (hbA : ¬ pA G b) (hH0 : pH G [] s.heap) (hH : pH G fF H) (hlo : ∀ q ∈ locs, pB G ≤ q.base) (hl : lv_has ls 7 (lw_lv G b)) (hc : cells ≤ 200) (hs : slots ≤ 1000000) (hRc : 200000 ≤ R.cells) (hRs : 5000000 ≤ R.slots)
    (kk : ∀ H1 locs1 cells1 slots1, va_S (pA G) s.heap H1 locs1 → cells1 ≤ 200000 → slots1 ≤ 5000000 → W p l e R s m args below meth c H1 locs1 cells1 slots1 Q (F0 m 1593 ls [])) : W p l e R s m args below meth c H locs cells slots Q (F0 m 1480 ls []) := by
  obtain ⟨hx, hb, -⟩ := id F
  have a0 := lv_at hl 4 rfl
  have a1 := lv_at hl 3 rfl
  have a2 := lv_at hl 2 rfl
  have a4 := lv_at hl 0 rfl
  obtain ⟨v, L1, L2, e1, e2, z1, z2⟩ := cq_36 (xs 1) (xs 2) (xs 3)
  obtain ⟨x, rfl⟩ := pex_int (ty := .int) rfl nofun e1
  have g1 := pex_mono _ _ _ _ _ _ e1
  have g2 := pex_mono _ _ _ _ _ _ e2
  obtain ⟨q0, hq0, ht0⟩ := lw_q0
  obtain ⟨q9, hq9, ht9⟩ := lw_q91
  obtain ⟨q91, hq91, ht91⟩ := pex_tag _ _ _ _ _ _ e1 91 q9 hq9
  have hS := ph_S hH0 hH (Nat.zero_le _) hlo
  refine lv_aload_n hx hb dL_law_1480 rfl a1 ?_
  refine lw_push F hX hbl hbA hS a0 a4 (k := 1) (by decide) (by decide) rfl dL_law_1481 dL_law_1482 dL_law_1484 dL_law_1485 dL_law_1486 ?_
  refine lw_push F hX hbl hbA hS a0 a4 (k := 2) (by decide) (by decide) rfl dL_law_1487 dL_law_1488 dL_law_1490 dL_law_1491 dL_law_1492 ?_
  refine lw_push F hX hbl hbA hS a0 a4 (k := 3) (by decide) (by decide) rfl dL_law_1493 dL_law_1494 dL_law_1496 dL_law_1497 dL_law_1498 ?_
  refine lw_callV F (K := 158) (o := 0) (as := [.int (xs 1), .int (xs 2), .int (xs 3)]) (by decide +kernel) (pt_5 _ (List.mem_of_getElem? (i := 212) rfl)) (pt_5 _ (List.mem_of_getElem? (i := 213) rfl)) (pt_5 _ (List.mem_of_getElem? (i := 211) rfl)) e1 rfl hq0 (ht0.trans rfl) (by decide) hH hlo hl (Nat.le_of_ble_eq_true rfl) dL_law_1499 (by omega) (by omega) fun H1 locs1 h1 l1 => ?_
  have hS1 := ph_S hH0 h1 (Nat.zero_le _) l1
  refine lv_aload_n hx hb dL_law_1502 rfl a2 ?_
  refine lw_push F hX hbl hbA hS1 a0 a4 (k := 1) (by decide) (by decide) rfl dL_law_1503 dL_law_1504 dL_law_1506 dL_law_1507 dL_law_1508 ?_
  refine lw_push F hX hbl hbA hS1 a0 a4 (k := 2) (by decide) (by decide) rfl dL_law_1509 dL_law_1510 dL_law_1512 dL_law_1513 dL_law_1514 ?_
  refine lw_push F hX hbl hbA hS1 a0 a4 (k := 3) (by decide) (by decide) rfl dL_law_1515 dL_law_1516 dL_law_1518 dL_law_1519 dL_law_1520 ?_
  refine lw_callV F (K := 278) (o := 91) (as := [.int (xs 1), .int (xs 2), .int (xs 3)]) (by decide +kernel) (pt_9 _ (List.mem_of_getElem? (i := 61) rfl)) (pt_9 _ (List.mem_of_getElem? (i := 62) rfl)) (pt_9 _ (List.mem_of_getElem? (i := 60) rfl)) e2 rfl hq91 ((ht91.trans ht9).trans rfl) (by decide) h1 l1 hl (Nat.le_of_ble_eq_true rfl) dL_law_1521 (by omega) (by omega) fun H2 locs2 h2 l2 => ?_
  refine lv_icmp_eq hx hb dL_law_1524 rfl (fun _ => kk _ _ _ _ (ph_S hH0 h2 (Nat.zero_le _) l2) (by omega) (by omega)) (fun h => absurd rfl h)
set_option maxRecDepth 100000 in
set_option maxHeartbeats 4000000 in
theorem lc_37 (F : lw_Fx G cL_law p R s m args c) (hX : va_X b 6 xs s s.heap) (hbl : b < s.heap.size) (hbA : ¬ pA G b) (hH0 : pH G [] s.heap) (hH : pH G fF H) (hlo : ∀ q ∈ locs, pB G ≤ q.base) (hl : lv_has ls 7 (lw_lv G b)) (hc : cells ≤ 200) (hs : slots ≤ 1000000) (hRc : 200000 ≤ R.cells) (hRs : 5000000 ≤ R.slots)
    (kk : ∀ H1 locs1 cells1 slots1, va_S (pA G) s.heap H1 locs1 → cells1 ≤ 200000 → slots1 ≤ 5000000 → W p l e R s m args below meth c H1 locs1 cells1 slots1 Q (F0 m 1593 ls [])) : W p l e R s m args below meth c H locs cells slots Q (F0 m 1529 ls []) := by
  obtain ⟨hx, hb, -⟩ := id F
  have a0 := lv_at hl 4 rfl
  have a1 := lv_at hl 3 rfl
  have a2 := lv_at hl 2 rfl
  have a4 := lv_at hl 0 rfl
  obtain ⟨v, L1, L2, e1, e2, z1, z2⟩ := cq_37 
  obtain ⟨x, rfl⟩ := pex_int (ty := .int) rfl nofun e1
  have g1 := pex_mono _ _ _ _ _ _ e1
  have g2 := pex_mono _ _ _ _ _ _ e2
  obtain ⟨q0, hq0, ht0⟩ := lw_q0
  obtain ⟨q9, hq9, ht9⟩ := lw_q91
  obtain ⟨q91, hq91, ht91⟩ := pex_tag _ _ _ _ _ _ e1 91 q9 hq9
  have hS := ph_S hH0 hH (Nat.zero_le _) hlo
  refine lv_aload_n hx hb dL_law_1529 rfl a1 ?_
  refine lw_callV F (K := 160) (o := 0) (as := []) (by decide +kernel) (pt_5 _ (List.mem_of_getElem? (i := 220) rfl)) (pt_5 _ (List.mem_of_getElem? (i := 221) rfl)) (pt_5 _ (List.mem_of_getElem? (i := 219) rfl)) e1 rfl hq0 (ht0.trans rfl) (by decide) hH hlo hl (Nat.le_of_ble_eq_true rfl) dL_law_1530 (by omega) (by omega) fun H1 locs1 h1 l1 => ?_
  have hS1 := ph_S hH0 h1 (Nat.zero_le _) l1
  refine lv_aload_n hx hb dL_law_1533 rfl a2 ?_
  refine lw_callV F (K := 279) (o := 91) (as := []) (by decide +kernel) (pt_9 _ (List.mem_of_getElem? (i := 65) rfl)) (pt_9 _ (List.mem_of_getElem? (i := 66) rfl)) (pt_9 _ (List.mem_of_getElem? (i := 64) rfl)) e2 rfl hq91 ((ht91.trans ht9).trans rfl) (by decide) h1 l1 hl (Nat.le_of_ble_eq_true rfl) dL_law_1534 (by omega) (by omega) fun H2 locs2 h2 l2 => ?_
  refine lv_icmp_eq hx hb dL_law_1537 rfl (fun _ => kk _ _ _ _ (ph_S hH0 h2 (Nat.zero_le _) l2) (by omega) (by omega)) (fun h => absurd rfl h)
set_option maxRecDepth 100000 in
set_option maxHeartbeats 4000000 in
theorem lc_38 (F : lw_Fx G cL_law p R s m args c) (hX : va_X b 6 xs s s.heap) (hbl : b < s.heap.size) (hbA : ¬ pA G b) (hH0 : pH G [] s.heap) (hH : pH G fF H) (hlo : ∀ q ∈ locs, pB G ≤ q.base) (hl : lv_has ls 7 (lw_lv G b)) (hc : cells ≤ 200) (hs : slots ≤ 1000000) (hRc : 200000 ≤ R.cells) (hRs : 5000000 ≤ R.slots)
    (kk : ∀ H1 locs1 cells1 slots1, va_S (pA G) s.heap H1 locs1 → cells1 ≤ 200000 → slots1 ≤ 5000000 → W p l e R s m args below meth c H1 locs1 cells1 slots1 Q (F0 m 1593 ls [])) : W p l e R s m args below meth c H locs cells slots Q (F0 m 1542 ls []) := by
  obtain ⟨hx, hb, -⟩ := id F
  have a0 := lv_at hl 4 rfl
  have a1 := lv_at hl 3 rfl
  have a2 := lv_at hl 2 rfl
  have a4 := lv_at hl 0 rfl
  obtain ⟨v, L1, L2, e1, e2, z1, z2⟩ := cq_38 
  obtain ⟨x, rfl⟩ := pex_int (ty := .int) rfl nofun e1
  have g1 := pex_mono _ _ _ _ _ _ e1
  have g2 := pex_mono _ _ _ _ _ _ e2
  obtain ⟨q0, hq0, ht0⟩ := lw_q0
  obtain ⟨q9, hq9, ht9⟩ := lw_q91
  obtain ⟨q91, hq91, ht91⟩ := pex_tag _ _ _ _ _ _ e1 91 q9 hq9
  have hS := ph_S hH0 hH (Nat.zero_le _) hlo
  refine lv_aload_n hx hb dL_law_1542 rfl a1 ?_
  refine lw_callV F (K := 161) (o := 0) (as := []) (by decide +kernel) (pt_5 _ (List.mem_of_getElem? (i := 224) rfl)) (pt_5 _ (List.mem_of_getElem? (i := 225) rfl)) (pt_5 _ (List.mem_of_getElem? (i := 223) rfl)) e1 rfl hq0 (ht0.trans rfl) (by decide) hH hlo hl (Nat.le_of_ble_eq_true rfl) dL_law_1543 (by omega) (by omega) fun H1 locs1 h1 l1 => ?_
  have hS1 := ph_S hH0 h1 (Nat.zero_le _) l1
  refine lv_aload_n hx hb dL_law_1546 rfl a2 ?_
  refine lw_callV F (K := 280) (o := 91) (as := []) (by decide +kernel) (pt_9 _ (List.mem_of_getElem? (i := 69) rfl)) (pt_9 _ (List.mem_of_getElem? (i := 70) rfl)) (pt_9 _ (List.mem_of_getElem? (i := 68) rfl)) e2 rfl hq91 ((ht91.trans ht9).trans rfl) (by decide) h1 l1 hl (Nat.le_of_ble_eq_true rfl) dL_law_1547 (by omega) (by omega) fun H2 locs2 h2 l2 => ?_
  refine lv_icmp_eq hx hb dL_law_1550 rfl (fun _ => kk _ _ _ _ (ph_S hH0 h2 (Nat.zero_le _) l2) (by omega) (by omega)) (fun h => absurd rfl h)
set_option maxRecDepth 100000 in
set_option maxHeartbeats 4000000 in
theorem lc_39 (F : lw_Fx G cL_law p R s m args c) (hX : va_X b 6 xs s s.heap) (hbl : b < s.heap.size) (hbA : ¬ pA G b) (hH0 : pH G [] s.heap) (hH : pH G fF H) (hlo : ∀ q ∈ locs, pB G ≤ q.base) (hl : lv_has ls 7 (lw_lv G b)) (hc : cells ≤ 200) (hs : slots ≤ 1000000) (hRc : 200000 ≤ R.cells) (hRs : 5000000 ≤ R.slots)
    (kk : ∀ H1 locs1 cells1 slots1, va_S (pA G) s.heap H1 locs1 → cells1 ≤ 200000 → slots1 ≤ 5000000 → W p l e R s m args below meth c H1 locs1 cells1 slots1 Q (F0 m 1593 ls [])) : W p l e R s m args below meth c H locs cells slots Q (F0 m 1555 ls []) := by
  obtain ⟨hx, hb, -⟩ := id F
  have a0 := lv_at hl 4 rfl
  have a1 := lv_at hl 3 rfl
  have a2 := lv_at hl 2 rfl
  have a4 := lv_at hl 0 rfl
  obtain ⟨v, L1, L2, e1, e2, z1, z2⟩ := cq_39 
  obtain ⟨x, rfl⟩ := pex_int (ty := .int) rfl nofun e1
  have g1 := pex_mono _ _ _ _ _ _ e1
  have g2 := pex_mono _ _ _ _ _ _ e2
  obtain ⟨q0, hq0, ht0⟩ := lw_q0
  obtain ⟨q9, hq9, ht9⟩ := lw_q91
  obtain ⟨q91, hq91, ht91⟩ := pex_tag _ _ _ _ _ _ e1 91 q9 hq9
  have hS := ph_S hH0 hH (Nat.zero_le _) hlo
  refine lv_aload_n hx hb dL_law_1555 rfl a1 ?_
  refine lw_callV F (K := 162) (o := 0) (as := []) (by decide +kernel) (pt_5 _ (List.mem_of_getElem? (i := 228) rfl)) (pt_5 _ (List.mem_of_getElem? (i := 229) rfl)) (pt_5 _ (List.mem_of_getElem? (i := 227) rfl)) e1 rfl hq0 (ht0.trans rfl) (by decide) hH hlo hl (Nat.le_of_ble_eq_true rfl) dL_law_1556 (by omega) (by omega) fun H1 locs1 h1 l1 => ?_
  have hS1 := ph_S hH0 h1 (Nat.zero_le _) l1
  refine lv_aload_n hx hb dL_law_1559 rfl a2 ?_
  refine lw_callV F (K := 281) (o := 91) (as := []) (by decide +kernel) (pt_9 _ (List.mem_of_getElem? (i := 73) rfl)) (pt_9 _ (List.mem_of_getElem? (i := 74) rfl)) (pt_9 _ (List.mem_of_getElem? (i := 72) rfl)) e2 rfl hq91 ((ht91.trans ht9).trans rfl) (by decide) h1 l1 hl (Nat.le_of_ble_eq_true rfl) dL_law_1560 (by omega) (by omega) fun H2 locs2 h2 l2 => ?_
  refine lv_icmp_eq hx hb dL_law_1563 rfl (fun _ => kk _ _ _ _ (ph_S hH0 h2 (Nat.zero_le _) l2) (by omega) (by omega)) (fun h => absurd rfl h)
set_option maxRecDepth 100000 in
set_option maxHeartbeats 4000000 in
theorem lc_40 (F : lw_Fx G cL_law p R s m args c) (hX : va_X b 6 xs s s.heap) (hbl : b < s.heap.size) (hbA : ¬ pA G b) (hH0 : pH G [] s.heap) (hH : pH G fF H) (hlo : ∀ q ∈ locs, pB G ≤ q.base) (hl : lv_has ls 7 (lw_lv G b)) (hc : cells ≤ 200) (hs : slots ≤ 1000000) (hRc : 200000 ≤ R.cells) (hRs : 5000000 ≤ R.slots)
    (kk : ∀ H1 locs1 cells1 slots1, va_S (pA G) s.heap H1 locs1 → cells1 ≤ 200000 → slots1 ≤ 5000000 → W p l e R s m args below meth c H1 locs1 cells1 slots1 Q (F0 m 1593 ls [])) : W p l e R s m args below meth c H locs cells slots Q (F0 m 1568 ls []) := by
  obtain ⟨hx, hb, -⟩ := id F
  have a0 := lv_at hl 4 rfl
  have a1 := lv_at hl 3 rfl
  have a2 := lv_at hl 2 rfl
  have a4 := lv_at hl 0 rfl
  obtain ⟨v, L1, L2, e1, e2, z1, z2⟩ := cq_40 (xs 1)
  obtain ⟨x, rfl⟩ := pex_int (ty := .int) rfl nofun e1
  have g1 := pex_mono _ _ _ _ _ _ e1
  have g2 := pex_mono _ _ _ _ _ _ e2
  obtain ⟨q0, hq0, ht0⟩ := lw_q0
  obtain ⟨q9, hq9, ht9⟩ := lw_q91
  obtain ⟨q91, hq91, ht91⟩ := pex_tag _ _ _ _ _ _ e1 91 q9 hq9
  have hS := ph_S hH0 hH (Nat.zero_le _) hlo
  refine lv_aload_n hx hb dL_law_1568 rfl a1 ?_
  refine lw_push F hX hbl hbA hS a0 a4 (k := 1) (by decide) (by decide) rfl dL_law_1569 dL_law_1570 dL_law_1572 dL_law_1573 dL_law_1574 ?_
  refine lw_callV F (K := 163) (o := 0) (as := [.int (xs 1)]) (by decide +kernel) (pt_5 _ (List.mem_of_getElem? (i := 232) rfl)) (pt_5 _ (List.mem_of_getElem? (i := 233) rfl)) (pt_5 _ (List.mem_of_getElem? (i := 231) rfl)) e1 rfl hq0 (ht0.trans rfl) (by decide) hH hlo hl (Nat.le_of_ble_eq_true rfl) dL_law_1575 (by omega) (by omega) fun H1 locs1 h1 l1 => ?_
  have hS1 := ph_S hH0 h1 (Nat.zero_le _) l1
  refine lv_aload_n hx hb dL_law_1578 rfl a2 ?_
  refine lw_push F hX hbl hbA hS1 a0 a4 (k := 1) (by decide) (by decide) rfl dL_law_1579 dL_law_1580 dL_law_1582 dL_law_1583 dL_law_1584 ?_
  refine lw_callV F (K := 282) (o := 91) (as := [.int (xs 1)]) (by decide +kernel) (pt_9 _ (List.mem_of_getElem? (i := 77) rfl)) (pt_9 _ (List.mem_of_getElem? (i := 78) rfl)) (pt_9 _ (List.mem_of_getElem? (i := 76) rfl)) e2 rfl hq91 ((ht91.trans ht9).trans rfl) (by decide) h1 l1 hl (Nat.le_of_ble_eq_true rfl) dL_law_1585 (by omega) (by omega) fun H2 locs2 h2 l2 => ?_
  refine lv_icmp_eq hx hb dL_law_1588 rfl (fun _ => kk _ _ _ _ (ph_S hH0 h2 (Nat.zero_le _) l2) (by omega) (by omega)) (fun h => absurd rfl h)
end LWX
