section LWX
variable {p : Program} {l : Launch} {e : Env} {R : Room} {s : State} {m : MethodId} {args : Array Value} {below : List Frame} {meth : Method} {c : Code} {H : Heap} {locs : List Loc} {cells slots : Nat} {Q : State → Prop}
variable {ls : Array Slot} {G : pG} {b Ls : Nat} {xs : Nat → Int32}
set_option maxRecDepth 100000 in
set_option maxHeartbeats 4000000 in
theorem lc_29 (F : lw_Fx G cL_law p R s m args c) (hX : va_X b Ls xs s s.heap) (hbl : b < s.heap.size) (hbA : ¬ pA G b) (hH0 : pH G [] s.heap) {M : sM} {J : pHp} {i : Nat} (hM : uG M) (hH : pH G (sHp sLay M ++ J) H) (hlo : ∀ q ∈ locs, pB G ≤ q.base) (hl : lv_has ls 7 (lw_lvi G b i)) (hi : i + 6 ≤ Ls) (hLs : Ls ≤ 3072) (hrc : cells ≤ R.cells) (hrs : slots ≤ R.slots)
    (kk : ∀ H1 locs1 M1, uG M1 → pH G (sHp sLay M1 ++ J) H1 → (∀ q ∈ locs1, pB G ≤ q.base) → W p l e R s m args below meth c H1 locs1 cells slots Q (F0 m 1564 ls [])) : W p l e R s m args below meth c H locs cells slots Q (F0 m 1240 ls []) := by
  obtain ⟨hx, hb, -⟩ := id F
  have a0 := lv_at hl 4 rfl
  have a1 := lv_at hl 3 rfl
  have a2 := lv_at hl 2 rfl
  have a4 := lv_at hl 0 rfl
  have hS := ph_S hH0 hH (Nat.zero_le _) hlo
  obtain ⟨v1, M1, M2, e1, e2, e3⟩ := uo_29 hM J (xs (i + 1)) (xs (i + 2)) (xs (i + 3)) (xs (i + 4))
  refine lv_aload_n hx hb dL_law_1240 rfl a1 ?_
  refine lw_push F hX hbl hbA hS a0 a4 (k := 1) (by omega) (by decide) hLs rfl dL_law_1241 dL_law_1242 dL_law_1244 dL_law_1245 dL_law_1246 ?_
  refine lw_push F hX hbl hbA hS a0 a4 (k := 2) (by omega) (by decide) hLs rfl dL_law_1247 dL_law_1248 dL_law_1250 dL_law_1251 dL_law_1252 ?_
  refine lw_push F hX hbl hbA hS a0 a4 (k := 3) (by omega) (by decide) hLs rfl dL_law_1253 dL_law_1254 dL_law_1256 dL_law_1257 dL_law_1258 ?_
  refine lw_push F hX hbl hbA hS a0 a4 (k := 4) (by omega) (by decide) hLs rfl dL_law_1259 dL_law_1260 dL_law_1262 dL_law_1263 dL_law_1264 ?_
  refine lw_callU F (K := 142) (o := 0) (as := [.int (xs (i + 1)), .int (xs (i + 2)), .int (xs (i + 3)), .int (xs (i + 4))]) (by decide +kernel) (pt_5 _ (List.mem_of_getElem? (i := 145) rfl)) (pt_5 _ (List.mem_of_getElem? (i := 146) rfl)) (pt_5 _ (List.mem_of_getElem? (i := 144) rfl)) e1 rfl (c1 := sLay[0]) rfl rfl (by decide) hH hlo hl (Nat.le_of_ble_eq_true rfl) dL_law_1265 hrc hrs fun H1 locs1 h1 l1 => ?_
  have hS1 := ph_S hH0 h1 (Nat.zero_le _) l1
  refine lv_aload_n hx hb dL_law_1268 rfl a2 ?_
  refine lw_push F hX hbl hbA hS1 a0 a4 (k := 1) (by omega) (by decide) hLs rfl dL_law_1269 dL_law_1270 dL_law_1272 dL_law_1273 dL_law_1274 ?_
  refine lw_push F hX hbl hbA hS1 a0 a4 (k := 2) (by omega) (by decide) hLs rfl dL_law_1275 dL_law_1276 dL_law_1278 dL_law_1279 dL_law_1280 ?_
  refine lw_push F hX hbl hbA hS1 a0 a4 (k := 3) (by omega) (by decide) hLs rfl dL_law_1281 dL_law_1282 dL_law_1284 dL_law_1285 dL_law_1286 ?_
  refine lw_push F hX hbl hbA hS1 a0 a4 (k := 4) (by omega) (by decide) hLs rfl dL_law_1287 dL_law_1288 dL_law_1290 dL_law_1291 dL_law_1292 ?_
  refine lw_callU F (K := 266) (o := 91) (as := [.int (xs (i + 1)), .int (xs (i + 2)), .int (xs (i + 3)), .int (xs (i + 4))]) (by decide +kernel) (pt_9 _ (List.mem_of_getElem? (i := 13) rfl)) (pt_9 _ (List.mem_of_getElem? (i := 14) rfl)) (pt_9 _ (List.mem_of_getElem? (i := 12) rfl)) e2 rfl (c1 := sLay[91]) rfl rfl (by decide) h1 l1 hl (Nat.le_of_ble_eq_true rfl) dL_law_1293 hrc hrs fun H2 locs2 h2 l2 => ?_
  exact lv_icmp_eq hx hb dL_law_1296 (tgt := 1564) rfl (fun _ => kk _ _ _ e3 h2 l2) (fun h => absurd rfl h)
set_option maxRecDepth 100000 in
set_option maxHeartbeats 4000000 in
theorem lc_30 (F : lw_Fx G cL_law p R s m args c) (hX : va_X b Ls xs s s.heap) (hbl : b < s.heap.size) (hbA : ¬ pA G b) (hH0 : pH G [] s.heap) {M : sM} {J : pHp} {i : Nat} (hM : uG M) (hH : pH G (sHp sLay M ++ J) H) (hlo : ∀ q ∈ locs, pB G ≤ q.base) (hl : lv_has ls 7 (lw_lvi G b i)) (hi : i + 6 ≤ Ls) (hLs : Ls ≤ 3072) (hrc : cells ≤ R.cells) (hrs : slots ≤ R.slots)
    (kk : ∀ H1 locs1 M1, uG M1 → pH G (sHp sLay M1 ++ J) H1 → (∀ q ∈ locs1, pB G ≤ q.base) → W p l e R s m args below meth c H1 locs1 cells slots Q (F0 m 1564 ls [])) : W p l e R s m args below meth c H locs cells slots Q (F0 m 1301 ls []) := by
  obtain ⟨hx, hb, -⟩ := id F
  have a0 := lv_at hl 4 rfl
  have a1 := lv_at hl 3 rfl
  have a2 := lv_at hl 2 rfl
  have a4 := lv_at hl 0 rfl
  have hS := ph_S hH0 hH (Nat.zero_le _) hlo
  obtain ⟨v1, M1, M2, e1, e2, e3⟩ := uo_30 hM J (xs (i + 1))
  refine lv_aload_n hx hb dL_law_1301 rfl a1 ?_
  refine lw_push F hX hbl hbA hS a0 a4 (k := 1) (by omega) (by decide) hLs rfl dL_law_1302 dL_law_1303 dL_law_1305 dL_law_1306 dL_law_1307 ?_
  refine lw_callU F (K := 144) (o := 0) (as := [.int (xs (i + 1))]) (by decide +kernel) (pt_5 _ (List.mem_of_getElem? (i := 153) rfl)) (pt_5 _ (List.mem_of_getElem? (i := 154) rfl)) (pt_5 _ (List.mem_of_getElem? (i := 152) rfl)) e1 rfl (c1 := sLay[0]) rfl rfl (by decide) hH hlo hl (Nat.le_of_ble_eq_true rfl) dL_law_1308 hrc hrs fun H1 locs1 h1 l1 => ?_
  have hS1 := ph_S hH0 h1 (Nat.zero_le _) l1
  refine lv_pop hx hb dL_law_1311 rfl ?_
  refine lv_aload_n hx hb dL_law_1312 rfl a2 ?_
  refine lw_push F hX hbl hbA hS1 a0 a4 (k := 1) (by omega) (by decide) hLs rfl dL_law_1313 dL_law_1314 dL_law_1316 dL_law_1317 dL_law_1318 ?_
  refine lw_callU F (K := 267) (o := 91) (as := [.int (xs (i + 1))]) (by decide +kernel) (pt_9 _ (List.mem_of_getElem? (i := 17) rfl)) (pt_9 _ (List.mem_of_getElem? (i := 18) rfl)) (pt_9 _ (List.mem_of_getElem? (i := 16) rfl)) e2 rfl (c1 := sLay[91]) rfl rfl (by decide) h1 l1 hl (Nat.le_of_ble_eq_true rfl) dL_law_1319 hrc hrs fun H2 locs2 h2 l2 => ?_
  refine lv_pop hx hb dL_law_1322 rfl ?_
  exact lv_goto hx hb dL_law_1323 (tgt := 1564) rfl (kk _ _ _ e3 h2 l2)
set_option maxRecDepth 100000 in
set_option maxHeartbeats 4000000 in
theorem lc_31 (F : lw_Fx G cL_law p R s m args c) (hX : va_X b Ls xs s s.heap) (hbl : b < s.heap.size) (hbA : ¬ pA G b) (hH0 : pH G [] s.heap) {M : sM} {J : pHp} {i : Nat} (hM : uG M) (hH : pH G (sHp sLay M ++ J) H) (hlo : ∀ q ∈ locs, pB G ≤ q.base) (hl : lv_has ls 7 (lw_lvi G b i)) (hi : i + 6 ≤ Ls) (hLs : Ls ≤ 3072) (hrc : cells ≤ R.cells) (hrs : slots ≤ R.slots)
    (kk : ∀ H1 locs1 M1, uG M1 → pH G (sHp sLay M1 ++ J) H1 → (∀ q ∈ locs1, pB G ≤ q.base) → W p l e R s m args below meth c H1 locs1 cells slots Q (F0 m 1564 ls [])) : W p l e R s m args below meth c H locs cells slots Q (F0 m 1326 ls []) := by
  obtain ⟨hx, hb, -⟩ := id F
  have a0 := lv_at hl 4 rfl
  have a1 := lv_at hl 3 rfl
  have a2 := lv_at hl 2 rfl
  have a4 := lv_at hl 0 rfl
  have hS := ph_S hH0 hH (Nat.zero_le _) hlo
  obtain ⟨v1, M1, v2, M2, e1, e2, e3⟩ := uo_31 hM J (xs (i + 1))
  refine lv_aload_n hx hb dL_law_1326 rfl a1 ?_
  refine lw_push F hX hbl hbA hS a0 a4 (k := 1) (by omega) (by decide) hLs rfl dL_law_1327 dL_law_1328 dL_law_1330 dL_law_1331 dL_law_1332 ?_
  refine lw_callU F (K := 146) (o := 0) (as := [.int (xs (i + 1))]) (by decide +kernel) (pt_5 _ (List.mem_of_getElem? (i := 161) rfl)) (pt_5 _ (List.mem_of_getElem? (i := 162) rfl)) (pt_5 _ (List.mem_of_getElem? (i := 160) rfl)) e1 rfl (c1 := sLay[0]) rfl rfl (by decide) hH hlo hl (Nat.le_of_ble_eq_true rfl) dL_law_1333 hrc hrs fun H1 locs1 h1 l1 => ?_
  have hS1 := ph_S hH0 h1 (Nat.zero_le _) l1
  refine lv_pop hx hb dL_law_1336 rfl ?_
  refine lv_aload_n hx hb dL_law_1337 rfl a2 ?_
  refine lw_push F hX hbl hbA hS1 a0 a4 (k := 1) (by omega) (by decide) hLs rfl dL_law_1338 dL_law_1339 dL_law_1341 dL_law_1342 dL_law_1343 ?_
  refine lw_callU F (K := 268) (o := 91) (as := [.int (xs (i + 1))]) (by decide +kernel) (pt_9 _ (List.mem_of_getElem? (i := 21) rfl)) (pt_9 _ (List.mem_of_getElem? (i := 22) rfl)) (pt_9 _ (List.mem_of_getElem? (i := 20) rfl)) e2 rfl (c1 := sLay[91]) rfl rfl (by decide) h1 l1 hl (Nat.le_of_ble_eq_true rfl) dL_law_1344 hrc hrs fun H2 locs2 h2 l2 => ?_
  refine lv_pop hx hb dL_law_1347 rfl ?_
  exact lv_goto hx hb dL_law_1348 (tgt := 1564) rfl (kk _ _ _ e3 h2 l2)
set_option maxRecDepth 100000 in
set_option maxHeartbeats 4000000 in
theorem lc_32 (F : lw_Fx G cL_law p R s m args c) (hX : va_X b Ls xs s s.heap) (hbl : b < s.heap.size) (hbA : ¬ pA G b) (hH0 : pH G [] s.heap) {M : sM} {J : pHp} {i : Nat} (hM : uG M) (hH : pH G (sHp sLay M ++ J) H) (hlo : ∀ q ∈ locs, pB G ≤ q.base) (hl : lv_has ls 7 (lw_lvi G b i)) (hi : i + 6 ≤ Ls) (hLs : Ls ≤ 3072) (hrc : cells ≤ R.cells) (hrs : slots ≤ R.slots)
    (kk : ∀ H1 locs1 M1, uG M1 → pH G (sHp sLay M1 ++ J) H1 → (∀ q ∈ locs1, pB G ≤ q.base) → W p l e R s m args below meth c H1 locs1 cells slots Q (F0 m 1564 ls [])) : W p l e R s m args below meth c H locs cells slots Q (F0 m 1351 ls []) := by
  obtain ⟨hx, hb, -⟩ := id F
  have a0 := lv_at hl 4 rfl
  have a1 := lv_at hl 3 rfl
  have a2 := lv_at hl 2 rfl
  have a4 := lv_at hl 0 rfl
  have hS := ph_S hH0 hH (Nat.zero_le _) hlo
  obtain ⟨v1, M1, v2, M2, e1, e2, e3⟩ := uo_32 hM J 
  refine lv_aload_n hx hb dL_law_1351 rfl a1 ?_
  refine lw_callU F (K := 147) (o := 0) (as := []) (by decide +kernel) (pt_5 _ (List.mem_of_getElem? (i := 165) rfl)) (pt_5 _ (List.mem_of_getElem? (i := 166) rfl)) (pt_5 _ (List.mem_of_getElem? (i := 164) rfl)) e1 rfl (c1 := sLay[0]) rfl rfl (by decide) hH hlo hl (Nat.le_of_ble_eq_true rfl) dL_law_1352 hrc hrs fun H1 locs1 h1 l1 => ?_
  have hS1 := ph_S hH0 h1 (Nat.zero_le _) l1
  refine lv_pop hx hb dL_law_1355 rfl ?_
  refine lv_aload_n hx hb dL_law_1356 rfl a2 ?_
  refine lw_callU F (K := 269) (o := 91) (as := []) (by decide +kernel) (pt_9 _ (List.mem_of_getElem? (i := 25) rfl)) (pt_9 _ (List.mem_of_getElem? (i := 26) rfl)) (pt_9 _ (List.mem_of_getElem? (i := 24) rfl)) e2 rfl (c1 := sLay[91]) rfl rfl (by decide) h1 l1 hl (Nat.le_of_ble_eq_true rfl) dL_law_1357 hrc hrs fun H2 locs2 h2 l2 => ?_
  refine lv_pop hx hb dL_law_1360 rfl ?_
  exact lv_goto hx hb dL_law_1361 (tgt := 1564) rfl (kk _ _ _ e3 h2 l2)
set_option maxRecDepth 100000 in
set_option maxHeartbeats 4000000 in
theorem lc_33 (F : lw_Fx G cL_law p R s m args c) (hX : va_X b Ls xs s s.heap) (hbl : b < s.heap.size) (hbA : ¬ pA G b) (hH0 : pH G [] s.heap) {M : sM} {J : pHp} {i : Nat} (hM : uG M) (hH : pH G (sHp sLay M ++ J) H) (hlo : ∀ q ∈ locs, pB G ≤ q.base) (hl : lv_has ls 7 (lw_lvi G b i)) (hi : i + 6 ≤ Ls) (hLs : Ls ≤ 3072) (hrc : cells ≤ R.cells) (hrs : slots ≤ R.slots)
    (kk : ∀ H1 locs1 M1, uG M1 → pH G (sHp sLay M1 ++ J) H1 → (∀ q ∈ locs1, pB G ≤ q.base) → W p l e R s m args below meth c H1 locs1 cells slots Q (F0 m 1564 ls [])) : W p l e R s m args below meth c H locs cells slots Q (F0 m 1364 ls []) := by
  obtain ⟨hx, hb, -⟩ := id F
  have a0 := lv_at hl 4 rfl
  have a1 := lv_at hl 3 rfl
  have a2 := lv_at hl 2 rfl
  have a4 := lv_at hl 0 rfl
  have hS := ph_S hH0 hH (Nat.zero_le _) hlo
  obtain ⟨v1, M1, v2, M2, e1, e2, e3⟩ := uo_33 hM J (xs (i + 1)) (xs (i + 2))
  refine lv_aload_n hx hb dL_law_1364 rfl a1 ?_
  refine lw_push F hX hbl hbA hS a0 a4 (k := 1) (by omega) (by decide) hLs rfl dL_law_1365 dL_law_1366 dL_law_1368 dL_law_1369 dL_law_1370 ?_
  refine lw_push F hX hbl hbA hS a0 a4 (k := 2) (by omega) (by decide) hLs rfl dL_law_1371 dL_law_1372 dL_law_1374 dL_law_1375 dL_law_1376 ?_
  refine lw_callU F (K := 153) (o := 0) (as := [.int (xs (i + 1)), .int (xs (i + 2))]) (by decide +kernel) (pt_5 _ (List.mem_of_getElem? (i := 191) rfl)) (pt_5 _ (List.mem_of_getElem? (i := 192) rfl)) (pt_5 _ (List.mem_of_getElem? (i := 190) rfl)) e1 rfl (c1 := sLay[0]) rfl rfl (by decide) hH hlo hl (Nat.le_of_ble_eq_true rfl) dL_law_1377 hrc hrs fun H1 locs1 h1 l1 => ?_
  have hS1 := ph_S hH0 h1 (Nat.zero_le _) l1
  refine lv_pop hx hb dL_law_1380 rfl ?_
  refine lv_aload_n hx hb dL_law_1381 rfl a2 ?_
  refine lw_push F hX hbl hbA hS1 a0 a4 (k := 1) (by omega) (by decide) hLs rfl dL_law_1382 dL_law_1383 dL_law_1385 dL_law_1386 dL_law_1387 ?_
  refine lw_push F hX hbl hbA hS1 a0 a4 (k := 2) (by omega) (by decide) hLs rfl dL_law_1388 dL_law_1389 dL_law_1391 dL_law_1392 dL_law_1393 ?_
  refine lw_callU F (K := 274) (o := 91) (as := [.int (xs (i + 1)), .int (xs (i + 2))]) (by decide +kernel) (pt_9 _ (List.mem_of_getElem? (i := 45) rfl)) (pt_9 _ (List.mem_of_getElem? (i := 46) rfl)) (pt_9 _ (List.mem_of_getElem? (i := 44) rfl)) e2 rfl (c1 := sLay[91]) rfl rfl (by decide) h1 l1 hl (Nat.le_of_ble_eq_true rfl) dL_law_1394 hrc hrs fun H2 locs2 h2 l2 => ?_
  refine lv_pop hx hb dL_law_1397 rfl ?_
  exact lv_goto hx hb dL_law_1398 (tgt := 1564) rfl (kk _ _ _ e3 h2 l2)
set_option maxRecDepth 100000 in
set_option maxHeartbeats 4000000 in
theorem lc_34 (F : lw_Fx G cL_law p R s m args c) (hX : va_X b Ls xs s s.heap) (hbl : b < s.heap.size) (hbA : ¬ pA G b) (hH0 : pH G [] s.heap) {M : sM} {J : pHp} {i : Nat} (hM : uG M) (hH : pH G (sHp sLay M ++ J) H) (hlo : ∀ q ∈ locs, pB G ≤ q.base) (hl : lv_has ls 7 (lw_lvi G b i)) (hi : i + 6 ≤ Ls) (hLs : Ls ≤ 3072) (hrc : cells ≤ R.cells) (hrs : slots ≤ R.slots)
    (kk : ∀ H1 locs1 M1, uG M1 → pH G (sHp sLay M1 ++ J) H1 → (∀ q ∈ locs1, pB G ≤ q.base) → W p l e R s m args below meth c H1 locs1 cells slots Q (F0 m 1564 ls [])) : W p l e R s m args below meth c H locs cells slots Q (F0 m 1401 ls []) := by
  obtain ⟨hx, hb, -⟩ := id F
  have a0 := lv_at hl 4 rfl
  have a1 := lv_at hl 3 rfl
  have a2 := lv_at hl 2 rfl
  have a4 := lv_at hl 0 rfl
  have hS := ph_S hH0 hH (Nat.zero_le _) hlo
  obtain ⟨v1, M1, v2, M2, e1, e2, e3⟩ := uo_34 hM J (xs (i + 1))
  refine lv_aload_n hx hb dL_law_1401 rfl a1 ?_
  refine lw_push F hX hbl hbA hS a0 a4 (k := 1) (by omega) (by decide) hLs rfl dL_law_1402 dL_law_1403 dL_law_1405 dL_law_1406 dL_law_1407 ?_
  refine lw_callU F (K := 155) (o := 0) (as := [.int (xs (i + 1))]) (by decide +kernel) (pt_5 _ (List.mem_of_getElem? (i := 199) rfl)) (pt_5 _ (List.mem_of_getElem? (i := 200) rfl)) (pt_5 _ (List.mem_of_getElem? (i := 198) rfl)) e1 rfl (c1 := sLay[0]) rfl rfl (by decide) hH hlo hl (Nat.le_of_ble_eq_true rfl) dL_law_1408 hrc hrs fun H1 locs1 h1 l1 => ?_
  have hS1 := ph_S hH0 h1 (Nat.zero_le _) l1
  refine lv_pop hx hb dL_law_1411 rfl ?_
  refine lv_aload_n hx hb dL_law_1412 rfl a2 ?_
  refine lw_push F hX hbl hbA hS1 a0 a4 (k := 1) (by omega) (by decide) hLs rfl dL_law_1413 dL_law_1414 dL_law_1416 dL_law_1417 dL_law_1418 ?_
  refine lw_callU F (K := 275) (o := 91) (as := [.int (xs (i + 1))]) (by decide +kernel) (pt_9 _ (List.mem_of_getElem? (i := 49) rfl)) (pt_9 _ (List.mem_of_getElem? (i := 50) rfl)) (pt_9 _ (List.mem_of_getElem? (i := 48) rfl)) e2 rfl (c1 := sLay[91]) rfl rfl (by decide) h1 l1 hl (Nat.le_of_ble_eq_true rfl) dL_law_1419 hrc hrs fun H2 locs2 h2 l2 => ?_
  refine lv_pop hx hb dL_law_1422 rfl ?_
  exact lv_goto hx hb dL_law_1423 (tgt := 1564) rfl (kk _ _ _ e3 h2 l2)
set_option maxRecDepth 100000 in
set_option maxHeartbeats 4000000 in
theorem lc_35 (F : lw_Fx G cL_law p R s m args c) (hX : va_X b Ls xs s s.heap) (hbl : b < s.heap.size) (hbA : ¬ pA G b) (hH0 : pH G [] s.heap) {M : sM} {J : pHp} {i : Nat} (hM : uG M) (hH : pH G (sHp sLay M ++ J) H) (hlo : ∀ q ∈ locs, pB G ≤ q.base) (hl : lv_has ls 7 (lw_lvi G b i)) (hi : i + 6 ≤ Ls) (hLs : Ls ≤ 3072) (hrc : cells ≤ R.cells) (hrs : slots ≤ R.slots)
    (kk : ∀ H1 locs1 M1, uG M1 → pH G (sHp sLay M1 ++ J) H1 → (∀ q ∈ locs1, pB G ≤ q.base) → W p l e R s m args below meth c H1 locs1 cells slots Q (F0 m 1564 ls [])) : W p l e R s m args below meth c H locs cells slots Q (F0 m 1426 ls []) := by
  obtain ⟨hx, hb, -⟩ := id F
  have a0 := lv_at hl 4 rfl
  have a1 := lv_at hl 3 rfl
  have a2 := lv_at hl 2 rfl
  have a4 := lv_at hl 0 rfl
  have hS := ph_S hH0 hH (Nat.zero_le _) hlo
  obtain ⟨v1, M1, v2, M2, e1, e2, e3⟩ := uo_35 hM J (xs (i + 1))
  refine lv_aload_n hx hb dL_law_1426 rfl a1 ?_
  refine lw_push F hX hbl hbA hS a0 a4 (k := 1) (by omega) (by decide) hLs rfl dL_law_1427 dL_law_1428 dL_law_1430 dL_law_1431 dL_law_1432 ?_
  refine lw_callU F (K := 156) (o := 0) (as := [.int (xs (i + 1))]) (by decide +kernel) (pt_5 _ (List.mem_of_getElem? (i := 203) rfl)) (pt_5 _ (List.mem_of_getElem? (i := 204) rfl)) (pt_5 _ (List.mem_of_getElem? (i := 202) rfl)) e1 rfl (c1 := sLay[0]) rfl rfl (by decide) hH hlo hl (Nat.le_of_ble_eq_true rfl) dL_law_1433 hrc hrs fun H1 locs1 h1 l1 => ?_
  have hS1 := ph_S hH0 h1 (Nat.zero_le _) l1
  refine lv_pop hx hb dL_law_1436 rfl ?_
  refine lv_aload_n hx hb dL_law_1437 rfl a2 ?_
  refine lw_push F hX hbl hbA hS1 a0 a4 (k := 1) (by omega) (by decide) hLs rfl dL_law_1438 dL_law_1439 dL_law_1441 dL_law_1442 dL_law_1443 ?_
  refine lw_callU F (K := 276) (o := 91) (as := [.int (xs (i + 1))]) (by decide +kernel) (pt_9 _ (List.mem_of_getElem? (i := 53) rfl)) (pt_9 _ (List.mem_of_getElem? (i := 54) rfl)) (pt_9 _ (List.mem_of_getElem? (i := 52) rfl)) e2 rfl (c1 := sLay[91]) rfl rfl (by decide) h1 l1 hl (Nat.le_of_ble_eq_true rfl) dL_law_1444 hrc hrs fun H2 locs2 h2 l2 => ?_
  refine lv_pop hx hb dL_law_1447 rfl ?_
  exact lv_goto hx hb dL_law_1448 (tgt := 1564) rfl (kk _ _ _ e3 h2 l2)
set_option maxRecDepth 100000 in
set_option maxHeartbeats 4000000 in
theorem lc_36 (F : lw_Fx G cL_law p R s m args c) (hX : va_X b Ls xs s s.heap) (hbl : b < s.heap.size) (hbA : ¬ pA G b) (hH0 : pH G [] s.heap) {M : sM} {J : pHp} {i : Nat} (hM : uG M) (hH : pH G (sHp sLay M ++ J) H) (hlo : ∀ q ∈ locs, pB G ≤ q.base) (hl : lv_has ls 7 (lw_lvi G b i)) (hi : i + 6 ≤ Ls) (hLs : Ls ≤ 3072) (hrc : cells ≤ R.cells) (hrs : slots ≤ R.slots)
    (kk : ∀ H1 locs1 M1, uG M1 → pH G (sHp sLay M1 ++ J) H1 → (∀ q ∈ locs1, pB G ≤ q.base) → W p l e R s m args below meth c H1 locs1 cells slots Q (F0 m 1564 ls [])) : W p l e R s m args below meth c H locs cells slots Q (F0 m 1451 ls []) := by
  obtain ⟨hx, hb, -⟩ := id F
  have a0 := lv_at hl 4 rfl
  have a1 := lv_at hl 3 rfl
  have a2 := lv_at hl 2 rfl
  have a4 := lv_at hl 0 rfl
  have hS := ph_S hH0 hH (Nat.zero_le _) hlo
  obtain ⟨v1, M1, v2, M2, e1, e2, e3⟩ := uo_36 hM J (xs (i + 1)) (xs (i + 2)) (xs (i + 3))
  refine lv_aload_n hx hb dL_law_1451 rfl a1 ?_
  refine lw_push F hX hbl hbA hS a0 a4 (k := 1) (by omega) (by decide) hLs rfl dL_law_1452 dL_law_1453 dL_law_1455 dL_law_1456 dL_law_1457 ?_
  refine lw_push F hX hbl hbA hS a0 a4 (k := 2) (by omega) (by decide) hLs rfl dL_law_1458 dL_law_1459 dL_law_1461 dL_law_1462 dL_law_1463 ?_
  refine lw_push F hX hbl hbA hS a0 a4 (k := 3) (by omega) (by decide) hLs rfl dL_law_1464 dL_law_1465 dL_law_1467 dL_law_1468 dL_law_1469 ?_
  refine lw_callU F (K := 158) (o := 0) (as := [.int (xs (i + 1)), .int (xs (i + 2)), .int (xs (i + 3))]) (by decide +kernel) (pt_5 _ (List.mem_of_getElem? (i := 212) rfl)) (pt_5 _ (List.mem_of_getElem? (i := 213) rfl)) (pt_5 _ (List.mem_of_getElem? (i := 211) rfl)) e1 rfl (c1 := sLay[0]) rfl rfl (by decide) hH hlo hl (Nat.le_of_ble_eq_true rfl) dL_law_1470 hrc hrs fun H1 locs1 h1 l1 => ?_
  have hS1 := ph_S hH0 h1 (Nat.zero_le _) l1
  refine lv_pop hx hb dL_law_1473 rfl ?_
  refine lv_aload_n hx hb dL_law_1474 rfl a2 ?_
  refine lw_push F hX hbl hbA hS1 a0 a4 (k := 1) (by omega) (by decide) hLs rfl dL_law_1475 dL_law_1476 dL_law_1478 dL_law_1479 dL_law_1480 ?_
  refine lw_push F hX hbl hbA hS1 a0 a4 (k := 2) (by omega) (by decide) hLs rfl dL_law_1481 dL_law_1482 dL_law_1484 dL_law_1485 dL_law_1486 ?_
  refine lw_push F hX hbl hbA hS1 a0 a4 (k := 3) (by omega) (by decide) hLs rfl dL_law_1487 dL_law_1488 dL_law_1490 dL_law_1491 dL_law_1492 ?_
  refine lw_callU F (K := 277) (o := 91) (as := [.int (xs (i + 1)), .int (xs (i + 2)), .int (xs (i + 3))]) (by decide +kernel) (pt_9 _ (List.mem_of_getElem? (i := 57) rfl)) (pt_9 _ (List.mem_of_getElem? (i := 58) rfl)) (pt_9 _ (List.mem_of_getElem? (i := 56) rfl)) e2 rfl (c1 := sLay[91]) rfl rfl (by decide) h1 l1 hl (Nat.le_of_ble_eq_true rfl) dL_law_1493 hrc hrs fun H2 locs2 h2 l2 => ?_
  refine lv_pop hx hb dL_law_1496 rfl ?_
  exact lv_goto hx hb dL_law_1497 (tgt := 1564) rfl (kk _ _ _ e3 h2 l2)
set_option maxRecDepth 100000 in
set_option maxHeartbeats 4000000 in
theorem lc_37 (F : lw_Fx G cL_law p R s m args c) (hX : va_X b Ls xs s s.heap) (hbl : b < s.heap.size) (hbA : ¬ pA G b) (hH0 : pH G [] s.heap) {M : sM} {J : pHp} {i : Nat} (hM : uG M) (hH : pH G (sHp sLay M ++ J) H) (hlo : ∀ q ∈ locs, pB G ≤ q.base) (hl : lv_has ls 7 (lw_lvi G b i)) (hi : i + 6 ≤ Ls) (hLs : Ls ≤ 3072) (hrc : cells ≤ R.cells) (hrs : slots ≤ R.slots)
    (kk : ∀ H1 locs1 M1, uG M1 → pH G (sHp sLay M1 ++ J) H1 → (∀ q ∈ locs1, pB G ≤ q.base) → W p l e R s m args below meth c H1 locs1 cells slots Q (F0 m 1564 ls [])) : W p l e R s m args below meth c H locs cells slots Q (F0 m 1500 ls []) := by
  obtain ⟨hx, hb, -⟩ := id F
  have a0 := lv_at hl 4 rfl
  have a1 := lv_at hl 3 rfl
  have a2 := lv_at hl 2 rfl
  have a4 := lv_at hl 0 rfl
  have hS := ph_S hH0 hH (Nat.zero_le _) hlo
  obtain ⟨v1, M1, v2, M2, e1, e2, e3⟩ := uo_37 hM J 
  refine lv_aload_n hx hb dL_law_1500 rfl a1 ?_
  refine lw_callU F (K := 160) (o := 0) (as := []) (by decide +kernel) (pt_5 _ (List.mem_of_getElem? (i := 220) rfl)) (pt_5 _ (List.mem_of_getElem? (i := 221) rfl)) (pt_5 _ (List.mem_of_getElem? (i := 219) rfl)) e1 rfl (c1 := sLay[0]) rfl rfl (by decide) hH hlo hl (Nat.le_of_ble_eq_true rfl) dL_law_1501 hrc hrs fun H1 locs1 h1 l1 => ?_
  have hS1 := ph_S hH0 h1 (Nat.zero_le _) l1
  refine lv_pop hx hb dL_law_1504 rfl ?_
  refine lv_aload_n hx hb dL_law_1505 rfl a2 ?_
  refine lw_callU F (K := 278) (o := 91) (as := []) (by decide +kernel) (pt_9 _ (List.mem_of_getElem? (i := 61) rfl)) (pt_9 _ (List.mem_of_getElem? (i := 62) rfl)) (pt_9 _ (List.mem_of_getElem? (i := 60) rfl)) e2 rfl (c1 := sLay[91]) rfl rfl (by decide) h1 l1 hl (Nat.le_of_ble_eq_true rfl) dL_law_1506 hrc hrs fun H2 locs2 h2 l2 => ?_
  refine lv_pop hx hb dL_law_1509 rfl ?_
  exact lv_goto hx hb dL_law_1510 (tgt := 1564) rfl (kk _ _ _ e3 h2 l2)
set_option maxRecDepth 100000 in
set_option maxHeartbeats 4000000 in
theorem lc_38 (F : lw_Fx G cL_law p R s m args c) (hX : va_X b Ls xs s s.heap) (hbl : b < s.heap.size) (hbA : ¬ pA G b) (hH0 : pH G [] s.heap) {M : sM} {J : pHp} {i : Nat} (hM : uG M) (hH : pH G (sHp sLay M ++ J) H) (hlo : ∀ q ∈ locs, pB G ≤ q.base) (hl : lv_has ls 7 (lw_lvi G b i)) (hi : i + 6 ≤ Ls) (hLs : Ls ≤ 3072) (hrc : cells ≤ R.cells) (hrs : slots ≤ R.slots)
    (kk : ∀ H1 locs1 M1, uG M1 → pH G (sHp sLay M1 ++ J) H1 → (∀ q ∈ locs1, pB G ≤ q.base) → W p l e R s m args below meth c H1 locs1 cells slots Q (F0 m 1564 ls [])) : W p l e R s m args below meth c H locs cells slots Q (F0 m 1513 ls []) := by
  obtain ⟨hx, hb, -⟩ := id F
  have a0 := lv_at hl 4 rfl
  have a1 := lv_at hl 3 rfl
  have a2 := lv_at hl 2 rfl
  have a4 := lv_at hl 0 rfl
  have hS := ph_S hH0 hH (Nat.zero_le _) hlo
  obtain ⟨v1, M1, v2, M2, e1, e2, e3⟩ := uo_38 hM J 
  refine lv_aload_n hx hb dL_law_1513 rfl a1 ?_
  refine lw_callU F (K := 161) (o := 0) (as := []) (by decide +kernel) (pt_5 _ (List.mem_of_getElem? (i := 224) rfl)) (pt_5 _ (List.mem_of_getElem? (i := 225) rfl)) (pt_5 _ (List.mem_of_getElem? (i := 223) rfl)) e1 rfl (c1 := sLay[0]) rfl rfl (by decide) hH hlo hl (Nat.le_of_ble_eq_true rfl) dL_law_1514 hrc hrs fun H1 locs1 h1 l1 => ?_
  have hS1 := ph_S hH0 h1 (Nat.zero_le _) l1
  refine lv_pop hx hb dL_law_1517 rfl ?_
  refine lv_aload_n hx hb dL_law_1518 rfl a2 ?_
  refine lw_callU F (K := 279) (o := 91) (as := []) (by decide +kernel) (pt_9 _ (List.mem_of_getElem? (i := 65) rfl)) (pt_9 _ (List.mem_of_getElem? (i := 66) rfl)) (pt_9 _ (List.mem_of_getElem? (i := 64) rfl)) e2 rfl (c1 := sLay[91]) rfl rfl (by decide) h1 l1 hl (Nat.le_of_ble_eq_true rfl) dL_law_1519 hrc hrs fun H2 locs2 h2 l2 => ?_
  refine lv_pop hx hb dL_law_1522 rfl ?_
  exact lv_goto hx hb dL_law_1523 (tgt := 1564) rfl (kk _ _ _ e3 h2 l2)
set_option maxRecDepth 100000 in
set_option maxHeartbeats 4000000 in
theorem lc_39 (F : lw_Fx G cL_law p R s m args c) (hX : va_X b Ls xs s s.heap) (hbl : b < s.heap.size) (hbA : ¬ pA G b) (hH0 : pH G [] s.heap) {M : sM} {J : pHp} {i : Nat} (hM : uG M) (hH : pH G (sHp sLay M ++ J) H) (hlo : ∀ q ∈ locs, pB G ≤ q.base) (hl : lv_has ls 7 (lw_lvi G b i)) (hi : i + 6 ≤ Ls) (hLs : Ls ≤ 3072) (hrc : cells ≤ R.cells) (hrs : slots ≤ R.slots)
    (kk : ∀ H1 locs1 M1, uG M1 → pH G (sHp sLay M1 ++ J) H1 → (∀ q ∈ locs1, pB G ≤ q.base) → W p l e R s m args below meth c H1 locs1 cells slots Q (F0 m 1564 ls [])) : W p l e R s m args below meth c H locs cells slots Q (F0 m 1526 ls []) := by
  obtain ⟨hx, hb, -⟩ := id F
  have a0 := lv_at hl 4 rfl
  have a1 := lv_at hl 3 rfl
  have a2 := lv_at hl 2 rfl
  have a4 := lv_at hl 0 rfl
  have hS := ph_S hH0 hH (Nat.zero_le _) hlo
  obtain ⟨v1, M1, v2, M2, e1, e2, e3⟩ := uo_39 hM J 
  refine lv_aload_n hx hb dL_law_1526 rfl a1 ?_
  refine lw_callU F (K := 162) (o := 0) (as := []) (by decide +kernel) (pt_5 _ (List.mem_of_getElem? (i := 228) rfl)) (pt_5 _ (List.mem_of_getElem? (i := 229) rfl)) (pt_5 _ (List.mem_of_getElem? (i := 227) rfl)) e1 rfl (c1 := sLay[0]) rfl rfl (by decide) hH hlo hl (Nat.le_of_ble_eq_true rfl) dL_law_1527 hrc hrs fun H1 locs1 h1 l1 => ?_
  have hS1 := ph_S hH0 h1 (Nat.zero_le _) l1
  refine lv_pop hx hb dL_law_1530 rfl ?_
  refine lv_aload_n hx hb dL_law_1531 rfl a2 ?_
  refine lw_callU F (K := 280) (o := 91) (as := []) (by decide +kernel) (pt_9 _ (List.mem_of_getElem? (i := 69) rfl)) (pt_9 _ (List.mem_of_getElem? (i := 70) rfl)) (pt_9 _ (List.mem_of_getElem? (i := 68) rfl)) e2 rfl (c1 := sLay[91]) rfl rfl (by decide) h1 l1 hl (Nat.le_of_ble_eq_true rfl) dL_law_1532 hrc hrs fun H2 locs2 h2 l2 => ?_
  refine lv_pop hx hb dL_law_1535 rfl ?_
  exact lv_goto hx hb dL_law_1536 (tgt := 1564) rfl (kk _ _ _ e3 h2 l2)
set_option maxRecDepth 100000 in
set_option maxHeartbeats 4000000 in
theorem lc_40 (F : lw_Fx G cL_law p R s m args c) (hX : va_X b Ls xs s s.heap) (hbl : b < s.heap.size) (hbA : ¬ pA G b) (hH0 : pH G [] s.heap) {M : sM} {J : pHp} {i : Nat} (hM : uG M) (hH : pH G (sHp sLay M ++ J) H) (hlo : ∀ q ∈ locs, pB G ≤ q.base) (hl : lv_has ls 7 (lw_lvi G b i)) (hi : i + 6 ≤ Ls) (hLs : Ls ≤ 3072) (hrc : cells ≤ R.cells) (hrs : slots ≤ R.slots)
    (kk : ∀ H1 locs1 M1, uG M1 → pH G (sHp sLay M1 ++ J) H1 → (∀ q ∈ locs1, pB G ≤ q.base) → W p l e R s m args below meth c H1 locs1 cells slots Q (F0 m 1564 ls [])) : W p l e R s m args below meth c H locs cells slots Q (F0 m 1539 ls []) := by
  obtain ⟨hx, hb, -⟩ := id F
  have a0 := lv_at hl 4 rfl
  have a1 := lv_at hl 3 rfl
  have a2 := lv_at hl 2 rfl
  have a4 := lv_at hl 0 rfl
  have hS := ph_S hH0 hH (Nat.zero_le _) hlo
  obtain ⟨v1, M1, v2, M2, e1, e2, e3⟩ := uo_40 hM J (xs (i + 1))
  refine lv_aload_n hx hb dL_law_1539 rfl a1 ?_
  refine lw_push F hX hbl hbA hS a0 a4 (k := 1) (by omega) (by decide) hLs rfl dL_law_1540 dL_law_1541 dL_law_1543 dL_law_1544 dL_law_1545 ?_
  refine lw_callU F (K := 163) (o := 0) (as := [.int (xs (i + 1))]) (by decide +kernel) (pt_5 _ (List.mem_of_getElem? (i := 232) rfl)) (pt_5 _ (List.mem_of_getElem? (i := 233) rfl)) (pt_5 _ (List.mem_of_getElem? (i := 231) rfl)) e1 rfl (c1 := sLay[0]) rfl rfl (by decide) hH hlo hl (Nat.le_of_ble_eq_true rfl) dL_law_1546 hrc hrs fun H1 locs1 h1 l1 => ?_
  have hS1 := ph_S hH0 h1 (Nat.zero_le _) l1
  refine lv_pop hx hb dL_law_1549 rfl ?_
  refine lv_aload_n hx hb dL_law_1550 rfl a2 ?_
  refine lw_push F hX hbl hbA hS1 a0 a4 (k := 1) (by omega) (by decide) hLs rfl dL_law_1551 dL_law_1552 dL_law_1554 dL_law_1555 dL_law_1556 ?_
  refine lw_callU F (K := 281) (o := 91) (as := [.int (xs (i + 1))]) (by decide +kernel) (pt_9 _ (List.mem_of_getElem? (i := 73) rfl)) (pt_9 _ (List.mem_of_getElem? (i := 74) rfl)) (pt_9 _ (List.mem_of_getElem? (i := 72) rfl)) e2 rfl (c1 := sLay[91]) rfl rfl (by decide) h1 l1 hl (Nat.le_of_ble_eq_true rfl) dL_law_1557 hrc hrs fun H2 locs2 h2 l2 => ?_
  refine lv_pop hx hb dL_law_1560 rfl ?_
  exact lv_goto hx hb dL_law_1561 (tgt := 1564) rfl (kk _ _ _ e3 h2 l2)
end LWX
