section LWX
variable {p : Program} {l : Launch} {e : Env} {R : Room} {s : State} {m : MethodId} {args : Array Value} {below : List Frame} {meth : Method} {c : Code} {H : Heap} {locs : List Loc} {cells slots : Nat} {Q : State → Prop}
variable {ls : Array Slot} {G : pG} {b Ls : Nat} {xs : Nat → Int32}
theorem lk_csw {mc ms : Nat} (hRf : 302 ≤ R.frames) (hRl : 60700 ≤ R.locals) (hts : ∀ w ∈ lw_tbl, w.before args s = true) : vx_CSW R s args "UphillCartsLaw" 39 yL_look cL_look 5 (some .int) [(0, 10, 13, 13), (0, 10, 17, 15)] lk_W2 (pRm 301 mc ms) mc ms 4 := by
  refine ⟨⟨rfl, rfl, hRf, ?_, pay_in hts lk_good2, List.mem_cons_self⟩, hts _ (lk_good2 _ List.mem_cons_self).1, hts _ (pt_1 _ (List.mem_of_getElem? (i := 0) rfl)), ⟨by decide +kernel, by decide +kernel⟩, fun sig h => ?_, hts _ (pt_6 _ (List.mem_of_getElem? (i := 0) rfl)), hts _ (pt_6 _ (List.mem_of_getElem? (i := 1) rfl))⟩
  · show 8 + (5 + 11) + 200 * 301 ≤ R.locals
    omega
  · have h2 : (parseMethodDescriptor yL_look.desc).map (fun d => d.parameters.length) = some 4 := by decide +kernel
    rw [h] at h2
    exact (Option.some.inj h2).symm
set_option maxRecDepth 100000 in
set_option maxHeartbeats 4000000 in
theorem lc_4e (F : lw_Fx G cL_law p R s m args c) (hX : va_X b Ls xs s s.heap) (hbl : b < s.heap.size) (hbA : ¬ pA G b) (hH0 : pH G [] s.heap) {M : sM} {J : pHp} {i : Nat} {w : Int32} (hM : uG M) (hH : pH G (sHp sLay M ++ J) H) (hlo : ∀ q ∈ locs, pB G ≤ q.base) (hl : lv_has ls 7 (lw_lvi G b i)) (hi : i + 6 ≤ Ls) (hLs : Ls ≤ 3072) (hrc : cells ≤ R.cells) (hrs : slots ≤ R.slots)
    (kk : ∀ H1 locs1 ls1 M1, lv_has ls1 7 (lw_lvi G b i) → uG M1 → pH G (sHp sLay M1 ++ J) H1 → (∀ q ∈ locs1, pB G ≤ q.base) → W p l e R s m args below meth c H1 locs1 cells slots Q (F0 m 1564 ls1 [])) : W p l e R s m args below meth c H locs cells slots Q (F0 m 397 ls [.int w]) := by
  obtain ⟨hx, hb, -⟩ := id F
  obtain ⟨v, M1, e1, e3⟩ := uo_4 hM J (xs (i + 1)) (xs (i + 2))
  refine lv_istore hx hb dL_law_397 hl (by decide) rfl fun ls2 hl2 => ?_
  have b0 := lv_at hl2 5 rfl
  have b2 := lv_at hl2 3 rfl
  have b4 := lv_at hl2 1 rfl
  have hS0 := ph_S hH0 hH (Nat.zero_le _) hlo
  refine lv_aload_n hx hb dL_law_399 rfl b2 ?_
  refine lw_push F hX hbl hbA hS0 b0 b4 (k := 1) (by omega) (by decide) hLs rfl dL_law_400 dL_law_401 dL_law_403 dL_law_404 dL_law_405 ?_
  refine lw_push F hX hbl hbA hS0 b0 b4 (k := 2) (by omega) (by decide) hLs rfl dL_law_406 dL_law_407 dL_law_409 dL_law_410 dL_law_411 ?_
  refine lw_callU F (K := 203) (o := 91) (as := [.int (xs (i + 1)), .int (xs (i + 2))]) (by decide +kernel) (pt_7 _ (List.mem_of_getElem? (i := 232) rfl)) (pt_7 _ (List.mem_of_getElem? (i := 233) rfl)) (pt_7 _ (List.mem_of_getElem? (i := 231) rfl)) e1 rfl (c1 := sLay[91]) rfl rfl (by decide) hH hlo hl2 (Nat.le_of_ble_eq_true rfl) dL_law_412 hrc hrs fun H1 locs1 h1 l1 => ?_
  refine lv_istore hx hb dL_law_415 (x := v) hl2 (by decide) rfl fun ls3 hl3 => ?_
  refine lv_goto hx hb dL_law_417 (tgt := 1564) rfl ?_
  exact kk _ _ _ _ (lv_sub hl3 [2, 3, 4, 5, 6] rfl) e3 h1 l1
set_option maxRecDepth 100000 in
set_option maxHeartbeats 4000000 in
theorem lc_4 (F : lw_Fx G cL_law p R s m args c) (hX : va_X b Ls xs s s.heap) (hbl : b < s.heap.size) (hbA : ¬ pA G b) (hH0 : pH G [] s.heap) {M : sM} {J : pHp} {i : Nat} (hM : uG M) (hH : pH G (sHp sLay M ++ J) H) (hlo : ∀ q ∈ locs, pB G ≤ q.base) (hl : lv_has ls 7 (lw_lvi G b i)) (hi : i + 6 ≤ Ls) (hLs : Ls ≤ 3072) (hrc : cells ≤ R.cells) (hrs : slots ≤ R.slots)
    {sa sb : Nat} (hfl : l.stackTraces = false) (hXk : lk_X G sa sb s) (hRf : 302 ≤ R.frames) (hRl : 60700 ≤ R.locals) (hrc1 : cells + 1 ≤ R.cells) (hrs1 : slots + 6 ≤ R.slots)
    (kk : ∀ H1 locs1 cells1 slots1 ls1 M1 J1, lv_has ls1 7 (lw_lvi G b i) → uG M1 → pH G (sHp sLay M1 ++ J1) H1 → (∀ q ∈ locs1, pB G ≤ q.base) → cells1 ≤ cells + 1 → slots1 ≤ slots + 6 → W p l e R s m args below meth c H1 locs1 cells1 slots1 Q (F0 m 1564 ls1 [])) : W p l e R s m args below meth c H locs cells slots Q (F0 m 380 ls []) := by
  obtain ⟨hx, hb, hml, hown, hts, hK, hfr, hlc, hTab⟩ := id F
  have a0 := lv_at hl 4 rfl
  have a1 := lv_at hl 3 rfl
  have a3 := lv_at hl 1 rfl
  have a4 := lv_at hl 0 rfl
  have hS := ph_S hH0 hH (Nat.zero_le _) hlo
  have hq0 : (sHp sLay M ++ J)[0]? = some (sCell M 0 sLay[0]) := shj_at rfl
  have hq1 : (sHp sLay M ++ J)[131]? = some (sCell M 131 sLay[131]) := shj_at rfl
  refine lv_aload_n hx hb dL_law_380 rfl a1 ?_
  refine lw_push F hX hbl hbA hS a0 a4 (k := 1) (by omega) (by decide) hLs rfl dL_law_381 dL_law_382 dL_law_384 dL_law_385 dL_law_386 ?_
  refine lw_push F hX hbl hbA hS a0 a4 (k := 2) (by omega) (by decide) hLs rfl dL_law_387 dL_law_388 dL_law_390 dL_law_391 dL_law_392 ?_
  refine lv_aload_n hx hb dL_law_393 rfl a3 ?_
  rcases ulk hM J (xs (i + 1)) (xs (i + 2)) with hi0 | ⟨v, hv⟩ | ⟨hi1, hx1, o1, o2, o3, g1, g2, g3⟩
  · refine ps_call (G := G) (as := [.ref (pB G + 0), .int (xs (i + 1)), .int (xs (i + 2)), .ref (pB G + 131)]) (vx_runSW (As := [.ref (pB G + 0), .int (xs (i + 1)), .int (xs (i + 2)), .ref (pB G + 131)]) (rest := []) (nL := 7) ⟨hx, hb, hml, hown, hts⟩ (lk2_i hfl G hTab sa sb (xs (i + 1)) (xs (i + 2)) hq0 rfl hi0 (u_arg _)) (lk_csw hRf hRl hts) ⟨lk_blind, fun U hU hW => ⟨rfl, by rw [hU]; exact hH, hK.warm hW, hXk.warm hW⟩⟩ rfl rfl hl.1 rfl (lv_room (Nat.le_of_ble_eq_true rfl)) dL_law_394 ⟨hrc1, hrs1⟩) hlo fun H1 locs1 h1 l1 => ?_
    rw [List.append_assoc] at h1
    exact lc_4e (w := 1) F hX hbl hbA hH0 hM h1 l1 hl hi hLs hrc1 hrs1 fun H2 locs2 ls2 M2 k1 k2 k3 k4 => kk _ _ _ _ _ _ _ k1 k2 k3 k4 (Nat.le_refl _) (Nat.le_refl _)
  · refine ps_call (G := G) (as := [.ref (pB G + 0), .int (xs (i + 1)), .int (xs (i + 2)), .ref (pB G + 131)]) (vx_runSW (As := [.ref (pB G + 0), .int (xs (i + 1)), .int (xs (i + 2)), .ref (pB G + 131)]) (rest := []) (nL := 7) ⟨hx, hb, hml, hown, hts⟩ (lk2_r hfl G hTab sa sb (xs (i + 1)) (xs (i + 2)) hq0 rfl hv hq1 rfl rfl) (lk_csw hRf hRl hts) ⟨lk_blind, fun U hU hW => ⟨rfl, by rw [hU]; exact hH, hK.warm hW, hXk.warm hW⟩⟩ rfl rfl hl.1 rfl (lv_room (Nat.le_of_ble_eq_true rfl)) dL_law_394 ⟨hrc, hrs⟩) hlo fun H1 locs1 h1 l1 => ?_
    have hw : (sHp sLay M ++ J).set 131 ((sCell M 131 sLay[131]).1, (sCell M 131 sLay[131]).2.set 0 (.long v.toInt64)) = sHp sLay (sU M 131 0 v.toInt64.toInt) ++ J := by
      have h9 := shj_set (lay := sLay) (M := M) (J := J) (o := 131) (k := 0) (c := sLay[131]) (q := (1, 0)) (v := v.toInt64.toInt) rfl rfl
      have h8 : sE (sC (1, 0) v.toInt64.toInt) = .long v.toInt64 := congrArg Value.long (i64_of _)
      rw [h8] at h9
      exact h9
    rw [hw] at h1
    exact lc_4e (w := 0) F hX hbl hbA hH0 (ug_131 hM _) h1 l1 hl hi hLs hrc hrs fun H2 locs2 ls2 M2 k1 k2 k3 k4 => kk _ _ _ _ _ _ _ k1 k2 k3 k4 (Nat.le_succ _) (Nat.le_add_right _ _)
  · refine ps_call (G := G) (as := [.ref (pB G + 0), .int (xs (i + 1)), .int (xs (i + 2)), .ref (pB G + 131)]) (vx_runSW (As := [.ref (pB G + 0), .int (xs (i + 1)), .int (xs (i + 2)), .ref (pB G + 131)]) (rest := []) (nL := 7) ⟨hx, hb, hml, hown, hts⟩ (lk2_n hfl G hTab sa sb (xs (i + 1)) (xs (i + 2)) hq0 rfl hi1 (u_arg _) g1 g2 g3 hx1) (lk_csw hRf hRl hts) ⟨lk_blind, fun U hU hW => ⟨rfl, by rw [hU]; exact hH, hK.warm hW, hXk.warm hW⟩⟩ rfl rfl hl.1 rfl (lv_room (Nat.le_of_ble_eq_true rfl)) dL_law_394 ⟨hrc1, hrs1⟩) hlo fun H1 locs1 h1 l1 => ?_
    rw [List.append_assoc] at h1
    exact lc_4e (w := 2) F hX hbl hbA hH0 hM h1 l1 hl hi hLs hrc1 hrs1 fun H2 locs2 ls2 M2 k1 k2 k3 k4 => kk _ _ _ _ _ _ _ k1 k2 k3 k4 (Nat.le_refl _) (Nat.le_refl _)
end LWX
